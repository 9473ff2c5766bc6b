section
variable {h0 : Mem} {x : Nat → Int} {L b N : Nat} {s i t n : Int}
theorem m_fin {h1 h2 : Mem} {P m : Nat} {B : List Int} {e : Int} (p : PS h0 x L b h1 P) (es : f_X10_settle N 71 (iz 124) h1 = some h2) (p2 : PS h0 x L b h2 P) (k : STK h2 [] B e) (a38 : isAt x L P 38 = false) (a124 : isAt x L P 124 = false) : f_X10_takesE_17 N (m + 1) 71 (iz 0) h1 = some (iz 1, h2) := by
  have hx := p.2.2.2.2.1
  have en := m_next (N := N) p
  have hb := nx_bd (L := L) (P := P) hx
  have g38 := nx_at (L := L) (P := P) hx (c := 38) (by omega)
  have g124 := nx_at (L := L) (P := P) hx (c := 124) (by omega)
  have k1 : h2.2.1 71 32 = iz 0 := k.1
  rw [f_X10_takesE_17]
  simp (disch := omega) only [↓kmC p.1, ↓bq en, il0, il1, il2, il3, il4, il5, il6, il7, il8, il9, il10, il11, il12, il13, il14, il15, il16, il17, il18, il19, il20, il21, il22, il23, il24, il25, il26, il27, il28, il29, il30, il31, il32, il33, il36, il38, il39, il40, il41, il48, il50, il51, il57, il59, il60, il61, il62, il63, il70, il96, il99, il100, il101, il102, il103, il104, il105, il106, il107, il108, il109, il110, il111, il112, il115, il116, il120, il121, il124, il200, il240, il255, il288, il360, il420, il999, il1000, il114292, il152755, il402789, il435589, il463922, il533611, il631470, iz_eq, ↓reduceIte, g38, a38, g124, a124, Bool.false_eq_true, ↓bo es, ↓kmI p2.1, k1]
theorem m_bad {h1 h2 : Mem} {P m : Nat} {W B : List Int} {e c : Int} (p : PS h0 x L b h1 P) (es : f_X10_settle N 71 (iz 124) h1 = some h2) (p2 : PS h0 x L b h2 P) (k : STK h2 (c :: W) B e) (hW : W.length ≤ 120) (a38 : isAt x L P 38 = false) (a124 : isAt x L P 124 = false) (a41 : isAt x L P 41 = false) : f_X10_takesE_17 N (m + 1) 71 (iz 0) h1 = some (iz 0, h2) := by
  have hx := p.2.2.2.2.1
  have en := m_next (N := N) p
  have hb := nx_bd (L := L) (P := P) hx
  have g38 := nx_at (L := L) (P := P) hx (c := 38) (by omega)
  have g124 := nx_at (L := L) (P := P) hx (c := 124) (by omega)
  have g41 := nx_at (L := L) (P := P) hx (c := 41) (by omega)
  have k1 : h2.2.1 71 32 = iz ((W.length : Int) + 1) := k.1
  have c0 : ¬ ((W.length : Int) + 1 = 0) := by omega
  rw [f_X10_takesE_17]
  simp (disch := omega) only [↓kmC p.1, ↓bq en, il0, il1, il2, il3, il4, il5, il6, il7, il8, il9, il10, il11, il12, il13, il14, il15, il16, il17, il18, il19, il20, il21, il22, il23, il24, il25, il26, il27, il28, il29, il30, il31, il32, il33, il36, il38, il39, il40, il41, il48, il50, il51, il57, il59, il60, il61, il62, il63, il70, il96, il99, il100, il101, il102, il103, il104, il105, il106, il107, il108, il109, il110, il111, il112, il115, il116, il120, il121, il124, il200, il240, il255, il288, il360, il420, il999, il1000, il114292, il152755, il402789, il435589, il463922, il533611, il631470, iz_eq, ↓reduceIte, g38, a38, g124, a124, g41, a41, Bool.false_eq_true, ↓bo es, ↓kmI p2.1, k1, c0]
theorem m_close {h1 h2 : Mem} {P m : Nat} {W B : List Int} {e c : Int} {v : Nat} (hN : 200 ≤ N) (p : PS h0 x L b h1 P) (es : f_X10_settle N 71 (iz 124) h1 = some h2) (p2 : PS h0 x L b h2 P) (k : STK h2 (c :: W) ((v : Int) :: B) (e + 1)) (hl : W.length + B.length ≤ 119) (hv : v ≤ 1) (hW : ∀ c ∈ W, 0 ≤ c ∧ c ≤ 127) (a41 : isAt x L P 41 = true) : ∃ h', f_X10_takesE_17 N (m + 1) 71 (iz 0) h1 = f_X10_takesE_17 N m 71 (iz 0) h' ∧ PS h0 x L b h' (P + 1) ∧ STK h' (pushS W e v).1 ((pushS W e v).2.2 :: B) (pushS W e v).2.1 := by
  have hx := p.2.2.2.2.1
  have la := isAt_lt a41
  have en := m_next (N := N) p
  have ec : nxS x L P = 41 := by rw [nx_at hx (by omega)]; exact a41
  rw [ec] at en
  obtain ⟨k1, ⟨k2, k2'⟩, k3, ⟨k4, k4'⟩, k5⟩ := k
  have k1 : h2.2.1 71 32 = iz ((W.length : Int) + 1) := k1
  have k3 : h2.2.1 71 33 = iz ((B.length : Int) + 1) := k3
  have c0 : ¬ ((W.length : Int) + 1 = 0) := by omega
  have e1 : (W.length : Int) + 1 - 1 = W.length := by omega
  have e2 : (B.length : Int) + 1 - 1 = B.length := by omega
  have e3 : e + 1 - 1 = e := by omega
  have q1 := p2.fd_ (j := 32) (v := iz (W.length : Int)) (by decide)
  have q2 := q1.fd_ (j := 34) (v := iz e) (by decide)
  have q3 := q2.fd_ (j := 33) (v := iz (B.length : Int)) (by decide)
  have q4 := q3.at_ (P' := P + 1) (by omega)
  have z1 : (fd h2 32 (iz (W.length : Int))).2.1 71 34 = iz (e + 1) := by rw [fd_at, if_neg (by decide)]; exact k5
  have z2 : (fd (fd h2 32 (iz (W.length : Int))) 34 (iz e)).2.1 71 33 = iz ((B.length : Int) + 1) := by rw [fd_at, if_neg (by decide), fd_at, if_neg (by decide)]; exact k3
  generalize hh3 : fd (fd (fd (fd h2 32 (iz (W.length : Int))) 34 (iz e)) 33 (iz (B.length : Int))) 19 (iz ((P + 1 : Nat) : Int)) = h3 at q4
  have w33 : h3.2.1 71 33 = iz (B.length : Int) := by rw [← hh3, fd_at, if_neg (by decide), fd_at, if_pos rfl]
  have w89 : h3.2.1 89 B.length = iz (v : Int) := by rw [← hh3, fd_ne (by decide), fd_ne (by decide), fd_ne (by decide), fd_ne (by decide)]; exact k4
  have ks : STK h3 W B e := by
    refine ⟨?_, ?_, w33, ?_, ?_⟩
    · rw [← hh3, fd_at, if_neg (by decide), fd_at, if_neg (by decide), fd_at, if_neg (by decide), fd_at, if_pos rfl]
    · rw [← hh3, fd_ne (by decide), fd_ne (by decide), fd_ne (by decide), fd_ne (by decide)]; exact k2'
    · rw [← hh3, fd_ne (by decide), fd_ne (by decide), fd_ne (by decide), fd_ne (by decide)]; exact k4'
    · rw [← hh3, fd_at, if_neg (by decide), fd_at, if_neg (by decide), fd_at, if_pos rfl]
  obtain ⟨h', ep, p4, k4⟩ := m_push (N := N) (v := (v : Int)) (by omega) (by omega) hN hW (by omega) q4 ks
  refine ⟨h', ?_, p4, k4⟩
  rw [f_X10_takesE_17]
  simp (disch := omega) only [↓kmC p.1, ↓bq en, il0, il1, il2, il3, il4, il5, il6, il7, il8, il9, il10, il11, il12, il13, il14, il15, il16, il17, il18, il19, il20, il21, il22, il23, il24, il25, il26, il27, il28, il29, il30, il31, il32, il33, il36, il38, il39, il40, il41, il48, il50, il51, il57, il59, il60, il61, il62, il63, il70, il96, il99, il100, il101, il102, il103, il104, il105, il106, il107, il108, il109, il110, il111, il112, il115, il116, il120, il121, il124, il200, il240, il255, il288, il360, il420, il999, il1000, il114292, il152755, il402789, il435589, il463922, il533611, il631470, iz_eq, ↓reduceIte, show ¬ ((41 : Int) = 38) by decide, show ¬ ((41 : Int) = 124) by decide, ↓bo es, ↓kmI p2.1, k1, c0, iz_sub, e1, ↓ksI p2.1, ↓kmI q1.1, z1, e3, ↓ksI q1.1, ↓kmI q2.1, z2, e2, ↓ksI q2.1, ↓kpP q3, iz_add, ↓ksI q3.1]
  rw [show ((P : Int) + 1) = ((P + 1 : Nat) : Int) from rfl, hh3]
  simp (disch := omega) only [↓kr89 q4.1, ↓kmI q4.1, w33, ↓kl89 q4.1, toN, w89, ↓kmC q4.1, ↓bo ep]
def bd8 (k : Nat) : Nat := 8 * 4 ^ (8 - k)
theorem bd8_le : ∀ k : Nat, k ≤ 8 → bd8 k ≤ 524288 := by decide
theorem bd8_s : ∀ k : Nat, k ≤ 7 → 4 * bd8 (k + 1) = bd8 k := by decide
theorem m_factor (hN : 200 ≤ N) (fa : FA h0 s i t n) : ∀ (k e : Nat), k ≤ 7 → 4 ≤ e + k → e ≤ 4 → FacM h0 x L b N s i t n (pF x L (k + 1) e) (bd8 (k + 1)) e := by
  intro k
  induction k with
  | zero =>
    intro e hk he he4 h P W B m p kk hl hW hm
    have hP := p.2.2.1
    have hx := p.2.2.2.2.1
    obtain ⟨m, rfl⟩ : ∃ q, m = q + 1 := ⟨m - 1, by omega⟩
    have en := m_next (N := N) p
    have hb := nx_bd (L := L) (P := P) hx
    have g33 := nx_at (L := L) (P := P) hx (c := 33) (by omega)
    have g40 := nx_at (L := L) (P := P) hx (c := 40) (by omega)
    have e4 : ((e : Nat) : Int) = 4 := by omega
    have k5 := kk.2.2.2.2
    rw [e4] at k5
    rw [pF]
    by_cases h1 : (isAt x L P 33 || isAt x L P 40) = true ∧ 4 ≤ e
    · rw [if_pos h1]
      refine ⟨fun z => ff_tt z, fun _ => ⟨h, ?_, p⟩⟩
      rw [f_X10_takesE_17]
      unfold f_X10_takesE_38
      cases h33 : isAt x L P 33 with
      | true => simp (disch := omega) only [↓kmC p.1, ↓bq en, il0, il1, il2, il3, il4, il5, il6, il7, il8, il9, il10, il11, il12, il13, il14, il15, il16, il17, il18, il19, il20, il21, il22, il23, il24, il25, il26, il27, il28, il29, il30, il31, il32, il33, il36, il38, il39, il40, il41, il48, il50, il51, il57, il59, il60, il61, il62, il63, il70, il96, il99, il100, il101, il102, il103, il104, il105, il106, il107, il108, il109, il110, il111, il112, il115, il116, il120, il121, il124, il200, il240, il255, il288, il360, il420, il999, il1000, il114292, il152755, il402789, il435589, il463922, il533611, il631470, iz_eq, ↓reduceIte, show ¬ ((1 : Int) = 0) by decide, g33, h33, ↓kmI p.1, k5]
      | false =>
        have h40 : isAt x L P 40 = true := by have := h1.1; rw [h33] at this; simpa using this
        simp (disch := omega) only [↓kmC p.1, ↓bq en, il0, il1, il2, il3, il4, il5, il6, il7, il8, il9, il10, il11, il12, il13, il14, il15, il16, il17, il18, il19, il20, il21, il22, il23, il24, il25, il26, il27, il28, il29, il30, il31, il32, il33, il36, il38, il39, il40, il41, il48, il50, il51, il57, il59, il60, il61, il62, il63, il70, il96, il99, il100, il101, il102, il103, il104, il105, il106, il107, il108, il109, il110, il111, il112, il115, il116, il120, il121, il124, il200, il240, il255, il288, il360, il420, il999, il1000, il114292, il152755, il402789, il435589, il463922, il533611, il631470, iz_eq, ↓reduceIte, show ¬ ((1 : Int) = 0) by decide, g33, h33, g40, h40, Bool.false_eq_true, ↓kmI p.1, k5]
    · have h33 : isAt x L P 33 = false := by
        cases z : isAt x L P 33 with
        | false => rfl
        | true => exact absurd ⟨by rw [z]; rfl, by omega⟩ h1
      have h40 : isAt x L P 40 = false := by
        cases z : isAt x L P 40 with
        | false => rfl
        | true => exact absurd ⟨by rw [z, Bool.or_true], by omega⟩ h1
      rw [if_neg h1, if_neg (by rw [h33]; decide), if_neg (by rw [h40]; decide)]
      obtain ⟨t1, t2⟩ := m_test (N := N) fa hN p kk hl hW
      have pre : ∀ K : Int32 → Mem → Option (Int32 × Mem), True := fun _ => trivial
      refine ⟨fun z => ?_, fun z => ?_⟩
      · obtain ⟨v, hv, hr, h', et, p', k', hg⟩ := t1 z
        refine ⟨v, hv, fun sum f hf => hr sum f (Nat.lt_of_lt_of_le hf (bd8_le _ (by omega))), h', m, ?_, p', k', by omega, by omega⟩
        rw [f_X10_takesE_17]
        simp (disch := omega) only [↓kmC p.1, ↓bq en, il0, il1, il2, il3, il4, il5, il6, il7, il8, il9, il10, il11, il12, il13, il14, il15, il16, il17, il18, il19, il20, il21, il22, il23, il24, il25, il26, il27, il28, il29, il30, il31, il32, il33, il36, il38, il39, il40, il41, il48, il50, il51, il57, il59, il60, il61, il62, il63, il70, il96, il99, il100, il101, il102, il103, il104, il105, il106, il107, il108, il109, il110, il111, il112, il115, il116, il120, il121, il124, il200, il240, il255, il288, il360, il420, il999, il1000, il114292, il152755, il402789, il435589, il463922, il533611, il631470, iz_eq, ↓reduceIte, show ¬ ((1 : Int) = 0) by decide, g33, h33, g40, h40, Bool.false_eq_true, ↓bq et]
      · obtain ⟨h', et, p'⟩ := t2 z
        refine ⟨h', ?_, p'⟩
        rw [f_X10_takesE_17]
        simp (disch := omega) only [↓kmC p.1, ↓bq en, il0, il1, il2, il3, il4, il5, il6, il7, il8, il9, il10, il11, il12, il13, il14, il15, il16, il17, il18, il19, il20, il21, il22, il23, il24, il25, il26, il27, il28, il29, il30, il31, il32, il33, il36, il38, il39, il40, il41, il48, il50, il51, il57, il59, il60, il61, il62, il63, il70, il96, il99, il100, il101, il102, il103, il104, il105, il106, il107, il108, il109, il110, il111, il112, il115, il116, il120, il121, il124, il200, il240, il255, il288, il360, il420, il999, il1000, il114292, il152755, il402789, il435589, il463922, il533611, il631470, iz_eq, ↓reduceIte, show ¬ ((1 : Int) = 0) by decide, g33, h33, g40, h40, Bool.false_eq_true, ↓bq et]
  | succ k ih =>
    intro e hk he he4 h P W B m p kk hl hW hm
    have hP := p.2.2.1
    have hx := p.2.2.2.2.1
    have b1 := bd8_s (k + 1) (by omega)
    have b2 := bd8_le (k + 1 + 1) (by omega)
    have b3 := bd8_le (k + 1) (by omega)
    obtain ⟨m, rfl⟩ : ∃ q, m = q + 1 := ⟨m - 1, by omega⟩
    have en := m_next (N := N) p
    have hb := nx_bd (L := L) (P := P) hx
    have g33 := nx_at (L := L) (P := P) hx (c := 33) (by omega)
    have g40 := nx_at (L := L) (P := P) hx (c := 40) (by omega)
    have k5 := kk.2.2.2.2
    rw [pF]
    by_cases h1 : (isAt x L P 33 || isAt x L P 40) = true ∧ 4 ≤ e
    · rw [if_pos h1]
      refine ⟨fun z => ff_tt z, fun _ => ⟨h, ?_, p⟩⟩
      have e4 : ((e : Nat) : Int) = 4 := by omega
      rw [e4] at k5
      rw [f_X10_takesE_17]
      unfold f_X10_takesE_38
      cases h33 : isAt x L P 33 with
      | true => simp (disch := omega) only [↓kmC p.1, ↓bq en, il0, il1, il2, il3, il4, il5, il6, il7, il8, il9, il10, il11, il12, il13, il14, il15, il16, il17, il18, il19, il20, il21, il22, il23, il24, il25, il26, il27, il28, il29, il30, il31, il32, il33, il36, il38, il39, il40, il41, il48, il50, il51, il57, il59, il60, il61, il62, il63, il70, il96, il99, il100, il101, il102, il103, il104, il105, il106, il107, il108, il109, il110, il111, il112, il115, il116, il120, il121, il124, il200, il240, il255, il288, il360, il420, il999, il1000, il114292, il152755, il402789, il435589, il463922, il533611, il631470, iz_eq, ↓reduceIte, show ¬ ((1 : Int) = 0) by decide, g33, h33, ↓kmI p.1, k5]
      | false =>
        have h40 : isAt x L P 40 = true := by have := h1.1; rw [h33] at this; simpa using this
        simp (disch := omega) only [↓kmC p.1, ↓bq en, il0, il1, il2, il3, il4, il5, il6, il7, il8, il9, il10, il11, il12, il13, il14, il15, il16, il17, il18, il19, il20, il21, il22, il23, il24, il25, il26, il27, il28, il29, il30, il31, il32, il33, il36, il38, il39, il40, il41, il48, il50, il51, il57, il59, il60, il61, il62, il63, il70, il96, il99, il100, il101, il102, il103, il104, il105, il106, il107, il108, il109, il110, il111, il112, il115, il116, il120, il121, il124, il200, il240, il255, il288, il360, il420, il999, il1000, il114292, il152755, il402789, il435589, il463922, il533611, il631470, iz_eq, ↓reduceIte, show ¬ ((1 : Int) = 0) by decide, g33, h33, g40, h40, Bool.false_eq_true, ↓kmI p.1, k5]
    · rw [if_neg h1]
      by_cases h33 : isAt x L P 33 = true
      · have la := isAt_lt h33
        rw [if_pos h33]
        dsimp only
        have e4 : e < 4 := by
          by_cases z : 4 ≤ e
          · exact absurd ⟨by rw [h33]; rfl, z⟩ h1
          · omega
        obtain ⟨h2, e2, p2, k2⟩ := m_open (N := N) (m := m) p kk (by omega) (by omega) (Or.inl rfl) h33
        obtain ⟨i1, i2⟩ := ih (e + 1) (by omega) (by omega) (by omega) h2 (P + 1) (33 :: W) B m p2 k2 (by simp only [List.length_cons]; omega) (fun c hc => by
          rcases List.mem_cons.mp hc with rfl | z
          · omega
          · exact hW c z) (by omega)
        refine ⟨fun z => ?_, fun z => ?_⟩
        · obtain ⟨v, hv, hr, h3, m3, e3, p3, k3, q1, q2⟩ := i1 z
          refine ⟨1 - v, by omega, fun sum f hf => ?_, h3, m3, by rw [e2, e3], p3, ?_, q1, by omega⟩
          · rw [if_pos z, run_app, hr sum f (by omega), Option.bind_some]
            exact run_not hv (by omega)
          · rw [pushS, if_pos rfl, show ((e + 1 : Nat) : Int) - 1 = (e : Int) by omega, show (1 : Int) - (v : Int) = ((1 - v : Nat) : Int) by omega] at k3
            exact k3
        · obtain ⟨h3, e3, p3⟩ := i2 z
          exact ⟨h3, by rw [e2, e3], p3⟩
      · rw [if_neg h33]
        by_cases h40 : isAt x L P 40 = true
        · have la := isAt_lt h40
          rw [if_pos h40]
          dsimp only
          have e4 : e < 4 := by
            by_cases z : 4 ≤ e
            · exact absurd ⟨by rw [h40, Bool.or_true], z⟩ h1
            · omega
          have c1 : cr true = 0 := rfl
          obtain ⟨h2, e2, p2, k2⟩ := m_open (N := N) (m := m) p kk (by omega) (by omega) (Or.inr rfl) h40
          have hbase : bse (40 :: W) := fun c W' he => (List.cons.inj he).1.symm
          obtain ⟨i1, i2⟩ := m_expr (bnd := bd8 (k + 1)) (e := ((e + 1 : Nat) : Int)) hN b3 (ih (e + 1) (by omega) (by omega) (by omega)) (W0 := 40 :: W) (B0 := B) hbase (fun c hc => by
            rcases List.mem_cons.mp hc with rfl | z
            · omega
            · exact hW c z) 120 true true 0 0 (P + 1) h2 m (by omega) (by omega) (by omega) p2 k2 (by simp only [List.length_cons]; omega) (by omega)
          cases hz : (pL (pF x L (k + 1) (e + 1)) x L 120 true true (P + 1)).1 with
          | false =>
            rw [if_neg (by decide)]
            refine ⟨fun z => absurd (hz.symm.trans z) (by decide), fun _ => ?_⟩
            obtain ⟨h3, e3, p3⟩ := i2 hz
            exact ⟨h3, by rw [e2, e3], p3⟩
          | true =>
            rw [if_pos rfl]
            obtain ⟨v, hv, hr, h3, h4, m3, e3, p3, es, p4, k4, a38, a124, q1, q2⟩ := i1 hz
            have hp4 := p4.2.2.1
            cases h41 : isAt x L (pL (pF x L (k + 1) (e + 1)) x L 120 true true (P + 1)).2.1 41 with
            | false =>
              rw [if_neg (by decide)]
              refine ⟨fun z => ff_tt z, fun _ => ⟨h4, ?_, p4⟩⟩
              rw [e2, e3]
              exact m_bad p3 es p4 k4 (by omega) a38 a124 h41
            | true =>
              have l41 := isAt_lt h41
              rw [if_pos rfl]
              obtain ⟨h5, e5, p5, k5'⟩ := m_close (N := N) (m := m3) (e := (e : Int)) hN p3 es p4 k4 (by omega) hv hW h41
              refine ⟨fun _ => ⟨v, hv, fun sum f hf => ?_, h5, m3, by rw [e2, e3, e5], p5, k5', by dsimp only; omega, by dsimp only; omega⟩, fun z => tt_ff z⟩
              exact hr sum f (by omega)
        · rw [if_neg h40]
          rw [Bool.not_eq_true] at h33 h40
          obtain ⟨t1, t2⟩ := m_test (N := N) fa hN p kk hl hW
          refine ⟨fun z => ?_, fun z => ?_⟩
          · obtain ⟨v, hv, hr, h', et, p', k', hg⟩ := t1 z
            refine ⟨v, hv, fun sum f hf => hr sum f (Nat.lt_of_lt_of_le hf b2), h', m, ?_, p', k', by omega, by omega⟩
            rw [f_X10_takesE_17]
            simp (disch := omega) only [↓kmC p.1, ↓bq en, il0, il1, il2, il3, il4, il5, il6, il7, il8, il9, il10, il11, il12, il13, il14, il15, il16, il17, il18, il19, il20, il21, il22, il23, il24, il25, il26, il27, il28, il29, il30, il31, il32, il33, il36, il38, il39, il40, il41, il48, il50, il51, il57, il59, il60, il61, il62, il63, il70, il96, il99, il100, il101, il102, il103, il104, il105, il106, il107, il108, il109, il110, il111, il112, il115, il116, il120, il121, il124, il200, il240, il255, il288, il360, il420, il999, il1000, il114292, il152755, il402789, il435589, il463922, il533611, il631470, iz_eq, ↓reduceIte, show ¬ ((1 : Int) = 0) by decide, g33, h33, g40, h40, Bool.false_eq_true, ↓bq et]
          · obtain ⟨h', et, p'⟩ := t2 z
            refine ⟨h', ?_, p'⟩
            rw [f_X10_takesE_17]
            simp (disch := omega) only [↓kmC p.1, ↓bq en, il0, il1, il2, il3, il4, il5, il6, il7, il8, il9, il10, il11, il12, il13, il14, il15, il16, il17, il18, il19, il20, il21, il22, il23, il24, il25, il26, il27, il28, il29, il30, il31, il32, il33, il36, il38, il39, il40, il41, il48, il50, il51, il57, il59, il60, il61, il62, il63, il70, il96, il99, il100, il101, il102, il103, il104, il105, il106, il107, il108, il109, il110, il111, il112, il115, il116, il120, il121, il124, il200, il240, il255, il288, il360, il420, il999, il1000, il114292, il152755, il402789, il435589, il463922, il533611, il631470, iz_eq, ↓reduceIte, show ¬ ((1 : Int) = 0) by decide, g33, h33, g40, h40, Bool.false_eq_true, ↓bq et]
/-- an expression -/
theorem m_E (hN : 200 ≤ N) (fa : FA h0 s i t n) {h : Mem} {P : Nat} (hP1 : 1 ≤ P) (p : PS h0 x L b h P) : ((pE x L P).1 = true → ∃ v : Nat, v ≤ 1 ∧ (∀ sum, run s i t n (pE x L P).2.2 (sum, 0) = some (sum, v)) ∧ ∃ h', f_X10_takesE N 71 h = some (iz 1, h') ∧ PS h0 x L b h' (pE x L P).2.1 ∧ h'.2.1 89 0 = iz (v : Int) ∧ P < (pE x L P).2.1) ∧
    ((pE x L P).1 = false → ∃ h', f_X10_takesE N 71 h = some (iz 0, h') ∧ PS h0 x L b h' (pE x L P).2.1) := by
  have p1 := ((p.fd_ (j := 32) (v := iz 0) (by decide)).fd_ (j := 33) (v := iz 0) (by decide)).fd_ (j := 34) (v := iz 0) (by decide)
  have k1 : STK (fd (fd (fd h 32 (iz 0)) 33 (iz 0)) 34 (iz 0)) [] [] 0 := ⟨by rw [fd_at, if_neg (by decide), fd_at, if_neg (by decide), fd_at, if_pos rfl]; rfl, trivial, by rw [fd_at, if_neg (by decide), fd_at, if_pos rfl]; rfl, trivial, by rw [fd_at, if_pos rfl]⟩
  have hP := p.2.2.1
  have c1 : cr true = 0 := rfl
  obtain ⟨i1, i2⟩ := m_expr (N := N) (bnd := bd8 8) (e := ((0 : Nat) : Int)) hN (by decide) (m_factor (x := x) (L := L) (b := b) hN fa 7 0 (by decide) (by decide) (by decide)) (W0 := []) (B0 := []) (fun c W' he => by cases he) (fun c hc => by cases hc) 120 true true 0 0 P _ N (by omega) (by omega) (by omega) p1 k1 (by simp only [List.length_nil]; omega) (by omega)
  have e0 : f_X10_takesE N 71 h = f_X10_takesE_17 N N 71 (iz 1) (fd (fd (fd h 32 (iz 0)) 33 (iz 0)) 34 (iz 0)) := by
    unfold f_X10_takesE
    have q1 := p.fd_ (j := 32) (v := iz 0) (by decide)
    have q2 := q1.fd_ (j := 33) (v := iz 0) (by decide)
    simp (disch := omega) only [il0, il1, il2, il3, il4, il5, il6, il7, il8, il9, il10, il11, il12, il13, il14, il15, il16, il17, il18, il19, il20, il21, il22, il23, il24, il25, il26, il27, il28, il29, il30, il31, il32, il33, il36, il38, il39, il40, il41, il48, il50, il51, il57, il59, il60, il61, il62, il63, il70, il96, il99, il100, il101, il102, il103, il104, il105, il106, il107, il108, il109, il110, il111, il112, il115, il116, il120, il121, il124, il200, il240, il255, il288, il360, il420, il999, il1000, il114292, il152755, il402789, il435589, il463922, il533611, il631470, ↓ksI p.1, ↓ksI q1.1, ↓ksI q2.1]
  refine ⟨fun z => ?_, fun z => ?_⟩
  · obtain ⟨v, hv, hr, h3, h4, m3, e3, p3, es, p4, k4, a38, a124, q1, q2⟩ := i1 z
    refine ⟨v, hv, fun sum => ?_, h4, ?_, p4, k4.2.2.2.1.1, q2⟩
    · have := hr sum 0 (by decide)
      rw [Nat.mul_zero, Nat.zero_add] at this
      exact this
    · rw [e0, e3]
      exact m_fin p3 es p4 k4 a38 a124
  · obtain ⟨h3, e3, p3⟩ := i2 z
    exact ⟨h3, by rw [e0, e3], p3⟩
end
