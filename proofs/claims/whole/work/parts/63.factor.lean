section
variable {h0 : Mem} {x : Nat → Int} {L p N : Nat}
theorem l_factor_56 (q : Lq p) (hN : 200 ≤ N) (hx : ∀ j : Nat, 0 ≤ x j ∧ x j ≤ 255) {rc : Nat → Nat → Int32 → Mem → Option (Int32 × Mem)} {k e : Nat} (he : e ≤ 100) (hrc : (e < 4 → FacOk h0 x L p rc (e + 1) (pF x L k (e + 1)))) {h : Mem} {P : Nat} {T : List Int} (s : ST h0 x L p h P T) (hT : T.length ≤ P) (hn : ¬ ((isAt x L P 33 || isAt x L P 40) = true ∧ 4 ≤ e)) : ∃ h', f_X5_factor_56 rc N 44 p (iz e) h = some (iz (bi (pF x L (k + 1) e P).1), h') ∧ ST h0 x L p h' (pF x L (k + 1) e P).2.1 (T ++ (pF x L (k + 1) e P).2.2) := by
  have r := s.1
  have hL := r.2.2.2.2.2.2.1
  have hP := r.2.2.2.2.2.2.2.1
  have e33 := l_met (N := N) r (c := 33) (by omega)
  have e40 := l_met (N := N) r (c := 40) (by omega)
  have h3 : ¬ ((1 : Int) = 0) := by decide
  rw [pF, if_neg hn]
  unfold f_X5_factor_56
  by_cases ha : isAt x L P 33 = true
  · have la := isAt_lt ha
    rw [if_pos ha]
    dsimp only
    rw [ha] at e33
    have he4 : e < 4 := by
      have : (isAt x L P 33 || isAt x L P 40) = true := by rw [ha]; rfl
      by_cases z : 4 ≤ e
      · exact absurd ⟨this, z⟩ hn
      · omega
    have s1 := s.pm q (P' := P + 1) (by omega)
    obtain ⟨h1, e1, s2⟩ := hrc he4 _ _ _ s1 (by omega)
    have ok := pF_ok (L := L) hx k (e + 1) (P + 1) (by omega)
    unfold Ok at ok
    rw [Int.natCast_add] at e1
    cases hr : (pF x L k (e + 1) (P + 1)).1 with
    | true =>
      rw [hr] at e1
      obtain ⟨h2, e2, s3⟩ := l_emit (N := N) q s2 (by rw [List.length_append]; omega) (g := 12) (n := 0) (by omega) (by omega)
      refine ⟨h2, ?_, by rw [if_pos rfl, ← List.append_assoc]; exact s3⟩
      have e1' : rc 44 p (iz ((e : Int) + 1)) (pm h (P + 1)) = some (iz (bi true), h1) := e1
      simp (disch := omega) only [↓k44 r, if_true, if_false, Option.bind_some, b2_some, il0, il1, il2, il3, il4, il5, il6, il7, il8, il9, il10, il11, il12, il13, il14, il15, il16, il17, il18, il19, il20, il21, il22, il23, il24, il25, il26, il27, il28, il29, il30, il31, il32, il33, il36, il38, il39, il40, il41, il48, il50, il51, il57, il59, il60, il61, il62, il63, il70, il96, il99, il100, il101, il102, il103, il104, il105, il106, il107, il108, il109, il110, il111, il112, il115, il116, il120, il121, il124, il200, il240, il255, il288, il360, il420, il999, il1000, il114292, il152755, il402789, il435589, il463922, il533611, il631470, iz_add, iz_sub, iz_mul, iz_neg, iz_le, iz_lt, iz_eq, ↓bq e33, bi_t, h3, ↓reduceIte, ↓k44 s1.1, ↓bq e1', ↓kPc s2, ↓bo e2]
    | false =>
      rw [hr] at e1
      refine ⟨h1, ?_, by rw [if_neg (by decide), List.append_nil]; exact s2⟩
      have e1' : rc 44 p (iz ((e : Int) + 1)) (pm h (P + 1)) = some (iz (bi false), h1) := e1
      simp (disch := omega) only [↓k44 r, if_true, if_false, Option.bind_some, b2_some, il0, il1, il2, il3, il4, il5, il6, il7, il8, il9, il10, il11, il12, il13, il14, il15, il16, il17, il18, il19, il20, il21, il22, il23, il24, il25, il26, il27, il28, il29, il30, il31, il32, il33, il36, il38, il39, il40, il41, il48, il50, il51, il57, il59, il60, il61, il62, il63, il70, il96, il99, il100, il101, il102, il103, il104, il105, il106, il107, il108, il109, il110, il111, il112, il115, il116, il120, il121, il124, il200, il240, il255, il288, il360, il420, il999, il1000, il114292, il152755, il402789, il435589, il463922, il533611, il631470, iz_add, iz_sub, iz_mul, iz_neg, iz_le, iz_lt, iz_eq, ↓bq e33, bi_t, bi_f, h3, ↓reduceIte, ↓k44 s1.1, ↓bq e1']
  · rw [if_neg ha]
    rw [Bool.not_eq_true] at ha
    rw [ha] at e33
    by_cases hb : isAt x L P 40 = true
    · have la := isAt_lt hb
      rw [if_pos hb]
      rw [hb] at e40
      have he4 : e < 4 := by
        have : (isAt x L P 33 || isAt x L P 40) = true := by rw [hb, Bool.or_true]
        by_cases z : 4 ≤ e
        · exact absurd ⟨this, z⟩ hn
        · omega
      have s1 := s.pm q (P' := P + 1) (by omega)
      have c1 : cr true = 0 := rfl
      obtain ⟨h1, e1, s2⟩ := l_either_8 (N := N) q (hrc he4) (fun P hP => pF_ok hx k (e + 1) P hP) 120 0 N true true _ _ _ (by omega) (by omega) s1 (by omega)
      dsimp only
      have e1' : f_X5_either rc N 44 p (iz ((e : Int) + 1)) (pm h (P + 1)) = some (iz (bi (pL (pF x L k (e + 1)) x L 120 true true (P + 1)).1), h1) := by
        rw [Int.natCast_add] at e1
        exact e1
      have ok := pL_ok (x := x) (L := L) (fun P hP => pF_ok hx k (e + 1) P hP) 120 true true (P + 1) (by omega)
      unfold Ok at ok
      generalize pL (pF x L k (e + 1)) x L 120 true true (P + 1) = w at *
      cases hw : w.1 with
      | true =>
        rw [hw] at e1'
        rw [if_pos rfl]
        have r2 := s2.1
        have e41 := l_met (N := N) r2 (c := 41) (by omega)
        cases hc : isAt x L w.2.1 41 with
        | true =>
          have lc := isAt_lt hc
          rw [hc] at e41
          rw [if_pos rfl]
          refine ⟨_, ?_, s2.pm q (P' := w.2.1 + 1) (by omega)⟩
          simp (disch := omega) only [↓k44 r, if_true, if_false, Option.bind_some, b2_some, il0, il1, il2, il3, il4, il5, il6, il7, il8, il9, il10, il11, il12, il13, il14, il15, il16, il17, il18, il19, il20, il21, il22, il23, il24, il25, il26, il27, il28, il29, il30, il31, il32, il33, il36, il38, il39, il40, il41, il48, il50, il51, il57, il59, il60, il61, il62, il63, il70, il96, il99, il100, il101, il102, il103, il104, il105, il106, il107, il108, il109, il110, il111, il112, il115, il116, il120, il121, il124, il200, il240, il255, il288, il360, il420, il999, il1000, il114292, il152755, il402789, il435589, il463922, il533611, il631470, iz_add, iz_sub, iz_mul, iz_neg, iz_le, iz_lt, iz_eq, ↓bq e33, bi_t, bi_f, h3, ↓reduceIte, Bool.false_eq_true, ↓bq e40, ↓k44 s1.1, ↓bq e1', ↓k44 r2, ↓bq e41]
        | false =>
          rw [hc] at e41
          rw [if_neg (by decide)]
          refine ⟨h1, ?_, s2⟩
          simp (disch := omega) only [↓k44 r, if_true, if_false, Option.bind_some, b2_some, il0, il1, il2, il3, il4, il5, il6, il7, il8, il9, il10, il11, il12, il13, il14, il15, il16, il17, il18, il19, il20, il21, il22, il23, il24, il25, il26, il27, il28, il29, il30, il31, il32, il33, il36, il38, il39, il40, il41, il48, il50, il51, il57, il59, il60, il61, il62, il63, il70, il96, il99, il100, il101, il102, il103, il104, il105, il106, il107, il108, il109, il110, il111, il112, il115, il116, il120, il121, il124, il200, il240, il255, il288, il360, il420, il999, il1000, il114292, il152755, il402789, il435589, il463922, il533611, il631470, iz_add, iz_sub, iz_mul, iz_neg, iz_le, iz_lt, iz_eq, ↓bq e33, bi_t, bi_f, h3, ↓reduceIte, Bool.false_eq_true, ↓bq e40, ↓k44 s1.1, ↓bq e1', ↓k44 r2, ↓bq e41]
      | false =>
        rw [hw] at e1'
        rw [if_neg (by decide), hw]
        refine ⟨h1, ?_, s2⟩
        simp (disch := omega) only [↓k44 r, if_true, if_false, Option.bind_some, b2_some, il0, il1, il2, il3, il4, il5, il6, il7, il8, il9, il10, il11, il12, il13, il14, il15, il16, il17, il18, il19, il20, il21, il22, il23, il24, il25, il26, il27, il28, il29, il30, il31, il32, il33, il36, il38, il39, il40, il41, il48, il50, il51, il57, il59, il60, il61, il62, il63, il70, il96, il99, il100, il101, il102, il103, il104, il105, il106, il107, il108, il109, il110, il111, il112, il115, il116, il120, il121, il124, il200, il240, il255, il288, il360, il420, il999, il1000, il114292, il152755, il402789, il435589, il463922, il533611, il631470, iz_add, iz_sub, iz_mul, iz_neg, iz_le, iz_lt, iz_eq, ↓bq e33, bi_t, bi_f, h3, ↓reduceIte, Bool.false_eq_true, ↓bq e40, ↓k44 s1.1, ↓bq e1']
    · rw [if_neg hb]
      rw [Bool.not_eq_true] at hb
      rw [hb] at e40
      obtain ⟨h1, e1, s1⟩ := l_test q s hT hN
      refine ⟨h1, ?_, s1⟩
      simp (disch := omega) only [↓k44 r, if_true, if_false, Option.bind_some, b2_some, il0, il1, il2, il3, il4, il5, il6, il7, il8, il9, il10, il11, il12, il13, il14, il15, il16, il17, il18, il19, il20, il21, il22, il23, il24, il25, il26, il27, il28, il29, il30, il31, il32, il33, il36, il38, il39, il40, il41, il48, il50, il51, il57, il59, il60, il61, il62, il63, il70, il96, il99, il100, il101, il102, il103, il104, il105, il106, il107, il108, il109, il110, il111, il112, il115, il116, il120, il121, il124, il200, il240, il255, il288, il360, il420, il999, il1000, il114292, il152755, il402789, il435589, il463922, il533611, il631470, iz_add, iz_sub, iz_mul, iz_neg, iz_le, iz_lt, iz_eq, ↓bq e33, bi_f, ↓reduceIte, Bool.false_eq_true, ↓bq e40, ↓bq e1, rz_bi]
theorem l_factor_1 (q : Lq p) (hN : 200 ≤ N) (hx : ∀ j : Nat, 0 ≤ x j ∧ x j ≤ 255) {rc : Nat → Nat → Int32 → Mem → Option (Int32 × Mem)} {k e : Nat} (he : e ≤ 100) (hrc : (e < 4 → FacOk h0 x L p rc (e + 1) (pF x L k (e + 1)))) : FacOk h0 x L p (fun v0 v1 v2 h => f_X5_factor rc N v0 v1 v2 h) e (pF x L (k + 1) e) := by
  intro h P T s hT
  have r := s.1
  have hL := r.2.2.2.2.2.2.1
  have hP := r.2.2.2.2.2.2.2.1
  have hxP := hx P
  have h3 : ¬ ((1 : Int) = 0) := by decide
  have e44 : ∀ b : Bool, b = (isAt x L P 33 || isAt x L P 40) → ∃ h', f_X5_factor_44 rc N 44 p (iz e) (iz (bi b)) h = some (iz (bi (pF x L (k + 1) e P).1), h') ∧ ST h0 x L p h' (pF x L (k + 1) e P).2.1 (T ++ (pF x L (k + 1) e P).2.2) := by
    intro b hb
    unfold f_X5_factor_44
    by_cases hn : (isAt x L P 33 || isAt x L P 40) = true ∧ 4 ≤ e
    · refine ⟨h, ?_, ?_⟩
      · have h4 : ¬ ((e : Int) < 4) := by omega
        rw [hb, hn.1, pF, if_pos hn]
        simp (disch := omega) only [bi_t, bi_f, if_true, if_false, Option.bind_some, b2_some, il0, il1, il2, il3, il4, il5, il6, il7, il8, il9, il10, il11, il12, il13, il14, il15, il16, il17, il18, il19, il20, il21, il22, il23, il24, il25, il26, il27, il28, il29, il30, il31, il32, il33, il36, il38, il39, il40, il41, il48, il50, il51, il57, il59, il60, il61, il62, il63, il70, il96, il99, il100, il101, il102, il103, il104, il105, il106, il107, il108, il109, il110, il111, il112, il115, il116, il120, il121, il124, il200, il240, il255, il288, il360, il420, il999, il1000, il114292, il152755, il402789, il435589, il463922, il533611, il631470, iz_add, iz_sub, iz_mul, iz_neg, iz_le, iz_lt, iz_eq, h3, h4, ↓reduceIte]
      · rw [pF, if_pos hn]
        show ST h0 x L p h P (T ++ [])
        rw [List.append_nil]
        exact s
    · obtain ⟨h', e1, s'⟩ := l_factor_56 q hN hx he hrc s hT hn
      refine ⟨h', ?_, s'⟩
      cases hb2 : b with
      | true =>
        have h4 : (e : Int) < 4 := by
          have : (isAt x L P 33 || isAt x L P 40) = true := by rw [← hb, hb2]
          by_cases z : 4 ≤ e
          · exact absurd ⟨this, z⟩ hn
          · omega
        simp (disch := omega) only [bi_t, if_true, if_false, Option.bind_some, b2_some, il0, il1, il2, il3, il4, il5, il6, il7, il8, il9, il10, il11, il12, il13, il14, il15, il16, il17, il18, il19, il20, il21, il22, il23, il24, il25, il26, il27, il28, il29, il30, il31, il32, il33, il36, il38, il39, il40, il41, il48, il50, il51, il57, il59, il60, il61, il62, il63, il70, il96, il99, il100, il101, il102, il103, il104, il105, il106, il107, il108, il109, il110, il111, il112, il115, il116, il120, il121, il124, il200, il240, il255, il288, il360, il420, il999, il1000, il114292, il152755, il402789, il435589, il463922, il533611, il631470, iz_add, iz_sub, iz_mul, iz_neg, iz_le, iz_lt, iz_eq, h3, h4, ↓reduceIte]
        exact e1
      | false =>
        simp (disch := omega) only [bi_f, if_true, if_false, Option.bind_some, b2_some, il0, il1, il2, il3, il4, il5, il6, il7, il8, il9, il10, il11, il12, il13, il14, il15, il16, il17, il18, il19, il20, il21, il22, il23, il24, il25, il26, il27, il28, il29, il30, il31, il32, il33, il36, il38, il39, il40, il41, il48, il50, il51, il57, il59, il60, il61, il62, il63, il70, il96, il99, il100, il101, il102, il103, il104, il105, il106, il107, il108, il109, il110, il111, il112, il115, il116, il120, il121, il124, il200, il240, il255, il288, il360, il420, il999, il1000, il114292, il152755, il402789, il435589, il463922, il533611, il631470, iz_add, iz_sub, iz_mul, iz_neg, iz_le, iz_lt, iz_eq, ↓reduceIte]
        exact e1
  dsimp only
  unfold f_X5_factor f_X5_factor_39 f_X5_factor_43
  by_cases h1 : P < L
  · have h2 : ¬ ((L : Int) ≤ P) := by omega
    by_cases h5 : x P = 33
    · obtain ⟨h', e', s'⟩ := e44 true (by simp [isAt, h1, h5])
      refine ⟨h', ?_, s'⟩
      simp (disch := omega) only [↓kP r, ↓kLn r, ↓k45 r, ↓kTx r, ↓reduceIte, if_true, if_false, Option.bind_some, b2_some, il0, il1, il2, il3, il4, il5, il6, il7, il8, il9, il10, il11, il12, il13, il14, il15, il16, il17, il18, il19, il20, il21, il22, il23, il24, il25, il26, il27, il28, il29, il30, il31, il32, il33, il36, il38, il39, il40, il41, il48, il50, il51, il57, il59, il60, il61, il62, il63, il70, il96, il99, il100, il101, il102, il103, il104, il105, il106, il107, il108, il109, il110, il111, il112, il115, il116, il120, il121, il124, il200, il240, il255, il288, il360, il420, il999, il1000, il114292, il152755, il402789, il435589, il463922, il533611, il631470, iz_add, iz_sub, iz_mul, iz_neg, iz_le, iz_lt, iz_eq, h2, h5]
      exact e'
    · by_cases h6 : x P = 40
      · obtain ⟨h', e', s'⟩ := e44 true (by simp [isAt, h1, h6])
        refine ⟨h', ?_, s'⟩
        simp (disch := omega) only [↓kP r, ↓kLn r, ↓k45 r, ↓kTx r, ↓reduceIte, if_true, if_false, Option.bind_some, b2_some, il0, il1, il2, il3, il4, il5, il6, il7, il8, il9, il10, il11, il12, il13, il14, il15, il16, il17, il18, il19, il20, il21, il22, il23, il24, il25, il26, il27, il28, il29, il30, il31, il32, il33, il36, il38, il39, il40, il41, il48, il50, il51, il57, il59, il60, il61, il62, il63, il70, il96, il99, il100, il101, il102, il103, il104, il105, il106, il107, il108, il109, il110, il111, il112, il115, il116, il120, il121, il124, il200, il240, il255, il288, il360, il420, il999, il1000, il114292, il152755, il402789, il435589, il463922, il533611, il631470, iz_add, iz_sub, iz_mul, iz_neg, iz_le, iz_lt, iz_eq, h2, h5, h6]
        exact e'
      · obtain ⟨h', e', s'⟩ := e44 false (by simp [isAt, h5, h6])
        refine ⟨h', ?_, s'⟩
        simp (disch := omega) only [↓kP r, ↓kLn r, ↓k45 r, ↓kTx r, ↓reduceIte, if_true, if_false, Option.bind_some, b2_some, il0, il1, il2, il3, il4, il5, il6, il7, il8, il9, il10, il11, il12, il13, il14, il15, il16, il17, il18, il19, il20, il21, il22, il23, il24, il25, il26, il27, il28, il29, il30, il31, il32, il33, il36, il38, il39, il40, il41, il48, il50, il51, il57, il59, il60, il61, il62, il63, il70, il96, il99, il100, il101, il102, il103, il104, il105, il106, il107, il108, il109, il110, il111, il112, il115, il116, il120, il121, il124, il200, il240, il255, il288, il360, il420, il999, il1000, il114292, il152755, il402789, il435589, il463922, il533611, il631470, iz_add, iz_sub, iz_mul, iz_neg, iz_le, iz_lt, iz_eq, h2, h5, h6]
        exact e'
  · have h2 : (L : Int) ≤ P := by omega
    obtain ⟨h', e', s'⟩ := e44 false (by simp [isAt, h1])
    refine ⟨h', ?_, s'⟩
    simp (disch := omega) only [↓kP r, ↓kLn r, ↓reduceIte, if_true, if_false, Option.bind_some, b2_some, il0, il1, il2, il3, il4, il5, il6, il7, il8, il9, il10, il11, il12, il13, il14, il15, il16, il17, il18, il19, il20, il21, il22, il23, il24, il25, il26, il27, il28, il29, il30, il31, il32, il33, il36, il38, il39, il40, il41, il48, il50, il51, il57, il59, il60, il61, il62, il63, il70, il96, il99, il100, il101, il102, il103, il104, il105, il106, il107, il108, il109, il110, il111, il112, il115, il116, il120, il121, il124, il200, il240, il255, il288, il360, il420, il999, il1000, il114292, il152755, il402789, il435589, il463922, il533611, il631470, iz_add, iz_sub, iz_mul, iz_neg, iz_le, iz_lt, iz_eq, h2]
    exact e'
theorem l_factor (q : Lq p) (hN : 200 ≤ N) (hx : ∀ j : Nat, 0 ≤ x j ∧ x j ≤ 255) : ∀ (k e : Nat), 4 ≤ e + k → e ≤ 50 → FacOk h0 x L p (FD_X5_factor N (k + 1)) e (pF x L (k + 1) e) := by
  intro k
  induction k with
  | zero => intro e h1 h2; exact l_factor_1 q hN hx (by omega) (fun z => absurd z (by omega))
  | succ k ih => intro e h1 h2; exact l_factor_1 q hN hx (by omega) (fun z => ih (e + 1) (by omega) (by omega))
def pE (x : Nat → Int) (L P : Nat) : Rs := pL (pF x L 8 0) x L 120 true true P
theorem pE_ok (hx : ∀ j : Nat, 0 ≤ x j ∧ x j ≤ 255) {P : Nat} (hP : P ≤ L) : Ok L P 0 (pE x L P) := pL_ok (fun P hP => pF_ok hx 8 0 P hP) 120 true true P hP
theorem l_either {h : Mem} {P : Nat} {T : List Int} (q : Lq p) (hN : 200 ≤ N) (s : ST h0 x L p h P T) (hT : T.length ≤ P) : ∃ h', F_X5_either N 44 p (iz 0) h = some (iz (bi (pE x L P).1), h') ∧ ST h0 x L p h' (pE x L P).2.1 (T ++ (pE x L P).2.2) := by
  have hx := s.1.2.2.2.2.2.2.2.2
  have c1 : cr true = 0 := rfl
  exact l_either_8 (N := N) q (l_factor (k := 7) (e := 0) q hN hx (by omega) (by omega)) (fun P hP => pF_ok hx 8 0 P hP) 120 0 N true true _ _ _ (by omega) (by omega) s (by omega)
end
