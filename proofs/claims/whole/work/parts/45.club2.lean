def clubP (V : Vw) (s t : Nat) : Bool := decide (cnt V t = 0) && (decide ((pc s : Int) ≤ va V 0 t) && wouldB V s t)
def clubT (V : Vw) : Nat → Nat → Int
  | _, 0 => -5
  | s, d + 1 => if pc s = 2 ∨ pc s = 3 then (match fs (clubP V s) 0 (vT V) with
    | some t => 100 * lo s + t
    | none => clubT V (s + 1) d) else clubT V (s + 1) d
def clubS (V : Vw) : Int := clubT V 0 (2 ^ vF V)
theorem pc_le : ∀ s : Nat, s < 256 → pc s ≤ 8 := by decide +kernel
theorem lo_le : ∀ s : Nat, s < 256 → 0 < s → lo s ≤ 7 := by decide +kernel
theorem two_le : ∀ F : Nat, F ≤ 8 → 2 ^ F ≤ 256 := by decide +kernel
section
variable {c p : Nat} {V : Vw} {N : Nat}
theorem l_club_66 {h0 : Mem} (w : WF V) (q : CP c p) (S0 : RS h0) (hN : 200 ≤ N) {s : Nat} (hs : s < 256) (hs0 : 0 < s) (k35 : Nat → Nat → Int32 → Mem → Option (Int32 × Mem)) : ∀ (d i n : Nat) (h : Mem), i + d = vT V → d < n → RepC h c p V → S49 h V → KC c h0 h → ∃ h', (f_X6_club_66 N n 46 c (iz s) (iz (pc s)) (iz i) h k35 = match fs (clubP V s) i d with
    | some t => some (iz (100 * lo s + t), h')
    | none => k35 46 c (iz (s + 1)) h') ∧ RepC h' c p V ∧ S49 h' V ∧ KC c h0 h' := by
  intro d
  have hF := w.F
  have hT := w.T
  have hpc := pc_le s hs
  have hlo := lo_le s hs hs0
  induction d with
  | zero =>
    intro i n h hi hn R s2 K
    obtain ⟨n, rfl⟩ : ∃ k, n = k + 1 := ⟨n - 1, by omega⟩
    rw [f_X6_club_66]
    obtain rfl : i = vT V := by omega
    refine ⟨h, ?_, R, s2, K⟩
    simp (disch := omega) only [↓kC R, ↓kT R, ↓kF R, ↓kL R, ↓kLk R, ↓kL0 R, ↓kL1 R, ↓kL2 R, ↓kL3 R, ↓kL4 R, ↓kL5 R, ↓kA0 R, ↓kA1 R, ↓kA2 R, ↓kA3 R, ↓kA4 R, ↓kA5 R, ↓kA6 R, ↓kA7 R, ↓kA8 R, ↓kA9 R, ↓kX0 R, ↓kX1 R, ↓kX2 R, ↓kX3 R, ↓kX4 R, ↓kX5 R, ↓kX6 R, ↓kX7 R, ↓kX8 R, ↓kX1m R, ↓kY0 R, ↓kY1 R, ↓kY2 R, ↓kY0m R, ↓kY1m R, ↓reduceIte, if_true, if_false, Option.bind_some, b2_some, il0, il1, il2, il3, il4, il5, il6, il7, il8, il9, il10, il11, il12, il13, il14, il15, il16, il17, il18, il19, il20, il21, il22, il23, il24, il25, il26, il27, il28, il29, il30, il31, il32, il33, il36, il38, il39, il40, il41, il48, il50, il51, il57, il59, il60, il61, il62, il63, il70, il96, il99, il100, il101, il102, il103, il104, il105, il106, il107, il108, il109, il110, il111, il112, il115, il116, il120, il121, il124, il200, il240, il255, il288, il360, il420, il999, il1000, il114292, il152755, il402789, il435589, il463922, il533611, il631470, iz_add, iz_sub, iz_mul, iz_neg, iz_le, iz_lt, iz_eq, Int.le_refl]
    rfl
  | succ d ih =>
    intro i n h hi hn R s2 K
    obtain ⟨n, rfl⟩ : ∃ k, n = k + 1 := ⟨n - 1, by omega⟩
    rw [f_X6_club_66]
    have hc : ¬ ((vT V : Int) ≤ i) := by omega
    have hwt := w.t (j := i) (by omega) (by omega)
    have hcr := l_crowd R w hN (t := i) (by omega)
    have hcb := cnt_bd (V := V) i
    have S := S0.kc K
    rw [fs]
    by_cases h1 : cnt V i = 0
    · by_cases h2 : (pc s : Int) ≤ va V 0 i
      · have h2' : ¬ (va V 0 i < pc s) := by omega
        obtain ⟨h1', e1, R1, s21, K1⟩ := l_would w q hN hs (t := i) (by omega) R S s2 K
        cases hw : wouldB V s i with
        | true =>
          rw [hw] at e1
          have hp : clubP V s i = true := by simp [clubP, h1, h2, hw]
          refine ⟨h1', ?_, R1, s21, K1⟩
          simp (disch := omega) only [↓kC R, ↓kT R, ↓kF R, ↓kL R, ↓kLk R, ↓kL0 R, ↓kL1 R, ↓kL2 R, ↓kL3 R, ↓kL4 R, ↓kL5 R, ↓kA0 R, ↓kA1 R, ↓kA2 R, ↓kA3 R, ↓kA4 R, ↓kA5 R, ↓kA6 R, ↓kA7 R, ↓kA8 R, ↓kA9 R, ↓kX0 R, ↓kX1 R, ↓kX2 R, ↓kX3 R, ↓kX4 R, ↓kX5 R, ↓kX6 R, ↓kX7 R, ↓kX8 R, ↓kX1m R, ↓kY0 R, ↓kY1 R, ↓kY2 R, ↓kY0m R, ↓kY1m R, ↓reduceIte, ↓bq hcr, if_true, if_false, Option.bind_some, b2_some, il0, il1, il2, il3, il4, il5, il6, il7, il8, il9, il10, il11, il12, il13, il14, il15, il16, il17, il18, il19, il20, il21, il22, il23, il24, il25, il26, il27, il28, il29, il30, il31, il32, il33, il36, il38, il39, il40, il41, il48, il50, il51, il57, il59, il60, il61, il62, il63, il70, il96, il99, il100, il101, il102, il103, il104, il105, il106, il107, il108, il109, il110, il111, il112, il115, il116, il120, il121, il124, il200, il240, il255, il288, il360, il420, il999, il1000, il114292, il152755, il402789, il435589, il463922, il533611, il631470, iz_add, iz_sub, iz_mul, iz_neg, iz_le, iz_lt, iz_eq, hc, h1, h2', ↓k46 S, ↓bq e1, bi_t, hp]
          simp (disch := omega) only [↓bq (l_leastOf hs hs0), if_true, if_false, Option.bind_some, b2_some, il0, il1, il2, il3, il4, il5, il6, il7, il8, il9, il10, il11, il12, il13, il14, il15, il16, il17, il18, il19, il20, il21, il22, il23, il24, il25, il26, il27, il28, il29, il30, il31, il32, il33, il36, il38, il39, il40, il41, il48, il50, il51, il57, il59, il60, il61, il62, il63, il70, il96, il99, il100, il101, il102, il103, il104, il105, il106, il107, il108, il109, il110, il111, il112, il115, il116, il120, il121, il124, il200, il240, il255, il288, il360, il420, il999, il1000, il114292, il152755, il402789, il435589, il463922, il533611, il631470, iz_add, iz_sub, iz_mul, iz_neg, iz_le, iz_lt, iz_eq]
          simp
        | false =>
          rw [hw] at e1
          have hp : clubP V s i = false := by simp [clubP, hw]
          obtain ⟨h', e, r⟩ := ih (i + 1) n h1' (by omega) (by omega) R1 s21 K1
          refine ⟨h', ?_, r⟩
          simp (disch := omega) only [↓kC R, ↓kT R, ↓kF R, ↓kL R, ↓kLk R, ↓kL0 R, ↓kL1 R, ↓kL2 R, ↓kL3 R, ↓kL4 R, ↓kL5 R, ↓kA0 R, ↓kA1 R, ↓kA2 R, ↓kA3 R, ↓kA4 R, ↓kA5 R, ↓kA6 R, ↓kA7 R, ↓kA8 R, ↓kA9 R, ↓kX0 R, ↓kX1 R, ↓kX2 R, ↓kX3 R, ↓kX4 R, ↓kX5 R, ↓kX6 R, ↓kX7 R, ↓kX8 R, ↓kX1m R, ↓kY0 R, ↓kY1 R, ↓kY2 R, ↓kY0m R, ↓kY1m R, ↓reduceIte, ↓bq hcr, if_true, if_false, Option.bind_some, b2_some, il0, il1, il2, il3, il4, il5, il6, il7, il8, il9, il10, il11, il12, il13, il14, il15, il16, il17, il18, il19, il20, il21, il22, il23, il24, il25, il26, il27, il28, il29, il30, il31, il32, il33, il36, il38, il39, il40, il41, il48, il50, il51, il57, il59, il60, il61, il62, il63, il70, il96, il99, il100, il101, il102, il103, il104, il105, il106, il107, il108, il109, il110, il111, il112, il115, il116, il120, il121, il124, il200, il240, il255, il288, il360, il420, il999, il1000, il114292, il152755, il402789, il435589, il463922, il533611, il631470, iz_add, iz_sub, iz_mul, iz_neg, iz_le, iz_lt, iz_eq, hc, h1, h2', ↓k46 S, ↓bq e1, bi_f, hp]
          simpa using e
      · have h2' : va V 0 i < pc s := by omega
        have hp : clubP V s i = false := by simp [clubP, h2]
        obtain ⟨h', e, r⟩ := ih (i + 1) n h (by omega) (by omega) R s2 K
        refine ⟨h', ?_, r⟩
        simp (disch := omega) only [↓kC R, ↓kT R, ↓kF R, ↓kL R, ↓kLk R, ↓kL0 R, ↓kL1 R, ↓kL2 R, ↓kL3 R, ↓kL4 R, ↓kL5 R, ↓kA0 R, ↓kA1 R, ↓kA2 R, ↓kA3 R, ↓kA4 R, ↓kA5 R, ↓kA6 R, ↓kA7 R, ↓kA8 R, ↓kA9 R, ↓kX0 R, ↓kX1 R, ↓kX2 R, ↓kX3 R, ↓kX4 R, ↓kX5 R, ↓kX6 R, ↓kX7 R, ↓kX8 R, ↓kX1m R, ↓kY0 R, ↓kY1 R, ↓kY2 R, ↓kY0m R, ↓kY1m R, ↓reduceIte, ↓bq hcr, if_true, if_false, Option.bind_some, b2_some, il0, il1, il2, il3, il4, il5, il6, il7, il8, il9, il10, il11, il12, il13, il14, il15, il16, il17, il18, il19, il20, il21, il22, il23, il24, il25, il26, il27, il28, il29, il30, il31, il32, il33, il36, il38, il39, il40, il41, il48, il50, il51, il57, il59, il60, il61, il62, il63, il70, il96, il99, il100, il101, il102, il103, il104, il105, il106, il107, il108, il109, il110, il111, il112, il115, il116, il120, il121, il124, il200, il240, il255, il288, il360, il420, il999, il1000, il114292, il152755, il402789, il435589, il463922, il533611, il631470, iz_add, iz_sub, iz_mul, iz_neg, iz_le, iz_lt, iz_eq, hc, h1, h2', hp]
        simpa using e
    · have hp : clubP V s i = false := by simp [clubP, h1]
      obtain ⟨h', e, r⟩ := ih (i + 1) n h (by omega) (by omega) R s2 K
      refine ⟨h', ?_, r⟩
      simp (disch := omega) only [↓kC R, ↓kT R, ↓kF R, ↓kL R, ↓kLk R, ↓kL0 R, ↓kL1 R, ↓kL2 R, ↓kL3 R, ↓kL4 R, ↓kL5 R, ↓kA0 R, ↓kA1 R, ↓kA2 R, ↓kA3 R, ↓kA4 R, ↓kA5 R, ↓kA6 R, ↓kA7 R, ↓kA8 R, ↓kA9 R, ↓kX0 R, ↓kX1 R, ↓kX2 R, ↓kX3 R, ↓kX4 R, ↓kX5 R, ↓kX6 R, ↓kX7 R, ↓kX8 R, ↓kX1m R, ↓kY0 R, ↓kY1 R, ↓kY2 R, ↓kY0m R, ↓kY1m R, ↓reduceIte, ↓bq hcr, if_true, if_false, Option.bind_some, b2_some, il0, il1, il2, il3, il4, il5, il6, il7, il8, il9, il10, il11, il12, il13, il14, il15, il16, il17, il18, il19, il20, il21, il22, il23, il24, il25, il26, il27, il28, il29, il30, il31, il32, il33, il36, il38, il39, il40, il41, il48, il50, il51, il57, il59, il60, il61, il62, il63, il70, il96, il99, il100, il101, il102, il103, il104, il105, il106, il107, il108, il109, il110, il111, il112, il115, il116, il120, il121, il124, il200, il240, il255, il288, il360, il420, il999, il1000, il114292, il152755, il402789, il435589, il463922, il533611, il631470, iz_add, iz_sub, iz_mul, iz_neg, iz_le, iz_lt, iz_eq, hc, h1, hp]
      simpa using e
theorem l_club_35 {h0 : Mem} (w : WF V) (q : CP c p) (S0 : RS h0) (hN : 300 ≤ N) {M : Nat} (hM : M ≤ 256) (hsh : iz 1 <<< (iz (vF V) &&& iz 31) = iz (M : Int)) : ∀ (d i n : Nat) (h : Mem), i + d = M → d < n → RepC h c p V → S49 h V → KC c h0 h → ∃ h', f_X6_club_35 N n 46 c (iz i) h = some (iz (clubT V i d), h') ∧ RepC h' c p V ∧ KC c h0 h' := by
  intro d
  have hF := w.F
  have hT := w.T
  induction d with
  | zero =>
    intro i n h hi hn R s2 K
    obtain ⟨n, rfl⟩ : ∃ k, n = k + 1 := ⟨n - 1, by omega⟩
    rw [f_X6_club_35]
    obtain rfl : i = M := by omega
    refine ⟨h, ?_, R, K⟩
    simp (disch := omega) only [↓kC R, ↓kT R, ↓kF R, ↓kL R, ↓kLk R, ↓kL0 R, ↓kL1 R, ↓kL2 R, ↓kL3 R, ↓kL4 R, ↓kL5 R, ↓kA0 R, ↓kA1 R, ↓kA2 R, ↓kA3 R, ↓kA4 R, ↓kA5 R, ↓kA6 R, ↓kA7 R, ↓kA8 R, ↓kA9 R, ↓kX0 R, ↓kX1 R, ↓kX2 R, ↓kX3 R, ↓kX4 R, ↓kX5 R, ↓kX6 R, ↓kX7 R, ↓kX8 R, ↓kX1m R, ↓kY0 R, ↓kY1 R, ↓kY2 R, ↓kY0m R, ↓kY1m R, ↓reduceIte, if_true, if_false, Option.bind_some, b2_some, il0, il1, il2, il3, il4, il5, il6, il7, il8, il9, il10, il11, il12, il13, il14, il15, il16, il17, il18, il19, il20, il21, il22, il23, il24, il25, il26, il27, il28, il29, il30, il31, il32, il33, il36, il38, il39, il40, il41, il48, il50, il51, il57, il59, il60, il61, il62, il63, il70, il96, il99, il100, il101, il102, il103, il104, il105, il106, il107, il108, il109, il110, il111, il112, il115, il116, il120, il121, il124, il200, il240, il255, il288, il360, il420, il999, il1000, il114292, il152755, il402789, il435589, il463922, il533611, il631470, iz_add, iz_sub, iz_mul, iz_neg, iz_le, iz_lt, iz_eq, hsh, Int.le_refl]
    rfl
  | succ d ih =>
    intro i n h hi hn R s2 K
    obtain ⟨n, rfl⟩ : ∃ k, n = k + 1 := ⟨n - 1, by omega⟩
    rw [f_X6_club_35]
    have hc : ¬ ((M : Int) ≤ i) := by omega
    have hb := l_bitCount (N := N) (s := i) (h := h) (by omega)
    have hpc := pc_le i (by omega)
    rw [clubT]
    by_cases h2 : pc i = 2 ∨ pc i = 3
    · have hi0 : 0 < i := by
        rcases Nat.eq_zero_or_pos i with z | z
        · subst z; exact absurd h2 (by decide)
        · exact z
      obtain ⟨h1, e1, R1, s21, K1⟩ := l_club_66 w q S0 (N := N) (by omega) (s := i) (by omega) hi0 (fun v0 v1 v2 h => f_X6_club_35 N n v0 v1 v2 h) (vT V) 0 N h (by omega) (by omega) R s2 K
      rw [if_pos h2]
      have goal : ∀ h' x, (f_X6_club_63 N 46 c (iz i) (iz (pc i)) h (fun v0 v1 v2 h => f_X6_club_35 N n v0 v1 v2 h)) = some (iz x, h') → ((gI h c 1 2).bind fun t1 => if ((1 : Int32) <<< (t1 &&& 31)) ≤ iz i then some ((-5 : Int32), h) else b2 (f_J6_bitCount_0f7a4 N (iz i) h) fun t6 h5 => if t6 = (2 : Int32) then f_X6_club_63 N 46 c (iz i) t6 h5 (fun v0 v1 v2 h => f_X6_club_35 N n v0 v1 v2 h) else if t6 = (3 : Int32) then f_X6_club_63 N 46 c (iz i) t6 h5 (fun v0 v1 v2 h => f_X6_club_35 N n v0 v1 v2 h) else f_X6_club_35 N n 46 c (iz i + 1) h5) = some (iz x, h') := by
        intro h' x ex
        rcases h2 with h2 | h2
        · have h3 : (pc i : Int) = 2 := by omega
          simp (disch := omega) only [↓kC R, ↓kT R, ↓kF R, ↓kL R, ↓kLk R, ↓kL0 R, ↓kL1 R, ↓kL2 R, ↓kL3 R, ↓kL4 R, ↓kL5 R, ↓kA0 R, ↓kA1 R, ↓kA2 R, ↓kA3 R, ↓kA4 R, ↓kA5 R, ↓kA6 R, ↓kA7 R, ↓kA8 R, ↓kA9 R, ↓kX0 R, ↓kX1 R, ↓kX2 R, ↓kX3 R, ↓kX4 R, ↓kX5 R, ↓kX6 R, ↓kX7 R, ↓kX8 R, ↓kX1m R, ↓kY0 R, ↓kY1 R, ↓kY2 R, ↓kY0m R, ↓kY1m R, ↓reduceIte, ↓bq hb, if_true, if_false, Option.bind_some, b2_some, il0, il1, il2, il3, il4, il5, il6, il7, il8, il9, il10, il11, il12, il13, il14, il15, il16, il17, il18, il19, il20, il21, il22, il23, il24, il25, il26, il27, il28, il29, il30, il31, il32, il33, il36, il38, il39, il40, il41, il48, il50, il51, il57, il59, il60, il61, il62, il63, il70, il96, il99, il100, il101, il102, il103, il104, il105, il106, il107, il108, il109, il110, il111, il112, il115, il116, il120, il121, il124, il200, il240, il255, il288, il360, il420, il999, il1000, il114292, il152755, il402789, il435589, il463922, il533611, il631470, iz_add, iz_sub, iz_mul, iz_neg, iz_le, iz_lt, iz_eq, hsh, hc, h3]
          rw [h3] at ex; exact ex
        · have h3 : (pc i : Int) = 3 := by omega
          have h4 : ¬ ((3 : Int) = 2) := by decide
          simp (disch := omega) only [↓kC R, ↓kT R, ↓kF R, ↓kL R, ↓kLk R, ↓kL0 R, ↓kL1 R, ↓kL2 R, ↓kL3 R, ↓kL4 R, ↓kL5 R, ↓kA0 R, ↓kA1 R, ↓kA2 R, ↓kA3 R, ↓kA4 R, ↓kA5 R, ↓kA6 R, ↓kA7 R, ↓kA8 R, ↓kA9 R, ↓kX0 R, ↓kX1 R, ↓kX2 R, ↓kX3 R, ↓kX4 R, ↓kX5 R, ↓kX6 R, ↓kX7 R, ↓kX8 R, ↓kX1m R, ↓kY0 R, ↓kY1 R, ↓kY2 R, ↓kY0m R, ↓kY1m R, ↓reduceIte, ↓bq hb, if_true, if_false, Option.bind_some, b2_some, il0, il1, il2, il3, il4, il5, il6, il7, il8, il9, il10, il11, il12, il13, il14, il15, il16, il17, il18, il19, il20, il21, il22, il23, il24, il25, il26, il27, il28, il29, il30, il31, il32, il33, il36, il38, il39, il40, il41, il48, il50, il51, il57, il59, il60, il61, il62, il63, il70, il96, il99, il100, il101, il102, il103, il104, il105, il106, il107, il108, il109, il110, il111, il112, il115, il116, il120, il121, il124, il200, il240, il255, il288, il360, il420, il999, il1000, il114292, il152755, il402789, il435589, il463922, il533611, il631470, iz_add, iz_sub, iz_mul, iz_neg, iz_le, iz_lt, iz_eq, hsh, hc, h3, h4]
          rw [h3] at ex; exact ex
      cases hfs : fs (clubP V i) 0 (vT V) with
      | some t =>
        rw [hfs] at e1
        exact ⟨h1, goal h1 _ e1, R1, K1⟩
      | none =>
        rw [hfs] at e1
        obtain ⟨h', e, r⟩ := ih (i + 1) n h1 (by omega) (by omega) R1 s21 K1
        exact ⟨h', goal h' _ (e1.trans e), r⟩
    · have h3 : ¬ ((pc i : Int) = 2) := by omega
      have h4 : ¬ ((pc i : Int) = 3) := by omega
      obtain ⟨h', e, r⟩ := ih (i + 1) n h (by omega) (by omega) R s2 K
      refine ⟨h', ?_, r⟩
      rw [if_neg h2]
      simp (disch := omega) only [↓kC R, ↓kT R, ↓kF R, ↓kL R, ↓kLk R, ↓kL0 R, ↓kL1 R, ↓kL2 R, ↓kL3 R, ↓kL4 R, ↓kL5 R, ↓kA0 R, ↓kA1 R, ↓kA2 R, ↓kA3 R, ↓kA4 R, ↓kA5 R, ↓kA6 R, ↓kA7 R, ↓kA8 R, ↓kA9 R, ↓kX0 R, ↓kX1 R, ↓kX2 R, ↓kX3 R, ↓kX4 R, ↓kX5 R, ↓kX6 R, ↓kX7 R, ↓kX8 R, ↓kX1m R, ↓kY0 R, ↓kY1 R, ↓kY2 R, ↓kY0m R, ↓kY1m R, ↓reduceIte, ↓bq hb, if_true, if_false, Option.bind_some, b2_some, il0, il1, il2, il3, il4, il5, il6, il7, il8, il9, il10, il11, il12, il13, il14, il15, il16, il17, il18, il19, il20, il21, il22, il23, il24, il25, il26, il27, il28, il29, il30, il31, il32, il33, il36, il38, il39, il40, il41, il48, il50, il51, il57, il59, il60, il61, il62, il63, il70, il96, il99, il100, il101, il102, il103, il104, il105, il106, il107, il108, il109, il110, il111, il112, il115, il116, il120, il121, il124, il200, il240, il255, il288, il360, il420, il999, il1000, il114292, il152755, il402789, il435589, il463922, il533611, il631470, iz_add, iz_sub, iz_mul, iz_neg, iz_le, iz_lt, iz_eq, hsh, hc, h3, h4]
      simpa using e
theorem l_club_2 {h0 : Mem} (w : WF V) (q : CP c p) (S0 : RS h0) (hN : 300 ≤ N) : ∀ (d i n : Nat) (h : Mem), i + d = vF V → d < n → RepC h c p V → (∀ j : Nat, j < i → h.2.1 49 j = iz (worth V j (va V 7 j))) → KC c h0 h → ∃ h', f_X6_club_2 N n 46 c (iz i) h = some (iz (clubS V), h') ∧ RepC h' c p V ∧ KC c h0 h' := by
  intro d
  have hF := w.F
  have hT := w.T
  have h2F := two_le (vF V) hF
  induction d with
  | zero =>
    intro i n h hi hn R s2 K
    obtain ⟨n, rfl⟩ : ∃ k, n = k + 1 := ⟨n - 1, by omega⟩
    rw [f_X6_club_2]
    obtain rfl : i = vF V := by omega
    obtain ⟨h', e, r⟩ := l_club_35 w q S0 hN h2F (sh_dec (vF V) hF) (2 ^ vF V) 0 N h (by omega) (by omega) R s2 K
    refine ⟨h', ?_, r⟩
    simp (disch := omega) only [↓kC R, ↓kT R, ↓kF R, ↓kL R, ↓kLk R, ↓kL0 R, ↓kL1 R, ↓kL2 R, ↓kL3 R, ↓kL4 R, ↓kL5 R, ↓kA0 R, ↓kA1 R, ↓kA2 R, ↓kA3 R, ↓kA4 R, ↓kA5 R, ↓kA6 R, ↓kA7 R, ↓kA8 R, ↓kA9 R, ↓kX0 R, ↓kX1 R, ↓kX2 R, ↓kX3 R, ↓kX4 R, ↓kX5 R, ↓kX6 R, ↓kX7 R, ↓kX8 R, ↓kX1m R, ↓kY0 R, ↓kY1 R, ↓kY2 R, ↓kY0m R, ↓kY1m R, ↓reduceIte, if_true, if_false, Option.bind_some, b2_some, il0, il1, il2, il3, il4, il5, il6, il7, il8, il9, il10, il11, il12, il13, il14, il15, il16, il17, il18, il19, il20, il21, il22, il23, il24, il25, il26, il27, il28, il29, il30, il31, il32, il33, il36, il38, il39, il40, il41, il48, il50, il51, il57, il59, il60, il61, il62, il63, il70, il96, il99, il100, il101, il102, il103, il104, il105, il106, il107, il108, il109, il110, il111, il112, il115, il116, il120, il121, il124, il200, il240, il255, il288, il360, il420, il999, il1000, il114292, il152755, il402789, il435589, il463922, il533611, il631470, iz_add, iz_sub, iz_mul, iz_neg, iz_le, iz_lt, iz_eq, Int.le_refl]
    exact e
  | succ d ih =>
    intro i n h hi hn R s2 K
    obtain ⟨n, rfl⟩ : ∃ k, n = k + 1 := ⟨n - 1, by omega⟩
    rw [f_X6_club_2]
    have hc : ¬ ((vF V : Int) ≤ i) := by omega
    have S := S0.kc K
    have hwi := w.i (j := i) (by omega) (by omega)
    have hwf := w.f (j := i) (by omega) (by omega)
    have hwo := l_worth R w (N := N) (by omega) (f := i) (t := va V 7 i) (by omega) (by omega)
    obtain ⟨h', e, r⟩ := ih (i + 1) n (wr h 49 (upd (h.2.1 49) (Int.toNat i) (iz (worth V i (va V 7 i))))) (by omega) (by omega) (rep_oth R q (by decide)) (fun j hj => by
      rw [wr_eq, upd_at]
      by_cases hji : j = i
      · subst hji; rw [if_pos (by omega)]
      · rw [if_neg (by omega)]; exact s2 j (by omega)) (K.tr (KC.wr (by simp)))
    refine ⟨h', ?_, r⟩
    simp (disch := omega) only [↓kC R, ↓kT R, ↓kF R, ↓kL R, ↓kLk R, ↓kL0 R, ↓kL1 R, ↓kL2 R, ↓kL3 R, ↓kL4 R, ↓kL5 R, ↓kA0 R, ↓kA1 R, ↓kA2 R, ↓kA3 R, ↓kA4 R, ↓kA5 R, ↓kA6 R, ↓kA7 R, ↓kA8 R, ↓kA9 R, ↓kX0 R, ↓kX1 R, ↓kX2 R, ↓kX3 R, ↓kX4 R, ↓kX5 R, ↓kX6 R, ↓kX7 R, ↓kX8 R, ↓kX1m R, ↓kY0 R, ↓kY1 R, ↓kY2 R, ↓kY0m R, ↓kY1m R, ↓reduceIte, ↓bq hwo, ↓k49 S, ↓kS49 S, if_true, if_false, Option.bind_some, b2_some, il0, il1, il2, il3, il4, il5, il6, il7, il8, il9, il10, il11, il12, il13, il14, il15, il16, il17, il18, il19, il20, il21, il22, il23, il24, il25, il26, il27, il28, il29, il30, il31, il32, il33, il36, il38, il39, il40, il41, il48, il50, il51, il57, il59, il60, il61, il62, il63, il70, il96, il99, il100, il101, il102, il103, il104, il105, il106, il107, il108, il109, il110, il111, il112, il115, il116, il120, il121, il124, il200, il240, il255, il288, il360, il420, il999, il1000, il114292, il152755, il402789, il435589, il463922, il533611, il631470, iz_add, iz_sub, iz_mul, iz_neg, iz_le, iz_lt, iz_eq, hc]
    simpa using e
theorem l_club {h : Mem} (R : RepC h c p V) (w : WF V) (q : CP c p) (S : RS h) (hN : 300 ≤ N) : ∃ h', f_X6_club N 46 c h = some (iz (clubS V), h') ∧ RepC h' c p V ∧ KC c h h' := by
  have hF := w.F
  exact l_club_2 w q S hN (vF V) 0 N h (by omega) (by omega) R (fun j hj => absurd hj (by omega)) KC.rf
end
