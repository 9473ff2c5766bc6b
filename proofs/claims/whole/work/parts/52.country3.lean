section
variable {h : Mem} {c p : Nat} {V : Vw} {N : Nat}
theorem l_differ_2 {c' p' : Nat} {V' : Vw} (R : RepC h c p V) (w : WF V) (R' : RepC h c' p' V') (w' : WF V') (hN : 200 ≤ N) {f : Int} (hf : 0 ≤ f ∧ f < 8) : ∀ (d i n : Nat), i + d = vF V → d < n → f_X1_othersDiffer_2 N n c c' (iz f) (iz i) h = some (iz (match fs (differP V V' f) i d with
    | some _ => 1
    | none => 0), h) := by
  intro d
  have hF := w.F
  induction d with
  | zero =>
    intro i n hi hn
    obtain ⟨n, rfl⟩ : ∃ k, n = k + 1 := ⟨n - 1, by omega⟩
    rw [f_X1_othersDiffer_2]
    obtain rfl : i = vF V := by omega
    simp (disch := omega) only [↓kC R, ↓kT R, ↓kF R, ↓kL R, ↓kLk R, ↓kL0 R, ↓kL1 R, ↓kL2 R, ↓kL3 R, ↓kL4 R, ↓kL5 R, ↓kA0 R, ↓kA1 R, ↓kA2 R, ↓kA3 R, ↓kA4 R, ↓kA5 R, ↓kA6 R, ↓kA7 R, ↓kA8 R, ↓kA9 R, ↓kX0 R, ↓kX1 R, ↓kX2 R, ↓kX3 R, ↓kX4 R, ↓kX5 R, ↓kX6 R, ↓kX7 R, ↓kX8 R, ↓kX1m R, ↓kY0 R, ↓kY1 R, ↓kY2 R, ↓kY0m R, ↓kY1m R, ↓reduceIte, if_true, if_false, Option.bind_some, b2_some, il0, il1, il2, il3, il4, il5, il6, il7, il8, il9, il10, il11, il12, il13, il14, il15, il16, il17, il18, il19, il20, il21, il22, il23, il24, il25, il26, il27, il28, il29, il30, il31, il32, il33, il36, il38, il39, il40, il41, il48, il50, il51, il57, il59, il60, il61, il62, il63, il70, il96, il99, il100, il101, il102, il103, il104, il105, il106, il107, il108, il109, il110, il111, il112, il115, il116, il120, il121, il124, il200, il240, il255, il288, il360, il420, il999, il1000, il114292, il152755, il402789, il435589, il463922, il533611, il631470, iz_add, iz_sub, iz_mul, iz_neg, iz_le, iz_lt, iz_eq, Int.le_refl]
    rfl
  | succ d ih =>
    intro i n hi hn
    obtain ⟨n, rfl⟩ : ∃ k, n = k + 1 := ⟨n - 1, by omega⟩
    rw [f_X1_othersDiffer_2]
    have hc : ¬ ((vF V : Int) ≤ i) := by omega
    have e := ih (i + 1) n (by omega) (by omega)
    have h5 := w.f (j := i) (by omega) (by omega)
    have h6 := w'.f (j := i) (by omega) (by omega)
    rw [fs]
    by_cases h1 : (i : Int) = f
    · have hp : differP V V' f i = false := by simp [differP, h1]
      subst h1
      simp (disch := omega) only [↓kC R, ↓kT R, ↓kF R, ↓kL R, ↓kLk R, ↓kL0 R, ↓kL1 R, ↓kL2 R, ↓kL3 R, ↓kL4 R, ↓kL5 R, ↓kA0 R, ↓kA1 R, ↓kA2 R, ↓kA3 R, ↓kA4 R, ↓kA5 R, ↓kA6 R, ↓kA7 R, ↓kA8 R, ↓kA9 R, ↓kX0 R, ↓kX1 R, ↓kX2 R, ↓kX3 R, ↓kX4 R, ↓kX5 R, ↓kX6 R, ↓kX7 R, ↓kX8 R, ↓kX1m R, ↓kY0 R, ↓kY1 R, ↓kY2 R, ↓kY0m R, ↓kY1m R, ↓reduceIte, if_true, if_false, Option.bind_some, b2_some, il0, il1, il2, il3, il4, il5, il6, il7, il8, il9, il10, il11, il12, il13, il14, il15, il16, il17, il18, il19, il20, il21, il22, il23, il24, il25, il26, il27, il28, il29, il30, il31, il32, il33, il36, il38, il39, il40, il41, il48, il50, il51, il57, il59, il60, il61, il62, il63, il70, il96, il99, il100, il101, il102, il103, il104, il105, il106, il107, il108, il109, il110, il111, il112, il115, il116, il120, il121, il124, il200, il240, il255, il288, il360, il420, il999, il1000, il114292, il152755, il402789, il435589, il463922, il533611, il631470, iz_add, iz_sub, iz_mul, iz_neg, iz_le, iz_lt, iz_eq, hc, hp]
      simpa using e
    · by_cases h2 : va V 7 i = va V' 7 i
      · have hp : differP V V' f i = false := by simp [differP, h2]
        simp (disch := omega) only [↓kC R, ↓kT R, ↓kF R, ↓kL R, ↓kLk R, ↓kL0 R, ↓kL1 R, ↓kL2 R, ↓kL3 R, ↓kL4 R, ↓kL5 R, ↓kA0 R, ↓kA1 R, ↓kA2 R, ↓kA3 R, ↓kA4 R, ↓kA5 R, ↓kA6 R, ↓kA7 R, ↓kA8 R, ↓kA9 R, ↓kX0 R, ↓kX1 R, ↓kX2 R, ↓kX3 R, ↓kX4 R, ↓kX5 R, ↓kX6 R, ↓kX7 R, ↓kX8 R, ↓kX1m R, ↓kY0 R, ↓kY1 R, ↓kY2 R, ↓kY0m R, ↓kY1m R, ↓reduceIte, ↓kA7 R', ↓kX7 R', if_true, if_false, Option.bind_some, b2_some, il0, il1, il2, il3, il4, il5, il6, il7, il8, il9, il10, il11, il12, il13, il14, il15, il16, il17, il18, il19, il20, il21, il22, il23, il24, il25, il26, il27, il28, il29, il30, il31, il32, il33, il36, il38, il39, il40, il41, il48, il50, il51, il57, il59, il60, il61, il62, il63, il70, il96, il99, il100, il101, il102, il103, il104, il105, il106, il107, il108, il109, il110, il111, il112, il115, il116, il120, il121, il124, il200, il240, il255, il288, il360, il420, il999, il1000, il114292, il152755, il402789, il435589, il463922, il533611, il631470, iz_add, iz_sub, iz_mul, iz_neg, iz_le, iz_lt, iz_eq, hc, hp, h1, h2]
        simpa using e
      · have hp : differP V V' f i = true := by simp [differP, h2, h1]
        simp (disch := omega) only [↓kC R, ↓kT R, ↓kF R, ↓kL R, ↓kLk R, ↓kL0 R, ↓kL1 R, ↓kL2 R, ↓kL3 R, ↓kL4 R, ↓kL5 R, ↓kA0 R, ↓kA1 R, ↓kA2 R, ↓kA3 R, ↓kA4 R, ↓kA5 R, ↓kA6 R, ↓kA7 R, ↓kA8 R, ↓kA9 R, ↓kX0 R, ↓kX1 R, ↓kX2 R, ↓kX3 R, ↓kX4 R, ↓kX5 R, ↓kX6 R, ↓kX7 R, ↓kX8 R, ↓kX1m R, ↓kY0 R, ↓kY1 R, ↓kY2 R, ↓kY0m R, ↓kY1m R, ↓reduceIte, ↓kA7 R', ↓kX7 R', if_true, if_false, Option.bind_some, b2_some, il0, il1, il2, il3, il4, il5, il6, il7, il8, il9, il10, il11, il12, il13, il14, il15, il16, il17, il18, il19, il20, il21, il22, il23, il24, il25, il26, il27, il28, il29, il30, il31, il32, il33, il36, il38, il39, il40, il41, il48, il50, il51, il57, il59, il60, il61, il62, il63, il70, il96, il99, il100, il101, il102, il103, il104, il105, il106, il107, il108, il109, il110, il111, il112, il115, il116, il120, il121, il124, il200, il240, il255, il288, il360, il420, il999, il1000, il114292, il152755, il402789, il435589, il463922, il533611, il631470, iz_add, iz_sub, iz_mul, iz_neg, iz_le, iz_lt, iz_eq, hc, hp, h1, h2]
theorem l_othersDiffer {c' p' : Nat} {V' : Vw} (R : RepC h c p V) (w : WF V) (R' : RepC h c' p' V') (w' : WF V') (hN : 200 ≤ N) {f : Int} (hf : 0 ≤ f ∧ f < 8) : f_X1_othersDiffer N c c' (iz f) h = some (iz (match fs (differP V V' f) 0 (vF V) with
    | some _ => 1
    | none => 0), h) := by
  have hF := w.F
  exact l_differ_2 R w R' w' hN hf (vF V) 0 N (by omega) (by omega)
theorem sorts_bd (t s : Int) (n : Nat) : 0 * (n : Int) ≤ sorts V t s n ∧ sorts V t s n ≤ 1 * n := sm_bd n (fun i _ => by split <;> omega)
theorem l_double_12 (R : RepC h c p V) (w : WF V) {t : Int} (ht : 0 ≤ t ∧ t < 4) {s : Nat} (hs : s < 4) (k2 : Nat → Int32 → Int32 → Mem → Option (Int32 × Mem)) : ∀ (d i n : Nat), i + d = vF V → d < n → f_X1_doubledSort_12 N n c (iz t) (iz s) (iz (sorts V t s i)) (iz i) h k2 = if doubleP V t s = true then some (iz s, h) else k2 c (iz t) (iz (s + 1)) h := by
  intro d
  have hF := w.F
  induction d with
  | zero =>
    intro i n hi hn
    obtain ⟨n, rfl⟩ : ∃ k, n = k + 1 := ⟨n - 1, by omega⟩
    rw [f_X1_doubledSort_12]
    obtain rfl : i = vF V := by omega
    have hb := sorts_bd (V := V) t s (vF V)
    by_cases h1 : sorts V t s (vF V) < 2
    · have hp : ¬ (doubleP V t s = true) := by simp [doubleP]; omega
      rw [if_neg hp]
      simp (disch := omega) only [↓kC R, ↓kT R, ↓kF R, ↓kL R, ↓kLk R, ↓kL0 R, ↓kL1 R, ↓kL2 R, ↓kL3 R, ↓kL4 R, ↓kL5 R, ↓kA0 R, ↓kA1 R, ↓kA2 R, ↓kA3 R, ↓kA4 R, ↓kA5 R, ↓kA6 R, ↓kA7 R, ↓kA8 R, ↓kA9 R, ↓kX0 R, ↓kX1 R, ↓kX2 R, ↓kX3 R, ↓kX4 R, ↓kX5 R, ↓kX6 R, ↓kX7 R, ↓kX8 R, ↓kX1m R, ↓kY0 R, ↓kY1 R, ↓kY2 R, ↓kY0m R, ↓kY1m R, ↓reduceIte, if_true, if_false, Option.bind_some, b2_some, il0, il1, il2, il3, il4, il5, il6, il7, il8, il9, il10, il11, il12, il13, il14, il15, il16, il17, il18, il19, il20, il21, il22, il23, il24, il25, il26, il27, il28, il29, il30, il31, il32, il33, il36, il38, il39, il40, il41, il48, il50, il51, il57, il59, il60, il61, il62, il63, il70, il96, il99, il100, il101, il102, il103, il104, il105, il106, il107, il108, il109, il110, il111, il112, il115, il116, il120, il121, il124, il200, il240, il255, il288, il360, il420, il999, il1000, il114292, il152755, il402789, il435589, il463922, il533611, il631470, iz_add, iz_sub, iz_mul, iz_neg, iz_le, iz_lt, iz_eq, Int.le_refl, h1]
    · have hp : doubleP V t s = true := by simp [doubleP]; omega
      rw [if_pos hp]
      simp (disch := omega) only [↓kC R, ↓kT R, ↓kF R, ↓kL R, ↓kLk R, ↓kL0 R, ↓kL1 R, ↓kL2 R, ↓kL3 R, ↓kL4 R, ↓kL5 R, ↓kA0 R, ↓kA1 R, ↓kA2 R, ↓kA3 R, ↓kA4 R, ↓kA5 R, ↓kA6 R, ↓kA7 R, ↓kA8 R, ↓kA9 R, ↓kX0 R, ↓kX1 R, ↓kX2 R, ↓kX3 R, ↓kX4 R, ↓kX5 R, ↓kX6 R, ↓kX7 R, ↓kX8 R, ↓kX1m R, ↓kY0 R, ↓kY1 R, ↓kY2 R, ↓kY0m R, ↓kY1m R, ↓reduceIte, if_true, if_false, Option.bind_some, b2_some, il0, il1, il2, il3, il4, il5, il6, il7, il8, il9, il10, il11, il12, il13, il14, il15, il16, il17, il18, il19, il20, il21, il22, il23, il24, il25, il26, il27, il28, il29, il30, il31, il32, il33, il36, il38, il39, il40, il41, il48, il50, il51, il57, il59, il60, il61, il62, il63, il70, il96, il99, il100, il101, il102, il103, il104, il105, il106, il107, il108, il109, il110, il111, il112, il115, il116, il120, il121, il124, il200, il240, il255, il288, il360, il420, il999, il1000, il114292, il152755, il402789, il435589, il463922, il533611, il631470, iz_add, iz_sub, iz_mul, iz_neg, iz_le, iz_lt, iz_eq, Int.le_refl, h1]
  | succ d ih =>
    intro i n hi hn
    obtain ⟨n, rfl⟩ : ∃ k, n = k + 1 := ⟨n - 1, by omega⟩
    rw [f_X1_doubledSort_12]
    have hc : ¬ ((vF V : Int) ≤ i) := by omega
    have e := ih (i + 1) n (by omega) (by omega)
    have h5 := w.f (j := i) (by omega) (by omega)
    have hb := sorts_bd (V := V) t s i
    unfold sorts at e ⊢
    rw [sm_succ] at e
    by_cases h1 : va V 7 i = t
    · by_cases h2 : va V 5 i = s
      · rw [if_pos ⟨h1, h2⟩] at e
        simp (disch := omega) only [↓kC R, ↓kT R, ↓kF R, ↓kL R, ↓kLk R, ↓kL0 R, ↓kL1 R, ↓kL2 R, ↓kL3 R, ↓kL4 R, ↓kL5 R, ↓kA0 R, ↓kA1 R, ↓kA2 R, ↓kA3 R, ↓kA4 R, ↓kA5 R, ↓kA6 R, ↓kA7 R, ↓kA8 R, ↓kA9 R, ↓kX0 R, ↓kX1 R, ↓kX2 R, ↓kX3 R, ↓kX4 R, ↓kX5 R, ↓kX6 R, ↓kX7 R, ↓kX8 R, ↓kX1m R, ↓kY0 R, ↓kY1 R, ↓kY2 R, ↓kY0m R, ↓kY1m R, ↓reduceIte, if_true, if_false, Option.bind_some, b2_some, il0, il1, il2, il3, il4, il5, il6, il7, il8, il9, il10, il11, il12, il13, il14, il15, il16, il17, il18, il19, il20, il21, il22, il23, il24, il25, il26, il27, il28, il29, il30, il31, il32, il33, il36, il38, il39, il40, il41, il48, il50, il51, il57, il59, il60, il61, il62, il63, il70, il96, il99, il100, il101, il102, il103, il104, il105, il106, il107, il108, il109, il110, il111, il112, il115, il116, il120, il121, il124, il200, il240, il255, il288, il360, il420, il999, il1000, il114292, il152755, il402789, il435589, il463922, il533611, il631470, iz_add, iz_sub, iz_mul, iz_neg, iz_le, iz_lt, iz_eq, hc, h1, h2]
        simpa using e
      · rw [if_neg (fun z => h2 z.2)] at e
        simp (disch := omega) only [↓kC R, ↓kT R, ↓kF R, ↓kL R, ↓kLk R, ↓kL0 R, ↓kL1 R, ↓kL2 R, ↓kL3 R, ↓kL4 R, ↓kL5 R, ↓kA0 R, ↓kA1 R, ↓kA2 R, ↓kA3 R, ↓kA4 R, ↓kA5 R, ↓kA6 R, ↓kA7 R, ↓kA8 R, ↓kA9 R, ↓kX0 R, ↓kX1 R, ↓kX2 R, ↓kX3 R, ↓kX4 R, ↓kX5 R, ↓kX6 R, ↓kX7 R, ↓kX8 R, ↓kX1m R, ↓kY0 R, ↓kY1 R, ↓kY2 R, ↓kY0m R, ↓kY1m R, ↓reduceIte, if_true, if_false, Option.bind_some, b2_some, il0, il1, il2, il3, il4, il5, il6, il7, il8, il9, il10, il11, il12, il13, il14, il15, il16, il17, il18, il19, il20, il21, il22, il23, il24, il25, il26, il27, il28, il29, il30, il31, il32, il33, il36, il38, il39, il40, il41, il48, il50, il51, il57, il59, il60, il61, il62, il63, il70, il96, il99, il100, il101, il102, il103, il104, il105, il106, il107, il108, il109, il110, il111, il112, il115, il116, il120, il121, il124, il200, il240, il255, il288, il360, il420, il999, il1000, il114292, il152755, il402789, il435589, il463922, il533611, il631470, iz_add, iz_sub, iz_mul, iz_neg, iz_le, iz_lt, iz_eq, hc, h1, h2]
        simpa using e
    · rw [if_neg (fun z => h1 z.1)] at e
      simp (disch := omega) only [↓kC R, ↓kT R, ↓kF R, ↓kL R, ↓kLk R, ↓kL0 R, ↓kL1 R, ↓kL2 R, ↓kL3 R, ↓kL4 R, ↓kL5 R, ↓kA0 R, ↓kA1 R, ↓kA2 R, ↓kA3 R, ↓kA4 R, ↓kA5 R, ↓kA6 R, ↓kA7 R, ↓kA8 R, ↓kA9 R, ↓kX0 R, ↓kX1 R, ↓kX2 R, ↓kX3 R, ↓kX4 R, ↓kX5 R, ↓kX6 R, ↓kX7 R, ↓kX8 R, ↓kX1m R, ↓kY0 R, ↓kY1 R, ↓kY2 R, ↓kY0m R, ↓kY1m R, ↓reduceIte, if_true, if_false, Option.bind_some, b2_some, il0, il1, il2, il3, il4, il5, il6, il7, il8, il9, il10, il11, il12, il13, il14, il15, il16, il17, il18, il19, il20, il21, il22, il23, il24, il25, il26, il27, il28, il29, il30, il31, il32, il33, il36, il38, il39, il40, il41, il48, il50, il51, il57, il59, il60, il61, il62, il63, il70, il96, il99, il100, il101, il102, il103, il104, il105, il106, il107, il108, il109, il110, il111, il112, il115, il116, il120, il121, il124, il200, il240, il255, il288, il360, il420, il999, il1000, il114292, il152755, il402789, il435589, il463922, il533611, il631470, iz_add, iz_sub, iz_mul, iz_neg, iz_le, iz_lt, iz_eq, hc, h1]
      simpa using e
theorem l_double_2 (R : RepC h c p V) (w : WF V) (hN : 200 ≤ N) {t : Int} (ht : 0 ≤ t ∧ t < 4) : ∀ (d i n : Nat), i + d = 4 → d < n → f_X1_doubledSort_2 N n c (iz t) (iz i) h = some (iz (match fs (doubleP V t) i d with
    | some s => s
    | none => -1), h) := by
  intro d
  have hF := w.F
  induction d with
  | zero =>
    intro i n hi hn
    obtain ⟨n, rfl⟩ : ∃ k, n = k + 1 := ⟨n - 1, by omega⟩
    rw [f_X1_doubledSort_2]
    obtain rfl : i = 4 := by omega
    simp (disch := omega) only [if_true, if_false, Option.bind_some, b2_some, il0, il1, il2, il3, il4, il5, il6, il7, il8, il9, il10, il11, il12, il13, il14, il15, il16, il17, il18, il19, il20, il21, il22, il23, il24, il25, il26, il27, il28, il29, il30, il31, il32, il33, il36, il38, il39, il40, il41, il48, il50, il51, il57, il59, il60, il61, il62, il63, il70, il96, il99, il100, il101, il102, il103, il104, il105, il106, il107, il108, il109, il110, il111, il112, il115, il116, il120, il121, il124, il200, il240, il255, il288, il360, il420, il999, il1000, il114292, il152755, il402789, il435589, il463922, il533611, il631470, iz_add, iz_sub, iz_mul, iz_neg, iz_le, iz_lt, iz_eq]
    rfl
  | succ d ih =>
    intro i n hi hn
    obtain ⟨n, rfl⟩ : ∃ k, n = k + 1 := ⟨n - 1, by omega⟩
    rw [f_X1_doubledSort_2]
    have hc : ¬ ((4 : Int) ≤ i) := by omega
    have e := ih (i + 1) n (by omega) (by omega)
    have e2 := l_double_12 (N := N) R w ht (s := i) (by omega) (fun v0 v1 v2 h => f_X1_doubledSort_2 N n v0 v1 v2 h) (vF V) 0 N (by omega) (by omega)
    rw [fs]
    simp (disch := omega) only [if_true, if_false, Option.bind_some, b2_some, il0, il1, il2, il3, il4, il5, il6, il7, il8, il9, il10, il11, il12, il13, il14, il15, il16, il17, il18, il19, il20, il21, il22, il23, il24, il25, il26, il27, il28, il29, il30, il31, il32, il33, il36, il38, il39, il40, il41, il48, il50, il51, il57, il59, il60, il61, il62, il63, il70, il96, il99, il100, il101, il102, il103, il104, il105, il106, il107, il108, il109, il110, il111, il112, il115, il116, il120, il121, il124, il200, il240, il255, il288, il360, il420, il999, il1000, il114292, il152755, il402789, il435589, il463922, il533611, il631470, iz_add, iz_sub, iz_mul, iz_neg, iz_le, iz_lt, iz_eq, hc]
    refine Eq.trans e2 ?_
    cases hd : doubleP V t i with
    | true => rfl
    | false => exact e
theorem l_doubledSort (R : RepC h c p V) (w : WF V) (hN : 200 ≤ N) {t : Int} (ht : 0 ≤ t ∧ t < 4) : f_X1_doubledSort N c (iz t) h = some (iz (match fs (doubleP V t) 0 4 with
    | some s => s
    | none => -1), h) := l_double_2 R w hN ht 4 0 N (by omega) (by omega)
theorem wishers_bd (t : Int) (n : Nat) : 0 * (n : Int) ≤ wishers V t n ∧ wishers V t n ≤ 1 * n := sm_bd n (fun i _ => by split <;> omega)
theorem l_sought_18 (R : RepC h c p V) (w : WF V) (hN : 200 ≤ N) {t : Nat} (ht : t < vT V) (k2 : Nat → Int32 → Mem → Option (Int32 × Mem)) : ∀ (d i n : Nat), i + d = vF V → d < n → f_X1_soughtTown_18 N n c (iz t) (iz (cnt V t + wishers V t i)) (iz i) h k2 = if soughtP V t = true then some (iz t, h) else k2 c (iz (t + 1)) h := by
  intro d
  have hF := w.F
  have hT := w.T
  have hcb := cnt_bd (V := V) t
  have hwt := w.t (j := t) (by omega) (by omega)
  induction d with
  | zero =>
    intro i n hi hn
    obtain ⟨n, rfl⟩ : ∃ k, n = k + 1 := ⟨n - 1, by omega⟩
    rw [f_X1_soughtTown_18]
    obtain rfl : i = vF V := by omega
    have hb := wishers_bd (V := V) t (vF V)
    by_cases h1 : cnt V t + wishers V t (vF V) ≤ va V 0 t
    · have hp : ¬ (soughtP V t = true) := by simp [soughtP]; omega
      rw [if_neg hp]
      simp (disch := omega) only [↓kC R, ↓kT R, ↓kF R, ↓kL R, ↓kLk R, ↓kL0 R, ↓kL1 R, ↓kL2 R, ↓kL3 R, ↓kL4 R, ↓kL5 R, ↓kA0 R, ↓kA1 R, ↓kA2 R, ↓kA3 R, ↓kA4 R, ↓kA5 R, ↓kA6 R, ↓kA7 R, ↓kA8 R, ↓kA9 R, ↓kX0 R, ↓kX1 R, ↓kX2 R, ↓kX3 R, ↓kX4 R, ↓kX5 R, ↓kX6 R, ↓kX7 R, ↓kX8 R, ↓kX1m R, ↓kY0 R, ↓kY1 R, ↓kY2 R, ↓kY0m R, ↓kY1m R, ↓reduceIte, if_true, if_false, Option.bind_some, b2_some, il0, il1, il2, il3, il4, il5, il6, il7, il8, il9, il10, il11, il12, il13, il14, il15, il16, il17, il18, il19, il20, il21, il22, il23, il24, il25, il26, il27, il28, il29, il30, il31, il32, il33, il36, il38, il39, il40, il41, il48, il50, il51, il57, il59, il60, il61, il62, il63, il70, il96, il99, il100, il101, il102, il103, il104, il105, il106, il107, il108, il109, il110, il111, il112, il115, il116, il120, il121, il124, il200, il240, il255, il288, il360, il420, il999, il1000, il114292, il152755, il402789, il435589, il463922, il533611, il631470, iz_add, iz_sub, iz_mul, iz_neg, iz_le, iz_lt, iz_eq, Int.le_refl, h1]
    · have hp : soughtP V t = true := by simp [soughtP]; omega
      rw [if_pos hp]
      simp (disch := omega) only [↓kC R, ↓kT R, ↓kF R, ↓kL R, ↓kLk R, ↓kL0 R, ↓kL1 R, ↓kL2 R, ↓kL3 R, ↓kL4 R, ↓kL5 R, ↓kA0 R, ↓kA1 R, ↓kA2 R, ↓kA3 R, ↓kA4 R, ↓kA5 R, ↓kA6 R, ↓kA7 R, ↓kA8 R, ↓kA9 R, ↓kX0 R, ↓kX1 R, ↓kX2 R, ↓kX3 R, ↓kX4 R, ↓kX5 R, ↓kX6 R, ↓kX7 R, ↓kX8 R, ↓kX1m R, ↓kY0 R, ↓kY1 R, ↓kY2 R, ↓kY0m R, ↓kY1m R, ↓reduceIte, if_true, if_false, Option.bind_some, b2_some, il0, il1, il2, il3, il4, il5, il6, il7, il8, il9, il10, il11, il12, il13, il14, il15, il16, il17, il18, il19, il20, il21, il22, il23, il24, il25, il26, il27, il28, il29, il30, il31, il32, il33, il36, il38, il39, il40, il41, il48, il50, il51, il57, il59, il60, il61, il62, il63, il70, il96, il99, il100, il101, il102, il103, il104, il105, il106, il107, il108, il109, il110, il111, il112, il115, il116, il120, il121, il124, il200, il240, il255, il288, il360, il420, il999, il1000, il114292, il152755, il402789, il435589, il463922, il533611, il631470, iz_add, iz_sub, iz_mul, iz_neg, iz_le, iz_lt, iz_eq, Int.le_refl, h1]
  | succ d ih =>
    intro i n hi hn
    obtain ⟨n, rfl⟩ : ∃ k, n = k + 1 := ⟨n - 1, by omega⟩
    rw [f_X1_soughtTown_18]
    have hc : ¬ ((vF V : Int) ≤ i) := by omega
    have e := ih (i + 1) n (by omega) (by omega)
    have hwi := w.i (j := i) (by omega) (by omega)
    have h5 := w.f (j := i) (by omega) (by omega)
    have hb := wishers_bd (V := V) t i
    have hwo := l_worth R w hN (f := i) (t := va V 7 i) (by omega) (by omega)
    have hwt2 := l_worth R w hN (f := i) (t := t) (by omega) (by omega)
    have hb1 := worth_bd w (f := i) (t := va V 7 i) (by omega) (by omega)
    have hb2 := worth_bd w (f := i) (t := t) (by omega) (by omega)
    unfold wishers at e ⊢
    rw [sm_succ] at e
    by_cases h1 : va V 7 i = t
    · rw [if_neg (fun z => z.1 h1)] at e
      simp (disch := omega) only [↓kC R, ↓kT R, ↓kF R, ↓kL R, ↓kLk R, ↓kL0 R, ↓kL1 R, ↓kL2 R, ↓kL3 R, ↓kL4 R, ↓kL5 R, ↓kA0 R, ↓kA1 R, ↓kA2 R, ↓kA3 R, ↓kA4 R, ↓kA5 R, ↓kA6 R, ↓kA7 R, ↓kA8 R, ↓kA9 R, ↓kX0 R, ↓kX1 R, ↓kX2 R, ↓kX3 R, ↓kX4 R, ↓kX5 R, ↓kX6 R, ↓kX7 R, ↓kX8 R, ↓kX1m R, ↓kY0 R, ↓kY1 R, ↓kY2 R, ↓kY0m R, ↓kY1m R, ↓reduceIte, if_true, if_false, Option.bind_some, b2_some, il0, il1, il2, il3, il4, il5, il6, il7, il8, il9, il10, il11, il12, il13, il14, il15, il16, il17, il18, il19, il20, il21, il22, il23, il24, il25, il26, il27, il28, il29, il30, il31, il32, il33, il36, il38, il39, il40, il41, il48, il50, il51, il57, il59, il60, il61, il62, il63, il70, il96, il99, il100, il101, il102, il103, il104, il105, il106, il107, il108, il109, il110, il111, il112, il115, il116, il120, il121, il124, il200, il240, il255, il288, il360, il420, il999, il1000, il114292, il152755, il402789, il435589, il463922, il533611, il631470, iz_add, iz_sub, iz_mul, iz_neg, iz_le, iz_lt, iz_eq, hc, h1]
      simpa using e
    · by_cases h2 : va V 6 i < va V 3 t
      · rw [if_neg (fun z => by omega)] at e
        simp (disch := omega) only [↓kC R, ↓kT R, ↓kF R, ↓kL R, ↓kLk R, ↓kL0 R, ↓kL1 R, ↓kL2 R, ↓kL3 R, ↓kL4 R, ↓kL5 R, ↓kA0 R, ↓kA1 R, ↓kA2 R, ↓kA3 R, ↓kA4 R, ↓kA5 R, ↓kA6 R, ↓kA7 R, ↓kA8 R, ↓kA9 R, ↓kX0 R, ↓kX1 R, ↓kX2 R, ↓kX3 R, ↓kX4 R, ↓kX5 R, ↓kX6 R, ↓kX7 R, ↓kX8 R, ↓kX1m R, ↓kY0 R, ↓kY1 R, ↓kY2 R, ↓kY0m R, ↓kY1m R, ↓reduceIte, if_true, if_false, Option.bind_some, b2_some, il0, il1, il2, il3, il4, il5, il6, il7, il8, il9, il10, il11, il12, il13, il14, il15, il16, il17, il18, il19, il20, il21, il22, il23, il24, il25, il26, il27, il28, il29, il30, il31, il32, il33, il36, il38, il39, il40, il41, il48, il50, il51, il57, il59, il60, il61, il62, il63, il70, il96, il99, il100, il101, il102, il103, il104, il105, il106, il107, il108, il109, il110, il111, il112, il115, il116, il120, il121, il124, il200, il240, il255, il288, il360, il420, il999, il1000, il114292, il152755, il402789, il435589, il463922, il533611, il631470, iz_add, iz_sub, iz_mul, iz_neg, iz_le, iz_lt, iz_eq, hc, h1, h2]
        simpa using e
      · by_cases h3 : worth V i (va V 7 i) < worth V i t
        · have h4 : ¬ (worth V i t ≤ worth V i (va V 7 i)) := by omega
          rw [if_pos ⟨h1, by omega, h3⟩] at e
          simp (disch := omega) only [↓kC R, ↓kT R, ↓kF R, ↓kL R, ↓kLk R, ↓kL0 R, ↓kL1 R, ↓kL2 R, ↓kL3 R, ↓kL4 R, ↓kL5 R, ↓kA0 R, ↓kA1 R, ↓kA2 R, ↓kA3 R, ↓kA4 R, ↓kA5 R, ↓kA6 R, ↓kA7 R, ↓kA8 R, ↓kA9 R, ↓kX0 R, ↓kX1 R, ↓kX2 R, ↓kX3 R, ↓kX4 R, ↓kX5 R, ↓kX6 R, ↓kX7 R, ↓kX8 R, ↓kX1m R, ↓kY0 R, ↓kY1 R, ↓kY2 R, ↓kY0m R, ↓kY1m R, ↓reduceIte, if_true, if_false, Option.bind_some, b2_some, il0, il1, il2, il3, il4, il5, il6, il7, il8, il9, il10, il11, il12, il13, il14, il15, il16, il17, il18, il19, il20, il21, il22, il23, il24, il25, il26, il27, il28, il29, il30, il31, il32, il33, il36, il38, il39, il40, il41, il48, il50, il51, il57, il59, il60, il61, il62, il63, il70, il96, il99, il100, il101, il102, il103, il104, il105, il106, il107, il108, il109, il110, il111, il112, il115, il116, il120, il121, il124, il200, il240, il255, il288, il360, il420, il999, il1000, il114292, il152755, il402789, il435589, il463922, il533611, il631470, iz_add, iz_sub, iz_mul, iz_neg, iz_le, iz_lt, iz_eq, hc, h1, h2, ↓bq hwt2, ↓bq hwo, h4]
          simpa [Int.add_assoc] using e
        · have h4 : worth V i t ≤ worth V i (va V 7 i) := by omega
          rw [if_neg (fun z => h3 z.2.2)] at e
          simp (disch := omega) only [↓kC R, ↓kT R, ↓kF R, ↓kL R, ↓kLk R, ↓kL0 R, ↓kL1 R, ↓kL2 R, ↓kL3 R, ↓kL4 R, ↓kL5 R, ↓kA0 R, ↓kA1 R, ↓kA2 R, ↓kA3 R, ↓kA4 R, ↓kA5 R, ↓kA6 R, ↓kA7 R, ↓kA8 R, ↓kA9 R, ↓kX0 R, ↓kX1 R, ↓kX2 R, ↓kX3 R, ↓kX4 R, ↓kX5 R, ↓kX6 R, ↓kX7 R, ↓kX8 R, ↓kX1m R, ↓kY0 R, ↓kY1 R, ↓kY2 R, ↓kY0m R, ↓kY1m R, ↓reduceIte, if_true, if_false, Option.bind_some, b2_some, il0, il1, il2, il3, il4, il5, il6, il7, il8, il9, il10, il11, il12, il13, il14, il15, il16, il17, il18, il19, il20, il21, il22, il23, il24, il25, il26, il27, il28, il29, il30, il31, il32, il33, il36, il38, il39, il40, il41, il48, il50, il51, il57, il59, il60, il61, il62, il63, il70, il96, il99, il100, il101, il102, il103, il104, il105, il106, il107, il108, il109, il110, il111, il112, il115, il116, il120, il121, il124, il200, il240, il255, il288, il360, il420, il999, il1000, il114292, il152755, il402789, il435589, il463922, il533611, il631470, iz_add, iz_sub, iz_mul, iz_neg, iz_le, iz_lt, iz_eq, hc, h1, h2, ↓bq hwt2, ↓bq hwo, h4]
          simpa using e
theorem l_sought_2 (R : RepC h c p V) (w : WF V) (hN : 200 ≤ N) : ∀ (d i n : Nat), i + d = vT V → d < n → f_X1_soughtTown_2 N n c (iz i) h = some (iz (match fs (soughtP V) i d with
    | some t => t
    | none => -1), h) := by
  intro d
  have hF := w.F
  have hT := w.T
  induction d with
  | zero =>
    intro i n hi hn
    obtain ⟨n, rfl⟩ : ∃ k, n = k + 1 := ⟨n - 1, by omega⟩
    rw [f_X1_soughtTown_2]
    obtain rfl : i = vT V := by omega
    simp (disch := omega) only [↓kC R, ↓kT R, ↓kF R, ↓kL R, ↓kLk R, ↓kL0 R, ↓kL1 R, ↓kL2 R, ↓kL3 R, ↓kL4 R, ↓kL5 R, ↓kA0 R, ↓kA1 R, ↓kA2 R, ↓kA3 R, ↓kA4 R, ↓kA5 R, ↓kA6 R, ↓kA7 R, ↓kA8 R, ↓kA9 R, ↓kX0 R, ↓kX1 R, ↓kX2 R, ↓kX3 R, ↓kX4 R, ↓kX5 R, ↓kX6 R, ↓kX7 R, ↓kX8 R, ↓kX1m R, ↓kY0 R, ↓kY1 R, ↓kY2 R, ↓kY0m R, ↓kY1m R, ↓reduceIte, if_true, if_false, Option.bind_some, b2_some, il0, il1, il2, il3, il4, il5, il6, il7, il8, il9, il10, il11, il12, il13, il14, il15, il16, il17, il18, il19, il20, il21, il22, il23, il24, il25, il26, il27, il28, il29, il30, il31, il32, il33, il36, il38, il39, il40, il41, il48, il50, il51, il57, il59, il60, il61, il62, il63, il70, il96, il99, il100, il101, il102, il103, il104, il105, il106, il107, il108, il109, il110, il111, il112, il115, il116, il120, il121, il124, il200, il240, il255, il288, il360, il420, il999, il1000, il114292, il152755, il402789, il435589, il463922, il533611, il631470, iz_add, iz_sub, iz_mul, iz_neg, iz_le, iz_lt, iz_eq, Int.le_refl]
    rfl
  | succ d ih =>
    intro i n hi hn
    obtain ⟨n, rfl⟩ : ∃ k, n = k + 1 := ⟨n - 1, by omega⟩
    rw [f_X1_soughtTown_2]
    have hc : ¬ ((vT V : Int) ≤ i) := by omega
    have e := ih (i + 1) n (by omega) (by omega)
    have hcr := l_crowd R w hN (t := i) (by omega)
    have e2 := l_sought_18 (N := N) R w hN (t := i) (by omega) (fun v0 v1 h => f_X1_soughtTown_2 N n v0 v1 h) (vF V) 0 N (by omega) (by omega)
    have e3 : cnt V i + wishers V i 0 = cnt V i := by show cnt V i + 0 = _; omega
    rw [e3] at e2
    rw [fs]
    simp (disch := omega) only [↓kC R, ↓kT R, ↓kF R, ↓kL R, ↓kLk R, ↓kL0 R, ↓kL1 R, ↓kL2 R, ↓kL3 R, ↓kL4 R, ↓kL5 R, ↓kA0 R, ↓kA1 R, ↓kA2 R, ↓kA3 R, ↓kA4 R, ↓kA5 R, ↓kA6 R, ↓kA7 R, ↓kA8 R, ↓kA9 R, ↓kX0 R, ↓kX1 R, ↓kX2 R, ↓kX3 R, ↓kX4 R, ↓kX5 R, ↓kX6 R, ↓kX7 R, ↓kX8 R, ↓kX1m R, ↓kY0 R, ↓kY1 R, ↓kY2 R, ↓kY0m R, ↓kY1m R, ↓reduceIte, ↓bq hcr, if_true, if_false, Option.bind_some, b2_some, il0, il1, il2, il3, il4, il5, il6, il7, il8, il9, il10, il11, il12, il13, il14, il15, il16, il17, il18, il19, il20, il21, il22, il23, il24, il25, il26, il27, il28, il29, il30, il31, il32, il33, il36, il38, il39, il40, il41, il48, il50, il51, il57, il59, il60, il61, il62, il63, il70, il96, il99, il100, il101, il102, il103, il104, il105, il106, il107, il108, il109, il110, il111, il112, il115, il116, il120, il121, il124, il200, il240, il255, il288, il360, il420, il999, il1000, il114292, il152755, il402789, il435589, il463922, il533611, il631470, iz_add, iz_sub, iz_mul, iz_neg, iz_le, iz_lt, iz_eq, hc]
    refine Eq.trans e2 ?_
    cases hd : soughtP V i with
    | true => rfl
    | false => exact e
theorem l_soughtTown (R : RepC h c p V) (w : WF V) (hN : 200 ≤ N) : f_X1_soughtTown N c h = some (iz (match fs (soughtP V) 0 (vT V) with
    | some t => t
    | none => -1), h) := by
  have hT := w.T
  exact l_sought_2 R w hN (vT V) 0 N (by omega) (by omega)
end
