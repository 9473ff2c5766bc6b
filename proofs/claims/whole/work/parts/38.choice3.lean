def oldB (V : Vw) (t : Int) : Nat → Bool
  | 0 => false
  | n + 1 => oldB V t n || (decide (va V 7 n = t) && decide (va V 8 n = t))
def tally (V : Vw) (t g : Int) (old : Bool) (n : Nat) (v : Nat) : Int := sm (fun f => if (va V 7 f = t ∧ (old = false ∨ va V 8 f = t)) ∧ want V f t g = v then 1 else 0) n
def voters (V : Vw) (t : Int) (old : Bool) (n : Nat) : Int := sm (fun f => if va V 7 f = t ∧ (old = false ∨ va V 8 f = t) then 1 else 0) n
def midf (ta : Nat → Int) (n : Int) : Nat → Nat → Nat
  | _, 0 => 0
  | i, d + 1 => if 2 * sm ta (i + 1) < n then midf ta n (i + 1) d else i
def olds (V : Vw) (t : Int) : Bool := decide (va V 12 2 = 2) && oldB V t (vF V)
def choice (V : Vw) (t g : Int) : Int := if va V 12 2 = 1 then midf (tally V t g (olds V t) (vF V)) (voters V t (olds V t) (vF V)) 0 6 else wbest (tally V t g (olds V t) (vF V)) 6
theorem tally_succ {V : Vw} {t g : Int} {old : Bool} {n v : Nat} : tally V t g old (n + 1) v = tally V t g old n v + (if (va V 7 n = t ∧ (old = false ∨ va V 8 n = t)) ∧ want V n t g = v then 1 else 0) := rfl
theorem voters_succ {V : Vw} {t : Int} {old : Bool} {n : Nat} : voters V t old (n + 1) = voters V t old n + (if va V 7 n = t ∧ (old = false ∨ va V 8 n = t) then 1 else 0) := rfl
theorem tally_bd {V : Vw} {t g : Int} {old : Bool} (n v : Nat) : 0 ≤ tally V t g old n v ∧ tally V t g old n v ≤ n := by
  have h := sm_bd (g := fun f => if (va V 7 f = t ∧ (old = false ∨ va V 8 f = t)) ∧ want V f t g = v then 1 else 0) (a := 0) (b := 1) n (fun i hi => by split <;> omega)
  unfold tally
  omega
theorem voters_bd {V : Vw} {t : Int} {old : Bool} (n : Nat) : 0 ≤ voters V t old n ∧ voters V t old n ≤ n := by
  have h := sm_bd (g := fun f => if va V 7 f = t ∧ (old = false ∨ va V 8 f = t) then 1 else 0) (a := 0) (b := 1) n (fun i hi => by split <;> omega)
  unfold voters
  omega
theorem want_bd {V : Vw} {f t g : Int} : 0 ≤ want V f t g ∧ want V f t g < 6 := by
  have := wbest_lt (wl V f t g) 6 (by omega)
  unfold want
  omega
theorem midf_lt (ta : Nat → Int) (n : Int) : ∀ d i, i + d = 6 → midf ta n i d < 6 := by
  intro d
  induction d with
  | zero => intro i _; show 0 < 6; omega
  | succ d ih =>
    intro i hi
    unfold midf
    split
    · exact ih (i + 1) (by omega)
    · omega
theorem choice_bd {V : Vw} {t g : Int} : 0 ≤ choice V t g ∧ choice V t g < 6 := by
  unfold choice
  split
  · have := midf_lt (tally V t g (olds V t) (vF V)) (voters V t (olds V t) (vF V)) 6 0 rfl; omega
  · have := wbest_lt (tally V t g (olds V t) (vF V)) 6 (by omega); omega
section
variable {h : Mem} {c p : Nat} {V : Vw} {N : Nat}
theorem l_old_2 (R : RepC h c p V) (w : WF V) {t : Int} (ht : 0 ≤ t ∧ t < 4) : ∀ (d i n : Nat), i + d = vF V → d < n → oldB V t i = false → f_X1_hasOldOnes_2 N n c (iz t) (iz i) h = some (iz (if oldB V t (vF V) = true then 1 else 0), h) := by
  intro d
  have hF := w.F
  induction d with
  | zero =>
    intro i n hi hn ho
    obtain ⟨n, rfl⟩ : ∃ k, n = k + 1 := ⟨n - 1, by omega⟩
    rw [f_X1_hasOldOnes_2]
    obtain rfl : i = vF V := by omega
    simp (disch := omega) only [↓kC R, ↓kT R, ↓kF R, ↓kL R, ↓kLk R, ↓kL0 R, ↓kL1 R, ↓kL2 R, ↓kL3 R, ↓kL4 R, ↓kL5 R, ↓kA0 R, ↓kA1 R, ↓kA2 R, ↓kA3 R, ↓kA4 R, ↓kA5 R, ↓kA6 R, ↓kA7 R, ↓kA8 R, ↓kA9 R, ↓kX0 R, ↓kX1 R, ↓kX2 R, ↓kX3 R, ↓kX4 R, ↓kX5 R, ↓kX6 R, ↓kX7 R, ↓kX8 R, ↓kX1m R, ↓kY0 R, ↓kY1 R, ↓kY2 R, ↓kY0m R, ↓kY1m R, ↓reduceIte, if_true, if_false, Option.bind_some, b2_some, il0, il1, il2, il3, il4, il5, il6, il7, il8, il9, il10, il11, il12, il13, il14, il15, il16, il17, il18, il19, il20, il21, il22, il23, il24, il25, il26, il27, il28, il29, il30, il31, il32, il33, il36, il38, il39, il40, il41, il48, il50, il51, il57, il59, il60, il61, il62, il63, il70, il96, il99, il100, il101, il102, il103, il104, il105, il106, il107, il108, il109, il110, il111, il112, il115, il116, il120, il121, il124, il200, il240, il255, il288, il360, il420, il999, il1000, il114292, il152755, il402789, il435589, il463922, il533611, il631470, iz_add, iz_sub, iz_mul, iz_neg, iz_le, iz_lt, iz_eq, Int.le_refl, ho]
    rfl
  | succ d ih =>
    intro i n hi hn ho
    obtain ⟨n, rfl⟩ : ∃ k, n = k + 1 := ⟨n - 1, by omega⟩
    rw [f_X1_hasOldOnes_2]
    have h7 := w.f (j := i) (by omega) (by omega)
    have hc : ¬ ((vF V : Int) ≤ i) := by omega
    by_cases h1 : va V 7 i = t
    · by_cases h2 : va V 8 i = t
      · simp (disch := omega) only [↓kC R, ↓kT R, ↓kF R, ↓kL R, ↓kLk R, ↓kL0 R, ↓kL1 R, ↓kL2 R, ↓kL3 R, ↓kL4 R, ↓kL5 R, ↓kA0 R, ↓kA1 R, ↓kA2 R, ↓kA3 R, ↓kA4 R, ↓kA5 R, ↓kA6 R, ↓kA7 R, ↓kA8 R, ↓kA9 R, ↓kX0 R, ↓kX1 R, ↓kX2 R, ↓kX3 R, ↓kX4 R, ↓kX5 R, ↓kX6 R, ↓kX7 R, ↓kX8 R, ↓kX1m R, ↓kY0 R, ↓kY1 R, ↓kY2 R, ↓kY0m R, ↓kY1m R, ↓reduceIte, if_true, if_false, Option.bind_some, b2_some, il0, il1, il2, il3, il4, il5, il6, il7, il8, il9, il10, il11, il12, il13, il14, il15, il16, il17, il18, il19, il20, il21, il22, il23, il24, il25, il26, il27, il28, il29, il30, il31, il32, il33, il36, il38, il39, il40, il41, il48, il50, il51, il57, il59, il60, il61, il62, il63, il70, il96, il99, il100, il101, il102, il103, il104, il105, il106, il107, il108, il109, il110, il111, il112, il115, il116, il120, il121, il124, il200, il240, il255, il288, il360, il420, il999, il1000, il114292, il152755, il402789, il435589, il463922, il533611, il631470, iz_add, iz_sub, iz_mul, iz_neg, iz_le, iz_lt, iz_eq, hc, h1, h2]
        have e : ∀ m, i + 1 ≤ m → oldB V t m = true := by
          intro m
          induction m with
          | zero => intro hm; omega
          | succ m ihm =>
            intro hm
            by_cases hm2 : m = i
            · subst hm2; simp [oldB, h1, h2]
            · simp [oldB, ihm (by omega)]
        rw [e (vF V) (by omega), if_pos rfl]
      · have e := ih (i + 1) n (by omega) (by omega) (by simp [oldB, ho, h2])
        simp (disch := omega) only [↓kC R, ↓kT R, ↓kF R, ↓kL R, ↓kLk R, ↓kL0 R, ↓kL1 R, ↓kL2 R, ↓kL3 R, ↓kL4 R, ↓kL5 R, ↓kA0 R, ↓kA1 R, ↓kA2 R, ↓kA3 R, ↓kA4 R, ↓kA5 R, ↓kA6 R, ↓kA7 R, ↓kA8 R, ↓kA9 R, ↓kX0 R, ↓kX1 R, ↓kX2 R, ↓kX3 R, ↓kX4 R, ↓kX5 R, ↓kX6 R, ↓kX7 R, ↓kX8 R, ↓kX1m R, ↓kY0 R, ↓kY1 R, ↓kY2 R, ↓kY0m R, ↓kY1m R, ↓reduceIte, if_true, if_false, Option.bind_some, b2_some, il0, il1, il2, il3, il4, il5, il6, il7, il8, il9, il10, il11, il12, il13, il14, il15, il16, il17, il18, il19, il20, il21, il22, il23, il24, il25, il26, il27, il28, il29, il30, il31, il32, il33, il36, il38, il39, il40, il41, il48, il50, il51, il57, il59, il60, il61, il62, il63, il70, il96, il99, il100, il101, il102, il103, il104, il105, il106, il107, il108, il109, il110, il111, il112, il115, il116, il120, il121, il124, il200, il240, il255, il288, il360, il420, il999, il1000, il114292, il152755, il402789, il435589, il463922, il533611, il631470, iz_add, iz_sub, iz_mul, iz_neg, iz_le, iz_lt, iz_eq, hc, h1, h2]
        exact e
    · have e := ih (i + 1) n (by omega) (by omega) (by simp [oldB, ho, h1])
      simp (disch := omega) only [↓kC R, ↓kT R, ↓kF R, ↓kL R, ↓kLk R, ↓kL0 R, ↓kL1 R, ↓kL2 R, ↓kL3 R, ↓kL4 R, ↓kL5 R, ↓kA0 R, ↓kA1 R, ↓kA2 R, ↓kA3 R, ↓kA4 R, ↓kA5 R, ↓kA6 R, ↓kA7 R, ↓kA8 R, ↓kA9 R, ↓kX0 R, ↓kX1 R, ↓kX2 R, ↓kX3 R, ↓kX4 R, ↓kX5 R, ↓kX6 R, ↓kX7 R, ↓kX8 R, ↓kX1m R, ↓kY0 R, ↓kY1 R, ↓kY2 R, ↓kY0m R, ↓kY1m R, ↓reduceIte, if_true, if_false, Option.bind_some, b2_some, il0, il1, il2, il3, il4, il5, il6, il7, il8, il9, il10, il11, il12, il13, il14, il15, il16, il17, il18, il19, il20, il21, il22, il23, il24, il25, il26, il27, il28, il29, il30, il31, il32, il33, il36, il38, il39, il40, il41, il48, il50, il51, il57, il59, il60, il61, il62, il63, il70, il96, il99, il100, il101, il102, il103, il104, il105, il106, il107, il108, il109, il110, il111, il112, il115, il116, il120, il121, il124, il200, il240, il255, il288, il360, il420, il999, il1000, il114292, il152755, il402789, il435589, il463922, il533611, il631470, iz_add, iz_sub, iz_mul, iz_neg, iz_le, iz_lt, iz_eq, hc, h1]
      exact e
theorem l_old (R : RepC h c p V) (w : WF V) (hN : 200 ≤ N) {t : Int} (ht : 0 ≤ t ∧ t < 4) : f_X1_hasOldOnes N c (iz t) h = some (iz (if oldB V t (vF V) = true then 1 else 0), h) := by
  have hF := w.F
  exact l_old_2 R w ht (vF V) 0 N (by omega) (by omega) rfl
theorem l_mid_4 (R : RepC h c p V) {ta : Nat → Int} {vo : Int} (hvo : 0 ≤ vo ∧ vo ≤ 8) (hta : ∀ v : Nat, v < 6 → h.2.1 (ar c 9) v = iz (ta v)) (hb : ∀ v : Nat, v < 6 → 0 ≤ ta v ∧ ta v ≤ 8) : ∀ (d i n : Nat), i + d = 6 → d < n → f_X1_middleWant_4 N n c (iz vo) (iz (sm ta i)) (iz i) h = some (iz (midf ta vo i d), h) := by
  intro d
  induction d with
  | zero =>
    intro i n hi hn
    obtain ⟨n, rfl⟩ : ∃ k, n = k + 1 := ⟨n - 1, by omega⟩
    rw [f_X1_middleWant_4]
    obtain rfl : i = 6 := by omega
    simp (disch := omega) only [↓kC R, ↓kT R, ↓kF R, ↓kL R, ↓kLk R, ↓kL0 R, ↓kL1 R, ↓kL2 R, ↓kL3 R, ↓kL4 R, ↓kL5 R, ↓kA0 R, ↓kA1 R, ↓kA2 R, ↓kA3 R, ↓kA4 R, ↓kA5 R, ↓kA6 R, ↓kA7 R, ↓kA8 R, ↓kA9 R, ↓kX0 R, ↓kX1 R, ↓kX2 R, ↓kX3 R, ↓kX4 R, ↓kX5 R, ↓kX6 R, ↓kX7 R, ↓kX8 R, ↓kX1m R, ↓kY0 R, ↓kY1 R, ↓kY2 R, ↓kY0m R, ↓kY1m R, ↓reduceIte, if_true, if_false, Option.bind_some, b2_some, il0, il1, il2, il3, il4, il5, il6, il7, il8, il9, il10, il11, il12, il13, il14, il15, il16, il17, il18, il19, il20, il21, il22, il23, il24, il25, il26, il27, il28, il29, il30, il31, il32, il33, il36, il38, il39, il40, il41, il48, il50, il51, il57, il59, il60, il61, il62, il63, il70, il96, il99, il100, il101, il102, il103, il104, il105, il106, il107, il108, il109, il110, il111, il112, il115, il116, il120, il121, il124, il200, il240, il255, il288, il360, il420, il999, il1000, il114292, il152755, il402789, il435589, il463922, il533611, il631470, iz_add, iz_sub, iz_mul, iz_neg, iz_le, iz_lt, iz_eq]
    rfl
  | succ d ih =>
    intro i n hi hn
    obtain ⟨n, rfl⟩ : ∃ k, n = k + 1 := ⟨n - 1, by omega⟩
    rw [f_X1_middleWant_4]
    have hc : ¬ ((6 : Int) ≤ i) := by omega
    have hs := sm_bd (g := ta) (a := 0) (b := 8) i (fun v hv => hb v (by omega))
    have hi6 := hb i (by omega)
    have e := ih (i + 1) n (by omega) (by omega)
    rw [sm_succ] at e
    simp (disch := omega) only [↓kC R, ↓kT R, ↓kF R, ↓kL R, ↓kLk R, ↓kL0 R, ↓kL1 R, ↓kL2 R, ↓kL3 R, ↓kL4 R, ↓kL5 R, ↓kA0 R, ↓kA1 R, ↓kA2 R, ↓kA3 R, ↓kA4 R, ↓kA5 R, ↓kA6 R, ↓kA7 R, ↓kA8 R, ↓kA9 R, ↓kX0 R, ↓kX1 R, ↓kX2 R, ↓kX3 R, ↓kX4 R, ↓kX5 R, ↓kX6 R, ↓kX7 R, ↓kX8 R, ↓kX1m R, ↓kY0 R, ↓kY1 R, ↓kY2 R, ↓kY0m R, ↓kY1m R, ↓reduceIte, ↓kW9 R, toN, hta i (by omega), if_true, if_false, Option.bind_some, b2_some, il0, il1, il2, il3, il4, il5, il6, il7, il8, il9, il10, il11, il12, il13, il14, il15, il16, il17, il18, il19, il20, il21, il22, il23, il24, il25, il26, il27, il28, il29, il30, il31, il32, il33, il36, il38, il39, il40, il41, il48, il50, il51, il57, il59, il60, il61, il62, il63, il70, il96, il99, il100, il101, il102, il103, il104, il105, il106, il107, il108, il109, il110, il111, il112, il115, il116, il120, il121, il124, il200, il240, il255, il288, il360, il420, il999, il1000, il114292, il152755, il402789, il435589, il463922, il533611, il631470, iz_add, iz_sub, iz_mul, iz_neg, iz_le, iz_lt, iz_eq, hc]
    rw [midf, sm_succ]
    by_cases h1 : 2 * (sm ta i + ta i) < vo
    · simp only [if_pos h1]; exact e
    · simp only [if_neg h1]
theorem l_common_4 (R : RepC h c p V) {ta : Nat → Int} (hta : ∀ v : Nat, v < 6 → h.2.1 (ar c 9) v = iz (ta v)) (hb : ∀ v : Nat, v < 6 → 0 ≤ ta v ∧ ta v ≤ 8) : ∀ (d i n : Nat), 1 ≤ i → i + d = 6 → d < n → f_X1_commonestWant_4 N n c (iz (wbest ta i)) (iz i) h = some (iz (wbest ta 6), h) := by
  intro d
  induction d with
  | zero =>
    intro i n h1 hi hn
    obtain ⟨n, rfl⟩ : ∃ k, n = k + 1 := ⟨n - 1, by omega⟩
    rw [f_X1_commonestWant_4]
    obtain rfl : i = 6 := by omega
    simp (disch := omega) only [↓kC R, ↓kT R, ↓kF R, ↓kL R, ↓kLk R, ↓kL0 R, ↓kL1 R, ↓kL2 R, ↓kL3 R, ↓kL4 R, ↓kL5 R, ↓kA0 R, ↓kA1 R, ↓kA2 R, ↓kA3 R, ↓kA4 R, ↓kA5 R, ↓kA6 R, ↓kA7 R, ↓kA8 R, ↓kA9 R, ↓kX0 R, ↓kX1 R, ↓kX2 R, ↓kX3 R, ↓kX4 R, ↓kX5 R, ↓kX6 R, ↓kX7 R, ↓kX8 R, ↓kX1m R, ↓kY0 R, ↓kY1 R, ↓kY2 R, ↓kY0m R, ↓kY1m R, ↓reduceIte, if_true, if_false, Option.bind_some, b2_some, il0, il1, il2, il3, il4, il5, il6, il7, il8, il9, il10, il11, il12, il13, il14, il15, il16, il17, il18, il19, il20, il21, il22, il23, il24, il25, il26, il27, il28, il29, il30, il31, il32, il33, il36, il38, il39, il40, il41, il48, il50, il51, il57, il59, il60, il61, il62, il63, il70, il96, il99, il100, il101, il102, il103, il104, il105, il106, il107, il108, il109, il110, il111, il112, il115, il116, il120, il121, il124, il200, il240, il255, il288, il360, il420, il999, il1000, il114292, il152755, il402789, il435589, il463922, il533611, il631470, iz_add, iz_sub, iz_mul, iz_neg, iz_le, iz_lt, iz_eq]
    rfl
  | succ d ih =>
    intro i n h1 hi hn
    obtain ⟨n, rfl⟩ : ∃ k, n = k + 1 := ⟨n - 1, by omega⟩
    rw [f_X1_commonestWant_4]
    have hc : ¬ ((6 : Int) ≤ i) := by omega
    have hw := wbest_lt ta i (by omega)
    have hi6 := hb i (by omega)
    have hi7 := hb (wbest ta i) (by omega)
    have e := ih (i + 1) n (by omega) (by omega) (by omega)
    simp (disch := omega) only [↓kC R, ↓kT R, ↓kF R, ↓kL R, ↓kLk R, ↓kL0 R, ↓kL1 R, ↓kL2 R, ↓kL3 R, ↓kL4 R, ↓kL5 R, ↓kA0 R, ↓kA1 R, ↓kA2 R, ↓kA3 R, ↓kA4 R, ↓kA5 R, ↓kA6 R, ↓kA7 R, ↓kA8 R, ↓kA9 R, ↓kX0 R, ↓kX1 R, ↓kX2 R, ↓kX3 R, ↓kX4 R, ↓kX5 R, ↓kX6 R, ↓kX7 R, ↓kX8 R, ↓kX1m R, ↓kY0 R, ↓kY1 R, ↓kY2 R, ↓kY0m R, ↓kY1m R, ↓reduceIte, ↓kW9 R, toN, hta i (by omega), hta (wbest ta i) (by omega), if_true, if_false, Option.bind_some, b2_some, il0, il1, il2, il3, il4, il5, il6, il7, il8, il9, il10, il11, il12, il13, il14, il15, il16, il17, il18, il19, il20, il21, il22, il23, il24, il25, il26, il27, il28, il29, il30, il31, il32, il33, il36, il38, il39, il40, il41, il48, il50, il51, il57, il59, il60, il61, il62, il63, il70, il96, il99, il100, il101, il102, il103, il104, il105, il106, il107, il108, il109, il110, il111, il112, il115, il116, il120, il121, il124, il200, il240, il255, il288, il360, il420, il999, il1000, il114292, il152755, il402789, il435589, il463922, il533611, il631470, iz_add, iz_sub, iz_mul, iz_neg, iz_le, iz_lt, iz_eq, hc]
    by_cases h2 : ta (wbest ta i) < ta i
    · have e1 : wbest ta (i + 1) = i := by unfold wbest; rw [if_pos h2]
      rw [e1] at e
      rw [if_neg (by omega)]
      exact e
    · have e1 : wbest ta (i + 1) = wbest ta i := by rw [wbest, if_neg h2]
      rw [e1] at e
      rw [if_pos (by omega)]
      exact e
def bi (b : Bool) : Int := if b = true then 1 else 0
theorem l_chosen_39 (R : RepC h c p V) (w : WF V) (q : CP c p) (hN : 200 ≤ N) {t g : Int} (ht : 0 ≤ t ∧ t < 4) (hg : 0 ≤ g ∧ g < 3) (old : Bool) : ∀ (d i n : Nat) (row : Nat → Int32), i + d = vF V → d < n → (∀ v : Nat, v < 6 → row v = iz (tally V t g old i v)) →
    ∃ row', f_X1_chosenLevel_39 N n c (iz t) (iz g) (iz (bi old)) (iz (voters V t old i)) (iz i) (wr h (ar c 9) row) = some (iz (if va V 12 2 = 1 then midf (tally V t g old (vF V)) (voters V t old (vF V)) 0 6 else wbest (tally V t g old (vF V)) 6), wr h (ar c 9) row') := by
  intro d
  have hF := w.F
  induction d with
  | zero =>
    intro i n row hi hn hrow
    obtain ⟨n, rfl⟩ : ∃ k, n = k + 1 := ⟨n - 1, by omega⟩
    rw [f_X1_chosenLevel_39]
    obtain rfl : i = vF V := by omega
    refine ⟨row, ?_⟩
    have R1 := rep_want (row := row) R q
    have hp := w.p
    have hv := voters_bd (V := V) (t := t) (old := old) (vF V)
    have hrow' : ∀ v : Nat, v < 6 → (wr h (ar c 9) row).2.1 (ar c 9) v = iz (tally V t g old (vF V) v) := fun v hv => by rw [wr_eq]; exact hrow v hv
    have hb : ∀ v : Nat, v < 6 → 0 ≤ tally V t g old (vF V) v ∧ tally V t g old (vF V) v ≤ 8 := fun v _ => by have := tally_bd (V := V) (t := t) (g := g) (old := old) (vF V) v; omega
    by_cases h1 : va V 12 2 = 1
    · simp (disch := omega) only [↓kF R1, ↓kL R1, ↓kL5 R1, ↓kC R1, ↓reduceIte, if_true, if_false, Option.bind_some, b2_some, il0, il1, il2, il3, il4, il5, il6, il7, il8, il9, il10, il11, il12, il13, il14, il15, il16, il17, il18, il19, il20, il21, il22, il23, il24, il25, il26, il27, il28, il29, il30, il31, il32, il33, il36, il38, il39, il40, il41, il48, il50, il51, il57, il59, il60, il61, il62, il63, il70, il96, il99, il100, il101, il102, il103, il104, il105, il106, il107, il108, il109, il110, il111, il112, il115, il116, il120, il121, il124, il200, il240, il255, il288, il360, il420, il999, il1000, il114292, il152755, il402789, il435589, il463922, il533611, il631470, iz_add, iz_sub, iz_mul, iz_neg, iz_le, iz_lt, iz_eq, Int.le_refl, h1]
      rw [f_X1_middleWant]
      have e := l_mid_4 R1 (N := N) (vo := voters V t old (vF V)) (by omega) hrow' hb 6 0 N rfl (by omega)
      rw [show (0 : Int32) = iz (sm (tally V t g old (vF V)) 0) from rfl, show iz (sm (tally V t g old (vF V)) 0) = iz ((0 : Nat) : Int) from rfl]
      rw [show iz (sm (tally V t g old (vF V)) 0) = iz ((0 : Nat) : Int) from rfl] at e
      rw [e]
      rfl
    · simp (disch := omega) only [↓kF R1, ↓kL R1, ↓kL5 R1, ↓kC R1, ↓reduceIte, if_true, if_false, Option.bind_some, b2_some, il0, il1, il2, il3, il4, il5, il6, il7, il8, il9, il10, il11, il12, il13, il14, il15, il16, il17, il18, il19, il20, il21, il22, il23, il24, il25, il26, il27, il28, il29, il30, il31, il32, il33, il36, il38, il39, il40, il41, il48, il50, il51, il57, il59, il60, il61, il62, il63, il70, il96, il99, il100, il101, il102, il103, il104, il105, il106, il107, il108, il109, il110, il111, il112, il115, il116, il120, il121, il124, il200, il240, il255, il288, il360, il420, il999, il1000, il114292, il152755, il402789, il435589, il463922, il533611, il631470, iz_add, iz_sub, iz_mul, iz_neg, iz_le, iz_lt, iz_eq, Int.le_refl, h1]
      rw [f_X1_commonestWant]
      have e := l_common_4 R1 (N := N) hrow' hb 5 1 N (by omega) rfl (by omega)
      rw [wbest_1] at e
      rw [show (0 : Int32) = iz ((0 : Nat) : Int) from rfl, show (1 : Int32) = iz ((1 : Nat) : Int) from rfl, e]
      rfl
  | succ d ih =>
    intro i n row hi hn hrow
    obtain ⟨n, rfl⟩ : ∃ k, n = k + 1 := ⟨n - 1, by omega⟩
    rw [f_X1_chosenLevel_39]
    have R1 := rep_want (row := row) R q
    have h7 := w.f (j := i) (by omega) (by omega)
    have hc : ¬ ((vF V : Int) ≤ i) := by omega
    have hwb := want_bd (V := V) (f := i) (t := t) (g := g)
    -- the row behind a vote
    have vote : (va V 7 i = t ∧ (old = false ∨ va V 8 i = t)) → ∃ row', f_X1_chosenLevel_74 N c (iz t) (iz g) (iz (bi old)) (iz (voters V t old i)) (iz i) (wr h (ar c 9) row) (fun v0 v1 v2 v3 v4 v5 h => f_X1_chosenLevel_39 N n v0 v1 v2 v3 v4 v5 h) = some (iz (if va V 12 2 = 1 then midf (tally V t g old (vF V)) (voters V t old (vF V)) 0 6 else wbest (tally V t g old (vF V)) 6), wr h (ar c 9) row') := by
      intro hv
      rw [f_X1_chosenLevel_74]
      obtain ⟨row', e⟩ := ih (i + 1) n (upd row (want V i t g).toNat (iz (tally V t g old i (want V i t g).toNat + 1))) (by omega) (by omega) (fun v hv6 => by
        rw [upd_at, tally_succ]
        by_cases hvw : v = (want V i t g).toNat
        · subst hvw
          rw [if_pos rfl, if_pos ⟨hv, by omega⟩]
        · rw [if_neg hvw, if_neg (fun z => hvw (by omega)), hrow v hv6]
          congr 1; omega)
      refine ⟨row', ?_⟩
      rw [voters_succ, if_pos hv] at e
      simp (disch := omega) only [↓kA9 R1, ↓kC R1, ↓kW9 R1, ↓kS9 R1, l_want R1 w q hN _ ht hg, wr_eq, wr_wr, hrow (want V i t g).toNat (by omega), if_true, if_false, Option.bind_some, b2_some, il0, il1, il2, il3, il4, il5, il6, il7, il8, il9, il10, il11, il12, il13, il14, il15, il16, il17, il18, il19, il20, il21, il22, il23, il24, il25, il26, il27, il28, il29, il30, il31, il32, il33, il36, il38, il39, il40, il41, il48, il50, il51, il57, il59, il60, il61, il62, il63, il70, il96, il99, il100, il101, il102, il103, il104, il105, il106, il107, il108, il109, il110, il111, il112, il115, il116, il120, il121, il124, il200, il240, il255, il288, il360, il420, il999, il1000, il114292, il152755, il402789, il435589, il463922, il533611, il631470, iz_add, iz_sub, iz_mul, iz_neg, iz_le, iz_lt, iz_eq]
      exact e
    by_cases h1 : va V 7 i = t
    · by_cases ho : old = false
      · obtain ⟨row', e⟩ := vote ⟨h1, Or.inl ho⟩
        refine ⟨row', ?_⟩
        rw [← e]
        have hb0 : bi old = 0 := by rw [ho]; rfl
        simp (disch := omega) only [↓kF R1, ↓kA7 R1, ↓kX7 R1, ↓reduceIte, if_true, if_false, Option.bind_some, b2_some, il0, il1, il2, il3, il4, il5, il6, il7, il8, il9, il10, il11, il12, il13, il14, il15, il16, il17, il18, il19, il20, il21, il22, il23, il24, il25, il26, il27, il28, il29, il30, il31, il32, il33, il36, il38, il39, il40, il41, il48, il50, il51, il57, il59, il60, il61, il62, il63, il70, il96, il99, il100, il101, il102, il103, il104, il105, il106, il107, il108, il109, il110, il111, il112, il115, il116, il120, il121, il124, il200, il240, il255, il288, il360, il420, il999, il1000, il114292, il152755, il402789, il435589, il463922, il533611, il631470, iz_add, iz_sub, iz_mul, iz_neg, iz_le, iz_lt, iz_eq, hc, h1, hb0]
      · have hb1 : bi old = 1 := by rw [Bool.not_eq_false] at ho; rw [ho]; rfl
        have hb2 : ¬ (bi old = 0) := by omega
        by_cases h2 : va V 8 i = t
        · obtain ⟨row', e⟩ := vote ⟨h1, Or.inr h2⟩
          refine ⟨row', ?_⟩
          rw [← e]
          simp (disch := omega) only [↓kF R1, ↓kA7 R1, ↓kX7 R1, ↓kA8 R1, ↓kX8 R1, ↓reduceIte, if_true, if_false, Option.bind_some, b2_some, il0, il1, il2, il3, il4, il5, il6, il7, il8, il9, il10, il11, il12, il13, il14, il15, il16, il17, il18, il19, il20, il21, il22, il23, il24, il25, il26, il27, il28, il29, il30, il31, il32, il33, il36, il38, il39, il40, il41, il48, il50, il51, il57, il59, il60, il61, il62, il63, il70, il96, il99, il100, il101, il102, il103, il104, il105, il106, il107, il108, il109, il110, il111, il112, il115, il116, il120, il121, il124, il200, il240, il255, il288, il360, il420, il999, il1000, il114292, il152755, il402789, il435589, il463922, il533611, il631470, iz_add, iz_sub, iz_mul, iz_neg, iz_le, iz_lt, iz_eq, hc, h1, h2, hb2]
        · obtain ⟨row', e⟩ := ih (i + 1) n row (by omega) (by omega) (fun v hv6 => by
            rw [tally_succ, if_neg (fun z => z.1.2.elim ho h2), hrow v hv6]; congr 1; omega)
          refine ⟨row', ?_⟩
          rw [voters_succ, if_neg (fun z => z.2.elim ho h2), Int.add_zero] at e
          rw [← e]
          simp (disch := omega) only [↓kF R1, ↓kA7 R1, ↓kX7 R1, ↓kA8 R1, ↓kX8 R1, ↓reduceIte, if_true, if_false, Option.bind_some, b2_some, il0, il1, il2, il3, il4, il5, il6, il7, il8, il9, il10, il11, il12, il13, il14, il15, il16, il17, il18, il19, il20, il21, il22, il23, il24, il25, il26, il27, il28, il29, il30, il31, il32, il33, il36, il38, il39, il40, il41, il48, il50, il51, il57, il59, il60, il61, il62, il63, il70, il96, il99, il100, il101, il102, il103, il104, il105, il106, il107, il108, il109, il110, il111, il112, il115, il116, il120, il121, il124, il200, il240, il255, il288, il360, il420, il999, il1000, il114292, il152755, il402789, il435589, il463922, il533611, il631470, iz_add, iz_sub, iz_mul, iz_neg, iz_le, iz_lt, iz_eq, hc, h1, h2, hb2]
          rfl
    · obtain ⟨row', e⟩ := ih (i + 1) n row (by omega) (by omega) (fun v hv6 => by
        rw [tally_succ, if_neg (fun z => h1 z.1.1), hrow v hv6]; congr 1; omega)
      refine ⟨row', ?_⟩
      rw [voters_succ, if_neg (fun z => h1 z.1), Int.add_zero] at e
      rw [← e]
      simp (disch := omega) only [↓kF R1, ↓kA7 R1, ↓kX7 R1, ↓reduceIte, if_true, if_false, Option.bind_some, b2_some, il0, il1, il2, il3, il4, il5, il6, il7, il8, il9, il10, il11, il12, il13, il14, il15, il16, il17, il18, il19, il20, il21, il22, il23, il24, il25, il26, il27, il28, il29, il30, il31, il32, il33, il36, il38, il39, il40, il41, il48, il50, il51, il57, il59, il60, il61, il62, il63, il70, il96, il99, il100, il101, il102, il103, il104, il105, il106, il107, il108, il109, il110, il111, il112, il115, il116, il120, il121, il124, il200, il240, il255, il288, il360, il420, il999, il1000, il114292, il152755, il402789, il435589, il463922, il533611, il631470, iz_add, iz_sub, iz_mul, iz_neg, iz_le, iz_lt, iz_eq, hc, h1]
      rfl
end
