/-! the rest of a country's own methods that answer -/
def crowdedP (V : Vw) (t : Nat) : Bool := decide (va V 0 t < cnt V t)
def fitsI (V : Vw) : Int := match fs (crowdedP V) 0 (vT V) with
  | some _ => 0
  | none => 1
def ways (V : Vw) : Nat := vT V ^ vF V
def stl (V : Vw) (r : Nat) : Nat → Vw
  | 0 => V
  | n + 1 => vset (stl V r n) 7 ((vF V : Int) - 1 - n) ((r / vT V ^ n % vT V : Nat) : Int)
def wAll (V : Vw) (n : Nat) : Int := sm (fun f => worth V f (va V 7 f)) n
def wLeast (V : Vw) : Nat → Int
  | 0 => 9223372036854775807
  | n + 1 => if worth V n (va V 7 n) < wLeast V n then worth V n (va V 7 n) else wLeast V n
def pairs1 (V : Vw) (f n : Nat) : Int := sm (fun o => if va V 5 f = va V 5 o ∧ va V 7 f = va V 7 o then 1 else 0) n
def pairsI (V : Vw) (n : Nat) : Int := sm (fun f => pairs1 V f f) n
def differP (V V' : Vw) (f : Int) (o : Nat) : Bool := decide ((o : Int) ≠ f) && decide (va V 7 o ≠ va V' 7 o)
def sorts (V : Vw) (t s : Int) (n : Nat) : Int := sm (fun f => if va V 7 f = t ∧ va V 5 f = s then 1 else 0) n
def doubleP (V : Vw) (t : Int) (s : Nat) : Bool := decide (2 ≤ sorts V t s (vF V))
def wishers (V : Vw) (t : Int) (n : Nat) : Int := sm (fun f => if va V 7 f ≠ t ∧ va V 3 t ≤ va V 6 f ∧ worth V f (va V 7 f) < worth V f t then 1 else 0) n
def soughtP (V : Vw) (t : Nat) : Bool := decide (va V 0 t < cnt V t + wishers V t (vF V))
section
variable {h : Mem} {c p : Nat} {V : Vw} {N : Nat}
theorem l_fits_2 (R : RepC h c p V) (w : WF V) (hN : 200 ≤ N) : ∀ (d i n : Nat), i + d = vT V → d < n → f_X1_fits_2 N n c (iz i) h = some (iz (match fs (crowdedP V) i d with
    | some _ => 0
    | none => 1), h) := by
  intro d
  have hT := w.T
  have hF := w.F
  induction d with
  | zero =>
    intro i n hi hn
    obtain ⟨n, rfl⟩ : ∃ k, n = k + 1 := ⟨n - 1, by omega⟩
    rw [f_X1_fits_2]
    obtain rfl : i = vT V := by omega
    simp (disch := omega) only [↓kC R, ↓kT R, ↓kF R, ↓kL R, ↓kLk R, ↓kL0 R, ↓kL1 R, ↓kL2 R, ↓kL3 R, ↓kL4 R, ↓kL5 R, ↓kA0 R, ↓kA1 R, ↓kA2 R, ↓kA3 R, ↓kA4 R, ↓kA5 R, ↓kA6 R, ↓kA7 R, ↓kA8 R, ↓kA9 R, ↓kX0 R, ↓kX1 R, ↓kX2 R, ↓kX3 R, ↓kX4 R, ↓kX5 R, ↓kX6 R, ↓kX7 R, ↓kX8 R, ↓kX1m R, ↓kY0 R, ↓kY1 R, ↓kY2 R, ↓kY0m R, ↓kY1m R, ↓reduceIte, if_true, if_false, Option.bind_some, b2_some, il0, il1, il2, il3, il4, il5, il6, il7, il8, il9, il10, il11, il12, il13, il14, il15, il16, il17, il18, il19, il20, il21, il22, il23, il24, il25, il26, il27, il28, il29, il30, il31, il32, il33, il36, il38, il39, il40, il41, il48, il50, il51, il57, il59, il60, il61, il62, il63, il70, il96, il99, il100, il101, il102, il103, il104, il105, il106, il107, il108, il109, il110, il111, il112, il115, il116, il120, il121, il124, il200, il240, il255, il288, il360, il420, il999, il1000, il114292, il152755, il402789, il435589, il463922, il533611, il631470, iz_add, iz_sub, iz_mul, iz_neg, iz_le, iz_lt, iz_eq, Int.le_refl]
    rfl
  | succ d ih =>
    intro i n hi hn
    obtain ⟨n, rfl⟩ : ∃ k, n = k + 1 := ⟨n - 1, by omega⟩
    rw [f_X1_fits_2]
    have hc : ¬ ((vT V : Int) ≤ i) := by omega
    have e := ih (i + 1) n (by omega) (by omega)
    have hcr := l_crowd R w hN (t := i) (by omega)
    have hcb := cnt_bd (V := V) i
    have hwt := w.t (j := i) (by omega) (by omega)
    rw [fs]
    by_cases h1 : cnt V i ≤ va V 0 i
    · have hp : crowdedP V i = false := by simp [crowdedP]; omega
      simp (disch := omega) only [↓kC R, ↓kT R, ↓kF R, ↓kL R, ↓kLk R, ↓kL0 R, ↓kL1 R, ↓kL2 R, ↓kL3 R, ↓kL4 R, ↓kL5 R, ↓kA0 R, ↓kA1 R, ↓kA2 R, ↓kA3 R, ↓kA4 R, ↓kA5 R, ↓kA6 R, ↓kA7 R, ↓kA8 R, ↓kA9 R, ↓kX0 R, ↓kX1 R, ↓kX2 R, ↓kX3 R, ↓kX4 R, ↓kX5 R, ↓kX6 R, ↓kX7 R, ↓kX8 R, ↓kX1m R, ↓kY0 R, ↓kY1 R, ↓kY2 R, ↓kY0m R, ↓kY1m R, ↓reduceIte, ↓bq hcr, if_true, if_false, Option.bind_some, b2_some, il0, il1, il2, il3, il4, il5, il6, il7, il8, il9, il10, il11, il12, il13, il14, il15, il16, il17, il18, il19, il20, il21, il22, il23, il24, il25, il26, il27, il28, il29, il30, il31, il32, il33, il36, il38, il39, il40, il41, il48, il50, il51, il57, il59, il60, il61, il62, il63, il70, il96, il99, il100, il101, il102, il103, il104, il105, il106, il107, il108, il109, il110, il111, il112, il115, il116, il120, il121, il124, il200, il240, il255, il288, il360, il420, il999, il1000, il114292, il152755, il402789, il435589, il463922, il533611, il631470, iz_add, iz_sub, iz_mul, iz_neg, iz_le, iz_lt, iz_eq, hc, h1, hp]
      simpa using e
    · have hp : crowdedP V i = true := by simp [crowdedP]; omega
      simp (disch := omega) only [↓kC R, ↓kT R, ↓kF R, ↓kL R, ↓kLk R, ↓kL0 R, ↓kL1 R, ↓kL2 R, ↓kL3 R, ↓kL4 R, ↓kL5 R, ↓kA0 R, ↓kA1 R, ↓kA2 R, ↓kA3 R, ↓kA4 R, ↓kA5 R, ↓kA6 R, ↓kA7 R, ↓kA8 R, ↓kA9 R, ↓kX0 R, ↓kX1 R, ↓kX2 R, ↓kX3 R, ↓kX4 R, ↓kX5 R, ↓kX6 R, ↓kX7 R, ↓kX8 R, ↓kX1m R, ↓kY0 R, ↓kY1 R, ↓kY2 R, ↓kY0m R, ↓kY1m R, ↓reduceIte, ↓bq hcr, if_true, if_false, Option.bind_some, b2_some, il0, il1, il2, il3, il4, il5, il6, il7, il8, il9, il10, il11, il12, il13, il14, il15, il16, il17, il18, il19, il20, il21, il22, il23, il24, il25, il26, il27, il28, il29, il30, il31, il32, il33, il36, il38, il39, il40, il41, il48, il50, il51, il57, il59, il60, il61, il62, il63, il70, il96, il99, il100, il101, il102, il103, il104, il105, il106, il107, il108, il109, il110, il111, il112, il115, il116, il120, il121, il124, il200, il240, il255, il288, il360, il420, il999, il1000, il114292, il152755, il402789, il435589, il463922, il533611, il631470, iz_add, iz_sub, iz_mul, iz_neg, iz_le, iz_lt, iz_eq, hc, h1, hp]
theorem l_fits (R : RepC h c p V) (w : WF V) (hN : 200 ≤ N) : f_X1_fits N c h = some (iz (fitsI V), h) := by
  have hT := w.T
  exact l_fits_2 R w hN (vT V) 0 N (by omega) (by omega)
theorem pow_le4 {t f : Nat} (ht : t ≤ 4) (hf : f ≤ 8) : t ^ f ≤ 65536 := by
  have : ∀ t : Nat, t ≤ 4 → ∀ f : Nat, f ≤ 8 → t ^ f ≤ 65536 := by decide +kernel
  exact this t ht f hf
theorem l_ways_4 (R : RepC h c p V) (w : WF V) : ∀ (d i n : Nat), i + d = vF V → d < n → f_X1_ways_4 N n c (iz ((vT V ^ i : Nat) : Int)) (iz i) h = some (iz (ways V : Int), h) := by
  intro d
  have hT := w.T
  have hF := w.F
  induction d with
  | zero =>
    intro i n hi hn
    obtain ⟨n, rfl⟩ : ∃ k, n = k + 1 := ⟨n - 1, by omega⟩
    rw [f_X1_ways_4]
    obtain rfl : i = vF V := by omega
    simp (disch := omega) only [↓kC R, ↓kT R, ↓kF R, ↓kL R, ↓kLk R, ↓kL0 R, ↓kL1 R, ↓kL2 R, ↓kL3 R, ↓kL4 R, ↓kL5 R, ↓kA0 R, ↓kA1 R, ↓kA2 R, ↓kA3 R, ↓kA4 R, ↓kA5 R, ↓kA6 R, ↓kA7 R, ↓kA8 R, ↓kA9 R, ↓kX0 R, ↓kX1 R, ↓kX2 R, ↓kX3 R, ↓kX4 R, ↓kX5 R, ↓kX6 R, ↓kX7 R, ↓kX8 R, ↓kX1m R, ↓kY0 R, ↓kY1 R, ↓kY2 R, ↓kY0m R, ↓kY1m R, ↓reduceIte, if_true, if_false, Option.bind_some, b2_some, il0, il1, il2, il3, il4, il5, il6, il7, il8, il9, il10, il11, il12, il13, il14, il15, il16, il17, il18, il19, il20, il21, il22, il23, il24, il25, il26, il27, il28, il29, il30, il31, il32, il33, il36, il38, il39, il40, il41, il48, il50, il51, il57, il59, il60, il61, il62, il63, il70, il96, il99, il100, il101, il102, il103, il104, il105, il106, il107, il108, il109, il110, il111, il112, il115, il116, il120, il121, il124, il200, il240, il255, il288, il360, il420, il999, il1000, il114292, il152755, il402789, il435589, il463922, il533611, il631470, iz_add, iz_sub, iz_mul, iz_neg, iz_le, iz_lt, iz_eq, Int.le_refl]
    rfl
  | succ d ih =>
    intro i n hi hn
    obtain ⟨n, rfl⟩ : ∃ k, n = k + 1 := ⟨n - 1, by omega⟩
    rw [f_X1_ways_4]
    have hc : ¬ ((vF V : Int) ≤ i) := by omega
    have e := ih (i + 1) n (by omega) (by omega)
    simp (disch := omega) only [↓kC R, ↓kT R, ↓kF R, ↓kL R, ↓kLk R, ↓kL0 R, ↓kL1 R, ↓kL2 R, ↓kL3 R, ↓kL4 R, ↓kL5 R, ↓kA0 R, ↓kA1 R, ↓kA2 R, ↓kA3 R, ↓kA4 R, ↓kA5 R, ↓kA6 R, ↓kA7 R, ↓kA8 R, ↓kA9 R, ↓kX0 R, ↓kX1 R, ↓kX2 R, ↓kX3 R, ↓kX4 R, ↓kX5 R, ↓kX6 R, ↓kX7 R, ↓kX8 R, ↓kX1m R, ↓kY0 R, ↓kY1 R, ↓kY2 R, ↓kY0m R, ↓kY1m R, ↓reduceIte, if_true, if_false, Option.bind_some, b2_some, il0, il1, il2, il3, il4, il5, il6, il7, il8, il9, il10, il11, il12, il13, il14, il15, il16, il17, il18, il19, il20, il21, il22, il23, il24, il25, il26, il27, il28, il29, il30, il31, il32, il33, il36, il38, il39, il40, il41, il48, il50, il51, il57, il59, il60, il61, il62, il63, il70, il96, il99, il100, il101, il102, il103, il104, il105, il106, il107, il108, il109, il110, il111, il112, il115, il116, il120, il121, il124, il200, il240, il255, il288, il360, il420, il999, il1000, il114292, il152755, il402789, il435589, il463922, il533611, il631470, iz_add, iz_sub, iz_mul, iz_neg, iz_le, iz_lt, iz_eq, hc]
    rw [Nat.pow_succ, Int.natCast_mul] at e
    exact e
theorem l_ways (R : RepC h c p V) (w : WF V) (hN : 200 ≤ N) : f_X1_ways N c h = some (iz (ways V : Int), h) := by
  have hF := w.F
  exact l_ways_4 R w (vF V) 0 N (by omega) (by omega)
theorem wAll_bd (w : WF V) : ∀ n : Nat, n ≤ vF V → -2000000 * n ≤ wAll V n ∧ wAll V n ≤ 2000000 * n := by
  intro n hn
  have hF := w.F
  refine sm_bd n (fun i hi => ?_)
  have hwi := w.i (j := i) (by omega) (by omega)
  have hwf := w.f (j := i) (by omega) (by omega)
  have hT := w.T
  exact worth_bd w (by omega) (by omega)
theorem l_worthOfAll_4 (R : RepC h c p V) (w : WF V) (hN : 200 ≤ N) : ∀ (d i n : Nat), i + d = vF V → d < n → f_X1_worthOfAll_4 N n c (lz (wAll V i)) (iz i) h = some (lz (wAll V (vF V)), h) := by
  intro d
  have hT := w.T
  have hF := w.F
  induction d with
  | zero =>
    intro i n hi hn
    obtain ⟨n, rfl⟩ : ∃ k, n = k + 1 := ⟨n - 1, by omega⟩
    rw [f_X1_worthOfAll_4]
    obtain rfl : i = vF V := by omega
    simp (disch := omega) only [↓kC R, ↓kT R, ↓kF R, ↓kL R, ↓kLk R, ↓kL0 R, ↓kL1 R, ↓kL2 R, ↓kL3 R, ↓kL4 R, ↓kL5 R, ↓kA0 R, ↓kA1 R, ↓kA2 R, ↓kA3 R, ↓kA4 R, ↓kA5 R, ↓kA6 R, ↓kA7 R, ↓kA8 R, ↓kA9 R, ↓kX0 R, ↓kX1 R, ↓kX2 R, ↓kX3 R, ↓kX4 R, ↓kX5 R, ↓kX6 R, ↓kX7 R, ↓kX8 R, ↓kX1m R, ↓kY0 R, ↓kY1 R, ↓kY2 R, ↓kY0m R, ↓kY1m R, ↓reduceIte, if_true, if_false, Option.bind_some, b2_some, il0, il1, il2, il3, il4, il5, il6, il7, il8, il9, il10, il11, il12, il13, il14, il15, il16, il17, il18, il19, il20, il21, il22, il23, il24, il25, il26, il27, il28, il29, il30, il31, il32, il33, il36, il38, il39, il40, il41, il48, il50, il51, il57, il59, il60, il61, il62, il63, il70, il96, il99, il100, il101, il102, il103, il104, il105, il106, il107, il108, il109, il110, il111, il112, il115, il116, il120, il121, il124, il200, il240, il255, il288, il360, il420, il999, il1000, il114292, il152755, il402789, il435589, il463922, il533611, il631470, iz_add, iz_sub, iz_mul, iz_neg, iz_le, iz_lt, iz_eq, Int.le_refl]
  | succ d ih =>
    intro i n hi hn
    obtain ⟨n, rfl⟩ : ∃ k, n = k + 1 := ⟨n - 1, by omega⟩
    rw [f_X1_worthOfAll_4]
    have hc : ¬ ((vF V : Int) ≤ i) := by omega
    have e := ih (i + 1) n (by omega) (by omega)
    have hwi := w.i (j := i) (by omega) (by omega)
    have hwf := w.f (j := i) (by omega) (by omega)
    have hwo := l_worth R w hN (f := i) (t := va V 7 i) (by omega) (by omega)
    have hwb := worth_bd w (f := i) (t := va V 7 i) (by omega) (by omega)
    simp (disch := omega) only [↓kC R, ↓kT R, ↓kF R, ↓kL R, ↓kLk R, ↓kL0 R, ↓kL1 R, ↓kL2 R, ↓kL3 R, ↓kL4 R, ↓kL5 R, ↓kA0 R, ↓kA1 R, ↓kA2 R, ↓kA3 R, ↓kA4 R, ↓kA5 R, ↓kA6 R, ↓kA7 R, ↓kA8 R, ↓kA9 R, ↓kX0 R, ↓kX1 R, ↓kX2 R, ↓kX3 R, ↓kX4 R, ↓kX5 R, ↓kX6 R, ↓kX7 R, ↓kX8 R, ↓kX1m R, ↓kY0 R, ↓kY1 R, ↓kY2 R, ↓kY0m R, ↓kY1m R, ↓reduceIte, ↓bq hwo, if_true, if_false, Option.bind_some, b2_some, il0, il1, il2, il3, il4, il5, il6, il7, il8, il9, il10, il11, il12, il13, il14, il15, il16, il17, il18, il19, il20, il21, il22, il23, il24, il25, il26, il27, il28, il29, il30, il31, il32, il33, il36, il38, il39, il40, il41, il48, il50, il51, il57, il59, il60, il61, il62, il63, il70, il96, il99, il100, il101, il102, il103, il104, il105, il106, il107, il108, il109, il110, il111, il112, il115, il116, il120, il121, il124, il200, il240, il255, il288, il360, il420, il999, il1000, il114292, il152755, il402789, il435589, il463922, il533611, il631470, iz_add, iz_sub, iz_mul, iz_neg, iz_le, iz_lt, iz_eq, hc, iz_long, lz_add]
    exact e
theorem l_worthOfAll (R : RepC h c p V) (w : WF V) (hN : 200 ≤ N) : f_X1_worthOfAll N c h = some (lz (wAll V (vF V)), h) := by
  have hF := w.F
  exact l_worthOfAll_4 R w hN (vF V) 0 N (by omega) (by omega)
theorem wLeast_bd (w : WF V) : ∀ n : Nat, n ≤ vF V → -2000000 ≤ wLeast V n ∧ wLeast V n ≤ 9223372036854775807 := by
  intro n
  induction n with
  | zero => intro _; show (-2000000 : Int) ≤ 9223372036854775807 ∧ (9223372036854775807 : Int) ≤ 9223372036854775807; omega
  | succ n ih =>
    intro hn
    have h1 := ih (by omega)
    have hF := w.F
    have hT := w.T
    have hwi := w.i (j := n) (by omega) (by omega)
    have hwf := w.f (j := n) (by omega) (by omega)
    have hwb := worth_bd w (f := n) (t := va V 7 n) (by omega) (by omega)
    unfold wLeast
    split <;> omega
/-- the same, 0 where nobody is -/
def wLst (V : Vw) (n : Nat) : Int := if n = 0 then 0 else wLeast V n
theorem wLst_bd (w : WF V) (n : Nat) (hn : n ≤ vF V) : -2000000 ≤ wLst V n ∧ wLst V n ≤ 2000000 := by
  unfold wLst
  by_cases c : n = 0
  · rw [if_pos c]; omega
  · rw [if_neg c]
    obtain ⟨m, rfl⟩ : ∃ m, n = m + 1 := ⟨n - 1, by omega⟩
    have h1 := wLeast_bd w m (by omega)
    have hF := w.F
    have hT := w.T
    have hwi := w.i (j := m) (by omega) (by omega)
    have hwf := w.f (j := m) (by omega) (by omega)
    have hwb := worth_bd w (f := m) (t := va V 7 m) (by omega) (by omega)
    unfold wLeast
    split <;> omega
theorem wLst_0 (w : WF V) (h0 : 0 < vF V) : wLst V (0 + 1) = worth V (0 : Nat) (va V 7 (0 : Nat)) := by
  have hF := w.F
  have hT := w.T
  have hwi := w.i (j := (0 : Nat)) (by omega) (by omega)
  have hwf := w.f (j := (0 : Nat)) (by omega) (by omega)
  have hwb := worth_bd w (f := (0 : Nat)) (t := va V 7 (0 : Nat)) (by omega) (by omega)
  show (if worth V (0 : Nat) (va V 7 (0 : Nat)) < 9223372036854775807 then worth V (0 : Nat) (va V 7 (0 : Nat)) else 9223372036854775807) = _
  rw [if_pos (by omega)]
theorem wLst_n {i : Nat} (h0 : 0 < i) : wLst V (i + 1) = if worth V i (va V 7 i) < wLst V i then worth V i (va V 7 i) else wLst V i := by
  have e1 : wLst V (i + 1) = wLeast V (i + 1) := if_neg (by omega)
  have e2 : wLst V i = wLeast V i := if_neg (by omega)
  rw [e1, e2]
  rfl
theorem l_leastWorth_4 (R : RepC h c p V) (w : WF V) (hN : 200 ≤ N) : ∀ (d i n : Nat), i + d = vF V → d < n → f_X1_leastWorth_4 N n c (iz (wLst V i)) (iz i) h = some (iz (wLst V (vF V)), h) := by
  intro d
  have hT := w.T
  have hF := w.F
  induction d with
  | zero =>
    intro i n hi hn
    obtain ⟨n, rfl⟩ : ∃ k, n = k + 1 := ⟨n - 1, by omega⟩
    rw [f_X1_leastWorth_4]
    obtain rfl : i = vF V := by omega
    simp (disch := omega) only [↓kC R, ↓kT R, ↓kF R, ↓kL R, ↓kLk R, ↓kL0 R, ↓kL1 R, ↓kL2 R, ↓kL3 R, ↓kL4 R, ↓kL5 R, ↓kA0 R, ↓kA1 R, ↓kA2 R, ↓kA3 R, ↓kA4 R, ↓kA5 R, ↓kA6 R, ↓kA7 R, ↓kA8 R, ↓kA9 R, ↓kX0 R, ↓kX1 R, ↓kX2 R, ↓kX3 R, ↓kX4 R, ↓kX5 R, ↓kX6 R, ↓kX7 R, ↓kX8 R, ↓kX1m R, ↓kY0 R, ↓kY1 R, ↓kY2 R, ↓kY0m R, ↓kY1m R, ↓reduceIte, if_true, if_false, Option.bind_some, b2_some, il0, il1, il2, il3, il4, il5, il6, il7, il8, il9, il10, il11, il12, il13, il14, il15, il16, il17, il18, il19, il20, il21, il22, il23, il24, il25, il26, il27, il28, il29, il30, il31, il32, il33, il36, il38, il39, il40, il41, il48, il50, il51, il57, il59, il60, il61, il62, il63, il70, il96, il99, il100, il101, il102, il103, il104, il105, il106, il107, il108, il109, il110, il111, il112, il115, il116, il120, il121, il124, il200, il240, il255, il288, il360, il420, il999, il1000, il114292, il152755, il402789, il435589, il463922, il533611, il631470, iz_add, iz_sub, iz_mul, iz_neg, iz_le, iz_lt, iz_eq, Int.le_refl]
  | succ d ih =>
    intro i n hi hn
    obtain ⟨n, rfl⟩ : ∃ k, n = k + 1 := ⟨n - 1, by omega⟩
    rw [f_X1_leastWorth_4]
    have hc : ¬ ((vF V : Int) ≤ i) := by omega
    have e := ih (i + 1) n (by omega) (by omega)
    have hwi := w.i (j := i) (by omega) (by omega)
    have hwf := w.f (j := i) (by omega) (by omega)
    have hwo := l_worth R w hN (f := i) (t := va V 7 i) (by omega) (by omega)
    have hwb := worth_bd w (f := i) (t := va V 7 i) (by omega) (by omega)
    have hlb := wLst_bd w i (by omega)
    simp (disch := omega) only [↓kC R, ↓kT R, ↓kF R, ↓kL R, ↓kLk R, ↓kL0 R, ↓kL1 R, ↓kL2 R, ↓kL3 R, ↓kL4 R, ↓kL5 R, ↓kA0 R, ↓kA1 R, ↓kA2 R, ↓kA3 R, ↓kA4 R, ↓kA5 R, ↓kA6 R, ↓kA7 R, ↓kA8 R, ↓kA9 R, ↓kX0 R, ↓kX1 R, ↓kX2 R, ↓kX3 R, ↓kX4 R, ↓kX5 R, ↓kX6 R, ↓kX7 R, ↓kX8 R, ↓kX1m R, ↓kY0 R, ↓kY1 R, ↓kY2 R, ↓kY0m R, ↓kY1m R, ↓reduceIte, ↓bq hwo, if_true, if_false, Option.bind_some, b2_some, il0, il1, il2, il3, il4, il5, il6, il7, il8, il9, il10, il11, il12, il13, il14, il15, il16, il17, il18, il19, il20, il21, il22, il23, il24, il25, il26, il27, il28, il29, il30, il31, il32, il33, il36, il38, il39, il40, il41, il48, il50, il51, il57, il59, il60, il61, il62, il63, il70, il96, il99, il100, il101, il102, il103, il104, il105, il106, il107, il108, il109, il110, il111, il112, il115, il116, il120, il121, il124, il200, il240, il255, il288, il360, il420, il999, il1000, il114292, il152755, il402789, il435589, il463922, il533611, il631470, iz_add, iz_sub, iz_mul, iz_neg, iz_le, iz_lt, iz_eq, hc]
    by_cases c0 : i = 0
    · subst c0
      rw [if_pos (by omega)]
      unfold f_X1_leastWorth_33
      rw [wLst_0 w (by omega)] at e
      simp (disch := omega) only [il1, iz_add]
      exact e
    · rw [if_neg (by omega)]
      rw [wLst_n (by omega)] at e
      by_cases c1 : worth V i (va V 7 i) < wLst V i
      · rw [if_pos c1] at e
        rw [if_neg (by omega)]
        unfold f_X1_leastWorth_33
        simp (disch := omega) only [il1, iz_add]
        exact e
      · rw [if_neg c1] at e
        rw [if_pos (by omega)]
        exact e
theorem l_leastWorth (R : RepC h c p V) (w : WF V) (hN : 200 ≤ N) : f_X1_leastWorth N c h = some (iz (wLst V (vF V)), h) := by
  have hF := w.F
  exact l_leastWorth_4 R w hN (vF V) 0 N (by omega) (by omega)
theorem pairs1_bd (f n : Nat) : 0 * (n : Int) ≤ pairs1 V f n ∧ pairs1 V f n ≤ 1 * n := sm_bd n (fun i _ => by split <;> omega)
theorem pairsI_bd : ∀ n : Nat, n ≤ 8 → 0 * (n : Int) ≤ pairsI V n ∧ pairsI V n ≤ 8 * n := fun n hn => sm_bd n (fun i hi => by have := pairs1_bd (V := V) i i; omega)
theorem l_pairs_14 (R : RepC h c p V) (w : WF V) {f : Nat} (hf : f < vF V) {a : Int} (k4 : Nat → Int32 → Int32 → Mem → Option (Int32 × Mem)) : ∀ (d i n : Nat), i + d = f → d < n → f_X1_pairs_14 N n c (iz (a + pairs1 V f i)) (iz f) (iz i) h k4 = k4 c (iz (a + pairs1 V f f)) (iz (f + 1)) h := by
  intro d
  have hF := w.F
  induction d with
  | zero =>
    intro i n hi hn
    obtain ⟨n, rfl⟩ : ∃ k, n = k + 1 := ⟨n - 1, by omega⟩
    rw [f_X1_pairs_14]
    obtain rfl : i = f := by omega
    simp (disch := omega) only [↓kC R, ↓kT R, ↓kF R, ↓kL R, ↓kLk R, ↓kL0 R, ↓kL1 R, ↓kL2 R, ↓kL3 R, ↓kL4 R, ↓kL5 R, ↓kA0 R, ↓kA1 R, ↓kA2 R, ↓kA3 R, ↓kA4 R, ↓kA5 R, ↓kA6 R, ↓kA7 R, ↓kA8 R, ↓kA9 R, ↓kX0 R, ↓kX1 R, ↓kX2 R, ↓kX3 R, ↓kX4 R, ↓kX5 R, ↓kX6 R, ↓kX7 R, ↓kX8 R, ↓kX1m R, ↓kY0 R, ↓kY1 R, ↓kY2 R, ↓kY0m R, ↓kY1m R, ↓reduceIte, if_true, if_false, Option.bind_some, b2_some, il0, il1, il2, il3, il4, il5, il6, il7, il8, il9, il10, il11, il12, il13, il14, il15, il16, il17, il18, il19, il20, il21, il22, il23, il24, il25, il26, il27, il28, il29, il30, il31, il32, il33, il36, il38, il39, il40, il41, il48, il50, il51, il57, il59, il60, il61, il62, il63, il70, il96, il99, il100, il101, il102, il103, il104, il105, il106, il107, il108, il109, il110, il111, il112, il115, il116, il120, il121, il124, il200, il240, il255, il288, il360, il420, il999, il1000, il114292, il152755, il402789, il435589, il463922, il533611, il631470, iz_add, iz_sub, iz_mul, iz_neg, iz_le, iz_lt, iz_eq, Int.le_refl]
  | succ d ih =>
    intro i n hi hn
    obtain ⟨n, rfl⟩ : ∃ k, n = k + 1 := ⟨n - 1, by omega⟩
    rw [f_X1_pairs_14]
    have hc : ¬ ((f : Int) ≤ i) := by omega
    have e := ih (i + 1) n (by omega) (by omega)
    have h5 := w.f (j := i) (by omega) (by omega)
    have h6 := w.f (j := f) (by omega) (by omega)
    unfold pairs1 at e ⊢
    rw [sm_succ] at e
    by_cases h1 : va V 5 f = va V 5 i
    · by_cases h2 : va V 7 f = va V 7 i
      · rw [if_pos ⟨h1, h2⟩] at e
        simp (disch := omega) only [↓kC R, ↓kT R, ↓kF R, ↓kL R, ↓kLk R, ↓kL0 R, ↓kL1 R, ↓kL2 R, ↓kL3 R, ↓kL4 R, ↓kL5 R, ↓kA0 R, ↓kA1 R, ↓kA2 R, ↓kA3 R, ↓kA4 R, ↓kA5 R, ↓kA6 R, ↓kA7 R, ↓kA8 R, ↓kA9 R, ↓kX0 R, ↓kX1 R, ↓kX2 R, ↓kX3 R, ↓kX4 R, ↓kX5 R, ↓kX6 R, ↓kX7 R, ↓kX8 R, ↓kX1m R, ↓kY0 R, ↓kY1 R, ↓kY2 R, ↓kY0m R, ↓kY1m R, ↓reduceIte, if_true, if_false, Option.bind_some, b2_some, il0, il1, il2, il3, il4, il5, il6, il7, il8, il9, il10, il11, il12, il13, il14, il15, il16, il17, il18, il19, il20, il21, il22, il23, il24, il25, il26, il27, il28, il29, il30, il31, il32, il33, il36, il38, il39, il40, il41, il48, il50, il51, il57, il59, il60, il61, il62, il63, il70, il96, il99, il100, il101, il102, il103, il104, il105, il106, il107, il108, il109, il110, il111, il112, il115, il116, il120, il121, il124, il200, il240, il255, il288, il360, il420, il999, il1000, il114292, il152755, il402789, il435589, il463922, il533611, il631470, iz_add, iz_sub, iz_mul, iz_neg, iz_le, iz_lt, iz_eq, hc, h1, h2, Int.add_assoc]
        simpa [h1, h2, Int.add_assoc] using e
      · rw [if_neg (fun z => h2 z.2)] at e
        simp (disch := omega) only [↓kC R, ↓kT R, ↓kF R, ↓kL R, ↓kLk R, ↓kL0 R, ↓kL1 R, ↓kL2 R, ↓kL3 R, ↓kL4 R, ↓kL5 R, ↓kA0 R, ↓kA1 R, ↓kA2 R, ↓kA3 R, ↓kA4 R, ↓kA5 R, ↓kA6 R, ↓kA7 R, ↓kA8 R, ↓kA9 R, ↓kX0 R, ↓kX1 R, ↓kX2 R, ↓kX3 R, ↓kX4 R, ↓kX5 R, ↓kX6 R, ↓kX7 R, ↓kX8 R, ↓kX1m R, ↓kY0 R, ↓kY1 R, ↓kY2 R, ↓kY0m R, ↓kY1m R, ↓reduceIte, if_true, if_false, Option.bind_some, b2_some, il0, il1, il2, il3, il4, il5, il6, il7, il8, il9, il10, il11, il12, il13, il14, il15, il16, il17, il18, il19, il20, il21, il22, il23, il24, il25, il26, il27, il28, il29, il30, il31, il32, il33, il36, il38, il39, il40, il41, il48, il50, il51, il57, il59, il60, il61, il62, il63, il70, il96, il99, il100, il101, il102, il103, il104, il105, il106, il107, il108, il109, il110, il111, il112, il115, il116, il120, il121, il124, il200, il240, il255, il288, il360, il420, il999, il1000, il114292, il152755, il402789, il435589, il463922, il533611, il631470, iz_add, iz_sub, iz_mul, iz_neg, iz_le, iz_lt, iz_eq, hc, h1, h2]
        simpa [h1, h2] using e
    · rw [if_neg (fun z => h1 z.1)] at e
      simp (disch := omega) only [↓kC R, ↓kT R, ↓kF R, ↓kL R, ↓kLk R, ↓kL0 R, ↓kL1 R, ↓kL2 R, ↓kL3 R, ↓kL4 R, ↓kL5 R, ↓kA0 R, ↓kA1 R, ↓kA2 R, ↓kA3 R, ↓kA4 R, ↓kA5 R, ↓kA6 R, ↓kA7 R, ↓kA8 R, ↓kA9 R, ↓kX0 R, ↓kX1 R, ↓kX2 R, ↓kX3 R, ↓kX4 R, ↓kX5 R, ↓kX6 R, ↓kX7 R, ↓kX8 R, ↓kX1m R, ↓kY0 R, ↓kY1 R, ↓kY2 R, ↓kY0m R, ↓kY1m R, ↓reduceIte, if_true, if_false, Option.bind_some, b2_some, il0, il1, il2, il3, il4, il5, il6, il7, il8, il9, il10, il11, il12, il13, il14, il15, il16, il17, il18, il19, il20, il21, il22, il23, il24, il25, il26, il27, il28, il29, il30, il31, il32, il33, il36, il38, il39, il40, il41, il48, il50, il51, il57, il59, il60, il61, il62, il63, il70, il96, il99, il100, il101, il102, il103, il104, il105, il106, il107, il108, il109, il110, il111, il112, il115, il116, il120, il121, il124, il200, il240, il255, il288, il360, il420, il999, il1000, il114292, il152755, il402789, il435589, il463922, il533611, il631470, iz_add, iz_sub, iz_mul, iz_neg, iz_le, iz_lt, iz_eq, hc, h1]
      simpa [h1] using e
theorem l_pairs_4 (R : RepC h c p V) (w : WF V) (hN : 200 ≤ N) : ∀ (d i n : Nat), i + d = vF V → d < n → f_X1_pairs_4 N n c (iz (pairsI V i)) (iz i) h = some (iz (pairsI V (vF V)), h) := by
  intro d
  have hF := w.F
  induction d with
  | zero =>
    intro i n hi hn
    obtain ⟨n, rfl⟩ : ∃ k, n = k + 1 := ⟨n - 1, by omega⟩
    rw [f_X1_pairs_4]
    obtain rfl : i = vF V := by omega
    simp (disch := omega) only [↓kC R, ↓kT R, ↓kF R, ↓kL R, ↓kLk R, ↓kL0 R, ↓kL1 R, ↓kL2 R, ↓kL3 R, ↓kL4 R, ↓kL5 R, ↓kA0 R, ↓kA1 R, ↓kA2 R, ↓kA3 R, ↓kA4 R, ↓kA5 R, ↓kA6 R, ↓kA7 R, ↓kA8 R, ↓kA9 R, ↓kX0 R, ↓kX1 R, ↓kX2 R, ↓kX3 R, ↓kX4 R, ↓kX5 R, ↓kX6 R, ↓kX7 R, ↓kX8 R, ↓kX1m R, ↓kY0 R, ↓kY1 R, ↓kY2 R, ↓kY0m R, ↓kY1m R, ↓reduceIte, if_true, if_false, Option.bind_some, b2_some, il0, il1, il2, il3, il4, il5, il6, il7, il8, il9, il10, il11, il12, il13, il14, il15, il16, il17, il18, il19, il20, il21, il22, il23, il24, il25, il26, il27, il28, il29, il30, il31, il32, il33, il36, il38, il39, il40, il41, il48, il50, il51, il57, il59, il60, il61, il62, il63, il70, il96, il99, il100, il101, il102, il103, il104, il105, il106, il107, il108, il109, il110, il111, il112, il115, il116, il120, il121, il124, il200, il240, il255, il288, il360, il420, il999, il1000, il114292, il152755, il402789, il435589, il463922, il533611, il631470, iz_add, iz_sub, iz_mul, iz_neg, iz_le, iz_lt, iz_eq, Int.le_refl]
  | succ d ih =>
    intro i n hi hn
    obtain ⟨n, rfl⟩ : ∃ k, n = k + 1 := ⟨n - 1, by omega⟩
    rw [f_X1_pairs_4]
    have hc : ¬ ((vF V : Int) ≤ i) := by omega
    have e := ih (i + 1) n (by omega) (by omega)
    have e2 := l_pairs_14 (N := N) R w (f := i) (by omega) (a := pairsI V i) (fun v0 v1 v2 h => f_X1_pairs_4 N n v0 v1 v2 h) i 0 N (by omega) (by omega)
    have e3 : pairsI V i + pairs1 V i 0 = pairsI V i := by show pairsI V i + 0 = _; omega
    rw [e3] at e2
    simp (disch := omega) only [↓kC R, ↓kT R, ↓kF R, ↓kL R, ↓kLk R, ↓kL0 R, ↓kL1 R, ↓kL2 R, ↓kL3 R, ↓kL4 R, ↓kL5 R, ↓kA0 R, ↓kA1 R, ↓kA2 R, ↓kA3 R, ↓kA4 R, ↓kA5 R, ↓kA6 R, ↓kA7 R, ↓kA8 R, ↓kA9 R, ↓kX0 R, ↓kX1 R, ↓kX2 R, ↓kX3 R, ↓kX4 R, ↓kX5 R, ↓kX6 R, ↓kX7 R, ↓kX8 R, ↓kX1m R, ↓kY0 R, ↓kY1 R, ↓kY2 R, ↓kY0m R, ↓kY1m R, ↓reduceIte, if_true, if_false, Option.bind_some, b2_some, il0, il1, il2, il3, il4, il5, il6, il7, il8, il9, il10, il11, il12, il13, il14, il15, il16, il17, il18, il19, il20, il21, il22, il23, il24, il25, il26, il27, il28, il29, il30, il31, il32, il33, il36, il38, il39, il40, il41, il48, il50, il51, il57, il59, il60, il61, il62, il63, il70, il96, il99, il100, il101, il102, il103, il104, il105, il106, il107, il108, il109, il110, il111, il112, il115, il116, il120, il121, il124, il200, il240, il255, il288, il360, il420, il999, il1000, il114292, il152755, il402789, il435589, il463922, il533611, il631470, iz_add, iz_sub, iz_mul, iz_neg, iz_le, iz_lt, iz_eq, hc]
    exact e2.trans e
theorem l_pairs (R : RepC h c p V) (w : WF V) (hN : 200 ≤ N) : f_X1_pairs N c h = some (iz (pairsI V (vF V)), h) := by
  have hF := w.F
  exact l_pairs_4 R w hN (vF V) 0 N (by omega) (by omega)
end
