/-- the first number from i on, of d, with P -/
def fs (P : Nat → Bool) : Nat → Nat → Option Nat
  | _, 0 => none
  | i, d + 1 => if P i = true then some i else fs P (i + 1) d
/-- the first pair -/
def fs2 (P : Nat → Nat → Bool) (ρ : Nat → Int) (m : Nat) : Nat → Nat → Int
  | _, 0 => -5
  | i, d + 1 => match fs (P i) 0 m with
    | some t => 100 * ρ i + t
    | none => fs2 P ρ m (i + 1) d
theorem fs_lt {P : Nat → Bool} : ∀ d i t, fs P i d = some t → i ≤ t ∧ t < i + d ∧ P t = true := by
  intro d
  induction d with
  | zero => intro i t h; simp [fs] at h
  | succ d ih =>
    intro i t h
    unfold fs at h
    split at h
    · rename_i hp; cases h; exact ⟨Nat.le_refl _, by omega, hp⟩
    · have := ih (i + 1) t h; exact ⟨by omega, by omega, this.2.2⟩
theorem fs_congr {P P' : Nat → Bool} : ∀ d i, (∀ j, i ≤ j → j < i + d → P j = P' j) → fs P i d = fs P' i d := by
  intro d
  induction d with
  | zero => intro i _; rfl
  | succ d ih =>
    intro i e
    unfold fs
    rw [e i (Nat.le_refl _) (by omega), ih (i + 1) (fun j h1 h2 => e j (by omega) (by omega))]
theorem fs2_congr {P P' : Nat → Nat → Bool} {ρ ρ' : Nat → Int} {m : Nat} : ∀ d i, (∀ j, i ≤ j → j < i + d → ρ j = ρ' j ∧ ∀ t, t < m → P j t = P' j t) → fs2 P ρ m i d = fs2 P' ρ' m i d := by
  intro d
  induction d with
  | zero => intro i _; rfl
  | succ d ih =>
    intro i e
    unfold fs2
    rw [fs_congr (P := P i) (P' := P' i) m 0 (fun j _ h2 => (e i (Nat.le_refl _) (by omega)).2 j (by omega)), (e i (Nat.le_refl _) (by omega)).1, ih (i + 1) (fun j h1 h2 => e j (by omega) (by omega))]
theorem fs2_bd {P : Nat → Nat → Bool} {ρ : Nat → Int} {m : Nat} (hm : m ≤ 4) : ∀ d i, (∀ j, i ≤ j → j < i + d → 0 ≤ ρ j ∧ ρ j ≤ 8) → -5 ≤ fs2 P ρ m i d ∧ fs2 P ρ m i d ≤ 804 := by
  intro d
  induction d with
  | zero => intro i _; show (-5 : Int) ≤ -5 ∧ (-5 : Int) ≤ 804; omega
  | succ d ih =>
    intro i hr
    unfold fs2
    split
    · rename_i t ht
      have h1 := fs_lt _ _ _ ht
      have h2 := hr i (Nat.le_refl _) (by omega)
      omega
    · exact ih (i + 1) (fun j h1 h2 => hr j (by omega) (by omega))
def canGoB (V : Vw) (f t : Int) : Bool := decide (va V 7 f ≠ t) && (decide (va V 3 t ≤ va V 6 f) && decide (cnt V t < va V 0 t))
theorem canGoB_iff {V : Vw} {f t : Int} : canGoB V f t = true ↔ canGo V f t := by simp [canGoB, canGo]
def stayP (V : Vw) (f t : Nat) : Bool := canGoB V f t && decide (worth V f (va V 7 f) < worth V f t)
def stayS (V : Vw) : Int := fs2 (stayP V) (fun i => i) (vT V) 0 (vF V)
def voteP (V : Vw) (t g : Nat) : Bool := decide (choice V t g ≠ va V 1 (t * 3 + g))
def voteS (V : Vw) : Int := fs2 (voteP V) (fun i => i) 3 0 (vT V)
def rentP (V : Vw) (f t : Nat) : Bool := decide (¬ cnt V t < va V 0 t) && (decide (va V 3 t ≤ va V 6 f) && decide (worth V f (va V 7 f) < worth V f t))
def rentQ (V : Vw) (t : Nat) : Bool := decide (cnt V t < va V 0 t) && decide (va V 2 t ≠ 0)
def rentS (V : Vw) : Int := if fs2 (rentP V) (fun i => i) (vT V) 0 (vF V) = -5 then (match fs (rentQ V) 0 (vT V) with
  | some t => 1000 + t
  | none => -5) else fs2 (rentP V) (fun i => i) (vT V) 0 (vF V)
section
variable {h : Mem} {c p : Nat} {V : Vw} {N : Nat}
theorem l_canGoB (R : RepC h c p V) (w : WF V) (hN : 200 ≤ N) {f t : Int} (hf : 0 ≤ f ∧ f < 8) (ht : 0 ≤ t ∧ t < 4) : f_X1_canGo N c (iz f) (iz t) h = some (iz (bi (canGoB V f t)), h) := by
  by_cases hc : canGo V f t
  · rw [(l_canGo R w hN hf ht).1 hc, canGoB_iff.mpr hc]; rfl
  · rw [(l_canGo R w hN hf ht).2 hc]
    cases hb : canGoB V f t with
    | true => exact absurd (canGoB_iff.mp hb) hc
    | false => rfl
theorem bi_bd (b : Bool) : 0 ≤ bi b ∧ bi b ≤ 1 := by cases b <;> decide
theorem l_stay_25 (R : RepC h c p V) (w : WF V) (hN : 200 ≤ N) {f : Nat} (hf : f < vF V) (k2 : Nat → Int32 → Mem → Option (Int32 × Mem)) : ∀ (d i n : Nat), i + d = vT V → d < n → f_X6_stay_25 N n c (iz f) (iz (worth V f (va V 7 f))) (iz i) h k2 = match fs (stayP V f) i d with
    | some t => some (iz (100 * f + t), h)
    | none => k2 c (iz (f + 1)) h := by
  intro d
  have hF := w.F
  have hT := w.T
  have hwf := w.f (j := f) (by omega) (by omega)
  have hwi := w.i (j := f) (by omega) (by omega)
  have hw0 := worth_bd w (f := f) (t := va V 7 f) (by omega) (by omega)
  induction d with
  | zero =>
    intro i n hi hn
    obtain ⟨n, rfl⟩ : ∃ k, n = k + 1 := ⟨n - 1, by omega⟩
    rw [f_X6_stay_25]
    obtain rfl : i = vT V := by omega
    simp (disch := omega) only [↓kC R, ↓kT R, ↓kF R, ↓kL R, ↓kLk R, ↓kL0 R, ↓kL1 R, ↓kL2 R, ↓kL3 R, ↓kL4 R, ↓kL5 R, ↓kA0 R, ↓kA1 R, ↓kA2 R, ↓kA3 R, ↓kA4 R, ↓kA5 R, ↓kA6 R, ↓kA7 R, ↓kA8 R, ↓kA9 R, ↓kX0 R, ↓kX1 R, ↓kX2 R, ↓kX3 R, ↓kX4 R, ↓kX5 R, ↓kX6 R, ↓kX7 R, ↓kX8 R, ↓kX1m R, ↓kY0 R, ↓kY1 R, ↓kY2 R, ↓kY0m R, ↓kY1m R, ↓reduceIte, if_true, if_false, Option.bind_some, b2_some, il0, il1, il2, il3, il4, il5, il6, il7, il8, il9, il10, il11, il12, il13, il14, il15, il16, il17, il18, il19, il20, il21, il22, il23, il24, il25, il26, il27, il28, il29, il30, il31, il32, il33, il36, il38, il39, il40, il41, il48, il50, il51, il57, il59, il60, il61, il62, il63, il70, il96, il99, il100, il101, il102, il103, il104, il105, il106, il107, il108, il109, il110, il111, il112, il115, il116, il120, il121, il124, il200, il240, il255, il288, il360, il420, il999, il1000, il114292, il152755, il402789, il435589, il463922, il533611, il631470, iz_add, iz_sub, iz_mul, iz_neg, iz_le, iz_lt, iz_eq, Int.le_refl]
    rfl
  | succ d ih =>
    intro i n hi hn
    obtain ⟨n, rfl⟩ : ∃ k, n = k + 1 := ⟨n - 1, by omega⟩
    rw [f_X6_stay_25]
    have hc : ¬ ((vT V : Int) ≤ i) := by omega
    have e := ih (i + 1) n (by omega) (by omega)
    have hw1 := worth_bd w (f := f) (t := i) (by omega) (by omega)
    have hg := l_canGoB R w hN (f := f) (t := i) (by omega) (by omega)
    have hwo := l_worth R w hN (f := f) (t := i) hf (by omega)
    rw [fs]
    cases hb : canGoB V f i with
    | false =>
      have hp : stayP V f i = false := by simp [stayP, hb]
      have hb0 : bi (canGoB V f i) = 0 := by rw [hb]; rfl
      rw [hb0] at hg
      simp (disch := omega) only [↓kC R, ↓kT R, ↓kF R, ↓kL R, ↓kLk R, ↓kL0 R, ↓kL1 R, ↓kL2 R, ↓kL3 R, ↓kL4 R, ↓kL5 R, ↓kA0 R, ↓kA1 R, ↓kA2 R, ↓kA3 R, ↓kA4 R, ↓kA5 R, ↓kA6 R, ↓kA7 R, ↓kA8 R, ↓kA9 R, ↓kX0 R, ↓kX1 R, ↓kX2 R, ↓kX3 R, ↓kX4 R, ↓kX5 R, ↓kX6 R, ↓kX7 R, ↓kX8 R, ↓kX1m R, ↓kY0 R, ↓kY1 R, ↓kY2 R, ↓kY0m R, ↓kY1m R, ↓reduceIte, ↓bq hg, if_true, if_false, Option.bind_some, b2_some, il0, il1, il2, il3, il4, il5, il6, il7, il8, il9, il10, il11, il12, il13, il14, il15, il16, il17, il18, il19, il20, il21, il22, il23, il24, il25, il26, il27, il28, il29, il30, il31, il32, il33, il36, il38, il39, il40, il41, il48, il50, il51, il57, il59, il60, il61, il62, il63, il70, il96, il99, il100, il101, il102, il103, il104, il105, il106, il107, il108, il109, il110, il111, il112, il115, il116, il120, il121, il124, il200, il240, il255, il288, il360, il420, il999, il1000, il114292, il152755, il402789, il435589, il463922, il533611, il631470, iz_add, iz_sub, iz_mul, iz_neg, iz_le, iz_lt, iz_eq, hc, hp]
      simpa using e
    | true =>
      have hb1 : bi (canGoB V f i) = 1 := by rw [hb]; rfl
      rw [hb1] at hg
      by_cases h1 : worth V f (va V 7 f) < worth V f i
      · have hp : stayP V f i = true := by simp [stayP, hb, h1]
        have h2 : ¬ (worth V f i ≤ worth V f (va V 7 f)) := by omega
        have h3 : ¬ ((1 : Int) = 0) := by decide
        simp (disch := omega) only [↓kC R, ↓kT R, ↓kF R, ↓kL R, ↓kLk R, ↓kL0 R, ↓kL1 R, ↓kL2 R, ↓kL3 R, ↓kL4 R, ↓kL5 R, ↓kA0 R, ↓kA1 R, ↓kA2 R, ↓kA3 R, ↓kA4 R, ↓kA5 R, ↓kA6 R, ↓kA7 R, ↓kA8 R, ↓kA9 R, ↓kX0 R, ↓kX1 R, ↓kX2 R, ↓kX3 R, ↓kX4 R, ↓kX5 R, ↓kX6 R, ↓kX7 R, ↓kX8 R, ↓kX1m R, ↓kY0 R, ↓kY1 R, ↓kY2 R, ↓kY0m R, ↓kY1m R, ↓reduceIte, ↓bq hg, ↓bq hwo, if_true, if_false, Option.bind_some, b2_some, il0, il1, il2, il3, il4, il5, il6, il7, il8, il9, il10, il11, il12, il13, il14, il15, il16, il17, il18, il19, il20, il21, il22, il23, il24, il25, il26, il27, il28, il29, il30, il31, il32, il33, il36, il38, il39, il40, il41, il48, il50, il51, il57, il59, il60, il61, il62, il63, il70, il96, il99, il100, il101, il102, il103, il104, il105, il106, il107, il108, il109, il110, il111, il112, il115, il116, il120, il121, il124, il200, il240, il255, il288, il360, il420, il999, il1000, il114292, il152755, il402789, il435589, il463922, il533611, il631470, iz_add, iz_sub, iz_mul, iz_neg, iz_le, iz_lt, iz_eq, hc, hp, h2, h3]
      · have hp : stayP V f i = false := by simp [stayP, h1]
        have h2 : worth V f i ≤ worth V f (va V 7 f) := by omega
        have h3 : ¬ ((1 : Int) = 0) := by decide
        simp (disch := omega) only [↓kC R, ↓kT R, ↓kF R, ↓kL R, ↓kLk R, ↓kL0 R, ↓kL1 R, ↓kL2 R, ↓kL3 R, ↓kL4 R, ↓kL5 R, ↓kA0 R, ↓kA1 R, ↓kA2 R, ↓kA3 R, ↓kA4 R, ↓kA5 R, ↓kA6 R, ↓kA7 R, ↓kA8 R, ↓kA9 R, ↓kX0 R, ↓kX1 R, ↓kX2 R, ↓kX3 R, ↓kX4 R, ↓kX5 R, ↓kX6 R, ↓kX7 R, ↓kX8 R, ↓kX1m R, ↓kY0 R, ↓kY1 R, ↓kY2 R, ↓kY0m R, ↓kY1m R, ↓reduceIte, ↓bq hg, ↓bq hwo, if_true, if_false, Option.bind_some, b2_some, il0, il1, il2, il3, il4, il5, il6, il7, il8, il9, il10, il11, il12, il13, il14, il15, il16, il17, il18, il19, il20, il21, il22, il23, il24, il25, il26, il27, il28, il29, il30, il31, il32, il33, il36, il38, il39, il40, il41, il48, il50, il51, il57, il59, il60, il61, il62, il63, il70, il96, il99, il100, il101, il102, il103, il104, il105, il106, il107, il108, il109, il110, il111, il112, il115, il116, il120, il121, il124, il200, il240, il255, il288, il360, il420, il999, il1000, il114292, il152755, il402789, il435589, il463922, il533611, il631470, iz_add, iz_sub, iz_mul, iz_neg, iz_le, iz_lt, iz_eq, hc, hp, h2, h3]
        simpa using e
theorem l_stay_2 (R : RepC h c p V) (w : WF V) (hN : 200 ≤ N) : ∀ (d i n : Nat), i + d = vF V → d < n → f_X6_stay_2 N n c (iz i) h = some (iz (fs2 (stayP V) (fun i => i) (vT V) i d), h) := by
  intro d
  have hF := w.F
  have hT := w.T
  induction d with
  | zero =>
    intro i n hi hn
    obtain ⟨n, rfl⟩ : ∃ k, n = k + 1 := ⟨n - 1, by omega⟩
    rw [f_X6_stay_2]
    obtain rfl : i = vF V := by omega
    simp (disch := omega) only [↓kC R, ↓kT R, ↓kF R, ↓kL R, ↓kLk R, ↓kL0 R, ↓kL1 R, ↓kL2 R, ↓kL3 R, ↓kL4 R, ↓kL5 R, ↓kA0 R, ↓kA1 R, ↓kA2 R, ↓kA3 R, ↓kA4 R, ↓kA5 R, ↓kA6 R, ↓kA7 R, ↓kA8 R, ↓kA9 R, ↓kX0 R, ↓kX1 R, ↓kX2 R, ↓kX3 R, ↓kX4 R, ↓kX5 R, ↓kX6 R, ↓kX7 R, ↓kX8 R, ↓kX1m R, ↓kY0 R, ↓kY1 R, ↓kY2 R, ↓kY0m R, ↓kY1m R, ↓reduceIte, if_true, if_false, Option.bind_some, b2_some, il0, il1, il2, il3, il4, il5, il6, il7, il8, il9, il10, il11, il12, il13, il14, il15, il16, il17, il18, il19, il20, il21, il22, il23, il24, il25, il26, il27, il28, il29, il30, il31, il32, il33, il36, il38, il39, il40, il41, il48, il50, il51, il57, il59, il60, il61, il62, il63, il70, il96, il99, il100, il101, il102, il103, il104, il105, il106, il107, il108, il109, il110, il111, il112, il115, il116, il120, il121, il124, il200, il240, il255, il288, il360, il420, il999, il1000, il114292, il152755, il402789, il435589, il463922, il533611, il631470, iz_add, iz_sub, iz_mul, iz_neg, iz_le, iz_lt, iz_eq, Int.le_refl]
    rfl
  | succ d ih =>
    intro i n hi hn
    obtain ⟨n, rfl⟩ : ∃ k, n = k + 1 := ⟨n - 1, by omega⟩
    rw [f_X6_stay_2]
    have hc : ¬ ((vF V : Int) ≤ i) := by omega
    have hwi := w.i (j := i) (by omega) (by omega)
    have hwf := w.f (j := i) (by omega) (by omega)
    have hwo := l_worth R w hN (f := i) (t := va V 7 i) (by omega) (by omega)
    have e := l_stay_25 R w hN (f := i) (by omega) (fun v1 v2 h => f_X6_stay_2 N n v1 v2 h) (vT V) 0 N (by omega) (by omega)
    simp (disch := omega) only [↓kC R, ↓kT R, ↓kF R, ↓kL R, ↓kLk R, ↓kL0 R, ↓kL1 R, ↓kL2 R, ↓kL3 R, ↓kL4 R, ↓kL5 R, ↓kA0 R, ↓kA1 R, ↓kA2 R, ↓kA3 R, ↓kA4 R, ↓kA5 R, ↓kA6 R, ↓kA7 R, ↓kA8 R, ↓kA9 R, ↓kX0 R, ↓kX1 R, ↓kX2 R, ↓kX3 R, ↓kX4 R, ↓kX5 R, ↓kX6 R, ↓kX7 R, ↓kX8 R, ↓kX1m R, ↓kY0 R, ↓kY1 R, ↓kY2 R, ↓kY0m R, ↓kY1m R, ↓reduceIte, ↓bq hwo, if_true, if_false, Option.bind_some, b2_some, il0, il1, il2, il3, il4, il5, il6, il7, il8, il9, il10, il11, il12, il13, il14, il15, il16, il17, il18, il19, il20, il21, il22, il23, il24, il25, il26, il27, il28, il29, il30, il31, il32, il33, il36, il38, il39, il40, il41, il48, il50, il51, il57, il59, il60, il61, il62, il63, il70, il96, il99, il100, il101, il102, il103, il104, il105, il106, il107, il108, il109, il110, il111, il112, il115, il116, il120, il121, il124, il200, il240, il255, il288, il360, il420, il999, il1000, il114292, il152755, il402789, il435589, il463922, il533611, il631470, iz_add, iz_sub, iz_mul, iz_neg, iz_le, iz_lt, iz_eq, hc]
    refine e.trans ?_
    rw [fs2]
    cases hfs : fs (stayP V i) 0 (vT V) with
    | some t => rfl
    | none => exact ih (i + 1) n (by omega) (by omega)
theorem l_stay (R : RepC h c p V) (w : WF V) (hN : 200 ≤ N) {v0 : Nat} : f_X6_stay N v0 c h = some (iz (stayS V), h) := by
  have hF := w.F
  exact l_stay_2 R w hN (vF V) 0 N (by omega) (by omega)
theorem l_voted_12 (R : RepC h c p V) (w : WF V) (q : CP c p) (hN : 200 ≤ N) {t : Nat} (ht : t < 4) (k2 : Nat → Int32 → Mem → Option (Int32 × Mem)) : ∀ (d i n : Nat) (row : Nat → Int32), i + d = 3 → d < n → ∃ row', f_X6_voted_12 N n c (iz t) (iz i) (wr h (ar c 9) row) k2 = match fs (voteP V t) i d with
    | some g => some (iz (100 * t + g), wr h (ar c 9) row')
    | none => k2 c (iz (t + 1)) (wr h (ar c 9) row') := by
  intro d
  induction d with
  | zero =>
    intro i n row hi hn
    obtain ⟨n, rfl⟩ : ∃ k, n = k + 1 := ⟨n - 1, by omega⟩
    rw [f_X6_voted_12]
    obtain rfl : i = 3 := by omega
    refine ⟨row, ?_⟩
    simp (disch := omega) only [↓reduceIte, if_true, if_false, Option.bind_some, b2_some, il0, il1, il2, il3, il4, il5, il6, il7, il8, il9, il10, il11, il12, il13, il14, il15, il16, il17, il18, il19, il20, il21, il22, il23, il24, il25, il26, il27, il28, il29, il30, il31, il32, il33, il36, il38, il39, il40, il41, il48, il50, il51, il57, il59, il60, il61, il62, il63, il70, il96, il99, il100, il101, il102, il103, il104, il105, il106, il107, il108, il109, il110, il111, il112, il115, il116, il120, il121, il124, il200, il240, il255, il288, il360, il420, il999, il1000, il114292, il152755, il402789, il435589, il463922, il533611, il631470, iz_add, iz_sub, iz_mul, iz_neg, iz_le, iz_lt, iz_eq, Int.le_refl]
    rfl
  | succ d ih =>
    intro i n row hi hn
    obtain ⟨n, rfl⟩ : ∃ k, n = k + 1 := ⟨n - 1, by omega⟩
    rw [f_X6_voted_12]
    have hc : ¬ ((3 : Int) ≤ i) := by omega
    have R1 := rep_want (row := row) R q
    have hlv := w.l (j := t * 3 + i) (by omega) (by omega)
    have hcb := choice_bd (V := V) (t := t) (g := i)
    obtain ⟨row2, e0⟩ := l_chosen R1 w q hN (t := t) (g := i) (by omega) (by omega)
    rw [wr_wr] at e0
    have R2 := rep_want (row := row2) R q
    obtain ⟨row', e⟩ := ih (i + 1) n row2 (by omega) (by omega)
    rw [fs]
    by_cases h1 : choice V t i = va V 1 (t * 3 + i)
    · have hp : voteP V t i = false := by simp [voteP, h1]
      refine ⟨row', ?_⟩
      simp (disch := omega) only [↓kC R1, ↓bq e0, ↓kA1 R2, ↓kX1m R2, ↓reduceIte, if_true, if_false, Option.bind_some, b2_some, il0, il1, il2, il3, il4, il5, il6, il7, il8, il9, il10, il11, il12, il13, il14, il15, il16, il17, il18, il19, il20, il21, il22, il23, il24, il25, il26, il27, il28, il29, il30, il31, il32, il33, il36, il38, il39, il40, il41, il48, il50, il51, il57, il59, il60, il61, il62, il63, il70, il96, il99, il100, il101, il102, il103, il104, il105, il106, il107, il108, il109, il110, il111, il112, il115, il116, il120, il121, il124, il200, il240, il255, il288, il360, il420, il999, il1000, il114292, il152755, il402789, il435589, il463922, il533611, il631470, iz_add, iz_sub, iz_mul, iz_neg, iz_le, iz_lt, iz_eq, hc, hp]
      rw [if_pos h1]
      simpa using e
    · have hp : voteP V t i = true := by simp [voteP, h1]
      refine ⟨row2, ?_⟩
      simp (disch := omega) only [↓kC R1, ↓bq e0, ↓kA1 R2, ↓kX1m R2, ↓reduceIte, if_true, if_false, Option.bind_some, b2_some, il0, il1, il2, il3, il4, il5, il6, il7, il8, il9, il10, il11, il12, il13, il14, il15, il16, il17, il18, il19, il20, il21, il22, il23, il24, il25, il26, il27, il28, il29, il30, il31, il32, il33, il36, il38, il39, il40, il41, il48, il50, il51, il57, il59, il60, il61, il62, il63, il70, il96, il99, il100, il101, il102, il103, il104, il105, il106, il107, il108, il109, il110, il111, il112, il115, il116, il120, il121, il124, il200, il240, il255, il288, il360, il420, il999, il1000, il114292, il152755, il402789, il435589, il463922, il533611, il631470, iz_add, iz_sub, iz_mul, iz_neg, iz_le, iz_lt, iz_eq, hc, hp, h1]
theorem l_voted_2 (R : RepC h c p V) (w : WF V) (q : CP c p) (hN : 200 ≤ N) : ∀ (d i n : Nat) (row : Nat → Int32), i + d = vT V → d < n → ∃ row', f_X6_voted_2 N n c (iz i) (wr h (ar c 9) row) = some (iz (fs2 (voteP V) (fun i => i) 3 i d), wr h (ar c 9) row') := by
  intro d
  have hT := w.T
  induction d with
  | zero =>
    intro i n row hi hn
    obtain ⟨n, rfl⟩ : ∃ k, n = k + 1 := ⟨n - 1, by omega⟩
    rw [f_X6_voted_2]
    obtain rfl : i = vT V := by omega
    have R1 := rep_want (row := row) R q
    refine ⟨row, ?_⟩
    simp (disch := omega) only [↓kT R1, ↓reduceIte, if_true, if_false, Option.bind_some, b2_some, il0, il1, il2, il3, il4, il5, il6, il7, il8, il9, il10, il11, il12, il13, il14, il15, il16, il17, il18, il19, il20, il21, il22, il23, il24, il25, il26, il27, il28, il29, il30, il31, il32, il33, il36, il38, il39, il40, il41, il48, il50, il51, il57, il59, il60, il61, il62, il63, il70, il96, il99, il100, il101, il102, il103, il104, il105, il106, il107, il108, il109, il110, il111, il112, il115, il116, il120, il121, il124, il200, il240, il255, il288, il360, il420, il999, il1000, il114292, il152755, il402789, il435589, il463922, il533611, il631470, iz_add, iz_sub, iz_mul, iz_neg, iz_le, iz_lt, iz_eq, Int.le_refl]
    rfl
  | succ d ih =>
    intro i n row hi hn
    obtain ⟨n, rfl⟩ : ∃ k, n = k + 1 := ⟨n - 1, by omega⟩
    rw [f_X6_voted_2]
    have hc : ¬ ((vT V : Int) ≤ i) := by omega
    have R1 := rep_want (row := row) R q
    obtain ⟨row1, e⟩ := l_voted_12 R w q hN (t := i) (by omega) (fun v1 v2 h => f_X6_voted_2 N n v1 v2 h) 3 0 N row (by omega) (by omega)
    obtain ⟨row', e2⟩ := ih (i + 1) n row1 (by omega) (by omega)
    simp (disch := omega) only [↓kT R1, ↓reduceIte, if_true, if_false, Option.bind_some, b2_some, il0, il1, il2, il3, il4, il5, il6, il7, il8, il9, il10, il11, il12, il13, il14, il15, il16, il17, il18, il19, il20, il21, il22, il23, il24, il25, il26, il27, il28, il29, il30, il31, il32, il33, il36, il38, il39, il40, il41, il48, il50, il51, il57, il59, il60, il61, il62, il63, il70, il96, il99, il100, il101, il102, il103, il104, il105, il106, il107, il108, il109, il110, il111, il112, il115, il116, il120, il121, il124, il200, il240, il255, il288, il360, il420, il999, il1000, il114292, il152755, il402789, il435589, il463922, il533611, il631470, iz_add, iz_sub, iz_mul, iz_neg, iz_le, iz_lt, iz_eq, hc]
    rw [fs2]
    cases hfs : fs (voteP V i) 0 3 with
    | some g => rw [hfs] at e; exact ⟨row1, e⟩
    | none => rw [hfs] at e; exact ⟨row', e.trans e2⟩
theorem l_voted (R : RepC h c p V) (w : WF V) (q : CP c p) (hN : 200 ≤ N) {v0 : Nat} : ∃ row', f_X6_voted N v0 c h = some (iz (voteS V), wr h (ar c 9) row') := by
  have hT := w.T
  obtain ⟨row', e⟩ := l_voted_2 R w q hN (vT V) 0 N (h.2.1 (ar c 9)) (by omega) (by omega)
  rw [wr_id rfl] at e
  exact ⟨row', e⟩
end
