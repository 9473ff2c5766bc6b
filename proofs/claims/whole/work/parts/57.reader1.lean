/-! the reader: a text of L bytes, and a place in it -/
def RD (h : Mem) (x : Nat → Int) (L P : Nat) : Prop := h.1[44]? = some (5, 0) ∧ h.2.2.2 44 0 = some 45 ∧ h.1[45]? = some (101, 120) ∧ h.2.1 44 1 = iz (L : Int) ∧ h.2.1 44 2 = iz (P : Int) ∧ (∀ j : Nat, j < L → h.2.1 45 j = iz (x j)) ∧ L ≤ 120 ∧ P ≤ L ∧ ∀ j : Nat, 0 ≤ x j ∧ x j ≤ 255
/-- the memory with another place -/
def pm (h : Mem) (P : Nat) : Mem := (h.1, u2 h.2.1 44 2 (iz (P : Int)), h.2.2.1, h.2.2.2)
theorem u2_u2 {α : Type} {f : Nat → Nat → α} {a k : Nat} {v w : α} : u2 (u2 f a k v) a k w = u2 f a k w := by
  funext i j
  unfold u2
  by_cases hi : i = a
  · rw [if_pos hi, if_pos hi]
    by_cases hj : j = k
    · simp [hj]
    · simp [hj]
  · rw [if_neg hi, if_neg hi, if_neg hi]
theorem pm_pm {h : Mem} {P P' : Nat} : pm (pm h P) P' = pm h P' := by
  unfold pm
  dsimp only
  rw [u2_u2]
theorem pm_rd {h : Mem} {x : Nat → Int} {L P P' : Nat} (r : RD h x L P) (hP : P' ≤ L) : RD (pm h P') x L P' := by
  obtain ⟨a1, a2, a3, a4, a5, a6, a7, a8, a9⟩ := r
  refine ⟨a1, a2, a3, ?_, ?_, fun j hj => ?_, a7, hP, a9⟩
  · show u2 h.2.1 44 2 (iz (P' : Int)) 44 1 = _
    rw [u2_at, if_neg (by decide)]; exact a4
  · show u2 h.2.1 44 2 (iz (P' : Int)) 44 2 = _
    rw [u2_at, if_pos rfl]
  · show u2 h.2.1 44 2 (iz (P' : Int)) 45 j = _
    rw [u2_ne (by decide)]; exact a6 j hj
theorem pm_id {h : Mem} {x : Nat → Int} {L P : Nat} (r : RD h x L P) : pm h P = h := by
  obtain ⟨a1, a2, a3, a4, a5, a6, a7, a8, a9⟩ := r
  obtain ⟨h1, h2, h3, h4⟩ := h
  unfold pm
  dsimp only at a5 ⊢
  rw [← a5]
  congr 2
  funext i j
  unfold u2
  by_cases hi : i = 44
  · rw [if_pos hi]
    by_cases hj : j = 2
    · rw [if_pos hj, hi, hj]
    · rw [if_neg hj, hi]
  · rw [if_neg hi]
-- the words of the spec: what stands at a place
def isAt (x : Nat → Int) (L P : Nat) (c : Int) : Bool := decide (P < L) && decide (x P = c)
def figS (x : Nat → Int) (L P : Nat) (m : Int) : Bool := decide (P < L) && (decide (48 ≤ x P) && decide (x P ≤ 48 + m))
/-- a number's digits from P on, at most d: its value and the place behind -/
def numS (x : Nat → Int) (L : Nat) : Nat → Nat → Int → Int × Nat
  | 0, P, v => (v, P)
  | d + 1, P, v => if figS x L P 9 = true then numS x L d (P + 1) ((if v < 0 then 0 else v) * 10 + x P - 48) else (v, P)
section
variable {h : Mem} {x : Nat → Int} {L P N : Nat} {γ : Type}
theorem kP (r : RD h x L P) {k : Int32 → Option γ} : (gI h 44 5 2).bind k = k (iz (P : Int)) := bo (by rw [gI_q r.1, r.2.2.2.2.1])
theorem kLn (r : RD h x L P) {k : Int32 → Option γ} : (gI h 44 5 1).bind k = k (iz (L : Int)) := bo (by rw [gI_q r.1, r.2.2.2.1])
theorem k45 (r : RD h x L P) {k : Nat → Option γ} : (gR h 44 5 0).bind k = k 45 := bo (gR_q r.1 r.2.1)
theorem k44 (r : RD h x L P) {k : Unit → Option γ} : (ck h 44 5).bind k = k () := bo (ck_q r.1)
theorem kTx (r : RD h x L P) {z : Nat} (hz : z < L) {k : Int32 → Option γ} : (lI 101 h 45 (iz (z : Int))).bind k = k (iz (x z)) := by
  have hL := r.2.2.2.2.2.2.1
  refine bo ((lI_q r.2.2.1 (by omega) (by omega) (by decide)).trans ?_)
  rw [toN, r.2.2.2.2.2.1 z hz]
theorem kSP (r : RD h x L P) {z : Nat} {k : Mem → Option γ} : (sI h 44 5 2 (iz (z : Int))).bind k = k (pm h z) := bo (sI_q r.1)
theorem l_met (r : RD h x L P) {c : Int} (hc : 0 ≤ c ∧ c ≤ 255) : f_X5_met N 44 (iz c) h = some (iz (bi (isAt x L P c)), if isAt x L P c = true then pm h (P + 1) else h) := by
  have hL := r.2.2.2.2.2.2.1
  have hP := r.2.2.2.2.2.2.2.1
  have hx := r.2.2.2.2.2.2.2.2 P
  unfold f_X5_met
  by_cases h1 : P < L
  · have h2 : ¬ ((L : Int) ≤ P) := by omega
    by_cases h3 : x P = c
    · have e : isAt x L P c = true := by simp [isAt, h1, h3]
      simp (disch := omega) only [↓kP r, ↓kLn r, ↓k45 r, ↓kTx r, ↓reduceIte, if_true, if_false, Option.bind_some, b2_some, il0, il1, il2, il3, il4, il5, il6, il7, il8, il9, il10, il11, il12, il13, il14, il15, il16, il17, il18, il19, il20, il21, il22, il23, il24, il25, il26, il27, il28, il29, il30, il31, il32, il33, il36, il38, il39, il40, il41, il48, il50, il51, il57, il59, il60, il61, il62, il63, il70, il96, il99, il100, il101, il102, il103, il104, il105, il106, il107, il108, il109, il110, il111, il112, il115, il116, il120, il121, il124, il200, il240, il255, il288, il360, il420, il999, il1000, il114292, il152755, il402789, il435589, il463922, il533611, il631470, iz_add, iz_sub, iz_mul, iz_neg, iz_le, iz_lt, iz_eq, h2, h3, e]
      rw [show (P : Int) + 1 = ((P + 1 : Nat) : Int) by omega, kSP r]
      rfl
    · have e : isAt x L P c = false := by simp [isAt, h3]
      simp (disch := omega) only [↓kP r, ↓kLn r, ↓k45 r, ↓kTx r, ↓reduceIte, if_true, if_false, Option.bind_some, b2_some, il0, il1, il2, il3, il4, il5, il6, il7, il8, il9, il10, il11, il12, il13, il14, il15, il16, il17, il18, il19, il20, il21, il22, il23, il24, il25, il26, il27, il28, il29, il30, il31, il32, il33, il36, il38, il39, il40, il41, il48, il50, il51, il57, il59, il60, il61, il62, il63, il70, il96, il99, il100, il101, il102, il103, il104, il105, il106, il107, il108, il109, il110, il111, il112, il115, il116, il120, il121, il124, il200, il240, il255, il288, il360, il420, il999, il1000, il114292, il152755, il402789, il435589, il463922, il533611, il631470, iz_add, iz_sub, iz_mul, iz_neg, iz_le, iz_lt, iz_eq, h2, h3, e]
      rfl
  · have h2 : (L : Int) ≤ P := by omega
    have e : isAt x L P c = false := by simp [isAt, h1]
    simp (disch := omega) only [↓kP r, ↓kLn r, ↓k45 r, ↓kTx r, ↓reduceIte, if_true, if_false, Option.bind_some, b2_some, il0, il1, il2, il3, il4, il5, il6, il7, il8, il9, il10, il11, il12, il13, il14, il15, il16, il17, il18, il19, il20, il21, il22, il23, il24, il25, il26, il27, il28, il29, il30, il31, il32, il33, il36, il38, il39, il40, il41, il48, il50, il51, il57, il59, il60, il61, il62, il63, il70, il96, il99, il100, il101, il102, il103, il104, il105, il106, il107, il108, il109, il110, il111, il112, il115, il116, il120, il121, il124, il200, il240, il255, il288, il360, il420, il999, il1000, il114292, il152755, il402789, il435589, il463922, il533611, il631470, iz_add, iz_sub, iz_mul, iz_neg, iz_le, iz_lt, iz_eq, h2, e]
    rfl
theorem l_figure (r : RD h x L P) {m : Int} (hm : 0 ≤ m ∧ m ≤ 9) : f_X5_figure N 44 (iz m) h = some (iz (if figS x L P m = true then x P - 48 else -1), if figS x L P m = true then pm h (P + 1) else h) := by
  have hL := r.2.2.2.2.2.2.1
  have hP := r.2.2.2.2.2.2.2.1
  have hx := r.2.2.2.2.2.2.2.2 P
  unfold f_X5_figure
  by_cases h1 : P < L
  · have h2 : ¬ ((L : Int) ≤ P) := by omega
    by_cases h3 : x P < 48
    · have e : figS x L P m = false := by simp [figS]; omega
      simp (disch := omega) only [↓kP r, ↓kLn r, ↓k45 r, ↓kTx r, ↓reduceIte, if_true, if_false, Option.bind_some, b2_some, il0, il1, il2, il3, il4, il5, il6, il7, il8, il9, il10, il11, il12, il13, il14, il15, il16, il17, il18, il19, il20, il21, il22, il23, il24, il25, il26, il27, il28, il29, il30, il31, il32, il33, il36, il38, il39, il40, il41, il48, il50, il51, il57, il59, il60, il61, il62, il63, il70, il96, il99, il100, il101, il102, il103, il104, il105, il106, il107, il108, il109, il110, il111, il112, il115, il116, il120, il121, il124, il200, il240, il255, il288, il360, il420, il999, il1000, il114292, il152755, il402789, il435589, il463922, il533611, il631470, iz_add, iz_sub, iz_mul, iz_neg, iz_le, iz_lt, iz_eq, h2, h3, e]
      rfl
    · by_cases h4 : 48 + m < x P
      · have e : figS x L P m = false := by simp [figS]; omega
        simp (disch := omega) only [↓kP r, ↓kLn r, ↓k45 r, ↓kTx r, ↓reduceIte, if_true, if_false, Option.bind_some, b2_some, il0, il1, il2, il3, il4, il5, il6, il7, il8, il9, il10, il11, il12, il13, il14, il15, il16, il17, il18, il19, il20, il21, il22, il23, il24, il25, il26, il27, il28, il29, il30, il31, il32, il33, il36, il38, il39, il40, il41, il48, il50, il51, il57, il59, il60, il61, il62, il63, il70, il96, il99, il100, il101, il102, il103, il104, il105, il106, il107, il108, il109, il110, il111, il112, il115, il116, il120, il121, il124, il200, il240, il255, il288, il360, il420, il999, il1000, il114292, il152755, il402789, il435589, il463922, il533611, il631470, iz_add, iz_sub, iz_mul, iz_neg, iz_le, iz_lt, iz_eq, h2, h3, h4, e]
        rfl
      · have e : figS x L P m = true := by simp [figS]; omega
        have r1 := pm_rd r (P' := P + 1) (by omega)
        simp (disch := omega) only [↓kP r, ↓kLn r, ↓k45 r, ↓kTx r, ↓reduceIte, if_true, if_false, Option.bind_some, b2_some, il0, il1, il2, il3, il4, il5, il6, il7, il8, il9, il10, il11, il12, il13, il14, il15, il16, il17, il18, il19, il20, il21, il22, il23, il24, il25, il26, il27, il28, il29, il30, il31, il32, il33, il36, il38, il39, il40, il41, il48, il50, il51, il57, il59, il60, il61, il62, il63, il70, il96, il99, il100, il101, il102, il103, il104, il105, il106, il107, il108, il109, il110, il111, il112, il115, il116, il120, il121, il124, il200, il240, il255, il288, il360, il420, il999, il1000, il114292, il152755, il402789, il435589, il463922, il533611, il631470, iz_add, iz_sub, iz_mul, iz_neg, iz_le, iz_lt, iz_eq, h2, h3, h4, e]
        rw [show (P : Int) + 1 = ((P + 1 : Nat) : Int) by omega, kSP r, kTx r1 h1]
        simp only [if_true, if_false, Option.bind_some, b2_some, il0, il1, il2, il3, il4, il5, il6, il7, il8, il9, il10, il11, il12, il13, il14, il15, il16, il17, il18, il19, il20, il21, il22, il23, il24, il25, il26, il27, il28, il29, il30, il31, il32, il33, il36, il38, il39, il40, il41, il48, il50, il51, il57, il59, il60, il61, il62, il63, il70, il96, il99, il100, il101, il102, il103, il104, il105, il106, il107, il108, il109, il110, il111, il112, il115, il116, il120, il121, il124, il200, il240, il255, il288, il360, il420, il999, il1000, il114292, il152755, il402789, il435589, il463922, il533611, il631470, iz_add, iz_sub, iz_mul, iz_neg, iz_le, iz_lt, iz_eq, e]
  · have h2 : (L : Int) ≤ P := by omega
    have e : figS x L P m = false := by simp [figS, h1]
    simp (disch := omega) only [↓kP r, ↓kLn r, ↓k45 r, ↓kTx r, ↓reduceIte, if_true, if_false, Option.bind_some, b2_some, il0, il1, il2, il3, il4, il5, il6, il7, il8, il9, il10, il11, il12, il13, il14, il15, il16, il17, il18, il19, il20, il21, il22, il23, il24, il25, il26, il27, il28, il29, il30, il31, il32, il33, il36, il38, il39, il40, il41, il48, il50, il51, il57, il59, il60, il61, il62, il63, il70, il96, il99, il100, il101, il102, il103, il104, il105, il106, il107, il108, il109, il110, il111, il112, il115, il116, il120, il121, il124, il200, il240, il255, il288, il360, il420, il999, il1000, il114292, il152755, il402789, il435589, il463922, il533611, il631470, iz_add, iz_sub, iz_mul, iz_neg, iz_le, iz_lt, iz_eq, h2, e]
    rfl
theorem numS_bd (hx : ∀ j : Nat, 0 ≤ x j ∧ x j ≤ 255) : ∀ (d P : Nat) (v : Int) (m : Nat), d + m = 3 → -1 ≤ v ∧ v < 10 ^ m → P ≤ L → -1 ≤ (numS x L d P v).1 ∧ (numS x L d P v).1 < 1000 ∧ P ≤ (numS x L d P v).2 ∧ (numS x L d P v).2 ≤ L := by
  intro d
  induction d with
  | zero =>
    intro P v m hm hv hP
    obtain rfl : m = 3 := by omega
    show -1 ≤ v ∧ v < 1000 ∧ P ≤ P ∧ P ≤ L
    omega
  | succ d ih =>
    intro P v m hm hv hP
    have h10 : 1 ≤ (10 : Int) ^ m ∧ (10 : Int) ^ m ≤ 1000 := by
      have : ∀ m : Nat, m ≤ 3 → 1 ≤ (10 : Int) ^ m ∧ (10 : Int) ^ m ≤ 1000 := by decide
      exact this m (by omega)
    unfold numS
    by_cases h1 : figS x L P 9 = true
    · rw [if_pos h1]
      have h2 : P < L ∧ 48 ≤ x P ∧ x P ≤ 57 := by simpa [figS] using h1
      have := ih (P + 1) ((if v < 0 then 0 else v) * 10 + x P - 48) (m + 1) (by omega) (by rw [Int.pow_succ]; split <;> omega) (by omega)
      omega
    · rw [if_neg h1]
      show -1 ≤ v ∧ v < 1000 ∧ P ≤ P ∧ P ≤ L
      omega
theorem l_number_4 (h0 : Mem) : ∀ (d i n : Nat) (P : Nat) (v : Int), i + d = 3 → d < n → RD (pm h0 P) x L P → (-1 ≤ v ∧ v < 1000) → (d = 3 → v < 1) ∧ (d = 2 → v < 10) ∧ (d = 1 → v < 100) → f_X5_number_4 N n 44 (iz v) (iz i) (pm h0 P) = some (iz (numS x L d P v).1, pm h0 (numS x L d P v).2) := by
  intro d
  induction d with
  | zero =>
    intro i n P v hi hn r hv hb
    obtain ⟨n, rfl⟩ : ∃ k, n = k + 1 := ⟨n - 1, by omega⟩
    rw [f_X5_number_4]
    obtain rfl : i = 3 := by omega
    simp (disch := omega) only [if_true, if_false, Option.bind_some, b2_some, il0, il1, il2, il3, il4, il5, il6, il7, il8, il9, il10, il11, il12, il13, il14, il15, il16, il17, il18, il19, il20, il21, il22, il23, il24, il25, il26, il27, il28, il29, il30, il31, il32, il33, il36, il38, il39, il40, il41, il48, il50, il51, il57, il59, il60, il61, il62, il63, il70, il96, il99, il100, il101, il102, il103, il104, il105, il106, il107, il108, il109, il110, il111, il112, il115, il116, il120, il121, il124, il200, il240, il255, il288, il360, il420, il999, il1000, il114292, il152755, il402789, il435589, il463922, il533611, il631470, iz_add, iz_sub, iz_mul, iz_neg, iz_le, iz_lt, iz_eq]
    rfl
  | succ d ih =>
    intro i n P v hi hn r hv hb
    obtain ⟨n, rfl⟩ : ∃ k, n = k + 1 := ⟨n - 1, by omega⟩
    rw [f_X5_number_4]
    have hc : ¬ ((3 : Int) ≤ i) := by omega
    have hL := r.2.2.2.2.2.2.1
    have hP := r.2.2.2.2.2.2.2.1
    have hx := r.2.2.2.2.2.2.2.2 P
    rw [numS]
    by_cases h1 : P < L
    · have h2 : ¬ ((L : Int) ≤ P) := by omega
      by_cases h3 : x P < 48
      · have e : figS x L P 9 = false := by simp [figS]; omega
        simp (disch := omega) only [↓kP r, ↓kLn r, ↓k45 r, ↓kTx r, ↓reduceIte, if_true, if_false, Option.bind_some, b2_some, il0, il1, il2, il3, il4, il5, il6, il7, il8, il9, il10, il11, il12, il13, il14, il15, il16, il17, il18, il19, il20, il21, il22, il23, il24, il25, il26, il27, il28, il29, il30, il31, il32, il33, il36, il38, il39, il40, il41, il48, il50, il51, il57, il59, il60, il61, il62, il63, il70, il96, il99, il100, il101, il102, il103, il104, il105, il106, il107, il108, il109, il110, il111, il112, il115, il116, il120, il121, il124, il200, il240, il255, il288, il360, il420, il999, il1000, il114292, il152755, il402789, il435589, il463922, il533611, il631470, iz_add, iz_sub, iz_mul, iz_neg, iz_le, iz_lt, iz_eq, hc, h2, h3, e]
        rfl
      · by_cases h4 : x P ≤ 57
        · have e : figS x L P 9 = true := by simp [figS]; omega
          have r1 := pm_rd r (P' := P + 1) (by omega)
          rw [pm_pm] at r1
          have step : ∀ s : Int, f_X5_number_59 N 44 (iz i) (iz s) (pm h0 P) (fun v0 v1 v2 h => f_X5_number_4 N n v0 v1 v2 h) = f_X5_number_4 N n 44 (iz (s * 10 + x P - 48)) (iz ((i + 1 : Nat) : Int)) (pm h0 (P + 1)) := by
            intro s
            rw [f_X5_number_59]
            simp (disch := omega) only [↓kP r, ↓k45 r, if_true, if_false, Option.bind_some, b2_some, il0, il1, il2, il3, il4, il5, il6, il7, il8, il9, il10, il11, il12, il13, il14, il15, il16, il17, il18, il19, il20, il21, il22, il23, il24, il25, il26, il27, il28, il29, il30, il31, il32, il33, il36, il38, il39, il40, il41, il48, il50, il51, il57, il59, il60, il61, il62, il63, il70, il96, il99, il100, il101, il102, il103, il104, il105, il106, il107, il108, il109, il110, il111, il112, il115, il116, il120, il121, il124, il200, il240, il255, il288, il360, il420, il999, il1000, il114292, il152755, il402789, il435589, il463922, il533611, il631470, iz_add, iz_sub, iz_mul, iz_neg, iz_le, iz_lt, iz_eq]
            rw [show (P : Int) + 1 = ((P + 1 : Nat) : Int) by omega, kSP r, pm_pm, kTx r1 h1]
            simp only [if_true, if_false, Option.bind_some, b2_some, il0, il1, il2, il3, il4, il5, il6, il7, il8, il9, il10, il11, il12, il13, il14, il15, il16, il17, il18, il19, il20, il21, il22, il23, il24, il25, il26, il27, il28, il29, il30, il31, il32, il33, il36, il38, il39, il40, il41, il48, il50, il51, il57, il59, il60, il61, il62, il63, il70, il96, il99, il100, il101, il102, il103, il104, il105, il106, il107, il108, il109, il110, il111, il112, il115, il116, il120, il121, il124, il200, il240, il255, il288, il360, il420, il999, il1000, il114292, il152755, il402789, il435589, il463922, il533611, il631470, iz_add, iz_sub, iz_mul, iz_neg, iz_le, iz_lt, iz_eq]
            rfl
          by_cases h5 : 0 ≤ v
          · have h6 : ¬ (v < 0) := by omega
            have e2 := ih (i + 1) n (P + 1) (v * 10 + x P - 48) (by omega) (by omega) r1 (by omega) (by omega)
            simp (disch := omega) only [↓kP r, ↓kLn r, ↓k45 r, ↓kTx r, ↓reduceIte, if_true, if_false, Option.bind_some, b2_some, il0, il1, il2, il3, il4, il5, il6, il7, il8, il9, il10, il11, il12, il13, il14, il15, il16, il17, il18, il19, il20, il21, il22, il23, il24, il25, il26, il27, il28, il29, il30, il31, il32, il33, il36, il38, il39, il40, il41, il48, il50, il51, il57, il59, il60, il61, il62, il63, il70, il96, il99, il100, il101, il102, il103, il104, il105, il106, il107, il108, il109, il110, il111, il112, il115, il116, il120, il121, il124, il200, il240, il255, il288, il360, il420, il999, il1000, il114292, il152755, il402789, il435589, il463922, il533611, il631470, iz_add, iz_sub, iz_mul, iz_neg, iz_le, iz_lt, iz_eq, hc, h2, h3, h4, h5, e]
            rw [step v, if_neg h6]
            exact e2
          · have h6 : v < 0 := by omega
            have e2 := ih (i + 1) n (P + 1) (0 * 10 + x P - 48) (by omega) (by omega) r1 (by omega) (by omega)
            simp (disch := omega) only [↓kP r, ↓kLn r, ↓k45 r, ↓kTx r, ↓reduceIte, if_true, if_false, Option.bind_some, b2_some, il0, il1, il2, il3, il4, il5, il6, il7, il8, il9, il10, il11, il12, il13, il14, il15, il16, il17, il18, il19, il20, il21, il22, il23, il24, il25, il26, il27, il28, il29, il30, il31, il32, il33, il36, il38, il39, il40, il41, il48, il50, il51, il57, il59, il60, il61, il62, il63, il70, il96, il99, il100, il101, il102, il103, il104, il105, il106, il107, il108, il109, il110, il111, il112, il115, il116, il120, il121, il124, il200, il240, il255, il288, il360, il420, il999, il1000, il114292, il152755, il402789, il435589, il463922, il533611, il631470, iz_add, iz_sub, iz_mul, iz_neg, iz_le, iz_lt, iz_eq, hc, h2, h3, h4, h5, e]
            rw [step 0, if_pos h6]
            exact e2
        · have e : figS x L P 9 = false := by simp [figS]; omega
          simp (disch := omega) only [↓kP r, ↓kLn r, ↓k45 r, ↓kTx r, ↓reduceIte, if_true, if_false, Option.bind_some, b2_some, il0, il1, il2, il3, il4, il5, il6, il7, il8, il9, il10, il11, il12, il13, il14, il15, il16, il17, il18, il19, il20, il21, il22, il23, il24, il25, il26, il27, il28, il29, il30, il31, il32, il33, il36, il38, il39, il40, il41, il48, il50, il51, il57, il59, il60, il61, il62, il63, il70, il96, il99, il100, il101, il102, il103, il104, il105, il106, il107, il108, il109, il110, il111, il112, il115, il116, il120, il121, il124, il200, il240, il255, il288, il360, il420, il999, il1000, il114292, il152755, il402789, il435589, il463922, il533611, il631470, iz_add, iz_sub, iz_mul, iz_neg, iz_le, iz_lt, iz_eq, hc, h2, h3, h4, e]
          rfl
    · have h2 : (L : Int) ≤ P := by omega
      have e : figS x L P 9 = false := by simp [figS, h1]
      simp (disch := omega) only [↓kP r, ↓kLn r, ↓k45 r, ↓kTx r, ↓reduceIte, if_true, if_false, Option.bind_some, b2_some, il0, il1, il2, il3, il4, il5, il6, il7, il8, il9, il10, il11, il12, il13, il14, il15, il16, il17, il18, il19, il20, il21, il22, il23, il24, il25, il26, il27, il28, il29, il30, il31, il32, il33, il36, il38, il39, il40, il41, il48, il50, il51, il57, il59, il60, il61, il62, il63, il70, il96, il99, il100, il101, il102, il103, il104, il105, il106, il107, il108, il109, il110, il111, il112, il115, il116, il120, il121, il124, il200, il240, il255, il288, il360, il420, il999, il1000, il114292, il152755, il402789, il435589, il463922, il533611, il631470, iz_add, iz_sub, iz_mul, iz_neg, iz_le, iz_lt, iz_eq, hc, h2, e]
      rfl
def numR (x : Nat → Int) (L P : Nat) : Int × Nat := numS x L 3 P (-1)
theorem l_number (r : RD h x L P) (hN : 200 ≤ N) : f_X5_number N 44 h = some (iz (numR x L P).1, pm h (numR x L P).2) := by
  have e := l_number_4 (N := N) (x := x) (L := L) h 3 0 N P (-1) (by omega) (by omega) (by rw [pm_id r]; exact r) (by omega) (by omega)
  rw [pm_id r] at e
  exact e
end
