/-! expressions: whether they stand there, where the reader is then, and the program's signs -/
abbrev Rs : Type := Bool × Nat × List Int
def pT (x : Nat → Int) (L P : Nat) : Rs :=
  if 0 ≤ letS x L P 3 then
    (if 0 ≤ letS x L (P + 1) 4 then
      (if 0 ≤ (numR x L (P + 2)).1 then (true, (numR x L (P + 2)).2, [(numR x L (P + 2)).1 * 16 + (letS x L P 3 * 3 + letS x L (P + 1) 4)]) else (false, (numR x L (P + 2)).2, []))
    else (false, P + 1, []))
  else (false, P, [])
def pL (fac : Nat → Rs) (x : Nat → Int) (L : Nat) : Nat → Bool → Bool → Nat → Rs
  | 0, _, _, P => (false, P, [])
  | d + 1, ft, ff, P =>
    let r := fac P
    if r.1 = true then
      let u1 := r.2.2 ++ (if ff = true then [] else [13])
      if isAt x L r.2.1 38 = true then
        let s := pL fac x L d ft false (r.2.1 + 1)
        (s.1, s.2.1, u1 ++ s.2.2)
      else
        let u2 := u1 ++ (if ft = true then [] else [14])
        if isAt x L r.2.1 124 = true then
          let s := pL fac x L d false true (r.2.1 + 1)
          (s.1, s.2.1, u2 ++ s.2.2)
        else (true, r.2.1, u2)
    else (false, r.2.1, r.2.2)
def pF (x : Nat → Int) (L : Nat) : Nat → Nat → Nat → Rs
  | 0, _, P => (false, P, [])
  | k + 1, e, P =>
    if (isAt x L P 33 || isAt x L P 40) = true ∧ 4 ≤ e then (false, P, [])
    else if isAt x L P 33 = true then
      let s := pF x L k (e + 1) (P + 1)
      (s.1, s.2.1, s.2.2 ++ (if s.1 = true then [12] else []))
    else if isAt x L P 40 = true then
      let s := pL (pF x L k (e + 1)) x L 120 true true (P + 1)
      if s.1 = true then (if isAt x L s.2.1 41 = true then (true, s.2.1 + 1, s.2.2) else (false, s.2.1, s.2.2)) else s
    else pT x L P
theorem isAt_lt {x : Nat → Int} {L P : Nat} {c : Int} (h : isAt x L P c = true) : P < L ∧ x P = c := by simpa [isAt] using h
/-- tokens are no more than bytes -/
def Ok (L P : Nat) (c : Nat) (r : Rs) : Prop := P ≤ r.2.1 ∧ r.2.1 ≤ L ∧ r.2.2.length ≤ r.2.1 - P + c
theorem letS_lt {x : Nat → Int} {L P k : Nat} (h : 0 ≤ letS x L P k) : P < L := by
  unfold letS at h
  split at h
  · assumption
  · omega
theorem pT_ok {x : Nat → Int} {L P : Nat} (hx : ∀ j : Nat, 0 ≤ x j ∧ x j ≤ 255) (hP : P ≤ L) : Ok L P 0 (pT x L P) := by
  unfold pT Ok
  by_cases h1 : 0 ≤ letS x L P 3
  · have l1 := letS_lt h1
    rw [if_pos h1]
    by_cases h2 : 0 ≤ letS x L (P + 1) 4
    · have l2 := letS_lt h2
      rw [if_pos h2]
      have hb := numS_bd (L := L) hx 3 (P + 2) (-1) 0 (by omega) (by omega) (by omega)
      have hb' : P + 2 ≤ (numR x L (P + 2)).2 ∧ (numR x L (P + 2)).2 ≤ L := hb.2.2
      by_cases h3 : 0 ≤ (numR x L (P + 2)).1
      · rw [if_pos h3]
        dsimp only [List.length]
        omega
      · rw [if_neg h3]
        dsimp only [List.length]
        omega
    · rw [if_neg h2]
      dsimp only [List.length]
      omega
  · rw [if_neg h1]
    dsimp only [List.length]
    omega
def cr (b : Bool) : Nat := if b = true then 0 else 1
theorem pL_ok {fac : Nat → Rs} {x : Nat → Int} {L : Nat} (hf : ∀ P, P ≤ L → Ok L P 0 (fac P)) : ∀ (d : Nat) (ft ff : Bool) (P : Nat), P ≤ L → Ok L P (cr ft + cr ff) (pL fac x L d ft ff P) := by
  intro d
  induction d with
  | zero => intro ft ff P hP; exact ⟨Nat.le_refl _, hP, Nat.zero_le _⟩
  | succ d ih =>
    intro ft ff P hP
    have h1 := hf P hP
    unfold Ok at h1 ⊢
    unfold pL
    dsimp only
    have l1 : (if ff = true then ([] : List Int) else [13]).length = cr ff := by unfold cr; split <;> rfl
    have l2 : (if ft = true then ([] : List Int) else [14]).length = cr ft := by unfold cr; split <;> rfl
    by_cases hr : (fac P).1 = true
    · rw [if_pos hr]
      by_cases ha : isAt x L (fac P).2.1 38 = true
      · have la := isAt_lt ha
        have h2 := ih ft false ((fac P).2.1 + 1) (by omega)
        unfold Ok at h2
        rw [if_pos ha]
        dsimp only
        rw [List.length_append, List.length_append, l1]
        have : cr false = 1 := rfl
        omega
      · rw [if_neg ha]
        by_cases hb : isAt x L (fac P).2.1 124 = true
        · have la := isAt_lt hb
          have h2 := ih false true ((fac P).2.1 + 1) (by omega)
          unfold Ok at h2
          rw [if_pos hb]
          dsimp only
          rw [List.length_append, List.length_append, List.length_append, l1, l2]
          have : cr false = 1 := rfl
          have : cr true = 0 := rfl
          omega
        · rw [if_neg hb]
          dsimp only
          rw [List.length_append, List.length_append, l1, l2]
          omega
    · rw [if_neg hr]
      dsimp only
      omega
theorem pF_ok {x : Nat → Int} {L : Nat} (hx : ∀ j : Nat, 0 ≤ x j ∧ x j ≤ 255) : ∀ (k e P : Nat), P ≤ L → Ok L P 0 (pF x L k e P) := by
  intro k
  induction k with
  | zero => intro e P hP; exact ⟨Nat.le_refl _, hP, Nat.zero_le _⟩
  | succ k ih =>
    intro e P hP
    unfold pF
    by_cases h1 : (isAt x L P 33 || isAt x L P 40) = true ∧ 4 ≤ e
    · rw [if_pos h1]; exact ⟨Nat.le_refl _, hP, Nat.zero_le _⟩
    · rw [if_neg h1]
      by_cases h2 : isAt x L P 33 = true
      · rw [if_pos h2]
        have la := isAt_lt h2
        have h3 := ih (e + 1) (P + 1) (by omega)
        unfold Ok at h3 ⊢
        dsimp only
        rw [List.length_append]
        have : (if (pF x L k (e + 1) (P + 1)).1 = true then ([12] : List Int) else []).length ≤ 1 := by split <;> simp
        omega
      · rw [if_neg h2]
        by_cases h3 : isAt x L P 40 = true
        · rw [if_pos h3]
          have la := isAt_lt h3
          have h4 := pL_ok (x := x) (ih (e + 1)) 120 true true (P + 1) (by omega)
          unfold Ok at h4 ⊢
          have c0 : cr true = 0 := rfl
          dsimp only
          by_cases h5 : (pL (pF x L k (e + 1)) x L 120 true true (P + 1)).1 = true
          · rw [if_pos h5]
            by_cases h6 : isAt x L (pL (pF x L k (e + 1)) x L 120 true true (P + 1)).2.1 41 = true
            · rw [if_pos h6]
              have := isAt_lt h6
              dsimp only
              omega
            · rw [if_neg h6]
              dsimp only
              omega
          · rw [if_neg h5]
            omega
        · rw [if_neg h3]
          exact pT_ok hx hP
