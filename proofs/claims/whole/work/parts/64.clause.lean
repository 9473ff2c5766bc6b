/-! clauses -/
abbrev Dv : Type := Nat → Int → Int
def dset (D : Dv) (k : Nat) (j v : Int) : Dv := fun k' j' => if k' = k ∧ j' = j then v else D k' j'
def CL (h : Mem) (x : Nat → Int) (L p P : Nat) (D : Dv) (T : List Int) : Prop := RD h x L P ∧ EL h p T ∧ (h.2.2.2 p 0 = some (p + 1) ∧ h.1[p + 1]? = some (100, 12)) ∧ (h.2.2.2 p 1 = some (p + 2) ∧ h.1[p + 2]? = some (100, 16)) ∧ (h.2.2.2 p 2 = some (p + 3) ∧ h.1[p + 3]? = some (100, 3)) ∧ (∀ j : Nat, j < 12 → h.2.1 (p + 1) j = iz (D 9 j)) ∧ (∀ j : Nat, j < 16 → h.2.1 (p + 2) j = iz (D 10 j)) ∧ (∀ j : Nat, j < 3 → h.2.1 (p + 3) j = iz (D 11 j)) ∧ h.2.1 p 3 = iz (D 12 0) ∧ h.2.1 p 4 = iz (D 12 1) ∧ h.2.1 p 5 = iz (D 12 2)
/-- what reading leaves -/
def FL (p : Nat) (h h' : Mem) : Prop := h'.1 = h.1 ∧ h'.2.2 = h.2.2 ∧ (∀ i, i ≠ 44 → (i < p ∨ p + 4 < i) → h'.2.1 i = h.2.1 i) ∧ ∀ j, j ≠ 2 → h'.2.1 44 j = h.2.1 44 j
theorem FL.rf {p : Nat} {h : Mem} : FL p h h := ⟨rfl, rfl, fun _ _ _ => rfl, fun _ _ => rfl⟩
theorem FL.tr {p : Nat} {h h1 h2 : Mem} (a : FL p h h1) (b : FL p h1 h2) : FL p h h2 := ⟨b.1.trans a.1, b.2.1.trans a.2.1, fun i q1 q2 => (b.2.2.1 i q1 q2).trans (a.2.2.1 i q1 q2), fun j q => (b.2.2.2 j q).trans (a.2.2.2 j q)⟩
theorem FE.fl {p : Nat} {h h' : Mem} (a : FE p h h') : FL p h h' := ⟨a.1, a.2.1, fun i h1 h2 => a.2.2.1 i h1 (by omega) (by omega), a.2.2.2.1⟩
section
variable {h h' : Mem} {x : Nat → Int} {L p P P' N : Nat} {D : Dv} {T T' : List Int}
theorem CL.st (c : CL h x L p P D T) : ST h x L p h P T := ⟨c.1, c.2.1, FE.rf⟩
theorem CL.of (q : Lq p) (c : CL h x L p P D T) (s : ST h x L p h' P' T') : CL h' x L p P' D T' := by
  obtain ⟨c1, c2, c3, c4, c5, c6, c7, c8, c9, c10, c11⟩ := c
  obtain ⟨r, e, k⟩ := s
  have p1 : p + 1 ≠ 44 ∧ p + 2 ≠ 44 ∧ p + 3 ≠ 44 := by rcases q with rfl | rfl <;> decide
  refine ⟨r, e, ?_, ?_, ?_, fun j hj => ?_, fun j hj => ?_, fun j hj => ?_, ?_, ?_, ?_⟩
  · rw [k.1, k.2.1]; exact c3
  · rw [k.1, k.2.1]; exact c4
  · rw [k.1, k.2.1]; exact c5
  · rw [k.2.2.1 _ p1.1 (by omega) (by omega)]; exact c6 j hj
  · rw [k.2.2.1 _ p1.2.1 (by omega) (by omega)]; exact c7 j hj
  · rw [k.2.2.1 _ p1.2.2 (by omega) (by omega)]; exact c8 j hj
  · rw [k.2.2.2.2 3 (by decide)]; exact c9
  · rw [k.2.2.2.2 4 (by decide)]; exact c10
  · rw [k.2.2.2.2 5 (by decide)]; exact c11
theorem CL.pm (q : Lq p) (c : CL h x L p P D T) (hP : P' ≤ L) : CL (pm h P') x L p P' D T := c.of q (c.st.pm q hP)
theorem FL.pm (q : Lq p) : FL p h (pm h P) := (FE.pm q).fl
/-- a row of the land set -/
theorem CL.row (q : Lq p) (c : CL h x L p P D T) {k : Nat} (hk : 9 ≤ k ∧ k ≤ 11) {j : Nat} {v : Int} : CL (wr h (p + (k - 8)) (upd (h.2.1 (p + (k - 8))) j (iz v))) x L p P (dset D k j v) T := by
  obtain ⟨⟨r1, r2, r3, r4, r5, r6, r7, r8, r9⟩, ⟨a1, a2, a3, a4, a5⟩, c3, c4, c5, c6, c7, c8, c9, c10, c11⟩ := c
  have n44 : 44 ≠ p + (k - 8) := by rcases q with rfl | rfl <;> omega
  have n45 : 45 ≠ p + (k - 8) := by rcases q with rfl | rfl <;> omega
  have np : p ≠ p + (k - 8) := by omega
  have np4 : p + 4 ≠ p + (k - 8) := by omega
  have rw1 : ∀ (m : Nat), 1 ≤ m → m ≤ 3 → ∀ (n : Nat) (j' : Nat), (∀ j : Nat, j < n → h.2.1 (p + m) j = iz (D (m + 8) j)) → j' < n → (wr h (p + (k - 8)) (upd (h.2.1 (p + (k - 8))) j (iz v))).2.1 (p + m) j' = iz (dset D k j v (m + 8) j') := by
    intro m h1 h2 n j' hm hj'
    unfold dset
    by_cases hmk : m = k - 8
    · subst hmk
      rw [wr_eq, upd_at]
      by_cases hjj : j' = j
      · rw [if_pos hjj, if_pos ⟨by omega, by omega⟩]
      · rw [if_neg hjj, if_neg (fun z => hjj (by have := z.2; omega))]
        exact hm j' hj'
    · rw [wr_ne (by omega), if_neg (fun z => hmk (by have := z.1; omega))]
      exact hm j' hj'
  refine ⟨⟨r1, r2, r3, ?_, ?_, fun j hj => ?_, r7, r8, r9⟩, ⟨a1, a2, a3, ?_, fun j hj => ?_⟩, c3, c4, c5, fun j hj => rw1 1 (by decide) (by decide) 12 j c6 hj, fun j hj => rw1 2 (by decide) (by decide) 16 j c7 hj, fun j hj => rw1 3 (by decide) (by decide) 3 j c8 hj, ?_, ?_, ?_⟩
  · rw [wr_ne n44]; exact r4
  · rw [wr_ne n44]; exact r5
  · rw [wr_ne n45]; exact r6 j hj
  · rw [wr_ne np]; exact a4
  · rw [wr_ne np4]; exact a5 j hj
  · rw [wr_ne np, c9]; unfold dset; rw [if_neg (fun z => by have := z.1; omega)]
  · rw [wr_ne np, c10]; unfold dset; rw [if_neg (fun z => by have := z.1; omega)]
  · rw [wr_ne np, c11]; unfold dset; rw [if_neg (fun z => by have := z.1; omega)]
theorem FL.row {a : Nat} {row : Nat → Int32} (q : Lq p) (ha : p < a ∧ a ≤ p + 4) : FL p h (wr h a row) := ⟨rfl, rfl, fun i h1 h2 => wr_ne (by omega), fun j hj => by rw [wr_ne (by rcases q with rfl | rfl <;> omega)]⟩
/-- one of the land's three figures set -/
theorem CL.fld (q : Lq p) (c : CL h x L p P D T) {j : Nat} (hj3 : j < 3) {v : Int} : CL (h.1, u2 h.2.1 p (j + 3) (iz v), h.2.2.1, h.2.2.2) x L p P (dset D 12 j v) T := by
  obtain ⟨⟨r1, r2, r3, r4, r5, r6, r7, r8, r9⟩, ⟨a1, a2, a3, a4, a5⟩, c3, c4, c5, c6, c7, c8, c9, c10, c11⟩ := c
  have n44 : 44 ≠ p := by rcases q with rfl | rfl <;> decide
  have n45 : 45 ≠ p := by rcases q with rfl | rfl <;> decide
  have fl : ∀ m : Nat, m < 3 → h.2.1 p (m + 3) = iz (D 12 m) → u2 h.2.1 p (j + 3) (iz v) p (m + 3) = iz (dset D 12 j v 12 m) := by
    intro m hm e
    rw [u2_at]
    unfold dset
    by_cases hmj : m = j
    · rw [if_pos (by omega), if_pos ⟨rfl, by omega⟩]
    · rw [if_neg (by omega), if_neg (fun z => hmj (by have := z.2; omega))]; exact e
  refine ⟨⟨r1, r2, r3, ?_, ?_, fun i hi => ?_, r7, r8, r9⟩, ⟨a1, a2, a3, ?_, fun i hi => ?_⟩, c3, c4, c5, fun i hi => ?_, fun i hi => ?_, fun i hi => ?_, fl 0 (by decide) c9, fl 1 (by decide) c10, fl 2 (by decide) c11⟩
  · show u2 h.2.1 p (j + 3) (iz v) 44 1 = _
    rw [u2_ne n44]; exact r4
  · show u2 h.2.1 p (j + 3) (iz v) 44 2 = _
    rw [u2_ne n44]; exact r5
  · show u2 h.2.1 p (j + 3) (iz v) 45 i = _
    rw [u2_ne n45]; exact r6 i hi
  · show u2 h.2.1 p (j + 3) (iz v) p 7 = _
    rw [u2_at, if_neg (by omega)]; exact a4
  · show u2 h.2.1 p (j + 3) (iz v) (p + 4) i = _
    rw [u2_ne (by omega)]; exact a5 i hi
  · show u2 h.2.1 p (j + 3) (iz v) (p + 1) i = iz (dset D 12 j v 9 i)
    rw [u2_ne (by omega)]; exact c6 i hi
  · show u2 h.2.1 p (j + 3) (iz v) (p + 2) i = iz (dset D 12 j v 10 i)
    rw [u2_ne (by omega)]; exact c7 i hi
  · show u2 h.2.1 p (j + 3) (iz v) (p + 3) i = iz (dset D 12 j v 11 i)
    rw [u2_ne (by omega)]; exact c8 i hi
theorem FL.fld {j : Nat} {v : Int32} (q : Lq p) : FL p h (h.1, u2 h.2.1 p j v, h.2.2.1, h.2.2.2) := ⟨rfl, rfl, fun i h1 h2 => u2_ne (by omega), fun i _ => by show u2 h.2.1 p j v 44 i = _; rw [u2_ne (by rcases q with rfl | rfl <;> decide)]⟩
-- pairs and singles
def pairS (x : Nat → Int) (L k : Nat) (m : Int) (D : Dv) (P : Nat) : Bool × Nat × Dv :=
  if figS x L P 3 = true then
    if isAt x L (P + 1) 32 = true then
      if figS x L (P + 2) (m - 1) = true then
        if isAt x L (P + 3) 32 = true then
          if 0 ≤ (numR x L (P + 4)).1 then (true, (numR x L (P + 4)).2, dset D k ((x P - 48) * m + (x (P + 2) - 48)) (numR x L (P + 4)).1)
          else (false, (numR x L (P + 4)).2, D)
        else (false, P + 3, D)
      else (false, P + 2, D)
    else (false, P + 1, D)
  else (false, P, D)
def singS (x : Nat → Int) (L : Nat) (D : Dv) (P : Nat) : Bool × Nat × Dv :=
  if figS x L P 2 = true then
    if isAt x L (P + 1) 32 = true then
      if 0 ≤ (numR x L (P + 2)).1 then (true, (numR x L (P + 2)).2, dset D 11 (x P - 48) (numR x L (P + 2)).1)
      else (false, (numR x L (P + 2)).2, D)
    else (false, P + 1, D)
  else (false, P, D)
theorem figS_lt {m : Int} (e : figS x L P m = true) : P < L ∧ 48 ≤ x P ∧ x P ≤ 48 + m := by simpa [figS] using e
end
