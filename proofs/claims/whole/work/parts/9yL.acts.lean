section
variable {h h0 : Mem} {N kd : Nat} {F T x : Int32}
-- the class's side
def ac (h : Mem) (j : Nat) (v : Int32) : Mem := (h.1, u2 h.2.1 55 j v, h.2.2.1, h.2.2.2)
theorem ac_ne {j i : Nat} {v : Int32} (hi : i ≠ 55) : (ac h j v).2.1 i = h.2.1 i := by show u2 h.2.1 55 j v i = _; exact u2_ne hi
theorem ac_at {j i : Nat} {v : Int32} : (ac h j v).2.1 55 i = if i = j then v else h.2.1 55 i := by show u2 h.2.1 55 j v 55 i = _; exact u2_at
def ASh (h : Mem) : Prop := h.1[55]? = some (0, 0) ∧ h.2.2.2 55 0 = some 56 ∧ h.1[56]? = some (100, 20)
theorem kaI (S : ASh h) {γ : Type} {j : Nat} {k : Int32 → Option γ} : (gI h 55 0 j).bind k = k (h.2.1 55 j) := bo (gI_q S.1)
theorem ksa (S : ASh h) {γ : Type} {j : Nat} {v : Int32} {k : Mem → Option γ} : (sI h 55 0 j v).bind k = k (ac h j v) := bo (sI_q S.1)
theorem kaC (S : ASh h) {γ : Type} {k : Unit → Option γ} : (ck h 55 0).bind k = k () := bo (ck_q S.1)
theorem kaR (S : ASh h) {γ : Type} {k : Nat → Option γ} : (gR h 55 0 0).bind k = k 56 := bo (gR_q S.1 S.2.1)
def AB (h0 h : Mem) (kd : Nat) (F T : Int32) (l : List Int) : Prop := h.1 = h0.1 ∧ h.2.2 = h0.2.2 ∧ (∀ i, i ≠ 55 → i ≠ 56 → h.2.1 i = h0.2.1 i) ∧ h.2.1 55 1 = iz (l.length : Int) ∧ (h.2.1 55 2 = iz (kd : Int) ∧ h.2.1 55 3 = F ∧ h.2.1 55 4 = T) ∧ ∀ j, j < 20 → j < l.length → h.2.1 56 j = iz (l.getD j 0)
theorem AB.S {l : List Int} (m : AB h0 h kd F T l) (S0 : ASh h0) : ASh h := by unfold ASh at *; rw [m.1, m.2.1]; exact S0
def ownT (s a : Nat) : Nat := if a = 0 then ([0, 0, 2, 3, 2, 0] : List Nat).getD s 0 else if a = 1 then ([0, 1, 1, 1, 4, 5] : List Nat).getD s 0 else ([0, 0, 2, 0, 4, 5] : List Nat).getD s 0
def bodT (s a : Nat) : Int := ([10, 11, 12, 0, 20, 0, 30, 0, 31, 40, 0, 0, 0, 51, 50, 0, 60, 61] : List Int).getD (s * 3 + a) 0
abbrev RCt : Type := Nat → Int32 → Int32 → Int32 → Mem → Option (Int32 × Mem)
theorem l_climb {rc : RCt} {dp : Int32} {m s a : Nat} (hs : s ≤ 5) (ha : a ≤ 2) : f_X0_from_6 rc N (m + 8) 55 (iz (a : Int)) x dp (iz (s : Int)) (0 : Int32) h = f_X0_from_45 rc N 55 (iz (a : Int)) x dp (iz (ownT s a : Int)) h := by
  rcases (show s = 0 ∨ s = 1 ∨ s = 2 ∨ s = 3 ∨ s = 4 ∨ s = 5 by omega) with rfl | rfl | rfl | rfl | rfl | rfl <;> rcases (show a = 0 ∨ a = 1 ∨ a = 2 by omega) with rfl | rfl | rfl <;> rfl
theorem l_body_lT {s a : Nat} (hs : s ≤ 5) (ha : a ≤ 2) : lT 1 ((iz (ownT s a : Int) * (3 : Int32)) + iz (a : Int)) = some (iz (bodT (ownT s a) a)) ∧ ¬ (iz (ownT s a : Int) < 0) := by
  rcases (show s = 0 ∨ s = 1 ∨ s = 2 ∨ s = 3 ∨ s = 4 ∨ s = 5 by omega) with rfl | rfl | rfl | rfl | rfl | rfl <;> rcases (show a = 0 ∨ a = 1 ∨ a = 2 by omega) with rfl | rfl | rfl <;> decide
/-- the body of a kind, or of the next above that has one, is run -/
theorem l_from (S0 : ASh h0) {rc : RCt} (hN : 300 ≤ N) {s a d : Nat} {l : List Int} (hs : s ≤ 5) (ha : a ≤ 2) (hd : d ≤ 30) (hl : l.length ≤ 1000) (m : AB h0 h kd F T l) : ∃ h1, f_X0_from rc N 55 (iz (s : Int)) (iz (a : Int)) x (iz (d : Int)) h = rc 55 (iz (bodT (ownT s a) a)) x (iz ((d + 1 : Nat) : Int)) h1 ∧ AB h0 h1 kd F T (l ++ [bodT (ownT s a) a]) := by
  have S := m.S S0
  obtain ⟨k, rfl⟩ : ∃ k, N = k + 8 := ⟨N - 8, by omega⟩
  obtain ⟨b1, b2'⟩ := l_body_lT hs ha
  have len : (l ++ [bodT (ownT s a) a]).length = l.length + 1 := by rw [List.length_append]; rfl
  obtain ⟨m1, m2, m3, m4, ⟨m5, m6, m7⟩, m8⟩ := m
  have bb : ∀ {X : Option (Int32 × Mem)}, (b2 X fun t8 h7 => some (t8, h7)) = X := by
    intro X
    cases X with
    | none => rfl
    | some q => rfl
  have e91 : ∀ h1 : Mem, ASh h1 → h1.2.1 55 1 = iz (l.length : Int) → f_X0_from_91 rc (k + 8) 55 x (iz (d : Int)) (iz (bodT (ownT s a) a)) h1 = rc 55 (iz (bodT (ownT s a) a)) x (iz ((d + 1 : Nat) : Int)) (ac h1 1 (iz ((l.length : Int) + 1))) := by
    intro h1 S1 e1
    have S2 : ASh (ac h1 1 (iz ((l.length : Int) + 1))) := S1
    unfold f_X0_from_91
    rw [kaI S1, e1, il1, iz_add, ksa S1, kaC S2, bb, iz_add]
    rfl
  have pre : f_X0_from rc (k + 8) 55 (iz (s : Int)) (iz (a : Int)) x (iz (d : Int)) h = (if (20 : Int32) ≤ iz (l.length : Int) then f_X0_from_91 rc (k + 8) 55 x (iz (d : Int)) (iz (bodT (ownT s a) a)) h else (gR h 55 0 0).bind fun t8 => (gI h 55 0 1).bind fun t10 => (stI 100 h t8 t10 (iz (bodT (ownT s a) a))).bind fun h12 => f_X0_from_91 rc (k + 8) 55 x (iz (d : Int)) (iz (bodT (ownT s a) a)) h12) := by
    unfold f_X0_from
    rw [l_climb hs ha]
    unfold f_X0_from_45
    refine (if_neg b2').trans ?_
    refine (if_pos (show iz (d : Int) ≤ (40 : Int32) by rw [show (40 : Int32) = iz 40 from rfl, iz_le (by omega) (by omega) (by omega) (by omega)]; omega)).trans ?_
    rw [bo b1, kaI S, m4]
  rw [pre]
  by_cases c : 20 ≤ l.length
  · refine ⟨ac h 1 (iz ((l.length : Int) + 1)), ?_, m1, m2, fun i h5 h6 => by rw [ac_ne h5]; exact m3 i h5 h6, by rw [ac_at, if_pos rfl, len]; rfl, ⟨by rw [ac_at, if_neg (by decide)]; exact m5, by rw [ac_at, if_neg (by decide)]; exact m6, by rw [ac_at, if_neg (by decide)]; exact m7⟩, fun j hj hj' => ?_⟩
    · refine (if_pos (by rw [show (20 : Int32) = iz 20 from rfl, iz_le (by omega) (by omega) (by omega) (by omega)]; omega)).trans ?_
      exact e91 h S m4
    · rw [ac_ne (by decide), push_at, if_pos (by omega)]; exact m8 j hj (by omega)
  · refine ⟨ac (wr h 56 (upd (h.2.1 56) l.length (iz (bodT (ownT s a) a)))) 1 (iz ((l.length : Int) + 1)), ?_, m1, m2, fun i h5 h6 => by rw [ac_ne h5, wr_ne h6]; exact m3 i h5 h6, by rw [ac_at, if_pos rfl, len]; rfl, ⟨by rw [ac_at, if_neg (by decide), wr_ne (by decide)]; exact m5, by rw [ac_at, if_neg (by decide), wr_ne (by decide)]; exact m6, by rw [ac_at, if_neg (by decide), wr_ne (by decide)]; exact m7⟩, fun j hj hj' => ?_⟩
    · refine (if_neg (by rw [show (20 : Int32) = iz 20 from rfl, iz_le (by omega) (by omega) (by omega) (by omega)]; omega)).trans ?_
      rw [kaR S, kaI S, m4, bo (st_wr S.2.2 (by omega) (by omega) (by decide)), toN]
      exact e91 _ S (by rw [wr_ne (by decide)]; exact m4)
    · rw [ac_ne (by decide), wr_eq, upd_at, push_at]
      by_cases c2 : j = l.length
      · rw [if_pos c2, if_neg (by omega), if_pos c2]
      · rw [if_neg c2, if_pos (by omega)]; exact m8 j hj (by omega)
end
