/-! act: the bodies that ran -/
def plH (F x : Int32) : Int32 × List Int := (x + F, [10])
def voH (F x : Int32) : Int32 × List Int := (x * 3 + F, [30, 10])
def hoS (kd : Nat) (F x : Int32) : Int32 × List Int := if kd = 2 ∨ kd = 4 then voH F x else if kd = 3 then (-(x + F), [40, 10]) else plH F x
def pbS (kd : Nat) (F T x : Int32) : Int32 × List Int := ((hoS kd F x).1 - T, 11 :: (hoS kd F x).2)
def sbS (kd : Nat) (F T x : Int32) : Int32 × List Int := ((pbS kd F T x).1 ^^^ 5, 20 :: (pbS kd F T x).2)
def brS (kd : Nat) (F T x : Int32) : Int32 × List Int := if kd = 0 then pbS kd F T x else if kd = 4 then ((sbS kd F T x).1 + (voH F 2).1, 51 :: ((sbS kd F T x).2 ++ (voH F 2).2)) else if kd = 5 then ((sbS kd F T (x + T)).1, 60 :: (sbS kd F T (x + T)).2) else sbS kd F T x
def ptS (kd : Nat) (F T x : Int32) : Int32 × List Int := ((brS kd F T x).1 * 2, 12 :: (brS kd F T x).2)
def vtS (kd : Nat) (F T x : Int32) : Int32 × List Int := ((ptS kd F T x).1 + (brS kd F T 1).1, 31 :: ((ptS kd F T x).2 ++ (brS kd F T 1).2))
def teS (kd : Nat) (F T x : Int32) : Int32 × List Int := if kd = 2 then vtS kd F T x else if kd = 4 then ((vtS kd F T (x - F)).1, 50 :: (vtS kd F T (x - F)).2) else if kd = 5 then ((hoS kd F x).1 - (ptS kd F T x).1, 61 :: ((hoS kd F x).2 ++ (ptS kd F T x).2)) else ptS kd F T x
section
variable {kd : Nat} {F T x : Int32}
theorem ho_l : (hoS kd F x).2.length ≤ 2 := by
  unfold hoS
  split
  · exact Nat.le_refl _
  · split
    · exact Nat.le_refl _
    · exact Nat.le_succ _
theorem pb_l : (pbS kd F T x).2.length ≤ 3 := by
  have := ho_l (kd := kd) (F := F) (x := x)
  show (hoS kd F x).2.length + 1 ≤ 3
  omega
theorem sb_l : (sbS kd F T x).2.length ≤ 4 := by
  have := pb_l (kd := kd) (F := F) (T := T) (x := x)
  show (pbS kd F T x).2.length + 1 ≤ 4
  omega
theorem br_l : (brS kd F T x).2.length ≤ 7 := by
  unfold brS
  have h1 := pb_l (kd := kd) (F := F) (T := T) (x := x)
  have h2 := sb_l (kd := kd) (F := F) (T := T) (x := x)
  have h3 := sb_l (kd := kd) (F := F) (T := T) (x := x + T)
  split
  · omega
  · split
    · show ((sbS kd F T x).2 ++ [30, 10]).length + 1 ≤ 7
      rw [List.length_append]
      show (sbS kd F T x).2.length + 2 + 1 ≤ 7
      omega
    · split
      · show (sbS kd F T (x + T)).2.length + 1 ≤ 7
        omega
      · omega
theorem pt_l : (ptS kd F T x).2.length ≤ 8 := by
  have := br_l (kd := kd) (F := F) (T := T) (x := x)
  show (brS kd F T x).2.length + 1 ≤ 8
  omega
theorem vt_l : (vtS kd F T x).2.length ≤ 16 := by
  have h1 := pt_l (kd := kd) (F := F) (T := T) (x := x)
  have h2 := br_l (kd := kd) (F := F) (T := T) (x := 1)
  show ((ptS kd F T x).2 ++ (brS kd F T 1).2).length + 1 ≤ 16
  rw [List.length_append]
  omega
theorem te_l : (teS kd F T x).2.length ≤ 17 := by
  have h1 := vt_l (kd := kd) (F := F) (T := T) (x := x)
  have h2 := vt_l (kd := kd) (F := F) (T := T) (x := x - F)
  have h3 := pt_l (kd := kd) (F := F) (T := T) (x := x)
  have h4 := ho_l (kd := kd) (F := F) (x := x)
  unfold teS
  split
  · omega
  · split
    · show (vtS kd F T (x - F)).2.length + 1 ≤ 17
      omega
    · split
      · show ((hoS kd F x).2 ++ (ptS kd F T x).2).length + 1 ≤ 17
        rw [List.length_append]
        omega
      · omega
end
section
variable {h h0 : Mem} {N kd : Nat} {F T x : Int32}
-- the model's side
def MB (h0 h : Mem) (l : List Int) : Prop := HI h0 h ∧ (∀ i, 71 < i → i ≠ 106 → h.2.1 i = h0.2.1 i) ∧ (∀ j, j ≠ 55 → h.2.1 71 j = h0.2.1 71 j) ∧ h.2.1 71 55 = iz (l.length : Int) ∧ ∀ j, j < 20 → j < l.length → h.2.1 106 j = iz (l.getD j 0)
theorem MB.S {l : List Int} (m : MB h0 h l) (S0 : MSh h0) : MSh h := S0.eq m.1.1 (by rw [m.1.2.1])
theorem push_at {l : List Int} {b : Int} {j : Nat} : (l ++ [b]).getD j 0 = if j < l.length then l.getD j 0 else if j = l.length then b else 0 := by
  by_cases c : j < l.length
  · rw [if_pos c]; simp [List.getD, List.getElem?_append_left c]
  · rw [if_neg c]
    by_cases c2 : j = l.length
    · rw [if_pos c2]; subst c2; simp [List.getD]
    · rw [if_neg c2]; simp [List.getD, List.getElem?_eq_none (show (l ++ [b]).length ≤ j by rw [List.length_append]; simp; omega)]
theorem m_body (S0 : MSh h0) {l : List Int} (hl : l.length ≤ 1000) (m : MB h0 h l) {b : Int} : ∃ h', f_X10_body N 71 (iz b) h = some h' ∧ MB h0 h' (l ++ [b]) := by
  have S := m.S S0
  obtain ⟨m1, m2, m3, m4, m5⟩ := m
  have len : (l ++ [b]).length = l.length + 1 := by rw [List.length_append]; rfl
  unfold f_X10_body
  by_cases c : 20 ≤ l.length
  · refine ⟨fd h 55 (iz ((l.length : Int) + 1)), ?_, m1.tr HI.fd_, fun i hi h6 => by rw [fd_ne (by omega)]; exact m2 i hi h6, fun j hj => by rw [fd_at, if_neg hj]; exact m3 j hj, by rw [fd_at, if_pos rfl, len]; rfl, fun j hj hl' => ?_⟩
    · rw [kmI S, m4]
      refine (if_pos (by rw [show (20 : Int32) = iz 20 from rfl, iz_le (by omega) (by omega) (by omega) (by omega)]; omega)).trans ?_
      unfold f_X10_body_19
      rw [kmI S, m4, il1, iz_add, ksI S]
      rfl
    · rw [fd_ne (by decide), push_at, if_pos (by omega)]; exact m5 j hj (by omega)
  · have S1 : MSh (wr h 106 (upd (h.2.1 106) l.length (iz b))) := S.wr_
    have e55 : (wr h 106 (upd (h.2.1 106) l.length (iz b))).2.1 71 55 = iz (l.length : Int) := by rw [wr_ne (by decide)]; exact m4
    refine ⟨fd (wr h 106 (upd (h.2.1 106) l.length (iz b))) 55 (iz ((l.length : Int) + 1)), ?_, (m1.tr (HI.wr_ (by decide))).tr HI.fd_, fun i hi h6 => by rw [fd_ne (by omega), wr_ne h6]; exact m2 i hi h6, fun j hj => by rw [fd_at, if_neg hj, wr_ne (by decide)]; exact m3 j hj, by rw [fd_at, if_pos rfl, len]; rfl, fun j hj hl' => ?_⟩
    · rw [kmI S, m4]
      refine (if_neg (by rw [show (20 : Int32) = iz 20 from rfl, iz_le (by omega) (by omega) (by omega) (by omega)]; omega)).trans ?_
      rw [kr106 S, kmI S, m4, ks106 S (by omega) (by omega), toN]
      unfold f_X10_body_19
      rw [kmI S1, e55, il1, iz_add, ksI S1]
      rfl
    · rw [fd_ne (by decide), wr_eq, upd_at, push_at]
      by_cases c2 : j = l.length
      · rw [if_pos c2, if_neg (by omega), if_pos c2]
      · rw [if_neg c2, if_pos (by omega)]; exact m5 j hj (by omega)
def MG (h0 : Mem) (N : Nat) (f : Mem → Option (Int32 × Mem)) (s : Int32 × List Int) : Prop := ∀ (h : Mem) (l : List Int), MB h0 h l → l.length ≤ 100 → ∃ h', f h = some (s.1, h') ∧ MB h0 h' (l ++ s.2)
theorem m_plH (S0 : MSh h0) (eF : h0.2.1 71 1 = F) : MG h0 N (f_X10_plainHolds N 71 x) (plH F x) := by
  intro h l m hl
  obtain ⟨h1, e1, m1⟩ := m_body (N := N) S0 (by omega) m (b := 10)
  refine ⟨h1, ?_, m1⟩
  unfold f_X10_plainHolds
  rw [kmC (m.S S0), bo (show f_X10_body N 71 (10 : Int32) h = _ from e1), kmI (m1.S S0), m1.2.2.1 1 (by decide), eF]
  rfl
theorem m_voH (S0 : MSh h0) (eF : h0.2.1 71 1 = F) : MG h0 N (f_X10_votedHolds N 71 x) (voH F x) := by
  intro h l m hl
  obtain ⟨h1, e1, m1⟩ := m_body (N := N) S0 (by omega) m (b := 30)
  have len : (l ++ [(30 : Int)]).length = l.length + 1 := by rw [List.length_append]; rfl
  obtain ⟨h2, e2, m2⟩ := m_body (N := N) S0 (by omega) m1 (b := 10)
  refine ⟨h2, ?_, ?_⟩
  · unfold f_X10_votedHolds
    rw [kmC (m.S S0), bo (show f_X10_body N 71 (30 : Int32) h = _ from e1), kmC (m1.S S0)]
    unfold f_X10_plainHolds
    rw [kmC (m1.S S0), bo (show f_X10_body N 71 (10 : Int32) h1 = _ from e2), kmI (m2.S S0), m2.2.2.1 1 (by decide), eF]
    rfl
  · rw [List.append_assoc] at m2
    exact m2
end
