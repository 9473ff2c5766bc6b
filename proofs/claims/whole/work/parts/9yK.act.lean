/-! act: the bodies that ran -/
def plH (F x : Int32) : Int32 × List Int := (x + F, [10])
def voH (F x : Int32) : Int32 × List Int := (x * 3 + F, [30, 10])
def hoS (kd : Nat) (F x : Int32) : Int32 × List Int := if kd = 2 ∨ kd = 4 then voH F x else if kd = 3 then (-(x + F), [40, 10]) else plH F x
def pbS (kd : Nat) (F T x : Int32) : Int32 × List Int := ((hoS kd F x).1 - T, 11 :: (hoS kd F x).2)
def sbS (kd : Nat) (F T x : Int32) : Int32 × List Int := ((pbS kd F T x).1 ^^^ 5, 20 :: (pbS kd F T x).2)
def brS (kd : Nat) (F T x : Int32) : Int32 × List Int := if kd = 0 then pbS kd F T x else if kd = 4 then ((sbS kd F T x).1 + (voH F 2).1, 51 :: ((sbS kd F T x).2 ++ (voH F 2).2)) else if kd = 5 then ((sbS kd F T (x + T)).1, 60 :: (sbS kd F T (x + T)).2) else sbS kd F T x
def ptS (kd : Nat) (F T x : Int32) : Int32 × List Int := ((brS kd F T x).1 * 2, 12 :: (brS kd F T x).2)
def vtS (kd : Nat) (F T x : Int32) : Int32 × List Int := ((ptS kd F T x).1 + (brS kd F T 1).1, 31 :: ((ptS kd F T x).2 ++ (brS kd F T 1).2))
def teS (kd : Nat) (F T x : Int32) : Int32 × List Int := if kd = 2 then vtS kd F T x else if kd = 4 then ((vtS kd F T (x - F)).1, 50 :: (vtS kd F T (x - F)).2) else if kd = 5 then ((hoS kd F x).1 - (ptS kd F T x).1, 61 :: ((hoS kd F x).2 ++ (ptS kd F T x).2)) else ptS kd F T x
section
variable {kd : Nat} {F T x : Int32}
theorem ho_l : (hoS kd F x).2.length ≤ 2 := by
  unfold hoS
  split
  · exact Nat.le_refl _
  · split
    · exact Nat.le_refl _
    · exact Nat.le_succ _
theorem pb_l : (pbS kd F T x).2.length ≤ 3 := by
  have := ho_l (kd := kd) (F := F) (x := x)
  show (hoS kd F x).2.length + 1 ≤ 3
  omega
theorem sb_l : (sbS kd F T x).2.length ≤ 4 := by
  have := pb_l (kd := kd) (F := F) (T := T) (x := x)
  show (pbS kd F T x).2.length + 1 ≤ 4
  omega
theorem br_l : (brS kd F T x).2.length ≤ 7 := by
  unfold brS
  have h1 := pb_l (kd := kd) (F := F) (T := T) (x := x)
  have h2 := sb_l (kd := kd) (F := F) (T := T) (x := x)
  have h3 := sb_l (kd := kd) (F := F) (T := T) (x := x + T)
  split
  · omega
  · split
    · show ((sbS kd F T x).2 ++ [30, 10]).length + 1 ≤ 7
      rw [List.length_append]
      show (sbS kd F T x).2.length + 2 + 1 ≤ 7
      omega
    · split
      · show (sbS kd F T (x + T)).2.length + 1 ≤ 7
        omega
      · omega
theorem pt_l : (ptS kd F T x).2.length ≤ 8 := by
  have := br_l (kd := kd) (F := F) (T := T) (x := x)
  show (brS kd F T x).2.length + 1 ≤ 8
  omega
theorem vt_l : (vtS kd F T x).2.length ≤ 16 := by
  have h1 := pt_l (kd := kd) (F := F) (T := T) (x := x)
  have h2 := br_l (kd := kd) (F := F) (T := T) (x := 1)
  show ((ptS kd F T x).2 ++ (brS kd F T 1).2).length + 1 ≤ 16
  rw [List.length_append]
  omega
theorem te_l : (teS kd F T x).2.length ≤ 17 := by
  have h1 := vt_l (kd := kd) (F := F) (T := T) (x := x)
  have h2 := vt_l (kd := kd) (F := F) (T := T) (x := x - F)
  have h3 := pt_l (kd := kd) (F := F) (T := T) (x := x)
  have h4 := ho_l (kd := kd) (F := F) (x := x)
  unfold teS
  split
  · omega
  · split
    · show (vtS kd F T (x - F)).2.length + 1 ≤ 17
      omega
    · split
      · show ((hoS kd F x).2 ++ (ptS kd F T x).2).length + 1 ≤ 17
        rw [List.length_append]
        omega
      · omega
end
section
variable {h h0 : Mem} {N kd : Nat} {F T x : Int32}
-- the model's side
def MB (h0 h : Mem) (l : List Int) : Prop := HI h0 h ∧ (∀ i, 71 < i → i ≠ 106 → h.2.1 i = h0.2.1 i) ∧ (∀ j, j ≠ 55 → h.2.1 71 j = h0.2.1 71 j) ∧ h.2.1 71 55 = iz (l.length : Int) ∧ ∀ j, j < 20 → j < l.length → h.2.1 106 j = iz (l.getD j 0)
theorem MB.S {l : List Int} (m : MB h0 h l) (S0 : MSh h0) : MSh h := S0.eq m.1.1 (by rw [m.1.2.1])
theorem push_at {l : List Int} {b : Int} {j : Nat} : (l ++ [b]).getD j 0 = if j < l.length then l.getD j 0 else if j = l.length then b else 0 := by
  by_cases c : j < l.length
  · rw [if_pos c]; simp [List.getD, List.getElem?_append_left c]
  · rw [if_neg c]
    by_cases c2 : j = l.length
    · rw [if_pos c2]; subst c2; simp [List.getD]
    · rw [if_neg c2]; simp [List.getD, List.getElem?_eq_none (show (l ++ [b]).length ≤ j by rw [List.length_append]; simp; omega)]
theorem m_body (S0 : MSh h0) {l : List Int} (hl : l.length ≤ 1000) (m : MB h0 h l) {b : Int} : ∃ h', f_X10_body N 71 (iz b) h = some h' ∧ MB h0 h' (l ++ [b]) := by
  have S := m.S S0
  obtain ⟨m1, m2, m3, m4, m5⟩ := m
  have len : (l ++ [b]).length = l.length + 1 := by rw [List.length_append]; rfl
  unfold f_X10_body
  by_cases c : 20 ≤ l.length
  · refine ⟨fd h 55 (iz ((l.length : Int) + 1)), ?_, m1.tr HI.fd_, fun i hi h6 => by rw [fd_ne (by omega)]; exact m2 i hi h6, fun j hj => by rw [fd_at, if_neg hj]; exact m3 j hj, by rw [fd_at, if_pos rfl, len]; rfl, fun j hj hl' => ?_⟩
    · rw [kmI S, m4]
      refine (if_pos (by rw [show (20 : Int32) = iz 20 from rfl, iz_le (by omega) (by omega) (by omega) (by omega)]; omega)).trans ?_
      unfold f_X10_body_19
      rw [kmI S, m4, il1, iz_add, ksI S]
    · rw [fd_ne (by decide), push_at, if_pos (by omega)]; exact m5 j hj (by omega)
  · have S1 : MSh (wr h 106 (upd (h.2.1 106) l.length (iz b))) := S.wr_
    have e55 : (wr h 106 (upd (h.2.1 106) l.length (iz b))).2.1 71 55 = iz (l.length : Int) := by rw [wr_ne (by decide)]; exact m4
    refine ⟨fd (wr h 106 (upd (h.2.1 106) l.length (iz b))) 55 (iz ((l.length : Int) + 1)), ?_, (m1.tr (HI.wr_ (by decide))).tr HI.fd_, fun i hi h6 => by rw [fd_ne (by omega), wr_ne h6]; exact m2 i hi h6, fun j hj => by rw [fd_at, if_neg hj, wr_ne (by decide)]; exact m3 j hj, by rw [fd_at, if_pos rfl, len]; rfl, fun j hj hl' => ?_⟩
    · rw [kmI S, m4]
      refine (if_neg (by rw [show (20 : Int32) = iz 20 from rfl, iz_le (by omega) (by omega) (by omega) (by omega)]; omega)).trans ?_
      rw [kr106 S, kmI S, m4, ks106 S (by omega) (by omega), toN]
      unfold f_X10_body_19
      rw [kmI S1, e55, il1, iz_add, ksI S1]
    · rw [fd_ne (by decide), wr_eq, upd_at, push_at]
      by_cases c2 : j = l.length
      · rw [if_pos c2, if_neg (by omega), if_pos c2]
      · rw [if_neg c2, if_pos (by omega)]; exact m5 j hj (by omega)
def MG (h0 : Mem) (N : Nat) (f : Mem → Option (Int32 × Mem)) (s : Int32 × List Int) : Prop := ∀ (h : Mem) (l : List Int), MB h0 h l → l.length ≤ 100 → ∃ h', f h = some (s.1, h') ∧ MB h0 h' (l ++ s.2)
theorem m_plH (S0 : MSh h0) (eF : h0.2.1 71 1 = F) : MG h0 N (f_X10_plainHolds N 71 x) (plH F x) := by
  intro h l m hl
  obtain ⟨h1, e1, m1⟩ := m_body (N := N) S0 (by omega) m (b := 10)
  refine ⟨h1, ?_, m1⟩
  unfold f_X10_plainHolds
  rw [kmC (m.S S0), bo (show f_X10_body N 71 (10 : Int32) h = _ from e1), kmI (m1.S S0), m1.2.2.1 1 (by decide), eF]
  rfl
theorem m_voH (S0 : MSh h0) (eF : h0.2.1 71 1 = F) : MG h0 N (f_X10_votedHolds N 71 x) (voH F x) := by
  intro h l m hl
  obtain ⟨h1, e1, m1⟩ := m_body (N := N) S0 (by omega) m (b := 30)
  have len : (l ++ [(30 : Int)]).length = l.length + 1 := by rw [List.length_append]; rfl
  obtain ⟨h2, e2, m2⟩ := m_body (N := N) S0 (by omega) m1 (b := 10)
  refine ⟨h2, ?_, ?_⟩
  · unfold f_X10_votedHolds
    rw [kmC (m.S S0), bo (show f_X10_body N 71 (30 : Int32) h = _ from e1), kmC (m1.S S0)]
    unfold f_X10_plainHolds
    rw [kmC (m1.S S0), bo (show f_X10_body N 71 (10 : Int32) h1 = _ from e2), kmI (m2.S S0), m2.2.2.1 1 (by decide), eF]
    rfl
  · rw [List.append_assoc] at m2
    exact m2
theorem m_ho (S0 : MSh h0) (eF : h0.2.1 71 1 = F) (hk : kd ≤ 5) : MG h0 N (f_X10_holds N 71 (iz (kd : Int)) x) (hoS kd F x) := by
  intro h l m hl
  have nk : ∀ c : Int, 0 ≤ c → c ≤ 5 → (kd : Int) ≠ c → ¬ (iz (kd : Int) = iz c) := fun c h1 h2 hne => iz_ne (by omega) (by omega) (by omega) (by omega) hne
  unfold f_X10_holds hoS
  by_cases c2 : kd = 2
  · rw [if_pos (show kd = 2 ∨ kd = 4 from Or.inl c2), if_pos (show iz (kd : Int) = (2 : Int32) by rw [c2]; rfl)]
    obtain ⟨h1, e1, m1⟩ := m_voH (N := N) (x := x) S0 eF h l m hl
    refine ⟨h1, ?_, m1⟩
    unfold f_X10_holds_10
    rw [kmC (m.S S0), bq e1]
  · rw [if_neg (show ¬ (iz (kd : Int) = (2 : Int32)) from nk 2 (by decide) (by decide) (by omega))]
    by_cases c4 : kd = 4
    · rw [if_pos (show kd = 2 ∨ kd = 4 from Or.inr c4), if_pos (show iz (kd : Int) = (4 : Int32) by rw [c4]; rfl)]
      obtain ⟨h1, e1, m1⟩ := m_voH (N := N) (x := x) S0 eF h l m hl
      refine ⟨h1, ?_, m1⟩
      unfold f_X10_holds_10
      rw [kmC (m.S S0), bq e1]
    · rw [if_neg (show ¬ (kd = 2 ∨ kd = 4) by omega), if_neg (show ¬ (iz (kd : Int) = (4 : Int32)) from nk 4 (by decide) (by decide) (by omega))]
      by_cases c3 : kd = 3
      · rw [if_pos c3, if_pos (show iz (kd : Int) = (3 : Int32) by rw [c3]; rfl)]
        obtain ⟨h1, e1, m1⟩ := m_body (N := N) S0 (by omega) m (b := 40)
        have len : (l ++ [(40 : Int)]).length = l.length + 1 := by rw [List.length_append]; rfl
        obtain ⟨h2, e2, m2⟩ := m_body (N := N) S0 (by omega) m1 (b := 10)
        refine ⟨h2, ?_, ?_⟩
        · rw [kmC (m.S S0), bo (show f_X10_body N 71 (40 : Int32) h = _ from e1), kmC (m1.S S0)]
          unfold f_X10_plainHolds
          rw [kmC (m1.S S0), bo (show f_X10_body N 71 (10 : Int32) h1 = _ from e2), kmI (m2.S S0), m2.2.2.1 1 (by decide), eF]
          rfl
        · rw [List.append_assoc] at m2
          exact m2
      · rw [if_neg c3, if_neg (show ¬ (iz (kd : Int) = (3 : Int32)) from nk 3 (by decide) (by decide) (by omega))]
        obtain ⟨h1, e1, m1⟩ := m_plH (N := N) (x := x) S0 eF h l m hl
        refine ⟨h1, ?_, m1⟩
        rw [kmC (m.S S0), bq e1]
/-- a body, then a call -/
theorem m_then (S0 : MSh h0) {l : List Int} (m : MB h0 h l) {b : Int} {f : Mem → Option (Int32 × Mem)} {s : Int32 × List Int} (g : MG h0 N f s) (hl : l.length ≤ 99) : ∃ h1 h2, f_X10_body N 71 (iz b) h = some h1 ∧ MB h0 h1 (l ++ [b]) ∧ f h1 = some (s.1, h2) ∧ MB h0 h2 (l ++ b :: s.2) := by
  obtain ⟨h1, e1, m1⟩ := m_body (N := N) S0 (by omega) m (b := b)
  have len : (l ++ [b]).length = l.length + 1 := by rw [List.length_append]; rfl
  obtain ⟨h2, e2, m2⟩ := g h1 _ m1 (by omega)
  rw [List.append_assoc] at m2
  exact ⟨h1, h2, e1, m1, e2, m2⟩
def MG' (h0 : Mem) (k : Nat) (f : Mem → Option (Int32 × Mem)) (s : Int32 × List Int) : Prop := ∀ (h : Mem) (l : List Int), MB h0 h l → l.length ≤ k → ∃ h', f h = some (s.1, h') ∧ MB h0 h' (l ++ s.2)
theorem m_then' (S0 : MSh h0) {l : List Int} (m : MB h0 h l) {b : Int} {k : Nat} {f : Mem → Option (Int32 × Mem)} {s : Int32 × List Int} (g : MG' h0 k f s) (hk : k ≤ 900) (hl : l.length + 1 ≤ k) : ∃ h1 h2, f_X10_body N 71 (iz b) h = some h1 ∧ MB h0 h1 (l ++ [b]) ∧ f h1 = some (s.1, h2) ∧ MB h0 h2 (l ++ b :: s.2) := by
  obtain ⟨h1, e1, m1⟩ := m_body (N := N) S0 (by omega) m (b := b)
  have len : (l ++ [b]).length = l.length + 1 := by rw [List.length_append]; rfl
  obtain ⟨h2, e2, m2⟩ := g h1 _ m1 (by omega)
  rw [List.append_assoc] at m2
  exact ⟨h1, h2, e1, m1, e2, m2⟩
theorem m_pb (S0 : MSh h0) (eF : h0.2.1 71 1 = F) (eT : h0.2.1 71 0 = T) (hk : kd ≤ 5) : MG' h0 95 (f_X10_plainBreaks N 71 (iz (kd : Int)) x) (pbS kd F T x) := by
  intro h l m hl
  obtain ⟨h1, h2, e1, m1, e2, m2⟩ := m_then (N := N) (b := 11) S0 m (m_ho (N := N) (x := x) S0 eF hk) (by omega)
  refine ⟨h2, ?_, m2⟩
  unfold f_X10_plainBreaks
  rw [kmC (m.S S0), bo (show f_X10_body N 71 (11 : Int32) h = _ from e1), kmC (m1.S S0), bq e2, kmI (m2.S S0), m2.2.2.1 0 (by decide), eT]
  rfl
theorem m_sb (S0 : MSh h0) (eF : h0.2.1 71 1 = F) (eT : h0.2.1 71 0 = T) (hk : kd ≤ 5) : MG' h0 90 (f_X10_stayBreaks N 71 (iz (kd : Int)) x) (sbS kd F T x) := by
  intro h l m hl
  obtain ⟨h1, h2, e1, m1, e2, m2⟩ := m_then' (N := N) (b := 20) S0 m (m_pb (N := N) (x := x) S0 eF eT hk) (by omega) (by omega)
  refine ⟨h2, ?_, m2⟩
  unfold f_X10_stayBreaks
  rw [kmC (m.S S0), bo (show f_X10_body N 71 (20 : Int32) h = _ from e1), kmC (m1.S S0), bq e2]
  rfl
theorem m_br (S0 : MSh h0) (eF : h0.2.1 71 1 = F) (eT : h0.2.1 71 0 = T) (hk : kd ≤ 5) : MG' h0 80 (f_X10_breaks N 71 (iz (kd : Int)) x) (brS kd F T x) := by
  intro h l m hl
  have nk : ∀ c : Int, 0 ≤ c → c ≤ 5 → (kd : Int) ≠ c → ¬ (iz (kd : Int) = iz c) := fun c h1 h2 hne => iz_ne (by omega) (by omega) (by omega) (by omega) hne
  unfold f_X10_breaks brS
  by_cases c0 : kd = 0
  · rw [if_pos c0, if_pos (show iz (kd : Int) = (0 : Int32) by rw [c0]; rfl)]
    obtain ⟨h1, e1, m1⟩ := m_pb (N := N) (x := x) S0 eF eT hk h l m (by omega)
    exact ⟨h1, by rw [kmC (m.S S0), bq e1], m1⟩
  · rw [if_neg c0, if_neg (show ¬ (iz (kd : Int) = (0 : Int32)) from nk 0 (by decide) (by decide) (by omega))]
    by_cases c4 : kd = 4
    · rw [if_pos c4, if_pos (show iz (kd : Int) = (4 : Int32) by rw [c4]; rfl)]
      obtain ⟨h1, h2, e1, m1, e2, m2⟩ := m_then' (N := N) (b := 51) S0 m (m_sb (N := N) (x := x) S0 eF eT hk) (by omega) (by omega)
      have len := sb_l (kd := kd) (F := F) (T := T) (x := x)
      have len2 : (l ++ 51 :: (sbS kd F T x).2).length = l.length + ((sbS kd F T x).2.length + 1) := by rw [List.length_append]; rfl
      obtain ⟨h3, e3, m3⟩ := m_voH (N := N) (x := 2) S0 eF h2 _ m2 (by omega)
      refine ⟨h3, ?_, ?_⟩
      · rw [kmC (m.S S0), bo (show f_X10_body N 71 (51 : Int32) h = _ from e1), kmC (m1.S S0), bq e2, kmC (m2.S S0), bq e3]
      · rw [List.append_assoc] at m3
        exact m3
    · rw [if_neg c4, if_neg (show ¬ (iz (kd : Int) = (4 : Int32)) from nk 4 (by decide) (by decide) (by omega))]
      by_cases c5 : kd = 5
      · rw [if_pos c5, if_pos (show iz (kd : Int) = (5 : Int32) by rw [c5]; rfl)]
        obtain ⟨h1, h2, e1, m1, e2, m2⟩ := m_then' (N := N) (b := 60) S0 m (m_sb (N := N) (x := x + T) S0 eF eT hk) (by omega) (by omega)
        refine ⟨h2, ?_, m2⟩
        rw [kmC (m.S S0), bo (show f_X10_body N 71 (60 : Int32) h = _ from e1), kmI (m1.S S0), m1.2.2.1 0 (by decide), eT, kmC (m1.S S0), bq e2]
      · rw [if_neg c5, if_neg (show ¬ (iz (kd : Int) = (5 : Int32)) from nk 5 (by decide) (by decide) (by omega))]
        obtain ⟨h1, e1, m1⟩ := m_sb (N := N) (x := x) S0 eF eT hk h l m (by omega)
        exact ⟨h1, by rw [kmC (m.S S0), bq e1], m1⟩
theorem m_pt (S0 : MSh h0) (eF : h0.2.1 71 1 = F) (eT : h0.2.1 71 0 = T) (hk : kd ≤ 5) : MG' h0 70 (f_X10_plainTells N 71 (iz (kd : Int)) x) (ptS kd F T x) := by
  intro h l m hl
  obtain ⟨h1, h2, e1, m1, e2, m2⟩ := m_then' (N := N) (b := 12) S0 m (m_br (N := N) (x := x) S0 eF eT hk) (by omega) (by omega)
  refine ⟨h2, ?_, m2⟩
  unfold f_X10_plainTells
  rw [kmC (m.S S0), bo (show f_X10_body N 71 (12 : Int32) h = _ from e1), kmC (m1.S S0), bq e2]
  rfl
theorem m_vt (S0 : MSh h0) (eF : h0.2.1 71 1 = F) (eT : h0.2.1 71 0 = T) (hk : kd ≤ 5) : MG' h0 50 (f_X10_votedTells N 71 (iz (kd : Int)) x) (vtS kd F T x) := by
  intro h l m hl
  obtain ⟨h1, h2, e1, m1, e2, m2⟩ := m_then' (N := N) (b := 31) S0 m (m_pt (N := N) (x := x) S0 eF eT hk) (by omega) (by omega)
  have len := pt_l (kd := kd) (F := F) (T := T) (x := x)
  have len2 : (l ++ 31 :: (ptS kd F T x).2).length = l.length + ((ptS kd F T x).2.length + 1) := by rw [List.length_append]; rfl
  obtain ⟨h3, e3, m3⟩ := m_br (N := N) (x := 1) S0 eF eT hk h2 _ m2 (by omega)
  refine ⟨h3, ?_, ?_⟩
  · unfold f_X10_votedTells
    rw [kmC (m.S S0), bo (show f_X10_body N 71 (31 : Int32) h = _ from e1), kmC (m1.S S0), bq e2, kmC (m2.S S0), bq e3]
    rfl
  · rw [List.append_assoc] at m3
    exact m3
theorem m_te (S0 : MSh h0) (eF : h0.2.1 71 1 = F) (eT : h0.2.1 71 0 = T) (hk : kd ≤ 5) : MG' h0 40 (f_X10_tells N 71 (iz (kd : Int)) x) (teS kd F T x) := by
  intro h l m hl
  have nk : ∀ c : Int, 0 ≤ c → c ≤ 5 → (kd : Int) ≠ c → ¬ (iz (kd : Int) = iz c) := fun c h1 h2 hne => iz_ne (by omega) (by omega) (by omega) (by omega) hne
  unfold f_X10_tells teS
  by_cases c2 : kd = 2
  · rw [if_pos c2, if_pos (show iz (kd : Int) = (2 : Int32) by rw [c2]; rfl)]
    obtain ⟨h1, e1, m1⟩ := m_vt (N := N) (x := x) S0 eF eT hk h l m (by omega)
    exact ⟨h1, by rw [kmC (m.S S0), bq e1], m1⟩
  · rw [if_neg c2, if_neg (show ¬ (iz (kd : Int) = (2 : Int32)) from nk 2 (by decide) (by decide) (by omega))]
    by_cases c4 : kd = 4
    · rw [if_pos c4, if_pos (show iz (kd : Int) = (4 : Int32) by rw [c4]; rfl)]
      obtain ⟨h1, h2, e1, m1, e2, m2⟩ := m_then' (N := N) (b := 50) S0 m (m_vt (N := N) (x := x - F) S0 eF eT hk) (by omega) (by omega)
      refine ⟨h2, ?_, m2⟩
      rw [kmC (m.S S0), bo (show f_X10_body N 71 (50 : Int32) h = _ from e1), kmI (m1.S S0), m1.2.2.1 1 (by decide), eF, kmC (m1.S S0), bq e2]
    · rw [if_neg c4, if_neg (show ¬ (iz (kd : Int) = (4 : Int32)) from nk 4 (by decide) (by decide) (by omega))]
      by_cases c5 : kd = 5
      · rw [if_pos c5, if_pos (show iz (kd : Int) = (5 : Int32) by rw [c5]; rfl)]
        obtain ⟨h1, h2, e1, m1, e2, m2⟩ := m_then (N := N) (b := 61) S0 m (m_ho (N := N) (x := x) S0 eF hk) (by omega)
        have len := ho_l (kd := kd) (F := F) (x := x)
        have len2 : (l ++ 61 :: (hoS kd F x).2).length = l.length + ((hoS kd F x).2.length + 1) := by rw [List.length_append]; rfl
        obtain ⟨h3, e3, m3⟩ := m_pt (N := N) (x := x) S0 eF eT hk h2 _ m2 (by omega)
        refine ⟨h3, ?_, ?_⟩
        · rw [kmC (m.S S0), bo (show f_X10_body N 71 (61 : Int32) h = _ from e1), kmC (m1.S S0), bq e2, kmC (m2.S S0), bq e3]
        · rw [List.append_assoc] at m3
          exact m3
      · rw [if_neg c5, if_neg (show ¬ (iz (kd : Int) = (5 : Int32)) from nk 5 (by decide) (by decide) (by omega))]
        obtain ⟨h1, e1, m1⟩ := m_pt (N := N) (x := x) S0 eF eT hk h l m (by omega)
        exact ⟨h1, by rw [kmC (m.S S0), bq e1], m1⟩
end
