section
variable {h h0 : Mem} {N kd : Nat} {F T x : Int32} {rc : RCt} {dp : Int32}
theorem run_10 : f_X0_run rc N 55 (iz 10) x dp h = (gI h 55 0 3).bind fun t2 => some ((x + t2), h) := rfl
theorem run_11 : f_X0_run rc N 55 (iz 11) x dp h = (ck h 55 0).bind fun _ => b2 (f_X0_own rc N 55 (iz (0 : Nat)) x dp h) fun t8 h7 => (gI h7 55 0 4).bind fun t9 => some ((t8 - t9), h7) := rfl
theorem run_12 : f_X0_run rc N 55 (iz 12) x dp h = (ck h 55 0).bind fun _ => b2 (f_X0_own rc N 55 (iz (1 : Nat)) x dp h) fun t15 h14 => some ((t15 * (2 : Int32)), h14) := rfl
theorem run_20 : f_X0_run rc N 55 (iz 20) x dp h = (ck h 55 0).bind fun _ => b2 (f_X0_above rc N 55 (iz (1 : Nat)) (iz (1 : Nat)) x dp h) fun t20 h19 => some ((t20 ^^^ (5 : Int32)), h19) := rfl
theorem run_30 : f_X0_run rc N 55 (iz 30) x dp h = (ck h 55 0).bind fun _ => b2 (f_X0_above rc N 55 (iz (2 : Nat)) (iz (0 : Nat)) (x * (3 : Int32)) dp h) fun t25 h24 => some (t25, h24) := rfl
theorem run_31 : f_X0_run rc N 55 (iz 31) x dp h = (ck h 55 0).bind fun _ => b2 (f_X0_above rc N 55 (iz (2 : Nat)) (iz (2 : Nat)) x dp h) fun t30 h29 => (ck h29 55 0).bind fun _ => b2 (f_X0_own rc N 55 (iz (1 : Nat)) (1 : Int32) dp h29) fun t34 h33 => some ((t30 + t34), h33) := rfl
theorem run_40 : f_X0_run rc N 55 (iz 40) x dp h = (ck h 55 0).bind fun _ => b2 (f_X0_above rc N 55 (iz (3 : Nat)) (iz (0 : Nat)) x dp h) fun t39 h38 => some ((-t39), h38) := rfl
theorem run_50 : f_X0_run rc N 55 (iz 50) x dp h = (gI h 55 0 3).bind fun t41 => (ck h 55 0).bind fun _ => b2 (f_X0_above rc N 55 (iz (4 : Nat)) (iz (2 : Nat)) (x - t41) dp h) fun t46 h45 => some (t46, h45) := rfl
theorem run_51 : f_X0_run rc N 55 (iz 51) x dp h = (ck h 55 0).bind fun _ => b2 (f_X0_above rc N 55 (iz (4 : Nat)) (iz (1 : Nat)) x dp h) fun t51 h50 => (ck h50 55 0).bind fun _ => b2 (f_X0_above rc N 55 (iz (4 : Nat)) (iz (0 : Nat)) (2 : Int32) dp h50) fun t55 h54 => some ((t51 + t55), h54) := rfl
theorem run_60 : f_X0_run rc N 55 (iz 60) x dp h = (gI h 55 0 4).bind fun t57 => (ck h 55 0).bind fun _ => b2 (f_X0_above rc N 55 (iz (5 : Nat)) (iz (1 : Nat)) (x + t57) dp h) fun t62 h61 => some (t62, h61) := rfl
theorem run_61 : f_X0_run rc N 55 (iz 61) x dp h = (ck h 55 0).bind fun _ => b2 (f_X0_own rc N 55 (iz (0 : Nat)) x dp h) fun t67 h66 => (ck h66 55 0).bind fun _ => b2 (f_X0_above rc N 55 (iz (5 : Nat)) (iz (2 : Nat)) x dp h66) fun t71 h70 => some ((t67 - t71), h70) := rfl
theorem own_e (S0 : ASh h0) {l : List Int} (m : AB h0 h kd F T l) {a : Int32} : f_X0_own rc N 55 a x dp h = f_X0_from rc N 55 (iz (kd : Int)) a x dp h := by
  have S := m.S S0
  unfold f_X0_own
  rw [kaI S, m.2.2.2.2.1.1, kaC S]
  cases f_X0_from rc N 55 (iz (kd : Int)) a x dp h <;> rfl
def abT (o : Nat) : Nat := ([0, 0, 1, 1, 2, 1] : List Nat).getD o 0
theorem lT_ab {o : Nat} (ho : 1 ≤ o ∧ o ≤ 5) : lT 0 (iz (o : Nat)) = some (iz (abT o : Nat)) := by
  rcases (show o = 1 ∨ o = 2 ∨ o = 3 ∨ o = 4 ∨ o = 5 by omega) with rfl | rfl | rfl | rfl | rfl <;> decide
theorem above_e (S0 : ASh h0) {l : List Int} (m : AB h0 h kd F T l) {o : Nat} (ho : 1 ≤ o ∧ o ≤ 5) {a : Int32} : f_X0_above rc N 55 (iz (o : Nat)) a x dp h = f_X0_from rc N 55 (iz (abT o : Nat)) a x dp h := by
  have S := m.S S0
  unfold f_X0_above
  rw [bo (lT_ab ho), kaC S]
  cases f_X0_from rc N 55 (iz (abT o : Nat)) a x dp h <;> rfl
theorem FD_s {k : Nat} {v0 : Nat} {v1 v2 v3 : Int32} : FD_X0_run N (k + 1) v0 v1 v2 v3 h = f_X0_run (FD_X0_run N k) N v0 v1 v2 v3 h := rfl
def CG (h0 : Mem) (F T : Int32) (kd N k c s a : Nat) (x : Int32) (r : Int32 × List Int) : Prop := ∀ (m d : Nat) (h : Mem) (l : List Int), AB h0 h kd F T l → l.length ≤ c → d + k ≤ 24 → ∃ h', f_X0_from (FD_X0_run N (m + k)) N 55 (iz (s : Nat)) (iz (a : Nat)) x (iz (d : Nat)) h = some (r.1, h') ∧ AB h0 h' kd F T (l ++ r.2)
theorem CG.up {k k' c s a : Nat} {r : Int32 × List Int} (g : CG h0 F T kd N k c s a x r) (hk : k ≤ k') {c' : Nat} (hc : c' ≤ c) : CG h0 F T kd N k' c' s a x r := by
  intro m d h l mm hl hd
  obtain ⟨j, rfl⟩ := Nat.exists_eq_add_of_le hk
  have e := g (m + j) d h l mm (by omega) (by omega)
  rw [show m + j + k = m + (k + j) by omega] at e
  exact e
theorem AB.l1 {b : Int} {l : List Int} : (l ++ [b]).length = l.length + 1 := by rw [List.length_append]; rfl
theorem l2s {b : Int} {l r : List Int} : (l ++ [b]) ++ r = l ++ b :: r := by rw [List.append_assoc]; rfl
theorem l3s {b : Int} {l r q : List Int} : (l ++ b :: r) ++ q = l ++ b :: (r ++ q) := by rw [List.append_assoc]; rfl
theorem c_pl (S0 : ASh h0) (hN : 300 ≤ N) {s : Nat} (hs : s ≤ 5) (ho : ownT s 0 = 0) : CG h0 F T kd N 1 100 s 0 x (plH F x) := by
  intro m d h l mm hl hd
  obtain ⟨h1, e1, m1⟩ := l_from (x := x) (rc := FD_X0_run N (m + 1)) S0 hN (s := s) (a := 0) (d := d) hs (by omega) (by omega) (by omega) mm
  rw [ho] at e1 m1
  refine ⟨h1, e1.trans ?_, m1⟩
  rw [FD_s]
  refine run_10.trans ?_
  rw [kaI (m1.S S0), m1.2.2.2.2.1.2.1]
  rfl
/-- a body whose one call is of the acting kind -/

theorem c_vo (S0 : ASh h0) (hN : 300 ≤ N) {s : Nat} (hs : s ≤ 5) (ho : ownT s 0 = 2) : CG h0 F T kd N 2 99 s 0 x (voH F x) := by
  intro m d h l mm hl hd
  obtain ⟨h1, e1, m1⟩ := l_from (x := x) (rc := FD_X0_run N (m + 2)) S0 hN (s := s) (a := 0) (d := d) hs (by omega) (by omega) (by omega) mm
  rw [ho] at e1 m1
  have l1 := AB.l1 (b := bodT 2 0) (l := l)
  obtain ⟨h2, e2, m2⟩ := c_pl (T := T) (kd := kd) (F := F) (x := x * 3) S0 hN (s := abT 2) (by decide) rfl m (d + 1) h1 _ m1 (by omega) (by omega)
  rw [l2s] at m2
  refine ⟨h2, e1.trans ?_, m2⟩
  rw [FD_s]
  refine run_30.trans ?_
  rw [kaC (m1.S S0), above_e S0 m1 (by decide), bq e2]
  rfl
theorem c_ho (S0 : ASh h0) (hN : 300 ≤ N) (hk : kd ≤ 5) : CG h0 F T kd N 2 99 kd 0 x (hoS kd F x) := by
  unfold hoS
  by_cases c2 : kd = 2 ∨ kd = 4
  · rw [if_pos c2]
    exact c_vo S0 hN hk (by rcases c2 with rfl | rfl <;> rfl)
  · rw [if_neg c2]
    by_cases c3 : kd = 3
    · rw [if_pos c3]
      intro m d h l mm hl hd
      obtain ⟨h1, e1, m1⟩ := l_from (x := x) (rc := FD_X0_run N (m + 2)) S0 hN (s := kd) (a := 0) (d := d) hk (by omega) (by omega) (by omega) mm
      rw [show ownT kd 0 = 3 by rw [c3]; rfl] at e1 m1
      have l1 := AB.l1 (b := bodT 3 0) (l := l)
      obtain ⟨h2, e2, m2⟩ := c_pl (T := T) (kd := kd) (F := F) (x := x) S0 hN (s := abT 3) (by decide) rfl m (d + 1) h1 _ m1 (by omega) (by omega)
      rw [l2s] at m2
      refine ⟨h2, e1.trans ?_, m2⟩
      rw [FD_s]
      refine run_40.trans ?_
      rw [kaC (m1.S S0), above_e S0 m1 (by decide), bq e2]
      rfl
    · rw [if_neg c3]
      exact (c_pl S0 hN hk (by rcases (show kd = 0 ∨ kd = 1 ∨ kd = 5 by omega) with rfl | rfl | rfl <;> rfl)).up (by omega) (by omega)
theorem c_pb (S0 : ASh h0) (hN : 300 ≤ N) (hk : kd ≤ 5) : CG h0 F T kd N 3 95 0 1 x (pbS kd F T x) := by
  intro m d h l mm hl hd
  obtain ⟨h1, e1, m1⟩ := l_from (x := x) (rc := FD_X0_run N (m + 3)) S0 hN (s := 0) (a := 1) (d := d) (by omega) (by omega) (by omega) (by omega) mm
  have l1 := AB.l1 (b := bodT (ownT 0 1) 1) (l := l)
  obtain ⟨h2, e2, m2⟩ := c_ho (T := T) (F := F) (x := x) S0 hN hk m (d + 1) h1 _ m1 (by omega) (by omega)
  rw [l2s] at m2
  refine ⟨h2, e1.trans ?_, m2⟩
  rw [FD_s]
  refine run_11.trans ?_
  rw [kaC (m1.S S0), own_e S0 m1, bq e2, kaI (m2.S S0), m2.2.2.2.2.1.2.2]
  rfl
theorem c_sb (S0 : ASh h0) (hN : 300 ≤ N) (hk : kd ≤ 5) {s : Nat} (hs : s ≤ 5) (ho : ownT s 1 = 1) : CG h0 F T kd N 4 90 s 1 x (sbS kd F T x) := by
  intro m d h l mm hl hd
  obtain ⟨h1, e1, m1⟩ := l_from (x := x) (rc := FD_X0_run N (m + 4)) S0 hN (s := s) (a := 1) (d := d) hs (by omega) (by omega) (by omega) mm
  rw [ho] at e1 m1
  have l1 := AB.l1 (b := bodT 1 1) (l := l)
  obtain ⟨h2, e2, m2⟩ := c_pb (T := T) (F := F) (x := x) S0 hN hk m (d + 1) h1 _ m1 (by omega) (by omega)
  rw [l2s] at m2
  refine ⟨h2, e1.trans ?_, m2⟩
  rw [FD_s]
  refine run_20.trans ?_
  rw [kaC (m1.S S0), above_e S0 m1 (by decide), bq (show f_X0_from (FD_X0_run N (m + 3)) N 55 (iz (abT 1 : Nat)) (iz (1 : Nat)) x (iz ((d + 1 : Nat) : Int)) h1 = _ from e2)]
  rfl
theorem c_br (S0 : ASh h0) (hN : 300 ≤ N) (hk : kd ≤ 5) : CG h0 F T kd N 5 80 kd 1 x (brS kd F T x) := by
  unfold brS
  by_cases c0 : kd = 0
  · rw [if_pos c0]
    have := (c_pb (kd := kd) (T := T) (F := F) (x := x) S0 hN hk).up (k' := 5) (by omega) (c' := 80) (by omega)
    unfold CG at *
    rw [show (kd : Int) = ((0 : Nat) : Int) by omega]
    exact this
  · rw [if_neg c0]
    by_cases c4 : kd = 4
    · rw [if_pos c4]
      intro m d h l mm hl hd
      obtain ⟨h1, e1, m1⟩ := l_from (x := x) (rc := FD_X0_run N (m + 5)) S0 hN (s := kd) (a := 1) (d := d) hk (by omega) (by omega) (by omega) mm
      rw [show ownT kd 1 = 4 by rw [c4]; rfl] at e1 m1
      have l1 := AB.l1 (b := bodT 4 1) (l := l)
      obtain ⟨h2, e2, m2⟩ := c_sb (T := T) (F := F) (x := x) S0 hN hk (s := abT 4) (by decide) rfl m (d + 1) h1 _ m1 (by omega) (by omega)
      rw [l2s] at m2
      have len := sb_l (kd := kd) (F := F) (T := T) (x := x)
      have len2 : (l ++ bodT 4 1 :: (sbS kd F T x).2).length = l.length + ((sbS kd F T x).2.length + 1) := by rw [List.length_append]; rfl
      obtain ⟨h3, e3, m3⟩ := c_vo (T := T) (F := F) (kd := kd) (x := 2) S0 hN (s := abT 4) (by decide) rfl (m + 2) (d + 1) h2 _ m2 (by omega) (by omega)
      rw [l3s] at m3
      refine ⟨h3, e1.trans ?_, m3⟩
      rw [FD_s]
      refine run_51.trans ?_
      rw [kaC (m1.S S0), above_e S0 m1 (by decide), bq e2, kaC (m2.S S0), above_e S0 m2 (by decide), bq (show f_X0_from (FD_X0_run N (m + 4)) N 55 (iz (abT 4 : Nat)) (iz (0 : Nat)) 2 (iz ((d + 1 : Nat) : Int)) h2 = _ from e3)]
    · rw [if_neg c4]
      by_cases c5 : kd = 5
      · rw [if_pos c5]
        intro m d h l mm hl hd
        obtain ⟨h1, e1, m1⟩ := l_from (x := x) (rc := FD_X0_run N (m + 5)) S0 hN (s := kd) (a := 1) (d := d) hk (by omega) (by omega) (by omega) mm
        rw [show ownT kd 1 = 5 by rw [c5]; rfl] at e1 m1
        have l1 := AB.l1 (b := bodT 5 1) (l := l)
        obtain ⟨h2, e2, m2⟩ := c_sb (T := T) (F := F) (x := x + T) S0 hN hk (s := abT 5) (by decide) rfl m (d + 1) h1 _ m1 (by omega) (by omega)
        rw [l2s] at m2
        refine ⟨h2, e1.trans ?_, m2⟩
        rw [FD_s]
        refine run_60.trans ?_
        rw [kaI (m1.S S0), m1.2.2.2.2.1.2.2, kaC (m1.S S0), above_e S0 m1 (by decide), bq e2]
      · rw [if_neg c5]
        exact (c_sb S0 hN hk hk (by rcases (show kd = 1 ∨ kd = 2 ∨ kd = 3 by omega) with rfl | rfl | rfl <;> rfl)).up (by omega) (by omega)
theorem c_pt (S0 : ASh h0) (hN : 300 ≤ N) (hk : kd ≤ 5) {s : Nat} (hs : s ≤ 5) (ho : ownT s 2 = 0) : CG h0 F T kd N 6 70 s 2 x (ptS kd F T x) := by
  intro m d h l mm hl hd
  obtain ⟨h1, e1, m1⟩ := l_from (x := x) (rc := FD_X0_run N (m + 6)) S0 hN (s := s) (a := 2) (d := d) hs (by omega) (by omega) (by omega) mm
  rw [ho] at e1 m1
  have l1 := AB.l1 (b := bodT 0 2) (l := l)
  obtain ⟨h2, e2, m2⟩ := c_br (T := T) (F := F) (x := x) S0 hN hk m (d + 1) h1 _ m1 (by omega) (by omega)
  rw [l2s] at m2
  refine ⟨h2, e1.trans ?_, m2⟩
  rw [FD_s]
  refine run_12.trans ?_
  rw [kaC (m1.S S0), own_e S0 m1, bq e2]
  rfl
theorem c_vt (S0 : ASh h0) (hN : 300 ≤ N) (hk : kd ≤ 5) {s : Nat} (hs : s ≤ 5) (ho : ownT s 2 = 2) : CG h0 F T kd N 7 50 s 2 x (vtS kd F T x) := by
  intro m d h l mm hl hd
  obtain ⟨h1, e1, m1⟩ := l_from (x := x) (rc := FD_X0_run N (m + 7)) S0 hN (s := s) (a := 2) (d := d) hs (by omega) (by omega) (by omega) mm
  rw [ho] at e1 m1
  have l1 := AB.l1 (b := bodT 2 2) (l := l)
  obtain ⟨h2, e2, m2⟩ := c_pt (T := T) (F := F) (x := x) S0 hN hk (s := abT 2) (by decide) rfl m (d + 1) h1 _ m1 (by omega) (by omega)
  rw [l2s] at m2
  have len := pt_l (kd := kd) (F := F) (T := T) (x := x)
  have len2 : (l ++ bodT 2 2 :: (ptS kd F T x).2).length = l.length + ((ptS kd F T x).2.length + 1) := by rw [List.length_append]; rfl
  obtain ⟨h3, e3, m3⟩ := c_br (T := T) (F := F) (x := 1) S0 hN hk (m + 1) (d + 1) h2 _ m2 (by omega) (by omega)
  rw [l3s] at m3
  refine ⟨h3, e1.trans ?_, m3⟩
  rw [FD_s]
  refine run_31.trans ?_
  rw [kaC (m1.S S0), above_e S0 m1 (by decide), bq e2, kaC (m2.S S0), own_e S0 m2, bq (show f_X0_from (FD_X0_run N (m + 6)) N 55 (iz (kd : Nat)) (iz (1 : Nat)) 1 (iz ((d + 1 : Nat) : Int)) h2 = _ from e3)]
  rfl
theorem c_te (S0 : ASh h0) (hN : 300 ≤ N) (hk : kd ≤ 5) : CG h0 F T kd N 8 40 kd 2 x (teS kd F T x) := by
  unfold teS
  by_cases c2 : kd = 2
  · rw [if_pos c2]
    exact (c_vt S0 hN hk hk (by rw [c2]; rfl)).up (by omega) (by omega)
  · rw [if_neg c2]
    by_cases c4 : kd = 4
    · rw [if_pos c4]
      intro m d h l mm hl hd
      obtain ⟨h1, e1, m1⟩ := l_from (x := x) (rc := FD_X0_run N (m + 8)) S0 hN (s := kd) (a := 2) (d := d) hk (by omega) (by omega) (by omega) mm
      rw [show ownT kd 2 = 4 by rw [c4]; rfl] at e1 m1
      have l1 := AB.l1 (b := bodT 4 2) (l := l)
      obtain ⟨h2, e2, m2⟩ := c_vt (T := T) (F := F) (x := x - F) S0 hN hk (s := abT 4) (by decide) rfl m (d + 1) h1 _ m1 (by omega) (by omega)
      rw [l2s] at m2
      refine ⟨h2, e1.trans ?_, m2⟩
      rw [FD_s]
      refine run_50.trans ?_
      rw [kaI (m1.S S0), m1.2.2.2.2.1.2.1, kaC (m1.S S0), above_e S0 m1 (by decide), bq e2]
    · rw [if_neg c4]
      by_cases c5 : kd = 5
      · rw [if_pos c5]
        intro m d h l mm hl hd
        obtain ⟨h1, e1, m1⟩ := l_from (x := x) (rc := FD_X0_run N (m + 8)) S0 hN (s := kd) (a := 2) (d := d) hk (by omega) (by omega) (by omega) mm
        rw [show ownT kd 2 = 5 by rw [c5]; rfl] at e1 m1
        have l1 := AB.l1 (b := bodT 5 2) (l := l)
        obtain ⟨h2, e2, m2⟩ := c_ho (T := T) (F := F) (x := x) S0 hN hk (m + 5) (d + 1) h1 _ m1 (by omega) (by omega)
        rw [l2s] at m2
        have len := ho_l (kd := kd) (F := F) (x := x)
        have len2 : (l ++ bodT 5 2 :: (hoS kd F x).2).length = l.length + ((hoS kd F x).2.length + 1) := by rw [List.length_append]; rfl
        obtain ⟨h3, e3, m3⟩ := c_pt (T := T) (F := F) (x := x) S0 hN hk (s := abT 5) (by decide) rfl (m + 1) (d + 1) h2 _ m2 (by omega) (by omega)
        rw [l3s] at m3
        refine ⟨h3, e1.trans ?_, m3⟩
        rw [FD_s]
        refine run_61.trans ?_
        rw [kaC (m1.S S0), own_e S0 m1, bq (show f_X0_from (FD_X0_run N (m + 7)) N 55 (iz (kd : Nat)) (iz (0 : Nat)) x (iz ((d + 1 : Nat) : Int)) h1 = _ from e2), kaC (m2.S S0), above_e S0 m2 (by decide), bq (show f_X0_from (FD_X0_run N (m + 7)) N 55 (iz (abT 5 : Nat)) (iz (2 : Nat)) x (iz ((d + 1 : Nat) : Int)) h2 = _ from e3)]
      · rw [if_neg c5]
        exact (c_pt S0 hN hk hk (by rcases (show kd = 0 ∨ kd = 1 ∨ kd = 3 by omega) with rfl | rfl | rfl <;> rfl)).up (by omega) (by omega)
end
