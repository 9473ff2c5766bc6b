section
variable {h : Mem} {V : Vw} {p pd b N : Nat}
theorem m_twin_12 (R : RepM h V) (w : WF V) {t : Int} (ht : 0 ≤ t ∧ t < 4) {s : Nat} (hs : s < 4) (k2 : Nat → Int32 → Int32 → Mem → Option (Int32 × Mem)) : ∀ (d i n : Nat), i + d = vF V → d < n → f_X10_twinSort_12 N n 71 (iz t) (iz (s : Int)) (iz (sorts V t s i)) (iz (i : Int)) h k2 = (if doubleP V t s = true then some (iz (s : Int), h) else k2 71 (iz t) (iz ((s : Int) + 1)) h) := by
  intro d
  have hF := w.F
  induction d with
  | zero =>
    intro i n hi hn
    obtain ⟨n, rfl⟩ : ∃ k, n = k + 1 := ⟨n - 1, by omega⟩
    obtain rfl : i = vF V := by omega
    have hb := sorts_bd (V := V) t s (vF V)
    rw [f_X10_twinSort_12, kmF R, if_pos (Int32.le_refl _)]
    by_cases c : 2 ≤ sorts V t s (vF V)
    · rw [if_pos (show doubleP V t s = true from decide_eq_true c)]
      exact if_neg (by rw [il1, iz_le (by omega) (by omega) (by omega) (by omega)]; omega)
    · rw [if_neg (show ¬ (doubleP V t s = true) from fun z => c (of_decide_eq_true z)), il1, iz_add]
      exact if_pos (by rw [iz_le (by omega) (by omega) (by omega) (by omega)]; omega)
  | succ d ih =>
    intro i n hi hn
    obtain ⟨n, rfl⟩ : ∃ k, n = k + 1 := ⟨n - 1, by omega⟩
    have e := ih (i + 1) n (by omega) (by omega)
    have h5 := w.f (j := i) (by omega) (by omega)
    have hb := sorts_bd (V := V) t s i
    have e1 : sorts V t s (i + 1) = sorts V t s i + (if va V 7 i = t ∧ va V 5 i = s then 1 else 0) := by unfold sorts; rw [sm_succ]
    rw [e1] at e
    rw [f_X10_twinSort_12, kmF R, if_neg (by rw [iz_le (by omega) (by omega) (by omega) (by omega)]; omega), kr79 R.1, kx7 R (by omega) (by omega), kr77 R.1, kx5 R (by omega) (by omega)]
    by_cases c1 : va V 7 i = t
    · rw [if_pos (by rw [c1])]
      by_cases c2 : va V 5 i = s
      · rw [if_pos (show va V 7 i = t ∧ va V 5 i = s from ⟨c1, c2⟩)] at e
        refine (if_pos (by rw [c2])).trans ?_
        unfold f_X10_twinSort_49
        rw [il1, iz_add, iz_add]
        exact e
      · rw [if_neg (fun z : va V 7 i = t ∧ va V 5 i = s => c2 z.2)] at e
        refine (if_neg (iz_ne (by omega) (by omega) (by omega) (by omega) c2)).trans ?_
        unfold f_X10_twinSort_48 f_X10_twinSort_49
        dsimp only
        rw [il1, il0, iz_add, iz_add]
        exact e
    · rw [if_neg (fun z : va V 7 i = t ∧ va V 5 i = s => c1 z.1)] at e
      refine (if_neg (iz_ne (by omega) (by omega) (by omega) (by omega) c1)).trans ?_
      unfold f_X10_twinSort_48 f_X10_twinSort_49
      dsimp only
      rw [il1, il0, iz_add, iz_add]
      exact e
theorem m_twin_2 (R : RepM h V) (w : WF V) (hN : 200 ≤ N) {t : Int} (ht : 0 ≤ t ∧ t < 4) : ∀ (d i n : Nat), i + d = 4 → d < n → f_X10_twinSort_2 N n 71 (iz t) (iz (i : Int)) h = some (iz (match fs (doubleP V t) i d with
    | some s => s
    | none => -1), h) := by
  intro d
  have hF := w.F
  induction d with
  | zero =>
    intro i n hi hn
    obtain ⟨n, rfl⟩ : ∃ k, n = k + 1 := ⟨n - 1, by omega⟩
    obtain rfl : i = 4 := by omega
    rw [f_X10_twinSort_2]
    exact if_pos (by decide)
  | succ d ih =>
    intro i n hi hn
    obtain ⟨n, rfl⟩ : ∃ k, n = k + 1 := ⟨n - 1, by omega⟩
    have e := ih (i + 1) n (by omega) (by omega)
    have e2 := m_twin_12 (N := N) R w ht (s := i) (by omega) (fun v0 v1 v2 h => f_X10_twinSort_2 N n v0 v1 v2 h) (vF V) 0 N (by omega) (by omega)
    have e2' : f_X10_twinSort_12 N N 71 (iz t) (iz (i : Int)) (0 : Int32) (0 : Int32) h (fun v0 v1 v2 h => f_X10_twinSort_2 N n v0 v1 v2 h) = _ := e2
    rw [f_X10_twinSort_2, if_neg (by rw [show (4 : Int32) = iz 4 from rfl, iz_le (by omega) (by omega) (by omega) (by omega)]; omega), e2', fs]
    cases doubleP V t i with
    | true => rfl
    | false => exact e
theorem m_twinSort (R : RepM h V) (w : WF V) (hN : 200 ≤ N) {t : Int} (ht : 0 ≤ t ∧ t < 4) : f_X10_twinSort N 71 (iz t) h = some (iz (match fs (doubleP V t) 0 4 with
    | some s => s
    | none => -1), h) := m_twin_2 R w hN ht 4 0 N (by omega) (by omega)
theorem m_year_115 (hN : 300 ≤ N) : ∀ (d t n : Nat) (h : Mem) (U : Vw) (c : Int), t + d = vT U → d < n → RepM h U → WF U → ∃ h', f_X10_year_115 N n 71 (iz c) (iz (t : Int)) h = some (iz (brT d t U c).2, h') ∧ RepM h' (brT d t U c).1 ∧ HI h h' ∧ EQS h h' := by
  intro d
  induction d with
  | zero =>
    intro t n h U c ht hn R w
    obtain ⟨n, rfl⟩ : ∃ k, n = k + 1 := ⟨n - 1, by omega⟩
    have hT := w.T
    refine ⟨h, ?_, R, HI.rf, EQS.rf⟩
    rw [f_X10_year_115, kmT R, if_pos (by rw [iz_le (by omega) (by omega) (by omega) (by omega)]; omega), brT]
  | succ d ih =>
    intro t n h U c ht hn R w
    obtain ⟨n, rfl⟩ : ∃ k, n = k + 1 := ⟨n - 1, by omega⟩
    have hT := w.T
    have hF := w.F
    have a1 := m_twinSort (N := N) R w (by omega) (t := (t : Int)) (by omega)
    have a2 := m_free (N := N) R w (by omega) (t := (t : Int)) (by omega)
    have skip : ∃ h', f_X10_year_115 N n 71 (iz c) (iz (t : Int) + 1) h = some (iz (brT d (t + 1) U c).2, h') ∧ RepM h' (brT d (t + 1) U c).1 ∧ HI h h' ∧ EQS h h' := by
      obtain ⟨h1, e1, r1⟩ := ih (t + 1) n h U c (by omega) (by omega) R w
      exact ⟨h1, by rw [il1, iz_add]; exact e1, r1⟩
    rw [f_X10_year_115, kmT R, if_neg (by rw [iz_le (by omega) (by omega) (by omega) (by omega)]; omega), kmC R.1, bq a1, brT]
    cases e : fs (doubleP U (t : Int)) 0 4 with
    | none =>
      exact Exists.imp (fun h' => And.imp_left (if_pos (by decide)).trans) skip
    | some s =>
      dsimp only
      have sl := fs_lt _ _ _ e
      refine Exists.imp (fun h' => And.imp_left (if_neg (by rw [il0, iz_lt (by omega) (by omega) (by omega) (by omega)]; omega)).trans) ?_
      rw [kmC R.1, bq a2]
      by_cases c1 : cnt U (t : Int) < va U 0 (t : Int)
      · rw [if_pos c1]
        refine Exists.imp (fun h' => And.imp_left (if_neg (by decide)).trans) ?_
        rw [kmF R]
        by_cases c2 : vF U < 8
        · rw [if_pos (show cnt U (t : Int) < va U 0 (t : Int) ∧ vF U < 8 from ⟨c1, c2⟩)]
          refine Exists.imp (fun h' => And.imp_left (if_neg (show ¬ (iz (vF U : Int) = (8 : Int32)) from iz_ne (b := 8) (by omega) (by omega) (by decide) (by decide) (by omega))).trans) ?_
          obtain ⟨h1, e1, R1, H1, Q1⟩ := m_add (N := N) R w c2 (s := (s : Int)) (i := 10) (t := (t : Int))
          obtain ⟨h2, e2, R2, H2, Q2⟩ := ih (t + 1) n h1 _ (c + 1) (by rw [vj_T]; omega) (by omega) R1 (wf_join w c2 (by omega) (by omega) (by omega))
          refine ⟨h2, ?_, R2, H1.tr H2, Q1.tr Q2⟩
          rw [kmC R.1, bo (show f_X10_add N 71 (iz (s : Int)) (10 : Int32) (iz (t : Int)) h = _ from e1), il1, iz_add, iz_add]
          exact e2
        · rw [if_neg (fun z : cnt U (t : Int) < va U 0 (t : Int) ∧ vF U < 8 => c2 z.2)]
          exact Exists.imp (fun h' => And.imp_left (if_pos (by rw [show (vF U : Int) = 8 by omega]; rfl)).trans) skip
      · rw [if_neg c1, if_neg (fun z : cnt U (t : Int) < va U 0 (t : Int) ∧ vF U < 8 => c1 z.1)]
        exact Exists.imp (fun h' => And.imp_left (if_pos (by decide)).trans) skip
theorem m_year_29 (R : RepM h V) (w : WF V) {y s : Int} (hy : 0 ≤ y ∧ y ≤ 99) (hs : 0 ≤ s ∧ s ≤ 999) (h2 : h.2.1 71 2 = iz y) : ∀ (d i n : Nat) (row : Nat → Int32), i + d = vF V → d < n → (∀ j : Nat, j < 8 → row j = iz (va (incV V y s i) 6 j)) → ∃ row', f_X10_year_29 N n 71 (iz s) (iz (i : Int)) (wr h 78 row) = f_X10_year_115 N N 71 (0 : Int32) (0 : Int32) (fd (fd (wr h 78 row') 29 (iz 0)) 2 (iz (y + 1))) ∧ ∀ j : Nat, j < 8 → row' j = iz (va (incV V y s (vF V)) 6 j) := by
  intro d
  have hF := w.F
  induction d with
  | zero =>
    intro i n row hi hn hr
    obtain ⟨n, rfl⟩ : ∃ k, n = k + 1 := ⟨n - 1, by omega⟩
    obtain rfl : i = vF V := by omega
    have S : MSh (wr h 78 row) := R.1.wr_
    have e1 : (wr h 78 row).2.1 71 1 = iz (vF V : Int) := by rw [wr_ne (by decide)]; exact R.2.1.2
    have e2 : (fd (wr h 78 row) 29 (iz 0)).2.1 71 2 = iz y := by rw [fd_at, if_neg (by decide), wr_ne (by decide)]; exact h2
    refine ⟨row, ?_, hr⟩
    rw [f_X10_year_29, kmI S, e1, if_pos (Int32.le_refl _), ksZ0 S, kmI S.fd_, e2, il1, iz_add, ksI S.fd_]
  | succ d ih =>
    intro i n row hi hn hr
    obtain ⟨n, rfl⟩ : ∃ k, n = k + 1 := ⟨n - 1, by omega⟩
    have S : MSh (wr h 78 row) := R.1.wr_
    have e1 : (wr h 78 row).2.1 71 1 = iz (vF V : Int) := by rw [wr_ne (by decide)]; exact R.2.1.2
    have e2 : (wr h 78 row).2.1 71 2 = iz y := by rw [wr_ne (by decide)]; exact h2
    have e6 : (wr h 78 row).2.1 78 i = iz (va V 6 i) := by
      rw [wr_eq, hr i (by omega), incV_at, if_neg (by omega)]
    have b6 := (w.f (j := (i : Int)) (by omega) (by omega)).2.1
    obtain ⟨row', e, r'⟩ := ih (i + 1) n (upd row i (iz (newInc (va V 6 i) i y s))) (by omega) (by omega) (fun j hj => by
      rw [upd_at, incV_s, vset_at]
      by_cases q : j = i
      · rw [if_pos q, if_pos ⟨rfl, by omega⟩]
      · rw [if_neg q, if_neg (by omega)]; exact hr j hj)
    refine ⟨row', ?_, r'⟩
    have st : ∀ z : Int, z = newInc (va V 6 i) i y s → f_X10_year_89 N 71 (iz s) (iz (i : Int)) 78 (iz (i : Int)) (iz z) (wr h 78 row) (fun v0 v1 v2 h => f_X10_year_29 N n v0 v1 v2 h) = f_X10_year_115 N N 71 (0 : Int32) (0 : Int32) (fd (fd (wr h 78 row') 29 (iz 0)) 2 (iz (y + 1))) := by
      rintro z rfl
      unfold f_X10_year_89
      rw [ks78 S (by omega) (by omega), toN, wr_wr, wr_eq, il1, iz_add]
      exact e
    rw [f_X10_year_29, kmI S, e1, if_neg (by rw [iz_le (by omega) (by omega) (by omega) (by omega)]; omega), kr78 S, kl78 S (by omega) (by omega), toN, e6, kmI S, e2, kr78 S, inc_e b6 (by omega) hy hs]
    have hm : 0 ≤ (13 * (i : Int) + 7 * y + s) % 5 ∧ (13 * (i : Int) + 7 * y + s) % 5 < 5 := by omega
    unfold newInc at st
    generalize (13 * (i : Int) + 7 * y + s) % 5 = m at *
    by_cases c1 : 1 ≤ va V 6 i + m - 2
    · refine (if_pos (show (1 : Int32) ≤ iz (va V 6 i + m - 2) by rw [il1, iz_le (by omega) (by omega) (by omega) (by omega)]; exact c1)).trans ?_
      by_cases c2 : va V 6 i + m - 2 ≤ 99
      · refine (if_pos (show iz (va V 6 i + m - 2) ≤ (99 : Int32) by rw [show (99 : Int32) = iz 99 from rfl, iz_le (by omega) (by omega) (by omega) (by omega)]; exact c2)).trans ?_
        exact st _ (by rw [if_neg (by omega), if_neg (by omega)])
      · refine (if_neg (show ¬ (iz (va V 6 i + m - 2) ≤ (99 : Int32)) by rw [show (99 : Int32) = iz 99 from rfl, iz_le (by omega) (by omega) (by omega) (by omega)]; exact c2)).trans ?_
        exact st 99 (by rw [if_neg (by omega), if_pos (by omega)])
    · refine (if_neg (show ¬ ((1 : Int32) ≤ iz (va V 6 i + m - 2)) by rw [il1, iz_le (by omega) (by omega) (by omega) (by omega)]; exact c1)).trans ?_
      exact st 1 (by rw [if_pos (by omega)])
end
