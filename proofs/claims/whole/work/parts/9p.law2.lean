section
variable {h : Mem} {V : Vw} {p pd b N : Nat}
theorem NEW.grw {h h1 : Mem} {w t n pr : Int} {nl : Nat} (e : NEW h h1 w t n pr nl) : GRW h h1 := by
  obtain ⟨e1, e2, e3, e4, e5, e6, e7, e8⟩ := e
  refine ⟨fun i q hq => ?_, fun i hi h57 => funext fun k => e7 i k (by omega) (Or.inl h57), fun i hi => e2 i (by omega) (by omega), e3, fun j hj => by rw [e2 71 (by omega) (by omega)], fun i hi => e6 i (by omega)⟩
  rw [e1, List.getElem?_append_left]
  · exact hq
  · by_cases z : i < h.1.length
    · exact z
    · rw [List.getElem?_eq_none (by omega)] at hq; cases hq
theorem m_law35 {h : Mem} (S : MSh h) {w t n pr most : Int} {nl : Nat} (hnl : nl < 4) (e1 : h.2.1 71 50 = iz (nl : Int)) (n1 : -2147483648 ≤ n) (n2 : n < 2147483648) (p1 : -2147483648 ≤ pr) (p2 : pr < 2147483648) (hm : 0 ≤ most ∧ most ≤ 1000) (g1 : 0 ≤ n ∧ n ≤ most) (g2 : 0 ≤ pr ∧ pr ≤ 99) : f_X10_law_35 N 71 (iz w) (iz t) (iz n) (iz pr) 71 (iz n) (0 : Int32) (iz most) h = some (iz (nl : Int), fd (wr (wr (wr (wr h 102 (upd (h.2.1 102) nl (iz w))) 103 (upd (h.2.1 103) nl (iz t))) 104 (upd (h.2.1 104) nl (iz n))) 105 (upd (h.2.1 105) nl (iz pr))) 50 (iz ((nl : Int) + 1))) := by
  have a1 := m_inB (N := N) (h := h) (a := n) (b := 0) (c := most) (by omega) (by omega) n1 n2
  have a2 := m_inB (N := N) (h := h) (a := pr) (b := 0) (c := 99) (by omega) (by omega) p1 p2
  rw [decide_eq_true g1] at a1
  rw [decide_eq_true g2] at a2
  have S1 := S.wr_ (a := 102) (row := upd (h.2.1 102) nl (iz w))
  have S2 := S1.wr_ (a := 103) (row := upd (h.2.1 103) nl (iz t))
  have S3 := S2.wr_ (a := 104) (row := upd (h.2.1 104) nl (iz n))
  have S4 := S3.wr_ (a := 105) (row := upd (h.2.1 105) nl (iz pr))
  have S5 := S4.fd_ (j := 50) (v := iz ((nl : Int) + 1))
  have f1 : (wr h 102 (upd (h.2.1 102) nl (iz w))).2.1 71 50 = iz (nl : Int) := by rw [wr_ne (by decide)]; exact e1
  have f2 : (wr (wr h 102 (upd (h.2.1 102) nl (iz w))) 103 (upd (h.2.1 103) nl (iz t))).2.1 71 50 = iz (nl : Int) := by rw [wr_ne (by decide)]; exact f1
  have f3 : (wr (wr (wr h 102 (upd (h.2.1 102) nl (iz w))) 103 (upd (h.2.1 103) nl (iz t))) 104 (upd (h.2.1 104) nl (iz n))).2.1 71 50 = iz (nl : Int) := by rw [wr_ne (by decide)]; exact f2
  have f4 : (wr (wr (wr (wr h 102 (upd (h.2.1 102) nl (iz w))) 103 (upd (h.2.1 103) nl (iz t))) 104 (upd (h.2.1 104) nl (iz n))) 105 (upd (h.2.1 105) nl (iz pr))).2.1 71 50 = iz (nl : Int) := by rw [wr_ne (by decide)]; exact f3
  unfold f_X10_law_35
  rw [kmC S, bq (show f_X10_in N 71 (iz n) (0 : Int32) (iz most) h = _ from a1)]
  refine (if_neg (by decide)).trans ?_
  rw [kmC S, bq (show f_X10_in N 71 (iz pr) (0 : Int32) (99 : Int32) h = _ from a2)]
  refine (if_neg (by decide)).trans ?_
  rw [kmI S, e1]
  refine (if_neg (show ¬ (iz (nl : Int) = iz 4) from iz_ne (by omega) (by omega) (by omega) (by omega) (by omega))).trans ?_
  rw [kr102 S, kmI S, e1, ks102 S (by omega) (by omega), toN]
  rw [kr103 S1, kmI S1, f1, ks103 S1 (by omega) (by omega), toN, show (wr h 102 (upd (h.2.1 102) nl (iz w))).2.1 103 = h.2.1 103 from wr_ne (by decide)]
  rw [kr104 S2, kmI S2, f2, ks104 S2 (by omega) (by omega), toN, show (wr (wr h 102 (upd (h.2.1 102) nl (iz w))) 103 (upd (h.2.1 103) nl (iz t))).2.1 104 = h.2.1 104 from (wr_ne (by decide)).trans (wr_ne (by decide))]
  rw [kr105 S3, kmI S3, f3, ks105 S3 (by omega) (by omega), toN, show (wr (wr (wr h 102 (upd (h.2.1 102) nl (iz w))) 103 (upd (h.2.1 103) nl (iz t))) 104 (upd (h.2.1 104) nl (iz n))).2.1 105 = h.2.1 105 from (wr_ne (by decide)).trans ((wr_ne (by decide)).trans (wr_ne (by decide)))]
  rw [kmI S4, f4, ksI S4, il1, iz_add, kmI S5, fd_at, if_pos rfl, iz_sub, show (nl : Int) + 1 - 1 = nl by omega]
/-- the law's own core on both sides -/
theorem law_core (hN : 300 ≤ N) (r : REL h V p pd b) {w t n pr most : Int} (hw : 0 ≤ w ∧ w ≤ 2) (ht : 0 ≤ t ∧ t < 4) (n1 : -2147483648 ≤ n) (n2 : n < 2147483648) (p1 : -2147483648 ≤ pr) (p2 : pr < 2147483648) (hm : most = if w = 0 then 99 else 999) : ∃ z h1 h2, f_X9_law_31 N 0 (iz w) (iz t) (iz n) (iz pr) (iz most) h = some (z, h1) ∧ RepM h1 V ∧ f_X10_law_35 N 71 (iz w) (iz t) (iz n) (iz pr) 71 (iz n) (0 : Int32) (iz most) h1 = some (z, h2) ∧ REL h2 V p pd b := by
  have M := r.2.2.1
  have S := r.2.2.2.2.2.2.2.1
  have hm2 : 0 ≤ most ∧ most ≤ 1000 := by subst hm; split <;> omega
  have a1 := l_within (N := N) (h := h) (a := n) (b := 0) (c := most) (by omega) (by omega) n1 n2
  have a2 := l_within (N := N) (h := h) (a := pr) (b := 0) (c := 99) (by omega) (by omega) p1 p2
  have b1 := m_inB (N := N) (h := h) (a := n) (b := 0) (c := most) (by omega) (by omega) n1 n2
  have b2' := m_inB (N := N) (h := h) (a := pr) (b := 0) (c := 99) (by omega) (by omega) p1 p2
  obtain ⟨nl, l1, l2, l3, l4, l5, l6⟩ := r.2.2.2.2.2.2.2.2.2.2.2.2.2.2.1
  by_cases g1 : 0 ≤ n ∧ n ≤ most
  · by_cases g2 : 0 ≤ pr ∧ pr ≤ 99
    · by_cases g3 : nl < 4
      · obtain ⟨h1, e1, K⟩ := l_law31 (N := N) S (w := w) (t := t) g3 l2 l4 l5 n1 n2 p1 p2 hm2 g1 g2
        have G := K.grw
        have M1 := M.grw G
        obtain ⟨k1, k2, k3, k4, k5, k6, k7, k8⟩ := K
        have e2 := m_law35 (N := N) M1.1 (w := w) (t := t) g3 (by rw [k2 71 (by omega) (by omega)]; exact l3) n1 n2 p1 p2 hm2 g1 g2
        generalize hh2 : fd (wr (wr (wr (wr h1 102 (upd (h1.2.1 102) nl (iz w))) 103 (upd (h1.2.1 103) nl (iz t))) 104 (upd (h1.2.1 104) nl (iz n))) 105 (upd (h1.2.1 105) nl (iz pr))) 50 (iz ((nl : Int) + 1)) = h2 at e2
        have s1 : h2.1 = h1.1 := by rw [← hh2]; rfl
        have s2 : h2.2.2 = h1.2.2 := by rw [← hh2]; rfl
        have s3 : ∀ i, i ≠ 71 → i ≠ 102 → i ≠ 103 → i ≠ 104 → i ≠ 105 → h2.2.1 i = h1.2.1 i := fun i x1 x2 x3 x4 x5 => by
          rw [← hh2, fd_ne x1, wr_ne x5, wr_ne x4, wr_ne x3, wr_ne x2]
        have s4 : ∀ j, j ≠ 50 → h2.2.1 71 j = h1.2.1 71 j := fun j hj => by
          rw [← hh2, fd_at, if_neg hj, wr_ne (by decide), wr_ne (by decide), wr_ne (by decide), wr_ne (by decide)]
        have s5 : h2.2.1 71 50 = iz ((nl : Int) + 1) := by rw [← hh2, fd_at, if_pos rfl]
        have t2 : h2.2.1 102 = upd (h1.2.1 102) nl (iz w) := by rw [← hh2, fd_ne (by decide), wr_ne (by decide), wr_ne (by decide), wr_ne (by decide), wr_eq]
        have t3 : h2.2.1 103 = upd (h1.2.1 103) nl (iz t) := by rw [← hh2, fd_ne (by decide), wr_ne (by decide), wr_ne (by decide), wr_eq]
        have t4 : h2.2.1 104 = upd (h1.2.1 104) nl (iz n) := by rw [← hh2, fd_ne (by decide), wr_ne (by decide), wr_eq]
        have t5 : h2.2.1 105 = upd (h1.2.1 105) nl (iz pr) := by rw [← hh2, fd_ne (by decide), wr_eq]
        refine ⟨_, h1, h2, e1, M1, e2, r.grw ⟨fun i q hq => by rw [s1]; exact G.1 i q hq, fun i hi h57 => by rw [s2]; exact G.2.1 i hi h57, fun i hi => (s3 i (by omega) (by omega) (by omega) (by omega) (by omega)).trans (G.2.2.1 i hi), fun j hj => by rw [s3 0 (by decide) (by decide) (by decide) (by decide) (by decide)]; exact G.2.2.2.1 j hj, fun j hj => (s4 j hj).trans (G.2.2.2.2.1 j hj), fun i hi => by rw [s2]; exact G.2.2.2.2.2 i hi⟩ ⟨nl + 1, by omega, ?_, ?_, ?_, ?_, fun k hk => ?_⟩⟩
        · rw [s3 0 (by decide) (by decide) (by decide) (by decide) (by decide), k4]; rfl
        · rw [s5]; rfl
        · rw [s1]; exact G.1 _ _ l4
        · rw [s1, k1, List.length_append, l5]; rfl
        · by_cases z : k = nl
          · subst z
            refine ⟨w, t, n, pr, hw, ht, ⟨g1.1, by rw [← hm]; exact g1.2⟩, g2, by rw [s2]; exact k8, ?_, ?_, ?_⟩
            · rw [s1, k1, ← l5, List.getElem?_append_right (Nat.le_refl _), Nat.sub_self]; rfl
            · rw [s3 _ (by omega) (by omega) (by omega) (by omega) (by omega)]; exact k5
            · rw [t2, t3, t4, t5, upd_at, upd_at, upd_at, upd_at]
              exact ⟨if_pos rfl, if_pos rfl, if_pos rfl, if_pos rfl⟩
          · obtain ⟨w', t', n', pr', q1, q2, q3, q4, q5, q6, q7, q8⟩ := l6 k (by omega)
            refine ⟨w', t', n', pr', q1, q2, q3, q4, ?_, ?_, ?_, ?_⟩
            · rw [s2]; exact (k7 57 k (by omega) (Or.inr z)).trans q5
            · rw [s1]; exact G.1 _ _ q6
            · rw [s3 _ (by omega) (by omega) (by omega) (by omega) (by omega), k2 _ (by omega) (by omega)]; exact q7
            · rw [t2, t3, t4, t5, upd_at, upd_at, upd_at, upd_at, if_neg z, if_neg z, if_neg z, if_neg z, k2 102 (by omega) (by omega), k2 103 (by omega) (by omega), k2 104 (by omega) (by omega), k2 105 (by omega) (by omega)]
              exact q8
      · rw [decide_eq_true g1] at a1 b1
        rw [decide_eq_true g2] at a2 b2'
        refine ⟨(-4 : Int32), h, h, ?_, M, ?_, r⟩
        · unfold f_X9_law_31
          rw [bq (show f_X9_within N (iz n) (0 : Int32) (iz most) h = _ from a1)]
          refine (if_neg (by decide)).trans ?_
          rw [bq (show f_X9_within N (iz pr) (0 : Int32) (99 : Int32) h = _ from a2)]
          refine (if_neg (by decide)).trans ?_
          rw [knI S, l2]
          exact if_neg (by rw [show (4 : Int32) = iz 4 from rfl, iz_lt (by omega) (by omega) (by omega) (by omega)]; omega)
        · unfold f_X10_law_35
          rw [kmC M.1, bq (show f_X10_in N 71 (iz n) (0 : Int32) (iz most) h = _ from b1)]
          refine (if_neg (by decide)).trans ?_
          rw [kmC M.1, bq (show f_X10_in N 71 (iz pr) (0 : Int32) (99 : Int32) h = _ from b2')]
          refine (if_neg (by decide)).trans ?_
          rw [kmI M.1, l3]
          exact if_pos (by rw [show (4 : Int32) = iz 4 from rfl, show nl = 4 by omega]; rfl)
    · rw [decide_eq_true g1] at a1 b1
      rw [decide_eq_false g2] at a2 b2'
      refine ⟨(-2 : Int32), h, h, ?_, M, ?_, r⟩
      · unfold f_X9_law_31
        rw [bq (show f_X9_within N (iz n) (0 : Int32) (iz most) h = _ from a1)]
        refine (if_neg (by decide)).trans ?_
        rw [bq (show f_X9_within N (iz pr) (0 : Int32) (99 : Int32) h = _ from a2)]
        exact if_pos (by decide)
      · unfold f_X10_law_35
        rw [kmC M.1, bq (show f_X10_in N 71 (iz n) (0 : Int32) (iz most) h = _ from b1)]
        refine (if_neg (by decide)).trans ?_
        rw [kmC M.1, bq (show f_X10_in N 71 (iz pr) (0 : Int32) (99 : Int32) h = _ from b2')]
        exact if_pos (by decide)
  · rw [decide_eq_false g1] at a1 b1
    refine ⟨(-2 : Int32), h, h, ?_, M, ?_, r⟩
    · unfold f_X9_law_31
      rw [bq (show f_X9_within N (iz n) (0 : Int32) (iz most) h = _ from a1)]
      exact if_pos (by decide)
    · unfold f_X10_law_35
      rw [kmC M.1, bq (show f_X10_in N 71 (iz n) (0 : Int32) (iz most) h = _ from b1)]
      exact if_pos (by decide)
theorem t_law (hN : 300 ≤ N) (r : REL h V p pd b) (v1 v2 v3 v4 : Int32) : CAL (f_X9_law N 0 v1 v2 v3 v4 h) (f_X10_law N 71 v1 v2 v3 v4) b := by
  obtain ⟨w, rfl, w1, w2⟩ := int_iz v1
  obtain ⟨t, rfl, t1, t2⟩ := int_iz v2
  obtain ⟨n, rfl, n1, n2⟩ := int_iz v3
  obtain ⟨pr, rfl, p1, p2⟩ := int_iz v4
  have R := r.2.1
  have M := r.2.2.1
  have wf := r.2.2.2.1
  have S := r.2.2.2.2.2.2.2.1
  have hT := wf.T
  have a1 := l_within (N := N) (h := h) (a := w) (b := 0) (c := 2) (by omega) (by omega) w1 w2
  have a2 := l_isTown (N := N) S R wf t1 t2
  by_cases hw : 0 ≤ w ∧ w ≤ 2
  · rw [decide_eq_true hw] at a1
    cases ht : tB V t with
    | false =>
      rw [ht] at a2
      have b1 := m_inB (N := N) (h := h) (a := w) (b := 0) (c := 2) (by omega) (by omega) w1 w2
      have b2' := m_isTown (N := N) M wf t1 t2
      rw [decide_eq_true hw] at b1
      rw [ht] at b2'
      refine r.same_ (z := (-1 : Int32)) ?_ ?_
      · unfold f_X9_law
        rw [bq (show f_X9_within N (iz w) (0 : Int32) (2 : Int32) h = _ from a1)]
        refine (if_neg (by decide)).trans ?_
        rw [knC S, bq a2]
        exact if_pos (by decide)
      · unfold f_X10_law
        rw [kmC M.1, bq (show f_X10_in N 71 (iz w) (0 : Int32) (2 : Int32) h = _ from b1)]
        refine (if_neg (by decide)).trans ?_
        rw [kmC M.1, bq b2']
        exact if_pos (by decide)
    | true =>
      rw [ht] at a2
      have tt := tB_t ht
      obtain ⟨z, h1, h2, e1, M1, e2, r2⟩ := law_core (N := N) hN r (w := w) (t := t) (n := n) (pr := pr) hw (by omega) n1 n2 p1 p2 rfl
      have b1 := m_inB (N := N) (h := h1) (a := w) (b := 0) (c := 2) (by omega) (by omega) w1 w2
      have b2' := m_isTown (N := N) M1 wf t1 t2
      rw [decide_eq_true hw] at b1
      rw [ht] at b2'
      refine ⟨z, h1, h2, V, p, pd, ?_, ?_, r2⟩
      · unfold f_X9_law
        rw [bq (show f_X9_within N (iz w) (0 : Int32) (2 : Int32) h = _ from a1)]
        refine (if_neg (by decide)).trans ?_
        rw [knC S, bq a2]
        refine (if_neg (by decide)).trans ?_
        by_cases c : w = 0
        · rw [if_pos c] at e1
          exact (if_pos (by rw [c]; rfl)).trans e1
        · rw [if_neg c] at e1
          exact (if_neg (iz_ne w1 w2 (by decide) (by decide) c)).trans e1
      · unfold f_X10_law
        rw [kmC M1.1, bq (show f_X10_in N 71 (iz w) (0 : Int32) (2 : Int32) h1 = _ from b1)]
        refine (if_neg (by decide)).trans ?_
        rw [kmC M1.1, bq b2']
        refine (if_neg (by decide)).trans ?_
        by_cases c : w = 0
        · rw [if_pos c] at e2
          exact (if_pos (by rw [c]; rfl)).trans e2
        · rw [if_neg c] at e2
          exact (if_neg (iz_ne w1 w2 (by decide) (by decide) c)).trans e2
  · rw [decide_eq_false hw] at a1
    have b1 := m_inB (N := N) (h := h) (a := w) (b := 0) (c := 2) (by omega) (by omega) w1 w2
    rw [decide_eq_false hw] at b1
    refine r.same_ (z := (-1 : Int32)) ?_ ?_
    · unfold f_X9_law
      rw [bq (show f_X9_within N (iz w) (0 : Int32) (2 : Int32) h = _ from a1)]
      exact if_pos (by decide)
    · unfold f_X10_law
      rw [kmC M.1, bq (show f_X10_in N 71 (iz w) (0 : Int32) (2 : Int32) h = _ from b1)]
      exact if_pos (by decide)
end
