def EQY (h h' : Mem) : Prop := h'.1 = h.1 ∧ h'.2.2 = h.2.2 ∧ (∀ i, (44 ≤ i ∧ i ≤ 70) ∨ i = 81 ∨ 102 ≤ i → h'.2.1 i = h.2.1 i) ∧ (∀ j, j ≠ 13 → h'.2.1 0 j = h.2.1 0 j) ∧ (∀ j, j ∈ [12, 13, 50, 55] → h'.2.1 71 j = h.2.1 71 j)
theorem OTH.eqy {h h' : Mem} {b : Nat} (o : OTH h b) (e : EQY h h') (yr : YRS h') : OTH h' b := by
  obtain ⟨⟨x1, x2⟩, ⟨c1, c2⟩, ⟨s1, k1, d1⟩, ⟨a1, a2, a3, ran, a4, a5, a6, a7⟩, ⟨x, L, t0, t1, t2⟩, _, ⟨la, la1, la2, la3⟩, ⟨nl, n1, n2, n3, n4, n5, n6⟩, p1, p2⟩ := o
  obtain ⟨e1, e2, g, g0, g71⟩ := e
  have rf : h'.2.2.2 = h.2.2.2 := by rw [e2]
  have rj : h'.2.2.1 = h.2.2.1 := by rw [e2]
  have ct : ∀ c, CT h c → CT h' c := fun c t => by unfold CT at *; rw [e1, rf]; exact t
  refine ⟨⟨by rw [e1]; exact x1, by rw [rf]; exact x2⟩, ⟨ct _ c1, ct _ c2⟩, ⟨by unfold RS at *; rw [e1, rf]; exact s1, by unfold WK at *; rw [e1, rf]; exact k1, by unfold DS at *; rw [e1, rf]; exact d1⟩, ⟨by rw [e1]; exact a1, by rw [rf]; exact a2, by rw [e1]; exact a3, ran, by rw [g 55 (by omega)]; exact a4, by rw [g71 55 (by decide)]; exact a5, a6, fun j hj hr => by rw [g 56 (by omega), g 106 (by omega)]; exact a7 j hj hr⟩, ⟨x, L, by unfold RD0 at *; rw [e1, rf, g 44 (by omega), g 45 (by omega)]; exact t0, by rw [g71 13 (by decide)]; exact t1, fun j hj => by rw [g 81 (by omega)]; exact t2 j hj⟩, yr, ⟨la, la1, by rw [g0 12 (by decide)]; exact la2, by rw [g71 12 (by decide)]; exact la3⟩, ⟨nl, n1, by rw [g0 11 (by decide)]; exact n2, by rw [g71 50 (by decide)]; exact n3, by rw [e1]; exact n4, by rw [e1]; exact n5, fun k hk => ?_⟩, by rw [e1]; exact p1, fun k hk => ?_⟩
  · obtain ⟨w, t', n, pr, q1, q2, q3, q4, q5, q6, q7, q8⟩ := n6 k hk
    refine ⟨w, t', n, pr, q1, q2, q3, q4, by rw [rf]; exact q5, by rw [e1]; exact q6, by rw [g (111 + k) (by omega)]; exact q7, ?_⟩
    rw [g 102 (by omega), g 103 (by omega), g 104 (by omega), g 105 (by omega)]; exact q8
  · obtain ⟨w1, w2, w3, w4, s, n, w5, w6, w7, w8, w12, w13⟩ := p2 k hk
    refine ⟨by rw [rf]; exact w1, by rw [e1]; exact w2, by rw [rf]; exact w3, by rw [e1]; exact w4, s, n, w5, w6, w7, ?_, fun j hj => by rw [rj]; exact w12 j hj, fun q j hj => by rw [rj]; exact w13 q j hj⟩
    rw [g (59 + 2 * k) (by omega), g 107 (by omega), g 108 (by omega)]; exact w8
section
variable {h : Mem} {V : Vw} {p pd b N : Nat}
def yr (h : Mem) (v : Int32) : Mem := (h.1, u2 h.2.1 0 13 v, h.2.2.1, h.2.2.2)
theorem yr_ne {v : Int32} {i : Nat} (hi : i ≠ 0) : (yr h v).2.1 i = h.2.1 i := by show u2 h.2.1 0 13 v i = _; exact u2_ne hi
theorem yr_at {v : Int32} {j : Nat} : (yr h v).2.1 0 j = if j = 13 then v else h.2.1 0 j := by show u2 h.2.1 0 13 v 0 j = _; exact u2_at
theorem p_year (hN : 300 ≤ N) (r : REL h V p pd b) (v1 : Int32) : CAL (f_X9_year N 0 v1 h) (f_X10_year N 71 v1) b := by
  obtain ⟨s, rfl, t1, t2⟩ := int_iz v1
  have R := r.2.1
  have M := r.2.2.1
  have w := r.2.2.2.1
  have S := r.2.2.2.2.2.2.2.1
  have hT := w.T
  have hF := w.F
  have a1 := l_within (N := N) (h := h) (a := s) (b := 0) (c := 999) (by omega) (by omega) t1 t2
  have d1 := m_inB (N := N) (h := h) (a := s) (b := 0) (c := 999) (by omega) (by omega) t1 t2
  by_cases hs : 0 ≤ s ∧ s ≤ 999
  · rw [decide_eq_true hs] at a1 d1
    obtain ⟨y, y1, y2, y3⟩ : YRS h := r.2.2.2.2.2.2.2.2.2.2.2.2.1
    by_cases hy : y = 99
    · refine r.same_ (z := (-3 : Int32)) ?_ ?_
      · unfold f_X9_year
        rw [bq (show f_X9_within N (iz s) (0 : Int32) (999 : Int32) h = _ from a1)]
        refine (if_neg (by decide)).trans ?_
        rw [knI S, y2]
        exact if_neg (by rw [hy]; decide)
      · unfold f_X10_year
        rw [kmC M.1, bq (show f_X10_in N 71 (iz s) (0 : Int32) (999 : Int32) h = _ from d1)]
        refine (if_neg (by decide)).trans ?_
        rw [kmI M.1, y3]
        exact if_pos (by rw [hy]; rfl)
    · obtain ⟨h1, e1, R1, L1⟩ := l_year_28 (N := N) r.cp (y := (y : Int)) (s := s) (by omega) hs w (vF V) 0 N h (by omega) (by omega) S (by rw [incV_0]; exact R) y2
      have S1 : X9S h1 := ⟨by rw [L1.1]; exact S.1, by rw [L1.2.1]; exact S.2⟩
      have wI := incV_wf w (y := (y : Int)) (s := s) (i := vF V)
      have R2 : RepC (yr h1 (iz ((y : Int) + 1))) 1 p (incV V y s (vF V)) := by
        have hp := r.cp.2
        exact rep_frame R1 rfl (yr_ne (by decide)) (fun j hj => yr_ne (by have := (ar_lt (k := j) (c := 1) c1 (by omega)); omega)) (fun i hi => yr_ne (by omega)) rfl rfl
      have S2 : X9S (yr h1 (iz ((y : Int) + 1))) := S1
      obtain ⟨h3, e3, R3, L3⟩ := l_births_4 (N := N) hN r.cp (vT V) 0 N (yr h1 (iz ((y : Int) + 1))) (incV V y s (vF V)) 0 (by show 0 + vT V = vT V; omega) (by omega) S2 R2 wI
      have bt := brT_TF (vT V) 0 (incV V y s (vF V)) 0 (by show 0 + vT V = vT V; omega) wI
      have f3 : ∀ i, 44 ≤ i → h3.2.1 i = h.2.1 i := fun i hi => by rw [L3.2.2 i (by omega), yr_ne (by omega), L1.2.2 i (by omega)]
      have g1 : h3.1 = h.1 := by rw [L3.1]; exact L1.1
      have g2 : h3.2.2 = h.2.2 := by rw [L3.2.1]; exact L1.2.1
      have M3 : RepM h3 V := M.lo g1 (by rw [g2]) (fun i hi => f3 i (by omega))
      have y3' : h3.2.1 71 2 = iz (y : Int) := by rw [f3 71 (by decide)]; exact y3
      obtain ⟨row, e4, q4⟩ := m_year_29 (N := N) M3 w (y := (y : Int)) (s := s) (by omega) hs y3' (vF V) 0 N (h3.2.1 78) (by omega) (by omega) (fun j hj => by rw [incV_0]; exact M3.2.2.1 6 (by decide) j (by show j < 8; exact hj))
      rw [wr_id rfl] at e4
      have M4 : RepM (fd (fd (wr h3 78 row) 29 (iz 0)) 2 (iz ((y : Int) + 1))) (incV V y s (vF V)) := by
        refine M3.gen rfl rfl ?_ ?_ (fun k hk j hj => ?_) (fun k hk => ?_) (fun k hk => incV_ne (by omega)) rfl (fun j hj => ?_) (Or.inl ?_)
        · rw [fd_at, if_neg (by decide), fd_at, if_neg (by decide), wr_ne (by decide)]; exact M3.2.1.1
        · rw [fd_at, if_neg (by decide), fd_at, if_neg (by decide), wr_ne (by decide)]; exact M3.2.1.2
        · rw [fd_ne (by omega), fd_ne (by omega)]
          by_cases k6 : k = 6
          · subst k6
            rw [wr_eq]; exact q4 j hj
          · rw [wr_ne (by omega), incV_ne k6]; exact M3.2.2.1 k hk j hj
        · have : ∀ k, k ∈ [81, 82, 84, 85, 86] → k ≠ 71 ∧ k ≠ 78 := by decide
          have q := this k hk
          rw [fd_ne q.1, fd_ne q.1, wr_ne q.2]
        · have : ∀ j, j ∈ [12, 25, 26, 27] → j ≠ 29 ∧ j ≠ 2 := by decide
          have q := this j hj
          rw [fd_at, if_neg q.2, fd_at, if_neg q.1, wr_ne (by decide)]
        · rw [fd_at, if_neg (by decide), fd_at, if_pos rfl]
      obtain ⟨h5, e5, M5, H5, Q5⟩ := m_year_115 (N := N) hN (vT V) 0 N (fd (fd (wr h3 78 row) 29 (iz 0)) 2 (iz ((y : Int) + 1))) (incV V y s (vF V)) 0 (by show 0 + vT V = vT V; omega) (by omega) M4 wI
      have H4 : HI h3 (fd (fd (wr h3 78 row) 29 (iz 0)) 2 (iz ((y : Int) + 1))) := ((HI.wr_ (by decide)).tr HI.fd_).tr HI.fd_
      have H35 := H4.tr H5
      have gi : ∀ i, (i = 0 ∨ i = 45 ∨ (55 ≤ i ∧ i ≤ 70) ∨ i = 81 ∨ 102 ≤ i) → h5.2.1 i = h3.2.1 i := fun i hi => by rw [Q5.2.2.1 i hi, fd_ne (by omega), fd_ne (by omega), wr_ne (by omega)]
      have E : EQY h h5 := by
        refine ⟨H35.1.trans g1, H35.2.1.trans g2, fun i hi => ?_, fun j hj => ?_, fun j hj => ?_⟩
        · by_cases hl : i ≤ 70
          · rw [H35.2.2 i hl, f3 i (by omega)]
          · rw [gi i (by omega), f3 i (by omega)]
        · rw [gi 0 (by omega), L3.2.2 0 (by omega), yr_at, if_neg hj, L1.2.2 0 (by omega)]
        · have : ∀ j, j ∈ [12, 13, 50, 55] → j ∈ [2, 12, 13, 50, 55] ∧ j ≠ 29 ∧ j ≠ 2 := by decide
          have q := this j hj
          rw [Q5.2.2.2.2.1 j q.1, fd_at, if_neg q.2.2, fd_at, if_neg q.2.1, wr_ne (by decide), f3 71 (by decide)]
      have Y5 : YRS h5 := by
        refine ⟨y + 1, by omega, ?_, ?_⟩
        · rw [gi 0 (by omega), L3.2.2 0 (by omega), yr_at, if_pos rfl]; rfl
        · rw [Q5.2.2.2.2.1 2 (by decide), fd_at, if_pos rfl]; rfl
      have lk : va (brT (vT V) 0 (incV V y s (vF V)) 0).1 9 = va V 9 := bt.2.trans (incV_ne (by decide))
      have pd' := r.pd
      have ls : Lsh h5 pd := by
        have := r.2.2.2.2.2.2.1
        unfold Lsh at *
        rw [E.1, E.2.1]; exact this
      refine ⟨iz (brT (vT V) 0 (incV V y s (vF V)) 0).2, h3, h5, (brT (vT V) 0 (incV V y s (vF V)) 0).1, p, pd, ?_, ?_, r.1, H35.repC r.cp R3, M5, bt.1, by unfold LK; rw [lk]; exact r.2.2.2.2.1, by rw [E.2.1]; exact r.2.2.2.2.2.1, ls, r.2.2.2.2.2.2.2.eqy E Y5⟩
      · unfold f_X9_year
        rw [bq (show f_X9_within N (iz s) (0 : Int32) (999 : Int32) h = _ from a1)]
        refine (if_neg (by decide)).trans ?_
        rw [knI S, y2]
        refine (if_pos (by rw [show (99 : Int32) = iz 99 from rfl, iz_lt (by omega) (by omega) (by omega) (by omega)]; omega)).trans ?_
        refine Eq.trans e1 ?_
        have es : sI h1 0 9 13 (iz ((y : Int) + 1)) = some (yr h1 (iz ((y : Int) + 1))) := sI_q S1.1
        have e3' : f_X9_births N 0 (yr h1 (iz ((y : Int) + 1))) = _ := e3
        rw [bo es, knC S2, bq e3']
      · have d1' := m_inB (N := N) (h := h3) (a := s) (b := 0) (c := 999) (by omega) (by omega) t1 t2
        rw [decide_eq_true hs] at d1'
        unfold f_X10_year
        rw [kmC M3.1, bq (show f_X10_in N 71 (iz s) (0 : Int32) (999 : Int32) h3 = _ from d1')]
        refine (if_neg (by decide)).trans ?_
        rw [kmI M3.1, y3']
        refine (if_neg (show ¬ (iz (y : Int) = (99 : Int32)) from iz_ne (b := 99) (by omega) (by omega) (by decide) (by decide) (by omega))).trans ?_
        exact e4.trans e5
  · rw [decide_eq_false hs] at a1 d1
    refine r.same_ (z := (-2 : Int32)) ?_ ?_
    · unfold f_X9_year
      rw [bq (show f_X9_within N (iz s) (0 : Int32) (999 : Int32) h = _ from a1)]
      exact if_pos (by decide)
    · unfold f_X10_year
      rw [kmC M.1, bq (show f_X10_in N 71 (iz s) (0 : Int32) (999 : Int32) h = _ from d1)]
      exact if_pos (by decide)
end
