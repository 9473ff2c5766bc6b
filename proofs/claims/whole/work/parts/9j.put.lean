theorem wf_t3 {V : Vw} (w : WF V) {k : Nat} {j x : Int} (hk : (k = 2 ∧ 0 ≤ x ∧ x ≤ 999) ∨ (k = 3 ∧ 0 ≤ x ∧ x ≤ 99) ∨ (k = 4 ∧ 0 ≤ x ∧ x ≤ 999)) : WF (vset V k j x) := by
  obtain ⟨a1, a2, a3, a4, a5, a6, a7, a8, a9, a10, a11, a12⟩ := w
  have e : ∀ k', k' ≠ 2 → k' ≠ 3 → k' ≠ 4 → va (vset V k j x) k' = va V k' := fun k' h1 h2 h3 => vset_ne (by rcases hk with ⟨q, _⟩ | ⟨q, _⟩ | ⟨q, _⟩ <;> omega)
  refine ⟨a1, a2, fun j' h0 h1 => ?_, ?_, ?_, ?_, ?_, ?_, ?_, ?_, ?_, a12⟩
  · have b := a3 j' h0 h1
    rw [e 0 (by decide) (by decide) (by decide), vset_at, vset_at, vset_at]
    rcases hk with ⟨q, x1, x2⟩ | ⟨q, x1, x2⟩ | ⟨q, x1, x2⟩
    · subst q
      refine ⟨b.1, ?_, ?_, ?_⟩
      · split <;> omega
      · split <;> omega
      · split <;> omega
    · subst q
      refine ⟨b.1, ?_, ?_, ?_⟩
      · split <;> omega
      · split <;> omega
      · split <;> omega
    · subst q
      refine ⟨b.1, ?_, ?_, ?_⟩
      · split <;> omega
      · split <;> omega
      · split <;> omega
  · rw [e 1 (by decide) (by decide) (by decide), e 9 (by decide) (by decide) (by decide)]; exact a4
  · rw [e 5 (by decide) (by decide) (by decide), e 6 (by decide) (by decide) (by decide), e 7 (by decide) (by decide) (by decide), e 8 (by decide) (by decide) (by decide)]; exact a5
  · rw [e 10 (by decide) (by decide) (by decide)]; exact a6
  · rw [e 11 (by decide) (by decide) (by decide)]; exact a7
  · rw [e 12 (by decide) (by decide) (by decide)]; exact a8
  · rw [e 12 (by decide) (by decide) (by decide)]; exact a9
  · rw [e 12 (by decide) (by decide) (by decide)]; exact a10
  · rw [e 6 (by decide) (by decide) (by decide), e 7 (by decide) (by decide) (by decide)]; exact a11
section
variable {h : Mem} {V : Vw} {p pd b N : Nat}
theorem replace_e {h : Mem} {a : Nat} {i : Int32} {v x : Int32} {h1 : Mem} (e1 : ∀ k : Int32 → Option (Int32 × Mem), (lI 100 h a i).bind k = k x) (e2 : ∀ k : Mem → Option (Int32 × Mem), (stI 100 h a i v).bind k = k h1) : f_X9_replace N a i v h = some (x, h1) := by
  unfold f_X9_replace
  rw [e1, e2]
theorem t_put (hN : 300 ≤ N) (r : REL h V p pd b) (v1 v2 v3 : Int32) : CAL (f_X9_put N 0 v1 v2 v3 h) (f_X10_put N 71 v1 v2 v3) b := by
  obtain ⟨t, rfl, t1, t2⟩ := int_iz v1
  obtain ⟨q, rfl, q1, q2⟩ := int_iz v2
  obtain ⟨n, rfl, n1, n2⟩ := int_iz v3
  have R := r.2.1
  have M := r.2.2.1
  have w := r.2.2.2.1
  have S := r.2.2.2.2.2.2.2.1
  have hT := w.T
  have a1 := l_isTown (N := N) S R w t1 t2
  have b1 := m_isTown (N := N) M w t1 t2
  have a2 := l_within (N := N) (h := h) (a := q) (b := 0) (c := 5) (by omega) (by omega) q1 q2
  have b2' := m_inB (N := N) (h := h) (a := q) (b := 0) (c := 5) (by omega) (by omega) q1 q2
  cases hf : tB V t with
  | false =>
    rw [hf] at a1 b1
    refine r.same_ (z := (-1 : Int32)) ?_ ?_
    · unfold f_X9_put; rw [knC S, bq a1]; exact if_pos (by decide)
    · unfold f_X10_put; rw [kmC M.1, bq b1]; exact if_pos (by decide)
  | true =>
    rw [hf] at a1 b1
    have tt := tB_t hf
    have pre : ∀ h1 : Mem, RepM h1 V → (0 ≤ q ∧ q ≤ 5) → f_X10_put N 71 (iz t) (iz q) (iz n) h1 = (if (3 : Int32) ≤ iz q then (if iz q = (4 : Int32) then f_X10_put_45 N 71 (iz t) (iz q) (iz n) 71 (iz n) (0 : Int32) (99 : Int32) h1 else f_X10_put_45 N 71 (iz t) (iz q) (iz n) 71 (iz n) (0 : Int32) (999 : Int32) h1) else f_X10_put_45 N 71 (iz t) (iz q) (iz n) 71 (iz n) (0 : Int32) (5 : Int32) h1) := by
      intro h1 M1 hq
      have c1 := m_isTown (N := N) M1 w t1 t2
      have c2 := m_inB (N := N) (h := h1) (a := q) (b := 0) (c := 5) (by omega) (by omega) q1 q2
      rw [hf] at c1
      rw [decide_eq_true hq] at c2
      unfold f_X10_put
      rw [kmC M1.1, bq c1]
      refine (if_neg (by decide)).trans ?_
      rw [kmC M1.1, bq (show f_X10_in N 71 (iz q) (0 : Int32) (5 : Int32) h1 = _ from c2)]
      exact if_neg (by decide)
    by_cases hq : 0 ≤ q ∧ q ≤ 5
    · rw [decide_eq_true hq] at a2
      rcases (show q = 0 ∨ q = 1 ∨ q = 2 ∨ q = 3 ∨ q = 4 ∨ q = 5 by omega) with rfl | rfl | rfl | rfl | rfl | rfl
      · have a3 := l_within (N := N) (h := h) (a := n) (b := 0) (c := 5) (by omega) (by omega) n1 n2
        by_cases hn : 0 ≤ n ∧ n ≤ 5
        · rw [decide_eq_true hn] at a3
          have R1 := rep_set R r.cp (k := 1) (j := t * 3 + 0) (x := n) (by decide) (by omega) (by show t * 3 + 0 < (12 : Int); omega)
          have md := r.lo_ (lo_wr1 (k := 1) (by decide)) R1 (wf_level w (by omega)) (vset_ne (k' := 9) (by decide))
          have M1 := md.2.2.1
          have M2 := M1.set (k := 1) (j := t * 3 + 0) (x := n) (by omega) (by omega)
          refine ⟨iz (va V 1 (t * 3 + 0)), wr h (ar 1 1) (upd (h.2.1 (ar 1 1)) (t * 3 + 0).toNat (iz n)), _, _, p, pd, ?_, ?_, md.hi_ (HI.wr_ (by decide)) (eqs_wr (by decide)) M2⟩
          · unfold f_X9_put; rw [knC S, bq a1]; refine (if_neg (by decide)).trans ?_; rw [bq (show f_X9_within N (iz 0) (0 : Int32) (5 : Int32) h = _ from a2)]; refine (if_neg (by decide)).trans ?_; refine (if_neg (by decide)).trans ?_; rw [bq (show f_X9_within N (iz n) (0 : Int32) (5 : Int32) h = _ from a3)]; refine (if_neg (by decide)).trans ?_; rw [kn0 S, kA1 R]
            have er : f_X9_replace N (ar 1 1) ((iz t * (3 : Int32)) + iz 0) (iz n) h = some (iz (va V 1 (t * 3 + 0)), wr h (ar 1 1) (upd (h.2.1 (ar 1 1)) (t * 3 + 0).toNat (iz n))) := replace_e (fun k => by rw [il3, iz_mul, iz_add, kX1 R (by omega) (by omega)]) (fun k => by rw [il3, iz_mul, iz_add, kS1 R (by omega) (by omega)])
            rw [bq er]
          · rw [pre _ M1 (by decide)]; refine (if_neg (by decide)).trans ?_; unfold f_X10_put_45
            have b3 := m_inB (N := N) (h := wr h (ar 1 1) (upd (h.2.1 (ar 1 1)) (t * 3 + 0).toNat (iz n))) (a := n) (b := 0) (c := 5) (by omega) (by omega) n1 n2
            rw [decide_eq_true hn] at b3
            rw [kmC M1.1, bq (show f_X10_in N 71 (iz n) (0 : Int32) (5 : Int32) _ = _ from b3)]; refine (if_neg (by decide)).trans ?_; refine (if_neg (by decide)).trans ?_; rw [kr73 M1.1, kx1m M1 (by omega) (by omega)]; unfold f_X10_put_106; refine (if_neg (by decide)).trans ?_; rw [kr73 M1.1, ks73m M1 (by omega) (by omega)]; unfold f_X10_put_124 f_X10_put_136 f_X10_put_148; exact (if_neg (by decide)).trans <| (if_neg (by decide)).trans <| (if_neg (by decide))
        · rw [decide_eq_false hn] at a3
          refine r.same_ (z := (-2 : Int32)) ?_ ?_
          · unfold f_X9_put; rw [knC S, bq a1]; refine (if_neg (by decide)).trans ?_; rw [bq (show f_X9_within N (iz 0) (0 : Int32) (5 : Int32) h = _ from a2)]; refine (if_neg (by decide)).trans ?_; refine (if_neg (by decide)).trans ?_; rw [bq (show f_X9_within N (iz n) (0 : Int32) (5 : Int32) h = _ from a3)]; exact if_pos (by decide)
          · rw [pre _ M (by decide)]; refine (if_neg (by decide)).trans ?_; unfold f_X10_put_45
            have b3 := m_inB (N := N) (h := h) (a := n) (b := 0) (c := 5) (by omega) (by omega) n1 n2
            rw [decide_eq_false hn] at b3
            rw [kmC M.1, bq (show f_X10_in N 71 (iz n) (0 : Int32) (5 : Int32) h = _ from b3)]; exact if_pos (by decide)
      · have a3 := l_within (N := N) (h := h) (a := n) (b := 0) (c := 5) (by omega) (by omega) n1 n2
        by_cases hn : 0 ≤ n ∧ n ≤ 5
        · rw [decide_eq_true hn] at a3
          have R1 := rep_set R r.cp (k := 1) (j := t * 3 + 1) (x := n) (by decide) (by omega) (by show t * 3 + 1 < (12 : Int); omega)
          have md := r.lo_ (lo_wr1 (k := 1) (by decide)) R1 (wf_level w (by omega)) (vset_ne (k' := 9) (by decide))
          have M1 := md.2.2.1
          have M2 := M1.set (k := 1) (j := t * 3 + 1) (x := n) (by omega) (by omega)
          refine ⟨iz (va V 1 (t * 3 + 1)), wr h (ar 1 1) (upd (h.2.1 (ar 1 1)) (t * 3 + 1).toNat (iz n)), _, _, p, pd, ?_, ?_, md.hi_ (HI.wr_ (by decide)) (eqs_wr (by decide)) M2⟩
          · unfold f_X9_put; rw [knC S, bq a1]; refine (if_neg (by decide)).trans ?_; rw [bq (show f_X9_within N (iz 1) (0 : Int32) (5 : Int32) h = _ from a2)]; refine (if_neg (by decide)).trans ?_; refine (if_neg (by decide)).trans ?_; rw [bq (show f_X9_within N (iz n) (0 : Int32) (5 : Int32) h = _ from a3)]; refine (if_neg (by decide)).trans ?_; rw [kn0 S, kA1 R]
            have er : f_X9_replace N (ar 1 1) ((iz t * (3 : Int32)) + iz 1) (iz n) h = some (iz (va V 1 (t * 3 + 1)), wr h (ar 1 1) (upd (h.2.1 (ar 1 1)) (t * 3 + 1).toNat (iz n))) := replace_e (fun k => by rw [il3, iz_mul, iz_add, kX1 R (by omega) (by omega)]) (fun k => by rw [il3, iz_mul, iz_add, kS1 R (by omega) (by omega)])
            rw [bq er]
          · rw [pre _ M1 (by decide)]; refine (if_neg (by decide)).trans ?_; unfold f_X10_put_45
            have b3 := m_inB (N := N) (h := wr h (ar 1 1) (upd (h.2.1 (ar 1 1)) (t * 3 + 1).toNat (iz n))) (a := n) (b := 0) (c := 5) (by omega) (by omega) n1 n2
            rw [decide_eq_true hn] at b3
            rw [kmC M1.1, bq (show f_X10_in N 71 (iz n) (0 : Int32) (5 : Int32) _ = _ from b3)]; refine (if_neg (by decide)).trans ?_; refine (if_neg (by decide)).trans ?_; rw [kr73 M1.1, kx1m M1 (by omega) (by omega)]; unfold f_X10_put_106; refine (if_neg (by decide)).trans ?_; rw [kr73 M1.1, ks73m M1 (by omega) (by omega)]; unfold f_X10_put_124 f_X10_put_136 f_X10_put_148; exact (if_neg (by decide)).trans <| (if_neg (by decide)).trans <| (if_neg (by decide))
        · rw [decide_eq_false hn] at a3
          refine r.same_ (z := (-2 : Int32)) ?_ ?_
          · unfold f_X9_put; rw [knC S, bq a1]; refine (if_neg (by decide)).trans ?_; rw [bq (show f_X9_within N (iz 1) (0 : Int32) (5 : Int32) h = _ from a2)]; refine (if_neg (by decide)).trans ?_; refine (if_neg (by decide)).trans ?_; rw [bq (show f_X9_within N (iz n) (0 : Int32) (5 : Int32) h = _ from a3)]; exact if_pos (by decide)
          · rw [pre _ M (by decide)]; refine (if_neg (by decide)).trans ?_; unfold f_X10_put_45
            have b3 := m_inB (N := N) (h := h) (a := n) (b := 0) (c := 5) (by omega) (by omega) n1 n2
            rw [decide_eq_false hn] at b3
            rw [kmC M.1, bq (show f_X10_in N 71 (iz n) (0 : Int32) (5 : Int32) h = _ from b3)]; exact if_pos (by decide)
      · have a3 := l_within (N := N) (h := h) (a := n) (b := 0) (c := 5) (by omega) (by omega) n1 n2
        by_cases hn : 0 ≤ n ∧ n ≤ 5
        · rw [decide_eq_true hn] at a3
          have R1 := rep_set R r.cp (k := 1) (j := t * 3 + 2) (x := n) (by decide) (by omega) (by show t * 3 + 2 < (12 : Int); omega)
          have md := r.lo_ (lo_wr1 (k := 1) (by decide)) R1 (wf_level w (by omega)) (vset_ne (k' := 9) (by decide))
          have M1 := md.2.2.1
          have M2 := M1.set (k := 1) (j := t * 3 + 2) (x := n) (by omega) (by omega)
          refine ⟨iz (va V 1 (t * 3 + 2)), wr h (ar 1 1) (upd (h.2.1 (ar 1 1)) (t * 3 + 2).toNat (iz n)), _, _, p, pd, ?_, ?_, md.hi_ (HI.wr_ (by decide)) (eqs_wr (by decide)) M2⟩
          · unfold f_X9_put; rw [knC S, bq a1]; refine (if_neg (by decide)).trans ?_; rw [bq (show f_X9_within N (iz 2) (0 : Int32) (5 : Int32) h = _ from a2)]; refine (if_neg (by decide)).trans ?_; refine (if_neg (by decide)).trans ?_; rw [bq (show f_X9_within N (iz n) (0 : Int32) (5 : Int32) h = _ from a3)]; refine (if_neg (by decide)).trans ?_; rw [kn0 S, kA1 R]
            have er : f_X9_replace N (ar 1 1) ((iz t * (3 : Int32)) + iz 2) (iz n) h = some (iz (va V 1 (t * 3 + 2)), wr h (ar 1 1) (upd (h.2.1 (ar 1 1)) (t * 3 + 2).toNat (iz n))) := replace_e (fun k => by rw [il3, iz_mul, iz_add, kX1 R (by omega) (by omega)]) (fun k => by rw [il3, iz_mul, iz_add, kS1 R (by omega) (by omega)])
            rw [bq er]
          · rw [pre _ M1 (by decide)]; refine (if_neg (by decide)).trans ?_; unfold f_X10_put_45
            have b3 := m_inB (N := N) (h := wr h (ar 1 1) (upd (h.2.1 (ar 1 1)) (t * 3 + 2).toNat (iz n))) (a := n) (b := 0) (c := 5) (by omega) (by omega) n1 n2
            rw [decide_eq_true hn] at b3
            rw [kmC M1.1, bq (show f_X10_in N 71 (iz n) (0 : Int32) (5 : Int32) _ = _ from b3)]; refine (if_neg (by decide)).trans ?_; refine (if_neg (by decide)).trans ?_; rw [kr73 M1.1, kx1m M1 (by omega) (by omega)]; unfold f_X10_put_106; refine (if_neg (by decide)).trans ?_; rw [kr73 M1.1, ks73m M1 (by omega) (by omega)]; unfold f_X10_put_124 f_X10_put_136 f_X10_put_148; exact (if_neg (by decide)).trans <| (if_neg (by decide)).trans <| (if_neg (by decide))
        · rw [decide_eq_false hn] at a3
          refine r.same_ (z := (-2 : Int32)) ?_ ?_
          · unfold f_X9_put; rw [knC S, bq a1]; refine (if_neg (by decide)).trans ?_; rw [bq (show f_X9_within N (iz 2) (0 : Int32) (5 : Int32) h = _ from a2)]; refine (if_neg (by decide)).trans ?_; refine (if_neg (by decide)).trans ?_; rw [bq (show f_X9_within N (iz n) (0 : Int32) (5 : Int32) h = _ from a3)]; exact if_pos (by decide)
          · rw [pre _ M (by decide)]; refine (if_neg (by decide)).trans ?_; unfold f_X10_put_45
            have b3 := m_inB (N := N) (h := h) (a := n) (b := 0) (c := 5) (by omega) (by omega) n1 n2
            rw [decide_eq_false hn] at b3
            rw [kmC M.1, bq (show f_X10_in N 71 (iz n) (0 : Int32) (5 : Int32) h = _ from b3)]; exact if_pos (by decide)
      · have a3 := l_within (N := N) (h := h) (a := n) (b := 0) (c := 999) (by omega) (by omega) n1 n2
        by_cases hn : 0 ≤ n ∧ n ≤ 999
        · rw [decide_eq_true hn] at a3
          have R1 := rep_set R r.cp (k := 2) (j := t) (x := n) (by decide) (by omega) (by show t < (4 : Int); omega)
          have md := r.lo_ (lo_wr1 (k := 2) (by decide)) R1 (wf_t3 w (by omega)) (vset_ne (k' := 9) (by decide))
          have M1 := md.2.2.1
          have M2 := M1.set (k := 2) (j := t) (x := n) (by omega) (by omega)
          refine ⟨iz (va V 2 (t)), wr h (ar 1 2) (upd (h.2.1 (ar 1 2)) (t).toNat (iz n)), _, _, p, pd, ?_, ?_, md.hi_ (HI.wr_ (by decide)) (eqs_wr (by decide)) M2⟩
          · unfold f_X9_put; rw [knC S, bq a1]; refine (if_neg (by decide)).trans ?_; rw [bq (show f_X9_within N (iz 3) (0 : Int32) (5 : Int32) h = _ from a2)]; refine (if_neg (by decide)).trans ?_; refine (if_pos (by decide)).trans <| (if_neg (by decide)).trans ?_; rw [bq (show f_X9_within N (iz n) (0 : Int32) (999 : Int32) h = _ from a3)]; refine (if_neg (by decide)).trans ?_; refine (if_pos (by decide)).trans ?_; rw [kn0 S, kA2 R]; unfold f_X9_put_124; skip
            have er : f_X9_replace N (ar 1 2) (iz t) (iz n) h = some (iz (va V 2 t), wr h (ar 1 2) (upd (h.2.1 (ar 1 2)) t.toNat (iz n))) := replace_e (fun k => by rw [kX2 R (by omega) (by omega)]) (fun k => bo (st_wr (R.1.2 2 (by decide)).2 (by omega) (show t < ((4 : Nat) : Int) by omega) (by decide)))
            rw [bq er]
          · rw [pre _ M1 (by decide)]; refine (if_pos (by decide)).trans <| (if_neg (by decide)).trans ?_; unfold f_X10_put_45
            have b3 := m_inB (N := N) (h := wr h (ar 1 2) (upd (h.2.1 (ar 1 2)) (t).toNat (iz n))) (a := n) (b := 0) (c := 999) (by omega) (by omega) n1 n2
            rw [decide_eq_true hn] at b3
            rw [kmC M1.1, bq (show f_X10_in N 71 (iz n) (0 : Int32) (999 : Int32) _ = _ from b3)]; refine (if_neg (by decide)).trans ?_; refine (if_pos (by decide)).trans <| (if_pos (by decide)).trans ?_; rw [kr74 M1.1, kx2 M1 (by omega) (by omega)]; unfold f_X10_put_106; refine (if_pos (by decide)).trans ?_; unfold f_X10_put_124 f_X10_put_136 f_X10_put_148; refine (if_pos (by decide)).trans ?_; rw [kr74 M1.1, ks74 M1.1 (by omega) (by omega)]; exact (if_neg (by decide)).trans (if_neg (by decide))
        · rw [decide_eq_false hn] at a3
          refine r.same_ (z := (-2 : Int32)) ?_ ?_
          · unfold f_X9_put; rw [knC S, bq a1]; refine (if_neg (by decide)).trans ?_; rw [bq (show f_X9_within N (iz 3) (0 : Int32) (5 : Int32) h = _ from a2)]; refine (if_neg (by decide)).trans ?_; refine (if_pos (by decide)).trans <| (if_neg (by decide)).trans ?_; rw [bq (show f_X9_within N (iz n) (0 : Int32) (999 : Int32) h = _ from a3)]; exact if_pos (by decide)
          · rw [pre _ M (by decide)]; refine (if_pos (by decide)).trans <| (if_neg (by decide)).trans ?_; unfold f_X10_put_45
            have b3 := m_inB (N := N) (h := h) (a := n) (b := 0) (c := 999) (by omega) (by omega) n1 n2
            rw [decide_eq_false hn] at b3
            rw [kmC M.1, bq (show f_X10_in N 71 (iz n) (0 : Int32) (999 : Int32) h = _ from b3)]; exact if_pos (by decide)
      · have a3 := l_within (N := N) (h := h) (a := n) (b := 0) (c := 99) (by omega) (by omega) n1 n2
        by_cases hn : 0 ≤ n ∧ n ≤ 99
        · rw [decide_eq_true hn] at a3
          have R1 := rep_set R r.cp (k := 3) (j := t) (x := n) (by decide) (by omega) (by show t < (4 : Int); omega)
          have md := r.lo_ (lo_wr1 (k := 3) (by decide)) R1 (wf_t3 w (by omega)) (vset_ne (k' := 9) (by decide))
          have M1 := md.2.2.1
          have M2 := M1.set (k := 3) (j := t) (x := n) (by omega) (by omega)
          refine ⟨iz (va V 3 (t)), wr h (ar 1 3) (upd (h.2.1 (ar 1 3)) (t).toNat (iz n)), _, _, p, pd, ?_, ?_, md.hi_ (HI.wr_ (by decide)) (eqs_wr (by decide)) M2⟩
          · unfold f_X9_put; rw [knC S, bq a1]; refine (if_neg (by decide)).trans ?_; rw [bq (show f_X9_within N (iz 4) (0 : Int32) (5 : Int32) h = _ from a2)]; refine (if_neg (by decide)).trans ?_; refine (if_pos (by decide)).trans <| (if_pos (by decide)).trans ?_; rw [bq (show f_X9_within N (iz n) (0 : Int32) (99 : Int32) h = _ from a3)]; refine (if_neg (by decide)).trans ?_; rw [kn0 S, kA3 R]; skip
            have er : f_X9_replace N (ar 1 3) (iz t) (iz n) h = some (iz (va V 3 t), wr h (ar 1 3) (upd (h.2.1 (ar 1 3)) t.toNat (iz n))) := replace_e (fun k => by rw [kX3 R (by omega) (by omega)]) (fun k => bo (st_wr (R.1.2 3 (by decide)).2 (by omega) (show t < ((4 : Nat) : Int) by omega) (by decide)))
            rw [bq er]
          · rw [pre _ M1 (by decide)]; refine (if_pos (by decide)).trans <| (if_pos (by decide)).trans ?_; unfold f_X10_put_45
            have b3 := m_inB (N := N) (h := wr h (ar 1 3) (upd (h.2.1 (ar 1 3)) (t).toNat (iz n))) (a := n) (b := 0) (c := 99) (by omega) (by omega) n1 n2
            rw [decide_eq_true hn] at b3
            rw [kmC M1.1, bq (show f_X10_in N 71 (iz n) (0 : Int32) (99 : Int32) _ = _ from b3)]; refine (if_neg (by decide)).trans ?_; refine (if_pos (by decide)).trans <| (if_neg (by decide)).trans <| (if_pos (by decide)).trans ?_; rw [kr75 M1.1, kx3 M1 (by omega) (by omega)]; unfold f_X10_put_106; refine (if_pos (by decide)).trans ?_; unfold f_X10_put_124 f_X10_put_136 f_X10_put_148; refine (if_neg (by decide)).trans <| (if_pos (by decide)).trans ?_; rw [kr75 M1.1, ks75 M1.1 (by omega) (by omega)]; exact (if_neg (by decide))
        · rw [decide_eq_false hn] at a3
          refine r.same_ (z := (-2 : Int32)) ?_ ?_
          · unfold f_X9_put; rw [knC S, bq a1]; refine (if_neg (by decide)).trans ?_; rw [bq (show f_X9_within N (iz 4) (0 : Int32) (5 : Int32) h = _ from a2)]; refine (if_neg (by decide)).trans ?_; refine (if_pos (by decide)).trans <| (if_pos (by decide)).trans ?_; rw [bq (show f_X9_within N (iz n) (0 : Int32) (99 : Int32) h = _ from a3)]; exact if_pos (by decide)
          · rw [pre _ M (by decide)]; refine (if_pos (by decide)).trans <| (if_pos (by decide)).trans ?_; unfold f_X10_put_45
            have b3 := m_inB (N := N) (h := h) (a := n) (b := 0) (c := 99) (by omega) (by omega) n1 n2
            rw [decide_eq_false hn] at b3
            rw [kmC M.1, bq (show f_X10_in N 71 (iz n) (0 : Int32) (99 : Int32) h = _ from b3)]; exact if_pos (by decide)
      · have a3 := l_within (N := N) (h := h) (a := n) (b := 0) (c := 999) (by omega) (by omega) n1 n2
        by_cases hn : 0 ≤ n ∧ n ≤ 999
        · rw [decide_eq_true hn] at a3
          have R1 := rep_set R r.cp (k := 4) (j := t) (x := n) (by decide) (by omega) (by show t < (4 : Int); omega)
          have md := r.lo_ (lo_wr1 (k := 4) (by decide)) R1 (wf_t3 w (by omega)) (vset_ne (k' := 9) (by decide))
          have M1 := md.2.2.1
          have M2 := M1.set (k := 4) (j := t) (x := n) (by omega) (by omega)
          refine ⟨iz (va V 4 (t)), wr h (ar 1 4) (upd (h.2.1 (ar 1 4)) (t).toNat (iz n)), _, _, p, pd, ?_, ?_, md.hi_ (HI.wr_ (by decide)) (eqs_wr (by decide)) M2⟩
          · unfold f_X9_put; rw [knC S, bq a1]; refine (if_neg (by decide)).trans ?_; rw [bq (show f_X9_within N (iz 5) (0 : Int32) (5 : Int32) h = _ from a2)]; refine (if_neg (by decide)).trans ?_; refine (if_pos (by decide)).trans <| (if_neg (by decide)).trans ?_; rw [bq (show f_X9_within N (iz n) (0 : Int32) (999 : Int32) h = _ from a3)]; refine (if_neg (by decide)).trans ?_; refine (if_neg (by decide)).trans ?_; rw [kn0 S, kA4 R]; unfold f_X9_put_124; skip
            have er : f_X9_replace N (ar 1 4) (iz t) (iz n) h = some (iz (va V 4 t), wr h (ar 1 4) (upd (h.2.1 (ar 1 4)) t.toNat (iz n))) := replace_e (fun k => by rw [kX4 R (by omega) (by omega)]) (fun k => bo (st_wr (R.1.2 4 (by decide)).2 (by omega) (show t < ((4 : Nat) : Int) by omega) (by decide)))
            rw [bq er]
          · rw [pre _ M1 (by decide)]; refine (if_pos (by decide)).trans <| (if_neg (by decide)).trans ?_; unfold f_X10_put_45
            have b3 := m_inB (N := N) (h := wr h (ar 1 4) (upd (h.2.1 (ar 1 4)) (t).toNat (iz n))) (a := n) (b := 0) (c := 999) (by omega) (by omega) n1 n2
            rw [decide_eq_true hn] at b3
            rw [kmC M1.1, bq (show f_X10_in N 71 (iz n) (0 : Int32) (999 : Int32) _ = _ from b3)]; refine (if_neg (by decide)).trans ?_; refine (if_pos (by decide)).trans <| (if_neg (by decide)).trans <| (if_neg (by decide)).trans ?_; rw [kr76 M1.1, kx4 M1 (by omega) (by omega)]; unfold f_X10_put_106; refine (if_pos (by decide)).trans ?_; unfold f_X10_put_124 f_X10_put_136 f_X10_put_148; refine (if_neg (by decide)).trans <| (if_neg (by decide)).trans <| (if_pos (by decide)).trans ?_; rw [kr76 M1.1, ks76 M1.1 (by omega) (by omega)]
        · rw [decide_eq_false hn] at a3
          refine r.same_ (z := (-2 : Int32)) ?_ ?_
          · unfold f_X9_put; rw [knC S, bq a1]; refine (if_neg (by decide)).trans ?_; rw [bq (show f_X9_within N (iz 5) (0 : Int32) (5 : Int32) h = _ from a2)]; refine (if_neg (by decide)).trans ?_; refine (if_pos (by decide)).trans <| (if_neg (by decide)).trans ?_; rw [bq (show f_X9_within N (iz n) (0 : Int32) (999 : Int32) h = _ from a3)]; exact if_pos (by decide)
          · rw [pre _ M (by decide)]; refine (if_pos (by decide)).trans <| (if_neg (by decide)).trans ?_; unfold f_X10_put_45
            have b3 := m_inB (N := N) (h := h) (a := n) (b := 0) (c := 999) (by omega) (by omega) n1 n2
            rw [decide_eq_false hn] at b3
            rw [kmC M.1, bq (show f_X10_in N 71 (iz n) (0 : Int32) (999 : Int32) h = _ from b3)]; exact if_pos (by decide)
    · rw [decide_eq_false hq] at a2 b2'
      refine r.same_ (z := (-1 : Int32)) ?_ ?_
      · unfold f_X9_put; rw [knC S, bq a1]; refine (if_neg (by decide)).trans ?_; rw [bq (show f_X9_within N (iz q) (0 : Int32) (5 : Int32) h = _ from a2)]; exact if_pos (by decide)
      · unfold f_X10_put; rw [kmC M.1, bq b1]; refine (if_neg (by decide)).trans ?_; rw [kmC M.1, bq (show f_X10_in N 71 (iz q) (0 : Int32) (5 : Int32) h = _ from b2')]; exact if_pos (by decide)
theorem t_count (hN : 300 ≤ N) (r : REL h V p pd b) (v1 : Int32) : CAL (f_X9_count N 0 v1 h) (f_X10_count N 71 v1) b := by
  obtain ⟨q, rfl, q1, q2⟩ := int_iz v1
  have R := r.2.1
  have M := r.2.2.1
  have S := r.2.2.2.2.2.2.2.1
  obtain ⟨_, _, _, ⟨a1, a2, a3, ran, a4, a5, _⟩, ⟨x, L, t1, t2, _⟩, ⟨y, _, y2, y3⟩, ⟨la, _, l2, l3⟩, ⟨nl, _, n2, n3, _⟩, _⟩ := r.2.2.2.2.2.2.2
  have nv := fun k (hk : 0 ≤ k ∧ k ≤ 6) (hq : q ≠ k) => iz_ne q1 q2 (by omega) (by omega) hq (b := k)
  by_cases c0 : q = 0
  · refine ⟨iz (vT V), h, h, V, p, pd, ?_, ?_, r⟩
    · unfold f_X9_count; refine (if_pos (by rw [c0]; rfl)).trans ?_; rw [kn0 S, kT R]
    · unfold f_X10_count; refine (if_pos (by rw [c0]; rfl)).trans ?_; rw [kmT M]
  by_cases c1 : q = 1
  · refine ⟨iz (vF V), h, h, V, p, pd, ?_, ?_, r⟩
    · unfold f_X9_count; refine (if_neg (nv 0 (by decide) c0)).trans <| (if_pos (by rw [c1]; rfl)).trans ?_; rw [kn0 S, kF R]
    · unfold f_X10_count; refine (if_neg (nv 0 (by decide) c0)).trans <| (if_pos (by rw [c1]; rfl)).trans ?_; rw [kmF M]
  by_cases c2 : q = 2
  · refine ⟨iz (la : Int), h, h, V, p, pd, ?_, ?_, r⟩
    · unfold f_X9_count; refine (if_neg (nv 0 (by decide) c0)).trans <| (if_neg (nv 1 (by decide) c1)).trans <| (if_pos (by rw [c2]; rfl)).trans ?_; rw [knI S, l2]
    · unfold f_X10_count; refine (if_neg (nv 0 (by decide) c0)).trans <| (if_neg (nv 1 (by decide) c1)).trans <| (if_pos (by rw [c2]; rfl)).trans ?_; rw [kmI M.1, l3]
  by_cases c3 : q = 3
  · refine ⟨iz (L : Int), h, h, V, p, pd, ?_, ?_, r⟩
    · unfold f_X9_count; refine (if_neg (nv 0 (by decide) c0)).trans <| (if_neg (nv 1 (by decide) c1)).trans <| (if_neg (nv 2 (by decide) c2)).trans <| (if_pos (by rw [c3]; rfl)).trans ?_; rw [kn4 S, bo (gI_q t1.1), t1.2.2.2.1]
    · unfold f_X10_count; refine (if_neg (nv 0 (by decide) c0)).trans <| (if_neg (nv 1 (by decide) c1)).trans <| (if_neg (nv 2 (by decide) c2)).trans <| (if_pos (by rw [c3]; rfl)).trans ?_; rw [kmI M.1, t2]
  by_cases c4 : q = 4
  · refine ⟨iz (nl : Int), h, h, V, p, pd, ?_, ?_, r⟩
    · unfold f_X9_count; refine (if_neg (nv 0 (by decide) c0)).trans <| (if_neg (nv 1 (by decide) c1)).trans <| (if_neg (nv 2 (by decide) c2)).trans <| (if_neg (nv 3 (by decide) c3)).trans <| (if_pos (by rw [c4]; rfl)).trans ?_; rw [knI S, n2]
    · unfold f_X10_count; refine (if_neg (nv 0 (by decide) c0)).trans <| (if_neg (nv 1 (by decide) c1)).trans <| (if_neg (nv 2 (by decide) c2)).trans <| (if_neg (nv 3 (by decide) c3)).trans <| (if_pos (by rw [c4]; rfl)).trans ?_; rw [kmI M.1, n3]
  by_cases c5 : q = 5
  · refine ⟨iz (y : Int), h, h, V, p, pd, ?_, ?_, r⟩
    · unfold f_X9_count; refine (if_neg (nv 0 (by decide) c0)).trans <| (if_neg (nv 1 (by decide) c1)).trans <| (if_neg (nv 2 (by decide) c2)).trans <| (if_neg (nv 3 (by decide) c3)).trans <| (if_neg (nv 4 (by decide) c4)).trans <| (if_pos (by rw [c5]; rfl)).trans ?_; rw [knI S, y2]
    · unfold f_X10_count; refine (if_neg (nv 0 (by decide) c0)).trans <| (if_neg (nv 1 (by decide) c1)).trans <| (if_neg (nv 2 (by decide) c2)).trans <| (if_neg (nv 3 (by decide) c3)).trans <| (if_neg (nv 4 (by decide) c4)).trans <| (if_pos (by rw [c5]; rfl)).trans ?_; rw [kmI M.1, y3]
  by_cases c6 : q = 6
  · refine ⟨iz (ran : Int), h, h, V, p, pd, ?_, ?_, r⟩
    · unfold f_X9_count; refine (if_neg (nv 0 (by decide) c0)).trans <| (if_neg (nv 1 (by decide) c1)).trans <| (if_neg (nv 2 (by decide) c2)).trans <| (if_neg (nv 3 (by decide) c3)).trans <| (if_neg (nv 4 (by decide) c4)).trans <| (if_neg (nv 5 (by decide) c5)).trans <| (if_pos (by rw [c6]; rfl)).trans ?_; rw [kn8 S, bo (gI_q a1), a4]
    · unfold f_X10_count; refine (if_neg (nv 0 (by decide) c0)).trans <| (if_neg (nv 1 (by decide) c1)).trans <| (if_neg (nv 2 (by decide) c2)).trans <| (if_neg (nv 3 (by decide) c3)).trans <| (if_neg (nv 4 (by decide) c4)).trans <| (if_neg (nv 5 (by decide) c5)).trans <| (if_pos (by rw [c6]; rfl)).trans ?_; rw [kmI M.1, a5]
  refine r.same_ (z := (-2 : Int32)) ?_ ?_
  · unfold f_X9_count; exact (if_neg (nv 0 (by decide) c0)).trans <| (if_neg (nv 1 (by decide) c1)).trans <| (if_neg (nv 2 (by decide) c2)).trans <| (if_neg (nv 3 (by decide) c3)).trans <| (if_neg (nv 4 (by decide) c4)).trans <| (if_neg (nv 5 (by decide) c5)).trans <| (if_neg (nv 6 (by decide) c6))
  · unfold f_X10_count; exact (if_neg (nv 0 (by decide) c0)).trans <| (if_neg (nv 1 (by decide) c1)).trans <| (if_neg (nv 2 (by decide) c2)).trans <| (if_neg (nv 3 (by decide) c3)).trans <| (if_neg (nv 4 (by decide) c4)).trans <| (if_neg (nv 5 (by decide) c5)).trans <| (if_neg (nv 6 (by decide) c6))
theorem t_trace (hN : 300 ≤ N) (r : REL h V p pd b) (v1 : Int32) : CAL (f_X9_trace N 0 v1 h) (f_X10_trace N 71 v1) b := by
  obtain ⟨q, rfl, q1, q2⟩ := int_iz v1
  have M := r.2.2.1
  have S := r.2.2.2.2.2.2.2.1
  obtain ⟨_, _, _, ⟨a1, a2, a3, ran, a4, a5, a6, a7⟩, _⟩ := r.2.2.2.2.2.2.2
  have b1 := m_inB (N := N) (h := h) (a := q) (b := 0) (c := 19) (by omega) (by omega) q1 q2
  by_cases hq : 0 ≤ q ∧ q ≤ 19
  · rw [decide_eq_true hq] at b1
    have c0 : ¬ (q < 0) := by omega
    have c20 : ¬ (20 ≤ q) := by omega
    by_cases hr : (ran : Int) ≤ q
    · refine r.same_ (z := (-iz 1 : Int32)) ?_ ?_
      · unfold f_X9_trace
        simp (disch := omega) only [il0, il1, il2, il3, il4, il5, il6, il7, il8, il9, il10, il11, il12, il13, il14, il15, il16, il17, il18, il19, il20, il21, il22, il23, il24, il25, il26, il27, il28, il29, il30, il31, il32, il33, il36, il38, il39, il40, il41, il48, il50, il51, il57, il59, il60, il61, il62, il63, il70, il96, il99, il100, il101, il102, il103, il104, il105, il106, il107, il108, il109, il110, il111, il112, il115, il116, il120, il121, il124, il200, il240, il255, il288, il360, il420, il999, il1000, il114292, il152755, il402789, il435589, il463922, il533611, il631470, iz_lt, iz_le, c0, c20, ↓reduceIte, ↓kn8 S, ↓bo (gI_q a1), a4, hr]
      · unfold f_X10_trace
        rw [kmC M.1, bq (show f_X10_in N 71 (iz q) (0 : Int32) (19 : Int32) h = _ from b1)]
        refine (if_neg (by decide)).trans ?_
        simp (disch := omega) only [il0, il1, il2, il3, il4, il5, il6, il7, il8, il9, il10, il11, il12, il13, il14, il15, il16, il17, il18, il19, il20, il21, il22, il23, il24, il25, il26, il27, il28, il29, il30, il31, il32, il33, il36, il38, il39, il40, il41, il48, il50, il51, il57, il59, il60, il61, il62, il63, il70, il96, il99, il100, il101, il102, il103, il104, il105, il106, il107, il108, il109, il110, il111, il112, il115, il116, il120, il121, il124, il200, il240, il255, il288, il360, il420, il999, il1000, il114292, il152755, il402789, il435589, il463922, il533611, il631470, ↓kmI M.1, a5, iz_le, hr, ↓reduceIte]
    · have hb := a7 q.toNat (by omega) (by omega)
      refine r.same_ (z := h.2.1 56 q.toNat) ?_ ?_
      · unfold f_X9_trace
        simp (disch := omega) only [il0, il1, il2, il3, il4, il5, il6, il7, il8, il9, il10, il11, il12, il13, il14, il15, il16, il17, il18, il19, il20, il21, il22, il23, il24, il25, il26, il27, il28, il29, il30, il31, il32, il33, il36, il38, il39, il40, il41, il48, il50, il51, il57, il59, il60, il61, il62, il63, il70, il96, il99, il100, il101, il102, il103, il104, il105, il106, il107, il108, il109, il110, il111, il112, il115, il116, il120, il121, il124, il200, il240, il255, il288, il360, il420, il999, il1000, il114292, il152755, il402789, il435589, il463922, il533611, il631470, iz_lt, iz_le, c0, c20, ↓reduceIte, ↓kn8 S, ↓bo (gI_q a1), a4, hr, ↓bo (gR_q a1 a2)]
        rw [bo (lI_q a3 (by omega) (by omega) (by decide))]
      · unfold f_X10_trace
        rw [kmC M.1, bq (show f_X10_in N 71 (iz q) (0 : Int32) (19 : Int32) h = _ from b1)]
        refine (if_neg (by decide)).trans ?_
        simp (disch := omega) only [il0, il1, il2, il3, il4, il5, il6, il7, il8, il9, il10, il11, il12, il13, il14, il15, il16, il17, il18, il19, il20, il21, il22, il23, il24, il25, il26, il27, il28, il29, il30, il31, il32, il33, il36, il38, il39, il40, il41, il48, il50, il51, il57, il59, il60, il61, il62, il63, il70, il96, il99, il100, il101, il102, il103, il104, il105, il106, il107, il108, il109, il110, il111, il112, il115, il116, il120, il121, il124, il200, il240, il255, il288, il360, il420, il999, il1000, il114292, il152755, il402789, il435589, il463922, il533611, il631470, ↓kmI M.1, a5, iz_le, hr, ↓reduceIte, ↓kr106 M.1, ↓kl106 M.1]
        rw [hb]
  · rw [decide_eq_false hq] at b1
    refine r.same_ (z := (-iz 1 : Int32)) ?_ ?_
    · unfold f_X9_trace
      by_cases c0 : q < 0
      · simp (disch := omega) only [il0, il1, il2, il3, il4, il5, il6, il7, il8, il9, il10, il11, il12, il13, il14, il15, il16, il17, il18, il19, il20, il21, il22, il23, il24, il25, il26, il27, il28, il29, il30, il31, il32, il33, il36, il38, il39, il40, il41, il48, il50, il51, il57, il59, il60, il61, il62, il63, il70, il96, il99, il100, il101, il102, il103, il104, il105, il106, il107, il108, il109, il110, il111, il112, il115, il116, il120, il121, il124, il200, il240, il255, il288, il360, il420, il999, il1000, il114292, il152755, il402789, il435589, il463922, il533611, il631470, iz_lt, c0, ↓reduceIte]
      · have c20 : 20 ≤ q := by omega
        simp (disch := omega) only [il0, il1, il2, il3, il4, il5, il6, il7, il8, il9, il10, il11, il12, il13, il14, il15, il16, il17, il18, il19, il20, il21, il22, il23, il24, il25, il26, il27, il28, il29, il30, il31, il32, il33, il36, il38, il39, il40, il41, il48, il50, il51, il57, il59, il60, il61, il62, il63, il70, il96, il99, il100, il101, il102, il103, il104, il105, il106, il107, il108, il109, il110, il111, il112, il115, il116, il120, il121, il124, il200, il240, il255, il288, il360, il420, il999, il1000, il114292, il152755, il402789, il435589, il463922, il533611, il631470, iz_lt, iz_le, c0, c20, ↓reduceIte]
    · unfold f_X10_trace
      rw [kmC M.1, bq (show f_X10_in N 71 (iz q) (0 : Int32) (19 : Int32) h = _ from b1)]
      exact if_pos (by decide)
theorem under_dec : ∀ k : Nat, k < 6 → ∀ q : Nat, q < 6 → (f_X6_isUnder 300 (iz k) (iz q) mem0).map (fun z => z.1) = some (iz (bi (decide (q = 0 ∨ k = q ∨ (q = 1 ∧ 1 < k) ∨ (q = 2 ∧ k = 4))))) := by decide +kernel
end
