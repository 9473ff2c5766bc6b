section
variable {h : Mem} {V : Vw} {p pd b N : Nat}
theorem p_edge (hN : 300 ≤ N) (r : REL h V p pd b) (v1 v2 v3 : Int32) : CAL (f_X9_edge N 0 v1 v2 v3 h) (f_X10_edge N 71 v1 v2 v3) b := by
  obtain ⟨a, rfl, s1, s2⟩ := int_iz v1
  obtain ⟨g, rfl, g1, g2⟩ := int_iz v2
  obtain ⟨kd, rfl, k1, k2⟩ := int_iz v3
  have R := r.2.1
  have M := r.2.2.1
  have w := r.2.2.2.1
  have lk := r.2.2.2.2.1
  have S := r.2.2.2.2.2.2.2.1
  have rs := r.2.2.2.2.2.2.2.2.2.1.1
  have a1 := l_within (N := N) (h := h) (a := a) (b := 0) (c := 3) (by omega) (by omega) s1 s2
  have a2 := l_within (N := N) (h := h) (a := g) (b := 0) (c := 2) (by omega) (by omega) g1 g2
  have a3 := l_isRest (N := N) (h := h) k1 k2
  have mb : ∀ (h1 : Mem) (c d e : Bool), RepM h1 V → decide (0 ≤ a ∧ a ≤ 3) = c → decide (0 ≤ g ∧ g ≤ 2) = d → decide (1 ≤ kd ∧ kd ≤ 5) = e → f_X10_edge N 71 (iz a) (iz g) (iz kd) h1 = (if c = false ∨ d = false ∨ e = false then some (iz (-1), h1) else b2 (f_X10_isRest N 71 (iz kd) h1) fun t19 h18 => if t19 = 0 then some ((0 : Int32), h18) else (gR h18 71 10 22).bind fun t21 => (lI 100 h18 t21 (((3 : Int32) * iz a) + iz g)).bind fun t23 => f_X10_edge_61 N N 71 (iz a) (iz g) (iz kd) t23 (-100 : Int32) (1 : Int32) h18) := by
    intro h1 c d e R1 hc hd he
    have b1 := m_inB (N := N) (h := h1) (a := a) (b := 0) (c := 3) (by omega) (by omega) s1 s2
    have b2' := m_inB (N := N) (h := h1) (a := g) (b := 0) (c := 2) (by omega) (by omega) g1 g2
    have b3 := m_inB (N := N) (h := h1) (a := kd) (b := 1) (c := 5) (by omega) (by omega) k1 k2
    rw [hc] at b1
    rw [hd] at b2'
    rw [he] at b3
    unfold f_X10_edge
    rw [kmC R1.1, bq (show f_X10_in N 71 (iz a) (0 : Int32) (3 : Int32) h1 = _ from b1)]
    cases c with
    | false => exact (if_pos (by decide)).trans (if_pos (Or.inl rfl)).symm
    | true =>
      refine (if_neg (by decide)).trans ?_
      rw [kmC R1.1, bq (show f_X10_in N 71 (iz g) (0 : Int32) (2 : Int32) h1 = _ from b2')]
      cases d with
      | false => exact (if_pos (by decide)).trans (if_pos (Or.inr (Or.inl rfl))).symm
      | true =>
        refine (if_neg (by decide)).trans ?_
        rw [kmC R1.1, bq (show f_X10_in N 71 (iz kd) (1 : Int32) (5 : Int32) h1 = _ from b3)]
        cases e with
        | false => exact (if_pos (by decide)).trans (if_pos (Or.inr (Or.inr rfl))).symm
        | true =>
          refine (if_neg (by decide)).trans ?_
          rw [kmC R1.1]
          exact (if_neg (by decide)).symm
  by_cases c1 : 0 ≤ a ∧ a ≤ 3
  · rw [decide_eq_true c1] at a1
    by_cases c2 : 0 ≤ g ∧ g ≤ 2
    · rw [decide_eq_true c2] at a2
      by_cases c3 : 1 ≤ kd ∧ kd ≤ 5
      · rw [decide_eq_true c3] at a3
        obtain ⟨h1, e1, R1, K1⟩ := l_breach (N := N) R w r.cp rs hN c3
        have bd := breachS_bd w (k := kd)
        have q46 : h.1[46]? = some (6, 0) := rs.1
        have md := r.kc K1 R1 w rfl
        have M1 := md.2.2.1
        have prc : ∀ o, (if iz (breachS V kd) = (-5 : Int32) then (gR h1 0 9 0).bind fun t22 => (gR h1 t22 1 0).bind fun t24 => (gR h1 t24 3 0).bind fun t26 => (lI 100 h1 t26 ((iz a * (3 : Int32)) + iz g)).bind fun t28 => f_X9_edge_79 N N 0 (iz kd) t26 ((iz a * (3 : Int32)) + iz g) t28 (-100 : Int32) (1 : Int32) h1 else some ((0 : Int32), h1)) = o → f_X9_edge N 0 (iz a) (iz g) (iz kd) h = o := by
          intro o eo
          unfold f_X9_edge
          rw [bq (show f_X9_within N (iz a) (0 : Int32) (3 : Int32) h = _ from a1)]
          refine (if_neg (by decide)).trans ?_
          rw [bq (show f_X9_within N (iz g) (0 : Int32) (2 : Int32) h = _ from a2)]
          refine (if_neg (by decide)).trans ?_
          rw [bq a3]
          refine (if_neg (by decide)).trans ?_
          rw [kn5 S, kn0 S, bo (ck_q q46), bq e1]
          exact eo
        by_cases c5 : breachS V kd = -5
        · have S1 : X9S h1 := ⟨by rw [K1.1]; exact S.1, by rw [K1.2.1]; exact S.2⟩
          have rs1 : RS h1 := by unfold RS at *; rw [K1.1, K1.2.1]; exact rs
          obtain ⟨j, hj⟩ : ∃ j : Nat, (j : Int) = 3 * a + g := ⟨(3 * a + g).toNat, by omega⟩
          have hj12 : j < 12 := by omega
          have b9 := lk (j : Int) (by omega) (by omega)
          have e9 : h1.2.1 (p + 1) j = iz (va V 9 j) := R1.2.2.2.2.2.2.2.2.2.2.1 j hj12
          have id9 : eV V j (va V 9 j) = V := vset_id rfl
          have K0 : KE p j h1 h1 (va V 9 j) := by
            refine ⟨rfl, rfl, fun _ _ => rfl, fun _ _ _ _ _ _ _ _ => rfl, ?_⟩
            funext i
            rw [upd_at]
            split
            · rename_i z; rw [z]; exact e9
            · rfl
          obtain ⟨h2, x2, e2, K2, R2⟩ := l_ed_79 (N := N) hN r.cp w lk c3 hj12 S1 rs1 20 1 N h1 (va V 9 j) (by omega) (by omega) (by omega) K0 (by rw [id9]; exact R1)
          have b1 : h2.1[p + 1]? = some (100, 12) := R2.2.2.2.2.2.2.1.2
          have R3 := repC_like (x := va V 9 j) R2 r.cp hj12
          rw [eV_eV, id9] at R3
          have K3 : KC 1 h (wr h2 (p + 1) (upd (h2.2.1 (p + 1)) j (iz (va V 9 j)))) := by
            refine ⟨K2.1.trans K1.1, K2.2.1.trans K1.2.1, fun i hi => (K2.2.2.1 i hi).trans (K1.2.2.1 i hi), fun i z1 z2 z3 z4 z5 z6 => ?_⟩
            by_cases hi : i = p + 1
            · rw [hi, wr_eq, K2.2.2.2.2]
              have ap : ∀ k, k < 10 → ar 1 k ≠ 3 ∧ ar 1 k ≠ 40 := by decide
              have hp := r.cp.2
              rw [← hi]
              rw [← K1.2.2.2 i z1 z2 z3 z4 z5 z6]
              funext u
              rw [upd_at, upd_at]
              split
              · rename_i z; rw [z, hi]; exact e9.symm
              · rfl
            · rw [wr_ne hi, K2.2.2.2.1 i hi z1 z2 z3 z4 z5 z6, K1.2.2.2 i z1 z2 z3 z4 z5 z6]
          have md3 := r.kc K3 R3 w rfl
          have M3 := md3.2.2.1
          generalize hh3 : wr h2 (p + 1) (upd (h2.2.1 (p + 1)) j (iz (va V 9 j))) = h3 at K3 R3 md3 M3
          obtain ⟨h4, e4, R4, F4⟩ := m_isRest (N := N) M3 w hN c3 (by omega)
          rw [decide_eq_true c5] at e4
          obtain ⟨h5, x5, e5, R5, F5⟩ := m_ed_61 (N := N) hN w lk c3 c1 c2 hj 20 1 N h4 (va V 9 j) (by omega) (by omega) (by omega) (by rw [id9]; exact R4)
          have R6 := repM_like (j := j) (x := va V 9 j) R5
          rw [eV_eV, id9] at R6
          refine ⟨iz (edT V kd j 20 1), h3, _, V, p, pd, ?_, ?_, REL.fm md3 (((F4.mono SR_SX).tr F5).tr (FM.wr_ (a := 84) (by decide) (by decide))) R6⟩
          · refine prc _ ?_
            refine (if_pos (by rw [c5]; rfl)).trans ?_
            rw [kn0 S1, bo (gR_q R1.1.1 R1.2.2.2.2.1), kL0 R1, il3, iz_mul, iz_add, show a * 3 + g = (j : Int) by omega, kY0 R1 (by omega) (by omega)]
            refine Eq.trans e2 ?_
            unfold f_X9_edge_161
            rw [bo (st_wr b1 (by omega) (by omega) (by decide)), toN, hh3]
          · rw [mb h3 true true true M3 (decide_eq_true c1) (decide_eq_true c2) (decide_eq_true c3), if_neg (by decide), bq e4]
            refine (if_neg (by decide)).trans ?_
            have z84 : h4.2.1 84 j = iz (va V 9 j) := R4.2.2.2.1 j hj12
            rw [kr84 R4.1, il3, iz_mul, iz_add, ← hj, kl84 R4.1 (by omega) (by omega), toN, z84]
            refine Eq.trans e5 ?_
            unfold f_X10_edge_136
            rw [kr84 R5.1, il3, iz_mul, iz_add, ← hj, ks84 R5.1 (by omega) (by omega), toN]
        · obtain ⟨h2, e2, R2, F2⟩ := m_isRest (N := N) M1 w hN c3 (by omega)
          rw [decide_eq_false c5] at e2
          refine ⟨iz 0, h1, h2, V, p, pd, ?_, ?_, REL.fm md (F2.mono SR_SX) R2⟩
          · exact prc _ (if_neg (show ¬ (iz _ = (-5 : Int32)) from iz_ne (b := -5) (by omega) (by omega) (by decide) (by decide) c5))
          · rw [mb h1 true true true M1 (decide_eq_true c1) (decide_eq_true c2) (decide_eq_true c3), if_neg (by decide), bq e2]
            exact if_pos (by decide)
      · rw [decide_eq_false c3] at a3
        refine r.same_ (z := iz (-1)) ?_ ?_
        · unfold f_X9_edge
          rw [bq (show f_X9_within N (iz a) (0 : Int32) (3 : Int32) h = _ from a1)]
          refine (if_neg (by decide)).trans ?_
          rw [bq (show f_X9_within N (iz g) (0 : Int32) (2 : Int32) h = _ from a2)]
          refine (if_neg (by decide)).trans ?_
          rw [bq a3]
          exact if_pos (by decide)
        · rw [mb h true true false M (decide_eq_true c1) (decide_eq_true c2) (decide_eq_false c3)]
          exact if_pos (Or.inr (Or.inr rfl))
    · rw [decide_eq_false c2] at a2
      refine r.same_ (z := iz (-1)) ?_ ?_
      · unfold f_X9_edge
        rw [bq (show f_X9_within N (iz a) (0 : Int32) (3 : Int32) h = _ from a1)]
        refine (if_neg (by decide)).trans ?_
        rw [bq (show f_X9_within N (iz g) (0 : Int32) (2 : Int32) h = _ from a2)]
        exact if_pos (by decide)
      · rw [mb h true false _ M (decide_eq_true c1) (decide_eq_false c2) rfl]
        exact if_pos (Or.inr (Or.inl rfl))
  · rw [decide_eq_false c1] at a1
    refine r.same_ (z := iz (-1)) ?_ ?_
    · unfold f_X9_edge
      rw [bq (show f_X9_within N (iz a) (0 : Int32) (3 : Int32) h = _ from a1)]
      exact if_pos (by decide)
    · rw [mb h false _ _ M (decide_eq_false c1) rfl rfl]
      exact if_pos (Or.inl rfl)
end
