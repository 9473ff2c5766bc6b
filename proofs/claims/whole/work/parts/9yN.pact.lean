def ACF (h h' : Mem) : Prop := h'.1 = h.1 ∧ h'.2.2 = h.2.2 ∧ (∀ i, i ≠ 55 → i ≠ 56 → i ≠ 71 → i ≠ 106 → h'.2.1 i = h.2.1 i) ∧ (∀ j, j ≠ 55 → h'.2.1 71 j = h.2.1 71 j)
def ACR (h : Mem) : Prop := ∃ ran : Nat, h.2.1 55 1 = iz (ran : Int) ∧ h.2.1 71 55 = iz (ran : Int) ∧ ran ≤ 100 ∧ ∀ j : Nat, j < 20 → j < ran → h.2.1 56 j = h.2.1 106 j
theorem REL.act {h h' : Mem} {V : Vw} {p pd b : Nat} (r : REL h V p pd b) (e : ACF h h') (ar' : ACR h') : REL h' V p pd b := by
  have cp := r.cp
  have hp := cp.2
  obtain ⟨r1, r2, r3, r4, r5, r6, r7, ⟨x1, x2⟩, ⟨c1', c2'⟩, ⟨s1, k1, d1⟩, ⟨a1, a2, a3, _⟩, ⟨x, L, t0, t1, t2⟩, ⟨y, y1, y2, y3⟩, ⟨la, la1, la2, la3⟩, ⟨nl, n1, n2, n3, n4, n5, n6⟩, p1, p2⟩ := r
  obtain ⟨e1, e2, g, g71⟩ := e
  have rf : h'.2.2.2 = h.2.2.2 := by rw [e2]
  have rj : h'.2.2.1 = h.2.2.1 := by rw [e2]
  have ct : ∀ c, CT h c → CT h' c := fun c t => by unfold CT at *; rw [e1, rf]; exact t
  have a16 : ∀ k, k < 9 → ar 1 k ≤ 16 := by decide
  refine ⟨r1, rep_frame r2 e1 (g 1 (by omega) (by omega) (by omega) (by omega)) (fun j hj => g _ (by have := a16 j hj; omega) (by have := a16 j hj; omega) (by have := a16 j hj; omega) (by have := a16 j hj; omega)) (fun i hi => g _ (by omega) (by omega) (by omega) (by omega)) (by rw [rf]) (by rw [rf]), ?_, r4, r5, by rw [rf]; exact r6, by unfold Lsh at *; rw [e1, rf]; exact r7, ⟨by rw [e1]; exact x1, by rw [rf]; exact x2⟩, ⟨ct _ c1', ct _ c2'⟩, ⟨by unfold RS at *; rw [e1, rf]; exact s1, by unfold WK at *; rw [e1, rf]; exact k1, by unfold DS at *; rw [e1, rf]; exact d1⟩, ⟨by rw [e1]; exact a1, by rw [rf]; exact a2, by rw [e1]; exact a3, ar'⟩, ⟨x, L, by unfold RD0 at *; rw [e1, rf, g 44 (by omega) (by omega) (by omega) (by omega), g 45 (by omega) (by omega) (by omega) (by omega)]; exact t0, by rw [g71 13 (by decide)]; exact t1, fun j hj => by rw [g 81 (by omega) (by omega) (by omega) (by omega)]; exact t2 j hj⟩, ⟨y, y1, by rw [g 0 (by omega) (by omega) (by omega) (by omega)]; exact y2, by rw [g71 2 (by decide)]; exact y3⟩, ⟨la, la1, by rw [g 0 (by omega) (by omega) (by omega) (by omega)]; exact la2, by rw [g71 12 (by decide)]; exact la3⟩, ⟨nl, n1, by rw [g 0 (by omega) (by omega) (by omega) (by omega)]; exact n2, by rw [g71 50 (by decide)]; exact n3, by rw [e1]; exact n4, by rw [e1]; exact n5, fun k hk => ?_⟩, by rw [e1]; exact p1, fun k hk => ?_⟩
  · refine r3.congr e1 rf (fun i hi => ?_) (fun j hj => ?_)
    · have : ∀ i, i ∈ dpM → i ≠ 55 ∧ i ≠ 56 ∧ i ≠ 71 ∧ i ≠ 106 := by decide
      have q := this i hi
      exact g i q.1 q.2.1 q.2.2.1 q.2.2.2
    · have : ∀ j, j ∈ dpF → j ≠ 55 := by decide
      exact g71 j (this j hj)
  · obtain ⟨w, t', n, pr, q1, q2, q3, q4, q5, q6, q7, q8⟩ := n6 k hk
    refine ⟨w, t', n, pr, q1, q2, q3, q4, by rw [rf]; exact q5, by rw [e1]; exact q6, by rw [g (111 + k) (by omega) (by omega) (by omega) (by omega)]; exact q7, ?_⟩
    rw [g 102 (by omega) (by omega) (by omega) (by omega), g 103 (by omega) (by omega) (by omega) (by omega), g 104 (by omega) (by omega) (by omega) (by omega), g 105 (by omega) (by omega) (by omega) (by omega)]; exact q8
  · obtain ⟨w1, w2, w3, w4, s, n, w5, w6, w7, w8, w12, w13⟩ := p2 k hk
    refine ⟨by rw [rf]; exact w1, by rw [e1]; exact w2, by rw [rf]; exact w3, by rw [e1]; exact w4, s, n, w5, w6, w7, ?_, fun j hj => by rw [rj]; exact w12 j hj, fun q j hj => by rw [rj]; exact w13 q j hj⟩
    rw [g (59 + 2 * k) (by omega) (by omega) (by omega) (by omega), g 107 (by omega) (by omega) (by omega) (by omega), g 108 (by omega) (by omega) (by omega) (by omega)]; exact w8
section
variable {h : Mem} {V : Vw} {p pd b N : Nat}
def acS (kd a : Nat) (F T x : Int32) : Int32 × List Int := if a = 0 then hoS kd F x else if a = 1 then brS kd F T x else teS kd F T x
theorem acS_l {kd a : Nat} {F T x : Int32} : (acS kd a F T x).2.length ≤ 17 := by
  unfold acS
  have h1 := ho_l (kd := kd) (F := F) (x := x)
  have h2 := br_l (kd := kd) (F := F) (T := T) (x := x)
  have h3 := te_l (kd := kd) (F := F) (T := T) (x := x)
  split
  · omega
  · split <;> omega
theorem p_act (hN : 300 ≤ N) (r : REL h V p pd b) (v1 v2 x : Int32) : CAL (f_X9_act N 0 v1 v2 x h) (f_X10_act N 71 v1 v2 x) b := by
  obtain ⟨kd, rfl, k1, k2⟩ := int_iz v1
  obtain ⟨a, rfl, a1, a2⟩ := int_iz v2
  have R := r.2.1
  have M := r.2.2.1
  have w := r.2.2.2.1
  have S := r.2.2.2.2.2.2.2.1
  obtain ⟨sa, sb', sc, _⟩ : ACT h := r.2.2.2.2.2.2.2.2.2.2.1
  have S0 : ASh h := ⟨sa, sb', sc⟩
  obtain ⟨h1, hh1⟩ : ∃ h1, h1 = ac (ac (ac h 1 0) 3 (iz (vF V : Int))) 4 (iz (vT V : Int)) := ⟨_, rfl⟩
  have S1 : ASh h1 := by rw [hh1]; exact S0
  have n1 : ∀ i, i ≠ 55 → h1.2.1 i = h.2.1 i := fun i hi => by rw [hh1, ac_ne hi, ac_ne hi, ac_ne hi]
  have q1 : h1.1 = h.1 := by rw [hh1]; rfl
  have q2 : h1.2.2 = h.2.2 := by rw [hh1]; rfl
  have X1 : X9S h1 := by unfold X9S at *; rw [q1, q2]; exact S
  have v1' : h1.2.1 55 1 = iz 0 := by rw [hh1, ac_at, if_neg (by decide), ac_at, if_neg (by decide), ac_at, if_pos rfl]; rfl
  have v3' : h1.2.1 55 3 = iz (vF V : Int) := by rw [hh1, ac_at, if_neg (by decide), ac_at, if_pos rfl]
  have v4' : h1.2.1 55 4 = iz (vT V : Int) := by rw [hh1, ac_at, if_pos rfl]
  have ef : f_X0_forget N 55 (iz (vF V : Int)) (iz (vT V : Int)) h = some h1 := by
    unfold f_X0_forget
    rw [ksa S0, ksa (show ASh (ac h 1 0) from S0), ksa (show ASh (ac (ac h 1 0) 3 (iz (vF V : Int))) from S0), hh1]
  have c1' := l_within (N := N) (h := h1) (a := kd) (b := 0) (c := 5) (by omega) (by omega) k1 k2
  have c2' := l_within (N := N) (h := h1) (a := a) (b := 0) (c := 2) (by omega) (by omega) a1 a2
  have prc : ∀ o, (b2 (f_X9_within N (iz kd) (0 : Int32) (5 : Int32) h1) fun t16 h15 => if t16 = 0 then some ((0 : Int32), h15) else b2 (f_X9_within N (iz a) (0 : Int32) (2 : Int32) h15) fun t20 h19 => if t20 = 0 then some ((0 : Int32), h19) else (gR h19 0 9 8).bind fun t22 => (ck h19 t22 0).bind fun _ => b2 (f_X0_done N t22 (iz kd) (iz a) x h19) fun t27 h26 => some (t27, h26)) = o → f_X9_act N 0 (iz kd) (iz a) x h = o := by
    intro o eo
    unfold f_X9_act
    rw [kn8 S, kn0 S, kF R, kn0 S, kT R, kaC S0, bo ef]
    exact eo
  -- the model's beginning at any memory of the class's end
  have em : ∀ h2 : Mem, MSh h2 → f_X10_act N 71 (iz kd) (iz a) x h2 = (if decide (0 ≤ kd ∧ kd ≤ 5) = false then some ((0 : Int32), fd h2 55 (iz 0)) else if decide (0 ≤ a ∧ a ≤ 2) = false then some ((0 : Int32), fd h2 55 (iz 0)) else if iz a = 0 then b2 (f_X10_holds N 71 (iz kd) x (fd h2 55 (iz 0))) fun t26 h25 => some (t26, h25) else if iz a = (1 : Int32) then b2 (f_X10_breaks N 71 (iz kd) x (fd h2 55 (iz 0))) fun t22 h21 => some (t22, h21) else b2 (f_X10_tells N 71 (iz kd) x (fd h2 55 (iz 0))) fun t18 h17 => some (t18, h17)) := by
    intro h2 M2
    have M3 : MSh (fd h2 55 (iz 0)) := M2.fd_
    have b1 := m_inB (N := N) (h := fd h2 55 (iz 0)) (a := kd) (b := 0) (c := 5) (by omega) (by omega) k1 k2
    have b2' := m_inB (N := N) (h := fd h2 55 (iz 0)) (a := a) (b := 0) (c := 2) (by omega) (by omega) a1 a2
    unfold f_X10_act
    rw [show (0 : Int32) = iz 0 from rfl] at *
    rw [ksI M2, kmC M3, bq (show f_X10_in N 71 (iz kd) (iz 0) (5 : Int32) (fd h2 55 (iz 0)) = _ from b1)]
    cases decide (0 ≤ kd ∧ kd ≤ 5) with
    | false => exact if_pos (by decide)
    | true =>
      refine (if_neg (by decide)).trans ?_
      rw [kmC M3, bq (show f_X10_in N 71 (iz a) (iz 0) (2 : Int32) (fd h2 55 (iz 0)) = _ from b2')]
      cases decide (0 ≤ a ∧ a ≤ 2) with
      | false => exact if_pos (by decide)
      | true =>
        refine (if_neg (by decide)).trans ?_
        rw [kmC M3, kmC M3, kmC M3]
        rfl
  have mid : ∀ h2 : Mem, h2.1 = h.1 → h2.2.2 = h.2.2 → (∀ i, i ≠ 55 → i ≠ 56 → h2.2.1 i = h.2.1 i) → RepM h2 V := fun h2 z1 z2 z3 => M.lo z1 (by rw [z2]) (fun i hi => z3 i (by omega) (by omega))
  have bad : f_X9_act N 0 (iz kd) (iz a) x h = some ((0 : Int32), h1) → (decide (0 ≤ kd ∧ kd ≤ 5) = false ∨ decide (0 ≤ a ∧ a ≤ 2) = false) → CAL (f_X9_act N 0 (iz kd) (iz a) x h) (f_X10_act N 71 (iz kd) (iz a) x) b := by
    intro e1 hbad
    have M1 := mid h1 q1 q2 (fun i z _ => n1 i z)
    refine ⟨0, h1, fd h1 55 (iz 0), V, p, pd, e1, ?_, r.act ⟨q1, q2, fun i i1 i2 i3 i4 => by rw [fd_ne i3, n1 i i1], fun j hj => by rw [fd_at, if_neg hj, n1 71 (by decide)]⟩ ⟨0, by rw [fd_ne (by decide)]; exact v1', by rw [fd_at, if_pos rfl]; rfl, by omega, fun j _ hj => by omega⟩⟩
    rw [em h1 M1.1]
    rcases hbad with z | z
    · rw [if_pos z]
    · by_cases y : decide (0 ≤ kd ∧ kd ≤ 5) = false
      · rw [if_pos y]
      · rw [if_neg y, if_pos z]
  by_cases hk : 0 ≤ kd ∧ kd ≤ 5
  · rw [decide_eq_true hk] at c1'
    by_cases ha : 0 ≤ a ∧ a ≤ 2
    · rw [decide_eq_true ha] at c2'
      obtain ⟨kn, rfl⟩ := Int.eq_ofNat_of_zero_le hk.1
      obtain ⟨an, rfl⟩ := Int.eq_ofNat_of_zero_le ha.1
      have hkn : kn ≤ 5 := by omega
      have S2 : ASh (ac h1 2 (iz (kn : Int))) := S1
      have A0 : AB (ac h1 2 (iz (kn : Int))) (ac h1 2 (iz (kn : Int))) kn (iz (vF V : Int)) (iz (vT V : Int)) [] := ⟨rfl, rfl, fun _ _ _ => rfl, by rw [ac_at, if_neg (by decide)]; exact v1', ⟨by rw [ac_at, if_pos rfl], by rw [ac_at, if_neg (by decide)]; exact v3', by rw [ac_at, if_neg (by decide)]; exact v4'⟩, fun j _ hj => by cases hj⟩
      have cl : ∃ h2, F_X0_own N 55 (iz (an : Int)) x (0 : Int32) (ac h1 2 (iz (kn : Int))) = some ((acS kn an (iz (vF V : Int)) (iz (vT V : Int)) x).1, h2) ∧ AB (ac h1 2 (iz (kn : Int))) h2 kn (iz (vF V : Int)) (iz (vT V : Int)) (acS kn an (iz (vF V : Int)) (iz (vT V : Int)) x).2 := by
        unfold F_X0_own acS
        rw [own_e S2 A0]
        rcases (show an = 0 ∨ an = 1 ∨ an = 2 by omega) with rfl | rfl | rfl
        · exact c_ho S2 hN hkn 18 0 _ [] A0 (by decide) (by decide)
        · exact c_br S2 hN hkn 15 0 _ [] A0 (by decide) (by decide)
        · exact c_te S2 hN hkn 12 0 _ [] A0 (by decide) (by decide)
      obtain ⟨h2, e2, A2⟩ := cl
      have z2 : ∀ i, i ≠ 55 → i ≠ 56 → h2.2.1 i = h.2.1 i := fun i i1 i2 => by rw [A2.2.2.1 i i1 i2, ac_ne i1, n1 i i1]
      have y1 : h2.1 = h.1 := A2.1.trans q1
      have y2 : h2.2.2 = h.2.2 := A2.2.1.trans q2
      have M2 := mid h2 y1 y2 z2
      have M3 : MSh (fd h2 55 (iz 0)) := M2.1.fd_
      have B0 : MB (fd h2 55 (iz 0)) (fd h2 55 (iz 0)) [] := ⟨HI.rf, fun _ _ _ => rfl, fun _ _ => rfl, by rw [fd_at, if_pos rfl]; rfl, fun j _ hj => by cases hj⟩
      have eF : (fd h2 55 (iz 0)).2.1 71 1 = iz (vF V : Int) := by rw [fd_at, if_neg (by decide)]; exact M2.2.1.2
      have eT : (fd h2 55 (iz 0)).2.1 71 0 = iz (vT V : Int) := by rw [fd_at, if_neg (by decide)]; exact M2.2.1.1
      have mo : ∃ h3, f_X10_act N 71 (iz (kn : Int)) (iz (an : Int)) x h2 = some ((acS kn an (iz (vF V : Int)) (iz (vT V : Int)) x).1, h3) ∧ MB (fd h2 55 (iz 0)) h3 (acS kn an (iz (vF V : Int)) (iz (vT V : Int)) x).2 := by
        rw [em h2 M2.1, if_neg (by rw [decide_eq_true hk]; decide), if_neg (by rw [decide_eq_true ha]; decide)]
        unfold acS
        rcases (show an = 0 ∨ an = 1 ∨ an = 2 by omega) with rfl | rfl | rfl
        · obtain ⟨h3, e3, B3⟩ := m_ho (N := N) (x := x) M3 eF hkn _ [] B0 (by decide)
          exact ⟨h3, (if_pos (by decide)).trans (by rw [bq e3]; rfl), B3⟩
        · obtain ⟨h3, e3, B3⟩ := m_br (N := N) (x := x) M3 eF eT hkn _ [] B0 (by decide)
          exact ⟨h3, (if_neg (by decide)).trans ((if_pos (by decide)).trans (by rw [bq e3]; rfl)), B3⟩
        · obtain ⟨h3, e3, B3⟩ := m_te (N := N) (x := x) M3 eF eT hkn _ [] B0 (by decide)
          exact ⟨h3, (if_neg (by decide)).trans ((if_neg (by decide)).trans (by rw [bq e3]; rfl)), B3⟩
      obtain ⟨h3, e3, B3⟩ := mo
      have len := acS_l (kd := kn) (a := an) (F := iz (vF V : Int)) (T := iz (vT V : Int)) (x := x)
      have lo3 : ∀ i, i ≤ 70 → h3.2.1 i = h2.2.1 i := fun i hi => by rw [B3.1.2.2 i hi, fd_ne (by omega)]
      refine ⟨(acS kn an (iz (vF V : Int)) (iz (vT V : Int)) x).1, h2, h3, V, p, pd, ?_, e3, r.act ⟨B3.1.1.trans y1, B3.1.2.1.trans y2, fun i i1 i2 i3 i4 => ?_, fun j hj => ?_⟩ ⟨(acS kn an (iz (vF V : Int)) (iz (vT V : Int)) x).2.length, ?_, B3.2.2.2.1, by omega, fun j hj hj' => ?_⟩⟩
      · refine prc _ ?_
        rw [bq (show f_X9_within N (iz (kn : Int)) (0 : Int32) (5 : Int32) h1 = _ from c1')]
        refine (if_neg (by decide)).trans ?_
        rw [bq (show f_X9_within N (iz (an : Int)) (0 : Int32) (2 : Int32) h1 = _ from c2')]
        refine (if_neg (by decide)).trans ?_
        rw [kn8 X1, kaC S1]
        unfold f_X0_done
        rw [ksa S1, kaC S2, bq e2]
        rfl
      · by_cases hi : i ≤ 70
        · rw [lo3 i hi, z2 i i1 i2]
        · rw [B3.2.1 i (by omega) i4, fd_ne i3, z2 i i1 i2]
      · rw [B3.2.2.1 j hj, fd_at, if_neg hj, z2 71 (by decide) (by decide)]
      · rw [lo3 55 (by decide)]; exact A2.2.2.2.1
      · rw [lo3 56 (by decide), A2.2.2.2.2.2 j hj hj', B3.2.2.2.2 j hj hj']
    · rw [decide_eq_false ha] at c2'
      refine bad (prc _ ?_) (Or.inr (decide_eq_false ha))
      rw [bq (show f_X9_within N (iz kd) (0 : Int32) (5 : Int32) h1 = _ from c1')]
      refine (if_neg (by decide)).trans ?_
      rw [bq (show f_X9_within N (iz a) (0 : Int32) (2 : Int32) h1 = _ from c2')]
      exact if_pos (by decide)
  · rw [decide_eq_false hk] at c1'
    refine bad (prc _ ?_) (Or.inl (decide_eq_false hk))
    rw [bq (show f_X9_within N (iz kd) (0 : Int32) (5 : Int32) h1 = _ from c1')]
    exact if_pos (by decide)
end
