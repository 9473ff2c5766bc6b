section
variable {h : Mem} {V : Vw} {p pd b N : Nat}
def cutS (s : Int) (v : Int64) : Int64 := if s = 0 then Int32.toInt64 ((Int32.toInt8 (Int64.toInt32 v)).toInt32) else if s = 1 then Int32.toInt64 ((Int32.toInt16 (Int64.toInt32 v)).toInt32) else if s = 2 then Int32.toInt64 (Int64.toInt32 v) else if s = 4 then (if lg_cmp v (0 : Int64) = 0 then 0 else 1) else v
theorem l_cut {c : Nat} (hc : h.1[c]? = some (7, 0)) {s : Int} (hl : h.2.1 c 1 = iz s) (hs : 0 ≤ s ∧ s ≤ 4) {v : Int64} : f_X7_cut N c v h = some (cutS s v, h) := by
  unfold f_X7_cut
  rw [bo (gI_q hc), hl]
  rcases (show s = 0 ∨ s = 1 ∨ s = 2 ∨ s = 3 ∨ s = 4 by omega) with rfl | rfl | rfl | rfl | rfl
  · rfl
  · rfl
  · rfl
  · rfl
  · show (if lg_cmp v 0 = 0 then some ((0 : Int64), h) else some ((1 : Int64), h)) = some (if lg_cmp v 0 = 0 then 0 else 1, h)
    split <;> rfl
theorem m_narrow {s : Int} (hs : 0 ≤ s ∧ s ≤ 4) {v : Int64} : f_X10_narrow N 71 (iz s) v h = some (cutS s v, h) := by
  unfold f_X10_narrow
  rcases (show s = 0 ∨ s = 1 ∨ s = 2 ∨ s = 3 ∨ s = 4 by omega) with rfl | rfl | rfl | rfl | rfl
  · rfl
  · rfl
  · rfl
  · rfl
  · show (if lg_cmp v 0 = 0 then some ((0 : Int64), h) else some ((1 : Int64), h)) = some (if lg_cmp v 0 = 0 then 0 else 1, h)
    split <;> rfl
theorem cut_short {v : Int64} : ∃ z : Int, (-32768 ≤ z ∧ z ≤ 32767) ∧ cutS 1 v = lz z := by
  refine ⟨(Int32.toInt16 (Int64.toInt32 v)).toInt, ?_, ?_⟩
  · have h1 := Int16.le_toInt (Int32.toInt16 (Int64.toInt32 v))
    have h2 := Int16.toInt_lt (Int32.toInt16 (Int64.toInt32 v))
    omega
  · show Int32.toInt64 ((Int32.toInt16 (Int64.toInt32 v)).toInt32) = _
    rw [← Int64.toInt_inj, Int32.toInt_toInt64, Int16.toInt_toInt32]
    have h1 := Int16.le_toInt (Int32.toInt16 (Int64.toInt32 v))
    have h2 := Int16.toInt_lt (Int32.toInt16 (Int64.toInt32 v))
    rw [lz_toInt (by omega) (by omega)]
theorem t_item (hN : 300 ≤ N) (r : REL h V p pd b) (v1 v2 : Int32) (v3 : Int64) : CAL (f_X9_item N 0 v1 v2 v3 h) (f_X10_item N 71 v1 v2 v3) b := by
  obtain ⟨t, rfl, t1, t2⟩ := int_iz v1
  obtain ⟨i, rfl, i1, i2⟩ := int_iz v2
  have M := r.2.2.1
  have S := r.2.2.2.2.2.2.2.1
  have tp := r.2.2.2.2.2.2.2.2.2.2.2.2.2.2.2
  have a1 := l_isTape (N := N) (h := h) t1 t2
  have b1 := m_isTape (N := N) M.1 t1 t2
  by_cases ht : 0 ≤ t ∧ t ≤ 5
  · rw [decide_eq_true ht] at a1 b1
    obtain ⟨k, rfl⟩ := Int.eq_ofNat_of_zero_le ht.1
    have hk : k < 6 := by omega
    obtain ⟨p1, p2, p3, p4, s, n, p5, p6, p7, ⟨p8, p9, p10, p11⟩, p12, p13⟩ := tp.2 k hk
    have a2 := l_isNothing (N := N) p2 p8 p5
    by_cases hs : s = -1
    · rw [decide_eq_true hs] at a2
      refine r.same_ (z := (-11 : Int32)) ?_ ?_
      · unfold f_X9_item
        rw [bq a1]
        refine (if_neg (by decide)).trans ?_
        rw [kn10 S, kt58 tp hk, bo (ck_q p2), bq a2]
        exact if_neg (by decide)
      · unfold f_X10_item
        rw [kmC M.1, bq b1]
        refine (if_neg (by decide)).trans ?_
        rw [kr107 M.1, kl107 M.1 (by omega) (by omega), toN, p10, hs]
        exact if_neg (by decide)
    · rw [decide_eq_false hs] at a2
      have hs0 : iz 0 ≤ iz s := by rw [iz_le (by omega) (by omega) (by omega) (by omega)]; omega
      have a3 := l_spans (N := N) (i := i) (n := 1) p2 p9 p6 i1 i2 (by omega) (by omega)
      have b3 := m_inB (N := N) (h := h) (a := i) (b := 0) (c := n - 1) (by omega) (by omega) i1 i2
      by_cases hi : 0 ≤ i ∧ 0 ≤ (1 : Int) ∧ 1 ≤ n ∧ i ≤ n - 1
      · rw [decide_eq_true hi] at a3
        rw [decide_eq_true (show 0 ≤ i ∧ i ≤ n - 1 by omega)] at b3
        have ac := l_cut (N := N) p2 p8 (by omega) (v := v3)
        have T1 : EQT h (wJ h (60 + 2 * k) (fun j => if j = i.toNat then cutS s v3 else h.2.2.1 (60 + 2 * k) j)) := ⟨rfl, rfl, fun _ _ => rfl, fun j hj => wJ_ne (by omega)⟩
        have M1 := r.kmid T1
        have T2 : EQT (wJ h (60 + 2 * k) (fun j => if j = i.toNat then cutS s v3 else h.2.2.1 (60 + 2 * k) j)) (wJ (wJ h (60 + 2 * k) (fun j => if j = i.toNat then cutS s v3 else h.2.2.1 (60 + 2 * k) j)) 109 (fun j => if j = 60 * k + i.toNat then cutS s v3 else h.2.2.1 109 j)) := ⟨rfl, rfl, fun _ _ => rfl, fun j hj => wJ_ne (by omega)⟩
        have b1' := m_isTape (N := N) M1.1 t1 t2
        rw [decide_eq_true ht] at b1'
        have b3' := m_inB (N := N) (h := wJ h (60 + 2 * k) (fun j => if j = i.toNat then cutS s v3 else h.2.2.1 (60 + 2 * k) j)) (a := i) (b := 0) (c := n - 1) (by omega) (by omega) i1 i2
        rw [decide_eq_true (show 0 ≤ i ∧ i ≤ n - 1 by omega)] at b3'
        have bc := m_narrow (N := N) (h := wJ h (60 + 2 * k) (fun j => if j = i.toNat then cutS s v3 else h.2.2.1 (60 + 2 * k) j)) (s := s) (by omega) (v := v3)
        refine ⟨iz 1, wJ h (60 + 2 * k) (fun j => if j = i.toNat then cutS s v3 else h.2.2.1 (60 + 2 * k) j), wJ (wJ h (60 + 2 * k) (fun j => if j = i.toNat then cutS s v3 else h.2.2.1 (60 + 2 * k) j)) 109 (fun j => if j = 60 * k + i.toNat then cutS s v3 else h.2.2.1 109 j), V, p, pd, ?_, ?_, r.eqt (T1.tr T2) ⟨tp.1, fun k' hk' => ?_⟩⟩
        · unfold f_X9_item
          rw [bq a1]
          refine (if_neg (by decide)).trans ?_
          rw [kn10 S, kt58 tp hk, bo (ck_q p2), bq a2]
          refine (if_pos (by decide)).trans ?_
          rw [bo (ck_q p2), bq (show f_X7_spans N (59 + 2 * k) (iz i) (1 : Int32) h = _ from a3)]
          refine (if_neg (by decide)).trans ?_
          rw [bo (gR_q p2 p3), bo (ck_q p2), bq ac, bo (st_wJ p4 (by omega) (by omega) (by decide))]
          rfl
        · unfold f_X10_item
          rw [kmC M1.1, bq b1']
          refine (if_neg (by decide)).trans ?_
          rw [kr107 M1.1, kl107 M1.1 (by omega) (by omega), toN, show (wJ h (60 + 2 * k) (fun j => if j = i.toNat then cutS s v3 else h.2.2.1 (60 + 2 * k) j)).2.1 107 k = iz s from p10]
          refine (if_pos hs0).trans ?_
          rw [kr108 M1.1, kl108 M1.1 (by omega) (by omega), toN, show (wJ h (60 + 2 * k) (fun j => if j = i.toNat then cutS s v3 else h.2.2.1 (60 + 2 * k) j)).2.1 108 k = iz n from p11, kmC M1.1, il1, iz_sub, bq (show f_X10_in N 71 (iz i) (0 : Int32) (iz (n - 1)) _ = _ from b3')]
          refine (if_neg (by decide)).trans ?_
          rw [kr109 M1.1, kr107 M1.1, kl107 M1.1 (by omega) (by omega), toN, show (wJ h (60 + 2 * k) (fun j => if j = i.toNat then cutS s v3 else h.2.2.1 (60 + 2 * k) j)).2.1 107 k = iz s from p10, kmC M1.1, bq bc, il60, iz_mul, iz_add, ks109 M1.1 (by omega) (by omega), show ((60 : Int) * (k : Int) + i).toNat = 60 * k + i.toNat by omega, wJ_ne (show 109 ≠ 60 + 2 * k by omega)]
        · obtain ⟨w1, w2, w3, w4, s', n', w5, w6, w7, w8, w12, w13⟩ := tp.2 k' hk'
          have z60 : (wJ (wJ h (60 + 2 * k) (fun j => if j = i.toNat then cutS s v3 else h.2.2.1 (60 + 2 * k) j)) 109 (fun j => if j = 60 * k + i.toNat then cutS s v3 else h.2.2.1 109 j)).2.2.1 (60 + 2 * k') = (if k' = k then (fun j => if j = i.toNat then cutS s v3 else h.2.2.1 (60 + 2 * k) j) else h.2.2.1 (60 + 2 * k')) := by
            rw [wJ_ne (by omega)]
            by_cases e : k' = k
            · rw [if_pos e, e, wJ_eq]
            · rw [if_neg e, wJ_ne (by omega)]
          refine ⟨w1, w2, w3, w4, s', n', w5, w6, w7, w8, fun j hj => ?_, fun q j hj => ?_⟩
          · rw [z60, wJ_eq]
            by_cases e : k' = k
            · subst e
              rw [if_pos rfl]
              by_cases e2 : j = i.toNat
              · rw [if_pos e2, if_pos (by omega)]
              · rw [if_neg e2, if_neg (by omega)]; exact w12 j hj
            · rw [if_neg e, if_neg (by omega)]; exact w12 j hj
          · rw [z60]
            by_cases e : k' = k
            · subst e
              rw [if_pos rfl]
              have es : s' = s := by
                have e1 := w8.1
                rw [p8] at e1
                have := congrArg Int32.toInt e1
                rw [iz_toInt (by omega) (by omega), iz_toInt (by omega) (by omega)] at this
                exact this.symm
              by_cases e2 : j = i.toNat
              · rw [if_pos e2, ← es, q]; exact cut_short
              · rw [if_neg e2]; exact w13 q j hj
            · rw [if_neg e]; exact w13 q j hj
      · rw [decide_eq_false hi] at a3
        rw [decide_eq_false (show ¬ (0 ≤ i ∧ i ≤ n - 1) by omega)] at b3
        refine r.same_ (z := (-13 : Int32)) ?_ ?_
        · unfold f_X9_item
          rw [bq a1]
          refine (if_neg (by decide)).trans ?_
          rw [kn10 S, kt58 tp hk, bo (ck_q p2), bq a2]
          refine (if_pos (by decide)).trans ?_
          rw [bo (ck_q p2), bq (show f_X7_spans N (59 + 2 * k) (iz i) (1 : Int32) h = _ from a3)]
          exact if_pos (by decide)
        · unfold f_X10_item
          rw [kmC M.1, bq b1]
          refine (if_neg (by decide)).trans ?_
          rw [kr107 M.1, kl107 M.1 (by omega) (by omega), toN, p10]
          refine (if_pos hs0).trans ?_
          rw [kr108 M.1, kl108 M.1 (by omega) (by omega), toN, p11, kmC M.1, il1, iz_sub, bq (show f_X10_in N 71 (iz i) (0 : Int32) (iz (n - 1)) _ = _ from b3)]
          exact if_pos (by decide)
  · rw [decide_eq_false ht] at a1 b1
    refine r.same_ (z := (-1 : Int32)) ?_ ?_
    · unfold f_X9_item; rw [bq a1]; exact if_pos (by decide)
    · unfold f_X10_item; rw [kmC M.1, bq b1]; exact if_pos (by decide)
end
