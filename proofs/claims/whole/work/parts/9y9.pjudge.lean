section
variable {h : Mem} {V : Vw} {p pd b N : Nat}
theorem m_judge (w : WF V) (hN : 300 ≤ N) {k i0 : Nat} {kd n : Int} (hk : k < 6) (hkd : 1 ≤ kd ∧ kd ≤ 5) (hi0 : i0 + vF V ≤ 60) {g : Nat → Int} (hg : ∀ j, -32768 ≤ g j ∧ g j ≤ 32767) (R : RepM h V) (a7 : h.2.1 107 k = iz 1) (a8 : h.2.1 108 k = iz n) (hn : (i0 : Int) + vF V ≤ n ∧ n ≤ 60) (t4 : ∀ j : Nat, j < vF V → h.2.2.1 109 (60 * k + (i0 + j)) = lz (g j)) : ∃ h', f_X10_judge N 71 (iz (k : Int)) (iz (i0 : Int)) (iz kd) h = some (iz (jdg V g kd), h') ∧ RepM h' V ∧ FM SX h h' := by
  have hF := w.F
  have c1 := m_isTape (N := N) R.1 (k := (k : Int)) (by omega) (by omega)
  have c2 := m_inB (N := N) (h := h) (a := kd) (b := 1) (c := 5) (by omega) (by omega) (by omega) (by omega)
  rw [decide_eq_true (show (0 : Int) ≤ k ∧ (k : Int) ≤ 5 by omega)] at c1
  rw [decide_eq_true hkd] at c2
  have e70 := m_judge_70 (N := N) w hN (kd := kd) hk hi0 hg R t4 (vF V) 0 N (by omega) (by omega)
  have pre : f_X10_judge N 71 (iz (k : Int)) (iz (i0 : Int)) (iz kd) h = f_X10_judge_70 N N 71 (iz (k : Int)) (iz (i0 : Int)) (iz kd) (0 : Int32) h := by
    unfold f_X10_judge
    rw [kmC R.1, bq c1]
    refine (if_neg (by decide)).trans ?_
    rw [kmC R.1, bq (show f_X10_in N 71 (iz kd) (1 : Int32) (5 : Int32) h = _ from c2)]
    refine (if_neg (by decide)).trans ?_
    rw [kr107 R.1, kl107 R.1 (by omega) (by omega), toN, a7]
    refine (if_pos (show (0 : Int32) ≤ iz 1 by decide)).trans ?_
    rw [kr107 R.1, kl107 R.1 (by omega) (by omega), toN, a7]
    refine (if_pos (show iz 1 = (1 : Int32) from rfl)).trans ?_
    refine (if_neg (by rw [il0, iz_lt (by omega) (by omega) (by omega) (by omega)]; omega)).trans ?_
    rw [kr108 R.1, kl108 R.1 (by omega) (by omega), toN, a8, kmF R, iz_sub]
    exact if_pos (by rw [iz_le (by omega) (by omega) (by omega) (by omega)]; omega)
  rw [pre]
  have e70' : f_X10_judge_70 N N 71 (iz (k : Int)) (iz (i0 : Int)) (iz kd) (0 : Int32) h = _ := e70
  rw [e70']
  unfold jdg
  cases ok : okT V g 0 (vF V) with
  | false => exact ⟨h, if_neg (by decide), R, FM.rf⟩
  | true =>
    rw [if_pos (show true = true from rfl), if_pos (show true = true from rfl)]
    obtain ⟨h1, e1, R1, kp, F1⟩ := m_keep (N := N) R w (by omega)
    obtain ⟨h2, e2, R2, F2⟩ := m_judge_117 (N := N) w hN hk hkd hi0 hg (vF V) 0 N h1 (by omega) (by omega) R1 w kp ok (fun j hj => by rw [F1.2.2.1 109 (by decide)]; exact t4 j hj)
    refine ⟨h2, ?_, R2, (F1.mono SK_SX).tr F2⟩
    rw [bo e1]
    exact e2
theorem p_judge (hN : 300 ≤ N) (r : REL h V p pd b) (v1 v2 v3 : Int32) : CAL (f_X9_judge N 0 v1 v2 v3 h) (f_X10_judge N 71 v1 v2 v3) b := by
  obtain ⟨t, rfl, t1, t2⟩ := int_iz v1
  obtain ⟨i, rfl, i1, i2⟩ := int_iz v2
  obtain ⟨kd, rfl, d1, d2⟩ := int_iz v3
  have R := r.2.1
  have M := r.2.2.1
  have w := r.2.2.2.1
  have S := r.2.2.2.2.2.2.2.1
  have tp := r.2.2.2.2.2.2.2.2.2.2.2.2.2.2.2
  have hT := w.T
  have hF := w.F
  have a1 := l_isTape (N := N) (h := h) t1 t2
  have b1 := m_isTape (N := N) M.1 t1 t2
  have a2 := l_isRest (N := N) (h := h) d1 d2
  have b2' := m_inB (N := N) (h := h) (a := kd) (b := 1) (c := 5) (by omega) (by omega) d1 d2
  by_cases ht : 0 ≤ t ∧ t ≤ 5
  · rw [decide_eq_true ht] at a1 b1
    by_cases hkd : 1 ≤ kd ∧ kd ≤ 5
    · rw [decide_eq_true hkd] at a2 b2'
      obtain ⟨k, rfl⟩ := Int.eq_ofNat_of_zero_le ht.1
      have hk : k < 6 := by omega
      obtain ⟨p1, p2, p3, p4, s, n, p5, p6, p7, ⟨p8, p9, p10, p11⟩, p12, p13⟩ := tp.2 k hk
      have a3 := l_isNothing (N := N) p2 p8 p5
      have prc : f_X9_judge N 0 (iz (k : Int)) (iz i) (iz kd) h = (b2 (f_X7_isNothing N (59 + 2 * k) h) fun t16 h15 => if t16 = 0 then (gI h15 (59 + 2 * k) 7 1).bind fun t18 => if t18 = (1 : Int32) then (gR h15 0 9 0).bind fun t21 => (gI h15 t21 1 2).bind fun t23 => (ck h15 (59 + 2 * k) 7).bind fun _ => b2 (f_X7_spans N (59 + 2 * k) (iz i) t23 h15) fun t28 h27 => if t28 = 0 then some ((-13 : Int32), h27) else (gR h27 0 9 1).bind fun t30 => (gR h27 0 9 0).bind fun t32 => (ck h27 t30 1).bind fun _ => (f_X1_become N t30 t32 h27).bind fun h36 => (ck h36 0 9).bind fun _ => b2 (f_X9_settleAsTold N 0 (59 + 2 * k) (iz i) h36) fun t40 h39 => if t40 = 0 then some ((-3 : Int32), h39) else (gR h39 0 9 5).bind fun t42 => (gR h39 0 9 1).bind fun t44 => (ck h39 t42 6).bind fun _ => b2 (f_X6_breach N t42 t44 (iz kd) h39) fun t49 h48 => if t49 = (-5 : Int32) then some ((1 : Int32), h48) else some ((0 : Int32), h48) else some ((-12 : Int32), h15) else some ((-11 : Int32), h15)) := by
        unfold f_X9_judge
        rw [bq a1]
        refine (if_neg (by decide)).trans ?_
        rw [bq a2]
        refine (if_neg (by decide)).trans ?_
        rw [kn10 S, kt58 tp hk, bo (ck_q p2)]
      have pre : f_X10_judge N 71 (iz (k : Int)) (iz i) (iz kd) h = (if (0 : Int32) ≤ iz s then (if iz s = (1 : Int32) then (if iz i < (0 : Int32) then some ((-13 : Int32), h) else if iz i ≤ iz n - iz (vF V : Int) then f_X10_judge_70 N N 71 (iz (k : Int)) (iz i) (iz kd) (0 : Int32) h else some ((-13 : Int32), h)) else some ((-12 : Int32), h)) else some ((-11 : Int32), h)) := by
        unfold f_X10_judge
        rw [kmC M.1, bq b1]
        refine (if_neg (by decide)).trans ?_
        rw [kmC M.1, bq (show f_X10_in N 71 (iz kd) (1 : Int32) (5 : Int32) h = _ from b2')]
        refine (if_neg (by decide)).trans ?_
        simp (disch := omega) only [↓kr107 M.1, ↓kr108 M.1, ↓kl107 M.1, ↓kl108 M.1, toN, p10, p11, ↓kmF M]
      by_cases hs : s = -1
      · rw [decide_eq_true hs] at a3
        refine r.same_ (z := (-11 : Int32)) ?_ ?_
        · rw [prc, bq a3]; exact if_neg (by decide)
        · exact pre.trans <| if_neg (by rw [il0, iz_le (by omega) (by omega) (by omega) (by omega)]; omega)
      · rw [decide_eq_false hs] at a3
        have ms : (0 : Int32) ≤ iz s := by rw [il0, iz_le (by omega) (by omega) (by omega) (by omega)]; omega
        by_cases h1 : s = 1
        · subst h1
          have a4 := l_spans (N := N) (i := i) (n := (vF V : Int)) p2 p9 p6 i1 i2 (by omega) (by omega)
          by_cases g1 : 0 ≤ i ∧ 0 ≤ (vF V : Int) ∧ (vF V : Int) ≤ n ∧ i ≤ n - vF V
          · rw [decide_eq_true g1] at a4
            obtain ⟨i0, rfl⟩ := Int.eq_ofNat_of_zero_le g1.1
            have hi0 : i0 + vF V ≤ 60 := by omega
            obtain ⟨g, eg⟩ : ∃ g : Nat → Int, ∀ j, g j = if j < vF V then (h.2.2.1 (60 + 2 * k) (i0 + j)).toInt else 0 := ⟨_, fun _ => rfl⟩
            have hz : ∀ j : Nat, j < vF V → h.2.2.1 (60 + 2 * k) (i0 + j) = lz (g j) ∧ -32768 ≤ g j ∧ g j ≤ 32767 := fun j hj => by
              obtain ⟨z, z1, z2⟩ := p13 rfl (i0 + j) (by omega)
              rw [eg, if_pos hj, z2, lz_toInt (by omega) (by omega)]
              exact ⟨rfl, z1⟩
            have hg : ∀ j, -32768 ≤ g j ∧ g j ≤ 32767 := fun j => by
              by_cases hj : j < vF V
              · exact (hz j hj).2
              · rw [eg, if_neg hj]; decide
            have q17 : CP 17 p := ⟨c17, r.cp.2⟩
            obtain ⟨h1, e1, R1, r1, T1⟩ := become17 (N := N) r
            have S1 := r1.2.2.2.2.2.2.2.1
            have ct1 := r1.2.2.2.2.2.2.2.2.1
            have g17 : (gI h 1 1 2).bind = fun (k : Int32 → Option (Int32 × Mem)) => k (iz (vF V)) := by
              funext k
              rw [kF R]
            have x60 : 60 + 2 * k ≠ 51 := by omega
            obtain ⟨h2, e2, T2, g2, ok2⟩ := l_sat (N := N) w hN q17 (k := k) hi0 hg (vF V) 0 N h1 (by omega) (by omega) S1 R1 w (by rw [T1.1]; exact p2) (by rw [T1.2.1 _ (by omega) (by omega)]; exact p3) (by rw [T1.1]; exact p4) (fun j hj => by rw [T1.2.2.1 _ x60]; exact (hz j hj).1)
            have r2 := r1.tf T2 (ct1.1.tf T2.1 (by rw [g2])) (ct1.2.tf T2.1 (by rw [g2]))
            have T12 := T1.tr T2
            have prc2 : ∀ o, (if iz (if okT V g 0 (vF V) = true then fitsI (lay V g (vF V)) else 0) = 0 then some ((-3 : Int32), h2) else (gR h2 0 9 5).bind fun t42 => (gR h2 0 9 1).bind fun t44 => (ck h2 t42 6).bind fun _ => b2 (f_X6_breach N t42 t44 (iz kd) h2) fun t49 h48 => if t49 = (-5 : Int32) then some ((1 : Int32), h48) else some ((0 : Int32), h48)) = o → f_X9_judge N 0 (iz (k : Int)) (iz (i0 : Int)) (iz kd) h = o := by
              intro o eo
              rw [prc, bq a3]
              refine (if_pos (by decide)).trans ?_
              rw [bo (gI_q p2), p8]
              refine (if_pos (by decide)).trans ?_
              rw [kn0 S, kF R, bo (ck_q p2), bq a4]
              refine (if_neg (by decide)).trans ?_
              rw [kn1 S, kn0 S, bo (ck_q ((r.2.2.2.2.2.2.2.2.1).1.1)), bo e1, knC S1]
              have e2' : f_X9_settleAsTold N 0 (59 + 2 * k) (iz (i0 : Int)) h1 = _ := e2
              rw [bq e2']
              exact eo
            have fin : ∀ h3, TF h h3 → REL h3 V p pd b → f_X9_judge N 0 (iz (k : Int)) (iz (i0 : Int)) (iz kd) h = some (iz (jdg V g kd), h3) → CAL (f_X9_judge N 0 (iz (k : Int)) (iz (i0 : Int)) (iz kd) h) (f_X10_judge N 71 (iz (k : Int)) (iz (i0 : Int)) (iz kd)) b := by
              intro h3 T r3 e3
              obtain ⟨h4, e4, M4, F4⟩ := m_judge (N := N) w hN hk hkd hi0 hg r3.2.2.1 (by rw [T.2.2.2 107 (by omega)]; exact p10) (by rw [T.2.2.2 108 (by omega)]; exact p11) (by omega) (fun j hj => by rw [T.2.2.1 109 (by decide), show 60 * k + (i0 + j) = 60 * k + (i0 + j) from rfl, ← p12 (i0 + j) (by omega)]; exact (hz j hj).1)
              exact ⟨iz (jdg V g kd), h3, h4, V, p, pd, e3, e4, REL.fm r3.mid F4 M4⟩
            cases ok : okT V g 0 (vF V) with
            | false =>
              refine fin h2 T12 r2 (prc2 _ ?_)
              unfold jdg
              rw [ok, if_neg (show ¬ (false = true) by decide), if_neg (show ¬ (false = true) by decide)]
              exact if_pos (by decide)
            | true =>
              obtain ⟨R2, w2⟩ := ok2 ok
              rcases fitsI_01 (V := lay V g (vF V)) with z | z
              · refine fin h2 T12 r2 (prc2 _ ?_)
                unfold jdg
                rw [ok, if_pos (show true = true from rfl), if_pos (show true = true from rfl), z, if_pos (show (0 : Int) = 0 from rfl)]
                exact if_pos (by decide)
              · have S2 := T2.x9s S1
                have rs2 := T12.rs r.2.2.2.2.2.2.2.2.2.1.1
                obtain ⟨h3, e3, R3, K3⟩ := l_breach (N := N) R2 w2 q17 rs2 hN hkd
                have T3 := K3.tf (Or.inl rfl)
                have ct2 := r2.2.2.2.2.2.2.2.2.1
                have r3 := r2.tf T3 (ct2.1.tf K3.1 (by rw [K3.2.1])) (ct2.2.tf K3.1 (by rw [K3.2.1]))
                have q46 : h2.1[46]? = some (6, 0) := rs2.1
                have bd := breachS_bd w2 (k := kd)
                refine fin h3 (T12.tr T3) r3 (prc2 _ ?_)
                unfold jdg
                rw [ok, if_pos (show true = true from rfl), if_pos (show true = true from rfl), z, if_neg (show ¬ ((1 : Int) = 0) by decide)]
                refine (if_neg (by decide)).trans ?_
                rw [kn5 S2, kn1 S2, bo (ck_q q46), bq e3]
                by_cases c5 : breachS (lay V g (vF V)) kd = -5
                · rw [if_pos c5, c5]; exact if_pos (by decide)
                · rw [if_neg c5]; exact if_neg (iz_ne (by omega) (by omega) (by decide) (by decide) c5)
          · rw [decide_eq_false g1] at a4
            refine r.same_ (z := (-13 : Int32)) ?_ ?_
            · rw [prc, bq a3]
              refine (if_pos (by decide)).trans ?_
              rw [bo (gI_q p2), p8]
              refine (if_pos (by decide)).trans ?_
              rw [kn0 S, kF R, bo (ck_q p2), bq a4]
              exact if_pos (by decide)
            · refine pre.trans <| (if_pos ms).trans <| (if_pos (by decide)).trans ?_
              by_cases g3 : i < 0
              · exact if_pos (by rw [il0, iz_lt (by omega) (by omega) (by omega) (by omega)]; exact g3)
              · refine (if_neg (by rw [il0, iz_lt (by omega) (by omega) (by omega) (by omega)]; exact g3)).trans ?_
                rw [iz_sub]
                exact if_neg (by rw [iz_le (by omega) (by omega) (by omega) (by omega)]; omega)
        · have ns : ¬ (iz s = (1 : Int32)) := iz_ne (by omega) (by omega) (by decide) (by decide) h1
          refine r.same_ (z := (-12 : Int32)) ?_ ?_
          · rw [prc, bq a3]
            refine (if_pos (by decide)).trans ?_
            rw [bo (gI_q p2), p8]
            exact if_neg ns
          · exact pre.trans <| (if_pos ms).trans (if_neg ns)
    · rw [decide_eq_false hkd] at a2 b2'
      refine r.same_ (z := (-1 : Int32)) ?_ ?_
      · unfold f_X9_judge
        rw [bq a1]
        refine (if_neg (by decide)).trans ?_
        rw [bq a2]
        exact if_pos (by decide)
      · unfold f_X10_judge
        rw [kmC M.1, bq b1]
        refine (if_neg (by decide)).trans ?_
        rw [kmC M.1, bq (show f_X10_in N 71 (iz kd) (1 : Int32) (5 : Int32) h = _ from b2')]
        exact if_pos (by decide)
  · rw [decide_eq_false ht] at a1 b1
    refine r.same_ (z := (-1 : Int32)) ?_ ?_
    · unfold f_X9_judge; rw [bq a1]; exact if_pos (by decide)
    · unfold f_X10_judge; rw [kmC M.1, bq b1]; exact if_pos (by decide)
end
