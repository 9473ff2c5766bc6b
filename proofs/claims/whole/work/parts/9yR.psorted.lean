theorem KD.eqs {h h' : Mem} (k : KD h h') : EQS h h' := by
  obtain ⟨a, b, g⟩ := k
  refine ⟨a, fun i j _ => by rw [b], fun i hi => g i (by omega) (by omega), by rw [g 44 (by decide) (by decide)], fun j _ => by rw [g 71 (by decide) (by decide)], fun i _ => by rw [b]⟩
section
variable {h : Mem} {V : Vw} {p pd b N : Nat}
theorem REL.kd {h' : Mem} (r : REL h V p pd b) (k : KD h h') (R : RepC h' 1 p V) : REL h' V p pd b := by
  have e := k.eqs
  exact ⟨r.1, R, r.2.2.1.lo k.1 (by rw [k.2.1]) (fun i hi => k.2.2 i (by omega) (by omega)), r.2.2.2.1, r.2.2.2.2.1, by rw [k.2.1]; exact r.2.2.2.2.2.1, r.2.2.2.2.2.2.1.eqs r.pd e, r.2.2.2.2.2.2.2.eqs e⟩
theorem m_chance (R : RepM h V) (w : WF V) (hN : 6000 ≤ N) (h7 : vF V ≤ 7) : ∃ h', f_X10_sorted_70 N N 71 (iz (pairsI V (vF V))) (iz (fct (vF V) : Int)) (0 : Int32) h = some (iz (asSortedI V), h') ∧ RepM h' V ∧ FM SX h h' := by
  have fb := fct_bd (vF V) h7
  obtain ⟨row, e1, s1⟩ := m_sorted_70 (N := N) (x := iz (pairsI V (vF V))) (y := iz (fct (vF V) : Int)) R w (vF V) 0 N (h.2.1 99) (by omega) (by omega) (fun j hj => absurd hj (Nat.not_lt_zero j))
  rw [wr_id rfl] at e1
  obtain ⟨h2, e2, F2, r2⟩ := m_sorted_105 (N := N) w hN h7 (fct (vF V)) 0 N _ (by omega) (by omega) s1
  obtain ⟨h3, e3, F3, q3, r3⟩ := m_sorted_144 (N := N) (x := iz (sm (cfW V) (fct (vF V)))) (V := V) (by omega) (vF V) 0 N h2 (by omega) (by omega) (s1.fm F2) (fun j hj => absurd hj (Nat.not_lt_zero j))
  rw [cf_sum w h7] at e2 e3
  have m1 : ∀ i, i ∈ [99] → i ∈ [77, 99, 100] := by decide
  have m2 : ∀ i, i ∈ [77, 100] → i ∈ [77, 99, 100] := by decide
  have F1 : FR [99] h (wr h 99 row) := FR.wr_ (by decide)
  have Fa : FR [77, 99, 100] h h3 := ((F1.mono m1).tr (F2.mono m2)).tr (F3.mono m2)
  have r77 : h3.2.1 77 = h.2.1 77 := by
    funext j
    by_cases c : j < vF V
    · have b5 := (w.f (j := (j : Int)) (by omega) (by omega)).1
      rw [q3 j c, R.2.2.1 5 (by decide) j (by show j < 8; omega)]
      unfold soV
      rw [if_pos (by omega), Int.toNat_of_nonneg b5.1]
    · rw [r3 j (by omega), r2 j (by omega), wr_ne (by decide)]
  have M3 : RepM h3 V := by
    refine R.congr Fa.1 (by rw [Fa.2.1]) (fun i hi => ?_) (fun j hj => by rw [Fa.2.2 71 (by decide)])
    by_cases c : i = 77
    · rw [c]; exact r77
    · have g : ∀ i, i ∈ dpM → i ≠ 77 → i ∉ [77, 99, 100] := by decide
      exact Fa.2.2 i (g i hi c)
  have mx : ∀ i, i ∈ [77, 99, 100] → i ∈ SX := by decide
  exact ⟨h3, e1.trans (e2.trans e3), M3, (Fa.fm (by decide)).mono mx⟩
theorem l_ofAll' {c : Nat} (R : RepC h c p V) (hF : vF V ≤ 8) (hN : 300 ≤ N) {v0 : Nat} : f_X2_ofAll N v0 c h = some (iz (fct (vF V) : Int), h) := by
  rcases Nat.eq_zero_or_pos (vF V) with z | z
  · exact l_ofAll0 R (by omega) z
  · exact l_ofAll R hF (by omega) z
theorem p_sorted (hN : 6000 ≤ N) (r : REL h V p pd b) (v1 : Int32) : CAL (f_X9_sorted N 0 v1 h) (f_X10_sorted N 71 v1) b := by
  obtain ⟨x, rfl, t1, t2⟩ := int_iz v1
  have R := r.2.1
  have M := r.2.2.1
  have w := r.2.2.2.1
  have S := r.2.2.2.2.2.2.2.1
  have DSh := r.2.2.2.2.2.2.2.2.2.1.2.2
  have hF := w.F
  have a1 := l_within (N := N) (h := h) (a := x) (b := 0) (c := 2) (by omega) (by omega) t1 t2
  have kfl : ∀ j : Nat, j < vF V → (0 ≤ va V 5 j ∧ va V 5 j ≤ 3) ∧ (0 ≤ va V 7 j ∧ va V 7 j ≤ 3) := fun j hj => by
    have := w.f (j := (j : Int)) (by omega) (by omega)
    exact ⟨this.1, this.2.2.1⟩
  have bp := pairsI_bd (V := V) (vF V) hF
  have em : ∀ h1 : Mem, RepM h1 V → f_X10_sorted N 71 (iz x) h1 = (if decide (0 ≤ x ∧ x ≤ 2) = false then some ((-1 : Int32), h1) else if x = 0 then some (iz (pairsI V (vF V)), h1) else if vF V ≤ 7 then (if x = 2 then some (iz (fct (vF V) : Int), h1) else f_X10_sorted_70 N N 71 (iz (pairsI V (vF V))) (iz (fct (vF V) : Int)) (0 : Int32) h1) else some ((-9 : Int32), h1)) := by
    intro h1 M1
    have c1 := m_inB (N := N) (h := h1) (a := x) (b := 0) (c := 2) (by omega) (by omega) t1 t2
    have c2 := m_pairs (N := N) (W := V) (n0 := vF V) (by omega) hF M1.1 M1.2.1.2 (fun j hj => M1.2.2.1 5 (by decide) j (by show j < 8; omega)) (fun j hj => M1.2.2.1 7 (by decide) j (by show j < 8; omega)) kfl
    unfold f_X10_sorted
    rw [kmC M1.1, bq (show f_X10_in N 71 (iz x) (0 : Int32) (2 : Int32) h1 = _ from c1)]
    by_cases hx : 0 ≤ x ∧ x ≤ 2
    · rw [decide_eq_true hx]
      refine (if_neg (by decide)).trans ?_
      rw [kmC M1.1, bq c2, if_neg (show ¬ (true = false) by decide)]
      by_cases x0 : x = 0
      · rw [if_pos x0, x0]
        exact if_pos (by decide)
      · rw [if_neg x0]
        refine (if_neg (show ¬ (iz x = (0 : Int32)) from iz_ne (b := 0) (by omega) (by omega) (by decide) (by decide) x0)).trans ?_
        rw [kmF M1]
        by_cases h7 : vF V ≤ 7
        · rw [if_pos h7]
          refine (if_pos (by rw [show (7 : Int32) = iz 7 from rfl, iz_le (by omega) (by omega) (by omega) (by omega)]; omega)).trans ?_
          rcases Nat.eq_zero_or_pos (vF V) with z | z
          · obtain ⟨n, hn⟩ : ∃ k, N = k + 1 := ⟨N - 1, by omega⟩
            have e0 : f_X10_sorted_40 N N 71 (iz x) (iz (pairsI V (vF V))) (1 : Int32) (2 : Int32) h1 = if iz x = (2 : Int32) then some ((1 : Int32), h1) else f_X10_sorted_70 N N 71 (iz (pairsI V (vF V))) (1 : Int32) (0 : Int32) h1 := by
              have e1 : ∀ n, f_X10_sorted_40 N (n + 1) 71 (iz x) (iz (pairsI V (vF V))) (1 : Int32) (2 : Int32) h1 = if iz x = (2 : Int32) then some ((1 : Int32), h1) else f_X10_sorted_70 N N 71 (iz (pairsI V (vF V))) (1 : Int32) (0 : Int32) h1 := by
                intro n
                rw [f_X10_sorted_40, kmF M1, if_pos (by rw [show (2 : Int32) = iz 2 from rfl, iz_lt (by omega) (by omega) (by omega) (by omega)]; omega)]
              have := e1 n
              rw [← hn] at this
              exact this
            rw [e0]
            have ef : (1 : Int32) = iz (fct (vF V) : Int) := by rw [z]; rfl
            rw [ef]
            by_cases x2 : x = 2
            · rw [if_pos x2, x2]
              exact if_pos (by decide)
            · rw [if_neg x2]
              exact if_neg (show ¬ (iz x = (2 : Int32)) from iz_ne (b := 2) (by omega) (by omega) (by decide) (by decide) x2)
          · have e40 := m_sorted_40 (N := N) M1 (by omega) (v1 := iz x) (v2 := iz (pairsI V (vF V))) (vF V - 1) 2 N (by omega) (by omega) (by omega)
            refine (show f_X10_sorted_40 N N 71 (iz x) (iz (pairsI V (vF V))) (1 : Int32) (2 : Int32) h1 = _ from e40).trans ?_
            by_cases x2 : x = 2
            · rw [if_pos x2, x2]
              exact if_pos (by decide)
            · rw [if_neg x2]
              exact if_neg (show ¬ (iz x = (2 : Int32)) from iz_ne (b := 2) (by omega) (by omega) (by decide) (by decide) x2)
        · rw [if_neg h7]
          exact if_neg (by rw [show (7 : Int32) = iz 7 from rfl, iz_le (by omega) (by omega) (by omega) (by omega)]; omega)
    · rw [decide_eq_false hx]
      exact if_pos (by decide)
  by_cases hx : 0 ≤ x ∧ x ≤ 2
  · rw [decide_eq_true hx] at a1
    have em' : ∀ h1 : Mem, RepM h1 V → f_X10_sorted N 71 (iz x) h1 = (if x = 0 then some (iz (pairsI V (vF V)), h1) else if vF V ≤ 7 then (if x = 2 then some (iz (fct (vF V) : Int), h1) else f_X10_sorted_70 N N 71 (iz (pairsI V (vF V))) (iz (fct (vF V) : Int)) (0 : Int32) h1) else some ((-9 : Int32), h1)) := by
      intro h1 M1
      rw [em h1 M1, decide_eq_true hx, if_neg (show ¬ (true = false) by decide)]
    have pre : ∀ o, (if iz x = 0 then (gR h 0 9 0).bind fun t28 => (ck h t28 1).bind fun _ => b2 (f_X1_pairs N t28 h) fun t33 h32 => some (t33, h32) else (gR h 0 9 0).bind fun t6 => (gI h t6 1 2).bind fun t8 => if t8 ≤ (7 : Int32) then if iz x = (1 : Int32) then (gR h 0 9 7).bind fun t20 => (gR h 0 9 0).bind fun t22 => (ck h t20 2).bind fun _ => b2 (f_X2_asSorted N t20 t22 h) fun t27 h26 => some (t27, h26) else (gR h 0 9 7).bind fun t12 => (gR h 0 9 0).bind fun t14 => (ck h t12 2).bind fun _ => b2 (f_X2_ofAll N t12 t14 h) fun t19 h18 => some (t19, h18) else some ((-9 : Int32), h)) = o → f_X9_sorted N 0 (iz x) h = o := by
      intro o eo
      unfold f_X9_sorted
      rw [bq (show f_X9_within N (iz x) (0 : Int32) (2 : Int32) h = _ from a1)]
      exact (if_neg (by decide)).trans eo
    by_cases x0 : x = 0
    · have ep := l_pairs (N := N) R w (by omega)
      refine r.same_ (z := iz (pairsI V (vF V))) (pre _ ?_) (by rw [em' h M, if_pos x0])
      refine (if_pos (by rw [x0]; rfl)).trans ?_
      rw [kn0 S, bo (ck_q R.1.1), bq ep]
    · by_cases h7 : vF V ≤ 7
      · by_cases x2 : x = 2
        · have ea := l_ofAll' (N := N) (v0 := 52) R hF (by omega)
          refine r.same_ (z := iz (fct (vF V) : Int)) (pre _ ?_) (by rw [em' h M, if_neg x0, if_pos h7, if_pos x2])
          refine (if_neg (show ¬ (iz x = (0 : Int32)) from iz_ne (b := 0) (by omega) (by omega) (by decide) (by decide) x0)).trans ?_
          rw [kn0 S, kF R]
          refine (if_pos (by rw [show (7 : Int32) = iz 7 from rfl, iz_le (by omega) (by omega) (by omega) (by omega)]; omega)).trans ?_
          refine (if_neg (show ¬ (iz x = (1 : Int32)) from iz_ne (b := 1) (by omega) (by omega) (by decide) (by decide) (by omega))).trans ?_
          rw [kn7 S, kn0 S, k52c DSh, bq ea]
        · obtain ⟨h1, e1, R1, K1⟩ := l_asSorted (N := N) R w r.cp DSh (by omega)
          have r1 := r.kd K1 R1
          obtain ⟨h2, e2, M2, F2⟩ := m_chance (N := N) r1.2.2.1 w hN h7
          refine ⟨iz (asSortedI V), h1, h2, V, p, pd, pre _ ?_, ?_, REL.fm r1.mid F2 M2⟩
          · refine (if_neg (show ¬ (iz x = (0 : Int32)) from iz_ne (b := 0) (by omega) (by omega) (by decide) (by decide) x0)).trans ?_
            rw [kn0 S, kF R]
            refine (if_pos (by rw [show (7 : Int32) = iz 7 from rfl, iz_le (by omega) (by omega) (by omega) (by omega)]; omega)).trans ?_
            refine (if_pos (by rw [show x = 1 by omega]; rfl)).trans ?_
            rw [kn7 S, kn0 S, k52c DSh, bq e1]
          · rw [em' h1 r1.2.2.1, if_neg x0, if_pos h7, if_neg x2]
            exact e2
      · refine r.same_ (z := (-9 : Int32)) (pre _ ?_) (by rw [em' h M, if_neg x0, if_neg h7])
        refine (if_neg (show ¬ (iz x = (0 : Int32)) from iz_ne (b := 0) (by omega) (by omega) (by decide) (by decide) x0)).trans ?_
        rw [kn0 S, kF R]
        exact if_neg (by rw [show (7 : Int32) = iz 7 from rfl, iz_le (by omega) (by omega) (by omega) (by omega)]; omega)
  · rw [decide_eq_false hx] at a1
    refine r.same_ (z := (-1 : Int32)) ?_ (by rw [em h M, decide_eq_false hx, if_pos rfl])
    unfold f_X9_sorted
    rw [bq (show f_X9_within N (iz x) (0 : Int32) (2 : Int32) h = _ from a1)]
    exact if_pos (by decide)
end
