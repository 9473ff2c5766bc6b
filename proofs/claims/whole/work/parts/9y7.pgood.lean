section
variable {h : Mem} {V : Vw} {p pd b N : Nat}
theorem p_good (hN : 300 ≤ N) (r : REL h V p pd b) (v1 : Int32) : CAL (f_X9_good N 0 v1 h) (f_X10_good N 71 v1) b := by
  obtain ⟨f, rfl, f1, f2⟩ := int_iz v1
  have R := r.2.1
  have M := r.2.2.1
  have w := r.2.2.2.1
  have S := r.2.2.2.2.2.2.2.1
  have hT := w.T
  have hF := w.F
  have a2 := l_isFamily (N := N) S R w f1 f2
  have pre : ∀ h1 : Mem, RepM h1 V → fB V f = true → f_X10_good N 71 (iz f) h1 = (if (5 : Int32) < iz (vF V : Int) then some ((-9 : Int32), h1) else if iz (vT V : Int) ≤ (3 : Int32) then (f_X10_keep N 71 h1).bind fun h14 => f_X10_good_40 N N 71 (iz f) (-1 : Int32) (0 : Int64) (0 : Int32) h14 else some ((-9 : Int32), h1)) := by
    intro h1 M1 hf
    have c2 := m_isFamily (N := N) M1 w f1 f2
    rw [hf] at c2
    unfold f_X10_good
    rw [kmC M1.1, bq c2]
    refine (if_neg (by decide)).trans ?_
    rw [kmF M1, kmT M1, kmC M1.1]
  cases hf : fB V f with
  | false =>
    rw [hf] at a2
    have c2 := m_isFamily (N := N) M w f1 f2
    rw [hf] at c2
    refine r.same_ (z := (-1 : Int32)) ?_ ?_
    · unfold f_X9_good
      rw [knC S, bq a2]
      exact if_pos (by decide)
    · unfold f_X10_good
      rw [kmC M.1, bq c2]
      exact if_pos (by decide)
  | true =>
    rw [hf] at a2
    have ff := fB_t hf
    have a3 := l_tooMany (N := N) R w
    have prc : f_X9_good N 0 (iz f) h = (b2 (f_X1_hasTooManyWays N 1 h) fun t11 h10 => if t11 = 0 then (gR h10 0 9 1).bind fun t13 => (gR h10 0 9 0).bind fun t15 => (ck h10 t13 1).bind fun _ => (f_X1_become N t13 t15 h10).bind fun h19 => (gR h19 0 9 1).bind fun t20 => (ck h19 t20 1).bind fun _ => b2 (f_X1_ways N t20 h19) fun t25 h24 => f_X9_good_52 N N 0 (iz f) t25 (-9223372036854775808 : Int64) (-1 : Int32) (0 : Int32) h24 else some ((-9 : Int32), h10)) := by
      unfold f_X9_good
      rw [knC S, bq a2]
      refine (if_neg (by decide)).trans ?_
      rw [kn0 S, bo (ck_q R.1.1)]
    by_cases ht : 5 < vF V ∨ 3 < vT V
    · rw [decide_eq_true ht] at a3
      refine r.same_ (z := (-9 : Int32)) ?_ ?_
      · rw [prc, bq a3]; exact if_neg (by decide)
      · rw [pre h M hf]
        by_cases c : 5 < vF V
        · exact if_pos (by rw [show (5 : Int32) = iz 5 from rfl, iz_lt (by omega) (by omega) (by omega) (by omega)]; omega)
        · refine (if_neg (by rw [show (5 : Int32) = iz 5 from rfl, iz_lt (by omega) (by omega) (by omega) (by omega)]; omega)).trans ?_
          exact if_neg (by rw [show (3 : Int32) = iz 3 from rfl, iz_le (by omega) (by omega) (by omega) (by omega)]; omega)
    · rw [decide_eq_false ht] at a3
      obtain ⟨fn, rfl⟩ := Int.eq_ofNat_of_zero_le ff.1
      have hT0 : 0 < vT V := by
        have := (w.i (j := (fn : Int)) (by omega) (by omega)).2
        have := (w.f (j := (fn : Int)) (by omega) (by omega)).2.2.1.1
        omega
      have hw := ways_bd (V := V) (by omega) (by omega)
      obtain ⟨h1, e1, R1, r1, T1⟩ := become17 (N := N) r
      have S1 := r1.2.2.2.2.2.2.2.1
      have ct1 := r1.2.2.2.2.2.2.2.2.1
      have q17 : CP 17 p := ⟨c17, r.cp.2⟩
      have ew := l_ways (N := N) R1 w (by omega)
      obtain ⟨h2, U2, e2, T2, g2, R2⟩ := l_good_52 (N := N) w hN hT0 q17 (f := fn) (by omega) hw (ways V) 0 N h1 V (-1) 0 (-9223372036854775808) (by omega) (by omega) (by omega) (fun z => by omega) (fun _ => rfl) S1 R1 (Or.inl rfl)
      have r2 := r1.tf T2 R2.1 (ct1.2.tf T2.1 (by rw [g2]))
      have M2 := r2.2.2.1
      obtain ⟨h3, e3, M3, kp3, F3⟩ := m_keep (N := N) M2 w (by omega)
      obtain ⟨h4, e4, M4, F4⟩ := m_good_40 (N := N) w hN hT0 (f := fn) (by omega) hw (ways V) 0 N h3 V (-1) 0 (by omega) (by omega) (by omega) (by omega) M3 kp3 (Or.inl rfl)
      refine ⟨iz (goodT V fn (ways V) 0 (-1) 0), h2, h4, V, p, pd, ?_, ?_, REL.fm r2.mid ((F3.mono SK_SX).tr F4) M4⟩
      · rw [prc, bq a3]
        refine (if_pos (by decide)).trans ?_
        rw [kn1 S, kn0 S, bo (ck_q ((r.2.2.2.2.2.2.2.2.1).1.1)), bo e1, kn1 S1, bo (ck_q R1.1.1), bq ew]
        exact e2
      · rw [pre h2 M2 hf]
        refine (if_neg (by rw [show (5 : Int32) = iz 5 from rfl, iz_lt (by omega) (by omega) (by omega) (by omega)]; omega)).trans ?_
        refine (if_pos (by rw [show (3 : Int32) = iz 3 from rfl, iz_le (by omega) (by omega) (by omega) (by omega)]; omega)).trans ?_
        rw [bo e3]
        exact e4
end
