section
variable {h : Mem} {V : Vw} {p pd b N : Nat}
theorem m_all_119 (w : WF V) (hN : 300 ≤ N) {i : Int} (i1 : -1 ≤ i) (i2 : i < 2147483648) {fd tl : Int32} {U : Vw} (R : RepM h U) (l : like5 U V) (k : KEP h V) : ∃ h', f_X10_all_119 N 71 (iz i) fd tl h = some (if i = -1 then fd else tl, h') ∧ RepM h' V ∧ FM SX h h' := by
  obtain ⟨h1, e1, R1, F1, _⟩ := m_putBack (N := N) R (by omega) k l
  refine ⟨h1, ?_, R1, F1.mono SK_SX⟩
  unfold f_X10_all_119
  rw [kmC R.1, bo e1]
  by_cases c : i = -1
  · rw [if_pos c]; exact if_pos (by rw [c]; rfl)
  · rw [if_neg c]; exact if_neg (iz_ne (by omega) (by omega) (by decide) (by decide) c)
theorem SR_98 : 98 ∉ SR := by decide
theorem m_all_57 (w : WF V) (hN : 300 ≤ N) (hT0 : 0 < vT V) {k i : Int} (hk : 1 ≤ k ∧ k ≤ 5) (i1 : -1 ≤ i) (i2 : i < 2147483648) {f : Nat} (hf : f < vF V) (hw : ways V ≤ 243) : ∀ (d v n : Nat) (h : Mem) (U : Vw) (fd : Nat), v + d = ways V → d < n → fd ≤ v → RepM h U → KEP h V → LOUT V U → ∃ h', f_X10_all_57 N n 71 (iz k) (iz i) (iz (f : Int)) (iz (fd : Int)) (-1 : Int32) (iz (v : Int)) h = some (iz (allT V k i f d v fd), h') ∧ RepM h' V ∧ FM SX h h' := by
  intro d
  have hT := w.T
  have hF := w.F
  induction d with
  | zero =>
    intro v n h U fd hv hn hfd R kp sw
    obtain ⟨n, rfl⟩ : ∃ k, n = k + 1 := ⟨n - 1, by omega⟩
    obtain ⟨s1, s2, s3, s4, s5⟩ := sw.all
    obtain ⟨h1, e1, R1, F1⟩ := m_all_119 (N := N) (fd := iz (fd : Int)) (tl := (-1 : Int32)) w hN i1 i2 R s5 kp
    refine ⟨h1, ?_, R1, F1⟩
    have er := m_rowsOf (N := N) R (sw.wf w hT0) (by omega)
    rw [s3] at er
    rw [f_X10_all_57, allT, kmC R.1, bq er, if_pos (by rw [iz_le (by omega) (by omega) (by omega) (by omega)]; omega), e1]
    by_cases c : i = -1
    · rw [if_pos c, if_pos c]
    · rw [if_neg c, if_neg c]; rfl
  | succ d ih =>
    intro v n h U fd hv hn hfd R kp sw
    obtain ⟨n, rfl⟩ : ∃ k, n = k + 1 := ⟨n - 1, by omega⟩
    obtain ⟨s1, s2, s3, s4, s5⟩ := sw.all
    have wU := sw.wf w hT0
    have er := m_rowsOf (N := N) R wU (by omega)
    rw [s3] at er
    obtain ⟨h1, e1, R1, F1⟩ := m_layOut (N := N) R wU (by omega) (by omega) (r := v) (by omega)
    rw [s4 v] at R1
    have sw1 : LOUT V (stl V v (vF V)) := Or.inr ⟨v, rfl⟩
    have w1 := sw1.wf w hT0
    have k1 : KEP h1 V := kp.eq_ (F1.2.2.2.1 98 (by decide) SR_98)
    have eroom := m_room (N := N) R1 w1 (by omega)
    rw [f_X10_all_57, allT, kmC R.1, bq er, if_neg (by rw [iz_le (by omega) (by omega) (by omega) (by omega)]; omega), if_pos rfl, kmC R.1, bo e1, kmC R1.1, bq eroom]
    rcases fitsI_01 (V := stl V v (vF V)) with z | z
    · rw [z, if_pos rfl, if_pos (by decide)]
      obtain ⟨h2, e2, R2, F2⟩ := ih (v + 1) n h1 _ fd (by omega) (by omega) (by omega) R1 k1 sw1
      refine ⟨h2, ?_, R2, (F1.mono SR_SX).tr F2⟩
      rw [il1, iz_add]; exact e2
    · rw [z, if_neg (by decide), if_neg (by decide)]
      have bd := breachS_bd w1 (k := k)
      obtain ⟨h2, e2, R2, F2⟩ := m_isRest (N := N) R1 w1 hN hk (by omega)
      have k2 : KEP h2 V := k1.eq_ (F2.2.2.2.1 98 (by decide) SR_98)
      have F12 : FM SX h h2 := (F1.mono SR_SX).tr (F2.mono SR_SX)
      rw [kmC R1.1, bq e2]
      by_cases c5 : breachS (stl V v (vF V)) k = -5
      · rw [if_pos c5, decide_eq_true c5, if_neg (by decide)]
        by_cases c6 : (fd : Int) = i
        · have e7 : h2.2.1 79 f = iz (va (stl V v (vF V)) 7 f) := R2.2.2.1 7 (by decide) f (by show f < 8; omega)
          have h7 := w1.f (j := (f : Int)) (by omega) (by omega)
          rw [if_pos c6, if_pos (by rw [c6]), kr79 R2.1, kl79 R2.1 (by omega) (by omega), toN, e7]
          obtain ⟨n', rfl⟩ : ∃ k, n = k + 1 := ⟨n - 1, by omega⟩
          have er2 := m_rowsOf (N := N) R2 w1 (by omega)
          rw [stl_ways] at er2
          obtain ⟨h3, e3, R3, F3⟩ := m_all_119 (N := N) (fd := iz (fd : Int) + 1) (tl := iz (va (stl V v (vF V)) 7 f)) w hN i1 i2 R2 stl_like k2
          rw [if_neg (by omega)] at e3
          refine ⟨h3, ?_, R3, F12.tr F3⟩
          rw [f_X10_all_57, kmC R2.1, bq er2]
          by_cases c8 : iz (ways V : Int) ≤ iz (v : Int) + 1
          · exact (if_pos c8).trans e3
          · refine (if_neg c8).trans ((if_neg ?_).trans e3)
            exact (show ¬ (iz (va (stl V v (vF V)) 7 f) = (-1 : Int32)) from iz_ne (b := -1) (by omega) (by omega) (by decide) (by decide) (by omega))
        · rw [if_neg c6, if_neg (iz_ne (by omega) (by omega) (by omega) (by omega) c6)]
          obtain ⟨h3, e3, R3, F3⟩ := ih (v + 1) n h2 _ (fd + 1) (by omega) (by omega) (by omega) R2 k2 sw1
          refine ⟨h3, ?_, R3, F12.tr F3⟩
          rw [il1, iz_add, iz_add]; exact e3
      · rw [if_neg c5, decide_eq_false c5, if_pos (by decide)]
        obtain ⟨h3, e3, R3, F3⟩ := ih (v + 1) n h2 _ fd (by omega) (by omega) (by omega) R2 k2 sw1
        refine ⟨h3, ?_, R3, F12.tr F3⟩
        rw [il1, iz_add]; exact e3
theorem l_tooMany (R : RepC h 1 p V) (w : WF V) : f_X1_hasTooManyWays N 1 h = some (iz (bi (decide (5 < vF V ∨ 3 < vT V))), h) := by
  have hT := w.T
  have hF := w.F
  unfold f_X1_hasTooManyWays
  rw [kF R]
  by_cases c : 5 < vF V
  · rw [decide_eq_true (Or.inl c)]
    exact if_pos (by rw [show (5 : Int32) = iz 5 from rfl, iz_lt (by omega) (by omega) (by omega) (by omega)]; omega)
  · rw [if_neg (by rw [show (5 : Int32) = iz 5 from rfl, iz_lt (by omega) (by omega) (by omega) (by omega)]; omega), kT R]
    by_cases c2 : 3 < vT V
    · rw [decide_eq_true (Or.inr c2)]
      exact if_neg (by rw [show (3 : Int32) = iz 3 from rfl, iz_le (by omega) (by omega) (by omega) (by omega)]; omega)
    · rw [decide_eq_false (by omega)]
      exact if_pos (by rw [show (3 : Int32) = iz 3 from rfl, iz_le (by omega) (by omega) (by omega) (by omega)]; omega)
theorem p_all (hN : 300 ≤ N) (r : REL h V p pd b) (v1 v2 v3 : Int32) : CAL (f_X9_all N 0 v1 v2 v3 h) (f_X10_all N 71 v1 v2 v3) b := by
  obtain ⟨k, rfl, k1, k2⟩ := int_iz v1
  obtain ⟨i, rfl, i1, i2⟩ := int_iz v2
  obtain ⟨f, rfl, f1, f2⟩ := int_iz v3
  have R := r.2.1
  have M := r.2.2.1
  have w := r.2.2.2.1
  have S := r.2.2.2.2.2.2.2.1
  have rs := r.2.2.2.2.2.2.2.2.2.1.1
  have hT := w.T
  have hF := w.F
  have a1 := l_isRest (N := N) (h := h) k1 k2
  have a2 := l_isFamily (N := N) S R w f1 f2
  have pre : ∀ h1 : Mem, RepM h1 V → (1 ≤ k ∧ k ≤ 5) → fB V f = true → -1 ≤ i → f_X10_all N 71 (iz k) (iz i) (iz f) h1 = (if (5 : Int32) < iz (vF V : Int) then some ((-9 : Int32), h1) else if iz (vT V : Int) ≤ (3 : Int32) then (f_X10_keep N 71 h1).bind fun h20 => f_X10_all_57 N N 71 (iz k) (iz i) (iz f) (0 : Int32) (-1 : Int32) (0 : Int32) h20 else some ((-9 : Int32), h1)) := by
    intro h1 M1 hk hf hi
    have c1 := m_inB (N := N) (h := h1) (a := k) (b := 1) (c := 5) (by omega) (by omega) k1 k2
    have c2 := m_isFamily (N := N) M1 w f1 f2
    rw [decide_eq_true hk] at c1
    rw [hf] at c2
    unfold f_X10_all
    rw [kmC M1.1, bq (show f_X10_in N 71 (iz k) (1 : Int32) (5 : Int32) h1 = _ from c1)]
    refine (if_neg (by decide)).trans ?_
    rw [kmC M1.1, bq c2]
    refine (if_neg (by decide)).trans ?_
    refine (if_pos (by rw [show (-1 : Int32) = iz (-1) from rfl, iz_le (by omega) (by omega) (by omega) (by omega)]; exact hi)).trans ?_
    rw [kmF M1, kmT M1, kmC M1.1]
  by_cases hk : 1 ≤ k ∧ k ≤ 5
  · rw [decide_eq_true hk] at a1
    cases hf : fB V f with
    | false =>
      rw [hf] at a2
      have c1 := m_inB (N := N) (h := h) (a := k) (b := 1) (c := 5) (by omega) (by omega) k1 k2
      have c2 := m_isFamily (N := N) M w f1 f2
      rw [decide_eq_true hk] at c1
      rw [hf] at c2
      refine r.same_ (z := (-1 : Int32)) ?_ ?_
      · unfold f_X9_all
        rw [bq a1]
        refine (if_neg (by decide)).trans ?_
        rw [knC S, bq a2]
        exact if_pos (by decide)
      · unfold f_X10_all
        rw [kmC M.1, bq (show f_X10_in N 71 (iz k) (1 : Int32) (5 : Int32) h = _ from c1)]
        refine (if_neg (by decide)).trans ?_
        rw [kmC M.1, bq c2]
        exact if_pos (by decide)
    | true =>
      rw [hf] at a2
      have ff := fB_t hf
      by_cases hi : -1 ≤ i
      · have a3 := l_tooMany (N := N) R w
        have prc : f_X9_all N 0 (iz k) (iz i) (iz f) h = (b2 (f_X1_hasTooManyWays N 1 h) fun t16 h15 => if t16 = 0 then (gR h15 0 9 1).bind fun t18 => (gR h15 0 9 0).bind fun t20 => (ck h15 t18 1).bind fun _ => (f_X1_become N t18 t20 h15).bind fun h24 => (gR h24 0 9 1).bind fun t25 => (ck h24 t25 1).bind fun _ => b2 (f_X1_ways N t25 h24) fun t30 h29 => f_X9_all_61 N N 0 (iz k) (iz i) (iz f) t30 (0 : Int32) (0 : Int32) h29 else some ((-9 : Int32), h15)) := by
          unfold f_X9_all
          rw [bq a1]
          refine (if_neg (by decide)).trans ?_
          rw [knC S, bq a2]
          refine (if_neg (by decide)).trans ?_
          refine (if_pos (by rw [show (-1 : Int32) = iz (-1) from rfl, iz_le (by omega) (by omega) (by omega) (by omega)]; exact hi)).trans ?_
          rw [kn0 S, bo (ck_q R.1.1)]
        by_cases ht : 5 < vF V ∨ 3 < vT V
        · rw [decide_eq_true ht] at a3
          refine r.same_ (z := (-9 : Int32)) ?_ ?_
          · rw [prc, bq a3]; exact if_neg (by decide)
          · rw [pre h M hk hf hi]
            by_cases c : 5 < vF V
            · exact if_pos (by rw [show (5 : Int32) = iz 5 from rfl, iz_lt (by omega) (by omega) (by omega) (by omega)]; omega)
            · refine (if_neg (by rw [show (5 : Int32) = iz 5 from rfl, iz_lt (by omega) (by omega) (by omega) (by omega)]; omega)).trans ?_
              exact if_neg (by rw [show (3 : Int32) = iz 3 from rfl, iz_le (by omega) (by omega) (by omega) (by omega)]; omega)
        · rw [decide_eq_false ht] at a3
          obtain ⟨fn, rfl⟩ := Int.eq_ofNat_of_zero_le ff.1
          have hT0 : 0 < vT V := by
            have := (w.i (j := (fn : Int)) (by omega) (by omega)).2
            have := (w.f (j := (fn : Int)) (by omega) (by omega)).2.2.1.1
            omega
          have hw := ways_bd (V := V) (by omega) (by omega)
          obtain ⟨h1, e1, R1, r1, T1⟩ := become17 (N := N) r
          have S1 := r1.2.2.2.2.2.2.2.1
          have rs1 := r1.2.2.2.2.2.2.2.2.2.1.1
          have ct1 := r1.2.2.2.2.2.2.2.2.1
          have q17 : CP 17 p := ⟨c17, r.cp.2⟩
          have ew := l_ways (N := N) R1 w (by omega)
          obtain ⟨h2, U2, e2, T2, g2, R2⟩ := l_all_61 (N := N) w hN hT0 q17 (k := k) (i := i) hk hi i2 (f := fn) (by omega) hw (ways V) 0 N h1 V 0 (by omega) (by omega) (by omega) S1 rs1 R1 (Or.inl rfl)
          have r2 := r1.tf T2 R2.1 (ct1.2.tf T2.1 (by rw [g2]))
          have M2 := r2.2.2.1
          obtain ⟨h3, e3, M3, kp3, F3⟩ := m_keep (N := N) M2 w (by omega)
          obtain ⟨h4, e4, M4, F4⟩ := m_all_57 (N := N) w hN hT0 (k := k) (i := i) hk hi i2 (f := fn) (by omega) hw (ways V) 0 N h3 V 0 (by omega) (by omega) (by omega) M3 kp3 (Or.inl rfl)
          refine ⟨iz (allT V k i fn (ways V) 0 0), h2, h4, V, p, pd, ?_, ?_, REL.fm r2.mid ((F3.mono SK_SX).tr F4) M4⟩
          · rw [prc, bq a3]
            refine (if_pos (by decide)).trans ?_
            rw [kn1 S, kn0 S, bo (ck_q ((r.2.2.2.2.2.2.2.2.1).1.1)), bo e1, kn1 S1, bo (ck_q R1.1.1), bq ew]
            exact e2
          · rw [pre h2 M2 hk hf hi]
            refine (if_neg (by rw [show (5 : Int32) = iz 5 from rfl, iz_lt (by omega) (by omega) (by omega) (by omega)]; omega)).trans ?_
            refine (if_pos (by rw [show (3 : Int32) = iz 3 from rfl, iz_le (by omega) (by omega) (by omega) (by omega)]; omega)).trans ?_
            rw [bo e3]
            exact e4
      · have c1 := m_inB (N := N) (h := h) (a := k) (b := 1) (c := 5) (by omega) (by omega) k1 k2
        have c2 := m_isFamily (N := N) M w f1 f2
        rw [decide_eq_true hk] at c1
        rw [hf] at c2
        have ni : ¬ ((-1 : Int32) ≤ iz i) := by rw [show (-1 : Int32) = iz (-1) from rfl, iz_le (by omega) (by omega) (by omega) (by omega)]; exact hi
        refine r.same_ (z := (-1 : Int32)) ?_ ?_
        · unfold f_X9_all
          rw [bq a1]
          refine (if_neg (by decide)).trans ?_
          rw [knC S, bq a2]
          exact (if_neg (by decide)).trans (if_neg ni)
        · unfold f_X10_all
          rw [kmC M.1, bq (show f_X10_in N 71 (iz k) (1 : Int32) (5 : Int32) h = _ from c1)]
          refine (if_neg (by decide)).trans ?_
          rw [kmC M.1, bq c2]
          exact (if_neg (by decide)).trans (if_neg ni)
  · rw [decide_eq_false hk] at a1
    have c1 := m_inB (N := N) (h := h) (a := k) (b := 1) (c := 5) (by omega) (by omega) k1 k2
    rw [decide_eq_false hk] at c1
    refine r.same_ (z := (-1 : Int32)) ?_ ?_
    · unfold f_X9_all; rw [bq a1]; exact if_pos (by decide)
    · unfold f_X10_all
      rw [kmC M.1, bq (show f_X10_in N 71 (iz k) (1 : Int32) (5 : Int32) h = _ from c1)]
      exact if_pos (by decide)
end
