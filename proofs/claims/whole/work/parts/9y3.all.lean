def allT (V : Vw) (k i : Int) (f : Nat) : Nat → Nat → Int → Int
  | 0, _, fd => if i = -1 then fd else -1
  | d + 1, v, fd => if fitsI (stl V v (vF V)) = 0 then allT V k i f d (v + 1) fd
    else if breachS (stl V v (vF V)) k = -5 then (if fd = i then va (stl V v (vF V)) 7 f else allT V k i f d (v + 1) (fd + 1))
    else allT V k i f d (v + 1) fd
/-- the trial is laid out some way or not yet -/
def LOUT (V U : Vw) : Prop := U = V ∨ ∃ r, U = stl V r (vF V)
theorem LOUT.all {V U : Vw} (s : LOUT V U) : vT U = vT V ∧ vF U = vF V ∧ ways U = ways V ∧ (∀ r, stl U r (vF U) = stl V r (vF V)) ∧ like5 U V := by
  rcases s with rfl | ⟨r, rfl⟩
  · exact ⟨rfl, rfl, rfl, fun _ => rfl, rfl, rfl, rfl, fun _ _ => rfl⟩
  · have e := stl_TF (V := V) (r := r) (vF V)
    exact ⟨e.1, e.2.1, stl_ways, fun r' => by rw [e.2.1]; exact stl_stl, stl_like⟩
theorem LOUT.wf {V U : Vw} (s : LOUT V U) (w : WF V) (hT : 0 < vT V) : WF U := by
  rcases s with rfl | ⟨r, rfl⟩
  · exact w
  · exact stl_wf w hT _
theorem fitsI_01 {V : Vw} : fitsI V = 0 ∨ fitsI V = 1 := by
  unfold fitsI
  split
  · exact Or.inl rfl
  · exact Or.inr rfl
theorem ways_bd {V : Vw} (hT : vT V ≤ 3) (hF : vF V ≤ 5) : ways V ≤ 243 := by
  unfold ways
  have h1 : vT V ^ vF V ≤ 3 ^ vF V := Nat.pow_le_pow_left hT _
  have h2 : 3 ^ vF V ≤ 3 ^ 5 := Nat.pow_le_pow_right (by decide) hF
  have : (3 : Nat) ^ 5 = 243 := by decide
  omega
section
variable {h : Mem} {V : Vw} {p pd b N : Nat}
theorem TF.x9s {h h' : Mem} (e : TF h h') (S : X9S h) : X9S h' := ⟨by rw [e.1]; exact S.1, by rw [e.2.1 0 (by decide) (by decide)]; exact S.2⟩
theorem TF.rs {h h' : Mem} (e : TF h h') (S : RS h) : RS h' := by unfold RS at *; rw [e.1, e.2.1 46 (by decide) (by decide)]; exact S
theorem TF.c28_ {h h' : Mem} (e1 : h'.1 = h.1) (e2 : h'.2.2.2 = h.2.2.2) (c : CT h 28) : CT h' 28 := c.tf e1 (by rw [e2])
theorem l_all_61 (w : WF V) (hN : 300 ≤ N) (hT0 : 0 < vT V) (q : CP 17 p) {k i : Int} (hk : 1 ≤ k ∧ k ≤ 5) (i1 : -1 ≤ i) (i2 : i < 2147483648) {f : Nat} (hf : f < vF V) (hw : ways V ≤ 243) : ∀ (d v n : Nat) (h : Mem) (U : Vw) (fd : Nat), v + d = ways V → d < n → fd ≤ v → X9S h → RS h → RepC h 17 p U → LOUT V U → ∃ h' U', f_X9_all_61 N n 0 (iz k) (iz i) (iz (f : Int)) (iz (ways V : Int)) (iz (fd : Int)) (iz (v : Int)) h = some (iz (allT V k i f d v fd), h') ∧ TF h h' ∧ h'.2.2.2 = h.2.2.2 ∧ RepC h' 17 p U' := by
  intro d
  have hT := w.T
  have hF := w.F
  induction d with
  | zero =>
    intro v n h U fd hv hn hfd S s R sw
    obtain ⟨n, rfl⟩ : ∃ k, n = k + 1 := ⟨n - 1, by omega⟩
    refine ⟨h, U, ?_, TF.rf, rfl, R⟩
    rw [f_X9_all_61, allT, if_pos (by rw [iz_le (by omega) (by omega) (by omega) (by omega)]; omega)]
    by_cases c : i = -1
    · rw [if_pos c]; exact if_pos (by rw [c]; rfl)
    · rw [if_neg c]; exact if_neg (iz_ne (by omega) (by omega) (by decide) (by decide) c)
  | succ d ih =>
    intro v n h U fd hv hn hfd S s R sw
    obtain ⟨n, rfl⟩ : ∃ k, n = k + 1 := ⟨n - 1, by omega⟩
    obtain ⟨s1, s2, s3, s4, _⟩ := sw.all
    have wU := sw.wf w hT0
    obtain ⟨h1, e1, R1, K1⟩ := l_settle (N := N) R wU q (by omega) (r := v) (by omega)
    rw [s4 v] at e1 R1
    have sw1 : LOUT V (stl V v (vF V)) := Or.inr ⟨v, rfl⟩
    have w1 := sw1.wf w hT0
    have T1 := K1.tf (Or.inl rfl)
    have S1 := T1.x9s S
    have rs1 := T1.rs s
    rw [f_X9_all_61, allT, if_neg (by rw [iz_le (by omega) (by omega) (by omega) (by omega)]; omega), kn1 S, bo (ck_q R.1.1), bq e1]
    rcases fitsI_01 (V := stl V v (vF V)) with z | z
    · rw [z, if_pos rfl]
      obtain ⟨h2, U2, e2, T2, g2, R2⟩ := ih (v + 1) n h1 _ fd (by omega) (by omega) (by omega) S1 rs1 R1 sw1
      refine ⟨h2, U2, (if_pos (by decide)).trans ?_, T1.tr T2, g2.trans K1.2.1, R2⟩
      rw [il1, iz_add]; exact e2
    · rw [z, if_neg (by decide)]
      obtain ⟨h2, e2, R2, K2⟩ := l_breach (N := N) R1 w1 q rs1 hN hk
      have T2 := T1.tr (K2.tf (Or.inl rfl))
      have S2 := T2.x9s S
      have rs2 := T2.rs s
      have bd := breachS_bd w1 (k := k)
      have q46 : h1.1[46]? = some (6, 0) := rs1.1
      rw [if_neg (by decide), kn5 S1, kn1 S1, bo (ck_q q46), bq e2]
      by_cases c5 : breachS (stl V v (vF V)) k = -5
      · rw [if_pos c5, if_pos (by rw [c5]; rfl)]
        by_cases c6 : (fd : Int) = i
        · refine ⟨h2, _, ?_, T2, K2.2.1.trans K1.2.1, R2⟩
          rw [if_pos c6, if_pos (by rw [c6])]
          have e7 : h2.2.1 (ar 17 7) f = iz (va (stl V v (vF V)) 7 f) := R2.2.2.2.1 7 (by decide) f (by show f < 8; omega)
          rw [kn1 S2, bo (gR_q R2.1.1 (R2.1.2 7 (by decide)).1), bo (lI_q (R2.1.2 7 (by decide)).2 (by omega) (by show (f : Int) < (8 : Int); omega) (by decide)), toN, e7]
        · rw [if_neg c6, if_neg (iz_ne (by omega) (by omega) (by omega) (by omega) c6)]
          obtain ⟨h3, U3, e3, T3, g3, R3⟩ := ih (v + 1) n h2 _ (fd + 1) (by omega) (by omega) (by omega) S2 rs2 R2 sw1
          refine ⟨h3, U3, ?_, T2.tr T3, g3.trans (K2.2.1.trans K1.2.1), R3⟩
          rw [il1, iz_add, iz_add]; exact e3
      · rw [if_neg c5, if_neg (show ¬ (iz (breachS (stl V v (vF V)) k) = (-5 : Int32)) from iz_ne (by omega) (by omega) (by decide) (by decide) c5)]
        obtain ⟨h3, U3, e3, T3, g3, R3⟩ := ih (v + 1) n h2 _ fd (by omega) (by omega) (by omega) S2 rs2 R2 sw1
        refine ⟨h3, U3, ?_, T2.tr T3, g3.trans (K2.2.1.trans K1.2.1), R3⟩
        rw [il1, iz_add]; exact e3
end
