def FacM (h0 : Mem) (x : Nat → Int) (L b N : Nat) (s i t n : Int) (fac : Nat → Rs) (bnd : Nat) (e : Int) : Prop := ∀ (h : Mem) (P : Nat) (W B : List Int) (m : Nat), PS h0 x L b h P → STK h W B e → W.length + B.length ≤ P → (∀ c ∈ W, 0 ≤ c ∧ c ≤ 127) → L + 2 ≤ m + P →
  ((fac P).1 = true → ∃ v : Nat, v ≤ 1 ∧ (∀ sum f, f < bnd → run s i t n (fac P).2.2 (sum, f) = some (sum, 2 * f + v)) ∧ ∃ (h' : Mem) (m' : Nat), f_X10_takesE_17 N m 71 (iz 1) h = f_X10_takesE_17 N m' 71 (iz 0) h' ∧ PS h0 x L b h' (fac P).2.1 ∧ STK h' (pushS W e v).1 ((pushS W e v).2.2 :: B) (pushS W e v).2.1 ∧ L + 2 ≤ m' + (fac P).2.1 ∧ P < (fac P).2.1) ∧
  ((fac P).1 = false → ∃ h', f_X10_takesE_17 N m 71 (iz 1) h = some (iz 0, h') ∧ PS h0 x L b h' (fac P).2.1)
def pnd (ft ff : Bool) (a c f : Nat) : Nat := if ff = true then (if ft = true then f else 2 * f + a) else 2 * (if ft = true then f else 2 * f + a) + c
section
variable {h0 : Mem} {x : Nat → Int} {L b N : Nat} {s i t n : Int}
theorem o38_len (f : Bool) (c : Int) (W : List Int) : (o38 f c W).length = W.length + cr f := by unfold o38 cr; split <;> simp
theorem push_bse {W : List Int} {e v : Int} (h : ∀ c W', W = c :: W' → c ≠ 33) : pushS W e v = (W, e, v) := by
  cases W with
  | nil => rfl
  | cons c W => rw [pushS, if_neg (h c W rfl)]
theorem m_expr {fac : Nat → Rs} {bnd : Nat} {e : Int} (hN : 200 ≤ N) (hb : bnd ≤ 524288) (hf : FacM h0 x L b N s i t n fac bnd e) {W0 B0 : List Int} (hW0 : bse W0) (hWm : ∀ c ∈ W0, 0 ≤ c ∧ c ≤ 127) : ∀ (d : Nat) (ft ff : Bool) (a c P : Nat) (h : Mem) (m : Nat), L < d + P → a ≤ 1 → c ≤ 1 → PS h0 x L b h P → STK h (o38 ff 38 (o38 ft 124 W0)) (o38 ff (c : Int) (o38 ft (a : Int) B0)) e → W0.length + B0.length + 2 * cr ff + 2 * cr ft ≤ P → L + 2 ≤ m + P →
    ((pL fac x L d ft ff P).1 = true → ∃ v : Nat, v ≤ 1 ∧ (∀ sum f, 4 * f + 3 < bnd → run s i t n (pL fac x L d ft ff P).2.2 (sum, pnd ft ff a c f) = some (sum, 2 * f + v)) ∧ ∃ (h1 h2 : Mem) (m' : Nat), f_X10_takesE_17 N m 71 (iz 1) h = f_X10_takesE_17 N (m' + 1) 71 (iz 0) h1 ∧ PS h0 x L b h1 (pL fac x L d ft ff P).2.1 ∧ f_X10_settle N 71 (iz 124) h1 = some h2 ∧ PS h0 x L b h2 (pL fac x L d ft ff P).2.1 ∧ STK h2 W0 ((v : Int) :: B0) e ∧ isAt x L (pL fac x L d ft ff P).2.1 38 = false ∧ isAt x L (pL fac x L d ft ff P).2.1 124 = false ∧ L + 2 ≤ m' + 1 + (pL fac x L d ft ff P).2.1 ∧ P < (pL fac x L d ft ff P).2.1) ∧
    ((pL fac x L d ft ff P).1 = false → ∃ h', f_X10_takesE_17 N m 71 (iz 1) h = some (iz 0, h') ∧ PS h0 x L b h' (pL fac x L d ft ff P).2.1) := by
  intro d
  induction d with
  | zero =>
    intro ft ff a c P h m hd _ _ p
    have := p.2.2.1
    omega
  | succ d ih =>
    intro ft ff a c P h m hd ha hc p k hl hm
    have hmem : ∀ c' ∈ o38 ff 38 (o38 ft 124 W0), 0 ≤ c' ∧ c' ≤ 127 := by
      have h0' : ∀ c' ∈ W0, 0 ≤ c' ∧ c' ≤ 127 := by
        intro c' hc'
        exact hWm c' hc'
      intro c' hc'
      unfold o38 at hc'
      split at hc'
      · split at hc'
        · exact h0' c' hc'
        · rcases List.mem_cons.mp hc' with rfl | z
          · omega
          · exact h0' c' z
      · rcases List.mem_cons.mp hc' with rfl | z
        · omega
        · split at z
          · exact h0' c' z
          · rcases List.mem_cons.mp z with rfl | z
            · omega
            · exact h0' c' z
    have hlen := o38_len ff 38 (o38 ft 124 W0)
    have hlen2 := o38_len ft 124 W0
    have hlen3 := o38_len ff (c : Int) (o38 ft (a : Int) B0)
    have hlen4 := o38_len ft (a : Int) B0
    obtain ⟨f1, f2⟩ := hf h P _ _ m p k (by omega) hmem hm
    rw [pL]
    dsimp only
    cases hr : (fac P).1 with
    | false =>
      rw [if_neg (by decide)]
      exact ⟨fun z => ff_tt z, fun _ => f2 hr⟩
    | true =>
      rw [if_pos rfl]
      obtain ⟨v, hv, hrun, h1, m1, e1, p1, k1, hm1, hP1⟩ := f1 hr
      have hnb : ∀ c' W', o38 ff 38 (o38 ft 124 W0) = c' :: W' → c' ≠ 33 := by
        intro c' W' he
        unfold o38 at he
        split at he
        · split at he
          · have := hW0 c' W' he; omega
          · have := (List.cons.inj he).1; omega
        · have := (List.cons.inj he).1; omega
      rw [push_bse hnb] at k1
      dsimp only at k1
      have hpL := p1.2.2.1
      obtain ⟨m1, rfl⟩ : ∃ q, m1 = q + 1 := ⟨m1 - 1, by omega⟩
      generalize hv1 : (if ff = true then v else min c v) = v1
      have hv1b : v1 ≤ 1 := by rw [← hv1]; split <;> omega
      -- the signs so far
      have run1 : ∀ sum f, 4 * f + 3 < bnd → run s i t n ((fac P).2.2 ++ (if ff = true then [] else [13])) (sum, pnd ft ff a c f) = some (sum, 2 * (if ft = true then f else 2 * f + a) + v1) := by
        intro sum f hfb
        have hp2 : (if ft = true then f else 2 * f + a) ≤ 2 * f + 1 := by split <;> omega
        rw [run_app, hrun sum _ (by unfold pnd; split <;> omega), Option.bind_some]
        unfold pnd
        rw [← hv1]
        cases ff with
        | true => rfl
        | false =>
          simp only [Bool.false_eq_true, if_false]
          exact run_and hc hv (by omega)
      by_cases h38 : isAt x L (fac P).2.1 38 = true
      · rw [if_pos h38]
        dsimp only
        have la := isAt_lt h38
        obtain ⟨h2, es, p2, k2⟩ := m_setl_38 (N := N) (W := o38 ft 124 W0) (B := o38 ft (a : Int) B0) (ff := ff) hN p1 k1 (by omega) hc hv (by
          intro c' W' he
          unfold o38 at he
          split at he
          · exact Or.inr (hW0 c' W' he)
          · exact Or.inl ((List.cons.inj he).1).symm)
        rw [hv1] at k2
        obtain ⟨h3, e3, p3, k3⟩ := m_sep (N := N) (m := m1) p1 hN es p2 k2 (by omega) (Or.inl rfl) h38
        have c0 : cr false = 1 := rfl
        obtain ⟨i1, i2⟩ := ih ft false a v1 ((fac P).2.1 + 1) h3 m1 (by omega) ha hv1b p3 k3 (by omega) (by omega)
        refine ⟨fun z => ?_, fun z => ?_⟩
        · obtain ⟨w, hw, hrw, g1, g2, mm, q1, q2, q3, q4, q5, q6, q7, q8, q9⟩ := i1 z
          refine ⟨w, hw, fun sum f hfb => ?_, g1, g2, mm, by rw [e1, e3, q1], q2, q3, q4, q5, q6, q7, q8, by omega⟩
          rw [run_app, run1 sum f hfb, Option.bind_some]
          have := hrw sum f hfb
          unfold pnd at this
          rw [if_neg (by decide)] at this
          exact this
        · obtain ⟨g1, q1, q2⟩ := i2 z
          exact ⟨g1, by rw [e1, e3, q1], q2⟩
      · rw [if_neg h38]
        rw [Bool.not_eq_true] at h38
        generalize hv2 : (if ft = true then v1 else max a v1) = v2
        have hv2b : v2 ≤ 1 := by rw [← hv2]; split <;> omega
        obtain ⟨h2, es, p2, k2⟩ := m_setl_124 (N := N) (W := W0) (B := B0) (ff := ff) (ft := ft) hN p1 k1 (by omega) ha hc hv hW0
        rw [hv1, hv2] at k2
        have run2 : ∀ sum f, 4 * f + 3 < bnd → run s i t n ((fac P).2.2 ++ (if ff = true then [] else [13]) ++ (if ft = true then [] else [14])) (sum, pnd ft ff a c f) = some (sum, 2 * f + v2) := by
          intro sum f hfb
          rw [run_app, run1 sum f hfb, Option.bind_some, ← hv2]
          cases ft with
          | true => rfl
          | false =>
            simp only [Bool.false_eq_true, if_false]
            exact run_or ha hv1b (by omega)
        by_cases h124 : isAt x L (fac P).2.1 124 = true
        · rw [if_pos h124]
          dsimp only
          have la := isAt_lt h124
          obtain ⟨h3, e3, p3, k3⟩ := m_sep (N := N) (m := m1) p1 hN es p2 k2 (by omega) (Or.inr rfl) h124
          have c0 : cr false = 1 := rfl
          have c1 : cr true = 0 := rfl
          obtain ⟨i1, i2⟩ := ih false true v2 c ((fac P).2.1 + 1) h3 m1 (by omega) hv2b hc p3 k3 (by omega) (by omega)
          refine ⟨fun z => ?_, fun z => ?_⟩
          · obtain ⟨w, hw, hrw, g1, g2, mm, q1, q2, q3, q4, q5, q6, q7, q8, q9⟩ := i1 z
            refine ⟨w, hw, fun sum f hfb => ?_, g1, g2, mm, by rw [e1, e3, q1], q2, q3, q4, q5, q6, q7, q8, by omega⟩
            rw [run_app, run2 sum f hfb, Option.bind_some]
            have := hrw sum f hfb
            unfold pnd at this
            rw [if_pos rfl, if_neg (by decide)] at this
            exact this
          · obtain ⟨g1, q1, q2⟩ := i2 z
            exact ⟨g1, by rw [e1, e3, q1], q2⟩
        · rw [if_neg h124]
          dsimp only
          rw [Bool.not_eq_true] at h124
          refine ⟨fun _ => ⟨v2, hv2b, run2, h1, h2, m1, e1, p1, es, p2, k2, h38, h124, hm1, hP1⟩, fun z => tt_ff z⟩
end
