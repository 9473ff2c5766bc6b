def goodT (V : Vw) (f : Nat) : Nat → Nat → Int → Int → Int
  | 0, _, best, _ => best
  | d + 1, v, best, most => if fitsI (stl V v (vF V)) = 0 then goodT V f d (v + 1) best most
    else if best < 0 ∨ most < wAll (stl V v (vF V)) (vF V) then goodT V f d (v + 1) (va (stl V v (vF V)) 7 f) (wAll (stl V v (vF V)) (vF V))
    else goodT V f d (v + 1) best most
section
variable {h : Mem} {V : Vw} {p pd b N : Nat}
theorem l_good_52 (w : WF V) (hN : 300 ≤ N) (hT0 : 0 < vT V) (q : CP 17 p) {f : Nat} (hf : f < vF V) (hw : ways V ≤ 243) : ∀ (d v n : Nat) (h : Mem) (U : Vw) (best most M : Int), v + d = ways V → d < n → (-1 ≤ best ∧ best ≤ 3) → (0 ≤ best → M = most ∧ -100000000 ≤ most ∧ most ≤ 100000000) → (best < 0 → M = -9223372036854775808) → X9S h → RepC h 17 p U → LOUT V U → ∃ h' U', f_X9_good_52 N n 0 (iz (f : Int)) (iz (ways V : Int)) (lz M) (iz best) (iz (v : Int)) h = some (iz (goodT V f d v best most), h') ∧ TF h h' ∧ h'.2.2.2 = h.2.2.2 ∧ RepC h' 17 p U' := by
  intro d
  have hT := w.T
  have hF := w.F
  induction d with
  | zero =>
    intro v n h U best most M hv hn hb hm hM S R sw
    obtain ⟨n, rfl⟩ : ∃ k, n = k + 1 := ⟨n - 1, by omega⟩
    refine ⟨h, U, ?_, TF.rf, rfl, R⟩
    rw [f_X9_good_52, goodT]
    exact if_pos (by rw [iz_le (by omega) (by omega) (by omega) (by omega)]; omega)
  | succ d ih =>
    intro v n h U best most M hv hn hb hm hM S R sw
    obtain ⟨n, rfl⟩ : ∃ k, n = k + 1 := ⟨n - 1, by omega⟩
    obtain ⟨s1, s2, s3, s4, _⟩ := sw.all
    have wU := sw.wf w hT0
    obtain ⟨h1, e1, R1, K1⟩ := l_settle (N := N) R wU q (by omega) (r := v) (by omega)
    rw [s4 v] at e1 R1
    have sw1 : LOUT V (stl V v (vF V)) := Or.inr ⟨v, rfl⟩
    have w1 := sw1.wf w hT0
    have T1 := K1.tf (Or.inl rfl)
    have S1 := T1.x9s S
    have eF : vF (stl V v (vF V)) = vF V := sw1.all.2.1
    rw [f_X9_good_52, goodT, if_neg (by rw [iz_le (by omega) (by omega) (by omega) (by omega)]; omega), kn1 S, bo (ck_q R.1.1), bq e1]
    rcases fitsI_01 (V := stl V v (vF V)) with z | z
    · rw [z, if_pos rfl]
      obtain ⟨h2, U2, e2, T2, g2, R2⟩ := ih (v + 1) n h1 _ best most M (by omega) (by omega) hb hm hM S1 R1 sw1
      refine ⟨h2, U2, (if_pos (by decide)).trans ?_, T1.tr T2, g2.trans K1.2.1, R2⟩
      rw [il1, iz_add]; exact e2
    · rw [z, if_neg (show ¬ ((1 : Int) = 0) by decide)]
      have ea := l_worthOfAll (N := N) R1 w1 (by omega)
      rw [eF] at ea
      have wb := wAll_bd w1 (vF V) (by omega)
      rw [if_neg (show ¬ (iz 1 = (0 : Int32)) by decide), kn1 S1, bo (ck_q R1.1.1), bq ea]
      generalize wAll (stl V v (vF V)) (vF V) = W at *
      have h7 := w1.f (j := (f : Int)) (by omega) (by omega)
      by_cases c : best < 0 ∨ most < W
      · rw [if_pos c]
        have e7 : h1.2.1 (ar 17 7) f = iz (va (stl V v (vF V)) 7 f) := R1.2.2.2.1 7 (by decide) f (by show f < 8; omega)
        obtain ⟨h2, U2, e2, T2, g2, R2⟩ := ih (v + 1) n h1 _ (va (stl V v (vF V)) 7 f) W W (by omega) (by omega) (by omega) (fun _ => by omega) (fun _ => by omega) S1 R1 sw1
        refine ⟨h2, U2, ?_, T1.tr T2, g2.trans K1.2.1, R2⟩
        rw [if_neg (show ¬ (lg_cmp (lz W) (lz M) ≤ (0 : Int32)) by
          rw [il0, lcmp_le (by omega) (by omega) (by omega) (by omega)]
          omega)]
        rw [kn1 S1, bo (gR_q R1.1.1 (R1.1.2 7 (by decide)).1), bo (lI_q (R1.1.2 7 (by decide)).2 (by omega) (by show (f : Int) < (8 : Int); omega) (by decide)), toN, e7, il1, iz_add]
        exact e2
      · rw [if_neg c]
        obtain ⟨h2, U2, e2, T2, g2, R2⟩ := ih (v + 1) n h1 _ best most M (by omega) (by omega) hb hm hM S1 R1 sw1
        refine ⟨h2, U2, ?_, T1.tr T2, g2.trans K1.2.1, R2⟩
        rw [if_pos (show lg_cmp (lz W) (lz M) ≤ (0 : Int32) by
          rw [il0, lcmp_le (by omega) (by omega) (by omega) (by omega)]
          omega)]
        rw [il1, iz_add]; exact e2
end
