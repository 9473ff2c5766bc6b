section
variable {h : Mem} {V : Vw} {p pd b N : Nat}
theorem SP_98 : 98 ∉ SP := by decide
theorem m_good_71 (w : WF V) (hN : 300 ≤ N) {f v : Nat} {best most : Int} (hf : f < vF V) (hv : v ≤ 243) (hb : -1 ≤ best ∧ best ≤ 3) (hm : -100000000 ≤ most ∧ most ≤ 100000000) (k40 : Nat → Int32 → Int32 → Int64 → Int32 → Mem → Option (Int32 × Mem)) : ∀ (d i n : Nat) (h : Mem), i + d = vF V → d < n → RepM h V → ∃ h', f_X10_good_71 N n 71 (iz (f : Int)) (iz best) (lz most) (iz (v : Int)) (lz (wAll V i)) (iz (i : Int)) h k40 = (if best < 0 ∨ most < wAll V (vF V) then k40 71 (iz (f : Int)) (iz (va V 7 f)) (lz (wAll V (vF V))) (iz ((v : Int) + 1)) h' else k40 71 (iz (f : Int)) (iz best) (lz most) (iz ((v : Int) + 1)) h') ∧ RepM h' V ∧ FM SP h h' := by
  intro d
  have hF := w.F
  induction d with
  | zero =>
    intro i n h hi hn R
    obtain ⟨n, rfl⟩ : ∃ k, n = k + 1 := ⟨n - 1, by omega⟩
    obtain rfl : i = vF V := by omega
    have wb := wAll_bd w (vF V) (by omega)
    have e7 : h.2.1 79 f = iz (va V 7 f) := R.2.2.1 7 (by decide) f (by show f < 8; omega)
    have e118 : ∀ x : Int64, f_X10_good_118 N 71 (iz (f : Int)) (iz (v : Int)) x h k40 = k40 71 (iz (f : Int)) (iz (va V 7 f)) x (iz ((v : Int) + 1)) h := fun x => by
      unfold f_X10_good_118
      rw [kr79 R.1, kl79 R.1 (by omega) (by omega), toN, e7, il1, iz_add]
    refine ⟨h, ?_, R, FM.rf⟩
    rw [f_X10_good_71, kmF R, if_pos (Int32.le_refl _)]
    by_cases c : best < 0
    · rw [if_pos (show best < 0 ∨ most < wAll V (vF V) from Or.inl c), if_pos (show iz best < (0 : Int32) by rw [il0, iz_lt (by omega) (by omega) (by omega) (by omega)]; exact c), e118]
    · rw [if_neg (show ¬ (iz best < (0 : Int32)) by rw [il0, iz_lt (by omega) (by omega) (by omega) (by omega)]; exact c)]
      by_cases c2 : most < wAll V (vF V)
      · rw [if_pos (show best < 0 ∨ most < wAll V (vF V) from Or.inr c2), if_pos (show (0 : Int32) < lg_cmp (lz (wAll V (vF V))) (lz most) by rw [il0, lcmp_lt (by omega) (by omega) (by omega) (by omega)]; exact c2), e118]
      · rw [if_neg (show ¬ (best < 0 ∨ most < wAll V (vF V)) by omega), if_neg (show ¬ ((0 : Int32) < lg_cmp (lz (wAll V (vF V))) (lz most)) by rw [il0, lcmp_lt (by omega) (by omega) (by omega) (by omega)]; exact c2), il1, iz_add]
  | succ d ih =>
    intro i n h hi hn R
    obtain ⟨n, rfl⟩ : ∃ k, n = k + 1 := ⟨n - 1, by omega⟩
    have h7 := w.f (j := (i : Int)) (by omega) (by omega)
    have e7 : h.2.1 79 i = iz (va V 7 i) := R.2.2.1 7 (by decide) i (by show i < 8; omega)
    obtain ⟨h1, e1, R1, F1⟩ := m_worth (N := N) R w (by omega) (f := i) (t := va V 7 i) (by omega) ⟨h7.2.2.1.1, by omega⟩
    obtain ⟨h2, e2, R2, F2⟩ := ih (i + 1) n h1 (by omega) (by omega) R1
    refine ⟨h2, ?_, R2, F1.tr F2⟩
    rw [f_X10_good_71, kmF R, if_neg (show ¬ (iz (vF V : Int) ≤ iz (i : Int)) by rw [iz_le (by omega) (by omega) (by omega) (by omega)]; omega), kr79 R.1, kl79 R.1 (by omega) (by omega), toN, e7, kmC R.1, bq e1, lz_add, il1, iz_add]
    exact e2
theorem m_good_40 (w : WF V) (hN : 300 ≤ N) (hT0 : 0 < vT V) {f : Nat} (hf : f < vF V) (hw : ways V ≤ 243) : ∀ (d v n : Nat) (h : Mem) (U : Vw) (best most : Int), v + d = ways V → d < n → (-1 ≤ best ∧ best ≤ 3) → (-100000000 ≤ most ∧ most ≤ 100000000) → RepM h U → KEP h V → LOUT V U → ∃ h', f_X10_good_40 N n 71 (iz (f : Int)) (iz best) (lz most) (iz (v : Int)) h = some (iz (goodT V f d v best most), h') ∧ RepM h' V ∧ FM SX h h' := by
  intro d
  have hT := w.T
  have hF := w.F
  induction d with
  | zero =>
    intro v n h U best most hv hn hb hm R kp sw
    obtain ⟨n, rfl⟩ : ∃ k, n = k + 1 := ⟨n - 1, by omega⟩
    obtain ⟨s1, s2, s3, s4, s5⟩ := sw.all
    obtain ⟨h1, e1, R1, F1, _⟩ := m_putBack (N := N) R (by omega) kp s5
    have er := m_rowsOf (N := N) R (sw.wf w hT0) (by omega)
    rw [s3] at er
    refine ⟨h1, ?_, R1, F1.mono SK_SX⟩
    rw [f_X10_good_40, goodT, kmC R.1, bq er, if_pos (show iz (ways V : Int) ≤ iz (v : Int) by rw [iz_le (by omega) (by omega) (by omega) (by omega)]; omega), kmC R.1, bo e1]
  | succ d ih =>
    intro v n h U best most hv hn hb hm R kp sw
    obtain ⟨n, rfl⟩ : ∃ k, n = k + 1 := ⟨n - 1, by omega⟩
    obtain ⟨s1, s2, s3, s4, s5⟩ := sw.all
    have wU := sw.wf w hT0
    have er := m_rowsOf (N := N) R wU (by omega)
    rw [s3] at er
    obtain ⟨h1, e1, R1, F1⟩ := m_layOut (N := N) R wU (by omega) (by omega) (r := v) (by omega)
    rw [s4 v] at R1
    have sw1 : LOUT V (stl V v (vF V)) := Or.inr ⟨v, rfl⟩
    have w1 := sw1.wf w hT0
    have eF : vF (stl V v (vF V)) = vF V := sw1.all.2.1
    have k1 : KEP h1 V := kp.eq_ (F1.2.2.2.1 98 (by decide) SR_98)
    have eroom := m_room (N := N) R1 w1 (by omega)
    rw [f_X10_good_40, goodT, kmC R.1, bq er, if_neg (show ¬ (iz (ways V : Int) ≤ iz (v : Int)) by rw [iz_le (by omega) (by omega) (by omega) (by omega)]; omega), kmC R.1, bo e1, kmC R1.1, bq eroom]
    rcases fitsI_01 (V := stl V v (vF V)) with z | z
    · rw [z, if_pos (show iz 0 = (0 : Int32) from rfl), if_pos (show (0 : Int) = 0 from rfl)]
      obtain ⟨h2, e2, R2, F2⟩ := ih (v + 1) n h1 _ best most (by omega) (by omega) hb hm R1 k1 sw1
      refine ⟨h2, ?_, R2, (F1.mono SR_SX).tr F2⟩
      rw [il1, iz_add]; exact e2
    · rw [z, if_neg (show ¬ (iz 1 = (0 : Int32)) by decide), if_neg (show ¬ ((1 : Int) = 0) by decide)]
      obtain ⟨h2, e2, R2, F2⟩ := m_good_71 (N := N) w1 hN (f := f) (v := v) (best := best) (most := most) (by omega) (by omega) hb hm (fun v0 v1 v2 v3 v5 h => f_X10_good_40 N n v0 v1 v2 v3 v5 h) (vF V) 0 N h1 (by omega) (by omega) R1
      rw [eF] at e2
      have k2 : KEP h2 V := k1.eq_ (F2.2.2.2.1 98 (by decide) SP_98)
      have wb := wAll_bd w1 (vF V) (by omega)
      have h7 := w1.f (j := (f : Int)) (by omega) (by omega)
      have e2' : f_X10_good_71 N N 71 (iz (f : Int)) (iz best) (lz most) (iz (v : Int)) (0 : Int64) (0 : Int32) h1 (fun v0 v1 v2 v3 v5 h => f_X10_good_40 N n v0 v1 v2 v3 v5 h) = _ := e2
      rw [e2']
      by_cases c : best < 0 ∨ most < wAll (stl V v (vF V)) (vF V)
      · rw [if_pos c, if_pos c]
        obtain ⟨h3, e3, R3, F3⟩ := ih (v + 1) n h2 _ (va (stl V v (vF V)) 7 f) (wAll (stl V v (vF V)) (vF V)) (by omega) (by omega) (by omega) (by omega) R2 k2 sw1
        exact ⟨h3, e3, R3, ((F1.mono SR_SX).tr (F2.mono SP_SX)).tr F3⟩
      · rw [if_neg c, if_neg c]
        obtain ⟨h3, e3, R3, F3⟩ := ih (v + 1) n h2 _ best most (by omega) (by omega) hb hm R2 k2 sw1
        exact ⟨h3, e3, R3, ((F1.mono SR_SX).tr (F2.mono SP_SX)).tr F3⟩
end
