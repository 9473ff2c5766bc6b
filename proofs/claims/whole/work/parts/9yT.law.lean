/-! the law: its loop, a call a round -/
section
variable {γ : Type} {h : Mem} {a c j : Nat} {y : γ}
theorem ckb {k : Unit → Option γ} (e : (ck h a c).bind k = some y) : ck h a c = some () := by
  cases q : ck h a c with
  | none => rw [q] at e; cases e
  | some u => rfl
theorem ckI {k : Int32 → Option γ} (e : (gI h a c j).bind k = some y) : ck h a c = some () := by
  by_cases q : h.1[a]? = some (c, 0)
  · exact if_pos q
  · rw [show gI h a c j = none from if_neg q] at e; cases e
theorem ckR {k : Nat → Option γ} (e : (gR h a c j).bind k = some y) : ck h a c = some () := by
  by_cases q : h.1[a]? = some (c, 0)
  · exact if_pos q
  · rw [show gR h a c j = none from if_neg q] at e; cases e
theorem ckS {v : Int32} {k : Mem → Option γ} (e : (sI h a c j v).bind k = some y) : ck h a c = some () := by
  by_cases q : h.1[a]? = some (c, 0)
  · exact if_pos q
  · rw [show sI h a c j v = none from if_neg q] at e; cases e
end
theorem lgc {x : Int64} : lg_cmp x x = 0 := by
  unfold lg_cmp
  have n : ¬ (x > x) := by
    rw [gt_iff_lt, Int64.lt_iff_toInt_lt]
    exact Int.lt_irrefl _
  rw [if_neg n]
  exact if_pos rfl
theorem lX_q {xs : Nat → Int32} {L i : Nat} (hi : i < L) (hL : L ≤ 3072) : lX xs L (iz (i : Int)) = some (xs i) := by
  unfold lX
  rw [iz_nat (by omega) (by omega), Int.toNat_natCast]
  exact if_neg (by rw [il0, iz_lt (by omega) (by omega) (by omega) (by omega)]; omega)
theorem REL.up_ {h : Mem} {V : Vw} {p pd b b' : Nat} (r : REL h V p pd b) (hb : b ≤ b') : REL h V p pd b' := by
  obtain ⟨r1, r2, r3, r4, r5, r6, r7, o1, o2, o3, o4, o5, o6, ⟨la, l1, l2⟩, o8⟩ := r
  exact ⟨r1, r2, r3, r4, r5, r6, r7, o1, o2, o3, o4, o5, o6, ⟨la, by omega, l2⟩, o8⟩
section
variable {N : Nat} {h : Mem} {v1 v2 v3 v4 v5 : Int32} {v6 : Int64}
theorem cx_town {y : Int32 × Mem} (e : f_X10_town N 71 v1 h = some y) : ck h 71 10 = some () := by
  unfold f_X10_town at e
  exact ckb e
theorem cx_family {y : Int32 × Mem} (e : f_X10_family N 71 v1 v2 v3 h = some y) : ck h 71 10 = some () := by
  unfold f_X10_family at e
  exact ckb e
theorem cx_put {y : Int32 × Mem} (e : f_X10_put N 71 v1 v2 v3 h = some y) : ck h 71 10 = some () := by
  unfold f_X10_put at e
  exact ckb e
theorem cx_of {y : Int64 × Mem} (e : f_X10_of N 71 v1 v2 h = some y) : ck h 71 10 = some () := by
  unfold f_X10_of at e
  exact ckb e
theorem cx_has {y : Int32 × Mem} (e : f_X10_has N 71 v1 v2 h = some y) : ck h 71 10 = some () := by
  unfold f_X10_has at e
  exact ckb e
theorem cx_feed {y : Int32 × Mem} (e : f_X10_feed N 71 v1 v2 h = some y) : ck h 71 10 = some () := by
  unfold f_X10_feed at e
  exact ckb e
theorem cx_land {y : Int32 × Mem} (e : f_X10_land N 71 h = some y) : ck h 71 10 = some () := by
  unfold f_X10_land at e
  exact ckR e
theorem cx_worth {y : Int64 × Mem} (e : f_X10_worth N 71 v1 v2 h = some y) : ck h 71 10 = some () := by
  unfold f_X10_worth at e
  exact ckb e
theorem cx_choice {y : Int32 × Mem} (e : f_X10_choice N 71 v1 v2 h = some y) : ck h 71 10 = some () := by
  unfold f_X10_choice at e
  exact ckb e
theorem cx_choose {y : Int32 × Mem} (e : f_X10_choose N 71 v1 h = some y) : ck h 71 10 = some () := by
  unfold f_X10_choose at e
  exact ckb e
theorem cx_rest {y : Int32 × Mem} (e : f_X10_rest N 71 v1 h = some y) : ck h 71 10 = some () := by
  unfold f_X10_rest at e
  exact ckb e
theorem cx_broken {y : Int32 × Mem} (e : f_X10_broken N 71 v1 h = some y) : ck h 71 10 = some () := by
  unfold f_X10_broken at e
  exact ckb e
theorem cx_go {y : Int32 × Mem} (e : f_X10_go N 71 v1 v2 h = some y) : ck h 71 10 = some () := by
  unfold f_X10_go at e
  exact ckb e
theorem cx_step {y : Int32 × Mem} (e : f_X10_step N 71 v1 h = some y) : ck h 71 10 = some () := by
  unfold f_X10_step at e
  exact ckb e
theorem cx_end {y : Int32 × Mem} (e : f_X10_end N 71 v1 h = some y) : ck h 71 10 = some () := by
  unfold f_X10_end at e
  exact ckb e
theorem cx_judge {y : Int32 × Mem} (e : f_X10_judge N 71 v1 v2 v3 h = some y) : ck h 71 10 = some () := by
  unfold f_X10_judge at e
  exact ckb e
theorem cx_all {y : Int32 × Mem} (e : f_X10_all N 71 v1 v2 v3 h = some y) : ck h 71 10 = some () := by
  unfold f_X10_all at e
  exact ckb e
theorem cx_good {y : Int32 × Mem} (e : f_X10_good N 71 v1 h = some y) : ck h 71 10 = some () := by
  unfold f_X10_good at e
  exact ckb e
theorem cx_rise {y : Int32 × Mem} (e : f_X10_rise N 71 h = some y) : ck h 71 10 = some () := by
  unfold f_X10_rise at e
  cases N with
  | zero => rw [f_X10_rise_2] at e; cases e
  | succ n => rw [f_X10_rise_2, if_neg (show ¬ ((4 : Int32) ≤ (0 : Int32)) by decide)] at e; exact ckR e
theorem cx_sorted {y : Int32 × Mem} (e : f_X10_sorted N 71 v1 h = some y) : ck h 71 10 = some () := by
  unfold f_X10_sorted at e
  exact ckb e
theorem cx_tip {y : Int32 × Mem} (e : f_X10_tip N 71 v1 h = some y) : ck h 71 10 = some () := by
  unfold f_X10_tip at e
  exact ckb e
theorem cx_law {y : Int32 × Mem} (e : f_X10_law N 71 v1 v2 v3 v4 h = some y) : ck h 71 10 = some () := by
  unfold f_X10_law at e
  exact ckb e
theorem cx_mend {y : Int32 × Mem} (e : f_X10_mend N 71 v1 v2 h = some y) : ck h 71 10 = some () := by
  unfold f_X10_mend at e
  exact ckb e
theorem cx_edge {y : Int32 × Mem} (e : f_X10_edge N 71 v1 v2 v3 h = some y) : ck h 71 10 = some () := by
  unfold f_X10_edge at e
  exact ckb e
theorem cx_year {y : Int32 × Mem} (e : f_X10_year N 71 v1 h = some y) : ck h 71 10 = some () := by
  unfold f_X10_year at e
  exact ckb e
theorem cx_act {y : Int32 × Mem} (e : f_X10_act N 71 v1 v2 v3 h = some y) : ck h 71 10 = some () := by
  unfold f_X10_act at e
  exact ckS e
theorem cx_trace {y : Int32 × Mem} (e : f_X10_trace N 71 v1 h = some y) : ck h 71 10 = some () := by
  unfold f_X10_trace at e
  exact ckb e
theorem cx_taken {y : Int32 × Mem} (e : f_X10_taken N 71 v1 v2 h = some y) : ck h 71 10 = some () := by
  unfold f_X10_taken at e
  exact ckb e
theorem cx_count {x : Int32} {h2 : Mem} (e : f_X10_count N 71 v1 h = some (x, h2)) (q2 : ck h2 71 10 = some ()) : ck h 71 10 = some () := by
  unfold f_X10_count at e
  repeat (split at e; exact ckI e)
  first | exact ckI e | (cases e; exact q2)
theorem cx_tape {y : Int32 × Mem} (e : f_X10_tape N 71 v1 v2 v3 h = some y) : ck h 71 10 = some () := by
  unfold f_X10_tape at e
  exact ckb e
theorem cx_item {y : Int32 × Mem} (e : f_X10_item N 71 v1 v2 v6 h = some y) : ck h 71 10 = some () := by
  unfold f_X10_item at e
  exact ckb e
theorem cx_read {y : Int64 × Mem} (e : f_X10_read N 71 v1 v2 h = some y) : ck h 71 10 = some () := by
  unfold f_X10_read at e
  exact ckb e
theorem cx_shift {y : Int32 × Mem} (e : f_X10_shift N 71 v1 v2 v3 v4 v5 h = some y) : ck h 71 10 = some () := by
  unfold f_X10_shift at e
  exact ckb e
end
set_option maxHeartbeats 4000000 in
theorem law_loop {xs : Nat → Int32} {L N : Nat} (hL : L ≤ 3072) (hN : 6000 ≤ N) : ∀ (d n w b : Nat) (h : Mem) (V : Vw) (p pd : Nat), L < w + 6 * d + 6 → d < n → b + d ≤ 900 → w ≤ 4000 → REL h V p pd b → f_L_law_18 xs L N n 0 71 (iz (w : Int)) h = some () := by
  intro d
  have hN3 : 300 ≤ N := by omega
  induction d with
  | zero =>
    intro n w b h V p pd hw hn hb hq r
    obtain ⟨n, rfl⟩ : ∃ k, n = k + 1 := ⟨n - 1, by omega⟩
    rw [f_L_law_18]
    exact if_pos (by rw [nI_iz, show (6 : Int32) = iz 6 from rfl, iz_sub, iz_lt (by omega) (by omega) (by omega) (by omega)]; omega)
  | succ d ih =>
    intro n w b h V p pd hw hn hb hq r
    obtain ⟨n, rfl⟩ : ∃ k, n = k + 1 := ⟨n - 1, by omega⟩
    rw [f_L_law_18]
    by_cases c : L < w + 6
    · exact if_pos (by rw [nI_iz, show (6 : Int32) = iz 6 from rfl, iz_sub, iz_lt (by omega) (by omega) (by omega) (by omega)]; omega)
    refine (if_neg (by rw [nI_iz, show (6 : Int32) = iz 6 from rfl, iz_sub, iz_lt (by omega) (by omega) (by omega) (by omega)]; omega)).trans ?_
    have S := r.2.2.2.2.2.2.2.1
    have q0 : lX xs L (iz (w : Int)) = some (xs w) := lX_q (by omega) hL
    have q1 : lX xs L (iz (w : Int) + (1 : Int32)) = some (xs (w + 1)) := by rw [il1, iz_add]; exact lX_q (i := w + 1) (by omega) hL
    have q2 : lX xs L (iz (w : Int) + (2 : Int32)) = some (xs (w + 2)) := by rw [il2, iz_add]; exact lX_q (i := w + 2) (by omega) hL
    have q3 : lX xs L (iz (w : Int) + (3 : Int32)) = some (xs (w + 3)) := by rw [il3, iz_add]; exact lX_q (i := w + 3) (by omega) hL
    have q4 : lX xs L (iz (w : Int) + (4 : Int32)) = some (xs (w + 4)) := by rw [il4, iz_add]; exact lX_q (i := w + 4) (by omega) hL
    have q5 : lX xs L (iz (w : Int) + (5 : Int32)) = some (xs (w + 5)) := by rw [il5, iz_add]; exact lX_q (i := w + 5) (by omega) hL
    have fin : ∀ (h2 : Mem) (V2 : Vw) (p2 pd2 b2 : Nat), REL h2 V2 p2 pd2 b2 → b2 ≤ b + 1 → f_L_law_18 xs L N n 0 71 (iz (w : Int) + 6) h2 = some () := by
      intro h2 V2 p2 pd2 b2 r2 hb2
      rw [show (6 : Int32) = iz 6 from rfl, iz_add]
      exact ih n (w + 6) (b + 1) h2 V2 p2 pd2 (by omega) (by omega) (by omega) (by omega) (r2.up_ hb2)
    rw [bo q0]
    generalize xs w &&& (63 : Int32) = k0
    by_cases c0 : k0 = 0
    · refine (if_pos c0).trans ?_
      obtain ⟨r0, h1, h2, V2, p2, pd2, a1, a2, r2⟩ := t_town (N := N) hN3 r (xs (w + 1))
      have ca := cx_town a2
      rw [bo q1, knC S, bq a1, bo q1, bo ca, bq a2]
      exact (if_pos rfl).trans (fin h2 V2 p2 pd2 b r2 (by omega))
    refine (if_neg c0).trans ?_
    by_cases c1 : k0 = 1
    · refine (if_pos c1).trans ?_
      obtain ⟨r0, h1, h2, V2, p2, pd2, a1, a2, r2⟩ := t_family (N := N) hN3 r (xs (w + 1)) (xs (w + 2)) (xs (w + 3))
      have ca := cx_family a2
      rw [bo q1, bo q2, bo q3, knC S, bq a1, bo q1, bo q2, bo q3, bo ca, bq a2]
      exact (if_pos rfl).trans (fin h2 V2 p2 pd2 b r2 (by omega))
    refine (if_neg c1).trans ?_
    by_cases c2 : k0 = 2
    · refine (if_pos c2).trans ?_
      obtain ⟨r0, h1, h2, V2, p2, pd2, a1, a2, r2⟩ := t_put (N := N) hN3 r (xs (w + 1)) (xs (w + 2)) (xs (w + 3))
      have ca := cx_put a2
      rw [bo q1, bo q2, bo q3, knC S, bq a1, bo q1, bo q2, bo q3, bo ca, bq a2]
      exact (if_pos rfl).trans (fin h2 V2 p2 pd2 b r2 (by omega))
    refine (if_neg c2).trans ?_
    by_cases c3 : k0 = 3
    · refine (if_pos c3).trans ?_
      obtain ⟨r0, h1, h2, V2, p2, pd2, a1, a2, r2⟩ := t_of (N := N) hN3 r (xs (w + 1)) (xs (w + 2))
      have ca := cx_of a2
      rw [bo q1, bo q2, knC S, bq a1, bo q1, bo q2, bo ca, bq a2]
      exact (if_pos lgc).trans (fin h2 V2 p2 pd2 b r2 (by omega))
    refine (if_neg c3).trans ?_
    by_cases c4 : k0 = 4
    · refine (if_pos c4).trans ?_
      obtain ⟨r0, h1, h2, V2, p2, pd2, a1, a2, r2⟩ := t_has (N := N) hN3 r (xs (w + 1)) (xs (w + 2))
      have ca := cx_has a2
      rw [bo q1, bo q2, knC S, bq a1, bo q1, bo q2, bo ca, bq a2]
      exact (if_pos rfl).trans (fin h2 V2 p2 pd2 b r2 (by omega))
    refine (if_neg c4).trans ?_
    by_cases c5 : k0 = 5
    · refine (if_pos c5).trans ?_
      obtain ⟨r0, h1, h2, V2, p2, pd2, a1, a2, r2⟩ := t_feed (N := N) hN3 r (xs (w + 1)) (xs (w + 2))
      have ca := cx_feed a2
      rw [bo q1, bo q2, knC S, bq a1, bo q1, bo q2, bo ca, bq a2]
      exact (if_pos rfl).trans (fin h2 V2 p2 pd2 b r2 (by omega))
    refine (if_neg c5).trans ?_
    by_cases c6 : k0 = 6
    · refine (if_pos c6).trans ?_
      obtain ⟨r0, h1, h2, V2, p2, pd2, a1, a2, r2⟩ := p_land (N := N) hN3 (by omega) r
      have ca := cx_land a2
      rw [knC S, bq a1, bo ca, bq a2]
      exact (if_pos rfl).trans (fin h2 V2 p2 pd2 (b + 1) r2 (by omega))
    refine (if_neg c6).trans ?_
    by_cases c7 : k0 = 7
    · refine (if_pos c7).trans ?_
      obtain ⟨r0, h1, h2, V2, p2, pd2, a1, a2, r2⟩ := t_worth (N := N) hN3 r (xs (w + 1)) (xs (w + 2))
      have ca := cx_worth a2
      rw [bo q1, bo q2, knC S, bq a1, bo q1, bo q2, bo ca, bq a2]
      exact (if_pos lgc).trans (fin h2 V2 p2 pd2 b r2 (by omega))
    refine (if_neg c7).trans ?_
    by_cases c8 : k0 = 8
    · refine (if_pos c8).trans ?_
      obtain ⟨r0, h1, h2, V2, p2, pd2, a1, a2, r2⟩ := t_choice (N := N) hN3 r (xs (w + 1)) (xs (w + 2))
      have ca := cx_choice a2
      rw [bo q1, bo q2, knC S, bq a1, bo q1, bo q2, bo ca, bq a2]
      exact (if_pos rfl).trans (fin h2 V2 p2 pd2 b r2 (by omega))
    refine (if_neg c8).trans ?_
    by_cases c9 : k0 = 9
    · refine (if_pos c9).trans ?_
      obtain ⟨r0, h1, h2, V2, p2, pd2, a1, a2, r2⟩ := t_choose (N := N) hN3 r (xs (w + 1))
      have ca := cx_choose a2
      rw [bo q1, knC S, bq a1, bo q1, bo ca, bq a2]
      exact (if_pos rfl).trans (fin h2 V2 p2 pd2 b r2 (by omega))
    refine (if_neg c9).trans ?_
    by_cases c10 : k0 = 10
    · refine (if_pos c10).trans ?_
      obtain ⟨r0, h1, h2, V2, p2, pd2, a1, a2, r2⟩ := t_rest (N := N) hN3 r (xs (w + 1))
      have ca := cx_rest a2
      rw [bo q1, knC S, bq a1, bo q1, bo ca, bq a2]
      exact (if_pos rfl).trans (fin h2 V2 p2 pd2 b r2 (by omega))
    refine (if_neg c10).trans ?_
    by_cases c11 : k0 = 11
    · refine (if_pos c11).trans ?_
      obtain ⟨r0, h1, h2, V2, p2, pd2, a1, a2, r2⟩ := t_broken (N := N) hN3 r (xs (w + 1))
      have ca := cx_broken a2
      rw [bo q1, knC S, bq a1, bo q1, bo ca, bq a2]
      exact (if_pos rfl).trans (fin h2 V2 p2 pd2 b r2 (by omega))
    refine (if_neg c11).trans ?_
    by_cases c12 : k0 = 12
    · refine (if_pos c12).trans ?_
      obtain ⟨r0, h1, h2, V2, p2, pd2, a1, a2, r2⟩ := t_go (N := N) hN3 r (xs (w + 1)) (xs (w + 2))
      have ca := cx_go a2
      rw [bo q1, bo q2, knC S, bq a1, bo q1, bo q2, bo ca, bq a2]
      exact (if_pos rfl).trans (fin h2 V2 p2 pd2 b r2 (by omega))
    refine (if_neg c12).trans ?_
    by_cases c13 : k0 = 13
    · refine (if_pos c13).trans ?_
      rw [bo q1]
      by_cases e0 : (xs (w + 1)) = 0
      · refine (if_pos e0).trans ?_
        obtain ⟨r0, h1, h2, V2, p2, pd2, a1, a2, r2⟩ := t_step (N := N) hN3 r (v := 0) (Or.inl rfl)
        have a1' : f_X9_step N 0 (0 : Int32) h = some (r0, h1) := a1
        have a2' : f_X10_step N 71 (0 : Int32) h1 = some (r0, h2) := a2
        have ca := cx_step a2'
        unfold f_L_law_585
        rw [knC S, bq a1', bo q1]
        refine (if_pos e0).trans ?_
        unfold f_L_law_602
        rw [bo ca, bq a2']
        exact (if_pos rfl).trans (fin h2 V2 p2 pd2 b r2 (by omega))
      · refine (if_neg e0).trans ?_
        obtain ⟨r0, h1, h2, V2, p2, pd2, a1, a2, r2⟩ := t_step (N := N) hN3 r (v := 1) (Or.inr rfl)
        have a1' : f_X9_step N 0 (1 : Int32) h = some (r0, h1) := a1
        have a2' : f_X10_step N 71 (1 : Int32) h1 = some (r0, h2) := a2
        have ca := cx_step a2'
        unfold f_L_law_585
        rw [knC S, bq a1', bo q1]
        refine (if_neg e0).trans ?_
        unfold f_L_law_602
        rw [bo ca, bq a2']
        exact (if_pos rfl).trans (fin h2 V2 p2 pd2 b r2 (by omega))
    refine (if_neg c13).trans ?_
    by_cases c14 : k0 = 14
    · refine (if_pos c14).trans ?_
      rw [bo q1]
      by_cases e0 : (xs (w + 1)) = 0
      · refine (if_pos e0).trans ?_
        obtain ⟨r0, h1, h2, V2, p2, pd2, a1, a2, r2⟩ := t_end (N := N) hN3 r (v := 0) (Or.inl rfl)
        have a1' : f_X9_end N 0 (0 : Int32) h = some (r0, h1) := a1
        have a2' : f_X10_end N 71 (0 : Int32) h1 = some (r0, h2) := a2
        have ca := cx_end a2'
        unfold f_L_law_624
        rw [knC S, bq a1', bo q1]
        refine (if_pos e0).trans ?_
        unfold f_L_law_641
        rw [bo ca, bq a2']
        exact (if_pos rfl).trans (fin h2 V2 p2 pd2 b r2 (by omega))
      · refine (if_neg e0).trans ?_
        obtain ⟨r0, h1, h2, V2, p2, pd2, a1, a2, r2⟩ := t_end (N := N) hN3 r (v := 1) (Or.inr rfl)
        have a1' : f_X9_end N 0 (1 : Int32) h = some (r0, h1) := a1
        have a2' : f_X10_end N 71 (1 : Int32) h1 = some (r0, h2) := a2
        have ca := cx_end a2'
        unfold f_L_law_624
        rw [knC S, bq a1', bo q1]
        refine (if_neg e0).trans ?_
        unfold f_L_law_641
        rw [bo ca, bq a2']
        exact (if_pos rfl).trans (fin h2 V2 p2 pd2 b r2 (by omega))
    refine (if_neg c14).trans ?_
    by_cases c15 : k0 = 15
    · refine (if_pos c15).trans ?_
      obtain ⟨r0, h1, h2, V2, p2, pd2, a1, a2, r2⟩ := p_judge (N := N) hN3 r (xs (w + 1)) (xs (w + 2)) (xs (w + 3))
      have ca := cx_judge a2
      rw [bo q1, bo q2, bo q3, knC S, bq a1, bo q1, bo q2, bo q3, bo ca, bq a2]
      exact (if_pos rfl).trans (fin h2 V2 p2 pd2 b r2 (by omega))
    refine (if_neg c15).trans ?_
    by_cases c16 : k0 = 16
    · refine (if_pos c16).trans ?_
      obtain ⟨r0, h1, h2, V2, p2, pd2, a1, a2, r2⟩ := p_all (N := N) hN3 r (xs (w + 1)) (xs (w + 2)) (xs (w + 3))
      have ca := cx_all a2
      rw [bo q1, bo q2, bo q3, knC S, bq a1, bo q1, bo q2, bo q3, bo ca, bq a2]
      exact (if_pos rfl).trans (fin h2 V2 p2 pd2 b r2 (by omega))
    refine (if_neg c16).trans ?_
    by_cases c17 : k0 = 17
    · refine (if_pos c17).trans ?_
      obtain ⟨r0, h1, h2, V2, p2, pd2, a1, a2, r2⟩ := p_good (N := N) hN3 r (xs (w + 1))
      have ca := cx_good a2
      rw [bo q1, knC S, bq a1, bo q1, bo ca, bq a2]
      exact (if_pos rfl).trans (fin h2 V2 p2 pd2 b r2 (by omega))
    refine (if_neg c17).trans ?_
    by_cases c18 : k0 = 18
    · refine (if_pos c18).trans ?_
      obtain ⟨r0, h1, h2, V2, p2, pd2, a1, a2, r2⟩ := p_rise (N := N) hN3 r 
      have ca := cx_rise a2
      rw [knC S, bq a1, bo ca, bq a2]
      exact (if_pos rfl).trans (fin h2 V2 p2 pd2 b r2 (by omega))
    refine (if_neg c18).trans ?_
    by_cases c19 : k0 = 19
    · refine (if_pos c19).trans ?_
      obtain ⟨r0, h1, h2, V2, p2, pd2, a1, a2, r2⟩ := p_sorted (N := N) hN r (xs (w + 1))
      have ca := cx_sorted a2
      rw [bo q1, knC S, bq a1, bo q1, bo ca, bq a2]
      exact (if_pos rfl).trans (fin h2 V2 p2 pd2 b r2 (by omega))
    refine (if_neg c19).trans ?_
    by_cases c20 : k0 = 20
    · refine (if_pos c20).trans ?_
      rw [bo q1]
      by_cases e0 : (xs (w + 1)) = 0
      · refine (if_pos e0).trans ?_
        obtain ⟨r0, h1, h2, V2, p2, pd2, a1, a2, r2⟩ := p_tip (N := N) hN3 r (v := 0) (Or.inl rfl)
        have a1' : f_X9_tip N 0 (0 : Int32) h = some (r0, h1) := a1
        have a2' : f_X10_tip N 71 (0 : Int32) h1 = some (r0, h2) := a2
        have ca := cx_tip a2'
        unfold f_L_law_808
        rw [knC S, bq a1', bo q1]
        refine (if_pos e0).trans ?_
        unfold f_L_law_825
        rw [bo ca, bq a2']
        exact (if_pos rfl).trans (fin h2 V2 p2 pd2 b r2 (by omega))
      · refine (if_neg e0).trans ?_
        obtain ⟨r0, h1, h2, V2, p2, pd2, a1, a2, r2⟩ := p_tip (N := N) hN3 r (v := 1) (Or.inr rfl)
        have a1' : f_X9_tip N 0 (1 : Int32) h = some (r0, h1) := a1
        have a2' : f_X10_tip N 71 (1 : Int32) h1 = some (r0, h2) := a2
        have ca := cx_tip a2'
        unfold f_L_law_808
        rw [knC S, bq a1', bo q1]
        refine (if_neg e0).trans ?_
        unfold f_L_law_825
        rw [bo ca, bq a2']
        exact (if_pos rfl).trans (fin h2 V2 p2 pd2 b r2 (by omega))
    refine (if_neg c20).trans ?_
    by_cases c21 : k0 = 21
    · refine (if_pos c21).trans ?_
      obtain ⟨r0, h1, h2, V2, p2, pd2, a1, a2, r2⟩ := t_law (N := N) hN3 r (xs (w + 1)) (xs (w + 2)) (xs (w + 3)) (xs (w + 4))
      have ca := cx_law a2
      rw [bo q1, bo q2, bo q3, bo q4, knC S, bq a1, bo q1, bo q2, bo q3, bo q4, bo ca, bq a2]
      exact (if_pos rfl).trans (fin h2 V2 p2 pd2 b r2 (by omega))
    refine (if_neg c21).trans ?_
    by_cases c22 : k0 = 22
    · refine (if_pos c22).trans ?_
      rw [bo q1, bo q2]
      by_cases e0 : (xs (w + 2)) = 0
      · refine (if_pos e0).trans ?_
        obtain ⟨r0, h1, h2, V2, p2, pd2, a1, a2, r2⟩ := p_mend (N := N) hN3 r (xs (w + 1)) (v := 0) (Or.inl rfl)
        have a1' : f_X9_mend N 0 (xs (w + 1)) (0 : Int32) h = some (r0, h1) := a1
        have a2' : f_X10_mend N 71 (xs (w + 1)) (0 : Int32) h1 = some (r0, h2) := a2
        have ca := cx_mend a2'
        unfold f_L_law_905
        rw [knC S, bq a1', bo q1, bo q2]
        refine (if_pos e0).trans ?_
        unfold f_L_law_927
        rw [bo ca, bq a2']
        exact (if_pos rfl).trans (fin h2 V2 p2 pd2 b r2 (by omega))
      · refine (if_neg e0).trans ?_
        obtain ⟨r0, h1, h2, V2, p2, pd2, a1, a2, r2⟩ := p_mend (N := N) hN3 r (xs (w + 1)) (v := 1) (Or.inr rfl)
        have a1' : f_X9_mend N 0 (xs (w + 1)) (1 : Int32) h = some (r0, h1) := a1
        have a2' : f_X10_mend N 71 (xs (w + 1)) (1 : Int32) h1 = some (r0, h2) := a2
        have ca := cx_mend a2'
        unfold f_L_law_905
        rw [knC S, bq a1', bo q1, bo q2]
        refine (if_neg e0).trans ?_
        unfold f_L_law_927
        rw [bo ca, bq a2']
        exact (if_pos rfl).trans (fin h2 V2 p2 pd2 b r2 (by omega))
    refine (if_neg c22).trans ?_
    by_cases c23 : k0 = 23
    · refine (if_pos c23).trans ?_
      obtain ⟨r0, h1, h2, V2, p2, pd2, a1, a2, r2⟩ := p_edge (N := N) hN3 r (xs (w + 1)) (xs (w + 2)) (xs (w + 3))
      have ca := cx_edge a2
      rw [bo q1, bo q2, bo q3, knC S, bq a1, bo q1, bo q2, bo q3, bo ca, bq a2]
      exact (if_pos rfl).trans (fin h2 V2 p2 pd2 b r2 (by omega))
    refine (if_neg c23).trans ?_
    by_cases c24 : k0 = 24
    · refine (if_pos c24).trans ?_
      obtain ⟨r0, h1, h2, V2, p2, pd2, a1, a2, r2⟩ := p_year (N := N) hN3 r (xs (w + 1))
      have ca := cx_year a2
      rw [bo q1, knC S, bq a1, bo q1, bo ca, bq a2]
      exact (if_pos rfl).trans (fin h2 V2 p2 pd2 b r2 (by omega))
    refine (if_neg c24).trans ?_
    by_cases c25 : k0 = 25
    · refine (if_pos c25).trans ?_
      obtain ⟨r0, h1, h2, V2, p2, pd2, a1, a2, r2⟩ := p_act (N := N) hN3 r (xs (w + 1)) (xs (w + 2)) (xs (w + 3))
      have ca := cx_act a2
      rw [bo q1, bo q2, bo q3, knC S, bq a1, bo q1, bo q2, bo q3, bo ca, bq a2]
      exact (if_pos rfl).trans (fin h2 V2 p2 pd2 b r2 (by omega))
    refine (if_neg c25).trans ?_
    by_cases c26 : k0 = 26
    · refine (if_pos c26).trans ?_
      obtain ⟨r0, h1, h2, V2, p2, pd2, a1, a2, r2⟩ := t_trace (N := N) hN3 r (xs (w + 1))
      have ca := cx_trace a2
      rw [bo q1, knC S, bq a1, bo q1, bo ca, bq a2]
      exact (if_pos rfl).trans (fin h2 V2 p2 pd2 b r2 (by omega))
    refine (if_neg c26).trans ?_
    by_cases c27 : k0 = 27
    · refine (if_pos c27).trans ?_
      obtain ⟨r0, h1, h2, V2, p2, pd2, a1, a2, r2⟩ := t_taken (N := N) hN3 r (xs (w + 1)) (xs (w + 2))
      have ca := cx_taken a2
      rw [bo q1, bo q2, knC S, bq a1, bo q1, bo q2, bo ca, bq a2]
      exact (if_pos rfl).trans (fin h2 V2 p2 pd2 b r2 (by omega))
    refine (if_neg c27).trans ?_
    by_cases c28 : k0 = 28
    · refine (if_pos c28).trans ?_
      obtain ⟨r0, h1, h2, V2, p2, pd2, a1, a2, r2⟩ := t_count (N := N) hN3 r (xs (w + 1))
      have ca := cx_count a2 (ck_q r2.2.2.1.1.1)
      rw [bo q1, knC S, bq a1, bo q1, bo ca, bq a2]
      exact (if_pos rfl).trans (fin h2 V2 p2 pd2 b r2 (by omega))
    refine (if_neg c28).trans ?_
    by_cases c29 : k0 = 29
    · refine (if_pos c29).trans ?_
      obtain ⟨r0, h1, h2, V2, p2, pd2, a1, a2, r2⟩ := t_tape (N := N) hN3 r (xs (w + 1)) (xs (w + 2)) (xs (w + 3))
      have ca := cx_tape a2
      rw [bo q1, bo q2, bo q3, knC S, bq a1, bo q1, bo q2, bo q3, bo ca, bq a2]
      exact (if_pos rfl).trans (fin h2 V2 p2 pd2 b r2 (by omega))
    refine (if_neg c29).trans ?_
    by_cases c30 : k0 = 30
    · refine (if_pos c30).trans ?_
      obtain ⟨r0, h1, h2, V2, p2, pd2, a1, a2, r2⟩ := t_item (N := N) hN3 r (xs (w + 1)) (xs (w + 2)) ((((Int32.toInt64 (xs (w + 3)))) <<< (Int32.toInt64 (32 : Int32) &&& 63)) ||| (((Int32.toInt64 (xs (w + 4)))) &&& (4294967295 : Int64)))
      have ca := cx_item a2
      rw [bo q1, bo q2, bo q3, bo q4, knC S, bq a1, bo q1, bo q2, bo q3, bo q4, bo ca, bq a2]
      exact (if_pos rfl).trans (fin h2 V2 p2 pd2 b r2 (by omega))
    refine (if_neg c30).trans ?_
    by_cases c31 : k0 = 31
    · refine (if_pos c31).trans ?_
      obtain ⟨r0, h1, h2, V2, p2, pd2, a1, a2, r2⟩ := t_read (N := N) hN3 r (xs (w + 1)) (xs (w + 2))
      have ca := cx_read a2
      rw [bo q1, bo q2, knC S, bq a1, bo q1, bo q2, bo ca, bq a2]
      exact (if_pos lgc).trans (fin h2 V2 p2 pd2 b r2 (by omega))
    refine (if_neg c31).trans ?_
    by_cases c32 : k0 = 32
    · refine (if_pos c32).trans ?_
      obtain ⟨r0, h1, h2, V2, p2, pd2, a1, a2, r2⟩ := t_shift (N := N) hN3 r (xs (w + 1)) (xs (w + 2)) (xs (w + 3)) (xs (w + 4)) (xs (w + 5))
      have ca := cx_shift a2
      rw [bo q1, bo q2, bo q3, bo q4, bo q5, knC S, bq a1, bo q1, bo q2, bo q3, bo q4, bo q5, bo ca, bq a2]
      exact (if_pos rfl).trans (fin h2 V2 p2 pd2 b r2 (by omega))
    refine (if_neg c32).trans ?_
    exact fin h V p pd b r (by omega)
theorem pure_all : PURE := by
  intro L xs hL
  refine ⟨6000, ?_⟩
  have e1 : f_X9_init 6000 mem0.1.length (al mem0 (9, 0)) = some I9 := i_9
  have e2 : f_X10_init 6000 I9.1.length (al I9 (10, 0)) = some IM := by rw [i_9l]; exact i_M
  unfold f_L_law
  rw [bo e1, bo e2, i_9l]
  exact law_loop hL (by decide) 512 600 0 0 IM V0 2 39 (by omega) (by decide) (by decide) (by decide) im_rel
