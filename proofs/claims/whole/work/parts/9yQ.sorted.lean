theorem aL_4' : ∀ (l : List Nat) (d : Nat), (∀ a, a ∈ l → a < 4) → aL l d < 4 := by
  intro l
  induction l with
  | nil => intro d _; show 0 < 4; omega
  | cons a r ih =>
    intro d h
    cases d with
    | zero => exact h a List.mem_cons_self
    | succ d => exact ih d (fun x hx => h x (List.mem_cons_of_mem _ hx))
theorem dL_len : ∀ (k : Nat) (l : List Nat) (v : Nat), (dL k l v).length = k := by
  intro k
  induction k with
  | zero => intro l v; rfl
  | succ k ih => intro l v; show (dL k (eL l (v / fct k)) (v % fct k)).length + 1 = k + 1; rw [ih]
theorem dL_4 : ∀ (k : Nat) (l : List Nat) (v : Nat), (∀ a, a ∈ l → a < 4) → ∀ a, a ∈ dL k l v → a < 4 := by
  intro k
  induction k with
  | zero => intro l v _ a ha; cases ha
  | succ k ih =>
    intro l v h a ha
    rcases List.mem_cons.mp ha with z | z
    · rw [z]; exact aL_4' l _ h
    · exact ih _ _ (eL_4 l _ h) a z
def soV (V : Vw) (j : Nat) : Nat := if j < 8 then (va V 5 (j : Int)).toNat else 0
def l0V (V : Vw) : List Nat := mpL (soV V) (fl 0 (vF V) 0)
def dlW (V : Vw) (v : Nat) : Vw := (vT V, vF V, (fun k j => if k = 5 ∧ 0 ≤ j ∧ j < vF V then (aL (dL (vF V) (l0V V) v) j.toNat : Int) else va V k j), vs V)
theorem dlW_at {V : Vw} {v : Nat} (k : Nat) (j : Int) : va (dlW V v) k j = if k = 5 ∧ 0 ≤ j ∧ j < vF V then (aL (dL (vF V) (l0V V) v) j.toNat : Int) else va V k j := rfl
theorem dlW_5 {V : Vw} {v j : Nat} (hj : j < vF V) : va (dlW V v) 5 (j : Int) = (aL (dL (vF V) (l0V V) v) j : Int) := by
  rw [dlW_at, if_pos (by omega), Int.toNat_natCast]
theorem dlW_7 {V : Vw} {v : Nat} : va (dlW V v) 7 = va V 7 := by
  funext j
  rw [dlW_at, if_neg (by omega)]
theorem soV_4 {V : Vw} (w : WF V) (j : Nat) : soV V j < 4 := by
  unfold soV
  split
  · have := (w.f (j := (j : Int)) (by omega) (by omega)).1; omega
  · omega
theorem cL_fl {V : Vw} (w : WF V) (j : Nat) : ∀ d m : Nat, m + d ≤ 7 → cL (mpL (soV V) (fl 0 d m)) j = sm (fun i => if va V 5 ((m + i : Nat) : Int) = (j : Int) then 1 else 0) d := by
  intro d
  induction d with
  | zero => intro m _; rfl
  | succ d ih =>
    intro m h7
    have b0 : bit 0 m = false := by unfold bit; rw [Nat.zero_div]; rfl
    have b5 := (w.f (j := (m : Int)) (by omega) (by omega)).1
    rw [fl, b0, if_neg (by decide), sm_head]
    show (if j = soV V m then 1 else 0) + cL (mpL (soV V) (fl 0 d (m + 1))) j = _
    rw [ih (m + 1) (by omega)]
    have e1 : (if j = soV V m then (1 : Int) else 0) = if va V 5 ((m + 0 : Nat) : Int) = (j : Int) then 1 else 0 := by
      unfold soV
      rw [if_pos (show m < 8 by omega), Nat.add_zero]
      by_cases c : j = (va V 5 (m : Int)).toNat
      · rw [if_pos c, if_pos (by omega)]
      · rw [if_neg c, if_neg (by omega)]
    rw [e1]
    congr 1
    refine sm_congr d (fun i _ => ?_)
    rw [show m + 1 + i = m + (i + 1) by omega]
def cfW (V : Vw) (v : Nat) : Int := if pairsI V (vF V) ≤ pairsI (dlW V v) (vF V) then 1 else 0
theorem cf_sum {V : Vw} (w : WF V) (h7 : vF V ≤ 7) : sm (cfW V) (fct (vF V)) = asSortedI V := by
  have l4 : ∀ a, a ∈ l0V V → a < 4 := mpL_4 (soV_4 w) _
  have ll : (l0V V).length = vF V := by unfold l0V; rw [mpL_len, (fl_0 (vF V) 0 (by omega)).1]
  have e := gw_count V (vF V) (l0V V) 0 (fun _ => 0) (pairsI V (vF V)) ll l4
  have ec : cL (l0V V) = leftS V (vF V) := by
    funext j
    unfold l0V leftS
    rw [cL_fl w j (vF V) 0 (by omega)]
    refine sm_congr _ (fun i _ => ?_)
    rw [Nat.zero_add]
  rw [ec] at e
  unfold asSortedI
  rw [← e]
  refine sm_congr _ (fun v _ => ?_)
  have d4 := dL_4 (vF V) (l0V V) v l4
  have ep := pw_pairs (V := V) (W := dlW V v) (fun j hj => by
    have b7 := (w.f (j := (j : Int)) (by omega) (by omega)).2.2.1
    have := aL_4' (dL (vF V) (l0V V) v) j d4
    rw [dlW_5 hj]
    omega) dlW_7 (dL (vF V) (l0V V) v) 0 (fun _ => 0) (by rw [dL_len]; omega) (fun i hi => by
    rw [dL_len] at hi
    rw [Nat.zero_add]
    exact dlW_5 hi) (fun x => rfl)
  have e2 : pairsI (dlW V v) (vF V) = pwL V (dL (vF V) (l0V V) v) 0 (fun _ => 0) := by
    rw [ep, dL_len]
    unfold pairsI
    refine sm_congr _ (fun i _ => ?_)
    rw [Nat.zero_add]
  unfold cfW
  rw [e2]
section
variable {h : Mem} {V W : Vw} {N : Nat}
-- the model's pairs, of what lies in its rows
theorem m_pairs_14 {n0 : Nat} (hn0 : n0 ≤ 8) (S : MSh h) (r5 : ∀ j, j < n0 → h.2.1 77 j = iz (va W 5 j)) (r7 : ∀ j, j < n0 → h.2.1 79 j = iz (va W 7 j)) (bd : ∀ j : Nat, j < n0 → (0 ≤ va W 5 j ∧ va W 5 j ≤ 3) ∧ (0 ≤ va W 7 j ∧ va W 7 j ≤ 3)) {f : Nat} (hf : f < n0) {a : Int} (k4 : Nat → Int32 → Int32 → Mem → Option (Int32 × Mem)) : ∀ (d i n : Nat), i + d = f → d < n → f_X10_pairs_14 N n 71 (iz (a + pairs1 W f i)) (iz (f : Int)) (iz (i : Int)) h k4 = k4 71 (iz (a + pairs1 W f f)) (iz ((f : Int) + 1)) h := by
  intro d
  induction d with
  | zero =>
    intro i n hi hn
    obtain ⟨n, rfl⟩ : ∃ k, n = k + 1 := ⟨n - 1, by omega⟩
    obtain rfl : i = f := by omega
    rw [f_X10_pairs_14, if_pos (Int32.le_refl _), il1, iz_add]
  | succ d ih =>
    intro i n hi hn
    obtain ⟨n, rfl⟩ : ∃ k, n = k + 1 := ⟨n - 1, by omega⟩
    have e := ih (i + 1) n (by omega) (by omega)
    have bf := bd f hf
    have bi' := bd i (by omega)
    have e1 : pairs1 W f (i + 1) = pairs1 W f i + (if va W 5 f = va W 5 i ∧ va W 7 f = va W 7 i then 1 else 0) := by unfold pairs1; rw [sm_succ]
    rw [e1] at e
    rw [f_X10_pairs_14, if_neg (by rw [iz_le (by omega) (by omega) (by omega) (by omega)]; omega), kr79 S, kl79 S (by omega) (by omega), toN, r7 f hf, kr79 S, kl79 S (by omega) (by omega), toN, r7 i (by omega)]
    by_cases c7 : va W 7 f = va W 7 i
    · refine (if_pos (by rw [c7])).trans ?_
      rw [kr77 S, kl77 S (by omega) (by omega), toN, r5 f hf, kr77 S, kl77 S (by omega) (by omega), toN, r5 i (by omega)]
      by_cases c5 : va W 5 f = va W 5 i
      · rw [if_pos (show va W 5 f = va W 5 i ∧ va W 7 f = va W 7 i from ⟨c5, c7⟩)] at e
        refine (if_pos (by rw [c5])).trans ?_
        unfold f_X10_pairs_55
        rw [il1, iz_add, iz_add, Int.add_assoc]
        exact e
      · rw [if_neg (fun z : va W 5 f = va W 5 i ∧ va W 7 f = va W 7 i => c5 z.1)] at e
        refine (if_neg (iz_ne (by omega) (by omega) (by omega) (by omega) c5)).trans ?_
        unfold f_X10_pairs_54 f_X10_pairs_55
        dsimp only
        rw [il1, il0, iz_add, iz_add, Int.add_assoc]
        exact e
    · rw [if_neg (fun z : va W 5 f = va W 5 i ∧ va W 7 f = va W 7 i => c7 z.2)] at e
      refine (if_neg (iz_ne (by omega) (by omega) (by omega) (by omega) c7)).trans ?_
      unfold f_X10_pairs_54 f_X10_pairs_55
      dsimp only
      rw [il1, il0, iz_add, iz_add, Int.add_assoc]
      exact e
theorem m_pairs_4 {n0 : Nat} (hN : 300 ≤ N) (hn0 : n0 ≤ 8) (S : MSh h) (e0 : h.2.1 71 1 = iz (n0 : Int)) (r5 : ∀ j, j < n0 → h.2.1 77 j = iz (va W 5 j)) (r7 : ∀ j, j < n0 → h.2.1 79 j = iz (va W 7 j)) (bd : ∀ j : Nat, j < n0 → (0 ≤ va W 5 j ∧ va W 5 j ≤ 3) ∧ (0 ≤ va W 7 j ∧ va W 7 j ≤ 3)) : ∀ (d i n : Nat), i + d = n0 → d < n → f_X10_pairs_4 N n 71 (iz (pairsI W i)) (iz (i : Int)) h = some (iz (pairsI W n0), h) := by
  intro d
  induction d with
  | zero =>
    intro i n hi hn
    obtain ⟨n, rfl⟩ : ∃ k, n = k + 1 := ⟨n - 1, by omega⟩
    obtain rfl : i = n0 := by omega
    rw [f_X10_pairs_4, kmI S, e0, if_pos (Int32.le_refl _)]
  | succ d ih =>
    intro i n hi hn
    obtain ⟨n, rfl⟩ : ∃ k, n = k + 1 := ⟨n - 1, by omega⟩
    have e := ih (i + 1) n (by omega) (by omega)
    have e2 := m_pairs_14 (N := N) hn0 S r5 r7 bd (f := i) (by omega) (a := pairsI W i) (fun v0 v1 v2 h => f_X10_pairs_4 N n v0 v1 v2 h) i 0 N (by omega) (by omega)
    have e3 : pairsI W i + pairs1 W i 0 = pairsI W i := by show pairsI W i + 0 = _; omega
    rw [e3] at e2
    rw [f_X10_pairs_4, kmI S, e0, if_neg (by rw [iz_le (by omega) (by omega) (by omega) (by omega)]; omega)]
    exact e2.trans e
theorem m_pairs {n0 : Nat} (hN : 300 ≤ N) (hn0 : n0 ≤ 8) (S : MSh h) (e0 : h.2.1 71 1 = iz (n0 : Int)) (r5 : ∀ j, j < n0 → h.2.1 77 j = iz (va W 5 j)) (r7 : ∀ j, j < n0 → h.2.1 79 j = iz (va W 7 j)) (bd : ∀ j : Nat, j < n0 → (0 ≤ va W 5 j ∧ va W 5 j ≤ 3) ∧ (0 ≤ va W 7 j ∧ va W 7 j ≤ 3)) : f_X10_pairs N 71 h = some (iz (pairsI W n0), h) := by
  unfold f_X10_pairs
  exact m_pairs_4 hN hn0 S e0 r5 r7 bd n0 0 N (by omega) (by omega)
/-- what stays while it is dealt -/
def SO (h : Mem) (V : Vw) : Prop := MSh h ∧ h.2.1 71 1 = iz (vF V : Int) ∧ (∀ j, j < vF V → h.2.1 79 j = iz (va V 7 j)) ∧ ∀ j, j < vF V → h.2.1 99 j = iz (soV V j : Int)
theorem SO.fm {h h' : Mem} (s : SO h V) (F : FR [77, 100] h h') : SO h' V := by
  obtain ⟨s1, s2, s3, s4⟩ := s
  refine ⟨s1.eq F.1 (by rw [F.2.1]), ?_, ?_, ?_⟩
  · rw [F.2.2 71 (by decide)]; exact s2
  · rw [F.2.2 79 (by decide)]; exact s3
  · rw [F.2.2 99 (by decide)]; exact s4
theorem m_deal (hN : 300 ≤ N) (h7 : vF V ≤ 7) (s : SO h V) {v : Nat} (hv : v < fct (vF V)) : ∃ h', f_X10_deal N 71 (iz (v : Int)) h = some h' ∧ FR [77, 100] h h' ∧ (∀ j, vF V ≤ j → h'.2.1 77 j = h.2.1 77 j) ∧ ∀ j, j < vF V → h'.2.1 77 j = iz (va (dlW V v) 5 j) := by
  obtain ⟨s1, s2, s3, s4⟩ := s
  obtain ⟨h1, e1, F1, d1⟩ := m_deal_9 (N := N) h7 hv (vF V) N h (by omega) (by omega) s1 s2 (fun j a b => by omega)
  have S1 := s1.eq F1.1 (by rw [F1.2.1])
  obtain ⟨h2, e2, F2, _, r2, r3⟩ := m_deal_47 (N := N) (v := v) (So := soV V) hN h7 (vF V) 0 0 N h1 (by omega) (by omega) (by omega) (fl_0 (vF V) 0 (by omega)).1 S1 (by rw [F1.2.2 71 (by decide)]; exact s2) d1 (by rw [F1.2.2 99 (by decide)]; exact s4)
  have m1 : ∀ i, i ∈ [100] → i ∈ [77, 100] := by decide
  have m2 : ∀ i, i ∈ [77] → i ∈ [77, 100] := by decide
  refine ⟨h2, ?_, (F1.mono m1).tr (F2.mono m2), fun j hj => ?_, fun j hj => ?_⟩
  · unfold f_X10_deal
    rw [kmI s1, s2, il1, iz_sub]
    have ev : v / fct (vF V - vF V) = v := by rw [Nat.sub_self]; exact Nat.div_one v
    rw [ev] at e1
    exact e1.trans e2
  · rw [r2 j hj, F1.2.2 77 (by decide)]
  · have := r3 j hj
    rw [Nat.zero_add, Nat.mod_eq_of_lt hv] at this
    rw [this, dlW_5 hj]
    rfl
theorem m_sorted_105 (w : WF V) (hN : 6000 ≤ N) (h7 : vF V ≤ 7) : ∀ (d v n : Nat) (h : Mem), v + d = fct (vF V) → d < n → SO h V → ∃ h', f_X10_sorted_105 N n 71 (iz (pairsI V (vF V))) (iz (fct (vF V) : Int)) (iz (sm (cfW V) v)) (iz (v : Int)) h = f_X10_sorted_144 N N 71 (iz (sm (cfW V) (fct (vF V)))) (0 : Int32) h' ∧ FR [77, 100] h h' ∧ ∀ j, vF V ≤ j → h'.2.1 77 j = h.2.1 77 j := by
  intro d
  have fb := fct_bd (vF V) h7
  induction d with
  | zero =>
    intro v n h hv hn s
    obtain ⟨n, rfl⟩ : ∃ k, n = k + 1 := ⟨n - 1, by omega⟩
    obtain rfl : v = fct (vF V) := by omega
    refine ⟨h, ?_, FR.rf, fun _ _ => rfl⟩
    rw [f_X10_sorted_105, if_pos (Int32.le_refl _)]
  | succ d ih =>
    intro v n h hv hn s
    obtain ⟨n, rfl⟩ : ∃ k, n = k + 1 := ⟨n - 1, by omega⟩
    obtain ⟨h1, e1, F1, r1, q1⟩ := m_deal (N := N) (by omega) h7 s (v := v) (by omega)
    have s1 := s.fm F1
    have d4 := dL_4 (vF V) (l0V V) v (mpL_4 (soV_4 w) _)
    have ep := m_pairs (N := N) (W := dlW V v) (n0 := vF V) (by omega) (by omega) s1.1 s1.2.1 q1 (fun j hj => by rw [dlW_7]; exact s1.2.2.1 j hj) (fun j hj => by
      have b7 := (w.f (j := (j : Int)) (by omega) (by omega)).2.2.1
      have := aL_4' (dL (vF V) (l0V V) v) j d4
      rw [dlW_5 hj, dlW_7]
      omega)
    obtain ⟨h2, e2, F2, r2⟩ := ih (v + 1) n h1 (by omega) (by omega) s1
    have b1 := pairsI_bd (V := V) (vF V) (by omega)
    have b2' := pairsI_bd (V := dlW V v) (vF V) (by omega)
    refine ⟨h2, ?_, F1.tr F2, fun j hj => by rw [r2 j hj, r1 j hj]⟩
    rw [f_X10_sorted_105, if_neg (by rw [iz_le (by omega) (by omega) (by omega) (by omega)]; omega), kmC s.1, bo e1, kmC s1.1, bq ep]
    rw [sm_succ] at e2
    unfold f_X10_sorted_132
    by_cases c : pairsI V (vF V) ≤ pairsI (dlW V v) (vF V)
    · rw [show cfW V v = 1 from if_pos c] at e2
      refine (if_neg (by rw [iz_lt (by omega) (by omega) (by omega) (by omega)]; omega)).trans ?_
      rw [il1, iz_add, iz_add]
      exact e2
    · rw [show cfW V v = 0 from if_neg c] at e2
      refine (if_pos (by rw [iz_lt (by omega) (by omega) (by omega) (by omega)]; omega)).trans ?_
      rw [il1, il0, iz_add, iz_add]
      exact e2
theorem m_sorted_144 {x : Int32} (h8 : vF V ≤ 8) : ∀ (d i n : Nat) (h : Mem), i + d = vF V → d < n → SO h V → (∀ j, j < i → h.2.1 77 j = iz (soV V j : Int)) → ∃ h', f_X10_sorted_144 N n 71 x (iz (i : Int)) h = some (x, h') ∧ FR [77, 100] h h' ∧ (∀ j, j < vF V → h'.2.1 77 j = iz (soV V j : Int)) ∧ ∀ j, vF V ≤ j → h'.2.1 77 j = h.2.1 77 j := by
  intro d
  induction d with
  | zero =>
    intro i n h hi hn s hr
    obtain ⟨n, rfl⟩ : ∃ k, n = k + 1 := ⟨n - 1, by omega⟩
    refine ⟨h, ?_, FR.rf, fun j hj => hr j (by omega), fun _ _ => rfl⟩
    rw [f_X10_sorted_144, kmI s.1, s.2.1]
    exact if_pos (by rw [iz_le (by omega) (by omega) (by omega) (by omega)]; omega)
  | succ d ih =>
    intro i n h hi hn s hr
    obtain ⟨n, rfl⟩ : ∃ k, n = k + 1 := ⟨n - 1, by omega⟩
    have F1 : FR [77, 100] h (wr h 77 (upd (h.2.1 77) i (iz (soV V i : Int)))) := FR.wr_ (by decide)
    obtain ⟨h', e, F, q, r⟩ := ih (i + 1) n (wr h 77 (upd (h.2.1 77) i (iz (soV V i : Int)))) (by omega) (by omega) (s.fm F1) (fun j hj => by
      rw [wr_eq, upd_at]
      by_cases c : j = i
      · rw [if_pos c, c]
      · rw [if_neg c]; exact hr j (by omega))
    refine ⟨h', ?_, F1.tr F, q, fun j hj => by rw [r j hj, wr_eq, upd_at, if_neg (by omega)]⟩
    rw [f_X10_sorted_144, kmI s.1, s.2.1, if_neg (by rw [iz_le (by omega) (by omega) (by omega) (by omega)]; omega), kr77 s.1, kr99 s.1, kl99 s.1 (by omega) (by omega), toN, s.2.2.2 i (by omega), ks77 s.1 (by omega) (by omega), toN, il1, iz_add]
    exact e
theorem m_sorted_70 (R : RepM h V) (w : WF V) {x y : Int32} : ∀ (d i n : Nat) (row : Nat → Int32), i + d = vF V → d < n → (∀ j, j < i → row j = iz (soV V j : Int)) → ∃ row', f_X10_sorted_70 N n 71 x y (iz (i : Int)) (wr h 99 row) = f_X10_sorted_105 N N 71 x y (0 : Int32) (0 : Int32) (wr h 99 row') ∧ SO (wr h 99 row') V := by
  intro d
  have hF := w.F
  induction d with
  | zero =>
    intro i n row hi hn hr
    obtain ⟨n, rfl⟩ : ∃ k, n = k + 1 := ⟨n - 1, by omega⟩
    have S : MSh (wr h 99 row) := R.1.wr_
    have e1 : (wr h 99 row).2.1 71 1 = iz (vF V : Int) := by rw [wr_ne (by decide)]; exact R.2.1.2
    refine ⟨row, ?_, S, e1, fun j hj => by rw [wr_ne (by decide)]; exact R.2.2.1 7 (by decide) j (by show j < 8; omega), fun j hj => by rw [wr_eq]; exact hr j (by omega)⟩
    rw [f_X10_sorted_70, kmI S, e1]
    exact if_pos (by rw [iz_le (by omega) (by omega) (by omega) (by omega)]; omega)
  | succ d ih =>
    intro i n row hi hn hr
    obtain ⟨n, rfl⟩ : ∃ k, n = k + 1 := ⟨n - 1, by omega⟩
    have S : MSh (wr h 99 row) := R.1.wr_
    have e1 : (wr h 99 row).2.1 71 1 = iz (vF V : Int) := by rw [wr_ne (by decide)]; exact R.2.1.2
    have b5 := (w.f (j := (i : Int)) (by omega) (by omega)).1
    have e5 : (wr h 99 row).2.1 77 i = iz (soV V i : Int) := by
      rw [wr_ne (by decide), R.2.2.1 5 (by decide) i (by show i < 8; omega)]
      unfold soV
      rw [if_pos (by omega), Int.toNat_of_nonneg b5.1]
    obtain ⟨row', e, s'⟩ := ih (i + 1) n (upd row i (iz (soV V i : Int))) (by omega) (by omega) (fun j hj => by
      rw [upd_at]
      by_cases c : j = i
      · rw [if_pos c, c]
      · rw [if_neg c]; exact hr j (by omega))
    refine ⟨row', ?_, s'⟩
    rw [f_X10_sorted_70, kmI S, e1, if_neg (by rw [iz_le (by omega) (by omega) (by omega) (by omega)]; omega), kr99 S, kr77 S, kl77 S (by omega) (by omega), toN, e5, ks99 S (by omega) (by omega), toN, wr_wr, wr_eq, il1, iz_add]
    exact e
theorem m_sorted_40 (R : RepM h V) (h8 : vF V ≤ 8) {v1 v2 : Int32} : ∀ (d i n : Nat), i + d = vF V + 1 → 1 ≤ i → d < n → f_X10_sorted_40 N n 71 v1 v2 (iz (fct (i - 1) : Int)) (iz (i : Int)) h = if v1 = (2 : Int32) then some (iz (fct (vF V) : Int), h) else f_X10_sorted_70 N N 71 v2 (iz (fct (vF V) : Int)) (0 : Int32) h := by
  intro d
  induction d with
  | zero =>
    intro i n hi h1 hn
    obtain ⟨n, rfl⟩ : ∃ k, n = k + 1 := ⟨n - 1, by omega⟩
    obtain rfl : i = vF V + 1 := by omega
    rw [f_X10_sorted_40, kmF R, if_pos (by rw [iz_lt (by omega) (by omega) (by omega) (by omega)]; omega), Nat.add_sub_cancel]
  | succ d ih =>
    intro i n hi h1 hn
    obtain ⟨n, rfl⟩ : ∃ k, n = k + 1 := ⟨n - 1, by omega⟩
    have e := ih (i + 1) n (by omega) (by omega) (by omega)
    obtain ⟨j, rfl⟩ : ∃ j, i = j + 1 := ⟨i - 1, by omega⟩
    rw [show j + 1 + 1 - 1 = j + 1 by omega, fct, Int.natCast_mul] at e
    rw [f_X10_sorted_40, kmF R, if_neg (by rw [iz_lt (by omega) (by omega) (by omega) (by omega)]; omega), Nat.add_sub_cancel, iz_mul, il1, iz_add]
    exact e
end
