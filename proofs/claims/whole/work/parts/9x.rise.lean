def risS : Nat → Nat → Vw → Int × Vw
  | 0, _, V => (200, V)
  | d + 1, i, V => match fs (soughtP V) 0 (vT V) with
    | some t => risS d (i + 1) (vset V 2 t (va V 2 t + 1))
    | none => (i, V)
def vz (V : Vw) : Vw := (vT V, vF V, (fun k j => if k = 2 then 0 else va V k j), vs V)
theorem vz_ne {V : Vw} {k : Nat} (hk : k ≠ 2) : va (vz V) k = va V k := by
  funext j
  show (if k = 2 then 0 else va V k j) = _
  rw [if_neg hk]
theorem vz_2 {V : Vw} {j : Int} : va (vz V) 2 j = 0 := rfl
theorem wf_vz {V : Vw} (w : WF V) : WF (vz V) := by
  obtain ⟨a1, a2, a3, a4, a5, a6, a7, a8, a9, a10, a11, a12⟩ := w
  refine ⟨a1, a2, fun j x y => ?_, ?_, ?_, ?_, ?_, ?_, ?_, ?_, ?_, a12⟩
  · have := a3 j x y
    rw [vz_ne (by decide), vz_2, vz_ne (by decide), vz_ne (by decide)]
    exact ⟨this.1, by omega, this.2.2⟩
  · rw [vz_ne (by decide), vz_ne (by decide)]; exact a4
  · rw [vz_ne (by decide), vz_ne (by decide), vz_ne (by decide), vz_ne (by decide)]; exact a5
  · rw [vz_ne (by decide)]; exact a6
  · rw [vz_ne (by decide)]; exact a7
  · rw [vz_ne (by decide)]; exact a8
  · rw [vz_ne (by decide)]; exact a9
  · rw [vz_ne (by decide)]; exact a10
  · rw [vz_ne (by decide), vz_ne (by decide)]; exact a11
theorem wf_up {V : Vw} (w : WF V) {i : Nat} (hi : i < 200) (hr : ∀ j : Int, 0 ≤ j → j < 4 → va V 2 j ≤ i) {t : Nat} (ht : t < vT V) : WF (vset V 2 t (va V 2 t + 1)) ∧ ∀ j : Int, 0 ≤ j → j < 4 → va (vset V 2 t (va V 2 t + 1)) 2 j ≤ ((i + 1 : Nat) : Int) := by
  have hT := w.T
  have a := w.t (j := (t : Int)) (by omega) (by omega)
  have b := hr t (by omega) (by omega)
  refine ⟨wf_t3 w (Or.inl ⟨rfl, by omega, by omega⟩), fun j x y => ?_⟩
  have c := hr j x y
  rw [vset_at]
  split <;> omega
theorem risS_k {k : Nat} (hk : k ≠ 2) : ∀ (d i : Nat) (V : Vw), va (risS d i V).2 k = va V k := by
  intro d
  induction d with
  | zero => intro i V; rfl
  | succ d ih =>
    intro i V
    unfold risS
    split
    · rw [ih, vset_ne hk]
    · rfl
theorem risS_wf : ∀ (d i : Nat) (V : Vw), i + d = 200 → WF V → (∀ j : Int, 0 ≤ j → j < 4 → va V 2 j ≤ i) → WF (risS d i V).2 := by
  intro d
  induction d with
  | zero => intro i V _ w _; exact w
  | succ d ih =>
    intro i V hi w hr
    unfold risS
    split
    · rename_i t ht
      have := fs_lt _ _ _ ht
      have q := wf_up w (i := i) (by omega) hr (t := t) (by omega)
      exact ih (i + 1) _ (by omega) q.1 q.2
    · exact w
section
variable {h : Mem} {V : Vw} {p pd b N : Nat}
theorem LO.tr {h h1 h2 : Mem} (a : LO h h1) (b : LO h1 h2) : LO h h2 := ⟨b.1.trans a.1, b.2.1.trans a.2.1, fun i q => (b.2.2 i q).trans (a.2.2 i q)⟩
theorem l_rise_13 (hN : 300 ≤ N) (q : CP 1 p) : ∀ (d i n : Nat) (h : Mem) (V : Vw), i + d = 200 → d < n → X9S h → RepC h 1 p V → WF V → (∀ j : Int, 0 ≤ j → j < 4 → va V 2 j ≤ i) → ∃ h', f_X9_rise_13 N n 0 (iz (i : Int)) h = some (iz (risS d i V).1, h') ∧ RepC h' 1 p (risS d i V).2 ∧ LO h h' := by
  intro d
  induction d with
  | zero =>
    intro i n h V hi hn S R w hr
    obtain ⟨n, rfl⟩ : ∃ k, n = k + 1 := ⟨n - 1, by omega⟩
    obtain rfl : i = 200 := by omega
    refine ⟨h, ?_, R, rfl, rfl, fun _ _ => rfl⟩
    rw [f_X9_rise_13]
    exact if_pos (by decide)
  | succ d ih =>
    intro i n h V hi hn S R w hr
    obtain ⟨n, rfl⟩ : ∃ k, n = k + 1 := ⟨n - 1, by omega⟩
    have hT := w.T
    have e := l_soughtTown (N := N) R w (by omega)
    rw [f_X9_rise_13, risS]
    rw [if_neg (by rw [show (200 : Int32) = iz 200 from rfl, iz_le (by omega) (by omega) (by omega) (by omega)]; omega), kn0 S, bo (ck_q R.1.1), bq e]
    cases ht : fs (soughtP V) 0 (vT V) with
    | some t =>
      have tl := fs_lt _ _ _ ht
      have u := wf_up w (i := i) (by omega) hr (t := t) (by omega)
      have a := w.t (j := (t : Int)) (by omega) (by omega)
      have R1 := rep_set R q (k := 2) (j := (t : Int)) (x := va V 2 t + 1) (by decide) (by omega) (by show (t : Int) < (4 : Int); omega)
      obtain ⟨h', e2, R2, l2⟩ := ih (i + 1) n (wr h (ar 1 2) (upd (h.2.1 (ar 1 2)) (t : Int).toNat (iz (va V 2 t + 1)))) (vset V 2 t (va V 2 t + 1)) (by omega) (by omega) S R1 u.1 u.2
      refine ⟨h', ?_, R2, (lo_wr1 (k := 2) (by decide)).tr l2⟩
      have e4 : h.2.1 (ar 1 2) t = iz (va V 2 t) := R.2.2.2.1 2 (by decide) t (by show t < 4; omega)
      dsimp only
      refine (if_pos (by rw [il0, iz_le (by omega) (by omega) (by omega) (by omega)]; omega)).trans ?_
      rw [kn0 S, bo (gR_q R.1.1 (R.1.2 2 (by decide)).1), bo (lI_q (R.1.2 2 (by decide)).2 (by omega) (by show (t : Int) < (4 : Int); omega) (by decide)), toN, e4, il1, iz_add, bo (st_wr (R.1.2 2 (by decide)).2 (by omega) (by show (t : Int) < (4 : Int); omega) (by decide)), iz_add]
      exact e2
    | none =>
      exact ⟨h, if_neg (by decide), R, rfl, rfl, fun _ _ => rfl⟩
theorem SX_74 : 74 ∈ SX := by decide
theorem FM.wr74 {h : Mem} {row : Nat → Int32} : FM SX h (wr h 74 row) := ⟨rfl, rfl, fun _ _ => rfl, fun i _ q2 => wr_ne (by rintro rfl; exact q2 SX_74), fun j _ => by rw [wr_ne (by decide)]⟩
theorem m_rise_31 (w : WF V) (hN : 300 ≤ N) {i : Int32} (k22 : Nat → Int32 → Mem → Option (Int32 × Mem)) : ∀ (d j n : Nat) (h : Mem), j + d = vT V → d < n → RepM h V → ∃ h', f_X10_rise_31 N n 71 i (iz (j : Int)) h k22 = f_X10_rise_53 N 71 i (iz (((match fs (soughtP V) j d with | some t => t | none => vT V) : Nat) : Int)) h' k22 ∧ RepM h' V ∧ FM SX h h' := by
  intro d
  have hT := w.T
  induction d with
  | zero =>
    intro j n h hj hn R
    obtain ⟨n, rfl⟩ : ∃ k, n = k + 1 := ⟨n - 1, by omega⟩
    obtain rfl : j = vT V := by omega
    refine ⟨h, ?_, R, FM.rf⟩
    rw [f_X10_rise_31, kmT R]
    exact if_pos (Int32.le_refl _)
  | succ d ih =>
    intro j n h hj hn R
    obtain ⟨n, rfl⟩ : ∃ k, n = k + 1 := ⟨n - 1, by omega⟩
    obtain ⟨h1, e1, R1, F1⟩ := m_isWanted (N := N) R w (by omega) (t := j) (by omega)
    have F1' : FM SX h h1 := F1.mono SP_SX
    rw [f_X10_rise_31, kmT R, if_neg (by rw [iz_le (by omega) (by omega) (by omega) (by omega)]; omega), kmC R.1, bq e1, fs]
    cases hs : soughtP V j with
    | true => exact ⟨h1, if_neg (by decide), R1, F1'⟩
    | false =>
      obtain ⟨h2, e2, R2, F2⟩ := ih (j + 1) n h1 (by omega) (by omega) R1
      refine ⟨h2, (if_pos (by decide)).trans ?_, R2, F1'.tr F2⟩
      rw [il1, iz_add]
      exact e2
theorem m_rise_22 (hN : 300 ≤ N) : ∀ (d i n : Nat) (h : Mem) (V : Vw), i + d = 200 → d < n → RepM h V → WF V → (∀ j : Int, 0 ≤ j → j < 4 → va V 2 j ≤ i) → ∃ h', f_X10_rise_22 N n 71 (iz (i : Int)) h = some (iz (risS d i V).1, h') ∧ RepM h' (risS d i V).2 ∧ FM SX h h' := by
  intro d
  induction d with
  | zero =>
    intro i n h V hi hn R w hr
    obtain ⟨n, rfl⟩ : ∃ k, n = k + 1 := ⟨n - 1, by omega⟩
    obtain rfl : i = 200 := by omega
    refine ⟨h, ?_, R, FM.rf⟩
    rw [f_X10_rise_22]
    exact if_pos (by decide)
  | succ d ih =>
    intro i n h V hi hn R w hr
    obtain ⟨n, rfl⟩ : ∃ k, n = k + 1 := ⟨n - 1, by omega⟩
    have hT := w.T
    obtain ⟨h1, e1, R1, F1⟩ := m_rise_31 (N := N) w hN (i := iz (i : Int)) (fun v0 v1 h => f_X10_rise_22 N n v0 v1 h) (vT V) 0 N h (by omega) (by omega) R
    rw [f_X10_rise_22, risS, if_neg (by rw [show (200 : Int32) = iz 200 from rfl, iz_le (by omega) (by omega) (by omega) (by omega)]; omega)]
    have e1' : f_X10_rise_31 N N 71 (iz (i : Int)) (0 : Int32) h (fun v0 v1 h => f_X10_rise_22 N n v0 v1 h) = _ := e1
    rw [e1']
    unfold f_X10_rise_53
    rw [kmT R1]
    cases ht : fs (soughtP V) 0 (vT V) with
    | some t =>
      have tl := fs_lt _ _ _ ht
      have u := wf_up w (i := i) (by omega) hr (t := t) (by omega)
      have a := w.t (j := (t : Int)) (by omega) (by omega)
      have R2 := R1.set (k := 2) (j := (t : Int)) (x := va V 2 t + 1) (by omega) (by omega)
      obtain ⟨h', e2, R3, F3⟩ := ih (i + 1) n (wr h1 74 (upd (h1.2.1 74) (t : Int).toNat (iz (va V 2 t + 1)))) (vset V 2 t (va V 2 t + 1)) (by omega) (by omega) R2 u.1 u.2
      refine ⟨h', ?_, R3, (F1.tr FM.wr74).tr F3⟩
      have e4 : h1.2.1 74 t = iz (va V 2 t) := R1.2.2.1 2 (by decide) t (by show t < 4; omega)
      dsimp only
      refine (if_neg (iz_ne (by omega) (by omega) (by omega) (by omega) (by omega))).trans ?_
      rw [kr74 R1.1, kl74 R1.1 (by omega) (by omega), toN, e4, il1, iz_add, ks74 R1.1 (by omega) (by omega), iz_add]
      exact e2
    | none =>
      exact ⟨h1, if_pos rfl, R1, F1⟩
theorem m_rise_2 : ∀ (d i n : Nat) (h : Mem), i + d = 4 → d < n → MSh h → (∀ j : Nat, j < i → h.2.1 74 j = iz 0) → ∃ row, f_X10_rise_2 N n 71 (iz (i : Int)) h = f_X10_rise_22 N N 71 (0 : Int32) (wr h 74 row) ∧ ∀ j : Nat, j < 4 → row j = iz 0 := by
  intro d
  induction d with
  | zero =>
    intro i n h hi hn S hr
    obtain ⟨n, rfl⟩ : ∃ k, n = k + 1 := ⟨n - 1, by omega⟩
    obtain rfl : i = 4 := by omega
    refine ⟨h.2.1 74, ?_, hr⟩
    rw [f_X10_rise_2, wr_id rfl]
    exact if_pos (by decide)
  | succ d ih =>
    intro i n h hi hn S hr
    obtain ⟨n, rfl⟩ : ∃ k, n = k + 1 := ⟨n - 1, by omega⟩
    obtain ⟨row, e, r1⟩ := ih (i + 1) n (wr h 74 (upd (h.2.1 74) i (iz 0))) (by omega) (by omega) S.wr_ (fun j hj => by
      rw [wr_eq, upd_at]
      split
      · rfl
      · exact hr j (by omega))
    rw [wr_wr] at e
    refine ⟨row, ?_, r1⟩
    rw [f_X10_rise_2, if_neg (by rw [show (4 : Int32) = iz 4 from rfl, iz_le (by omega) (by omega) (by omega) (by omega)]; omega), kr74 S, show (0 : Int32) = iz 0 from rfl, ks74 S (by omega) (by omega), toN, il1, iz_add]
    exact e
theorem p_rise (hN : 300 ≤ N) (r : REL h V p pd b) : CAL (f_X9_rise N 0 h) (f_X10_rise N 71) b := by
  have S := r.2.2.2.2.2.2.2.1
  have R := r.2.1
  have w := r.2.2.2.1
  have wz := wf_vz w
  have ef := l_fill (N := N) (h := h) (a := ar 1 2) (v := (0 : Int32)) (by omega) (R.1.2 2 (by decide)).2 (by decide)
  have Rz : RepC (wr h (ar 1 2) (fun j => if j < ln 2 then (0 : Int32) else h.2.1 (ar 1 2) j)) 1 p (vz V) := rep_wr R r.cp (k := 2) (by decide) rfl rfl rfl (fun k' hk' => vz_ne (by omega)) (fun _ j hj => if_pos hj)
  obtain ⟨h1, e1, R1, L1⟩ := l_rise_13 (N := N) hN r.cp 200 0 N (wr h (ar 1 2) (fun j => if j < ln 2 then (0 : Int32) else h.2.1 (ar 1 2) j)) (vz V) (by omega) (by omega) S Rz wz (fun j _ _ => by rw [vz_2]; omega)
  have lo : LO h h1 := (lo_wr1 (k := 2) (by decide)).tr L1
  have wr' := risS_wf 200 0 (vz V) (by omega) wz (fun j _ _ => by rw [vz_2]; omega)
  have md := r.lo_ lo R1 wr' ((risS_k (by decide) 200 0 (vz V)).trans (vz_ne (by decide)))
  have M1 := md.2.2.1
  obtain ⟨row, e2, q2⟩ := m_rise_2 (N := N) 4 0 N h1 (by omega) (by omega) M1.1 (fun j hj => by omega)
  have Mz : RepM (wr h1 74 row) (vz V) := M1.row (k := 2) (by omega) rfl rfl rfl (fun k' hk' => vz_ne hk') (fun j hj => by rw [q2 j hj]; rfl)
  obtain ⟨h2, e3, R2, F2⟩ := m_rise_22 (N := N) hN 200 0 N (wr h1 74 row) (vz V) (by omega) (by omega) Mz wz (fun j _ _ => by rw [vz_2]; omega)
  refine ⟨iz (risS 200 0 (vz V)).1, h1, h2, _, p, pd, ?_, ?_, REL.fm md (FM.wr74.tr F2) R2⟩
  · unfold f_X9_rise
    rw [kn0 S, kA2 R, bo ef]
    exact e1
  · unfold f_X10_rise
    exact e2.trans e3
end
