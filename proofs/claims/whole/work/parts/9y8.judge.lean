/-! judge: a tape's towns -/
def lay (V : Vw) (g : Nat → Int) : Nat → Vw
  | 0 => V
  | n + 1 => vset (lay V g n) 7 (n : Int) (g n)
def okT (V : Vw) (g : Nat → Int) : Nat → Nat → Bool
  | _, 0 => true
  | i, d + 1 => decide (0 ≤ g i ∧ g i < vT V) && okT V g (i + 1) d
theorem lay_TF {V : Vw} {g : Nat → Int} : ∀ n, vT (lay V g n) = vT V ∧ vF (lay V g n) = vF V ∧ vs (lay V g n) = vs V ∧ ∀ k, k ≠ 7 → va (lay V g n) k = va V k := by
  intro n
  induction n with
  | zero => exact ⟨rfl, rfl, rfl, fun _ _ => rfl⟩
  | succ n ih => exact ⟨ih.1, ih.2.1, ih.2.2.1, fun k hk => (vset_ne hk).trans (ih.2.2.2 k hk)⟩
theorem lay_like {V : Vw} {g : Nat → Int} {n : Nat} : like5 (lay V g n) V := by
  obtain ⟨a, b, c, d⟩ := lay_TF (V := V) (g := g) n
  exact ⟨a, b, c, fun k hk => d k (fun z => hk (by rw [z]; decide))⟩
theorem okT_h {V : Vw} {g : Nat → Int} {i d : Nat} (e : okT V g i (d + 1) = true) : (0 ≤ g i ∧ g i < vT V) ∧ okT V g (i + 1) d = true := by
  have := Bool.and_eq_true_iff.1 e
  exact ⟨of_decide_eq_true this.1, this.2⟩
theorem okT_n {V : Vw} {g : Nat → Int} {i d : Nat} (h : ¬ (0 ≤ g i ∧ g i < vT V)) : okT V g i (d + 1) = false := by
  rw [okT, decide_eq_false h, Bool.false_and]
theorem okT_y {V : Vw} {g : Nat → Int} {i d : Nat} (h : 0 ≤ g i ∧ g i < vT V) : okT V g i (d + 1) = okT V g (i + 1) d := by
  rw [okT, decide_eq_true h, Bool.true_and]
def jdg (V : Vw) (g : Nat → Int) (kd : Int) : Int := if okT V g 0 (vF V) = true then (if fitsI (lay V g (vF V)) = 0 then -3 else if breachS (lay V g (vF V)) kd = -5 then 1 else 0) else -3
section
variable {h : Mem} {V : Vw} {p pd b N : Nat}
theorem l_sat (w : WF V) (hN : 300 ≤ N) (q : CP 17 p) {k i0 : Nat} (hi0 : i0 + vF V ≤ 60) {g : Nat → Int} (hg : ∀ j, -32768 ≤ g j ∧ g j ≤ 32767) : ∀ (d i n : Nat) (h : Mem), i + d = vF V → d < n → X9S h → RepC h 17 p (lay V g i) → WF (lay V g i) → h.1[59 + 2 * k]? = some (7, 0) → h.2.2.2 (59 + 2 * k) 0 = some (60 + 2 * k) → h.1[60 + 2 * k]? = some (103, 60) → (∀ j : Nat, j < vF V → h.2.2.1 (60 + 2 * k) (i0 + j) = lz (g j)) → ∃ h', f_X9_settleAsTold_2 N n 0 (59 + 2 * k) (iz (i0 : Int)) (iz (i : Int)) h = some (iz (if okT V g i d = true then fitsI (lay V g (vF V)) else 0), h') ∧ TF h h' ∧ h'.2.2.2 = h.2.2.2 ∧ (okT V g i d = true → RepC h' 17 p (lay V g (vF V)) ∧ WF (lay V g (vF V))) := by
  intro d
  have hF := w.F
  have hT := w.T
  induction d with
  | zero =>
    intro i n h hi hn S R wl t1 t2 t3 t4
    obtain ⟨n, rfl⟩ : ∃ k, n = k + 1 := ⟨n - 1, by omega⟩
    obtain rfl : i = vF V := by omega
    have ef := l_fits (N := N) R wl (by omega)
    have eF := (lay_TF (V := V) (g := g) (vF V)).2.1
    have kf : ∀ {γ : Type} {k : Int32 → Option γ}, (gI h 17 1 2).bind k = k (iz (vF V)) := by
      intro γ k
      rw [kF R, eF]
    refine ⟨h, ?_, TF.rf, rfl, fun _ => ⟨R, wl⟩⟩
    rw [f_X9_settleAsTold_2, kn1 S, kf, if_pos (by rw [iz_le (by omega) (by omega) (by omega) (by omega)]; omega), kn1 S, bo (ck_q R.1.1), bq ef, okT, if_pos rfl]
    rcases fitsI_01 (V := lay V g (vF V)) with z | z
    · rw [z]; rfl
    · rw [z]; rfl
  | succ d ih =>
    intro i n h hi hn S R wl t1 t2 t3 t4
    obtain ⟨n, rfl⟩ : ∃ k, n = k + 1 := ⟨n - 1, by omega⟩
    obtain ⟨eT, eF, _, _⟩ := lay_TF (V := V) (g := g) i
    have kf : ∀ {γ : Type} {k : Int32 → Option γ}, (gI h 17 1 2).bind k = k (iz (vF V)) := by
      intro γ k
      rw [kF R, eF]
    have kt : ∀ {γ : Type} {k : Int32 → Option γ}, (gI h 17 1 1).bind k = k (iz (vT V)) := by
      intro γ k
      rw [kT R, eT]
    have gi := hg i
    have e0 := t4 i (by omega)
    rw [f_X9_settleAsTold_2, kn1 S, kf, if_neg (by rw [iz_le (by omega) (by omega) (by omega) (by omega)]; omega), bo (gR_q t1 t2), iz_add, bo (lJ_q t3 (by omega) (by omega) (by decide)), show ((i0 : Int) + (i : Int)).toNat = i0 + i by omega, e0]
    have c0 : (lg_cmp (lz (g i)) (0 : Int64) < 0) = (g i < 0) := by
      rw [show (0 : Int64) = lz 0 from rfl, lcmp_lz (by omega) (by omega) (by decide) (by decide), show (0 : Int32) = iz 0 from rfl]
      have := lcmp_b (a := g i) (b := 0)
      rw [iz_lt (by omega) (by omega) (by omega) (by omega)]
      apply propext
      split
      · omega
      · split <;> omega
    have c1 : (lg_cmp (lz (g i)) (Int32.toInt64 (iz (vT V : Int))) < 0) = (g i < vT V) := by
      rw [iz_long (by omega) (by omega), lcmp_lz (by omega) (by omega) (by omega) (by omega), show (0 : Int32) = iz 0 from rfl]
      have := lcmp_b (a := g i) (b := (vT V : Int))
      rw [iz_lt (by omega) (by omega) (by omega) (by omega)]
      apply propext
      split
      · omega
      · split <;> omega
    by_cases g0 : g i < 0
    · refine ⟨h, ?_, TF.rf, rfl, fun z => ?_⟩
      · rw [okT_n (by omega)]
        exact if_pos (by rw [c0]; exact g0)
      · rw [okT_n (by omega)] at z; cases z
    · refine Exists.imp (fun h' => And.imp_left (if_neg (by rw [c0]; exact g0)).trans) ?_
      rw [kn1 S, kt]
      by_cases g1 : g i < vT V
      · refine Exists.imp (fun h' => And.imp_left (if_pos (by rw [c1]; exact g1)).trans) ?_
        rw [okT_y (by omega)]
        have R1 := rep_set (k := 7) (j := (i : Int)) (x := g i) R q (by decide) (by omega) (by show (i : Int) < (8 : Int); omega)
        have a17 := ar_tr (c := 17) (k := 7) (Or.inl rfl) (by decide)
        have T1 : TF h (wr h (ar 17 7) (upd (h.2.1 (ar 17 7)) (i : Int).toNat (iz (g i)))) := ⟨rfl, fun _ _ _ => rfl, fun _ _ => rfl, fun j hj => wr_ne (by omega)⟩
        obtain ⟨h', e, T, g', r'⟩ := ih (i + 1) n (wr h (ar 17 7) (upd (h.2.1 (ar 17 7)) (i : Int).toNat (iz (g i)))) (by omega) (by omega) S R1 (wf_at wl (by rw [eT]; omega)) t1 t2 t3 t4
        refine ⟨h', ?_, T1.tr T, g', r'⟩
        rw [kn1 S, bo (gR_q R.1.1 (R.1.2 7 (by decide)).1), lz_int (by omega) (by omega), kSn R 7 (by decide) (by omega) (by show (i : Int) < (8 : Int); omega), il1, iz_add]
        exact e
      · refine ⟨h, ?_, TF.rf, rfl, fun z => ?_⟩
        · rw [okT_n (by omega)]
          exact if_neg (by rw [c1]; exact g1)
        · rw [okT_n (by omega)] at z; cases z
theorem m_judge_70 (w : WF V) (hN : 300 ≤ N) {k i0 : Nat} {kd : Int} (hk : k < 6) (hi0 : i0 + vF V ≤ 60) {g : Nat → Int} (hg : ∀ j, -32768 ≤ g j ∧ g j ≤ 32767) (R : RepM h V) (t4 : ∀ j : Nat, j < vF V → h.2.2.1 109 (60 * k + (i0 + j)) = lz (g j)) : ∀ (d i n : Nat), i + d = vF V → d < n → f_X10_judge_70 N n 71 (iz (k : Int)) (iz (i0 : Int)) (iz kd) (iz (i : Int)) h = (if okT V g i d = true then (f_X10_keep N 71 h).bind fun h6 => f_X10_judge_117 N N 71 (iz (k : Int)) (iz (i0 : Int)) (iz kd) (0 : Int32) h6 else some (iz (-3), h)) := by
  intro d
  have hF := w.F
  have hT := w.T
  induction d with
  | zero =>
    intro i n hi hn
    obtain ⟨n, rfl⟩ : ∃ k, n = k + 1 := ⟨n - 1, by omega⟩
    rw [f_X10_judge_70, kmF R, if_pos (by rw [iz_le (by omega) (by omega) (by omega) (by omega)]; omega), kmC R.1, okT, if_pos rfl]
  | succ d ih =>
    intro i n hi hn
    obtain ⟨n, rfl⟩ : ∃ k, n = k + 1 := ⟨n - 1, by omega⟩
    have gi := hg i
    have e0 := t4 i (by omega)
    have ct := m_isTown (N := N) R w (t := g i) (by omega) (by omega)
    rw [f_X10_judge_70, kmF R, if_neg (by rw [iz_le (by omega) (by omega) (by omega) (by omega)]; omega), kr109 R.1, il60, iz_mul, iz_add, iz_add, kl109 R.1 (by omega) (by omega), show ((60 : Int) * (k : Int) + (i0 : Int) + (i : Int)).toNat = 60 * k + (i0 + i) by omega, e0, kmC R.1, lz_int (by omega) (by omega), bq ct]
    by_cases c : 0 ≤ g i ∧ g i < vT V
    · rw [okT_y c, show tB V (g i) = true from decide_eq_true (by omega)]
      refine (if_neg (by decide)).trans ?_
      rw [il1, iz_add]
      exact ih (i + 1) n (by omega) (by omega)
    · rw [okT_n c, show tB V (g i) = false from decide_eq_false (by omega)]
      exact if_pos (by decide)
theorem m_judge_117 (w : WF V) (hN : 300 ≤ N) {k i0 : Nat} {kd : Int} (hk : k < 6) (hkd : 1 ≤ kd ∧ kd ≤ 5) (hi0 : i0 + vF V ≤ 60) {g : Nat → Int} (hg : ∀ j, -32768 ≤ g j ∧ g j ≤ 32767) : ∀ (d i n : Nat) (h : Mem), i + d = vF V → d < n → RepM h (lay V g i) → WF (lay V g i) → KEP h V → okT V g i d = true → (∀ j : Nat, j < vF V → h.2.2.1 109 (60 * k + (i0 + j)) = lz (g j)) → ∃ h', f_X10_judge_117 N n 71 (iz (k : Int)) (iz (i0 : Int)) (iz kd) (iz (i : Int)) h = some (iz (if fitsI (lay V g (vF V)) = 0 then -3 else if breachS (lay V g (vF V)) kd = -5 then 1 else 0), h') ∧ RepM h' V ∧ FM SX h h' := by
  intro d
  have hF := w.F
  have hT := w.T
  induction d with
  | zero =>
    intro i n h hi hn R wl kp ok t4
    obtain ⟨n, rfl⟩ : ∃ k, n = k + 1 := ⟨n - 1, by omega⟩
    obtain rfl : i = vF V := by omega
    have eF := (lay_TF (V := V) (g := g) (vF V)).2.1
    have er := m_room (N := N) R wl (by omega)
    have fin : ∀ (h1 : Mem) (z : Int32), RepM h1 (lay V g (vF V)) → KEP h1 V → ∃ h', f_X10_judge_179 N 71 z h1 = some (z, h') ∧ RepM h' V ∧ FM SK h1 h' := by
      intro h1 z R1 k1
      obtain ⟨h2, e2, R2, F2, _⟩ := m_putBack (N := N) R1 (by omega) k1 lay_like
      refine ⟨h2, ?_, R2, F2⟩
      unfold f_X10_judge_179
      rw [kmC R1.1, bo e2]
    rw [f_X10_judge_117, kmF R, eF, if_pos (by rw [iz_le (by omega) (by omega) (by omega) (by omega)]; omega), kmC R.1, bq er]
    rcases fitsI_01 (V := lay V g (vF V)) with z | z
    · rw [z, if_pos (show iz 0 = (0 : Int32) from rfl), if_pos (show (0 : Int) = 0 from rfl)]
      obtain ⟨h2, e2, R2, F2⟩ := fin h (-3 : Int32) R kp
      exact ⟨h2, e2, R2, F2.mono SK_SX⟩
    · rw [z, if_neg (show ¬ (iz 1 = (0 : Int32)) by decide), if_neg (show ¬ ((1 : Int) = 0) by decide)]
      have bd := breachS_bd wl (k := kd)
      obtain ⟨h1, e1, R1, F1⟩ := m_isRest (N := N) R wl hN hkd (by omega)
      have k1 : KEP h1 V := kp.eq_ (F1.2.2.2.1 98 (by decide) SR_98)
      rw [kmC R.1, bq e1]
      by_cases c : breachS (lay V g (vF V)) kd = -5
      · rw [decide_eq_true c, if_pos c]
        obtain ⟨h2, e2, R2, F2⟩ := fin h1 (1 : Int32) R1 k1
        exact ⟨h2, (if_neg (by decide)).trans e2, R2, (F1.mono SR_SX).tr (F2.mono SK_SX)⟩
      · rw [decide_eq_false c, if_neg c]
        obtain ⟨h2, e2, R2, F2⟩ := fin h1 (0 : Int32) R1 k1
        exact ⟨h2, (if_pos (by decide)).trans e2, R2, (F1.mono SR_SX).tr (F2.mono SK_SX)⟩
  | succ d ih =>
    intro i n h hi hn R wl kp ok t4
    obtain ⟨n, rfl⟩ : ∃ k, n = k + 1 := ⟨n - 1, by omega⟩
    obtain ⟨eT, eF, _, _⟩ := lay_TF (V := V) (g := g) i
    have gi := hg i
    have e0 := t4 i (by omega)
    obtain ⟨c, ok'⟩ := okT_h ok
    have R1 := R.set (k := 7) (j := (i : Int)) (x := g i) (by omega) (by omega)
    obtain ⟨h', e, R', F'⟩ := ih (i + 1) n _ (by omega) (by omega) R1 (wf_at wl (by rw [eT]; omega)) (kp.eq_ (wr_ne (by decide))) ok' t4
    refine ⟨h', ?_, R', (FM.wr_ (by decide) (by decide)).tr F'⟩
    rw [f_X10_judge_117, kmF R, eF, if_neg (by rw [iz_le (by omega) (by omega) (by omega) (by omega)]; omega), kr79 R.1, kr109 R.1, il60, iz_mul, iz_add, iz_add, kl109 R.1 (by omega) (by omega), show ((60 : Int) * (k : Int) + (i0 : Int) + (i : Int)).toNat = 60 * k + (i0 + i) by omega, e0, lz_int (by omega) (by omega), ks79 R.1 (by omega) (by omega), il1, iz_add]
    exact e
end
