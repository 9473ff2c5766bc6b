section
variable {h : Mem} {V : Vw} {p pd b N nl : Nat} {W T M P : Nat → Int}
theorem m_lb_133 (hN : 300 ≤ N) {U : Vw} (w : WF U) (l5 : like5 U V) : ∀ (d i n : Nat) (h : Mem), i + d = vF U → d < n → RepM h U → KEP h V → ∃ h', f_X10_leastBehind_133 N n 71 (lz (wLeast U i)) (iz (i : Int)) h = some (lz (wLeast U (vF U)), h') ∧ RepM h' V ∧ FM SX h h' := by
  intro d
  have hF := w.F
  induction d with
  | zero =>
    intro i n h hi hn R kp
    obtain ⟨n, rfl⟩ : ∃ k, n = k + 1 := ⟨n - 1, by omega⟩
    obtain rfl : i = vF U := by omega
    obtain ⟨h1, e1, R1, F1, _⟩ := m_putBack (N := N) R (by omega) kp l5
    refine ⟨h1, ?_, R1, F1.mono SK_SX⟩
    rw [f_X10_leastBehind_133, kmF R, if_pos (Int32.le_refl _), kmC R.1, bo e1]
  | succ d ih =>
    intro i n h hi hn R kp
    obtain ⟨n, rfl⟩ : ∃ k, n = k + 1 := ⟨n - 1, by omega⟩
    have h7 := w.f (j := (i : Int)) (by omega) (by omega)
    have e7 : h.2.1 79 i = iz (va U 7 i) := R.2.2.1 7 (by decide) i (by show i < 8; omega)
    obtain ⟨h1, e1, R1, F1⟩ := m_worth (N := N) R w (by omega) (f := i) (t := va U 7 i) (by omega) ⟨h7.2.2.1.1, by omega⟩
    obtain ⟨h2, e2, R2, F2⟩ := ih (i + 1) n h1 (by omega) (by omega) R1 (kp.eq_ (F1.2.2.2.1 98 (by decide) SP_98))
    have wb := worth_bd w (f := (i : Int)) (t := va U 7 i) (by omega) (by omega)
    have lb := wLeast_bd w i (by omega)
    refine ⟨h2, ?_, R2, (F1.mono SP_SX).tr F2⟩
    rw [f_X10_leastBehind_133, kmF R, if_neg (by rw [iz_le (by omega) (by omega) (by omega) (by omega)]; omega), kr79 R.1, kl79 R.1 (by omega) (by omega), toN, e7, kmC R.1, bq e1]
    unfold f_X10_leastBehind_172
    rw [il1, iz_add]
    rw [wLeast] at e2
    by_cases c : worth U i (va U 7 i) < wLeast U i
    · rw [if_pos c] at e2
      refine (if_neg ?_).trans e2
      rw [il0, lcmp_ge (by omega) (by omega) (by omega) (by omega)]
      omega
    · rw [if_neg c] at e2
      refine (if_pos ?_).trans e2
      rw [il0, lcmp_ge (by omega) (by omega) (by omega) (by omega)]
      omega
theorem S3_SX : ∀ i, i ∈ [74, 75, 76] → i ∈ SX := by decide
theorem m_lb_51 (hN : 300 ≤ N) {U : Vw} {s i : Nat} {v : Int} (l : LWD h nl W T M P) (hi : i < nl) (R : RepM h U) (w : WF U) (k6 : Nat → Int32 → Int32 → Int32 → Mem → Option (Int64 × Mem)) : ∃ h', (if iz (W i) = (0 : Int32) then (gR h 71 10 6).bind fun t15 => (gR h 71 10 52).bind fun t17 => (lI 100 h t17 (iz (i : Int))).bind fun t19 => (gR h 71 10 53).bind fun t21 => (lI 100 h t21 (iz (i : Int))).bind fun t23 => (stI 100 h t15 t19 t23).bind fun h25 => f_X10_leastBehind_51 N 71 (iz (s : Int)) (iz v) (iz (i : Int)) h25 k6 else f_X10_leastBehind_51 N 71 (iz (s : Int)) (iz v) (iz (i : Int)) h k6) = k6 71 (iz (s : Int)) (iz v) (iz ((i : Int) + 1)) h' ∧ RepM h' (vset U (lr (W i)) (T i) (M i)) ∧ FM [74, 75, 76] h h' := by
  have g := (l.2.2.2 i hi).1
  have h4 := l.1
  have S := R.1
  have k78 : ∀ h1 : Mem, LWD h1 nl W T M P → MSh h1 → W i ≠ 2 → f_X10_leastBehind_78 N 71 (iz (s : Int)) (iz v) (iz (i : Int)) h1 k6 = k6 71 (iz (s : Int)) (iz v) (iz ((i : Int) + 1)) h1 := by
    intro h1 l1 S1 hw
    unfold f_X10_leastBehind_78
    rw [ml_0 l1 S1 hi, if_neg (show ¬ (iz (W i) = (2 : Int32)) from iz_ne (b := 2) (by omega) (by omega) (by decide) (by decide) hw), il1, iz_add]
  have lw : ∀ (k : Nat) (row : Nat → Int32), k ≤ 101 → k ≠ 0 → k ≠ 71 → LWD (wr h k row) nl W T M P := fun k row x y z => l.eq_ rfl rfl (wr_ne (by omega)) (by rw [wr_ne (by omega)]) (fun i hi => wr_ne (by omega))
  rcases (show W i = 0 ∨ W i = 1 ∨ W i = 2 by omega) with z | z | z
  · have R1 := R.set (k := 3) (j := T i) (x := M i) (by omega) (by omega)
    have l1 := lw 75 (upd (h.2.1 75) (T i).toNat (iz (M i))) (by decide) (by decide) (by decide)
    refine ⟨wr h 75 (upd (h.2.1 75) (T i).toNat (iz (M i))), ?_, ?_, FM.wr_ (by decide) (by decide)⟩
    · refine (if_pos (by rw [z]; rfl)).trans ?_
      rw [kr75 S, ml_1 l S hi, ml_2 l S hi, ks75 S (by omega) (by omega)]
      unfold f_X10_leastBehind_51
      rw [ml_0 l1 R1.1 hi, if_neg (show ¬ (iz (W i) = (1 : Int32)) from iz_ne (b := 1) (by omega) (by omega) (by decide) (by decide) (by omega))]
      exact k78 _ l1 R1.1 (by omega)
    · rw [z]; exact R1
  · have R1 := R.set (k := 4) (j := T i) (x := M i) (by omega) (by omega)
    have l1 := lw 76 (upd (h.2.1 76) (T i).toNat (iz (M i))) (by decide) (by decide) (by decide)
    refine ⟨wr h 76 (upd (h.2.1 76) (T i).toNat (iz (M i))), ?_, ?_, FM.wr_ (by decide) (by decide)⟩
    · refine (if_neg (show ¬ (iz (W i) = (0 : Int32)) from iz_ne (b := 0) (by omega) (by omega) (by decide) (by decide) (by omega))).trans ?_
      unfold f_X10_leastBehind_51
      rw [ml_0 l S hi]
      refine (if_pos (by rw [z]; rfl)).trans ?_
      rw [kr76 S, ml_1 l S hi, ml_2 l S hi, ks76 S (by omega) (by omega)]
      exact k78 _ l1 R1.1 (by omega)
    · rw [z]; exact R1
  · have R1 := R.set (k := 2) (j := T i) (x := M i) (by omega) (by omega)
    refine ⟨wr h 74 (upd (h.2.1 74) (T i).toNat (iz (M i))), ?_, ?_, FM.wr_ (by decide) (by decide)⟩
    · refine (if_neg (show ¬ (iz (W i) = (0 : Int32)) from iz_ne (b := 0) (by omega) (by omega) (by decide) (by decide) (by omega))).trans ?_
      unfold f_X10_leastBehind_51
      rw [ml_0 l S hi]
      refine (if_neg (show ¬ (iz (W i) = (1 : Int32)) from iz_ne (b := 1) (by omega) (by omega) (by decide) (by decide) (by omega))).trans ?_
      unfold f_X10_leastBehind_78
      rw [ml_0 l S hi]
      refine (if_pos (by rw [z]; rfl)).trans ?_
      rw [kr74 S, ml_1 l S hi, ml_2 l S hi, ks74 S (by omega) (by omega), il1, iz_add]
    · rw [z]; exact R1
theorem m_lb_6 (hN : 300 ≤ N) {s : Nat} (hs : s < 16) {v : Int} (hv : v = 0 ∨ v = 1) : ∀ (d i n : Nat) (h : Mem) (U : Vw), i + d = nl → d < n → LWD h nl W T M P → RepM h U → KEP h V → WF U → like5 U V → ∃ h', f_X10_leastBehind_6 N n 71 (iz (s : Int)) (iz v) (iz (i : Int)) h = some (lz (wLeast (endV (enV W T M s d i U) v) (vF V)), h') ∧ RepM h' V ∧ FM SX h h' := by
  intro d
  induction d with
  | zero =>
    intro i n h U hi hn l R kp w l5
    obtain ⟨n, rfl⟩ : ∃ k, n = k + 1 := ⟨n - 1, by omega⟩
    have h4 := l.1
    have hb := endT_i (V := U) (v := v) 20 0
    have hF := w.F
    obtain ⟨h1, e1, R1, F1⟩ := m_endAll (N := N) R w (by omega) hv
    obtain ⟨ga, gb, gc, gd⟩ := endV_TF (V := U) v
    have l1 : like5 (endV U v) V := ⟨ga.trans l5.1, gb.trans l5.2.1, gc.trans l5.2.2.1, fun k hk => (gd k (fun z => hk (by rw [z]; decide)) (fun z => hk (by rw [z]; decide))).trans (l5.2.2.2 k hk)⟩
    obtain ⟨h2, e2, R2, F2⟩ := m_lb_133 (N := N) (V := V) hN (endV_wf w v) l1 (vF (endV U v)) 0 N h1 (by omega) (by rw [l1.2.1, ← l5.2.1]; omega) R1 (kp.eq_ (F1.2.2.2.1 98 (by decide) (by decide)))
    rw [l1.2.1] at e2
    refine ⟨h2, ?_, R2, (F1.mono SE_SX).tr F2⟩
    rw [f_X10_leastBehind_6, ml_n l R.1, if_pos (by rw [iz_le (by omega) (by omega) (by omega) (by omega)]; omega), kmC R.1, bq e1]
    refine (if_pos ?_).trans ?_
    · rw [il0, iz_le (by omega) (by omega) (by unfold endS; omega) (by unfold endS; omega)]; unfold endS; omega
    · unfold f_X10_leastBehind_128
      exact e2
  | succ d ih =>
    intro i n h U hi hn l R kp w l5
    obtain ⟨n, rfl⟩ : ∃ k, n = k + 1 := ⟨n - 1, by omega⟩
    have h4 := l.1
    have g := (l.2.2.2 i (by omega)).1
    rw [f_X10_leastBehind_6, ml_n l R.1, if_neg (by rw [iz_le (by omega) (by omega) (by omega) (by omega)]; omega), bit_z s hs i (by omega), enV]
    by_cases c : bit s i = true
    · obtain ⟨h1, e1, R1, F1⟩ := m_lb_51 (N := N) (s := s) (v := v) hN l (i := i) (by omega) R w (fun v0 v1 v2 v3 h => f_X10_leastBehind_6 N n v0 v1 v2 v3 h)
      obtain ⟨h2, e2, R2, F2⟩ := ih (i + 1) n h1 _ (by omega) (by omega) (l.fm (F1.mono S3_SX)) R1 (kp.eq_ (F1.2.2.2.1 98 (by decide) (by decide))) (lr_wf w g.1 g.2.2.1) (lr_like l5)
      rw [if_pos c, if_pos c]
      refine ⟨h2, (if_neg (by decide)).trans ?_, R2, (F1.mono S3_SX).tr F2⟩
      rw [ml_0 l R.1 (by omega)]
      exact e1.trans e2
    · obtain ⟨h2, e2, R2, F2⟩ := ih (i + 1) n h U (by omega) (by omega) l R kp w l5
      rw [if_neg c, if_neg c]
      refine ⟨h2, (if_pos rfl).trans ?_, R2, F2⟩
      rw [il1, iz_add]
      exact e2
theorem m_leastBehind (hN : 300 ≤ N) {s : Nat} (hs : s < 16) {v : Int} (hv : v = 0 ∨ v = 1) (l : LWD h nl W T M P) (R : RepM h V) (w : WF V) : ∃ h', f_X10_leastBehind N 71 (iz (s : Int)) (iz v) h = some (lz (lbT V nl W T M v s), h') ∧ RepM h' V ∧ FM SX h h' := by
  have h4 := l.1
  obtain ⟨h1, e1, R1, kp, F1⟩ := m_keep (N := N) R w (by omega)
  obtain ⟨h2, e2, R2, F2⟩ := m_lb_6 (N := N) hN hs hv nl 0 N h1 V (by omega) (by omega) (l.fm (F1.mono SK_SX)) R1 kp w like5.rf
  refine ⟨h2, ?_, R2, (F1.mono SK_SX).tr F2⟩
  unfold f_X10_leastBehind
  rw [kmC R.1, bo e1]
  exact e2
def CMo (o : Option (Nat × Int)) (best most : Int) : Prop := (o = none ∧ best = -1 ∧ most = 0) ∨ ∃ (b0 : Nat) (l0 : Int), o = some (b0, l0) ∧ b0 < 16 ∧ best = b0 ∧ most = l0 ∧ -2000000 ≤ l0 ∧ l0 ≤ 9223372036854775807
theorem m_mend_23 (hN : 300 ≤ N) {v coin : Int} (hv : v = 0 ∨ v = 1) (hc : 0 ≤ coin ∧ coin ≤ 999) (w : WF V) : ∀ (d s n : Nat) (h : Mem) (o : Option (Nat × Int)) (best most : Int), s + d = 2 ^ nl → d < n → (o = none → s = 0) → CMo o best most → LWD h nl W T M P → RepM h V → ∃ h', f_X10_mend_23 N n 71 (iz coin) (iz v) (iz best) (lz most) (iz (s : Int)) h = some (iz (mdT V nl W T M P v coin d s o : Int), h') ∧ RepM h' V ∧ FM SX h h' := by
  intro d
  induction d with
  | zero =>
    intro s n h o best most hs hn ho cs l R
    obtain ⟨n, rfl⟩ : ∃ k, n = k + 1 := ⟨n - 1, by omega⟩
    have h4 := l.1
    have hp := pow_b nl h4
    refine ⟨h, ?_, R, FM.rf⟩
    rw [f_X10_mend_23, ml_n l R.1, pow_z nl h4, if_pos (by rw [iz_le (by omega) (by omega) (by omega) (by omega)]; omega), mdT_0]
    rcases cs with ⟨c1, _⟩ | ⟨b0, l0, c1, c2, c3, _⟩
    · have := ho c1; omega
    · rw [c1, c3]; rfl
  | succ d ih =>
    intro s n h o best most hs hn ho cs l R
    obtain ⟨n, rfl⟩ : ∃ k, n = k + 1 := ⟨n - 1, by omega⟩
    have h4 := l.1
    have hp := pow_b nl h4
    have ep := m_price (N := N) l R.1 hN (s := s) (by omega)
    have bp0 := prS_bd l (s := s) nl 0 0 (by omega) (by omega)
    have ec := m_isSet (N := N) l R.1 hN (s := s) (by omega)
    rw [f_X10_mend_23, ml_n l R.1, pow_z nl h4, if_neg (by rw [iz_le (by omega) (by omega) (by omega) (by omega)]; omega), kmC R.1, bq ec]
    have skip : (o = none → s + 1 = 0) → ∃ h', f_X10_mend_23 N n 71 (iz coin) (iz v) (iz best) (lz most) (iz (s : Int) + 1) h = some (iz (mdT V nl W T M P v coin d (s + 1) o : Int), h') ∧ RepM h' V ∧ FM SX h h' := by
      intro ho'
      obtain ⟨h1, e1, r1⟩ := ih (s + 1) n h o best most (by omega) (by omega) ho' cs l R
      exact ⟨h1, by rw [il1, iz_add]; exact e1, r1⟩
    cases cl : clO W T s nl 0 with
    | true =>
      rw [mdT_x (fun z : prS P s nl 0 0 ≤ coin ∧ clO W T s nl 0 = false => by rw [cl] at z; cases z.2)]
      refine Exists.imp (fun h' => And.imp_left (if_pos (by decide)).trans) (skip (fun z => ?_))
      have := ho z
      rw [this, clO_0 nl 0 (by omega)] at cl
      cases cl
    | false =>
      refine Exists.imp (fun h' => And.imp_left (if_neg (by decide)).trans) ?_
      rw [kmC R.1, bq ep]
      by_cases c1 : prS P s nl 0 0 ≤ coin
      · refine Exists.imp (fun h' => And.imp_left (if_pos (by rw [iz_le (by omega) (by omega) (by omega) (by omega)]; omega)).trans) ?_
        obtain ⟨h1, e1, R1, F1⟩ := m_leastBehind (N := N) hN (s := s) (by omega) hv l R w
        have lb := lbT_bd w l v s
        have l1 := l.fm F1
        rw [kmC R.1, bq e1]
        have take : ∃ h', f_X10_mend_102 N 71 (iz coin) (iz v) (iz (s : Int)) (lz (lbT V nl W T M v s)) h1 (fun v0 v1 v2 v3 v4 v6 h => f_X10_mend_23 N n v0 v1 v2 v3 v4 v6 h) = some (iz (mdT V nl W T M P v coin d (s + 1) (some (s, lbT V nl W T M v s)) : Int), h') ∧ RepM h' V ∧ FM SX h h' := by
          obtain ⟨h5, e5, R5, F5⟩ := ih (s + 1) n h1 (some (s, lbT V nl W T M v s)) (s : Int) (lbT V nl W T M v s) (by omega) (by omega) (fun z => by cases z) (Or.inr ⟨s, _, rfl, by omega, rfl, rfl, lb⟩) l1 R1
          refine ⟨h5, ?_, R5, F1.tr F5⟩
          unfold f_X10_mend_102
          rw [il1, iz_add]
          exact e5
        rcases cs with ⟨o1, o2, o3⟩ | ⟨b0, l0, o1, o2, o3, o4, o6, o7⟩
        · subst o1
          rw [mdT_N ⟨c1, cl⟩]
          refine Exists.imp (fun h' => And.imp_left (if_pos ?_).trans) take
          rw [il0, o2, iz_lt (by omega) (by omega) (by omega) (by omega)]
          omega
        · subst o1
          rw [mdT_M ⟨c1, cl⟩]
          have bb := prS_bd l (s := b0) nl 0 0 (by omega) (by omega)
          have skip3 : ∃ h', f_X10_mend_23 N n 71 (iz coin) (iz v) (iz best) (lz most) (iz (s : Int) + 1) h1 = some (iz (mdT V nl W T M P v coin d (s + 1) (some (b0, l0)) : Int), h') ∧ RepM h' V ∧ FM SX h h' := by
            obtain ⟨h5, e5, R5, F5⟩ := ih (s + 1) n h1 (some (b0, l0)) best most (by omega) (by omega) (fun z => by cases z) (Or.inr ⟨b0, l0, rfl, o2, o3, o4, o6, o7⟩) l1 R1
            exact ⟨h5, by rw [il1, iz_add]; exact e5, R5, F1.tr F5⟩
          refine Exists.imp (fun h' => And.imp_left (if_neg ?_).trans) ?_
          · rw [il0, o3, iz_lt (by omega) (by omega) (by omega) (by omega)]
            omega
          by_cases g0 : lbT V nl W T M v s < l0
          · rw [if_neg (show ¬ (l0 < lbT V nl W T M v s ∨ (lbT V nl W T M v s = l0 ∧ prS P s nl 0 0 < prS P b0 nl 0 0)) by omega)]
            refine Exists.imp (fun h' => And.imp_left (if_pos ?_).trans) skip3
            rw [il0, lcmp_l0 (by omega) (by omega) (by omega) (by omega), o4]
            exact g0
          · refine Exists.imp (fun h' => And.imp_left (if_neg ?_).trans) ?_
            · rw [il0, lcmp_l0 (by omega) (by omega) (by omega) (by omega), o4]
              exact g0
            by_cases g2 : lbT V nl W T M v s = l0
            · refine Exists.imp (fun h' => And.imp_left (if_pos ?_).trans) ?_
              · rw [il0, lcmp_ne (by omega) (by omega) (by omega) (by omega), o4]
                exact g2
              have ep1 := m_price (N := N) l1 R1.1 hN (s := s) (by omega)
              have ep2 := m_price (N := N) l1 R1.1 hN (s := b0) (by omega)
              rw [kmC R1.1, bq ep1, kmC R1.1, o3, bq ep2]
              rw [o3] at skip3
              by_cases g3 : prS P s nl 0 0 < prS P b0 nl 0 0
              · rw [if_pos (Or.inr ⟨g2, g3⟩)]
                refine Exists.imp (fun h' => And.imp_left (if_pos ?_).trans) take
                rw [iz_lt (by omega) (by omega) (by omega) (by omega)]
                exact g3
              · rw [if_neg (show ¬ (l0 < lbT V nl W T M v s ∨ (lbT V nl W T M v s = l0 ∧ prS P s nl 0 0 < prS P b0 nl 0 0)) by omega)]
                refine Exists.imp (fun h' => And.imp_left (if_neg ?_).trans) skip3
                rw [iz_lt (by omega) (by omega) (by omega) (by omega)]
                exact g3
            · rw [if_pos (Or.inl (by omega))]
              refine Exists.imp (fun h' => And.imp_left (if_neg ?_).trans) take
              rw [il0, lcmp_ne (by omega) (by omega) (by omega) (by omega), o4]
              exact g2
      · rw [mdT_x (fun z : prS P s nl 0 0 ≤ coin ∧ clO W T s nl 0 = false => c1 z.1)]
        refine Exists.imp (fun h' => And.imp_left (if_neg (by rw [iz_le (by omega) (by omega) (by omega) (by omega)]; omega)).trans) (skip (fun z => ?_))
        have := ho z
        rw [this, prS_0 nl 0 0 (by omega)] at c1
        omega
theorem p_mend (hN : 300 ≤ N) (r : REL h V p pd b) (v1 : Int32) {v : Int} (hv : v = 0 ∨ v = 1) : CAL (f_X9_mend N 0 v1 (iz v) h) (f_X10_mend N 71 v1 (iz v)) b := by
  obtain ⟨coin, rfl, t1, t2⟩ := int_iz v1
  have M := r.2.2.1
  have w := r.2.2.2.1
  have a1 := l_within (N := N) (h := h) (a := coin) (b := 0) (c := 999) (by omega) (by omega) t1 t2
  by_cases hc : 0 ≤ coin ∧ coin ≤ 999
  · rw [decide_eq_true hc] at a1
    obtain ⟨nl, W, T, M', P, l⟩ := LWD_of (r.2.2.2.2.2.2.2.2.2.2.2.2.2.2.1)
    have h4 := l.1
    have hp := pow_b nl h4
    obtain ⟨h1, e1, r1, l1⟩ := l_mend_27 (N := N) hN hv hc (2 ^ nl) 0 N h none 0 0 (-9223372036854775808) (by omega) (by omega) (fun _ => rfl) (Or.inl ⟨rfl, rfl, rfl, rfl⟩) l r
    have M1 := r1.2.2.1
    have c1 := m_inB (N := N) (h := h1) (a := coin) (b := 0) (c := 999) (by omega) (by omega) t1 t2
    rw [decide_eq_true hc] at c1
    obtain ⟨h2, e2, R2, F2⟩ := m_mend_23 (N := N) hN hv hc w (2 ^ nl) 0 N h1 none (-1) 0 (by omega) (by omega) (fun _ => rfl) (Or.inl ⟨rfl, rfl, rfl⟩) l1 M1
    refine ⟨iz (mdT V nl W T M' P v coin (2 ^ nl) 0 none : Int), h1, h2, V, p, pd, ?_, ?_, REL.fm r1.mid F2 R2⟩
    · unfold f_X9_mend
      rw [bq (show f_X9_within N (iz coin) (0 : Int32) (999 : Int32) h = _ from a1)]
      refine (if_neg (by decide)).trans ?_
      exact e1
    · unfold f_X10_mend
      rw [kmC M1.1, bq (show f_X10_in N 71 (iz coin) (0 : Int32) (999 : Int32) h1 = _ from c1)]
      refine (if_neg (by decide)).trans ?_
      exact e2
  · rw [decide_eq_false hc] at a1
    have c1 := m_inB (N := N) (h := h) (a := coin) (b := 0) (c := 999) (by omega) (by omega) t1 t2
    rw [decide_eq_false hc] at c1
    refine r.same_ (z := (-2 : Int32)) ?_ ?_
    · unfold f_X9_mend
      rw [bq (show f_X9_within N (iz coin) (0 : Int32) (999 : Int32) h = _ from a1)]
      exact if_pos (by decide)
    · unfold f_X10_mend
      rw [kmC M.1, bq (show f_X10_in N 71 (iz coin) (0 : Int32) (999 : Int32) h = _ from c1)]
      exact if_pos (by decide)
end
