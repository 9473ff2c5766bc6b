section
variable {h : Mem} {V : Vw} {p pd b N : Nat}
theorem m_tip_102 {U W : Vw} (hN : 300 ≤ N) {v x e : Int} {f t : Nat} (wU : WF U) (wW : WF W) (hf : f < 8) (ht : t < 4) (he : 0 ≤ e ∧ e ≤ 300) (hF : vF V ≤ 8) (l : like5 U V) (k59 : Nat → Int32 → Int32 → Int32 → Int32 → Mem → Option (Int32 × Mem)) : ∀ (d o n : Nat) (h : Mem) (s : Bool), o + d = vF V → d < n → RepM h U → KEP h V → (∀ j : Nat, j < vF V → h.2.1 101 j = iz (va W 7 j)) → ∃ h', f_X10_tip_102 N n 71 (iz v) (iz x) (iz (f : Int)) (iz (t : Int)) (iz e) (iz (bi s)) (iz (o : Int)) h k59 = (if (s || difB U W f o d) = true then some (iz (100 * (f : Int) + t), h') else k59 71 (iz v) (iz x) (iz (f : Int)) (iz ((t : Int) + 1)) h') ∧ RepM h' V ∧ KEP h' V ∧ FM SK h h' := by
  intro d
  induction d with
  | zero =>
    intro o n h s ho hn R kp hr
    obtain ⟨n, rfl⟩ : ∃ k, n = k + 1 := ⟨n - 1, by omega⟩
    obtain ⟨h1, e1, R1, F1, k1⟩ := m_putBack (N := N) R (by omega) kp l
    refine ⟨h1, ?_, R1, k1, F1⟩
    rw [f_X10_tip_102, kmF R, l.2.1, if_pos (by rw [iz_le (by omega) (by omega) (by omega) (by omega)]; omega), kmC R.1, bo e1]
    cases s with
    | false =>
      refine (if_pos (by decide)).trans ?_
      rw [if_neg (show ¬ ((false || difB U W f o 0) = true) by simp [difB, fs]), il1, iz_add]
    | true =>
      refine (if_neg (by decide)).trans ?_
      refine (if_neg (by rw [il0, iz_lt (by omega) (by omega) (by omega) (by omega)]; omega)).trans ?_
      rw [if_pos (show (true || difB U W f o 0) = true from rfl), show (100 : Int32) = iz 100 from rfl, iz_mul, iz_add]
  | succ d ih =>
    intro o n h s ho hn R kp hr
    obtain ⟨n, rfl⟩ : ∃ k, n = k + 1 := ⟨n - 1, by omega⟩
    rw [f_X10_tip_102, kmF R, l.2.1, if_neg (by rw [iz_le (by omega) (by omega) (by omega) (by omega)]; omega)]
    have go1 : ∀ s' : Bool, (s' || difB U W f (o + 1) d) = (s || difB U W f o (d + 1)) → ∃ h', f_X10_tip_102 N n 71 (iz v) (iz x) (iz (f : Int)) (iz (t : Int)) (iz e) (iz (bi s')) (iz (o : Int) + 1) h k59 = (if (s || difB U W f o (d + 1)) = true then some (iz (100 * (f : Int) + t), h') else k59 71 (iz v) (iz x) (iz (f : Int)) (iz ((t : Int) + 1)) h') ∧ RepM h' V ∧ KEP h' V ∧ FM SK h h' := by
      intro s' es
      obtain ⟨h1, e1, r1⟩ := ih (o + 1) n h s' (by omega) (by omega) R kp hr
      rw [es] at e1
      refine ⟨h1, ?_, r1⟩
      rw [il1, iz_add]
      exact e1
    have t1 : (true || difB U W f (o + 1) d) = true := rfl
    cases s with
    | true =>
      obtain ⟨h1, e1, r1⟩ := go1 true rfl
      exact ⟨h1, (if_neg (by decide)).trans e1, r1⟩
    | false =>
      refine Exists.imp (fun h' => And.imp_left (if_pos (by decide)).trans) ?_
      by_cases c : o = f
      · have hp : differP U W (f : Int) o = false := by simp [differP, c]
        have hd : difB U W f o (d + 1) = difB U W f (o + 1) d := by unfold difB; rw [fs, hp]; rfl
        obtain ⟨h1, e1, r1⟩ := go1 false (by rw [hd])
        exact ⟨h1, (if_pos (by rw [c])).trans e1, r1⟩
      · refine Exists.imp (fun h' => And.imp_left (if_neg (show ¬ (iz (o : Int) = iz (f : Int)) from iz_ne (by omega) (by omega) (by omega) (by omega) (by omega))).trans) ?_
        have e7 : h.2.1 79 o = iz (va U 7 o) := R.2.2.1 7 (by decide) o (by show o < 8; omega)
        have b1 := wU.f (j := (o : Int)) (by omega) (by omega)
        have b2' := wW.f (j := (o : Int)) (by omega) (by omega)
        rw [kr79 R.1, kl79 R.1 (by omega) (by omega), toN, e7, kr101 R.1, kl101 R.1 (by omega) (by omega), toN, hr o (by omega)]
        by_cases c2 : va U 7 o = va W 7 o
        · have hp : differP U W (f : Int) o = false := by simp [differP, c2]
          have hd : difB U W f o (d + 1) = difB U W f (o + 1) d := by unfold difB; rw [fs, hp]; rfl
          obtain ⟨h1, e1, r1⟩ := go1 false (by rw [hd])
          exact ⟨h1, (if_pos (by rw [c2])).trans e1, r1⟩
        · have hp : differP U W (f : Int) o = true := by simp [differP, c2]; omega
          have hd : difB U W f o (d + 1) = true := by unfold difB; rw [fs, hp]; rfl
          obtain ⟨h1, e1, r1⟩ := go1 true (by rw [hd]; rfl)
          exact ⟨h1, (if_neg (iz_ne (by omega) (by omega) (by omega) (by omega) c2)).trans e1, r1⟩
theorem m_tip_59 (w : WF V) (hN : 300 ≤ N) {v x : Int} (hv : v = 0 ∨ v = 1) {f : Nat} (hf : f < vF V) (k44 : Nat → Int32 → Int32 → Int32 → Mem → Option (Int32 × Mem)) : ∀ (d t n : Nat) (h : Mem), t + d = vT V → d < n → RepM h V → KEP h V → (∀ j : Nat, j < vF V → h.2.1 101 j = iz (va (endV V v) 7 j)) → ∃ h', f_X10_tip_59 N n 71 (iz v) (iz x) (iz (f : Int)) (iz (t : Int)) h k44 = (match tipI V v f d t with
    | some y => some (iz y, h')
    | none => k44 71 (iz v) (iz x) (iz ((f : Int) + 1)) h') ∧ RepM h' V ∧ KEP h' V ∧ FM SK h h' := by
  intro d
  have hT := w.T
  have hF := w.F
  induction d with
  | zero =>
    intro t n h ht hn R kp hr
    obtain ⟨n, rfl⟩ : ∃ k, n = k + 1 := ⟨n - 1, by omega⟩
    refine ⟨h, ?_, R, kp, FM.rf⟩
    rw [f_X10_tip_59, kmT R, if_pos (by rw [iz_le (by omega) (by omega) (by omega) (by omega)]; omega), tipI, il1, iz_add]
  | succ d ih =>
    intro t n h ht hn R kp hr
    obtain ⟨n, rfl⟩ : ∃ k, n = k + 1 := ⟨n - 1, by omega⟩
    have a1 := m_can (N := N) R w (by omega) (f := (f : Int)) (t := (t : Int)) (by omega) (by omega)
    rw [f_X10_tip_59, kmT R, if_neg (by rw [iz_le (by omega) (by omega) (by omega) (by omega)]; omega), kmC R.1, bq a1, tipI]
    cases cg : canGoB V (f : Int) (t : Int) with
    | false =>
      obtain ⟨h1, e1, r1⟩ := ih (t + 1) n h (by omega) (by omega) R kp hr
      refine ⟨h1, (if_pos (by decide)).trans ?_, r1⟩
      rw [if_neg (show ¬ (false = true) by decide), il1, iz_add]
      exact e1
    | true =>
      refine Exists.imp (fun h' => And.imp_left (if_neg (by decide)).trans) ?_
      rw [if_pos (show true = true from rfl)]
      have R1 := R.set (k := 7) (j := (f : Int)) (x := (t : Int)) (by omega) (by omega)
      have w1 : WF (vset V 7 (f : Int) (t : Int)) := wf_at w (by omega)
      have F1 : FM SK h (wr h 79 (upd (h.2.1 79) (f : Int).toNat (iz (t : Int)))) := FM.wr_ (by decide) (by decide)
      have k1 : KEP (wr h 79 (upd (h.2.1 79) (f : Int).toNat (iz (t : Int)))) V := kp.eq_ (wr_ne (by decide))
      have hr1 : ∀ j : Nat, j < vF V → (wr h 79 (upd (h.2.1 79) (f : Int).toNat (iz (t : Int)))).2.1 101 j = iz (va (endV V v) 7 j) := fun j hj => by rw [wr_ne (by decide)]; exact hr j hj
      have st : ∀ {γ : Type} {K : Mem → Option γ}, ((gR h 71 10 10).bind fun t9 => (stI 100 h t9 (iz (f : Int)) (iz (t : Int))).bind K) = K (wr h 79 (upd (h.2.1 79) (f : Int).toNat (iz (t : Int)))) := by
        intro γ K
        rw [kr79 R.1, ks79 R.1 (by omega) (by omega)]
      rw [st]
      have R1' : RepM (wr h 79 (upd (h.2.1 79) (f : Int).toNat (iz (t : Int)))) (vset V 7 (f : Int) (t : Int)) := R1
      generalize wr h 79 (upd (h.2.1 79) (f : Int).toNat (iz (t : Int))) = h1 at R1' F1 k1 hr1
      obtain ⟨h2, e2, R2, F2⟩ := m_endAll (N := N) R1' w1 (by omega) hv
      have k2 : KEP h2 V := k1.eq_ (F2.2.2.2.1 98 (by decide) (by decide))
      obtain ⟨ga, gb, gc, gd⟩ := endV_TF (V := vset V 7 (f : Int) (t : Int)) v
      have l2 : like5 (endV (vset V 7 (f : Int) (t : Int)) v) V := ⟨ga, gb, gc, fun k hk => (gd k (fun z => hk (by rw [z]; decide)) (fun z => hk (by rw [z]; decide))).trans (vset_ne (fun z => hk (by rw [z]; decide)))⟩
      have hb := endT_i (V := vset V 7 (f : Int) (t : Int)) (v := v) 20 0
      obtain ⟨h3, e3, R3, k3, F3⟩ := m_tip_102 (N := N) (V := V) hN (v := v) (x := x) (e := endS (vset V 7 (f : Int) (t : Int)) v) (f := f) (t := t) (endV_wf w1 v) (endV_wf w v) (by omega) (by omega) (by unfold endS; omega) hF l2 (fun v0 v1 v2 v3 v4 h => f_X10_tip_59 N n v0 v1 v2 v3 v4 h k44) (vF V) 0 N h2 false (by omega) (by omega) R2 k2 (fun j hj => by rw [F2.2.2.2.1 101 (by decide) (by decide)]; exact hr1 j hj)
      have e3' : f_X10_tip_102 N N 71 (iz v) (iz x) (iz (f : Int)) (iz (t : Int)) (iz (endS (vset V 7 (f : Int) (t : Int)) v)) (0 : Int32) (0 : Int32) h2 (fun v0 v1 v2 v3 v4 h => f_X10_tip_59 N n v0 v1 v2 v3 v4 h k44) = _ := e3
      rw [kmC R1'.1, bq e2, e3', Bool.false_or]
      have F13 := (F1.tr (F2.mono SE_SK)).tr F3
      by_cases c : tipX V v f t = true
      · have c' : difB (endV (vset V 7 (f : Int) (t : Int)) v) (endV V v) f 0 (vF V) = true := c
        rw [if_pos c, if_pos c']
        exact ⟨h3, rfl, R3, k3, F13⟩
      · have c' : ¬ (difB (endV (vset V 7 (f : Int) (t : Int)) v) (endV V v) f 0 (vF V) = true) := c
        rw [if_neg c, if_neg c']
        obtain ⟨h4, e4, R4, k4, F4⟩ := ih (t + 1) n h3 (by omega) (by omega) R3 k3 (fun j hj => by rw [F3.2.2.2.1 101 (by decide) (by decide), F2.2.2.2.1 101 (by decide) (by decide)]; exact hr1 j hj)
        exact ⟨h4, e4, R4, k4, F13.tr F4⟩
theorem m_tip_44 (w : WF V) (hN : 300 ≤ N) {v x : Int} (hv : v = 0 ∨ v = 1) (hx : 0 ≤ x ∧ x ≤ 300) : ∀ (d f n : Nat) (h : Mem), f + d = vF V → d < n → RepM h V → KEP h V → (∀ j : Nat, j < vF V → h.2.1 101 j = iz (va (endV V v) 7 j)) → ∃ h', f_X10_tip_44 N n 71 (iz v) (iz x) (iz (f : Int)) h = some (iz (tipO V v d f), h') ∧ RepM h' V ∧ FM SK h h' := by
  intro d
  have hT := w.T
  have hF := w.F
  induction d with
  | zero =>
    intro f n h hf hn R kp hr
    obtain ⟨n, rfl⟩ : ∃ k, n = k + 1 := ⟨n - 1, by omega⟩
    refine ⟨h, ?_, R, FM.rf⟩
    rw [f_X10_tip_44, kmF R, if_pos (by rw [iz_le (by omega) (by omega) (by omega) (by omega)]; omega), tipO]
    rfl
  | succ d ih =>
    intro f n h hf hn R kp hr
    obtain ⟨n, rfl⟩ : ∃ k, n = k + 1 := ⟨n - 1, by omega⟩
    obtain ⟨h1, e1, R1, k1, F1⟩ := m_tip_59 (N := N) w hN (x := x) hv (f := f) (by omega) (fun v0 v1 v2 v3 h => f_X10_tip_44 N n v0 v1 v2 v3 h) (vT V) 0 N h (by omega) (by omega) R kp hr
    have e1' : f_X10_tip_59 N N 71 (iz v) (iz x) (iz (f : Int)) (0 : Int32) h (fun v0 v1 v2 v3 h => f_X10_tip_44 N n v0 v1 v2 v3 h) = _ := e1
    rw [f_X10_tip_44, kmF R, if_neg (by rw [iz_le (by omega) (by omega) (by omega) (by omega)]; omega), if_neg (by rw [il0, iz_lt (by omega) (by omega) (by omega) (by omega)]; omega), e1', tipO]
    cases tipI V v f (vT V) 0 with
    | some y => exact ⟨h1, rfl, R1, F1⟩
    | none =>
      obtain ⟨h2, e2, R2, F2⟩ := ih (f + 1) n h1 (by omega) (by omega) R1 k1 (fun j hj => by rw [F1.2.2.2.1 101 (by decide) (by decide)]; exact hr j hj)
      exact ⟨h2, e2, R2, F1.tr F2⟩
theorem m_tip_12 (hN : 300 ≤ N) {U : Vw} {v x : Int} (l : like5 U V) (hF : vF V ≤ 8) : ∀ (d i n : Nat) (h : Mem), i + d = vF V → d < n → RepM h U → KEP h V → (∀ j : Nat, j < i → h.2.1 101 j = iz (va U 7 j)) → ∃ h', f_X10_tip_12 N n 71 (iz v) (iz x) (iz (i : Int)) h = f_X10_tip_44 N N 71 (iz v) (iz x) (0 : Int32) h' ∧ RepM h' V ∧ KEP h' V ∧ (∀ j : Nat, j < vF V → h'.2.1 101 j = iz (va U 7 j)) ∧ FM SX h h' := by
  intro d
  induction d with
  | zero =>
    intro i n h hi hn R kp hr
    obtain ⟨n, rfl⟩ : ∃ k, n = k + 1 := ⟨n - 1, by omega⟩
    obtain rfl : i = vF V := by omega
    obtain ⟨h1, e1, R1, F1, k1⟩ := m_putBack (N := N) R (by omega) kp l
    refine ⟨h1, ?_, R1, k1, fun j hj => by rw [F1.2.2.2.1 101 (by decide) (by decide)]; exact hr j hj, F1.mono SK_SX⟩
    rw [f_X10_tip_12, kmF R, l.2.1, if_pos (Int32.le_refl _), kmC R.1, bo e1]
  | succ d ih =>
    intro i n h hi hn R kp hr
    obtain ⟨n, rfl⟩ : ∃ k, n = k + 1 := ⟨n - 1, by omega⟩
    have e7 : h.2.1 79 i = iz (va U 7 i) := R.2.2.1 7 (by decide) i (by show i < 8; omega)
    have R1 : RepM (wr h 101 (upd (h.2.1 101) i (iz (va U 7 i)))) U := R.wr_ ⟨by decide, by decide⟩
    obtain ⟨h1, e1, R2, k2, hr2, F2⟩ := ih (i + 1) n (wr h 101 (upd (h.2.1 101) i (iz (va U 7 i)))) (by omega) (by omega) R1 (kp.eq_ (wr_ne (by decide))) (fun j hj => by
      rw [wr_eq, upd_at]
      by_cases q : j = i
      · rw [if_pos q, q]
      · rw [if_neg q]; exact hr j (by omega))
    refine ⟨h1, ?_, R2, k2, hr2, (FM.wr_ (by decide) (by decide)).tr F2⟩
    rw [f_X10_tip_12, kmF R, l.2.1, if_neg (by rw [iz_le (by omega) (by omega) (by omega) (by omega)]; omega), kr101 R.1, kr79 R.1, kl79 R.1 (by omega) (by omega), toN, e7, ks101 R.1 (by omega) (by omega), toN, il1, iz_add]
    exact e1
theorem p_tip (hN : 300 ≤ N) (r : REL h V p pd b) {v : Int} (hv : v = 0 ∨ v = 1) : CAL (f_X9_tip N 0 (iz v) h) (f_X10_tip N 71 (iz v)) b := by
  have w := r.2.2.2.1
  have hT := w.T
  have hF := w.F
  have S := r.2.2.2.2.2.2.2.1
  have hp := r.cp.2
  have q28 : CP 28 p := ⟨c28, hp⟩
  obtain ⟨h1, e1, R1, r1, T1⟩ := become28 (N := N) r
  have S1 := r1.2.2.2.2.2.2.2.1
  have W1 := r1.2.2.2.2.2.2.2.2.2.1.2.1
  obtain ⟨h2, e2, R2, K2⟩ := l_strideOn (N := N) R1 w q28 W1 (by omega) hv
  have T2 := K2.tf (Or.inr rfl)
  have ct1 := r1.2.2.2.2.2.2.2.2.1
  have r2 := r1.tf T2 (ct1.1.tf T2.1 (by rw [K2.2.1])) (ct1.2.tf T2.1 (by rw [K2.2.1]))
  obtain ⟨h3, e3, r3⟩ := l_tip_26 (N := N) hN hv (vF V) 0 N h2 (by omega) (by omega) r2 R2
  have M3 := r3.2.2.1
  obtain ⟨h4, e4, M4, kp4, F4⟩ := m_keep (N := N) M3 w (by omega)
  obtain ⟨h5, e5, M5, F5⟩ := m_endAll (N := N) M4 w (by omega) hv
  have k5 : KEP h5 V := kp4.eq_ (F5.2.2.2.1 98 (by decide) (by decide))
  obtain ⟨ga, gb, gc, gd⟩ := endV_TF (V := V) v
  have l5 : like5 (endV V v) V := ⟨ga, gb, gc, fun k hk => gd k (fun z => hk (by rw [z]; decide)) (fun z => hk (by rw [z]; decide))⟩
  have hb := endT_i (V := V) (v := v) 20 0
  obtain ⟨h6, e6, M6, k6, hr6, F6⟩ := m_tip_12 (N := N) hN (v := v) (x := endS V v) l5 hF (vF V) 0 N h5 (by omega) (by omega) M5 k5 (fun j hj => by omega)
  obtain ⟨h7, e7, M7, F7⟩ := m_tip_44 (N := N) w hN (x := endS V v) hv (by unfold endS; omega) (vF V) 0 N h6 (by omega) (by omega) M6 k6 hr6
  refine ⟨iz (tipO V v (vF V) 0), h3, h7, V, p, pd, ?_, ?_, REL.fm r3.mid ((((F4.mono SK_SX).tr (F5.mono SE_SX)).tr F6).tr (F7.mono SK_SX)) M7⟩
  · unfold f_X9_tip
    rw [kn2 S, kn0 S, bo (ck_q ((r.2.2.2.2.2.2.2.2.1).2.1)), bo e1, kn6 S1, kn2 S1, k50c W1, bq e2]
    exact e3
  · unfold f_X10_tip
    rw [kmC M3.1, bo e4, kmC M4.1, bq e5]
    exact e6.trans e7
end
