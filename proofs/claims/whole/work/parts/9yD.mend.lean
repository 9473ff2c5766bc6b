section
variable {h : Mem} {V : Vw} {p pd b N nl : Nat} {W T M P : Nat → Int}
theorem lcmp_l0 {a b : Int} (h1 : -9223372036854775808 ≤ a) (h2 : a < 9223372036854775808) (h3 : -9223372036854775808 ≤ b) (h4 : b < 9223372036854775808) : (lg_cmp (lz a) (lz b) < iz 0) = (a < b) := by
  rw [lcmp_lz h1 h2 h3 h4]
  have := lcmp_b (a := a) (b := b)
  rw [iz_lt (by omega) (by omega) (by omega) (by omega)]
  apply propext
  split
  · omega
  · split <;> omega
-- the rules put in force
theorem l_rule (l : LWD h nl W T M P) {i : Nat} (hi : i < nl) {U : Vw} (R : RepC h 17 p U) (q : CP 17 p) (w : WF U) : ∃ h', f_X4_rule N (111 + i) 17 h = some h' ∧ RepC h' 17 p (vset U (lr (W i)) (T i) (M i)) ∧ TF h h' ∧ h'.2.2.2 = h.2.2.2 := by
  have g := (l.2.2.2 i hi).1
  have go : ∀ k, k < 9 → ln k = 4 → ∃ h', f_X4_rule_33 N (111 + i) (ar 17 k) h = some h' ∧ RepC h' 17 p (vset U k (T i) (M i)) ∧ TF h h' ∧ h'.2.2.2 = h.2.2.2 := by
    intro k hk hl
    have a17 := ar_tr (c := 17) (k := k) (Or.inl rfl) (by omega)
    refine ⟨_, ?_, rep_set (k := k) (j := T i) (x := M i) R q hk (by omega) (by omega), ⟨rfl, fun _ _ _ => rfl, fun _ _ => rfl, fun j hj => wr_ne (by omega)⟩, rfl⟩
    unfold f_X4_rule_33
    rw [kl_1 l hi, kl_2 l hi, kSn R k (by omega) (by omega) (by omega)]
  unfold f_X4_rule
  rw [kl_0 l hi]
  rcases (show W i = 0 ∨ W i = 1 ∨ W i = 2 by omega) with z | z | z
  · rw [z]
    obtain ⟨h1, e1, r1⟩ := go 3 (by decide) rfl
    refine ⟨h1, (if_pos (by decide)).trans ?_, r1⟩
    rw [bo (gR_q R.1.1 (R.1.2 3 (by decide)).1), e1]
  · rw [z]
    obtain ⟨h1, e1, r1⟩ := go 4 (by decide) rfl
    refine ⟨h1, (if_neg (by decide)).trans ?_, r1⟩
    rw [kl_0 l hi, z]
    refine (if_pos (by decide)).trans ?_
    rw [bo (gR_q R.1.1 (R.1.2 4 (by decide)).1), e1]
  · rw [z]
    obtain ⟨h1, e1, r1⟩ := go 2 (by decide) rfl
    refine ⟨h1, (if_neg (by decide)).trans ?_, r1⟩
    rw [kl_0 l hi, z]
    refine (if_neg (by decide)).trans ?_
    rw [bo (gR_q R.1.1 (R.1.2 2 (by decide)).1), e1]
theorem l_enact_2 (q : CP 17 p) {s : Nat} (hs : s < 16) : ∀ (d i n : Nat) (h : Mem) (U : Vw), i + d = nl → d < n → LWD h nl W T M P → X9S h → RepC h 17 p U → WF U → ∃ h', f_X9_enact_2 N n 0 (iz (s : Int)) (iz (i : Int)) h = some h' ∧ RepC h' 17 p (enV W T M s d i U) ∧ TF h h' ∧ h'.2.2.2 = h.2.2.2 := by
  intro d
  induction d with
  | zero =>
    intro i n h U hi hn l S R w
    obtain ⟨n, rfl⟩ : ∃ k, n = k + 1 := ⟨n - 1, by omega⟩
    have h4 := l.1
    refine ⟨h, ?_, R, TF.rf, rfl⟩
    rw [f_X9_enact_2, kl_n l S]
    exact if_pos (by rw [iz_le (by omega) (by omega) (by omega) (by omega)]; omega)
  | succ d ih =>
    intro i n h U hi hn l S R w
    obtain ⟨n, rfl⟩ : ∃ k, n = k + 1 := ⟨n - 1, by omega⟩
    have h4 := l.1
    have g := (l.2.2.2 i (by omega)).1
    rw [f_X9_enact_2, kl_n l S, if_neg (by rw [iz_le (by omega) (by omega) (by omega) (by omega)]; omega), bit_z s hs i (by omega), enV]
    by_cases c : bit s i = true
    · obtain ⟨h1, e1, R1, T1, g1⟩ := l_rule (N := N) l (i := i) (by omega) R q w
      obtain ⟨h2, e2, R2, T2, g2⟩ := ih (i + 1) n h1 _ (by omega) (by omega) (l.tf T1) (T1.x9s S) R1 (lr_wf w g.1 g.2.2.1)
      rw [if_pos c, if_pos c]
      refine ⟨h2, (if_pos (by decide)).trans ?_, R2, T1.tr T2, g2.trans g1⟩
      rw [kn9 S, kq57 l (by omega), kn1 S, kl_c l (by omega), bo e1, il1, iz_add]
      exact e2
    · obtain ⟨h2, e2, R2, T2, g2⟩ := ih (i + 1) n h U (by omega) (by omega) l S R w
      rw [if_neg c, if_neg c]
      refine ⟨h2, (if_neg (by decide)).trans ?_, R2, T2, g2⟩
      rw [il1, iz_add]
      exact e2
/-- the least worth behind the laws of a set -/
def lbT (V : Vw) (nl : Nat) (W T M : Nat → Int) (v : Int) (s : Nat) : Int := wLeast (endV (enV W T M s nl 0 V) v) (vF V)
def mdT (V : Vw) (nl : Nat) (W T M P : Nat → Int) (v coin : Int) : Nat → Nat → Option (Nat × Int) → Nat
  | 0, _, o => (o.getD (0, 0)).1
  | d + 1, s, o => if prS P s nl 0 0 ≤ coin ∧ clO W T s nl 0 = false then (match o with
      | none => mdT V nl W T M P v coin d (s + 1) (some (s, lbT V nl W T M v s))
      | some (b0, l0) => if l0 < lbT V nl W T M v s ∨ (lbT V nl W T M v s = l0 ∧ prS P s nl 0 0 < prS P b0 nl 0 0) then mdT V nl W T M P v coin d (s + 1) (some (s, lbT V nl W T M v s)) else mdT V nl W T M P v coin d (s + 1) (some (b0, l0)))
    else mdT V nl W T M P v coin d (s + 1) o
theorem mdT_0 {v coin : Int} {s : Nat} {o : Option (Nat × Int)} : mdT V nl W T M P v coin 0 s o = (o.getD (0, 0)).1 := by cases o <;> rfl
theorem mdT_n {v coin : Int} {d s : Nat} : mdT V nl W T M P v coin (d + 1) s none = if prS P s nl 0 0 ≤ coin ∧ clO W T s nl 0 = false then mdT V nl W T M P v coin d (s + 1) (some (s, lbT V nl W T M v s)) else mdT V nl W T M P v coin d (s + 1) none := rfl
theorem mdT_m {v coin : Int} {d s b0 : Nat} {l0 : Int} : mdT V nl W T M P v coin (d + 1) s (some (b0, l0)) = if prS P s nl 0 0 ≤ coin ∧ clO W T s nl 0 = false then (if l0 < lbT V nl W T M v s ∨ (lbT V nl W T M v s = l0 ∧ prS P s nl 0 0 < prS P b0 nl 0 0) then mdT V nl W T M P v coin d (s + 1) (some (s, lbT V nl W T M v s)) else mdT V nl W T M P v coin d (s + 1) (some (b0, l0))) else mdT V nl W T M P v coin d (s + 1) (some (b0, l0)) := rfl
theorem mdT_x {v coin : Int} {d s : Nat} {o : Option (Nat × Int)} (c : ¬ (prS P s nl 0 0 ≤ coin ∧ clO W T s nl 0 = false)) : mdT V nl W T M P v coin (d + 1) s o = mdT V nl W T M P v coin d (s + 1) o := by
  rcases o with _ | ⟨b0, l0⟩
  · rw [mdT_n, if_neg c]
  · rw [mdT_m, if_neg c]
theorem mdT_N {v coin : Int} {d s : Nat} (c : prS P s nl 0 0 ≤ coin ∧ clO W T s nl 0 = false) : mdT V nl W T M P v coin (d + 1) s none = mdT V nl W T M P v coin d (s + 1) (some (s, lbT V nl W T M v s)) := by rw [mdT_n, if_pos c]
theorem mdT_M {v coin : Int} {d s b0 : Nat} {l0 : Int} (c : prS P s nl 0 0 ≤ coin ∧ clO W T s nl 0 = false) : mdT V nl W T M P v coin (d + 1) s (some (b0, l0)) = (if l0 < lbT V nl W T M v s ∨ (lbT V nl W T M v s = l0 ∧ prS P s nl 0 0 < prS P b0 nl 0 0) then mdT V nl W T M P v coin d (s + 1) (some (s, lbT V nl W T M v s)) else mdT V nl W T M P v coin d (s + 1) (some (b0, l0))) := by rw [mdT_m, if_pos c]
def CSo (F : Nat) (nl : Nat) (P : Nat → Int) (o : Option (Nat × Int)) (best bp bl : Int) : Prop := (o = none ∧ best = 0 ∧ bp = 0 ∧ bl = -9223372036854775808) ∨ ∃ (b0 : Nat) (l0 : Int), o = some (b0, l0) ∧ b0 ≤ 16 ∧ best = b0 ∧ bp = prS P b0 nl 0 0 ∧ (F = 0 ∧ bl = 0 ∧ l0 = 9223372036854775807 ∨ F ≠ 0 ∧ bl = l0) ∧ -2000000 ≤ bl ∧ bl ≤ 2000000
theorem lbT_bd (w : WF V) (l : LWD h nl W T M P) (v : Int) (s : Nat) : -2000000 ≤ lbT V nl W T M v s ∧ lbT V nl W T M v s ≤ 9223372036854775807 := by
  have wE := endV_wf (enV_wf l (s := s) nl 0 V (by omega) w) v
  have eF : vF (endV (enV W T M s nl 0 V) v) = vF V := (endV_TF v).2.1.trans (enV_TF nl 0 V like5.rf).2.1
  exact wLeast_bd wE (vF V) (by rw [eF]; exact Nat.le_refl _)
/-- the same as the class has it: 0 where nobody is -/
def lbC (V : Vw) (nl : Nat) (W T M : Nat → Int) (v : Int) (s : Nat) : Int := wLst (endV (enV W T M s nl 0 V) v) (vF V)
theorem lbC_bd (w : WF V) (l : LWD h nl W T M P) (v : Int) (s : Nat) : -2000000 ≤ lbC V nl W T M v s ∧ lbC V nl W T M v s ≤ 2000000 := by
  have wE := endV_wf (enV_wf l (s := s) nl 0 V (by omega) w) v
  have eF : vF (endV (enV W T M s nl 0 V) v) = vF V := (endV_TF v).2.1.trans (enV_TF nl 0 V like5.rf).2.1
  exact wLst_bd wE (vF V) (by rw [eF]; exact Nat.le_refl _)
theorem lbC_T (v : Int) (s : Nat) : vF V = 0 ∧ lbC V nl W T M v s = 0 ∧ lbT V nl W T M v s = 9223372036854775807 ∨ vF V ≠ 0 ∧ lbC V nl W T M v s = lbT V nl W T M v s := by
  unfold lbC lbT wLst
  by_cases c : vF V = 0
  · rw [if_pos c, c]; exact Or.inl ⟨rfl, rfl, rfl⟩
  · rw [if_neg c]; exact Or.inr ⟨c, rfl⟩
theorem l_mend_27 (hN : 300 ≤ N) {v coin : Int} (hv : v = 0 ∨ v = 1) (hc : 0 ≤ coin ∧ coin ≤ 999) : ∀ (d s n : Nat) (h : Mem) (o : Option (Nat × Int)) (best bp bl : Int), s + d = 2 ^ nl → d < n → (o = none → s = 0) → CSo (vF V) nl P o best bp bl → LWD h nl W T M P → REL h V p pd b → ∃ h', f_X9_mend_27 N n 0 (iz coin) (iz v) (iz best) (iz bp) (lz bl) (iz (s : Int)) h = some (iz (mdT V nl W T M P v coin d s o : Int), h') ∧ REL h' V p pd b ∧ LWD h' nl W T M P := by
  intro d
  induction d with
  | zero =>
    intro s n h o best bp bl hs hn ho cs l r
    obtain ⟨n, rfl⟩ : ∃ k, n = k + 1 := ⟨n - 1, by omega⟩
    have h4 := l.1
    have hp := pow_b nl h4
    have S := r.2.2.2.2.2.2.2.1
    refine ⟨h, ?_, r, l⟩
    rw [f_X9_mend_27, kl_n l S, pow_z nl h4, if_pos (by rw [iz_le (by omega) (by omega) (by omega) (by omega)]; omega), mdT_0]
    rcases cs with ⟨c1, _⟩ | ⟨b0, l0, c1, c2, c3, _⟩
    · have := ho c1; omega
    · rw [c1, c3]; rfl
  | succ d ih =>
    intro s n h o best bp bl hs hn ho cs l r
    obtain ⟨n, rfl⟩ : ∃ k, n = k + 1 := ⟨n - 1, by omega⟩
    have h4 := l.1
    have hp := pow_b nl h4
    have S := r.2.2.2.2.2.2.2.1
    have w := r.2.2.2.1
    have ep := l_price (N := N) l S hN (s := s) (by omega)
    have bp0 := prS_bd l (s := s) nl 0 0 (by omega) (by omega)
    have ec := l_clash (N := N) l S hN (s := s) (by omega)
    rw [f_X9_mend_27, kl_n l S, pow_z nl h4, if_neg (by rw [iz_le (by omega) (by omega) (by omega) (by omega)]; omega), knC S, bq ep]
    have skip : (o = none → s + 1 = 0) → ∃ h', f_X9_mend_27 N n 0 (iz coin) (iz v) (iz best) (iz bp) (lz bl) (iz (s : Int) + 1) h = some (iz (mdT V nl W T M P v coin d (s + 1) o : Int), h') ∧ REL h' V p pd b ∧ LWD h' nl W T M P := by
      intro ho'
      obtain ⟨h1, e1, r1⟩ := ih (s + 1) n h o best bp bl (by omega) (by omega) ho' cs l r
      exact ⟨h1, by rw [il1, iz_add]; exact e1, r1⟩
    by_cases c1 : prS P s nl 0 0 ≤ coin
    · refine Exists.imp (fun h' => And.imp_left (if_neg (by rw [iz_lt (by omega) (by omega) (by omega) (by omega)]; omega)).trans) ?_
      rw [knC S, bq ec]
      cases cl : clO W T s nl 0 with
      | true =>
        rw [mdT_x (fun z : prS P s nl 0 0 ≤ coin ∧ clO W T s nl 0 = false => by rw [cl] at z; cases z.2)]
        refine Exists.imp (fun h' => And.imp_left (if_neg (by decide)).trans) (skip (fun z => ?_))
        have := ho z
        rw [this, clO_0 nl 0 (by omega)] at cl
        cases cl
      | false =>
        refine Exists.imp (fun h' => And.imp_left (if_pos (by decide)).trans) ?_
        obtain ⟨h1, e1, R1, r1, T1⟩ := become17 (N := N) r
        have S1 := r1.2.2.2.2.2.2.2.1
        have q17 : CP 17 p := ⟨c17, r.cp.2⟩
        obtain ⟨h2, e2, R2, T2, g2⟩ := l_enact_2 (N := N) q17 (s := s) (by omega) nl 0 N h1 V (by omega) (by omega) (l.tf T1) S1 R1 w
        have ct1 := r1.2.2.2.2.2.2.2.2.1
        have r2 := r1.tf T2 (ct1.1.tf T2.1 (by rw [g2])) (ct1.2.tf T2.1 (by rw [g2]))
        have S2 := r2.2.2.2.2.2.2.2.1
        have W2 := r2.2.2.2.2.2.2.2.2.2.1.2.1
        have wE := enV_wf l (s := s) nl 0 V (by omega) w
        obtain ⟨h3, e3, R3, K3⟩ := l_strideOn (N := N) R2 wE q17 W2 (by omega) hv
        have T3 := K3.tf (Or.inl rfl)
        have ct2 := r2.2.2.2.2.2.2.2.2.1
        have r3 := r2.tf T3 (ct2.1.tf T3.1 (by rw [K3.2.1])) (ct2.2.tf T3.1 (by rw [K3.2.1]))
        have S3 := r3.2.2.2.2.2.2.2.1
        have eF : vF (endV (enV W T M s nl 0 V) v) = vF V := (endV_TF v).2.1.trans (enV_TF nl 0 V like5.rf).2.1
        have e4 := l_leastWorth (N := N) R3 (endV_wf wE v) (by omega)
        rw [eF] at e4
        have e4' : f_X1_leastWorth N 17 h3 = some (iz (lbC V nl W T M v s), h3) := e4
        have lb := lbC_bd w l v s
        have lt := lbC_T (V := V) (nl := nl) (W := W) (T := T) (M := M) v s
        have l3 := ((l.tf T1).tf T2).tf T3
        have e2' : f_X9_enact N 0 (iz (s : Int)) h1 = some h2 := e2
        have take : ∃ h', f_X9_mend_127 N 0 (iz coin) (iz v) (iz (s : Int)) (iz (prS P s nl 0 0)) (lz (lbC V nl W T M v s)) h3 (fun v0 v1 v2 v3 v4 v5 v7 h => f_X9_mend_27 N n v0 v1 v2 v3 v4 v5 v7 h) = some (iz (mdT V nl W T M P v coin d (s + 1) (some (s, lbT V nl W T M v s)) : Int), h') ∧ REL h' V p pd b ∧ LWD h' nl W T M P := by
          obtain ⟨h5, e5, r5⟩ := ih (s + 1) n h3 (some (s, lbT V nl W T M v s)) (s : Int) (prS P s nl 0 0) (lbC V nl W T M v s) (by omega) (by omega) (fun z => by cases z) (Or.inr ⟨s, _, rfl, by omega, rfl, rfl, lt, lb⟩) l3 r3
          refine ⟨h5, ?_, r5⟩
          unfold f_X9_mend_127
          rw [il1, iz_add]
          exact e5
        rw [kn1 S, kn0 S, bo (ck_q ((r.2.2.2.2.2.2.2.2.1).1.1)), bo e1, knC S1, bo e2', kn6 S2, kn1 S2, k50c W2, bq e3, kn1 S3, bo (ck_q R3.1.1), bq e4', iz_long (by omega) (by omega)]
        rcases cs with ⟨o1, o2, o3, o4⟩ | ⟨b0, l0, o1, o2, o3, o4, o5, o6, o7⟩
        · subst o1
          rw [mdT_N ⟨c1, cl⟩]
          refine Exists.imp (fun h' => And.imp_left (if_pos ?_).trans) take
          rw [il0, lcmp_lt (by omega) (by omega) (by omega) (by omega), o4]
          omega
        · subst o1
          rw [mdT_M ⟨c1, cl⟩]
          have bb := prS_bd l (s := b0) nl 0 0 (by omega) (by omega)
          by_cases g1 : l0 < lbT V nl W T M v s
          · rw [if_pos (Or.inl g1)]
            refine Exists.imp (fun h' => And.imp_left (if_pos ?_).trans) take
            rw [il0, lcmp_lt (by omega) (by omega) (by omega) (by omega)]
            omega
          · refine Exists.imp (fun h' => And.imp_left (if_neg ?_).trans) ?_
            · rw [il0, lcmp_lt (by omega) (by omega) (by omega) (by omega)]
              omega
            have skip3 : ∃ h', f_X9_mend_27 N n 0 (iz coin) (iz v) (iz best) (iz bp) (lz bl) (iz (s : Int) + 1) h3 = some (iz (mdT V nl W T M P v coin d (s + 1) (some (b0, l0)) : Int), h') ∧ REL h' V p pd b ∧ LWD h' nl W T M P := by
              obtain ⟨h5, e5, r5⟩ := ih (s + 1) n h3 (some (b0, l0)) best bp bl (by omega) (by omega) (fun z => by cases z) (Or.inr ⟨b0, l0, rfl, o2, o3, o4, o5, o6, o7⟩) l3 r3
              exact ⟨h5, by rw [il1, iz_add]; exact e5, r5⟩
            by_cases g2 : lbT V nl W T M v s = l0
            · refine Exists.imp (fun h' => And.imp_left (if_pos ?_).trans) ?_
              · rw [il0, lcmp_ne (by omega) (by omega) (by omega) (by omega)]
                omega
              by_cases g3 : prS P s nl 0 0 < prS P b0 nl 0 0
              · rw [if_pos (Or.inr ⟨g2, g3⟩)]
                refine Exists.imp (fun h' => And.imp_left (if_neg ?_).trans) take
                rw [o4, iz_le (by omega) (by omega) (by omega) (by omega)]
                omega
              · rw [if_neg (show ¬ (l0 < lbT V nl W T M v s ∨ (lbT V nl W T M v s = l0 ∧ prS P s nl 0 0 < prS P b0 nl 0 0)) by omega)]
                refine Exists.imp (fun h' => And.imp_left (if_pos ?_).trans) skip3
                rw [o4, iz_le (by omega) (by omega) (by omega) (by omega)]
                omega
            · rw [if_neg (show ¬ (l0 < lbT V nl W T M v s ∨ (lbT V nl W T M v s = l0 ∧ prS P s nl 0 0 < prS P b0 nl 0 0)) by omega)]
              refine Exists.imp (fun h' => And.imp_left (if_neg ?_).trans) skip3
              rw [il0, lcmp_ne (by omega) (by omega) (by omega) (by omega)]
              omega
    · rw [mdT_x (fun z : prS P s nl 0 0 ≤ coin ∧ clO W T s nl 0 = false => c1 z.1)]
      refine Exists.imp (fun h' => And.imp_left (if_pos (by rw [iz_lt (by omega) (by omega) (by omega) (by omega)]; omega)).trans) (skip (fun z => ?_))
      have := ho z
      rw [this, prS_0 nl 0 0 (by omega)] at c1
      omega
end
