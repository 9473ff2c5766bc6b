/-! tip -/
def difB (U W : Vw) (f : Nat) (i d : Nat) : Bool := (fs (differP U W (f : Int)) i d).isSome
def tipX (V : Vw) (v : Int) (f t : Nat) : Bool := difB (endV (vset V 7 (f : Int) (t : Int)) v) (endV V v) f 0 (vF V)
def tipI (V : Vw) (v : Int) (f : Nat) : Nat → Nat → Option Int
  | 0, _ => none
  | d + 1, t => if canGoB V (f : Int) (t : Int) = true then (if tipX V v f t = true then some (100 * (f : Int) + t) else tipI V v f d (t + 1)) else tipI V v f d (t + 1)
def tipO (V : Vw) (v : Int) : Nat → Nat → Int
  | 0, _ => -5
  | d + 1, f => (tipI V v f (vT V) 0).getD (tipO V v d (f + 1))
theorem endV_TF {V : Vw} (v : Int) : vT (endV V v) = vT V ∧ vF (endV V v) = vF V ∧ vs (endV V v) = vs V ∧ ∀ k, k ≠ 1 → k ≠ 7 → va (endV V v) k = va V k := ste_TF v _
theorem endV_wf {V : Vw} (w : WF V) (v : Int) : WF (endV V v) := ste_wf w v _
theorem ar17_28 : ∀ j, j < 10 → ∀ k, k < 9 → ar 28 k ≠ ar 17 j ∧ 28 ≠ ar 17 j ∧ ar 28 k ≠ 17 ∧ ar 28 k ≠ 47 ∧ ar 28 k ≠ 48 ∧ ar 28 k ≠ 49 := by decide
theorem ar17_p : ∀ j, j < 10 → 18 ≤ ar 17 j ∧ ar 17 j ≤ 27 := by decide
theorem BF.r28 {h h' : Mem} {U : Vw} {p : Nat} (k : BF 17 h h') (hp : p = 2 ∨ p = 39) (R : RepC h 28 p U) : RepC h' 28 p U := by
  have a := ar17_p
  refine rep_frame R k.1 (k.2.2.1 28 (by decide) (fun j hj => by have := a j (by omega); omega)) (fun j hj => k.2.2.1 _ ((ar17_28 0 (by decide) j hj).2.2.1) (fun j' hj' => (ar17_28 j' (by omega) j hj).1)) (fun i hi => k.2.2.1 _ (by omega) (fun j hj => by have := a j (by omega); omega)) (k.2.2.2 28 (by decide)) (k.2.2.2 p (by omega))
theorem KC.r28 {h h' : Mem} {U : Vw} {p : Nat} (k : KC 17 h h') (hp : p = 2 ∨ p = 39) (R : RepC h 28 p U) : RepC h' 28 p U := by
  have a := ar17_p
  have a1 := a 1 (by decide)
  have a7 := a 7 (by decide)
  have a9 := a 9 (by decide)
  refine rep_frame R k.1 (k.2.2.2 28 (by omega) (by omega) (by omega) (by decide) (by decide) (by decide)) (fun j hj => k.2.2.2 _ (ar17_28 1 (by decide) j hj).1 (ar17_28 7 (by decide) j hj).1 (ar17_28 9 (by decide) j hj).1 (ar17_28 1 (by decide) j hj).2.2.2.1 (ar17_28 1 (by decide) j hj).2.2.2.2.1 (ar17_28 1 (by decide) j hj).2.2.2.2.2) (fun i hi => k.2.2.2 _ (by omega) (by omega) (by omega) (by omega) (by omega) (by omega)) (by rw [k.2.1]) (by rw [k.2.1])
theorem wr7_r28 {h : Mem} {U : Vw} {p : Nat} {row : Nat → Int32} (hp : p = 2 ∨ p = 39) (R : RepC h 28 p U) : RepC (wr h (ar 17 7) row) 28 p U := by
  have a7 := ar17_p 7 (by decide)
  exact rep_frame R rfl (wr_ne (by omega)) (fun j hj => wr_ne (ar17_28 7 (by decide) j hj).1) (fun i hi => wr_ne (by omega)) rfl rfl
section
variable {h : Mem} {V : Vw} {p pd b N : Nat}
/-- the trial becomes the land in force, the rival stays -/
theorem become17r {U : Vw} (r : REL h V p pd b) (Rr : RepC h 28 p U) : ∃ h', f_X1_become N 17 1 h = some h' ∧ RepC h' 17 p V ∧ REL h' V p pd b ∧ TF h h' ∧ RepC h' 28 p U := by
  have c := r.2.2.2.2.2.2.2.2.1
  obtain ⟨h', e, R1, R2, B⟩ := l_become (N := N) r.2.1 c1 c17 (by decide) r.cp.2 c.1
  have t := B.tf (Or.inl rfl)
  exact ⟨h', e, R2, r.tf t R2.1 (c.2.tf B.1 (B.2.2.2 28 (by decide))), t, B.r28 r.cp.2 Rr⟩
theorem l_tip_39 (hN : 300 ≤ N) {v : Int} (hv : v = 0 ∨ v = 1) {f : Nat} (k26 : Nat → Int32 → Int32 → Mem → Option (Int32 × Mem)) : ∀ (d t n : Nat) (h : Mem), t + d = vT V → d < n → f < vF V → REL h V p pd b → RepC h 28 p (endV V v) → ∃ h', f_X9_tip_39 N n 0 (iz v) (iz (f : Int)) (iz (t : Int)) h k26 = (match tipI V v f d t with
    | some x => some (iz x, h')
    | none => k26 0 (iz v) (iz ((f : Int) + 1)) h') ∧ REL h' V p pd b ∧ RepC h' 28 p (endV V v) := by
  intro d
  induction d with
  | zero =>
    intro t n h ht hn hf r Rr
    obtain ⟨n, rfl⟩ : ∃ k, n = k + 1 := ⟨n - 1, by omega⟩
    have w := r.2.2.2.1
    have hT := w.T
    have hF := w.F
    have S := r.2.2.2.2.2.2.2.1
    refine ⟨h, ?_, r, Rr⟩
    rw [f_X9_tip_39, kn0 S, kT r.2.1, if_pos (by rw [iz_le (by omega) (by omega) (by omega) (by omega)]; omega), tipI, il1, iz_add]
  | succ d ih =>
    intro t n h ht hn hf r Rr
    obtain ⟨n, rfl⟩ : ∃ k, n = k + 1 := ⟨n - 1, by omega⟩
    have w := r.2.2.2.1
    have hT := w.T
    have hF := w.F
    have S := r.2.2.2.2.2.2.2.1
    have hp := r.cp.2
    have a1 := l_canGoB (N := N) r.2.1 w (by omega) (f := (f : Int)) (t := (t : Int)) (by omega) (by omega)
    rw [f_X9_tip_39, kn0 S, kT r.2.1, if_neg (by rw [iz_le (by omega) (by omega) (by omega) (by omega)]; omega), kn0 S, bo (ck_q r.2.1.1.1), bq a1, tipI]
    cases cg : canGoB V (f : Int) (t : Int) with
    | false =>
      obtain ⟨h1, e1, r1, Rr1⟩ := ih (t + 1) n h (by omega) (by omega) hf r Rr
      refine ⟨h1, (if_pos (by decide)).trans ?_, r1, Rr1⟩
      rw [if_neg (show ¬ (false = true) by decide), il1, iz_add]
      exact e1
    | true =>
      refine Exists.imp (fun h' => And.imp_left (if_neg (by decide)).trans) ?_
      rw [if_pos (show true = true from rfl)]
      obtain ⟨h1, e1, R1, r1, T1, Rr1⟩ := become17r (N := N) r Rr
      have S1 := r1.2.2.2.2.2.2.2.1
      have q17 : CP 17 p := ⟨c17, hp⟩
      have a17 := ar_tr (c := 17) (k := 7) (Or.inl rfl) (by decide)
      have R2 := rep_set (k := 7) (j := (f : Int)) (x := (t : Int)) R1 q17 (by decide) (by omega) (by show (f : Int) < (8 : Int); omega)
      have Rr2 := wr7_r28 (row := upd (h1.2.1 (ar 17 7)) (f : Int).toNat (iz (t : Int))) hp Rr1
      generalize hh2 : wr h1 (ar 17 7) (upd (h1.2.1 (ar 17 7)) (f : Int).toNat (iz (t : Int))) = h2 at R2 Rr2
      have T2 : TF h1 h2 := by rw [← hh2]; exact ⟨rfl, fun _ _ _ => rfl, fun _ _ => rfl, fun j hj => wr_ne (by omega)⟩
      have ct1 := r1.2.2.2.2.2.2.2.2.1
      have g2 : h2.2.2.2 = h1.2.2.2 := by rw [← hh2]; rfl
      have r2 := r1.tf T2 (ct1.1.tf T2.1 (by rw [g2])) (ct1.2.tf T2.1 (by rw [g2]))
      have S2 := r2.2.2.2.2.2.2.2.1
      have W2 := r2.2.2.2.2.2.2.2.2.2.1.2.1
      have w2 : WF (vset V 7 (f : Int) (t : Int)) := wf_at w (by omega)
      obtain ⟨h3, e3, R3, K3⟩ := l_strideOn (N := N) R2 w2 q17 W2 (by omega) hv
      have T3 := K3.tf (Or.inl rfl)
      have ct2 := r2.2.2.2.2.2.2.2.2.1
      have r3 := r2.tf T3 (ct2.1.tf T3.1 (by rw [K3.2.1])) (ct2.2.tf T3.1 (by rw [K3.2.1]))
      have Rr3 := K3.r28 hp Rr2
      have S3 := r3.2.2.2.2.2.2.2.1
      have a4 := l_othersDiffer (N := N) (f := (f : Int)) R3 (endV_wf w2 v) Rr3 (endV_wf w v) (by omega) (by omega)
      have eF : vF (endV (vset V 7 (f : Int) (t : Int)) v) = vF V := (endV_TF v).2.1
      rw [eF] at a4
      have step : ∀ o, (if iz (bi (tipX V v f t)) = 0 then f_X9_tip_39 N n 0 (iz v) (iz (f : Int)) (iz (t : Int) + 1) h3 k26 else some ((((100 : Int32) * iz (f : Int)) + iz (t : Int)), h3)) = o → ((gR h 0 9 1).bind fun t13 => (gR h 0 9 0).bind fun t15 => (ck h t13 1).bind fun _ => (f_X1_become N t13 t15 h).bind fun h19 => (gR h19 0 9 1).bind fun t20 => (gR h19 t20 1 10).bind fun t22 => (stI 100 h19 t22 (iz (f : Int)) (iz (t : Int))).bind fun h24 => (gR h24 0 9 6).bind fun t26 => (gR h24 0 9 1).bind fun t28 => (ck h24 t26 8).bind fun _ => b2 (f_X8_strideOn N t26 t28 (iz v) h24) fun t33 h32 => (gR h32 0 9 1).bind fun t34 => (gR h32 0 9 2).bind fun t36 => (ck h32 t34 1).bind fun _ => b2 (f_X1_othersDiffer N t34 t36 (iz (f : Int)) h32) fun t41 h40 => if t41 = 0 then f_X9_tip_39 N n 0 (iz v) (iz (f : Int)) (iz (t : Int) + 1) h40 k26 else some ((((100 : Int32) * iz (f : Int)) + iz (t : Int)), h40)) = o := by
        intro o eo
        rw [kn1 S, kn0 S, bo (ck_q ((r.2.2.2.2.2.2.2.2.1).1.1)), bo e1, kn1 S1, bo (gR_q R1.1.1 (R1.1.2 7 (by decide)).1), kSn R1 7 (by decide) (by omega) (by show (f : Int) < (8 : Int); omega), hh2, kn6 S2, kn1 S2, k50c W2, bq e3, kn1 S3, kn2 S3, bo (ck_q R3.1.1), bq a4]
        refine Eq.trans ?_ eo
        unfold tipX difB
        cases fs (differP (endV (vset V 7 (f : Int) (t : Int)) v) (endV V v) (f : Int)) 0 (vF V) <;> rfl
      refine Exists.imp (fun h' => And.imp_left (step _)) ?_
      cases tx : tipX V v f t with
      | false =>
        obtain ⟨h4, e4, r4, Rr4⟩ := ih (t + 1) n h3 (by omega) (by omega) hf r3 Rr3
        refine ⟨h4, (if_pos (by decide)).trans ?_, r4, Rr4⟩
        rw [if_neg (show ¬ (false = true) by decide), il1, iz_add]
        exact e4
      | true =>
        refine ⟨h3, (if_neg (by decide)).trans ?_, r3, Rr3⟩
        rw [if_pos (show true = true from rfl), show (100 : Int32) = iz 100 from rfl, iz_mul, iz_add]
theorem l_tip_26 (hN : 300 ≤ N) {v : Int} (hv : v = 0 ∨ v = 1) : ∀ (d f n : Nat) (h : Mem), f + d = vF V → d < n → REL h V p pd b → RepC h 28 p (endV V v) → ∃ h', f_X9_tip_26 N n 0 (iz v) (iz (f : Int)) h = some (iz (tipO V v d f), h') ∧ REL h' V p pd b := by
  intro d
  induction d with
  | zero =>
    intro f n h hf hn r Rr
    obtain ⟨n, rfl⟩ : ∃ k, n = k + 1 := ⟨n - 1, by omega⟩
    have w := r.2.2.2.1
    have hF := w.F
    have S := r.2.2.2.2.2.2.2.1
    refine ⟨h, ?_, r⟩
    rw [f_X9_tip_26, kn0 S, kF r.2.1, if_pos (by rw [iz_le (by omega) (by omega) (by omega) (by omega)]; omega), tipO]
    rfl
  | succ d ih =>
    intro f n h hf hn r Rr
    obtain ⟨n, rfl⟩ : ∃ k, n = k + 1 := ⟨n - 1, by omega⟩
    have w := r.2.2.2.1
    have hT := w.T
    have hF := w.F
    have S := r.2.2.2.2.2.2.2.1
    obtain ⟨h1, e1, r1, Rr1⟩ := l_tip_39 (N := N) hN hv (f := f) (fun v0 v1 v2 h => f_X9_tip_26 N n v0 v1 v2 h) (vT V) 0 N h (by omega) (by omega) (by omega) r Rr
    rw [f_X9_tip_26, kn0 S, kF r.2.1, if_neg (by rw [iz_le (by omega) (by omega) (by omega) (by omega)]; omega), tipO]
    have e1' : f_X9_tip_39 N N 0 (iz v) (iz (f : Int)) (0 : Int32) h (fun v0 v1 v2 h => f_X9_tip_26 N n v0 v1 v2 h) = _ := e1
    rw [e1']
    cases tipI V v f (vT V) 0 with
    | some x => exact ⟨h1, rfl, r1⟩
    | none => exact ih (f + 1) n h1 (by omega) (by omega) r1 Rr1
end
