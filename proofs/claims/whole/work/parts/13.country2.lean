abbrev rm_X1_fits : Room := { frames := 2, cells := 0, slots := 0, locals := 63 }
def f_X1_fits_2 (N : Nat) (n : Nat) (v0 : Nat) (v1 : Int32) (h : Mem) : Option (Int32 × Mem) := match n with
  | 0 => none
  | n + 1 =>
    (gI h v0 1 1).bind fun t1 =>
    if t1 ≤ v1 then
      some ((1 : Int32), h)
    else
      (ck h v0 1).bind fun _ =>
      b2 (f_X1_crowd N v0 v1 h) fun t7 h6 =>
      (gR h6 v0 1 3).bind fun t8 =>
      (lI 100 h6 t8 v1).bind fun t10 =>
      if t7 ≤ t10 then
        f_X1_fits_2 N n v0 (v1 + 1) h6
      else
        some ((0 : Int32), h6)
set_option maxRecDepth 100000 in
set_option maxHeartbeats 4000000 in
theorem w_X1_fits_2 {p : Program} {l : Launch} {e : Env} {s : State} {m : MethodId} {args : Array Value} {below : List Frame} {meth : Method} {c : Code} {G : Gx} {r : Int32} {h' : Mem} (X : CX G p s m args c cX1_fits 2 RX1) (hr : meth.sig.returnType = (Option.some Jvm.ClassFile.FieldType.boolean)) (hk : meth.locks = false) (N : Nat) : ∀ (n : Nat) (v0 : Nat) (v1 : Int32) (h : Mem), f_X1_fits_2 N n v0 v1 h = some (r, h') → ∀ (H : Heap) (locs : List Loc) (ls : Array Slot), MS G s h H locs 0 → lv_has ls 2 [(0, .ref (gB G + v0)), (1, .int v1)] → W p l e (rm_X1_fits) s m args below meth c H locs 0 0 (QI G below args s r h' 0 0) (F0 m 2 ls []) := by
  intro n
  induction n with
  | zero =>
    intro v0 v1 h hf
    cases hf
  | succ n ih =>
    intro v0 v1 h hf H locs ls M hl
    rw [f_X1_fits_2] at hf
    refine lv_iload_n X.1 X.2.1 dX1_fits_2 rfl (lv_at hl 1 rfl) ?_
    refine lv_aload_n X.1 X.2.1 dX1_fits_3 rfl (lv_at hl 0 rfl) ?_
    obtain ⟨t1, q2, hf⟩ := bnd hf
    refine x_geti fl_X1_46 X M q2 dX1_fits_4 ?_
    refine lv_icmp_ge (tgt := 32) X.1 X.2.1 dX1_fits_7 (by decide) (fun c3 => ?_) (fun c3 => ?_)
    · have hf := ifp c3 hf
      refine lv_iconst (v := (1 : Int32)) X.1 X.2.1 dX1_fits_32 (by decide) ?_
      obtain ⟨rfl, rfl⟩ := rt2 hf
      exact x_zret X hr hk rfl M dX1_fits_33
    · have hf := ifn c3 hf
      refine lv_aload_n X.1 X.2.1 dX1_fits_10 rfl (lv_at hl 0 rfl) ?_
      refine lv_iload_n X.1 X.2.1 dX1_fits_11 rfl (lv_at hl 1 rfl) ?_
      obtain ⟨⟨⟩, q4, hf⟩ := bnd hf
      obtain ⟨t7, h6, q5, hf⟩ := bnd2 hf
      refine x_callVi (As := [.int v1]) cf_X1_59 (c_X1_crowd l G N v0 v1 h _ _ q5) rfl ⟨rfl, rfl, Nat.le_of_ble_eq_true rfl, Nat.le_of_ble_eq_true rfl⟩ ⟨Nat.le_of_ble_eq_true rfl, Nat.le_of_ble_eq_true rfl⟩ X M (x_recv cls_X1 X M q4) rfl rfl hl.1 (Nat.le_of_ble_eq_true rfl) dX1_fits_12 (fun H locs M => ?_)
      refine lv_aload_n X.1 X.2.1 dX1_fits_15 rfl (lv_at hl 0 rfl) ?_
      obtain ⟨t8, q9, hf⟩ := bnd hf
      refine x_getr fl_X1_9 X M q9 dX1_fits_16 ?_
      refine lv_iload_n X.1 X.2.1 dX1_fits_19 rfl (lv_at hl 1 rfl) ?_
      obtain ⟨t10, q11, hf⟩ := bnd hf
      refine x_iald X M q11 dX1_fits_20 ?_
      refine lv_icmp_le (tgt := 26) X.1 X.2.1 dX1_fits_21 (by decide) (fun c12 => ?_) (fun c12 => ?_)
      · have hf := ifp c12 hf
        refine lv_iinc (v := (v1 + 1)) (lv' := [(1, .int (v1 + 1)), (0, .ref (gB G + v0))]) X.1 X.2.1 dX1_fits_26 hl (k := 1) rfl (by first | rfl | decide) (by decide) rfl (fun ls hl => ?_)
        refine lv_goto (tgt := 2) X.1 X.2.1 dX1_fits_29 (by decide) ?_
        exact ih v0 (v1 + 1) h6 hf _ _ _ M (lv_sub hl [1, 0] rfl)
      · have hf := ifn c12 hf
        refine lv_iconst (v := (0 : Int32)) X.1 X.2.1 dX1_fits_24 (by decide) ?_
        obtain ⟨rfl, rfl⟩ := rt2 hf
        exact x_zret X hr hk rfl M dX1_fits_25
def f_X1_fits (N : Nat) (v0 : Nat) (h : Mem) : Option (Int32 × Mem) :=
  f_X1_fits_2 N N v0 (0 : Int32) h
set_option maxRecDepth 100000 in
set_option maxHeartbeats 4000000 in
theorem w_X1_fits {p : Program} {l : Launch} {e : Env} {s : State} {m : MethodId} {args : Array Value} {below : List Frame} {meth : Method} {c : Code} {G : Gx} {r : Int32} {h' : Mem} (X : CX G p s m args c cX1_fits 2 RX1) (hr : meth.sig.returnType = (Option.some Jvm.ClassFile.FieldType.boolean)) (hk : meth.locks = false) (N : Nat) : ∀ (v0 : Nat) (h : Mem), f_X1_fits N v0 h = some (r, h') → ∀ (H : Heap) (locs : List Loc) (ls : Array Slot), MS G s h H locs 0 → lv_has ls 2 [(0, .ref (gB G + v0))] → W p l e (rm_X1_fits) s m args below meth c H locs 0 0 (QI G below args s r h' 0 0) (F0 m 0 ls []) := by
  intro v0 h hf H locs ls M hl
  rw [f_X1_fits] at hf
  refine lv_iconst (v := (0 : Int32)) X.1 X.2.1 dX1_fits_0 (by decide) ?_
  refine lv_istore_n (lv' := [(1, .int (0 : Int32)), (0, .ref (gB G + v0))]) X.1 X.2.1 dX1_fits_1 rfl hl (by decide) rfl (fun ls hl => ?_)
  exact w_X1_fits_2 X hr hk N N v0 (0 : Int32) h hf _ _ _ M (lv_sub hl [1, 0] rfl)
theorem c_X1_fits (l : Launch) (G : Gx) (N : Nat) (v0 : Nat) (h : Mem) (r : Int32) (h' : Mem) (hf : f_X1_fits N v0 h = some (r, h')) : MetG l G yX1_fits (.code yX1_fits cX1_fits 2 (Option.some Jvm.ClassFile.FieldType.boolean)) rm_X1_fits [.ref (gB G + v0)] h (QcI G r h') 0 0 :=
  x_met (by decide) rfl (Nat.le_of_ble_eq_true rfl) (fun p e s m args below meth c ls X M hr hk hin hl => w_X1_fits X hr hk N v0 h hf _ _ ls M hl)
abbrev rm_X1_hasTooManyWays : Room := { frames := 1, cells := 0, slots := 0, locals := 40 }
def f_X1_hasTooManyWays_16 (N : Nat) (h : Mem) : Option (Int32 × Mem) :=
  some ((1 : Int32), h)
set_option maxRecDepth 100000 in
set_option maxHeartbeats 4000000 in
theorem w_X1_hasTooManyWays_16 {p : Program} {l : Launch} {e : Env} {s : State} {m : MethodId} {args : Array Value} {below : List Frame} {meth : Method} {c : Code} {G : Gx} {r : Int32} {h' : Mem} (X : CX G p s m args c cX1_hasTooManyWays 1 RX1) (hr : meth.sig.returnType = (Option.some Jvm.ClassFile.FieldType.boolean)) (hk : meth.locks = false) (N : Nat) : ∀ (h : Mem), f_X1_hasTooManyWays_16 N  h = some (r, h') → ∀ (H : Heap) (locs : List Loc) (ls : Array Slot), MS G s h H locs 0 → lv_has ls 1 [] → W p l e (rm_X1_hasTooManyWays) s m args below meth c H locs 0 0 (QI G below args s r h' 0 0) (F0 m 16 ls []) := by
  intro  h hf H locs ls M hl
  rw [f_X1_hasTooManyWays_16] at hf
  refine lv_iconst (v := (1 : Int32)) X.1 X.2.1 dX1_hasTooManyWays_16 (by decide) ?_
  refine lv_goto (tgt := 21) X.1 X.2.1 dX1_hasTooManyWays_17 (by decide) ?_
  obtain ⟨rfl, rfl⟩ := rt2 hf
  exact x_zret X hr hk rfl M dX1_hasTooManyWays_21
def f_X1_hasTooManyWays (N : Nat) (v0 : Nat) (h : Mem) : Option (Int32 × Mem) :=
  (gI h v0 1 2).bind fun t1 =>
  if (5 : Int32) < t1 then
    f_X1_hasTooManyWays_16 N h
  else
    (gI h v0 1 1).bind fun t4 =>
    if t4 ≤ (3 : Int32) then
      some ((0 : Int32), h)
    else
      f_X1_hasTooManyWays_16 N h
set_option maxRecDepth 100000 in
set_option maxHeartbeats 4000000 in
theorem w_X1_hasTooManyWays {p : Program} {l : Launch} {e : Env} {s : State} {m : MethodId} {args : Array Value} {below : List Frame} {meth : Method} {c : Code} {G : Gx} {r : Int32} {h' : Mem} (X : CX G p s m args c cX1_hasTooManyWays 1 RX1) (hr : meth.sig.returnType = (Option.some Jvm.ClassFile.FieldType.boolean)) (hk : meth.locks = false) (N : Nat) : ∀ (v0 : Nat) (h : Mem), f_X1_hasTooManyWays N v0 h = some (r, h') → ∀ (H : Heap) (locs : List Loc) (ls : Array Slot), MS G s h H locs 0 → lv_has ls 1 [(0, .ref (gB G + v0))] → W p l e (rm_X1_hasTooManyWays) s m args below meth c H locs 0 0 (QI G below args s r h' 0 0) (F0 m 0 ls []) := by
  intro v0 h hf H locs ls M hl
  rw [f_X1_hasTooManyWays] at hf
  refine lv_aload_n X.1 X.2.1 dX1_hasTooManyWays_0 rfl (lv_at hl 0 rfl) ?_
  obtain ⟨t1, q2, hf⟩ := bnd hf
  refine x_geti fl_X1_50 X M q2 dX1_hasTooManyWays_1 ?_
  refine lv_iconst (v := (5 : Int32)) X.1 X.2.1 dX1_hasTooManyWays_4 (by decide) ?_
  refine lv_icmp_gt (tgt := 16) X.1 X.2.1 dX1_hasTooManyWays_5 (by decide) (fun c3 => ?_) (fun c3 => ?_)
  · have hf := ifp c3 hf
    exact w_X1_hasTooManyWays_16 X hr hk N h hf _ _ _ M (lv_sub hl [] rfl)
  · have hf := ifn c3 hf
    refine lv_aload_n X.1 X.2.1 dX1_hasTooManyWays_8 rfl (lv_at hl 0 rfl) ?_
    obtain ⟨t4, q5, hf⟩ := bnd hf
    refine x_geti fl_X1_46 X M q5 dX1_hasTooManyWays_9 ?_
    refine lv_iconst (v := (3 : Int32)) X.1 X.2.1 dX1_hasTooManyWays_12 (by decide) ?_
    refine lv_icmp_le (tgt := 20) X.1 X.2.1 dX1_hasTooManyWays_13 (by decide) (fun c6 => ?_) (fun c6 => ?_)
    · have hf := ifp c6 hf
      refine lv_iconst (v := (0 : Int32)) X.1 X.2.1 dX1_hasTooManyWays_20 (by decide) ?_
      obtain ⟨rfl, rfl⟩ := rt2 hf
      exact x_zret X hr hk rfl M dX1_hasTooManyWays_21
    · have hf := ifn c6 hf
      exact w_X1_hasTooManyWays_16 X hr hk N h hf _ _ _ M (lv_sub hl [] rfl)
theorem c_X1_hasTooManyWays (l : Launch) (G : Gx) (N : Nat) (v0 : Nat) (h : Mem) (r : Int32) (h' : Mem) (hf : f_X1_hasTooManyWays N v0 h = some (r, h')) : MetG l G yX1_hasTooManyWays (.code yX1_hasTooManyWays cX1_hasTooManyWays 1 (Option.some Jvm.ClassFile.FieldType.boolean)) rm_X1_hasTooManyWays [.ref (gB G + v0)] h (QcI G r h') 0 0 :=
  x_met (by decide) rfl (Nat.le_of_ble_eq_true rfl) (fun p e s m args below meth c ls X M hr hk hin hl => w_X1_hasTooManyWays X hr hk N v0 h hf _ _ ls M hl)
abbrev rm_X1_ways : Room := { frames := 1, cells := 0, slots := 0, locals := 40 }
def f_X1_ways_4 (N : Nat) (n : Nat) (v0 : Nat) (v1 : Int32) (v2 : Int32) (h : Mem) : Option (Int32 × Mem) := match n with
  | 0 => none
  | n + 1 =>
    (gI h v0 1 2).bind fun t1 =>
    if t1 ≤ v2 then
      some (v1, h)
    else
      (gI h v0 1 1).bind fun t4 =>
      f_X1_ways_4 N n v0 (v1 * t4) (v2 + 1) h
set_option maxRecDepth 100000 in
set_option maxHeartbeats 4000000 in
theorem w_X1_ways_4 {p : Program} {l : Launch} {e : Env} {s : State} {m : MethodId} {args : Array Value} {below : List Frame} {meth : Method} {c : Code} {G : Gx} {r : Int32} {h' : Mem} (X : CX G p s m args c cX1_ways 3 RX1) (hr : meth.sig.returnType = (Option.some Jvm.ClassFile.FieldType.int)) (hk : meth.locks = false) (N : Nat) : ∀ (n : Nat) (v0 : Nat) (v1 : Int32) (v2 : Int32) (h : Mem), f_X1_ways_4 N n v0 v1 v2 h = some (r, h') → ∀ (H : Heap) (locs : List Loc) (ls : Array Slot), MS G s h H locs 0 → lv_has ls 3 [(0, .ref (gB G + v0)), (1, .int v1), (2, .int v2)] → W p l e (rm_X1_ways) s m args below meth c H locs 0 0 (QI G below args s r h' 0 0) (F0 m 4 ls []) := by
  intro n
  induction n with
  | zero =>
    intro v0 v1 v2 h hf
    cases hf
  | succ n ih =>
    intro v0 v1 v2 h hf H locs ls M hl
    rw [f_X1_ways_4] at hf
    refine lv_iload_n X.1 X.2.1 dX1_ways_4 rfl (lv_at hl 2 rfl) ?_
    refine lv_aload_n X.1 X.2.1 dX1_ways_5 rfl (lv_at hl 0 rfl) ?_
    obtain ⟨t1, q2, hf⟩ := bnd hf
    refine x_geti fl_X1_50 X M q2 dX1_ways_6 ?_
    refine lv_icmp_ge (tgt := 25) X.1 X.2.1 dX1_ways_9 (by decide) (fun c3 => ?_) (fun c3 => ?_)
    · have hf := ifp c3 hf
      refine lv_iload_n X.1 X.2.1 dX1_ways_25 rfl (lv_at hl 1 rfl) ?_
      obtain ⟨rfl, rfl⟩ := rt2 hf
      exact x_iret X hr hk M dX1_ways_26
    · have hf := ifn c3 hf
      refine lv_iload_n X.1 X.2.1 dX1_ways_12 rfl (lv_at hl 1 rfl) ?_
      refine lv_aload_n X.1 X.2.1 dX1_ways_13 rfl (lv_at hl 0 rfl) ?_
      obtain ⟨t4, q5, hf⟩ := bnd hf
      refine x_geti fl_X1_46 X M q5 dX1_ways_14 ?_
      refine lv_imul X.1 X.2.1 dX1_ways_17 ?_
      refine lv_istore_n (lv' := [(1, .int (v1 * t4)), (0, .ref (gB G + v0)), (2, .int v2)]) X.1 X.2.1 dX1_ways_18 rfl hl (by decide) rfl (fun ls hl => ?_)
      refine lv_iinc (v := (v2 + 1)) (lv' := [(2, .int (v2 + 1)), (1, .int (v1 * t4)), (0, .ref (gB G + v0))]) X.1 X.2.1 dX1_ways_19 hl (k := 2) rfl (by first | rfl | decide) (by decide) rfl (fun ls hl => ?_)
      refine lv_goto (tgt := 4) X.1 X.2.1 dX1_ways_22 (by decide) ?_
      exact ih v0 (v1 * t4) (v2 + 1) h hf _ _ _ M (lv_sub hl [2, 1, 0] rfl)
def f_X1_ways (N : Nat) (v0 : Nat) (h : Mem) : Option (Int32 × Mem) :=
  f_X1_ways_4 N N v0 (1 : Int32) (0 : Int32) h
set_option maxRecDepth 100000 in
set_option maxHeartbeats 4000000 in
theorem w_X1_ways {p : Program} {l : Launch} {e : Env} {s : State} {m : MethodId} {args : Array Value} {below : List Frame} {meth : Method} {c : Code} {G : Gx} {r : Int32} {h' : Mem} (X : CX G p s m args c cX1_ways 3 RX1) (hr : meth.sig.returnType = (Option.some Jvm.ClassFile.FieldType.int)) (hk : meth.locks = false) (N : Nat) : ∀ (v0 : Nat) (h : Mem), f_X1_ways N v0 h = some (r, h') → ∀ (H : Heap) (locs : List Loc) (ls : Array Slot), MS G s h H locs 0 → lv_has ls 3 [(0, .ref (gB G + v0))] → W p l e (rm_X1_ways) s m args below meth c H locs 0 0 (QI G below args s r h' 0 0) (F0 m 0 ls []) := by
  intro v0 h hf H locs ls M hl
  rw [f_X1_ways] at hf
  refine lv_iconst (v := (1 : Int32)) X.1 X.2.1 dX1_ways_0 (by decide) ?_
  refine lv_istore_n (lv' := [(1, .int (1 : Int32)), (0, .ref (gB G + v0))]) X.1 X.2.1 dX1_ways_1 rfl hl (by decide) rfl (fun ls hl => ?_)
  refine lv_iconst (v := (0 : Int32)) X.1 X.2.1 dX1_ways_2 (by decide) ?_
  refine lv_istore_n (lv' := [(2, .int (0 : Int32)), (1, .int (1 : Int32)), (0, .ref (gB G + v0))]) X.1 X.2.1 dX1_ways_3 rfl hl (by decide) rfl (fun ls hl => ?_)
  exact w_X1_ways_4 X hr hk N N v0 (1 : Int32) (0 : Int32) h hf _ _ _ M (lv_sub hl [2, 1, 0] rfl)
theorem c_X1_ways (l : Launch) (G : Gx) (N : Nat) (v0 : Nat) (h : Mem) (r : Int32) (h' : Mem) (hf : f_X1_ways N v0 h = some (r, h')) : MetG l G yX1_ways (.code yX1_ways cX1_ways 3 (Option.some Jvm.ClassFile.FieldType.int)) rm_X1_ways [.ref (gB G + v0)] h (QcI G r h') 0 0 :=
  x_met (by decide) rfl (Nat.le_of_ble_eq_true rfl) (fun p e s m args below meth c ls X M hr hk hin hl => w_X1_ways X hr hk N v0 h hf _ _ ls M hl)
abbrev rm_X1_settle : Room := { frames := 3, cells := 0, slots := 0, locals := 84 }
def f_X1_settle_29 (N : Nat) (n : Nat) (v0 : Nat) (v2 : Int32) (v3 : Int32) (h : Mem) : Option (Int32 × Mem) := match n with
  | 0 => none
  | n + 1 =>
    if v3 < 0 then
      (ck h v0 1).bind fun _ =>
      b2 (f_X1_fits N v0 h) fun t5 h4 =>
      rz t5 h4
    else
      (gR h v0 1 10).bind fun t6 =>
      (gI h v0 1 1).bind fun t8 =>
      if t8 = 0 then none else
      (stI 100 h t6 v3 (v2 - v2 / t8 * t8)).bind fun h11 =>
      (gI h11 v0 1 1).bind fun t13 =>
      if t13 = 0 then none else
      f_X1_settle_29 N n v0 (v2 / t13) (v3 + (-1)) h11
set_option maxRecDepth 100000 in
set_option maxHeartbeats 4000000 in
theorem w_X1_settle_29 {p : Program} {l : Launch} {e : Env} {s : State} {m : MethodId} {args : Array Value} {below : List Frame} {meth : Method} {c : Code} {G : Gx} {r : Int32} {h' : Mem} (X : CX G p s m args c cX1_settle 4 RX1) (hr : meth.sig.returnType = (Option.some Jvm.ClassFile.FieldType.boolean)) (hk : meth.locks = false) (N : Nat) : ∀ (n : Nat) (v0 : Nat) (v2 : Int32) (v3 : Int32) (h : Mem), f_X1_settle_29 N n v0 v2 v3 h = some (r, h') → ∀ (H : Heap) (locs : List Loc) (ls : Array Slot), MS G s h H locs 0 → lv_has ls 4 [(0, .ref (gB G + v0)), (2, .int v2), (3, .int v3)] → W p l e (rm_X1_settle) s m args below meth c H locs 0 0 (QI G below args s r h' 0 0) (F0 m 29 ls []) := by
  intro n
  induction n with
  | zero =>
    intro v0 v2 v3 h hf
    cases hf
  | succ n ih =>
    intro v0 v2 v3 h hf H locs ls M hl
    rw [f_X1_settle_29] at hf
    refine lv_iload_n X.1 X.2.1 dX1_settle_29 rfl (lv_at hl 2 rfl) ?_
    refine lv_if_lt (tgt := 58) X.1 X.2.1 dX1_settle_30 (by decide) (fun c1 => ?_) (fun c1 => ?_)
    · have hf := ifp c1 hf
      refine lv_aload_n X.1 X.2.1 dX1_settle_58 rfl (lv_at hl 0 rfl) ?_
      obtain ⟨⟨⟩, q2, hf⟩ := bnd hf
      obtain ⟨t5, h4, q3, hf⟩ := bnd2 hf
      refine x_callVi (As := []) cf_X1_149 (c_X1_fits l G N v0 h _ _ q3) rfl ⟨rfl, rfl, Nat.le_of_ble_eq_true rfl, Nat.le_of_ble_eq_true rfl⟩ ⟨Nat.le_of_ble_eq_true rfl, Nat.le_of_ble_eq_true rfl⟩ X M (x_recv cls_X1 X M q2) rfl rfl hl.1 (Nat.le_of_ble_eq_true rfl) dX1_settle_59 (fun H locs M => ?_)
      obtain ⟨z, rfl, rfl⟩ := rz_spec hf
      exact x_zret X hr hk (nz z) M dX1_settle_62
    · have hf := ifn c1 hf
      refine lv_aload_n X.1 X.2.1 dX1_settle_33 rfl (lv_at hl 0 rfl) ?_
      obtain ⟨t6, q7, hf⟩ := bnd hf
      refine x_getr fl_X1_33 X M q7 dX1_settle_34 ?_
      refine lv_iload_n X.1 X.2.1 dX1_settle_37 rfl (lv_at hl 2 rfl) ?_
      refine lv_iload_n X.1 X.2.1 dX1_settle_38 rfl (lv_at hl 1 rfl) ?_
      refine lv_aload_n X.1 X.2.1 dX1_settle_39 rfl (lv_at hl 0 rfl) ?_
      obtain ⟨t8, q9, hf⟩ := bnd hf
      refine x_geti fl_X1_46 X M q9 dX1_settle_40 ?_
      by_cases c10 : t8 = 0
      · have hf := ifp c10 hf
        cases hf
      have hf := ifn c10 hf
      refine lv_irem X.1 X.2.1 dX1_settle_43 c10 ?_
      obtain ⟨h11, q12, hf⟩ := bnd hf
      refine x_iast X M q12 dX1_settle_44 (fun H locs M => ?_)
      refine lv_iload_n X.1 X.2.1 dX1_settle_45 rfl (lv_at hl 1 rfl) ?_
      refine lv_aload_n X.1 X.2.1 dX1_settle_46 rfl (lv_at hl 0 rfl) ?_
      obtain ⟨t13, q14, hf⟩ := bnd hf
      refine x_geti fl_X1_46 X M q14 dX1_settle_47 ?_
      by_cases c15 : t13 = 0
      · have hf := ifp c15 hf
        cases hf
      have hf := ifn c15 hf
      refine lv_idiv X.1 X.2.1 dX1_settle_50 c15 ?_
      refine lv_istore_n (lv' := [(2, .int (v2 / t13)), (0, .ref (gB G + v0)), (3, .int v3)]) X.1 X.2.1 dX1_settle_51 rfl hl (by decide) rfl (fun ls hl => ?_)
      refine lv_iinc (v := (v3 + (-1))) (lv' := [(3, .int (v3 + (-1))), (2, .int (v2 / t13)), (0, .ref (gB G + v0))]) X.1 X.2.1 dX1_settle_52 hl (k := 2) rfl (by first | rfl | decide) (by decide) rfl (fun ls hl => ?_)
      refine lv_goto (tgt := 29) X.1 X.2.1 dX1_settle_55 (by decide) ?_
      exact ih v0 (v2 / t13) (v3 + (-1)) h11 hf _ _ _ M (lv_sub hl [2, 1, 0] rfl)
def f_X1_settle (N : Nat) (v0 : Nat) (v1 : Int32) (h : Mem) : Option (Int32 × Mem) :=
  (gI h v0 1 1).bind fun t1 =>
  if t1 = 0 then
    (gI h v0 1 2).bind fun t6 =>
    if t6 = 0 then
      some ((1 : Int32), h)
    else
      some ((0 : Int32), h)
  else
    (gI h v0 1 2).bind fun t4 =>
    f_X1_settle_29 N N v0 v1 (t4 - (1 : Int32)) h
set_option maxRecDepth 100000 in
set_option maxHeartbeats 4000000 in
theorem w_X1_settle {p : Program} {l : Launch} {e : Env} {s : State} {m : MethodId} {args : Array Value} {below : List Frame} {meth : Method} {c : Code} {G : Gx} {r : Int32} {h' : Mem} (X : CX G p s m args c cX1_settle 4 RX1) (hr : meth.sig.returnType = (Option.some Jvm.ClassFile.FieldType.boolean)) (hk : meth.locks = false) (N : Nat) : ∀ (v0 : Nat) (v1 : Int32) (h : Mem), f_X1_settle N v0 v1 h = some (r, h') → ∀ (H : Heap) (locs : List Loc) (ls : Array Slot), MS G s h H locs 0 → lv_has ls 4 [(0, .ref (gB G + v0)), (1, .int v1)] → W p l e (rm_X1_settle) s m args below meth c H locs 0 0 (QI G below args s r h' 0 0) (F0 m 0 ls []) := by
  intro v0 v1 h hf H locs ls M hl
  rw [f_X1_settle] at hf
  refine lv_aload_n X.1 X.2.1 dX1_settle_0 rfl (lv_at hl 0 rfl) ?_
  obtain ⟨t1, q2, hf⟩ := bnd hf
  refine x_geti fl_X1_46 X M q2 dX1_settle_1 ?_
  refine lv_if_ne (tgt := 20) X.1 X.2.1 dX1_settle_4 (by decide) (fun c3 => ?_) (fun c3 => ?_)
  · have hf := ifn c3 hf
    refine lv_iload_n X.1 X.2.1 dX1_settle_20 rfl (lv_at hl 1 rfl) ?_
    refine lv_istore_n (lv' := [(2, .int v1), (0, .ref (gB G + v0)), (1, .int v1)]) X.1 X.2.1 dX1_settle_21 rfl hl (by decide) rfl (fun ls hl => ?_)
    refine lv_aload_n X.1 X.2.1 dX1_settle_22 rfl (lv_at hl 1 rfl) ?_
    obtain ⟨t4, q5, hf⟩ := bnd hf
    refine x_geti fl_X1_50 X M q5 dX1_settle_23 ?_
    refine lv_iconst (v := (1 : Int32)) X.1 X.2.1 dX1_settle_26 (by decide) ?_
    refine lv_isub X.1 X.2.1 dX1_settle_27 ?_
    refine lv_istore_n (lv' := [(3, .int (t4 - (1 : Int32))), (2, .int v1), (0, .ref (gB G + v0)), (1, .int v1)]) X.1 X.2.1 dX1_settle_28 rfl hl (by decide) rfl (fun ls hl => ?_)
    exact w_X1_settle_29 X hr hk N N v0 v1 (t4 - (1 : Int32)) h hf _ _ _ M (lv_sub hl [2, 1, 0] rfl)
  · have hf := ifp c3 hf
    refine lv_aload_n X.1 X.2.1 dX1_settle_7 rfl (lv_at hl 0 rfl) ?_
    obtain ⟨t6, q7, hf⟩ := bnd hf
    refine x_geti fl_X1_50 X M q7 dX1_settle_8 ?_
    refine lv_if_ne (tgt := 18) X.1 X.2.1 dX1_settle_11 (by decide) (fun c8 => ?_) (fun c8 => ?_)
    · have hf := ifn c8 hf
      refine lv_iconst (v := (0 : Int32)) X.1 X.2.1 dX1_settle_18 (by decide) ?_
      obtain ⟨rfl, rfl⟩ := rt2 hf
      exact x_zret X hr hk rfl M dX1_settle_19
    · have hf := ifp c8 hf
      refine lv_iconst (v := (1 : Int32)) X.1 X.2.1 dX1_settle_14 (by decide) ?_
      refine lv_goto (tgt := 19) X.1 X.2.1 dX1_settle_15 (by decide) ?_
      obtain ⟨rfl, rfl⟩ := rt2 hf
      exact x_zret X hr hk rfl M dX1_settle_19
theorem c_X1_settle (l : Launch) (G : Gx) (N : Nat) (v0 : Nat) (v1 : Int32) (h : Mem) (r : Int32) (h' : Mem) (hf : f_X1_settle N v0 v1 h = some (r, h')) : MetG l G yX1_settle (.code yX1_settle cX1_settle 4 (Option.some Jvm.ClassFile.FieldType.boolean)) rm_X1_settle [.ref (gB G + v0), .int v1] h (QcI G r h') 0 0 :=
  x_met (by decide) rfl (Nat.le_of_ble_eq_true rfl) (fun p e s m args below meth c ls X M hr hk hin hl => w_X1_settle X hr hk N v0 v1 h hf _ _ ls M hl)
abbrev rm_X1_worthOfAll : Room := { frames := 5, cells := 0, slots := 0, locals := 136 }
def f_X1_worthOfAll_4 (N : Nat) (n : Nat) (v0 : Nat) (v1 : Int64) (v3 : Int32) (h : Mem) : Option (Int64 × Mem) := match n with
  | 0 => none
  | n + 1 =>
    (gI h v0 1 2).bind fun t1 =>
    if t1 ≤ v3 then
      some (v1, h)
    else
      (gR h v0 1 10).bind fun t4 =>
      (lI 100 h t4 v3).bind fun t6 =>
      (ck h v0 1).bind fun _ =>
      b2 (f_X1_worthOf N v0 v3 t6 h) fun t11 h10 =>
      f_X1_worthOfAll_4 N n v0 (v1 + ((Int32.toInt64 t11))) (v3 + 1) h10
set_option maxRecDepth 100000 in
set_option maxHeartbeats 4000000 in
theorem w_X1_worthOfAll_4 {p : Program} {l : Launch} {e : Env} {s : State} {m : MethodId} {args : Array Value} {below : List Frame} {meth : Method} {c : Code} {G : Gx} {r : Int64} {h' : Mem} (X : CX G p s m args c cX1_worthOfAll 4 RX1) (hr : meth.sig.returnType = (Option.some Jvm.ClassFile.FieldType.long)) (hk : meth.locks = false) (N : Nat) : ∀ (n : Nat) (v0 : Nat) (v1 : Int64) (v3 : Int32) (h : Mem), f_X1_worthOfAll_4 N n v0 v1 v3 h = some (r, h') → ∀ (H : Heap) (locs : List Loc) (ls : Array Slot), MS G s h H locs 0 → lv_has ls 4 [(0, .ref (gB G + v0)), (1, .long v1), (3, .int v3)] → W p l e (rm_X1_worthOfAll) s m args below meth c H locs 0 0 (QL G below args s r h' 0 0) (F0 m 4 ls []) := by
  intro n
  induction n with
  | zero =>
    intro v0 v1 v3 h hf
    cases hf
  | succ n ih =>
    intro v0 v1 v3 h hf H locs ls M hl
    rw [f_X1_worthOfAll_4] at hf
    refine lv_iload_n X.1 X.2.1 dX1_worthOfAll_4 rfl (lv_at hl 2 rfl) ?_
    refine lv_aload_n X.1 X.2.1 dX1_worthOfAll_5 rfl (lv_at hl 0 rfl) ?_
    obtain ⟨t1, q2, hf⟩ := bnd hf
    refine x_geti fl_X1_50 X M q2 dX1_worthOfAll_6 ?_
    refine lv_icmp_ge (tgt := 33) X.1 X.2.1 dX1_worthOfAll_9 (by decide) (fun c3 => ?_) (fun c3 => ?_)
    · have hf := ifp c3 hf
      refine lv_lload_n X.1 X.2.1 dX1_worthOfAll_33 rfl (lv_at hl 1 rfl) ?_
      obtain ⟨rfl, rfl⟩ := rt2 hf
      exact x_lret X hr hk M dX1_worthOfAll_34
    · have hf := ifn c3 hf
      refine lv_lload_n X.1 X.2.1 dX1_worthOfAll_12 rfl (lv_at hl 1 rfl) ?_
      refine lv_aload_n X.1 X.2.1 dX1_worthOfAll_13 rfl (lv_at hl 0 rfl) ?_
      refine lv_iload_n X.1 X.2.1 dX1_worthOfAll_14 rfl (lv_at hl 2 rfl) ?_
      refine lv_aload_n X.1 X.2.1 dX1_worthOfAll_15 rfl (lv_at hl 0 rfl) ?_
      obtain ⟨t4, q5, hf⟩ := bnd hf
      refine x_getr fl_X1_33 X M q5 dX1_worthOfAll_16 ?_
      refine lv_iload_n X.1 X.2.1 dX1_worthOfAll_19 rfl (lv_at hl 2 rfl) ?_
      obtain ⟨t6, q7, hf⟩ := bnd hf
      refine x_iald X M q7 dX1_worthOfAll_20 ?_
      obtain ⟨⟨⟩, q8, hf⟩ := bnd hf
      obtain ⟨t11, h10, q9, hf⟩ := bnd2 hf
      refine x_callVi (As := [.int v3, .int t6]) cf_X1_117 (c_X1_worthOf l G N v0 v3 t6 h _ _ q9) rfl ⟨rfl, rfl, Nat.le_of_ble_eq_true rfl, Nat.le_of_ble_eq_true rfl⟩ ⟨Nat.le_of_ble_eq_true rfl, Nat.le_of_ble_eq_true rfl⟩ X M (x_recv cls_X1 X M q8) rfl rfl hl.1 (Nat.le_of_ble_eq_true rfl) dX1_worthOfAll_21 (fun H locs M => ?_)
      refine lv_i2l (v := ((Int32.toInt64 t11))) X.1 X.2.1 dX1_worthOfAll_24 rfl ?_
      refine lv_ladd X.1 X.2.1 dX1_worthOfAll_25 ?_
      refine lv_lstore_n (lv' := [(1, .long (v1 + ((Int32.toInt64 t11)))), (0, .ref (gB G + v0)), (3, .int v3)]) X.1 X.2.1 dX1_worthOfAll_26 rfl hl (by decide) rfl (fun ls hl => ?_)
      refine lv_iinc (v := (v3 + 1)) (lv' := [(3, .int (v3 + 1)), (1, .long (v1 + ((Int32.toInt64 t11)))), (0, .ref (gB G + v0))]) X.1 X.2.1 dX1_worthOfAll_27 hl (k := 2) rfl (by first | rfl | decide) (by decide) rfl (fun ls hl => ?_)
      refine lv_goto (tgt := 4) X.1 X.2.1 dX1_worthOfAll_30 (by decide) ?_
      exact ih v0 (v1 + ((Int32.toInt64 t11))) (v3 + 1) h10 hf _ _ _ M (lv_sub hl [2, 1, 0] rfl)
def f_X1_worthOfAll (N : Nat) (v0 : Nat) (h : Mem) : Option (Int64 × Mem) :=
  f_X1_worthOfAll_4 N N v0 (0 : Int64) (0 : Int32) h
set_option maxRecDepth 100000 in
set_option maxHeartbeats 4000000 in
theorem w_X1_worthOfAll {p : Program} {l : Launch} {e : Env} {s : State} {m : MethodId} {args : Array Value} {below : List Frame} {meth : Method} {c : Code} {G : Gx} {r : Int64} {h' : Mem} (X : CX G p s m args c cX1_worthOfAll 4 RX1) (hr : meth.sig.returnType = (Option.some Jvm.ClassFile.FieldType.long)) (hk : meth.locks = false) (N : Nat) : ∀ (v0 : Nat) (h : Mem), f_X1_worthOfAll N v0 h = some (r, h') → ∀ (H : Heap) (locs : List Loc) (ls : Array Slot), MS G s h H locs 0 → lv_has ls 4 [(0, .ref (gB G + v0))] → W p l e (rm_X1_worthOfAll) s m args below meth c H locs 0 0 (QL G below args s r h' 0 0) (F0 m 0 ls []) := by
  intro v0 h hf H locs ls M hl
  rw [f_X1_worthOfAll] at hf
  refine lv_lconst (v := 0) X.1 X.2.1 dX1_worthOfAll_0 rfl ?_
  refine lv_lstore_n (lv' := [(1, .long (0 : Int64)), (0, .ref (gB G + v0))]) X.1 X.2.1 dX1_worthOfAll_1 rfl hl (by decide) rfl (fun ls hl => ?_)
  refine lv_iconst (v := (0 : Int32)) X.1 X.2.1 dX1_worthOfAll_2 (by decide) ?_
  refine lv_istore_n (lv' := [(3, .int (0 : Int32)), (1, .long (0 : Int64)), (0, .ref (gB G + v0))]) X.1 X.2.1 dX1_worthOfAll_3 rfl hl (by decide) rfl (fun ls hl => ?_)
  exact w_X1_worthOfAll_4 X hr hk N N v0 (0 : Int64) (0 : Int32) h hf _ _ _ M (lv_sub hl [2, 1, 0] rfl)
theorem c_X1_worthOfAll (l : Launch) (G : Gx) (N : Nat) (v0 : Nat) (h : Mem) (r : Int64) (h' : Mem) (hf : f_X1_worthOfAll N v0 h = some (r, h')) : MetG l G yX1_worthOfAll (.code yX1_worthOfAll cX1_worthOfAll 4 (Option.some Jvm.ClassFile.FieldType.long)) rm_X1_worthOfAll [.ref (gB G + v0)] h (QcL G r h') 0 0 :=
  x_met (by decide) rfl (Nat.le_of_ble_eq_true rfl) (fun p e s m args below meth c ls X M hr hk hin hl => w_X1_worthOfAll X hr hk N v0 h hf _ _ ls M hl)
abbrev rm_X1_soughtTown : Room := { frames := 5, cells := 0, slots := 0, locals := 136 }
def f_X1_soughtTown_18 (N : Nat) (n : Nat) (v0 : Nat) (v1 : Int32) (v2 : Int32) (v3 : Int32) (h : Mem) (k2 : Nat → Int32 → Mem → Option (Int32 × Mem)) : Option (Int32 × Mem) := match n with
  | 0 => none
  | n + 1 =>
    (gI h v0 1 2).bind fun t1 =>
    if t1 ≤ v3 then
      (gR h v0 1 3).bind fun t4 =>
      (lI 100 h t4 v1).bind fun t6 =>
      if v2 ≤ t6 then
        k2 v0 (v1 + 1) h
      else
        some (v1, h)
    else
      (gR h v0 1 10).bind fun t9 =>
      (lI 100 h t9 v3).bind fun t11 =>
      if t11 = v1 then
        f_X1_soughtTown_18 N n v0 v1 v2 (v3 + 1) h k2
      else
        (gR h v0 1 9).bind fun t14 =>
        (lI 100 h t14 v3).bind fun t16 =>
        (gR h v0 1 6).bind fun t18 =>
        (lI 100 h t18 v1).bind fun t20 =>
        if t16 < t20 then
          f_X1_soughtTown_18 N n v0 v1 v2 (v3 + 1) h k2
        else
          (ck h v0 1).bind fun _ =>
          b2 (f_X1_worthOf N v0 v3 v1 h) fun t26 h25 =>
          (gR h25 v0 1 10).bind fun t27 =>
          (lI 100 h25 t27 v3).bind fun t29 =>
          (ck h25 v0 1).bind fun _ =>
          b2 (f_X1_worthOf N v0 v3 t29 h25) fun t34 h33 =>
          if t26 ≤ t34 then
            f_X1_soughtTown_18 N n v0 v1 v2 (v3 + 1) h33 k2
          else
            f_X1_soughtTown_18 N n v0 v1 (v2 + 1) (v3 + 1) h33 k2
set_option maxRecDepth 100000 in
set_option maxHeartbeats 4000000 in
theorem w_X1_soughtTown_18 {p : Program} {l : Launch} {e : Env} {s : State} {m : MethodId} {args : Array Value} {below : List Frame} {meth : Method} {c : Code} {G : Gx} {r : Int32} {h' : Mem} (X : CX G p s m args c cX1_soughtTown 4 RX1) (hr : meth.sig.returnType = (Option.some Jvm.ClassFile.FieldType.int)) (hk : meth.locks = false) (N : Nat) (k2 : Nat → Int32 → Mem → Option (Int32 × Mem)) (K2 : ∀ (v0 : Nat) (v1 : Int32) (h : Mem), k2 v0 v1 h = some (r, h') → ∀ (H : Heap) (locs : List Loc) (ls : Array Slot), MS G s h H locs 0 → lv_has ls 4 [(0, .ref (gB G + v0)), (1, .int v1)] → W p l e (rm_X1_soughtTown) s m args below meth c H locs 0 0 (QI G below args s r h' 0 0) (F0 m 2 ls [])) : ∀ (n : Nat) (v0 : Nat) (v1 : Int32) (v2 : Int32) (v3 : Int32) (h : Mem), f_X1_soughtTown_18 N n v0 v1 v2 v3 h k2 = some (r, h') → ∀ (H : Heap) (locs : List Loc) (ls : Array Slot), MS G s h H locs 0 → lv_has ls 4 [(0, .ref (gB G + v0)), (1, .int v1), (2, .int v2), (3, .int v3)] → W p l e (rm_X1_soughtTown) s m args below meth c H locs 0 0 (QI G below args s r h' 0 0) (F0 m 18 ls []) := by
  intro n
  induction n with
  | zero =>
    intro v0 v1 v2 v3 h hf
    cases hf
  | succ n ih =>
    intro v0 v1 v2 v3 h hf H locs ls M hl
    rw [f_X1_soughtTown_18] at hf
    refine lv_iload_n X.1 X.2.1 dX1_soughtTown_18 rfl (lv_at hl 3 rfl) ?_
    refine lv_aload_n X.1 X.2.1 dX1_soughtTown_19 rfl (lv_at hl 0 rfl) ?_
    obtain ⟨t1, q2, hf⟩ := bnd hf
    refine x_geti fl_X1_50 X M q2 dX1_soughtTown_20 ?_
    refine lv_icmp_ge (tgt := 80) X.1 X.2.1 dX1_soughtTown_23 (by decide) (fun c3 => ?_) (fun c3 => ?_)
    · have hf := ifp c3 hf
      refine lv_iload_n X.1 X.2.1 dX1_soughtTown_80 rfl (lv_at hl 2 rfl) ?_
      refine lv_aload_n X.1 X.2.1 dX1_soughtTown_81 rfl (lv_at hl 0 rfl) ?_
      obtain ⟨t4, q5, hf⟩ := bnd hf
      refine x_getr fl_X1_9 X M q5 dX1_soughtTown_82 ?_
      refine lv_iload_n X.1 X.2.1 dX1_soughtTown_85 rfl (lv_at hl 1 rfl) ?_
      obtain ⟨t6, q7, hf⟩ := bnd hf
      refine x_iald X M q7 dX1_soughtTown_86 ?_
      refine lv_icmp_le (tgt := 92) X.1 X.2.1 dX1_soughtTown_87 (by decide) (fun c8 => ?_) (fun c8 => ?_)
      · have hf := ifp c8 hf
        refine lv_iinc (v := (v1 + 1)) (lv' := [(1, .int (v1 + 1)), (0, .ref (gB G + v0)), (2, .int v2), (3, .int v3)]) X.1 X.2.1 dX1_soughtTown_92 hl (k := 1) rfl (by first | rfl | decide) (by decide) rfl (fun ls hl => ?_)
        refine lv_goto (tgt := 2) X.1 X.2.1 dX1_soughtTown_95 (by decide) ?_
        exact K2 v0 (v1 + 1) h hf _ _ _ M (lv_sub hl [1, 0] rfl)
      · have hf := ifn c8 hf
        refine lv_iload_n X.1 X.2.1 dX1_soughtTown_90 rfl (lv_at hl 1 rfl) ?_
        obtain ⟨rfl, rfl⟩ := rt2 hf
        exact x_iret X hr hk M dX1_soughtTown_91
    · have hf := ifn c3 hf
      refine lv_aload_n X.1 X.2.1 dX1_soughtTown_26 rfl (lv_at hl 0 rfl) ?_
      obtain ⟨t9, q10, hf⟩ := bnd hf
      refine x_getr fl_X1_33 X M q10 dX1_soughtTown_27 ?_
      refine lv_iload_n X.1 X.2.1 dX1_soughtTown_30 rfl (lv_at hl 3 rfl) ?_
      obtain ⟨t11, q12, hf⟩ := bnd hf
      refine x_iald X M q12 dX1_soughtTown_31 ?_
      refine lv_iload_n X.1 X.2.1 dX1_soughtTown_32 rfl (lv_at hl 1 rfl) ?_
      refine lv_icmp_eq (tgt := 74) X.1 X.2.1 dX1_soughtTown_33 (by decide) (fun c13 => ?_) (fun c13 => ?_)
      · have hf := ifp c13 hf
        refine lv_iinc (v := (v3 + 1)) (lv' := [(3, .int (v3 + 1)), (0, .ref (gB G + v0)), (1, .int v1), (2, .int v2)]) X.1 X.2.1 dX1_soughtTown_74 hl (k := 3) rfl (by first | rfl | decide) (by decide) rfl (fun ls hl => ?_)
        refine lv_goto (tgt := 18) X.1 X.2.1 dX1_soughtTown_77 (by decide) ?_
        exact ih v0 v1 v2 (v3 + 1) h hf _ _ _ M (lv_sub hl [1, 2, 3, 0] rfl)
      · have hf := ifn c13 hf
        refine lv_aload_n X.1 X.2.1 dX1_soughtTown_36 rfl (lv_at hl 0 rfl) ?_
        obtain ⟨t14, q15, hf⟩ := bnd hf
        refine x_getr fl_X1_30 X M q15 dX1_soughtTown_37 ?_
        refine lv_iload_n X.1 X.2.1 dX1_soughtTown_40 rfl (lv_at hl 3 rfl) ?_
        obtain ⟨t16, q17, hf⟩ := bnd hf
        refine x_iald X M q17 dX1_soughtTown_41 ?_
        refine lv_aload_n X.1 X.2.1 dX1_soughtTown_42 rfl (lv_at hl 0 rfl) ?_
        obtain ⟨t18, q19, hf⟩ := bnd hf
        refine x_getr fl_X1_21 X M q19 dX1_soughtTown_43 ?_
        refine lv_iload_n X.1 X.2.1 dX1_soughtTown_46 rfl (lv_at hl 1 rfl) ?_
        obtain ⟨t20, q21, hf⟩ := bnd hf
        refine x_iald X M q21 dX1_soughtTown_47 ?_
        refine lv_icmp_lt (tgt := 74) X.1 X.2.1 dX1_soughtTown_48 (by decide) (fun c22 => ?_) (fun c22 => ?_)
        · have hf := ifp c22 hf
          refine lv_iinc (v := (v3 + 1)) (lv' := [(3, .int (v3 + 1)), (0, .ref (gB G + v0)), (1, .int v1), (2, .int v2)]) X.1 X.2.1 dX1_soughtTown_74 hl (k := 3) rfl (by first | rfl | decide) (by decide) rfl (fun ls hl => ?_)
          refine lv_goto (tgt := 18) X.1 X.2.1 dX1_soughtTown_77 (by decide) ?_
          exact ih v0 v1 v2 (v3 + 1) h hf _ _ _ M (lv_sub hl [1, 2, 3, 0] rfl)
        · have hf := ifn c22 hf
          refine lv_aload_n X.1 X.2.1 dX1_soughtTown_51 rfl (lv_at hl 0 rfl) ?_
          refine lv_iload_n X.1 X.2.1 dX1_soughtTown_52 rfl (lv_at hl 3 rfl) ?_
          refine lv_iload_n X.1 X.2.1 dX1_soughtTown_53 rfl (lv_at hl 1 rfl) ?_
          obtain ⟨⟨⟩, q23, hf⟩ := bnd hf
          obtain ⟨t26, h25, q24, hf⟩ := bnd2 hf
          refine x_callVi (As := [.int v3, .int v1]) cf_X1_117 (c_X1_worthOf l G N v0 v3 v1 h _ _ q24) rfl ⟨rfl, rfl, Nat.le_of_ble_eq_true rfl, Nat.le_of_ble_eq_true rfl⟩ ⟨Nat.le_of_ble_eq_true rfl, Nat.le_of_ble_eq_true rfl⟩ X M (x_recv cls_X1 X M q23) rfl rfl hl.1 (Nat.le_of_ble_eq_true rfl) dX1_soughtTown_54 (fun H locs M => ?_)
          refine lv_aload_n X.1 X.2.1 dX1_soughtTown_57 rfl (lv_at hl 0 rfl) ?_
          refine lv_iload_n X.1 X.2.1 dX1_soughtTown_58 rfl (lv_at hl 3 rfl) ?_
          refine lv_aload_n X.1 X.2.1 dX1_soughtTown_59 rfl (lv_at hl 0 rfl) ?_
          obtain ⟨t27, q28, hf⟩ := bnd hf
          refine x_getr fl_X1_33 X M q28 dX1_soughtTown_60 ?_
          refine lv_iload_n X.1 X.2.1 dX1_soughtTown_63 rfl (lv_at hl 3 rfl) ?_
          obtain ⟨t29, q30, hf⟩ := bnd hf
          refine x_iald X M q30 dX1_soughtTown_64 ?_
          obtain ⟨⟨⟩, q31, hf⟩ := bnd hf
          obtain ⟨t34, h33, q32, hf⟩ := bnd2 hf
          refine x_callVi (As := [.int v3, .int t29]) cf_X1_117 (c_X1_worthOf l G N v0 v3 t29 h25 _ _ q32) rfl ⟨rfl, rfl, Nat.le_of_ble_eq_true rfl, Nat.le_of_ble_eq_true rfl⟩ ⟨Nat.le_of_ble_eq_true rfl, Nat.le_of_ble_eq_true rfl⟩ X M (x_recv cls_X1 X M q31) rfl rfl hl.1 (Nat.le_of_ble_eq_true rfl) dX1_soughtTown_65 (fun H locs M => ?_)
          refine lv_icmp_le (tgt := 74) X.1 X.2.1 dX1_soughtTown_68 (by decide) (fun c35 => ?_) (fun c35 => ?_)
          · have hf := ifp c35 hf
            refine lv_iinc (v := (v3 + 1)) (lv' := [(3, .int (v3 + 1)), (0, .ref (gB G + v0)), (1, .int v1), (2, .int v2)]) X.1 X.2.1 dX1_soughtTown_74 hl (k := 3) rfl (by first | rfl | decide) (by decide) rfl (fun ls hl => ?_)
            refine lv_goto (tgt := 18) X.1 X.2.1 dX1_soughtTown_77 (by decide) ?_
            exact ih v0 v1 v2 (v3 + 1) h33 hf _ _ _ M (lv_sub hl [1, 2, 3, 0] rfl)
          · have hf := ifn c35 hf
            refine lv_iinc (v := (v2 + 1)) (lv' := [(2, .int (v2 + 1)), (0, .ref (gB G + v0)), (1, .int v1), (3, .int v3)]) X.1 X.2.1 dX1_soughtTown_71 hl (k := 2) rfl (by first | rfl | decide) (by decide) rfl (fun ls hl => ?_)
            refine lv_iinc (v := (v3 + 1)) (lv' := [(3, .int (v3 + 1)), (2, .int (v2 + 1)), (0, .ref (gB G + v0)), (1, .int v1)]) X.1 X.2.1 dX1_soughtTown_74 hl (k := 3) rfl (by first | rfl | decide) (by decide) rfl (fun ls hl => ?_)
            refine lv_goto (tgt := 18) X.1 X.2.1 dX1_soughtTown_77 (by decide) ?_
            exact ih v0 v1 (v2 + 1) (v3 + 1) h33 hf _ _ _ M (lv_sub hl [2, 3, 1, 0] rfl)
def f_X1_soughtTown_2 (N : Nat) (n : Nat) (v0 : Nat) (v1 : Int32) (h : Mem) : Option (Int32 × Mem) := match n with
  | 0 => none
  | n + 1 =>
    (gI h v0 1 1).bind fun t1 =>
    if t1 ≤ v1 then
      some ((-1 : Int32), h)
    else
      (ck h v0 1).bind fun _ =>
      b2 (f_X1_crowd N v0 v1 h) fun t7 h6 =>
      f_X1_soughtTown_18 N N v0 v1 t7 (0 : Int32) h6 (fun v0 v1 h => f_X1_soughtTown_2 N n v0 v1 h)
set_option maxRecDepth 100000 in
set_option maxHeartbeats 4000000 in
theorem w_X1_soughtTown_2 {p : Program} {l : Launch} {e : Env} {s : State} {m : MethodId} {args : Array Value} {below : List Frame} {meth : Method} {c : Code} {G : Gx} {r : Int32} {h' : Mem} (X : CX G p s m args c cX1_soughtTown 4 RX1) (hr : meth.sig.returnType = (Option.some Jvm.ClassFile.FieldType.int)) (hk : meth.locks = false) (N : Nat) : ∀ (n : Nat) (v0 : Nat) (v1 : Int32) (h : Mem), f_X1_soughtTown_2 N n v0 v1 h = some (r, h') → ∀ (H : Heap) (locs : List Loc) (ls : Array Slot), MS G s h H locs 0 → lv_has ls 4 [(0, .ref (gB G + v0)), (1, .int v1)] → W p l e (rm_X1_soughtTown) s m args below meth c H locs 0 0 (QI G below args s r h' 0 0) (F0 m 2 ls []) := by
  intro n
  induction n with
  | zero =>
    intro v0 v1 h hf
    cases hf
  | succ n ih =>
    intro v0 v1 h hf H locs ls M hl
    rw [f_X1_soughtTown_2] at hf
    refine lv_iload_n X.1 X.2.1 dX1_soughtTown_2 rfl (lv_at hl 1 rfl) ?_
    refine lv_aload_n X.1 X.2.1 dX1_soughtTown_3 rfl (lv_at hl 0 rfl) ?_
    obtain ⟨t1, q2, hf⟩ := bnd hf
    refine x_geti fl_X1_46 X M q2 dX1_soughtTown_4 ?_
    refine lv_icmp_ge (tgt := 98) X.1 X.2.1 dX1_soughtTown_7 (by decide) (fun c3 => ?_) (fun c3 => ?_)
    · have hf := ifp c3 hf
      refine lv_iconst (v := (-1 : Int32)) X.1 X.2.1 dX1_soughtTown_98 (by decide) ?_
      obtain ⟨rfl, rfl⟩ := rt2 hf
      exact x_iret X hr hk M dX1_soughtTown_99
    · have hf := ifn c3 hf
      refine lv_aload_n X.1 X.2.1 dX1_soughtTown_10 rfl (lv_at hl 0 rfl) ?_
      refine lv_iload_n X.1 X.2.1 dX1_soughtTown_11 rfl (lv_at hl 1 rfl) ?_
      obtain ⟨⟨⟩, q4, hf⟩ := bnd hf
      obtain ⟨t7, h6, q5, hf⟩ := bnd2 hf
      refine x_callVi (As := [.int v1]) cf_X1_59 (c_X1_crowd l G N v0 v1 h _ _ q5) rfl ⟨rfl, rfl, Nat.le_of_ble_eq_true rfl, Nat.le_of_ble_eq_true rfl⟩ ⟨Nat.le_of_ble_eq_true rfl, Nat.le_of_ble_eq_true rfl⟩ X M (x_recv cls_X1 X M q4) rfl rfl hl.1 (Nat.le_of_ble_eq_true rfl) dX1_soughtTown_12 (fun H locs M => ?_)
      refine lv_istore_n (lv' := [(2, .int t7), (0, .ref (gB G + v0)), (1, .int v1)]) X.1 X.2.1 dX1_soughtTown_15 rfl hl (by decide) rfl (fun ls hl => ?_)
      refine lv_iconst (v := (0 : Int32)) X.1 X.2.1 dX1_soughtTown_16 (by decide) ?_
      refine lv_istore_n (lv' := [(3, .int (0 : Int32)), (2, .int t7), (0, .ref (gB G + v0)), (1, .int v1)]) X.1 X.2.1 dX1_soughtTown_17 rfl hl (by decide) rfl (fun ls hl => ?_)
      exact w_X1_soughtTown_18 X hr hk N _ (fun v0 v1 h hf H locs ls M hl => ih v0 v1 h hf H locs ls M hl) N v0 v1 t7 (0 : Int32) h6 hf _ _ _ M (lv_sub hl [2, 3, 1, 0] rfl)
def f_X1_soughtTown (N : Nat) (v0 : Nat) (h : Mem) : Option (Int32 × Mem) :=
  f_X1_soughtTown_2 N N v0 (0 : Int32) h
set_option maxRecDepth 100000 in
set_option maxHeartbeats 4000000 in
theorem w_X1_soughtTown {p : Program} {l : Launch} {e : Env} {s : State} {m : MethodId} {args : Array Value} {below : List Frame} {meth : Method} {c : Code} {G : Gx} {r : Int32} {h' : Mem} (X : CX G p s m args c cX1_soughtTown 4 RX1) (hr : meth.sig.returnType = (Option.some Jvm.ClassFile.FieldType.int)) (hk : meth.locks = false) (N : Nat) : ∀ (v0 : Nat) (h : Mem), f_X1_soughtTown N v0 h = some (r, h') → ∀ (H : Heap) (locs : List Loc) (ls : Array Slot), MS G s h H locs 0 → lv_has ls 4 [(0, .ref (gB G + v0))] → W p l e (rm_X1_soughtTown) s m args below meth c H locs 0 0 (QI G below args s r h' 0 0) (F0 m 0 ls []) := by
  intro v0 h hf H locs ls M hl
  rw [f_X1_soughtTown] at hf
  refine lv_iconst (v := (0 : Int32)) X.1 X.2.1 dX1_soughtTown_0 (by decide) ?_
  refine lv_istore_n (lv' := [(1, .int (0 : Int32)), (0, .ref (gB G + v0))]) X.1 X.2.1 dX1_soughtTown_1 rfl hl (by decide) rfl (fun ls hl => ?_)
  exact w_X1_soughtTown_2 X hr hk N N v0 (0 : Int32) h hf _ _ _ M (lv_sub hl [1, 0] rfl)
theorem c_X1_soughtTown (l : Launch) (G : Gx) (N : Nat) (v0 : Nat) (h : Mem) (r : Int32) (h' : Mem) (hf : f_X1_soughtTown N v0 h = some (r, h')) : MetG l G yX1_soughtTown (.code yX1_soughtTown cX1_soughtTown 4 (Option.some Jvm.ClassFile.FieldType.int)) rm_X1_soughtTown [.ref (gB G + v0)] h (QcI G r h') 0 0 :=
  x_met (by decide) rfl (Nat.le_of_ble_eq_true rfl) (fun p e s m args below meth c ls X M hr hk hin hl => w_X1_soughtTown X hr hk N v0 h hf _ _ ls M hl)
abbrev rm_X1_pairs : Room := { frames := 1, cells := 0, slots := 0, locals := 40 }
def f_X1_pairs_14 (N : Nat) (n : Nat) (v0 : Nat) (v1 : Int32) (v2 : Int32) (v3 : Int32) (h : Mem) (k4 : Nat → Int32 → Int32 → Mem → Option (Int32 × Mem)) : Option (Int32 × Mem) := match n with
  | 0 => none
  | n + 1 =>
    if v2 ≤ v3 then
      k4 v0 v1 (v2 + 1) h
    else
      (gR h v0 1 8).bind fun t2 =>
      (lI 100 h t2 v2).bind fun t4 =>
      (gR h v0 1 8).bind fun t6 =>
      (lI 100 h t6 v3).bind fun t8 =>
      if t4 = t8 then
        (gR h v0 1 10).bind fun t11 =>
        (lI 100 h t11 v2).bind fun t13 =>
        (gR h v0 1 10).bind fun t15 =>
        (lI 100 h t15 v3).bind fun t17 =>
        if t13 = t17 then
          f_X1_pairs_14 N n v0 (v1 + 1) v2 (v3 + 1) h k4
        else
          f_X1_pairs_14 N n v0 v1 v2 (v3 + 1) h k4
      else
        f_X1_pairs_14 N n v0 v1 v2 (v3 + 1) h k4
set_option maxRecDepth 100000 in
set_option maxHeartbeats 4000000 in
theorem w_X1_pairs_14 {p : Program} {l : Launch} {e : Env} {s : State} {m : MethodId} {args : Array Value} {below : List Frame} {meth : Method} {c : Code} {G : Gx} {r : Int32} {h' : Mem} (X : CX G p s m args c cX1_pairs 4 RX1) (hr : meth.sig.returnType = (Option.some Jvm.ClassFile.FieldType.int)) (hk : meth.locks = false) (N : Nat) (k4 : Nat → Int32 → Int32 → Mem → Option (Int32 × Mem)) (K4 : ∀ (v0 : Nat) (v1 : Int32) (v2 : Int32) (h : Mem), k4 v0 v1 v2 h = some (r, h') → ∀ (H : Heap) (locs : List Loc) (ls : Array Slot), MS G s h H locs 0 → lv_has ls 4 [(0, .ref (gB G + v0)), (1, .int v1), (2, .int v2)] → W p l e (rm_X1_pairs) s m args below meth c H locs 0 0 (QI G below args s r h' 0 0) (F0 m 4 ls [])) : ∀ (n : Nat) (v0 : Nat) (v1 : Int32) (v2 : Int32) (v3 : Int32) (h : Mem), f_X1_pairs_14 N n v0 v1 v2 v3 h k4 = some (r, h') → ∀ (H : Heap) (locs : List Loc) (ls : Array Slot), MS G s h H locs 0 → lv_has ls 4 [(0, .ref (gB G + v0)), (1, .int v1), (2, .int v2), (3, .int v3)] → W p l e (rm_X1_pairs) s m args below meth c H locs 0 0 (QI G below args s r h' 0 0) (F0 m 14 ls []) := by
  intro n
  induction n with
  | zero =>
    intro v0 v1 v2 v3 h hf
    cases hf
  | succ n ih =>
    intro v0 v1 v2 v3 h hf H locs ls M hl
    rw [f_X1_pairs_14] at hf
    refine lv_iload_n X.1 X.2.1 dX1_pairs_14 rfl (lv_at hl 3 rfl) ?_
    refine lv_iload_n X.1 X.2.1 dX1_pairs_15 rfl (lv_at hl 2 rfl) ?_
    refine lv_icmp_ge (tgt := 58) X.1 X.2.1 dX1_pairs_16 (by decide) (fun c1 => ?_) (fun c1 => ?_)
    · have hf := ifp c1 hf
      refine lv_iinc (v := (v2 + 1)) (lv' := [(2, .int (v2 + 1)), (0, .ref (gB G + v0)), (1, .int v1), (3, .int v3)]) X.1 X.2.1 dX1_pairs_58 hl (k := 2) rfl (by first | rfl | decide) (by decide) rfl (fun ls hl => ?_)
      refine lv_goto (tgt := 4) X.1 X.2.1 dX1_pairs_61 (by decide) ?_
      exact K4 v0 v1 (v2 + 1) h hf _ _ _ M (lv_sub hl [1, 2, 0] rfl)
    · have hf := ifn c1 hf
      refine lv_aload_n X.1 X.2.1 dX1_pairs_19 rfl (lv_at hl 0 rfl) ?_
      obtain ⟨t2, q3, hf⟩ := bnd hf
      refine x_getr fl_X1_27 X M q3 dX1_pairs_20 ?_
      refine lv_iload_n X.1 X.2.1 dX1_pairs_23 rfl (lv_at hl 2 rfl) ?_
      obtain ⟨t4, q5, hf⟩ := bnd hf
      refine x_iald X M q5 dX1_pairs_24 ?_
      refine lv_aload_n X.1 X.2.1 dX1_pairs_25 rfl (lv_at hl 0 rfl) ?_
      obtain ⟨t6, q7, hf⟩ := bnd hf
      refine x_getr fl_X1_27 X M q7 dX1_pairs_26 ?_
      refine lv_iload_n X.1 X.2.1 dX1_pairs_29 rfl (lv_at hl 3 rfl) ?_
      obtain ⟨t8, q9, hf⟩ := bnd hf
      refine x_iald X M q9 dX1_pairs_30 ?_
      refine lv_icmp_ne (tgt := 52) X.1 X.2.1 dX1_pairs_31 (by decide) (fun c10 => ?_) (fun c10 => ?_)
      · have hf := ifn c10 hf
        refine lv_iinc (v := (v3 + 1)) (lv' := [(3, .int (v3 + 1)), (0, .ref (gB G + v0)), (1, .int v1), (2, .int v2)]) X.1 X.2.1 dX1_pairs_52 hl (k := 3) rfl (by first | rfl | decide) (by decide) rfl (fun ls hl => ?_)
        refine lv_goto (tgt := 14) X.1 X.2.1 dX1_pairs_55 (by decide) ?_
        exact ih v0 v1 v2 (v3 + 1) h hf _ _ _ M (lv_sub hl [1, 2, 3, 0] rfl)
      · have hf := ifp c10 hf
        refine lv_aload_n X.1 X.2.1 dX1_pairs_34 rfl (lv_at hl 0 rfl) ?_
        obtain ⟨t11, q12, hf⟩ := bnd hf
        refine x_getr fl_X1_33 X M q12 dX1_pairs_35 ?_
        refine lv_iload_n X.1 X.2.1 dX1_pairs_38 rfl (lv_at hl 2 rfl) ?_
        obtain ⟨t13, q14, hf⟩ := bnd hf
        refine x_iald X M q14 dX1_pairs_39 ?_
        refine lv_aload_n X.1 X.2.1 dX1_pairs_40 rfl (lv_at hl 0 rfl) ?_
        obtain ⟨t15, q16, hf⟩ := bnd hf
        refine x_getr fl_X1_33 X M q16 dX1_pairs_41 ?_
        refine lv_iload_n X.1 X.2.1 dX1_pairs_44 rfl (lv_at hl 3 rfl) ?_
        obtain ⟨t17, q18, hf⟩ := bnd hf
        refine x_iald X M q18 dX1_pairs_45 ?_
        refine lv_icmp_ne (tgt := 52) X.1 X.2.1 dX1_pairs_46 (by decide) (fun c19 => ?_) (fun c19 => ?_)
        · have hf := ifn c19 hf
          refine lv_iinc (v := (v3 + 1)) (lv' := [(3, .int (v3 + 1)), (0, .ref (gB G + v0)), (1, .int v1), (2, .int v2)]) X.1 X.2.1 dX1_pairs_52 hl (k := 3) rfl (by first | rfl | decide) (by decide) rfl (fun ls hl => ?_)
          refine lv_goto (tgt := 14) X.1 X.2.1 dX1_pairs_55 (by decide) ?_
          exact ih v0 v1 v2 (v3 + 1) h hf _ _ _ M (lv_sub hl [1, 2, 3, 0] rfl)
        · have hf := ifp c19 hf
          refine lv_iinc (v := (v1 + 1)) (lv' := [(1, .int (v1 + 1)), (0, .ref (gB G + v0)), (2, .int v2), (3, .int v3)]) X.1 X.2.1 dX1_pairs_49 hl (k := 1) rfl (by first | rfl | decide) (by decide) rfl (fun ls hl => ?_)
          refine lv_iinc (v := (v3 + 1)) (lv' := [(3, .int (v3 + 1)), (1, .int (v1 + 1)), (0, .ref (gB G + v0)), (2, .int v2)]) X.1 X.2.1 dX1_pairs_52 hl (k := 3) rfl (by first | rfl | decide) (by decide) rfl (fun ls hl => ?_)
          refine lv_goto (tgt := 14) X.1 X.2.1 dX1_pairs_55 (by decide) ?_
          exact ih v0 (v1 + 1) v2 (v3 + 1) h hf _ _ _ M (lv_sub hl [2, 1, 3, 0] rfl)
def f_X1_pairs_4 (N : Nat) (n : Nat) (v0 : Nat) (v1 : Int32) (v2 : Int32) (h : Mem) : Option (Int32 × Mem) := match n with
  | 0 => none
  | n + 1 =>
    (gI h v0 1 2).bind fun t1 =>
    if t1 ≤ v2 then
      some (v1, h)
    else
      f_X1_pairs_14 N N v0 v1 v2 (0 : Int32) h (fun v0 v1 v2 h => f_X1_pairs_4 N n v0 v1 v2 h)
set_option maxRecDepth 100000 in
set_option maxHeartbeats 4000000 in
theorem w_X1_pairs_4 {p : Program} {l : Launch} {e : Env} {s : State} {m : MethodId} {args : Array Value} {below : List Frame} {meth : Method} {c : Code} {G : Gx} {r : Int32} {h' : Mem} (X : CX G p s m args c cX1_pairs 4 RX1) (hr : meth.sig.returnType = (Option.some Jvm.ClassFile.FieldType.int)) (hk : meth.locks = false) (N : Nat) : ∀ (n : Nat) (v0 : Nat) (v1 : Int32) (v2 : Int32) (h : Mem), f_X1_pairs_4 N n v0 v1 v2 h = some (r, h') → ∀ (H : Heap) (locs : List Loc) (ls : Array Slot), MS G s h H locs 0 → lv_has ls 4 [(0, .ref (gB G + v0)), (1, .int v1), (2, .int v2)] → W p l e (rm_X1_pairs) s m args below meth c H locs 0 0 (QI G below args s r h' 0 0) (F0 m 4 ls []) := by
  intro n
  induction n with
  | zero =>
    intro v0 v1 v2 h hf
    cases hf
  | succ n ih =>
    intro v0 v1 v2 h hf H locs ls M hl
    rw [f_X1_pairs_4] at hf
    refine lv_iload_n X.1 X.2.1 dX1_pairs_4 rfl (lv_at hl 2 rfl) ?_
    refine lv_aload_n X.1 X.2.1 dX1_pairs_5 rfl (lv_at hl 0 rfl) ?_
    obtain ⟨t1, q2, hf⟩ := bnd hf
    refine x_geti fl_X1_50 X M q2 dX1_pairs_6 ?_
    refine lv_icmp_ge (tgt := 64) X.1 X.2.1 dX1_pairs_9 (by decide) (fun c3 => ?_) (fun c3 => ?_)
    · have hf := ifp c3 hf
      refine lv_iload_n X.1 X.2.1 dX1_pairs_64 rfl (lv_at hl 1 rfl) ?_
      obtain ⟨rfl, rfl⟩ := rt2 hf
      exact x_iret X hr hk M dX1_pairs_65
    · have hf := ifn c3 hf
      refine lv_iconst (v := (0 : Int32)) X.1 X.2.1 dX1_pairs_12 (by decide) ?_
      refine lv_istore_n (lv' := [(3, .int (0 : Int32)), (0, .ref (gB G + v0)), (1, .int v1), (2, .int v2)]) X.1 X.2.1 dX1_pairs_13 rfl hl (by decide) rfl (fun ls hl => ?_)
      exact w_X1_pairs_14 X hr hk N _ (fun v0 v1 v2 h hf H locs ls M hl => ih v0 v1 v2 h hf H locs ls M hl) N v0 v1 v2 (0 : Int32) h hf _ _ _ M (lv_sub hl [1, 2, 3, 0] rfl)
def f_X1_pairs (N : Nat) (v0 : Nat) (h : Mem) : Option (Int32 × Mem) :=
  f_X1_pairs_4 N N v0 (0 : Int32) (0 : Int32) h
set_option maxRecDepth 100000 in
set_option maxHeartbeats 4000000 in
theorem w_X1_pairs {p : Program} {l : Launch} {e : Env} {s : State} {m : MethodId} {args : Array Value} {below : List Frame} {meth : Method} {c : Code} {G : Gx} {r : Int32} {h' : Mem} (X : CX G p s m args c cX1_pairs 4 RX1) (hr : meth.sig.returnType = (Option.some Jvm.ClassFile.FieldType.int)) (hk : meth.locks = false) (N : Nat) : ∀ (v0 : Nat) (h : Mem), f_X1_pairs N v0 h = some (r, h') → ∀ (H : Heap) (locs : List Loc) (ls : Array Slot), MS G s h H locs 0 → lv_has ls 4 [(0, .ref (gB G + v0))] → W p l e (rm_X1_pairs) s m args below meth c H locs 0 0 (QI G below args s r h' 0 0) (F0 m 0 ls []) := by
  intro v0 h hf H locs ls M hl
  rw [f_X1_pairs] at hf
  refine lv_iconst (v := (0 : Int32)) X.1 X.2.1 dX1_pairs_0 (by decide) ?_
  refine lv_istore_n (lv' := [(1, .int (0 : Int32)), (0, .ref (gB G + v0))]) X.1 X.2.1 dX1_pairs_1 rfl hl (by decide) rfl (fun ls hl => ?_)
  refine lv_iconst (v := (0 : Int32)) X.1 X.2.1 dX1_pairs_2 (by decide) ?_
  refine lv_istore_n (lv' := [(2, .int (0 : Int32)), (1, .int (0 : Int32)), (0, .ref (gB G + v0))]) X.1 X.2.1 dX1_pairs_3 rfl hl (by decide) rfl (fun ls hl => ?_)
  exact w_X1_pairs_4 X hr hk N N v0 (0 : Int32) (0 : Int32) h hf _ _ _ M (lv_sub hl [2, 1, 0] rfl)
theorem c_X1_pairs (l : Launch) (G : Gx) (N : Nat) (v0 : Nat) (h : Mem) (r : Int32) (h' : Mem) (hf : f_X1_pairs N v0 h = some (r, h')) : MetG l G yX1_pairs (.code yX1_pairs cX1_pairs 4 (Option.some Jvm.ClassFile.FieldType.int)) rm_X1_pairs [.ref (gB G + v0)] h (QcI G r h') 0 0 :=
  x_met (by decide) rfl (Nat.le_of_ble_eq_true rfl) (fun p e s m args below meth c ls X M hr hk hin hl => w_X1_pairs X hr hk N v0 h hf _ _ ls M hl)
abbrev rm_X1_othersDiffer : Room := { frames := 1, cells := 0, slots := 0, locals := 40 }
def f_X1_othersDiffer_2 (N : Nat) (n : Nat) (v0 : Nat) (v1 : Nat) (v2 : Int32) (v3 : Int32) (h : Mem) : Option (Int32 × Mem) := match n with
  | 0 => none
  | n + 1 =>
    (gI h v0 1 2).bind fun t1 =>
    if t1 ≤ v3 then
      some ((0 : Int32), h)
    else
      if v3 = v2 then
        f_X1_othersDiffer_2 N n v0 v1 v2 (v3 + 1) h
      else
        (gR h v0 1 10).bind fun t5 =>
        (lI 100 h t5 v3).bind fun t7 =>
        (gR h v1 1 10).bind fun t9 =>
        (lI 100 h t9 v3).bind fun t11 =>
        if t7 = t11 then
          f_X1_othersDiffer_2 N n v0 v1 v2 (v3 + 1) h
        else
          some ((1 : Int32), h)
set_option maxRecDepth 100000 in
set_option maxHeartbeats 4000000 in
theorem w_X1_othersDiffer_2 {p : Program} {l : Launch} {e : Env} {s : State} {m : MethodId} {args : Array Value} {below : List Frame} {meth : Method} {c : Code} {G : Gx} {r : Int32} {h' : Mem} (X : CX G p s m args c cX1_othersDiffer 4 RX1) (hr : meth.sig.returnType = (Option.some Jvm.ClassFile.FieldType.boolean)) (hk : meth.locks = false) (N : Nat) : ∀ (n : Nat) (v0 : Nat) (v1 : Nat) (v2 : Int32) (v3 : Int32) (h : Mem), f_X1_othersDiffer_2 N n v0 v1 v2 v3 h = some (r, h') → ∀ (H : Heap) (locs : List Loc) (ls : Array Slot), MS G s h H locs 0 → lv_has ls 4 [(0, .ref (gB G + v0)), (1, .ref (gB G + v1)), (2, .int v2), (3, .int v3)] → W p l e (rm_X1_othersDiffer) s m args below meth c H locs 0 0 (QI G below args s r h' 0 0) (F0 m 2 ls []) := by
  intro n
  induction n with
  | zero =>
    intro v0 v1 v2 v3 h hf
    cases hf
  | succ n ih =>
    intro v0 v1 v2 v3 h hf H locs ls M hl
    rw [f_X1_othersDiffer_2] at hf
    refine lv_iload_n X.1 X.2.1 dX1_othersDiffer_2 rfl (lv_at hl 3 rfl) ?_
    refine lv_aload_n X.1 X.2.1 dX1_othersDiffer_3 rfl (lv_at hl 0 rfl) ?_
    obtain ⟨t1, q2, hf⟩ := bnd hf
    refine x_geti fl_X1_50 X M q2 dX1_othersDiffer_4 ?_
    refine lv_icmp_ge (tgt := 38) X.1 X.2.1 dX1_othersDiffer_7 (by decide) (fun c3 => ?_) (fun c3 => ?_)
    · have hf := ifp c3 hf
      refine lv_iconst (v := (0 : Int32)) X.1 X.2.1 dX1_othersDiffer_38 (by decide) ?_
      obtain ⟨rfl, rfl⟩ := rt2 hf
      exact x_zret X hr hk rfl M dX1_othersDiffer_39
    · have hf := ifn c3 hf
      refine lv_iload_n X.1 X.2.1 dX1_othersDiffer_10 rfl (lv_at hl 3 rfl) ?_
      refine lv_iload_n X.1 X.2.1 dX1_othersDiffer_11 rfl (lv_at hl 2 rfl) ?_
      refine lv_icmp_eq (tgt := 32) X.1 X.2.1 dX1_othersDiffer_12 (by decide) (fun c4 => ?_) (fun c4 => ?_)
      · have hf := ifp c4 hf
        refine lv_iinc (v := (v3 + 1)) (lv' := [(3, .int (v3 + 1)), (0, .ref (gB G + v0)), (1, .ref (gB G + v1)), (2, .int v2)]) X.1 X.2.1 dX1_othersDiffer_32 hl (k := 3) rfl (by first | rfl | decide) (by decide) rfl (fun ls hl => ?_)
        refine lv_goto (tgt := 2) X.1 X.2.1 dX1_othersDiffer_35 (by decide) ?_
        exact ih v0 v1 v2 (v3 + 1) h hf _ _ _ M (lv_sub hl [1, 2, 3, 0] rfl)
      · have hf := ifn c4 hf
        refine lv_aload_n X.1 X.2.1 dX1_othersDiffer_15 rfl (lv_at hl 0 rfl) ?_
        obtain ⟨t5, q6, hf⟩ := bnd hf
        refine x_getr fl_X1_33 X M q6 dX1_othersDiffer_16 ?_
        refine lv_iload_n X.1 X.2.1 dX1_othersDiffer_19 rfl (lv_at hl 3 rfl) ?_
        obtain ⟨t7, q8, hf⟩ := bnd hf
        refine x_iald X M q8 dX1_othersDiffer_20 ?_
        refine lv_aload_n X.1 X.2.1 dX1_othersDiffer_21 rfl (lv_at hl 1 rfl) ?_
        obtain ⟨t9, q10, hf⟩ := bnd hf
        refine x_getr fl_X1_33 X M q10 dX1_othersDiffer_22 ?_
        refine lv_iload_n X.1 X.2.1 dX1_othersDiffer_25 rfl (lv_at hl 3 rfl) ?_
        obtain ⟨t11, q12, hf⟩ := bnd hf
        refine x_iald X M q12 dX1_othersDiffer_26 ?_
        refine lv_icmp_eq (tgt := 32) X.1 X.2.1 dX1_othersDiffer_27 (by decide) (fun c13 => ?_) (fun c13 => ?_)
        · have hf := ifp c13 hf
          refine lv_iinc (v := (v3 + 1)) (lv' := [(3, .int (v3 + 1)), (0, .ref (gB G + v0)), (1, .ref (gB G + v1)), (2, .int v2)]) X.1 X.2.1 dX1_othersDiffer_32 hl (k := 3) rfl (by first | rfl | decide) (by decide) rfl (fun ls hl => ?_)
          refine lv_goto (tgt := 2) X.1 X.2.1 dX1_othersDiffer_35 (by decide) ?_
          exact ih v0 v1 v2 (v3 + 1) h hf _ _ _ M (lv_sub hl [1, 2, 3, 0] rfl)
        · have hf := ifn c13 hf
          refine lv_iconst (v := (1 : Int32)) X.1 X.2.1 dX1_othersDiffer_30 (by decide) ?_
          obtain ⟨rfl, rfl⟩ := rt2 hf
          exact x_zret X hr hk rfl M dX1_othersDiffer_31
def f_X1_othersDiffer (N : Nat) (v0 : Nat) (v1 : Nat) (v2 : Int32) (h : Mem) : Option (Int32 × Mem) :=
  f_X1_othersDiffer_2 N N v0 v1 v2 (0 : Int32) h
set_option maxRecDepth 100000 in
set_option maxHeartbeats 4000000 in
theorem w_X1_othersDiffer {p : Program} {l : Launch} {e : Env} {s : State} {m : MethodId} {args : Array Value} {below : List Frame} {meth : Method} {c : Code} {G : Gx} {r : Int32} {h' : Mem} (X : CX G p s m args c cX1_othersDiffer 4 RX1) (hr : meth.sig.returnType = (Option.some Jvm.ClassFile.FieldType.boolean)) (hk : meth.locks = false) (N : Nat) : ∀ (v0 : Nat) (v1 : Nat) (v2 : Int32) (h : Mem), f_X1_othersDiffer N v0 v1 v2 h = some (r, h') → ∀ (H : Heap) (locs : List Loc) (ls : Array Slot), MS G s h H locs 0 → lv_has ls 4 [(0, .ref (gB G + v0)), (1, .ref (gB G + v1)), (2, .int v2)] → W p l e (rm_X1_othersDiffer) s m args below meth c H locs 0 0 (QI G below args s r h' 0 0) (F0 m 0 ls []) := by
  intro v0 v1 v2 h hf H locs ls M hl
  rw [f_X1_othersDiffer] at hf
  refine lv_iconst (v := (0 : Int32)) X.1 X.2.1 dX1_othersDiffer_0 (by decide) ?_
  refine lv_istore_n (lv' := [(3, .int (0 : Int32)), (0, .ref (gB G + v0)), (1, .ref (gB G + v1)), (2, .int v2)]) X.1 X.2.1 dX1_othersDiffer_1 rfl hl (by decide) rfl (fun ls hl => ?_)
  exact w_X1_othersDiffer_2 X hr hk N N v0 v1 v2 (0 : Int32) h hf _ _ _ M (lv_sub hl [1, 2, 3, 0] rfl)
theorem c_X1_othersDiffer (l : Launch) (G : Gx) (N : Nat) (v0 : Nat) (v1 : Nat) (v2 : Int32) (h : Mem) (r : Int32) (h' : Mem) (hf : f_X1_othersDiffer N v0 v1 v2 h = some (r, h')) : MetG l G yX1_othersDiffer (.code yX1_othersDiffer cX1_othersDiffer 4 (Option.some Jvm.ClassFile.FieldType.boolean)) rm_X1_othersDiffer [.ref (gB G + v0), .ref (gB G + v1), .int v2] h (QcI G r h') 0 0 :=
  x_met (by decide) rfl (Nat.le_of_ble_eq_true rfl) (fun p e s m args below meth c ls X M hr hk hin hl => w_X1_othersDiffer X hr hk N v0 v1 v2 h hf _ _ ls M hl)
abbrev rm_X1_leastWorth : Room := { frames := 5, cells := 0, slots := 0, locals := 136 }
def f_X1_leastWorth_33 (N : Nat) (v0 : Nat) (v2 : Int32) (v3 : Int32) (h : Mem) (k4 : Nat → Int32 → Int32 → Mem → Option (Int32 × Mem)) : Option (Int32 × Mem) :=
  k4 v0 v3 (v2 + 1) h
set_option maxRecDepth 100000 in
set_option maxHeartbeats 4000000 in
theorem w_X1_leastWorth_33 {p : Program} {l : Launch} {e : Env} {s : State} {m : MethodId} {args : Array Value} {below : List Frame} {meth : Method} {c : Code} {G : Gx} {r : Int32} {h' : Mem} (X : CX G p s m args c cX1_leastWorth 4 RX1) (hr : meth.sig.returnType = (Option.some Jvm.ClassFile.FieldType.int)) (hk : meth.locks = false) (N : Nat) (k4 : Nat → Int32 → Int32 → Mem → Option (Int32 × Mem)) (K4 : ∀ (v0 : Nat) (v1 : Int32) (v2 : Int32) (h : Mem), k4 v0 v1 v2 h = some (r, h') → ∀ (H : Heap) (locs : List Loc) (ls : Array Slot), MS G s h H locs 0 → lv_has ls 4 [(0, .ref (gB G + v0)), (1, .int v1), (2, .int v2)] → W p l e (rm_X1_leastWorth) s m args below meth c H locs 0 0 (QI G below args s r h' 0 0) (F0 m 4 ls [])) : ∀ (v0 : Nat) (v2 : Int32) (v3 : Int32) (h : Mem), f_X1_leastWorth_33 N v0 v2 v3 h k4 = some (r, h') → ∀ (H : Heap) (locs : List Loc) (ls : Array Slot), MS G s h H locs 0 → lv_has ls 4 [(0, .ref (gB G + v0)), (2, .int v2), (3, .int v3)] → W p l e (rm_X1_leastWorth) s m args below meth c H locs 0 0 (QI G below args s r h' 0 0) (F0 m 33 ls []) := by
  intro v0 v2 v3 h hf H locs ls M hl
  rw [f_X1_leastWorth_33] at hf
  refine lv_iload_n X.1 X.2.1 dX1_leastWorth_33 rfl (lv_at hl 2 rfl) ?_
  refine lv_istore_n (lv' := [(1, .int v3), (0, .ref (gB G + v0)), (2, .int v2), (3, .int v3)]) X.1 X.2.1 dX1_leastWorth_34 rfl hl (by decide) rfl (fun ls hl => ?_)
  refine lv_iinc (v := (v2 + 1)) (lv' := [(2, .int (v2 + 1)), (1, .int v3), (0, .ref (gB G + v0)), (3, .int v3)]) X.1 X.2.1 dX1_leastWorth_35 hl (k := 2) rfl (by first | rfl | decide) (by decide) rfl (fun ls hl => ?_)
  refine lv_goto (tgt := 4) X.1 X.2.1 dX1_leastWorth_38 (by decide) ?_
  exact K4 v0 v3 (v2 + 1) h hf _ _ _ M (lv_sub hl [2, 1, 0] rfl)
def f_X1_leastWorth_4 (N : Nat) (n : Nat) (v0 : Nat) (v1 : Int32) (v2 : Int32) (h : Mem) : Option (Int32 × Mem) := match n with
  | 0 => none
  | n + 1 =>
    (gI h v0 1 2).bind fun t1 =>
    if t1 ≤ v2 then
      some (v1, h)
    else
      (gR h v0 1 10).bind fun t4 =>
      (lI 100 h t4 v2).bind fun t6 =>
      (ck h v0 1).bind fun _ =>
      b2 (f_X1_worthOf N v0 v2 t6 h) fun t11 h10 =>
      if v2 = 0 then
        f_X1_leastWorth_33 N v0 v2 t11 h10 (fun v0 v1 v2 h => f_X1_leastWorth_4 N n v0 v1 v2 h)
      else
        if v1 ≤ t11 then
          f_X1_leastWorth_4 N n v0 v1 (v2 + 1) h10
        else
          f_X1_leastWorth_33 N v0 v2 t11 h10 (fun v0 v1 v2 h => f_X1_leastWorth_4 N n v0 v1 v2 h)
set_option maxRecDepth 100000 in
set_option maxHeartbeats 4000000 in
theorem w_X1_leastWorth_4 {p : Program} {l : Launch} {e : Env} {s : State} {m : MethodId} {args : Array Value} {below : List Frame} {meth : Method} {c : Code} {G : Gx} {r : Int32} {h' : Mem} (X : CX G p s m args c cX1_leastWorth 4 RX1) (hr : meth.sig.returnType = (Option.some Jvm.ClassFile.FieldType.int)) (hk : meth.locks = false) (N : Nat) : ∀ (n : Nat) (v0 : Nat) (v1 : Int32) (v2 : Int32) (h : Mem), f_X1_leastWorth_4 N n v0 v1 v2 h = some (r, h') → ∀ (H : Heap) (locs : List Loc) (ls : Array Slot), MS G s h H locs 0 → lv_has ls 4 [(0, .ref (gB G + v0)), (1, .int v1), (2, .int v2)] → W p l e (rm_X1_leastWorth) s m args below meth c H locs 0 0 (QI G below args s r h' 0 0) (F0 m 4 ls []) := by
  intro n
  induction n with
  | zero =>
    intro v0 v1 v2 h hf
    cases hf
  | succ n ih =>
    intro v0 v1 v2 h hf H locs ls M hl
    rw [f_X1_leastWorth_4] at hf
    refine lv_iload_n X.1 X.2.1 dX1_leastWorth_4 rfl (lv_at hl 2 rfl) ?_
    refine lv_aload_n X.1 X.2.1 dX1_leastWorth_5 rfl (lv_at hl 0 rfl) ?_
    obtain ⟨t1, q2, hf⟩ := bnd hf
    refine x_geti fl_X1_50 X M q2 dX1_leastWorth_6 ?_
    refine lv_icmp_ge (tgt := 41) X.1 X.2.1 dX1_leastWorth_9 (by decide) (fun c3 => ?_) (fun c3 => ?_)
    · have hf := ifp c3 hf
      refine lv_iload_n X.1 X.2.1 dX1_leastWorth_41 rfl (lv_at hl 1 rfl) ?_
      obtain ⟨rfl, rfl⟩ := rt2 hf
      exact x_iret X hr hk M dX1_leastWorth_42
    · have hf := ifn c3 hf
      refine lv_aload_n X.1 X.2.1 dX1_leastWorth_12 rfl (lv_at hl 0 rfl) ?_
      refine lv_iload_n X.1 X.2.1 dX1_leastWorth_13 rfl (lv_at hl 2 rfl) ?_
      refine lv_aload_n X.1 X.2.1 dX1_leastWorth_14 rfl (lv_at hl 0 rfl) ?_
      obtain ⟨t4, q5, hf⟩ := bnd hf
      refine x_getr fl_X1_33 X M q5 dX1_leastWorth_15 ?_
      refine lv_iload_n X.1 X.2.1 dX1_leastWorth_18 rfl (lv_at hl 2 rfl) ?_
      obtain ⟨t6, q7, hf⟩ := bnd hf
      refine x_iald X M q7 dX1_leastWorth_19 ?_
      obtain ⟨⟨⟩, q8, hf⟩ := bnd hf
      obtain ⟨t11, h10, q9, hf⟩ := bnd2 hf
      refine x_callVi (As := [.int v2, .int t6]) cf_X1_117 (c_X1_worthOf l G N v0 v2 t6 h _ _ q9) rfl ⟨rfl, rfl, Nat.le_of_ble_eq_true rfl, Nat.le_of_ble_eq_true rfl⟩ ⟨Nat.le_of_ble_eq_true rfl, Nat.le_of_ble_eq_true rfl⟩ X M (x_recv cls_X1 X M q8) rfl rfl hl.1 (Nat.le_of_ble_eq_true rfl) dX1_leastWorth_20 (fun H locs M => ?_)
      refine lv_istore_n (lv' := [(3, .int t11), (0, .ref (gB G + v0)), (1, .int v1), (2, .int v2)]) X.1 X.2.1 dX1_leastWorth_23 rfl hl (by decide) rfl (fun ls hl => ?_)
      refine lv_iload_n X.1 X.2.1 dX1_leastWorth_24 rfl (lv_at hl 3 rfl) ?_
      refine lv_if_eq (tgt := 33) X.1 X.2.1 dX1_leastWorth_25 (by decide) (fun c12 => ?_) (fun c12 => ?_)
      · have hf := ifp c12 hf
        exact w_X1_leastWorth_33 X hr hk N _ (fun v0 v1 v2 h hf H locs ls M hl => ih v0 v1 v2 h hf H locs ls M hl) v0 v2 t11 h10 hf _ _ _ M (lv_sub hl [1, 3, 0] rfl)
      · have hf := ifn c12 hf
        refine lv_iload_n X.1 X.2.1 dX1_leastWorth_28 rfl (lv_at hl 0 rfl) ?_
        refine lv_iload_n X.1 X.2.1 dX1_leastWorth_29 rfl (lv_at hl 2 rfl) ?_
        refine lv_icmp_ge (tgt := 35) X.1 X.2.1 dX1_leastWorth_30 (by decide) (fun c13 => ?_) (fun c13 => ?_)
        · have hf := ifp c13 hf
          refine lv_iinc (v := (v2 + 1)) (lv' := [(2, .int (v2 + 1)), (3, .int t11), (0, .ref (gB G + v0)), (1, .int v1)]) X.1 X.2.1 dX1_leastWorth_35 hl (k := 3) rfl (by first | rfl | decide) (by decide) rfl (fun ls hl => ?_)
          refine lv_goto (tgt := 4) X.1 X.2.1 dX1_leastWorth_38 (by decide) ?_
          exact ih v0 v1 (v2 + 1) h10 hf _ _ _ M (lv_sub hl [2, 3, 0] rfl)
        · have hf := ifn c13 hf
          exact w_X1_leastWorth_33 X hr hk N _ (fun v0 v1 v2 h hf H locs ls M hl => ih v0 v1 v2 h hf H locs ls M hl) v0 v2 t11 h10 hf _ _ _ M (lv_sub hl [1, 3, 0] rfl)
def f_X1_leastWorth (N : Nat) (v0 : Nat) (h : Mem) : Option (Int32 × Mem) :=
  f_X1_leastWorth_4 N N v0 (0 : Int32) (0 : Int32) h
set_option maxRecDepth 100000 in
set_option maxHeartbeats 4000000 in
theorem w_X1_leastWorth {p : Program} {l : Launch} {e : Env} {s : State} {m : MethodId} {args : Array Value} {below : List Frame} {meth : Method} {c : Code} {G : Gx} {r : Int32} {h' : Mem} (X : CX G p s m args c cX1_leastWorth 4 RX1) (hr : meth.sig.returnType = (Option.some Jvm.ClassFile.FieldType.int)) (hk : meth.locks = false) (N : Nat) : ∀ (v0 : Nat) (h : Mem), f_X1_leastWorth N v0 h = some (r, h') → ∀ (H : Heap) (locs : List Loc) (ls : Array Slot), MS G s h H locs 0 → lv_has ls 4 [(0, .ref (gB G + v0))] → W p l e (rm_X1_leastWorth) s m args below meth c H locs 0 0 (QI G below args s r h' 0 0) (F0 m 0 ls []) := by
  intro v0 h hf H locs ls M hl
  rw [f_X1_leastWorth] at hf
  refine lv_iconst (v := (0 : Int32)) X.1 X.2.1 dX1_leastWorth_0 (by decide) ?_
  refine lv_istore_n (lv' := [(1, .int (0 : Int32)), (0, .ref (gB G + v0))]) X.1 X.2.1 dX1_leastWorth_1 rfl hl (by decide) rfl (fun ls hl => ?_)
  refine lv_iconst (v := (0 : Int32)) X.1 X.2.1 dX1_leastWorth_2 (by decide) ?_
  refine lv_istore_n (lv' := [(2, .int (0 : Int32)), (1, .int (0 : Int32)), (0, .ref (gB G + v0))]) X.1 X.2.1 dX1_leastWorth_3 rfl hl (by decide) rfl (fun ls hl => ?_)
  exact w_X1_leastWorth_4 X hr hk N N v0 (0 : Int32) (0 : Int32) h hf _ _ _ M (lv_sub hl [2, 1, 0] rfl)
theorem c_X1_leastWorth (l : Launch) (G : Gx) (N : Nat) (v0 : Nat) (h : Mem) (r : Int32) (h' : Mem) (hf : f_X1_leastWorth N v0 h = some (r, h')) : MetG l G yX1_leastWorth (.code yX1_leastWorth cX1_leastWorth 4 (Option.some Jvm.ClassFile.FieldType.int)) rm_X1_leastWorth [.ref (gB G + v0)] h (QcI G r h') 0 0 :=
  x_met (by decide) rfl (Nat.le_of_ble_eq_true rfl) (fun p e s m args below meth c ls X M hr hk hin hl => w_X1_leastWorth X hr hk N v0 h hf _ _ ls M hl)
abbrev rm_X1_doubledSort : Room := { frames := 1, cells := 0, slots := 0, locals := 40 }
def f_X1_doubledSort_12 (N : Nat) (n : Nat) (v0 : Nat) (v1 : Int32) (v2 : Int32) (v3 : Int32) (v4 : Int32) (h : Mem) (k2 : Nat → Int32 → Int32 → Mem → Option (Int32 × Mem)) : Option (Int32 × Mem) := match n with
  | 0 => none
  | n + 1 =>
    (gI h v0 1 2).bind fun t1 =>
    if t1 ≤ v4 then
      if v3 < (2 : Int32) then
        k2 v0 v1 (v2 + 1) h
      else
        some (v2, h)
    else
      (gR h v0 1 10).bind fun t5 =>
      (lI 100 h t5 v4).bind fun t7 =>
      if t7 = v1 then
        (gR h v0 1 8).bind fun t10 =>
        (lI 100 h t10 v4).bind fun t12 =>
        if t12 = v2 then
          f_X1_doubledSort_12 N n v0 v1 v2 (v3 + 1) (v4 + 1) h k2
        else
          f_X1_doubledSort_12 N n v0 v1 v2 v3 (v4 + 1) h k2
      else
        f_X1_doubledSort_12 N n v0 v1 v2 v3 (v4 + 1) h k2
set_option maxRecDepth 100000 in
set_option maxHeartbeats 4000000 in
theorem w_X1_doubledSort_12 {p : Program} {l : Launch} {e : Env} {s : State} {m : MethodId} {args : Array Value} {below : List Frame} {meth : Method} {c : Code} {G : Gx} {r : Int32} {h' : Mem} (X : CX G p s m args c cX1_doubledSort 5 RX1) (hr : meth.sig.returnType = (Option.some Jvm.ClassFile.FieldType.int)) (hk : meth.locks = false) (N : Nat) (k2 : Nat → Int32 → Int32 → Mem → Option (Int32 × Mem)) (K2 : ∀ (v0 : Nat) (v1 : Int32) (v2 : Int32) (h : Mem), k2 v0 v1 v2 h = some (r, h') → ∀ (H : Heap) (locs : List Loc) (ls : Array Slot), MS G s h H locs 0 → lv_has ls 5 [(0, .ref (gB G + v0)), (1, .int v1), (2, .int v2)] → W p l e (rm_X1_doubledSort) s m args below meth c H locs 0 0 (QI G below args s r h' 0 0) (F0 m 2 ls [])) : ∀ (n : Nat) (v0 : Nat) (v1 : Int32) (v2 : Int32) (v3 : Int32) (v4 : Int32) (h : Mem), f_X1_doubledSort_12 N n v0 v1 v2 v3 v4 h k2 = some (r, h') → ∀ (H : Heap) (locs : List Loc) (ls : Array Slot), MS G s h H locs 0 → lv_has ls 5 [(0, .ref (gB G + v0)), (1, .int v1), (2, .int v2), (3, .int v3), (4, .int v4)] → W p l e (rm_X1_doubledSort) s m args below meth c H locs 0 0 (QI G below args s r h' 0 0) (F0 m 12 ls []) := by
  intro n
  induction n with
  | zero =>
    intro v0 v1 v2 v3 v4 h hf
    cases hf
  | succ n ih =>
    intro v0 v1 v2 v3 v4 h hf H locs ls M hl
    rw [f_X1_doubledSort_12] at hf
    refine lv_iload X.1 X.2.1 dX1_doubledSort_12 (lv_at hl 4 rfl) ?_
    refine lv_aload_n X.1 X.2.1 dX1_doubledSort_14 rfl (lv_at hl 0 rfl) ?_
    obtain ⟨t1, q2, hf⟩ := bnd hf
    refine x_geti fl_X1_50 X M q2 dX1_doubledSort_15 ?_
    refine lv_icmp_ge (tgt := 52) X.1 X.2.1 dX1_doubledSort_18 (by decide) (fun c3 => ?_) (fun c3 => ?_)
    · have hf := ifp c3 hf
      refine lv_iload_n X.1 X.2.1 dX1_doubledSort_52 rfl (lv_at hl 3 rfl) ?_
      refine lv_iconst (v := (2 : Int32)) X.1 X.2.1 dX1_doubledSort_53 (by decide) ?_
      refine lv_icmp_lt (tgt := 59) X.1 X.2.1 dX1_doubledSort_54 (by decide) (fun c4 => ?_) (fun c4 => ?_)
      · have hf := ifp c4 hf
        refine lv_iinc (v := (v2 + 1)) (lv' := [(2, .int (v2 + 1)), (0, .ref (gB G + v0)), (1, .int v1), (3, .int v3), (4, .int v4)]) X.1 X.2.1 dX1_doubledSort_59 hl (k := 2) rfl (by first | rfl | decide) (by decide) rfl (fun ls hl => ?_)
        refine lv_goto (tgt := 2) X.1 X.2.1 dX1_doubledSort_62 (by decide) ?_
        exact K2 v0 v1 (v2 + 1) h hf _ _ _ M (lv_sub hl [1, 2, 0] rfl)
      · have hf := ifn c4 hf
        refine lv_iload_n X.1 X.2.1 dX1_doubledSort_57 rfl (lv_at hl 2 rfl) ?_
        obtain ⟨rfl, rfl⟩ := rt2 hf
        exact x_iret X hr hk M dX1_doubledSort_58
    · have hf := ifn c3 hf
      refine lv_aload_n X.1 X.2.1 dX1_doubledSort_21 rfl (lv_at hl 0 rfl) ?_
      obtain ⟨t5, q6, hf⟩ := bnd hf
      refine x_getr fl_X1_33 X M q6 dX1_doubledSort_22 ?_
      refine lv_iload X.1 X.2.1 dX1_doubledSort_25 (lv_at hl 4 rfl) ?_
      obtain ⟨t7, q8, hf⟩ := bnd hf
      refine x_iald X M q8 dX1_doubledSort_27 ?_
      refine lv_iload_n X.1 X.2.1 dX1_doubledSort_28 rfl (lv_at hl 1 rfl) ?_
      refine lv_icmp_ne (tgt := 46) X.1 X.2.1 dX1_doubledSort_29 (by decide) (fun c9 => ?_) (fun c9 => ?_)
      · have hf := ifn c9 hf
        refine lv_iinc (v := (v4 + 1)) (lv' := [(4, .int (v4 + 1)), (0, .ref (gB G + v0)), (1, .int v1), (2, .int v2), (3, .int v3)]) X.1 X.2.1 dX1_doubledSort_46 hl (k := 4) rfl (by first | rfl | decide) (by decide) rfl (fun ls hl => ?_)
        refine lv_goto (tgt := 12) X.1 X.2.1 dX1_doubledSort_49 (by decide) ?_
        exact ih v0 v1 v2 v3 (v4 + 1) h hf _ _ _ M (lv_sub hl [1, 2, 3, 4, 0] rfl)
      · have hf := ifp c9 hf
        refine lv_aload_n X.1 X.2.1 dX1_doubledSort_32 rfl (lv_at hl 0 rfl) ?_
        obtain ⟨t10, q11, hf⟩ := bnd hf
        refine x_getr fl_X1_27 X M q11 dX1_doubledSort_33 ?_
        refine lv_iload X.1 X.2.1 dX1_doubledSort_36 (lv_at hl 4 rfl) ?_
        obtain ⟨t12, q13, hf⟩ := bnd hf
        refine x_iald X M q13 dX1_doubledSort_38 ?_
        refine lv_iload_n X.1 X.2.1 dX1_doubledSort_39 rfl (lv_at hl 2 rfl) ?_
        refine lv_icmp_ne (tgt := 46) X.1 X.2.1 dX1_doubledSort_40 (by decide) (fun c14 => ?_) (fun c14 => ?_)
        · have hf := ifn c14 hf
          refine lv_iinc (v := (v4 + 1)) (lv' := [(4, .int (v4 + 1)), (0, .ref (gB G + v0)), (1, .int v1), (2, .int v2), (3, .int v3)]) X.1 X.2.1 dX1_doubledSort_46 hl (k := 4) rfl (by first | rfl | decide) (by decide) rfl (fun ls hl => ?_)
          refine lv_goto (tgt := 12) X.1 X.2.1 dX1_doubledSort_49 (by decide) ?_
          exact ih v0 v1 v2 v3 (v4 + 1) h hf _ _ _ M (lv_sub hl [1, 2, 3, 4, 0] rfl)
        · have hf := ifp c14 hf
          refine lv_iinc (v := (v3 + 1)) (lv' := [(3, .int (v3 + 1)), (0, .ref (gB G + v0)), (1, .int v1), (2, .int v2), (4, .int v4)]) X.1 X.2.1 dX1_doubledSort_43 hl (k := 3) rfl (by first | rfl | decide) (by decide) rfl (fun ls hl => ?_)
          refine lv_iinc (v := (v4 + 1)) (lv' := [(4, .int (v4 + 1)), (3, .int (v3 + 1)), (0, .ref (gB G + v0)), (1, .int v1), (2, .int v2)]) X.1 X.2.1 dX1_doubledSort_46 hl (k := 4) rfl (by first | rfl | decide) (by decide) rfl (fun ls hl => ?_)
          refine lv_goto (tgt := 12) X.1 X.2.1 dX1_doubledSort_49 (by decide) ?_
          exact ih v0 v1 v2 (v3 + 1) (v4 + 1) h hf _ _ _ M (lv_sub hl [2, 3, 4, 1, 0] rfl)
def f_X1_doubledSort_2 (N : Nat) (n : Nat) (v0 : Nat) (v1 : Int32) (v2 : Int32) (h : Mem) : Option (Int32 × Mem) := match n with
  | 0 => none
  | n + 1 =>
    if (4 : Int32) ≤ v2 then
      some ((-1 : Int32), h)
    else
      f_X1_doubledSort_12 N N v0 v1 v2 (0 : Int32) (0 : Int32) h (fun v0 v1 v2 h => f_X1_doubledSort_2 N n v0 v1 v2 h)
set_option maxRecDepth 100000 in
set_option maxHeartbeats 4000000 in
theorem w_X1_doubledSort_2 {p : Program} {l : Launch} {e : Env} {s : State} {m : MethodId} {args : Array Value} {below : List Frame} {meth : Method} {c : Code} {G : Gx} {r : Int32} {h' : Mem} (X : CX G p s m args c cX1_doubledSort 5 RX1) (hr : meth.sig.returnType = (Option.some Jvm.ClassFile.FieldType.int)) (hk : meth.locks = false) (N : Nat) : ∀ (n : Nat) (v0 : Nat) (v1 : Int32) (v2 : Int32) (h : Mem), f_X1_doubledSort_2 N n v0 v1 v2 h = some (r, h') → ∀ (H : Heap) (locs : List Loc) (ls : Array Slot), MS G s h H locs 0 → lv_has ls 5 [(0, .ref (gB G + v0)), (1, .int v1), (2, .int v2)] → W p l e (rm_X1_doubledSort) s m args below meth c H locs 0 0 (QI G below args s r h' 0 0) (F0 m 2 ls []) := by
  intro n
  induction n with
  | zero =>
    intro v0 v1 v2 h hf
    cases hf
  | succ n ih =>
    intro v0 v1 v2 h hf H locs ls M hl
    rw [f_X1_doubledSort_2] at hf
    refine lv_iload_n X.1 X.2.1 dX1_doubledSort_2 rfl (lv_at hl 2 rfl) ?_
    refine lv_iconst (v := (4 : Int32)) X.1 X.2.1 dX1_doubledSort_3 (by decide) ?_
    refine lv_icmp_ge (tgt := 65) X.1 X.2.1 dX1_doubledSort_4 (by decide) (fun c1 => ?_) (fun c1 => ?_)
    · have hf := ifp c1 hf
      refine lv_iconst (v := (-1 : Int32)) X.1 X.2.1 dX1_doubledSort_65 (by decide) ?_
      obtain ⟨rfl, rfl⟩ := rt2 hf
      exact x_iret X hr hk M dX1_doubledSort_66
    · have hf := ifn c1 hf
      refine lv_iconst (v := (0 : Int32)) X.1 X.2.1 dX1_doubledSort_7 (by decide) ?_
      refine lv_istore_n (lv' := [(3, .int (0 : Int32)), (0, .ref (gB G + v0)), (1, .int v1), (2, .int v2)]) X.1 X.2.1 dX1_doubledSort_8 rfl hl (by decide) rfl (fun ls hl => ?_)
      refine lv_iconst (v := (0 : Int32)) X.1 X.2.1 dX1_doubledSort_9 (by decide) ?_
      refine lv_istore (lv' := [(4, .int (0 : Int32)), (3, .int (0 : Int32)), (0, .ref (gB G + v0)), (1, .int v1), (2, .int v2)]) X.1 X.2.1 dX1_doubledSort_10 hl (by decide) rfl (fun ls hl => ?_)
      exact w_X1_doubledSort_12 X hr hk N _ (fun v0 v1 v2 h hf H locs ls M hl => ih v0 v1 v2 h hf H locs ls M hl) N v0 v1 v2 (0 : Int32) (0 : Int32) h hf _ _ _ M (lv_sub hl [2, 3, 4, 1, 0] rfl)
def f_X1_doubledSort (N : Nat) (v0 : Nat) (v1 : Int32) (h : Mem) : Option (Int32 × Mem) :=
  f_X1_doubledSort_2 N N v0 v1 (0 : Int32) h
set_option maxRecDepth 100000 in
set_option maxHeartbeats 4000000 in
theorem w_X1_doubledSort {p : Program} {l : Launch} {e : Env} {s : State} {m : MethodId} {args : Array Value} {below : List Frame} {meth : Method} {c : Code} {G : Gx} {r : Int32} {h' : Mem} (X : CX G p s m args c cX1_doubledSort 5 RX1) (hr : meth.sig.returnType = (Option.some Jvm.ClassFile.FieldType.int)) (hk : meth.locks = false) (N : Nat) : ∀ (v0 : Nat) (v1 : Int32) (h : Mem), f_X1_doubledSort N v0 v1 h = some (r, h') → ∀ (H : Heap) (locs : List Loc) (ls : Array Slot), MS G s h H locs 0 → lv_has ls 5 [(0, .ref (gB G + v0)), (1, .int v1)] → W p l e (rm_X1_doubledSort) s m args below meth c H locs 0 0 (QI G below args s r h' 0 0) (F0 m 0 ls []) := by
  intro v0 v1 h hf H locs ls M hl
  rw [f_X1_doubledSort] at hf
  refine lv_iconst (v := (0 : Int32)) X.1 X.2.1 dX1_doubledSort_0 (by decide) ?_
  refine lv_istore_n (lv' := [(2, .int (0 : Int32)), (0, .ref (gB G + v0)), (1, .int v1)]) X.1 X.2.1 dX1_doubledSort_1 rfl hl (by decide) rfl (fun ls hl => ?_)
  exact w_X1_doubledSort_2 X hr hk N N v0 v1 (0 : Int32) h hf _ _ _ M (lv_sub hl [1, 2, 0] rfl)
theorem c_X1_doubledSort (l : Launch) (G : Gx) (N : Nat) (v0 : Nat) (v1 : Int32) (h : Mem) (r : Int32) (h' : Mem) (hf : f_X1_doubledSort N v0 v1 h = some (r, h')) : MetG l G yX1_doubledSort (.code yX1_doubledSort cX1_doubledSort 5 (Option.some Jvm.ClassFile.FieldType.int)) rm_X1_doubledSort [.ref (gB G + v0), .int v1] h (QcI G r h') 0 0 :=
  x_met (by decide) rfl (Nat.le_of_ble_eq_true rfl) (fun p e s m args below meth c ls X M hr hk hin hl => w_X1_doubledSort X hr hk N v0 v1 h hf _ _ ls M hl)
