abbrev rm_X10_clubBreak : Room := { frames := 12, cells := 0, slots := 0, locals := 286 }
def f_X10_clubBreak_53 (N : Nat) (n : Nat) (v1 : Int32) (v2 : Int32) (v3 : Int32) (h : Mem) : Option (Int32 × Mem) := match n with
  | 0 => none
  | n + 1 =>
    if ((v1 >>> (v3 &&& 31)) &&& (1 : Int32)) = 0 then
      f_X10_clubBreak_53 N n v1 v2 (v3 + 1) h
    else
      some ((((100 : Int32) * v3) + v2), h)
set_option maxRecDepth 100000 in
set_option maxHeartbeats 4000000 in
theorem w_X10_clubBreak_53 {p : Program} {l : Launch} {e : Env} {s : State} {m : MethodId} {args : Array Value} {below : List Frame} {meth : Method} {c : Code} {G : Gx} {r : Int32} {h' : Mem} (X : CX G p s m args c cX10_clubBreak 4 RX10) (hr : meth.sig.returnType = (Option.some Jvm.ClassFile.FieldType.int)) (hk : meth.locks = false) (N : Nat) : ∀ (n : Nat) (v1 : Int32) (v2 : Int32) (v3 : Int32) (h : Mem), f_X10_clubBreak_53 N n v1 v2 v3 h = some (r, h') → ∀ (H : Heap) (locs : List Loc) (ls : Array Slot), MS G s h H locs 0 → lv_has ls 4 [(1, .int v1), (2, .int v2), (3, .int v3)] → W p l e (rm_X10_clubBreak) s m args below meth c H locs 0 0 (QI G below args s r h' 0 0) (F0 m 53 ls []) := by
  intro n
  induction n with
  | zero =>
    intro v1 v2 v3 h hf
    cases hf
  | succ n ih =>
    intro v1 v2 v3 h hf H locs ls M hl
    rw [f_X10_clubBreak_53] at hf
    refine lv_iload_n X.1 X.2.1 dX10_clubBreak_53 rfl (lv_at hl 0 rfl) ?_
    refine lv_iload_n X.1 X.2.1 dX10_clubBreak_54 rfl (lv_at hl 2 rfl) ?_
    refine lv_ishr X.1 X.2.1 dX10_clubBreak_55 ?_
    refine lv_iconst (v := (1 : Int32)) X.1 X.2.1 dX10_clubBreak_56 (by decide) ?_
    refine lv_iand X.1 X.2.1 dX10_clubBreak_57 ?_
    refine lv_if_ne (tgt := 67) X.1 X.2.1 dX10_clubBreak_58 (by decide) (fun c1 => ?_) (fun c1 => ?_)
    · have hf := ifn c1 hf
      refine lv_bipush (v := (100 : Int32)) X.1 X.2.1 dX10_clubBreak_67 (by decide) ?_
      refine lv_iload_n X.1 X.2.1 dX10_clubBreak_69 rfl (lv_at hl 2 rfl) ?_
      refine lv_imul X.1 X.2.1 dX10_clubBreak_70 ?_
      refine lv_iload_n X.1 X.2.1 dX10_clubBreak_71 rfl (lv_at hl 1 rfl) ?_
      refine lv_iadd X.1 X.2.1 dX10_clubBreak_72 ?_
      obtain ⟨rfl, rfl⟩ := rt2 hf
      exact x_iret X hr hk M dX10_clubBreak_73
    · have hf := ifp c1 hf
      refine lv_iinc (v := (v3 + 1)) (lv' := [(3, .int (v3 + 1)), (1, .int v1), (2, .int v2)]) X.1 X.2.1 dX10_clubBreak_61 hl (k := 2) rfl (by first | rfl | decide) (by decide) rfl (fun ls hl => ?_)
      refine lv_goto (tgt := 53) X.1 X.2.1 dX10_clubBreak_64 (by decide) ?_
      exact ih v1 v2 (v3 + 1) h hf _ _ _ M (lv_sub hl [1, 2, 0] rfl)
def f_X10_clubBreak_31 (N : Nat) (n : Nat) (v0 : Nat) (v1 : Int32) (v2 : Int32) (h : Mem) (k2 : Nat → Int32 → Mem → Option (Int32 × Mem)) : Option (Int32 × Mem) := match n with
  | 0 => none
  | n + 1 =>
    (gI h v0 10 0).bind fun t1 =>
    if t1 ≤ v2 then
      k2 v0 (v1 + 1) h
    else
      (ck h v0 10).bind fun _ =>
      b2 (f_X10_isClub N v0 v1 v2 h) fun t7 h6 =>
      if t7 = 0 then
        f_X10_clubBreak_31 N n v0 v1 (v2 + 1) h6 k2
      else
        f_X10_clubBreak_53 N N v1 v2 (0 : Int32) h6
set_option maxRecDepth 100000 in
set_option maxHeartbeats 4000000 in
theorem w_X10_clubBreak_31 {p : Program} {l : Launch} {e : Env} {s : State} {m : MethodId} {args : Array Value} {below : List Frame} {meth : Method} {c : Code} {G : Gx} {r : Int32} {h' : Mem} (X : CX G p s m args c cX10_clubBreak 4 RX10) (hr : meth.sig.returnType = (Option.some Jvm.ClassFile.FieldType.int)) (hk : meth.locks = false) (N : Nat) (k2 : Nat → Int32 → Mem → Option (Int32 × Mem)) (K2 : ∀ (v0 : Nat) (v1 : Int32) (h : Mem), k2 v0 v1 h = some (r, h') → ∀ (H : Heap) (locs : List Loc) (ls : Array Slot), MS G s h H locs 0 → lv_has ls 4 [(0, .ref (gB G + v0)), (1, .int v1)] → W p l e (rm_X10_clubBreak) s m args below meth c H locs 0 0 (QI G below args s r h' 0 0) (F0 m 2 ls [])) : ∀ (n : Nat) (v0 : Nat) (v1 : Int32) (v2 : Int32) (h : Mem), f_X10_clubBreak_31 N n v0 v1 v2 h k2 = some (r, h') → ∀ (H : Heap) (locs : List Loc) (ls : Array Slot), MS G s h H locs 0 → lv_has ls 4 [(0, .ref (gB G + v0)), (1, .int v1), (2, .int v2)] → W p l e (rm_X10_clubBreak) s m args below meth c H locs 0 0 (QI G below args s r h' 0 0) (F0 m 31 ls []) := by
  intro n
  induction n with
  | zero =>
    intro v0 v1 v2 h hf
    cases hf
  | succ n ih =>
    intro v0 v1 v2 h hf H locs ls M hl
    rw [f_X10_clubBreak_31] at hf
    refine lv_iload_n X.1 X.2.1 dX10_clubBreak_31 rfl (lv_at hl 2 rfl) ?_
    refine lv_aload_n X.1 X.2.1 dX10_clubBreak_32 rfl (lv_at hl 0 rfl) ?_
    obtain ⟨t1, q2, hf⟩ := bnd hf
    refine x_geti fl_X10_7 X M q2 dX10_clubBreak_33 ?_
    refine lv_icmp_ge (tgt := 80) X.1 X.2.1 dX10_clubBreak_36 (by decide) (fun c3 => ?_) (fun c3 => ?_)
    · have hf := ifp c3 hf
      refine lv_iinc (v := (v1 + 1)) (lv' := [(1, .int (v1 + 1)), (0, .ref (gB G + v0)), (2, .int v2)]) X.1 X.2.1 dX10_clubBreak_80 hl (k := 1) rfl (by first | rfl | decide) (by decide) rfl (fun ls hl => ?_)
      refine lv_goto (tgt := 2) X.1 X.2.1 dX10_clubBreak_83 (by decide) ?_
      exact K2 v0 (v1 + 1) h hf _ _ _ M (lv_sub hl [1, 0] rfl)
    · have hf := ifn c3 hf
      refine lv_aload_n X.1 X.2.1 dX10_clubBreak_39 rfl (lv_at hl 0 rfl) ?_
      refine lv_iload_n X.1 X.2.1 dX10_clubBreak_40 rfl (lv_at hl 1 rfl) ?_
      refine lv_iload_n X.1 X.2.1 dX10_clubBreak_41 rfl (lv_at hl 2 rfl) ?_
      obtain ⟨⟨⟩, q4, hf⟩ := bnd hf
      obtain ⟨t7, h6, q5, hf⟩ := bnd2 hf
      refine x_callVi (As := [.int v1, .int v2]) cf_X10_314 (c_X10_isClub l G N v0 v1 v2 h _ _ q5) rfl ⟨rfl, rfl, Nat.le_of_ble_eq_true rfl, Nat.le_of_ble_eq_true rfl⟩ ⟨Nat.le_of_ble_eq_true rfl, Nat.le_of_ble_eq_true rfl⟩ X M (x_recv cls_X10 X M q4) rfl rfl hl.1 (Nat.le_of_ble_eq_true rfl) dX10_clubBreak_42 (fun H locs M => ?_)
      refine lv_if_ne (tgt := 51) X.1 X.2.1 dX10_clubBreak_45 (by decide) (fun c8 => ?_) (fun c8 => ?_)
      · have hf := ifn c8 hf
        refine lv_iconst (v := (0 : Int32)) X.1 X.2.1 dX10_clubBreak_51 (by decide) ?_
        refine lv_istore_n (lv' := [(3, .int (0 : Int32)), (0, .ref (gB G + v0)), (1, .int v1), (2, .int v2)]) X.1 X.2.1 dX10_clubBreak_52 rfl hl (by decide) rfl (fun ls hl => ?_)
        exact w_X10_clubBreak_53 X hr hk N N v1 v2 (0 : Int32) h6 hf _ _ _ M (lv_sub hl [2, 3, 0] rfl)
      · have hf := ifp c8 hf
        refine lv_goto (tgt := 74) X.1 X.2.1 dX10_clubBreak_48 (by decide) ?_
        refine lv_iinc (v := (v2 + 1)) (lv' := [(2, .int (v2 + 1)), (0, .ref (gB G + v0)), (1, .int v1)]) X.1 X.2.1 dX10_clubBreak_74 hl (k := 2) rfl (by first | rfl | decide) (by decide) rfl (fun ls hl => ?_)
        refine lv_goto (tgt := 31) X.1 X.2.1 dX10_clubBreak_77 (by decide) ?_
        exact ih v0 v1 (v2 + 1) h6 hf _ _ _ M (lv_sub hl [1, 2, 0] rfl)
def f_X10_clubBreak_2 (N : Nat) (n : Nat) (v0 : Nat) (v1 : Int32) (h : Mem) : Option (Int32 × Mem) := match n with
  | 0 => none
  | n + 1 =>
    (gI h v0 10 1).bind fun t1 =>
    if ((1 : Int32) <<< (t1 &&& 31)) ≤ v1 then
      some ((-5 : Int32), h)
    else
      (ck h v0 10).bind fun _ =>
      b2 (f_X10_ones N v0 v1 h) fun t7 h6 =>
      (ck h6 v0 10).bind fun _ =>
      b2 (f_X10_in N v0 t7 (2 : Int32) (3 : Int32) h6) fun t11 h10 =>
      if t11 = 0 then
        f_X10_clubBreak_2 N n v0 (v1 + 1) h10
      else
        f_X10_clubBreak_31 N N v0 v1 (0 : Int32) h10 (fun v0 v1 h => f_X10_clubBreak_2 N n v0 v1 h)
set_option maxRecDepth 100000 in
set_option maxHeartbeats 4000000 in
theorem w_X10_clubBreak_2 {p : Program} {l : Launch} {e : Env} {s : State} {m : MethodId} {args : Array Value} {below : List Frame} {meth : Method} {c : Code} {G : Gx} {r : Int32} {h' : Mem} (X : CX G p s m args c cX10_clubBreak 4 RX10) (hr : meth.sig.returnType = (Option.some Jvm.ClassFile.FieldType.int)) (hk : meth.locks = false) (N : Nat) : ∀ (n : Nat) (v0 : Nat) (v1 : Int32) (h : Mem), f_X10_clubBreak_2 N n v0 v1 h = some (r, h') → ∀ (H : Heap) (locs : List Loc) (ls : Array Slot), MS G s h H locs 0 → lv_has ls 4 [(0, .ref (gB G + v0)), (1, .int v1)] → W p l e (rm_X10_clubBreak) s m args below meth c H locs 0 0 (QI G below args s r h' 0 0) (F0 m 2 ls []) := by
  intro n
  induction n with
  | zero =>
    intro v0 v1 h hf
    cases hf
  | succ n ih =>
    intro v0 v1 h hf H locs ls M hl
    rw [f_X10_clubBreak_2] at hf
    refine lv_iload_n X.1 X.2.1 dX10_clubBreak_2 rfl (lv_at hl 1 rfl) ?_
    refine lv_iconst (v := (1 : Int32)) X.1 X.2.1 dX10_clubBreak_3 (by decide) ?_
    refine lv_aload_n X.1 X.2.1 dX10_clubBreak_4 rfl (lv_at hl 0 rfl) ?_
    obtain ⟨t1, q2, hf⟩ := bnd hf
    refine x_geti fl_X10_13 X M q2 dX10_clubBreak_5 ?_
    refine lv_ishl X.1 X.2.1 dX10_clubBreak_8 ?_
    refine lv_icmp_ge (tgt := 86) X.1 X.2.1 dX10_clubBreak_9 (by decide) (fun c3 => ?_) (fun c3 => ?_)
    · have hf := ifp c3 hf
      refine lv_bipush (v := (-5 : Int32)) X.1 X.2.1 dX10_clubBreak_86 (by decide) ?_
      obtain ⟨rfl, rfl⟩ := rt2 hf
      exact x_iret X hr hk M dX10_clubBreak_88
    · have hf := ifn c3 hf
      refine lv_aload_n X.1 X.2.1 dX10_clubBreak_12 rfl (lv_at hl 0 rfl) ?_
      refine lv_aload_n X.1 X.2.1 dX10_clubBreak_13 rfl (lv_at hl 0 rfl) ?_
      refine lv_iload_n X.1 X.2.1 dX10_clubBreak_14 rfl (lv_at hl 1 rfl) ?_
      obtain ⟨⟨⟩, q4, hf⟩ := bnd hf
      obtain ⟨t7, h6, q5, hf⟩ := bnd2 hf
      refine x_callVi (As := [.int v1]) cf_X10_311 (c_X10_ones l G N v0 v1 h _ _ q5) rfl ⟨rfl, rfl, Nat.le_of_ble_eq_true rfl, Nat.le_of_ble_eq_true rfl⟩ ⟨Nat.le_of_ble_eq_true rfl, Nat.le_of_ble_eq_true rfl⟩ X M (x_recv cls_X10 X M q4) rfl rfl hl.1 (Nat.le_of_ble_eq_true rfl) dX10_clubBreak_15 (fun H locs M => ?_)
      refine lv_iconst (v := (2 : Int32)) X.1 X.2.1 dX10_clubBreak_18 (by decide) ?_
      refine lv_iconst (v := (3 : Int32)) X.1 X.2.1 dX10_clubBreak_19 (by decide) ?_
      obtain ⟨⟨⟩, q8, hf⟩ := bnd hf
      obtain ⟨t11, h10, q9, hf⟩ := bnd2 hf
      refine x_callVi (As := [.int t7, .int (2 : Int32), .int (3 : Int32)]) cf_X10_197 (c_X10_in l G N v0 t7 (2 : Int32) (3 : Int32) h6 _ _ q9) rfl ⟨rfl, rfl, Nat.le_of_ble_eq_true rfl, Nat.le_of_ble_eq_true rfl⟩ ⟨Nat.le_of_ble_eq_true rfl, Nat.le_of_ble_eq_true rfl⟩ X M (x_recv cls_X10 X M q8) rfl rfl hl.1 (Nat.le_of_ble_eq_true rfl) dX10_clubBreak_20 (fun H locs M => ?_)
      refine lv_if_ne (tgt := 29) X.1 X.2.1 dX10_clubBreak_23 (by decide) (fun c12 => ?_) (fun c12 => ?_)
      · have hf := ifn c12 hf
        refine lv_iconst (v := (0 : Int32)) X.1 X.2.1 dX10_clubBreak_29 (by decide) ?_
        refine lv_istore_n (lv' := [(2, .int (0 : Int32)), (0, .ref (gB G + v0)), (1, .int v1)]) X.1 X.2.1 dX10_clubBreak_30 rfl hl (by decide) rfl (fun ls hl => ?_)
        exact w_X10_clubBreak_31 X hr hk N _ (fun v0 v1 h hf H locs ls M hl => ih v0 v1 h hf H locs ls M hl) N v0 v1 (0 : Int32) h10 hf _ _ _ M (lv_sub hl [1, 2, 0] rfl)
      · have hf := ifp c12 hf
        refine lv_goto (tgt := 80) X.1 X.2.1 dX10_clubBreak_26 (by decide) ?_
        refine lv_iinc (v := (v1 + 1)) (lv' := [(1, .int (v1 + 1)), (0, .ref (gB G + v0))]) X.1 X.2.1 dX10_clubBreak_80 hl (k := 1) rfl (by first | rfl | decide) (by decide) rfl (fun ls hl => ?_)
        refine lv_goto (tgt := 2) X.1 X.2.1 dX10_clubBreak_83 (by decide) ?_
        exact ih v0 (v1 + 1) h10 hf _ _ _ M (lv_sub hl [1, 0] rfl)
def f_X10_clubBreak (N : Nat) (v0 : Nat) (h : Mem) : Option (Int32 × Mem) :=
  f_X10_clubBreak_2 N N v0 (0 : Int32) h
set_option maxRecDepth 100000 in
set_option maxHeartbeats 4000000 in
theorem w_X10_clubBreak {p : Program} {l : Launch} {e : Env} {s : State} {m : MethodId} {args : Array Value} {below : List Frame} {meth : Method} {c : Code} {G : Gx} {r : Int32} {h' : Mem} (X : CX G p s m args c cX10_clubBreak 4 RX10) (hr : meth.sig.returnType = (Option.some Jvm.ClassFile.FieldType.int)) (hk : meth.locks = false) (N : Nat) : ∀ (v0 : Nat) (h : Mem), f_X10_clubBreak N v0 h = some (r, h') → ∀ (H : Heap) (locs : List Loc) (ls : Array Slot), MS G s h H locs 0 → lv_has ls 4 [(0, .ref (gB G + v0))] → W p l e (rm_X10_clubBreak) s m args below meth c H locs 0 0 (QI G below args s r h' 0 0) (F0 m 0 ls []) := by
  intro v0 h hf H locs ls M hl
  rw [f_X10_clubBreak] at hf
  refine lv_iconst (v := (0 : Int32)) X.1 X.2.1 dX10_clubBreak_0 (by decide) ?_
  refine lv_istore_n (lv' := [(1, .int (0 : Int32)), (0, .ref (gB G + v0))]) X.1 X.2.1 dX10_clubBreak_1 rfl hl (by decide) rfl (fun ls hl => ?_)
  exact w_X10_clubBreak_2 X hr hk N N v0 (0 : Int32) h hf _ _ _ M (lv_sub hl [1, 0] rfl)
theorem c_X10_clubBreak (l : Launch) (G : Gx) (N : Nat) (v0 : Nat) (h : Mem) (r : Int32) (h' : Mem) (hf : f_X10_clubBreak N v0 h = some (r, h')) : MetG l G yX10_clubBreak (.code yX10_clubBreak cX10_clubBreak 4 (Option.some Jvm.ClassFile.FieldType.int)) rm_X10_clubBreak [.ref (gB G + v0)] h (QcI G r h') 0 0 :=
  x_met (by decide) rfl (Nat.le_of_ble_eq_true rfl) (fun p e s m args below meth c ls X M hr hk hin hl => w_X10_clubBreak X hr hk N v0 h hf _ _ ls M hl)
abbrev rm_X10_voteBreak : Room := { frames := 13, cells := 0, slots := 0, locals := 318 }
def f_X10_voteBreak_12 (N : Nat) (n : Nat) (v0 : Nat) (v1 : Int32) (v2 : Int32) (h : Mem) (k2 : Nat → Int32 → Mem → Option (Int32 × Mem)) : Option (Int32 × Mem) := match n with
  | 0 => none
  | n + 1 =>
    if (3 : Int32) ≤ v2 then
      k2 v0 (v1 + 1) h
    else
      (ck h v0 10).bind fun _ =>
      b2 (f_X10_choiceOf N v0 v1 v2 h) fun t5 h4 =>
      (gR h4 v0 10 4).bind fun t6 =>
      (lI 100 h4 t6 (((3 : Int32) * v1) + v2)).bind fun t8 =>
      if t5 = t8 then
        f_X10_voteBreak_12 N n v0 v1 (v2 + 1) h4 k2
      else
        some ((((100 : Int32) * v1) + v2), h4)
set_option maxRecDepth 100000 in
set_option maxHeartbeats 4000000 in
theorem w_X10_voteBreak_12 {p : Program} {l : Launch} {e : Env} {s : State} {m : MethodId} {args : Array Value} {below : List Frame} {meth : Method} {c : Code} {G : Gx} {r : Int32} {h' : Mem} (X : CX G p s m args c cX10_voteBreak 3 RX10) (hr : meth.sig.returnType = (Option.some Jvm.ClassFile.FieldType.int)) (hk : meth.locks = false) (N : Nat) (k2 : Nat → Int32 → Mem → Option (Int32 × Mem)) (K2 : ∀ (v0 : Nat) (v1 : Int32) (h : Mem), k2 v0 v1 h = some (r, h') → ∀ (H : Heap) (locs : List Loc) (ls : Array Slot), MS G s h H locs 0 → lv_has ls 3 [(0, .ref (gB G + v0)), (1, .int v1)] → W p l e (rm_X10_voteBreak) s m args below meth c H locs 0 0 (QI G below args s r h' 0 0) (F0 m 2 ls [])) : ∀ (n : Nat) (v0 : Nat) (v1 : Int32) (v2 : Int32) (h : Mem), f_X10_voteBreak_12 N n v0 v1 v2 h k2 = some (r, h') → ∀ (H : Heap) (locs : List Loc) (ls : Array Slot), MS G s h H locs 0 → lv_has ls 3 [(0, .ref (gB G + v0)), (1, .int v1), (2, .int v2)] → W p l e (rm_X10_voteBreak) s m args below meth c H locs 0 0 (QI G below args s r h' 0 0) (F0 m 12 ls []) := by
  intro n
  induction n with
  | zero =>
    intro v0 v1 v2 h hf
    cases hf
  | succ n ih =>
    intro v0 v1 v2 h hf H locs ls M hl
    rw [f_X10_voteBreak_12] at hf
    refine lv_iload_n X.1 X.2.1 dX10_voteBreak_12 rfl (lv_at hl 2 rfl) ?_
    refine lv_iconst (v := (3 : Int32)) X.1 X.2.1 dX10_voteBreak_13 (by decide) ?_
    refine lv_icmp_ge (tgt := 49) X.1 X.2.1 dX10_voteBreak_14 (by decide) (fun c1 => ?_) (fun c1 => ?_)
    · have hf := ifp c1 hf
      refine lv_iinc (v := (v1 + 1)) (lv' := [(1, .int (v1 + 1)), (0, .ref (gB G + v0)), (2, .int v2)]) X.1 X.2.1 dX10_voteBreak_49 hl (k := 1) rfl (by first | rfl | decide) (by decide) rfl (fun ls hl => ?_)
      refine lv_goto (tgt := 2) X.1 X.2.1 dX10_voteBreak_52 (by decide) ?_
      exact K2 v0 (v1 + 1) h hf _ _ _ M (lv_sub hl [1, 0] rfl)
    · have hf := ifn c1 hf
      refine lv_aload_n X.1 X.2.1 dX10_voteBreak_17 rfl (lv_at hl 0 rfl) ?_
      refine lv_iload_n X.1 X.2.1 dX10_voteBreak_18 rfl (lv_at hl 1 rfl) ?_
      refine lv_iload_n X.1 X.2.1 dX10_voteBreak_19 rfl (lv_at hl 2 rfl) ?_
      obtain ⟨⟨⟩, q2, hf⟩ := bnd hf
      obtain ⟨t5, h4, q3, hf⟩ := bnd2 hf
      refine x_callVi (As := [.int v1, .int v2]) cf_X10_299 (c_X10_choiceOf l G N v0 v1 v2 h _ _ q3) rfl ⟨rfl, rfl, Nat.le_of_ble_eq_true rfl, Nat.le_of_ble_eq_true rfl⟩ ⟨Nat.le_of_ble_eq_true rfl, Nat.le_of_ble_eq_true rfl⟩ X M (x_recv cls_X10 X M q2) rfl rfl hl.1 (Nat.le_of_ble_eq_true rfl) dX10_voteBreak_20 (fun H locs M => ?_)
      refine lv_aload_n X.1 X.2.1 dX10_voteBreak_23 rfl (lv_at hl 0 rfl) ?_
      obtain ⟨t6, q7, hf⟩ := bnd hf
      refine x_getr fl_X10_23 X M q7 dX10_voteBreak_24 ?_
      refine lv_iconst (v := (3 : Int32)) X.1 X.2.1 dX10_voteBreak_27 (by decide) ?_
      refine lv_iload_n X.1 X.2.1 dX10_voteBreak_28 rfl (lv_at hl 1 rfl) ?_
      refine lv_imul X.1 X.2.1 dX10_voteBreak_29 ?_
      refine lv_iload_n X.1 X.2.1 dX10_voteBreak_30 rfl (lv_at hl 2 rfl) ?_
      refine lv_iadd X.1 X.2.1 dX10_voteBreak_31 ?_
      obtain ⟨t8, q9, hf⟩ := bnd hf
      refine x_iald X M q9 dX10_voteBreak_32 ?_
      refine lv_icmp_eq (tgt := 43) X.1 X.2.1 dX10_voteBreak_33 (by decide) (fun c10 => ?_) (fun c10 => ?_)
      · have hf := ifp c10 hf
        refine lv_iinc (v := (v2 + 1)) (lv' := [(2, .int (v2 + 1)), (0, .ref (gB G + v0)), (1, .int v1)]) X.1 X.2.1 dX10_voteBreak_43 hl (k := 2) rfl (by first | rfl | decide) (by decide) rfl (fun ls hl => ?_)
        refine lv_goto (tgt := 12) X.1 X.2.1 dX10_voteBreak_46 (by decide) ?_
        exact ih v0 v1 (v2 + 1) h4 hf _ _ _ M (lv_sub hl [1, 2, 0] rfl)
      · have hf := ifn c10 hf
        refine lv_bipush (v := (100 : Int32)) X.1 X.2.1 dX10_voteBreak_36 (by decide) ?_
        refine lv_iload_n X.1 X.2.1 dX10_voteBreak_38 rfl (lv_at hl 1 rfl) ?_
        refine lv_imul X.1 X.2.1 dX10_voteBreak_39 ?_
        refine lv_iload_n X.1 X.2.1 dX10_voteBreak_40 rfl (lv_at hl 2 rfl) ?_
        refine lv_iadd X.1 X.2.1 dX10_voteBreak_41 ?_
        obtain ⟨rfl, rfl⟩ := rt2 hf
        exact x_iret X hr hk M dX10_voteBreak_42
def f_X10_voteBreak_2 (N : Nat) (n : Nat) (v0 : Nat) (v1 : Int32) (h : Mem) : Option (Int32 × Mem) := match n with
  | 0 => none
  | n + 1 =>
    (gI h v0 10 0).bind fun t1 =>
    if t1 ≤ v1 then
      some ((-5 : Int32), h)
    else
      f_X10_voteBreak_12 N N v0 v1 (0 : Int32) h (fun v0 v1 h => f_X10_voteBreak_2 N n v0 v1 h)
set_option maxRecDepth 100000 in
set_option maxHeartbeats 4000000 in
theorem w_X10_voteBreak_2 {p : Program} {l : Launch} {e : Env} {s : State} {m : MethodId} {args : Array Value} {below : List Frame} {meth : Method} {c : Code} {G : Gx} {r : Int32} {h' : Mem} (X : CX G p s m args c cX10_voteBreak 3 RX10) (hr : meth.sig.returnType = (Option.some Jvm.ClassFile.FieldType.int)) (hk : meth.locks = false) (N : Nat) : ∀ (n : Nat) (v0 : Nat) (v1 : Int32) (h : Mem), f_X10_voteBreak_2 N n v0 v1 h = some (r, h') → ∀ (H : Heap) (locs : List Loc) (ls : Array Slot), MS G s h H locs 0 → lv_has ls 3 [(0, .ref (gB G + v0)), (1, .int v1)] → W p l e (rm_X10_voteBreak) s m args below meth c H locs 0 0 (QI G below args s r h' 0 0) (F0 m 2 ls []) := by
  intro n
  induction n with
  | zero =>
    intro v0 v1 h hf
    cases hf
  | succ n ih =>
    intro v0 v1 h hf H locs ls M hl
    rw [f_X10_voteBreak_2] at hf
    refine lv_iload_n X.1 X.2.1 dX10_voteBreak_2 rfl (lv_at hl 1 rfl) ?_
    refine lv_aload_n X.1 X.2.1 dX10_voteBreak_3 rfl (lv_at hl 0 rfl) ?_
    obtain ⟨t1, q2, hf⟩ := bnd hf
    refine x_geti fl_X10_7 X M q2 dX10_voteBreak_4 ?_
    refine lv_icmp_ge (tgt := 55) X.1 X.2.1 dX10_voteBreak_7 (by decide) (fun c3 => ?_) (fun c3 => ?_)
    · have hf := ifp c3 hf
      refine lv_bipush (v := (-5 : Int32)) X.1 X.2.1 dX10_voteBreak_55 (by decide) ?_
      obtain ⟨rfl, rfl⟩ := rt2 hf
      exact x_iret X hr hk M dX10_voteBreak_57
    · have hf := ifn c3 hf
      refine lv_iconst (v := (0 : Int32)) X.1 X.2.1 dX10_voteBreak_10 (by decide) ?_
      refine lv_istore_n (lv' := [(2, .int (0 : Int32)), (0, .ref (gB G + v0)), (1, .int v1)]) X.1 X.2.1 dX10_voteBreak_11 rfl hl (by decide) rfl (fun ls hl => ?_)
      exact w_X10_voteBreak_12 X hr hk N _ (fun v0 v1 h hf H locs ls M hl => ih v0 v1 h hf H locs ls M hl) N v0 v1 (0 : Int32) h hf _ _ _ M (lv_sub hl [1, 2, 0] rfl)
def f_X10_voteBreak (N : Nat) (v0 : Nat) (h : Mem) : Option (Int32 × Mem) :=
  f_X10_voteBreak_2 N N v0 (0 : Int32) h
set_option maxRecDepth 100000 in
set_option maxHeartbeats 4000000 in
theorem w_X10_voteBreak {p : Program} {l : Launch} {e : Env} {s : State} {m : MethodId} {args : Array Value} {below : List Frame} {meth : Method} {c : Code} {G : Gx} {r : Int32} {h' : Mem} (X : CX G p s m args c cX10_voteBreak 3 RX10) (hr : meth.sig.returnType = (Option.some Jvm.ClassFile.FieldType.int)) (hk : meth.locks = false) (N : Nat) : ∀ (v0 : Nat) (h : Mem), f_X10_voteBreak N v0 h = some (r, h') → ∀ (H : Heap) (locs : List Loc) (ls : Array Slot), MS G s h H locs 0 → lv_has ls 3 [(0, .ref (gB G + v0))] → W p l e (rm_X10_voteBreak) s m args below meth c H locs 0 0 (QI G below args s r h' 0 0) (F0 m 0 ls []) := by
  intro v0 h hf H locs ls M hl
  rw [f_X10_voteBreak] at hf
  refine lv_iconst (v := (0 : Int32)) X.1 X.2.1 dX10_voteBreak_0 (by decide) ?_
  refine lv_istore_n (lv' := [(1, .int (0 : Int32)), (0, .ref (gB G + v0))]) X.1 X.2.1 dX10_voteBreak_1 rfl hl (by decide) rfl (fun ls hl => ?_)
  exact w_X10_voteBreak_2 X hr hk N N v0 (0 : Int32) h hf _ _ _ M (lv_sub hl [1, 0] rfl)
theorem c_X10_voteBreak (l : Launch) (G : Gx) (N : Nat) (v0 : Nat) (h : Mem) (r : Int32) (h' : Mem) (hf : f_X10_voteBreak N v0 h = some (r, h')) : MetG l G yX10_voteBreak (.code yX10_voteBreak cX10_voteBreak 3 (Option.some Jvm.ClassFile.FieldType.int)) rm_X10_voteBreak [.ref (gB G + v0)] h (QcI G r h') 0 0 :=
  x_met (by decide) rfl (Nat.le_of_ble_eq_true rfl) (fun p e s m args below meth c ls X M hr hk hin hl => w_X10_voteBreak X hr hk N v0 h hf _ _ ls M hl)
abbrev rm_X10_seerBreak : Room := { frames := 14, cells := 0, slots := 0, locals := 342 }
def f_X10_seerBreak_135 (N : Nat) (n : Nat) (v0 : Nat) (v1 : Int32) (v2 : Int64) (v4 : Int32) (v5 : Int32) (v6 : Int32) (v7 : Int32) (v8 : Int32) (h : Mem) (k33 : Nat → Int32 → Int64 → Int32 → Int32 → Mem → Option (Int32 × Mem)) : Option (Int32 × Mem) := match n with
  | 0 => none
  | n + 1 =>
    if (3 : Int32) ≤ v8 then
      if v7 = 0 then
        k33 v0 v1 v2 v4 (v5 + 1) h
      else
        if v6 < 0 then
          k33 v0 v1 v2 v4 (v5 + 1) h
        else
          some ((((100 : Int32) * v1) + v5), h)
    else
      (gR h v0 10 4).bind fun t4 =>
      (gR h v0 10 42).bind fun t6 =>
      (lI 100 h t6 v8).bind fun t8 =>
      (stI 100 h t4 (((3 : Int32) * v5) + v8) t8).bind fun h10 =>
      f_X10_seerBreak_135 N n v0 v1 v2 v4 v5 v6 v7 (v8 + 1) h10 k33
set_option maxRecDepth 100000 in
set_option maxHeartbeats 4000000 in
theorem w_X10_seerBreak_135 {p : Program} {l : Launch} {e : Env} {s : State} {m : MethodId} {args : Array Value} {below : List Frame} {meth : Method} {c : Code} {G : Gx} {r : Int32} {h' : Mem} (X : CX G p s m args c cX10_seerBreak 9 RX10) (hr : meth.sig.returnType = (Option.some Jvm.ClassFile.FieldType.int)) (hk : meth.locks = false) (N : Nat) (k33 : Nat → Int32 → Int64 → Int32 → Int32 → Mem → Option (Int32 × Mem)) (K33 : ∀ (v0 : Nat) (v1 : Int32) (v2 : Int64) (v4 : Int32) (v5 : Int32) (h : Mem), k33 v0 v1 v2 v4 v5 h = some (r, h') → ∀ (H : Heap) (locs : List Loc) (ls : Array Slot), MS G s h H locs 0 → lv_has ls 9 [(0, .ref (gB G + v0)), (1, .int v1), (2, .long v2), (4, .int v4), (5, .int v5)] → W p l e (rm_X10_seerBreak) s m args below meth c H locs 0 0 (QI G below args s r h' 0 0) (F0 m 33 ls [])) : ∀ (n : Nat) (v0 : Nat) (v1 : Int32) (v2 : Int64) (v4 : Int32) (v5 : Int32) (v6 : Int32) (v7 : Int32) (v8 : Int32) (h : Mem), f_X10_seerBreak_135 N n v0 v1 v2 v4 v5 v6 v7 v8 h k33 = some (r, h') → ∀ (H : Heap) (locs : List Loc) (ls : Array Slot), MS G s h H locs 0 → lv_has ls 9 [(0, .ref (gB G + v0)), (1, .int v1), (2, .long v2), (4, .int v4), (5, .int v5), (6, .int v6), (7, .int v7), (8, .int v8)] → W p l e (rm_X10_seerBreak) s m args below meth c H locs 0 0 (QI G below args s r h' 0 0) (F0 m 135 ls []) := by
  intro n
  induction n with
  | zero =>
    intro v0 v1 v2 v4 v5 v6 v7 v8 h hf
    cases hf
  | succ n ih =>
    intro v0 v1 v2 v4 v5 v6 v7 v8 h hf H locs ls M hl
    rw [f_X10_seerBreak_135] at hf
    refine lv_iload X.1 X.2.1 dX10_seerBreak_135 (lv_at hl 7 rfl) ?_
    refine lv_iconst (v := (3 : Int32)) X.1 X.2.1 dX10_seerBreak_137 (by decide) ?_
    refine lv_icmp_ge (tgt := 166) X.1 X.2.1 dX10_seerBreak_138 (by decide) (fun c1 => ?_) (fun c1 => ?_)
    · have hf := ifp c1 hf
      refine lv_iload X.1 X.2.1 dX10_seerBreak_166 (lv_at hl 6 rfl) ?_
      refine lv_if_eq (tgt := 184) X.1 X.2.1 dX10_seerBreak_168 (by decide) (fun c2 => ?_) (fun c2 => ?_)
      · have hf := ifp c2 hf
        refine lv_iinc (v := (v5 + 1)) (lv' := [(5, .int (v5 + 1)), (0, .ref (gB G + v0)), (1, .int v1), (2, .long v2), (4, .int v4), (6, .int v6), (7, .int v7), (8, .int v8)]) X.1 X.2.1 dX10_seerBreak_184 hl (k := 4) rfl (by first | rfl | decide) (by decide) rfl (fun ls hl => ?_)
        refine lv_goto (tgt := 33) X.1 X.2.1 dX10_seerBreak_187 (by decide) ?_
        exact K33 v0 v1 v2 v4 (v5 + 1) h hf _ _ _ M (lv_sub hl [1, 2, 3, 4, 0] rfl)
      · have hf := ifn c2 hf
        refine lv_iload X.1 X.2.1 dX10_seerBreak_171 (lv_at hl 5 rfl) ?_
        refine lv_if_lt (tgt := 184) X.1 X.2.1 dX10_seerBreak_173 (by decide) (fun c3 => ?_) (fun c3 => ?_)
        · have hf := ifp c3 hf
          refine lv_iinc (v := (v5 + 1)) (lv' := [(5, .int (v5 + 1)), (0, .ref (gB G + v0)), (1, .int v1), (2, .long v2), (4, .int v4), (6, .int v6), (7, .int v7), (8, .int v8)]) X.1 X.2.1 dX10_seerBreak_184 hl (k := 4) rfl (by first | rfl | decide) (by decide) rfl (fun ls hl => ?_)
          refine lv_goto (tgt := 33) X.1 X.2.1 dX10_seerBreak_187 (by decide) ?_
          exact K33 v0 v1 v2 v4 (v5 + 1) h hf _ _ _ M (lv_sub hl [1, 2, 3, 4, 0] rfl)
        · have hf := ifn c3 hf
          refine lv_bipush (v := (100 : Int32)) X.1 X.2.1 dX10_seerBreak_176 (by decide) ?_
          refine lv_iload_n X.1 X.2.1 dX10_seerBreak_178 rfl (lv_at hl 1 rfl) ?_
          refine lv_imul X.1 X.2.1 dX10_seerBreak_179 ?_
          refine lv_iload X.1 X.2.1 dX10_seerBreak_180 (lv_at hl 4 rfl) ?_
          refine lv_iadd X.1 X.2.1 dX10_seerBreak_182 ?_
          obtain ⟨rfl, rfl⟩ := rt2 hf
          exact x_iret X hr hk M dX10_seerBreak_183
    · have hf := ifn c1 hf
      refine lv_aload_n X.1 X.2.1 dX10_seerBreak_141 rfl (lv_at hl 0 rfl) ?_
      obtain ⟨t4, q5, hf⟩ := bnd hf
      refine x_getr fl_X10_23 X M q5 dX10_seerBreak_142 ?_
      refine lv_iconst (v := (3 : Int32)) X.1 X.2.1 dX10_seerBreak_145 (by decide) ?_
      refine lv_iload X.1 X.2.1 dX10_seerBreak_146 (lv_at hl 4 rfl) ?_
      refine lv_imul X.1 X.2.1 dX10_seerBreak_148 ?_
      refine lv_iload X.1 X.2.1 dX10_seerBreak_149 (lv_at hl 7 rfl) ?_
      refine lv_iadd X.1 X.2.1 dX10_seerBreak_151 ?_
      refine lv_aload_n X.1 X.2.1 dX10_seerBreak_152 rfl (lv_at hl 0 rfl) ?_
      obtain ⟨t6, q7, hf⟩ := bnd hf
      refine x_getr fl_X10_139 X M q7 dX10_seerBreak_153 ?_
      refine lv_iload X.1 X.2.1 dX10_seerBreak_156 (lv_at hl 7 rfl) ?_
      obtain ⟨t8, q9, hf⟩ := bnd hf
      refine x_iald X M q9 dX10_seerBreak_158 ?_
      obtain ⟨h10, q11, hf⟩ := bnd hf
      refine x_iast X M q11 dX10_seerBreak_159 (fun H locs M => ?_)
      refine lv_iinc (v := (v8 + 1)) (lv' := [(8, .int (v8 + 1)), (0, .ref (gB G + v0)), (1, .int v1), (2, .long v2), (4, .int v4), (5, .int v5), (6, .int v6), (7, .int v7)]) X.1 X.2.1 dX10_seerBreak_160 hl (k := 7) rfl (by first | rfl | decide) (by decide) rfl (fun ls hl => ?_)
      refine lv_goto (tgt := 135) X.1 X.2.1 dX10_seerBreak_163 (by decide) ?_
      exact ih v0 v1 v2 v4 v5 v6 v7 (v8 + 1) h10 hf _ _ _ M (lv_sub hl [1, 2, 3, 4, 5, 6, 7, 0] rfl)
def f_X10_seerBreak_122 (N : Nat) (v0 : Nat) (v1 : Int32) (v2 : Int64) (v4 : Int32) (v5 : Int32) (v6 : Int32) (s0 : Int32) (h : Mem) (k33 : Nat → Int32 → Int64 → Int32 → Int32 → Mem → Option (Int32 × Mem)) : Option (Int32 × Mem) :=
  (gR h v0 10 10).bind fun t1 =>
  (stI 100 h t1 v1 v4).bind fun h3 =>
  f_X10_seerBreak_135 N N v0 v1 v2 v4 v5 v6 s0 (0 : Int32) h3 k33
set_option maxRecDepth 100000 in
set_option maxHeartbeats 4000000 in
theorem w_X10_seerBreak_122 {p : Program} {l : Launch} {e : Env} {s : State} {m : MethodId} {args : Array Value} {below : List Frame} {meth : Method} {c : Code} {G : Gx} {r : Int32} {h' : Mem} (X : CX G p s m args c cX10_seerBreak 9 RX10) (hr : meth.sig.returnType = (Option.some Jvm.ClassFile.FieldType.int)) (hk : meth.locks = false) (N : Nat) (k33 : Nat → Int32 → Int64 → Int32 → Int32 → Mem → Option (Int32 × Mem)) (K33 : ∀ (v0 : Nat) (v1 : Int32) (v2 : Int64) (v4 : Int32) (v5 : Int32) (h : Mem), k33 v0 v1 v2 v4 v5 h = some (r, h') → ∀ (H : Heap) (locs : List Loc) (ls : Array Slot), MS G s h H locs 0 → lv_has ls 9 [(0, .ref (gB G + v0)), (1, .int v1), (2, .long v2), (4, .int v4), (5, .int v5)] → W p l e (rm_X10_seerBreak) s m args below meth c H locs 0 0 (QI G below args s r h' 0 0) (F0 m 33 ls [])) : ∀ (v0 : Nat) (v1 : Int32) (v2 : Int64) (v4 : Int32) (v5 : Int32) (v6 : Int32) (s0 : Int32) (h : Mem), f_X10_seerBreak_122 N v0 v1 v2 v4 v5 v6 s0 h k33 = some (r, h') → ∀ (H : Heap) (locs : List Loc) (ls : Array Slot), MS G s h H locs 0 → lv_has ls 9 [(0, .ref (gB G + v0)), (1, .int v1), (2, .long v2), (4, .int v4), (5, .int v5), (6, .int v6)] → W p l e (rm_X10_seerBreak) s m args below meth c H locs 0 0 (QI G below args s r h' 0 0) (F0 m 122 ls [.int s0]) := by
  intro v0 v1 v2 v4 v5 v6 s0 h hf H locs ls M hl
  rw [f_X10_seerBreak_122] at hf
  refine lv_istore (lv' := [(7, .int s0), (0, .ref (gB G + v0)), (1, .int v1), (2, .long v2), (4, .int v4), (5, .int v5), (6, .int v6)]) X.1 X.2.1 dX10_seerBreak_122 hl (by decide) rfl (fun ls hl => ?_)
  refine lv_aload_n X.1 X.2.1 dX10_seerBreak_124 rfl (lv_at hl 1 rfl) ?_
  obtain ⟨t1, q2, hf⟩ := bnd hf
  refine x_getr fl_X10_41 X M q2 dX10_seerBreak_125 ?_
  refine lv_iload_n X.1 X.2.1 dX10_seerBreak_128 rfl (lv_at hl 2 rfl) ?_
  refine lv_iload X.1 X.2.1 dX10_seerBreak_129 (lv_at hl 4 rfl) ?_
  obtain ⟨h3, q4, hf⟩ := bnd hf
  refine x_iast X M q4 dX10_seerBreak_131 (fun H locs M => ?_)
  refine lv_iconst (v := (0 : Int32)) X.1 X.2.1 dX10_seerBreak_132 (by decide) ?_
  refine lv_istore (lv' := [(8, .int (0 : Int32)), (7, .int s0), (0, .ref (gB G + v0)), (1, .int v1), (2, .long v2), (4, .int v4), (5, .int v5), (6, .int v6)]) X.1 X.2.1 dX10_seerBreak_133 hl (by decide) rfl (fun ls hl => ?_)
  exact w_X10_seerBreak_135 X hr hk N _ K33 N v0 v1 v2 v4 v5 v6 s0 (0 : Int32) h3 hf _ _ _ M (lv_sub hl [2, 3, 4, 5, 6, 7, 1, 0] rfl)
def f_X10_seerBreak_58 (N : Nat) (n : Nat) (v0 : Nat) (v1 : Int32) (v2 : Int64) (v4 : Int32) (v5 : Int32) (v6 : Int32) (h : Mem) (k33 : Nat → Int32 → Int64 → Int32 → Int32 → Mem → Option (Int32 × Mem)) : Option (Int32 × Mem) := match n with
  | 0 => none
  | n + 1 =>
    if (3 : Int32) ≤ v6 then
      (gR h v0 10 10).bind fun t2 =>
      (stI 100 h t2 v1 v5).bind fun h4 =>
      (ck h4 v0 10).bind fun _ =>
      b2 (f_X10_chooses N v0 v5 h4) fun t9 h8 =>
      (ck h8 v0 10).bind fun _ =>
      b2 (f_X10_worthOf N v0 v1 v5 h8) fun t13 h12 =>
      if (lg_cmp t13 v2) ≤ 0 then
        f_X10_seerBreak_122 N v0 v1 v2 v4 v5 t9 (0 : Int32) h12 k33
      else
        f_X10_seerBreak_122 N v0 v1 v2 v4 v5 t9 (1 : Int32) h12 k33
    else
      (gR h v0 10 42).bind fun t15 =>
      (gR h v0 10 4).bind fun t17 =>
      (lI 100 h t17 (((3 : Int32) * v5) + v6)).bind fun t19 =>
      (stI 100 h t15 v6 t19).bind fun h21 =>
      f_X10_seerBreak_58 N n v0 v1 v2 v4 v5 (v6 + 1) h21 k33
set_option maxRecDepth 100000 in
set_option maxHeartbeats 4000000 in
theorem w_X10_seerBreak_58 {p : Program} {l : Launch} {e : Env} {s : State} {m : MethodId} {args : Array Value} {below : List Frame} {meth : Method} {c : Code} {G : Gx} {r : Int32} {h' : Mem} (X : CX G p s m args c cX10_seerBreak 9 RX10) (hr : meth.sig.returnType = (Option.some Jvm.ClassFile.FieldType.int)) (hk : meth.locks = false) (N : Nat) (k33 : Nat → Int32 → Int64 → Int32 → Int32 → Mem → Option (Int32 × Mem)) (K33 : ∀ (v0 : Nat) (v1 : Int32) (v2 : Int64) (v4 : Int32) (v5 : Int32) (h : Mem), k33 v0 v1 v2 v4 v5 h = some (r, h') → ∀ (H : Heap) (locs : List Loc) (ls : Array Slot), MS G s h H locs 0 → lv_has ls 9 [(0, .ref (gB G + v0)), (1, .int v1), (2, .long v2), (4, .int v4), (5, .int v5)] → W p l e (rm_X10_seerBreak) s m args below meth c H locs 0 0 (QI G below args s r h' 0 0) (F0 m 33 ls [])) : ∀ (n : Nat) (v0 : Nat) (v1 : Int32) (v2 : Int64) (v4 : Int32) (v5 : Int32) (v6 : Int32) (h : Mem), f_X10_seerBreak_58 N n v0 v1 v2 v4 v5 v6 h k33 = some (r, h') → ∀ (H : Heap) (locs : List Loc) (ls : Array Slot), MS G s h H locs 0 → lv_has ls 9 [(0, .ref (gB G + v0)), (1, .int v1), (2, .long v2), (4, .int v4), (5, .int v5), (6, .int v6)] → W p l e (rm_X10_seerBreak) s m args below meth c H locs 0 0 (QI G below args s r h' 0 0) (F0 m 58 ls []) := by
  intro n
  induction n with
  | zero =>
    intro v0 v1 v2 v4 v5 v6 h hf
    cases hf
  | succ n ih =>
    intro v0 v1 v2 v4 v5 v6 h hf H locs ls M hl
    rw [f_X10_seerBreak_58] at hf
    refine lv_iload X.1 X.2.1 dX10_seerBreak_58 (lv_at hl 5 rfl) ?_
    refine lv_iconst (v := (3 : Int32)) X.1 X.2.1 dX10_seerBreak_60 (by decide) ?_
    refine lv_icmp_ge (tgt := 89) X.1 X.2.1 dX10_seerBreak_61 (by decide) (fun c1 => ?_) (fun c1 => ?_)
    · have hf := ifp c1 hf
      refine lv_aload_n X.1 X.2.1 dX10_seerBreak_89 rfl (lv_at hl 0 rfl) ?_
      obtain ⟨t2, q3, hf⟩ := bnd hf
      refine x_getr fl_X10_41 X M q3 dX10_seerBreak_90 ?_
      refine lv_iload_n X.1 X.2.1 dX10_seerBreak_93 rfl (lv_at hl 1 rfl) ?_
      refine lv_iload X.1 X.2.1 dX10_seerBreak_94 (lv_at hl 4 rfl) ?_
      obtain ⟨h4, q5, hf⟩ := bnd hf
      refine x_iast X M q5 dX10_seerBreak_96 (fun H locs M => ?_)
      refine lv_aload_n X.1 X.2.1 dX10_seerBreak_97 rfl (lv_at hl 0 rfl) ?_
      refine lv_iload X.1 X.2.1 dX10_seerBreak_98 (lv_at hl 4 rfl) ?_
      obtain ⟨⟨⟩, q6, hf⟩ := bnd hf
      obtain ⟨t9, h8, q7, hf⟩ := bnd2 hf
      refine x_callVi (As := [.int v5]) cf_X10_302 (c_X10_chooses l G N v0 v5 h4 _ _ q7) rfl ⟨rfl, rfl, Nat.le_of_ble_eq_true rfl, Nat.le_of_ble_eq_true rfl⟩ ⟨Nat.le_of_ble_eq_true rfl, Nat.le_of_ble_eq_true rfl⟩ X M (x_recv cls_X10 X M q6) rfl rfl hl.1 (Nat.le_of_ble_eq_true rfl) dX10_seerBreak_100 (fun H locs M => ?_)
      refine lv_istore (lv' := [(6, .int t9), (0, .ref (gB G + v0)), (1, .int v1), (2, .long v2), (4, .int v4), (5, .int v5)]) X.1 X.2.1 dX10_seerBreak_103 hl (by decide) rfl (fun ls hl => ?_)
      refine lv_aload_n X.1 X.2.1 dX10_seerBreak_105 rfl (lv_at hl 1 rfl) ?_
      refine lv_iload_n X.1 X.2.1 dX10_seerBreak_106 rfl (lv_at hl 2 rfl) ?_
      refine lv_iload X.1 X.2.1 dX10_seerBreak_107 (lv_at hl 5 rfl) ?_
      obtain ⟨⟨⟩, q10, hf⟩ := bnd hf
      obtain ⟨t13, h12, q11, hf⟩ := bnd2 hf
      refine x_callVl (As := [.int v1, .int v5]) cf_X10_225 (c_X10_worthOf l G N v0 v1 v5 h8 _ _ q11) rfl ⟨rfl, rfl, Nat.le_of_ble_eq_true rfl, Nat.le_of_ble_eq_true rfl⟩ ⟨Nat.le_of_ble_eq_true rfl, Nat.le_of_ble_eq_true rfl⟩ X M (x_recv cls_X10 X M q10) rfl rfl hl.1 (Nat.le_of_ble_eq_true rfl) dX10_seerBreak_109 (fun H locs M => ?_)
      refine lv_lload_n X.1 X.2.1 dX10_seerBreak_112 rfl (lv_at hl 3 rfl) ?_
      refine W.lcmp X.1 X.2.1 dX10_seerBreak_113 ?_
      refine lv_if_le (tgt := 121) X.1 X.2.1 dX10_seerBreak_114 (by decide) (fun c14 => ?_) (fun c14 => ?_)
      · have hf := ifp c14 hf
        refine lv_iconst (v := (0 : Int32)) X.1 X.2.1 dX10_seerBreak_121 (by decide) ?_
        exact w_X10_seerBreak_122 X hr hk N _ K33 v0 v1 v2 v4 v5 t9 (0 : Int32) h12 hf _ _ _ M (lv_sub hl [1, 2, 3, 4, 5, 0] rfl)
      · have hf := ifn c14 hf
        refine lv_iconst (v := (1 : Int32)) X.1 X.2.1 dX10_seerBreak_117 (by decide) ?_
        refine lv_goto (tgt := 122) X.1 X.2.1 dX10_seerBreak_118 (by decide) ?_
        exact w_X10_seerBreak_122 X hr hk N _ K33 v0 v1 v2 v4 v5 t9 (1 : Int32) h12 hf _ _ _ M (lv_sub hl [1, 2, 3, 4, 5, 0] rfl)
    · have hf := ifn c1 hf
      refine lv_aload_n X.1 X.2.1 dX10_seerBreak_64 rfl (lv_at hl 0 rfl) ?_
      obtain ⟨t15, q16, hf⟩ := bnd hf
      refine x_getr fl_X10_139 X M q16 dX10_seerBreak_65 ?_
      refine lv_iload X.1 X.2.1 dX10_seerBreak_68 (lv_at hl 5 rfl) ?_
      refine lv_aload_n X.1 X.2.1 dX10_seerBreak_70 rfl (lv_at hl 0 rfl) ?_
      obtain ⟨t17, q18, hf⟩ := bnd hf
      refine x_getr fl_X10_23 X M q18 dX10_seerBreak_71 ?_
      refine lv_iconst (v := (3 : Int32)) X.1 X.2.1 dX10_seerBreak_74 (by decide) ?_
      refine lv_iload X.1 X.2.1 dX10_seerBreak_75 (lv_at hl 4 rfl) ?_
      refine lv_imul X.1 X.2.1 dX10_seerBreak_77 ?_
      refine lv_iload X.1 X.2.1 dX10_seerBreak_78 (lv_at hl 5 rfl) ?_
      refine lv_iadd X.1 X.2.1 dX10_seerBreak_80 ?_
      obtain ⟨t19, q20, hf⟩ := bnd hf
      refine x_iald X M q20 dX10_seerBreak_81 ?_
      obtain ⟨h21, q22, hf⟩ := bnd hf
      refine x_iast X M q22 dX10_seerBreak_82 (fun H locs M => ?_)
      refine lv_iinc (v := (v6 + 1)) (lv' := [(6, .int (v6 + 1)), (0, .ref (gB G + v0)), (1, .int v1), (2, .long v2), (4, .int v4), (5, .int v5)]) X.1 X.2.1 dX10_seerBreak_83 hl (k := 5) rfl (by first | rfl | decide) (by decide) rfl (fun ls hl => ?_)
      refine lv_goto (tgt := 58) X.1 X.2.1 dX10_seerBreak_86 (by decide) ?_
      exact ih v0 v1 v2 v4 v5 (v6 + 1) h21 hf _ _ _ M (lv_sub hl [1, 2, 3, 4, 5, 0] rfl)
def f_X10_seerBreak_33 (N : Nat) (n : Nat) (v0 : Nat) (v1 : Int32) (v2 : Int64) (v4 : Int32) (v5 : Int32) (h : Mem) (k2 : Nat → Int32 → Mem → Option (Int32 × Mem)) : Option (Int32 × Mem) := match n with
  | 0 => none
  | n + 1 =>
    (gI h v0 10 0).bind fun t1 =>
    if t1 ≤ v5 then
      k2 v0 (v1 + 1) h
    else
      (ck h v0 10).bind fun _ =>
      b2 (f_X10_canGo N v0 v1 v5 h) fun t7 h6 =>
      if t7 = 0 then
        f_X10_seerBreak_33 N n v0 v1 v2 v4 (v5 + 1) h6 k2
      else
        f_X10_seerBreak_58 N N v0 v1 v2 v4 v5 (0 : Int32) h6 (fun v0 v1 v2 v4 v5 h => f_X10_seerBreak_33 N n v0 v1 v2 v4 v5 h k2)
set_option maxRecDepth 100000 in
set_option maxHeartbeats 4000000 in
theorem w_X10_seerBreak_33 {p : Program} {l : Launch} {e : Env} {s : State} {m : MethodId} {args : Array Value} {below : List Frame} {meth : Method} {c : Code} {G : Gx} {r : Int32} {h' : Mem} (X : CX G p s m args c cX10_seerBreak 9 RX10) (hr : meth.sig.returnType = (Option.some Jvm.ClassFile.FieldType.int)) (hk : meth.locks = false) (N : Nat) (k2 : Nat → Int32 → Mem → Option (Int32 × Mem)) (K2 : ∀ (v0 : Nat) (v1 : Int32) (h : Mem), k2 v0 v1 h = some (r, h') → ∀ (H : Heap) (locs : List Loc) (ls : Array Slot), MS G s h H locs 0 → lv_has ls 9 [(0, .ref (gB G + v0)), (1, .int v1)] → W p l e (rm_X10_seerBreak) s m args below meth c H locs 0 0 (QI G below args s r h' 0 0) (F0 m 2 ls [])) : ∀ (n : Nat) (v0 : Nat) (v1 : Int32) (v2 : Int64) (v4 : Int32) (v5 : Int32) (h : Mem), f_X10_seerBreak_33 N n v0 v1 v2 v4 v5 h k2 = some (r, h') → ∀ (H : Heap) (locs : List Loc) (ls : Array Slot), MS G s h H locs 0 → lv_has ls 9 [(0, .ref (gB G + v0)), (1, .int v1), (2, .long v2), (4, .int v4), (5, .int v5)] → W p l e (rm_X10_seerBreak) s m args below meth c H locs 0 0 (QI G below args s r h' 0 0) (F0 m 33 ls []) := by
  intro n
  induction n with
  | zero =>
    intro v0 v1 v2 v4 v5 h hf
    cases hf
  | succ n ih =>
    intro v0 v1 v2 v4 v5 h hf H locs ls M hl
    rw [f_X10_seerBreak_33] at hf
    refine lv_iload X.1 X.2.1 dX10_seerBreak_33 (lv_at hl 4 rfl) ?_
    refine lv_aload_n X.1 X.2.1 dX10_seerBreak_35 rfl (lv_at hl 0 rfl) ?_
    obtain ⟨t1, q2, hf⟩ := bnd hf
    refine x_geti fl_X10_7 X M q2 dX10_seerBreak_36 ?_
    refine lv_icmp_ge (tgt := 190) X.1 X.2.1 dX10_seerBreak_39 (by decide) (fun c3 => ?_) (fun c3 => ?_)
    · have hf := ifp c3 hf
      refine lv_iinc (v := (v1 + 1)) (lv' := [(1, .int (v1 + 1)), (0, .ref (gB G + v0)), (2, .long v2), (4, .int v4), (5, .int v5)]) X.1 X.2.1 dX10_seerBreak_190 hl (k := 1) rfl (by first | rfl | decide) (by decide) rfl (fun ls hl => ?_)
      refine lv_goto (tgt := 2) X.1 X.2.1 dX10_seerBreak_193 (by decide) ?_
      exact K2 v0 (v1 + 1) h hf _ _ _ M (lv_sub hl [1, 0] rfl)
    · have hf := ifn c3 hf
      refine lv_aload_n X.1 X.2.1 dX10_seerBreak_42 rfl (lv_at hl 0 rfl) ?_
      refine lv_iload_n X.1 X.2.1 dX10_seerBreak_43 rfl (lv_at hl 1 rfl) ?_
      refine lv_iload X.1 X.2.1 dX10_seerBreak_44 (lv_at hl 4 rfl) ?_
      obtain ⟨⟨⟩, q4, hf⟩ := bnd hf
      obtain ⟨t7, h6, q5, hf⟩ := bnd2 hf
      refine x_callVi (As := [.int v1, .int v5]) cf_X10_308 (c_X10_canGo l G N v0 v1 v5 h _ _ q5) rfl ⟨rfl, rfl, Nat.le_of_ble_eq_true rfl, Nat.le_of_ble_eq_true rfl⟩ ⟨Nat.le_of_ble_eq_true rfl, Nat.le_of_ble_eq_true rfl⟩ X M (x_recv cls_X10 X M q4) rfl rfl hl.1 (Nat.le_of_ble_eq_true rfl) dX10_seerBreak_46 (fun H locs M => ?_)
      refine lv_if_ne (tgt := 55) X.1 X.2.1 dX10_seerBreak_49 (by decide) (fun c8 => ?_) (fun c8 => ?_)
      · have hf := ifn c8 hf
        refine lv_iconst (v := (0 : Int32)) X.1 X.2.1 dX10_seerBreak_55 (by decide) ?_
        refine lv_istore (lv' := [(6, .int (0 : Int32)), (0, .ref (gB G + v0)), (1, .int v1), (2, .long v2), (4, .int v4), (5, .int v5)]) X.1 X.2.1 dX10_seerBreak_56 hl (by decide) rfl (fun ls hl => ?_)
        exact w_X10_seerBreak_58 X hr hk N _ (fun v0 v1 v2 v4 v5 h hf H locs ls M hl => ih v0 v1 v2 v4 v5 h hf H locs ls M hl) N v0 v1 v2 v4 v5 (0 : Int32) h6 hf _ _ _ M (lv_sub hl [1, 2, 3, 4, 5, 0] rfl)
      · have hf := ifp c8 hf
        refine lv_goto (tgt := 184) X.1 X.2.1 dX10_seerBreak_52 (by decide) ?_
        refine lv_iinc (v := (v5 + 1)) (lv' := [(5, .int (v5 + 1)), (0, .ref (gB G + v0)), (1, .int v1), (2, .long v2), (4, .int v4)]) X.1 X.2.1 dX10_seerBreak_184 hl (k := 4) rfl (by first | rfl | decide) (by decide) rfl (fun ls hl => ?_)
        refine lv_goto (tgt := 33) X.1 X.2.1 dX10_seerBreak_187 (by decide) ?_
        exact ih v0 v1 v2 v4 (v5 + 1) h6 hf _ _ _ M (lv_sub hl [1, 2, 3, 4, 0] rfl)
def f_X10_seerBreak_2 (N : Nat) (n : Nat) (v0 : Nat) (v1 : Int32) (h : Mem) : Option (Int32 × Mem) := match n with
  | 0 => none
  | n + 1 =>
    (gI h v0 10 1).bind fun t1 =>
    if t1 ≤ v1 then
      some ((-5 : Int32), h)
    else
      (gR h v0 10 10).bind fun t4 =>
      (lI 100 h t4 v1).bind fun t6 =>
      (ck h v0 10).bind fun _ =>
      b2 (f_X10_worthOf N v0 v1 t6 h) fun t11 h10 =>
      (gR h10 v0 10 10).bind fun t12 =>
      (lI 100 h10 t12 v1).bind fun t14 =>
      f_X10_seerBreak_33 N N v0 v1 t11 t14 (0 : Int32) h10 (fun v0 v1 h => f_X10_seerBreak_2 N n v0 v1 h)
set_option maxRecDepth 100000 in
set_option maxHeartbeats 4000000 in
theorem w_X10_seerBreak_2 {p : Program} {l : Launch} {e : Env} {s : State} {m : MethodId} {args : Array Value} {below : List Frame} {meth : Method} {c : Code} {G : Gx} {r : Int32} {h' : Mem} (X : CX G p s m args c cX10_seerBreak 9 RX10) (hr : meth.sig.returnType = (Option.some Jvm.ClassFile.FieldType.int)) (hk : meth.locks = false) (N : Nat) : ∀ (n : Nat) (v0 : Nat) (v1 : Int32) (h : Mem), f_X10_seerBreak_2 N n v0 v1 h = some (r, h') → ∀ (H : Heap) (locs : List Loc) (ls : Array Slot), MS G s h H locs 0 → lv_has ls 9 [(0, .ref (gB G + v0)), (1, .int v1)] → W p l e (rm_X10_seerBreak) s m args below meth c H locs 0 0 (QI G below args s r h' 0 0) (F0 m 2 ls []) := by
  intro n
  induction n with
  | zero =>
    intro v0 v1 h hf
    cases hf
  | succ n ih =>
    intro v0 v1 h hf H locs ls M hl
    rw [f_X10_seerBreak_2] at hf
    refine lv_iload_n X.1 X.2.1 dX10_seerBreak_2 rfl (lv_at hl 1 rfl) ?_
    refine lv_aload_n X.1 X.2.1 dX10_seerBreak_3 rfl (lv_at hl 0 rfl) ?_
    obtain ⟨t1, q2, hf⟩ := bnd hf
    refine x_geti fl_X10_13 X M q2 dX10_seerBreak_4 ?_
    refine lv_icmp_ge (tgt := 196) X.1 X.2.1 dX10_seerBreak_7 (by decide) (fun c3 => ?_) (fun c3 => ?_)
    · have hf := ifp c3 hf
      refine lv_bipush (v := (-5 : Int32)) X.1 X.2.1 dX10_seerBreak_196 (by decide) ?_
      obtain ⟨rfl, rfl⟩ := rt2 hf
      exact x_iret X hr hk M dX10_seerBreak_198
    · have hf := ifn c3 hf
      refine lv_aload_n X.1 X.2.1 dX10_seerBreak_10 rfl (lv_at hl 0 rfl) ?_
      refine lv_iload_n X.1 X.2.1 dX10_seerBreak_11 rfl (lv_at hl 1 rfl) ?_
      refine lv_aload_n X.1 X.2.1 dX10_seerBreak_12 rfl (lv_at hl 0 rfl) ?_
      obtain ⟨t4, q5, hf⟩ := bnd hf
      refine x_getr fl_X10_41 X M q5 dX10_seerBreak_13 ?_
      refine lv_iload_n X.1 X.2.1 dX10_seerBreak_16 rfl (lv_at hl 1 rfl) ?_
      obtain ⟨t6, q7, hf⟩ := bnd hf
      refine x_iald X M q7 dX10_seerBreak_17 ?_
      obtain ⟨⟨⟩, q8, hf⟩ := bnd hf
      obtain ⟨t11, h10, q9, hf⟩ := bnd2 hf
      refine x_callVl (As := [.int v1, .int t6]) cf_X10_225 (c_X10_worthOf l G N v0 v1 t6 h _ _ q9) rfl ⟨rfl, rfl, Nat.le_of_ble_eq_true rfl, Nat.le_of_ble_eq_true rfl⟩ ⟨Nat.le_of_ble_eq_true rfl, Nat.le_of_ble_eq_true rfl⟩ X M (x_recv cls_X10 X M q8) rfl rfl hl.1 (Nat.le_of_ble_eq_true rfl) dX10_seerBreak_18 (fun H locs M => ?_)
      refine lv_lstore_n (lv' := [(2, .long t11), (0, .ref (gB G + v0)), (1, .int v1)]) X.1 X.2.1 dX10_seerBreak_21 rfl hl (by decide) rfl (fun ls hl => ?_)
      refine lv_aload_n X.1 X.2.1 dX10_seerBreak_22 rfl (lv_at hl 1 rfl) ?_
      obtain ⟨t12, q13, hf⟩ := bnd hf
      refine x_getr fl_X10_41 X M q13 dX10_seerBreak_23 ?_
      refine lv_iload_n X.1 X.2.1 dX10_seerBreak_26 rfl (lv_at hl 2 rfl) ?_
      obtain ⟨t14, q15, hf⟩ := bnd hf
      refine x_iald X M q15 dX10_seerBreak_27 ?_
      refine lv_istore (lv' := [(4, .int t14), (2, .long t11), (0, .ref (gB G + v0)), (1, .int v1)]) X.1 X.2.1 dX10_seerBreak_28 hl (by decide) rfl (fun ls hl => ?_)
      refine lv_iconst (v := (0 : Int32)) X.1 X.2.1 dX10_seerBreak_30 (by decide) ?_
      refine lv_istore (lv' := [(5, .int (0 : Int32)), (4, .int t14), (2, .long t11), (0, .ref (gB G + v0)), (1, .int v1)]) X.1 X.2.1 dX10_seerBreak_31 hl (by decide) rfl (fun ls hl => ?_)
      exact w_X10_seerBreak_33 X hr hk N _ (fun v0 v1 h hf H locs ls M hl => ih v0 v1 h hf H locs ls M hl) N v0 v1 t11 t14 (0 : Int32) h10 hf _ _ _ M (lv_sub hl [3, 4, 2, 1, 0] rfl)
def f_X10_seerBreak (N : Nat) (v0 : Nat) (h : Mem) : Option (Int32 × Mem) :=
  f_X10_seerBreak_2 N N v0 (0 : Int32) h
set_option maxRecDepth 100000 in
set_option maxHeartbeats 4000000 in
theorem w_X10_seerBreak {p : Program} {l : Launch} {e : Env} {s : State} {m : MethodId} {args : Array Value} {below : List Frame} {meth : Method} {c : Code} {G : Gx} {r : Int32} {h' : Mem} (X : CX G p s m args c cX10_seerBreak 9 RX10) (hr : meth.sig.returnType = (Option.some Jvm.ClassFile.FieldType.int)) (hk : meth.locks = false) (N : Nat) : ∀ (v0 : Nat) (h : Mem), f_X10_seerBreak N v0 h = some (r, h') → ∀ (H : Heap) (locs : List Loc) (ls : Array Slot), MS G s h H locs 0 → lv_has ls 9 [(0, .ref (gB G + v0))] → W p l e (rm_X10_seerBreak) s m args below meth c H locs 0 0 (QI G below args s r h' 0 0) (F0 m 0 ls []) := by
  intro v0 h hf H locs ls M hl
  rw [f_X10_seerBreak] at hf
  refine lv_iconst (v := (0 : Int32)) X.1 X.2.1 dX10_seerBreak_0 (by decide) ?_
  refine lv_istore_n (lv' := [(1, .int (0 : Int32)), (0, .ref (gB G + v0))]) X.1 X.2.1 dX10_seerBreak_1 rfl hl (by decide) rfl (fun ls hl => ?_)
  exact w_X10_seerBreak_2 X hr hk N N v0 (0 : Int32) h hf _ _ _ M (lv_sub hl [1, 0] rfl)
theorem c_X10_seerBreak (l : Launch) (G : Gx) (N : Nat) (v0 : Nat) (h : Mem) (r : Int32) (h' : Mem) (hf : f_X10_seerBreak N v0 h = some (r, h')) : MetG l G yX10_seerBreak (.code yX10_seerBreak cX10_seerBreak 9 (Option.some Jvm.ClassFile.FieldType.int)) rm_X10_seerBreak [.ref (gB G + v0)] h (QcI G r h') 0 0 :=
  x_met (by decide) rfl (Nat.le_of_ble_eq_true rfl) (fun p e s m args below meth c ls X M hr hk hin hl => w_X10_seerBreak X hr hk N v0 h hf _ _ ls M hl)
abbrev rm_X10_breakOf : Room := { frames := 15, cells := 0, slots := 0, locals := 370 }
def f_X10_breakOf_43 (N : Nat) (v0 : Nat) (v1 : Int32) (h : Mem) (k48 : Nat → Int32 → Int32 → Mem → Option (Int32 × Mem)) : Option (Int32 × Mem) :=
  (ck h v0 10).bind fun _ =>
  b2 (f_X10_voteBreak N v0 h) fun t4 h3 =>
  k48 v0 v1 t4 h3
set_option maxRecDepth 100000 in
set_option maxHeartbeats 4000000 in
theorem w_X10_breakOf_43 {p : Program} {l : Launch} {e : Env} {s : State} {m : MethodId} {args : Array Value} {below : List Frame} {meth : Method} {c : Code} {G : Gx} {r : Int32} {h' : Mem} (X : CX G p s m args c cX10_breakOf 3 RX10) (hr : meth.sig.returnType = (Option.some Jvm.ClassFile.FieldType.int)) (hk : meth.locks = false) (N : Nat) (k48 : Nat → Int32 → Int32 → Mem → Option (Int32 × Mem)) (K48 : ∀ (v0 : Nat) (v1 : Int32) (v2 : Int32) (h : Mem), k48 v0 v1 v2 h = some (r, h') → ∀ (H : Heap) (locs : List Loc) (ls : Array Slot), MS G s h H locs 0 → lv_has ls 3 [(0, .ref (gB G + v0)), (1, .int v1), (2, .int v2)] → W p l e (rm_X10_breakOf) s m args below meth c H locs 0 0 (QI G below args s r h' 0 0) (F0 m 48 ls [])) : ∀ (v0 : Nat) (v1 : Int32) (h : Mem), f_X10_breakOf_43 N v0 v1 h k48 = some (r, h') → ∀ (H : Heap) (locs : List Loc) (ls : Array Slot), MS G s h H locs 0 → lv_has ls 3 [(0, .ref (gB G + v0)), (1, .int v1)] → W p l e (rm_X10_breakOf) s m args below meth c H locs 0 0 (QI G below args s r h' 0 0) (F0 m 43 ls []) := by
  intro v0 v1 h hf H locs ls M hl
  rw [f_X10_breakOf_43] at hf
  refine lv_aload_n X.1 X.2.1 dX10_breakOf_43 rfl (lv_at hl 0 rfl) ?_
  obtain ⟨⟨⟩, q1, hf⟩ := bnd hf
  obtain ⟨t4, h3, q2, hf⟩ := bnd2 hf
  refine x_callVi (As := []) cf_X10_326 (c_X10_voteBreak l G N v0 h _ _ q2) rfl ⟨rfl, rfl, Nat.le_of_ble_eq_true rfl, Nat.le_of_ble_eq_true rfl⟩ ⟨Nat.le_of_ble_eq_true rfl, Nat.le_of_ble_eq_true rfl⟩ X M (x_recv cls_X10 X M q1) rfl rfl hl.1 (Nat.le_of_ble_eq_true rfl) dX10_breakOf_44 (fun H locs M => ?_)
  refine lv_istore_n (lv' := [(2, .int t4), (0, .ref (gB G + v0)), (1, .int v1)]) X.1 X.2.1 dX10_breakOf_47 rfl hl (by decide) rfl (fun ls hl => ?_)
  exact K48 v0 v1 t4 h3 hf _ _ _ M (lv_sub hl [1, 2, 0] rfl)
def f_X10_breakOf_48 (N : Nat) (v0 : Nat) (v1 : Int32) (v2 : Int32) (h : Mem) : Option (Int32 × Mem) :=
  if v2 = (-5 : Int32) then
    if v1 = (4 : Int32) then
      (ck h v0 10).bind fun _ =>
      b2 (f_X10_seerBreak N v0 h) fun t6 h5 =>
      some (t6, h5)
    else
      some (v2, h)
  else
    some (v2, h)
set_option maxRecDepth 100000 in
set_option maxHeartbeats 4000000 in
theorem w_X10_breakOf_48 {p : Program} {l : Launch} {e : Env} {s : State} {m : MethodId} {args : Array Value} {below : List Frame} {meth : Method} {c : Code} {G : Gx} {r : Int32} {h' : Mem} (X : CX G p s m args c cX10_breakOf 3 RX10) (hr : meth.sig.returnType = (Option.some Jvm.ClassFile.FieldType.int)) (hk : meth.locks = false) (N : Nat) : ∀ (v0 : Nat) (v1 : Int32) (v2 : Int32) (h : Mem), f_X10_breakOf_48 N v0 v1 v2 h = some (r, h') → ∀ (H : Heap) (locs : List Loc) (ls : Array Slot), MS G s h H locs 0 → lv_has ls 3 [(0, .ref (gB G + v0)), (1, .int v1), (2, .int v2)] → W p l e (rm_X10_breakOf) s m args below meth c H locs 0 0 (QI G below args s r h' 0 0) (F0 m 48 ls []) := by
  intro v0 v1 v2 h hf H locs ls M hl
  rw [f_X10_breakOf_48] at hf
  refine lv_iload_n X.1 X.2.1 dX10_breakOf_48 rfl (lv_at hl 2 rfl) ?_
  refine lv_bipush (v := (-5 : Int32)) X.1 X.2.1 dX10_breakOf_49 (by decide) ?_
  refine lv_icmp_ne (tgt := 66) X.1 X.2.1 dX10_breakOf_51 (by decide) (fun c1 => ?_) (fun c1 => ?_)
  · have hf := ifn c1 hf
    refine lv_iload_n X.1 X.2.1 dX10_breakOf_66 rfl (lv_at hl 2 rfl) ?_
    obtain ⟨rfl, rfl⟩ := rt2 hf
    exact x_iret X hr hk M dX10_breakOf_67
  · have hf := ifp c1 hf
    refine lv_iload_n X.1 X.2.1 dX10_breakOf_54 rfl (lv_at hl 1 rfl) ?_
    refine lv_iconst (v := (4 : Int32)) X.1 X.2.1 dX10_breakOf_55 (by decide) ?_
    refine lv_icmp_ne (tgt := 66) X.1 X.2.1 dX10_breakOf_56 (by decide) (fun c2 => ?_) (fun c2 => ?_)
    · have hf := ifn c2 hf
      refine lv_iload_n X.1 X.2.1 dX10_breakOf_66 rfl (lv_at hl 2 rfl) ?_
      obtain ⟨rfl, rfl⟩ := rt2 hf
      exact x_iret X hr hk M dX10_breakOf_67
    · have hf := ifp c2 hf
      refine lv_aload_n X.1 X.2.1 dX10_breakOf_59 rfl (lv_at hl 0 rfl) ?_
      obtain ⟨⟨⟩, q3, hf⟩ := bnd hf
      obtain ⟨t6, h5, q4, hf⟩ := bnd2 hf
      refine x_callVi (As := []) cf_X10_329 (c_X10_seerBreak l G N v0 h _ _ q4) rfl ⟨rfl, rfl, Nat.le_of_ble_eq_true rfl, Nat.le_of_ble_eq_true rfl⟩ ⟨Nat.le_of_ble_eq_true rfl, Nat.le_of_ble_eq_true rfl⟩ X M (x_recv cls_X10 X M q3) rfl rfl hl.1 (Nat.le_of_ble_eq_true rfl) dX10_breakOf_60 (fun H locs M => ?_)
      refine lv_goto (tgt := 67) X.1 X.2.1 dX10_breakOf_63 (by decide) ?_
      obtain ⟨rfl, rfl⟩ := rt2 hf
      exact x_iret X hr hk M dX10_breakOf_67
def f_X10_breakOf (N : Nat) (v0 : Nat) (v1 : Int32) (h : Mem) : Option (Int32 × Mem) :=
  (ck h v0 10).bind fun _ =>
  b2 (f_X10_stayBreak N v0 h) fun t4 h3 =>
  if t4 = (-5 : Int32) then
    if v1 = (3 : Int32) then
      (ck h3 v0 10).bind fun _ =>
      b2 (f_X10_rentBreak N v0 h3) fun t17 h16 =>
      some (t17, h16)
    else
      if v1 = (5 : Int32) then
        (ck h3 v0 10).bind fun _ =>
        b2 (f_X10_clubBreak N v0 h3) fun t13 h12 =>
        some (t13, h12)
      else
        if v1 = (2 : Int32) then
          f_X10_breakOf_43 N v0 v1 h3 (fun v0 v1 v2 h => f_X10_breakOf_48 N v0 v1 v2 h)
        else
          if v1 = (4 : Int32) then
            f_X10_breakOf_43 N v0 v1 h3 (fun v0 v1 v2 h => f_X10_breakOf_48 N v0 v1 v2 h)
          else
            f_X10_breakOf_48 N v0 v1 t4 h3
  else
    some (t4, h3)
set_option maxRecDepth 100000 in
set_option maxHeartbeats 4000000 in
theorem w_X10_breakOf {p : Program} {l : Launch} {e : Env} {s : State} {m : MethodId} {args : Array Value} {below : List Frame} {meth : Method} {c : Code} {G : Gx} {r : Int32} {h' : Mem} (X : CX G p s m args c cX10_breakOf 3 RX10) (hr : meth.sig.returnType = (Option.some Jvm.ClassFile.FieldType.int)) (hk : meth.locks = false) (N : Nat) : ∀ (v0 : Nat) (v1 : Int32) (h : Mem), f_X10_breakOf N v0 v1 h = some (r, h') → ∀ (H : Heap) (locs : List Loc) (ls : Array Slot), MS G s h H locs 0 → lv_has ls 3 [(0, .ref (gB G + v0)), (1, .int v1)] → W p l e (rm_X10_breakOf) s m args below meth c H locs 0 0 (QI G below args s r h' 0 0) (F0 m 0 ls []) := by
  intro v0 v1 h hf H locs ls M hl
  rw [f_X10_breakOf] at hf
  refine lv_aload_n X.1 X.2.1 dX10_breakOf_0 rfl (lv_at hl 0 rfl) ?_
  obtain ⟨⟨⟩, q1, hf⟩ := bnd hf
  obtain ⟨t4, h3, q2, hf⟩ := bnd2 hf
  refine x_callVi (As := []) cf_X10_317 (c_X10_stayBreak l G N v0 h _ _ q2) rfl ⟨rfl, rfl, Nat.le_of_ble_eq_true rfl, Nat.le_of_ble_eq_true rfl⟩ ⟨Nat.le_of_ble_eq_true rfl, Nat.le_of_ble_eq_true rfl⟩ X M (x_recv cls_X10 X M q1) rfl rfl hl.1 (Nat.le_of_ble_eq_true rfl) dX10_breakOf_1 (fun H locs M => ?_)
  refine lv_istore_n (lv' := [(2, .int t4), (0, .ref (gB G + v0)), (1, .int v1)]) X.1 X.2.1 dX10_breakOf_4 rfl hl (by decide) rfl (fun ls hl => ?_)
  refine lv_iload_n X.1 X.2.1 dX10_breakOf_5 rfl (lv_at hl 0 rfl) ?_
  refine lv_bipush (v := (-5 : Int32)) X.1 X.2.1 dX10_breakOf_6 (by decide) ?_
  refine lv_icmp_eq (tgt := 13) X.1 X.2.1 dX10_breakOf_8 (by decide) (fun c5 => ?_) (fun c5 => ?_)
  · have hf := ifp c5 hf
    refine lv_iload_n X.1 X.2.1 dX10_breakOf_13 rfl (lv_at hl 2 rfl) ?_
    refine lv_iconst (v := (3 : Int32)) X.1 X.2.1 dX10_breakOf_14 (by decide) ?_
    refine lv_icmp_ne (tgt := 23) X.1 X.2.1 dX10_breakOf_15 (by decide) (fun c6 => ?_) (fun c6 => ?_)
    · have hf := ifn c6 hf
      refine lv_iload_n X.1 X.2.1 dX10_breakOf_23 rfl (lv_at hl 2 rfl) ?_
      refine lv_iconst (v := (5 : Int32)) X.1 X.2.1 dX10_breakOf_24 (by decide) ?_
      refine lv_icmp_ne (tgt := 33) X.1 X.2.1 dX10_breakOf_25 (by decide) (fun c7 => ?_) (fun c7 => ?_)
      · have hf := ifn c7 hf
        refine lv_iload_n X.1 X.2.1 dX10_breakOf_33 rfl (lv_at hl 2 rfl) ?_
        refine lv_iconst (v := (2 : Int32)) X.1 X.2.1 dX10_breakOf_34 (by decide) ?_
        refine lv_icmp_eq (tgt := 43) X.1 X.2.1 dX10_breakOf_35 (by decide) (fun c8 => ?_) (fun c8 => ?_)
        · have hf := ifp c8 hf
          exact w_X10_breakOf_43 X hr hk N _ (fun v0 v1 v2 h hf H locs ls M hl => w_X10_breakOf_48 X hr hk N v0 v1 v2 h hf H locs ls M hl) v0 v1 h3 hf _ _ _ M (lv_sub hl [1, 2] rfl)
        · have hf := ifn c8 hf
          refine lv_iload_n X.1 X.2.1 dX10_breakOf_38 rfl (lv_at hl 2 rfl) ?_
          refine lv_iconst (v := (4 : Int32)) X.1 X.2.1 dX10_breakOf_39 (by decide) ?_
          refine lv_icmp_ne (tgt := 48) X.1 X.2.1 dX10_breakOf_40 (by decide) (fun c9 => ?_) (fun c9 => ?_)
          · have hf := ifn c9 hf
            exact w_X10_breakOf_48 X hr hk N v0 v1 t4 h3 hf _ _ _ M (lv_sub hl [1, 2, 0] rfl)
          · have hf := ifp c9 hf
            exact w_X10_breakOf_43 X hr hk N _ (fun v0 v1 v2 h hf H locs ls M hl => w_X10_breakOf_48 X hr hk N v0 v1 v2 h hf H locs ls M hl) v0 v1 h3 hf _ _ _ M (lv_sub hl [1, 2] rfl)
      · have hf := ifp c7 hf
        refine lv_aload_n X.1 X.2.1 dX10_breakOf_28 rfl (lv_at hl 1 rfl) ?_
        obtain ⟨⟨⟩, q10, hf⟩ := bnd hf
        obtain ⟨t13, h12, q11, hf⟩ := bnd2 hf
        refine x_callVi (As := []) cf_X10_323 (c_X10_clubBreak l G N v0 h3 _ _ q11) rfl ⟨rfl, rfl, Nat.le_of_ble_eq_true rfl, Nat.le_of_ble_eq_true rfl⟩ ⟨Nat.le_of_ble_eq_true rfl, Nat.le_of_ble_eq_true rfl⟩ X M (x_recv cls_X10 X M q10) rfl rfl hl.1 (Nat.le_of_ble_eq_true rfl) dX10_breakOf_29 (fun H locs M => ?_)
        obtain ⟨rfl, rfl⟩ := rt2 hf
        exact x_iret X hr hk M dX10_breakOf_32
    · have hf := ifp c6 hf
      refine lv_aload_n X.1 X.2.1 dX10_breakOf_18 rfl (lv_at hl 1 rfl) ?_
      obtain ⟨⟨⟩, q14, hf⟩ := bnd hf
      obtain ⟨t17, h16, q15, hf⟩ := bnd2 hf
      refine x_callVi (As := []) cf_X10_320 (c_X10_rentBreak l G N v0 h3 _ _ q15) rfl ⟨rfl, rfl, Nat.le_of_ble_eq_true rfl, Nat.le_of_ble_eq_true rfl⟩ ⟨Nat.le_of_ble_eq_true rfl, Nat.le_of_ble_eq_true rfl⟩ X M (x_recv cls_X10 X M q14) rfl rfl hl.1 (Nat.le_of_ble_eq_true rfl) dX10_breakOf_19 (fun H locs M => ?_)
      obtain ⟨rfl, rfl⟩ := rt2 hf
      exact x_iret X hr hk M dX10_breakOf_22
  · have hf := ifn c5 hf
    refine lv_iload_n X.1 X.2.1 dX10_breakOf_11 rfl (lv_at hl 0 rfl) ?_
    obtain ⟨rfl, rfl⟩ := rt2 hf
    exact x_iret X hr hk M dX10_breakOf_12
theorem c_X10_breakOf (l : Launch) (G : Gx) (N : Nat) (v0 : Nat) (v1 : Int32) (h : Mem) (r : Int32) (h' : Mem) (hf : f_X10_breakOf N v0 v1 h = some (r, h')) : MetG l G yX10_breakOf (.code yX10_breakOf cX10_breakOf 3 (Option.some Jvm.ClassFile.FieldType.int)) rm_X10_breakOf [.ref (gB G + v0), .int v1] h (QcI G r h') 0 0 :=
  x_met (by decide) rfl (Nat.le_of_ble_eq_true rfl) (fun p e s m args below meth c ls X M hr hk hin hl => w_X10_breakOf X hr hk N v0 v1 h hf _ _ ls M hl)
abbrev rm_X10_isRest : Room := { frames := 16, cells := 0, slots := 0, locals := 392 }
def f_X10_isRest (N : Nat) (v0 : Nat) (v1 : Int32) (h : Mem) : Option (Int32 × Mem) :=
  (ck h v0 10).bind fun _ =>
  b2 (f_X10_breakOf N v0 v1 h) fun t4 h3 =>
  if t4 = (-5 : Int32) then
    some ((1 : Int32), h3)
  else
    some ((0 : Int32), h3)
set_option maxRecDepth 100000 in
set_option maxHeartbeats 4000000 in
theorem w_X10_isRest {p : Program} {l : Launch} {e : Env} {s : State} {m : MethodId} {args : Array Value} {below : List Frame} {meth : Method} {c : Code} {G : Gx} {r : Int32} {h' : Mem} (X : CX G p s m args c cX10_isRest 2 RX10) (hr : meth.sig.returnType = (Option.some Jvm.ClassFile.FieldType.boolean)) (hk : meth.locks = false) (N : Nat) : ∀ (v0 : Nat) (v1 : Int32) (h : Mem), f_X10_isRest N v0 v1 h = some (r, h') → ∀ (H : Heap) (locs : List Loc) (ls : Array Slot), MS G s h H locs 0 → lv_has ls 2 [(0, .ref (gB G + v0)), (1, .int v1)] → W p l e (rm_X10_isRest) s m args below meth c H locs 0 0 (QI G below args s r h' 0 0) (F0 m 0 ls []) := by
  intro v0 v1 h hf H locs ls M hl
  rw [f_X10_isRest] at hf
  refine lv_aload_n X.1 X.2.1 dX10_isRest_0 rfl (lv_at hl 0 rfl) ?_
  refine lv_iload_n X.1 X.2.1 dX10_isRest_1 rfl (lv_at hl 1 rfl) ?_
  obtain ⟨⟨⟩, q1, hf⟩ := bnd hf
  obtain ⟨t4, h3, q2, hf⟩ := bnd2 hf
  refine x_callVi (As := [.int v1]) cf_X10_332 (c_X10_breakOf l G N v0 v1 h _ _ q2) rfl ⟨rfl, rfl, Nat.le_of_ble_eq_true rfl, Nat.le_of_ble_eq_true rfl⟩ ⟨Nat.le_of_ble_eq_true rfl, Nat.le_of_ble_eq_true rfl⟩ X M (x_recv cls_X10 X M q1) rfl rfl hl.1 (Nat.le_of_ble_eq_true rfl) dX10_isRest_2 (fun H locs M => ?_)
  refine lv_bipush (v := (-5 : Int32)) X.1 X.2.1 dX10_isRest_5 (by decide) ?_
  refine lv_icmp_ne (tgt := 14) X.1 X.2.1 dX10_isRest_7 (by decide) (fun c5 => ?_) (fun c5 => ?_)
  · have hf := ifn c5 hf
    refine lv_iconst (v := (0 : Int32)) X.1 X.2.1 dX10_isRest_14 (by decide) ?_
    obtain ⟨rfl, rfl⟩ := rt2 hf
    exact x_zret X hr hk rfl M dX10_isRest_15
  · have hf := ifp c5 hf
    refine lv_iconst (v := (1 : Int32)) X.1 X.2.1 dX10_isRest_10 (by decide) ?_
    refine lv_goto (tgt := 15) X.1 X.2.1 dX10_isRest_11 (by decide) ?_
    obtain ⟨rfl, rfl⟩ := rt2 hf
    exact x_zret X hr hk rfl M dX10_isRest_15
theorem c_X10_isRest (l : Launch) (G : Gx) (N : Nat) (v0 : Nat) (v1 : Int32) (h : Mem) (r : Int32) (h' : Mem) (hf : f_X10_isRest N v0 v1 h = some (r, h')) : MetG l G yX10_isRest (.code yX10_isRest cX10_isRest 2 (Option.some Jvm.ClassFile.FieldType.boolean)) rm_X10_isRest [.ref (gB G + v0), .int v1] h (QcI G r h') 0 0 :=
  x_met (by decide) rfl (Nat.le_of_ble_eq_true rfl) (fun p e s m args below meth c ls X M hr hk hin hl => w_X10_isRest X hr hk N v0 v1 h hf _ _ ls M hl)
abbrev rm_X10_rest : Room := { frames := 17, cells := 0, slots := 0, locals := 413 }
def f_X10_rest (N : Nat) (v0 : Nat) (v1 : Int32) (h : Mem) : Option (Int32 × Mem) :=
  (ck h v0 10).bind fun _ =>
  b2 (f_X10_in N v0 v1 (1 : Int32) (5 : Int32) h) fun t4 h3 =>
  if t4 = 0 then
    some ((-1 : Int32), h3)
  else
    (ck h3 v0 10).bind fun _ =>
    b2 (f_X10_isRest N v0 v1 h3) fun t9 h8 =>
    if t9 = 0 then
      some ((0 : Int32), h8)
    else
      some ((1 : Int32), h8)
set_option maxRecDepth 100000 in
set_option maxHeartbeats 4000000 in
theorem w_X10_rest {p : Program} {l : Launch} {e : Env} {s : State} {m : MethodId} {args : Array Value} {below : List Frame} {meth : Method} {c : Code} {G : Gx} {r : Int32} {h' : Mem} (X : CX G p s m args c cX10_rest 2 RX10) (hr : meth.sig.returnType = (Option.some Jvm.ClassFile.FieldType.int)) (hk : meth.locks = false) (N : Nat) : ∀ (v0 : Nat) (v1 : Int32) (h : Mem), f_X10_rest N v0 v1 h = some (r, h') → ∀ (H : Heap) (locs : List Loc) (ls : Array Slot), MS G s h H locs 0 → lv_has ls 2 [(0, .ref (gB G + v0)), (1, .int v1)] → W p l e (rm_X10_rest) s m args below meth c H locs 0 0 (QI G below args s r h' 0 0) (F0 m 0 ls []) := by
  intro v0 v1 h hf H locs ls M hl
  rw [f_X10_rest] at hf
  refine lv_aload_n X.1 X.2.1 dX10_rest_0 rfl (lv_at hl 0 rfl) ?_
  refine lv_iload_n X.1 X.2.1 dX10_rest_1 rfl (lv_at hl 1 rfl) ?_
  refine lv_iconst (v := (1 : Int32)) X.1 X.2.1 dX10_rest_2 (by decide) ?_
  refine lv_iconst (v := (5 : Int32)) X.1 X.2.1 dX10_rest_3 (by decide) ?_
  obtain ⟨⟨⟩, q1, hf⟩ := bnd hf
  obtain ⟨t4, h3, q2, hf⟩ := bnd2 hf
  refine x_callVi (As := [.int v1, .int (1 : Int32), .int (5 : Int32)]) cf_X10_197 (c_X10_in l G N v0 v1 (1 : Int32) (5 : Int32) h _ _ q2) rfl ⟨rfl, rfl, Nat.le_of_ble_eq_true rfl, Nat.le_of_ble_eq_true rfl⟩ ⟨Nat.le_of_ble_eq_true rfl, Nat.le_of_ble_eq_true rfl⟩ X M (x_recv cls_X10 X M q1) rfl rfl hl.1 (Nat.le_of_ble_eq_true rfl) dX10_rest_4 (fun H locs M => ?_)
  refine lv_if_ne (tgt := 14) X.1 X.2.1 dX10_rest_7 (by decide) (fun c5 => ?_) (fun c5 => ?_)
  · have hf := ifn c5 hf
    refine lv_aload_n X.1 X.2.1 dX10_rest_14 rfl (lv_at hl 0 rfl) ?_
    refine lv_iload_n X.1 X.2.1 dX10_rest_15 rfl (lv_at hl 1 rfl) ?_
    obtain ⟨⟨⟩, q6, hf⟩ := bnd hf
    obtain ⟨t9, h8, q7, hf⟩ := bnd2 hf
    refine x_callVi (As := [.int v1]) cf_X10_335 (c_X10_isRest l G N v0 v1 h3 _ _ q7) rfl ⟨rfl, rfl, Nat.le_of_ble_eq_true rfl, Nat.le_of_ble_eq_true rfl⟩ ⟨Nat.le_of_ble_eq_true rfl, Nat.le_of_ble_eq_true rfl⟩ X M (x_recv cls_X10 X M q6) rfl rfl hl.1 (Nat.le_of_ble_eq_true rfl) dX10_rest_16 (fun H locs M => ?_)
    refine lv_if_eq (tgt := 26) X.1 X.2.1 dX10_rest_19 (by decide) (fun c10 => ?_) (fun c10 => ?_)
    · have hf := ifp c10 hf
      refine lv_iconst (v := (0 : Int32)) X.1 X.2.1 dX10_rest_26 (by decide) ?_
      obtain ⟨rfl, rfl⟩ := rt2 hf
      exact x_iret X hr hk M dX10_rest_27
    · have hf := ifn c10 hf
      refine lv_iconst (v := (1 : Int32)) X.1 X.2.1 dX10_rest_22 (by decide) ?_
      refine lv_goto (tgt := 27) X.1 X.2.1 dX10_rest_23 (by decide) ?_
      obtain ⟨rfl, rfl⟩ := rt2 hf
      exact x_iret X hr hk M dX10_rest_27
  · have hf := ifp c5 hf
    refine lv_iconst (v := (-1 : Int32)) X.1 X.2.1 dX10_rest_10 (by decide) ?_
    refine lv_goto (tgt := 27) X.1 X.2.1 dX10_rest_11 (by decide) ?_
    obtain ⟨rfl, rfl⟩ := rt2 hf
    exact x_iret X hr hk M dX10_rest_27
theorem c_X10_rest (l : Launch) (G : Gx) (N : Nat) (v0 : Nat) (v1 : Int32) (h : Mem) (r : Int32) (h' : Mem) (hf : f_X10_rest N v0 v1 h = some (r, h')) : MetG l G yX10_rest (.code yX10_rest cX10_rest 2 (Option.some Jvm.ClassFile.FieldType.int)) rm_X10_rest [.ref (gB G + v0), .int v1] h (QcI G r h') 0 0 :=
  x_met (by decide) rfl (Nat.le_of_ble_eq_true rfl) (fun p e s m args below meth c ls X M hr hk hin hl => w_X10_rest X hr hk N v0 v1 h hf _ _ ls M hl)
abbrev rm_X10_broken : Room := { frames := 16, cells := 0, slots := 0, locals := 392 }
def f_X10_broken (N : Nat) (v0 : Nat) (v1 : Int32) (h : Mem) : Option (Int32 × Mem) :=
  (ck h v0 10).bind fun _ =>
  b2 (f_X10_in N v0 v1 (1 : Int32) (5 : Int32) h) fun t4 h3 =>
  if t4 = 0 then
    some ((-1 : Int32), h3)
  else
    (ck h3 v0 10).bind fun _ =>
    b2 (f_X10_breakOf N v0 v1 h3) fun t9 h8 =>
    some (t9, h8)
set_option maxRecDepth 100000 in
set_option maxHeartbeats 4000000 in
theorem w_X10_broken {p : Program} {l : Launch} {e : Env} {s : State} {m : MethodId} {args : Array Value} {below : List Frame} {meth : Method} {c : Code} {G : Gx} {r : Int32} {h' : Mem} (X : CX G p s m args c cX10_broken 2 RX10) (hr : meth.sig.returnType = (Option.some Jvm.ClassFile.FieldType.int)) (hk : meth.locks = false) (N : Nat) : ∀ (v0 : Nat) (v1 : Int32) (h : Mem), f_X10_broken N v0 v1 h = some (r, h') → ∀ (H : Heap) (locs : List Loc) (ls : Array Slot), MS G s h H locs 0 → lv_has ls 2 [(0, .ref (gB G + v0)), (1, .int v1)] → W p l e (rm_X10_broken) s m args below meth c H locs 0 0 (QI G below args s r h' 0 0) (F0 m 0 ls []) := by
  intro v0 v1 h hf H locs ls M hl
  rw [f_X10_broken] at hf
  refine lv_aload_n X.1 X.2.1 dX10_broken_0 rfl (lv_at hl 0 rfl) ?_
  refine lv_iload_n X.1 X.2.1 dX10_broken_1 rfl (lv_at hl 1 rfl) ?_
  refine lv_iconst (v := (1 : Int32)) X.1 X.2.1 dX10_broken_2 (by decide) ?_
  refine lv_iconst (v := (5 : Int32)) X.1 X.2.1 dX10_broken_3 (by decide) ?_
  obtain ⟨⟨⟩, q1, hf⟩ := bnd hf
  obtain ⟨t4, h3, q2, hf⟩ := bnd2 hf
  refine x_callVi (As := [.int v1, .int (1 : Int32), .int (5 : Int32)]) cf_X10_197 (c_X10_in l G N v0 v1 (1 : Int32) (5 : Int32) h _ _ q2) rfl ⟨rfl, rfl, Nat.le_of_ble_eq_true rfl, Nat.le_of_ble_eq_true rfl⟩ ⟨Nat.le_of_ble_eq_true rfl, Nat.le_of_ble_eq_true rfl⟩ X M (x_recv cls_X10 X M q1) rfl rfl hl.1 (Nat.le_of_ble_eq_true rfl) dX10_broken_4 (fun H locs M => ?_)
  refine lv_if_eq (tgt := 18) X.1 X.2.1 dX10_broken_7 (by decide) (fun c5 => ?_) (fun c5 => ?_)
  · have hf := ifp c5 hf
    refine lv_iconst (v := (-1 : Int32)) X.1 X.2.1 dX10_broken_18 (by decide) ?_
    obtain ⟨rfl, rfl⟩ := rt2 hf
    exact x_iret X hr hk M dX10_broken_19
  · have hf := ifn c5 hf
    refine lv_aload_n X.1 X.2.1 dX10_broken_10 rfl (lv_at hl 0 rfl) ?_
    refine lv_iload_n X.1 X.2.1 dX10_broken_11 rfl (lv_at hl 1 rfl) ?_
    obtain ⟨⟨⟩, q6, hf⟩ := bnd hf
    obtain ⟨t9, h8, q7, hf⟩ := bnd2 hf
    refine x_callVi (As := [.int v1]) cf_X10_332 (c_X10_breakOf l G N v0 v1 h3 _ _ q7) rfl ⟨rfl, rfl, Nat.le_of_ble_eq_true rfl, Nat.le_of_ble_eq_true rfl⟩ ⟨Nat.le_of_ble_eq_true rfl, Nat.le_of_ble_eq_true rfl⟩ X M (x_recv cls_X10 X M q6) rfl rfl hl.1 (Nat.le_of_ble_eq_true rfl) dX10_broken_12 (fun H locs M => ?_)
    refine lv_goto (tgt := 19) X.1 X.2.1 dX10_broken_15 (by decide) ?_
    obtain ⟨rfl, rfl⟩ := rt2 hf
    exact x_iret X hr hk M dX10_broken_19
theorem c_X10_broken (l : Launch) (G : Gx) (N : Nat) (v0 : Nat) (v1 : Int32) (h : Mem) (r : Int32) (h' : Mem) (hf : f_X10_broken N v0 v1 h = some (r, h')) : MetG l G yX10_broken (.code yX10_broken cX10_broken 2 (Option.some Jvm.ClassFile.FieldType.int)) rm_X10_broken [.ref (gB G + v0), .int v1] h (QcI G r h') 0 0 :=
  x_met (by decide) rfl (Nat.le_of_ble_eq_true rfl) (fun p e s m args below meth c ls X M hr hk hin hl => w_X10_broken X hr hk N v0 v1 h hf _ _ ls M hl)
abbrev rm_X10_go : Room := { frames := 4, cells := 0, slots := 0, locals := 106 }
def f_X10_go (N : Nat) (v0 : Nat) (v1 : Int32) (v2 : Int32) (h : Mem) : Option (Int32 × Mem) :=
  (ck h v0 10).bind fun _ =>
  b2 (f_X10_isFamily N v0 v1 h) fun t4 h3 =>
  if t4 = 0 then
    some ((-1 : Int32), h3)
  else
    (ck h3 v0 10).bind fun _ =>
    b2 (f_X10_isTown N v0 v2 h3) fun t9 h8 =>
    if t9 = 0 then
      some ((-1 : Int32), h8)
    else
      (ck h8 v0 10).bind fun _ =>
      b2 (f_X10_canGo N v0 v1 v2 h8) fun t14 h13 =>
      if t14 = 0 then
        some ((-3 : Int32), h13)
      else
        (gR h13 v0 10 10).bind fun t16 =>
        (lI 100 h13 t16 v1).bind fun t18 =>
        (gR h13 v0 10 10).bind fun t20 =>
        (stI 100 h13 t20 v1 v2).bind fun h22 =>
        some (t18, h22)
set_option maxRecDepth 100000 in
set_option maxHeartbeats 4000000 in
theorem w_X10_go {p : Program} {l : Launch} {e : Env} {s : State} {m : MethodId} {args : Array Value} {below : List Frame} {meth : Method} {c : Code} {G : Gx} {r : Int32} {h' : Mem} (X : CX G p s m args c cX10_go 4 RX10) (hr : meth.sig.returnType = (Option.some Jvm.ClassFile.FieldType.int)) (hk : meth.locks = false) (N : Nat) : ∀ (v0 : Nat) (v1 : Int32) (v2 : Int32) (h : Mem), f_X10_go N v0 v1 v2 h = some (r, h') → ∀ (H : Heap) (locs : List Loc) (ls : Array Slot), MS G s h H locs 0 → lv_has ls 4 [(0, .ref (gB G + v0)), (1, .int v1), (2, .int v2)] → W p l e (rm_X10_go) s m args below meth c H locs 0 0 (QI G below args s r h' 0 0) (F0 m 0 ls []) := by
  intro v0 v1 v2 h hf H locs ls M hl
  rw [f_X10_go] at hf
  refine lv_aload_n X.1 X.2.1 dX10_go_0 rfl (lv_at hl 0 rfl) ?_
  refine lv_iload_n X.1 X.2.1 dX10_go_1 rfl (lv_at hl 1 rfl) ?_
  obtain ⟨⟨⟩, q1, hf⟩ := bnd hf
  obtain ⟨t4, h3, q2, hf⟩ := bnd2 hf
  refine x_callVi (As := [.int v1]) cf_X10_216 (c_X10_isFamily l G N v0 v1 h _ _ q2) rfl ⟨rfl, rfl, Nat.le_of_ble_eq_true rfl, Nat.le_of_ble_eq_true rfl⟩ ⟨Nat.le_of_ble_eq_true rfl, Nat.le_of_ble_eq_true rfl⟩ X M (x_recv cls_X10 X M q1) rfl rfl hl.1 (Nat.le_of_ble_eq_true rfl) dX10_go_2 (fun H locs M => ?_)
  refine lv_if_eq (tgt := 16) X.1 X.2.1 dX10_go_5 (by decide) (fun c5 => ?_) (fun c5 => ?_)
  · have hf := ifp c5 hf
    refine lv_iconst (v := (-1 : Int32)) X.1 X.2.1 dX10_go_16 (by decide) ?_
    obtain ⟨rfl, rfl⟩ := rt2 hf
    exact x_iret X hr hk M dX10_go_17
  · have hf := ifn c5 hf
    refine lv_aload_n X.1 X.2.1 dX10_go_8 rfl (lv_at hl 0 rfl) ?_
    refine lv_iload_n X.1 X.2.1 dX10_go_9 rfl (lv_at hl 2 rfl) ?_
    obtain ⟨⟨⟩, q6, hf⟩ := bnd hf
    obtain ⟨t9, h8, q7, hf⟩ := bnd2 hf
    refine x_callVi (As := [.int v2]) cf_X10_205 (c_X10_isTown l G N v0 v2 h3 _ _ q7) rfl ⟨rfl, rfl, Nat.le_of_ble_eq_true rfl, Nat.le_of_ble_eq_true rfl⟩ ⟨Nat.le_of_ble_eq_true rfl, Nat.le_of_ble_eq_true rfl⟩ X M (x_recv cls_X10 X M q6) rfl rfl hl.1 (Nat.le_of_ble_eq_true rfl) dX10_go_10 (fun H locs M => ?_)
    refine lv_if_ne (tgt := 18) X.1 X.2.1 dX10_go_13 (by decide) (fun c10 => ?_) (fun c10 => ?_)
    · have hf := ifn c10 hf
      refine lv_aload_n X.1 X.2.1 dX10_go_18 rfl (lv_at hl 0 rfl) ?_
      refine lv_iload_n X.1 X.2.1 dX10_go_19 rfl (lv_at hl 1 rfl) ?_
      refine lv_iload_n X.1 X.2.1 dX10_go_20 rfl (lv_at hl 2 rfl) ?_
      obtain ⟨⟨⟩, q11, hf⟩ := bnd hf
      obtain ⟨t14, h13, q12, hf⟩ := bnd2 hf
      refine x_callVi (As := [.int v1, .int v2]) cf_X10_308 (c_X10_canGo l G N v0 v1 v2 h8 _ _ q12) rfl ⟨rfl, rfl, Nat.le_of_ble_eq_true rfl, Nat.le_of_ble_eq_true rfl⟩ ⟨Nat.le_of_ble_eq_true rfl, Nat.le_of_ble_eq_true rfl⟩ X M (x_recv cls_X10 X M q11) rfl rfl hl.1 (Nat.le_of_ble_eq_true rfl) dX10_go_21 (fun H locs M => ?_)
      refine lv_if_ne (tgt := 30) X.1 X.2.1 dX10_go_24 (by decide) (fun c15 => ?_) (fun c15 => ?_)
      · have hf := ifn c15 hf
        refine lv_aload_n X.1 X.2.1 dX10_go_30 rfl (lv_at hl 0 rfl) ?_
        obtain ⟨t16, q17, hf⟩ := bnd hf
        refine x_getr fl_X10_41 X M q17 dX10_go_31 ?_
        refine lv_iload_n X.1 X.2.1 dX10_go_34 rfl (lv_at hl 1 rfl) ?_
        obtain ⟨t18, q19, hf⟩ := bnd hf
        refine x_iald X M q19 dX10_go_35 ?_
        refine lv_istore_n (lv' := [(3, .int t18), (0, .ref (gB G + v0)), (1, .int v1), (2, .int v2)]) X.1 X.2.1 dX10_go_36 rfl hl (by decide) rfl (fun ls hl => ?_)
        refine lv_aload_n X.1 X.2.1 dX10_go_37 rfl (lv_at hl 1 rfl) ?_
        obtain ⟨t20, q21, hf⟩ := bnd hf
        refine x_getr fl_X10_41 X M q21 dX10_go_38 ?_
        refine lv_iload_n X.1 X.2.1 dX10_go_41 rfl (lv_at hl 2 rfl) ?_
        refine lv_iload_n X.1 X.2.1 dX10_go_42 rfl (lv_at hl 3 rfl) ?_
        obtain ⟨h22, q23, hf⟩ := bnd hf
        refine x_iast X M q23 dX10_go_43 (fun H locs M => ?_)
        refine lv_iload_n X.1 X.2.1 dX10_go_44 rfl (lv_at hl 0 rfl) ?_
        obtain ⟨rfl, rfl⟩ := rt2 hf
        exact x_iret X hr hk M dX10_go_45
      · have hf := ifp c15 hf
        refine lv_bipush (v := (-3 : Int32)) X.1 X.2.1 dX10_go_27 (by decide) ?_
        obtain ⟨rfl, rfl⟩ := rt2 hf
        exact x_iret X hr hk M dX10_go_29
    · have hf := ifp c10 hf
      refine lv_iconst (v := (-1 : Int32)) X.1 X.2.1 dX10_go_16 (by decide) ?_
      obtain ⟨rfl, rfl⟩ := rt2 hf
      exact x_iret X hr hk M dX10_go_17
theorem c_X10_go (l : Launch) (G : Gx) (N : Nat) (v0 : Nat) (v1 : Int32) (v2 : Int32) (h : Mem) (r : Int32) (h' : Mem) (hf : f_X10_go N v0 v1 v2 h = some (r, h')) : MetG l G yX10_go (.code yX10_go cX10_go 4 (Option.some Jvm.ClassFile.FieldType.int)) rm_X10_go [.ref (gB G + v0), .int v1, .int v2] h (QcI G r h') 0 0 :=
  x_met (by decide) rfl (Nat.le_of_ble_eq_true rfl) (fun p e s m args below meth c ls X M hr hk hin hl => w_X10_go X hr hk N v0 v1 v2 h hf _ _ ls M hl)
abbrev rm_X10_stepOnce : Room := { frames := 14, cells := 0, slots := 0, locals := 342 }
def f_X10_stepOnce_36 (N : Nat) (n : Nat) (v0 : Nat) (v1 : Int32) (v2 : Int32) (v3 : Int32) (v4 : Int64) (v6 : Int32) (v7 : Int32) (h : Mem) (k5 : Nat → Int32 → Int32 → Int32 → Mem → Option (Int32 × Mem)) : Option (Int32 × Mem) := match n with
  | 0 => none
  | n + 1 =>
    (gI h v0 10 0).bind fun t1 =>
    if t1 ≤ v7 then
      if 0 ≤ v6 then
        (gR h v0 10 10).bind fun t5 =>
        (stI 100 h t5 v3 v6).bind fun h7 =>
        k5 v0 v1 v3 (v3 + 1) h7
      else
        k5 v0 v1 v2 (v3 + 1) h
    else
      (ck h v0 10).bind fun _ =>
      b2 (f_X10_canGo N v0 v3 v7 h) fun t12 h11 =>
      if t12 = 0 then
        f_X10_stepOnce_36 N n v0 v1 v2 v3 v4 v6 (v7 + 1) h11 k5
      else
        (ck h11 v0 10).bind fun _ =>
        b2 (f_X10_worthOf N v0 v3 v7 h11) fun t17 h16 =>
        if 0 < (lg_cmp t17 v4) then
          (ck h16 v0 10).bind fun _ =>
          b2 (f_X10_worthOf N v0 v3 v7 h16) fun t22 h21 =>
          f_X10_stepOnce_36 N n v0 v1 v2 v3 t22 v7 (v7 + 1) h21 k5
        else
          f_X10_stepOnce_36 N n v0 v1 v2 v3 v4 v6 (v7 + 1) h16 k5
set_option maxRecDepth 100000 in
set_option maxHeartbeats 4000000 in
theorem w_X10_stepOnce_36 {p : Program} {l : Launch} {e : Env} {s : State} {m : MethodId} {args : Array Value} {below : List Frame} {meth : Method} {c : Code} {G : Gx} {r : Int32} {h' : Mem} (X : CX G p s m args c cX10_stepOnce 8 RX10) (hr : meth.sig.returnType = (Option.some Jvm.ClassFile.FieldType.int)) (hk : meth.locks = false) (N : Nat) (k5 : Nat → Int32 → Int32 → Int32 → Mem → Option (Int32 × Mem)) (K5 : ∀ (v0 : Nat) (v1 : Int32) (v2 : Int32) (v3 : Int32) (h : Mem), k5 v0 v1 v2 v3 h = some (r, h') → ∀ (H : Heap) (locs : List Loc) (ls : Array Slot), MS G s h H locs 0 → lv_has ls 8 [(0, .ref (gB G + v0)), (1, .int v1), (2, .int v2), (3, .int v3)] → W p l e (rm_X10_stepOnce) s m args below meth c H locs 0 0 (QI G below args s r h' 0 0) (F0 m 5 ls [])) : ∀ (n : Nat) (v0 : Nat) (v1 : Int32) (v2 : Int32) (v3 : Int32) (v4 : Int64) (v6 : Int32) (v7 : Int32) (h : Mem), f_X10_stepOnce_36 N n v0 v1 v2 v3 v4 v6 v7 h k5 = some (r, h') → ∀ (H : Heap) (locs : List Loc) (ls : Array Slot), MS G s h H locs 0 → lv_has ls 8 [(0, .ref (gB G + v0)), (1, .int v1), (2, .int v2), (3, .int v3), (4, .long v4), (6, .int v6), (7, .int v7)] → W p l e (rm_X10_stepOnce) s m args below meth c H locs 0 0 (QI G below args s r h' 0 0) (F0 m 36 ls []) := by
  intro n
  induction n with
  | zero =>
    intro v0 v1 v2 v3 v4 v6 v7 h hf
    cases hf
  | succ n ih =>
    intro v0 v1 v2 v3 v4 v6 v7 h hf H locs ls M hl
    rw [f_X10_stepOnce_36] at hf
    refine lv_iload X.1 X.2.1 dX10_stepOnce_36 (lv_at hl 6 rfl) ?_
    refine lv_aload_n X.1 X.2.1 dX10_stepOnce_38 rfl (lv_at hl 0 rfl) ?_
    obtain ⟨t1, q2, hf⟩ := bnd hf
    refine x_geti fl_X10_7 X M q2 dX10_stepOnce_39 ?_
    refine lv_icmp_ge (tgt := 90) X.1 X.2.1 dX10_stepOnce_42 (by decide) (fun c3 => ?_) (fun c3 => ?_)
    · have hf := ifp c3 hf
      refine lv_iload X.1 X.2.1 dX10_stepOnce_90 (lv_at hl 5 rfl) ?_
      refine lv_if_ge (tgt := 98) X.1 X.2.1 dX10_stepOnce_92 (by decide) (fun c4 => ?_) (fun c4 => ?_)
      · have hf := ifp c4 hf
        refine lv_aload_n X.1 X.2.1 dX10_stepOnce_98 rfl (lv_at hl 0 rfl) ?_
        obtain ⟨t5, q6, hf⟩ := bnd hf
        refine x_getr fl_X10_41 X M q6 dX10_stepOnce_99 ?_
        refine lv_iload_n X.1 X.2.1 dX10_stepOnce_102 rfl (lv_at hl 3 rfl) ?_
        refine lv_iload X.1 X.2.1 dX10_stepOnce_103 (lv_at hl 5 rfl) ?_
        obtain ⟨h7, q8, hf⟩ := bnd hf
        refine x_iast X M q8 dX10_stepOnce_105 (fun H locs M => ?_)
        refine lv_iload_n X.1 X.2.1 dX10_stepOnce_106 rfl (lv_at hl 3 rfl) ?_
        refine lv_istore_n (lv' := [(2, .int v3), (0, .ref (gB G + v0)), (1, .int v1), (3, .int v3), (4, .long v4), (6, .int v6), (7, .int v7)]) X.1 X.2.1 dX10_stepOnce_107 rfl hl (by decide) rfl (fun ls hl => ?_)
        refine lv_iinc (v := (v3 + 1)) (lv' := [(3, .int (v3 + 1)), (2, .int v3), (0, .ref (gB G + v0)), (1, .int v1), (4, .long v4), (6, .int v6), (7, .int v7)]) X.1 X.2.1 dX10_stepOnce_108 hl (k := 3) rfl (by first | rfl | decide) (by decide) rfl (fun ls hl => ?_)
        refine lv_goto (tgt := 5) X.1 X.2.1 dX10_stepOnce_111 (by decide) ?_
        exact K5 v0 v1 v3 (v3 + 1) h7 hf _ _ _ M (lv_sub hl [2, 3, 1, 0] rfl)
      · have hf := ifn c4 hf
        refine lv_goto (tgt := 108) X.1 X.2.1 dX10_stepOnce_95 (by decide) ?_
        refine lv_iinc (v := (v3 + 1)) (lv' := [(3, .int (v3 + 1)), (0, .ref (gB G + v0)), (1, .int v1), (2, .int v2), (4, .long v4), (6, .int v6), (7, .int v7)]) X.1 X.2.1 dX10_stepOnce_108 hl (k := 3) rfl (by first | rfl | decide) (by decide) rfl (fun ls hl => ?_)
        refine lv_goto (tgt := 5) X.1 X.2.1 dX10_stepOnce_111 (by decide) ?_
        exact K5 v0 v1 v2 (v3 + 1) h hf _ _ _ M (lv_sub hl [1, 2, 3, 0] rfl)
    · have hf := ifn c3 hf
      refine lv_aload_n X.1 X.2.1 dX10_stepOnce_45 rfl (lv_at hl 0 rfl) ?_
      refine lv_iload_n X.1 X.2.1 dX10_stepOnce_46 rfl (lv_at hl 3 rfl) ?_
      refine lv_iload X.1 X.2.1 dX10_stepOnce_47 (lv_at hl 6 rfl) ?_
      obtain ⟨⟨⟩, q9, hf⟩ := bnd hf
      obtain ⟨t12, h11, q10, hf⟩ := bnd2 hf
      refine x_callVi (As := [.int v3, .int v7]) cf_X10_308 (c_X10_canGo l G N v0 v3 v7 h _ _ q10) rfl ⟨rfl, rfl, Nat.le_of_ble_eq_true rfl, Nat.le_of_ble_eq_true rfl⟩ ⟨Nat.le_of_ble_eq_true rfl, Nat.le_of_ble_eq_true rfl⟩ X M (x_recv cls_X10 X M q9) rfl rfl hl.1 (Nat.le_of_ble_eq_true rfl) dX10_stepOnce_49 (fun H locs M => ?_)
      refine lv_if_eq (tgt := 84) X.1 X.2.1 dX10_stepOnce_52 (by decide) (fun c13 => ?_) (fun c13 => ?_)
      · have hf := ifp c13 hf
        refine lv_iinc (v := (v7 + 1)) (lv' := [(7, .int (v7 + 1)), (0, .ref (gB G + v0)), (1, .int v1), (2, .int v2), (3, .int v3), (4, .long v4), (6, .int v6)]) X.1 X.2.1 dX10_stepOnce_84 hl (k := 6) rfl (by first | rfl | decide) (by decide) rfl (fun ls hl => ?_)
        refine lv_goto (tgt := 36) X.1 X.2.1 dX10_stepOnce_87 (by decide) ?_
        exact ih v0 v1 v2 v3 v4 v6 (v7 + 1) h11 hf _ _ _ M (lv_sub hl [1, 2, 3, 4, 5, 6, 0] rfl)
      · have hf := ifn c13 hf
        refine lv_aload_n X.1 X.2.1 dX10_stepOnce_55 rfl (lv_at hl 0 rfl) ?_
        refine lv_iload_n X.1 X.2.1 dX10_stepOnce_56 rfl (lv_at hl 3 rfl) ?_
        refine lv_iload X.1 X.2.1 dX10_stepOnce_57 (lv_at hl 6 rfl) ?_
        obtain ⟨⟨⟩, q14, hf⟩ := bnd hf
        obtain ⟨t17, h16, q15, hf⟩ := bnd2 hf
        refine x_callVl (As := [.int v3, .int v7]) cf_X10_225 (c_X10_worthOf l G N v0 v3 v7 h11 _ _ q15) rfl ⟨rfl, rfl, Nat.le_of_ble_eq_true rfl, Nat.le_of_ble_eq_true rfl⟩ ⟨Nat.le_of_ble_eq_true rfl, Nat.le_of_ble_eq_true rfl⟩ X M (x_recv cls_X10 X M q14) rfl rfl hl.1 (Nat.le_of_ble_eq_true rfl) dX10_stepOnce_59 (fun H locs M => ?_)
        refine lv_lload X.1 X.2.1 dX10_stepOnce_62 (lv_at hl 4 rfl) ?_
        refine W.lcmp X.1 X.2.1 dX10_stepOnce_64 ?_
        refine lv_if_gt (tgt := 71) X.1 X.2.1 dX10_stepOnce_65 (by decide) (fun c18 => ?_) (fun c18 => ?_)
        · have hf := ifp c18 hf
          refine lv_aload_n X.1 X.2.1 dX10_stepOnce_71 rfl (lv_at hl 0 rfl) ?_
          refine lv_iload_n X.1 X.2.1 dX10_stepOnce_72 rfl (lv_at hl 3 rfl) ?_
          refine lv_iload X.1 X.2.1 dX10_stepOnce_73 (lv_at hl 6 rfl) ?_
          obtain ⟨⟨⟩, q19, hf⟩ := bnd hf
          obtain ⟨t22, h21, q20, hf⟩ := bnd2 hf
          refine x_callVl (As := [.int v3, .int v7]) cf_X10_225 (c_X10_worthOf l G N v0 v3 v7 h16 _ _ q20) rfl ⟨rfl, rfl, Nat.le_of_ble_eq_true rfl, Nat.le_of_ble_eq_true rfl⟩ ⟨Nat.le_of_ble_eq_true rfl, Nat.le_of_ble_eq_true rfl⟩ X M (x_recv cls_X10 X M q19) rfl rfl hl.1 (Nat.le_of_ble_eq_true rfl) dX10_stepOnce_75 (fun H locs M => ?_)
          refine lv_lstore (lv' := [(4, .long t22), (0, .ref (gB G + v0)), (1, .int v1), (2, .int v2), (3, .int v3), (6, .int v6), (7, .int v7)]) X.1 X.2.1 dX10_stepOnce_78 hl (by decide) rfl (fun ls hl => ?_)
          refine lv_iload X.1 X.2.1 dX10_stepOnce_80 (lv_at hl 6 rfl) ?_
          refine lv_istore (lv' := [(6, .int v7), (4, .long t22), (0, .ref (gB G + v0)), (1, .int v1), (2, .int v2), (3, .int v3), (7, .int v7)]) X.1 X.2.1 dX10_stepOnce_82 hl (by decide) rfl (fun ls hl => ?_)
          refine lv_iinc (v := (v7 + 1)) (lv' := [(7, .int (v7 + 1)), (6, .int v7), (4, .long t22), (0, .ref (gB G + v0)), (1, .int v1), (2, .int v2), (3, .int v3)]) X.1 X.2.1 dX10_stepOnce_84 hl (k := 6) rfl (by first | rfl | decide) (by decide) rfl (fun ls hl => ?_)
          refine lv_goto (tgt := 36) X.1 X.2.1 dX10_stepOnce_87 (by decide) ?_
          exact ih v0 v1 v2 v3 t22 v7 (v7 + 1) h21 hf _ _ _ M (lv_sub hl [3, 4, 5, 6, 2, 1, 0] rfl)
        · have hf := ifn c18 hf
          refine lv_goto (tgt := 84) X.1 X.2.1 dX10_stepOnce_68 (by decide) ?_
          refine lv_iinc (v := (v7 + 1)) (lv' := [(7, .int (v7 + 1)), (0, .ref (gB G + v0)), (1, .int v1), (2, .int v2), (3, .int v3), (4, .long v4), (6, .int v6)]) X.1 X.2.1 dX10_stepOnce_84 hl (k := 6) rfl (by first | rfl | decide) (by decide) rfl (fun ls hl => ?_)
          refine lv_goto (tgt := 36) X.1 X.2.1 dX10_stepOnce_87 (by decide) ?_
          exact ih v0 v1 v2 v3 v4 v6 (v7 + 1) h16 hf _ _ _ M (lv_sub hl [1, 2, 3, 4, 5, 6, 0] rfl)
def f_X10_stepOnce_155 (N : Nat) (v2 : Int32) (h : Mem) : Option (Int32 × Mem) :=
  some (v2, h)
set_option maxRecDepth 100000 in
set_option maxHeartbeats 4000000 in
theorem w_X10_stepOnce_155 {p : Program} {l : Launch} {e : Env} {s : State} {m : MethodId} {args : Array Value} {below : List Frame} {meth : Method} {c : Code} {G : Gx} {r : Int32} {h' : Mem} (X : CX G p s m args c cX10_stepOnce 8 RX10) (hr : meth.sig.returnType = (Option.some Jvm.ClassFile.FieldType.int)) (hk : meth.locks = false) (N : Nat) : ∀ (v2 : Int32) (h : Mem), f_X10_stepOnce_155 N v2 h = some (r, h') → ∀ (H : Heap) (locs : List Loc) (ls : Array Slot), MS G s h H locs 0 → lv_has ls 8 [(2, .int v2)] → W p l e (rm_X10_stepOnce) s m args below meth c H locs 0 0 (QI G below args s r h' 0 0) (F0 m 155 ls []) := by
  intro v2 h hf H locs ls M hl
  rw [f_X10_stepOnce_155] at hf
  refine lv_iload_n X.1 X.2.1 dX10_stepOnce_155 rfl (lv_at hl 0 rfl) ?_
  refine lv_goto (tgt := 161) X.1 X.2.1 dX10_stepOnce_156 (by decide) ?_
  obtain ⟨rfl, rfl⟩ := rt2 hf
  exact x_iret X hr hk M dX10_stepOnce_161
def f_X10_stepOnce_147 (N : Nat) (v2 : Int32) (v3 : Int32) (h : Mem) : Option (Int32 × Mem) :=
  if 0 ≤ v2 then
    f_X10_stepOnce_155 N v2 h
  else
    if v3 ≤ 0 then
      some ((-6 : Int32), h)
    else
      f_X10_stepOnce_155 N v2 h
set_option maxRecDepth 100000 in
set_option maxHeartbeats 4000000 in
theorem w_X10_stepOnce_147 {p : Program} {l : Launch} {e : Env} {s : State} {m : MethodId} {args : Array Value} {below : List Frame} {meth : Method} {c : Code} {G : Gx} {r : Int32} {h' : Mem} (X : CX G p s m args c cX10_stepOnce 8 RX10) (hr : meth.sig.returnType = (Option.some Jvm.ClassFile.FieldType.int)) (hk : meth.locks = false) (N : Nat) : ∀ (v2 : Int32) (v3 : Int32) (h : Mem), f_X10_stepOnce_147 N v2 v3 h = some (r, h') → ∀ (H : Heap) (locs : List Loc) (ls : Array Slot), MS G s h H locs 0 → lv_has ls 8 [(2, .int v2), (3, .int v3)] → W p l e (rm_X10_stepOnce) s m args below meth c H locs 0 0 (QI G below args s r h' 0 0) (F0 m 147 ls []) := by
  intro v2 v3 h hf H locs ls M hl
  rw [f_X10_stepOnce_147] at hf
  refine lv_iload_n X.1 X.2.1 dX10_stepOnce_147 rfl (lv_at hl 0 rfl) ?_
  refine lv_if_ge (tgt := 155) X.1 X.2.1 dX10_stepOnce_148 (by decide) (fun c1 => ?_) (fun c1 => ?_)
  · have hf := ifp c1 hf
    exact w_X10_stepOnce_155 X hr hk N v2 h hf _ _ _ M (lv_sub hl [0] rfl)
  · have hf := ifn c1 hf
    refine lv_iload_n X.1 X.2.1 dX10_stepOnce_151 rfl (lv_at hl 1 rfl) ?_
    refine lv_if_le (tgt := 159) X.1 X.2.1 dX10_stepOnce_152 (by decide) (fun c2 => ?_) (fun c2 => ?_)
    · have hf := ifp c2 hf
      refine lv_bipush (v := (-6 : Int32)) X.1 X.2.1 dX10_stepOnce_159 (by decide) ?_
      obtain ⟨rfl, rfl⟩ := rt2 hf
      exact x_iret X hr hk M dX10_stepOnce_161
    · have hf := ifn c2 hf
      exact w_X10_stepOnce_155 X hr hk N v2 h hf _ _ _ M (lv_sub hl [0] rfl)
def f_X10_stepOnce_119 (N : Nat) (n : Nat) (v0 : Nat) (v1 : Int32) (v2 : Int32) (v3 : Int32) (v4 : Int32) (h : Mem) : Option (Int32 × Mem) := match n with
  | 0 => none
  | n + 1 =>
    (gI h v0 10 0).bind fun t1 =>
    if t1 ≤ v4 then
      f_X10_stepOnce_147 N v2 v3 h
    else
      if v1 = 0 then
        f_X10_stepOnce_147 N v2 v3 h
      else
        (ck h v0 10).bind fun _ =>
        b2 (f_X10_chooses N v0 v4 h) fun t8 h7 =>
        f_X10_stepOnce_119 N n v0 v1 v2 (v3 + t8) (v4 + 1) h7
set_option maxRecDepth 100000 in
set_option maxHeartbeats 4000000 in
theorem w_X10_stepOnce_119 {p : Program} {l : Launch} {e : Env} {s : State} {m : MethodId} {args : Array Value} {below : List Frame} {meth : Method} {c : Code} {G : Gx} {r : Int32} {h' : Mem} (X : CX G p s m args c cX10_stepOnce 8 RX10) (hr : meth.sig.returnType = (Option.some Jvm.ClassFile.FieldType.int)) (hk : meth.locks = false) (N : Nat) : ∀ (n : Nat) (v0 : Nat) (v1 : Int32) (v2 : Int32) (v3 : Int32) (v4 : Int32) (h : Mem), f_X10_stepOnce_119 N n v0 v1 v2 v3 v4 h = some (r, h') → ∀ (H : Heap) (locs : List Loc) (ls : Array Slot), MS G s h H locs 0 → lv_has ls 8 [(0, .ref (gB G + v0)), (1, .int v1), (2, .int v2), (3, .int v3), (4, .int v4)] → W p l e (rm_X10_stepOnce) s m args below meth c H locs 0 0 (QI G below args s r h' 0 0) (F0 m 119 ls []) := by
  intro n
  induction n with
  | zero =>
    intro v0 v1 v2 v3 v4 h hf
    cases hf
  | succ n ih =>
    intro v0 v1 v2 v3 v4 h hf H locs ls M hl
    rw [f_X10_stepOnce_119] at hf
    refine lv_iload X.1 X.2.1 dX10_stepOnce_119 (lv_at hl 4 rfl) ?_
    refine lv_aload_n X.1 X.2.1 dX10_stepOnce_121 rfl (lv_at hl 0 rfl) ?_
    obtain ⟨t1, q2, hf⟩ := bnd hf
    refine x_geti fl_X10_7 X M q2 dX10_stepOnce_122 ?_
    refine lv_icmp_ge (tgt := 147) X.1 X.2.1 dX10_stepOnce_125 (by decide) (fun c3 => ?_) (fun c3 => ?_)
    · have hf := ifp c3 hf
      exact w_X10_stepOnce_147 X hr hk N v2 v3 h hf _ _ _ M (lv_sub hl [2, 3] rfl)
    · have hf := ifn c3 hf
      refine lv_iload_n X.1 X.2.1 dX10_stepOnce_128 rfl (lv_at hl 1 rfl) ?_
      refine lv_if_eq (tgt := 147) X.1 X.2.1 dX10_stepOnce_129 (by decide) (fun c4 => ?_) (fun c4 => ?_)
      · have hf := ifp c4 hf
        exact w_X10_stepOnce_147 X hr hk N v2 v3 h hf _ _ _ M (lv_sub hl [2, 3] rfl)
      · have hf := ifn c4 hf
        refine lv_iload_n X.1 X.2.1 dX10_stepOnce_132 rfl (lv_at hl 3 rfl) ?_
        refine lv_aload_n X.1 X.2.1 dX10_stepOnce_133 rfl (lv_at hl 0 rfl) ?_
        refine lv_iload X.1 X.2.1 dX10_stepOnce_134 (lv_at hl 4 rfl) ?_
        obtain ⟨⟨⟩, q5, hf⟩ := bnd hf
        obtain ⟨t8, h7, q6, hf⟩ := bnd2 hf
        refine x_callVi (As := [.int v4]) cf_X10_302 (c_X10_chooses l G N v0 v4 h _ _ q6) rfl ⟨rfl, rfl, Nat.le_of_ble_eq_true rfl, Nat.le_of_ble_eq_true rfl⟩ ⟨Nat.le_of_ble_eq_true rfl, Nat.le_of_ble_eq_true rfl⟩ X M (x_recv cls_X10 X M q5) rfl rfl hl.1 (Nat.le_of_ble_eq_true rfl) dX10_stepOnce_136 (fun H locs M => ?_)
        refine lv_iadd X.1 X.2.1 dX10_stepOnce_139 ?_
        refine lv_istore_n (lv' := [(3, .int (v3 + t8)), (0, .ref (gB G + v0)), (1, .int v1), (2, .int v2), (4, .int v4)]) X.1 X.2.1 dX10_stepOnce_140 rfl hl (by decide) rfl (fun ls hl => ?_)
        refine lv_iinc (v := (v4 + 1)) (lv' := [(4, .int (v4 + 1)), (3, .int (v3 + t8)), (0, .ref (gB G + v0)), (1, .int v1), (2, .int v2)]) X.1 X.2.1 dX10_stepOnce_141 hl (k := 4) rfl (by first | rfl | decide) (by decide) rfl (fun ls hl => ?_)
        refine lv_goto (tgt := 119) X.1 X.2.1 dX10_stepOnce_144 (by decide) ?_
        exact ih v0 v1 v2 (v3 + t8) (v4 + 1) h7 hf _ _ _ M (lv_sub hl [2, 3, 4, 1, 0] rfl)
def f_X10_stepOnce_114 (N : Nat) (v0 : Nat) (v1 : Int32) (v2 : Int32) (h : Mem) : Option (Int32 × Mem) :=
  f_X10_stepOnce_119 N N v0 v1 v2 (0 : Int32) (0 : Int32) h
set_option maxRecDepth 100000 in
set_option maxHeartbeats 4000000 in
theorem w_X10_stepOnce_114 {p : Program} {l : Launch} {e : Env} {s : State} {m : MethodId} {args : Array Value} {below : List Frame} {meth : Method} {c : Code} {G : Gx} {r : Int32} {h' : Mem} (X : CX G p s m args c cX10_stepOnce 8 RX10) (hr : meth.sig.returnType = (Option.some Jvm.ClassFile.FieldType.int)) (hk : meth.locks = false) (N : Nat) : ∀ (v0 : Nat) (v1 : Int32) (v2 : Int32) (h : Mem), f_X10_stepOnce_114 N v0 v1 v2 h = some (r, h') → ∀ (H : Heap) (locs : List Loc) (ls : Array Slot), MS G s h H locs 0 → lv_has ls 8 [(0, .ref (gB G + v0)), (1, .int v1), (2, .int v2)] → W p l e (rm_X10_stepOnce) s m args below meth c H locs 0 0 (QI G below args s r h' 0 0) (F0 m 114 ls []) := by
  intro v0 v1 v2 h hf H locs ls M hl
  rw [f_X10_stepOnce_114] at hf
  refine lv_iconst (v := (0 : Int32)) X.1 X.2.1 dX10_stepOnce_114 (by decide) ?_
  refine lv_istore_n (lv' := [(3, .int (0 : Int32)), (0, .ref (gB G + v0)), (1, .int v1), (2, .int v2)]) X.1 X.2.1 dX10_stepOnce_115 rfl hl (by decide) rfl (fun ls hl => ?_)
  refine lv_iconst (v := (0 : Int32)) X.1 X.2.1 dX10_stepOnce_116 (by decide) ?_
  refine lv_istore (lv' := [(4, .int (0 : Int32)), (3, .int (0 : Int32)), (0, .ref (gB G + v0)), (1, .int v1), (2, .int v2)]) X.1 X.2.1 dX10_stepOnce_117 hl (by decide) rfl (fun ls hl => ?_)
  exact w_X10_stepOnce_119 X hr hk N N v0 v1 v2 (0 : Int32) (0 : Int32) h hf _ _ _ M (lv_sub hl [2, 3, 4, 1, 0] rfl)
def f_X10_stepOnce_5 (N : Nat) (n : Nat) (v0 : Nat) (v1 : Int32) (v2 : Int32) (v3 : Int32) (h : Mem) : Option (Int32 × Mem) := match n with
  | 0 => none
  | n + 1 =>
    (gI h v0 10 1).bind fun t1 =>
    if t1 ≤ v3 then
      f_X10_stepOnce_114 N v0 v1 v2 h
    else
      if 0 ≤ v2 then
        f_X10_stepOnce_114 N v0 v1 v2 h
      else
        (gR h v0 10 10).bind fun t5 =>
        (lI 100 h t5 v3).bind fun t7 =>
        (ck h v0 10).bind fun _ =>
        b2 (f_X10_worthOf N v0 v3 t7 h) fun t12 h11 =>
        f_X10_stepOnce_36 N N v0 v1 v2 v3 t12 (-1 : Int32) (0 : Int32) h11 (fun v0 v1 v2 v3 h => f_X10_stepOnce_5 N n v0 v1 v2 v3 h)
set_option maxRecDepth 100000 in
set_option maxHeartbeats 4000000 in
theorem w_X10_stepOnce_5 {p : Program} {l : Launch} {e : Env} {s : State} {m : MethodId} {args : Array Value} {below : List Frame} {meth : Method} {c : Code} {G : Gx} {r : Int32} {h' : Mem} (X : CX G p s m args c cX10_stepOnce 8 RX10) (hr : meth.sig.returnType = (Option.some Jvm.ClassFile.FieldType.int)) (hk : meth.locks = false) (N : Nat) : ∀ (n : Nat) (v0 : Nat) (v1 : Int32) (v2 : Int32) (v3 : Int32) (h : Mem), f_X10_stepOnce_5 N n v0 v1 v2 v3 h = some (r, h') → ∀ (H : Heap) (locs : List Loc) (ls : Array Slot), MS G s h H locs 0 → lv_has ls 8 [(0, .ref (gB G + v0)), (1, .int v1), (2, .int v2), (3, .int v3)] → W p l e (rm_X10_stepOnce) s m args below meth c H locs 0 0 (QI G below args s r h' 0 0) (F0 m 5 ls []) := by
  intro n
  induction n with
  | zero =>
    intro v0 v1 v2 v3 h hf
    cases hf
  | succ n ih =>
    intro v0 v1 v2 v3 h hf H locs ls M hl
    rw [f_X10_stepOnce_5] at hf
    refine lv_iload_n X.1 X.2.1 dX10_stepOnce_5 rfl (lv_at hl 3 rfl) ?_
    refine lv_aload_n X.1 X.2.1 dX10_stepOnce_6 rfl (lv_at hl 0 rfl) ?_
    obtain ⟨t1, q2, hf⟩ := bnd hf
    refine x_geti fl_X10_13 X M q2 dX10_stepOnce_7 ?_
    refine lv_icmp_ge (tgt := 114) X.1 X.2.1 dX10_stepOnce_10 (by decide) (fun c3 => ?_) (fun c3 => ?_)
    · have hf := ifp c3 hf
      exact w_X10_stepOnce_114 X hr hk N v0 v1 v2 h hf _ _ _ M (lv_sub hl [0, 1, 2] rfl)
    · have hf := ifn c3 hf
      refine lv_iload_n X.1 X.2.1 dX10_stepOnce_13 rfl (lv_at hl 2 rfl) ?_
      refine lv_if_ge (tgt := 114) X.1 X.2.1 dX10_stepOnce_14 (by decide) (fun c4 => ?_) (fun c4 => ?_)
      · have hf := ifp c4 hf
        exact w_X10_stepOnce_114 X hr hk N v0 v1 v2 h hf _ _ _ M (lv_sub hl [0, 1, 2] rfl)
      · have hf := ifn c4 hf
        refine lv_aload_n X.1 X.2.1 dX10_stepOnce_17 rfl (lv_at hl 0 rfl) ?_
        refine lv_iload_n X.1 X.2.1 dX10_stepOnce_18 rfl (lv_at hl 3 rfl) ?_
        refine lv_aload_n X.1 X.2.1 dX10_stepOnce_19 rfl (lv_at hl 0 rfl) ?_
        obtain ⟨t5, q6, hf⟩ := bnd hf
        refine x_getr fl_X10_41 X M q6 dX10_stepOnce_20 ?_
        refine lv_iload_n X.1 X.2.1 dX10_stepOnce_23 rfl (lv_at hl 3 rfl) ?_
        obtain ⟨t7, q8, hf⟩ := bnd hf
        refine x_iald X M q8 dX10_stepOnce_24 ?_
        obtain ⟨⟨⟩, q9, hf⟩ := bnd hf
        obtain ⟨t12, h11, q10, hf⟩ := bnd2 hf
        refine x_callVl (As := [.int v3, .int t7]) cf_X10_225 (c_X10_worthOf l G N v0 v3 t7 h _ _ q10) rfl ⟨rfl, rfl, Nat.le_of_ble_eq_true rfl, Nat.le_of_ble_eq_true rfl⟩ ⟨Nat.le_of_ble_eq_true rfl, Nat.le_of_ble_eq_true rfl⟩ X M (x_recv cls_X10 X M q9) rfl rfl hl.1 (Nat.le_of_ble_eq_true rfl) dX10_stepOnce_25 (fun H locs M => ?_)
        refine lv_lstore (lv' := [(4, .long t12), (0, .ref (gB G + v0)), (1, .int v1), (2, .int v2), (3, .int v3)]) X.1 X.2.1 dX10_stepOnce_28 hl (by decide) rfl (fun ls hl => ?_)
        refine lv_iconst (v := (-1 : Int32)) X.1 X.2.1 dX10_stepOnce_30 (by decide) ?_
        refine lv_istore (lv' := [(6, .int (-1 : Int32)), (4, .long t12), (0, .ref (gB G + v0)), (1, .int v1), (2, .int v2), (3, .int v3)]) X.1 X.2.1 dX10_stepOnce_31 hl (by decide) rfl (fun ls hl => ?_)
        refine lv_iconst (v := (0 : Int32)) X.1 X.2.1 dX10_stepOnce_33 (by decide) ?_
        refine lv_istore (lv' := [(7, .int (0 : Int32)), (6, .int (-1 : Int32)), (4, .long t12), (0, .ref (gB G + v0)), (1, .int v1), (2, .int v2), (3, .int v3)]) X.1 X.2.1 dX10_stepOnce_34 hl (by decide) rfl (fun ls hl => ?_)
        exact w_X10_stepOnce_36 X hr hk N _ (fun v0 v1 v2 v3 h hf H locs ls M hl => ih v0 v1 v2 v3 h hf H locs ls M hl) N v0 v1 v2 v3 t12 (-1 : Int32) (0 : Int32) h11 hf _ _ _ M (lv_sub hl [3, 4, 5, 6, 2, 1, 0] rfl)
def f_X10_stepOnce (N : Nat) (v0 : Nat) (v1 : Int32) (h : Mem) : Option (Int32 × Mem) :=
  f_X10_stepOnce_5 N N v0 v1 (-5 : Int32) (0 : Int32) h
set_option maxRecDepth 100000 in
set_option maxHeartbeats 4000000 in
theorem w_X10_stepOnce {p : Program} {l : Launch} {e : Env} {s : State} {m : MethodId} {args : Array Value} {below : List Frame} {meth : Method} {c : Code} {G : Gx} {r : Int32} {h' : Mem} (X : CX G p s m args c cX10_stepOnce 8 RX10) (hr : meth.sig.returnType = (Option.some Jvm.ClassFile.FieldType.int)) (hk : meth.locks = false) (N : Nat) : ∀ (v0 : Nat) (v1 : Int32) (h : Mem), f_X10_stepOnce N v0 v1 h = some (r, h') → ∀ (H : Heap) (locs : List Loc) (ls : Array Slot), MS G s h H locs 0 → lv_has ls 8 [(0, .ref (gB G + v0)), (1, .int v1)] → W p l e (rm_X10_stepOnce) s m args below meth c H locs 0 0 (QI G below args s r h' 0 0) (F0 m 0 ls []) := by
  intro v0 v1 h hf H locs ls M hl
  rw [f_X10_stepOnce] at hf
  refine lv_bipush (v := (-5 : Int32)) X.1 X.2.1 dX10_stepOnce_0 (by decide) ?_
  refine lv_istore_n (lv' := [(2, .int (-5 : Int32)), (0, .ref (gB G + v0)), (1, .int v1)]) X.1 X.2.1 dX10_stepOnce_2 rfl hl (by decide) rfl (fun ls hl => ?_)
  refine lv_iconst (v := (0 : Int32)) X.1 X.2.1 dX10_stepOnce_3 (by decide) ?_
  refine lv_istore_n (lv' := [(3, .int (0 : Int32)), (2, .int (-5 : Int32)), (0, .ref (gB G + v0)), (1, .int v1)]) X.1 X.2.1 dX10_stepOnce_4 rfl hl (by decide) rfl (fun ls hl => ?_)
  exact w_X10_stepOnce_5 X hr hk N N v0 v1 (-5 : Int32) (0 : Int32) h hf _ _ _ M (lv_sub hl [2, 3, 1, 0] rfl)
theorem c_X10_stepOnce (l : Launch) (G : Gx) (N : Nat) (v0 : Nat) (v1 : Int32) (h : Mem) (r : Int32) (h' : Mem) (hf : f_X10_stepOnce N v0 v1 h = some (r, h')) : MetG l G yX10_stepOnce (.code yX10_stepOnce cX10_stepOnce 8 (Option.some Jvm.ClassFile.FieldType.int)) rm_X10_stepOnce [.ref (gB G + v0), .int v1] h (QcI G r h') 0 0 :=
  x_met (by decide) rfl (Nat.le_of_ble_eq_true rfl) (fun p e s m args below meth c ls X M hr hk hin hl => w_X10_stepOnce X hr hk N v0 v1 h hf _ _ ls M hl)
abbrev rm_X10_step : Room := { frames := 15, cells := 0, slots := 0, locals := 369 }
def f_X10_step (N : Nat) (v0 : Nat) (v1 : Int32) (h : Mem) : Option (Int32 × Mem) :=
  (ck h v0 10).bind fun _ =>
  b2 (f_X10_stepOnce N v0 v1 h) fun t4 h3 =>
  some (t4, h3)
set_option maxRecDepth 100000 in
set_option maxHeartbeats 4000000 in
theorem w_X10_step {p : Program} {l : Launch} {e : Env} {s : State} {m : MethodId} {args : Array Value} {below : List Frame} {meth : Method} {c : Code} {G : Gx} {r : Int32} {h' : Mem} (X : CX G p s m args c cX10_step 2 RX10) (hr : meth.sig.returnType = (Option.some Jvm.ClassFile.FieldType.int)) (hk : meth.locks = false) (N : Nat) : ∀ (v0 : Nat) (v1 : Int32) (h : Mem), f_X10_step N v0 v1 h = some (r, h') → ∀ (H : Heap) (locs : List Loc) (ls : Array Slot), MS G s h H locs 0 → lv_has ls 2 [(0, .ref (gB G + v0)), (1, .int v1)] → W p l e (rm_X10_step) s m args below meth c H locs 0 0 (QI G below args s r h' 0 0) (F0 m 0 ls []) := by
  intro v0 v1 h hf H locs ls M hl
  rw [f_X10_step] at hf
  refine lv_aload_n X.1 X.2.1 dX10_step_0 rfl (lv_at hl 0 rfl) ?_
  refine lv_iload_n X.1 X.2.1 dX10_step_1 rfl (lv_at hl 1 rfl) ?_
  obtain ⟨⟨⟩, q1, hf⟩ := bnd hf
  obtain ⟨t4, h3, q2, hf⟩ := bnd2 hf
  refine x_callVi (As := [.int v1]) cf_X10_338 (c_X10_stepOnce l G N v0 v1 h _ _ q2) rfl ⟨rfl, rfl, Nat.le_of_ble_eq_true rfl, Nat.le_of_ble_eq_true rfl⟩ ⟨Nat.le_of_ble_eq_true rfl, Nat.le_of_ble_eq_true rfl⟩ X M (x_recv cls_X10 X M q1) rfl rfl hl.1 (Nat.le_of_ble_eq_true rfl) dX10_step_2 (fun H locs M => ?_)
  obtain ⟨rfl, rfl⟩ := rt2 hf
  exact x_iret X hr hk M dX10_step_5
theorem c_X10_step (l : Launch) (G : Gx) (N : Nat) (v0 : Nat) (v1 : Int32) (h : Mem) (r : Int32) (h' : Mem) (hf : f_X10_step N v0 v1 h = some (r, h')) : MetG l G yX10_step (.code yX10_step cX10_step 2 (Option.some Jvm.ClassFile.FieldType.int)) rm_X10_step [.ref (gB G + v0), .int v1] h (QcI G r h') 0 0 :=
  x_met (by decide) rfl (Nat.le_of_ble_eq_true rfl) (fun p e s m args below meth c ls X M hr hk hin hl => w_X10_step X hr hk N v0 v1 h hf _ _ ls M hl)
abbrev rm_X10_keepState : Room := { frames := 1, cells := 0, slots := 0, locals := 40 }
def f_X10_keepState_36 (N : Nat) (v0 : Nat) (v1 : Int32) (v2 : Int32) (s0 : Nat) (s1 : Int32) (s2 : Int32) (h : Mem) (k2 : Nat → Int32 → Int32 → Mem → Option Mem) : Option Mem :=
  (stI 100 h s0 s1 s2).bind fun h1 =>
  k2 v0 v1 (v2 + 1) h1
set_option maxRecDepth 100000 in
set_option maxHeartbeats 4000000 in
theorem w_X10_keepState_36 {p : Program} {l : Launch} {e : Env} {s : State} {m : MethodId} {args : Array Value} {below : List Frame} {meth : Method} {c : Code} {G : Gx} {h' : Mem} {L : Nat} (X : CX G p s m args c cX10_keepState 3 RX10) (hr : meth.sig.returnType = (Option.none : Option Jvm.ClassFile.FieldType)) (hk : meth.locks = false) (hL : s.heap.size + 0 = gB G + L) (N : Nat) (k2 : Nat → Int32 → Int32 → Mem → Option Mem) (K2 : ∀ (v0 : Nat) (v1 : Int32) (v2 : Int32) (h : Mem), k2 v0 v1 v2 h = some h' → ∀ (H : Heap) (locs : List Loc) (ls : Array Slot), MS G s h H locs 0 → lv_has ls 3 [(0, .ref (gB G + v0)), (1, .int v1), (2, .int v2)] → W p l e (rm_X10_keepState) s m args below meth c H locs 0 0 (QV G below args s h' L 0 0) (F0 m 2 ls [])) : ∀ (v0 : Nat) (v1 : Int32) (v2 : Int32) (s0 : Nat) (s1 : Int32) (s2 : Int32) (h : Mem), f_X10_keepState_36 N v0 v1 v2 s0 s1 s2 h k2 = some h' → ∀ (H : Heap) (locs : List Loc) (ls : Array Slot), MS G s h H locs 0 → lv_has ls 3 [(0, .ref (gB G + v0)), (1, .int v1), (2, .int v2)] → W p l e (rm_X10_keepState) s m args below meth c H locs 0 0 (QV G below args s h' L 0 0) (F0 m 36 ls [.int s2, .int s1, .ref (gB G + s0)]) := by
  intro v0 v1 v2 s0 s1 s2 h hf H locs ls M hl
  rw [f_X10_keepState_36] at hf
  obtain ⟨h1, q2, hf⟩ := bnd hf
  refine x_iast X M q2 dX10_keepState_36 (fun H locs M => ?_)
  refine lv_iinc (v := (v2 + 1)) (lv' := [(2, .int (v2 + 1)), (0, .ref (gB G + v0)), (1, .int v1)]) X.1 X.2.1 dX10_keepState_37 hl (k := 2) rfl (by first | rfl | decide) (by decide) rfl (fun ls hl => ?_)
  refine lv_goto (tgt := 2) X.1 X.2.1 dX10_keepState_40 (by decide) ?_
  exact K2 v0 v1 (v2 + 1) h1 hf _ _ _ M (lv_sub hl [1, 2, 0] rfl)
def f_X10_keepState_45 (N : Nat) (n : Nat) (v0 : Nat) (v1 : Int32) (v2 : Int32) (h : Mem) : Option Mem := match n with
  | 0 => none
  | n + 1 =>
    if (12 : Int32) ≤ v2 then
      some h
    else
      (gR h v0 10 45).bind fun t2 =>
      (gR h v0 10 4).bind fun t4 =>
      (lI 100 h t4 v2).bind fun t6 =>
      (stI 100 h t2 ((((20 : Int32) * v1) + (8 : Int32)) + v2) t6).bind fun h8 =>
      f_X10_keepState_45 N n v0 v1 (v2 + 1) h8
set_option maxRecDepth 100000 in
set_option maxHeartbeats 4000000 in
theorem w_X10_keepState_45 {p : Program} {l : Launch} {e : Env} {s : State} {m : MethodId} {args : Array Value} {below : List Frame} {meth : Method} {c : Code} {G : Gx} {h' : Mem} {L : Nat} (X : CX G p s m args c cX10_keepState 3 RX10) (hr : meth.sig.returnType = (Option.none : Option Jvm.ClassFile.FieldType)) (hk : meth.locks = false) (hL : s.heap.size + 0 = gB G + L) (N : Nat) : ∀ (n : Nat) (v0 : Nat) (v1 : Int32) (v2 : Int32) (h : Mem), f_X10_keepState_45 N n v0 v1 v2 h = some h' → ∀ (H : Heap) (locs : List Loc) (ls : Array Slot), MS G s h H locs 0 → lv_has ls 3 [(0, .ref (gB G + v0)), (1, .int v1), (2, .int v2)] → W p l e (rm_X10_keepState) s m args below meth c H locs 0 0 (QV G below args s h' L 0 0) (F0 m 45 ls []) := by
  intro n
  induction n with
  | zero =>
    intro v0 v1 v2 h hf
    cases hf
  | succ n ih =>
    intro v0 v1 v2 h hf H locs ls M hl
    rw [f_X10_keepState_45] at hf
    refine lv_iload_n X.1 X.2.1 dX10_keepState_45 rfl (lv_at hl 2 rfl) ?_
    refine lv_bipush (v := (12 : Int32)) X.1 X.2.1 dX10_keepState_46 (by decide) ?_
    refine lv_icmp_ge (tgt := 77) X.1 X.2.1 dX10_keepState_48 (by decide) (fun c1 => ?_) (fun c1 => ?_)
    · have hf := ifp c1 hf
      obtain rfl := rt1 hf
      exact x_vret X hr hk M hL dX10_keepState_77
    · have hf := ifn c1 hf
      refine lv_aload_n X.1 X.2.1 dX10_keepState_51 rfl (lv_at hl 0 rfl) ?_
      obtain ⟨t2, q3, hf⟩ := bnd hf
      refine x_getr fl_X10_149 X M q3 dX10_keepState_52 ?_
      refine lv_bipush (v := (20 : Int32)) X.1 X.2.1 dX10_keepState_55 (by decide) ?_
      refine lv_iload_n X.1 X.2.1 dX10_keepState_57 rfl (lv_at hl 1 rfl) ?_
      refine lv_imul X.1 X.2.1 dX10_keepState_58 ?_
      refine lv_bipush (v := (8 : Int32)) X.1 X.2.1 dX10_keepState_59 (by decide) ?_
      refine lv_iadd X.1 X.2.1 dX10_keepState_61 ?_
      refine lv_iload_n X.1 X.2.1 dX10_keepState_62 rfl (lv_at hl 2 rfl) ?_
      refine lv_iadd X.1 X.2.1 dX10_keepState_63 ?_
      refine lv_aload_n X.1 X.2.1 dX10_keepState_64 rfl (lv_at hl 0 rfl) ?_
      obtain ⟨t4, q5, hf⟩ := bnd hf
      refine x_getr fl_X10_23 X M q5 dX10_keepState_65 ?_
      refine lv_iload_n X.1 X.2.1 dX10_keepState_68 rfl (lv_at hl 2 rfl) ?_
      obtain ⟨t6, q7, hf⟩ := bnd hf
      refine x_iald X M q7 dX10_keepState_69 ?_
      obtain ⟨h8, q9, hf⟩ := bnd hf
      refine x_iast X M q9 dX10_keepState_70 (fun H locs M => ?_)
      refine lv_iinc (v := (v2 + 1)) (lv' := [(2, .int (v2 + 1)), (0, .ref (gB G + v0)), (1, .int v1)]) X.1 X.2.1 dX10_keepState_71 hl (k := 2) rfl (by first | rfl | decide) (by decide) rfl (fun ls hl => ?_)
      refine lv_goto (tgt := 45) X.1 X.2.1 dX10_keepState_74 (by decide) ?_
      exact ih v0 v1 (v2 + 1) h8 hf _ _ _ M (lv_sub hl [1, 2, 0] rfl)
def f_X10_keepState_2 (N : Nat) (n : Nat) (v0 : Nat) (v1 : Int32) (v2 : Int32) (h : Mem) : Option Mem := match n with
  | 0 => none
  | n + 1 =>
    if (8 : Int32) ≤ v2 then
      f_X10_keepState_45 N N v0 v1 (0 : Int32) h
    else
      (gR h v0 10 45).bind fun t2 =>
      (gI h v0 10 1).bind fun t4 =>
      if t4 ≤ v2 then
        f_X10_keepState_36 N v0 v1 v2 t2 (((20 : Int32) * v1) + v2) (0 : Int32) h (fun v0 v1 v2 h => f_X10_keepState_2 N n v0 v1 v2 h)
      else
        (gR h v0 10 10).bind fun t7 =>
        (lI 100 h t7 v2).bind fun t9 =>
        f_X10_keepState_36 N v0 v1 v2 t2 (((20 : Int32) * v1) + v2) t9 h (fun v0 v1 v2 h => f_X10_keepState_2 N n v0 v1 v2 h)
set_option maxRecDepth 100000 in
set_option maxHeartbeats 4000000 in
theorem w_X10_keepState_2 {p : Program} {l : Launch} {e : Env} {s : State} {m : MethodId} {args : Array Value} {below : List Frame} {meth : Method} {c : Code} {G : Gx} {h' : Mem} {L : Nat} (X : CX G p s m args c cX10_keepState 3 RX10) (hr : meth.sig.returnType = (Option.none : Option Jvm.ClassFile.FieldType)) (hk : meth.locks = false) (hL : s.heap.size + 0 = gB G + L) (N : Nat) : ∀ (n : Nat) (v0 : Nat) (v1 : Int32) (v2 : Int32) (h : Mem), f_X10_keepState_2 N n v0 v1 v2 h = some h' → ∀ (H : Heap) (locs : List Loc) (ls : Array Slot), MS G s h H locs 0 → lv_has ls 3 [(0, .ref (gB G + v0)), (1, .int v1), (2, .int v2)] → W p l e (rm_X10_keepState) s m args below meth c H locs 0 0 (QV G below args s h' L 0 0) (F0 m 2 ls []) := by
  intro n
  induction n with
  | zero =>
    intro v0 v1 v2 h hf
    cases hf
  | succ n ih =>
    intro v0 v1 v2 h hf H locs ls M hl
    rw [f_X10_keepState_2] at hf
    refine lv_iload_n X.1 X.2.1 dX10_keepState_2 rfl (lv_at hl 2 rfl) ?_
    refine lv_bipush (v := (8 : Int32)) X.1 X.2.1 dX10_keepState_3 (by decide) ?_
    refine lv_icmp_ge (tgt := 43) X.1 X.2.1 dX10_keepState_5 (by decide) (fun c1 => ?_) (fun c1 => ?_)
    · have hf := ifp c1 hf
      refine lv_iconst (v := (0 : Int32)) X.1 X.2.1 dX10_keepState_43 (by decide) ?_
      refine lv_istore_n (lv' := [(2, .int (0 : Int32)), (0, .ref (gB G + v0)), (1, .int v1)]) X.1 X.2.1 dX10_keepState_44 rfl hl (by decide) rfl (fun ls hl => ?_)
      exact w_X10_keepState_45 X hr hk hL N N v0 v1 (0 : Int32) h hf _ _ _ M (lv_sub hl [1, 2, 0] rfl)
    · have hf := ifn c1 hf
      refine lv_aload_n X.1 X.2.1 dX10_keepState_8 rfl (lv_at hl 0 rfl) ?_
      obtain ⟨t2, q3, hf⟩ := bnd hf
      refine x_getr fl_X10_149 X M q3 dX10_keepState_9 ?_
      refine lv_bipush (v := (20 : Int32)) X.1 X.2.1 dX10_keepState_12 (by decide) ?_
      refine lv_iload_n X.1 X.2.1 dX10_keepState_14 rfl (lv_at hl 1 rfl) ?_
      refine lv_imul X.1 X.2.1 dX10_keepState_15 ?_
      refine lv_iload_n X.1 X.2.1 dX10_keepState_16 rfl (lv_at hl 2 rfl) ?_
      refine lv_iadd X.1 X.2.1 dX10_keepState_17 ?_
      refine lv_iload_n X.1 X.2.1 dX10_keepState_18 rfl (lv_at hl 2 rfl) ?_
      refine lv_aload_n X.1 X.2.1 dX10_keepState_19 rfl (lv_at hl 0 rfl) ?_
      obtain ⟨t4, q5, hf⟩ := bnd hf
      refine x_geti fl_X10_13 X M q5 dX10_keepState_20 ?_
      refine lv_icmp_ge (tgt := 35) X.1 X.2.1 dX10_keepState_23 (by decide) (fun c6 => ?_) (fun c6 => ?_)
      · have hf := ifp c6 hf
        refine lv_iconst (v := (0 : Int32)) X.1 X.2.1 dX10_keepState_35 (by decide) ?_
        exact w_X10_keepState_36 X hr hk hL N _ (fun v0 v1 v2 h hf H locs ls M hl => ih v0 v1 v2 h hf H locs ls M hl) v0 v1 v2 t2 (((20 : Int32) * v1) + v2) (0 : Int32) h hf _ _ _ M (lv_sub hl [0, 1, 2] rfl)
      · have hf := ifn c6 hf
        refine lv_aload_n X.1 X.2.1 dX10_keepState_26 rfl (lv_at hl 0 rfl) ?_
        obtain ⟨t7, q8, hf⟩ := bnd hf
        refine x_getr fl_X10_41 X M q8 dX10_keepState_27 ?_
        refine lv_iload_n X.1 X.2.1 dX10_keepState_30 rfl (lv_at hl 2 rfl) ?_
        obtain ⟨t9, q10, hf⟩ := bnd hf
        refine x_iald X M q10 dX10_keepState_31 ?_
        refine lv_goto (tgt := 36) X.1 X.2.1 dX10_keepState_32 (by decide) ?_
        exact w_X10_keepState_36 X hr hk hL N _ (fun v0 v1 v2 h hf H locs ls M hl => ih v0 v1 v2 h hf H locs ls M hl) v0 v1 v2 t2 (((20 : Int32) * v1) + v2) t9 h hf _ _ _ M (lv_sub hl [0, 1, 2] rfl)
def f_X10_keepState (N : Nat) (v0 : Nat) (v1 : Int32) (h : Mem) : Option Mem :=
  f_X10_keepState_2 N N v0 v1 (0 : Int32) h
set_option maxRecDepth 100000 in
set_option maxHeartbeats 4000000 in
theorem w_X10_keepState {p : Program} {l : Launch} {e : Env} {s : State} {m : MethodId} {args : Array Value} {below : List Frame} {meth : Method} {c : Code} {G : Gx} {h' : Mem} {L : Nat} (X : CX G p s m args c cX10_keepState 3 RX10) (hr : meth.sig.returnType = (Option.none : Option Jvm.ClassFile.FieldType)) (hk : meth.locks = false) (hL : s.heap.size + 0 = gB G + L) (N : Nat) : ∀ (v0 : Nat) (v1 : Int32) (h : Mem), f_X10_keepState N v0 v1 h = some h' → ∀ (H : Heap) (locs : List Loc) (ls : Array Slot), MS G s h H locs 0 → lv_has ls 3 [(0, .ref (gB G + v0)), (1, .int v1)] → W p l e (rm_X10_keepState) s m args below meth c H locs 0 0 (QV G below args s h' L 0 0) (F0 m 0 ls []) := by
  intro v0 v1 h hf H locs ls M hl
  rw [f_X10_keepState] at hf
  refine lv_iconst (v := (0 : Int32)) X.1 X.2.1 dX10_keepState_0 (by decide) ?_
  refine lv_istore_n (lv' := [(2, .int (0 : Int32)), (0, .ref (gB G + v0)), (1, .int v1)]) X.1 X.2.1 dX10_keepState_1 rfl hl (by decide) rfl (fun ls hl => ?_)
  exact w_X10_keepState_2 X hr hk hL N N v0 v1 (0 : Int32) h hf _ _ _ M (lv_sub hl [1, 2, 0] rfl)
theorem c_X10_keepState (l : Launch) (G : Gx) (N : Nat) (v0 : Nat) (v1 : Int32) (h : Mem) (h' : Mem) (hf : f_X10_keepState N v0 v1 h = some h') : MetG l G yX10_keepState (.code yX10_keepState cX10_keepState 3 (Option.none : Option Jvm.ClassFile.FieldType)) rm_X10_keepState [.ref (gB G + v0), .int v1] h (QcV G h' (h.1.length + 0)) 0 0 :=
  x_met (by decide) rfl (Nat.le_of_ble_eq_true rfl) (fun p e s m args below meth c ls X M hr hk hin hl => w_X10_keepState X hr hk (by have := M.2.2; omega) N v0 v1 h hf _ _ ls M hl)
abbrev rm_X10_isState : Room := { frames := 1, cells := 0, slots := 0, locals := 40 }
def f_X10_isState_40 (N : Nat) (n : Nat) (v0 : Nat) (v1 : Int32) (v2 : Int32) (h : Mem) : Option (Int32 × Mem) := match n with
  | 0 => none
  | n + 1 =>
    if (12 : Int32) ≤ v2 then
      some ((1 : Int32), h)
    else
      (gR h v0 10 45).bind fun t2 =>
      (lI 100 h t2 ((((20 : Int32) * v1) + (8 : Int32)) + v2)).bind fun t4 =>
      (gR h v0 10 4).bind fun t6 =>
      (lI 100 h t6 v2).bind fun t8 =>
      if t4 = t8 then
        f_X10_isState_40 N n v0 v1 (v2 + 1) h
      else
        some ((0 : Int32), h)
set_option maxRecDepth 100000 in
set_option maxHeartbeats 4000000 in
theorem w_X10_isState_40 {p : Program} {l : Launch} {e : Env} {s : State} {m : MethodId} {args : Array Value} {below : List Frame} {meth : Method} {c : Code} {G : Gx} {r : Int32} {h' : Mem} (X : CX G p s m args c cX10_isState 3 RX10) (hr : meth.sig.returnType = (Option.some Jvm.ClassFile.FieldType.boolean)) (hk : meth.locks = false) (N : Nat) : ∀ (n : Nat) (v0 : Nat) (v1 : Int32) (v2 : Int32) (h : Mem), f_X10_isState_40 N n v0 v1 v2 h = some (r, h') → ∀ (H : Heap) (locs : List Loc) (ls : Array Slot), MS G s h H locs 0 → lv_has ls 3 [(0, .ref (gB G + v0)), (1, .int v1), (2, .int v2)] → W p l e (rm_X10_isState) s m args below meth c H locs 0 0 (QI G below args s r h' 0 0) (F0 m 40 ls []) := by
  intro n
  induction n with
  | zero =>
    intro v0 v1 v2 h hf
    cases hf
  | succ n ih =>
    intro v0 v1 v2 h hf H locs ls M hl
    rw [f_X10_isState_40] at hf
    refine lv_iload_n X.1 X.2.1 dX10_isState_40 rfl (lv_at hl 2 rfl) ?_
    refine lv_bipush (v := (12 : Int32)) X.1 X.2.1 dX10_isState_41 (by decide) ?_
    refine lv_icmp_ge (tgt := 77) X.1 X.2.1 dX10_isState_43 (by decide) (fun c1 => ?_) (fun c1 => ?_)
    · have hf := ifp c1 hf
      refine lv_iconst (v := (1 : Int32)) X.1 X.2.1 dX10_isState_77 (by decide) ?_
      obtain ⟨rfl, rfl⟩ := rt2 hf
      exact x_zret X hr hk rfl M dX10_isState_78
    · have hf := ifn c1 hf
      refine lv_aload_n X.1 X.2.1 dX10_isState_46 rfl (lv_at hl 0 rfl) ?_
      obtain ⟨t2, q3, hf⟩ := bnd hf
      refine x_getr fl_X10_149 X M q3 dX10_isState_47 ?_
      refine lv_bipush (v := (20 : Int32)) X.1 X.2.1 dX10_isState_50 (by decide) ?_
      refine lv_iload_n X.1 X.2.1 dX10_isState_52 rfl (lv_at hl 1 rfl) ?_
      refine lv_imul X.1 X.2.1 dX10_isState_53 ?_
      refine lv_bipush (v := (8 : Int32)) X.1 X.2.1 dX10_isState_54 (by decide) ?_
      refine lv_iadd X.1 X.2.1 dX10_isState_56 ?_
      refine lv_iload_n X.1 X.2.1 dX10_isState_57 rfl (lv_at hl 2 rfl) ?_
      refine lv_iadd X.1 X.2.1 dX10_isState_58 ?_
      obtain ⟨t4, q5, hf⟩ := bnd hf
      refine x_iald X M q5 dX10_isState_59 ?_
      refine lv_aload_n X.1 X.2.1 dX10_isState_60 rfl (lv_at hl 0 rfl) ?_
      obtain ⟨t6, q7, hf⟩ := bnd hf
      refine x_getr fl_X10_23 X M q7 dX10_isState_61 ?_
      refine lv_iload_n X.1 X.2.1 dX10_isState_64 rfl (lv_at hl 2 rfl) ?_
      obtain ⟨t8, q9, hf⟩ := bnd hf
      refine x_iald X M q9 dX10_isState_65 ?_
      refine lv_icmp_eq (tgt := 71) X.1 X.2.1 dX10_isState_66 (by decide) (fun c10 => ?_) (fun c10 => ?_)
      · have hf := ifp c10 hf
        refine lv_iinc (v := (v2 + 1)) (lv' := [(2, .int (v2 + 1)), (0, .ref (gB G + v0)), (1, .int v1)]) X.1 X.2.1 dX10_isState_71 hl (k := 2) rfl (by first | rfl | decide) (by decide) rfl (fun ls hl => ?_)
        refine lv_goto (tgt := 40) X.1 X.2.1 dX10_isState_74 (by decide) ?_
        exact ih v0 v1 (v2 + 1) h hf _ _ _ M (lv_sub hl [1, 2, 0] rfl)
      · have hf := ifn c10 hf
        refine lv_iconst (v := (0 : Int32)) X.1 X.2.1 dX10_isState_69 (by decide) ?_
        obtain ⟨rfl, rfl⟩ := rt2 hf
        exact x_zret X hr hk rfl M dX10_isState_70
def f_X10_isState_2 (N : Nat) (n : Nat) (v0 : Nat) (v1 : Int32) (v2 : Int32) (h : Mem) : Option (Int32 × Mem) := match n with
  | 0 => none
  | n + 1 =>
    (gI h v0 10 1).bind fun t1 =>
    if t1 ≤ v2 then
      f_X10_isState_40 N N v0 v1 (0 : Int32) h
    else
      (gR h v0 10 45).bind fun t4 =>
      (lI 100 h t4 (((20 : Int32) * v1) + v2)).bind fun t6 =>
      (gR h v0 10 10).bind fun t8 =>
      (lI 100 h t8 v2).bind fun t10 =>
      if t6 = t10 then
        f_X10_isState_2 N n v0 v1 (v2 + 1) h
      else
        some ((0 : Int32), h)
set_option maxRecDepth 100000 in
set_option maxHeartbeats 4000000 in
theorem w_X10_isState_2 {p : Program} {l : Launch} {e : Env} {s : State} {m : MethodId} {args : Array Value} {below : List Frame} {meth : Method} {c : Code} {G : Gx} {r : Int32} {h' : Mem} (X : CX G p s m args c cX10_isState 3 RX10) (hr : meth.sig.returnType = (Option.some Jvm.ClassFile.FieldType.boolean)) (hk : meth.locks = false) (N : Nat) : ∀ (n : Nat) (v0 : Nat) (v1 : Int32) (v2 : Int32) (h : Mem), f_X10_isState_2 N n v0 v1 v2 h = some (r, h') → ∀ (H : Heap) (locs : List Loc) (ls : Array Slot), MS G s h H locs 0 → lv_has ls 3 [(0, .ref (gB G + v0)), (1, .int v1), (2, .int v2)] → W p l e (rm_X10_isState) s m args below meth c H locs 0 0 (QI G below args s r h' 0 0) (F0 m 2 ls []) := by
  intro n
  induction n with
  | zero =>
    intro v0 v1 v2 h hf
    cases hf
  | succ n ih =>
    intro v0 v1 v2 h hf H locs ls M hl
    rw [f_X10_isState_2] at hf
    refine lv_iload_n X.1 X.2.1 dX10_isState_2 rfl (lv_at hl 2 rfl) ?_
    refine lv_aload_n X.1 X.2.1 dX10_isState_3 rfl (lv_at hl 0 rfl) ?_
    obtain ⟨t1, q2, hf⟩ := bnd hf
    refine x_geti fl_X10_13 X M q2 dX10_isState_4 ?_
    refine lv_icmp_ge (tgt := 38) X.1 X.2.1 dX10_isState_7 (by decide) (fun c3 => ?_) (fun c3 => ?_)
    · have hf := ifp c3 hf
      refine lv_iconst (v := (0 : Int32)) X.1 X.2.1 dX10_isState_38 (by decide) ?_
      refine lv_istore_n (lv' := [(2, .int (0 : Int32)), (0, .ref (gB G + v0)), (1, .int v1)]) X.1 X.2.1 dX10_isState_39 rfl hl (by decide) rfl (fun ls hl => ?_)
      exact w_X10_isState_40 X hr hk N N v0 v1 (0 : Int32) h hf _ _ _ M (lv_sub hl [1, 2, 0] rfl)
    · have hf := ifn c3 hf
      refine lv_aload_n X.1 X.2.1 dX10_isState_10 rfl (lv_at hl 0 rfl) ?_
      obtain ⟨t4, q5, hf⟩ := bnd hf
      refine x_getr fl_X10_149 X M q5 dX10_isState_11 ?_
      refine lv_bipush (v := (20 : Int32)) X.1 X.2.1 dX10_isState_14 (by decide) ?_
      refine lv_iload_n X.1 X.2.1 dX10_isState_16 rfl (lv_at hl 1 rfl) ?_
      refine lv_imul X.1 X.2.1 dX10_isState_17 ?_
      refine lv_iload_n X.1 X.2.1 dX10_isState_18 rfl (lv_at hl 2 rfl) ?_
      refine lv_iadd X.1 X.2.1 dX10_isState_19 ?_
      obtain ⟨t6, q7, hf⟩ := bnd hf
      refine x_iald X M q7 dX10_isState_20 ?_
      refine lv_aload_n X.1 X.2.1 dX10_isState_21 rfl (lv_at hl 0 rfl) ?_
      obtain ⟨t8, q9, hf⟩ := bnd hf
      refine x_getr fl_X10_41 X M q9 dX10_isState_22 ?_
      refine lv_iload_n X.1 X.2.1 dX10_isState_25 rfl (lv_at hl 2 rfl) ?_
      obtain ⟨t10, q11, hf⟩ := bnd hf
      refine x_iald X M q11 dX10_isState_26 ?_
      refine lv_icmp_eq (tgt := 32) X.1 X.2.1 dX10_isState_27 (by decide) (fun c12 => ?_) (fun c12 => ?_)
      · have hf := ifp c12 hf
        refine lv_iinc (v := (v2 + 1)) (lv' := [(2, .int (v2 + 1)), (0, .ref (gB G + v0)), (1, .int v1)]) X.1 X.2.1 dX10_isState_32 hl (k := 2) rfl (by first | rfl | decide) (by decide) rfl (fun ls hl => ?_)
        refine lv_goto (tgt := 2) X.1 X.2.1 dX10_isState_35 (by decide) ?_
        exact ih v0 v1 (v2 + 1) h hf _ _ _ M (lv_sub hl [1, 2, 0] rfl)
      · have hf := ifn c12 hf
        refine lv_iconst (v := (0 : Int32)) X.1 X.2.1 dX10_isState_30 (by decide) ?_
        obtain ⟨rfl, rfl⟩ := rt2 hf
        exact x_zret X hr hk rfl M dX10_isState_31
def f_X10_isState (N : Nat) (v0 : Nat) (v1 : Int32) (h : Mem) : Option (Int32 × Mem) :=
  f_X10_isState_2 N N v0 v1 (0 : Int32) h
set_option maxRecDepth 100000 in
set_option maxHeartbeats 4000000 in
theorem w_X10_isState {p : Program} {l : Launch} {e : Env} {s : State} {m : MethodId} {args : Array Value} {below : List Frame} {meth : Method} {c : Code} {G : Gx} {r : Int32} {h' : Mem} (X : CX G p s m args c cX10_isState 3 RX10) (hr : meth.sig.returnType = (Option.some Jvm.ClassFile.FieldType.boolean)) (hk : meth.locks = false) (N : Nat) : ∀ (v0 : Nat) (v1 : Int32) (h : Mem), f_X10_isState N v0 v1 h = some (r, h') → ∀ (H : Heap) (locs : List Loc) (ls : Array Slot), MS G s h H locs 0 → lv_has ls 3 [(0, .ref (gB G + v0)), (1, .int v1)] → W p l e (rm_X10_isState) s m args below meth c H locs 0 0 (QI G below args s r h' 0 0) (F0 m 0 ls []) := by
  intro v0 v1 h hf H locs ls M hl
  rw [f_X10_isState] at hf
  refine lv_iconst (v := (0 : Int32)) X.1 X.2.1 dX10_isState_0 (by decide) ?_
  refine lv_istore_n (lv' := [(2, .int (0 : Int32)), (0, .ref (gB G + v0)), (1, .int v1)]) X.1 X.2.1 dX10_isState_1 rfl hl (by decide) rfl (fun ls hl => ?_)
  exact w_X10_isState_2 X hr hk N N v0 v1 (0 : Int32) h hf _ _ _ M (lv_sub hl [1, 2, 0] rfl)
theorem c_X10_isState (l : Launch) (G : Gx) (N : Nat) (v0 : Nat) (v1 : Int32) (h : Mem) (r : Int32) (h' : Mem) (hf : f_X10_isState N v0 v1 h = some (r, h')) : MetG l G yX10_isState (.code yX10_isState cX10_isState 3 (Option.some Jvm.ClassFile.FieldType.boolean)) rm_X10_isState [.ref (gB G + v0), .int v1] h (QcI G r h') 0 0 :=
  x_met (by decide) rfl (Nat.le_of_ble_eq_true rfl) (fun p e s m args below meth c ls X M hr hk hin hl => w_X10_isState X hr hk N v0 v1 h hf _ _ ls M hl)
abbrev rm_X10_endAll : Room := { frames := 15, cells := 0, slots := 0, locals := 369 }
def f_X10_endAll_31 (N : Nat) (n : Nat) (v0 : Nat) (v1 : Int32) (v2 : Int32) (v3 : Int32) (h : Mem) (k7 : Nat → Int32 → Int32 → Mem → Option (Int32 × Mem)) : Option (Int32 × Mem) := match n with
  | 0 => none
  | n + 1 =>
    if v3 < 0 then
      (ck h v0 10).bind fun _ =>
      (f_X10_keepState N v0 v2 h).bind fun h4 =>
      k7 v0 v1 (v2 + 1) h4
    else
      (ck h v0 10).bind fun _ =>
      b2 (f_X10_isState N v0 v3 h) fun t8 h7 =>
      if t8 = 0 then
        f_X10_endAll_31 N n v0 v1 v2 (v3 + (-1)) h7 k7
      else
        some ((((100 : Int32) + v2) - v3), h7)
set_option maxRecDepth 100000 in
set_option maxHeartbeats 4000000 in
theorem w_X10_endAll_31 {p : Program} {l : Launch} {e : Env} {s : State} {m : MethodId} {args : Array Value} {below : List Frame} {meth : Method} {c : Code} {G : Gx} {r : Int32} {h' : Mem} (X : CX G p s m args c cX10_endAll 4 RX10) (hr : meth.sig.returnType = (Option.some Jvm.ClassFile.FieldType.int)) (hk : meth.locks = false) (N : Nat) (k7 : Nat → Int32 → Int32 → Mem → Option (Int32 × Mem)) (K7 : ∀ (v0 : Nat) (v1 : Int32) (v2 : Int32) (h : Mem), k7 v0 v1 v2 h = some (r, h') → ∀ (H : Heap) (locs : List Loc) (ls : Array Slot), MS G s h H locs 0 → lv_has ls 4 [(0, .ref (gB G + v0)), (1, .int v1), (2, .int v2)] → W p l e (rm_X10_endAll) s m args below meth c H locs 0 0 (QI G below args s r h' 0 0) (F0 m 7 ls [])) : ∀ (n : Nat) (v0 : Nat) (v1 : Int32) (v2 : Int32) (v3 : Int32) (h : Mem), f_X10_endAll_31 N n v0 v1 v2 v3 h k7 = some (r, h') → ∀ (H : Heap) (locs : List Loc) (ls : Array Slot), MS G s h H locs 0 → lv_has ls 4 [(0, .ref (gB G + v0)), (1, .int v1), (2, .int v2), (3, .int v3)] → W p l e (rm_X10_endAll) s m args below meth c H locs 0 0 (QI G below args s r h' 0 0) (F0 m 31 ls []) := by
  intro n
  induction n with
  | zero =>
    intro v0 v1 v2 v3 h hf
    cases hf
  | succ n ih =>
    intro v0 v1 v2 v3 h hf H locs ls M hl
    rw [f_X10_endAll_31] at hf
    refine lv_iload_n X.1 X.2.1 dX10_endAll_31 rfl (lv_at hl 3 rfl) ?_
    refine lv_if_lt (tgt := 56) X.1 X.2.1 dX10_endAll_32 (by decide) (fun c1 => ?_) (fun c1 => ?_)
    · have hf := ifp c1 hf
      refine lv_aload_n X.1 X.2.1 dX10_endAll_56 rfl (lv_at hl 0 rfl) ?_
      refine lv_iload_n X.1 X.2.1 dX10_endAll_57 rfl (lv_at hl 2 rfl) ?_
      obtain ⟨⟨⟩, q2, hf⟩ := bnd hf
      obtain ⟨h4, q3, hf⟩ := bnd hf
      refine x_callVv (As := [.int v2]) cf_X10_342 (c_X10_keepState l G N v0 v2 h _ q3) rfl ⟨rfl, rfl, Nat.le_of_ble_eq_true rfl, Nat.le_of_ble_eq_true rfl⟩ ⟨Nat.le_of_ble_eq_true rfl, Nat.le_of_ble_eq_true rfl⟩ X M (x_recv cls_X10 X M q2) rfl rfl hl.1 (Nat.le_of_ble_eq_true rfl) dX10_endAll_58 (fun H locs M => ?_)
      refine lv_iinc (v := (v2 + 1)) (lv' := [(2, .int (v2 + 1)), (0, .ref (gB G + v0)), (1, .int v1), (3, .int v3)]) X.1 X.2.1 dX10_endAll_61 hl (k := 2) rfl (by first | rfl | decide) (by decide) rfl (fun ls hl => ?_)
      refine lv_goto (tgt := 7) X.1 X.2.1 dX10_endAll_64 (by decide) ?_
      exact K7 v0 v1 (v2 + 1) h4 hf _ _ _ M (lv_sub hl [1, 2, 0] rfl)
    · have hf := ifn c1 hf
      refine lv_aload_n X.1 X.2.1 dX10_endAll_35 rfl (lv_at hl 0 rfl) ?_
      refine lv_iload_n X.1 X.2.1 dX10_endAll_36 rfl (lv_at hl 3 rfl) ?_
      obtain ⟨⟨⟩, q5, hf⟩ := bnd hf
      obtain ⟨t8, h7, q6, hf⟩ := bnd2 hf
      refine x_callVi (As := [.int v3]) cf_X10_345 (c_X10_isState l G N v0 v3 h _ _ q6) rfl ⟨rfl, rfl, Nat.le_of_ble_eq_true rfl, Nat.le_of_ble_eq_true rfl⟩ ⟨Nat.le_of_ble_eq_true rfl, Nat.le_of_ble_eq_true rfl⟩ X M (x_recv cls_X10 X M q5) rfl rfl hl.1 (Nat.le_of_ble_eq_true rfl) dX10_endAll_37 (fun H locs M => ?_)
      refine lv_if_eq (tgt := 50) X.1 X.2.1 dX10_endAll_40 (by decide) (fun c9 => ?_) (fun c9 => ?_)
      · have hf := ifp c9 hf
        refine lv_iinc (v := (v3 + (-1))) (lv' := [(3, .int (v3 + (-1))), (0, .ref (gB G + v0)), (1, .int v1), (2, .int v2)]) X.1 X.2.1 dX10_endAll_50 hl (k := 3) rfl (by first | rfl | decide) (by decide) rfl (fun ls hl => ?_)
        refine lv_goto (tgt := 31) X.1 X.2.1 dX10_endAll_53 (by decide) ?_
        exact ih v0 v1 v2 (v3 + (-1)) h7 hf _ _ _ M (lv_sub hl [1, 2, 3, 0] rfl)
      · have hf := ifn c9 hf
        refine lv_bipush (v := (100 : Int32)) X.1 X.2.1 dX10_endAll_43 (by decide) ?_
        refine lv_iload_n X.1 X.2.1 dX10_endAll_45 rfl (lv_at hl 2 rfl) ?_
        refine lv_iadd X.1 X.2.1 dX10_endAll_46 ?_
        refine lv_iload_n X.1 X.2.1 dX10_endAll_47 rfl (lv_at hl 3 rfl) ?_
        refine lv_isub X.1 X.2.1 dX10_endAll_48 ?_
        obtain ⟨rfl, rfl⟩ := rt2 hf
        exact x_iret X hr hk M dX10_endAll_49
def f_X10_endAll_7 (N : Nat) (n : Nat) (v0 : Nat) (v1 : Int32) (v2 : Int32) (h : Mem) : Option (Int32 × Mem) := match n with
  | 0 => none
  | n + 1 =>
    if (20 : Int32) < v2 then
      some ((200 : Int32), h)
    else
      (ck h v0 10).bind fun _ =>
      b2 (f_X10_stepOnce N v0 v1 h) fun t5 h4 =>
      if t5 = (-6 : Int32) then
        some ((v2 - (1 : Int32)), h4)
      else
        f_X10_endAll_31 N N v0 v1 v2 (v2 - (1 : Int32)) h4 (fun v0 v1 v2 h => f_X10_endAll_7 N n v0 v1 v2 h)
set_option maxRecDepth 100000 in
set_option maxHeartbeats 4000000 in
theorem w_X10_endAll_7 {p : Program} {l : Launch} {e : Env} {s : State} {m : MethodId} {args : Array Value} {below : List Frame} {meth : Method} {c : Code} {G : Gx} {r : Int32} {h' : Mem} (X : CX G p s m args c cX10_endAll 4 RX10) (hr : meth.sig.returnType = (Option.some Jvm.ClassFile.FieldType.int)) (hk : meth.locks = false) (N : Nat) : ∀ (n : Nat) (v0 : Nat) (v1 : Int32) (v2 : Int32) (h : Mem), f_X10_endAll_7 N n v0 v1 v2 h = some (r, h') → ∀ (H : Heap) (locs : List Loc) (ls : Array Slot), MS G s h H locs 0 → lv_has ls 4 [(0, .ref (gB G + v0)), (1, .int v1), (2, .int v2)] → W p l e (rm_X10_endAll) s m args below meth c H locs 0 0 (QI G below args s r h' 0 0) (F0 m 7 ls []) := by
  intro n
  induction n with
  | zero =>
    intro v0 v1 v2 h hf
    cases hf
  | succ n ih =>
    intro v0 v1 v2 h hf H locs ls M hl
    rw [f_X10_endAll_7] at hf
    refine lv_iload_n X.1 X.2.1 dX10_endAll_7 rfl (lv_at hl 2 rfl) ?_
    refine lv_bipush (v := (20 : Int32)) X.1 X.2.1 dX10_endAll_8 (by decide) ?_
    refine lv_icmp_gt (tgt := 67) X.1 X.2.1 dX10_endAll_10 (by decide) (fun c1 => ?_) (fun c1 => ?_)
    · have hf := ifp c1 hf
      refine lv_sipush (v := (200 : Int32)) X.1 X.2.1 dX10_endAll_67 (by decide) ?_
      obtain ⟨rfl, rfl⟩ := rt2 hf
      exact x_iret X hr hk M dX10_endAll_70
    · have hf := ifn c1 hf
      refine lv_aload_n X.1 X.2.1 dX10_endAll_13 rfl (lv_at hl 0 rfl) ?_
      refine lv_iload_n X.1 X.2.1 dX10_endAll_14 rfl (lv_at hl 1 rfl) ?_
      obtain ⟨⟨⟩, q2, hf⟩ := bnd hf
      obtain ⟨t5, h4, q3, hf⟩ := bnd2 hf
      refine x_callVi (As := [.int v1]) cf_X10_338 (c_X10_stepOnce l G N v0 v1 h _ _ q3) rfl ⟨rfl, rfl, Nat.le_of_ble_eq_true rfl, Nat.le_of_ble_eq_true rfl⟩ ⟨Nat.le_of_ble_eq_true rfl, Nat.le_of_ble_eq_true rfl⟩ X M (x_recv cls_X10 X M q2) rfl rfl hl.1 (Nat.le_of_ble_eq_true rfl) dX10_endAll_15 (fun H locs M => ?_)
      refine lv_bipush (v := (-6 : Int32)) X.1 X.2.1 dX10_endAll_18 (by decide) ?_
      refine lv_icmp_ne (tgt := 27) X.1 X.2.1 dX10_endAll_20 (by decide) (fun c6 => ?_) (fun c6 => ?_)
      · have hf := ifn c6 hf
        refine lv_iload_n X.1 X.2.1 dX10_endAll_27 rfl (lv_at hl 2 rfl) ?_
        refine lv_iconst (v := (1 : Int32)) X.1 X.2.1 dX10_endAll_28 (by decide) ?_
        refine lv_isub X.1 X.2.1 dX10_endAll_29 ?_
        refine lv_istore_n (lv' := [(3, .int (v2 - (1 : Int32))), (0, .ref (gB G + v0)), (1, .int v1), (2, .int v2)]) X.1 X.2.1 dX10_endAll_30 rfl hl (by decide) rfl (fun ls hl => ?_)
        exact w_X10_endAll_31 X hr hk N _ (fun v0 v1 v2 h hf H locs ls M hl => ih v0 v1 v2 h hf H locs ls M hl) N v0 v1 v2 (v2 - (1 : Int32)) h4 hf _ _ _ M (lv_sub hl [1, 2, 3, 0] rfl)
      · have hf := ifp c6 hf
        refine lv_iload_n X.1 X.2.1 dX10_endAll_23 rfl (lv_at hl 2 rfl) ?_
        refine lv_iconst (v := (1 : Int32)) X.1 X.2.1 dX10_endAll_24 (by decide) ?_
        refine lv_isub X.1 X.2.1 dX10_endAll_25 ?_
        obtain ⟨rfl, rfl⟩ := rt2 hf
        exact x_iret X hr hk M dX10_endAll_26
def f_X10_endAll (N : Nat) (v0 : Nat) (v1 : Int32) (h : Mem) : Option (Int32 × Mem) :=
  (ck h v0 10).bind fun _ =>
  (f_X10_keepState N v0 (0 : Int32) h).bind fun h3 =>
  f_X10_endAll_7 N N v0 v1 (1 : Int32) h3
set_option maxRecDepth 100000 in
set_option maxHeartbeats 4000000 in
theorem w_X10_endAll {p : Program} {l : Launch} {e : Env} {s : State} {m : MethodId} {args : Array Value} {below : List Frame} {meth : Method} {c : Code} {G : Gx} {r : Int32} {h' : Mem} (X : CX G p s m args c cX10_endAll 4 RX10) (hr : meth.sig.returnType = (Option.some Jvm.ClassFile.FieldType.int)) (hk : meth.locks = false) (N : Nat) : ∀ (v0 : Nat) (v1 : Int32) (h : Mem), f_X10_endAll N v0 v1 h = some (r, h') → ∀ (H : Heap) (locs : List Loc) (ls : Array Slot), MS G s h H locs 0 → lv_has ls 4 [(0, .ref (gB G + v0)), (1, .int v1)] → W p l e (rm_X10_endAll) s m args below meth c H locs 0 0 (QI G below args s r h' 0 0) (F0 m 0 ls []) := by
  intro v0 v1 h hf H locs ls M hl
  rw [f_X10_endAll] at hf
  refine lv_aload_n X.1 X.2.1 dX10_endAll_0 rfl (lv_at hl 0 rfl) ?_
  refine lv_iconst (v := (0 : Int32)) X.1 X.2.1 dX10_endAll_1 (by decide) ?_
  obtain ⟨⟨⟩, q1, hf⟩ := bnd hf
  obtain ⟨h3, q2, hf⟩ := bnd hf
  refine x_callVv (As := [.int (0 : Int32)]) cf_X10_342 (c_X10_keepState l G N v0 (0 : Int32) h _ q2) rfl ⟨rfl, rfl, Nat.le_of_ble_eq_true rfl, Nat.le_of_ble_eq_true rfl⟩ ⟨Nat.le_of_ble_eq_true rfl, Nat.le_of_ble_eq_true rfl⟩ X M (x_recv cls_X10 X M q1) rfl rfl hl.1 (Nat.le_of_ble_eq_true rfl) dX10_endAll_2 (fun H locs M => ?_)
  refine lv_iconst (v := (1 : Int32)) X.1 X.2.1 dX10_endAll_5 (by decide) ?_
  refine lv_istore_n (lv' := [(2, .int (1 : Int32)), (0, .ref (gB G + v0)), (1, .int v1)]) X.1 X.2.1 dX10_endAll_6 rfl hl (by decide) rfl (fun ls hl => ?_)
  exact w_X10_endAll_7 X hr hk N N v0 v1 (1 : Int32) h3 hf _ _ _ M (lv_sub hl [1, 2, 0] rfl)
theorem c_X10_endAll (l : Launch) (G : Gx) (N : Nat) (v0 : Nat) (v1 : Int32) (h : Mem) (r : Int32) (h' : Mem) (hf : f_X10_endAll N v0 v1 h = some (r, h')) : MetG l G yX10_endAll (.code yX10_endAll cX10_endAll 4 (Option.some Jvm.ClassFile.FieldType.int)) rm_X10_endAll [.ref (gB G + v0), .int v1] h (QcI G r h') 0 0 :=
  x_met (by decide) rfl (Nat.le_of_ble_eq_true rfl) (fun p e s m args below meth c ls X M hr hk hin hl => w_X10_endAll X hr hk N v0 v1 h hf _ _ ls M hl)
abbrev rm_X10_end : Room := { frames := 16, cells := 0, slots := 0, locals := 392 }
def f_X10_end (N : Nat) (v0 : Nat) (v1 : Int32) (h : Mem) : Option (Int32 × Mem) :=
  (ck h v0 10).bind fun _ =>
  b2 (f_X10_endAll N v0 v1 h) fun t4 h3 =>
  some (t4, h3)
set_option maxRecDepth 100000 in
set_option maxHeartbeats 4000000 in
theorem w_X10_end {p : Program} {l : Launch} {e : Env} {s : State} {m : MethodId} {args : Array Value} {below : List Frame} {meth : Method} {c : Code} {G : Gx} {r : Int32} {h' : Mem} (X : CX G p s m args c cX10_end 2 RX10) (hr : meth.sig.returnType = (Option.some Jvm.ClassFile.FieldType.int)) (hk : meth.locks = false) (N : Nat) : ∀ (v0 : Nat) (v1 : Int32) (h : Mem), f_X10_end N v0 v1 h = some (r, h') → ∀ (H : Heap) (locs : List Loc) (ls : Array Slot), MS G s h H locs 0 → lv_has ls 2 [(0, .ref (gB G + v0)), (1, .int v1)] → W p l e (rm_X10_end) s m args below meth c H locs 0 0 (QI G below args s r h' 0 0) (F0 m 0 ls []) := by
  intro v0 v1 h hf H locs ls M hl
  rw [f_X10_end] at hf
  refine lv_aload_n X.1 X.2.1 dX10_end_0 rfl (lv_at hl 0 rfl) ?_
  refine lv_iload_n X.1 X.2.1 dX10_end_1 rfl (lv_at hl 1 rfl) ?_
  obtain ⟨⟨⟩, q1, hf⟩ := bnd hf
  obtain ⟨t4, h3, q2, hf⟩ := bnd2 hf
  refine x_callVi (As := [.int v1]) cf_X10_348 (c_X10_endAll l G N v0 v1 h _ _ q2) rfl ⟨rfl, rfl, Nat.le_of_ble_eq_true rfl, Nat.le_of_ble_eq_true rfl⟩ ⟨Nat.le_of_ble_eq_true rfl, Nat.le_of_ble_eq_true rfl⟩ X M (x_recv cls_X10 X M q1) rfl rfl hl.1 (Nat.le_of_ble_eq_true rfl) dX10_end_2 (fun H locs M => ?_)
  obtain ⟨rfl, rfl⟩ := rt2 hf
  exact x_iret X hr hk M dX10_end_5
theorem c_X10_end (l : Launch) (G : Gx) (N : Nat) (v0 : Nat) (v1 : Int32) (h : Mem) (r : Int32) (h' : Mem) (hf : f_X10_end N v0 v1 h = some (r, h')) : MetG l G yX10_end (.code yX10_end cX10_end 2 (Option.some Jvm.ClassFile.FieldType.int)) rm_X10_end [.ref (gB G + v0), .int v1] h (QcI G r h') 0 0 :=
  x_met (by decide) rfl (Nat.le_of_ble_eq_true rfl) (fun p e s m args below meth c ls X M hr hk hin hl => w_X10_end X hr hk N v0 v1 h hf _ _ ls M hl)
abbrev rm_X10_isTape : Room := { frames := 2, cells := 0, slots := 0, locals := 63 }
def f_X10_isTape (N : Nat) (v0 : Nat) (v1 : Int32) (h : Mem) : Option (Int32 × Mem) :=
  (ck h v0 10).bind fun _ =>
  b2 (f_X10_in N v0 v1 (0 : Int32) (5 : Int32) h) fun t4 h3 =>
  rz t4 h3
set_option maxRecDepth 100000 in
set_option maxHeartbeats 4000000 in
theorem w_X10_isTape {p : Program} {l : Launch} {e : Env} {s : State} {m : MethodId} {args : Array Value} {below : List Frame} {meth : Method} {c : Code} {G : Gx} {r : Int32} {h' : Mem} (X : CX G p s m args c cX10_isTape 2 RX10) (hr : meth.sig.returnType = (Option.some Jvm.ClassFile.FieldType.boolean)) (hk : meth.locks = false) (N : Nat) : ∀ (v0 : Nat) (v1 : Int32) (h : Mem), f_X10_isTape N v0 v1 h = some (r, h') → ∀ (H : Heap) (locs : List Loc) (ls : Array Slot), MS G s h H locs 0 → lv_has ls 2 [(0, .ref (gB G + v0)), (1, .int v1)] → W p l e (rm_X10_isTape) s m args below meth c H locs 0 0 (QI G below args s r h' 0 0) (F0 m 0 ls []) := by
  intro v0 v1 h hf H locs ls M hl
  rw [f_X10_isTape] at hf
  refine lv_aload_n X.1 X.2.1 dX10_isTape_0 rfl (lv_at hl 0 rfl) ?_
  refine lv_iload_n X.1 X.2.1 dX10_isTape_1 rfl (lv_at hl 1 rfl) ?_
  refine lv_iconst (v := (0 : Int32)) X.1 X.2.1 dX10_isTape_2 (by decide) ?_
  refine lv_iconst (v := (5 : Int32)) X.1 X.2.1 dX10_isTape_3 (by decide) ?_
  obtain ⟨⟨⟩, q1, hf⟩ := bnd hf
  obtain ⟨t4, h3, q2, hf⟩ := bnd2 hf
  refine x_callVi (As := [.int v1, .int (0 : Int32), .int (5 : Int32)]) cf_X10_197 (c_X10_in l G N v0 v1 (0 : Int32) (5 : Int32) h _ _ q2) rfl ⟨rfl, rfl, Nat.le_of_ble_eq_true rfl, Nat.le_of_ble_eq_true rfl⟩ ⟨Nat.le_of_ble_eq_true rfl, Nat.le_of_ble_eq_true rfl⟩ X M (x_recv cls_X10 X M q1) rfl rfl hl.1 (Nat.le_of_ble_eq_true rfl) dX10_isTape_4 (fun H locs M => ?_)
  obtain ⟨z, rfl, rfl⟩ := rz_spec hf
  exact x_zret X hr hk (nz z) M dX10_isTape_7
theorem c_X10_isTape (l : Launch) (G : Gx) (N : Nat) (v0 : Nat) (v1 : Int32) (h : Mem) (r : Int32) (h' : Mem) (hf : f_X10_isTape N v0 v1 h = some (r, h')) : MetG l G yX10_isTape (.code yX10_isTape cX10_isTape 2 (Option.some Jvm.ClassFile.FieldType.boolean)) rm_X10_isTape [.ref (gB G + v0), .int v1] h (QcI G r h') 0 0 :=
  x_met (by decide) rfl (Nat.le_of_ble_eq_true rfl) (fun p e s m args below meth c ls X M hr hk hin hl => w_X10_isTape X hr hk N v0 v1 h hf _ _ ls M hl)
abbrev rm_X10_keep : Room := { frames := 1, cells := 0, slots := 0, locals := 40 }
def f_X10_keep_57 (N : Nat) (n : Nat) (v0 : Nat) (v1 : Int32) (h : Mem) : Option Mem := match n with
  | 0 => none
  | n + 1 =>
    if (4 : Int32) ≤ v1 then
      some h
    else
      (gR h v0 10 46).bind fun t2 =>
      (gR h v0 10 5).bind fun t4 =>
      (lI 100 h t4 v1).bind fun t6 =>
      (stI 100 h t2 ((20 : Int32) + v1) t6).bind fun h8 =>
      (gR h8 v0 10 46).bind fun t10 =>
      (gR h8 v0 10 6).bind fun t12 =>
      (lI 100 h8 t12 v1).bind fun t14 =>
      (stI 100 h8 t10 ((24 : Int32) + v1) t14).bind fun h16 =>
      (gR h16 v0 10 46).bind fun t18 =>
      (gR h16 v0 10 7).bind fun t20 =>
      (lI 100 h16 t20 v1).bind fun t22 =>
      (stI 100 h16 t18 ((28 : Int32) + v1) t22).bind fun h24 =>
      f_X10_keep_57 N n v0 (v1 + 1) h24
set_option maxRecDepth 100000 in
set_option maxHeartbeats 4000000 in
theorem w_X10_keep_57 {p : Program} {l : Launch} {e : Env} {s : State} {m : MethodId} {args : Array Value} {below : List Frame} {meth : Method} {c : Code} {G : Gx} {h' : Mem} {L : Nat} (X : CX G p s m args c cX10_keep 2 RX10) (hr : meth.sig.returnType = (Option.none : Option Jvm.ClassFile.FieldType)) (hk : meth.locks = false) (hL : s.heap.size + 0 = gB G + L) (N : Nat) : ∀ (n : Nat) (v0 : Nat) (v1 : Int32) (h : Mem), f_X10_keep_57 N n v0 v1 h = some h' → ∀ (H : Heap) (locs : List Loc) (ls : Array Slot), MS G s h H locs 0 → lv_has ls 2 [(0, .ref (gB G + v0)), (1, .int v1)] → W p l e (rm_X10_keep) s m args below meth c H locs 0 0 (QV G below args s h' L 0 0) (F0 m 57 ls []) := by
  intro n
  induction n with
  | zero =>
    intro v0 v1 h hf
    cases hf
  | succ n ih =>
    intro v0 v1 h hf H locs ls M hl
    rw [f_X10_keep_57] at hf
    refine lv_iload_n X.1 X.2.1 dX10_keep_57 rfl (lv_at hl 1 rfl) ?_
    refine lv_iconst (v := (4 : Int32)) X.1 X.2.1 dX10_keep_58 (by decide) ?_
    refine lv_icmp_ge (tgt := 113) X.1 X.2.1 dX10_keep_59 (by decide) (fun c1 => ?_) (fun c1 => ?_)
    · have hf := ifp c1 hf
      obtain rfl := rt1 hf
      exact x_vret X hr hk M hL dX10_keep_113
    · have hf := ifn c1 hf
      refine lv_aload_n X.1 X.2.1 dX10_keep_62 rfl (lv_at hl 0 rfl) ?_
      obtain ⟨t2, q3, hf⟩ := bnd hf
      refine x_getr fl_X10_152 X M q3 dX10_keep_63 ?_
      refine lv_bipush (v := (20 : Int32)) X.1 X.2.1 dX10_keep_66 (by decide) ?_
      refine lv_iload_n X.1 X.2.1 dX10_keep_68 rfl (lv_at hl 1 rfl) ?_
      refine lv_iadd X.1 X.2.1 dX10_keep_69 ?_
      refine lv_aload_n X.1 X.2.1 dX10_keep_70 rfl (lv_at hl 0 rfl) ?_
      obtain ⟨t4, q5, hf⟩ := bnd hf
      refine x_getr fl_X10_26 X M q5 dX10_keep_71 ?_
      refine lv_iload_n X.1 X.2.1 dX10_keep_74 rfl (lv_at hl 1 rfl) ?_
      obtain ⟨t6, q7, hf⟩ := bnd hf
      refine x_iald X M q7 dX10_keep_75 ?_
      obtain ⟨h8, q9, hf⟩ := bnd hf
      refine x_iast X M q9 dX10_keep_76 (fun H locs M => ?_)
      refine lv_aload_n X.1 X.2.1 dX10_keep_77 rfl (lv_at hl 0 rfl) ?_
      obtain ⟨t10, q11, hf⟩ := bnd hf
      refine x_getr fl_X10_152 X M q11 dX10_keep_78 ?_
      refine lv_bipush (v := (24 : Int32)) X.1 X.2.1 dX10_keep_81 (by decide) ?_
      refine lv_iload_n X.1 X.2.1 dX10_keep_83 rfl (lv_at hl 1 rfl) ?_
      refine lv_iadd X.1 X.2.1 dX10_keep_84 ?_
      refine lv_aload_n X.1 X.2.1 dX10_keep_85 rfl (lv_at hl 0 rfl) ?_
      obtain ⟨t12, q13, hf⟩ := bnd hf
      refine x_getr fl_X10_29 X M q13 dX10_keep_86 ?_
      refine lv_iload_n X.1 X.2.1 dX10_keep_89 rfl (lv_at hl 1 rfl) ?_
      obtain ⟨t14, q15, hf⟩ := bnd hf
      refine x_iald X M q15 dX10_keep_90 ?_
      obtain ⟨h16, q17, hf⟩ := bnd hf
      refine x_iast X M q17 dX10_keep_91 (fun H locs M => ?_)
      refine lv_aload_n X.1 X.2.1 dX10_keep_92 rfl (lv_at hl 0 rfl) ?_
      obtain ⟨t18, q19, hf⟩ := bnd hf
      refine x_getr fl_X10_152 X M q19 dX10_keep_93 ?_
      refine lv_bipush (v := (28 : Int32)) X.1 X.2.1 dX10_keep_96 (by decide) ?_
      refine lv_iload_n X.1 X.2.1 dX10_keep_98 rfl (lv_at hl 1 rfl) ?_
      refine lv_iadd X.1 X.2.1 dX10_keep_99 ?_
      refine lv_aload_n X.1 X.2.1 dX10_keep_100 rfl (lv_at hl 0 rfl) ?_
      obtain ⟨t20, q21, hf⟩ := bnd hf
      refine x_getr fl_X10_32 X M q21 dX10_keep_101 ?_
      refine lv_iload_n X.1 X.2.1 dX10_keep_104 rfl (lv_at hl 1 rfl) ?_
      obtain ⟨t22, q23, hf⟩ := bnd hf
      refine x_iald X M q23 dX10_keep_105 ?_
      obtain ⟨h24, q25, hf⟩ := bnd hf
      refine x_iast X M q25 dX10_keep_106 (fun H locs M => ?_)
      refine lv_iinc (v := (v1 + 1)) (lv' := [(1, .int (v1 + 1)), (0, .ref (gB G + v0))]) X.1 X.2.1 dX10_keep_107 hl (k := 1) rfl (by first | rfl | decide) (by decide) rfl (fun ls hl => ?_)
      refine lv_goto (tgt := 57) X.1 X.2.1 dX10_keep_110 (by decide) ?_
      exact ih v0 (v1 + 1) h24 hf _ _ _ M (lv_sub hl [1, 0] rfl)
def f_X10_keep_28 (N : Nat) (n : Nat) (v0 : Nat) (v1 : Int32) (h : Mem) : Option Mem := match n with
  | 0 => none
  | n + 1 =>
    if (12 : Int32) ≤ v1 then
      f_X10_keep_57 N N v0 (0 : Int32) h
    else
      (gR h v0 10 46).bind fun t2 =>
      (gR h v0 10 4).bind fun t4 =>
      (lI 100 h t4 v1).bind fun t6 =>
      (stI 100 h t2 ((8 : Int32) + v1) t6).bind fun h8 =>
      f_X10_keep_28 N n v0 (v1 + 1) h8
set_option maxRecDepth 100000 in
set_option maxHeartbeats 4000000 in
theorem w_X10_keep_28 {p : Program} {l : Launch} {e : Env} {s : State} {m : MethodId} {args : Array Value} {below : List Frame} {meth : Method} {c : Code} {G : Gx} {h' : Mem} {L : Nat} (X : CX G p s m args c cX10_keep 2 RX10) (hr : meth.sig.returnType = (Option.none : Option Jvm.ClassFile.FieldType)) (hk : meth.locks = false) (hL : s.heap.size + 0 = gB G + L) (N : Nat) : ∀ (n : Nat) (v0 : Nat) (v1 : Int32) (h : Mem), f_X10_keep_28 N n v0 v1 h = some h' → ∀ (H : Heap) (locs : List Loc) (ls : Array Slot), MS G s h H locs 0 → lv_has ls 2 [(0, .ref (gB G + v0)), (1, .int v1)] → W p l e (rm_X10_keep) s m args below meth c H locs 0 0 (QV G below args s h' L 0 0) (F0 m 28 ls []) := by
  intro n
  induction n with
  | zero =>
    intro v0 v1 h hf
    cases hf
  | succ n ih =>
    intro v0 v1 h hf H locs ls M hl
    rw [f_X10_keep_28] at hf
    refine lv_iload_n X.1 X.2.1 dX10_keep_28 rfl (lv_at hl 1 rfl) ?_
    refine lv_bipush (v := (12 : Int32)) X.1 X.2.1 dX10_keep_29 (by decide) ?_
    refine lv_icmp_ge (tgt := 55) X.1 X.2.1 dX10_keep_31 (by decide) (fun c1 => ?_) (fun c1 => ?_)
    · have hf := ifp c1 hf
      refine lv_iconst (v := (0 : Int32)) X.1 X.2.1 dX10_keep_55 (by decide) ?_
      refine lv_istore_n (lv' := [(1, .int (0 : Int32)), (0, .ref (gB G + v0))]) X.1 X.2.1 dX10_keep_56 rfl hl (by decide) rfl (fun ls hl => ?_)
      exact w_X10_keep_57 X hr hk hL N N v0 (0 : Int32) h hf _ _ _ M (lv_sub hl [1, 0] rfl)
    · have hf := ifn c1 hf
      refine lv_aload_n X.1 X.2.1 dX10_keep_34 rfl (lv_at hl 0 rfl) ?_
      obtain ⟨t2, q3, hf⟩ := bnd hf
      refine x_getr fl_X10_152 X M q3 dX10_keep_35 ?_
      refine lv_bipush (v := (8 : Int32)) X.1 X.2.1 dX10_keep_38 (by decide) ?_
      refine lv_iload_n X.1 X.2.1 dX10_keep_40 rfl (lv_at hl 1 rfl) ?_
      refine lv_iadd X.1 X.2.1 dX10_keep_41 ?_
      refine lv_aload_n X.1 X.2.1 dX10_keep_42 rfl (lv_at hl 0 rfl) ?_
      obtain ⟨t4, q5, hf⟩ := bnd hf
      refine x_getr fl_X10_23 X M q5 dX10_keep_43 ?_
      refine lv_iload_n X.1 X.2.1 dX10_keep_46 rfl (lv_at hl 1 rfl) ?_
      obtain ⟨t6, q7, hf⟩ := bnd hf
      refine x_iald X M q7 dX10_keep_47 ?_
      obtain ⟨h8, q9, hf⟩ := bnd hf
      refine x_iast X M q9 dX10_keep_48 (fun H locs M => ?_)
      refine lv_iinc (v := (v1 + 1)) (lv' := [(1, .int (v1 + 1)), (0, .ref (gB G + v0))]) X.1 X.2.1 dX10_keep_49 hl (k := 1) rfl (by first | rfl | decide) (by decide) rfl (fun ls hl => ?_)
      refine lv_goto (tgt := 28) X.1 X.2.1 dX10_keep_52 (by decide) ?_
      exact ih v0 (v1 + 1) h8 hf _ _ _ M (lv_sub hl [1, 0] rfl)
def f_X10_keep_2 (N : Nat) (n : Nat) (v0 : Nat) (v1 : Int32) (h : Mem) : Option Mem := match n with
  | 0 => none
  | n + 1 =>
    if (8 : Int32) ≤ v1 then
      f_X10_keep_28 N N v0 (0 : Int32) h
    else
      (gR h v0 10 46).bind fun t2 =>
      (gR h v0 10 10).bind fun t4 =>
      (lI 100 h t4 v1).bind fun t6 =>
      (stI 100 h t2 v1 t6).bind fun h8 =>
      f_X10_keep_2 N n v0 (v1 + 1) h8
set_option maxRecDepth 100000 in
set_option maxHeartbeats 4000000 in
theorem w_X10_keep_2 {p : Program} {l : Launch} {e : Env} {s : State} {m : MethodId} {args : Array Value} {below : List Frame} {meth : Method} {c : Code} {G : Gx} {h' : Mem} {L : Nat} (X : CX G p s m args c cX10_keep 2 RX10) (hr : meth.sig.returnType = (Option.none : Option Jvm.ClassFile.FieldType)) (hk : meth.locks = false) (hL : s.heap.size + 0 = gB G + L) (N : Nat) : ∀ (n : Nat) (v0 : Nat) (v1 : Int32) (h : Mem), f_X10_keep_2 N n v0 v1 h = some h' → ∀ (H : Heap) (locs : List Loc) (ls : Array Slot), MS G s h H locs 0 → lv_has ls 2 [(0, .ref (gB G + v0)), (1, .int v1)] → W p l e (rm_X10_keep) s m args below meth c H locs 0 0 (QV G below args s h' L 0 0) (F0 m 2 ls []) := by
  intro n
  induction n with
  | zero =>
    intro v0 v1 h hf
    cases hf
  | succ n ih =>
    intro v0 v1 h hf H locs ls M hl
    rw [f_X10_keep_2] at hf
    refine lv_iload_n X.1 X.2.1 dX10_keep_2 rfl (lv_at hl 1 rfl) ?_
    refine lv_bipush (v := (8 : Int32)) X.1 X.2.1 dX10_keep_3 (by decide) ?_
    refine lv_icmp_ge (tgt := 26) X.1 X.2.1 dX10_keep_5 (by decide) (fun c1 => ?_) (fun c1 => ?_)
    · have hf := ifp c1 hf
      refine lv_iconst (v := (0 : Int32)) X.1 X.2.1 dX10_keep_26 (by decide) ?_
      refine lv_istore_n (lv' := [(1, .int (0 : Int32)), (0, .ref (gB G + v0))]) X.1 X.2.1 dX10_keep_27 rfl hl (by decide) rfl (fun ls hl => ?_)
      exact w_X10_keep_28 X hr hk hL N N v0 (0 : Int32) h hf _ _ _ M (lv_sub hl [1, 0] rfl)
    · have hf := ifn c1 hf
      refine lv_aload_n X.1 X.2.1 dX10_keep_8 rfl (lv_at hl 0 rfl) ?_
      obtain ⟨t2, q3, hf⟩ := bnd hf
      refine x_getr fl_X10_152 X M q3 dX10_keep_9 ?_
      refine lv_iload_n X.1 X.2.1 dX10_keep_12 rfl (lv_at hl 1 rfl) ?_
      refine lv_aload_n X.1 X.2.1 dX10_keep_13 rfl (lv_at hl 0 rfl) ?_
      obtain ⟨t4, q5, hf⟩ := bnd hf
      refine x_getr fl_X10_41 X M q5 dX10_keep_14 ?_
      refine lv_iload_n X.1 X.2.1 dX10_keep_17 rfl (lv_at hl 1 rfl) ?_
      obtain ⟨t6, q7, hf⟩ := bnd hf
      refine x_iald X M q7 dX10_keep_18 ?_
      obtain ⟨h8, q9, hf⟩ := bnd hf
      refine x_iast X M q9 dX10_keep_19 (fun H locs M => ?_)
      refine lv_iinc (v := (v1 + 1)) (lv' := [(1, .int (v1 + 1)), (0, .ref (gB G + v0))]) X.1 X.2.1 dX10_keep_20 hl (k := 1) rfl (by first | rfl | decide) (by decide) rfl (fun ls hl => ?_)
      refine lv_goto (tgt := 2) X.1 X.2.1 dX10_keep_23 (by decide) ?_
      exact ih v0 (v1 + 1) h8 hf _ _ _ M (lv_sub hl [1, 0] rfl)
def f_X10_keep (N : Nat) (v0 : Nat) (h : Mem) : Option Mem :=
  f_X10_keep_2 N N v0 (0 : Int32) h
set_option maxRecDepth 100000 in
set_option maxHeartbeats 4000000 in
theorem w_X10_keep {p : Program} {l : Launch} {e : Env} {s : State} {m : MethodId} {args : Array Value} {below : List Frame} {meth : Method} {c : Code} {G : Gx} {h' : Mem} {L : Nat} (X : CX G p s m args c cX10_keep 2 RX10) (hr : meth.sig.returnType = (Option.none : Option Jvm.ClassFile.FieldType)) (hk : meth.locks = false) (hL : s.heap.size + 0 = gB G + L) (N : Nat) : ∀ (v0 : Nat) (h : Mem), f_X10_keep N v0 h = some h' → ∀ (H : Heap) (locs : List Loc) (ls : Array Slot), MS G s h H locs 0 → lv_has ls 2 [(0, .ref (gB G + v0))] → W p l e (rm_X10_keep) s m args below meth c H locs 0 0 (QV G below args s h' L 0 0) (F0 m 0 ls []) := by
  intro v0 h hf H locs ls M hl
  rw [f_X10_keep] at hf
  refine lv_iconst (v := (0 : Int32)) X.1 X.2.1 dX10_keep_0 (by decide) ?_
  refine lv_istore_n (lv' := [(1, .int (0 : Int32)), (0, .ref (gB G + v0))]) X.1 X.2.1 dX10_keep_1 rfl hl (by decide) rfl (fun ls hl => ?_)
  exact w_X10_keep_2 X hr hk hL N N v0 (0 : Int32) h hf _ _ _ M (lv_sub hl [1, 0] rfl)
theorem c_X10_keep (l : Launch) (G : Gx) (N : Nat) (v0 : Nat) (h : Mem) (h' : Mem) (hf : f_X10_keep N v0 h = some h') : MetG l G yX10_keep (.code yX10_keep cX10_keep 2 (Option.none : Option Jvm.ClassFile.FieldType)) rm_X10_keep [.ref (gB G + v0)] h (QcV G h' (h.1.length + 0)) 0 0 :=
  x_met (by decide) rfl (Nat.le_of_ble_eq_true rfl) (fun p e s m args below meth c ls X M hr hk hin hl => w_X10_keep X hr hk (by have := M.2.2; omega) N v0 h hf _ _ ls M hl)
abbrev rm_X10_isRoom : Room := { frames := 2, cells := 0, slots := 0, locals := 63 }
def f_X10_isRoom_2 (N : Nat) (n : Nat) (v0 : Nat) (v1 : Int32) (h : Mem) : Option (Int32 × Mem) := match n with
  | 0 => none
  | n + 1 =>
    (gI h v0 10 0).bind fun t1 =>
    if t1 ≤ v1 then
      some ((1 : Int32), h)
    else
      (ck h v0 10).bind fun _ =>
      b2 (f_X10_manyIn N v0 v1 h) fun t7 h6 =>
      (gR h6 v0 10 3).bind fun t8 =>
      (lI 100 h6 t8 v1).bind fun t10 =>
      if t7 ≤ t10 then
        f_X10_isRoom_2 N n v0 (v1 + 1) h6
      else
        some ((0 : Int32), h6)
set_option maxRecDepth 100000 in
set_option maxHeartbeats 4000000 in
theorem w_X10_isRoom_2 {p : Program} {l : Launch} {e : Env} {s : State} {m : MethodId} {args : Array Value} {below : List Frame} {meth : Method} {c : Code} {G : Gx} {r : Int32} {h' : Mem} (X : CX G p s m args c cX10_isRoom 2 RX10) (hr : meth.sig.returnType = (Option.some Jvm.ClassFile.FieldType.boolean)) (hk : meth.locks = false) (N : Nat) : ∀ (n : Nat) (v0 : Nat) (v1 : Int32) (h : Mem), f_X10_isRoom_2 N n v0 v1 h = some (r, h') → ∀ (H : Heap) (locs : List Loc) (ls : Array Slot), MS G s h H locs 0 → lv_has ls 2 [(0, .ref (gB G + v0)), (1, .int v1)] → W p l e (rm_X10_isRoom) s m args below meth c H locs 0 0 (QI G below args s r h' 0 0) (F0 m 2 ls []) := by
  intro n
  induction n with
  | zero =>
    intro v0 v1 h hf
    cases hf
  | succ n ih =>
    intro v0 v1 h hf H locs ls M hl
    rw [f_X10_isRoom_2] at hf
    refine lv_iload_n X.1 X.2.1 dX10_isRoom_2 rfl (lv_at hl 1 rfl) ?_
    refine lv_aload_n X.1 X.2.1 dX10_isRoom_3 rfl (lv_at hl 0 rfl) ?_
    obtain ⟨t1, q2, hf⟩ := bnd hf
    refine x_geti fl_X10_7 X M q2 dX10_isRoom_4 ?_
    refine lv_icmp_ge (tgt := 32) X.1 X.2.1 dX10_isRoom_7 (by decide) (fun c3 => ?_) (fun c3 => ?_)
    · have hf := ifp c3 hf
      refine lv_iconst (v := (1 : Int32)) X.1 X.2.1 dX10_isRoom_32 (by decide) ?_
      obtain ⟨rfl, rfl⟩ := rt2 hf
      exact x_zret X hr hk rfl M dX10_isRoom_33
    · have hf := ifn c3 hf
      refine lv_aload_n X.1 X.2.1 dX10_isRoom_10 rfl (lv_at hl 0 rfl) ?_
      refine lv_iload_n X.1 X.2.1 dX10_isRoom_11 rfl (lv_at hl 1 rfl) ?_
      obtain ⟨⟨⟩, q4, hf⟩ := bnd hf
      obtain ⟨t7, h6, q5, hf⟩ := bnd2 hf
      refine x_callVi (As := [.int v1]) cf_X10_201 (c_X10_manyIn l G N v0 v1 h _ _ q5) rfl ⟨rfl, rfl, Nat.le_of_ble_eq_true rfl, Nat.le_of_ble_eq_true rfl⟩ ⟨Nat.le_of_ble_eq_true rfl, Nat.le_of_ble_eq_true rfl⟩ X M (x_recv cls_X10 X M q4) rfl rfl hl.1 (Nat.le_of_ble_eq_true rfl) dX10_isRoom_12 (fun H locs M => ?_)
      refine lv_aload_n X.1 X.2.1 dX10_isRoom_15 rfl (lv_at hl 0 rfl) ?_
      obtain ⟨t8, q9, hf⟩ := bnd hf
      refine x_getr fl_X10_19 X M q9 dX10_isRoom_16 ?_
      refine lv_iload_n X.1 X.2.1 dX10_isRoom_19 rfl (lv_at hl 1 rfl) ?_
      obtain ⟨t10, q11, hf⟩ := bnd hf
      refine x_iald X M q11 dX10_isRoom_20 ?_
      refine lv_icmp_le (tgt := 26) X.1 X.2.1 dX10_isRoom_21 (by decide) (fun c12 => ?_) (fun c12 => ?_)
      · have hf := ifp c12 hf
        refine lv_iinc (v := (v1 + 1)) (lv' := [(1, .int (v1 + 1)), (0, .ref (gB G + v0))]) X.1 X.2.1 dX10_isRoom_26 hl (k := 1) rfl (by first | rfl | decide) (by decide) rfl (fun ls hl => ?_)
        refine lv_goto (tgt := 2) X.1 X.2.1 dX10_isRoom_29 (by decide) ?_
        exact ih v0 (v1 + 1) h6 hf _ _ _ M (lv_sub hl [1, 0] rfl)
      · have hf := ifn c12 hf
        refine lv_iconst (v := (0 : Int32)) X.1 X.2.1 dX10_isRoom_24 (by decide) ?_
        obtain ⟨rfl, rfl⟩ := rt2 hf
        exact x_zret X hr hk rfl M dX10_isRoom_25
def f_X10_isRoom (N : Nat) (v0 : Nat) (h : Mem) : Option (Int32 × Mem) :=
  f_X10_isRoom_2 N N v0 (0 : Int32) h
set_option maxRecDepth 100000 in
set_option maxHeartbeats 4000000 in
theorem w_X10_isRoom {p : Program} {l : Launch} {e : Env} {s : State} {m : MethodId} {args : Array Value} {below : List Frame} {meth : Method} {c : Code} {G : Gx} {r : Int32} {h' : Mem} (X : CX G p s m args c cX10_isRoom 2 RX10) (hr : meth.sig.returnType = (Option.some Jvm.ClassFile.FieldType.boolean)) (hk : meth.locks = false) (N : Nat) : ∀ (v0 : Nat) (h : Mem), f_X10_isRoom N v0 h = some (r, h') → ∀ (H : Heap) (locs : List Loc) (ls : Array Slot), MS G s h H locs 0 → lv_has ls 2 [(0, .ref (gB G + v0))] → W p l e (rm_X10_isRoom) s m args below meth c H locs 0 0 (QI G below args s r h' 0 0) (F0 m 0 ls []) := by
  intro v0 h hf H locs ls M hl
  rw [f_X10_isRoom] at hf
  refine lv_iconst (v := (0 : Int32)) X.1 X.2.1 dX10_isRoom_0 (by decide) ?_
  refine lv_istore_n (lv' := [(1, .int (0 : Int32)), (0, .ref (gB G + v0))]) X.1 X.2.1 dX10_isRoom_1 rfl hl (by decide) rfl (fun ls hl => ?_)
  exact w_X10_isRoom_2 X hr hk N N v0 (0 : Int32) h hf _ _ _ M (lv_sub hl [1, 0] rfl)
theorem c_X10_isRoom (l : Launch) (G : Gx) (N : Nat) (v0 : Nat) (h : Mem) (r : Int32) (h' : Mem) (hf : f_X10_isRoom N v0 h = some (r, h')) : MetG l G yX10_isRoom (.code yX10_isRoom cX10_isRoom 2 (Option.some Jvm.ClassFile.FieldType.boolean)) rm_X10_isRoom [.ref (gB G + v0)] h (QcI G r h') 0 0 :=
  x_met (by decide) rfl (Nat.le_of_ble_eq_true rfl) (fun p e s m args below meth c ls X M hr hk hin hl => w_X10_isRoom X hr hk N v0 h hf _ _ ls M hl)
abbrev rm_X10_putBack : Room := { frames := 1, cells := 0, slots := 0, locals := 40 }
def f_X10_putBack_57 (N : Nat) (n : Nat) (v0 : Nat) (v1 : Int32) (h : Mem) : Option Mem := match n with
  | 0 => none
  | n + 1 =>
    if (4 : Int32) ≤ v1 then
      some h
    else
      (gR h v0 10 5).bind fun t2 =>
      (gR h v0 10 46).bind fun t4 =>
      (lI 100 h t4 ((20 : Int32) + v1)).bind fun t6 =>
      (stI 100 h t2 v1 t6).bind fun h8 =>
      (gR h8 v0 10 6).bind fun t10 =>
      (gR h8 v0 10 46).bind fun t12 =>
      (lI 100 h8 t12 ((24 : Int32) + v1)).bind fun t14 =>
      (stI 100 h8 t10 v1 t14).bind fun h16 =>
      (gR h16 v0 10 7).bind fun t18 =>
      (gR h16 v0 10 46).bind fun t20 =>
      (lI 100 h16 t20 ((28 : Int32) + v1)).bind fun t22 =>
      (stI 100 h16 t18 v1 t22).bind fun h24 =>
      f_X10_putBack_57 N n v0 (v1 + 1) h24
set_option maxRecDepth 100000 in
set_option maxHeartbeats 4000000 in
theorem w_X10_putBack_57 {p : Program} {l : Launch} {e : Env} {s : State} {m : MethodId} {args : Array Value} {below : List Frame} {meth : Method} {c : Code} {G : Gx} {h' : Mem} {L : Nat} (X : CX G p s m args c cX10_putBack 2 RX10) (hr : meth.sig.returnType = (Option.none : Option Jvm.ClassFile.FieldType)) (hk : meth.locks = false) (hL : s.heap.size + 0 = gB G + L) (N : Nat) : ∀ (n : Nat) (v0 : Nat) (v1 : Int32) (h : Mem), f_X10_putBack_57 N n v0 v1 h = some h' → ∀ (H : Heap) (locs : List Loc) (ls : Array Slot), MS G s h H locs 0 → lv_has ls 2 [(0, .ref (gB G + v0)), (1, .int v1)] → W p l e (rm_X10_putBack) s m args below meth c H locs 0 0 (QV G below args s h' L 0 0) (F0 m 57 ls []) := by
  intro n
  induction n with
  | zero =>
    intro v0 v1 h hf
    cases hf
  | succ n ih =>
    intro v0 v1 h hf H locs ls M hl
    rw [f_X10_putBack_57] at hf
    refine lv_iload_n X.1 X.2.1 dX10_putBack_57 rfl (lv_at hl 1 rfl) ?_
    refine lv_iconst (v := (4 : Int32)) X.1 X.2.1 dX10_putBack_58 (by decide) ?_
    refine lv_icmp_ge (tgt := 113) X.1 X.2.1 dX10_putBack_59 (by decide) (fun c1 => ?_) (fun c1 => ?_)
    · have hf := ifp c1 hf
      obtain rfl := rt1 hf
      exact x_vret X hr hk M hL dX10_putBack_113
    · have hf := ifn c1 hf
      refine lv_aload_n X.1 X.2.1 dX10_putBack_62 rfl (lv_at hl 0 rfl) ?_
      obtain ⟨t2, q3, hf⟩ := bnd hf
      refine x_getr fl_X10_26 X M q3 dX10_putBack_63 ?_
      refine lv_iload_n X.1 X.2.1 dX10_putBack_66 rfl (lv_at hl 1 rfl) ?_
      refine lv_aload_n X.1 X.2.1 dX10_putBack_67 rfl (lv_at hl 0 rfl) ?_
      obtain ⟨t4, q5, hf⟩ := bnd hf
      refine x_getr fl_X10_152 X M q5 dX10_putBack_68 ?_
      refine lv_bipush (v := (20 : Int32)) X.1 X.2.1 dX10_putBack_71 (by decide) ?_
      refine lv_iload_n X.1 X.2.1 dX10_putBack_73 rfl (lv_at hl 1 rfl) ?_
      refine lv_iadd X.1 X.2.1 dX10_putBack_74 ?_
      obtain ⟨t6, q7, hf⟩ := bnd hf
      refine x_iald X M q7 dX10_putBack_75 ?_
      obtain ⟨h8, q9, hf⟩ := bnd hf
      refine x_iast X M q9 dX10_putBack_76 (fun H locs M => ?_)
      refine lv_aload_n X.1 X.2.1 dX10_putBack_77 rfl (lv_at hl 0 rfl) ?_
      obtain ⟨t10, q11, hf⟩ := bnd hf
      refine x_getr fl_X10_29 X M q11 dX10_putBack_78 ?_
      refine lv_iload_n X.1 X.2.1 dX10_putBack_81 rfl (lv_at hl 1 rfl) ?_
      refine lv_aload_n X.1 X.2.1 dX10_putBack_82 rfl (lv_at hl 0 rfl) ?_
      obtain ⟨t12, q13, hf⟩ := bnd hf
      refine x_getr fl_X10_152 X M q13 dX10_putBack_83 ?_
      refine lv_bipush (v := (24 : Int32)) X.1 X.2.1 dX10_putBack_86 (by decide) ?_
      refine lv_iload_n X.1 X.2.1 dX10_putBack_88 rfl (lv_at hl 1 rfl) ?_
      refine lv_iadd X.1 X.2.1 dX10_putBack_89 ?_
      obtain ⟨t14, q15, hf⟩ := bnd hf
      refine x_iald X M q15 dX10_putBack_90 ?_
      obtain ⟨h16, q17, hf⟩ := bnd hf
      refine x_iast X M q17 dX10_putBack_91 (fun H locs M => ?_)
      refine lv_aload_n X.1 X.2.1 dX10_putBack_92 rfl (lv_at hl 0 rfl) ?_
      obtain ⟨t18, q19, hf⟩ := bnd hf
      refine x_getr fl_X10_32 X M q19 dX10_putBack_93 ?_
      refine lv_iload_n X.1 X.2.1 dX10_putBack_96 rfl (lv_at hl 1 rfl) ?_
      refine lv_aload_n X.1 X.2.1 dX10_putBack_97 rfl (lv_at hl 0 rfl) ?_
      obtain ⟨t20, q21, hf⟩ := bnd hf
      refine x_getr fl_X10_152 X M q21 dX10_putBack_98 ?_
      refine lv_bipush (v := (28 : Int32)) X.1 X.2.1 dX10_putBack_101 (by decide) ?_
      refine lv_iload_n X.1 X.2.1 dX10_putBack_103 rfl (lv_at hl 1 rfl) ?_
      refine lv_iadd X.1 X.2.1 dX10_putBack_104 ?_
      obtain ⟨t22, q23, hf⟩ := bnd hf
      refine x_iald X M q23 dX10_putBack_105 ?_
      obtain ⟨h24, q25, hf⟩ := bnd hf
      refine x_iast X M q25 dX10_putBack_106 (fun H locs M => ?_)
      refine lv_iinc (v := (v1 + 1)) (lv' := [(1, .int (v1 + 1)), (0, .ref (gB G + v0))]) X.1 X.2.1 dX10_putBack_107 hl (k := 1) rfl (by first | rfl | decide) (by decide) rfl (fun ls hl => ?_)
      refine lv_goto (tgt := 57) X.1 X.2.1 dX10_putBack_110 (by decide) ?_
      exact ih v0 (v1 + 1) h24 hf _ _ _ M (lv_sub hl [1, 0] rfl)
def f_X10_putBack_28 (N : Nat) (n : Nat) (v0 : Nat) (v1 : Int32) (h : Mem) : Option Mem := match n with
  | 0 => none
  | n + 1 =>
    if (12 : Int32) ≤ v1 then
      f_X10_putBack_57 N N v0 (0 : Int32) h
    else
      (gR h v0 10 4).bind fun t2 =>
      (gR h v0 10 46).bind fun t4 =>
      (lI 100 h t4 ((8 : Int32) + v1)).bind fun t6 =>
      (stI 100 h t2 v1 t6).bind fun h8 =>
      f_X10_putBack_28 N n v0 (v1 + 1) h8
set_option maxRecDepth 100000 in
set_option maxHeartbeats 4000000 in
theorem w_X10_putBack_28 {p : Program} {l : Launch} {e : Env} {s : State} {m : MethodId} {args : Array Value} {below : List Frame} {meth : Method} {c : Code} {G : Gx} {h' : Mem} {L : Nat} (X : CX G p s m args c cX10_putBack 2 RX10) (hr : meth.sig.returnType = (Option.none : Option Jvm.ClassFile.FieldType)) (hk : meth.locks = false) (hL : s.heap.size + 0 = gB G + L) (N : Nat) : ∀ (n : Nat) (v0 : Nat) (v1 : Int32) (h : Mem), f_X10_putBack_28 N n v0 v1 h = some h' → ∀ (H : Heap) (locs : List Loc) (ls : Array Slot), MS G s h H locs 0 → lv_has ls 2 [(0, .ref (gB G + v0)), (1, .int v1)] → W p l e (rm_X10_putBack) s m args below meth c H locs 0 0 (QV G below args s h' L 0 0) (F0 m 28 ls []) := by
  intro n
  induction n with
  | zero =>
    intro v0 v1 h hf
    cases hf
  | succ n ih =>
    intro v0 v1 h hf H locs ls M hl
    rw [f_X10_putBack_28] at hf
    refine lv_iload_n X.1 X.2.1 dX10_putBack_28 rfl (lv_at hl 1 rfl) ?_
    refine lv_bipush (v := (12 : Int32)) X.1 X.2.1 dX10_putBack_29 (by decide) ?_
    refine lv_icmp_ge (tgt := 55) X.1 X.2.1 dX10_putBack_31 (by decide) (fun c1 => ?_) (fun c1 => ?_)
    · have hf := ifp c1 hf
      refine lv_iconst (v := (0 : Int32)) X.1 X.2.1 dX10_putBack_55 (by decide) ?_
      refine lv_istore_n (lv' := [(1, .int (0 : Int32)), (0, .ref (gB G + v0))]) X.1 X.2.1 dX10_putBack_56 rfl hl (by decide) rfl (fun ls hl => ?_)
      exact w_X10_putBack_57 X hr hk hL N N v0 (0 : Int32) h hf _ _ _ M (lv_sub hl [1, 0] rfl)
    · have hf := ifn c1 hf
      refine lv_aload_n X.1 X.2.1 dX10_putBack_34 rfl (lv_at hl 0 rfl) ?_
      obtain ⟨t2, q3, hf⟩ := bnd hf
      refine x_getr fl_X10_23 X M q3 dX10_putBack_35 ?_
      refine lv_iload_n X.1 X.2.1 dX10_putBack_38 rfl (lv_at hl 1 rfl) ?_
      refine lv_aload_n X.1 X.2.1 dX10_putBack_39 rfl (lv_at hl 0 rfl) ?_
      obtain ⟨t4, q5, hf⟩ := bnd hf
      refine x_getr fl_X10_152 X M q5 dX10_putBack_40 ?_
      refine lv_bipush (v := (8 : Int32)) X.1 X.2.1 dX10_putBack_43 (by decide) ?_
      refine lv_iload_n X.1 X.2.1 dX10_putBack_45 rfl (lv_at hl 1 rfl) ?_
      refine lv_iadd X.1 X.2.1 dX10_putBack_46 ?_
      obtain ⟨t6, q7, hf⟩ := bnd hf
      refine x_iald X M q7 dX10_putBack_47 ?_
      obtain ⟨h8, q9, hf⟩ := bnd hf
      refine x_iast X M q9 dX10_putBack_48 (fun H locs M => ?_)
      refine lv_iinc (v := (v1 + 1)) (lv' := [(1, .int (v1 + 1)), (0, .ref (gB G + v0))]) X.1 X.2.1 dX10_putBack_49 hl (k := 1) rfl (by first | rfl | decide) (by decide) rfl (fun ls hl => ?_)
      refine lv_goto (tgt := 28) X.1 X.2.1 dX10_putBack_52 (by decide) ?_
      exact ih v0 (v1 + 1) h8 hf _ _ _ M (lv_sub hl [1, 0] rfl)
def f_X10_putBack_2 (N : Nat) (n : Nat) (v0 : Nat) (v1 : Int32) (h : Mem) : Option Mem := match n with
  | 0 => none
  | n + 1 =>
    if (8 : Int32) ≤ v1 then
      f_X10_putBack_28 N N v0 (0 : Int32) h
    else
      (gR h v0 10 10).bind fun t2 =>
      (gR h v0 10 46).bind fun t4 =>
      (lI 100 h t4 v1).bind fun t6 =>
      (stI 100 h t2 v1 t6).bind fun h8 =>
      f_X10_putBack_2 N n v0 (v1 + 1) h8
set_option maxRecDepth 100000 in
set_option maxHeartbeats 4000000 in
theorem w_X10_putBack_2 {p : Program} {l : Launch} {e : Env} {s : State} {m : MethodId} {args : Array Value} {below : List Frame} {meth : Method} {c : Code} {G : Gx} {h' : Mem} {L : Nat} (X : CX G p s m args c cX10_putBack 2 RX10) (hr : meth.sig.returnType = (Option.none : Option Jvm.ClassFile.FieldType)) (hk : meth.locks = false) (hL : s.heap.size + 0 = gB G + L) (N : Nat) : ∀ (n : Nat) (v0 : Nat) (v1 : Int32) (h : Mem), f_X10_putBack_2 N n v0 v1 h = some h' → ∀ (H : Heap) (locs : List Loc) (ls : Array Slot), MS G s h H locs 0 → lv_has ls 2 [(0, .ref (gB G + v0)), (1, .int v1)] → W p l e (rm_X10_putBack) s m args below meth c H locs 0 0 (QV G below args s h' L 0 0) (F0 m 2 ls []) := by
  intro n
  induction n with
  | zero =>
    intro v0 v1 h hf
    cases hf
  | succ n ih =>
    intro v0 v1 h hf H locs ls M hl
    rw [f_X10_putBack_2] at hf
    refine lv_iload_n X.1 X.2.1 dX10_putBack_2 rfl (lv_at hl 1 rfl) ?_
    refine lv_bipush (v := (8 : Int32)) X.1 X.2.1 dX10_putBack_3 (by decide) ?_
    refine lv_icmp_ge (tgt := 26) X.1 X.2.1 dX10_putBack_5 (by decide) (fun c1 => ?_) (fun c1 => ?_)
    · have hf := ifp c1 hf
      refine lv_iconst (v := (0 : Int32)) X.1 X.2.1 dX10_putBack_26 (by decide) ?_
      refine lv_istore_n (lv' := [(1, .int (0 : Int32)), (0, .ref (gB G + v0))]) X.1 X.2.1 dX10_putBack_27 rfl hl (by decide) rfl (fun ls hl => ?_)
      exact w_X10_putBack_28 X hr hk hL N N v0 (0 : Int32) h hf _ _ _ M (lv_sub hl [1, 0] rfl)
    · have hf := ifn c1 hf
      refine lv_aload_n X.1 X.2.1 dX10_putBack_8 rfl (lv_at hl 0 rfl) ?_
      obtain ⟨t2, q3, hf⟩ := bnd hf
      refine x_getr fl_X10_41 X M q3 dX10_putBack_9 ?_
      refine lv_iload_n X.1 X.2.1 dX10_putBack_12 rfl (lv_at hl 1 rfl) ?_
      refine lv_aload_n X.1 X.2.1 dX10_putBack_13 rfl (lv_at hl 0 rfl) ?_
      obtain ⟨t4, q5, hf⟩ := bnd hf
      refine x_getr fl_X10_152 X M q5 dX10_putBack_14 ?_
      refine lv_iload_n X.1 X.2.1 dX10_putBack_17 rfl (lv_at hl 1 rfl) ?_
      obtain ⟨t6, q7, hf⟩ := bnd hf
      refine x_iald X M q7 dX10_putBack_18 ?_
      obtain ⟨h8, q9, hf⟩ := bnd hf
      refine x_iast X M q9 dX10_putBack_19 (fun H locs M => ?_)
      refine lv_iinc (v := (v1 + 1)) (lv' := [(1, .int (v1 + 1)), (0, .ref (gB G + v0))]) X.1 X.2.1 dX10_putBack_20 hl (k := 1) rfl (by first | rfl | decide) (by decide) rfl (fun ls hl => ?_)
      refine lv_goto (tgt := 2) X.1 X.2.1 dX10_putBack_23 (by decide) ?_
      exact ih v0 (v1 + 1) h8 hf _ _ _ M (lv_sub hl [1, 0] rfl)
def f_X10_putBack (N : Nat) (v0 : Nat) (h : Mem) : Option Mem :=
  f_X10_putBack_2 N N v0 (0 : Int32) h
set_option maxRecDepth 100000 in
set_option maxHeartbeats 4000000 in
theorem w_X10_putBack {p : Program} {l : Launch} {e : Env} {s : State} {m : MethodId} {args : Array Value} {below : List Frame} {meth : Method} {c : Code} {G : Gx} {h' : Mem} {L : Nat} (X : CX G p s m args c cX10_putBack 2 RX10) (hr : meth.sig.returnType = (Option.none : Option Jvm.ClassFile.FieldType)) (hk : meth.locks = false) (hL : s.heap.size + 0 = gB G + L) (N : Nat) : ∀ (v0 : Nat) (h : Mem), f_X10_putBack N v0 h = some h' → ∀ (H : Heap) (locs : List Loc) (ls : Array Slot), MS G s h H locs 0 → lv_has ls 2 [(0, .ref (gB G + v0))] → W p l e (rm_X10_putBack) s m args below meth c H locs 0 0 (QV G below args s h' L 0 0) (F0 m 0 ls []) := by
  intro v0 h hf H locs ls M hl
  rw [f_X10_putBack] at hf
  refine lv_iconst (v := (0 : Int32)) X.1 X.2.1 dX10_putBack_0 (by decide) ?_
  refine lv_istore_n (lv' := [(1, .int (0 : Int32)), (0, .ref (gB G + v0))]) X.1 X.2.1 dX10_putBack_1 rfl hl (by decide) rfl (fun ls hl => ?_)
  exact w_X10_putBack_2 X hr hk hL N N v0 (0 : Int32) h hf _ _ _ M (lv_sub hl [1, 0] rfl)
theorem c_X10_putBack (l : Launch) (G : Gx) (N : Nat) (v0 : Nat) (h : Mem) (h' : Mem) (hf : f_X10_putBack N v0 h = some h') : MetG l G yX10_putBack (.code yX10_putBack cX10_putBack 2 (Option.none : Option Jvm.ClassFile.FieldType)) rm_X10_putBack [.ref (gB G + v0)] h (QcV G h' (h.1.length + 0)) 0 0 :=
  x_met (by decide) rfl (Nat.le_of_ble_eq_true rfl) (fun p e s m args below meth c ls X M hr hk hin hl => w_X10_putBack X hr hk (by have := M.2.2; omega) N v0 h hf _ _ ls M hl)
abbrev rm_X10_judge : Room := { frames := 17, cells := 0, slots := 0, locals := 413 }
def f_X10_judge_179 (N : Nat) (v0 : Nat) (s0 : Int32) (h : Mem) : Option (Int32 × Mem) :=
  (ck h v0 10).bind fun _ =>
  (f_X10_putBack N v0 h).bind fun h3 =>
  some (s0, h3)
set_option maxRecDepth 100000 in
set_option maxHeartbeats 4000000 in
theorem w_X10_judge_179 {p : Program} {l : Launch} {e : Env} {s : State} {m : MethodId} {args : Array Value} {below : List Frame} {meth : Method} {c : Code} {G : Gx} {r : Int32} {h' : Mem} (X : CX G p s m args c cX10_judge 5 RX10) (hr : meth.sig.returnType = (Option.some Jvm.ClassFile.FieldType.int)) (hk : meth.locks = false) (N : Nat) : ∀ (v0 : Nat) (s0 : Int32) (h : Mem), f_X10_judge_179 N v0 s0 h = some (r, h') → ∀ (H : Heap) (locs : List Loc) (ls : Array Slot), MS G s h H locs 0 → lv_has ls 5 [(0, .ref (gB G + v0))] → W p l e (rm_X10_judge) s m args below meth c H locs 0 0 (QI G below args s r h' 0 0) (F0 m 179 ls [.int s0]) := by
  intro v0 s0 h hf H locs ls M hl
  rw [f_X10_judge_179] at hf
  refine lv_istore (lv' := [(4, .int s0), (0, .ref (gB G + v0))]) X.1 X.2.1 dX10_judge_179 hl (by decide) rfl (fun ls hl => ?_)
  refine lv_aload_n X.1 X.2.1 dX10_judge_181 rfl (lv_at hl 1 rfl) ?_
  obtain ⟨⟨⟩, q1, hf⟩ := bnd hf
  obtain ⟨h3, q2, hf⟩ := bnd hf
  refine x_callVv (As := []) cf_X10_360 (c_X10_putBack l G N v0 h _ q2) rfl ⟨rfl, rfl, Nat.le_of_ble_eq_true rfl, Nat.le_of_ble_eq_true rfl⟩ ⟨Nat.le_of_ble_eq_true rfl, Nat.le_of_ble_eq_true rfl⟩ X M (x_recv cls_X10 X M q1) rfl rfl hl.1 (Nat.le_of_ble_eq_true rfl) dX10_judge_182 (fun H locs M => ?_)
  refine lv_iload X.1 X.2.1 dX10_judge_185 (lv_at hl 0 rfl) ?_
  obtain ⟨rfl, rfl⟩ := rt2 hf
  exact x_iret X hr hk M dX10_judge_187
def f_X10_judge_117 (N : Nat) (n : Nat) (v0 : Nat) (v1 : Int32) (v2 : Int32) (v3 : Int32) (v4 : Int32) (h : Mem) : Option (Int32 × Mem) := match n with
  | 0 => none
  | n + 1 =>
    (gI h v0 10 1).bind fun t1 =>
    if t1 ≤ v4 then
      (ck h v0 10).bind fun _ =>
      b2 (f_X10_isRoom N v0 h) fun t7 h6 =>
      if t7 = 0 then
        f_X10_judge_179 N v0 (-3 : Int32) h6
      else
        (ck h6 v0 10).bind fun _ =>
        b2 (f_X10_isRest N v0 v3 h6) fun t12 h11 =>
        if t12 = 0 then
          f_X10_judge_179 N v0 (0 : Int32) h11
        else
          f_X10_judge_179 N v0 (1 : Int32) h11
    else
      (gR h v0 10 10).bind fun t14 =>
      (gR h v0 10 59).bind fun t16 =>
      (lJ h t16 ((((60 : Int32) * v1) + v2) + v4)).bind fun t18 =>
      (stI 100 h t14 v4 ((Int64.toInt32 t18))).bind fun h20 =>
      f_X10_judge_117 N n v0 v1 v2 v3 (v4 + 1) h20
set_option maxRecDepth 100000 in
set_option maxHeartbeats 4000000 in
theorem w_X10_judge_117 {p : Program} {l : Launch} {e : Env} {s : State} {m : MethodId} {args : Array Value} {below : List Frame} {meth : Method} {c : Code} {G : Gx} {r : Int32} {h' : Mem} (X : CX G p s m args c cX10_judge 5 RX10) (hr : meth.sig.returnType = (Option.some Jvm.ClassFile.FieldType.int)) (hk : meth.locks = false) (N : Nat) : ∀ (n : Nat) (v0 : Nat) (v1 : Int32) (v2 : Int32) (v3 : Int32) (v4 : Int32) (h : Mem), f_X10_judge_117 N n v0 v1 v2 v3 v4 h = some (r, h') → ∀ (H : Heap) (locs : List Loc) (ls : Array Slot), MS G s h H locs 0 → lv_has ls 5 [(0, .ref (gB G + v0)), (1, .int v1), (2, .int v2), (3, .int v3), (4, .int v4)] → W p l e (rm_X10_judge) s m args below meth c H locs 0 0 (QI G below args s r h' 0 0) (F0 m 117 ls []) := by
  intro n
  induction n with
  | zero =>
    intro v0 v1 v2 v3 v4 h hf
    cases hf
  | succ n ih =>
    intro v0 v1 v2 v3 v4 h hf H locs ls M hl
    rw [f_X10_judge_117] at hf
    refine lv_iload X.1 X.2.1 dX10_judge_117 (lv_at hl 4 rfl) ?_
    refine lv_aload_n X.1 X.2.1 dX10_judge_119 rfl (lv_at hl 0 rfl) ?_
    obtain ⟨t1, q2, hf⟩ := bnd hf
    refine x_geti fl_X10_13 X M q2 dX10_judge_120 ?_
    refine lv_icmp_ge (tgt := 154) X.1 X.2.1 dX10_judge_123 (by decide) (fun c3 => ?_) (fun c3 => ?_)
    · have hf := ifp c3 hf
      refine lv_aload_n X.1 X.2.1 dX10_judge_154 rfl (lv_at hl 0 rfl) ?_
      obtain ⟨⟨⟩, q4, hf⟩ := bnd hf
      obtain ⟨t7, h6, q5, hf⟩ := bnd2 hf
      refine x_callVi (As := []) cf_X10_357 (c_X10_isRoom l G N v0 h _ _ q5) rfl ⟨rfl, rfl, Nat.le_of_ble_eq_true rfl, Nat.le_of_ble_eq_true rfl⟩ ⟨Nat.le_of_ble_eq_true rfl, Nat.le_of_ble_eq_true rfl⟩ X M (x_recv cls_X10 X M q4) rfl rfl hl.1 (Nat.le_of_ble_eq_true rfl) dX10_judge_155 (fun H locs M => ?_)
      refine lv_if_ne (tgt := 166) X.1 X.2.1 dX10_judge_158 (by decide) (fun c8 => ?_) (fun c8 => ?_)
      · have hf := ifn c8 hf
        refine lv_aload_n X.1 X.2.1 dX10_judge_166 rfl (lv_at hl 0 rfl) ?_
        refine lv_iload_n X.1 X.2.1 dX10_judge_167 rfl (lv_at hl 3 rfl) ?_
        obtain ⟨⟨⟩, q9, hf⟩ := bnd hf
        obtain ⟨t12, h11, q10, hf⟩ := bnd2 hf
        refine x_callVi (As := [.int v3]) cf_X10_335 (c_X10_isRest l G N v0 v3 h6 _ _ q10) rfl ⟨rfl, rfl, Nat.le_of_ble_eq_true rfl, Nat.le_of_ble_eq_true rfl⟩ ⟨Nat.le_of_ble_eq_true rfl, Nat.le_of_ble_eq_true rfl⟩ X M (x_recv cls_X10 X M q9) rfl rfl hl.1 (Nat.le_of_ble_eq_true rfl) dX10_judge_168 (fun H locs M => ?_)
        refine lv_if_eq (tgt := 178) X.1 X.2.1 dX10_judge_171 (by decide) (fun c13 => ?_) (fun c13 => ?_)
        · have hf := ifp c13 hf
          refine lv_iconst (v := (0 : Int32)) X.1 X.2.1 dX10_judge_178 (by decide) ?_
          exact w_X10_judge_179 X hr hk N v0 (0 : Int32) h11 hf _ _ _ M (lv_sub hl [0] rfl)
        · have hf := ifn c13 hf
          refine lv_iconst (v := (1 : Int32)) X.1 X.2.1 dX10_judge_174 (by decide) ?_
          refine lv_goto (tgt := 179) X.1 X.2.1 dX10_judge_175 (by decide) ?_
          exact w_X10_judge_179 X hr hk N v0 (1 : Int32) h11 hf _ _ _ M (lv_sub hl [0] rfl)
      · have hf := ifp c8 hf
        refine lv_bipush (v := (-3 : Int32)) X.1 X.2.1 dX10_judge_161 (by decide) ?_
        refine lv_goto (tgt := 179) X.1 X.2.1 dX10_judge_163 (by decide) ?_
        exact w_X10_judge_179 X hr hk N v0 (-3 : Int32) h6 hf _ _ _ M (lv_sub hl [0] rfl)
    · have hf := ifn c3 hf
      refine lv_aload_n X.1 X.2.1 dX10_judge_126 rfl (lv_at hl 0 rfl) ?_
      obtain ⟨t14, q15, hf⟩ := bnd hf
      refine x_getr fl_X10_41 X M q15 dX10_judge_127 ?_
      refine lv_iload X.1 X.2.1 dX10_judge_130 (lv_at hl 4 rfl) ?_
      refine lv_aload_n X.1 X.2.1 dX10_judge_132 rfl (lv_at hl 0 rfl) ?_
      obtain ⟨t16, q17, hf⟩ := bnd hf
      refine x_getr fl_X10_191 X M q17 dX10_judge_133 ?_
      refine lv_bipush (v := (60 : Int32)) X.1 X.2.1 dX10_judge_136 (by decide) ?_
      refine lv_iload_n X.1 X.2.1 dX10_judge_138 rfl (lv_at hl 1 rfl) ?_
      refine lv_imul X.1 X.2.1 dX10_judge_139 ?_
      refine lv_iload_n X.1 X.2.1 dX10_judge_140 rfl (lv_at hl 2 rfl) ?_
      refine lv_iadd X.1 X.2.1 dX10_judge_141 ?_
      refine lv_iload X.1 X.2.1 dX10_judge_142 (lv_at hl 4 rfl) ?_
      refine lv_iadd X.1 X.2.1 dX10_judge_144 ?_
      obtain ⟨t18, q19, hf⟩ := bnd hf
      refine x_lald X M q19 dX10_judge_145 ?_
      refine lv_l2i (v := ((Int64.toInt32 t18))) X.1 X.2.1 dX10_judge_146 rfl ?_
      obtain ⟨h20, q21, hf⟩ := bnd hf
      refine x_iast X M q21 dX10_judge_147 (fun H locs M => ?_)
      refine lv_iinc (v := (v4 + 1)) (lv' := [(4, .int (v4 + 1)), (0, .ref (gB G + v0)), (1, .int v1), (2, .int v2), (3, .int v3)]) X.1 X.2.1 dX10_judge_148 hl (k := 4) rfl (by first | rfl | decide) (by decide) rfl (fun ls hl => ?_)
      refine lv_goto (tgt := 117) X.1 X.2.1 dX10_judge_151 (by decide) ?_
      exact ih v0 v1 v2 v3 (v4 + 1) h20 hf _ _ _ M (lv_sub hl [1, 2, 3, 4, 0] rfl)
def f_X10_judge_70 (N : Nat) (n : Nat) (v0 : Nat) (v1 : Int32) (v2 : Int32) (v3 : Int32) (v4 : Int32) (h : Mem) : Option (Int32 × Mem) := match n with
  | 0 => none
  | n + 1 =>
    (gI h v0 10 1).bind fun t1 =>
    if t1 ≤ v4 then
      (ck h v0 10).bind fun _ =>
      (f_X10_keep N v0 h).bind fun h6 =>
      f_X10_judge_117 N N v0 v1 v2 v3 (0 : Int32) h6
    else
      (gR h v0 10 59).bind fun t7 =>
      (lJ h t7 ((((60 : Int32) * v1) + v2) + v4)).bind fun t9 =>
      (ck h v0 10).bind fun _ =>
      b2 (f_X10_isTown N v0 ((Int64.toInt32 t9)) h) fun t14 h13 =>
      if t14 = 0 then
        some ((-3 : Int32), h13)
      else
        f_X10_judge_70 N n v0 v1 v2 v3 (v4 + 1) h13
set_option maxRecDepth 100000 in
set_option maxHeartbeats 4000000 in
theorem w_X10_judge_70 {p : Program} {l : Launch} {e : Env} {s : State} {m : MethodId} {args : Array Value} {below : List Frame} {meth : Method} {c : Code} {G : Gx} {r : Int32} {h' : Mem} (X : CX G p s m args c cX10_judge 5 RX10) (hr : meth.sig.returnType = (Option.some Jvm.ClassFile.FieldType.int)) (hk : meth.locks = false) (N : Nat) : ∀ (n : Nat) (v0 : Nat) (v1 : Int32) (v2 : Int32) (v3 : Int32) (v4 : Int32) (h : Mem), f_X10_judge_70 N n v0 v1 v2 v3 v4 h = some (r, h') → ∀ (H : Heap) (locs : List Loc) (ls : Array Slot), MS G s h H locs 0 → lv_has ls 5 [(0, .ref (gB G + v0)), (1, .int v1), (2, .int v2), (3, .int v3), (4, .int v4)] → W p l e (rm_X10_judge) s m args below meth c H locs 0 0 (QI G below args s r h' 0 0) (F0 m 70 ls []) := by
  intro n
  induction n with
  | zero =>
    intro v0 v1 v2 v3 v4 h hf
    cases hf
  | succ n ih =>
    intro v0 v1 v2 v3 v4 h hf H locs ls M hl
    rw [f_X10_judge_70] at hf
    refine lv_iload X.1 X.2.1 dX10_judge_70 (lv_at hl 4 rfl) ?_
    refine lv_aload_n X.1 X.2.1 dX10_judge_72 rfl (lv_at hl 0 rfl) ?_
    obtain ⟨t1, q2, hf⟩ := bnd hf
    refine x_geti fl_X10_13 X M q2 dX10_judge_73 ?_
    refine lv_icmp_ge (tgt := 110) X.1 X.2.1 dX10_judge_76 (by decide) (fun c3 => ?_) (fun c3 => ?_)
    · have hf := ifp c3 hf
      refine lv_aload_n X.1 X.2.1 dX10_judge_110 rfl (lv_at hl 0 rfl) ?_
      obtain ⟨⟨⟩, q4, hf⟩ := bnd hf
      obtain ⟨h6, q5, hf⟩ := bnd hf
      refine x_callVv (As := []) cf_X10_354 (c_X10_keep l G N v0 h _ q5) rfl ⟨rfl, rfl, Nat.le_of_ble_eq_true rfl, Nat.le_of_ble_eq_true rfl⟩ ⟨Nat.le_of_ble_eq_true rfl, Nat.le_of_ble_eq_true rfl⟩ X M (x_recv cls_X10 X M q4) rfl rfl hl.1 (Nat.le_of_ble_eq_true rfl) dX10_judge_111 (fun H locs M => ?_)
      refine lv_iconst (v := (0 : Int32)) X.1 X.2.1 dX10_judge_114 (by decide) ?_
      refine lv_istore (lv' := [(4, .int (0 : Int32)), (0, .ref (gB G + v0)), (1, .int v1), (2, .int v2), (3, .int v3)]) X.1 X.2.1 dX10_judge_115 hl (by decide) rfl (fun ls hl => ?_)
      exact w_X10_judge_117 X hr hk N N v0 v1 v2 v3 (0 : Int32) h6 hf _ _ _ M (lv_sub hl [1, 2, 3, 4, 0] rfl)
    · have hf := ifn c3 hf
      refine lv_aload_n X.1 X.2.1 dX10_judge_79 rfl (lv_at hl 0 rfl) ?_
      refine lv_aload_n X.1 X.2.1 dX10_judge_80 rfl (lv_at hl 0 rfl) ?_
      obtain ⟨t7, q8, hf⟩ := bnd hf
      refine x_getr fl_X10_191 X M q8 dX10_judge_81 ?_
      refine lv_bipush (v := (60 : Int32)) X.1 X.2.1 dX10_judge_84 (by decide) ?_
      refine lv_iload_n X.1 X.2.1 dX10_judge_86 rfl (lv_at hl 1 rfl) ?_
      refine lv_imul X.1 X.2.1 dX10_judge_87 ?_
      refine lv_iload_n X.1 X.2.1 dX10_judge_88 rfl (lv_at hl 2 rfl) ?_
      refine lv_iadd X.1 X.2.1 dX10_judge_89 ?_
      refine lv_iload X.1 X.2.1 dX10_judge_90 (lv_at hl 4 rfl) ?_
      refine lv_iadd X.1 X.2.1 dX10_judge_92 ?_
      obtain ⟨t9, q10, hf⟩ := bnd hf
      refine x_lald X M q10 dX10_judge_93 ?_
      refine lv_l2i (v := ((Int64.toInt32 t9))) X.1 X.2.1 dX10_judge_94 rfl ?_
      obtain ⟨⟨⟩, q11, hf⟩ := bnd hf
      obtain ⟨t14, h13, q12, hf⟩ := bnd2 hf
      refine x_callVi (As := [.int ((Int64.toInt32 t9))]) cf_X10_205 (c_X10_isTown l G N v0 ((Int64.toInt32 t9)) h _ _ q12) rfl ⟨rfl, rfl, Nat.le_of_ble_eq_true rfl, Nat.le_of_ble_eq_true rfl⟩ ⟨Nat.le_of_ble_eq_true rfl, Nat.le_of_ble_eq_true rfl⟩ X M (x_recv cls_X10 X M q11) rfl rfl hl.1 (Nat.le_of_ble_eq_true rfl) dX10_judge_95 (fun H locs M => ?_)
      refine lv_if_ne (tgt := 104) X.1 X.2.1 dX10_judge_98 (by decide) (fun c15 => ?_) (fun c15 => ?_)
      · have hf := ifn c15 hf
        refine lv_iinc (v := (v4 + 1)) (lv' := [(4, .int (v4 + 1)), (0, .ref (gB G + v0)), (1, .int v1), (2, .int v2), (3, .int v3)]) X.1 X.2.1 dX10_judge_104 hl (k := 4) rfl (by first | rfl | decide) (by decide) rfl (fun ls hl => ?_)
        refine lv_goto (tgt := 70) X.1 X.2.1 dX10_judge_107 (by decide) ?_
        exact ih v0 v1 v2 v3 (v4 + 1) h13 hf _ _ _ M (lv_sub hl [1, 2, 3, 4, 0] rfl)
      · have hf := ifp c15 hf
        refine lv_bipush (v := (-3 : Int32)) X.1 X.2.1 dX10_judge_101 (by decide) ?_
        obtain ⟨rfl, rfl⟩ := rt2 hf
        exact x_iret X hr hk M dX10_judge_103
def f_X10_judge (N : Nat) (v0 : Nat) (v1 : Int32) (v2 : Int32) (v3 : Int32) (h : Mem) : Option (Int32 × Mem) :=
  (ck h v0 10).bind fun _ =>
  b2 (f_X10_isTape N v0 v1 h) fun t4 h3 =>
  if t4 = 0 then
    some ((-1 : Int32), h3)
  else
    (ck h3 v0 10).bind fun _ =>
    b2 (f_X10_in N v0 v3 (1 : Int32) (5 : Int32) h3) fun t9 h8 =>
    if t9 = 0 then
      some ((-1 : Int32), h8)
    else
      (gR h8 v0 10 57).bind fun t11 =>
      (lI 100 h8 t11 v1).bind fun t13 =>
      if 0 ≤ t13 then
        (gR h8 v0 10 57).bind fun t16 =>
        (lI 100 h8 t16 v1).bind fun t18 =>
        if t18 = (1 : Int32) then
          if v2 < 0 then
            some ((-13 : Int32), h8)
          else
            (gR h8 v0 10 58).bind fun t22 =>
            (lI 100 h8 t22 v1).bind fun t24 =>
            (gI h8 v0 10 1).bind fun t26 =>
            if v2 ≤ (t24 - t26) then
              f_X10_judge_70 N N v0 v1 v2 v3 (0 : Int32) h8
            else
              some ((-13 : Int32), h8)
        else
          some ((-12 : Int32), h8)
      else
        some ((-11 : Int32), h8)
set_option maxRecDepth 100000 in
set_option maxHeartbeats 4000000 in
theorem w_X10_judge {p : Program} {l : Launch} {e : Env} {s : State} {m : MethodId} {args : Array Value} {below : List Frame} {meth : Method} {c : Code} {G : Gx} {r : Int32} {h' : Mem} (X : CX G p s m args c cX10_judge 5 RX10) (hr : meth.sig.returnType = (Option.some Jvm.ClassFile.FieldType.int)) (hk : meth.locks = false) (N : Nat) : ∀ (v0 : Nat) (v1 : Int32) (v2 : Int32) (v3 : Int32) (h : Mem), f_X10_judge N v0 v1 v2 v3 h = some (r, h') → ∀ (H : Heap) (locs : List Loc) (ls : Array Slot), MS G s h H locs 0 → lv_has ls 5 [(0, .ref (gB G + v0)), (1, .int v1), (2, .int v2), (3, .int v3)] → W p l e (rm_X10_judge) s m args below meth c H locs 0 0 (QI G below args s r h' 0 0) (F0 m 0 ls []) := by
  intro v0 v1 v2 v3 h hf H locs ls M hl
  rw [f_X10_judge] at hf
  refine lv_aload_n X.1 X.2.1 dX10_judge_0 rfl (lv_at hl 0 rfl) ?_
  refine lv_iload_n X.1 X.2.1 dX10_judge_1 rfl (lv_at hl 1 rfl) ?_
  obtain ⟨⟨⟩, q1, hf⟩ := bnd hf
  obtain ⟨t4, h3, q2, hf⟩ := bnd2 hf
  refine x_callVi (As := [.int v1]) cf_X10_351 (c_X10_isTape l G N v0 v1 h _ _ q2) rfl ⟨rfl, rfl, Nat.le_of_ble_eq_true rfl, Nat.le_of_ble_eq_true rfl⟩ ⟨Nat.le_of_ble_eq_true rfl, Nat.le_of_ble_eq_true rfl⟩ X M (x_recv cls_X10 X M q1) rfl rfl hl.1 (Nat.le_of_ble_eq_true rfl) dX10_judge_2 (fun H locs M => ?_)
  refine lv_if_eq (tgt := 18) X.1 X.2.1 dX10_judge_5 (by decide) (fun c5 => ?_) (fun c5 => ?_)
  · have hf := ifp c5 hf
    refine lv_iconst (v := (-1 : Int32)) X.1 X.2.1 dX10_judge_18 (by decide) ?_
    obtain ⟨rfl, rfl⟩ := rt2 hf
    exact x_iret X hr hk M dX10_judge_19
  · have hf := ifn c5 hf
    refine lv_aload_n X.1 X.2.1 dX10_judge_8 rfl (lv_at hl 0 rfl) ?_
    refine lv_iload_n X.1 X.2.1 dX10_judge_9 rfl (lv_at hl 3 rfl) ?_
    refine lv_iconst (v := (1 : Int32)) X.1 X.2.1 dX10_judge_10 (by decide) ?_
    refine lv_iconst (v := (5 : Int32)) X.1 X.2.1 dX10_judge_11 (by decide) ?_
    obtain ⟨⟨⟩, q6, hf⟩ := bnd hf
    obtain ⟨t9, h8, q7, hf⟩ := bnd2 hf
    refine x_callVi (As := [.int v3, .int (1 : Int32), .int (5 : Int32)]) cf_X10_197 (c_X10_in l G N v0 v3 (1 : Int32) (5 : Int32) h3 _ _ q7) rfl ⟨rfl, rfl, Nat.le_of_ble_eq_true rfl, Nat.le_of_ble_eq_true rfl⟩ ⟨Nat.le_of_ble_eq_true rfl, Nat.le_of_ble_eq_true rfl⟩ X M (x_recv cls_X10 X M q6) rfl rfl hl.1 (Nat.le_of_ble_eq_true rfl) dX10_judge_12 (fun H locs M => ?_)
    refine lv_if_ne (tgt := 20) X.1 X.2.1 dX10_judge_15 (by decide) (fun c10 => ?_) (fun c10 => ?_)
    · have hf := ifn c10 hf
      refine lv_aload_n X.1 X.2.1 dX10_judge_20 rfl (lv_at hl 0 rfl) ?_
      obtain ⟨t11, q12, hf⟩ := bnd hf
      refine x_getr fl_X10_185 X M q12 dX10_judge_21 ?_
      refine lv_iload_n X.1 X.2.1 dX10_judge_24 rfl (lv_at hl 1 rfl) ?_
      obtain ⟨t13, q14, hf⟩ := bnd hf
      refine x_iald X M q14 dX10_judge_25 ?_
      refine lv_if_ge (tgt := 32) X.1 X.2.1 dX10_judge_26 (by decide) (fun c15 => ?_) (fun c15 => ?_)
      · have hf := ifp c15 hf
        refine lv_aload_n X.1 X.2.1 dX10_judge_32 rfl (lv_at hl 0 rfl) ?_
        obtain ⟨t16, q17, hf⟩ := bnd hf
        refine x_getr fl_X10_185 X M q17 dX10_judge_33 ?_
        refine lv_iload_n X.1 X.2.1 dX10_judge_36 rfl (lv_at hl 1 rfl) ?_
        obtain ⟨t18, q19, hf⟩ := bnd hf
        refine x_iald X M q19 dX10_judge_37 ?_
        refine lv_iconst (v := (1 : Int32)) X.1 X.2.1 dX10_judge_38 (by decide) ?_
        refine lv_icmp_eq (tgt := 45) X.1 X.2.1 dX10_judge_39 (by decide) (fun c20 => ?_) (fun c20 => ?_)
        · have hf := ifp c20 hf
          refine lv_iload_n X.1 X.2.1 dX10_judge_45 rfl (lv_at hl 2 rfl) ?_
          refine lv_if_lt (tgt := 64) X.1 X.2.1 dX10_judge_46 (by decide) (fun c21 => ?_) (fun c21 => ?_)
          · have hf := ifp c21 hf
            refine lv_bipush (v := (-13 : Int32)) X.1 X.2.1 dX10_judge_64 (by decide) ?_
            obtain ⟨rfl, rfl⟩ := rt2 hf
            exact x_iret X hr hk M dX10_judge_66
          · have hf := ifn c21 hf
            refine lv_iload_n X.1 X.2.1 dX10_judge_49 rfl (lv_at hl 2 rfl) ?_
            refine lv_aload_n X.1 X.2.1 dX10_judge_50 rfl (lv_at hl 0 rfl) ?_
            obtain ⟨t22, q23, hf⟩ := bnd hf
            refine x_getr fl_X10_188 X M q23 dX10_judge_51 ?_
            refine lv_iload_n X.1 X.2.1 dX10_judge_54 rfl (lv_at hl 1 rfl) ?_
            obtain ⟨t24, q25, hf⟩ := bnd hf
            refine x_iald X M q25 dX10_judge_55 ?_
            refine lv_aload_n X.1 X.2.1 dX10_judge_56 rfl (lv_at hl 0 rfl) ?_
            obtain ⟨t26, q27, hf⟩ := bnd hf
            refine x_geti fl_X10_13 X M q27 dX10_judge_57 ?_
            refine lv_isub X.1 X.2.1 dX10_judge_60 ?_
            refine lv_icmp_le (tgt := 67) X.1 X.2.1 dX10_judge_61 (by decide) (fun c28 => ?_) (fun c28 => ?_)
            · have hf := ifp c28 hf
              refine lv_iconst (v := (0 : Int32)) X.1 X.2.1 dX10_judge_67 (by decide) ?_
              refine lv_istore (lv' := [(4, .int (0 : Int32)), (0, .ref (gB G + v0)), (1, .int v1), (2, .int v2), (3, .int v3)]) X.1 X.2.1 dX10_judge_68 hl (by decide) rfl (fun ls hl => ?_)
              exact w_X10_judge_70 X hr hk N N v0 v1 v2 v3 (0 : Int32) h8 hf _ _ _ M (lv_sub hl [1, 2, 3, 4, 0] rfl)
            · have hf := ifn c28 hf
              refine lv_bipush (v := (-13 : Int32)) X.1 X.2.1 dX10_judge_64 (by decide) ?_
              obtain ⟨rfl, rfl⟩ := rt2 hf
              exact x_iret X hr hk M dX10_judge_66
        · have hf := ifn c20 hf
          refine lv_bipush (v := (-12 : Int32)) X.1 X.2.1 dX10_judge_42 (by decide) ?_
          obtain ⟨rfl, rfl⟩ := rt2 hf
          exact x_iret X hr hk M dX10_judge_44
      · have hf := ifn c15 hf
        refine lv_bipush (v := (-11 : Int32)) X.1 X.2.1 dX10_judge_29 (by decide) ?_
        obtain ⟨rfl, rfl⟩ := rt2 hf
        exact x_iret X hr hk M dX10_judge_31
    · have hf := ifp c10 hf
      refine lv_iconst (v := (-1 : Int32)) X.1 X.2.1 dX10_judge_18 (by decide) ?_
      obtain ⟨rfl, rfl⟩ := rt2 hf
      exact x_iret X hr hk M dX10_judge_19
theorem c_X10_judge (l : Launch) (G : Gx) (N : Nat) (v0 : Nat) (v1 : Int32) (v2 : Int32) (v3 : Int32) (h : Mem) (r : Int32) (h' : Mem) (hf : f_X10_judge N v0 v1 v2 v3 h = some (r, h')) : MetG l G yX10_judge (.code yX10_judge cX10_judge 5 (Option.some Jvm.ClassFile.FieldType.int)) rm_X10_judge [.ref (gB G + v0), .int v1, .int v2, .int v3] h (QcI G r h') 0 0 :=
  x_met (by decide) rfl (Nat.le_of_ble_eq_true rfl) (fun p e s m args below meth c ls X M hr hk hin hl => w_X10_judge X hr hk N v0 v1 v2 v3 h hf _ _ ls M hl)
