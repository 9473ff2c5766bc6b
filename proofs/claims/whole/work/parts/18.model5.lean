abbrev rm_X10_rowsOf : Room := { frames := 1, cells := 0, slots := 0, locals := 40 }
def f_X10_rowsOf_4 (N : Nat) (n : Nat) (v0 : Nat) (v1 : Int32) (v2 : Int32) (h : Mem) : Option (Int32 × Mem) := match n with
  | 0 => none
  | n + 1 =>
    (gI h v0 10 1).bind fun t1 =>
    if t1 ≤ v2 then
      some (v1, h)
    else
      (gI h v0 10 0).bind fun t4 =>
      f_X10_rowsOf_4 N n v0 (v1 * t4) (v2 + 1) h
set_option maxRecDepth 100000 in
set_option maxHeartbeats 4000000 in
theorem w_X10_rowsOf_4 {p : Program} {l : Launch} {e : Env} {s : State} {m : MethodId} {args : Array Value} {below : List Frame} {meth : Method} {c : Code} {G : Gx} {r : Int32} {h' : Mem} (X : CX G p s m args c cX10_rowsOf 3 RX10) (hr : meth.sig.returnType = (Option.some Jvm.ClassFile.FieldType.int)) (hk : meth.locks = false) (N : Nat) : ∀ (n : Nat) (v0 : Nat) (v1 : Int32) (v2 : Int32) (h : Mem), f_X10_rowsOf_4 N n v0 v1 v2 h = some (r, h') → ∀ (H : Heap) (locs : List Loc) (ls : Array Slot), MS G s h H locs 0 → lv_has ls 3 [(0, .ref (gB G + v0)), (1, .int v1), (2, .int v2)] → W p l e (rm_X10_rowsOf) s m args below meth c H locs 0 0 (QI G below args s r h' 0 0) (F0 m 4 ls []) := by
  intro n
  induction n with
  | zero =>
    intro v0 v1 v2 h hf
    cases hf
  | succ n ih =>
    intro v0 v1 v2 h hf H locs ls M hl
    rw [f_X10_rowsOf_4] at hf
    refine lv_iload_n X.1 X.2.1 dX10_rowsOf_4 rfl (lv_at hl 2 rfl) ?_
    refine lv_aload_n X.1 X.2.1 dX10_rowsOf_5 rfl (lv_at hl 0 rfl) ?_
    obtain ⟨t1, q2, hf⟩ := bnd hf
    refine x_geti fl_X10_13 X M q2 dX10_rowsOf_6 ?_
    refine lv_icmp_ge (tgt := 25) X.1 X.2.1 dX10_rowsOf_9 (by decide) (fun c3 => ?_) (fun c3 => ?_)
    · have hf := ifp c3 hf
      refine lv_iload_n X.1 X.2.1 dX10_rowsOf_25 rfl (lv_at hl 1 rfl) ?_
      obtain ⟨rfl, rfl⟩ := rt2 hf
      exact x_iret X hr hk M dX10_rowsOf_26
    · have hf := ifn c3 hf
      refine lv_iload_n X.1 X.2.1 dX10_rowsOf_12 rfl (lv_at hl 1 rfl) ?_
      refine lv_aload_n X.1 X.2.1 dX10_rowsOf_13 rfl (lv_at hl 0 rfl) ?_
      obtain ⟨t4, q5, hf⟩ := bnd hf
      refine x_geti fl_X10_7 X M q5 dX10_rowsOf_14 ?_
      refine lv_imul X.1 X.2.1 dX10_rowsOf_17 ?_
      refine lv_istore_n (lv' := [(1, .int (v1 * t4)), (0, .ref (gB G + v0)), (2, .int v2)]) X.1 X.2.1 dX10_rowsOf_18 rfl hl (by decide) rfl (fun ls hl => ?_)
      refine lv_iinc (v := (v2 + 1)) (lv' := [(2, .int (v2 + 1)), (1, .int (v1 * t4)), (0, .ref (gB G + v0))]) X.1 X.2.1 dX10_rowsOf_19 hl (k := 2) rfl (by first | rfl | decide) (by decide) rfl (fun ls hl => ?_)
      refine lv_goto (tgt := 4) X.1 X.2.1 dX10_rowsOf_22 (by decide) ?_
      exact ih v0 (v1 * t4) (v2 + 1) h hf _ _ _ M (lv_sub hl [2, 1, 0] rfl)
def f_X10_rowsOf (N : Nat) (v0 : Nat) (h : Mem) : Option (Int32 × Mem) :=
  f_X10_rowsOf_4 N N v0 (1 : Int32) (0 : Int32) h
set_option maxRecDepth 100000 in
set_option maxHeartbeats 4000000 in
theorem w_X10_rowsOf {p : Program} {l : Launch} {e : Env} {s : State} {m : MethodId} {args : Array Value} {below : List Frame} {meth : Method} {c : Code} {G : Gx} {r : Int32} {h' : Mem} (X : CX G p s m args c cX10_rowsOf 3 RX10) (hr : meth.sig.returnType = (Option.some Jvm.ClassFile.FieldType.int)) (hk : meth.locks = false) (N : Nat) : ∀ (v0 : Nat) (h : Mem), f_X10_rowsOf N v0 h = some (r, h') → ∀ (H : Heap) (locs : List Loc) (ls : Array Slot), MS G s h H locs 0 → lv_has ls 3 [(0, .ref (gB G + v0))] → W p l e (rm_X10_rowsOf) s m args below meth c H locs 0 0 (QI G below args s r h' 0 0) (F0 m 0 ls []) := by
  intro v0 h hf H locs ls M hl
  rw [f_X10_rowsOf] at hf
  refine lv_iconst (v := (1 : Int32)) X.1 X.2.1 dX10_rowsOf_0 (by decide) ?_
  refine lv_istore_n (lv' := [(1, .int (1 : Int32)), (0, .ref (gB G + v0))]) X.1 X.2.1 dX10_rowsOf_1 rfl hl (by decide) rfl (fun ls hl => ?_)
  refine lv_iconst (v := (0 : Int32)) X.1 X.2.1 dX10_rowsOf_2 (by decide) ?_
  refine lv_istore_n (lv' := [(2, .int (0 : Int32)), (1, .int (1 : Int32)), (0, .ref (gB G + v0))]) X.1 X.2.1 dX10_rowsOf_3 rfl hl (by decide) rfl (fun ls hl => ?_)
  exact w_X10_rowsOf_4 X hr hk N N v0 (1 : Int32) (0 : Int32) h hf _ _ _ M (lv_sub hl [2, 1, 0] rfl)
theorem c_X10_rowsOf (l : Launch) (G : Gx) (N : Nat) (v0 : Nat) (h : Mem) (r : Int32) (h' : Mem) (hf : f_X10_rowsOf N v0 h = some (r, h')) : MetG l G yX10_rowsOf (.code yX10_rowsOf cX10_rowsOf 3 (Option.some Jvm.ClassFile.FieldType.int)) rm_X10_rowsOf [.ref (gB G + v0)] h (QcI G r h') 0 0 :=
  x_met (by decide) rfl (Nat.le_of_ble_eq_true rfl) (fun p e s m args below meth c ls X M hr hk hin hl => w_X10_rowsOf X hr hk N v0 h hf _ _ ls M hl)
abbrev rm_X10_layOut : Room := { frames := 1, cells := 0, slots := 0, locals := 40 }
def f_X10_layOut_9 (N : Nat) (n : Nat) (v0 : Nat) (v2 : Int32) (v3 : Int32) (h : Mem) : Option Mem := match n with
  | 0 => none
  | n + 1 =>
    if v3 < 0 then
      some h
    else
      (gR h v0 10 10).bind fun t2 =>
      (gI h v0 10 0).bind fun t4 =>
      if t4 = 0 then none else
      (stI 100 h t2 v3 (v2 - v2 / t4 * t4)).bind fun h7 =>
      (gI h7 v0 10 0).bind fun t9 =>
      if t9 = 0 then none else
      f_X10_layOut_9 N n v0 (v2 / t9) (v3 + (-1)) h7
set_option maxRecDepth 100000 in
set_option maxHeartbeats 4000000 in
theorem w_X10_layOut_9 {p : Program} {l : Launch} {e : Env} {s : State} {m : MethodId} {args : Array Value} {below : List Frame} {meth : Method} {c : Code} {G : Gx} {h' : Mem} {L : Nat} (X : CX G p s m args c cX10_layOut 4 RX10) (hr : meth.sig.returnType = (Option.none : Option Jvm.ClassFile.FieldType)) (hk : meth.locks = false) (hL : s.heap.size + 0 = gB G + L) (N : Nat) : ∀ (n : Nat) (v0 : Nat) (v2 : Int32) (v3 : Int32) (h : Mem), f_X10_layOut_9 N n v0 v2 v3 h = some h' → ∀ (H : Heap) (locs : List Loc) (ls : Array Slot), MS G s h H locs 0 → lv_has ls 4 [(0, .ref (gB G + v0)), (2, .int v2), (3, .int v3)] → W p l e (rm_X10_layOut) s m args below meth c H locs 0 0 (QV G below args s h' L 0 0) (F0 m 9 ls []) := by
  intro n
  induction n with
  | zero =>
    intro v0 v2 v3 h hf
    cases hf
  | succ n ih =>
    intro v0 v2 v3 h hf H locs ls M hl
    rw [f_X10_layOut_9] at hf
    refine lv_iload_n X.1 X.2.1 dX10_layOut_9 rfl (lv_at hl 2 rfl) ?_
    refine lv_if_lt (tgt := 38) X.1 X.2.1 dX10_layOut_10 (by decide) (fun c1 => ?_) (fun c1 => ?_)
    · have hf := ifp c1 hf
      obtain rfl := rt1 hf
      exact x_vret X hr hk M hL dX10_layOut_38
    · have hf := ifn c1 hf
      refine lv_aload_n X.1 X.2.1 dX10_layOut_13 rfl (lv_at hl 0 rfl) ?_
      obtain ⟨t2, q3, hf⟩ := bnd hf
      refine x_getr fl_X10_41 X M q3 dX10_layOut_14 ?_
      refine lv_iload_n X.1 X.2.1 dX10_layOut_17 rfl (lv_at hl 2 rfl) ?_
      refine lv_iload_n X.1 X.2.1 dX10_layOut_18 rfl (lv_at hl 1 rfl) ?_
      refine lv_aload_n X.1 X.2.1 dX10_layOut_19 rfl (lv_at hl 0 rfl) ?_
      obtain ⟨t4, q5, hf⟩ := bnd hf
      refine x_geti fl_X10_7 X M q5 dX10_layOut_20 ?_
      by_cases c6 : t4 = 0
      · have hf := ifp c6 hf
        cases hf
      have hf := ifn c6 hf
      refine lv_irem X.1 X.2.1 dX10_layOut_23 c6 ?_
      obtain ⟨h7, q8, hf⟩ := bnd hf
      refine x_iast X M q8 dX10_layOut_24 (fun H locs M => ?_)
      refine lv_iload_n X.1 X.2.1 dX10_layOut_25 rfl (lv_at hl 1 rfl) ?_
      refine lv_aload_n X.1 X.2.1 dX10_layOut_26 rfl (lv_at hl 0 rfl) ?_
      obtain ⟨t9, q10, hf⟩ := bnd hf
      refine x_geti fl_X10_7 X M q10 dX10_layOut_27 ?_
      by_cases c11 : t9 = 0
      · have hf := ifp c11 hf
        cases hf
      have hf := ifn c11 hf
      refine lv_idiv X.1 X.2.1 dX10_layOut_30 c11 ?_
      refine lv_istore_n (lv' := [(2, .int (v2 / t9)), (0, .ref (gB G + v0)), (3, .int v3)]) X.1 X.2.1 dX10_layOut_31 rfl hl (by decide) rfl (fun ls hl => ?_)
      refine lv_iinc (v := (v3 + (-1))) (lv' := [(3, .int (v3 + (-1))), (2, .int (v2 / t9)), (0, .ref (gB G + v0))]) X.1 X.2.1 dX10_layOut_32 hl (k := 2) rfl (by first | rfl | decide) (by decide) rfl (fun ls hl => ?_)
      refine lv_goto (tgt := 9) X.1 X.2.1 dX10_layOut_35 (by decide) ?_
      exact ih v0 (v2 / t9) (v3 + (-1)) h7 hf _ _ _ M (lv_sub hl [2, 1, 0] rfl)
def f_X10_layOut (N : Nat) (v0 : Nat) (v1 : Int32) (h : Mem) : Option Mem :=
  (gI h v0 10 1).bind fun t1 =>
  f_X10_layOut_9 N N v0 v1 (t1 - (1 : Int32)) h
set_option maxRecDepth 100000 in
set_option maxHeartbeats 4000000 in
theorem w_X10_layOut {p : Program} {l : Launch} {e : Env} {s : State} {m : MethodId} {args : Array Value} {below : List Frame} {meth : Method} {c : Code} {G : Gx} {h' : Mem} {L : Nat} (X : CX G p s m args c cX10_layOut 4 RX10) (hr : meth.sig.returnType = (Option.none : Option Jvm.ClassFile.FieldType)) (hk : meth.locks = false) (hL : s.heap.size + 0 = gB G + L) (N : Nat) : ∀ (v0 : Nat) (v1 : Int32) (h : Mem), f_X10_layOut N v0 v1 h = some h' → ∀ (H : Heap) (locs : List Loc) (ls : Array Slot), MS G s h H locs 0 → lv_has ls 4 [(0, .ref (gB G + v0)), (1, .int v1)] → W p l e (rm_X10_layOut) s m args below meth c H locs 0 0 (QV G below args s h' L 0 0) (F0 m 0 ls []) := by
  intro v0 v1 h hf H locs ls M hl
  rw [f_X10_layOut] at hf
  refine lv_iload_n X.1 X.2.1 dX10_layOut_0 rfl (lv_at hl 1 rfl) ?_
  refine lv_istore_n (lv' := [(2, .int v1), (0, .ref (gB G + v0)), (1, .int v1)]) X.1 X.2.1 dX10_layOut_1 rfl hl (by decide) rfl (fun ls hl => ?_)
  refine lv_aload_n X.1 X.2.1 dX10_layOut_2 rfl (lv_at hl 1 rfl) ?_
  obtain ⟨t1, q2, hf⟩ := bnd hf
  refine x_geti fl_X10_13 X M q2 dX10_layOut_3 ?_
  refine lv_iconst (v := (1 : Int32)) X.1 X.2.1 dX10_layOut_6 (by decide) ?_
  refine lv_isub X.1 X.2.1 dX10_layOut_7 ?_
  refine lv_istore_n (lv' := [(3, .int (t1 - (1 : Int32))), (2, .int v1), (0, .ref (gB G + v0)), (1, .int v1)]) X.1 X.2.1 dX10_layOut_8 rfl hl (by decide) rfl (fun ls hl => ?_)
  exact w_X10_layOut_9 X hr hk hL N N v0 v1 (t1 - (1 : Int32)) h hf _ _ _ M (lv_sub hl [2, 1, 0] rfl)
theorem c_X10_layOut (l : Launch) (G : Gx) (N : Nat) (v0 : Nat) (v1 : Int32) (h : Mem) (h' : Mem) (hf : f_X10_layOut N v0 v1 h = some h') : MetG l G yX10_layOut (.code yX10_layOut cX10_layOut 4 (Option.none : Option Jvm.ClassFile.FieldType)) rm_X10_layOut [.ref (gB G + v0), .int v1] h (QcV G h' (h.1.length + 0)) 0 0 :=
  x_met (by decide) rfl (Nat.le_of_ble_eq_true rfl) (fun p e s m args below meth c ls X M hr hk hin hl => w_X10_layOut X hr hk (by have := M.2.2; omega) N v0 v1 h hf _ _ ls M hl)
abbrev rm_X10_all : Room := { frames := 17, cells := 0, slots := 0, locals := 413 }
def f_X10_all_119 (N : Nat) (v0 : Nat) (v2 : Int32) (v4 : Int32) (v5 : Int32) (h : Mem) : Option (Int32 × Mem) :=
  (ck h v0 10).bind fun _ =>
  (f_X10_putBack N v0 h).bind fun h3 =>
  if v2 = (-1 : Int32) then
    some (v4, h3)
  else
    some (v5, h3)
set_option maxRecDepth 100000 in
set_option maxHeartbeats 4000000 in
theorem w_X10_all_119 {p : Program} {l : Launch} {e : Env} {s : State} {m : MethodId} {args : Array Value} {below : List Frame} {meth : Method} {c : Code} {G : Gx} {r : Int32} {h' : Mem} (X : CX G p s m args c cX10_all 7 RX10) (hr : meth.sig.returnType = (Option.some Jvm.ClassFile.FieldType.int)) (hk : meth.locks = false) (N : Nat) : ∀ (v0 : Nat) (v2 : Int32) (v4 : Int32) (v5 : Int32) (h : Mem), f_X10_all_119 N v0 v2 v4 v5 h = some (r, h') → ∀ (H : Heap) (locs : List Loc) (ls : Array Slot), MS G s h H locs 0 → lv_has ls 7 [(0, .ref (gB G + v0)), (2, .int v2), (4, .int v4), (5, .int v5)] → W p l e (rm_X10_all) s m args below meth c H locs 0 0 (QI G below args s r h' 0 0) (F0 m 119 ls []) := by
  intro v0 v2 v4 v5 h hf H locs ls M hl
  rw [f_X10_all_119] at hf
  refine lv_aload_n X.1 X.2.1 dX10_all_119 rfl (lv_at hl 0 rfl) ?_
  obtain ⟨⟨⟩, q1, hf⟩ := bnd hf
  obtain ⟨h3, q2, hf⟩ := bnd hf
  refine x_callVv (As := []) cf_X10_360 (c_X10_putBack l G N v0 h _ q2) rfl ⟨rfl, rfl, Nat.le_of_ble_eq_true rfl, Nat.le_of_ble_eq_true rfl⟩ ⟨Nat.le_of_ble_eq_true rfl, Nat.le_of_ble_eq_true rfl⟩ X M (x_recv cls_X10 X M q1) rfl rfl hl.1 (Nat.le_of_ble_eq_true rfl) dX10_all_120 (fun H locs M => ?_)
  refine lv_iload_n X.1 X.2.1 dX10_all_123 rfl (lv_at hl 1 rfl) ?_
  refine lv_iconst (v := (-1 : Int32)) X.1 X.2.1 dX10_all_124 (by decide) ?_
  refine lv_icmp_ne (tgt := 133) X.1 X.2.1 dX10_all_125 (by decide) (fun c4 => ?_) (fun c4 => ?_)
  · have hf := ifn c4 hf
    refine lv_iload X.1 X.2.1 dX10_all_133 (lv_at hl 3 rfl) ?_
    obtain ⟨rfl, rfl⟩ := rt2 hf
    exact x_iret X hr hk M dX10_all_135
  · have hf := ifp c4 hf
    refine lv_iload X.1 X.2.1 dX10_all_128 (lv_at hl 2 rfl) ?_
    refine lv_goto (tgt := 135) X.1 X.2.1 dX10_all_130 (by decide) ?_
    obtain ⟨rfl, rfl⟩ := rt2 hf
    exact x_iret X hr hk M dX10_all_135
def f_X10_all_57 (N : Nat) (n : Nat) (v0 : Nat) (v1 : Int32) (v2 : Int32) (v3 : Int32) (v4 : Int32) (v5 : Int32) (v6 : Int32) (h : Mem) : Option (Int32 × Mem) := match n with
  | 0 => none
  | n + 1 =>
    (ck h v0 10).bind fun _ =>
    b2 (f_X10_rowsOf N v0 h) fun t4 h3 =>
    if t4 ≤ v6 then
      f_X10_all_119 N v0 v2 v4 v5 h3
    else
      if v5 = (-1 : Int32) then
        (ck h3 v0 10).bind fun _ =>
        (f_X10_layOut N v0 v6 h3).bind fun h9 =>
        (ck h9 v0 10).bind fun _ =>
        b2 (f_X10_isRoom N v0 h9) fun t13 h12 =>
        if t13 = 0 then
          f_X10_all_57 N n v0 v1 v2 v3 v4 v5 (v6 + 1) h12
        else
          (ck h12 v0 10).bind fun _ =>
          b2 (f_X10_isRest N v0 v1 h12) fun t18 h17 =>
          if t18 = 0 then
            f_X10_all_57 N n v0 v1 v2 v3 v4 v5 (v6 + 1) h17
          else
            if v4 = v2 then
              (gR h17 v0 10 10).bind fun t21 =>
              (lI 100 h17 t21 v3).bind fun t23 =>
              f_X10_all_57 N n v0 v1 v2 v3 (v4 + 1) t23 (v6 + 1) h17
            else
              f_X10_all_57 N n v0 v1 v2 v3 (v4 + 1) v5 (v6 + 1) h17
      else
        f_X10_all_119 N v0 v2 v4 v5 h3
set_option maxRecDepth 100000 in
set_option maxHeartbeats 4000000 in
theorem w_X10_all_57 {p : Program} {l : Launch} {e : Env} {s : State} {m : MethodId} {args : Array Value} {below : List Frame} {meth : Method} {c : Code} {G : Gx} {r : Int32} {h' : Mem} (X : CX G p s m args c cX10_all 7 RX10) (hr : meth.sig.returnType = (Option.some Jvm.ClassFile.FieldType.int)) (hk : meth.locks = false) (N : Nat) : ∀ (n : Nat) (v0 : Nat) (v1 : Int32) (v2 : Int32) (v3 : Int32) (v4 : Int32) (v5 : Int32) (v6 : Int32) (h : Mem), f_X10_all_57 N n v0 v1 v2 v3 v4 v5 v6 h = some (r, h') → ∀ (H : Heap) (locs : List Loc) (ls : Array Slot), MS G s h H locs 0 → lv_has ls 7 [(0, .ref (gB G + v0)), (1, .int v1), (2, .int v2), (3, .int v3), (4, .int v4), (5, .int v5), (6, .int v6)] → W p l e (rm_X10_all) s m args below meth c H locs 0 0 (QI G below args s r h' 0 0) (F0 m 57 ls []) := by
  intro n
  induction n with
  | zero =>
    intro v0 v1 v2 v3 v4 v5 v6 h hf
    cases hf
  | succ n ih =>
    intro v0 v1 v2 v3 v4 v5 v6 h hf H locs ls M hl
    rw [f_X10_all_57] at hf
    refine lv_iload X.1 X.2.1 dX10_all_57 (lv_at hl 6 rfl) ?_
    refine lv_aload_n X.1 X.2.1 dX10_all_59 rfl (lv_at hl 0 rfl) ?_
    obtain ⟨⟨⟩, q1, hf⟩ := bnd hf
    obtain ⟨t4, h3, q2, hf⟩ := bnd2 hf
    refine x_callVi (As := []) cf_X10_363 (c_X10_rowsOf l G N v0 h _ _ q2) rfl ⟨rfl, rfl, Nat.le_of_ble_eq_true rfl, Nat.le_of_ble_eq_true rfl⟩ ⟨Nat.le_of_ble_eq_true rfl, Nat.le_of_ble_eq_true rfl⟩ X M (x_recv cls_X10 X M q1) rfl rfl hl.1 (Nat.le_of_ble_eq_true rfl) dX10_all_60 (fun H locs M => ?_)
    refine lv_icmp_ge (tgt := 119) X.1 X.2.1 dX10_all_63 (by decide) (fun c5 => ?_) (fun c5 => ?_)
    · have hf := ifp c5 hf
      exact w_X10_all_119 X hr hk N v0 v2 v4 v5 h3 hf _ _ _ M (lv_sub hl [0, 2, 4, 5] rfl)
    · have hf := ifn c5 hf
      refine lv_iload X.1 X.2.1 dX10_all_66 (lv_at hl 5 rfl) ?_
      refine lv_iconst (v := (-1 : Int32)) X.1 X.2.1 dX10_all_68 (by decide) ?_
      refine lv_icmp_ne (tgt := 119) X.1 X.2.1 dX10_all_69 (by decide) (fun c6 => ?_) (fun c6 => ?_)
      · have hf := ifn c6 hf
        exact w_X10_all_119 X hr hk N v0 v2 v4 v5 h3 hf _ _ _ M (lv_sub hl [0, 2, 4, 5] rfl)
      · have hf := ifp c6 hf
        refine lv_aload_n X.1 X.2.1 dX10_all_72 rfl (lv_at hl 0 rfl) ?_
        refine lv_iload X.1 X.2.1 dX10_all_73 (lv_at hl 6 rfl) ?_
        obtain ⟨⟨⟩, q7, hf⟩ := bnd hf
        obtain ⟨h9, q8, hf⟩ := bnd hf
        refine x_callVv (As := [.int v6]) cf_X10_366 (c_X10_layOut l G N v0 v6 h3 _ q8) rfl ⟨rfl, rfl, Nat.le_of_ble_eq_true rfl, Nat.le_of_ble_eq_true rfl⟩ ⟨Nat.le_of_ble_eq_true rfl, Nat.le_of_ble_eq_true rfl⟩ X M (x_recv cls_X10 X M q7) rfl rfl hl.1 (Nat.le_of_ble_eq_true rfl) dX10_all_75 (fun H locs M => ?_)
        refine lv_aload_n X.1 X.2.1 dX10_all_78 rfl (lv_at hl 0 rfl) ?_
        obtain ⟨⟨⟩, q10, hf⟩ := bnd hf
        obtain ⟨t13, h12, q11, hf⟩ := bnd2 hf
        refine x_callVi (As := []) cf_X10_357 (c_X10_isRoom l G N v0 h9 _ _ q11) rfl ⟨rfl, rfl, Nat.le_of_ble_eq_true rfl, Nat.le_of_ble_eq_true rfl⟩ ⟨Nat.le_of_ble_eq_true rfl, Nat.le_of_ble_eq_true rfl⟩ X M (x_recv cls_X10 X M q10) rfl rfl hl.1 (Nat.le_of_ble_eq_true rfl) dX10_all_79 (fun H locs M => ?_)
        refine lv_if_eq (tgt := 113) X.1 X.2.1 dX10_all_82 (by decide) (fun c14 => ?_) (fun c14 => ?_)
        · have hf := ifp c14 hf
          refine lv_iinc (v := (v6 + 1)) (lv' := [(6, .int (v6 + 1)), (0, .ref (gB G + v0)), (1, .int v1), (2, .int v2), (3, .int v3), (4, .int v4), (5, .int v5)]) X.1 X.2.1 dX10_all_113 hl (k := 6) rfl (by first | rfl | decide) (by decide) rfl (fun ls hl => ?_)
          refine lv_goto (tgt := 57) X.1 X.2.1 dX10_all_116 (by decide) ?_
          exact ih v0 v1 v2 v3 v4 v5 (v6 + 1) h12 hf _ _ _ M (lv_sub hl [1, 2, 3, 4, 5, 6, 0] rfl)
        · have hf := ifn c14 hf
          refine lv_aload_n X.1 X.2.1 dX10_all_85 rfl (lv_at hl 0 rfl) ?_
          refine lv_iload_n X.1 X.2.1 dX10_all_86 rfl (lv_at hl 1 rfl) ?_
          obtain ⟨⟨⟩, q15, hf⟩ := bnd hf
          obtain ⟨t18, h17, q16, hf⟩ := bnd2 hf
          refine x_callVi (As := [.int v1]) cf_X10_335 (c_X10_isRest l G N v0 v1 h12 _ _ q16) rfl ⟨rfl, rfl, Nat.le_of_ble_eq_true rfl, Nat.le_of_ble_eq_true rfl⟩ ⟨Nat.le_of_ble_eq_true rfl, Nat.le_of_ble_eq_true rfl⟩ X M (x_recv cls_X10 X M q15) rfl rfl hl.1 (Nat.le_of_ble_eq_true rfl) dX10_all_87 (fun H locs M => ?_)
          refine lv_if_ne (tgt := 96) X.1 X.2.1 dX10_all_90 (by decide) (fun c19 => ?_) (fun c19 => ?_)
          · have hf := ifn c19 hf
            refine lv_iload X.1 X.2.1 dX10_all_96 (lv_at hl 4 rfl) ?_
            refine lv_iload_n X.1 X.2.1 dX10_all_98 rfl (lv_at hl 2 rfl) ?_
            refine lv_icmp_ne (tgt := 110) X.1 X.2.1 dX10_all_99 (by decide) (fun c20 => ?_) (fun c20 => ?_)
            · have hf := ifn c20 hf
              refine lv_iinc (v := (v4 + 1)) (lv' := [(4, .int (v4 + 1)), (0, .ref (gB G + v0)), (1, .int v1), (2, .int v2), (3, .int v3), (5, .int v5), (6, .int v6)]) X.1 X.2.1 dX10_all_110 hl (k := 4) rfl (by first | rfl | decide) (by decide) rfl (fun ls hl => ?_)
              refine lv_iinc (v := (v6 + 1)) (lv' := [(6, .int (v6 + 1)), (4, .int (v4 + 1)), (0, .ref (gB G + v0)), (1, .int v1), (2, .int v2), (3, .int v3), (5, .int v5)]) X.1 X.2.1 dX10_all_113 hl (k := 6) rfl (by first | rfl | decide) (by decide) rfl (fun ls hl => ?_)
              refine lv_goto (tgt := 57) X.1 X.2.1 dX10_all_116 (by decide) ?_
              exact ih v0 v1 v2 v3 (v4 + 1) v5 (v6 + 1) h17 hf _ _ _ M (lv_sub hl [2, 3, 4, 5, 1, 6, 0] rfl)
            · have hf := ifp c20 hf
              refine lv_aload_n X.1 X.2.1 dX10_all_102 rfl (lv_at hl 0 rfl) ?_
              obtain ⟨t21, q22, hf⟩ := bnd hf
              refine x_getr fl_X10_41 X M q22 dX10_all_103 ?_
              refine lv_iload_n X.1 X.2.1 dX10_all_106 rfl (lv_at hl 3 rfl) ?_
              obtain ⟨t23, q24, hf⟩ := bnd hf
              refine x_iald X M q24 dX10_all_107 ?_
              refine lv_istore (lv' := [(5, .int t23), (0, .ref (gB G + v0)), (1, .int v1), (2, .int v2), (3, .int v3), (4, .int v4), (6, .int v6)]) X.1 X.2.1 dX10_all_108 hl (by decide) rfl (fun ls hl => ?_)
              refine lv_iinc (v := (v4 + 1)) (lv' := [(4, .int (v4 + 1)), (5, .int t23), (0, .ref (gB G + v0)), (1, .int v1), (2, .int v2), (3, .int v3), (6, .int v6)]) X.1 X.2.1 dX10_all_110 hl (k := 5) rfl (by first | rfl | decide) (by decide) rfl (fun ls hl => ?_)
              refine lv_iinc (v := (v6 + 1)) (lv' := [(6, .int (v6 + 1)), (4, .int (v4 + 1)), (5, .int t23), (0, .ref (gB G + v0)), (1, .int v1), (2, .int v2), (3, .int v3)]) X.1 X.2.1 dX10_all_113 hl (k := 6) rfl (by first | rfl | decide) (by decide) rfl (fun ls hl => ?_)
              refine lv_goto (tgt := 57) X.1 X.2.1 dX10_all_116 (by decide) ?_
              exact ih v0 v1 v2 v3 (v4 + 1) t23 (v6 + 1) h17 hf _ _ _ M (lv_sub hl [3, 4, 5, 6, 1, 2, 0] rfl)
          · have hf := ifp c19 hf
            refine lv_goto (tgt := 113) X.1 X.2.1 dX10_all_93 (by decide) ?_
            refine lv_iinc (v := (v6 + 1)) (lv' := [(6, .int (v6 + 1)), (0, .ref (gB G + v0)), (1, .int v1), (2, .int v2), (3, .int v3), (4, .int v4), (5, .int v5)]) X.1 X.2.1 dX10_all_113 hl (k := 6) rfl (by first | rfl | decide) (by decide) rfl (fun ls hl => ?_)
            refine lv_goto (tgt := 57) X.1 X.2.1 dX10_all_116 (by decide) ?_
            exact ih v0 v1 v2 v3 v4 v5 (v6 + 1) h17 hf _ _ _ M (lv_sub hl [1, 2, 3, 4, 5, 6, 0] rfl)
def f_X10_all (N : Nat) (v0 : Nat) (v1 : Int32) (v2 : Int32) (v3 : Int32) (h : Mem) : Option (Int32 × Mem) :=
  (ck h v0 10).bind fun _ =>
  b2 (f_X10_in N v0 v1 (1 : Int32) (5 : Int32) h) fun t4 h3 =>
  if t4 = 0 then
    some ((-1 : Int32), h3)
  else
    (ck h3 v0 10).bind fun _ =>
    b2 (f_X10_isFamily N v0 v3 h3) fun t9 h8 =>
    if t9 = 0 then
      some ((-1 : Int32), h8)
    else
      if (-1 : Int32) ≤ v2 then
        (gI h8 v0 10 1).bind fun t12 =>
        if (5 : Int32) < t12 then
          some ((-9 : Int32), h8)
        else
          (gI h8 v0 10 0).bind fun t15 =>
          if t15 ≤ (3 : Int32) then
            (ck h8 v0 10).bind fun _ =>
            (f_X10_keep N v0 h8).bind fun h20 =>
            f_X10_all_57 N N v0 v1 v2 v3 (0 : Int32) (-1 : Int32) (0 : Int32) h20
          else
            some ((-9 : Int32), h8)
      else
        some ((-1 : Int32), h8)
set_option maxRecDepth 100000 in
set_option maxHeartbeats 4000000 in
theorem w_X10_all {p : Program} {l : Launch} {e : Env} {s : State} {m : MethodId} {args : Array Value} {below : List Frame} {meth : Method} {c : Code} {G : Gx} {r : Int32} {h' : Mem} (X : CX G p s m args c cX10_all 7 RX10) (hr : meth.sig.returnType = (Option.some Jvm.ClassFile.FieldType.int)) (hk : meth.locks = false) (N : Nat) : ∀ (v0 : Nat) (v1 : Int32) (v2 : Int32) (v3 : Int32) (h : Mem), f_X10_all N v0 v1 v2 v3 h = some (r, h') → ∀ (H : Heap) (locs : List Loc) (ls : Array Slot), MS G s h H locs 0 → lv_has ls 7 [(0, .ref (gB G + v0)), (1, .int v1), (2, .int v2), (3, .int v3)] → W p l e (rm_X10_all) s m args below meth c H locs 0 0 (QI G below args s r h' 0 0) (F0 m 0 ls []) := by
  intro v0 v1 v2 v3 h hf H locs ls M hl
  rw [f_X10_all] at hf
  refine lv_aload_n X.1 X.2.1 dX10_all_0 rfl (lv_at hl 0 rfl) ?_
  refine lv_iload_n X.1 X.2.1 dX10_all_1 rfl (lv_at hl 1 rfl) ?_
  refine lv_iconst (v := (1 : Int32)) X.1 X.2.1 dX10_all_2 (by decide) ?_
  refine lv_iconst (v := (5 : Int32)) X.1 X.2.1 dX10_all_3 (by decide) ?_
  obtain ⟨⟨⟩, q1, hf⟩ := bnd hf
  obtain ⟨t4, h3, q2, hf⟩ := bnd2 hf
  refine x_callVi (As := [.int v1, .int (1 : Int32), .int (5 : Int32)]) cf_X10_197 (c_X10_in l G N v0 v1 (1 : Int32) (5 : Int32) h _ _ q2) rfl ⟨rfl, rfl, Nat.le_of_ble_eq_true rfl, Nat.le_of_ble_eq_true rfl⟩ ⟨Nat.le_of_ble_eq_true rfl, Nat.le_of_ble_eq_true rfl⟩ X M (x_recv cls_X10 X M q1) rfl rfl hl.1 (Nat.le_of_ble_eq_true rfl) dX10_all_4 (fun H locs M => ?_)
  refine lv_if_eq (tgt := 23) X.1 X.2.1 dX10_all_7 (by decide) (fun c5 => ?_) (fun c5 => ?_)
  · have hf := ifp c5 hf
    refine lv_iconst (v := (-1 : Int32)) X.1 X.2.1 dX10_all_23 (by decide) ?_
    obtain ⟨rfl, rfl⟩ := rt2 hf
    exact x_iret X hr hk M dX10_all_24
  · have hf := ifn c5 hf
    refine lv_aload_n X.1 X.2.1 dX10_all_10 rfl (lv_at hl 0 rfl) ?_
    refine lv_iload_n X.1 X.2.1 dX10_all_11 rfl (lv_at hl 3 rfl) ?_
    obtain ⟨⟨⟩, q6, hf⟩ := bnd hf
    obtain ⟨t9, h8, q7, hf⟩ := bnd2 hf
    refine x_callVi (As := [.int v3]) cf_X10_216 (c_X10_isFamily l G N v0 v3 h3 _ _ q7) rfl ⟨rfl, rfl, Nat.le_of_ble_eq_true rfl, Nat.le_of_ble_eq_true rfl⟩ ⟨Nat.le_of_ble_eq_true rfl, Nat.le_of_ble_eq_true rfl⟩ X M (x_recv cls_X10 X M q6) rfl rfl hl.1 (Nat.le_of_ble_eq_true rfl) dX10_all_12 (fun H locs M => ?_)
    refine lv_if_eq (tgt := 23) X.1 X.2.1 dX10_all_15 (by decide) (fun c10 => ?_) (fun c10 => ?_)
    · have hf := ifp c10 hf
      refine lv_iconst (v := (-1 : Int32)) X.1 X.2.1 dX10_all_23 (by decide) ?_
      obtain ⟨rfl, rfl⟩ := rt2 hf
      exact x_iret X hr hk M dX10_all_24
    · have hf := ifn c10 hf
      refine lv_iload_n X.1 X.2.1 dX10_all_18 rfl (lv_at hl 2 rfl) ?_
      refine lv_iconst (v := (-1 : Int32)) X.1 X.2.1 dX10_all_19 (by decide) ?_
      refine lv_icmp_ge (tgt := 25) X.1 X.2.1 dX10_all_20 (by decide) (fun c11 => ?_) (fun c11 => ?_)
      · have hf := ifp c11 hf
        refine lv_aload_n X.1 X.2.1 dX10_all_25 rfl (lv_at hl 0 rfl) ?_
        obtain ⟨t12, q13, hf⟩ := bnd hf
        refine x_geti fl_X10_13 X M q13 dX10_all_26 ?_
        refine lv_iconst (v := (5 : Int32)) X.1 X.2.1 dX10_all_29 (by decide) ?_
        refine lv_icmp_gt (tgt := 41) X.1 X.2.1 dX10_all_30 (by decide) (fun c14 => ?_) (fun c14 => ?_)
        · have hf := ifp c14 hf
          refine lv_bipush (v := (-9 : Int32)) X.1 X.2.1 dX10_all_41 (by decide) ?_
          obtain ⟨rfl, rfl⟩ := rt2 hf
          exact x_iret X hr hk M dX10_all_43
        · have hf := ifn c14 hf
          refine lv_aload_n X.1 X.2.1 dX10_all_33 rfl (lv_at hl 0 rfl) ?_
          obtain ⟨t15, q16, hf⟩ := bnd hf
          refine x_geti fl_X10_7 X M q16 dX10_all_34 ?_
          refine lv_iconst (v := (3 : Int32)) X.1 X.2.1 dX10_all_37 (by decide) ?_
          refine lv_icmp_le (tgt := 44) X.1 X.2.1 dX10_all_38 (by decide) (fun c17 => ?_) (fun c17 => ?_)
          · have hf := ifp c17 hf
            refine lv_aload_n X.1 X.2.1 dX10_all_44 rfl (lv_at hl 0 rfl) ?_
            obtain ⟨⟨⟩, q18, hf⟩ := bnd hf
            obtain ⟨h20, q19, hf⟩ := bnd hf
            refine x_callVv (As := []) cf_X10_354 (c_X10_keep l G N v0 h8 _ q19) rfl ⟨rfl, rfl, Nat.le_of_ble_eq_true rfl, Nat.le_of_ble_eq_true rfl⟩ ⟨Nat.le_of_ble_eq_true rfl, Nat.le_of_ble_eq_true rfl⟩ X M (x_recv cls_X10 X M q18) rfl rfl hl.1 (Nat.le_of_ble_eq_true rfl) dX10_all_45 (fun H locs M => ?_)
            refine lv_iconst (v := (0 : Int32)) X.1 X.2.1 dX10_all_48 (by decide) ?_
            refine lv_istore (lv' := [(4, .int (0 : Int32)), (0, .ref (gB G + v0)), (1, .int v1), (2, .int v2), (3, .int v3)]) X.1 X.2.1 dX10_all_49 hl (by decide) rfl (fun ls hl => ?_)
            refine lv_iconst (v := (-1 : Int32)) X.1 X.2.1 dX10_all_51 (by decide) ?_
            refine lv_istore (lv' := [(5, .int (-1 : Int32)), (4, .int (0 : Int32)), (0, .ref (gB G + v0)), (1, .int v1), (2, .int v2), (3, .int v3)]) X.1 X.2.1 dX10_all_52 hl (by decide) rfl (fun ls hl => ?_)
            refine lv_iconst (v := (0 : Int32)) X.1 X.2.1 dX10_all_54 (by decide) ?_
            refine lv_istore (lv' := [(6, .int (0 : Int32)), (5, .int (-1 : Int32)), (4, .int (0 : Int32)), (0, .ref (gB G + v0)), (1, .int v1), (2, .int v2), (3, .int v3)]) X.1 X.2.1 dX10_all_55 hl (by decide) rfl (fun ls hl => ?_)
            exact w_X10_all_57 X hr hk N N v0 v1 v2 v3 (0 : Int32) (-1 : Int32) (0 : Int32) h20 hf _ _ _ M (lv_sub hl [3, 4, 5, 6, 2, 1, 0] rfl)
          · have hf := ifn c17 hf
            refine lv_bipush (v := (-9 : Int32)) X.1 X.2.1 dX10_all_41 (by decide) ?_
            obtain ⟨rfl, rfl⟩ := rt2 hf
            exact x_iret X hr hk M dX10_all_43
      · have hf := ifn c11 hf
        refine lv_iconst (v := (-1 : Int32)) X.1 X.2.1 dX10_all_23 (by decide) ?_
        obtain ⟨rfl, rfl⟩ := rt2 hf
        exact x_iret X hr hk M dX10_all_24
theorem c_X10_all (l : Launch) (G : Gx) (N : Nat) (v0 : Nat) (v1 : Int32) (v2 : Int32) (v3 : Int32) (h : Mem) (r : Int32) (h' : Mem) (hf : f_X10_all N v0 v1 v2 v3 h = some (r, h')) : MetG l G yX10_all (.code yX10_all cX10_all 7 (Option.some Jvm.ClassFile.FieldType.int)) rm_X10_all [.ref (gB G + v0), .int v1, .int v2, .int v3] h (QcI G r h') 0 0 :=
  x_met (by decide) rfl (Nat.le_of_ble_eq_true rfl) (fun p e s m args below meth c ls X M hr hk hin hl => w_X10_all X hr hk N v0 v1 v2 v3 h hf _ _ ls M hl)
abbrev rm_X10_good : Room := { frames := 11, cells := 0, slots := 0, locals := 262 }
def f_X10_good_118 (N : Nat) (v0 : Nat) (v1 : Int32) (v5 : Int32) (v6 : Int64) (h : Mem) (k40 : Nat → Int32 → Int32 → Int64 → Int32 → Mem → Option (Int32 × Mem)) : Option (Int32 × Mem) :=
  (gR h v0 10 10).bind fun t1 =>
  (lI 100 h t1 v1).bind fun t3 =>
  k40 v0 v1 t3 v6 (v5 + 1) h
set_option maxRecDepth 100000 in
set_option maxHeartbeats 4000000 in
theorem w_X10_good_118 {p : Program} {l : Launch} {e : Env} {s : State} {m : MethodId} {args : Array Value} {below : List Frame} {meth : Method} {c : Code} {G : Gx} {r : Int32} {h' : Mem} (X : CX G p s m args c cX10_good 9 RX10) (hr : meth.sig.returnType = (Option.some Jvm.ClassFile.FieldType.int)) (hk : meth.locks = false) (N : Nat) (k40 : Nat → Int32 → Int32 → Int64 → Int32 → Mem → Option (Int32 × Mem)) (K40 : ∀ (v0 : Nat) (v1 : Int32) (v2 : Int32) (v3 : Int64) (v5 : Int32) (h : Mem), k40 v0 v1 v2 v3 v5 h = some (r, h') → ∀ (H : Heap) (locs : List Loc) (ls : Array Slot), MS G s h H locs 0 → lv_has ls 9 [(0, .ref (gB G + v0)), (1, .int v1), (2, .int v2), (3, .long v3), (5, .int v5)] → W p l e (rm_X10_good) s m args below meth c H locs 0 0 (QI G below args s r h' 0 0) (F0 m 40 ls [])) : ∀ (v0 : Nat) (v1 : Int32) (v5 : Int32) (v6 : Int64) (h : Mem), f_X10_good_118 N v0 v1 v5 v6 h k40 = some (r, h') → ∀ (H : Heap) (locs : List Loc) (ls : Array Slot), MS G s h H locs 0 → lv_has ls 9 [(0, .ref (gB G + v0)), (1, .int v1), (5, .int v5), (6, .long v6)] → W p l e (rm_X10_good) s m args below meth c H locs 0 0 (QI G below args s r h' 0 0) (F0 m 118 ls []) := by
  intro v0 v1 v5 v6 h hf H locs ls M hl
  rw [f_X10_good_118] at hf
  refine lv_aload_n X.1 X.2.1 dX10_good_118 rfl (lv_at hl 0 rfl) ?_
  obtain ⟨t1, q2, hf⟩ := bnd hf
  refine x_getr fl_X10_41 X M q2 dX10_good_119 ?_
  refine lv_iload_n X.1 X.2.1 dX10_good_122 rfl (lv_at hl 1 rfl) ?_
  obtain ⟨t3, q4, hf⟩ := bnd hf
  refine x_iald X M q4 dX10_good_123 ?_
  refine lv_istore_n (lv' := [(2, .int t3), (0, .ref (gB G + v0)), (1, .int v1), (5, .int v5), (6, .long v6)]) X.1 X.2.1 dX10_good_124 rfl hl (by decide) rfl (fun ls hl => ?_)
  refine lv_lload X.1 X.2.1 dX10_good_125 (lv_at hl 4 rfl) ?_
  refine lv_lstore_n (lv' := [(3, .long v6), (2, .int t3), (0, .ref (gB G + v0)), (1, .int v1), (5, .int v5), (6, .long v6)]) X.1 X.2.1 dX10_good_127 rfl hl (by decide) rfl (fun ls hl => ?_)
  refine lv_iinc (v := (v5 + 1)) (lv' := [(5, .int (v5 + 1)), (3, .long v6), (2, .int t3), (0, .ref (gB G + v0)), (1, .int v1), (6, .long v6)]) X.1 X.2.1 dX10_good_128 hl (k := 4) rfl (by first | rfl | decide) (by decide) rfl (fun ls hl => ?_)
  refine lv_goto (tgt := 40) X.1 X.2.1 dX10_good_131 (by decide) ?_
  exact K40 v0 v1 t3 v6 (v5 + 1) h hf _ _ _ M (lv_sub hl [3, 4, 2, 1, 0] rfl)
def f_X10_good_71 (N : Nat) (n : Nat) (v0 : Nat) (v1 : Int32) (v2 : Int32) (v3 : Int64) (v5 : Int32) (v6 : Int64) (v8 : Int32) (h : Mem) (k40 : Nat → Int32 → Int32 → Int64 → Int32 → Mem → Option (Int32 × Mem)) : Option (Int32 × Mem) := match n with
  | 0 => none
  | n + 1 =>
    (gI h v0 10 1).bind fun t1 =>
    if t1 ≤ v8 then
      if v2 < 0 then
        f_X10_good_118 N v0 v1 v5 v6 h k40
      else
        if 0 < (lg_cmp v6 v3) then
          f_X10_good_118 N v0 v1 v5 v6 h k40
        else
          k40 v0 v1 v2 v3 (v5 + 1) h
    else
      (gR h v0 10 10).bind fun t6 =>
      (lI 100 h t6 v8).bind fun t8 =>
      (ck h v0 10).bind fun _ =>
      b2 (f_X10_worthOf N v0 v8 t8 h) fun t13 h12 =>
      f_X10_good_71 N n v0 v1 v2 v3 v5 (v6 + t13) (v8 + 1) h12 k40
set_option maxRecDepth 100000 in
set_option maxHeartbeats 4000000 in
theorem w_X10_good_71 {p : Program} {l : Launch} {e : Env} {s : State} {m : MethodId} {args : Array Value} {below : List Frame} {meth : Method} {c : Code} {G : Gx} {r : Int32} {h' : Mem} (X : CX G p s m args c cX10_good 9 RX10) (hr : meth.sig.returnType = (Option.some Jvm.ClassFile.FieldType.int)) (hk : meth.locks = false) (N : Nat) (k40 : Nat → Int32 → Int32 → Int64 → Int32 → Mem → Option (Int32 × Mem)) (K40 : ∀ (v0 : Nat) (v1 : Int32) (v2 : Int32) (v3 : Int64) (v5 : Int32) (h : Mem), k40 v0 v1 v2 v3 v5 h = some (r, h') → ∀ (H : Heap) (locs : List Loc) (ls : Array Slot), MS G s h H locs 0 → lv_has ls 9 [(0, .ref (gB G + v0)), (1, .int v1), (2, .int v2), (3, .long v3), (5, .int v5)] → W p l e (rm_X10_good) s m args below meth c H locs 0 0 (QI G below args s r h' 0 0) (F0 m 40 ls [])) : ∀ (n : Nat) (v0 : Nat) (v1 : Int32) (v2 : Int32) (v3 : Int64) (v5 : Int32) (v6 : Int64) (v8 : Int32) (h : Mem), f_X10_good_71 N n v0 v1 v2 v3 v5 v6 v8 h k40 = some (r, h') → ∀ (H : Heap) (locs : List Loc) (ls : Array Slot), MS G s h H locs 0 → lv_has ls 9 [(0, .ref (gB G + v0)), (1, .int v1), (2, .int v2), (3, .long v3), (5, .int v5), (6, .long v6), (8, .int v8)] → W p l e (rm_X10_good) s m args below meth c H locs 0 0 (QI G below args s r h' 0 0) (F0 m 71 ls []) := by
  intro n
  induction n with
  | zero =>
    intro v0 v1 v2 v3 v5 v6 v8 h hf
    cases hf
  | succ n ih =>
    intro v0 v1 v2 v3 v5 v6 v8 h hf H locs ls M hl
    rw [f_X10_good_71] at hf
    refine lv_iload X.1 X.2.1 dX10_good_71 (lv_at hl 6 rfl) ?_
    refine lv_aload_n X.1 X.2.1 dX10_good_73 rfl (lv_at hl 0 rfl) ?_
    obtain ⟨t1, q2, hf⟩ := bnd hf
    refine x_geti fl_X10_13 X M q2 dX10_good_74 ?_
    refine lv_icmp_ge (tgt := 104) X.1 X.2.1 dX10_good_77 (by decide) (fun c3 => ?_) (fun c3 => ?_)
    · have hf := ifp c3 hf
      refine lv_iload_n X.1 X.2.1 dX10_good_104 rfl (lv_at hl 2 rfl) ?_
      refine lv_if_lt (tgt := 118) X.1 X.2.1 dX10_good_105 (by decide) (fun c4 => ?_) (fun c4 => ?_)
      · have hf := ifp c4 hf
        exact w_X10_good_118 X hr hk N _ K40 v0 v1 v5 v6 h hf _ _ _ M (lv_sub hl [0, 1, 4, 5] rfl)
      · have hf := ifn c4 hf
        refine lv_lload X.1 X.2.1 dX10_good_108 (lv_at hl 5 rfl) ?_
        refine lv_lload_n X.1 X.2.1 dX10_good_110 rfl (lv_at hl 3 rfl) ?_
        refine W.lcmp X.1 X.2.1 dX10_good_111 ?_
        refine lv_if_gt (tgt := 118) X.1 X.2.1 dX10_good_112 (by decide) (fun c5 => ?_) (fun c5 => ?_)
        · have hf := ifp c5 hf
          exact w_X10_good_118 X hr hk N _ K40 v0 v1 v5 v6 h hf _ _ _ M (lv_sub hl [0, 1, 4, 5] rfl)
        · have hf := ifn c5 hf
          refine lv_goto (tgt := 128) X.1 X.2.1 dX10_good_115 (by decide) ?_
          refine lv_iinc (v := (v5 + 1)) (lv' := [(5, .int (v5 + 1)), (0, .ref (gB G + v0)), (1, .int v1), (2, .int v2), (3, .long v3), (6, .long v6), (8, .int v8)]) X.1 X.2.1 dX10_good_128 hl (k := 4) rfl (by first | rfl | decide) (by decide) rfl (fun ls hl => ?_)
          refine lv_goto (tgt := 40) X.1 X.2.1 dX10_good_131 (by decide) ?_
          exact K40 v0 v1 v2 v3 (v5 + 1) h hf _ _ _ M (lv_sub hl [1, 2, 3, 4, 0] rfl)
    · have hf := ifn c3 hf
      refine lv_lload X.1 X.2.1 dX10_good_80 (lv_at hl 5 rfl) ?_
      refine lv_aload_n X.1 X.2.1 dX10_good_82 rfl (lv_at hl 0 rfl) ?_
      refine lv_iload X.1 X.2.1 dX10_good_83 (lv_at hl 6 rfl) ?_
      refine lv_aload_n X.1 X.2.1 dX10_good_85 rfl (lv_at hl 0 rfl) ?_
      obtain ⟨t6, q7, hf⟩ := bnd hf
      refine x_getr fl_X10_41 X M q7 dX10_good_86 ?_
      refine lv_iload X.1 X.2.1 dX10_good_89 (lv_at hl 6 rfl) ?_
      obtain ⟨t8, q9, hf⟩ := bnd hf
      refine x_iald X M q9 dX10_good_91 ?_
      obtain ⟨⟨⟩, q10, hf⟩ := bnd hf
      obtain ⟨t13, h12, q11, hf⟩ := bnd2 hf
      refine x_callVl (As := [.int v8, .int t8]) cf_X10_225 (c_X10_worthOf l G N v0 v8 t8 h _ _ q11) rfl ⟨rfl, rfl, Nat.le_of_ble_eq_true rfl, Nat.le_of_ble_eq_true rfl⟩ ⟨Nat.le_of_ble_eq_true rfl, Nat.le_of_ble_eq_true rfl⟩ X M (x_recv cls_X10 X M q10) rfl rfl hl.1 (Nat.le_of_ble_eq_true rfl) dX10_good_92 (fun H locs M => ?_)
      refine lv_ladd X.1 X.2.1 dX10_good_95 ?_
      refine lv_lstore (lv' := [(6, .long (v6 + t13)), (0, .ref (gB G + v0)), (1, .int v1), (2, .int v2), (3, .long v3), (5, .int v5), (8, .int v8)]) X.1 X.2.1 dX10_good_96 hl (by decide) rfl (fun ls hl => ?_)
      refine lv_iinc (v := (v8 + 1)) (lv' := [(8, .int (v8 + 1)), (6, .long (v6 + t13)), (0, .ref (gB G + v0)), (1, .int v1), (2, .int v2), (3, .long v3), (5, .int v5)]) X.1 X.2.1 dX10_good_98 hl (k := 6) rfl (by first | rfl | decide) (by decide) rfl (fun ls hl => ?_)
      refine lv_goto (tgt := 71) X.1 X.2.1 dX10_good_101 (by decide) ?_
      exact ih v0 v1 v2 v3 v5 (v6 + t13) (v8 + 1) h12 hf _ _ _ M (lv_sub hl [2, 3, 4, 5, 6, 1, 0] rfl)
def f_X10_good_40 (N : Nat) (n : Nat) (v0 : Nat) (v1 : Int32) (v2 : Int32) (v3 : Int64) (v5 : Int32) (h : Mem) : Option (Int32 × Mem) := match n with
  | 0 => none
  | n + 1 =>
    (ck h v0 10).bind fun _ =>
    b2 (f_X10_rowsOf N v0 h) fun t4 h3 =>
    if t4 ≤ v5 then
      (ck h3 v0 10).bind fun _ =>
      (f_X10_putBack N v0 h3).bind fun h8 =>
      some (v2, h8)
    else
      (ck h3 v0 10).bind fun _ =>
      (f_X10_layOut N v0 v5 h3).bind fun h11 =>
      (ck h11 v0 10).bind fun _ =>
      b2 (f_X10_isRoom N v0 h11) fun t15 h14 =>
      if t15 = 0 then
        f_X10_good_40 N n v0 v1 v2 v3 (v5 + 1) h14
      else
        f_X10_good_71 N N v0 v1 v2 v3 v5 (0 : Int64) (0 : Int32) h14 (fun v0 v1 v2 v3 v5 h => f_X10_good_40 N n v0 v1 v2 v3 v5 h)
set_option maxRecDepth 100000 in
set_option maxHeartbeats 4000000 in
theorem w_X10_good_40 {p : Program} {l : Launch} {e : Env} {s : State} {m : MethodId} {args : Array Value} {below : List Frame} {meth : Method} {c : Code} {G : Gx} {r : Int32} {h' : Mem} (X : CX G p s m args c cX10_good 9 RX10) (hr : meth.sig.returnType = (Option.some Jvm.ClassFile.FieldType.int)) (hk : meth.locks = false) (N : Nat) : ∀ (n : Nat) (v0 : Nat) (v1 : Int32) (v2 : Int32) (v3 : Int64) (v5 : Int32) (h : Mem), f_X10_good_40 N n v0 v1 v2 v3 v5 h = some (r, h') → ∀ (H : Heap) (locs : List Loc) (ls : Array Slot), MS G s h H locs 0 → lv_has ls 9 [(0, .ref (gB G + v0)), (1, .int v1), (2, .int v2), (3, .long v3), (5, .int v5)] → W p l e (rm_X10_good) s m args below meth c H locs 0 0 (QI G below args s r h' 0 0) (F0 m 40 ls []) := by
  intro n
  induction n with
  | zero =>
    intro v0 v1 v2 v3 v5 h hf
    cases hf
  | succ n ih =>
    intro v0 v1 v2 v3 v5 h hf H locs ls M hl
    rw [f_X10_good_40] at hf
    refine lv_iload X.1 X.2.1 dX10_good_40 (lv_at hl 4 rfl) ?_
    refine lv_aload_n X.1 X.2.1 dX10_good_42 rfl (lv_at hl 0 rfl) ?_
    obtain ⟨⟨⟩, q1, hf⟩ := bnd hf
    obtain ⟨t4, h3, q2, hf⟩ := bnd2 hf
    refine x_callVi (As := []) cf_X10_363 (c_X10_rowsOf l G N v0 h _ _ q2) rfl ⟨rfl, rfl, Nat.le_of_ble_eq_true rfl, Nat.le_of_ble_eq_true rfl⟩ ⟨Nat.le_of_ble_eq_true rfl, Nat.le_of_ble_eq_true rfl⟩ X M (x_recv cls_X10 X M q1) rfl rfl hl.1 (Nat.le_of_ble_eq_true rfl) dX10_good_43 (fun H locs M => ?_)
    refine lv_icmp_ge (tgt := 134) X.1 X.2.1 dX10_good_46 (by decide) (fun c5 => ?_) (fun c5 => ?_)
    · have hf := ifp c5 hf
      refine lv_aload_n X.1 X.2.1 dX10_good_134 rfl (lv_at hl 0 rfl) ?_
      obtain ⟨⟨⟩, q6, hf⟩ := bnd hf
      obtain ⟨h8, q7, hf⟩ := bnd hf
      refine x_callVv (As := []) cf_X10_360 (c_X10_putBack l G N v0 h3 _ q7) rfl ⟨rfl, rfl, Nat.le_of_ble_eq_true rfl, Nat.le_of_ble_eq_true rfl⟩ ⟨Nat.le_of_ble_eq_true rfl, Nat.le_of_ble_eq_true rfl⟩ X M (x_recv cls_X10 X M q6) rfl rfl hl.1 (Nat.le_of_ble_eq_true rfl) dX10_good_135 (fun H locs M => ?_)
      refine lv_iload_n X.1 X.2.1 dX10_good_138 rfl (lv_at hl 2 rfl) ?_
      obtain ⟨rfl, rfl⟩ := rt2 hf
      exact x_iret X hr hk M dX10_good_139
    · have hf := ifn c5 hf
      refine lv_aload_n X.1 X.2.1 dX10_good_49 rfl (lv_at hl 0 rfl) ?_
      refine lv_iload X.1 X.2.1 dX10_good_50 (lv_at hl 4 rfl) ?_
      obtain ⟨⟨⟩, q9, hf⟩ := bnd hf
      obtain ⟨h11, q10, hf⟩ := bnd hf
      refine x_callVv (As := [.int v5]) cf_X10_366 (c_X10_layOut l G N v0 v5 h3 _ q10) rfl ⟨rfl, rfl, Nat.le_of_ble_eq_true rfl, Nat.le_of_ble_eq_true rfl⟩ ⟨Nat.le_of_ble_eq_true rfl, Nat.le_of_ble_eq_true rfl⟩ X M (x_recv cls_X10 X M q9) rfl rfl hl.1 (Nat.le_of_ble_eq_true rfl) dX10_good_52 (fun H locs M => ?_)
      refine lv_aload_n X.1 X.2.1 dX10_good_55 rfl (lv_at hl 0 rfl) ?_
      obtain ⟨⟨⟩, q12, hf⟩ := bnd hf
      obtain ⟨t15, h14, q13, hf⟩ := bnd2 hf
      refine x_callVi (As := []) cf_X10_357 (c_X10_isRoom l G N v0 h11 _ _ q13) rfl ⟨rfl, rfl, Nat.le_of_ble_eq_true rfl, Nat.le_of_ble_eq_true rfl⟩ ⟨Nat.le_of_ble_eq_true rfl, Nat.le_of_ble_eq_true rfl⟩ X M (x_recv cls_X10 X M q12) rfl rfl hl.1 (Nat.le_of_ble_eq_true rfl) dX10_good_56 (fun H locs M => ?_)
      refine lv_if_ne (tgt := 65) X.1 X.2.1 dX10_good_59 (by decide) (fun c16 => ?_) (fun c16 => ?_)
      · have hf := ifn c16 hf
        refine lv_lconst (v := 0) X.1 X.2.1 dX10_good_65 rfl ?_
        refine lv_lstore (lv' := [(6, .long (0 : Int64)), (0, .ref (gB G + v0)), (1, .int v1), (2, .int v2), (3, .long v3), (5, .int v5)]) X.1 X.2.1 dX10_good_66 hl (by decide) rfl (fun ls hl => ?_)
        refine lv_iconst (v := (0 : Int32)) X.1 X.2.1 dX10_good_68 (by decide) ?_
        refine lv_istore (lv' := [(8, .int (0 : Int32)), (6, .long (0 : Int64)), (0, .ref (gB G + v0)), (1, .int v1), (2, .int v2), (3, .long v3), (5, .int v5)]) X.1 X.2.1 dX10_good_69 hl (by decide) rfl (fun ls hl => ?_)
        exact w_X10_good_71 X hr hk N _ (fun v0 v1 v2 v3 v5 h hf H locs ls M hl => ih v0 v1 v2 v3 v5 h hf H locs ls M hl) N v0 v1 v2 v3 v5 (0 : Int64) (0 : Int32) h14 hf _ _ _ M (lv_sub hl [2, 3, 4, 5, 6, 1, 0] rfl)
      · have hf := ifp c16 hf
        refine lv_goto (tgt := 128) X.1 X.2.1 dX10_good_62 (by decide) ?_
        refine lv_iinc (v := (v5 + 1)) (lv' := [(5, .int (v5 + 1)), (0, .ref (gB G + v0)), (1, .int v1), (2, .int v2), (3, .long v3)]) X.1 X.2.1 dX10_good_128 hl (k := 4) rfl (by first | rfl | decide) (by decide) rfl (fun ls hl => ?_)
        refine lv_goto (tgt := 40) X.1 X.2.1 dX10_good_131 (by decide) ?_
        exact ih v0 v1 v2 v3 (v5 + 1) h14 hf _ _ _ M (lv_sub hl [1, 2, 3, 4, 0] rfl)
def f_X10_good (N : Nat) (v0 : Nat) (v1 : Int32) (h : Mem) : Option (Int32 × Mem) :=
  (ck h v0 10).bind fun _ =>
  b2 (f_X10_isFamily N v0 v1 h) fun t4 h3 =>
  if t4 = 0 then
    some ((-1 : Int32), h3)
  else
    (gI h3 v0 10 1).bind fun t6 =>
    if (5 : Int32) < t6 then
      some ((-9 : Int32), h3)
    else
      (gI h3 v0 10 0).bind fun t9 =>
      if t9 ≤ (3 : Int32) then
        (ck h3 v0 10).bind fun _ =>
        (f_X10_keep N v0 h3).bind fun h14 =>
        f_X10_good_40 N N v0 v1 (-1 : Int32) (0 : Int64) (0 : Int32) h14
      else
        some ((-9 : Int32), h3)
set_option maxRecDepth 100000 in
set_option maxHeartbeats 4000000 in
theorem w_X10_good {p : Program} {l : Launch} {e : Env} {s : State} {m : MethodId} {args : Array Value} {below : List Frame} {meth : Method} {c : Code} {G : Gx} {r : Int32} {h' : Mem} (X : CX G p s m args c cX10_good 9 RX10) (hr : meth.sig.returnType = (Option.some Jvm.ClassFile.FieldType.int)) (hk : meth.locks = false) (N : Nat) : ∀ (v0 : Nat) (v1 : Int32) (h : Mem), f_X10_good N v0 v1 h = some (r, h') → ∀ (H : Heap) (locs : List Loc) (ls : Array Slot), MS G s h H locs 0 → lv_has ls 9 [(0, .ref (gB G + v0)), (1, .int v1)] → W p l e (rm_X10_good) s m args below meth c H locs 0 0 (QI G below args s r h' 0 0) (F0 m 0 ls []) := by
  intro v0 v1 h hf H locs ls M hl
  rw [f_X10_good] at hf
  refine lv_aload_n X.1 X.2.1 dX10_good_0 rfl (lv_at hl 0 rfl) ?_
  refine lv_iload_n X.1 X.2.1 dX10_good_1 rfl (lv_at hl 1 rfl) ?_
  obtain ⟨⟨⟩, q1, hf⟩ := bnd hf
  obtain ⟨t4, h3, q2, hf⟩ := bnd2 hf
  refine x_callVi (As := [.int v1]) cf_X10_216 (c_X10_isFamily l G N v0 v1 h _ _ q2) rfl ⟨rfl, rfl, Nat.le_of_ble_eq_true rfl, Nat.le_of_ble_eq_true rfl⟩ ⟨Nat.le_of_ble_eq_true rfl, Nat.le_of_ble_eq_true rfl⟩ X M (x_recv cls_X10 X M q1) rfl rfl hl.1 (Nat.le_of_ble_eq_true rfl) dX10_good_2 (fun H locs M => ?_)
  refine lv_if_ne (tgt := 10) X.1 X.2.1 dX10_good_5 (by decide) (fun c5 => ?_) (fun c5 => ?_)
  · have hf := ifn c5 hf
    refine lv_aload_n X.1 X.2.1 dX10_good_10 rfl (lv_at hl 0 rfl) ?_
    obtain ⟨t6, q7, hf⟩ := bnd hf
    refine x_geti fl_X10_13 X M q7 dX10_good_11 ?_
    refine lv_iconst (v := (5 : Int32)) X.1 X.2.1 dX10_good_14 (by decide) ?_
    refine lv_icmp_gt (tgt := 26) X.1 X.2.1 dX10_good_15 (by decide) (fun c8 => ?_) (fun c8 => ?_)
    · have hf := ifp c8 hf
      refine lv_bipush (v := (-9 : Int32)) X.1 X.2.1 dX10_good_26 (by decide) ?_
      obtain ⟨rfl, rfl⟩ := rt2 hf
      exact x_iret X hr hk M dX10_good_28
    · have hf := ifn c8 hf
      refine lv_aload_n X.1 X.2.1 dX10_good_18 rfl (lv_at hl 0 rfl) ?_
      obtain ⟨t9, q10, hf⟩ := bnd hf
      refine x_geti fl_X10_7 X M q10 dX10_good_19 ?_
      refine lv_iconst (v := (3 : Int32)) X.1 X.2.1 dX10_good_22 (by decide) ?_
      refine lv_icmp_le (tgt := 29) X.1 X.2.1 dX10_good_23 (by decide) (fun c11 => ?_) (fun c11 => ?_)
      · have hf := ifp c11 hf
        refine lv_aload_n X.1 X.2.1 dX10_good_29 rfl (lv_at hl 0 rfl) ?_
        obtain ⟨⟨⟩, q12, hf⟩ := bnd hf
        obtain ⟨h14, q13, hf⟩ := bnd hf
        refine x_callVv (As := []) cf_X10_354 (c_X10_keep l G N v0 h3 _ q13) rfl ⟨rfl, rfl, Nat.le_of_ble_eq_true rfl, Nat.le_of_ble_eq_true rfl⟩ ⟨Nat.le_of_ble_eq_true rfl, Nat.le_of_ble_eq_true rfl⟩ X M (x_recv cls_X10 X M q12) rfl rfl hl.1 (Nat.le_of_ble_eq_true rfl) dX10_good_30 (fun H locs M => ?_)
        refine lv_iconst (v := (-1 : Int32)) X.1 X.2.1 dX10_good_33 (by decide) ?_
        refine lv_istore_n (lv' := [(2, .int (-1 : Int32)), (0, .ref (gB G + v0)), (1, .int v1)]) X.1 X.2.1 dX10_good_34 rfl hl (by decide) rfl (fun ls hl => ?_)
        refine lv_lconst (v := 0) X.1 X.2.1 dX10_good_35 rfl ?_
        refine lv_lstore_n (lv' := [(3, .long (0 : Int64)), (2, .int (-1 : Int32)), (0, .ref (gB G + v0)), (1, .int v1)]) X.1 X.2.1 dX10_good_36 rfl hl (by decide) rfl (fun ls hl => ?_)
        refine lv_iconst (v := (0 : Int32)) X.1 X.2.1 dX10_good_37 (by decide) ?_
        refine lv_istore (lv' := [(5, .int (0 : Int32)), (3, .long (0 : Int64)), (2, .int (-1 : Int32)), (0, .ref (gB G + v0)), (1, .int v1)]) X.1 X.2.1 dX10_good_38 hl (by decide) rfl (fun ls hl => ?_)
        exact w_X10_good_40 X hr hk N N v0 v1 (-1 : Int32) (0 : Int64) (0 : Int32) h14 hf _ _ _ M (lv_sub hl [3, 4, 2, 1, 0] rfl)
      · have hf := ifn c11 hf
        refine lv_bipush (v := (-9 : Int32)) X.1 X.2.1 dX10_good_26 (by decide) ?_
        obtain ⟨rfl, rfl⟩ := rt2 hf
        exact x_iret X hr hk M dX10_good_28
  · have hf := ifp c5 hf
    refine lv_iconst (v := (-1 : Int32)) X.1 X.2.1 dX10_good_8 (by decide) ?_
    obtain ⟨rfl, rfl⟩ := rt2 hf
    exact x_iret X hr hk M dX10_good_9
theorem c_X10_good (l : Launch) (G : Gx) (N : Nat) (v0 : Nat) (v1 : Int32) (h : Mem) (r : Int32) (h' : Mem) (hf : f_X10_good N v0 v1 h = some (r, h')) : MetG l G yX10_good (.code yX10_good cX10_good 9 (Option.some Jvm.ClassFile.FieldType.int)) rm_X10_good [.ref (gB G + v0), .int v1] h (QcI G r h') 0 0 :=
  x_met (by decide) rfl (Nat.le_of_ble_eq_true rfl) (fun p e s m args below meth c ls X M hr hk hin hl => w_X10_good X hr hk N v0 v1 h hf _ _ ls M hl)
abbrev rm_X10_isWanted : Room := { frames := 11, cells := 0, slots := 0, locals := 262 }
def f_X10_isWanted_53 (N : Nat) (v0 : Nat) (v1 : Int32) (v3 : Int32) (s0 : Int32) (h : Mem) (k58 : Nat → Int32 → Int32 → Int32 → Int32 → Mem → Option (Int32 × Mem)) : Option (Int32 × Mem) :=
  k58 v0 v1 v3 s0 (1 : Int32) h
set_option maxRecDepth 100000 in
set_option maxHeartbeats 4000000 in
theorem w_X10_isWanted_53 {p : Program} {l : Launch} {e : Env} {s : State} {m : MethodId} {args : Array Value} {below : List Frame} {meth : Method} {c : Code} {G : Gx} {r : Int32} {h' : Mem} (X : CX G p s m args c cX10_isWanted 4 RX10) (hr : meth.sig.returnType = (Option.some Jvm.ClassFile.FieldType.boolean)) (hk : meth.locks = false) (N : Nat) (k58 : Nat → Int32 → Int32 → Int32 → Int32 → Mem → Option (Int32 × Mem)) (K58 : ∀ (v0 : Nat) (v1 : Int32) (v3 : Int32) (s0 : Int32) (s1 : Int32) (h : Mem), k58 v0 v1 v3 s0 s1 h = some (r, h') → ∀ (H : Heap) (locs : List Loc) (ls : Array Slot), MS G s h H locs 0 → lv_has ls 4 [(0, .ref (gB G + v0)), (1, .int v1), (3, .int v3)] → W p l e (rm_X10_isWanted) s m args below meth c H locs 0 0 (QI G below args s r h' 0 0) (F0 m 58 ls [.int s1, .int s0])) : ∀ (v0 : Nat) (v1 : Int32) (v3 : Int32) (s0 : Int32) (h : Mem), f_X10_isWanted_53 N v0 v1 v3 s0 h k58 = some (r, h') → ∀ (H : Heap) (locs : List Loc) (ls : Array Slot), MS G s h H locs 0 → lv_has ls 4 [(0, .ref (gB G + v0)), (1, .int v1), (3, .int v3)] → W p l e (rm_X10_isWanted) s m args below meth c H locs 0 0 (QI G below args s r h' 0 0) (F0 m 53 ls [.int s0]) := by
  intro v0 v1 v3 s0 h hf H locs ls M hl
  rw [f_X10_isWanted_53] at hf
  refine lv_iconst (v := (1 : Int32)) X.1 X.2.1 dX10_isWanted_53 (by decide) ?_
  refine lv_goto (tgt := 58) X.1 X.2.1 dX10_isWanted_54 (by decide) ?_
  exact K58 v0 v1 v3 s0 (1 : Int32) h hf _ _ _ M (lv_sub hl [0, 1, 2] rfl)
def f_X10_isWanted_57 (N : Nat) (v0 : Nat) (v1 : Int32) (v3 : Int32) (s0 : Int32) (h : Mem) (k58 : Nat → Int32 → Int32 → Int32 → Int32 → Mem → Option (Int32 × Mem)) : Option (Int32 × Mem) :=
  k58 v0 v1 v3 s0 (0 : Int32) h
set_option maxRecDepth 100000 in
set_option maxHeartbeats 4000000 in
theorem w_X10_isWanted_57 {p : Program} {l : Launch} {e : Env} {s : State} {m : MethodId} {args : Array Value} {below : List Frame} {meth : Method} {c : Code} {G : Gx} {r : Int32} {h' : Mem} (X : CX G p s m args c cX10_isWanted 4 RX10) (hr : meth.sig.returnType = (Option.some Jvm.ClassFile.FieldType.boolean)) (hk : meth.locks = false) (N : Nat) (k58 : Nat → Int32 → Int32 → Int32 → Int32 → Mem → Option (Int32 × Mem)) (K58 : ∀ (v0 : Nat) (v1 : Int32) (v3 : Int32) (s0 : Int32) (s1 : Int32) (h : Mem), k58 v0 v1 v3 s0 s1 h = some (r, h') → ∀ (H : Heap) (locs : List Loc) (ls : Array Slot), MS G s h H locs 0 → lv_has ls 4 [(0, .ref (gB G + v0)), (1, .int v1), (3, .int v3)] → W p l e (rm_X10_isWanted) s m args below meth c H locs 0 0 (QI G below args s r h' 0 0) (F0 m 58 ls [.int s1, .int s0])) : ∀ (v0 : Nat) (v1 : Int32) (v3 : Int32) (s0 : Int32) (h : Mem), f_X10_isWanted_57 N v0 v1 v3 s0 h k58 = some (r, h') → ∀ (H : Heap) (locs : List Loc) (ls : Array Slot), MS G s h H locs 0 → lv_has ls 4 [(0, .ref (gB G + v0)), (1, .int v1), (3, .int v3)] → W p l e (rm_X10_isWanted) s m args below meth c H locs 0 0 (QI G below args s r h' 0 0) (F0 m 57 ls [.int s0]) := by
  intro v0 v1 v3 s0 h hf H locs ls M hl
  rw [f_X10_isWanted_57] at hf
  refine lv_iconst (v := (0 : Int32)) X.1 X.2.1 dX10_isWanted_57 (by decide) ?_
  exact K58 v0 v1 v3 s0 (0 : Int32) h hf _ _ _ M (lv_sub hl [0, 1, 2] rfl)
def f_X10_isWanted_58 (N : Nat) (v0 : Nat) (v1 : Int32) (v3 : Int32) (s0 : Int32) (s1 : Int32) (h : Mem) (k4 : Nat → Int32 → Int32 → Int32 → Mem → Option (Int32 × Mem)) : Option (Int32 × Mem) :=
  k4 v0 v1 (s0 + s1) (v3 + 1) h
set_option maxRecDepth 100000 in
set_option maxHeartbeats 4000000 in
theorem w_X10_isWanted_58 {p : Program} {l : Launch} {e : Env} {s : State} {m : MethodId} {args : Array Value} {below : List Frame} {meth : Method} {c : Code} {G : Gx} {r : Int32} {h' : Mem} (X : CX G p s m args c cX10_isWanted 4 RX10) (hr : meth.sig.returnType = (Option.some Jvm.ClassFile.FieldType.boolean)) (hk : meth.locks = false) (N : Nat) (k4 : Nat → Int32 → Int32 → Int32 → Mem → Option (Int32 × Mem)) (K4 : ∀ (v0 : Nat) (v1 : Int32) (v2 : Int32) (v3 : Int32) (h : Mem), k4 v0 v1 v2 v3 h = some (r, h') → ∀ (H : Heap) (locs : List Loc) (ls : Array Slot), MS G s h H locs 0 → lv_has ls 4 [(0, .ref (gB G + v0)), (1, .int v1), (2, .int v2), (3, .int v3)] → W p l e (rm_X10_isWanted) s m args below meth c H locs 0 0 (QI G below args s r h' 0 0) (F0 m 4 ls [])) : ∀ (v0 : Nat) (v1 : Int32) (v3 : Int32) (s0 : Int32) (s1 : Int32) (h : Mem), f_X10_isWanted_58 N v0 v1 v3 s0 s1 h k4 = some (r, h') → ∀ (H : Heap) (locs : List Loc) (ls : Array Slot), MS G s h H locs 0 → lv_has ls 4 [(0, .ref (gB G + v0)), (1, .int v1), (3, .int v3)] → W p l e (rm_X10_isWanted) s m args below meth c H locs 0 0 (QI G below args s r h' 0 0) (F0 m 58 ls [.int s1, .int s0]) := by
  intro v0 v1 v3 s0 s1 h hf H locs ls M hl
  rw [f_X10_isWanted_58] at hf
  refine lv_iadd X.1 X.2.1 dX10_isWanted_58 ?_
  refine lv_istore_n (lv' := [(2, .int (s0 + s1)), (0, .ref (gB G + v0)), (1, .int v1), (3, .int v3)]) X.1 X.2.1 dX10_isWanted_59 rfl hl (by decide) rfl (fun ls hl => ?_)
  refine lv_iinc (v := (v3 + 1)) (lv' := [(3, .int (v3 + 1)), (2, .int (s0 + s1)), (0, .ref (gB G + v0)), (1, .int v1)]) X.1 X.2.1 dX10_isWanted_60 hl (k := 3) rfl (by first | rfl | decide) (by decide) rfl (fun ls hl => ?_)
  refine lv_goto (tgt := 4) X.1 X.2.1 dX10_isWanted_63 (by decide) ?_
  exact K4 v0 v1 (s0 + s1) (v3 + 1) h hf _ _ _ M (lv_sub hl [2, 3, 1, 0] rfl)
def f_X10_isWanted_4 (N : Nat) (n : Nat) (v0 : Nat) (v1 : Int32) (v2 : Int32) (v3 : Int32) (h : Mem) : Option (Int32 × Mem) := match n with
  | 0 => none
  | n + 1 =>
    (gI h v0 10 1).bind fun t1 =>
    if t1 ≤ v3 then
      (gR h v0 10 3).bind fun t4 =>
      (lI 100 h t4 v1).bind fun t6 =>
      if v2 ≤ t6 then
        some ((0 : Int32), h)
      else
        some ((1 : Int32), h)
    else
      (gR h v0 10 10).bind fun t9 =>
      (lI 100 h t9 v3).bind fun t11 =>
      if t11 = v1 then
        f_X10_isWanted_53 N v0 v1 v3 v2 h (fun v0 v1 v3 s0 s1 h => f_X10_isWanted_58 N v0 v1 v3 s0 s1 h (fun v0 v1 v2 v3 h => f_X10_isWanted_4 N n v0 v1 v2 v3 h))
      else
        (ck h v0 10).bind fun _ =>
        b2 (f_X10_isHindered N v0 v3 v1 h) fun t17 h16 =>
        if t17 = 0 then
          (ck h16 v0 10).bind fun _ =>
          b2 (f_X10_worthOf N v0 v3 v1 h16) fun t22 h21 =>
          (gR h21 v0 10 10).bind fun t23 =>
          (lI 100 h21 t23 v3).bind fun t25 =>
          (ck h21 v0 10).bind fun _ =>
          b2 (f_X10_worthOf N v0 v3 t25 h21) fun t30 h29 =>
          if (lg_cmp t22 t30) ≤ 0 then
            f_X10_isWanted_57 N v0 v1 v3 v2 h29 (fun v0 v1 v3 s0 s1 h => f_X10_isWanted_58 N v0 v1 v3 s0 s1 h (fun v0 v1 v2 v3 h => f_X10_isWanted_4 N n v0 v1 v2 v3 h))
          else
            f_X10_isWanted_53 N v0 v1 v3 v2 h29 (fun v0 v1 v3 s0 s1 h => f_X10_isWanted_58 N v0 v1 v3 s0 s1 h (fun v0 v1 v2 v3 h => f_X10_isWanted_4 N n v0 v1 v2 v3 h))
        else
          f_X10_isWanted_57 N v0 v1 v3 v2 h16 (fun v0 v1 v3 s0 s1 h => f_X10_isWanted_58 N v0 v1 v3 s0 s1 h (fun v0 v1 v2 v3 h => f_X10_isWanted_4 N n v0 v1 v2 v3 h))
set_option maxRecDepth 100000 in
set_option maxHeartbeats 4000000 in
theorem w_X10_isWanted_4 {p : Program} {l : Launch} {e : Env} {s : State} {m : MethodId} {args : Array Value} {below : List Frame} {meth : Method} {c : Code} {G : Gx} {r : Int32} {h' : Mem} (X : CX G p s m args c cX10_isWanted 4 RX10) (hr : meth.sig.returnType = (Option.some Jvm.ClassFile.FieldType.boolean)) (hk : meth.locks = false) (N : Nat) : ∀ (n : Nat) (v0 : Nat) (v1 : Int32) (v2 : Int32) (v3 : Int32) (h : Mem), f_X10_isWanted_4 N n v0 v1 v2 v3 h = some (r, h') → ∀ (H : Heap) (locs : List Loc) (ls : Array Slot), MS G s h H locs 0 → lv_has ls 4 [(0, .ref (gB G + v0)), (1, .int v1), (2, .int v2), (3, .int v3)] → W p l e (rm_X10_isWanted) s m args below meth c H locs 0 0 (QI G below args s r h' 0 0) (F0 m 4 ls []) := by
  intro n
  induction n with
  | zero =>
    intro v0 v1 v2 v3 h hf
    cases hf
  | succ n ih =>
    intro v0 v1 v2 v3 h hf H locs ls M hl
    rw [f_X10_isWanted_4] at hf
    refine lv_iload_n X.1 X.2.1 dX10_isWanted_4 rfl (lv_at hl 3 rfl) ?_
    refine lv_aload_n X.1 X.2.1 dX10_isWanted_5 rfl (lv_at hl 0 rfl) ?_
    obtain ⟨t1, q2, hf⟩ := bnd hf
    refine x_geti fl_X10_13 X M q2 dX10_isWanted_6 ?_
    refine lv_icmp_ge (tgt := 66) X.1 X.2.1 dX10_isWanted_9 (by decide) (fun c3 => ?_) (fun c3 => ?_)
    · have hf := ifp c3 hf
      refine lv_iload_n X.1 X.2.1 dX10_isWanted_66 rfl (lv_at hl 2 rfl) ?_
      refine lv_aload_n X.1 X.2.1 dX10_isWanted_67 rfl (lv_at hl 0 rfl) ?_
      obtain ⟨t4, q5, hf⟩ := bnd hf
      refine x_getr fl_X10_19 X M q5 dX10_isWanted_68 ?_
      refine lv_iload_n X.1 X.2.1 dX10_isWanted_71 rfl (lv_at hl 1 rfl) ?_
      obtain ⟨t6, q7, hf⟩ := bnd hf
      refine x_iald X M q7 dX10_isWanted_72 ?_
      refine lv_icmp_le (tgt := 80) X.1 X.2.1 dX10_isWanted_73 (by decide) (fun c8 => ?_) (fun c8 => ?_)
      · have hf := ifp c8 hf
        refine lv_iconst (v := (0 : Int32)) X.1 X.2.1 dX10_isWanted_80 (by decide) ?_
        obtain ⟨rfl, rfl⟩ := rt2 hf
        exact x_zret X hr hk rfl M dX10_isWanted_81
      · have hf := ifn c8 hf
        refine lv_iconst (v := (1 : Int32)) X.1 X.2.1 dX10_isWanted_76 (by decide) ?_
        refine lv_goto (tgt := 81) X.1 X.2.1 dX10_isWanted_77 (by decide) ?_
        obtain ⟨rfl, rfl⟩ := rt2 hf
        exact x_zret X hr hk rfl M dX10_isWanted_81
    · have hf := ifn c3 hf
      refine lv_iload_n X.1 X.2.1 dX10_isWanted_12 rfl (lv_at hl 2 rfl) ?_
      refine lv_aload_n X.1 X.2.1 dX10_isWanted_13 rfl (lv_at hl 0 rfl) ?_
      obtain ⟨t9, q10, hf⟩ := bnd hf
      refine x_getr fl_X10_41 X M q10 dX10_isWanted_14 ?_
      refine lv_iload_n X.1 X.2.1 dX10_isWanted_17 rfl (lv_at hl 3 rfl) ?_
      obtain ⟨t11, q12, hf⟩ := bnd hf
      refine x_iald X M q12 dX10_isWanted_18 ?_
      refine lv_iload_n X.1 X.2.1 dX10_isWanted_19 rfl (lv_at hl 1 rfl) ?_
      refine lv_icmp_eq (tgt := 53) X.1 X.2.1 dX10_isWanted_20 (by decide) (fun c13 => ?_) (fun c13 => ?_)
      · have hf := ifp c13 hf
        exact w_X10_isWanted_53 X hr hk N _ (fun v0 v1 v3 s0 s1 h hf H locs ls M hl => w_X10_isWanted_58 X hr hk N _ (fun v0 v1 v2 v3 h hf H locs ls M hl => ih v0 v1 v2 v3 h hf H locs ls M hl) v0 v1 v3 s0 s1 h hf H locs ls M hl) v0 v1 v3 v2 h hf _ _ _ M (lv_sub hl [0, 1, 3] rfl)
      · have hf := ifn c13 hf
        refine lv_aload_n X.1 X.2.1 dX10_isWanted_23 rfl (lv_at hl 0 rfl) ?_
        refine lv_iload_n X.1 X.2.1 dX10_isWanted_24 rfl (lv_at hl 3 rfl) ?_
        refine lv_iload_n X.1 X.2.1 dX10_isWanted_25 rfl (lv_at hl 1 rfl) ?_
        obtain ⟨⟨⟩, q14, hf⟩ := bnd hf
        obtain ⟨t17, h16, q15, hf⟩ := bnd2 hf
        refine x_callVi (As := [.int v3, .int v1]) cf_X10_305 (c_X10_isHindered l G N v0 v3 v1 h _ _ q15) rfl ⟨rfl, rfl, Nat.le_of_ble_eq_true rfl, Nat.le_of_ble_eq_true rfl⟩ ⟨Nat.le_of_ble_eq_true rfl, Nat.le_of_ble_eq_true rfl⟩ X M (x_recv cls_X10 X M q14) rfl rfl hl.1 (Nat.le_of_ble_eq_true rfl) dX10_isWanted_26 (fun H locs M => ?_)
        refine lv_if_ne (tgt := 57) X.1 X.2.1 dX10_isWanted_29 (by decide) (fun c18 => ?_) (fun c18 => ?_)
        · have hf := ifn c18 hf
          exact w_X10_isWanted_57 X hr hk N _ (fun v0 v1 v3 s0 s1 h hf H locs ls M hl => w_X10_isWanted_58 X hr hk N _ (fun v0 v1 v2 v3 h hf H locs ls M hl => ih v0 v1 v2 v3 h hf H locs ls M hl) v0 v1 v3 s0 s1 h hf H locs ls M hl) v0 v1 v3 v2 h16 hf _ _ _ M (lv_sub hl [0, 1, 3] rfl)
        · have hf := ifp c18 hf
          refine lv_aload_n X.1 X.2.1 dX10_isWanted_32 rfl (lv_at hl 0 rfl) ?_
          refine lv_iload_n X.1 X.2.1 dX10_isWanted_33 rfl (lv_at hl 3 rfl) ?_
          refine lv_iload_n X.1 X.2.1 dX10_isWanted_34 rfl (lv_at hl 1 rfl) ?_
          obtain ⟨⟨⟩, q19, hf⟩ := bnd hf
          obtain ⟨t22, h21, q20, hf⟩ := bnd2 hf
          refine x_callVl (As := [.int v3, .int v1]) cf_X10_225 (c_X10_worthOf l G N v0 v3 v1 h16 _ _ q20) rfl ⟨rfl, rfl, Nat.le_of_ble_eq_true rfl, Nat.le_of_ble_eq_true rfl⟩ ⟨Nat.le_of_ble_eq_true rfl, Nat.le_of_ble_eq_true rfl⟩ X M (x_recv cls_X10 X M q19) rfl rfl hl.1 (Nat.le_of_ble_eq_true rfl) dX10_isWanted_35 (fun H locs M => ?_)
          refine lv_aload_n X.1 X.2.1 dX10_isWanted_38 rfl (lv_at hl 0 rfl) ?_
          refine lv_iload_n X.1 X.2.1 dX10_isWanted_39 rfl (lv_at hl 3 rfl) ?_
          refine lv_aload_n X.1 X.2.1 dX10_isWanted_40 rfl (lv_at hl 0 rfl) ?_
          obtain ⟨t23, q24, hf⟩ := bnd hf
          refine x_getr fl_X10_41 X M q24 dX10_isWanted_41 ?_
          refine lv_iload_n X.1 X.2.1 dX10_isWanted_44 rfl (lv_at hl 3 rfl) ?_
          obtain ⟨t25, q26, hf⟩ := bnd hf
          refine x_iald X M q26 dX10_isWanted_45 ?_
          obtain ⟨⟨⟩, q27, hf⟩ := bnd hf
          obtain ⟨t30, h29, q28, hf⟩ := bnd2 hf
          refine x_callVl (As := [.int v3, .int t25]) cf_X10_225 (c_X10_worthOf l G N v0 v3 t25 h21 _ _ q28) rfl ⟨rfl, rfl, Nat.le_of_ble_eq_true rfl, Nat.le_of_ble_eq_true rfl⟩ ⟨Nat.le_of_ble_eq_true rfl, Nat.le_of_ble_eq_true rfl⟩ X M (x_recv cls_X10 X M q27) rfl rfl hl.1 (Nat.le_of_ble_eq_true rfl) dX10_isWanted_46 (fun H locs M => ?_)
          refine W.lcmp X.1 X.2.1 dX10_isWanted_49 ?_
          refine lv_if_le (tgt := 57) X.1 X.2.1 dX10_isWanted_50 (by decide) (fun c31 => ?_) (fun c31 => ?_)
          · have hf := ifp c31 hf
            exact w_X10_isWanted_57 X hr hk N _ (fun v0 v1 v3 s0 s1 h hf H locs ls M hl => w_X10_isWanted_58 X hr hk N _ (fun v0 v1 v2 v3 h hf H locs ls M hl => ih v0 v1 v2 v3 h hf H locs ls M hl) v0 v1 v3 s0 s1 h hf H locs ls M hl) v0 v1 v3 v2 h29 hf _ _ _ M (lv_sub hl [0, 1, 3] rfl)
          · have hf := ifn c31 hf
            exact w_X10_isWanted_53 X hr hk N _ (fun v0 v1 v3 s0 s1 h hf H locs ls M hl => w_X10_isWanted_58 X hr hk N _ (fun v0 v1 v2 v3 h hf H locs ls M hl => ih v0 v1 v2 v3 h hf H locs ls M hl) v0 v1 v3 s0 s1 h hf H locs ls M hl) v0 v1 v3 v2 h29 hf _ _ _ M (lv_sub hl [0, 1, 3] rfl)
def f_X10_isWanted (N : Nat) (v0 : Nat) (v1 : Int32) (h : Mem) : Option (Int32 × Mem) :=
  f_X10_isWanted_4 N N v0 v1 (0 : Int32) (0 : Int32) h
set_option maxRecDepth 100000 in
set_option maxHeartbeats 4000000 in
theorem w_X10_isWanted {p : Program} {l : Launch} {e : Env} {s : State} {m : MethodId} {args : Array Value} {below : List Frame} {meth : Method} {c : Code} {G : Gx} {r : Int32} {h' : Mem} (X : CX G p s m args c cX10_isWanted 4 RX10) (hr : meth.sig.returnType = (Option.some Jvm.ClassFile.FieldType.boolean)) (hk : meth.locks = false) (N : Nat) : ∀ (v0 : Nat) (v1 : Int32) (h : Mem), f_X10_isWanted N v0 v1 h = some (r, h') → ∀ (H : Heap) (locs : List Loc) (ls : Array Slot), MS G s h H locs 0 → lv_has ls 4 [(0, .ref (gB G + v0)), (1, .int v1)] → W p l e (rm_X10_isWanted) s m args below meth c H locs 0 0 (QI G below args s r h' 0 0) (F0 m 0 ls []) := by
  intro v0 v1 h hf H locs ls M hl
  rw [f_X10_isWanted] at hf
  refine lv_iconst (v := (0 : Int32)) X.1 X.2.1 dX10_isWanted_0 (by decide) ?_
  refine lv_istore_n (lv' := [(2, .int (0 : Int32)), (0, .ref (gB G + v0)), (1, .int v1)]) X.1 X.2.1 dX10_isWanted_1 rfl hl (by decide) rfl (fun ls hl => ?_)
  refine lv_iconst (v := (0 : Int32)) X.1 X.2.1 dX10_isWanted_2 (by decide) ?_
  refine lv_istore_n (lv' := [(3, .int (0 : Int32)), (2, .int (0 : Int32)), (0, .ref (gB G + v0)), (1, .int v1)]) X.1 X.2.1 dX10_isWanted_3 rfl hl (by decide) rfl (fun ls hl => ?_)
  exact w_X10_isWanted_4 X hr hk N N v0 v1 (0 : Int32) (0 : Int32) h hf _ _ _ M (lv_sub hl [2, 3, 1, 0] rfl)
theorem c_X10_isWanted (l : Launch) (G : Gx) (N : Nat) (v0 : Nat) (v1 : Int32) (h : Mem) (r : Int32) (h' : Mem) (hf : f_X10_isWanted N v0 v1 h = some (r, h')) : MetG l G yX10_isWanted (.code yX10_isWanted cX10_isWanted 4 (Option.some Jvm.ClassFile.FieldType.boolean)) rm_X10_isWanted [.ref (gB G + v0), .int v1] h (QcI G r h') 0 0 :=
  x_met (by decide) rfl (Nat.le_of_ble_eq_true rfl) (fun p e s m args below meth c ls X M hr hk hin hl => w_X10_isWanted X hr hk N v0 v1 h hf _ _ ls M hl)
abbrev rm_X10_rise : Room := { frames := 12, cells := 0, slots := 0, locals := 285 }
def f_X10_rise_53 (N : Nat) (v0 : Nat) (v1 : Int32) (v2 : Int32) (h : Mem) (k22 : Nat → Int32 → Mem → Option (Int32 × Mem)) : Option (Int32 × Mem) :=
  (gI h v0 10 0).bind fun t1 =>
  if v2 = t1 then
    some (v1, h)
  else
    (gR h v0 10 5).bind fun t4 =>
    (lI 100 h t4 v2).bind fun t6 =>
    (stI 100 h t4 v2 (t6 + (1 : Int32))).bind fun h8 =>
    k22 v0 (v1 + 1) h8
set_option maxRecDepth 100000 in
set_option maxHeartbeats 4000000 in
theorem w_X10_rise_53 {p : Program} {l : Launch} {e : Env} {s : State} {m : MethodId} {args : Array Value} {below : List Frame} {meth : Method} {c : Code} {G : Gx} {r : Int32} {h' : Mem} (X : CX G p s m args c cX10_rise 3 RX10) (hr : meth.sig.returnType = (Option.some Jvm.ClassFile.FieldType.int)) (hk : meth.locks = false) (N : Nat) (k22 : Nat → Int32 → Mem → Option (Int32 × Mem)) (K22 : ∀ (v0 : Nat) (v1 : Int32) (h : Mem), k22 v0 v1 h = some (r, h') → ∀ (H : Heap) (locs : List Loc) (ls : Array Slot), MS G s h H locs 0 → lv_has ls 3 [(0, .ref (gB G + v0)), (1, .int v1)] → W p l e (rm_X10_rise) s m args below meth c H locs 0 0 (QI G below args s r h' 0 0) (F0 m 22 ls [])) : ∀ (v0 : Nat) (v1 : Int32) (v2 : Int32) (h : Mem), f_X10_rise_53 N v0 v1 v2 h k22 = some (r, h') → ∀ (H : Heap) (locs : List Loc) (ls : Array Slot), MS G s h H locs 0 → lv_has ls 3 [(0, .ref (gB G + v0)), (1, .int v1), (2, .int v2)] → W p l e (rm_X10_rise) s m args below meth c H locs 0 0 (QI G below args s r h' 0 0) (F0 m 53 ls []) := by
  intro v0 v1 v2 h hf H locs ls M hl
  rw [f_X10_rise_53] at hf
  refine lv_iload_n X.1 X.2.1 dX10_rise_53 rfl (lv_at hl 2 rfl) ?_
  refine lv_aload_n X.1 X.2.1 dX10_rise_54 rfl (lv_at hl 0 rfl) ?_
  obtain ⟨t1, q2, hf⟩ := bnd hf
  refine x_geti fl_X10_7 X M q2 dX10_rise_55 ?_
  refine lv_icmp_ne (tgt := 63) X.1 X.2.1 dX10_rise_58 (by decide) (fun c3 => ?_) (fun c3 => ?_)
  · have hf := ifn c3 hf
    refine lv_aload_n X.1 X.2.1 dX10_rise_63 rfl (lv_at hl 0 rfl) ?_
    obtain ⟨t4, q5, hf⟩ := bnd hf
    refine x_getr fl_X10_26 X M q5 dX10_rise_64 ?_
    refine lv_iload_n X.1 X.2.1 dX10_rise_67 rfl (lv_at hl 2 rfl) ?_
    refine lv_dup2_11 X.1 X.2.1 dX10_rise_68 rfl rfl ?_
    obtain ⟨t6, q7, hf⟩ := bnd hf
    refine x_iald X M q7 dX10_rise_69 ?_
    refine lv_iconst (v := (1 : Int32)) X.1 X.2.1 dX10_rise_70 (by decide) ?_
    refine lv_iadd X.1 X.2.1 dX10_rise_71 ?_
    obtain ⟨h8, q9, hf⟩ := bnd hf
    refine x_iast X M q9 dX10_rise_72 (fun H locs M => ?_)
    refine lv_iinc (v := (v1 + 1)) (lv' := [(1, .int (v1 + 1)), (0, .ref (gB G + v0)), (2, .int v2)]) X.1 X.2.1 dX10_rise_73 hl (k := 1) rfl (by first | rfl | decide) (by decide) rfl (fun ls hl => ?_)
    refine lv_goto (tgt := 22) X.1 X.2.1 dX10_rise_76 (by decide) ?_
    exact K22 v0 (v1 + 1) h8 hf _ _ _ M (lv_sub hl [1, 0] rfl)
  · have hf := ifp c3 hf
    refine lv_iload_n X.1 X.2.1 dX10_rise_61 rfl (lv_at hl 1 rfl) ?_
    obtain ⟨rfl, rfl⟩ := rt2 hf
    exact x_iret X hr hk M dX10_rise_62
def f_X10_rise_31 (N : Nat) (n : Nat) (v0 : Nat) (v1 : Int32) (v2 : Int32) (h : Mem) (k22 : Nat → Int32 → Mem → Option (Int32 × Mem)) : Option (Int32 × Mem) := match n with
  | 0 => none
  | n + 1 =>
    (gI h v0 10 0).bind fun t1 =>
    if t1 ≤ v2 then
      f_X10_rise_53 N v0 v1 v2 h k22
    else
      (ck h v0 10).bind fun _ =>
      b2 (f_X10_isWanted N v0 v2 h) fun t7 h6 =>
      if t7 = 0 then
        f_X10_rise_31 N n v0 v1 (v2 + 1) h6 k22
      else
        f_X10_rise_53 N v0 v1 v2 h6 k22
set_option maxRecDepth 100000 in
set_option maxHeartbeats 4000000 in
theorem w_X10_rise_31 {p : Program} {l : Launch} {e : Env} {s : State} {m : MethodId} {args : Array Value} {below : List Frame} {meth : Method} {c : Code} {G : Gx} {r : Int32} {h' : Mem} (X : CX G p s m args c cX10_rise 3 RX10) (hr : meth.sig.returnType = (Option.some Jvm.ClassFile.FieldType.int)) (hk : meth.locks = false) (N : Nat) (k22 : Nat → Int32 → Mem → Option (Int32 × Mem)) (K22 : ∀ (v0 : Nat) (v1 : Int32) (h : Mem), k22 v0 v1 h = some (r, h') → ∀ (H : Heap) (locs : List Loc) (ls : Array Slot), MS G s h H locs 0 → lv_has ls 3 [(0, .ref (gB G + v0)), (1, .int v1)] → W p l e (rm_X10_rise) s m args below meth c H locs 0 0 (QI G below args s r h' 0 0) (F0 m 22 ls [])) : ∀ (n : Nat) (v0 : Nat) (v1 : Int32) (v2 : Int32) (h : Mem), f_X10_rise_31 N n v0 v1 v2 h k22 = some (r, h') → ∀ (H : Heap) (locs : List Loc) (ls : Array Slot), MS G s h H locs 0 → lv_has ls 3 [(0, .ref (gB G + v0)), (1, .int v1), (2, .int v2)] → W p l e (rm_X10_rise) s m args below meth c H locs 0 0 (QI G below args s r h' 0 0) (F0 m 31 ls []) := by
  intro n
  induction n with
  | zero =>
    intro v0 v1 v2 h hf
    cases hf
  | succ n ih =>
    intro v0 v1 v2 h hf H locs ls M hl
    rw [f_X10_rise_31] at hf
    refine lv_iload_n X.1 X.2.1 dX10_rise_31 rfl (lv_at hl 2 rfl) ?_
    refine lv_aload_n X.1 X.2.1 dX10_rise_32 rfl (lv_at hl 0 rfl) ?_
    obtain ⟨t1, q2, hf⟩ := bnd hf
    refine x_geti fl_X10_7 X M q2 dX10_rise_33 ?_
    refine lv_icmp_ge (tgt := 53) X.1 X.2.1 dX10_rise_36 (by decide) (fun c3 => ?_) (fun c3 => ?_)
    · have hf := ifp c3 hf
      exact w_X10_rise_53 X hr hk N _ K22 v0 v1 v2 h hf _ _ _ M (lv_sub hl [0, 1, 2] rfl)
    · have hf := ifn c3 hf
      refine lv_aload_n X.1 X.2.1 dX10_rise_39 rfl (lv_at hl 0 rfl) ?_
      refine lv_iload_n X.1 X.2.1 dX10_rise_40 rfl (lv_at hl 2 rfl) ?_
      obtain ⟨⟨⟩, q4, hf⟩ := bnd hf
      obtain ⟨t7, h6, q5, hf⟩ := bnd2 hf
      refine x_callVi (As := [.int v2]) cf_X10_369 (c_X10_isWanted l G N v0 v2 h _ _ q5) rfl ⟨rfl, rfl, Nat.le_of_ble_eq_true rfl, Nat.le_of_ble_eq_true rfl⟩ ⟨Nat.le_of_ble_eq_true rfl, Nat.le_of_ble_eq_true rfl⟩ X M (x_recv cls_X10 X M q4) rfl rfl hl.1 (Nat.le_of_ble_eq_true rfl) dX10_rise_41 (fun H locs M => ?_)
      refine lv_if_ne (tgt := 53) X.1 X.2.1 dX10_rise_44 (by decide) (fun c8 => ?_) (fun c8 => ?_)
      · have hf := ifn c8 hf
        exact w_X10_rise_53 X hr hk N _ K22 v0 v1 v2 h6 hf _ _ _ M (lv_sub hl [0, 1, 2] rfl)
      · have hf := ifp c8 hf
        refine lv_iinc (v := (v2 + 1)) (lv' := [(2, .int (v2 + 1)), (0, .ref (gB G + v0)), (1, .int v1)]) X.1 X.2.1 dX10_rise_47 hl (k := 2) rfl (by first | rfl | decide) (by decide) rfl (fun ls hl => ?_)
        refine lv_goto (tgt := 31) X.1 X.2.1 dX10_rise_50 (by decide) ?_
        exact ih v0 v1 (v2 + 1) h6 hf _ _ _ M (lv_sub hl [1, 2, 0] rfl)
def f_X10_rise_22 (N : Nat) (n : Nat) (v0 : Nat) (v1 : Int32) (h : Mem) : Option (Int32 × Mem) := match n with
  | 0 => none
  | n + 1 =>
    if (200 : Int32) ≤ v1 then
      some ((200 : Int32), h)
    else
      f_X10_rise_31 N N v0 v1 (0 : Int32) h (fun v0 v1 h => f_X10_rise_22 N n v0 v1 h)
set_option maxRecDepth 100000 in
set_option maxHeartbeats 4000000 in
theorem w_X10_rise_22 {p : Program} {l : Launch} {e : Env} {s : State} {m : MethodId} {args : Array Value} {below : List Frame} {meth : Method} {c : Code} {G : Gx} {r : Int32} {h' : Mem} (X : CX G p s m args c cX10_rise 3 RX10) (hr : meth.sig.returnType = (Option.some Jvm.ClassFile.FieldType.int)) (hk : meth.locks = false) (N : Nat) : ∀ (n : Nat) (v0 : Nat) (v1 : Int32) (h : Mem), f_X10_rise_22 N n v0 v1 h = some (r, h') → ∀ (H : Heap) (locs : List Loc) (ls : Array Slot), MS G s h H locs 0 → lv_has ls 3 [(0, .ref (gB G + v0)), (1, .int v1)] → W p l e (rm_X10_rise) s m args below meth c H locs 0 0 (QI G below args s r h' 0 0) (F0 m 22 ls []) := by
  intro n
  induction n with
  | zero =>
    intro v0 v1 h hf
    cases hf
  | succ n ih =>
    intro v0 v1 h hf H locs ls M hl
    rw [f_X10_rise_22] at hf
    refine lv_iload_n X.1 X.2.1 dX10_rise_22 rfl (lv_at hl 1 rfl) ?_
    refine lv_sipush (v := (200 : Int32)) X.1 X.2.1 dX10_rise_23 (by decide) ?_
    refine lv_icmp_ge (tgt := 79) X.1 X.2.1 dX10_rise_26 (by decide) (fun c1 => ?_) (fun c1 => ?_)
    · have hf := ifp c1 hf
      refine lv_sipush (v := (200 : Int32)) X.1 X.2.1 dX10_rise_79 (by decide) ?_
      obtain ⟨rfl, rfl⟩ := rt2 hf
      exact x_iret X hr hk M dX10_rise_82
    · have hf := ifn c1 hf
      refine lv_iconst (v := (0 : Int32)) X.1 X.2.1 dX10_rise_29 (by decide) ?_
      refine lv_istore_n (lv' := [(2, .int (0 : Int32)), (0, .ref (gB G + v0)), (1, .int v1)]) X.1 X.2.1 dX10_rise_30 rfl hl (by decide) rfl (fun ls hl => ?_)
      exact w_X10_rise_31 X hr hk N _ (fun v0 v1 h hf H locs ls M hl => ih v0 v1 h hf H locs ls M hl) N v0 v1 (0 : Int32) h hf _ _ _ M (lv_sub hl [1, 2, 0] rfl)
def f_X10_rise_2 (N : Nat) (n : Nat) (v0 : Nat) (v1 : Int32) (h : Mem) : Option (Int32 × Mem) := match n with
  | 0 => none
  | n + 1 =>
    if (4 : Int32) ≤ v1 then
      f_X10_rise_22 N N v0 (0 : Int32) h
    else
      (gR h v0 10 5).bind fun t2 =>
      (stI 100 h t2 v1 (0 : Int32)).bind fun h4 =>
      f_X10_rise_2 N n v0 (v1 + 1) h4
set_option maxRecDepth 100000 in
set_option maxHeartbeats 4000000 in
theorem w_X10_rise_2 {p : Program} {l : Launch} {e : Env} {s : State} {m : MethodId} {args : Array Value} {below : List Frame} {meth : Method} {c : Code} {G : Gx} {r : Int32} {h' : Mem} (X : CX G p s m args c cX10_rise 3 RX10) (hr : meth.sig.returnType = (Option.some Jvm.ClassFile.FieldType.int)) (hk : meth.locks = false) (N : Nat) : ∀ (n : Nat) (v0 : Nat) (v1 : Int32) (h : Mem), f_X10_rise_2 N n v0 v1 h = some (r, h') → ∀ (H : Heap) (locs : List Loc) (ls : Array Slot), MS G s h H locs 0 → lv_has ls 3 [(0, .ref (gB G + v0)), (1, .int v1)] → W p l e (rm_X10_rise) s m args below meth c H locs 0 0 (QI G below args s r h' 0 0) (F0 m 2 ls []) := by
  intro n
  induction n with
  | zero =>
    intro v0 v1 h hf
    cases hf
  | succ n ih =>
    intro v0 v1 h hf H locs ls M hl
    rw [f_X10_rise_2] at hf
    refine lv_iload_n X.1 X.2.1 dX10_rise_2 rfl (lv_at hl 1 rfl) ?_
    refine lv_iconst (v := (4 : Int32)) X.1 X.2.1 dX10_rise_3 (by decide) ?_
    refine lv_icmp_ge (tgt := 20) X.1 X.2.1 dX10_rise_4 (by decide) (fun c1 => ?_) (fun c1 => ?_)
    · have hf := ifp c1 hf
      refine lv_iconst (v := (0 : Int32)) X.1 X.2.1 dX10_rise_20 (by decide) ?_
      refine lv_istore_n (lv' := [(1, .int (0 : Int32)), (0, .ref (gB G + v0))]) X.1 X.2.1 dX10_rise_21 rfl hl (by decide) rfl (fun ls hl => ?_)
      exact w_X10_rise_22 X hr hk N N v0 (0 : Int32) h hf _ _ _ M (lv_sub hl [1, 0] rfl)
    · have hf := ifn c1 hf
      refine lv_aload_n X.1 X.2.1 dX10_rise_7 rfl (lv_at hl 0 rfl) ?_
      obtain ⟨t2, q3, hf⟩ := bnd hf
      refine x_getr fl_X10_26 X M q3 dX10_rise_8 ?_
      refine lv_iload_n X.1 X.2.1 dX10_rise_11 rfl (lv_at hl 1 rfl) ?_
      refine lv_iconst (v := (0 : Int32)) X.1 X.2.1 dX10_rise_12 (by decide) ?_
      obtain ⟨h4, q5, hf⟩ := bnd hf
      refine x_iast X M q5 dX10_rise_13 (fun H locs M => ?_)
      refine lv_iinc (v := (v1 + 1)) (lv' := [(1, .int (v1 + 1)), (0, .ref (gB G + v0))]) X.1 X.2.1 dX10_rise_14 hl (k := 1) rfl (by first | rfl | decide) (by decide) rfl (fun ls hl => ?_)
      refine lv_goto (tgt := 2) X.1 X.2.1 dX10_rise_17 (by decide) ?_
      exact ih v0 (v1 + 1) h4 hf _ _ _ M (lv_sub hl [1, 0] rfl)
def f_X10_rise (N : Nat) (v0 : Nat) (h : Mem) : Option (Int32 × Mem) :=
  f_X10_rise_2 N N v0 (0 : Int32) h
set_option maxRecDepth 100000 in
set_option maxHeartbeats 4000000 in
theorem w_X10_rise {p : Program} {l : Launch} {e : Env} {s : State} {m : MethodId} {args : Array Value} {below : List Frame} {meth : Method} {c : Code} {G : Gx} {r : Int32} {h' : Mem} (X : CX G p s m args c cX10_rise 3 RX10) (hr : meth.sig.returnType = (Option.some Jvm.ClassFile.FieldType.int)) (hk : meth.locks = false) (N : Nat) : ∀ (v0 : Nat) (h : Mem), f_X10_rise N v0 h = some (r, h') → ∀ (H : Heap) (locs : List Loc) (ls : Array Slot), MS G s h H locs 0 → lv_has ls 3 [(0, .ref (gB G + v0))] → W p l e (rm_X10_rise) s m args below meth c H locs 0 0 (QI G below args s r h' 0 0) (F0 m 0 ls []) := by
  intro v0 h hf H locs ls M hl
  rw [f_X10_rise] at hf
  refine lv_iconst (v := (0 : Int32)) X.1 X.2.1 dX10_rise_0 (by decide) ?_
  refine lv_istore_n (lv' := [(1, .int (0 : Int32)), (0, .ref (gB G + v0))]) X.1 X.2.1 dX10_rise_1 rfl hl (by decide) rfl (fun ls hl => ?_)
  exact w_X10_rise_2 X hr hk N N v0 (0 : Int32) h hf _ _ _ M (lv_sub hl [1, 0] rfl)
theorem c_X10_rise (l : Launch) (G : Gx) (N : Nat) (v0 : Nat) (h : Mem) (r : Int32) (h' : Mem) (hf : f_X10_rise N v0 h = some (r, h')) : MetG l G yX10_rise (.code yX10_rise cX10_rise 3 (Option.some Jvm.ClassFile.FieldType.int)) rm_X10_rise [.ref (gB G + v0)] h (QcI G r h') 0 0 :=
  x_met (by decide) rfl (Nat.le_of_ble_eq_true rfl) (fun p e s m args below meth c ls X M hr hk hin hl => w_X10_rise X hr hk N v0 h hf _ _ ls M hl)
abbrev rm_X10_pairs : Room := { frames := 1, cells := 0, slots := 0, locals := 40 }
def f_X10_pairs_54 (N : Nat) (v0 : Nat) (v2 : Int32) (v3 : Int32) (s0 : Int32) (h : Mem) (k55 : Nat → Int32 → Int32 → Int32 → Int32 → Mem → Option (Int32 × Mem)) : Option (Int32 × Mem) :=
  k55 v0 v2 v3 s0 (0 : Int32) h
set_option maxRecDepth 100000 in
set_option maxHeartbeats 4000000 in
theorem w_X10_pairs_54 {p : Program} {l : Launch} {e : Env} {s : State} {m : MethodId} {args : Array Value} {below : List Frame} {meth : Method} {c : Code} {G : Gx} {r : Int32} {h' : Mem} (X : CX G p s m args c cX10_pairs 4 RX10) (hr : meth.sig.returnType = (Option.some Jvm.ClassFile.FieldType.int)) (hk : meth.locks = false) (N : Nat) (k55 : Nat → Int32 → Int32 → Int32 → Int32 → Mem → Option (Int32 × Mem)) (K55 : ∀ (v0 : Nat) (v2 : Int32) (v3 : Int32) (s0 : Int32) (s1 : Int32) (h : Mem), k55 v0 v2 v3 s0 s1 h = some (r, h') → ∀ (H : Heap) (locs : List Loc) (ls : Array Slot), MS G s h H locs 0 → lv_has ls 4 [(0, .ref (gB G + v0)), (2, .int v2), (3, .int v3)] → W p l e (rm_X10_pairs) s m args below meth c H locs 0 0 (QI G below args s r h' 0 0) (F0 m 55 ls [.int s1, .int s0])) : ∀ (v0 : Nat) (v2 : Int32) (v3 : Int32) (s0 : Int32) (h : Mem), f_X10_pairs_54 N v0 v2 v3 s0 h k55 = some (r, h') → ∀ (H : Heap) (locs : List Loc) (ls : Array Slot), MS G s h H locs 0 → lv_has ls 4 [(0, .ref (gB G + v0)), (2, .int v2), (3, .int v3)] → W p l e (rm_X10_pairs) s m args below meth c H locs 0 0 (QI G below args s r h' 0 0) (F0 m 54 ls [.int s0]) := by
  intro v0 v2 v3 s0 h hf H locs ls M hl
  rw [f_X10_pairs_54] at hf
  refine lv_iconst (v := (0 : Int32)) X.1 X.2.1 dX10_pairs_54 (by decide) ?_
  exact K55 v0 v2 v3 s0 (0 : Int32) h hf _ _ _ M (lv_sub hl [0, 1, 2] rfl)
def f_X10_pairs_55 (N : Nat) (v0 : Nat) (v2 : Int32) (v3 : Int32) (s0 : Int32) (s1 : Int32) (h : Mem) (k14 : Nat → Int32 → Int32 → Int32 → Mem → Option (Int32 × Mem)) : Option (Int32 × Mem) :=
  k14 v0 (s0 + s1) v2 (v3 + 1) h
set_option maxRecDepth 100000 in
set_option maxHeartbeats 4000000 in
theorem w_X10_pairs_55 {p : Program} {l : Launch} {e : Env} {s : State} {m : MethodId} {args : Array Value} {below : List Frame} {meth : Method} {c : Code} {G : Gx} {r : Int32} {h' : Mem} (X : CX G p s m args c cX10_pairs 4 RX10) (hr : meth.sig.returnType = (Option.some Jvm.ClassFile.FieldType.int)) (hk : meth.locks = false) (N : Nat) (k14 : Nat → Int32 → Int32 → Int32 → Mem → Option (Int32 × Mem)) (K14 : ∀ (v0 : Nat) (v1 : Int32) (v2 : Int32) (v3 : Int32) (h : Mem), k14 v0 v1 v2 v3 h = some (r, h') → ∀ (H : Heap) (locs : List Loc) (ls : Array Slot), MS G s h H locs 0 → lv_has ls 4 [(0, .ref (gB G + v0)), (1, .int v1), (2, .int v2), (3, .int v3)] → W p l e (rm_X10_pairs) s m args below meth c H locs 0 0 (QI G below args s r h' 0 0) (F0 m 14 ls [])) : ∀ (v0 : Nat) (v2 : Int32) (v3 : Int32) (s0 : Int32) (s1 : Int32) (h : Mem), f_X10_pairs_55 N v0 v2 v3 s0 s1 h k14 = some (r, h') → ∀ (H : Heap) (locs : List Loc) (ls : Array Slot), MS G s h H locs 0 → lv_has ls 4 [(0, .ref (gB G + v0)), (2, .int v2), (3, .int v3)] → W p l e (rm_X10_pairs) s m args below meth c H locs 0 0 (QI G below args s r h' 0 0) (F0 m 55 ls [.int s1, .int s0]) := by
  intro v0 v2 v3 s0 s1 h hf H locs ls M hl
  rw [f_X10_pairs_55] at hf
  refine lv_iadd X.1 X.2.1 dX10_pairs_55 ?_
  refine lv_istore_n (lv' := [(1, .int (s0 + s1)), (0, .ref (gB G + v0)), (2, .int v2), (3, .int v3)]) X.1 X.2.1 dX10_pairs_56 rfl hl (by decide) rfl (fun ls hl => ?_)
  refine lv_iinc (v := (v3 + 1)) (lv' := [(3, .int (v3 + 1)), (1, .int (s0 + s1)), (0, .ref (gB G + v0)), (2, .int v2)]) X.1 X.2.1 dX10_pairs_57 hl (k := 3) rfl (by first | rfl | decide) (by decide) rfl (fun ls hl => ?_)
  refine lv_goto (tgt := 14) X.1 X.2.1 dX10_pairs_60 (by decide) ?_
  exact K14 v0 (s0 + s1) v2 (v3 + 1) h hf _ _ _ M (lv_sub hl [2, 1, 3, 0] rfl)
def f_X10_pairs_14 (N : Nat) (n : Nat) (v0 : Nat) (v1 : Int32) (v2 : Int32) (v3 : Int32) (h : Mem) (k4 : Nat → Int32 → Int32 → Mem → Option (Int32 × Mem)) : Option (Int32 × Mem) := match n with
  | 0 => none
  | n + 1 =>
    if v2 ≤ v3 then
      k4 v0 v1 (v2 + 1) h
    else
      (gR h v0 10 10).bind fun t2 =>
      (lI 100 h t2 v2).bind fun t4 =>
      (gR h v0 10 10).bind fun t6 =>
      (lI 100 h t6 v3).bind fun t8 =>
      if t4 = t8 then
        (gR h v0 10 8).bind fun t11 =>
        (lI 100 h t11 v2).bind fun t13 =>
        (gR h v0 10 8).bind fun t15 =>
        (lI 100 h t15 v3).bind fun t17 =>
        if t13 = t17 then
          f_X10_pairs_55 N v0 v2 v3 v1 (1 : Int32) h (fun v0 v1 v2 v3 h => f_X10_pairs_14 N n v0 v1 v2 v3 h k4)
        else
          f_X10_pairs_54 N v0 v2 v3 v1 h (fun v0 v2 v3 s0 s1 h => f_X10_pairs_55 N v0 v2 v3 s0 s1 h (fun v0 v1 v2 v3 h => f_X10_pairs_14 N n v0 v1 v2 v3 h k4))
      else
        f_X10_pairs_54 N v0 v2 v3 v1 h (fun v0 v2 v3 s0 s1 h => f_X10_pairs_55 N v0 v2 v3 s0 s1 h (fun v0 v1 v2 v3 h => f_X10_pairs_14 N n v0 v1 v2 v3 h k4))
set_option maxRecDepth 100000 in
set_option maxHeartbeats 4000000 in
theorem w_X10_pairs_14 {p : Program} {l : Launch} {e : Env} {s : State} {m : MethodId} {args : Array Value} {below : List Frame} {meth : Method} {c : Code} {G : Gx} {r : Int32} {h' : Mem} (X : CX G p s m args c cX10_pairs 4 RX10) (hr : meth.sig.returnType = (Option.some Jvm.ClassFile.FieldType.int)) (hk : meth.locks = false) (N : Nat) (k4 : Nat → Int32 → Int32 → Mem → Option (Int32 × Mem)) (K4 : ∀ (v0 : Nat) (v1 : Int32) (v2 : Int32) (h : Mem), k4 v0 v1 v2 h = some (r, h') → ∀ (H : Heap) (locs : List Loc) (ls : Array Slot), MS G s h H locs 0 → lv_has ls 4 [(0, .ref (gB G + v0)), (1, .int v1), (2, .int v2)] → W p l e (rm_X10_pairs) s m args below meth c H locs 0 0 (QI G below args s r h' 0 0) (F0 m 4 ls [])) : ∀ (n : Nat) (v0 : Nat) (v1 : Int32) (v2 : Int32) (v3 : Int32) (h : Mem), f_X10_pairs_14 N n v0 v1 v2 v3 h k4 = some (r, h') → ∀ (H : Heap) (locs : List Loc) (ls : Array Slot), MS G s h H locs 0 → lv_has ls 4 [(0, .ref (gB G + v0)), (1, .int v1), (2, .int v2), (3, .int v3)] → W p l e (rm_X10_pairs) s m args below meth c H locs 0 0 (QI G below args s r h' 0 0) (F0 m 14 ls []) := by
  intro n
  induction n with
  | zero =>
    intro v0 v1 v2 v3 h hf
    cases hf
  | succ n ih =>
    intro v0 v1 v2 v3 h hf H locs ls M hl
    rw [f_X10_pairs_14] at hf
    refine lv_iload_n X.1 X.2.1 dX10_pairs_14 rfl (lv_at hl 3 rfl) ?_
    refine lv_iload_n X.1 X.2.1 dX10_pairs_15 rfl (lv_at hl 2 rfl) ?_
    refine lv_icmp_ge (tgt := 63) X.1 X.2.1 dX10_pairs_16 (by decide) (fun c1 => ?_) (fun c1 => ?_)
    · have hf := ifp c1 hf
      refine lv_iinc (v := (v2 + 1)) (lv' := [(2, .int (v2 + 1)), (0, .ref (gB G + v0)), (1, .int v1), (3, .int v3)]) X.1 X.2.1 dX10_pairs_63 hl (k := 2) rfl (by first | rfl | decide) (by decide) rfl (fun ls hl => ?_)
      refine lv_goto (tgt := 4) X.1 X.2.1 dX10_pairs_66 (by decide) ?_
      exact K4 v0 v1 (v2 + 1) h hf _ _ _ M (lv_sub hl [1, 2, 0] rfl)
    · have hf := ifn c1 hf
      refine lv_iload_n X.1 X.2.1 dX10_pairs_19 rfl (lv_at hl 1 rfl) ?_
      refine lv_aload_n X.1 X.2.1 dX10_pairs_20 rfl (lv_at hl 0 rfl) ?_
      obtain ⟨t2, q3, hf⟩ := bnd hf
      refine x_getr fl_X10_41 X M q3 dX10_pairs_21 ?_
      refine lv_iload_n X.1 X.2.1 dX10_pairs_24 rfl (lv_at hl 2 rfl) ?_
      obtain ⟨t4, q5, hf⟩ := bnd hf
      refine x_iald X M q5 dX10_pairs_25 ?_
      refine lv_aload_n X.1 X.2.1 dX10_pairs_26 rfl (lv_at hl 0 rfl) ?_
      obtain ⟨t6, q7, hf⟩ := bnd hf
      refine x_getr fl_X10_41 X M q7 dX10_pairs_27 ?_
      refine lv_iload_n X.1 X.2.1 dX10_pairs_30 rfl (lv_at hl 3 rfl) ?_
      obtain ⟨t8, q9, hf⟩ := bnd hf
      refine x_iald X M q9 dX10_pairs_31 ?_
      refine lv_icmp_ne (tgt := 54) X.1 X.2.1 dX10_pairs_32 (by decide) (fun c10 => ?_) (fun c10 => ?_)
      · have hf := ifn c10 hf
        exact w_X10_pairs_54 X hr hk N _ (fun v0 v2 v3 s0 s1 h hf H locs ls M hl => w_X10_pairs_55 X hr hk N _ (fun v0 v1 v2 v3 h hf H locs ls M hl => ih v0 v1 v2 v3 h hf H locs ls M hl) v0 v2 v3 s0 s1 h hf H locs ls M hl) v0 v2 v3 v1 h hf _ _ _ M (lv_sub hl [0, 2, 3] rfl)
      · have hf := ifp c10 hf
        refine lv_aload_n X.1 X.2.1 dX10_pairs_35 rfl (lv_at hl 0 rfl) ?_
        obtain ⟨t11, q12, hf⟩ := bnd hf
        refine x_getr fl_X10_35 X M q12 dX10_pairs_36 ?_
        refine lv_iload_n X.1 X.2.1 dX10_pairs_39 rfl (lv_at hl 2 rfl) ?_
        obtain ⟨t13, q14, hf⟩ := bnd hf
        refine x_iald X M q14 dX10_pairs_40 ?_
        refine lv_aload_n X.1 X.2.1 dX10_pairs_41 rfl (lv_at hl 0 rfl) ?_
        obtain ⟨t15, q16, hf⟩ := bnd hf
        refine x_getr fl_X10_35 X M q16 dX10_pairs_42 ?_
        refine lv_iload_n X.1 X.2.1 dX10_pairs_45 rfl (lv_at hl 3 rfl) ?_
        obtain ⟨t17, q18, hf⟩ := bnd hf
        refine x_iald X M q18 dX10_pairs_46 ?_
        refine lv_icmp_ne (tgt := 54) X.1 X.2.1 dX10_pairs_47 (by decide) (fun c19 => ?_) (fun c19 => ?_)
        · have hf := ifn c19 hf
          exact w_X10_pairs_54 X hr hk N _ (fun v0 v2 v3 s0 s1 h hf H locs ls M hl => w_X10_pairs_55 X hr hk N _ (fun v0 v1 v2 v3 h hf H locs ls M hl => ih v0 v1 v2 v3 h hf H locs ls M hl) v0 v2 v3 s0 s1 h hf H locs ls M hl) v0 v2 v3 v1 h hf _ _ _ M (lv_sub hl [0, 2, 3] rfl)
        · have hf := ifp c19 hf
          refine lv_iconst (v := (1 : Int32)) X.1 X.2.1 dX10_pairs_50 (by decide) ?_
          refine lv_goto (tgt := 55) X.1 X.2.1 dX10_pairs_51 (by decide) ?_
          exact w_X10_pairs_55 X hr hk N _ (fun v0 v1 v2 v3 h hf H locs ls M hl => ih v0 v1 v2 v3 h hf H locs ls M hl) v0 v2 v3 v1 (1 : Int32) h hf _ _ _ M (lv_sub hl [0, 2, 3] rfl)
def f_X10_pairs_4 (N : Nat) (n : Nat) (v0 : Nat) (v1 : Int32) (v2 : Int32) (h : Mem) : Option (Int32 × Mem) := match n with
  | 0 => none
  | n + 1 =>
    (gI h v0 10 1).bind fun t1 =>
    if t1 ≤ v2 then
      some (v1, h)
    else
      f_X10_pairs_14 N N v0 v1 v2 (0 : Int32) h (fun v0 v1 v2 h => f_X10_pairs_4 N n v0 v1 v2 h)
set_option maxRecDepth 100000 in
set_option maxHeartbeats 4000000 in
theorem w_X10_pairs_4 {p : Program} {l : Launch} {e : Env} {s : State} {m : MethodId} {args : Array Value} {below : List Frame} {meth : Method} {c : Code} {G : Gx} {r : Int32} {h' : Mem} (X : CX G p s m args c cX10_pairs 4 RX10) (hr : meth.sig.returnType = (Option.some Jvm.ClassFile.FieldType.int)) (hk : meth.locks = false) (N : Nat) : ∀ (n : Nat) (v0 : Nat) (v1 : Int32) (v2 : Int32) (h : Mem), f_X10_pairs_4 N n v0 v1 v2 h = some (r, h') → ∀ (H : Heap) (locs : List Loc) (ls : Array Slot), MS G s h H locs 0 → lv_has ls 4 [(0, .ref (gB G + v0)), (1, .int v1), (2, .int v2)] → W p l e (rm_X10_pairs) s m args below meth c H locs 0 0 (QI G below args s r h' 0 0) (F0 m 4 ls []) := by
  intro n
  induction n with
  | zero =>
    intro v0 v1 v2 h hf
    cases hf
  | succ n ih =>
    intro v0 v1 v2 h hf H locs ls M hl
    rw [f_X10_pairs_4] at hf
    refine lv_iload_n X.1 X.2.1 dX10_pairs_4 rfl (lv_at hl 2 rfl) ?_
    refine lv_aload_n X.1 X.2.1 dX10_pairs_5 rfl (lv_at hl 0 rfl) ?_
    obtain ⟨t1, q2, hf⟩ := bnd hf
    refine x_geti fl_X10_13 X M q2 dX10_pairs_6 ?_
    refine lv_icmp_ge (tgt := 69) X.1 X.2.1 dX10_pairs_9 (by decide) (fun c3 => ?_) (fun c3 => ?_)
    · have hf := ifp c3 hf
      refine lv_iload_n X.1 X.2.1 dX10_pairs_69 rfl (lv_at hl 1 rfl) ?_
      obtain ⟨rfl, rfl⟩ := rt2 hf
      exact x_iret X hr hk M dX10_pairs_70
    · have hf := ifn c3 hf
      refine lv_iconst (v := (0 : Int32)) X.1 X.2.1 dX10_pairs_12 (by decide) ?_
      refine lv_istore_n (lv' := [(3, .int (0 : Int32)), (0, .ref (gB G + v0)), (1, .int v1), (2, .int v2)]) X.1 X.2.1 dX10_pairs_13 rfl hl (by decide) rfl (fun ls hl => ?_)
      exact w_X10_pairs_14 X hr hk N _ (fun v0 v1 v2 h hf H locs ls M hl => ih v0 v1 v2 h hf H locs ls M hl) N v0 v1 v2 (0 : Int32) h hf _ _ _ M (lv_sub hl [1, 2, 3, 0] rfl)
def f_X10_pairs (N : Nat) (v0 : Nat) (h : Mem) : Option (Int32 × Mem) :=
  f_X10_pairs_4 N N v0 (0 : Int32) (0 : Int32) h
set_option maxRecDepth 100000 in
set_option maxHeartbeats 4000000 in
theorem w_X10_pairs {p : Program} {l : Launch} {e : Env} {s : State} {m : MethodId} {args : Array Value} {below : List Frame} {meth : Method} {c : Code} {G : Gx} {r : Int32} {h' : Mem} (X : CX G p s m args c cX10_pairs 4 RX10) (hr : meth.sig.returnType = (Option.some Jvm.ClassFile.FieldType.int)) (hk : meth.locks = false) (N : Nat) : ∀ (v0 : Nat) (h : Mem), f_X10_pairs N v0 h = some (r, h') → ∀ (H : Heap) (locs : List Loc) (ls : Array Slot), MS G s h H locs 0 → lv_has ls 4 [(0, .ref (gB G + v0))] → W p l e (rm_X10_pairs) s m args below meth c H locs 0 0 (QI G below args s r h' 0 0) (F0 m 0 ls []) := by
  intro v0 h hf H locs ls M hl
  rw [f_X10_pairs] at hf
  refine lv_iconst (v := (0 : Int32)) X.1 X.2.1 dX10_pairs_0 (by decide) ?_
  refine lv_istore_n (lv' := [(1, .int (0 : Int32)), (0, .ref (gB G + v0))]) X.1 X.2.1 dX10_pairs_1 rfl hl (by decide) rfl (fun ls hl => ?_)
  refine lv_iconst (v := (0 : Int32)) X.1 X.2.1 dX10_pairs_2 (by decide) ?_
  refine lv_istore_n (lv' := [(2, .int (0 : Int32)), (1, .int (0 : Int32)), (0, .ref (gB G + v0))]) X.1 X.2.1 dX10_pairs_3 rfl hl (by decide) rfl (fun ls hl => ?_)
  exact w_X10_pairs_4 X hr hk N N v0 (0 : Int32) (0 : Int32) h hf _ _ _ M (lv_sub hl [2, 1, 0] rfl)
theorem c_X10_pairs (l : Launch) (G : Gx) (N : Nat) (v0 : Nat) (h : Mem) (r : Int32) (h' : Mem) (hf : f_X10_pairs N v0 h = some (r, h')) : MetG l G yX10_pairs (.code yX10_pairs cX10_pairs 4 (Option.some Jvm.ClassFile.FieldType.int)) rm_X10_pairs [.ref (gB G + v0)] h (QcI G r h') 0 0 :=
  x_met (by decide) rfl (Nat.le_of_ble_eq_true rfl) (fun p e s m args below meth c ls X M hr hk hin hl => w_X10_pairs X hr hk N v0 h hf _ _ ls M hl)
abbrev rm_X10_deal : Room := { frames := 1, cells := 0, slots := 0, locals := 40 }
def f_X10_deal_100 (N : Nat) (v0 : Nat) (v3 : Int32) (v4 : Int32) (v6 : Int32) (s0 : Int32) (s1 : Int32) (h : Mem) (k68 : Nat → Int32 → Int32 → Int32 → Int32 → Mem → Option Mem) : Option Mem :=
  k68 v0 v3 v4 (s0 - s1) (v6 + 1) h
set_option maxRecDepth 100000 in
set_option maxHeartbeats 4000000 in
theorem w_X10_deal_100 {p : Program} {l : Launch} {e : Env} {s : State} {m : MethodId} {args : Array Value} {below : List Frame} {meth : Method} {c : Code} {G : Gx} {h' : Mem} {L : Nat} (X : CX G p s m args c cX10_deal 7 RX10) (hr : meth.sig.returnType = (Option.none : Option Jvm.ClassFile.FieldType)) (hk : meth.locks = false) (hL : s.heap.size + 0 = gB G + L) (N : Nat) (k68 : Nat → Int32 → Int32 → Int32 → Int32 → Mem → Option Mem) (K68 : ∀ (v0 : Nat) (v3 : Int32) (v4 : Int32) (v5 : Int32) (v6 : Int32) (h : Mem), k68 v0 v3 v4 v5 v6 h = some h' → ∀ (H : Heap) (locs : List Loc) (ls : Array Slot), MS G s h H locs 0 → lv_has ls 7 [(0, .ref (gB G + v0)), (3, .int v3), (4, .int v4), (5, .int v5), (6, .int v6)] → W p l e (rm_X10_deal) s m args below meth c H locs 0 0 (QV G below args s h' L 0 0) (F0 m 68 ls [])) : ∀ (v0 : Nat) (v3 : Int32) (v4 : Int32) (v6 : Int32) (s0 : Int32) (s1 : Int32) (h : Mem), f_X10_deal_100 N v0 v3 v4 v6 s0 s1 h k68 = some h' → ∀ (H : Heap) (locs : List Loc) (ls : Array Slot), MS G s h H locs 0 → lv_has ls 7 [(0, .ref (gB G + v0)), (3, .int v3), (4, .int v4), (6, .int v6)] → W p l e (rm_X10_deal) s m args below meth c H locs 0 0 (QV G below args s h' L 0 0) (F0 m 100 ls [.int s1, .int s0]) := by
  intro v0 v3 v4 v6 s0 s1 h hf H locs ls M hl
  rw [f_X10_deal_100] at hf
  refine lv_isub X.1 X.2.1 dX10_deal_100 ?_
  refine lv_istore (lv' := [(5, .int (s0 - s1)), (0, .ref (gB G + v0)), (3, .int v3), (4, .int v4), (6, .int v6)]) X.1 X.2.1 dX10_deal_101 hl (by decide) rfl (fun ls hl => ?_)
  refine lv_iinc (v := (v6 + 1)) (lv' := [(6, .int (v6 + 1)), (5, .int (s0 - s1)), (0, .ref (gB G + v0)), (3, .int v3), (4, .int v4)]) X.1 X.2.1 dX10_deal_103 hl (k := 4) rfl (by first | rfl | decide) (by decide) rfl (fun ls hl => ?_)
  refine lv_goto (tgt := 68) X.1 X.2.1 dX10_deal_106 (by decide) ?_
  exact K68 v0 v3 v4 (s0 - s1) (v6 + 1) h hf _ _ _ M (lv_sub hl [2, 3, 4, 1, 0] rfl)
def f_X10_deal_83 (N : Nat) (v0 : Nat) (v3 : Int32) (v4 : Int32) (v5 : Int32) (v6 : Int32) (h : Mem) (k68 : Nat → Int32 → Int32 → Int32 → Int32 → Mem → Option Mem) : Option Mem :=
  if ((v3 >>> (v6 &&& 31)) &&& (1 : Int32)) = (1 : Int32) then
    f_X10_deal_100 N v0 v3 v4 v6 v5 (0 : Int32) h k68
  else
    f_X10_deal_100 N v0 v3 v4 v6 v5 (1 : Int32) h k68
set_option maxRecDepth 100000 in
set_option maxHeartbeats 4000000 in
theorem w_X10_deal_83 {p : Program} {l : Launch} {e : Env} {s : State} {m : MethodId} {args : Array Value} {below : List Frame} {meth : Method} {c : Code} {G : Gx} {h' : Mem} {L : Nat} (X : CX G p s m args c cX10_deal 7 RX10) (hr : meth.sig.returnType = (Option.none : Option Jvm.ClassFile.FieldType)) (hk : meth.locks = false) (hL : s.heap.size + 0 = gB G + L) (N : Nat) (k68 : Nat → Int32 → Int32 → Int32 → Int32 → Mem → Option Mem) (K68 : ∀ (v0 : Nat) (v3 : Int32) (v4 : Int32) (v5 : Int32) (v6 : Int32) (h : Mem), k68 v0 v3 v4 v5 v6 h = some h' → ∀ (H : Heap) (locs : List Loc) (ls : Array Slot), MS G s h H locs 0 → lv_has ls 7 [(0, .ref (gB G + v0)), (3, .int v3), (4, .int v4), (5, .int v5), (6, .int v6)] → W p l e (rm_X10_deal) s m args below meth c H locs 0 0 (QV G below args s h' L 0 0) (F0 m 68 ls [])) : ∀ (v0 : Nat) (v3 : Int32) (v4 : Int32) (v5 : Int32) (v6 : Int32) (h : Mem), f_X10_deal_83 N v0 v3 v4 v5 v6 h k68 = some h' → ∀ (H : Heap) (locs : List Loc) (ls : Array Slot), MS G s h H locs 0 → lv_has ls 7 [(0, .ref (gB G + v0)), (3, .int v3), (4, .int v4), (5, .int v5), (6, .int v6)] → W p l e (rm_X10_deal) s m args below meth c H locs 0 0 (QV G below args s h' L 0 0) (F0 m 83 ls []) := by
  intro v0 v3 v4 v5 v6 h hf H locs ls M hl
  rw [f_X10_deal_83] at hf
  refine lv_iload X.1 X.2.1 dX10_deal_83 (lv_at hl 3 rfl) ?_
  refine lv_iload_n X.1 X.2.1 dX10_deal_85 rfl (lv_at hl 1 rfl) ?_
  refine lv_iload X.1 X.2.1 dX10_deal_86 (lv_at hl 4 rfl) ?_
  refine lv_ishr X.1 X.2.1 dX10_deal_88 ?_
  refine lv_iconst (v := (1 : Int32)) X.1 X.2.1 dX10_deal_89 (by decide) ?_
  refine lv_iand X.1 X.2.1 dX10_deal_90 ?_
  refine lv_iconst (v := (1 : Int32)) X.1 X.2.1 dX10_deal_91 (by decide) ?_
  refine lv_icmp_ne (tgt := 99) X.1 X.2.1 dX10_deal_92 (by decide) (fun c1 => ?_) (fun c1 => ?_)
  · have hf := ifn c1 hf
    refine lv_iconst (v := (1 : Int32)) X.1 X.2.1 dX10_deal_99 (by decide) ?_
    exact w_X10_deal_100 X hr hk hL N _ K68 v0 v3 v4 v6 v5 (1 : Int32) h hf _ _ _ M (lv_sub hl [0, 1, 2, 4] rfl)
  · have hf := ifp c1 hf
    refine lv_iconst (v := (0 : Int32)) X.1 X.2.1 dX10_deal_95 (by decide) ?_
    refine lv_goto (tgt := 100) X.1 X.2.1 dX10_deal_96 (by decide) ?_
    exact w_X10_deal_100 X hr hk hL N _ K68 v0 v3 v4 v6 v5 (0 : Int32) h hf _ _ _ M (lv_sub hl [0, 1, 2, 4] rfl)
def f_X10_deal_68 (N : Nat) (n : Nat) (v0 : Nat) (v3 : Int32) (v4 : Int32) (v5 : Int32) (v6 : Int32) (h : Mem) (k47 : Nat → Int32 → Int32 → Mem → Option Mem) : Option Mem := match n with
  | 0 => none
  | n + 1 =>
    if ((v3 >>> (v6 &&& 31)) &&& (1 : Int32)) = (1 : Int32) then
      f_X10_deal_83 N v0 v3 v4 v5 v6 h (fun v0 v3 v4 v5 v6 h => f_X10_deal_68 N n v0 v3 v4 v5 v6 h k47)
    else
      if v5 ≤ 0 then
        (gR h v0 10 8).bind fun t3 =>
        (gR h v0 10 47).bind fun t5 =>
        (lI 100 h t5 v6).bind fun t7 =>
        (stI 100 h t3 v4 t7).bind fun h9 =>
        k47 v0 (v3 ||| ((1 : Int32) <<< (v6 &&& 31))) (v4 + 1) h9
      else
        f_X10_deal_83 N v0 v3 v4 v5 v6 h (fun v0 v3 v4 v5 v6 h => f_X10_deal_68 N n v0 v3 v4 v5 v6 h k47)
set_option maxRecDepth 100000 in
set_option maxHeartbeats 4000000 in
theorem w_X10_deal_68 {p : Program} {l : Launch} {e : Env} {s : State} {m : MethodId} {args : Array Value} {below : List Frame} {meth : Method} {c : Code} {G : Gx} {h' : Mem} {L : Nat} (X : CX G p s m args c cX10_deal 7 RX10) (hr : meth.sig.returnType = (Option.none : Option Jvm.ClassFile.FieldType)) (hk : meth.locks = false) (hL : s.heap.size + 0 = gB G + L) (N : Nat) (k47 : Nat → Int32 → Int32 → Mem → Option Mem) (K47 : ∀ (v0 : Nat) (v3 : Int32) (v4 : Int32) (h : Mem), k47 v0 v3 v4 h = some h' → ∀ (H : Heap) (locs : List Loc) (ls : Array Slot), MS G s h H locs 0 → lv_has ls 7 [(0, .ref (gB G + v0)), (3, .int v3), (4, .int v4)] → W p l e (rm_X10_deal) s m args below meth c H locs 0 0 (QV G below args s h' L 0 0) (F0 m 47 ls [])) : ∀ (n : Nat) (v0 : Nat) (v3 : Int32) (v4 : Int32) (v5 : Int32) (v6 : Int32) (h : Mem), f_X10_deal_68 N n v0 v3 v4 v5 v6 h k47 = some h' → ∀ (H : Heap) (locs : List Loc) (ls : Array Slot), MS G s h H locs 0 → lv_has ls 7 [(0, .ref (gB G + v0)), (3, .int v3), (4, .int v4), (5, .int v5), (6, .int v6)] → W p l e (rm_X10_deal) s m args below meth c H locs 0 0 (QV G below args s h' L 0 0) (F0 m 68 ls []) := by
  intro n
  induction n with
  | zero =>
    intro v0 v3 v4 v5 v6 h hf
    cases hf
  | succ n ih =>
    intro v0 v3 v4 v5 v6 h hf H locs ls M hl
    rw [f_X10_deal_68] at hf
    refine lv_iload_n X.1 X.2.1 dX10_deal_68 rfl (lv_at hl 1 rfl) ?_
    refine lv_iload X.1 X.2.1 dX10_deal_69 (lv_at hl 4 rfl) ?_
    refine lv_ishr X.1 X.2.1 dX10_deal_71 ?_
    refine lv_iconst (v := (1 : Int32)) X.1 X.2.1 dX10_deal_72 (by decide) ?_
    refine lv_iand X.1 X.2.1 dX10_deal_73 ?_
    refine lv_iconst (v := (1 : Int32)) X.1 X.2.1 dX10_deal_74 (by decide) ?_
    refine lv_icmp_eq (tgt := 83) X.1 X.2.1 dX10_deal_75 (by decide) (fun c1 => ?_) (fun c1 => ?_)
    · have hf := ifp c1 hf
      exact w_X10_deal_83 X hr hk hL N _ (fun v0 v3 v4 v5 v6 h hf H locs ls M hl => ih v0 v3 v4 v5 v6 h hf H locs ls M hl) v0 v3 v4 v5 v6 h hf _ _ _ M (lv_sub hl [0, 1, 2, 3, 4] rfl)
    · have hf := ifn c1 hf
      refine lv_iload X.1 X.2.1 dX10_deal_78 (lv_at hl 3 rfl) ?_
      refine lv_if_le (tgt := 109) X.1 X.2.1 dX10_deal_80 (by decide) (fun c2 => ?_) (fun c2 => ?_)
      · have hf := ifp c2 hf
        refine lv_iload_n X.1 X.2.1 dX10_deal_109 rfl (lv_at hl 1 rfl) ?_
        refine lv_iconst (v := (1 : Int32)) X.1 X.2.1 dX10_deal_110 (by decide) ?_
        refine lv_iload X.1 X.2.1 dX10_deal_111 (lv_at hl 4 rfl) ?_
        refine lv_ishl X.1 X.2.1 dX10_deal_113 ?_
        refine lv_ior X.1 X.2.1 dX10_deal_114 ?_
        refine lv_istore_n (lv' := [(3, .int (v3 ||| ((1 : Int32) <<< (v6 &&& 31)))), (0, .ref (gB G + v0)), (4, .int v4), (5, .int v5), (6, .int v6)]) X.1 X.2.1 dX10_deal_115 rfl hl (by decide) rfl (fun ls hl => ?_)
        refine lv_aload_n X.1 X.2.1 dX10_deal_116 rfl (lv_at hl 1 rfl) ?_
        obtain ⟨t3, q4, hf⟩ := bnd hf
        refine x_getr fl_X10_35 X M q4 dX10_deal_117 ?_
        refine lv_iload X.1 X.2.1 dX10_deal_120 (lv_at hl 2 rfl) ?_
        refine lv_aload_n X.1 X.2.1 dX10_deal_122 rfl (lv_at hl 1 rfl) ?_
        obtain ⟨t5, q6, hf⟩ := bnd hf
        refine x_getr fl_X10_155 X M q6 dX10_deal_123 ?_
        refine lv_iload X.1 X.2.1 dX10_deal_126 (lv_at hl 4 rfl) ?_
        obtain ⟨t7, q8, hf⟩ := bnd hf
        refine x_iald X M q8 dX10_deal_128 ?_
        obtain ⟨h9, q10, hf⟩ := bnd hf
        refine x_iast X M q10 dX10_deal_129 (fun H locs M => ?_)
        refine lv_iinc (v := (v4 + 1)) (lv' := [(4, .int (v4 + 1)), (3, .int (v3 ||| ((1 : Int32) <<< (v6 &&& 31)))), (0, .ref (gB G + v0)), (5, .int v5), (6, .int v6)]) X.1 X.2.1 dX10_deal_130 hl (k := 2) rfl (by first | rfl | decide) (by decide) rfl (fun ls hl => ?_)
        refine lv_goto (tgt := 47) X.1 X.2.1 dX10_deal_133 (by decide) ?_
        exact K47 v0 (v3 ||| ((1 : Int32) <<< (v6 &&& 31))) (v4 + 1) h9 hf _ _ _ M (lv_sub hl [2, 1, 0] rfl)
      · have hf := ifn c2 hf
        exact w_X10_deal_83 X hr hk hL N _ (fun v0 v3 v4 v5 v6 h hf H locs ls M hl => ih v0 v3 v4 v5 v6 h hf H locs ls M hl) v0 v3 v4 v5 v6 h hf _ _ _ M (lv_sub hl [0, 1, 2, 3, 4] rfl)
def f_X10_deal_47 (N : Nat) (n : Nat) (v0 : Nat) (v3 : Int32) (v4 : Int32) (h : Mem) : Option Mem := match n with
  | 0 => none
  | n + 1 =>
    (gI h v0 10 1).bind fun t1 =>
    if t1 ≤ v4 then
      some h
    else
      (gR h v0 10 48).bind fun t4 =>
      (lI 100 h t4 v4).bind fun t6 =>
      f_X10_deal_68 N N v0 v3 v4 t6 (0 : Int32) h (fun v0 v3 v4 h => f_X10_deal_47 N n v0 v3 v4 h)
set_option maxRecDepth 100000 in
set_option maxHeartbeats 4000000 in
theorem w_X10_deal_47 {p : Program} {l : Launch} {e : Env} {s : State} {m : MethodId} {args : Array Value} {below : List Frame} {meth : Method} {c : Code} {G : Gx} {h' : Mem} {L : Nat} (X : CX G p s m args c cX10_deal 7 RX10) (hr : meth.sig.returnType = (Option.none : Option Jvm.ClassFile.FieldType)) (hk : meth.locks = false) (hL : s.heap.size + 0 = gB G + L) (N : Nat) : ∀ (n : Nat) (v0 : Nat) (v3 : Int32) (v4 : Int32) (h : Mem), f_X10_deal_47 N n v0 v3 v4 h = some h' → ∀ (H : Heap) (locs : List Loc) (ls : Array Slot), MS G s h H locs 0 → lv_has ls 7 [(0, .ref (gB G + v0)), (3, .int v3), (4, .int v4)] → W p l e (rm_X10_deal) s m args below meth c H locs 0 0 (QV G below args s h' L 0 0) (F0 m 47 ls []) := by
  intro n
  induction n with
  | zero =>
    intro v0 v3 v4 h hf
    cases hf
  | succ n ih =>
    intro v0 v3 v4 h hf H locs ls M hl
    rw [f_X10_deal_47] at hf
    refine lv_iload X.1 X.2.1 dX10_deal_47 (lv_at hl 2 rfl) ?_
    refine lv_aload_n X.1 X.2.1 dX10_deal_49 rfl (lv_at hl 0 rfl) ?_
    obtain ⟨t1, q2, hf⟩ := bnd hf
    refine x_geti fl_X10_13 X M q2 dX10_deal_50 ?_
    refine lv_icmp_ge (tgt := 136) X.1 X.2.1 dX10_deal_53 (by decide) (fun c3 => ?_) (fun c3 => ?_)
    · have hf := ifp c3 hf
      obtain rfl := rt1 hf
      exact x_vret X hr hk M hL dX10_deal_136
    · have hf := ifn c3 hf
      refine lv_aload_n X.1 X.2.1 dX10_deal_56 rfl (lv_at hl 0 rfl) ?_
      obtain ⟨t4, q5, hf⟩ := bnd hf
      refine x_getr fl_X10_158 X M q5 dX10_deal_57 ?_
      refine lv_iload X.1 X.2.1 dX10_deal_60 (lv_at hl 2 rfl) ?_
      obtain ⟨t6, q7, hf⟩ := bnd hf
      refine x_iald X M q7 dX10_deal_62 ?_
      refine lv_istore (lv' := [(5, .int t6), (0, .ref (gB G + v0)), (3, .int v3), (4, .int v4)]) X.1 X.2.1 dX10_deal_63 hl (by decide) rfl (fun ls hl => ?_)
      refine lv_iconst (v := (0 : Int32)) X.1 X.2.1 dX10_deal_65 (by decide) ?_
      refine lv_istore (lv' := [(6, .int (0 : Int32)), (5, .int t6), (0, .ref (gB G + v0)), (3, .int v3), (4, .int v4)]) X.1 X.2.1 dX10_deal_66 hl (by decide) rfl (fun ls hl => ?_)
      exact w_X10_deal_68 X hr hk hL N _ (fun v0 v3 v4 h hf H locs ls M hl => ih v0 v3 v4 h hf H locs ls M hl) N v0 v3 v4 t6 (0 : Int32) h hf _ _ _ M (lv_sub hl [2, 3, 4, 1, 0] rfl)
def f_X10_deal_9 (N : Nat) (n : Nat) (v0 : Nat) (v2 : Int32) (v3 : Int32) (h : Mem) : Option Mem := match n with
  | 0 => none
  | n + 1 =>
    if v3 < 0 then
      f_X10_deal_47 N N v0 (0 : Int32) (0 : Int32) h
    else
      (gR h v0 10 48).bind fun t2 =>
      (gI h v0 10 1).bind fun t4 =>
      if (t4 - v3) = 0 then none else
      (stI 100 h t2 v3 (v2 - v2 / (t4 - v3) * (t4 - v3))).bind fun h7 =>
      (gI h7 v0 10 1).bind fun t9 =>
      if (t9 - v3) = 0 then none else
      f_X10_deal_9 N n v0 (v2 / (t9 - v3)) (v3 + (-1)) h7
set_option maxRecDepth 100000 in
set_option maxHeartbeats 4000000 in
theorem w_X10_deal_9 {p : Program} {l : Launch} {e : Env} {s : State} {m : MethodId} {args : Array Value} {below : List Frame} {meth : Method} {c : Code} {G : Gx} {h' : Mem} {L : Nat} (X : CX G p s m args c cX10_deal 7 RX10) (hr : meth.sig.returnType = (Option.none : Option Jvm.ClassFile.FieldType)) (hk : meth.locks = false) (hL : s.heap.size + 0 = gB G + L) (N : Nat) : ∀ (n : Nat) (v0 : Nat) (v2 : Int32) (v3 : Int32) (h : Mem), f_X10_deal_9 N n v0 v2 v3 h = some h' → ∀ (H : Heap) (locs : List Loc) (ls : Array Slot), MS G s h H locs 0 → lv_has ls 7 [(0, .ref (gB G + v0)), (2, .int v2), (3, .int v3)] → W p l e (rm_X10_deal) s m args below meth c H locs 0 0 (QV G below args s h' L 0 0) (F0 m 9 ls []) := by
  intro n
  induction n with
  | zero =>
    intro v0 v2 v3 h hf
    cases hf
  | succ n ih =>
    intro v0 v2 v3 h hf H locs ls M hl
    rw [f_X10_deal_9] at hf
    refine lv_iload_n X.1 X.2.1 dX10_deal_9 rfl (lv_at hl 2 rfl) ?_
    refine lv_if_lt (tgt := 42) X.1 X.2.1 dX10_deal_10 (by decide) (fun c1 => ?_) (fun c1 => ?_)
    · have hf := ifp c1 hf
      refine lv_iconst (v := (0 : Int32)) X.1 X.2.1 dX10_deal_42 (by decide) ?_
      refine lv_istore_n (lv' := [(3, .int (0 : Int32)), (0, .ref (gB G + v0)), (2, .int v2)]) X.1 X.2.1 dX10_deal_43 rfl hl (by decide) rfl (fun ls hl => ?_)
      refine lv_iconst (v := (0 : Int32)) X.1 X.2.1 dX10_deal_44 (by decide) ?_
      refine lv_istore (lv' := [(4, .int (0 : Int32)), (3, .int (0 : Int32)), (0, .ref (gB G + v0)), (2, .int v2)]) X.1 X.2.1 dX10_deal_45 hl (by decide) rfl (fun ls hl => ?_)
      exact w_X10_deal_47 X hr hk hL N N v0 (0 : Int32) (0 : Int32) h hf _ _ _ M (lv_sub hl [2, 1, 0] rfl)
    · have hf := ifn c1 hf
      refine lv_aload_n X.1 X.2.1 dX10_deal_13 rfl (lv_at hl 0 rfl) ?_
      obtain ⟨t2, q3, hf⟩ := bnd hf
      refine x_getr fl_X10_158 X M q3 dX10_deal_14 ?_
      refine lv_iload_n X.1 X.2.1 dX10_deal_17 rfl (lv_at hl 2 rfl) ?_
      refine lv_iload_n X.1 X.2.1 dX10_deal_18 rfl (lv_at hl 1 rfl) ?_
      refine lv_aload_n X.1 X.2.1 dX10_deal_19 rfl (lv_at hl 0 rfl) ?_
      obtain ⟨t4, q5, hf⟩ := bnd hf
      refine x_geti fl_X10_13 X M q5 dX10_deal_20 ?_
      refine lv_iload_n X.1 X.2.1 dX10_deal_23 rfl (lv_at hl 2 rfl) ?_
      refine lv_isub X.1 X.2.1 dX10_deal_24 ?_
      by_cases c6 : (t4 - v3) = 0
      · have hf := ifp c6 hf
        cases hf
      have hf := ifn c6 hf
      refine lv_irem X.1 X.2.1 dX10_deal_25 c6 ?_
      obtain ⟨h7, q8, hf⟩ := bnd hf
      refine x_iast X M q8 dX10_deal_26 (fun H locs M => ?_)
      refine lv_iload_n X.1 X.2.1 dX10_deal_27 rfl (lv_at hl 1 rfl) ?_
      refine lv_aload_n X.1 X.2.1 dX10_deal_28 rfl (lv_at hl 0 rfl) ?_
      obtain ⟨t9, q10, hf⟩ := bnd hf
      refine x_geti fl_X10_13 X M q10 dX10_deal_29 ?_
      refine lv_iload_n X.1 X.2.1 dX10_deal_32 rfl (lv_at hl 2 rfl) ?_
      refine lv_isub X.1 X.2.1 dX10_deal_33 ?_
      by_cases c11 : (t9 - v3) = 0
      · have hf := ifp c11 hf
        cases hf
      have hf := ifn c11 hf
      refine lv_idiv X.1 X.2.1 dX10_deal_34 c11 ?_
      refine lv_istore_n (lv' := [(2, .int (v2 / (t9 - v3))), (0, .ref (gB G + v0)), (3, .int v3)]) X.1 X.2.1 dX10_deal_35 rfl hl (by decide) rfl (fun ls hl => ?_)
      refine lv_iinc (v := (v3 + (-1))) (lv' := [(3, .int (v3 + (-1))), (2, .int (v2 / (t9 - v3))), (0, .ref (gB G + v0))]) X.1 X.2.1 dX10_deal_36 hl (k := 2) rfl (by first | rfl | decide) (by decide) rfl (fun ls hl => ?_)
      refine lv_goto (tgt := 9) X.1 X.2.1 dX10_deal_39 (by decide) ?_
      exact ih v0 (v2 / (t9 - v3)) (v3 + (-1)) h7 hf _ _ _ M (lv_sub hl [2, 1, 0] rfl)
def f_X10_deal (N : Nat) (v0 : Nat) (v1 : Int32) (h : Mem) : Option Mem :=
  (gI h v0 10 1).bind fun t1 =>
  f_X10_deal_9 N N v0 v1 (t1 - (1 : Int32)) h
set_option maxRecDepth 100000 in
set_option maxHeartbeats 4000000 in
theorem w_X10_deal {p : Program} {l : Launch} {e : Env} {s : State} {m : MethodId} {args : Array Value} {below : List Frame} {meth : Method} {c : Code} {G : Gx} {h' : Mem} {L : Nat} (X : CX G p s m args c cX10_deal 7 RX10) (hr : meth.sig.returnType = (Option.none : Option Jvm.ClassFile.FieldType)) (hk : meth.locks = false) (hL : s.heap.size + 0 = gB G + L) (N : Nat) : ∀ (v0 : Nat) (v1 : Int32) (h : Mem), f_X10_deal N v0 v1 h = some h' → ∀ (H : Heap) (locs : List Loc) (ls : Array Slot), MS G s h H locs 0 → lv_has ls 7 [(0, .ref (gB G + v0)), (1, .int v1)] → W p l e (rm_X10_deal) s m args below meth c H locs 0 0 (QV G below args s h' L 0 0) (F0 m 0 ls []) := by
  intro v0 v1 h hf H locs ls M hl
  rw [f_X10_deal] at hf
  refine lv_iload_n X.1 X.2.1 dX10_deal_0 rfl (lv_at hl 1 rfl) ?_
  refine lv_istore_n (lv' := [(2, .int v1), (0, .ref (gB G + v0)), (1, .int v1)]) X.1 X.2.1 dX10_deal_1 rfl hl (by decide) rfl (fun ls hl => ?_)
  refine lv_aload_n X.1 X.2.1 dX10_deal_2 rfl (lv_at hl 1 rfl) ?_
  obtain ⟨t1, q2, hf⟩ := bnd hf
  refine x_geti fl_X10_13 X M q2 dX10_deal_3 ?_
  refine lv_iconst (v := (1 : Int32)) X.1 X.2.1 dX10_deal_6 (by decide) ?_
  refine lv_isub X.1 X.2.1 dX10_deal_7 ?_
  refine lv_istore_n (lv' := [(3, .int (t1 - (1 : Int32))), (2, .int v1), (0, .ref (gB G + v0)), (1, .int v1)]) X.1 X.2.1 dX10_deal_8 rfl hl (by decide) rfl (fun ls hl => ?_)
  exact w_X10_deal_9 X hr hk hL N N v0 v1 (t1 - (1 : Int32)) h hf _ _ _ M (lv_sub hl [2, 1, 0] rfl)
theorem c_X10_deal (l : Launch) (G : Gx) (N : Nat) (v0 : Nat) (v1 : Int32) (h : Mem) (h' : Mem) (hf : f_X10_deal N v0 v1 h = some h') : MetG l G yX10_deal (.code yX10_deal cX10_deal 7 (Option.none : Option Jvm.ClassFile.FieldType)) rm_X10_deal [.ref (gB G + v0), .int v1] h (QcV G h' (h.1.length + 0)) 0 0 :=
  x_met (by decide) rfl (Nat.le_of_ble_eq_true rfl) (fun p e s m args below meth c ls X M hr hk hin hl => w_X10_deal X hr hk (by have := M.2.2; omega) N v0 v1 h hf _ _ ls M hl)
abbrev rm_X10_sorted : Room := { frames := 2, cells := 0, slots := 0, locals := 66 }
def f_X10_sorted_132 (N : Nat) (v0 : Nat) (v2 : Int32) (v3 : Int32) (v5 : Int32) (s0 : Int32) (s1 : Int32) (h : Mem) (k105 : Nat → Int32 → Int32 → Int32 → Int32 → Mem → Option (Int32 × Mem)) : Option (Int32 × Mem) :=
  k105 v0 v2 v3 (s0 + s1) (v5 + 1) h
set_option maxRecDepth 100000 in
set_option maxHeartbeats 4000000 in
theorem w_X10_sorted_132 {p : Program} {l : Launch} {e : Env} {s : State} {m : MethodId} {args : Array Value} {below : List Frame} {meth : Method} {c : Code} {G : Gx} {r : Int32} {h' : Mem} (X : CX G p s m args c cX10_sorted 6 RX10) (hr : meth.sig.returnType = (Option.some Jvm.ClassFile.FieldType.int)) (hk : meth.locks = false) (N : Nat) (k105 : Nat → Int32 → Int32 → Int32 → Int32 → Mem → Option (Int32 × Mem)) (K105 : ∀ (v0 : Nat) (v2 : Int32) (v3 : Int32) (v4 : Int32) (v5 : Int32) (h : Mem), k105 v0 v2 v3 v4 v5 h = some (r, h') → ∀ (H : Heap) (locs : List Loc) (ls : Array Slot), MS G s h H locs 0 → lv_has ls 6 [(0, .ref (gB G + v0)), (2, .int v2), (3, .int v3), (4, .int v4), (5, .int v5)] → W p l e (rm_X10_sorted) s m args below meth c H locs 0 0 (QI G below args s r h' 0 0) (F0 m 105 ls [])) : ∀ (v0 : Nat) (v2 : Int32) (v3 : Int32) (v5 : Int32) (s0 : Int32) (s1 : Int32) (h : Mem), f_X10_sorted_132 N v0 v2 v3 v5 s0 s1 h k105 = some (r, h') → ∀ (H : Heap) (locs : List Loc) (ls : Array Slot), MS G s h H locs 0 → lv_has ls 6 [(0, .ref (gB G + v0)), (2, .int v2), (3, .int v3), (5, .int v5)] → W p l e (rm_X10_sorted) s m args below meth c H locs 0 0 (QI G below args s r h' 0 0) (F0 m 132 ls [.int s1, .int s0]) := by
  intro v0 v2 v3 v5 s0 s1 h hf H locs ls M hl
  rw [f_X10_sorted_132] at hf
  refine lv_iadd X.1 X.2.1 dX10_sorted_132 ?_
  refine lv_istore (lv' := [(4, .int (s0 + s1)), (0, .ref (gB G + v0)), (2, .int v2), (3, .int v3), (5, .int v5)]) X.1 X.2.1 dX10_sorted_133 hl (by decide) rfl (fun ls hl => ?_)
  refine lv_iinc (v := (v5 + 1)) (lv' := [(5, .int (v5 + 1)), (4, .int (s0 + s1)), (0, .ref (gB G + v0)), (2, .int v2), (3, .int v3)]) X.1 X.2.1 dX10_sorted_135 hl (k := 4) rfl (by first | rfl | decide) (by decide) rfl (fun ls hl => ?_)
  refine lv_goto (tgt := 105) X.1 X.2.1 dX10_sorted_138 (by decide) ?_
  exact K105 v0 v2 v3 (s0 + s1) (v5 + 1) h hf _ _ _ M (lv_sub hl [2, 3, 4, 1, 0] rfl)
def f_X10_sorted_144 (N : Nat) (n : Nat) (v0 : Nat) (v4 : Int32) (v5 : Int32) (h : Mem) : Option (Int32 × Mem) := match n with
  | 0 => none
  | n + 1 =>
    (gI h v0 10 1).bind fun t1 =>
    if t1 ≤ v5 then
      some (v4, h)
    else
      (gR h v0 10 8).bind fun t4 =>
      (gR h v0 10 47).bind fun t6 =>
      (lI 100 h t6 v5).bind fun t8 =>
      (stI 100 h t4 v5 t8).bind fun h10 =>
      f_X10_sorted_144 N n v0 v4 (v5 + 1) h10
set_option maxRecDepth 100000 in
set_option maxHeartbeats 4000000 in
theorem w_X10_sorted_144 {p : Program} {l : Launch} {e : Env} {s : State} {m : MethodId} {args : Array Value} {below : List Frame} {meth : Method} {c : Code} {G : Gx} {r : Int32} {h' : Mem} (X : CX G p s m args c cX10_sorted 6 RX10) (hr : meth.sig.returnType = (Option.some Jvm.ClassFile.FieldType.int)) (hk : meth.locks = false) (N : Nat) : ∀ (n : Nat) (v0 : Nat) (v4 : Int32) (v5 : Int32) (h : Mem), f_X10_sorted_144 N n v0 v4 v5 h = some (r, h') → ∀ (H : Heap) (locs : List Loc) (ls : Array Slot), MS G s h H locs 0 → lv_has ls 6 [(0, .ref (gB G + v0)), (4, .int v4), (5, .int v5)] → W p l e (rm_X10_sorted) s m args below meth c H locs 0 0 (QI G below args s r h' 0 0) (F0 m 144 ls []) := by
  intro n
  induction n with
  | zero =>
    intro v0 v4 v5 h hf
    cases hf
  | succ n ih =>
    intro v0 v4 v5 h hf H locs ls M hl
    rw [f_X10_sorted_144] at hf
    refine lv_iload X.1 X.2.1 dX10_sorted_144 (lv_at hl 2 rfl) ?_
    refine lv_aload_n X.1 X.2.1 dX10_sorted_146 rfl (lv_at hl 0 rfl) ?_
    obtain ⟨t1, q2, hf⟩ := bnd hf
    refine x_geti fl_X10_13 X M q2 dX10_sorted_147 ?_
    refine lv_icmp_ge (tgt := 173) X.1 X.2.1 dX10_sorted_150 (by decide) (fun c3 => ?_) (fun c3 => ?_)
    · have hf := ifp c3 hf
      refine lv_iload X.1 X.2.1 dX10_sorted_173 (lv_at hl 1 rfl) ?_
      obtain ⟨rfl, rfl⟩ := rt2 hf
      exact x_iret X hr hk M dX10_sorted_175
    · have hf := ifn c3 hf
      refine lv_aload_n X.1 X.2.1 dX10_sorted_153 rfl (lv_at hl 0 rfl) ?_
      obtain ⟨t4, q5, hf⟩ := bnd hf
      refine x_getr fl_X10_35 X M q5 dX10_sorted_154 ?_
      refine lv_iload X.1 X.2.1 dX10_sorted_157 (lv_at hl 2 rfl) ?_
      refine lv_aload_n X.1 X.2.1 dX10_sorted_159 rfl (lv_at hl 0 rfl) ?_
      obtain ⟨t6, q7, hf⟩ := bnd hf
      refine x_getr fl_X10_155 X M q7 dX10_sorted_160 ?_
      refine lv_iload X.1 X.2.1 dX10_sorted_163 (lv_at hl 2 rfl) ?_
      obtain ⟨t8, q9, hf⟩ := bnd hf
      refine x_iald X M q9 dX10_sorted_165 ?_
      obtain ⟨h10, q11, hf⟩ := bnd hf
      refine x_iast X M q11 dX10_sorted_166 (fun H locs M => ?_)
      refine lv_iinc (v := (v5 + 1)) (lv' := [(5, .int (v5 + 1)), (0, .ref (gB G + v0)), (4, .int v4)]) X.1 X.2.1 dX10_sorted_167 hl (k := 2) rfl (by first | rfl | decide) (by decide) rfl (fun ls hl => ?_)
      refine lv_goto (tgt := 144) X.1 X.2.1 dX10_sorted_170 (by decide) ?_
      exact ih v0 v4 (v5 + 1) h10 hf _ _ _ M (lv_sub hl [1, 2, 0] rfl)
def f_X10_sorted_105 (N : Nat) (n : Nat) (v0 : Nat) (v2 : Int32) (v3 : Int32) (v4 : Int32) (v5 : Int32) (h : Mem) : Option (Int32 × Mem) := match n with
  | 0 => none
  | n + 1 =>
    if v3 ≤ v5 then
      f_X10_sorted_144 N N v0 v4 (0 : Int32) h
    else
      (ck h v0 10).bind fun _ =>
      (f_X10_deal N v0 v5 h).bind fun h4 =>
      (ck h4 v0 10).bind fun _ =>
      b2 (f_X10_pairs N v0 h4) fun t8 h7 =>
      if t8 < v2 then
        f_X10_sorted_132 N v0 v2 v3 v5 v4 (0 : Int32) h7 (fun v0 v2 v3 v4 v5 h => f_X10_sorted_105 N n v0 v2 v3 v4 v5 h)
      else
        f_X10_sorted_132 N v0 v2 v3 v5 v4 (1 : Int32) h7 (fun v0 v2 v3 v4 v5 h => f_X10_sorted_105 N n v0 v2 v3 v4 v5 h)
set_option maxRecDepth 100000 in
set_option maxHeartbeats 4000000 in
theorem w_X10_sorted_105 {p : Program} {l : Launch} {e : Env} {s : State} {m : MethodId} {args : Array Value} {below : List Frame} {meth : Method} {c : Code} {G : Gx} {r : Int32} {h' : Mem} (X : CX G p s m args c cX10_sorted 6 RX10) (hr : meth.sig.returnType = (Option.some Jvm.ClassFile.FieldType.int)) (hk : meth.locks = false) (N : Nat) : ∀ (n : Nat) (v0 : Nat) (v2 : Int32) (v3 : Int32) (v4 : Int32) (v5 : Int32) (h : Mem), f_X10_sorted_105 N n v0 v2 v3 v4 v5 h = some (r, h') → ∀ (H : Heap) (locs : List Loc) (ls : Array Slot), MS G s h H locs 0 → lv_has ls 6 [(0, .ref (gB G + v0)), (2, .int v2), (3, .int v3), (4, .int v4), (5, .int v5)] → W p l e (rm_X10_sorted) s m args below meth c H locs 0 0 (QI G below args s r h' 0 0) (F0 m 105 ls []) := by
  intro n
  induction n with
  | zero =>
    intro v0 v2 v3 v4 v5 h hf
    cases hf
  | succ n ih =>
    intro v0 v2 v3 v4 v5 h hf H locs ls M hl
    rw [f_X10_sorted_105] at hf
    refine lv_iload X.1 X.2.1 dX10_sorted_105 (lv_at hl 4 rfl) ?_
    refine lv_iload_n X.1 X.2.1 dX10_sorted_107 rfl (lv_at hl 2 rfl) ?_
    refine lv_icmp_ge (tgt := 141) X.1 X.2.1 dX10_sorted_108 (by decide) (fun c1 => ?_) (fun c1 => ?_)
    · have hf := ifp c1 hf
      refine lv_iconst (v := (0 : Int32)) X.1 X.2.1 dX10_sorted_141 (by decide) ?_
      refine lv_istore (lv' := [(5, .int (0 : Int32)), (0, .ref (gB G + v0)), (2, .int v2), (3, .int v3), (4, .int v4)]) X.1 X.2.1 dX10_sorted_142 hl (by decide) rfl (fun ls hl => ?_)
      exact w_X10_sorted_144 X hr hk N N v0 v4 (0 : Int32) h hf _ _ _ M (lv_sub hl [1, 4, 0] rfl)
    · have hf := ifn c1 hf
      refine lv_aload_n X.1 X.2.1 dX10_sorted_111 rfl (lv_at hl 0 rfl) ?_
      refine lv_iload X.1 X.2.1 dX10_sorted_112 (lv_at hl 4 rfl) ?_
      obtain ⟨⟨⟩, q2, hf⟩ := bnd hf
      obtain ⟨h4, q3, hf⟩ := bnd hf
      refine x_callVv (As := [.int v5]) cf_X10_375 (c_X10_deal l G N v0 v5 h _ q3) rfl ⟨rfl, rfl, Nat.le_of_ble_eq_true rfl, Nat.le_of_ble_eq_true rfl⟩ ⟨Nat.le_of_ble_eq_true rfl, Nat.le_of_ble_eq_true rfl⟩ X M (x_recv cls_X10 X M q2) rfl rfl hl.1 (Nat.le_of_ble_eq_true rfl) dX10_sorted_114 (fun H locs M => ?_)
      refine lv_iload X.1 X.2.1 dX10_sorted_117 (lv_at hl 3 rfl) ?_
      refine lv_aload_n X.1 X.2.1 dX10_sorted_119 rfl (lv_at hl 0 rfl) ?_
      obtain ⟨⟨⟩, q5, hf⟩ := bnd hf
      obtain ⟨t8, h7, q6, hf⟩ := bnd2 hf
      refine x_callVi (As := []) cf_X10_372 (c_X10_pairs l G N v0 h4 _ _ q6) rfl ⟨rfl, rfl, Nat.le_of_ble_eq_true rfl, Nat.le_of_ble_eq_true rfl⟩ ⟨Nat.le_of_ble_eq_true rfl, Nat.le_of_ble_eq_true rfl⟩ X M (x_recv cls_X10 X M q5) rfl rfl hl.1 (Nat.le_of_ble_eq_true rfl) dX10_sorted_120 (fun H locs M => ?_)
      refine lv_iload_n X.1 X.2.1 dX10_sorted_123 rfl (lv_at hl 1 rfl) ?_
      refine lv_icmp_lt (tgt := 131) X.1 X.2.1 dX10_sorted_124 (by decide) (fun c9 => ?_) (fun c9 => ?_)
      · have hf := ifp c9 hf
        refine lv_iconst (v := (0 : Int32)) X.1 X.2.1 dX10_sorted_131 (by decide) ?_
        exact w_X10_sorted_132 X hr hk N _ (fun v0 v2 v3 v4 v5 h hf H locs ls M hl => ih v0 v2 v3 v4 v5 h hf H locs ls M hl) v0 v2 v3 v5 v4 (0 : Int32) h7 hf _ _ _ M (lv_sub hl [0, 1, 2, 4] rfl)
      · have hf := ifn c9 hf
        refine lv_iconst (v := (1 : Int32)) X.1 X.2.1 dX10_sorted_127 (by decide) ?_
        refine lv_goto (tgt := 132) X.1 X.2.1 dX10_sorted_128 (by decide) ?_
        exact w_X10_sorted_132 X hr hk N _ (fun v0 v2 v3 v4 v5 h hf H locs ls M hl => ih v0 v2 v3 v4 v5 h hf H locs ls M hl) v0 v2 v3 v5 v4 (1 : Int32) h7 hf _ _ _ M (lv_sub hl [0, 1, 2, 4] rfl)
def f_X10_sorted_70 (N : Nat) (n : Nat) (v0 : Nat) (v2 : Int32) (v3 : Int32) (v4 : Int32) (h : Mem) : Option (Int32 × Mem) := match n with
  | 0 => none
  | n + 1 =>
    (gI h v0 10 1).bind fun t1 =>
    if t1 ≤ v4 then
      f_X10_sorted_105 N N v0 v2 v3 (0 : Int32) (0 : Int32) h
    else
      (gR h v0 10 47).bind fun t4 =>
      (gR h v0 10 8).bind fun t6 =>
      (lI 100 h t6 v4).bind fun t8 =>
      (stI 100 h t4 v4 t8).bind fun h10 =>
      f_X10_sorted_70 N n v0 v2 v3 (v4 + 1) h10
set_option maxRecDepth 100000 in
set_option maxHeartbeats 4000000 in
theorem w_X10_sorted_70 {p : Program} {l : Launch} {e : Env} {s : State} {m : MethodId} {args : Array Value} {below : List Frame} {meth : Method} {c : Code} {G : Gx} {r : Int32} {h' : Mem} (X : CX G p s m args c cX10_sorted 6 RX10) (hr : meth.sig.returnType = (Option.some Jvm.ClassFile.FieldType.int)) (hk : meth.locks = false) (N : Nat) : ∀ (n : Nat) (v0 : Nat) (v2 : Int32) (v3 : Int32) (v4 : Int32) (h : Mem), f_X10_sorted_70 N n v0 v2 v3 v4 h = some (r, h') → ∀ (H : Heap) (locs : List Loc) (ls : Array Slot), MS G s h H locs 0 → lv_has ls 6 [(0, .ref (gB G + v0)), (2, .int v2), (3, .int v3), (4, .int v4)] → W p l e (rm_X10_sorted) s m args below meth c H locs 0 0 (QI G below args s r h' 0 0) (F0 m 70 ls []) := by
  intro n
  induction n with
  | zero =>
    intro v0 v2 v3 v4 h hf
    cases hf
  | succ n ih =>
    intro v0 v2 v3 v4 h hf H locs ls M hl
    rw [f_X10_sorted_70] at hf
    refine lv_iload X.1 X.2.1 dX10_sorted_70 (lv_at hl 3 rfl) ?_
    refine lv_aload_n X.1 X.2.1 dX10_sorted_72 rfl (lv_at hl 0 rfl) ?_
    obtain ⟨t1, q2, hf⟩ := bnd hf
    refine x_geti fl_X10_13 X M q2 dX10_sorted_73 ?_
    refine lv_icmp_ge (tgt := 99) X.1 X.2.1 dX10_sorted_76 (by decide) (fun c3 => ?_) (fun c3 => ?_)
    · have hf := ifp c3 hf
      refine lv_iconst (v := (0 : Int32)) X.1 X.2.1 dX10_sorted_99 (by decide) ?_
      refine lv_istore (lv' := [(4, .int (0 : Int32)), (0, .ref (gB G + v0)), (2, .int v2), (3, .int v3)]) X.1 X.2.1 dX10_sorted_100 hl (by decide) rfl (fun ls hl => ?_)
      refine lv_iconst (v := (0 : Int32)) X.1 X.2.1 dX10_sorted_102 (by decide) ?_
      refine lv_istore (lv' := [(5, .int (0 : Int32)), (4, .int (0 : Int32)), (0, .ref (gB G + v0)), (2, .int v2), (3, .int v3)]) X.1 X.2.1 dX10_sorted_103 hl (by decide) rfl (fun ls hl => ?_)
      exact w_X10_sorted_105 X hr hk N N v0 v2 v3 (0 : Int32) (0 : Int32) h hf _ _ _ M (lv_sub hl [2, 3, 4, 1, 0] rfl)
    · have hf := ifn c3 hf
      refine lv_aload_n X.1 X.2.1 dX10_sorted_79 rfl (lv_at hl 0 rfl) ?_
      obtain ⟨t4, q5, hf⟩ := bnd hf
      refine x_getr fl_X10_155 X M q5 dX10_sorted_80 ?_
      refine lv_iload X.1 X.2.1 dX10_sorted_83 (lv_at hl 3 rfl) ?_
      refine lv_aload_n X.1 X.2.1 dX10_sorted_85 rfl (lv_at hl 0 rfl) ?_
      obtain ⟨t6, q7, hf⟩ := bnd hf
      refine x_getr fl_X10_35 X M q7 dX10_sorted_86 ?_
      refine lv_iload X.1 X.2.1 dX10_sorted_89 (lv_at hl 3 rfl) ?_
      obtain ⟨t8, q9, hf⟩ := bnd hf
      refine x_iald X M q9 dX10_sorted_91 ?_
      obtain ⟨h10, q11, hf⟩ := bnd hf
      refine x_iast X M q11 dX10_sorted_92 (fun H locs M => ?_)
      refine lv_iinc (v := (v4 + 1)) (lv' := [(4, .int (v4 + 1)), (0, .ref (gB G + v0)), (2, .int v2), (3, .int v3)]) X.1 X.2.1 dX10_sorted_93 hl (k := 3) rfl (by first | rfl | decide) (by decide) rfl (fun ls hl => ?_)
      refine lv_goto (tgt := 70) X.1 X.2.1 dX10_sorted_96 (by decide) ?_
      exact ih v0 v2 v3 (v4 + 1) h10 hf _ _ _ M (lv_sub hl [1, 2, 3, 0] rfl)
def f_X10_sorted_40 (N : Nat) (n : Nat) (v0 : Nat) (v1 : Int32) (v2 : Int32) (v3 : Int32) (v4 : Int32) (h : Mem) : Option (Int32 × Mem) := match n with
  | 0 => none
  | n + 1 =>
    (gI h v0 10 1).bind fun t1 =>
    if t1 < v4 then
      if v1 = (2 : Int32) then
        some (v3, h)
      else
        f_X10_sorted_70 N N v0 v2 v3 (0 : Int32) h
    else
      f_X10_sorted_40 N n v0 v1 v2 (v3 * v4) (v4 + 1) h
set_option maxRecDepth 100000 in
set_option maxHeartbeats 4000000 in
theorem w_X10_sorted_40 {p : Program} {l : Launch} {e : Env} {s : State} {m : MethodId} {args : Array Value} {below : List Frame} {meth : Method} {c : Code} {G : Gx} {r : Int32} {h' : Mem} (X : CX G p s m args c cX10_sorted 6 RX10) (hr : meth.sig.returnType = (Option.some Jvm.ClassFile.FieldType.int)) (hk : meth.locks = false) (N : Nat) : ∀ (n : Nat) (v0 : Nat) (v1 : Int32) (v2 : Int32) (v3 : Int32) (v4 : Int32) (h : Mem), f_X10_sorted_40 N n v0 v1 v2 v3 v4 h = some (r, h') → ∀ (H : Heap) (locs : List Loc) (ls : Array Slot), MS G s h H locs 0 → lv_has ls 6 [(0, .ref (gB G + v0)), (1, .int v1), (2, .int v2), (3, .int v3), (4, .int v4)] → W p l e (rm_X10_sorted) s m args below meth c H locs 0 0 (QI G below args s r h' 0 0) (F0 m 40 ls []) := by
  intro n
  induction n with
  | zero =>
    intro v0 v1 v2 v3 v4 h hf
    cases hf
  | succ n ih =>
    intro v0 v1 v2 v3 v4 h hf H locs ls M hl
    rw [f_X10_sorted_40] at hf
    refine lv_iload X.1 X.2.1 dX10_sorted_40 (lv_at hl 4 rfl) ?_
    refine lv_aload_n X.1 X.2.1 dX10_sorted_42 rfl (lv_at hl 0 rfl) ?_
    obtain ⟨t1, q2, hf⟩ := bnd hf
    refine x_geti fl_X10_13 X M q2 dX10_sorted_43 ?_
    refine lv_icmp_gt (tgt := 60) X.1 X.2.1 dX10_sorted_46 (by decide) (fun c3 => ?_) (fun c3 => ?_)
    · have hf := ifp c3 hf
      refine lv_iload_n X.1 X.2.1 dX10_sorted_60 rfl (lv_at hl 1 rfl) ?_
      refine lv_iconst (v := (2 : Int32)) X.1 X.2.1 dX10_sorted_61 (by decide) ?_
      refine lv_icmp_ne (tgt := 67) X.1 X.2.1 dX10_sorted_62 (by decide) (fun c4 => ?_) (fun c4 => ?_)
      · have hf := ifn c4 hf
        refine lv_iconst (v := (0 : Int32)) X.1 X.2.1 dX10_sorted_67 (by decide) ?_
        refine lv_istore (lv' := [(4, .int (0 : Int32)), (0, .ref (gB G + v0)), (1, .int v1), (2, .int v2), (3, .int v3)]) X.1 X.2.1 dX10_sorted_68 hl (by decide) rfl (fun ls hl => ?_)
        exact w_X10_sorted_70 X hr hk N N v0 v2 v3 (0 : Int32) h hf _ _ _ M (lv_sub hl [1, 3, 4, 0] rfl)
      · have hf := ifp c4 hf
        refine lv_iload_n X.1 X.2.1 dX10_sorted_65 rfl (lv_at hl 3 rfl) ?_
        obtain ⟨rfl, rfl⟩ := rt2 hf
        exact x_iret X hr hk M dX10_sorted_66
    · have hf := ifn c3 hf
      refine lv_iload_n X.1 X.2.1 dX10_sorted_49 rfl (lv_at hl 3 rfl) ?_
      refine lv_iload X.1 X.2.1 dX10_sorted_50 (lv_at hl 4 rfl) ?_
      refine lv_imul X.1 X.2.1 dX10_sorted_52 ?_
      refine lv_istore_n (lv' := [(3, .int (v3 * v4)), (0, .ref (gB G + v0)), (1, .int v1), (2, .int v2), (4, .int v4)]) X.1 X.2.1 dX10_sorted_53 rfl hl (by decide) rfl (fun ls hl => ?_)
      refine lv_iinc (v := (v4 + 1)) (lv' := [(4, .int (v4 + 1)), (3, .int (v3 * v4)), (0, .ref (gB G + v0)), (1, .int v1), (2, .int v2)]) X.1 X.2.1 dX10_sorted_54 hl (k := 4) rfl (by first | rfl | decide) (by decide) rfl (fun ls hl => ?_)
      refine lv_goto (tgt := 40) X.1 X.2.1 dX10_sorted_57 (by decide) ?_
      exact ih v0 v1 v2 (v3 * v4) (v4 + 1) h hf _ _ _ M (lv_sub hl [2, 3, 4, 1, 0] rfl)
def f_X10_sorted (N : Nat) (v0 : Nat) (v1 : Int32) (h : Mem) : Option (Int32 × Mem) :=
  (ck h v0 10).bind fun _ =>
  b2 (f_X10_in N v0 v1 (0 : Int32) (2 : Int32) h) fun t4 h3 =>
  if t4 = 0 then
    some ((-1 : Int32), h3)
  else
    (ck h3 v0 10).bind fun _ =>
    b2 (f_X10_pairs N v0 h3) fun t9 h8 =>
    if v1 = 0 then
      some (t9, h8)
    else
      (gI h8 v0 10 1).bind fun t11 =>
      if t11 ≤ (7 : Int32) then
        f_X10_sorted_40 N N v0 v1 t9 (1 : Int32) (2 : Int32) h8
      else
        some ((-9 : Int32), h8)
set_option maxRecDepth 100000 in
set_option maxHeartbeats 4000000 in
theorem w_X10_sorted {p : Program} {l : Launch} {e : Env} {s : State} {m : MethodId} {args : Array Value} {below : List Frame} {meth : Method} {c : Code} {G : Gx} {r : Int32} {h' : Mem} (X : CX G p s m args c cX10_sorted 6 RX10) (hr : meth.sig.returnType = (Option.some Jvm.ClassFile.FieldType.int)) (hk : meth.locks = false) (N : Nat) : ∀ (v0 : Nat) (v1 : Int32) (h : Mem), f_X10_sorted N v0 v1 h = some (r, h') → ∀ (H : Heap) (locs : List Loc) (ls : Array Slot), MS G s h H locs 0 → lv_has ls 6 [(0, .ref (gB G + v0)), (1, .int v1)] → W p l e (rm_X10_sorted) s m args below meth c H locs 0 0 (QI G below args s r h' 0 0) (F0 m 0 ls []) := by
  intro v0 v1 h hf H locs ls M hl
  rw [f_X10_sorted] at hf
  refine lv_aload_n X.1 X.2.1 dX10_sorted_0 rfl (lv_at hl 0 rfl) ?_
  refine lv_iload_n X.1 X.2.1 dX10_sorted_1 rfl (lv_at hl 1 rfl) ?_
  refine lv_iconst (v := (0 : Int32)) X.1 X.2.1 dX10_sorted_2 (by decide) ?_
  refine lv_iconst (v := (2 : Int32)) X.1 X.2.1 dX10_sorted_3 (by decide) ?_
  obtain ⟨⟨⟩, q1, hf⟩ := bnd hf
  obtain ⟨t4, h3, q2, hf⟩ := bnd2 hf
  refine x_callVi (As := [.int v1, .int (0 : Int32), .int (2 : Int32)]) cf_X10_197 (c_X10_in l G N v0 v1 (0 : Int32) (2 : Int32) h _ _ q2) rfl ⟨rfl, rfl, Nat.le_of_ble_eq_true rfl, Nat.le_of_ble_eq_true rfl⟩ ⟨Nat.le_of_ble_eq_true rfl, Nat.le_of_ble_eq_true rfl⟩ X M (x_recv cls_X10 X M q1) rfl rfl hl.1 (Nat.le_of_ble_eq_true rfl) dX10_sorted_4 (fun H locs M => ?_)
  refine lv_if_ne (tgt := 12) X.1 X.2.1 dX10_sorted_7 (by decide) (fun c5 => ?_) (fun c5 => ?_)
  · have hf := ifn c5 hf
    refine lv_aload_n X.1 X.2.1 dX10_sorted_12 rfl (lv_at hl 0 rfl) ?_
    obtain ⟨⟨⟩, q6, hf⟩ := bnd hf
    obtain ⟨t9, h8, q7, hf⟩ := bnd2 hf
    refine x_callVi (As := []) cf_X10_372 (c_X10_pairs l G N v0 h3 _ _ q7) rfl ⟨rfl, rfl, Nat.le_of_ble_eq_true rfl, Nat.le_of_ble_eq_true rfl⟩ ⟨Nat.le_of_ble_eq_true rfl, Nat.le_of_ble_eq_true rfl⟩ X M (x_recv cls_X10 X M q6) rfl rfl hl.1 (Nat.le_of_ble_eq_true rfl) dX10_sorted_13 (fun H locs M => ?_)
    refine lv_istore_n (lv' := [(2, .int t9), (0, .ref (gB G + v0)), (1, .int v1)]) X.1 X.2.1 dX10_sorted_16 rfl hl (by decide) rfl (fun ls hl => ?_)
    refine lv_iload_n X.1 X.2.1 dX10_sorted_17 rfl (lv_at hl 2 rfl) ?_
    refine lv_if_ne (tgt := 23) X.1 X.2.1 dX10_sorted_18 (by decide) (fun c10 => ?_) (fun c10 => ?_)
    · have hf := ifn c10 hf
      refine lv_aload_n X.1 X.2.1 dX10_sorted_23 rfl (lv_at hl 1 rfl) ?_
      obtain ⟨t11, q12, hf⟩ := bnd hf
      refine x_geti fl_X10_13 X M q12 dX10_sorted_24 ?_
      refine lv_bipush (v := (7 : Int32)) X.1 X.2.1 dX10_sorted_27 (by decide) ?_
      refine lv_icmp_le (tgt := 35) X.1 X.2.1 dX10_sorted_29 (by decide) (fun c13 => ?_) (fun c13 => ?_)
      · have hf := ifp c13 hf
        refine lv_iconst (v := (1 : Int32)) X.1 X.2.1 dX10_sorted_35 (by decide) ?_
        refine lv_istore_n (lv' := [(3, .int (1 : Int32)), (2, .int t9), (0, .ref (gB G + v0)), (1, .int v1)]) X.1 X.2.1 dX10_sorted_36 rfl hl (by decide) rfl (fun ls hl => ?_)
        refine lv_iconst (v := (2 : Int32)) X.1 X.2.1 dX10_sorted_37 (by decide) ?_
        refine lv_istore (lv' := [(4, .int (2 : Int32)), (3, .int (1 : Int32)), (2, .int t9), (0, .ref (gB G + v0)), (1, .int v1)]) X.1 X.2.1 dX10_sorted_38 hl (by decide) rfl (fun ls hl => ?_)
        exact w_X10_sorted_40 X hr hk N N v0 v1 t9 (1 : Int32) (2 : Int32) h8 hf _ _ _ M (lv_sub hl [3, 4, 2, 1, 0] rfl)
      · have hf := ifn c13 hf
        refine lv_bipush (v := (-9 : Int32)) X.1 X.2.1 dX10_sorted_32 (by decide) ?_
        obtain ⟨rfl, rfl⟩ := rt2 hf
        exact x_iret X hr hk M dX10_sorted_34
    · have hf := ifp c10 hf
      refine lv_iload_n X.1 X.2.1 dX10_sorted_21 rfl (lv_at hl 0 rfl) ?_
      obtain ⟨rfl, rfl⟩ := rt2 hf
      exact x_iret X hr hk M dX10_sorted_22
  · have hf := ifp c5 hf
    refine lv_iconst (v := (-1 : Int32)) X.1 X.2.1 dX10_sorted_10 (by decide) ?_
    obtain ⟨rfl, rfl⟩ := rt2 hf
    exact x_iret X hr hk M dX10_sorted_11
theorem c_X10_sorted (l : Launch) (G : Gx) (N : Nat) (v0 : Nat) (v1 : Int32) (h : Mem) (r : Int32) (h' : Mem) (hf : f_X10_sorted N v0 v1 h = some (r, h')) : MetG l G yX10_sorted (.code yX10_sorted cX10_sorted 6 (Option.some Jvm.ClassFile.FieldType.int)) rm_X10_sorted [.ref (gB G + v0), .int v1] h (QcI G r h') 0 0 :=
  x_met (by decide) rfl (Nat.le_of_ble_eq_true rfl) (fun p e s m args below meth c ls X M hr hk hin hl => w_X10_sorted X hr hk N v0 v1 h hf _ _ ls M hl)
abbrev rm_X10_tip : Room := { frames := 16, cells := 0, slots := 0, locals := 392 }
def f_X10_tip_139 (N : Nat) (v0 : Nat) (v1 : Int32) (v2 : Int32) (v3 : Int32) (v4 : Int32) (v5 : Int32) (v7 : Int32) (h : Mem) (k144 : Nat → Int32 → Int32 → Int32 → Int32 → Int32 → Int32 → Int32 → Mem → Option (Int32 × Mem)) : Option (Int32 × Mem) :=
  k144 v0 v1 v2 v3 v4 v5 v7 (1 : Int32) h
set_option maxRecDepth 100000 in
set_option maxHeartbeats 4000000 in
theorem w_X10_tip_139 {p : Program} {l : Launch} {e : Env} {s : State} {m : MethodId} {args : Array Value} {below : List Frame} {meth : Method} {c : Code} {G : Gx} {r : Int32} {h' : Mem} (X : CX G p s m args c cX10_tip 8 RX10) (hr : meth.sig.returnType = (Option.some Jvm.ClassFile.FieldType.int)) (hk : meth.locks = false) (N : Nat) (k144 : Nat → Int32 → Int32 → Int32 → Int32 → Int32 → Int32 → Int32 → Mem → Option (Int32 × Mem)) (K144 : ∀ (v0 : Nat) (v1 : Int32) (v2 : Int32) (v3 : Int32) (v4 : Int32) (v5 : Int32) (v7 : Int32) (s0 : Int32) (h : Mem), k144 v0 v1 v2 v3 v4 v5 v7 s0 h = some (r, h') → ∀ (H : Heap) (locs : List Loc) (ls : Array Slot), MS G s h H locs 0 → lv_has ls 8 [(0, .ref (gB G + v0)), (1, .int v1), (2, .int v2), (3, .int v3), (4, .int v4), (5, .int v5), (7, .int v7)] → W p l e (rm_X10_tip) s m args below meth c H locs 0 0 (QI G below args s r h' 0 0) (F0 m 144 ls [.int s0])) : ∀ (v0 : Nat) (v1 : Int32) (v2 : Int32) (v3 : Int32) (v4 : Int32) (v5 : Int32) (v7 : Int32) (h : Mem), f_X10_tip_139 N v0 v1 v2 v3 v4 v5 v7 h k144 = some (r, h') → ∀ (H : Heap) (locs : List Loc) (ls : Array Slot), MS G s h H locs 0 → lv_has ls 8 [(0, .ref (gB G + v0)), (1, .int v1), (2, .int v2), (3, .int v3), (4, .int v4), (5, .int v5), (7, .int v7)] → W p l e (rm_X10_tip) s m args below meth c H locs 0 0 (QI G below args s r h' 0 0) (F0 m 139 ls []) := by
  intro v0 v1 v2 v3 v4 v5 v7 h hf H locs ls M hl
  rw [f_X10_tip_139] at hf
  refine lv_iconst (v := (1 : Int32)) X.1 X.2.1 dX10_tip_139 (by decide) ?_
  refine lv_goto (tgt := 144) X.1 X.2.1 dX10_tip_140 (by decide) ?_
  exact K144 v0 v1 v2 v3 v4 v5 v7 (1 : Int32) h hf _ _ _ M (lv_sub hl [0, 1, 2, 3, 4, 5, 6] rfl)
def f_X10_tip_143 (N : Nat) (v0 : Nat) (v1 : Int32) (v2 : Int32) (v3 : Int32) (v4 : Int32) (v5 : Int32) (v7 : Int32) (h : Mem) (k144 : Nat → Int32 → Int32 → Int32 → Int32 → Int32 → Int32 → Int32 → Mem → Option (Int32 × Mem)) : Option (Int32 × Mem) :=
  k144 v0 v1 v2 v3 v4 v5 v7 (0 : Int32) h
set_option maxRecDepth 100000 in
set_option maxHeartbeats 4000000 in
theorem w_X10_tip_143 {p : Program} {l : Launch} {e : Env} {s : State} {m : MethodId} {args : Array Value} {below : List Frame} {meth : Method} {c : Code} {G : Gx} {r : Int32} {h' : Mem} (X : CX G p s m args c cX10_tip 8 RX10) (hr : meth.sig.returnType = (Option.some Jvm.ClassFile.FieldType.int)) (hk : meth.locks = false) (N : Nat) (k144 : Nat → Int32 → Int32 → Int32 → Int32 → Int32 → Int32 → Int32 → Mem → Option (Int32 × Mem)) (K144 : ∀ (v0 : Nat) (v1 : Int32) (v2 : Int32) (v3 : Int32) (v4 : Int32) (v5 : Int32) (v7 : Int32) (s0 : Int32) (h : Mem), k144 v0 v1 v2 v3 v4 v5 v7 s0 h = some (r, h') → ∀ (H : Heap) (locs : List Loc) (ls : Array Slot), MS G s h H locs 0 → lv_has ls 8 [(0, .ref (gB G + v0)), (1, .int v1), (2, .int v2), (3, .int v3), (4, .int v4), (5, .int v5), (7, .int v7)] → W p l e (rm_X10_tip) s m args below meth c H locs 0 0 (QI G below args s r h' 0 0) (F0 m 144 ls [.int s0])) : ∀ (v0 : Nat) (v1 : Int32) (v2 : Int32) (v3 : Int32) (v4 : Int32) (v5 : Int32) (v7 : Int32) (h : Mem), f_X10_tip_143 N v0 v1 v2 v3 v4 v5 v7 h k144 = some (r, h') → ∀ (H : Heap) (locs : List Loc) (ls : Array Slot), MS G s h H locs 0 → lv_has ls 8 [(0, .ref (gB G + v0)), (1, .int v1), (2, .int v2), (3, .int v3), (4, .int v4), (5, .int v5), (7, .int v7)] → W p l e (rm_X10_tip) s m args below meth c H locs 0 0 (QI G below args s r h' 0 0) (F0 m 143 ls []) := by
  intro v0 v1 v2 v3 v4 v5 v7 h hf H locs ls M hl
  rw [f_X10_tip_143] at hf
  refine lv_iconst (v := (0 : Int32)) X.1 X.2.1 dX10_tip_143 (by decide) ?_
  exact K144 v0 v1 v2 v3 v4 v5 v7 (0 : Int32) h hf _ _ _ M (lv_sub hl [0, 1, 2, 3, 4, 5, 6] rfl)
def f_X10_tip_144 (N : Nat) (v0 : Nat) (v1 : Int32) (v2 : Int32) (v3 : Int32) (v4 : Int32) (v5 : Int32) (v7 : Int32) (s0 : Int32) (h : Mem) (k102 : Nat → Int32 → Int32 → Int32 → Int32 → Int32 → Int32 → Int32 → Mem → Option (Int32 × Mem)) : Option (Int32 × Mem) :=
  k102 v0 v1 v2 v3 v4 v5 s0 (v7 + 1) h
set_option maxRecDepth 100000 in
set_option maxHeartbeats 4000000 in
theorem w_X10_tip_144 {p : Program} {l : Launch} {e : Env} {s : State} {m : MethodId} {args : Array Value} {below : List Frame} {meth : Method} {c : Code} {G : Gx} {r : Int32} {h' : Mem} (X : CX G p s m args c cX10_tip 8 RX10) (hr : meth.sig.returnType = (Option.some Jvm.ClassFile.FieldType.int)) (hk : meth.locks = false) (N : Nat) (k102 : Nat → Int32 → Int32 → Int32 → Int32 → Int32 → Int32 → Int32 → Mem → Option (Int32 × Mem)) (K102 : ∀ (v0 : Nat) (v1 : Int32) (v2 : Int32) (v3 : Int32) (v4 : Int32) (v5 : Int32) (v6 : Int32) (v7 : Int32) (h : Mem), k102 v0 v1 v2 v3 v4 v5 v6 v7 h = some (r, h') → ∀ (H : Heap) (locs : List Loc) (ls : Array Slot), MS G s h H locs 0 → lv_has ls 8 [(0, .ref (gB G + v0)), (1, .int v1), (2, .int v2), (3, .int v3), (4, .int v4), (5, .int v5), (6, .int v6), (7, .int v7)] → W p l e (rm_X10_tip) s m args below meth c H locs 0 0 (QI G below args s r h' 0 0) (F0 m 102 ls [])) : ∀ (v0 : Nat) (v1 : Int32) (v2 : Int32) (v3 : Int32) (v4 : Int32) (v5 : Int32) (v7 : Int32) (s0 : Int32) (h : Mem), f_X10_tip_144 N v0 v1 v2 v3 v4 v5 v7 s0 h k102 = some (r, h') → ∀ (H : Heap) (locs : List Loc) (ls : Array Slot), MS G s h H locs 0 → lv_has ls 8 [(0, .ref (gB G + v0)), (1, .int v1), (2, .int v2), (3, .int v3), (4, .int v4), (5, .int v5), (7, .int v7)] → W p l e (rm_X10_tip) s m args below meth c H locs 0 0 (QI G below args s r h' 0 0) (F0 m 144 ls [.int s0]) := by
  intro v0 v1 v2 v3 v4 v5 v7 s0 h hf H locs ls M hl
  rw [f_X10_tip_144] at hf
  refine lv_istore (lv' := [(6, .int s0), (0, .ref (gB G + v0)), (1, .int v1), (2, .int v2), (3, .int v3), (4, .int v4), (5, .int v5), (7, .int v7)]) X.1 X.2.1 dX10_tip_144 hl (by decide) rfl (fun ls hl => ?_)
  refine lv_iinc (v := (v7 + 1)) (lv' := [(7, .int (v7 + 1)), (6, .int s0), (0, .ref (gB G + v0)), (1, .int v1), (2, .int v2), (3, .int v3), (4, .int v4), (5, .int v5)]) X.1 X.2.1 dX10_tip_146 hl (k := 7) rfl (by first | rfl | decide) (by decide) rfl (fun ls hl => ?_)
  refine lv_goto (tgt := 102) X.1 X.2.1 dX10_tip_149 (by decide) ?_
  exact K102 v0 v1 v2 v3 v4 v5 s0 (v7 + 1) h hf _ _ _ M (lv_sub hl [2, 3, 4, 5, 6, 7, 1, 0] rfl)
def f_X10_tip_102 (N : Nat) (n : Nat) (v0 : Nat) (v1 : Int32) (v2 : Int32) (v3 : Int32) (v4 : Int32) (v5 : Int32) (v6 : Int32) (v7 : Int32) (h : Mem) (k59 : Nat → Int32 → Int32 → Int32 → Int32 → Mem → Option (Int32 × Mem)) : Option (Int32 × Mem) := match n with
  | 0 => none
  | n + 1 =>
    (gI h v0 10 1).bind fun t1 =>
    if t1 ≤ v7 then
      (ck h v0 10).bind fun _ =>
      (f_X10_putBack N v0 h).bind fun h6 =>
      if v6 = 0 then
        k59 v0 v1 v2 v3 (v4 + 1) h6
      else
        if v5 < 0 then
          k59 v0 v1 v2 v3 (v4 + 1) h6
        else
          some ((((100 : Int32) * v3) + v4), h6)
    else
      if v6 = 0 then
        if v7 = v3 then
          f_X10_tip_143 N v0 v1 v2 v3 v4 v5 v7 h (fun v0 v1 v2 v3 v4 v5 v7 s0 h => f_X10_tip_144 N v0 v1 v2 v3 v4 v5 v7 s0 h (fun v0 v1 v2 v3 v4 v5 v6 v7 h => f_X10_tip_102 N n v0 v1 v2 v3 v4 v5 v6 v7 h k59))
        else
          (gR h v0 10 10).bind fun t11 =>
          (lI 100 h t11 v7).bind fun t13 =>
          (gR h v0 10 49).bind fun t15 =>
          (lI 100 h t15 v7).bind fun t17 =>
          if t13 = t17 then
            f_X10_tip_143 N v0 v1 v2 v3 v4 v5 v7 h (fun v0 v1 v2 v3 v4 v5 v7 s0 h => f_X10_tip_144 N v0 v1 v2 v3 v4 v5 v7 s0 h (fun v0 v1 v2 v3 v4 v5 v6 v7 h => f_X10_tip_102 N n v0 v1 v2 v3 v4 v5 v6 v7 h k59))
          else
            f_X10_tip_139 N v0 v1 v2 v3 v4 v5 v7 h (fun v0 v1 v2 v3 v4 v5 v7 s0 h => f_X10_tip_144 N v0 v1 v2 v3 v4 v5 v7 s0 h (fun v0 v1 v2 v3 v4 v5 v6 v7 h => f_X10_tip_102 N n v0 v1 v2 v3 v4 v5 v6 v7 h k59))
      else
        f_X10_tip_139 N v0 v1 v2 v3 v4 v5 v7 h (fun v0 v1 v2 v3 v4 v5 v7 s0 h => f_X10_tip_144 N v0 v1 v2 v3 v4 v5 v7 s0 h (fun v0 v1 v2 v3 v4 v5 v6 v7 h => f_X10_tip_102 N n v0 v1 v2 v3 v4 v5 v6 v7 h k59))
set_option maxRecDepth 100000 in
set_option maxHeartbeats 4000000 in
theorem w_X10_tip_102 {p : Program} {l : Launch} {e : Env} {s : State} {m : MethodId} {args : Array Value} {below : List Frame} {meth : Method} {c : Code} {G : Gx} {r : Int32} {h' : Mem} (X : CX G p s m args c cX10_tip 8 RX10) (hr : meth.sig.returnType = (Option.some Jvm.ClassFile.FieldType.int)) (hk : meth.locks = false) (N : Nat) (k59 : Nat → Int32 → Int32 → Int32 → Int32 → Mem → Option (Int32 × Mem)) (K59 : ∀ (v0 : Nat) (v1 : Int32) (v2 : Int32) (v3 : Int32) (v4 : Int32) (h : Mem), k59 v0 v1 v2 v3 v4 h = some (r, h') → ∀ (H : Heap) (locs : List Loc) (ls : Array Slot), MS G s h H locs 0 → lv_has ls 8 [(0, .ref (gB G + v0)), (1, .int v1), (2, .int v2), (3, .int v3), (4, .int v4)] → W p l e (rm_X10_tip) s m args below meth c H locs 0 0 (QI G below args s r h' 0 0) (F0 m 59 ls [])) : ∀ (n : Nat) (v0 : Nat) (v1 : Int32) (v2 : Int32) (v3 : Int32) (v4 : Int32) (v5 : Int32) (v6 : Int32) (v7 : Int32) (h : Mem), f_X10_tip_102 N n v0 v1 v2 v3 v4 v5 v6 v7 h k59 = some (r, h') → ∀ (H : Heap) (locs : List Loc) (ls : Array Slot), MS G s h H locs 0 → lv_has ls 8 [(0, .ref (gB G + v0)), (1, .int v1), (2, .int v2), (3, .int v3), (4, .int v4), (5, .int v5), (6, .int v6), (7, .int v7)] → W p l e (rm_X10_tip) s m args below meth c H locs 0 0 (QI G below args s r h' 0 0) (F0 m 102 ls []) := by
  intro n
  induction n with
  | zero =>
    intro v0 v1 v2 v3 v4 v5 v6 v7 h hf
    cases hf
  | succ n ih =>
    intro v0 v1 v2 v3 v4 v5 v6 v7 h hf H locs ls M hl
    rw [f_X10_tip_102] at hf
    refine lv_iload X.1 X.2.1 dX10_tip_102 (lv_at hl 7 rfl) ?_
    refine lv_aload_n X.1 X.2.1 dX10_tip_104 rfl (lv_at hl 0 rfl) ?_
    obtain ⟨t1, q2, hf⟩ := bnd hf
    refine x_geti fl_X10_13 X M q2 dX10_tip_105 ?_
    refine lv_icmp_ge (tgt := 152) X.1 X.2.1 dX10_tip_108 (by decide) (fun c3 => ?_) (fun c3 => ?_)
    · have hf := ifp c3 hf
      refine lv_aload_n X.1 X.2.1 dX10_tip_152 rfl (lv_at hl 0 rfl) ?_
      obtain ⟨⟨⟩, q4, hf⟩ := bnd hf
      obtain ⟨h6, q5, hf⟩ := bnd hf
      refine x_callVv (As := []) cf_X10_360 (c_X10_putBack l G N v0 h _ q5) rfl ⟨rfl, rfl, Nat.le_of_ble_eq_true rfl, Nat.le_of_ble_eq_true rfl⟩ ⟨Nat.le_of_ble_eq_true rfl, Nat.le_of_ble_eq_true rfl⟩ X M (x_recv cls_X10 X M q4) rfl rfl hl.1 (Nat.le_of_ble_eq_true rfl) dX10_tip_153 (fun H locs M => ?_)
      refine lv_iload X.1 X.2.1 dX10_tip_156 (lv_at hl 6 rfl) ?_
      refine lv_if_eq (tgt := 174) X.1 X.2.1 dX10_tip_158 (by decide) (fun c7 => ?_) (fun c7 => ?_)
      · have hf := ifp c7 hf
        refine lv_iinc (v := (v4 + 1)) (lv' := [(4, .int (v4 + 1)), (0, .ref (gB G + v0)), (1, .int v1), (2, .int v2), (3, .int v3), (5, .int v5), (6, .int v6), (7, .int v7)]) X.1 X.2.1 dX10_tip_174 hl (k := 4) rfl (by first | rfl | decide) (by decide) rfl (fun ls hl => ?_)
        refine lv_goto (tgt := 59) X.1 X.2.1 dX10_tip_177 (by decide) ?_
        exact K59 v0 v1 v2 v3 (v4 + 1) h6 hf _ _ _ M (lv_sub hl [1, 2, 3, 4, 0] rfl)
      · have hf := ifn c7 hf
        refine lv_iload X.1 X.2.1 dX10_tip_161 (lv_at hl 5 rfl) ?_
        refine lv_if_lt (tgt := 174) X.1 X.2.1 dX10_tip_163 (by decide) (fun c8 => ?_) (fun c8 => ?_)
        · have hf := ifp c8 hf
          refine lv_iinc (v := (v4 + 1)) (lv' := [(4, .int (v4 + 1)), (0, .ref (gB G + v0)), (1, .int v1), (2, .int v2), (3, .int v3), (5, .int v5), (6, .int v6), (7, .int v7)]) X.1 X.2.1 dX10_tip_174 hl (k := 4) rfl (by first | rfl | decide) (by decide) rfl (fun ls hl => ?_)
          refine lv_goto (tgt := 59) X.1 X.2.1 dX10_tip_177 (by decide) ?_
          exact K59 v0 v1 v2 v3 (v4 + 1) h6 hf _ _ _ M (lv_sub hl [1, 2, 3, 4, 0] rfl)
        · have hf := ifn c8 hf
          refine lv_bipush (v := (100 : Int32)) X.1 X.2.1 dX10_tip_166 (by decide) ?_
          refine lv_iload_n X.1 X.2.1 dX10_tip_168 rfl (lv_at hl 3 rfl) ?_
          refine lv_imul X.1 X.2.1 dX10_tip_169 ?_
          refine lv_iload X.1 X.2.1 dX10_tip_170 (lv_at hl 4 rfl) ?_
          refine lv_iadd X.1 X.2.1 dX10_tip_172 ?_
          obtain ⟨rfl, rfl⟩ := rt2 hf
          exact x_iret X hr hk M dX10_tip_173
    · have hf := ifn c3 hf
      refine lv_iload X.1 X.2.1 dX10_tip_111 (lv_at hl 6 rfl) ?_
      refine lv_if_ne (tgt := 139) X.1 X.2.1 dX10_tip_113 (by decide) (fun c9 => ?_) (fun c9 => ?_)
      · have hf := ifn c9 hf
        exact w_X10_tip_139 X hr hk N _ (fun v0 v1 v2 v3 v4 v5 v7 s0 h hf H locs ls M hl => w_X10_tip_144 X hr hk N _ (fun v0 v1 v2 v3 v4 v5 v6 v7 h hf H locs ls M hl => ih v0 v1 v2 v3 v4 v5 v6 v7 h hf H locs ls M hl) v0 v1 v2 v3 v4 v5 v7 s0 h hf H locs ls M hl) v0 v1 v2 v3 v4 v5 v7 h hf _ _ _ M (lv_sub hl [0, 1, 2, 3, 4, 5, 7] rfl)
      · have hf := ifp c9 hf
        refine lv_iload X.1 X.2.1 dX10_tip_116 (lv_at hl 7 rfl) ?_
        refine lv_iload_n X.1 X.2.1 dX10_tip_118 rfl (lv_at hl 3 rfl) ?_
        refine lv_icmp_eq (tgt := 143) X.1 X.2.1 dX10_tip_119 (by decide) (fun c10 => ?_) (fun c10 => ?_)
        · have hf := ifp c10 hf
          exact w_X10_tip_143 X hr hk N _ (fun v0 v1 v2 v3 v4 v5 v7 s0 h hf H locs ls M hl => w_X10_tip_144 X hr hk N _ (fun v0 v1 v2 v3 v4 v5 v6 v7 h hf H locs ls M hl => ih v0 v1 v2 v3 v4 v5 v6 v7 h hf H locs ls M hl) v0 v1 v2 v3 v4 v5 v7 s0 h hf H locs ls M hl) v0 v1 v2 v3 v4 v5 v7 h hf _ _ _ M (lv_sub hl [0, 1, 2, 3, 4, 5, 7] rfl)
        · have hf := ifn c10 hf
          refine lv_aload_n X.1 X.2.1 dX10_tip_122 rfl (lv_at hl 0 rfl) ?_
          obtain ⟨t11, q12, hf⟩ := bnd hf
          refine x_getr fl_X10_41 X M q12 dX10_tip_123 ?_
          refine lv_iload X.1 X.2.1 dX10_tip_126 (lv_at hl 7 rfl) ?_
          obtain ⟨t13, q14, hf⟩ := bnd hf
          refine x_iald X M q14 dX10_tip_128 ?_
          refine lv_aload_n X.1 X.2.1 dX10_tip_129 rfl (lv_at hl 0 rfl) ?_
          obtain ⟨t15, q16, hf⟩ := bnd hf
          refine x_getr fl_X10_161 X M q16 dX10_tip_130 ?_
          refine lv_iload X.1 X.2.1 dX10_tip_133 (lv_at hl 7 rfl) ?_
          obtain ⟨t17, q18, hf⟩ := bnd hf
          refine x_iald X M q18 dX10_tip_135 ?_
          refine lv_icmp_eq (tgt := 143) X.1 X.2.1 dX10_tip_136 (by decide) (fun c19 => ?_) (fun c19 => ?_)
          · have hf := ifp c19 hf
            exact w_X10_tip_143 X hr hk N _ (fun v0 v1 v2 v3 v4 v5 v7 s0 h hf H locs ls M hl => w_X10_tip_144 X hr hk N _ (fun v0 v1 v2 v3 v4 v5 v6 v7 h hf H locs ls M hl => ih v0 v1 v2 v3 v4 v5 v6 v7 h hf H locs ls M hl) v0 v1 v2 v3 v4 v5 v7 s0 h hf H locs ls M hl) v0 v1 v2 v3 v4 v5 v7 h hf _ _ _ M (lv_sub hl [0, 1, 2, 3, 4, 5, 7] rfl)
          · have hf := ifn c19 hf
            exact w_X10_tip_139 X hr hk N _ (fun v0 v1 v2 v3 v4 v5 v7 s0 h hf H locs ls M hl => w_X10_tip_144 X hr hk N _ (fun v0 v1 v2 v3 v4 v5 v6 v7 h hf H locs ls M hl => ih v0 v1 v2 v3 v4 v5 v6 v7 h hf H locs ls M hl) v0 v1 v2 v3 v4 v5 v7 s0 h hf H locs ls M hl) v0 v1 v2 v3 v4 v5 v7 h hf _ _ _ M (lv_sub hl [0, 1, 2, 3, 4, 5, 7] rfl)
def f_X10_tip_59 (N : Nat) (n : Nat) (v0 : Nat) (v1 : Int32) (v2 : Int32) (v3 : Int32) (v4 : Int32) (h : Mem) (k44 : Nat → Int32 → Int32 → Int32 → Mem → Option (Int32 × Mem)) : Option (Int32 × Mem) := match n with
  | 0 => none
  | n + 1 =>
    (gI h v0 10 0).bind fun t1 =>
    if t1 ≤ v4 then
      k44 v0 v1 v2 (v3 + 1) h
    else
      (ck h v0 10).bind fun _ =>
      b2 (f_X10_canGo N v0 v3 v4 h) fun t7 h6 =>
      if t7 = 0 then
        f_X10_tip_59 N n v0 v1 v2 v3 (v4 + 1) h6 k44
      else
        (gR h6 v0 10 10).bind fun t9 =>
        (stI 100 h6 t9 v3 v4).bind fun h11 =>
        (ck h11 v0 10).bind fun _ =>
        b2 (f_X10_endAll N v0 v1 h11) fun t16 h15 =>
        f_X10_tip_102 N N v0 v1 v2 v3 v4 t16 (0 : Int32) (0 : Int32) h15 (fun v0 v1 v2 v3 v4 h => f_X10_tip_59 N n v0 v1 v2 v3 v4 h k44)
set_option maxRecDepth 100000 in
set_option maxHeartbeats 4000000 in
theorem w_X10_tip_59 {p : Program} {l : Launch} {e : Env} {s : State} {m : MethodId} {args : Array Value} {below : List Frame} {meth : Method} {c : Code} {G : Gx} {r : Int32} {h' : Mem} (X : CX G p s m args c cX10_tip 8 RX10) (hr : meth.sig.returnType = (Option.some Jvm.ClassFile.FieldType.int)) (hk : meth.locks = false) (N : Nat) (k44 : Nat → Int32 → Int32 → Int32 → Mem → Option (Int32 × Mem)) (K44 : ∀ (v0 : Nat) (v1 : Int32) (v2 : Int32) (v3 : Int32) (h : Mem), k44 v0 v1 v2 v3 h = some (r, h') → ∀ (H : Heap) (locs : List Loc) (ls : Array Slot), MS G s h H locs 0 → lv_has ls 8 [(0, .ref (gB G + v0)), (1, .int v1), (2, .int v2), (3, .int v3)] → W p l e (rm_X10_tip) s m args below meth c H locs 0 0 (QI G below args s r h' 0 0) (F0 m 44 ls [])) : ∀ (n : Nat) (v0 : Nat) (v1 : Int32) (v2 : Int32) (v3 : Int32) (v4 : Int32) (h : Mem), f_X10_tip_59 N n v0 v1 v2 v3 v4 h k44 = some (r, h') → ∀ (H : Heap) (locs : List Loc) (ls : Array Slot), MS G s h H locs 0 → lv_has ls 8 [(0, .ref (gB G + v0)), (1, .int v1), (2, .int v2), (3, .int v3), (4, .int v4)] → W p l e (rm_X10_tip) s m args below meth c H locs 0 0 (QI G below args s r h' 0 0) (F0 m 59 ls []) := by
  intro n
  induction n with
  | zero =>
    intro v0 v1 v2 v3 v4 h hf
    cases hf
  | succ n ih =>
    intro v0 v1 v2 v3 v4 h hf H locs ls M hl
    rw [f_X10_tip_59] at hf
    refine lv_iload X.1 X.2.1 dX10_tip_59 (lv_at hl 4 rfl) ?_
    refine lv_aload_n X.1 X.2.1 dX10_tip_61 rfl (lv_at hl 0 rfl) ?_
    obtain ⟨t1, q2, hf⟩ := bnd hf
    refine x_geti fl_X10_7 X M q2 dX10_tip_62 ?_
    refine lv_icmp_ge (tgt := 180) X.1 X.2.1 dX10_tip_65 (by decide) (fun c3 => ?_) (fun c3 => ?_)
    · have hf := ifp c3 hf
      refine lv_iinc (v := (v3 + 1)) (lv' := [(3, .int (v3 + 1)), (0, .ref (gB G + v0)), (1, .int v1), (2, .int v2), (4, .int v4)]) X.1 X.2.1 dX10_tip_180 hl (k := 3) rfl (by first | rfl | decide) (by decide) rfl (fun ls hl => ?_)
      refine lv_goto (tgt := 44) X.1 X.2.1 dX10_tip_183 (by decide) ?_
      exact K44 v0 v1 v2 (v3 + 1) h hf _ _ _ M (lv_sub hl [1, 2, 3, 0] rfl)
    · have hf := ifn c3 hf
      refine lv_aload_n X.1 X.2.1 dX10_tip_68 rfl (lv_at hl 0 rfl) ?_
      refine lv_iload_n X.1 X.2.1 dX10_tip_69 rfl (lv_at hl 3 rfl) ?_
      refine lv_iload X.1 X.2.1 dX10_tip_70 (lv_at hl 4 rfl) ?_
      obtain ⟨⟨⟩, q4, hf⟩ := bnd hf
      obtain ⟨t7, h6, q5, hf⟩ := bnd2 hf
      refine x_callVi (As := [.int v3, .int v4]) cf_X10_308 (c_X10_canGo l G N v0 v3 v4 h _ _ q5) rfl ⟨rfl, rfl, Nat.le_of_ble_eq_true rfl, Nat.le_of_ble_eq_true rfl⟩ ⟨Nat.le_of_ble_eq_true rfl, Nat.le_of_ble_eq_true rfl⟩ X M (x_recv cls_X10 X M q4) rfl rfl hl.1 (Nat.le_of_ble_eq_true rfl) dX10_tip_72 (fun H locs M => ?_)
      refine lv_if_ne (tgt := 81) X.1 X.2.1 dX10_tip_75 (by decide) (fun c8 => ?_) (fun c8 => ?_)
      · have hf := ifn c8 hf
        refine lv_aload_n X.1 X.2.1 dX10_tip_81 rfl (lv_at hl 0 rfl) ?_
        obtain ⟨t9, q10, hf⟩ := bnd hf
        refine x_getr fl_X10_41 X M q10 dX10_tip_82 ?_
        refine lv_iload_n X.1 X.2.1 dX10_tip_85 rfl (lv_at hl 3 rfl) ?_
        refine lv_iload X.1 X.2.1 dX10_tip_86 (lv_at hl 4 rfl) ?_
        obtain ⟨h11, q12, hf⟩ := bnd hf
        refine x_iast X M q12 dX10_tip_88 (fun H locs M => ?_)
        refine lv_aload_n X.1 X.2.1 dX10_tip_89 rfl (lv_at hl 0 rfl) ?_
        refine lv_iload_n X.1 X.2.1 dX10_tip_90 rfl (lv_at hl 1 rfl) ?_
        obtain ⟨⟨⟩, q13, hf⟩ := bnd hf
        obtain ⟨t16, h15, q14, hf⟩ := bnd2 hf
        refine x_callVi (As := [.int v1]) cf_X10_348 (c_X10_endAll l G N v0 v1 h11 _ _ q14) rfl ⟨rfl, rfl, Nat.le_of_ble_eq_true rfl, Nat.le_of_ble_eq_true rfl⟩ ⟨Nat.le_of_ble_eq_true rfl, Nat.le_of_ble_eq_true rfl⟩ X M (x_recv cls_X10 X M q13) rfl rfl hl.1 (Nat.le_of_ble_eq_true rfl) dX10_tip_91 (fun H locs M => ?_)
        refine lv_istore (lv' := [(5, .int t16), (0, .ref (gB G + v0)), (1, .int v1), (2, .int v2), (3, .int v3), (4, .int v4)]) X.1 X.2.1 dX10_tip_94 hl (by decide) rfl (fun ls hl => ?_)
        refine lv_iconst (v := (0 : Int32)) X.1 X.2.1 dX10_tip_96 (by decide) ?_
        refine lv_istore (lv' := [(6, .int (0 : Int32)), (5, .int t16), (0, .ref (gB G + v0)), (1, .int v1), (2, .int v2), (3, .int v3), (4, .int v4)]) X.1 X.2.1 dX10_tip_97 hl (by decide) rfl (fun ls hl => ?_)
        refine lv_iconst (v := (0 : Int32)) X.1 X.2.1 dX10_tip_99 (by decide) ?_
        refine lv_istore (lv' := [(7, .int (0 : Int32)), (6, .int (0 : Int32)), (5, .int t16), (0, .ref (gB G + v0)), (1, .int v1), (2, .int v2), (3, .int v3), (4, .int v4)]) X.1 X.2.1 dX10_tip_100 hl (by decide) rfl (fun ls hl => ?_)
        exact w_X10_tip_102 X hr hk N _ (fun v0 v1 v2 v3 v4 h hf H locs ls M hl => ih v0 v1 v2 v3 v4 h hf H locs ls M hl) N v0 v1 v2 v3 v4 t16 (0 : Int32) (0 : Int32) h15 hf _ _ _ M (lv_sub hl [3, 4, 5, 6, 7, 2, 1, 0] rfl)
      · have hf := ifp c8 hf
        refine lv_goto (tgt := 174) X.1 X.2.1 dX10_tip_78 (by decide) ?_
        refine lv_iinc (v := (v4 + 1)) (lv' := [(4, .int (v4 + 1)), (0, .ref (gB G + v0)), (1, .int v1), (2, .int v2), (3, .int v3)]) X.1 X.2.1 dX10_tip_174 hl (k := 4) rfl (by first | rfl | decide) (by decide) rfl (fun ls hl => ?_)
        refine lv_goto (tgt := 59) X.1 X.2.1 dX10_tip_177 (by decide) ?_
        exact ih v0 v1 v2 v3 (v4 + 1) h6 hf _ _ _ M (lv_sub hl [1, 2, 3, 4, 0] rfl)
def f_X10_tip_44 (N : Nat) (n : Nat) (v0 : Nat) (v1 : Int32) (v2 : Int32) (v3 : Int32) (h : Mem) : Option (Int32 × Mem) := match n with
  | 0 => none
  | n + 1 =>
    (gI h v0 10 1).bind fun t1 =>
    if t1 ≤ v3 then
      some ((-5 : Int32), h)
    else
      if v2 < 0 then
        some ((-5 : Int32), h)
      else
        f_X10_tip_59 N N v0 v1 v2 v3 (0 : Int32) h (fun v0 v1 v2 v3 h => f_X10_tip_44 N n v0 v1 v2 v3 h)
set_option maxRecDepth 100000 in
set_option maxHeartbeats 4000000 in
theorem w_X10_tip_44 {p : Program} {l : Launch} {e : Env} {s : State} {m : MethodId} {args : Array Value} {below : List Frame} {meth : Method} {c : Code} {G : Gx} {r : Int32} {h' : Mem} (X : CX G p s m args c cX10_tip 8 RX10) (hr : meth.sig.returnType = (Option.some Jvm.ClassFile.FieldType.int)) (hk : meth.locks = false) (N : Nat) : ∀ (n : Nat) (v0 : Nat) (v1 : Int32) (v2 : Int32) (v3 : Int32) (h : Mem), f_X10_tip_44 N n v0 v1 v2 v3 h = some (r, h') → ∀ (H : Heap) (locs : List Loc) (ls : Array Slot), MS G s h H locs 0 → lv_has ls 8 [(0, .ref (gB G + v0)), (1, .int v1), (2, .int v2), (3, .int v3)] → W p l e (rm_X10_tip) s m args below meth c H locs 0 0 (QI G below args s r h' 0 0) (F0 m 44 ls []) := by
  intro n
  induction n with
  | zero =>
    intro v0 v1 v2 v3 h hf
    cases hf
  | succ n ih =>
    intro v0 v1 v2 v3 h hf H locs ls M hl
    rw [f_X10_tip_44] at hf
    refine lv_iload_n X.1 X.2.1 dX10_tip_44 rfl (lv_at hl 3 rfl) ?_
    refine lv_aload_n X.1 X.2.1 dX10_tip_45 rfl (lv_at hl 0 rfl) ?_
    obtain ⟨t1, q2, hf⟩ := bnd hf
    refine x_geti fl_X10_13 X M q2 dX10_tip_46 ?_
    refine lv_icmp_ge (tgt := 186) X.1 X.2.1 dX10_tip_49 (by decide) (fun c3 => ?_) (fun c3 => ?_)
    · have hf := ifp c3 hf
      refine lv_bipush (v := (-5 : Int32)) X.1 X.2.1 dX10_tip_186 (by decide) ?_
      obtain ⟨rfl, rfl⟩ := rt2 hf
      exact x_iret X hr hk M dX10_tip_188
    · have hf := ifn c3 hf
      refine lv_iload_n X.1 X.2.1 dX10_tip_52 rfl (lv_at hl 2 rfl) ?_
      refine lv_if_lt (tgt := 186) X.1 X.2.1 dX10_tip_53 (by decide) (fun c4 => ?_) (fun c4 => ?_)
      · have hf := ifp c4 hf
        refine lv_bipush (v := (-5 : Int32)) X.1 X.2.1 dX10_tip_186 (by decide) ?_
        obtain ⟨rfl, rfl⟩ := rt2 hf
        exact x_iret X hr hk M dX10_tip_188
      · have hf := ifn c4 hf
        refine lv_iconst (v := (0 : Int32)) X.1 X.2.1 dX10_tip_56 (by decide) ?_
        refine lv_istore (lv' := [(4, .int (0 : Int32)), (0, .ref (gB G + v0)), (1, .int v1), (2, .int v2), (3, .int v3)]) X.1 X.2.1 dX10_tip_57 hl (by decide) rfl (fun ls hl => ?_)
        exact w_X10_tip_59 X hr hk N _ (fun v0 v1 v2 v3 h hf H locs ls M hl => ih v0 v1 v2 v3 h hf H locs ls M hl) N v0 v1 v2 v3 (0 : Int32) h hf _ _ _ M (lv_sub hl [1, 2, 3, 4, 0] rfl)
def f_X10_tip_12 (N : Nat) (n : Nat) (v0 : Nat) (v1 : Int32) (v2 : Int32) (v3 : Int32) (h : Mem) : Option (Int32 × Mem) := match n with
  | 0 => none
  | n + 1 =>
    (gI h v0 10 1).bind fun t1 =>
    if t1 ≤ v3 then
      (ck h v0 10).bind fun _ =>
      (f_X10_putBack N v0 h).bind fun h6 =>
      f_X10_tip_44 N N v0 v1 v2 (0 : Int32) h6
    else
      (gR h v0 10 49).bind fun t7 =>
      (gR h v0 10 10).bind fun t9 =>
      (lI 100 h t9 v3).bind fun t11 =>
      (stI 100 h t7 v3 t11).bind fun h13 =>
      f_X10_tip_12 N n v0 v1 v2 (v3 + 1) h13
set_option maxRecDepth 100000 in
set_option maxHeartbeats 4000000 in
theorem w_X10_tip_12 {p : Program} {l : Launch} {e : Env} {s : State} {m : MethodId} {args : Array Value} {below : List Frame} {meth : Method} {c : Code} {G : Gx} {r : Int32} {h' : Mem} (X : CX G p s m args c cX10_tip 8 RX10) (hr : meth.sig.returnType = (Option.some Jvm.ClassFile.FieldType.int)) (hk : meth.locks = false) (N : Nat) : ∀ (n : Nat) (v0 : Nat) (v1 : Int32) (v2 : Int32) (v3 : Int32) (h : Mem), f_X10_tip_12 N n v0 v1 v2 v3 h = some (r, h') → ∀ (H : Heap) (locs : List Loc) (ls : Array Slot), MS G s h H locs 0 → lv_has ls 8 [(0, .ref (gB G + v0)), (1, .int v1), (2, .int v2), (3, .int v3)] → W p l e (rm_X10_tip) s m args below meth c H locs 0 0 (QI G below args s r h' 0 0) (F0 m 12 ls []) := by
  intro n
  induction n with
  | zero =>
    intro v0 v1 v2 v3 h hf
    cases hf
  | succ n ih =>
    intro v0 v1 v2 v3 h hf H locs ls M hl
    rw [f_X10_tip_12] at hf
    refine lv_iload_n X.1 X.2.1 dX10_tip_12 rfl (lv_at hl 3 rfl) ?_
    refine lv_aload_n X.1 X.2.1 dX10_tip_13 rfl (lv_at hl 0 rfl) ?_
    obtain ⟨t1, q2, hf⟩ := bnd hf
    refine x_geti fl_X10_13 X M q2 dX10_tip_14 ?_
    refine lv_icmp_ge (tgt := 38) X.1 X.2.1 dX10_tip_17 (by decide) (fun c3 => ?_) (fun c3 => ?_)
    · have hf := ifp c3 hf
      refine lv_aload_n X.1 X.2.1 dX10_tip_38 rfl (lv_at hl 0 rfl) ?_
      obtain ⟨⟨⟩, q4, hf⟩ := bnd hf
      obtain ⟨h6, q5, hf⟩ := bnd hf
      refine x_callVv (As := []) cf_X10_360 (c_X10_putBack l G N v0 h _ q5) rfl ⟨rfl, rfl, Nat.le_of_ble_eq_true rfl, Nat.le_of_ble_eq_true rfl⟩ ⟨Nat.le_of_ble_eq_true rfl, Nat.le_of_ble_eq_true rfl⟩ X M (x_recv cls_X10 X M q4) rfl rfl hl.1 (Nat.le_of_ble_eq_true rfl) dX10_tip_39 (fun H locs M => ?_)
      refine lv_iconst (v := (0 : Int32)) X.1 X.2.1 dX10_tip_42 (by decide) ?_
      refine lv_istore_n (lv' := [(3, .int (0 : Int32)), (0, .ref (gB G + v0)), (1, .int v1), (2, .int v2)]) X.1 X.2.1 dX10_tip_43 rfl hl (by decide) rfl (fun ls hl => ?_)
      exact w_X10_tip_44 X hr hk N N v0 v1 v2 (0 : Int32) h6 hf _ _ _ M (lv_sub hl [1, 2, 3, 0] rfl)
    · have hf := ifn c3 hf
      refine lv_aload_n X.1 X.2.1 dX10_tip_20 rfl (lv_at hl 0 rfl) ?_
      obtain ⟨t7, q8, hf⟩ := bnd hf
      refine x_getr fl_X10_161 X M q8 dX10_tip_21 ?_
      refine lv_iload_n X.1 X.2.1 dX10_tip_24 rfl (lv_at hl 3 rfl) ?_
      refine lv_aload_n X.1 X.2.1 dX10_tip_25 rfl (lv_at hl 0 rfl) ?_
      obtain ⟨t9, q10, hf⟩ := bnd hf
      refine x_getr fl_X10_41 X M q10 dX10_tip_26 ?_
      refine lv_iload_n X.1 X.2.1 dX10_tip_29 rfl (lv_at hl 3 rfl) ?_
      obtain ⟨t11, q12, hf⟩ := bnd hf
      refine x_iald X M q12 dX10_tip_30 ?_
      obtain ⟨h13, q14, hf⟩ := bnd hf
      refine x_iast X M q14 dX10_tip_31 (fun H locs M => ?_)
      refine lv_iinc (v := (v3 + 1)) (lv' := [(3, .int (v3 + 1)), (0, .ref (gB G + v0)), (1, .int v1), (2, .int v2)]) X.1 X.2.1 dX10_tip_32 hl (k := 3) rfl (by first | rfl | decide) (by decide) rfl (fun ls hl => ?_)
      refine lv_goto (tgt := 12) X.1 X.2.1 dX10_tip_35 (by decide) ?_
      exact ih v0 v1 v2 (v3 + 1) h13 hf _ _ _ M (lv_sub hl [1, 2, 3, 0] rfl)
def f_X10_tip (N : Nat) (v0 : Nat) (v1 : Int32) (h : Mem) : Option (Int32 × Mem) :=
  (ck h v0 10).bind fun _ =>
  (f_X10_keep N v0 h).bind fun h3 =>
  (ck h3 v0 10).bind fun _ =>
  b2 (f_X10_endAll N v0 v1 h3) fun t7 h6 =>
  f_X10_tip_12 N N v0 v1 t7 (0 : Int32) h6
set_option maxRecDepth 100000 in
set_option maxHeartbeats 4000000 in
theorem w_X10_tip {p : Program} {l : Launch} {e : Env} {s : State} {m : MethodId} {args : Array Value} {below : List Frame} {meth : Method} {c : Code} {G : Gx} {r : Int32} {h' : Mem} (X : CX G p s m args c cX10_tip 8 RX10) (hr : meth.sig.returnType = (Option.some Jvm.ClassFile.FieldType.int)) (hk : meth.locks = false) (N : Nat) : ∀ (v0 : Nat) (v1 : Int32) (h : Mem), f_X10_tip N v0 v1 h = some (r, h') → ∀ (H : Heap) (locs : List Loc) (ls : Array Slot), MS G s h H locs 0 → lv_has ls 8 [(0, .ref (gB G + v0)), (1, .int v1)] → W p l e (rm_X10_tip) s m args below meth c H locs 0 0 (QI G below args s r h' 0 0) (F0 m 0 ls []) := by
  intro v0 v1 h hf H locs ls M hl
  rw [f_X10_tip] at hf
  refine lv_aload_n X.1 X.2.1 dX10_tip_0 rfl (lv_at hl 0 rfl) ?_
  obtain ⟨⟨⟩, q1, hf⟩ := bnd hf
  obtain ⟨h3, q2, hf⟩ := bnd hf
  refine x_callVv (As := []) cf_X10_354 (c_X10_keep l G N v0 h _ q2) rfl ⟨rfl, rfl, Nat.le_of_ble_eq_true rfl, Nat.le_of_ble_eq_true rfl⟩ ⟨Nat.le_of_ble_eq_true rfl, Nat.le_of_ble_eq_true rfl⟩ X M (x_recv cls_X10 X M q1) rfl rfl hl.1 (Nat.le_of_ble_eq_true rfl) dX10_tip_1 (fun H locs M => ?_)
  refine lv_aload_n X.1 X.2.1 dX10_tip_4 rfl (lv_at hl 0 rfl) ?_
  refine lv_iload_n X.1 X.2.1 dX10_tip_5 rfl (lv_at hl 1 rfl) ?_
  obtain ⟨⟨⟩, q4, hf⟩ := bnd hf
  obtain ⟨t7, h6, q5, hf⟩ := bnd2 hf
  refine x_callVi (As := [.int v1]) cf_X10_348 (c_X10_endAll l G N v0 v1 h3 _ _ q5) rfl ⟨rfl, rfl, Nat.le_of_ble_eq_true rfl, Nat.le_of_ble_eq_true rfl⟩ ⟨Nat.le_of_ble_eq_true rfl, Nat.le_of_ble_eq_true rfl⟩ X M (x_recv cls_X10 X M q4) rfl rfl hl.1 (Nat.le_of_ble_eq_true rfl) dX10_tip_6 (fun H locs M => ?_)
  refine lv_istore_n (lv' := [(2, .int t7), (0, .ref (gB G + v0)), (1, .int v1)]) X.1 X.2.1 dX10_tip_9 rfl hl (by decide) rfl (fun ls hl => ?_)
  refine lv_iconst (v := (0 : Int32)) X.1 X.2.1 dX10_tip_10 (by decide) ?_
  refine lv_istore_n (lv' := [(3, .int (0 : Int32)), (2, .int t7), (0, .ref (gB G + v0)), (1, .int v1)]) X.1 X.2.1 dX10_tip_11 rfl hl (by decide) rfl (fun ls hl => ?_)
  exact w_X10_tip_12 X hr hk N N v0 v1 t7 (0 : Int32) h6 hf _ _ _ M (lv_sub hl [2, 3, 1, 0] rfl)
theorem c_X10_tip (l : Launch) (G : Gx) (N : Nat) (v0 : Nat) (v1 : Int32) (h : Mem) (r : Int32) (h' : Mem) (hf : f_X10_tip N v0 v1 h = some (r, h')) : MetG l G yX10_tip (.code yX10_tip cX10_tip 8 (Option.some Jvm.ClassFile.FieldType.int)) rm_X10_tip [.ref (gB G + v0), .int v1] h (QcI G r h') 0 0 :=
  x_met (by decide) rfl (Nat.le_of_ble_eq_true rfl) (fun p e s m args below meth c ls X M hr hk hin hl => w_X10_tip X hr hk N v0 v1 h hf _ _ ls M hl)
abbrev rm_X10_law : Room := { frames := 3, cells := 0, slots := 0, locals := 84 }
def f_X10_law_35 (N : Nat) (v0 : Nat) (v1 : Int32) (v2 : Int32) (v3 : Int32) (v4 : Int32) (s0 : Nat) (s1 : Int32) (s2 : Int32) (s3 : Int32) (h : Mem) : Option (Int32 × Mem) :=
  (ck h s0 10).bind fun _ =>
  b2 (f_X10_in N s0 s1 s2 s3 h) fun t4 h3 =>
  if t4 = 0 then
    some ((-2 : Int32), h3)
  else
    (ck h3 v0 10).bind fun _ =>
    b2 (f_X10_in N v0 v4 (0 : Int32) (99 : Int32) h3) fun t9 h8 =>
    if t9 = 0 then
      some ((-2 : Int32), h8)
    else
      (gI h8 v0 10 50).bind fun t11 =>
      if t11 = (4 : Int32) then
        some ((-4 : Int32), h8)
      else
        (gR h8 v0 10 51).bind fun t14 =>
        (gI h8 v0 10 50).bind fun t16 =>
        (stI 100 h8 t14 t16 v1).bind fun h18 =>
        (gR h18 v0 10 52).bind fun t20 =>
        (gI h18 v0 10 50).bind fun t22 =>
        (stI 100 h18 t20 t22 v2).bind fun h24 =>
        (gR h24 v0 10 53).bind fun t26 =>
        (gI h24 v0 10 50).bind fun t28 =>
        (stI 100 h24 t26 t28 v3).bind fun h30 =>
        (gR h30 v0 10 54).bind fun t32 =>
        (gI h30 v0 10 50).bind fun t34 =>
        (stI 100 h30 t32 t34 v4).bind fun h36 =>
        (gI h36 v0 10 50).bind fun t38 =>
        (sI h36 v0 10 50 (t38 + (1 : Int32))).bind fun h40 =>
        (gI h40 v0 10 50).bind fun t42 =>
        some ((t42 - (1 : Int32)), h40)
set_option maxRecDepth 100000 in
set_option maxHeartbeats 4000000 in
theorem w_X10_law_35 {p : Program} {l : Launch} {e : Env} {s : State} {m : MethodId} {args : Array Value} {below : List Frame} {meth : Method} {c : Code} {G : Gx} {r : Int32} {h' : Mem} (X : CX G p s m args c cX10_law 5 RX10) (hr : meth.sig.returnType = (Option.some Jvm.ClassFile.FieldType.int)) (hk : meth.locks = false) (N : Nat) : ∀ (v0 : Nat) (v1 : Int32) (v2 : Int32) (v3 : Int32) (v4 : Int32) (s0 : Nat) (s1 : Int32) (s2 : Int32) (s3 : Int32) (h : Mem), f_X10_law_35 N v0 v1 v2 v3 v4 s0 s1 s2 s3 h = some (r, h') → ∀ (H : Heap) (locs : List Loc) (ls : Array Slot), MS G s h H locs 0 → lv_has ls 5 [(0, .ref (gB G + v0)), (1, .int v1), (2, .int v2), (3, .int v3), (4, .int v4)] → W p l e (rm_X10_law) s m args below meth c H locs 0 0 (QI G below args s r h' 0 0) (F0 m 35 ls [.int s3, .int s2, .int s1, .ref (gB G + s0)]) := by
  intro v0 v1 v2 v3 v4 s0 s1 s2 s3 h hf H locs ls M hl
  rw [f_X10_law_35] at hf
  obtain ⟨⟨⟩, q1, hf⟩ := bnd hf
  obtain ⟨t4, h3, q2, hf⟩ := bnd2 hf
  refine x_callVi (As := [.int s1, .int s2, .int s3]) cf_X10_197 (c_X10_in l G N s0 s1 s2 s3 h _ _ q2) rfl ⟨rfl, rfl, Nat.le_of_ble_eq_true rfl, Nat.le_of_ble_eq_true rfl⟩ ⟨Nat.le_of_ble_eq_true rfl, Nat.le_of_ble_eq_true rfl⟩ X M (x_recv cls_X10 X M q1) rfl rfl hl.1 (Nat.le_of_ble_eq_true rfl) dX10_law_35 (fun H locs M => ?_)
  refine lv_if_eq (tgt := 53) X.1 X.2.1 dX10_law_38 (by decide) (fun c5 => ?_) (fun c5 => ?_)
  · have hf := ifp c5 hf
    refine lv_bipush (v := (-2 : Int32)) X.1 X.2.1 dX10_law_53 (by decide) ?_
    obtain ⟨rfl, rfl⟩ := rt2 hf
    exact x_iret X hr hk M dX10_law_55
  · have hf := ifn c5 hf
    refine lv_aload_n X.1 X.2.1 dX10_law_41 rfl (lv_at hl 0 rfl) ?_
    refine lv_iload X.1 X.2.1 dX10_law_42 (lv_at hl 4 rfl) ?_
    refine lv_iconst (v := (0 : Int32)) X.1 X.2.1 dX10_law_44 (by decide) ?_
    refine lv_bipush (v := (99 : Int32)) X.1 X.2.1 dX10_law_45 (by decide) ?_
    obtain ⟨⟨⟩, q6, hf⟩ := bnd hf
    obtain ⟨t9, h8, q7, hf⟩ := bnd2 hf
    refine x_callVi (As := [.int v4, .int (0 : Int32), .int (99 : Int32)]) cf_X10_197 (c_X10_in l G N v0 v4 (0 : Int32) (99 : Int32) h3 _ _ q7) rfl ⟨rfl, rfl, Nat.le_of_ble_eq_true rfl, Nat.le_of_ble_eq_true rfl⟩ ⟨Nat.le_of_ble_eq_true rfl, Nat.le_of_ble_eq_true rfl⟩ X M (x_recv cls_X10 X M q6) rfl rfl hl.1 (Nat.le_of_ble_eq_true rfl) dX10_law_47 (fun H locs M => ?_)
    refine lv_if_ne (tgt := 56) X.1 X.2.1 dX10_law_50 (by decide) (fun c10 => ?_) (fun c10 => ?_)
    · have hf := ifn c10 hf
      refine lv_aload_n X.1 X.2.1 dX10_law_56 rfl (lv_at hl 0 rfl) ?_
      obtain ⟨t11, q12, hf⟩ := bnd hf
      refine x_geti fl_X10_164 X M q12 dX10_law_57 ?_
      refine lv_iconst (v := (4 : Int32)) X.1 X.2.1 dX10_law_60 (by decide) ?_
      refine lv_icmp_ne (tgt := 67) X.1 X.2.1 dX10_law_61 (by decide) (fun c13 => ?_) (fun c13 => ?_)
      · have hf := ifn c13 hf
        refine lv_aload_n X.1 X.2.1 dX10_law_67 rfl (lv_at hl 0 rfl) ?_
        obtain ⟨t14, q15, hf⟩ := bnd hf
        refine x_getr fl_X10_167 X M q15 dX10_law_68 ?_
        refine lv_aload_n X.1 X.2.1 dX10_law_71 rfl (lv_at hl 0 rfl) ?_
        obtain ⟨t16, q17, hf⟩ := bnd hf
        refine x_geti fl_X10_164 X M q17 dX10_law_72 ?_
        refine lv_iload_n X.1 X.2.1 dX10_law_75 rfl (lv_at hl 1 rfl) ?_
        obtain ⟨h18, q19, hf⟩ := bnd hf
        refine x_iast X M q19 dX10_law_76 (fun H locs M => ?_)
        refine lv_aload_n X.1 X.2.1 dX10_law_77 rfl (lv_at hl 0 rfl) ?_
        obtain ⟨t20, q21, hf⟩ := bnd hf
        refine x_getr fl_X10_170 X M q21 dX10_law_78 ?_
        refine lv_aload_n X.1 X.2.1 dX10_law_81 rfl (lv_at hl 0 rfl) ?_
        obtain ⟨t22, q23, hf⟩ := bnd hf
        refine x_geti fl_X10_164 X M q23 dX10_law_82 ?_
        refine lv_iload_n X.1 X.2.1 dX10_law_85 rfl (lv_at hl 2 rfl) ?_
        obtain ⟨h24, q25, hf⟩ := bnd hf
        refine x_iast X M q25 dX10_law_86 (fun H locs M => ?_)
        refine lv_aload_n X.1 X.2.1 dX10_law_87 rfl (lv_at hl 0 rfl) ?_
        obtain ⟨t26, q27, hf⟩ := bnd hf
        refine x_getr fl_X10_173 X M q27 dX10_law_88 ?_
        refine lv_aload_n X.1 X.2.1 dX10_law_91 rfl (lv_at hl 0 rfl) ?_
        obtain ⟨t28, q29, hf⟩ := bnd hf
        refine x_geti fl_X10_164 X M q29 dX10_law_92 ?_
        refine lv_iload_n X.1 X.2.1 dX10_law_95 rfl (lv_at hl 3 rfl) ?_
        obtain ⟨h30, q31, hf⟩ := bnd hf
        refine x_iast X M q31 dX10_law_96 (fun H locs M => ?_)
        refine lv_aload_n X.1 X.2.1 dX10_law_97 rfl (lv_at hl 0 rfl) ?_
        obtain ⟨t32, q33, hf⟩ := bnd hf
        refine x_getr fl_X10_176 X M q33 dX10_law_98 ?_
        refine lv_aload_n X.1 X.2.1 dX10_law_101 rfl (lv_at hl 0 rfl) ?_
        obtain ⟨t34, q35, hf⟩ := bnd hf
        refine x_geti fl_X10_164 X M q35 dX10_law_102 ?_
        refine lv_iload X.1 X.2.1 dX10_law_105 (lv_at hl 4 rfl) ?_
        obtain ⟨h36, q37, hf⟩ := bnd hf
        refine x_iast X M q37 dX10_law_107 (fun H locs M => ?_)
        refine lv_aload_n X.1 X.2.1 dX10_law_108 rfl (lv_at hl 0 rfl) ?_
        refine lv_dup X.1 X.2.1 dX10_law_109 rfl ?_
        obtain ⟨t38, q39, hf⟩ := bnd hf
        refine x_geti fl_X10_164 X M q39 dX10_law_110 ?_
        refine lv_iconst (v := (1 : Int32)) X.1 X.2.1 dX10_law_113 (by decide) ?_
        refine lv_iadd X.1 X.2.1 dX10_law_114 ?_
        obtain ⟨h40, q41, hf⟩ := bnd hf
        refine x_puti fl_X10_164 fp_X10_164.1 fp_X10_164.2 X M q41 dX10_law_115 (fun H locs M => ?_)
        refine lv_aload_n X.1 X.2.1 dX10_law_118 rfl (lv_at hl 0 rfl) ?_
        obtain ⟨t42, q43, hf⟩ := bnd hf
        refine x_geti fl_X10_164 X M q43 dX10_law_119 ?_
        refine lv_iconst (v := (1 : Int32)) X.1 X.2.1 dX10_law_122 (by decide) ?_
        refine lv_isub X.1 X.2.1 dX10_law_123 ?_
        obtain ⟨rfl, rfl⟩ := rt2 hf
        exact x_iret X hr hk M dX10_law_124
      · have hf := ifp c13 hf
        refine lv_bipush (v := (-4 : Int32)) X.1 X.2.1 dX10_law_64 (by decide) ?_
        obtain ⟨rfl, rfl⟩ := rt2 hf
        exact x_iret X hr hk M dX10_law_66
    · have hf := ifp c10 hf
      refine lv_bipush (v := (-2 : Int32)) X.1 X.2.1 dX10_law_53 (by decide) ?_
      obtain ⟨rfl, rfl⟩ := rt2 hf
      exact x_iret X hr hk M dX10_law_55
def f_X10_law (N : Nat) (v0 : Nat) (v1 : Int32) (v2 : Int32) (v3 : Int32) (v4 : Int32) (h : Mem) : Option (Int32 × Mem) :=
  (ck h v0 10).bind fun _ =>
  b2 (f_X10_in N v0 v1 (0 : Int32) (2 : Int32) h) fun t4 h3 =>
  if t4 = 0 then
    some ((-1 : Int32), h3)
  else
    (ck h3 v0 10).bind fun _ =>
    b2 (f_X10_isTown N v0 v2 h3) fun t9 h8 =>
    if t9 = 0 then
      some ((-1 : Int32), h8)
    else
      if v1 = 0 then
        f_X10_law_35 N v0 v1 v2 v3 v4 v0 v3 (0 : Int32) (99 : Int32) h8
      else
        f_X10_law_35 N v0 v1 v2 v3 v4 v0 v3 (0 : Int32) (999 : Int32) h8
set_option maxRecDepth 100000 in
set_option maxHeartbeats 4000000 in
theorem w_X10_law {p : Program} {l : Launch} {e : Env} {s : State} {m : MethodId} {args : Array Value} {below : List Frame} {meth : Method} {c : Code} {G : Gx} {r : Int32} {h' : Mem} (X : CX G p s m args c cX10_law 5 RX10) (hr : meth.sig.returnType = (Option.some Jvm.ClassFile.FieldType.int)) (hk : meth.locks = false) (N : Nat) : ∀ (v0 : Nat) (v1 : Int32) (v2 : Int32) (v3 : Int32) (v4 : Int32) (h : Mem), f_X10_law N v0 v1 v2 v3 v4 h = some (r, h') → ∀ (H : Heap) (locs : List Loc) (ls : Array Slot), MS G s h H locs 0 → lv_has ls 5 [(0, .ref (gB G + v0)), (1, .int v1), (2, .int v2), (3, .int v3), (4, .int v4)] → W p l e (rm_X10_law) s m args below meth c H locs 0 0 (QI G below args s r h' 0 0) (F0 m 0 ls []) := by
  intro v0 v1 v2 v3 v4 h hf H locs ls M hl
  rw [f_X10_law] at hf
  refine lv_aload_n X.1 X.2.1 dX10_law_0 rfl (lv_at hl 0 rfl) ?_
  refine lv_iload_n X.1 X.2.1 dX10_law_1 rfl (lv_at hl 1 rfl) ?_
  refine lv_iconst (v := (0 : Int32)) X.1 X.2.1 dX10_law_2 (by decide) ?_
  refine lv_iconst (v := (2 : Int32)) X.1 X.2.1 dX10_law_3 (by decide) ?_
  obtain ⟨⟨⟩, q1, hf⟩ := bnd hf
  obtain ⟨t4, h3, q2, hf⟩ := bnd2 hf
  refine x_callVi (As := [.int v1, .int (0 : Int32), .int (2 : Int32)]) cf_X10_197 (c_X10_in l G N v0 v1 (0 : Int32) (2 : Int32) h _ _ q2) rfl ⟨rfl, rfl, Nat.le_of_ble_eq_true rfl, Nat.le_of_ble_eq_true rfl⟩ ⟨Nat.le_of_ble_eq_true rfl, Nat.le_of_ble_eq_true rfl⟩ X M (x_recv cls_X10 X M q1) rfl rfl hl.1 (Nat.le_of_ble_eq_true rfl) dX10_law_4 (fun H locs M => ?_)
  refine lv_if_eq (tgt := 18) X.1 X.2.1 dX10_law_7 (by decide) (fun c5 => ?_) (fun c5 => ?_)
  · have hf := ifp c5 hf
    refine lv_iconst (v := (-1 : Int32)) X.1 X.2.1 dX10_law_18 (by decide) ?_
    obtain ⟨rfl, rfl⟩ := rt2 hf
    exact x_iret X hr hk M dX10_law_19
  · have hf := ifn c5 hf
    refine lv_aload_n X.1 X.2.1 dX10_law_10 rfl (lv_at hl 0 rfl) ?_
    refine lv_iload_n X.1 X.2.1 dX10_law_11 rfl (lv_at hl 2 rfl) ?_
    obtain ⟨⟨⟩, q6, hf⟩ := bnd hf
    obtain ⟨t9, h8, q7, hf⟩ := bnd2 hf
    refine x_callVi (As := [.int v2]) cf_X10_205 (c_X10_isTown l G N v0 v2 h3 _ _ q7) rfl ⟨rfl, rfl, Nat.le_of_ble_eq_true rfl, Nat.le_of_ble_eq_true rfl⟩ ⟨Nat.le_of_ble_eq_true rfl, Nat.le_of_ble_eq_true rfl⟩ X M (x_recv cls_X10 X M q6) rfl rfl hl.1 (Nat.le_of_ble_eq_true rfl) dX10_law_12 (fun H locs M => ?_)
    refine lv_if_ne (tgt := 20) X.1 X.2.1 dX10_law_15 (by decide) (fun c10 => ?_) (fun c10 => ?_)
    · have hf := ifn c10 hf
      refine lv_aload_n X.1 X.2.1 dX10_law_20 rfl (lv_at hl 0 rfl) ?_
      refine lv_iload_n X.1 X.2.1 dX10_law_21 rfl (lv_at hl 3 rfl) ?_
      refine lv_iconst (v := (0 : Int32)) X.1 X.2.1 dX10_law_22 (by decide) ?_
      refine lv_iload_n X.1 X.2.1 dX10_law_23 rfl (lv_at hl 1 rfl) ?_
      refine lv_if_ne (tgt := 32) X.1 X.2.1 dX10_law_24 (by decide) (fun c11 => ?_) (fun c11 => ?_)
      · have hf := ifn c11 hf
        refine lv_sipush (v := (999 : Int32)) X.1 X.2.1 dX10_law_32 (by decide) ?_
        exact w_X10_law_35 X hr hk N v0 v1 v2 v3 v4 v0 v3 (0 : Int32) (999 : Int32) h8 hf _ _ _ M (lv_sub hl [0, 1, 2, 3, 4] rfl)
      · have hf := ifp c11 hf
        refine lv_bipush (v := (99 : Int32)) X.1 X.2.1 dX10_law_27 (by decide) ?_
        refine lv_goto (tgt := 35) X.1 X.2.1 dX10_law_29 (by decide) ?_
        exact w_X10_law_35 X hr hk N v0 v1 v2 v3 v4 v0 v3 (0 : Int32) (99 : Int32) h8 hf _ _ _ M (lv_sub hl [0, 1, 2, 3, 4] rfl)
    · have hf := ifp c10 hf
      refine lv_iconst (v := (-1 : Int32)) X.1 X.2.1 dX10_law_18 (by decide) ?_
      obtain ⟨rfl, rfl⟩ := rt2 hf
      exact x_iret X hr hk M dX10_law_19
theorem c_X10_law (l : Launch) (G : Gx) (N : Nat) (v0 : Nat) (v1 : Int32) (v2 : Int32) (v3 : Int32) (v4 : Int32) (h : Mem) (r : Int32) (h' : Mem) (hf : f_X10_law N v0 v1 v2 v3 v4 h = some (r, h')) : MetG l G yX10_law (.code yX10_law cX10_law 5 (Option.some Jvm.ClassFile.FieldType.int)) rm_X10_law [.ref (gB G + v0), .int v1, .int v2, .int v3, .int v4] h (QcI G r h') 0 0 :=
  x_met (by decide) rfl (Nat.le_of_ble_eq_true rfl) (fun p e s m args below meth c ls X M hr hk hin hl => w_X10_law X hr hk N v0 v1 v2 v3 v4 h hf _ _ ls M hl)
