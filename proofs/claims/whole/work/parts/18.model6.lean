abbrev rm_X10_isSet : Room := { frames := 1, cells := 0, slots := 0, locals := 40 }
def f_X10_isSet_12 (N : Nat) (n : Nat) (v0 : Nat) (v1 : Int32) (v2 : Int32) (v3 : Int32) (h : Mem) (k2 : Nat → Int32 → Int32 → Mem → Option (Int32 × Mem)) : Option (Int32 × Mem) := match n with
  | 0 => none
  | n + 1 =>
    if v2 ≤ v3 then
      k2 v0 v1 (v2 + 1) h
    else
      if ((v1 >>> (v2 &&& 31)) &&& (1 : Int32)) = (1 : Int32) then
        if ((v1 >>> (v3 &&& 31)) &&& (1 : Int32)) = (1 : Int32) then
          (gR h v0 10 51).bind fun t4 =>
          (lI 100 h t4 v2).bind fun t6 =>
          (gR h v0 10 51).bind fun t8 =>
          (lI 100 h t8 v3).bind fun t10 =>
          if t6 = t10 then
            (gR h v0 10 52).bind fun t13 =>
            (lI 100 h t13 v2).bind fun t15 =>
            (gR h v0 10 52).bind fun t17 =>
            (lI 100 h t17 v3).bind fun t19 =>
            if t15 = t19 then
              some ((0 : Int32), h)
            else
              f_X10_isSet_12 N n v0 v1 v2 (v3 + 1) h k2
          else
            f_X10_isSet_12 N n v0 v1 v2 (v3 + 1) h k2
        else
          f_X10_isSet_12 N n v0 v1 v2 (v3 + 1) h k2
      else
        f_X10_isSet_12 N n v0 v1 v2 (v3 + 1) h k2
set_option maxRecDepth 100000 in
set_option maxHeartbeats 4000000 in
theorem w_X10_isSet_12 {p : Program} {l : Launch} {e : Env} {s : State} {m : MethodId} {args : Array Value} {below : List Frame} {meth : Method} {c : Code} {G : Gx} {r : Int32} {h' : Mem} (X : CX G p s m args c cX10_isSet 4 RX10) (hr : meth.sig.returnType = (Option.some Jvm.ClassFile.FieldType.boolean)) (hk : meth.locks = false) (N : Nat) (k2 : Nat → Int32 → Int32 → Mem → Option (Int32 × Mem)) (K2 : ∀ (v0 : Nat) (v1 : Int32) (v2 : Int32) (h : Mem), k2 v0 v1 v2 h = some (r, h') → ∀ (H : Heap) (locs : List Loc) (ls : Array Slot), MS G s h H locs 0 → lv_has ls 4 [(0, .ref (gB G + v0)), (1, .int v1), (2, .int v2)] → W p l e (rm_X10_isSet) s m args below meth c H locs 0 0 (QI G below args s r h' 0 0) (F0 m 2 ls [])) : ∀ (n : Nat) (v0 : Nat) (v1 : Int32) (v2 : Int32) (v3 : Int32) (h : Mem), f_X10_isSet_12 N n v0 v1 v2 v3 h k2 = some (r, h') → ∀ (H : Heap) (locs : List Loc) (ls : Array Slot), MS G s h H locs 0 → lv_has ls 4 [(0, .ref (gB G + v0)), (1, .int v1), (2, .int v2), (3, .int v3)] → W p l e (rm_X10_isSet) s m args below meth c H locs 0 0 (QI G below args s r h' 0 0) (F0 m 12 ls []) := by
  intro n
  induction n with
  | zero =>
    intro v0 v1 v2 v3 h hf
    cases hf
  | succ n ih =>
    intro v0 v1 v2 v3 h hf H locs ls M hl
    rw [f_X10_isSet_12] at hf
    refine lv_iload_n X.1 X.2.1 dX10_isSet_12 rfl (lv_at hl 3 rfl) ?_
    refine lv_iload_n X.1 X.2.1 dX10_isSet_13 rfl (lv_at hl 2 rfl) ?_
    refine lv_icmp_ge (tgt := 73) X.1 X.2.1 dX10_isSet_14 (by decide) (fun c1 => ?_) (fun c1 => ?_)
    · have hf := ifp c1 hf
      refine lv_iinc (v := (v2 + 1)) (lv' := [(2, .int (v2 + 1)), (0, .ref (gB G + v0)), (1, .int v1), (3, .int v3)]) X.1 X.2.1 dX10_isSet_73 hl (k := 2) rfl (by first | rfl | decide) (by decide) rfl (fun ls hl => ?_)
      refine lv_goto (tgt := 2) X.1 X.2.1 dX10_isSet_76 (by decide) ?_
      exact K2 v0 v1 (v2 + 1) h hf _ _ _ M (lv_sub hl [1, 2, 0] rfl)
    · have hf := ifn c1 hf
      refine lv_iload_n X.1 X.2.1 dX10_isSet_17 rfl (lv_at hl 1 rfl) ?_
      refine lv_iload_n X.1 X.2.1 dX10_isSet_18 rfl (lv_at hl 2 rfl) ?_
      refine lv_ishr X.1 X.2.1 dX10_isSet_19 ?_
      refine lv_iconst (v := (1 : Int32)) X.1 X.2.1 dX10_isSet_20 (by decide) ?_
      refine lv_iand X.1 X.2.1 dX10_isSet_21 ?_
      refine lv_iconst (v := (1 : Int32)) X.1 X.2.1 dX10_isSet_22 (by decide) ?_
      refine lv_icmp_ne (tgt := 67) X.1 X.2.1 dX10_isSet_23 (by decide) (fun c2 => ?_) (fun c2 => ?_)
      · have hf := ifn c2 hf
        refine lv_iinc (v := (v3 + 1)) (lv' := [(3, .int (v3 + 1)), (0, .ref (gB G + v0)), (1, .int v1), (2, .int v2)]) X.1 X.2.1 dX10_isSet_67 hl (k := 3) rfl (by first | rfl | decide) (by decide) rfl (fun ls hl => ?_)
        refine lv_goto (tgt := 12) X.1 X.2.1 dX10_isSet_70 (by decide) ?_
        exact ih v0 v1 v2 (v3 + 1) h hf _ _ _ M (lv_sub hl [1, 2, 3, 0] rfl)
      · have hf := ifp c2 hf
        refine lv_iload_n X.1 X.2.1 dX10_isSet_26 rfl (lv_at hl 1 rfl) ?_
        refine lv_iload_n X.1 X.2.1 dX10_isSet_27 rfl (lv_at hl 3 rfl) ?_
        refine lv_ishr X.1 X.2.1 dX10_isSet_28 ?_
        refine lv_iconst (v := (1 : Int32)) X.1 X.2.1 dX10_isSet_29 (by decide) ?_
        refine lv_iand X.1 X.2.1 dX10_isSet_30 ?_
        refine lv_iconst (v := (1 : Int32)) X.1 X.2.1 dX10_isSet_31 (by decide) ?_
        refine lv_icmp_ne (tgt := 67) X.1 X.2.1 dX10_isSet_32 (by decide) (fun c3 => ?_) (fun c3 => ?_)
        · have hf := ifn c3 hf
          refine lv_iinc (v := (v3 + 1)) (lv' := [(3, .int (v3 + 1)), (0, .ref (gB G + v0)), (1, .int v1), (2, .int v2)]) X.1 X.2.1 dX10_isSet_67 hl (k := 3) rfl (by first | rfl | decide) (by decide) rfl (fun ls hl => ?_)
          refine lv_goto (tgt := 12) X.1 X.2.1 dX10_isSet_70 (by decide) ?_
          exact ih v0 v1 v2 (v3 + 1) h hf _ _ _ M (lv_sub hl [1, 2, 3, 0] rfl)
        · have hf := ifp c3 hf
          refine lv_aload_n X.1 X.2.1 dX10_isSet_35 rfl (lv_at hl 0 rfl) ?_
          obtain ⟨t4, q5, hf⟩ := bnd hf
          refine x_getr fl_X10_167 X M q5 dX10_isSet_36 ?_
          refine lv_iload_n X.1 X.2.1 dX10_isSet_39 rfl (lv_at hl 2 rfl) ?_
          obtain ⟨t6, q7, hf⟩ := bnd hf
          refine x_iald X M q7 dX10_isSet_40 ?_
          refine lv_aload_n X.1 X.2.1 dX10_isSet_41 rfl (lv_at hl 0 rfl) ?_
          obtain ⟨t8, q9, hf⟩ := bnd hf
          refine x_getr fl_X10_167 X M q9 dX10_isSet_42 ?_
          refine lv_iload_n X.1 X.2.1 dX10_isSet_45 rfl (lv_at hl 3 rfl) ?_
          obtain ⟨t10, q11, hf⟩ := bnd hf
          refine x_iald X M q11 dX10_isSet_46 ?_
          refine lv_icmp_ne (tgt := 67) X.1 X.2.1 dX10_isSet_47 (by decide) (fun c12 => ?_) (fun c12 => ?_)
          · have hf := ifn c12 hf
            refine lv_iinc (v := (v3 + 1)) (lv' := [(3, .int (v3 + 1)), (0, .ref (gB G + v0)), (1, .int v1), (2, .int v2)]) X.1 X.2.1 dX10_isSet_67 hl (k := 3) rfl (by first | rfl | decide) (by decide) rfl (fun ls hl => ?_)
            refine lv_goto (tgt := 12) X.1 X.2.1 dX10_isSet_70 (by decide) ?_
            exact ih v0 v1 v2 (v3 + 1) h hf _ _ _ M (lv_sub hl [1, 2, 3, 0] rfl)
          · have hf := ifp c12 hf
            refine lv_aload_n X.1 X.2.1 dX10_isSet_50 rfl (lv_at hl 0 rfl) ?_
            obtain ⟨t13, q14, hf⟩ := bnd hf
            refine x_getr fl_X10_170 X M q14 dX10_isSet_51 ?_
            refine lv_iload_n X.1 X.2.1 dX10_isSet_54 rfl (lv_at hl 2 rfl) ?_
            obtain ⟨t15, q16, hf⟩ := bnd hf
            refine x_iald X M q16 dX10_isSet_55 ?_
            refine lv_aload_n X.1 X.2.1 dX10_isSet_56 rfl (lv_at hl 0 rfl) ?_
            obtain ⟨t17, q18, hf⟩ := bnd hf
            refine x_getr fl_X10_170 X M q18 dX10_isSet_57 ?_
            refine lv_iload_n X.1 X.2.1 dX10_isSet_60 rfl (lv_at hl 3 rfl) ?_
            obtain ⟨t19, q20, hf⟩ := bnd hf
            refine x_iald X M q20 dX10_isSet_61 ?_
            refine lv_icmp_ne (tgt := 67) X.1 X.2.1 dX10_isSet_62 (by decide) (fun c21 => ?_) (fun c21 => ?_)
            · have hf := ifn c21 hf
              refine lv_iinc (v := (v3 + 1)) (lv' := [(3, .int (v3 + 1)), (0, .ref (gB G + v0)), (1, .int v1), (2, .int v2)]) X.1 X.2.1 dX10_isSet_67 hl (k := 3) rfl (by first | rfl | decide) (by decide) rfl (fun ls hl => ?_)
              refine lv_goto (tgt := 12) X.1 X.2.1 dX10_isSet_70 (by decide) ?_
              exact ih v0 v1 v2 (v3 + 1) h hf _ _ _ M (lv_sub hl [1, 2, 3, 0] rfl)
            · have hf := ifp c21 hf
              refine lv_iconst (v := (0 : Int32)) X.1 X.2.1 dX10_isSet_65 (by decide) ?_
              obtain ⟨rfl, rfl⟩ := rt2 hf
              exact x_zret X hr hk rfl M dX10_isSet_66
def f_X10_isSet_2 (N : Nat) (n : Nat) (v0 : Nat) (v1 : Int32) (v2 : Int32) (h : Mem) : Option (Int32 × Mem) := match n with
  | 0 => none
  | n + 1 =>
    (gI h v0 10 50).bind fun t1 =>
    if t1 ≤ v2 then
      some ((1 : Int32), h)
    else
      f_X10_isSet_12 N N v0 v1 v2 (0 : Int32) h (fun v0 v1 v2 h => f_X10_isSet_2 N n v0 v1 v2 h)
set_option maxRecDepth 100000 in
set_option maxHeartbeats 4000000 in
theorem w_X10_isSet_2 {p : Program} {l : Launch} {e : Env} {s : State} {m : MethodId} {args : Array Value} {below : List Frame} {meth : Method} {c : Code} {G : Gx} {r : Int32} {h' : Mem} (X : CX G p s m args c cX10_isSet 4 RX10) (hr : meth.sig.returnType = (Option.some Jvm.ClassFile.FieldType.boolean)) (hk : meth.locks = false) (N : Nat) : ∀ (n : Nat) (v0 : Nat) (v1 : Int32) (v2 : Int32) (h : Mem), f_X10_isSet_2 N n v0 v1 v2 h = some (r, h') → ∀ (H : Heap) (locs : List Loc) (ls : Array Slot), MS G s h H locs 0 → lv_has ls 4 [(0, .ref (gB G + v0)), (1, .int v1), (2, .int v2)] → W p l e (rm_X10_isSet) s m args below meth c H locs 0 0 (QI G below args s r h' 0 0) (F0 m 2 ls []) := by
  intro n
  induction n with
  | zero =>
    intro v0 v1 v2 h hf
    cases hf
  | succ n ih =>
    intro v0 v1 v2 h hf H locs ls M hl
    rw [f_X10_isSet_2] at hf
    refine lv_iload_n X.1 X.2.1 dX10_isSet_2 rfl (lv_at hl 2 rfl) ?_
    refine lv_aload_n X.1 X.2.1 dX10_isSet_3 rfl (lv_at hl 0 rfl) ?_
    obtain ⟨t1, q2, hf⟩ := bnd hf
    refine x_geti fl_X10_164 X M q2 dX10_isSet_4 ?_
    refine lv_icmp_ge (tgt := 79) X.1 X.2.1 dX10_isSet_7 (by decide) (fun c3 => ?_) (fun c3 => ?_)
    · have hf := ifp c3 hf
      refine lv_iconst (v := (1 : Int32)) X.1 X.2.1 dX10_isSet_79 (by decide) ?_
      obtain ⟨rfl, rfl⟩ := rt2 hf
      exact x_zret X hr hk rfl M dX10_isSet_80
    · have hf := ifn c3 hf
      refine lv_iconst (v := (0 : Int32)) X.1 X.2.1 dX10_isSet_10 (by decide) ?_
      refine lv_istore_n (lv' := [(3, .int (0 : Int32)), (0, .ref (gB G + v0)), (1, .int v1), (2, .int v2)]) X.1 X.2.1 dX10_isSet_11 rfl hl (by decide) rfl (fun ls hl => ?_)
      exact w_X10_isSet_12 X hr hk N _ (fun v0 v1 v2 h hf H locs ls M hl => ih v0 v1 v2 h hf H locs ls M hl) N v0 v1 v2 (0 : Int32) h hf _ _ _ M (lv_sub hl [1, 2, 3, 0] rfl)
def f_X10_isSet (N : Nat) (v0 : Nat) (v1 : Int32) (h : Mem) : Option (Int32 × Mem) :=
  f_X10_isSet_2 N N v0 v1 (0 : Int32) h
set_option maxRecDepth 100000 in
set_option maxHeartbeats 4000000 in
theorem w_X10_isSet {p : Program} {l : Launch} {e : Env} {s : State} {m : MethodId} {args : Array Value} {below : List Frame} {meth : Method} {c : Code} {G : Gx} {r : Int32} {h' : Mem} (X : CX G p s m args c cX10_isSet 4 RX10) (hr : meth.sig.returnType = (Option.some Jvm.ClassFile.FieldType.boolean)) (hk : meth.locks = false) (N : Nat) : ∀ (v0 : Nat) (v1 : Int32) (h : Mem), f_X10_isSet N v0 v1 h = some (r, h') → ∀ (H : Heap) (locs : List Loc) (ls : Array Slot), MS G s h H locs 0 → lv_has ls 4 [(0, .ref (gB G + v0)), (1, .int v1)] → W p l e (rm_X10_isSet) s m args below meth c H locs 0 0 (QI G below args s r h' 0 0) (F0 m 0 ls []) := by
  intro v0 v1 h hf H locs ls M hl
  rw [f_X10_isSet] at hf
  refine lv_iconst (v := (0 : Int32)) X.1 X.2.1 dX10_isSet_0 (by decide) ?_
  refine lv_istore_n (lv' := [(2, .int (0 : Int32)), (0, .ref (gB G + v0)), (1, .int v1)]) X.1 X.2.1 dX10_isSet_1 rfl hl (by decide) rfl (fun ls hl => ?_)
  exact w_X10_isSet_2 X hr hk N N v0 v1 (0 : Int32) h hf _ _ _ M (lv_sub hl [1, 2, 0] rfl)
theorem c_X10_isSet (l : Launch) (G : Gx) (N : Nat) (v0 : Nat) (v1 : Int32) (h : Mem) (r : Int32) (h' : Mem) (hf : f_X10_isSet N v0 v1 h = some (r, h')) : MetG l G yX10_isSet (.code yX10_isSet cX10_isSet 4 (Option.some Jvm.ClassFile.FieldType.boolean)) rm_X10_isSet [.ref (gB G + v0), .int v1] h (QcI G r h') 0 0 :=
  x_met (by decide) rfl (Nat.le_of_ble_eq_true rfl) (fun p e s m args below meth c ls X M hr hk hin hl => w_X10_isSet X hr hk N v0 v1 h hf _ _ ls M hl)
abbrev rm_X10_priceOf : Room := { frames := 1, cells := 0, slots := 0, locals := 40 }
def f_X10_priceOf_32 (N : Nat) (v0 : Nat) (v1 : Int32) (v3 : Int32) (s0 : Int32) (s1 : Int32) (h : Mem) (k4 : Nat → Int32 → Int32 → Int32 → Mem → Option (Int32 × Mem)) : Option (Int32 × Mem) :=
  k4 v0 v1 (s0 + s1) (v3 + 1) h
set_option maxRecDepth 100000 in
set_option maxHeartbeats 4000000 in
theorem w_X10_priceOf_32 {p : Program} {l : Launch} {e : Env} {s : State} {m : MethodId} {args : Array Value} {below : List Frame} {meth : Method} {c : Code} {G : Gx} {r : Int32} {h' : Mem} (X : CX G p s m args c cX10_priceOf 4 RX10) (hr : meth.sig.returnType = (Option.some Jvm.ClassFile.FieldType.int)) (hk : meth.locks = false) (N : Nat) (k4 : Nat → Int32 → Int32 → Int32 → Mem → Option (Int32 × Mem)) (K4 : ∀ (v0 : Nat) (v1 : Int32) (v2 : Int32) (v3 : Int32) (h : Mem), k4 v0 v1 v2 v3 h = some (r, h') → ∀ (H : Heap) (locs : List Loc) (ls : Array Slot), MS G s h H locs 0 → lv_has ls 4 [(0, .ref (gB G + v0)), (1, .int v1), (2, .int v2), (3, .int v3)] → W p l e (rm_X10_priceOf) s m args below meth c H locs 0 0 (QI G below args s r h' 0 0) (F0 m 4 ls [])) : ∀ (v0 : Nat) (v1 : Int32) (v3 : Int32) (s0 : Int32) (s1 : Int32) (h : Mem), f_X10_priceOf_32 N v0 v1 v3 s0 s1 h k4 = some (r, h') → ∀ (H : Heap) (locs : List Loc) (ls : Array Slot), MS G s h H locs 0 → lv_has ls 4 [(0, .ref (gB G + v0)), (1, .int v1), (3, .int v3)] → W p l e (rm_X10_priceOf) s m args below meth c H locs 0 0 (QI G below args s r h' 0 0) (F0 m 32 ls [.int s1, .int s0]) := by
  intro v0 v1 v3 s0 s1 h hf H locs ls M hl
  rw [f_X10_priceOf_32] at hf
  refine lv_iadd X.1 X.2.1 dX10_priceOf_32 ?_
  refine lv_istore_n (lv' := [(2, .int (s0 + s1)), (0, .ref (gB G + v0)), (1, .int v1), (3, .int v3)]) X.1 X.2.1 dX10_priceOf_33 rfl hl (by decide) rfl (fun ls hl => ?_)
  refine lv_iinc (v := (v3 + 1)) (lv' := [(3, .int (v3 + 1)), (2, .int (s0 + s1)), (0, .ref (gB G + v0)), (1, .int v1)]) X.1 X.2.1 dX10_priceOf_34 hl (k := 3) rfl (by first | rfl | decide) (by decide) rfl (fun ls hl => ?_)
  refine lv_goto (tgt := 4) X.1 X.2.1 dX10_priceOf_37 (by decide) ?_
  exact K4 v0 v1 (s0 + s1) (v3 + 1) h hf _ _ _ M (lv_sub hl [2, 3, 1, 0] rfl)
def f_X10_priceOf_4 (N : Nat) (n : Nat) (v0 : Nat) (v1 : Int32) (v2 : Int32) (v3 : Int32) (h : Mem) : Option (Int32 × Mem) := match n with
  | 0 => none
  | n + 1 =>
    (gI h v0 10 50).bind fun t1 =>
    if t1 ≤ v3 then
      some (v2, h)
    else
      if ((v1 >>> (v3 &&& 31)) &&& (1 : Int32)) = (1 : Int32) then
        (gR h v0 10 54).bind fun t5 =>
        (lI 100 h t5 v3).bind fun t7 =>
        f_X10_priceOf_32 N v0 v1 v3 v2 t7 h (fun v0 v1 v2 v3 h => f_X10_priceOf_4 N n v0 v1 v2 v3 h)
      else
        f_X10_priceOf_32 N v0 v1 v3 v2 (0 : Int32) h (fun v0 v1 v2 v3 h => f_X10_priceOf_4 N n v0 v1 v2 v3 h)
set_option maxRecDepth 100000 in
set_option maxHeartbeats 4000000 in
theorem w_X10_priceOf_4 {p : Program} {l : Launch} {e : Env} {s : State} {m : MethodId} {args : Array Value} {below : List Frame} {meth : Method} {c : Code} {G : Gx} {r : Int32} {h' : Mem} (X : CX G p s m args c cX10_priceOf 4 RX10) (hr : meth.sig.returnType = (Option.some Jvm.ClassFile.FieldType.int)) (hk : meth.locks = false) (N : Nat) : ∀ (n : Nat) (v0 : Nat) (v1 : Int32) (v2 : Int32) (v3 : Int32) (h : Mem), f_X10_priceOf_4 N n v0 v1 v2 v3 h = some (r, h') → ∀ (H : Heap) (locs : List Loc) (ls : Array Slot), MS G s h H locs 0 → lv_has ls 4 [(0, .ref (gB G + v0)), (1, .int v1), (2, .int v2), (3, .int v3)] → W p l e (rm_X10_priceOf) s m args below meth c H locs 0 0 (QI G below args s r h' 0 0) (F0 m 4 ls []) := by
  intro n
  induction n with
  | zero =>
    intro v0 v1 v2 v3 h hf
    cases hf
  | succ n ih =>
    intro v0 v1 v2 v3 h hf H locs ls M hl
    rw [f_X10_priceOf_4] at hf
    refine lv_iload_n X.1 X.2.1 dX10_priceOf_4 rfl (lv_at hl 3 rfl) ?_
    refine lv_aload_n X.1 X.2.1 dX10_priceOf_5 rfl (lv_at hl 0 rfl) ?_
    obtain ⟨t1, q2, hf⟩ := bnd hf
    refine x_geti fl_X10_164 X M q2 dX10_priceOf_6 ?_
    refine lv_icmp_ge (tgt := 40) X.1 X.2.1 dX10_priceOf_9 (by decide) (fun c3 => ?_) (fun c3 => ?_)
    · have hf := ifp c3 hf
      refine lv_iload_n X.1 X.2.1 dX10_priceOf_40 rfl (lv_at hl 2 rfl) ?_
      obtain ⟨rfl, rfl⟩ := rt2 hf
      exact x_iret X hr hk M dX10_priceOf_41
    · have hf := ifn c3 hf
      refine lv_iload_n X.1 X.2.1 dX10_priceOf_12 rfl (lv_at hl 2 rfl) ?_
      refine lv_iload_n X.1 X.2.1 dX10_priceOf_13 rfl (lv_at hl 1 rfl) ?_
      refine lv_iload_n X.1 X.2.1 dX10_priceOf_14 rfl (lv_at hl 3 rfl) ?_
      refine lv_ishr X.1 X.2.1 dX10_priceOf_15 ?_
      refine lv_iconst (v := (1 : Int32)) X.1 X.2.1 dX10_priceOf_16 (by decide) ?_
      refine lv_iand X.1 X.2.1 dX10_priceOf_17 ?_
      refine lv_iconst (v := (1 : Int32)) X.1 X.2.1 dX10_priceOf_18 (by decide) ?_
      refine lv_icmp_ne (tgt := 31) X.1 X.2.1 dX10_priceOf_19 (by decide) (fun c4 => ?_) (fun c4 => ?_)
      · have hf := ifn c4 hf
        refine lv_iconst (v := (0 : Int32)) X.1 X.2.1 dX10_priceOf_31 (by decide) ?_
        exact w_X10_priceOf_32 X hr hk N _ (fun v0 v1 v2 v3 h hf H locs ls M hl => ih v0 v1 v2 v3 h hf H locs ls M hl) v0 v1 v3 v2 (0 : Int32) h hf _ _ _ M (lv_sub hl [0, 1, 3] rfl)
      · have hf := ifp c4 hf
        refine lv_aload_n X.1 X.2.1 dX10_priceOf_22 rfl (lv_at hl 0 rfl) ?_
        obtain ⟨t5, q6, hf⟩ := bnd hf
        refine x_getr fl_X10_176 X M q6 dX10_priceOf_23 ?_
        refine lv_iload_n X.1 X.2.1 dX10_priceOf_26 rfl (lv_at hl 3 rfl) ?_
        obtain ⟨t7, q8, hf⟩ := bnd hf
        refine x_iald X M q8 dX10_priceOf_27 ?_
        refine lv_goto (tgt := 32) X.1 X.2.1 dX10_priceOf_28 (by decide) ?_
        exact w_X10_priceOf_32 X hr hk N _ (fun v0 v1 v2 v3 h hf H locs ls M hl => ih v0 v1 v2 v3 h hf H locs ls M hl) v0 v1 v3 v2 t7 h hf _ _ _ M (lv_sub hl [0, 1, 3] rfl)
def f_X10_priceOf (N : Nat) (v0 : Nat) (v1 : Int32) (h : Mem) : Option (Int32 × Mem) :=
  f_X10_priceOf_4 N N v0 v1 (0 : Int32) (0 : Int32) h
set_option maxRecDepth 100000 in
set_option maxHeartbeats 4000000 in
theorem w_X10_priceOf {p : Program} {l : Launch} {e : Env} {s : State} {m : MethodId} {args : Array Value} {below : List Frame} {meth : Method} {c : Code} {G : Gx} {r : Int32} {h' : Mem} (X : CX G p s m args c cX10_priceOf 4 RX10) (hr : meth.sig.returnType = (Option.some Jvm.ClassFile.FieldType.int)) (hk : meth.locks = false) (N : Nat) : ∀ (v0 : Nat) (v1 : Int32) (h : Mem), f_X10_priceOf N v0 v1 h = some (r, h') → ∀ (H : Heap) (locs : List Loc) (ls : Array Slot), MS G s h H locs 0 → lv_has ls 4 [(0, .ref (gB G + v0)), (1, .int v1)] → W p l e (rm_X10_priceOf) s m args below meth c H locs 0 0 (QI G below args s r h' 0 0) (F0 m 0 ls []) := by
  intro v0 v1 h hf H locs ls M hl
  rw [f_X10_priceOf] at hf
  refine lv_iconst (v := (0 : Int32)) X.1 X.2.1 dX10_priceOf_0 (by decide) ?_
  refine lv_istore_n (lv' := [(2, .int (0 : Int32)), (0, .ref (gB G + v0)), (1, .int v1)]) X.1 X.2.1 dX10_priceOf_1 rfl hl (by decide) rfl (fun ls hl => ?_)
  refine lv_iconst (v := (0 : Int32)) X.1 X.2.1 dX10_priceOf_2 (by decide) ?_
  refine lv_istore_n (lv' := [(3, .int (0 : Int32)), (2, .int (0 : Int32)), (0, .ref (gB G + v0)), (1, .int v1)]) X.1 X.2.1 dX10_priceOf_3 rfl hl (by decide) rfl (fun ls hl => ?_)
  exact w_X10_priceOf_4 X hr hk N N v0 v1 (0 : Int32) (0 : Int32) h hf _ _ _ M (lv_sub hl [2, 3, 1, 0] rfl)
theorem c_X10_priceOf (l : Launch) (G : Gx) (N : Nat) (v0 : Nat) (v1 : Int32) (h : Mem) (r : Int32) (h' : Mem) (hf : f_X10_priceOf N v0 v1 h = some (r, h')) : MetG l G yX10_priceOf (.code yX10_priceOf cX10_priceOf 4 (Option.some Jvm.ClassFile.FieldType.int)) rm_X10_priceOf [.ref (gB G + v0), .int v1] h (QcI G r h') 0 0 :=
  x_met (by decide) rfl (Nat.le_of_ble_eq_true rfl) (fun p e s m args below meth c ls X M hr hk hin hl => w_X10_priceOf X hr hk N v0 v1 h hf _ _ ls M hl)
abbrev rm_X10_leastBehind : Room := { frames := 16, cells := 0, slots := 0, locals := 392 }
def f_X10_leastBehind_78 (N : Nat) (v0 : Nat) (v1 : Int32) (v2 : Int32) (v3 : Int32) (h : Mem) (k6 : Nat → Int32 → Int32 → Int32 → Mem → Option (Int64 × Mem)) : Option (Int64 × Mem) :=
  (gR h v0 10 51).bind fun t1 =>
  (lI 100 h t1 v3).bind fun t3 =>
  if t3 = (2 : Int32) then
    (gR h v0 10 5).bind fun t6 =>
    (gR h v0 10 52).bind fun t8 =>
    (lI 100 h t8 v3).bind fun t10 =>
    (gR h v0 10 53).bind fun t12 =>
    (lI 100 h t12 v3).bind fun t14 =>
    (stI 100 h t6 t10 t14).bind fun h16 =>
    k6 v0 v1 v2 (v3 + 1) h16
  else
    k6 v0 v1 v2 (v3 + 1) h
set_option maxRecDepth 100000 in
set_option maxHeartbeats 4000000 in
theorem w_X10_leastBehind_78 {p : Program} {l : Launch} {e : Env} {s : State} {m : MethodId} {args : Array Value} {below : List Frame} {meth : Method} {c : Code} {G : Gx} {r : Int64} {h' : Mem} (X : CX G p s m args c cX10_leastBehind 9 RX10) (hr : meth.sig.returnType = (Option.some Jvm.ClassFile.FieldType.long)) (hk : meth.locks = false) (N : Nat) (k6 : Nat → Int32 → Int32 → Int32 → Mem → Option (Int64 × Mem)) (K6 : ∀ (v0 : Nat) (v1 : Int32) (v2 : Int32) (v3 : Int32) (h : Mem), k6 v0 v1 v2 v3 h = some (r, h') → ∀ (H : Heap) (locs : List Loc) (ls : Array Slot), MS G s h H locs 0 → lv_has ls 9 [(0, .ref (gB G + v0)), (1, .int v1), (2, .int v2), (3, .int v3)] → W p l e (rm_X10_leastBehind) s m args below meth c H locs 0 0 (QL G below args s r h' 0 0) (F0 m 6 ls [])) : ∀ (v0 : Nat) (v1 : Int32) (v2 : Int32) (v3 : Int32) (h : Mem), f_X10_leastBehind_78 N v0 v1 v2 v3 h k6 = some (r, h') → ∀ (H : Heap) (locs : List Loc) (ls : Array Slot), MS G s h H locs 0 → lv_has ls 9 [(0, .ref (gB G + v0)), (1, .int v1), (2, .int v2), (3, .int v3)] → W p l e (rm_X10_leastBehind) s m args below meth c H locs 0 0 (QL G below args s r h' 0 0) (F0 m 78 ls []) := by
  intro v0 v1 v2 v3 h hf H locs ls M hl
  rw [f_X10_leastBehind_78] at hf
  refine lv_aload_n X.1 X.2.1 dX10_leastBehind_78 rfl (lv_at hl 0 rfl) ?_
  obtain ⟨t1, q2, hf⟩ := bnd hf
  refine x_getr fl_X10_167 X M q2 dX10_leastBehind_79 ?_
  refine lv_iload_n X.1 X.2.1 dX10_leastBehind_82 rfl (lv_at hl 3 rfl) ?_
  obtain ⟨t3, q4, hf⟩ := bnd hf
  refine x_iald X M q4 dX10_leastBehind_83 ?_
  refine lv_iconst (v := (2 : Int32)) X.1 X.2.1 dX10_leastBehind_84 (by decide) ?_
  refine lv_icmp_ne (tgt := 105) X.1 X.2.1 dX10_leastBehind_85 (by decide) (fun c5 => ?_) (fun c5 => ?_)
  · have hf := ifn c5 hf
    refine lv_iinc (v := (v3 + 1)) (lv' := [(3, .int (v3 + 1)), (0, .ref (gB G + v0)), (1, .int v1), (2, .int v2)]) X.1 X.2.1 dX10_leastBehind_105 hl (k := 3) rfl (by first | rfl | decide) (by decide) rfl (fun ls hl => ?_)
    refine lv_goto (tgt := 6) X.1 X.2.1 dX10_leastBehind_108 (by decide) ?_
    exact K6 v0 v1 v2 (v3 + 1) h hf _ _ _ M (lv_sub hl [1, 2, 3, 0] rfl)
  · have hf := ifp c5 hf
    refine lv_aload_n X.1 X.2.1 dX10_leastBehind_88 rfl (lv_at hl 0 rfl) ?_
    obtain ⟨t6, q7, hf⟩ := bnd hf
    refine x_getr fl_X10_26 X M q7 dX10_leastBehind_89 ?_
    refine lv_aload_n X.1 X.2.1 dX10_leastBehind_92 rfl (lv_at hl 0 rfl) ?_
    obtain ⟨t8, q9, hf⟩ := bnd hf
    refine x_getr fl_X10_170 X M q9 dX10_leastBehind_93 ?_
    refine lv_iload_n X.1 X.2.1 dX10_leastBehind_96 rfl (lv_at hl 3 rfl) ?_
    obtain ⟨t10, q11, hf⟩ := bnd hf
    refine x_iald X M q11 dX10_leastBehind_97 ?_
    refine lv_aload_n X.1 X.2.1 dX10_leastBehind_98 rfl (lv_at hl 0 rfl) ?_
    obtain ⟨t12, q13, hf⟩ := bnd hf
    refine x_getr fl_X10_173 X M q13 dX10_leastBehind_99 ?_
    refine lv_iload_n X.1 X.2.1 dX10_leastBehind_102 rfl (lv_at hl 3 rfl) ?_
    obtain ⟨t14, q15, hf⟩ := bnd hf
    refine x_iald X M q15 dX10_leastBehind_103 ?_
    obtain ⟨h16, q17, hf⟩ := bnd hf
    refine x_iast X M q17 dX10_leastBehind_104 (fun H locs M => ?_)
    refine lv_iinc (v := (v3 + 1)) (lv' := [(3, .int (v3 + 1)), (0, .ref (gB G + v0)), (1, .int v1), (2, .int v2)]) X.1 X.2.1 dX10_leastBehind_105 hl (k := 3) rfl (by first | rfl | decide) (by decide) rfl (fun ls hl => ?_)
    refine lv_goto (tgt := 6) X.1 X.2.1 dX10_leastBehind_108 (by decide) ?_
    exact K6 v0 v1 v2 (v3 + 1) h16 hf _ _ _ M (lv_sub hl [1, 2, 3, 0] rfl)
def f_X10_leastBehind_51 (N : Nat) (v0 : Nat) (v1 : Int32) (v2 : Int32) (v3 : Int32) (h : Mem) (k6 : Nat → Int32 → Int32 → Int32 → Mem → Option (Int64 × Mem)) : Option (Int64 × Mem) :=
  (gR h v0 10 51).bind fun t1 =>
  (lI 100 h t1 v3).bind fun t3 =>
  if t3 = (1 : Int32) then
    (gR h v0 10 7).bind fun t6 =>
    (gR h v0 10 52).bind fun t8 =>
    (lI 100 h t8 v3).bind fun t10 =>
    (gR h v0 10 53).bind fun t12 =>
    (lI 100 h t12 v3).bind fun t14 =>
    (stI 100 h t6 t10 t14).bind fun h16 =>
    f_X10_leastBehind_78 N v0 v1 v2 v3 h16 k6
  else
    f_X10_leastBehind_78 N v0 v1 v2 v3 h k6
set_option maxRecDepth 100000 in
set_option maxHeartbeats 4000000 in
theorem w_X10_leastBehind_51 {p : Program} {l : Launch} {e : Env} {s : State} {m : MethodId} {args : Array Value} {below : List Frame} {meth : Method} {c : Code} {G : Gx} {r : Int64} {h' : Mem} (X : CX G p s m args c cX10_leastBehind 9 RX10) (hr : meth.sig.returnType = (Option.some Jvm.ClassFile.FieldType.long)) (hk : meth.locks = false) (N : Nat) (k6 : Nat → Int32 → Int32 → Int32 → Mem → Option (Int64 × Mem)) (K6 : ∀ (v0 : Nat) (v1 : Int32) (v2 : Int32) (v3 : Int32) (h : Mem), k6 v0 v1 v2 v3 h = some (r, h') → ∀ (H : Heap) (locs : List Loc) (ls : Array Slot), MS G s h H locs 0 → lv_has ls 9 [(0, .ref (gB G + v0)), (1, .int v1), (2, .int v2), (3, .int v3)] → W p l e (rm_X10_leastBehind) s m args below meth c H locs 0 0 (QL G below args s r h' 0 0) (F0 m 6 ls [])) : ∀ (v0 : Nat) (v1 : Int32) (v2 : Int32) (v3 : Int32) (h : Mem), f_X10_leastBehind_51 N v0 v1 v2 v3 h k6 = some (r, h') → ∀ (H : Heap) (locs : List Loc) (ls : Array Slot), MS G s h H locs 0 → lv_has ls 9 [(0, .ref (gB G + v0)), (1, .int v1), (2, .int v2), (3, .int v3)] → W p l e (rm_X10_leastBehind) s m args below meth c H locs 0 0 (QL G below args s r h' 0 0) (F0 m 51 ls []) := by
  intro v0 v1 v2 v3 h hf H locs ls M hl
  rw [f_X10_leastBehind_51] at hf
  refine lv_aload_n X.1 X.2.1 dX10_leastBehind_51 rfl (lv_at hl 0 rfl) ?_
  obtain ⟨t1, q2, hf⟩ := bnd hf
  refine x_getr fl_X10_167 X M q2 dX10_leastBehind_52 ?_
  refine lv_iload_n X.1 X.2.1 dX10_leastBehind_55 rfl (lv_at hl 3 rfl) ?_
  obtain ⟨t3, q4, hf⟩ := bnd hf
  refine x_iald X M q4 dX10_leastBehind_56 ?_
  refine lv_iconst (v := (1 : Int32)) X.1 X.2.1 dX10_leastBehind_57 (by decide) ?_
  refine lv_icmp_ne (tgt := 78) X.1 X.2.1 dX10_leastBehind_58 (by decide) (fun c5 => ?_) (fun c5 => ?_)
  · have hf := ifn c5 hf
    exact w_X10_leastBehind_78 X hr hk N _ K6 v0 v1 v2 v3 h hf _ _ _ M (lv_sub hl [0, 1, 2, 3] rfl)
  · have hf := ifp c5 hf
    refine lv_aload_n X.1 X.2.1 dX10_leastBehind_61 rfl (lv_at hl 0 rfl) ?_
    obtain ⟨t6, q7, hf⟩ := bnd hf
    refine x_getr fl_X10_32 X M q7 dX10_leastBehind_62 ?_
    refine lv_aload_n X.1 X.2.1 dX10_leastBehind_65 rfl (lv_at hl 0 rfl) ?_
    obtain ⟨t8, q9, hf⟩ := bnd hf
    refine x_getr fl_X10_170 X M q9 dX10_leastBehind_66 ?_
    refine lv_iload_n X.1 X.2.1 dX10_leastBehind_69 rfl (lv_at hl 3 rfl) ?_
    obtain ⟨t10, q11, hf⟩ := bnd hf
    refine x_iald X M q11 dX10_leastBehind_70 ?_
    refine lv_aload_n X.1 X.2.1 dX10_leastBehind_71 rfl (lv_at hl 0 rfl) ?_
    obtain ⟨t12, q13, hf⟩ := bnd hf
    refine x_getr fl_X10_173 X M q13 dX10_leastBehind_72 ?_
    refine lv_iload_n X.1 X.2.1 dX10_leastBehind_75 rfl (lv_at hl 3 rfl) ?_
    obtain ⟨t14, q15, hf⟩ := bnd hf
    refine x_iald X M q15 dX10_leastBehind_76 ?_
    obtain ⟨h16, q17, hf⟩ := bnd hf
    refine x_iast X M q17 dX10_leastBehind_77 (fun H locs M => ?_)
    exact w_X10_leastBehind_78 X hr hk N _ K6 v0 v1 v2 v3 h16 hf _ _ _ M (lv_sub hl [0, 1, 2, 3] rfl)
def f_X10_leastBehind_172 (N : Nat) (v0 : Nat) (v6 : Int32) (s0 : Int64) (h : Mem) (k133 : Nat → Int64 → Int32 → Mem → Option (Int64 × Mem)) : Option (Int64 × Mem) :=
  k133 v0 s0 (v6 + 1) h
set_option maxRecDepth 100000 in
set_option maxHeartbeats 4000000 in
theorem w_X10_leastBehind_172 {p : Program} {l : Launch} {e : Env} {s : State} {m : MethodId} {args : Array Value} {below : List Frame} {meth : Method} {c : Code} {G : Gx} {r : Int64} {h' : Mem} (X : CX G p s m args c cX10_leastBehind 9 RX10) (hr : meth.sig.returnType = (Option.some Jvm.ClassFile.FieldType.long)) (hk : meth.locks = false) (N : Nat) (k133 : Nat → Int64 → Int32 → Mem → Option (Int64 × Mem)) (K133 : ∀ (v0 : Nat) (v4 : Int64) (v6 : Int32) (h : Mem), k133 v0 v4 v6 h = some (r, h') → ∀ (H : Heap) (locs : List Loc) (ls : Array Slot), MS G s h H locs 0 → lv_has ls 9 [(0, .ref (gB G + v0)), (4, .long v4), (6, .int v6)] → W p l e (rm_X10_leastBehind) s m args below meth c H locs 0 0 (QL G below args s r h' 0 0) (F0 m 133 ls [])) : ∀ (v0 : Nat) (v6 : Int32) (s0 : Int64) (h : Mem), f_X10_leastBehind_172 N v0 v6 s0 h k133 = some (r, h') → ∀ (H : Heap) (locs : List Loc) (ls : Array Slot), MS G s h H locs 0 → lv_has ls 9 [(0, .ref (gB G + v0)), (6, .int v6)] → W p l e (rm_X10_leastBehind) s m args below meth c H locs 0 0 (QL G below args s r h' 0 0) (F0 m 172 ls [.long s0]) := by
  intro v0 v6 s0 h hf H locs ls M hl
  rw [f_X10_leastBehind_172] at hf
  refine lv_lstore (lv' := [(4, .long s0), (0, .ref (gB G + v0)), (6, .int v6)]) X.1 X.2.1 dX10_leastBehind_172 hl (by decide) rfl (fun ls hl => ?_)
  refine lv_iinc (v := (v6 + 1)) (lv' := [(6, .int (v6 + 1)), (4, .long s0), (0, .ref (gB G + v0))]) X.1 X.2.1 dX10_leastBehind_174 hl (k := 2) rfl (by first | rfl | decide) (by decide) rfl (fun ls hl => ?_)
  refine lv_goto (tgt := 133) X.1 X.2.1 dX10_leastBehind_177 (by decide) ?_
  exact K133 v0 s0 (v6 + 1) h hf _ _ _ M (lv_sub hl [2, 1, 0] rfl)
def f_X10_leastBehind_133 (N : Nat) (n : Nat) (v0 : Nat) (v4 : Int64) (v6 : Int32) (h : Mem) : Option (Int64 × Mem) := match n with
  | 0 => none
  | n + 1 =>
    (gI h v0 10 1).bind fun t1 =>
    if t1 ≤ v6 then
      (ck h v0 10).bind fun _ =>
      (f_X10_putBack N v0 h).bind fun h6 =>
      some (v4, h6)
    else
      (gR h v0 10 10).bind fun t7 =>
      (lI 100 h t7 v6).bind fun t9 =>
      (ck h v0 10).bind fun _ =>
      b2 (f_X10_worthOf N v0 v6 t9 h) fun t14 h13 =>
      if 0 ≤ (lg_cmp t14 v4) then
        f_X10_leastBehind_172 N v0 v6 v4 h13 (fun v0 v4 v6 h => f_X10_leastBehind_133 N n v0 v4 v6 h)
      else
        f_X10_leastBehind_172 N v0 v6 t14 h13 (fun v0 v4 v6 h => f_X10_leastBehind_133 N n v0 v4 v6 h)
set_option maxRecDepth 100000 in
set_option maxHeartbeats 4000000 in
theorem w_X10_leastBehind_133 {p : Program} {l : Launch} {e : Env} {s : State} {m : MethodId} {args : Array Value} {below : List Frame} {meth : Method} {c : Code} {G : Gx} {r : Int64} {h' : Mem} (X : CX G p s m args c cX10_leastBehind 9 RX10) (hr : meth.sig.returnType = (Option.some Jvm.ClassFile.FieldType.long)) (hk : meth.locks = false) (N : Nat) : ∀ (n : Nat) (v0 : Nat) (v4 : Int64) (v6 : Int32) (h : Mem), f_X10_leastBehind_133 N n v0 v4 v6 h = some (r, h') → ∀ (H : Heap) (locs : List Loc) (ls : Array Slot), MS G s h H locs 0 → lv_has ls 9 [(0, .ref (gB G + v0)), (4, .long v4), (6, .int v6)] → W p l e (rm_X10_leastBehind) s m args below meth c H locs 0 0 (QL G below args s r h' 0 0) (F0 m 133 ls []) := by
  intro n
  induction n with
  | zero =>
    intro v0 v4 v6 h hf
    cases hf
  | succ n ih =>
    intro v0 v4 v6 h hf H locs ls M hl
    rw [f_X10_leastBehind_133] at hf
    refine lv_iload X.1 X.2.1 dX10_leastBehind_133 (lv_at hl 2 rfl) ?_
    refine lv_aload_n X.1 X.2.1 dX10_leastBehind_135 rfl (lv_at hl 0 rfl) ?_
    obtain ⟨t1, q2, hf⟩ := bnd hf
    refine x_geti fl_X10_13 X M q2 dX10_leastBehind_136 ?_
    refine lv_icmp_ge (tgt := 180) X.1 X.2.1 dX10_leastBehind_139 (by decide) (fun c3 => ?_) (fun c3 => ?_)
    · have hf := ifp c3 hf
      refine lv_aload_n X.1 X.2.1 dX10_leastBehind_180 rfl (lv_at hl 0 rfl) ?_
      obtain ⟨⟨⟩, q4, hf⟩ := bnd hf
      obtain ⟨h6, q5, hf⟩ := bnd hf
      refine x_callVv (As := []) cf_X10_360 (c_X10_putBack l G N v0 h _ q5) rfl ⟨rfl, rfl, Nat.le_of_ble_eq_true rfl, Nat.le_of_ble_eq_true rfl⟩ ⟨Nat.le_of_ble_eq_true rfl, Nat.le_of_ble_eq_true rfl⟩ X M (x_recv cls_X10 X M q4) rfl rfl hl.1 (Nat.le_of_ble_eq_true rfl) dX10_leastBehind_181 (fun H locs M => ?_)
      refine lv_lload X.1 X.2.1 dX10_leastBehind_184 (lv_at hl 1 rfl) ?_
      obtain ⟨rfl, rfl⟩ := rt2 hf
      exact x_lret X hr hk M dX10_leastBehind_186
    · have hf := ifn c3 hf
      refine lv_aload_n X.1 X.2.1 dX10_leastBehind_142 rfl (lv_at hl 0 rfl) ?_
      refine lv_iload X.1 X.2.1 dX10_leastBehind_143 (lv_at hl 2 rfl) ?_
      refine lv_aload_n X.1 X.2.1 dX10_leastBehind_145 rfl (lv_at hl 0 rfl) ?_
      obtain ⟨t7, q8, hf⟩ := bnd hf
      refine x_getr fl_X10_41 X M q8 dX10_leastBehind_146 ?_
      refine lv_iload X.1 X.2.1 dX10_leastBehind_149 (lv_at hl 2 rfl) ?_
      obtain ⟨t9, q10, hf⟩ := bnd hf
      refine x_iald X M q10 dX10_leastBehind_151 ?_
      obtain ⟨⟨⟩, q11, hf⟩ := bnd hf
      obtain ⟨t14, h13, q12, hf⟩ := bnd2 hf
      refine x_callVl (As := [.int v6, .int t9]) cf_X10_225 (c_X10_worthOf l G N v0 v6 t9 h _ _ q12) rfl ⟨rfl, rfl, Nat.le_of_ble_eq_true rfl, Nat.le_of_ble_eq_true rfl⟩ ⟨Nat.le_of_ble_eq_true rfl, Nat.le_of_ble_eq_true rfl⟩ X M (x_recv cls_X10 X M q11) rfl rfl hl.1 (Nat.le_of_ble_eq_true rfl) dX10_leastBehind_152 (fun H locs M => ?_)
      refine lv_lstore (lv' := [(7, .long t14), (0, .ref (gB G + v0)), (4, .long v4), (6, .int v6)]) X.1 X.2.1 dX10_leastBehind_155 hl (by decide) rfl (fun ls hl => ?_)
      refine lv_lload X.1 X.2.1 dX10_leastBehind_157 (lv_at hl 0 rfl) ?_
      refine lv_lload X.1 X.2.1 dX10_leastBehind_159 (lv_at hl 2 rfl) ?_
      refine W.lcmp X.1 X.2.1 dX10_leastBehind_161 ?_
      refine lv_if_ge (tgt := 170) X.1 X.2.1 dX10_leastBehind_162 (by decide) (fun c15 => ?_) (fun c15 => ?_)
      · have hf := ifp c15 hf
        refine lv_lload X.1 X.2.1 dX10_leastBehind_170 (lv_at hl 2 rfl) ?_
        exact w_X10_leastBehind_172 X hr hk N _ (fun v0 v4 v6 h hf H locs ls M hl => ih v0 v4 v6 h hf H locs ls M hl) v0 v6 v4 h13 hf _ _ _ M (lv_sub hl [1, 3] rfl)
      · have hf := ifn c15 hf
        refine lv_lload X.1 X.2.1 dX10_leastBehind_165 (lv_at hl 0 rfl) ?_
        refine lv_goto (tgt := 172) X.1 X.2.1 dX10_leastBehind_167 (by decide) ?_
        exact w_X10_leastBehind_172 X hr hk N _ (fun v0 v4 v6 h hf H locs ls M hl => ih v0 v4 v6 h hf H locs ls M hl) v0 v6 t14 h13 hf _ _ _ M (lv_sub hl [1, 3] rfl)
def f_X10_leastBehind_128 (N : Nat) (v0 : Nat) (s0 : Int64) (h : Mem) : Option (Int64 × Mem) :=
  f_X10_leastBehind_133 N N v0 s0 (0 : Int32) h
set_option maxRecDepth 100000 in
set_option maxHeartbeats 4000000 in
theorem w_X10_leastBehind_128 {p : Program} {l : Launch} {e : Env} {s : State} {m : MethodId} {args : Array Value} {below : List Frame} {meth : Method} {c : Code} {G : Gx} {r : Int64} {h' : Mem} (X : CX G p s m args c cX10_leastBehind 9 RX10) (hr : meth.sig.returnType = (Option.some Jvm.ClassFile.FieldType.long)) (hk : meth.locks = false) (N : Nat) : ∀ (v0 : Nat) (s0 : Int64) (h : Mem), f_X10_leastBehind_128 N v0 s0 h = some (r, h') → ∀ (H : Heap) (locs : List Loc) (ls : Array Slot), MS G s h H locs 0 → lv_has ls 9 [(0, .ref (gB G + v0))] → W p l e (rm_X10_leastBehind) s m args below meth c H locs 0 0 (QL G below args s r h' 0 0) (F0 m 128 ls [.long s0]) := by
  intro v0 s0 h hf H locs ls M hl
  rw [f_X10_leastBehind_128] at hf
  refine lv_lstore (lv' := [(4, .long s0), (0, .ref (gB G + v0))]) X.1 X.2.1 dX10_leastBehind_128 hl (by decide) rfl (fun ls hl => ?_)
  refine lv_iconst (v := (0 : Int32)) X.1 X.2.1 dX10_leastBehind_130 (by decide) ?_
  refine lv_istore (lv' := [(6, .int (0 : Int32)), (4, .long s0), (0, .ref (gB G + v0))]) X.1 X.2.1 dX10_leastBehind_131 hl (by decide) rfl (fun ls hl => ?_)
  exact w_X10_leastBehind_133 X hr hk N N v0 s0 (0 : Int32) h hf _ _ _ M (lv_sub hl [2, 1, 0] rfl)
def f_X10_leastBehind_6 (N : Nat) (n : Nat) (v0 : Nat) (v1 : Int32) (v2 : Int32) (v3 : Int32) (h : Mem) : Option (Int64 × Mem) := match n with
  | 0 => none
  | n + 1 =>
    (gI h v0 10 50).bind fun t1 =>
    if t1 ≤ v3 then
      (ck h v0 10).bind fun _ =>
      b2 (f_X10_endAll N v0 v2 h) fun t7 h6 =>
      if 0 ≤ t7 then
        f_X10_leastBehind_128 N v0 (9223372036854775807 : Int64) h6
      else
        f_X10_leastBehind_128 N v0 (0 : Int64) h6
    else
      if ((v1 >>> (v3 &&& 31)) &&& (1 : Int32)) = 0 then
        f_X10_leastBehind_6 N n v0 v1 v2 (v3 + 1) h
      else
        (gR h v0 10 51).bind fun t10 =>
        (lI 100 h t10 v3).bind fun t12 =>
        if t12 = 0 then
          (gR h v0 10 6).bind fun t15 =>
          (gR h v0 10 52).bind fun t17 =>
          (lI 100 h t17 v3).bind fun t19 =>
          (gR h v0 10 53).bind fun t21 =>
          (lI 100 h t21 v3).bind fun t23 =>
          (stI 100 h t15 t19 t23).bind fun h25 =>
          f_X10_leastBehind_51 N v0 v1 v2 v3 h25 (fun v0 v1 v2 v3 h => f_X10_leastBehind_6 N n v0 v1 v2 v3 h)
        else
          f_X10_leastBehind_51 N v0 v1 v2 v3 h (fun v0 v1 v2 v3 h => f_X10_leastBehind_6 N n v0 v1 v2 v3 h)
set_option maxRecDepth 100000 in
set_option maxHeartbeats 4000000 in
theorem w_X10_leastBehind_6 {p : Program} {l : Launch} {e : Env} {s : State} {m : MethodId} {args : Array Value} {below : List Frame} {meth : Method} {c : Code} {G : Gx} {r : Int64} {h' : Mem} (X : CX G p s m args c cX10_leastBehind 9 RX10) (hr : meth.sig.returnType = (Option.some Jvm.ClassFile.FieldType.long)) (hk : meth.locks = false) (N : Nat) : ∀ (n : Nat) (v0 : Nat) (v1 : Int32) (v2 : Int32) (v3 : Int32) (h : Mem), f_X10_leastBehind_6 N n v0 v1 v2 v3 h = some (r, h') → ∀ (H : Heap) (locs : List Loc) (ls : Array Slot), MS G s h H locs 0 → lv_has ls 9 [(0, .ref (gB G + v0)), (1, .int v1), (2, .int v2), (3, .int v3)] → W p l e (rm_X10_leastBehind) s m args below meth c H locs 0 0 (QL G below args s r h' 0 0) (F0 m 6 ls []) := by
  intro n
  induction n with
  | zero =>
    intro v0 v1 v2 v3 h hf
    cases hf
  | succ n ih =>
    intro v0 v1 v2 v3 h hf H locs ls M hl
    rw [f_X10_leastBehind_6] at hf
    refine lv_iload_n X.1 X.2.1 dX10_leastBehind_6 rfl (lv_at hl 3 rfl) ?_
    refine lv_aload_n X.1 X.2.1 dX10_leastBehind_7 rfl (lv_at hl 0 rfl) ?_
    obtain ⟨t1, q2, hf⟩ := bnd hf
    refine x_geti fl_X10_164 X M q2 dX10_leastBehind_8 ?_
    refine lv_icmp_ge (tgt := 111) X.1 X.2.1 dX10_leastBehind_11 (by decide) (fun c3 => ?_) (fun c3 => ?_)
    · have hf := ifp c3 hf
      refine lv_aload_n X.1 X.2.1 dX10_leastBehind_111 rfl (lv_at hl 0 rfl) ?_
      refine lv_iload_n X.1 X.2.1 dX10_leastBehind_112 rfl (lv_at hl 2 rfl) ?_
      obtain ⟨⟨⟩, q4, hf⟩ := bnd hf
      obtain ⟨t7, h6, q5, hf⟩ := bnd2 hf
      refine x_callVi (As := [.int v2]) cf_X10_348 (c_X10_endAll l G N v0 v2 h _ _ q5) rfl ⟨rfl, rfl, Nat.le_of_ble_eq_true rfl, Nat.le_of_ble_eq_true rfl⟩ ⟨Nat.le_of_ble_eq_true rfl, Nat.le_of_ble_eq_true rfl⟩ X M (x_recv cls_X10 X M q4) rfl rfl hl.1 (Nat.le_of_ble_eq_true rfl) dX10_leastBehind_113 (fun H locs M => ?_)
      refine lv_istore_n (lv' := [(3, .int t7), (0, .ref (gB G + v0)), (1, .int v1), (2, .int v2)]) X.1 X.2.1 dX10_leastBehind_116 rfl hl (by decide) rfl (fun ls hl => ?_)
      refine lv_iload_n X.1 X.2.1 dX10_leastBehind_117 rfl (lv_at hl 0 rfl) ?_
      refine lv_if_ge (tgt := 125) X.1 X.2.1 dX10_leastBehind_118 (by decide) (fun c8 => ?_) (fun c8 => ?_)
      · have hf := ifp c8 hf
        refine lv_ldc2 X.1 X.2.1 X.2.2.2.1 (X.2.2.2.2.1 _ k_1459) dX10_leastBehind_125 ?_
        exact w_X10_leastBehind_128 X hr hk N v0 (9223372036854775807 : Int64) h6 hf _ _ _ M (lv_sub hl [1] rfl)
      · have hf := ifn c8 hf
        refine lv_lconst (v := 0) X.1 X.2.1 dX10_leastBehind_121 rfl ?_
        refine lv_goto (tgt := 128) X.1 X.2.1 dX10_leastBehind_122 (by decide) ?_
        exact w_X10_leastBehind_128 X hr hk N v0 (0 : Int64) h6 hf _ _ _ M (lv_sub hl [1] rfl)
    · have hf := ifn c3 hf
      refine lv_iload_n X.1 X.2.1 dX10_leastBehind_14 rfl (lv_at hl 1 rfl) ?_
      refine lv_iload_n X.1 X.2.1 dX10_leastBehind_15 rfl (lv_at hl 3 rfl) ?_
      refine lv_ishr X.1 X.2.1 dX10_leastBehind_16 ?_
      refine lv_iconst (v := (1 : Int32)) X.1 X.2.1 dX10_leastBehind_17 (by decide) ?_
      refine lv_iand X.1 X.2.1 dX10_leastBehind_18 ?_
      refine lv_if_ne (tgt := 25) X.1 X.2.1 dX10_leastBehind_19 (by decide) (fun c9 => ?_) (fun c9 => ?_)
      · have hf := ifn c9 hf
        refine lv_aload_n X.1 X.2.1 dX10_leastBehind_25 rfl (lv_at hl 0 rfl) ?_
        obtain ⟨t10, q11, hf⟩ := bnd hf
        refine x_getr fl_X10_167 X M q11 dX10_leastBehind_26 ?_
        refine lv_iload_n X.1 X.2.1 dX10_leastBehind_29 rfl (lv_at hl 3 rfl) ?_
        obtain ⟨t12, q13, hf⟩ := bnd hf
        refine x_iald X M q13 dX10_leastBehind_30 ?_
        refine lv_if_ne (tgt := 51) X.1 X.2.1 dX10_leastBehind_31 (by decide) (fun c14 => ?_) (fun c14 => ?_)
        · have hf := ifn c14 hf
          exact w_X10_leastBehind_51 X hr hk N _ (fun v0 v1 v2 v3 h hf H locs ls M hl => ih v0 v1 v2 v3 h hf H locs ls M hl) v0 v1 v2 v3 h hf _ _ _ M (lv_sub hl [0, 1, 2, 3] rfl)
        · have hf := ifp c14 hf
          refine lv_aload_n X.1 X.2.1 dX10_leastBehind_34 rfl (lv_at hl 0 rfl) ?_
          obtain ⟨t15, q16, hf⟩ := bnd hf
          refine x_getr fl_X10_29 X M q16 dX10_leastBehind_35 ?_
          refine lv_aload_n X.1 X.2.1 dX10_leastBehind_38 rfl (lv_at hl 0 rfl) ?_
          obtain ⟨t17, q18, hf⟩ := bnd hf
          refine x_getr fl_X10_170 X M q18 dX10_leastBehind_39 ?_
          refine lv_iload_n X.1 X.2.1 dX10_leastBehind_42 rfl (lv_at hl 3 rfl) ?_
          obtain ⟨t19, q20, hf⟩ := bnd hf
          refine x_iald X M q20 dX10_leastBehind_43 ?_
          refine lv_aload_n X.1 X.2.1 dX10_leastBehind_44 rfl (lv_at hl 0 rfl) ?_
          obtain ⟨t21, q22, hf⟩ := bnd hf
          refine x_getr fl_X10_173 X M q22 dX10_leastBehind_45 ?_
          refine lv_iload_n X.1 X.2.1 dX10_leastBehind_48 rfl (lv_at hl 3 rfl) ?_
          obtain ⟨t23, q24, hf⟩ := bnd hf
          refine x_iald X M q24 dX10_leastBehind_49 ?_
          obtain ⟨h25, q26, hf⟩ := bnd hf
          refine x_iast X M q26 dX10_leastBehind_50 (fun H locs M => ?_)
          exact w_X10_leastBehind_51 X hr hk N _ (fun v0 v1 v2 v3 h hf H locs ls M hl => ih v0 v1 v2 v3 h hf H locs ls M hl) v0 v1 v2 v3 h25 hf _ _ _ M (lv_sub hl [0, 1, 2, 3] rfl)
      · have hf := ifp c9 hf
        refine lv_goto (tgt := 105) X.1 X.2.1 dX10_leastBehind_22 (by decide) ?_
        refine lv_iinc (v := (v3 + 1)) (lv' := [(3, .int (v3 + 1)), (0, .ref (gB G + v0)), (1, .int v1), (2, .int v2)]) X.1 X.2.1 dX10_leastBehind_105 hl (k := 3) rfl (by first | rfl | decide) (by decide) rfl (fun ls hl => ?_)
        refine lv_goto (tgt := 6) X.1 X.2.1 dX10_leastBehind_108 (by decide) ?_
        exact ih v0 v1 v2 (v3 + 1) h hf _ _ _ M (lv_sub hl [1, 2, 3, 0] rfl)
def f_X10_leastBehind (N : Nat) (v0 : Nat) (v1 : Int32) (v2 : Int32) (h : Mem) : Option (Int64 × Mem) :=
  (ck h v0 10).bind fun _ =>
  (f_X10_keep N v0 h).bind fun h3 =>
  f_X10_leastBehind_6 N N v0 v1 v2 (0 : Int32) h3
set_option maxRecDepth 100000 in
set_option maxHeartbeats 4000000 in
theorem w_X10_leastBehind {p : Program} {l : Launch} {e : Env} {s : State} {m : MethodId} {args : Array Value} {below : List Frame} {meth : Method} {c : Code} {G : Gx} {r : Int64} {h' : Mem} (X : CX G p s m args c cX10_leastBehind 9 RX10) (hr : meth.sig.returnType = (Option.some Jvm.ClassFile.FieldType.long)) (hk : meth.locks = false) (N : Nat) : ∀ (v0 : Nat) (v1 : Int32) (v2 : Int32) (h : Mem), f_X10_leastBehind N v0 v1 v2 h = some (r, h') → ∀ (H : Heap) (locs : List Loc) (ls : Array Slot), MS G s h H locs 0 → lv_has ls 9 [(0, .ref (gB G + v0)), (1, .int v1), (2, .int v2)] → W p l e (rm_X10_leastBehind) s m args below meth c H locs 0 0 (QL G below args s r h' 0 0) (F0 m 0 ls []) := by
  intro v0 v1 v2 h hf H locs ls M hl
  rw [f_X10_leastBehind] at hf
  refine lv_aload_n X.1 X.2.1 dX10_leastBehind_0 rfl (lv_at hl 0 rfl) ?_
  obtain ⟨⟨⟩, q1, hf⟩ := bnd hf
  obtain ⟨h3, q2, hf⟩ := bnd hf
  refine x_callVv (As := []) cf_X10_354 (c_X10_keep l G N v0 h _ q2) rfl ⟨rfl, rfl, Nat.le_of_ble_eq_true rfl, Nat.le_of_ble_eq_true rfl⟩ ⟨Nat.le_of_ble_eq_true rfl, Nat.le_of_ble_eq_true rfl⟩ X M (x_recv cls_X10 X M q1) rfl rfl hl.1 (Nat.le_of_ble_eq_true rfl) dX10_leastBehind_1 (fun H locs M => ?_)
  refine lv_iconst (v := (0 : Int32)) X.1 X.2.1 dX10_leastBehind_4 (by decide) ?_
  refine lv_istore_n (lv' := [(3, .int (0 : Int32)), (0, .ref (gB G + v0)), (1, .int v1), (2, .int v2)]) X.1 X.2.1 dX10_leastBehind_5 rfl hl (by decide) rfl (fun ls hl => ?_)
  exact w_X10_leastBehind_6 X hr hk N N v0 v1 v2 (0 : Int32) h3 hf _ _ _ M (lv_sub hl [1, 2, 3, 0] rfl)
theorem c_X10_leastBehind (l : Launch) (G : Gx) (N : Nat) (v0 : Nat) (v1 : Int32) (v2 : Int32) (h : Mem) (r : Int64) (h' : Mem) (hf : f_X10_leastBehind N v0 v1 v2 h = some (r, h')) : MetG l G yX10_leastBehind (.code yX10_leastBehind cX10_leastBehind 9 (Option.some Jvm.ClassFile.FieldType.long)) rm_X10_leastBehind [.ref (gB G + v0), .int v1, .int v2] h (QcL G r h') 0 0 :=
  x_met (by decide) rfl (Nat.le_of_ble_eq_true rfl) (fun p e s m args below meth c ls X M hr hk hin hl => w_X10_leastBehind X hr hk N v0 v1 v2 h hf _ _ ls M hl)
abbrev rm_X10_mend : Room := { frames := 17, cells := 0, slots := 0, locals := 420 }
def f_X10_mend_102 (N : Nat) (v0 : Nat) (v1 : Int32) (v2 : Int32) (v6 : Int32) (v7 : Int64) (h : Mem) (k23 : Nat → Int32 → Int32 → Int32 → Int64 → Int32 → Mem → Option (Int32 × Mem)) : Option (Int32 × Mem) :=
  k23 v0 v1 v2 v6 v7 (v6 + 1) h
set_option maxRecDepth 100000 in
set_option maxHeartbeats 4000000 in
theorem w_X10_mend_102 {p : Program} {l : Launch} {e : Env} {s : State} {m : MethodId} {args : Array Value} {below : List Frame} {meth : Method} {c : Code} {G : Gx} {r : Int32} {h' : Mem} (X : CX G p s m args c cX10_mend 9 RX10) (hr : meth.sig.returnType = (Option.some Jvm.ClassFile.FieldType.int)) (hk : meth.locks = false) (N : Nat) (k23 : Nat → Int32 → Int32 → Int32 → Int64 → Int32 → Mem → Option (Int32 × Mem)) (K23 : ∀ (v0 : Nat) (v1 : Int32) (v2 : Int32) (v3 : Int32) (v4 : Int64) (v6 : Int32) (h : Mem), k23 v0 v1 v2 v3 v4 v6 h = some (r, h') → ∀ (H : Heap) (locs : List Loc) (ls : Array Slot), MS G s h H locs 0 → lv_has ls 9 [(0, .ref (gB G + v0)), (1, .int v1), (2, .int v2), (3, .int v3), (4, .long v4), (6, .int v6)] → W p l e (rm_X10_mend) s m args below meth c H locs 0 0 (QI G below args s r h' 0 0) (F0 m 23 ls [])) : ∀ (v0 : Nat) (v1 : Int32) (v2 : Int32) (v6 : Int32) (v7 : Int64) (h : Mem), f_X10_mend_102 N v0 v1 v2 v6 v7 h k23 = some (r, h') → ∀ (H : Heap) (locs : List Loc) (ls : Array Slot), MS G s h H locs 0 → lv_has ls 9 [(0, .ref (gB G + v0)), (1, .int v1), (2, .int v2), (6, .int v6), (7, .long v7)] → W p l e (rm_X10_mend) s m args below meth c H locs 0 0 (QI G below args s r h' 0 0) (F0 m 102 ls []) := by
  intro v0 v1 v2 v6 v7 h hf H locs ls M hl
  rw [f_X10_mend_102] at hf
  refine lv_iload X.1 X.2.1 dX10_mend_102 (lv_at hl 3 rfl) ?_
  refine lv_istore_n (lv' := [(3, .int v6), (0, .ref (gB G + v0)), (1, .int v1), (2, .int v2), (6, .int v6), (7, .long v7)]) X.1 X.2.1 dX10_mend_104 rfl hl (by decide) rfl (fun ls hl => ?_)
  refine lv_lload X.1 X.2.1 dX10_mend_105 (lv_at hl 5 rfl) ?_
  refine lv_lstore (lv' := [(4, .long v7), (3, .int v6), (0, .ref (gB G + v0)), (1, .int v1), (2, .int v2), (6, .int v6), (7, .long v7)]) X.1 X.2.1 dX10_mend_107 hl (by decide) rfl (fun ls hl => ?_)
  refine lv_iinc (v := (v6 + 1)) (lv' := [(6, .int (v6 + 1)), (4, .long v7), (3, .int v6), (0, .ref (gB G + v0)), (1, .int v1), (2, .int v2), (7, .long v7)]) X.1 X.2.1 dX10_mend_109 hl (k := 5) rfl (by first | rfl | decide) (by decide) rfl (fun ls hl => ?_)
  refine lv_goto (tgt := 23) X.1 X.2.1 dX10_mend_112 (by decide) ?_
  exact K23 v0 v1 v2 v6 v7 (v6 + 1) h hf _ _ _ M (lv_sub hl [3, 4, 5, 2, 1, 0] rfl)
def f_X10_mend_23 (N : Nat) (n : Nat) (v0 : Nat) (v1 : Int32) (v2 : Int32) (v3 : Int32) (v4 : Int64) (v6 : Int32) (h : Mem) : Option (Int32 × Mem) := match n with
  | 0 => none
  | n + 1 =>
    (gI h v0 10 50).bind fun t1 =>
    if ((1 : Int32) <<< (t1 &&& 31)) ≤ v6 then
      some (v3, h)
    else
      (ck h v0 10).bind fun _ =>
      b2 (f_X10_isSet N v0 v6 h) fun t7 h6 =>
      if t7 = 0 then
        f_X10_mend_23 N n v0 v1 v2 v3 v4 (v6 + 1) h6
      else
        (ck h6 v0 10).bind fun _ =>
        b2 (f_X10_priceOf N v0 v6 h6) fun t12 h11 =>
        if t12 ≤ v1 then
          (ck h11 v0 10).bind fun _ =>
          b2 (f_X10_leastBehind N v0 v6 v2 h11) fun t17 h16 =>
          if v3 < 0 then
            f_X10_mend_102 N v0 v1 v2 v6 t17 h16 (fun v0 v1 v2 v3 v4 v6 h => f_X10_mend_23 N n v0 v1 v2 v3 v4 v6 h)
          else
            if (lg_cmp t17 v4) < 0 then
              f_X10_mend_23 N n v0 v1 v2 v3 v4 (v6 + 1) h16
            else
              if (lg_cmp t17 v4) = 0 then
                (ck h16 v0 10).bind fun _ =>
                b2 (f_X10_priceOf N v0 v6 h16) fun t24 h23 =>
                (ck h23 v0 10).bind fun _ =>
                b2 (f_X10_priceOf N v0 v3 h23) fun t28 h27 =>
                if t24 < t28 then
                  f_X10_mend_102 N v0 v1 v2 v6 t17 h27 (fun v0 v1 v2 v3 v4 v6 h => f_X10_mend_23 N n v0 v1 v2 v3 v4 v6 h)
                else
                  f_X10_mend_23 N n v0 v1 v2 v3 v4 (v6 + 1) h27
              else
                f_X10_mend_102 N v0 v1 v2 v6 t17 h16 (fun v0 v1 v2 v3 v4 v6 h => f_X10_mend_23 N n v0 v1 v2 v3 v4 v6 h)
        else
          f_X10_mend_23 N n v0 v1 v2 v3 v4 (v6 + 1) h11
set_option maxRecDepth 100000 in
set_option maxHeartbeats 4000000 in
theorem w_X10_mend_23 {p : Program} {l : Launch} {e : Env} {s : State} {m : MethodId} {args : Array Value} {below : List Frame} {meth : Method} {c : Code} {G : Gx} {r : Int32} {h' : Mem} (X : CX G p s m args c cX10_mend 9 RX10) (hr : meth.sig.returnType = (Option.some Jvm.ClassFile.FieldType.int)) (hk : meth.locks = false) (N : Nat) : ∀ (n : Nat) (v0 : Nat) (v1 : Int32) (v2 : Int32) (v3 : Int32) (v4 : Int64) (v6 : Int32) (h : Mem), f_X10_mend_23 N n v0 v1 v2 v3 v4 v6 h = some (r, h') → ∀ (H : Heap) (locs : List Loc) (ls : Array Slot), MS G s h H locs 0 → lv_has ls 9 [(0, .ref (gB G + v0)), (1, .int v1), (2, .int v2), (3, .int v3), (4, .long v4), (6, .int v6)] → W p l e (rm_X10_mend) s m args below meth c H locs 0 0 (QI G below args s r h' 0 0) (F0 m 23 ls []) := by
  intro n
  induction n with
  | zero =>
    intro v0 v1 v2 v3 v4 v6 h hf
    cases hf
  | succ n ih =>
    intro v0 v1 v2 v3 v4 v6 h hf H locs ls M hl
    rw [f_X10_mend_23] at hf
    refine lv_iload X.1 X.2.1 dX10_mend_23 (lv_at hl 5 rfl) ?_
    refine lv_iconst (v := (1 : Int32)) X.1 X.2.1 dX10_mend_25 (by decide) ?_
    refine lv_aload_n X.1 X.2.1 dX10_mend_26 rfl (lv_at hl 0 rfl) ?_
    obtain ⟨t1, q2, hf⟩ := bnd hf
    refine x_geti fl_X10_164 X M q2 dX10_mend_27 ?_
    refine lv_ishl X.1 X.2.1 dX10_mend_30 ?_
    refine lv_icmp_ge (tgt := 115) X.1 X.2.1 dX10_mend_31 (by decide) (fun c3 => ?_) (fun c3 => ?_)
    · have hf := ifp c3 hf
      refine lv_iload_n X.1 X.2.1 dX10_mend_115 rfl (lv_at hl 3 rfl) ?_
      obtain ⟨rfl, rfl⟩ := rt2 hf
      exact x_iret X hr hk M dX10_mend_116
    · have hf := ifn c3 hf
      refine lv_aload_n X.1 X.2.1 dX10_mend_34 rfl (lv_at hl 0 rfl) ?_
      refine lv_iload X.1 X.2.1 dX10_mend_35 (lv_at hl 5 rfl) ?_
      obtain ⟨⟨⟩, q4, hf⟩ := bnd hf
      obtain ⟨t7, h6, q5, hf⟩ := bnd2 hf
      refine x_callVi (As := [.int v6]) cf_X10_380 (c_X10_isSet l G N v0 v6 h _ _ q5) rfl ⟨rfl, rfl, Nat.le_of_ble_eq_true rfl, Nat.le_of_ble_eq_true rfl⟩ ⟨Nat.le_of_ble_eq_true rfl, Nat.le_of_ble_eq_true rfl⟩ X M (x_recv cls_X10 X M q4) rfl rfl hl.1 (Nat.le_of_ble_eq_true rfl) dX10_mend_37 (fun H locs M => ?_)
      refine lv_if_eq (tgt := 109) X.1 X.2.1 dX10_mend_40 (by decide) (fun c8 => ?_) (fun c8 => ?_)
      · have hf := ifp c8 hf
        refine lv_iinc (v := (v6 + 1)) (lv' := [(6, .int (v6 + 1)), (0, .ref (gB G + v0)), (1, .int v1), (2, .int v2), (3, .int v3), (4, .long v4)]) X.1 X.2.1 dX10_mend_109 hl (k := 5) rfl (by first | rfl | decide) (by decide) rfl (fun ls hl => ?_)
        refine lv_goto (tgt := 23) X.1 X.2.1 dX10_mend_112 (by decide) ?_
        exact ih v0 v1 v2 v3 v4 (v6 + 1) h6 hf _ _ _ M (lv_sub hl [1, 2, 3, 4, 5, 0] rfl)
      · have hf := ifn c8 hf
        refine lv_aload_n X.1 X.2.1 dX10_mend_43 rfl (lv_at hl 0 rfl) ?_
        refine lv_iload X.1 X.2.1 dX10_mend_44 (lv_at hl 5 rfl) ?_
        obtain ⟨⟨⟩, q9, hf⟩ := bnd hf
        obtain ⟨t12, h11, q10, hf⟩ := bnd2 hf
        refine x_callVi (As := [.int v6]) cf_X10_383 (c_X10_priceOf l G N v0 v6 h6 _ _ q10) rfl ⟨rfl, rfl, Nat.le_of_ble_eq_true rfl, Nat.le_of_ble_eq_true rfl⟩ ⟨Nat.le_of_ble_eq_true rfl, Nat.le_of_ble_eq_true rfl⟩ X M (x_recv cls_X10 X M q9) rfl rfl hl.1 (Nat.le_of_ble_eq_true rfl) dX10_mend_46 (fun H locs M => ?_)
        refine lv_iload_n X.1 X.2.1 dX10_mend_49 rfl (lv_at hl 1 rfl) ?_
        refine lv_icmp_le (tgt := 56) X.1 X.2.1 dX10_mend_50 (by decide) (fun c13 => ?_) (fun c13 => ?_)
        · have hf := ifp c13 hf
          refine lv_aload_n X.1 X.2.1 dX10_mend_56 rfl (lv_at hl 0 rfl) ?_
          refine lv_iload X.1 X.2.1 dX10_mend_57 (lv_at hl 5 rfl) ?_
          refine lv_iload_n X.1 X.2.1 dX10_mend_59 rfl (lv_at hl 2 rfl) ?_
          obtain ⟨⟨⟩, q14, hf⟩ := bnd hf
          obtain ⟨t17, h16, q15, hf⟩ := bnd2 hf
          refine x_callVl (As := [.int v6, .int v2]) cf_X10_386 (c_X10_leastBehind l G N v0 v6 v2 h11 _ _ q15) rfl ⟨rfl, rfl, Nat.le_of_ble_eq_true rfl, Nat.le_of_ble_eq_true rfl⟩ ⟨Nat.le_of_ble_eq_true rfl, Nat.le_of_ble_eq_true rfl⟩ X M (x_recv cls_X10 X M q14) rfl rfl hl.1 (Nat.le_of_ble_eq_true rfl) dX10_mend_60 (fun H locs M => ?_)
          refine lv_lstore (lv' := [(7, .long t17), (0, .ref (gB G + v0)), (1, .int v1), (2, .int v2), (3, .int v3), (4, .long v4), (6, .int v6)]) X.1 X.2.1 dX10_mend_63 hl (by decide) rfl (fun ls hl => ?_)
          refine lv_iload_n X.1 X.2.1 dX10_mend_65 rfl (lv_at hl 4 rfl) ?_
          refine lv_if_lt (tgt := 102) X.1 X.2.1 dX10_mend_66 (by decide) (fun c18 => ?_) (fun c18 => ?_)
          · have hf := ifp c18 hf
            exact w_X10_mend_102 X hr hk N _ (fun v0 v1 v2 v3 v4 v6 h hf H locs ls M hl => ih v0 v1 v2 v3 v4 v6 h hf H locs ls M hl) v0 v1 v2 v6 t17 h16 hf _ _ _ M (lv_sub hl [1, 2, 3, 6, 0] rfl)
          · have hf := ifn c18 hf
            refine lv_lload X.1 X.2.1 dX10_mend_69 (lv_at hl 0 rfl) ?_
            refine lv_lload X.1 X.2.1 dX10_mend_71 (lv_at hl 5 rfl) ?_
            refine W.lcmp X.1 X.2.1 dX10_mend_73 ?_
            refine lv_if_lt (tgt := 109) X.1 X.2.1 dX10_mend_74 (by decide) (fun c19 => ?_) (fun c19 => ?_)
            · have hf := ifp c19 hf
              refine lv_iinc (v := (v6 + 1)) (lv' := [(6, .int (v6 + 1)), (7, .long t17), (0, .ref (gB G + v0)), (1, .int v1), (2, .int v2), (3, .int v3), (4, .long v4)]) X.1 X.2.1 dX10_mend_109 hl (k := 6) rfl (by first | rfl | decide) (by decide) rfl (fun ls hl => ?_)
              refine lv_goto (tgt := 23) X.1 X.2.1 dX10_mend_112 (by decide) ?_
              exact ih v0 v1 v2 v3 v4 (v6 + 1) h16 hf _ _ _ M (lv_sub hl [2, 3, 4, 5, 6, 0] rfl)
            · have hf := ifn c19 hf
              refine lv_lload X.1 X.2.1 dX10_mend_77 (lv_at hl 0 rfl) ?_
              refine lv_lload X.1 X.2.1 dX10_mend_79 (lv_at hl 5 rfl) ?_
              refine W.lcmp X.1 X.2.1 dX10_mend_81 ?_
              refine lv_if_ne (tgt := 102) X.1 X.2.1 dX10_mend_82 (by decide) (fun c20 => ?_) (fun c20 => ?_)
              · have hf := ifn c20 hf
                exact w_X10_mend_102 X hr hk N _ (fun v0 v1 v2 v3 v4 v6 h hf H locs ls M hl => ih v0 v1 v2 v3 v4 v6 h hf H locs ls M hl) v0 v1 v2 v6 t17 h16 hf _ _ _ M (lv_sub hl [1, 2, 3, 6, 0] rfl)
              · have hf := ifp c20 hf
                refine lv_aload_n X.1 X.2.1 dX10_mend_85 rfl (lv_at hl 1 rfl) ?_
                refine lv_iload X.1 X.2.1 dX10_mend_86 (lv_at hl 6 rfl) ?_
                obtain ⟨⟨⟩, q21, hf⟩ := bnd hf
                obtain ⟨t24, h23, q22, hf⟩ := bnd2 hf
                refine x_callVi (As := [.int v6]) cf_X10_383 (c_X10_priceOf l G N v0 v6 h16 _ _ q22) rfl ⟨rfl, rfl, Nat.le_of_ble_eq_true rfl, Nat.le_of_ble_eq_true rfl⟩ ⟨Nat.le_of_ble_eq_true rfl, Nat.le_of_ble_eq_true rfl⟩ X M (x_recv cls_X10 X M q21) rfl rfl hl.1 (Nat.le_of_ble_eq_true rfl) dX10_mend_88 (fun H locs M => ?_)
                refine lv_aload_n X.1 X.2.1 dX10_mend_91 rfl (lv_at hl 1 rfl) ?_
                refine lv_iload_n X.1 X.2.1 dX10_mend_92 rfl (lv_at hl 4 rfl) ?_
                obtain ⟨⟨⟩, q25, hf⟩ := bnd hf
                obtain ⟨t28, h27, q26, hf⟩ := bnd2 hf
                refine x_callVi (As := [.int v3]) cf_X10_383 (c_X10_priceOf l G N v0 v3 h23 _ _ q26) rfl ⟨rfl, rfl, Nat.le_of_ble_eq_true rfl, Nat.le_of_ble_eq_true rfl⟩ ⟨Nat.le_of_ble_eq_true rfl, Nat.le_of_ble_eq_true rfl⟩ X M (x_recv cls_X10 X M q25) rfl rfl hl.1 (Nat.le_of_ble_eq_true rfl) dX10_mend_93 (fun H locs M => ?_)
                refine lv_icmp_lt (tgt := 102) X.1 X.2.1 dX10_mend_96 (by decide) (fun c29 => ?_) (fun c29 => ?_)
                · have hf := ifp c29 hf
                  exact w_X10_mend_102 X hr hk N _ (fun v0 v1 v2 v3 v4 v6 h hf H locs ls M hl => ih v0 v1 v2 v3 v4 v6 h hf H locs ls M hl) v0 v1 v2 v6 t17 h27 hf _ _ _ M (lv_sub hl [1, 2, 3, 6, 0] rfl)
                · have hf := ifn c29 hf
                  refine lv_goto (tgt := 109) X.1 X.2.1 dX10_mend_99 (by decide) ?_
                  refine lv_iinc (v := (v6 + 1)) (lv' := [(6, .int (v6 + 1)), (7, .long t17), (0, .ref (gB G + v0)), (1, .int v1), (2, .int v2), (3, .int v3), (4, .long v4)]) X.1 X.2.1 dX10_mend_109 hl (k := 6) rfl (by first | rfl | decide) (by decide) rfl (fun ls hl => ?_)
                  refine lv_goto (tgt := 23) X.1 X.2.1 dX10_mend_112 (by decide) ?_
                  exact ih v0 v1 v2 v3 v4 (v6 + 1) h27 hf _ _ _ M (lv_sub hl [2, 3, 4, 5, 6, 0] rfl)
        · have hf := ifn c13 hf
          refine lv_goto (tgt := 109) X.1 X.2.1 dX10_mend_53 (by decide) ?_
          refine lv_iinc (v := (v6 + 1)) (lv' := [(6, .int (v6 + 1)), (0, .ref (gB G + v0)), (1, .int v1), (2, .int v2), (3, .int v3), (4, .long v4)]) X.1 X.2.1 dX10_mend_109 hl (k := 5) rfl (by first | rfl | decide) (by decide) rfl (fun ls hl => ?_)
          refine lv_goto (tgt := 23) X.1 X.2.1 dX10_mend_112 (by decide) ?_
          exact ih v0 v1 v2 v3 v4 (v6 + 1) h11 hf _ _ _ M (lv_sub hl [1, 2, 3, 4, 5, 0] rfl)
def f_X10_mend (N : Nat) (v0 : Nat) (v1 : Int32) (v2 : Int32) (h : Mem) : Option (Int32 × Mem) :=
  (ck h v0 10).bind fun _ =>
  b2 (f_X10_in N v0 v1 (0 : Int32) (999 : Int32) h) fun t4 h3 =>
  if t4 = 0 then
    some ((-2 : Int32), h3)
  else
    f_X10_mend_23 N N v0 v1 v2 (-1 : Int32) (0 : Int64) (0 : Int32) h3
set_option maxRecDepth 100000 in
set_option maxHeartbeats 4000000 in
theorem w_X10_mend {p : Program} {l : Launch} {e : Env} {s : State} {m : MethodId} {args : Array Value} {below : List Frame} {meth : Method} {c : Code} {G : Gx} {r : Int32} {h' : Mem} (X : CX G p s m args c cX10_mend 9 RX10) (hr : meth.sig.returnType = (Option.some Jvm.ClassFile.FieldType.int)) (hk : meth.locks = false) (N : Nat) : ∀ (v0 : Nat) (v1 : Int32) (v2 : Int32) (h : Mem), f_X10_mend N v0 v1 v2 h = some (r, h') → ∀ (H : Heap) (locs : List Loc) (ls : Array Slot), MS G s h H locs 0 → lv_has ls 9 [(0, .ref (gB G + v0)), (1, .int v1), (2, .int v2)] → W p l e (rm_X10_mend) s m args below meth c H locs 0 0 (QI G below args s r h' 0 0) (F0 m 0 ls []) := by
  intro v0 v1 v2 h hf H locs ls M hl
  rw [f_X10_mend] at hf
  refine lv_aload_n X.1 X.2.1 dX10_mend_0 rfl (lv_at hl 0 rfl) ?_
  refine lv_iload_n X.1 X.2.1 dX10_mend_1 rfl (lv_at hl 1 rfl) ?_
  refine lv_iconst (v := (0 : Int32)) X.1 X.2.1 dX10_mend_2 (by decide) ?_
  refine lv_sipush (v := (999 : Int32)) X.1 X.2.1 dX10_mend_3 (by decide) ?_
  obtain ⟨⟨⟩, q1, hf⟩ := bnd hf
  obtain ⟨t4, h3, q2, hf⟩ := bnd2 hf
  refine x_callVi (As := [.int v1, .int (0 : Int32), .int (999 : Int32)]) cf_X10_197 (c_X10_in l G N v0 v1 (0 : Int32) (999 : Int32) h _ _ q2) rfl ⟨rfl, rfl, Nat.le_of_ble_eq_true rfl, Nat.le_of_ble_eq_true rfl⟩ ⟨Nat.le_of_ble_eq_true rfl, Nat.le_of_ble_eq_true rfl⟩ X M (x_recv cls_X10 X M q1) rfl rfl hl.1 (Nat.le_of_ble_eq_true rfl) dX10_mend_6 (fun H locs M => ?_)
  refine lv_if_ne (tgt := 15) X.1 X.2.1 dX10_mend_9 (by decide) (fun c5 => ?_) (fun c5 => ?_)
  · have hf := ifn c5 hf
    refine lv_iconst (v := (-1 : Int32)) X.1 X.2.1 dX10_mend_15 (by decide) ?_
    refine lv_istore_n (lv' := [(3, .int (-1 : Int32)), (0, .ref (gB G + v0)), (1, .int v1), (2, .int v2)]) X.1 X.2.1 dX10_mend_16 rfl hl (by decide) rfl (fun ls hl => ?_)
    refine lv_lconst (v := 0) X.1 X.2.1 dX10_mend_17 rfl ?_
    refine lv_lstore (lv' := [(4, .long (0 : Int64)), (3, .int (-1 : Int32)), (0, .ref (gB G + v0)), (1, .int v1), (2, .int v2)]) X.1 X.2.1 dX10_mend_18 hl (by decide) rfl (fun ls hl => ?_)
    refine lv_iconst (v := (0 : Int32)) X.1 X.2.1 dX10_mend_20 (by decide) ?_
    refine lv_istore (lv' := [(6, .int (0 : Int32)), (4, .long (0 : Int64)), (3, .int (-1 : Int32)), (0, .ref (gB G + v0)), (1, .int v1), (2, .int v2)]) X.1 X.2.1 dX10_mend_21 hl (by decide) rfl (fun ls hl => ?_)
    exact w_X10_mend_23 X hr hk N N v0 v1 v2 (-1 : Int32) (0 : Int64) (0 : Int32) h3 hf _ _ _ M (lv_sub hl [3, 4, 5, 2, 1, 0] rfl)
  · have hf := ifp c5 hf
    refine lv_bipush (v := (-2 : Int32)) X.1 X.2.1 dX10_mend_12 (by decide) ?_
    obtain ⟨rfl, rfl⟩ := rt2 hf
    exact x_iret X hr hk M dX10_mend_14
theorem c_X10_mend (l : Launch) (G : Gx) (N : Nat) (v0 : Nat) (v1 : Int32) (v2 : Int32) (h : Mem) (r : Int32) (h' : Mem) (hf : f_X10_mend N v0 v1 v2 h = some (r, h')) : MetG l G yX10_mend (.code yX10_mend cX10_mend 9 (Option.some Jvm.ClassFile.FieldType.int)) rm_X10_mend [.ref (gB G + v0), .int v1, .int v2] h (QcI G r h') 0 0 :=
  x_met (by decide) rfl (Nat.le_of_ble_eq_true rfl) (fun p e s m args below meth c ls X M hr hk hin hl => w_X10_mend X hr hk N v0 v1 v2 h hf _ _ ls M hl)
abbrev rm_X10_edge : Room := { frames := 17, cells := 0, slots := 0, locals := 413 }
def f_X10_edge_78 (N : Nat) (n : Nat) (v0 : Nat) (v1 : Int32) (v2 : Int32) (v3 : Int32) (v4 : Int32) (v5 : Int32) (v6 : Int32) (v7 : Int32) (h : Mem) (k61 : Nat → Int32 → Int32 → Int32 → Int32 → Int32 → Int32 → Mem → Option (Int32 × Mem)) : Option (Int32 × Mem) := match n with
  | 0 => none
  | n + 1 =>
    if (1 : Int32) < v7 then
      k61 v0 v1 v2 v3 v4 v5 (v6 + 1) h
    else
      if v5 = (-100 : Int32) then
        (gR h v0 10 22).bind fun t3 =>
        (stI 100 h t3 (((3 : Int32) * v1) + v2) (v4 + (v7 * v6))).bind fun h5 =>
        (ck h5 v0 10).bind fun _ =>
        b2 (f_X10_isRest N v0 v3 h5) fun t10 h9 =>
        if t10 = 0 then
          f_X10_edge_78 N n v0 v1 v2 v3 v4 (v7 * v6) v6 (v7 + 2) h9 k61
        else
          f_X10_edge_78 N n v0 v1 v2 v3 v4 v5 v6 (v7 + 2) h9 k61
      else
        k61 v0 v1 v2 v3 v4 v5 (v6 + 1) h
set_option maxRecDepth 100000 in
set_option maxHeartbeats 4000000 in
theorem w_X10_edge_78 {p : Program} {l : Launch} {e : Env} {s : State} {m : MethodId} {args : Array Value} {below : List Frame} {meth : Method} {c : Code} {G : Gx} {r : Int32} {h' : Mem} (X : CX G p s m args c cX10_edge 8 RX10) (hr : meth.sig.returnType = (Option.some Jvm.ClassFile.FieldType.int)) (hk : meth.locks = false) (N : Nat) (k61 : Nat → Int32 → Int32 → Int32 → Int32 → Int32 → Int32 → Mem → Option (Int32 × Mem)) (K61 : ∀ (v0 : Nat) (v1 : Int32) (v2 : Int32) (v3 : Int32) (v4 : Int32) (v5 : Int32) (v6 : Int32) (h : Mem), k61 v0 v1 v2 v3 v4 v5 v6 h = some (r, h') → ∀ (H : Heap) (locs : List Loc) (ls : Array Slot), MS G s h H locs 0 → lv_has ls 8 [(0, .ref (gB G + v0)), (1, .int v1), (2, .int v2), (3, .int v3), (4, .int v4), (5, .int v5), (6, .int v6)] → W p l e (rm_X10_edge) s m args below meth c H locs 0 0 (QI G below args s r h' 0 0) (F0 m 61 ls [])) : ∀ (n : Nat) (v0 : Nat) (v1 : Int32) (v2 : Int32) (v3 : Int32) (v4 : Int32) (v5 : Int32) (v6 : Int32) (v7 : Int32) (h : Mem), f_X10_edge_78 N n v0 v1 v2 v3 v4 v5 v6 v7 h k61 = some (r, h') → ∀ (H : Heap) (locs : List Loc) (ls : Array Slot), MS G s h H locs 0 → lv_has ls 8 [(0, .ref (gB G + v0)), (1, .int v1), (2, .int v2), (3, .int v3), (4, .int v4), (5, .int v5), (6, .int v6), (7, .int v7)] → W p l e (rm_X10_edge) s m args below meth c H locs 0 0 (QI G below args s r h' 0 0) (F0 m 78 ls []) := by
  intro n
  induction n with
  | zero =>
    intro v0 v1 v2 v3 v4 v5 v6 v7 h hf
    cases hf
  | succ n ih =>
    intro v0 v1 v2 v3 v4 v5 v6 v7 h hf H locs ls M hl
    rw [f_X10_edge_78] at hf
    refine lv_iload X.1 X.2.1 dX10_edge_78 (lv_at hl 7 rfl) ?_
    refine lv_iconst (v := (1 : Int32)) X.1 X.2.1 dX10_edge_80 (by decide) ?_
    refine lv_icmp_gt (tgt := 130) X.1 X.2.1 dX10_edge_81 (by decide) (fun c1 => ?_) (fun c1 => ?_)
    · have hf := ifp c1 hf
      refine lv_iinc (v := (v6 + 1)) (lv' := [(6, .int (v6 + 1)), (0, .ref (gB G + v0)), (1, .int v1), (2, .int v2), (3, .int v3), (4, .int v4), (5, .int v5), (7, .int v7)]) X.1 X.2.1 dX10_edge_130 hl (k := 6) rfl (by first | rfl | decide) (by decide) rfl (fun ls hl => ?_)
      refine lv_goto (tgt := 61) X.1 X.2.1 dX10_edge_133 (by decide) ?_
      exact K61 v0 v1 v2 v3 v4 v5 (v6 + 1) h hf _ _ _ M (lv_sub hl [1, 2, 3, 4, 5, 6, 0] rfl)
    · have hf := ifn c1 hf
      refine lv_iload X.1 X.2.1 dX10_edge_84 (lv_at hl 5 rfl) ?_
      refine lv_bipush (v := (-100 : Int32)) X.1 X.2.1 dX10_edge_86 (by decide) ?_
      refine lv_icmp_ne (tgt := 130) X.1 X.2.1 dX10_edge_88 (by decide) (fun c2 => ?_) (fun c2 => ?_)
      · have hf := ifn c2 hf
        refine lv_iinc (v := (v6 + 1)) (lv' := [(6, .int (v6 + 1)), (0, .ref (gB G + v0)), (1, .int v1), (2, .int v2), (3, .int v3), (4, .int v4), (5, .int v5), (7, .int v7)]) X.1 X.2.1 dX10_edge_130 hl (k := 6) rfl (by first | rfl | decide) (by decide) rfl (fun ls hl => ?_)
        refine lv_goto (tgt := 61) X.1 X.2.1 dX10_edge_133 (by decide) ?_
        exact K61 v0 v1 v2 v3 v4 v5 (v6 + 1) h hf _ _ _ M (lv_sub hl [1, 2, 3, 4, 5, 6, 0] rfl)
      · have hf := ifp c2 hf
        refine lv_aload_n X.1 X.2.1 dX10_edge_91 rfl (lv_at hl 0 rfl) ?_
        obtain ⟨t3, q4, hf⟩ := bnd hf
        refine x_getr fl_X10_77 X M q4 dX10_edge_92 ?_
        refine lv_iconst (v := (3 : Int32)) X.1 X.2.1 dX10_edge_95 (by decide) ?_
        refine lv_iload_n X.1 X.2.1 dX10_edge_96 rfl (lv_at hl 1 rfl) ?_
        refine lv_imul X.1 X.2.1 dX10_edge_97 ?_
        refine lv_iload_n X.1 X.2.1 dX10_edge_98 rfl (lv_at hl 2 rfl) ?_
        refine lv_iadd X.1 X.2.1 dX10_edge_99 ?_
        refine lv_iload X.1 X.2.1 dX10_edge_100 (lv_at hl 4 rfl) ?_
        refine lv_iload X.1 X.2.1 dX10_edge_102 (lv_at hl 7 rfl) ?_
        refine lv_iload X.1 X.2.1 dX10_edge_104 (lv_at hl 6 rfl) ?_
        refine lv_imul X.1 X.2.1 dX10_edge_106 ?_
        refine lv_iadd X.1 X.2.1 dX10_edge_107 ?_
        obtain ⟨h5, q6, hf⟩ := bnd hf
        refine x_iast X M q6 dX10_edge_108 (fun H locs M => ?_)
        refine lv_aload_n X.1 X.2.1 dX10_edge_109 rfl (lv_at hl 0 rfl) ?_
        refine lv_iload_n X.1 X.2.1 dX10_edge_110 rfl (lv_at hl 3 rfl) ?_
        obtain ⟨⟨⟩, q7, hf⟩ := bnd hf
        obtain ⟨t10, h9, q8, hf⟩ := bnd2 hf
        refine x_callVi (As := [.int v3]) cf_X10_335 (c_X10_isRest l G N v0 v3 h5 _ _ q8) rfl ⟨rfl, rfl, Nat.le_of_ble_eq_true rfl, Nat.le_of_ble_eq_true rfl⟩ ⟨Nat.le_of_ble_eq_true rfl, Nat.le_of_ble_eq_true rfl⟩ X M (x_recv cls_X10 X M q7) rfl rfl hl.1 (Nat.le_of_ble_eq_true rfl) dX10_edge_111 (fun H locs M => ?_)
        refine lv_if_ne (tgt := 124) X.1 X.2.1 dX10_edge_114 (by decide) (fun c11 => ?_) (fun c11 => ?_)
        · have hf := ifn c11 hf
          refine lv_iinc (v := (v7 + 2)) (lv' := [(7, .int (v7 + 2)), (0, .ref (gB G + v0)), (1, .int v1), (2, .int v2), (3, .int v3), (4, .int v4), (5, .int v5), (6, .int v6)]) X.1 X.2.1 dX10_edge_124 hl (k := 7) rfl (by first | rfl | decide) (by decide) rfl (fun ls hl => ?_)
          refine lv_goto (tgt := 78) X.1 X.2.1 dX10_edge_127 (by decide) ?_
          exact ih v0 v1 v2 v3 v4 v5 v6 (v7 + 2) h9 hf _ _ _ M (lv_sub hl [1, 2, 3, 4, 5, 6, 7, 0] rfl)
        · have hf := ifp c11 hf
          refine lv_iload X.1 X.2.1 dX10_edge_117 (lv_at hl 7 rfl) ?_
          refine lv_iload X.1 X.2.1 dX10_edge_119 (lv_at hl 6 rfl) ?_
          refine lv_imul X.1 X.2.1 dX10_edge_121 ?_
          refine lv_istore (lv' := [(5, .int (v7 * v6)), (0, .ref (gB G + v0)), (1, .int v1), (2, .int v2), (3, .int v3), (4, .int v4), (6, .int v6), (7, .int v7)]) X.1 X.2.1 dX10_edge_122 hl (by decide) rfl (fun ls hl => ?_)
          refine lv_iinc (v := (v7 + 2)) (lv' := [(7, .int (v7 + 2)), (5, .int (v7 * v6)), (0, .ref (gB G + v0)), (1, .int v1), (2, .int v2), (3, .int v3), (4, .int v4), (6, .int v6)]) X.1 X.2.1 dX10_edge_124 hl (k := 7) rfl (by first | rfl | decide) (by decide) rfl (fun ls hl => ?_)
          refine lv_goto (tgt := 78) X.1 X.2.1 dX10_edge_127 (by decide) ?_
          exact ih v0 v1 v2 v3 v4 (v7 * v6) v6 (v7 + 2) h9 hf _ _ _ M (lv_sub hl [2, 3, 4, 5, 6, 1, 7, 0] rfl)
def f_X10_edge_136 (N : Nat) (v0 : Nat) (v1 : Int32) (v2 : Int32) (v4 : Int32) (v5 : Int32) (h : Mem) : Option (Int32 × Mem) :=
  (gR h v0 10 22).bind fun t1 =>
  (stI 100 h t1 (((3 : Int32) * v1) + v2) v4).bind fun h3 =>
  some (v5, h3)
set_option maxRecDepth 100000 in
set_option maxHeartbeats 4000000 in
theorem w_X10_edge_136 {p : Program} {l : Launch} {e : Env} {s : State} {m : MethodId} {args : Array Value} {below : List Frame} {meth : Method} {c : Code} {G : Gx} {r : Int32} {h' : Mem} (X : CX G p s m args c cX10_edge 8 RX10) (hr : meth.sig.returnType = (Option.some Jvm.ClassFile.FieldType.int)) (hk : meth.locks = false) (N : Nat) : ∀ (v0 : Nat) (v1 : Int32) (v2 : Int32) (v4 : Int32) (v5 : Int32) (h : Mem), f_X10_edge_136 N v0 v1 v2 v4 v5 h = some (r, h') → ∀ (H : Heap) (locs : List Loc) (ls : Array Slot), MS G s h H locs 0 → lv_has ls 8 [(0, .ref (gB G + v0)), (1, .int v1), (2, .int v2), (4, .int v4), (5, .int v5)] → W p l e (rm_X10_edge) s m args below meth c H locs 0 0 (QI G below args s r h' 0 0) (F0 m 136 ls []) := by
  intro v0 v1 v2 v4 v5 h hf H locs ls M hl
  rw [f_X10_edge_136] at hf
  refine lv_aload_n X.1 X.2.1 dX10_edge_136 rfl (lv_at hl 0 rfl) ?_
  obtain ⟨t1, q2, hf⟩ := bnd hf
  refine x_getr fl_X10_77 X M q2 dX10_edge_137 ?_
  refine lv_iconst (v := (3 : Int32)) X.1 X.2.1 dX10_edge_140 (by decide) ?_
  refine lv_iload_n X.1 X.2.1 dX10_edge_141 rfl (lv_at hl 1 rfl) ?_
  refine lv_imul X.1 X.2.1 dX10_edge_142 ?_
  refine lv_iload_n X.1 X.2.1 dX10_edge_143 rfl (lv_at hl 2 rfl) ?_
  refine lv_iadd X.1 X.2.1 dX10_edge_144 ?_
  refine lv_iload X.1 X.2.1 dX10_edge_145 (lv_at hl 3 rfl) ?_
  obtain ⟨h3, q4, hf⟩ := bnd hf
  refine x_iast X M q4 dX10_edge_147 (fun H locs M => ?_)
  refine lv_iload X.1 X.2.1 dX10_edge_148 (lv_at hl 4 rfl) ?_
  obtain ⟨rfl, rfl⟩ := rt2 hf
  exact x_iret X hr hk M dX10_edge_150
def f_X10_edge_61 (N : Nat) (n : Nat) (v0 : Nat) (v1 : Int32) (v2 : Int32) (v3 : Int32) (v4 : Int32) (v5 : Int32) (v6 : Int32) (h : Mem) : Option (Int32 × Mem) := match n with
  | 0 => none
  | n + 1 =>
    if (20 : Int32) < v6 then
      f_X10_edge_136 N v0 v1 v2 v4 v5 h
    else
      if v5 = (-100 : Int32) then
        f_X10_edge_78 N N v0 v1 v2 v3 v4 v5 v6 (-1 : Int32) h (fun v0 v1 v2 v3 v4 v5 v6 h => f_X10_edge_61 N n v0 v1 v2 v3 v4 v5 v6 h)
      else
        f_X10_edge_136 N v0 v1 v2 v4 v5 h
set_option maxRecDepth 100000 in
set_option maxHeartbeats 4000000 in
theorem w_X10_edge_61 {p : Program} {l : Launch} {e : Env} {s : State} {m : MethodId} {args : Array Value} {below : List Frame} {meth : Method} {c : Code} {G : Gx} {r : Int32} {h' : Mem} (X : CX G p s m args c cX10_edge 8 RX10) (hr : meth.sig.returnType = (Option.some Jvm.ClassFile.FieldType.int)) (hk : meth.locks = false) (N : Nat) : ∀ (n : Nat) (v0 : Nat) (v1 : Int32) (v2 : Int32) (v3 : Int32) (v4 : Int32) (v5 : Int32) (v6 : Int32) (h : Mem), f_X10_edge_61 N n v0 v1 v2 v3 v4 v5 v6 h = some (r, h') → ∀ (H : Heap) (locs : List Loc) (ls : Array Slot), MS G s h H locs 0 → lv_has ls 8 [(0, .ref (gB G + v0)), (1, .int v1), (2, .int v2), (3, .int v3), (4, .int v4), (5, .int v5), (6, .int v6)] → W p l e (rm_X10_edge) s m args below meth c H locs 0 0 (QI G below args s r h' 0 0) (F0 m 61 ls []) := by
  intro n
  induction n with
  | zero =>
    intro v0 v1 v2 v3 v4 v5 v6 h hf
    cases hf
  | succ n ih =>
    intro v0 v1 v2 v3 v4 v5 v6 h hf H locs ls M hl
    rw [f_X10_edge_61] at hf
    refine lv_iload X.1 X.2.1 dX10_edge_61 (lv_at hl 6 rfl) ?_
    refine lv_bipush (v := (20 : Int32)) X.1 X.2.1 dX10_edge_63 (by decide) ?_
    refine lv_icmp_gt (tgt := 136) X.1 X.2.1 dX10_edge_65 (by decide) (fun c1 => ?_) (fun c1 => ?_)
    · have hf := ifp c1 hf
      exact w_X10_edge_136 X hr hk N v0 v1 v2 v4 v5 h hf _ _ _ M (lv_sub hl [0, 1, 2, 4, 5] rfl)
    · have hf := ifn c1 hf
      refine lv_iload X.1 X.2.1 dX10_edge_68 (lv_at hl 5 rfl) ?_
      refine lv_bipush (v := (-100 : Int32)) X.1 X.2.1 dX10_edge_70 (by decide) ?_
      refine lv_icmp_ne (tgt := 136) X.1 X.2.1 dX10_edge_72 (by decide) (fun c2 => ?_) (fun c2 => ?_)
      · have hf := ifn c2 hf
        exact w_X10_edge_136 X hr hk N v0 v1 v2 v4 v5 h hf _ _ _ M (lv_sub hl [0, 1, 2, 4, 5] rfl)
      · have hf := ifp c2 hf
        refine lv_iconst (v := (-1 : Int32)) X.1 X.2.1 dX10_edge_75 (by decide) ?_
        refine lv_istore (lv' := [(7, .int (-1 : Int32)), (0, .ref (gB G + v0)), (1, .int v1), (2, .int v2), (3, .int v3), (4, .int v4), (5, .int v5), (6, .int v6)]) X.1 X.2.1 dX10_edge_76 hl (by decide) rfl (fun ls hl => ?_)
        exact w_X10_edge_78 X hr hk N _ (fun v0 v1 v2 v3 v4 v5 v6 h hf H locs ls M hl => ih v0 v1 v2 v3 v4 v5 v6 h hf H locs ls M hl) N v0 v1 v2 v3 v4 v5 v6 (-1 : Int32) h hf _ _ _ M (lv_sub hl [1, 2, 3, 4, 5, 6, 7, 0] rfl)
def f_X10_edge (N : Nat) (v0 : Nat) (v1 : Int32) (v2 : Int32) (v3 : Int32) (h : Mem) : Option (Int32 × Mem) :=
  (ck h v0 10).bind fun _ =>
  b2 (f_X10_in N v0 v1 (0 : Int32) (3 : Int32) h) fun t4 h3 =>
  if t4 = 0 then
    some ((-1 : Int32), h3)
  else
    (ck h3 v0 10).bind fun _ =>
    b2 (f_X10_in N v0 v2 (0 : Int32) (2 : Int32) h3) fun t9 h8 =>
    if t9 = 0 then
      some ((-1 : Int32), h8)
    else
      (ck h8 v0 10).bind fun _ =>
      b2 (f_X10_in N v0 v3 (1 : Int32) (5 : Int32) h8) fun t14 h13 =>
      if t14 = 0 then
        some ((-1 : Int32), h13)
      else
        (ck h13 v0 10).bind fun _ =>
        b2 (f_X10_isRest N v0 v3 h13) fun t19 h18 =>
        if t19 = 0 then
          some ((0 : Int32), h18)
        else
          (gR h18 v0 10 22).bind fun t21 =>
          (lI 100 h18 t21 (((3 : Int32) * v1) + v2)).bind fun t23 =>
          f_X10_edge_61 N N v0 v1 v2 v3 t23 (-100 : Int32) (1 : Int32) h18
set_option maxRecDepth 100000 in
set_option maxHeartbeats 4000000 in
theorem w_X10_edge {p : Program} {l : Launch} {e : Env} {s : State} {m : MethodId} {args : Array Value} {below : List Frame} {meth : Method} {c : Code} {G : Gx} {r : Int32} {h' : Mem} (X : CX G p s m args c cX10_edge 8 RX10) (hr : meth.sig.returnType = (Option.some Jvm.ClassFile.FieldType.int)) (hk : meth.locks = false) (N : Nat) : ∀ (v0 : Nat) (v1 : Int32) (v2 : Int32) (v3 : Int32) (h : Mem), f_X10_edge N v0 v1 v2 v3 h = some (r, h') → ∀ (H : Heap) (locs : List Loc) (ls : Array Slot), MS G s h H locs 0 → lv_has ls 8 [(0, .ref (gB G + v0)), (1, .int v1), (2, .int v2), (3, .int v3)] → W p l e (rm_X10_edge) s m args below meth c H locs 0 0 (QI G below args s r h' 0 0) (F0 m 0 ls []) := by
  intro v0 v1 v2 v3 h hf H locs ls M hl
  rw [f_X10_edge] at hf
  refine lv_aload_n X.1 X.2.1 dX10_edge_0 rfl (lv_at hl 0 rfl) ?_
  refine lv_iload_n X.1 X.2.1 dX10_edge_1 rfl (lv_at hl 1 rfl) ?_
  refine lv_iconst (v := (0 : Int32)) X.1 X.2.1 dX10_edge_2 (by decide) ?_
  refine lv_iconst (v := (3 : Int32)) X.1 X.2.1 dX10_edge_3 (by decide) ?_
  obtain ⟨⟨⟩, q1, hf⟩ := bnd hf
  obtain ⟨t4, h3, q2, hf⟩ := bnd2 hf
  refine x_callVi (As := [.int v1, .int (0 : Int32), .int (3 : Int32)]) cf_X10_197 (c_X10_in l G N v0 v1 (0 : Int32) (3 : Int32) h _ _ q2) rfl ⟨rfl, rfl, Nat.le_of_ble_eq_true rfl, Nat.le_of_ble_eq_true rfl⟩ ⟨Nat.le_of_ble_eq_true rfl, Nat.le_of_ble_eq_true rfl⟩ X M (x_recv cls_X10 X M q1) rfl rfl hl.1 (Nat.le_of_ble_eq_true rfl) dX10_edge_4 (fun H locs M => ?_)
  refine lv_if_eq (tgt := 30) X.1 X.2.1 dX10_edge_7 (by decide) (fun c5 => ?_) (fun c5 => ?_)
  · have hf := ifp c5 hf
    refine lv_iconst (v := (-1 : Int32)) X.1 X.2.1 dX10_edge_30 (by decide) ?_
    obtain ⟨rfl, rfl⟩ := rt2 hf
    exact x_iret X hr hk M dX10_edge_31
  · have hf := ifn c5 hf
    refine lv_aload_n X.1 X.2.1 dX10_edge_10 rfl (lv_at hl 0 rfl) ?_
    refine lv_iload_n X.1 X.2.1 dX10_edge_11 rfl (lv_at hl 2 rfl) ?_
    refine lv_iconst (v := (0 : Int32)) X.1 X.2.1 dX10_edge_12 (by decide) ?_
    refine lv_iconst (v := (2 : Int32)) X.1 X.2.1 dX10_edge_13 (by decide) ?_
    obtain ⟨⟨⟩, q6, hf⟩ := bnd hf
    obtain ⟨t9, h8, q7, hf⟩ := bnd2 hf
    refine x_callVi (As := [.int v2, .int (0 : Int32), .int (2 : Int32)]) cf_X10_197 (c_X10_in l G N v0 v2 (0 : Int32) (2 : Int32) h3 _ _ q7) rfl ⟨rfl, rfl, Nat.le_of_ble_eq_true rfl, Nat.le_of_ble_eq_true rfl⟩ ⟨Nat.le_of_ble_eq_true rfl, Nat.le_of_ble_eq_true rfl⟩ X M (x_recv cls_X10 X M q6) rfl rfl hl.1 (Nat.le_of_ble_eq_true rfl) dX10_edge_14 (fun H locs M => ?_)
    refine lv_if_eq (tgt := 30) X.1 X.2.1 dX10_edge_17 (by decide) (fun c10 => ?_) (fun c10 => ?_)
    · have hf := ifp c10 hf
      refine lv_iconst (v := (-1 : Int32)) X.1 X.2.1 dX10_edge_30 (by decide) ?_
      obtain ⟨rfl, rfl⟩ := rt2 hf
      exact x_iret X hr hk M dX10_edge_31
    · have hf := ifn c10 hf
      refine lv_aload_n X.1 X.2.1 dX10_edge_20 rfl (lv_at hl 0 rfl) ?_
      refine lv_iload_n X.1 X.2.1 dX10_edge_21 rfl (lv_at hl 3 rfl) ?_
      refine lv_iconst (v := (1 : Int32)) X.1 X.2.1 dX10_edge_22 (by decide) ?_
      refine lv_iconst (v := (5 : Int32)) X.1 X.2.1 dX10_edge_23 (by decide) ?_
      obtain ⟨⟨⟩, q11, hf⟩ := bnd hf
      obtain ⟨t14, h13, q12, hf⟩ := bnd2 hf
      refine x_callVi (As := [.int v3, .int (1 : Int32), .int (5 : Int32)]) cf_X10_197 (c_X10_in l G N v0 v3 (1 : Int32) (5 : Int32) h8 _ _ q12) rfl ⟨rfl, rfl, Nat.le_of_ble_eq_true rfl, Nat.le_of_ble_eq_true rfl⟩ ⟨Nat.le_of_ble_eq_true rfl, Nat.le_of_ble_eq_true rfl⟩ X M (x_recv cls_X10 X M q11) rfl rfl hl.1 (Nat.le_of_ble_eq_true rfl) dX10_edge_24 (fun H locs M => ?_)
      refine lv_if_ne (tgt := 32) X.1 X.2.1 dX10_edge_27 (by decide) (fun c15 => ?_) (fun c15 => ?_)
      · have hf := ifn c15 hf
        refine lv_aload_n X.1 X.2.1 dX10_edge_32 rfl (lv_at hl 0 rfl) ?_
        refine lv_iload_n X.1 X.2.1 dX10_edge_33 rfl (lv_at hl 3 rfl) ?_
        obtain ⟨⟨⟩, q16, hf⟩ := bnd hf
        obtain ⟨t19, h18, q17, hf⟩ := bnd2 hf
        refine x_callVi (As := [.int v3]) cf_X10_335 (c_X10_isRest l G N v0 v3 h13 _ _ q17) rfl ⟨rfl, rfl, Nat.le_of_ble_eq_true rfl, Nat.le_of_ble_eq_true rfl⟩ ⟨Nat.le_of_ble_eq_true rfl, Nat.le_of_ble_eq_true rfl⟩ X M (x_recv cls_X10 X M q16) rfl rfl hl.1 (Nat.le_of_ble_eq_true rfl) dX10_edge_34 (fun H locs M => ?_)
        refine lv_if_ne (tgt := 42) X.1 X.2.1 dX10_edge_37 (by decide) (fun c20 => ?_) (fun c20 => ?_)
        · have hf := ifn c20 hf
          refine lv_aload_n X.1 X.2.1 dX10_edge_42 rfl (lv_at hl 0 rfl) ?_
          obtain ⟨t21, q22, hf⟩ := bnd hf
          refine x_getr fl_X10_77 X M q22 dX10_edge_43 ?_
          refine lv_iconst (v := (3 : Int32)) X.1 X.2.1 dX10_edge_46 (by decide) ?_
          refine lv_iload_n X.1 X.2.1 dX10_edge_47 rfl (lv_at hl 1 rfl) ?_
          refine lv_imul X.1 X.2.1 dX10_edge_48 ?_
          refine lv_iload_n X.1 X.2.1 dX10_edge_49 rfl (lv_at hl 2 rfl) ?_
          refine lv_iadd X.1 X.2.1 dX10_edge_50 ?_
          obtain ⟨t23, q24, hf⟩ := bnd hf
          refine x_iald X M q24 dX10_edge_51 ?_
          refine lv_istore (lv' := [(4, .int t23), (0, .ref (gB G + v0)), (1, .int v1), (2, .int v2), (3, .int v3)]) X.1 X.2.1 dX10_edge_52 hl (by decide) rfl (fun ls hl => ?_)
          refine lv_bipush (v := (-100 : Int32)) X.1 X.2.1 dX10_edge_54 (by decide) ?_
          refine lv_istore (lv' := [(5, .int (-100 : Int32)), (4, .int t23), (0, .ref (gB G + v0)), (1, .int v1), (2, .int v2), (3, .int v3)]) X.1 X.2.1 dX10_edge_56 hl (by decide) rfl (fun ls hl => ?_)
          refine lv_iconst (v := (1 : Int32)) X.1 X.2.1 dX10_edge_58 (by decide) ?_
          refine lv_istore (lv' := [(6, .int (1 : Int32)), (5, .int (-100 : Int32)), (4, .int t23), (0, .ref (gB G + v0)), (1, .int v1), (2, .int v2), (3, .int v3)]) X.1 X.2.1 dX10_edge_59 hl (by decide) rfl (fun ls hl => ?_)
          exact w_X10_edge_61 X hr hk N N v0 v1 v2 v3 t23 (-100 : Int32) (1 : Int32) h18 hf _ _ _ M (lv_sub hl [3, 4, 5, 6, 2, 1, 0] rfl)
        · have hf := ifp c20 hf
          refine lv_iconst (v := (0 : Int32)) X.1 X.2.1 dX10_edge_40 (by decide) ?_
          obtain ⟨rfl, rfl⟩ := rt2 hf
          exact x_iret X hr hk M dX10_edge_41
      · have hf := ifp c15 hf
        refine lv_iconst (v := (-1 : Int32)) X.1 X.2.1 dX10_edge_30 (by decide) ?_
        obtain ⟨rfl, rfl⟩ := rt2 hf
        exact x_iret X hr hk M dX10_edge_31
theorem c_X10_edge (l : Launch) (G : Gx) (N : Nat) (v0 : Nat) (v1 : Int32) (v2 : Int32) (v3 : Int32) (h : Mem) (r : Int32) (h' : Mem) (hf : f_X10_edge N v0 v1 v2 v3 h = some (r, h')) : MetG l G yX10_edge (.code yX10_edge cX10_edge 8 (Option.some Jvm.ClassFile.FieldType.int)) rm_X10_edge [.ref (gB G + v0), .int v1, .int v2, .int v3] h (QcI G r h') 0 0 :=
  x_met (by decide) rfl (Nat.le_of_ble_eq_true rfl) (fun p e s m args below meth c ls X M hr hk hin hl => w_X10_edge X hr hk N v0 v1 v2 v3 h hf _ _ ls M hl)
abbrev rm_X10_twinSort : Room := { frames := 1, cells := 0, slots := 0, locals := 40 }
def f_X10_twinSort_48 (N : Nat) (v0 : Nat) (v1 : Int32) (v2 : Int32) (v4 : Int32) (s0 : Int32) (h : Mem) (k49 : Nat → Int32 → Int32 → Int32 → Int32 → Int32 → Mem → Option (Int32 × Mem)) : Option (Int32 × Mem) :=
  k49 v0 v1 v2 v4 s0 (0 : Int32) h
set_option maxRecDepth 100000 in
set_option maxHeartbeats 4000000 in
theorem w_X10_twinSort_48 {p : Program} {l : Launch} {e : Env} {s : State} {m : MethodId} {args : Array Value} {below : List Frame} {meth : Method} {c : Code} {G : Gx} {r : Int32} {h' : Mem} (X : CX G p s m args c cX10_twinSort 5 RX10) (hr : meth.sig.returnType = (Option.some Jvm.ClassFile.FieldType.int)) (hk : meth.locks = false) (N : Nat) (k49 : Nat → Int32 → Int32 → Int32 → Int32 → Int32 → Mem → Option (Int32 × Mem)) (K49 : ∀ (v0 : Nat) (v1 : Int32) (v2 : Int32) (v4 : Int32) (s0 : Int32) (s1 : Int32) (h : Mem), k49 v0 v1 v2 v4 s0 s1 h = some (r, h') → ∀ (H : Heap) (locs : List Loc) (ls : Array Slot), MS G s h H locs 0 → lv_has ls 5 [(0, .ref (gB G + v0)), (1, .int v1), (2, .int v2), (4, .int v4)] → W p l e (rm_X10_twinSort) s m args below meth c H locs 0 0 (QI G below args s r h' 0 0) (F0 m 49 ls [.int s1, .int s0])) : ∀ (v0 : Nat) (v1 : Int32) (v2 : Int32) (v4 : Int32) (s0 : Int32) (h : Mem), f_X10_twinSort_48 N v0 v1 v2 v4 s0 h k49 = some (r, h') → ∀ (H : Heap) (locs : List Loc) (ls : Array Slot), MS G s h H locs 0 → lv_has ls 5 [(0, .ref (gB G + v0)), (1, .int v1), (2, .int v2), (4, .int v4)] → W p l e (rm_X10_twinSort) s m args below meth c H locs 0 0 (QI G below args s r h' 0 0) (F0 m 48 ls [.int s0]) := by
  intro v0 v1 v2 v4 s0 h hf H locs ls M hl
  rw [f_X10_twinSort_48] at hf
  refine lv_iconst (v := (0 : Int32)) X.1 X.2.1 dX10_twinSort_48 (by decide) ?_
  exact K49 v0 v1 v2 v4 s0 (0 : Int32) h hf _ _ _ M (lv_sub hl [0, 1, 2, 3] rfl)
def f_X10_twinSort_49 (N : Nat) (v0 : Nat) (v1 : Int32) (v2 : Int32) (v4 : Int32) (s0 : Int32) (s1 : Int32) (h : Mem) (k12 : Nat → Int32 → Int32 → Int32 → Int32 → Mem → Option (Int32 × Mem)) : Option (Int32 × Mem) :=
  k12 v0 v1 v2 (s0 + s1) (v4 + 1) h
set_option maxRecDepth 100000 in
set_option maxHeartbeats 4000000 in
theorem w_X10_twinSort_49 {p : Program} {l : Launch} {e : Env} {s : State} {m : MethodId} {args : Array Value} {below : List Frame} {meth : Method} {c : Code} {G : Gx} {r : Int32} {h' : Mem} (X : CX G p s m args c cX10_twinSort 5 RX10) (hr : meth.sig.returnType = (Option.some Jvm.ClassFile.FieldType.int)) (hk : meth.locks = false) (N : Nat) (k12 : Nat → Int32 → Int32 → Int32 → Int32 → Mem → Option (Int32 × Mem)) (K12 : ∀ (v0 : Nat) (v1 : Int32) (v2 : Int32) (v3 : Int32) (v4 : Int32) (h : Mem), k12 v0 v1 v2 v3 v4 h = some (r, h') → ∀ (H : Heap) (locs : List Loc) (ls : Array Slot), MS G s h H locs 0 → lv_has ls 5 [(0, .ref (gB G + v0)), (1, .int v1), (2, .int v2), (3, .int v3), (4, .int v4)] → W p l e (rm_X10_twinSort) s m args below meth c H locs 0 0 (QI G below args s r h' 0 0) (F0 m 12 ls [])) : ∀ (v0 : Nat) (v1 : Int32) (v2 : Int32) (v4 : Int32) (s0 : Int32) (s1 : Int32) (h : Mem), f_X10_twinSort_49 N v0 v1 v2 v4 s0 s1 h k12 = some (r, h') → ∀ (H : Heap) (locs : List Loc) (ls : Array Slot), MS G s h H locs 0 → lv_has ls 5 [(0, .ref (gB G + v0)), (1, .int v1), (2, .int v2), (4, .int v4)] → W p l e (rm_X10_twinSort) s m args below meth c H locs 0 0 (QI G below args s r h' 0 0) (F0 m 49 ls [.int s1, .int s0]) := by
  intro v0 v1 v2 v4 s0 s1 h hf H locs ls M hl
  rw [f_X10_twinSort_49] at hf
  refine lv_iadd X.1 X.2.1 dX10_twinSort_49 ?_
  refine lv_istore_n (lv' := [(3, .int (s0 + s1)), (0, .ref (gB G + v0)), (1, .int v1), (2, .int v2), (4, .int v4)]) X.1 X.2.1 dX10_twinSort_50 rfl hl (by decide) rfl (fun ls hl => ?_)
  refine lv_iinc (v := (v4 + 1)) (lv' := [(4, .int (v4 + 1)), (3, .int (s0 + s1)), (0, .ref (gB G + v0)), (1, .int v1), (2, .int v2)]) X.1 X.2.1 dX10_twinSort_51 hl (k := 4) rfl (by first | rfl | decide) (by decide) rfl (fun ls hl => ?_)
  refine lv_goto (tgt := 12) X.1 X.2.1 dX10_twinSort_54 (by decide) ?_
  exact K12 v0 v1 v2 (s0 + s1) (v4 + 1) h hf _ _ _ M (lv_sub hl [2, 3, 4, 1, 0] rfl)
def f_X10_twinSort_12 (N : Nat) (n : Nat) (v0 : Nat) (v1 : Int32) (v2 : Int32) (v3 : Int32) (v4 : Int32) (h : Mem) (k2 : Nat → Int32 → Int32 → Mem → Option (Int32 × Mem)) : Option (Int32 × Mem) := match n with
  | 0 => none
  | n + 1 =>
    (gI h v0 10 1).bind fun t1 =>
    if t1 ≤ v4 then
      if v3 ≤ (1 : Int32) then
        k2 v0 v1 (v2 + 1) h
      else
        some (v2, h)
    else
      (gR h v0 10 10).bind fun t5 =>
      (lI 100 h t5 v4).bind fun t7 =>
      if t7 = v1 then
        (gR h v0 10 8).bind fun t10 =>
        (lI 100 h t10 v4).bind fun t12 =>
        if t12 = v2 then
          f_X10_twinSort_49 N v0 v1 v2 v4 v3 (1 : Int32) h (fun v0 v1 v2 v3 v4 h => f_X10_twinSort_12 N n v0 v1 v2 v3 v4 h k2)
        else
          f_X10_twinSort_48 N v0 v1 v2 v4 v3 h (fun v0 v1 v2 v4 s0 s1 h => f_X10_twinSort_49 N v0 v1 v2 v4 s0 s1 h (fun v0 v1 v2 v3 v4 h => f_X10_twinSort_12 N n v0 v1 v2 v3 v4 h k2))
      else
        f_X10_twinSort_48 N v0 v1 v2 v4 v3 h (fun v0 v1 v2 v4 s0 s1 h => f_X10_twinSort_49 N v0 v1 v2 v4 s0 s1 h (fun v0 v1 v2 v3 v4 h => f_X10_twinSort_12 N n v0 v1 v2 v3 v4 h k2))
set_option maxRecDepth 100000 in
set_option maxHeartbeats 4000000 in
theorem w_X10_twinSort_12 {p : Program} {l : Launch} {e : Env} {s : State} {m : MethodId} {args : Array Value} {below : List Frame} {meth : Method} {c : Code} {G : Gx} {r : Int32} {h' : Mem} (X : CX G p s m args c cX10_twinSort 5 RX10) (hr : meth.sig.returnType = (Option.some Jvm.ClassFile.FieldType.int)) (hk : meth.locks = false) (N : Nat) (k2 : Nat → Int32 → Int32 → Mem → Option (Int32 × Mem)) (K2 : ∀ (v0 : Nat) (v1 : Int32) (v2 : Int32) (h : Mem), k2 v0 v1 v2 h = some (r, h') → ∀ (H : Heap) (locs : List Loc) (ls : Array Slot), MS G s h H locs 0 → lv_has ls 5 [(0, .ref (gB G + v0)), (1, .int v1), (2, .int v2)] → W p l e (rm_X10_twinSort) s m args below meth c H locs 0 0 (QI G below args s r h' 0 0) (F0 m 2 ls [])) : ∀ (n : Nat) (v0 : Nat) (v1 : Int32) (v2 : Int32) (v3 : Int32) (v4 : Int32) (h : Mem), f_X10_twinSort_12 N n v0 v1 v2 v3 v4 h k2 = some (r, h') → ∀ (H : Heap) (locs : List Loc) (ls : Array Slot), MS G s h H locs 0 → lv_has ls 5 [(0, .ref (gB G + v0)), (1, .int v1), (2, .int v2), (3, .int v3), (4, .int v4)] → W p l e (rm_X10_twinSort) s m args below meth c H locs 0 0 (QI G below args s r h' 0 0) (F0 m 12 ls []) := by
  intro n
  induction n with
  | zero =>
    intro v0 v1 v2 v3 v4 h hf
    cases hf
  | succ n ih =>
    intro v0 v1 v2 v3 v4 h hf H locs ls M hl
    rw [f_X10_twinSort_12] at hf
    refine lv_iload X.1 X.2.1 dX10_twinSort_12 (lv_at hl 4 rfl) ?_
    refine lv_aload_n X.1 X.2.1 dX10_twinSort_14 rfl (lv_at hl 0 rfl) ?_
    obtain ⟨t1, q2, hf⟩ := bnd hf
    refine x_geti fl_X10_13 X M q2 dX10_twinSort_15 ?_
    refine lv_icmp_ge (tgt := 57) X.1 X.2.1 dX10_twinSort_18 (by decide) (fun c3 => ?_) (fun c3 => ?_)
    · have hf := ifp c3 hf
      refine lv_iload_n X.1 X.2.1 dX10_twinSort_57 rfl (lv_at hl 3 rfl) ?_
      refine lv_iconst (v := (1 : Int32)) X.1 X.2.1 dX10_twinSort_58 (by decide) ?_
      refine lv_icmp_le (tgt := 64) X.1 X.2.1 dX10_twinSort_59 (by decide) (fun c4 => ?_) (fun c4 => ?_)
      · have hf := ifp c4 hf
        refine lv_iinc (v := (v2 + 1)) (lv' := [(2, .int (v2 + 1)), (0, .ref (gB G + v0)), (1, .int v1), (3, .int v3), (4, .int v4)]) X.1 X.2.1 dX10_twinSort_64 hl (k := 2) rfl (by first | rfl | decide) (by decide) rfl (fun ls hl => ?_)
        refine lv_goto (tgt := 2) X.1 X.2.1 dX10_twinSort_67 (by decide) ?_
        exact K2 v0 v1 (v2 + 1) h hf _ _ _ M (lv_sub hl [1, 2, 0] rfl)
      · have hf := ifn c4 hf
        refine lv_iload_n X.1 X.2.1 dX10_twinSort_62 rfl (lv_at hl 2 rfl) ?_
        obtain ⟨rfl, rfl⟩ := rt2 hf
        exact x_iret X hr hk M dX10_twinSort_63
    · have hf := ifn c3 hf
      refine lv_iload_n X.1 X.2.1 dX10_twinSort_21 rfl (lv_at hl 3 rfl) ?_
      refine lv_aload_n X.1 X.2.1 dX10_twinSort_22 rfl (lv_at hl 0 rfl) ?_
      obtain ⟨t5, q6, hf⟩ := bnd hf
      refine x_getr fl_X10_41 X M q6 dX10_twinSort_23 ?_
      refine lv_iload X.1 X.2.1 dX10_twinSort_26 (lv_at hl 4 rfl) ?_
      obtain ⟨t7, q8, hf⟩ := bnd hf
      refine x_iald X M q8 dX10_twinSort_28 ?_
      refine lv_iload_n X.1 X.2.1 dX10_twinSort_29 rfl (lv_at hl 1 rfl) ?_
      refine lv_icmp_ne (tgt := 48) X.1 X.2.1 dX10_twinSort_30 (by decide) (fun c9 => ?_) (fun c9 => ?_)
      · have hf := ifn c9 hf
        exact w_X10_twinSort_48 X hr hk N _ (fun v0 v1 v2 v4 s0 s1 h hf H locs ls M hl => w_X10_twinSort_49 X hr hk N _ (fun v0 v1 v2 v3 v4 h hf H locs ls M hl => ih v0 v1 v2 v3 v4 h hf H locs ls M hl) v0 v1 v2 v4 s0 s1 h hf H locs ls M hl) v0 v1 v2 v4 v3 h hf _ _ _ M (lv_sub hl [0, 1, 2, 4] rfl)
      · have hf := ifp c9 hf
        refine lv_aload_n X.1 X.2.1 dX10_twinSort_33 rfl (lv_at hl 0 rfl) ?_
        obtain ⟨t10, q11, hf⟩ := bnd hf
        refine x_getr fl_X10_35 X M q11 dX10_twinSort_34 ?_
        refine lv_iload X.1 X.2.1 dX10_twinSort_37 (lv_at hl 4 rfl) ?_
        obtain ⟨t12, q13, hf⟩ := bnd hf
        refine x_iald X M q13 dX10_twinSort_39 ?_
        refine lv_iload_n X.1 X.2.1 dX10_twinSort_40 rfl (lv_at hl 2 rfl) ?_
        refine lv_icmp_ne (tgt := 48) X.1 X.2.1 dX10_twinSort_41 (by decide) (fun c14 => ?_) (fun c14 => ?_)
        · have hf := ifn c14 hf
          exact w_X10_twinSort_48 X hr hk N _ (fun v0 v1 v2 v4 s0 s1 h hf H locs ls M hl => w_X10_twinSort_49 X hr hk N _ (fun v0 v1 v2 v3 v4 h hf H locs ls M hl => ih v0 v1 v2 v3 v4 h hf H locs ls M hl) v0 v1 v2 v4 s0 s1 h hf H locs ls M hl) v0 v1 v2 v4 v3 h hf _ _ _ M (lv_sub hl [0, 1, 2, 4] rfl)
        · have hf := ifp c14 hf
          refine lv_iconst (v := (1 : Int32)) X.1 X.2.1 dX10_twinSort_44 (by decide) ?_
          refine lv_goto (tgt := 49) X.1 X.2.1 dX10_twinSort_45 (by decide) ?_
          exact w_X10_twinSort_49 X hr hk N _ (fun v0 v1 v2 v3 v4 h hf H locs ls M hl => ih v0 v1 v2 v3 v4 h hf H locs ls M hl) v0 v1 v2 v4 v3 (1 : Int32) h hf _ _ _ M (lv_sub hl [0, 1, 2, 4] rfl)
def f_X10_twinSort_2 (N : Nat) (n : Nat) (v0 : Nat) (v1 : Int32) (v2 : Int32) (h : Mem) : Option (Int32 × Mem) := match n with
  | 0 => none
  | n + 1 =>
    if (4 : Int32) ≤ v2 then
      some ((-1 : Int32), h)
    else
      f_X10_twinSort_12 N N v0 v1 v2 (0 : Int32) (0 : Int32) h (fun v0 v1 v2 h => f_X10_twinSort_2 N n v0 v1 v2 h)
set_option maxRecDepth 100000 in
set_option maxHeartbeats 4000000 in
theorem w_X10_twinSort_2 {p : Program} {l : Launch} {e : Env} {s : State} {m : MethodId} {args : Array Value} {below : List Frame} {meth : Method} {c : Code} {G : Gx} {r : Int32} {h' : Mem} (X : CX G p s m args c cX10_twinSort 5 RX10) (hr : meth.sig.returnType = (Option.some Jvm.ClassFile.FieldType.int)) (hk : meth.locks = false) (N : Nat) : ∀ (n : Nat) (v0 : Nat) (v1 : Int32) (v2 : Int32) (h : Mem), f_X10_twinSort_2 N n v0 v1 v2 h = some (r, h') → ∀ (H : Heap) (locs : List Loc) (ls : Array Slot), MS G s h H locs 0 → lv_has ls 5 [(0, .ref (gB G + v0)), (1, .int v1), (2, .int v2)] → W p l e (rm_X10_twinSort) s m args below meth c H locs 0 0 (QI G below args s r h' 0 0) (F0 m 2 ls []) := by
  intro n
  induction n with
  | zero =>
    intro v0 v1 v2 h hf
    cases hf
  | succ n ih =>
    intro v0 v1 v2 h hf H locs ls M hl
    rw [f_X10_twinSort_2] at hf
    refine lv_iload_n X.1 X.2.1 dX10_twinSort_2 rfl (lv_at hl 2 rfl) ?_
    refine lv_iconst (v := (4 : Int32)) X.1 X.2.1 dX10_twinSort_3 (by decide) ?_
    refine lv_icmp_ge (tgt := 70) X.1 X.2.1 dX10_twinSort_4 (by decide) (fun c1 => ?_) (fun c1 => ?_)
    · have hf := ifp c1 hf
      refine lv_iconst (v := (-1 : Int32)) X.1 X.2.1 dX10_twinSort_70 (by decide) ?_
      obtain ⟨rfl, rfl⟩ := rt2 hf
      exact x_iret X hr hk M dX10_twinSort_71
    · have hf := ifn c1 hf
      refine lv_iconst (v := (0 : Int32)) X.1 X.2.1 dX10_twinSort_7 (by decide) ?_
      refine lv_istore_n (lv' := [(3, .int (0 : Int32)), (0, .ref (gB G + v0)), (1, .int v1), (2, .int v2)]) X.1 X.2.1 dX10_twinSort_8 rfl hl (by decide) rfl (fun ls hl => ?_)
      refine lv_iconst (v := (0 : Int32)) X.1 X.2.1 dX10_twinSort_9 (by decide) ?_
      refine lv_istore (lv' := [(4, .int (0 : Int32)), (3, .int (0 : Int32)), (0, .ref (gB G + v0)), (1, .int v1), (2, .int v2)]) X.1 X.2.1 dX10_twinSort_10 hl (by decide) rfl (fun ls hl => ?_)
      exact w_X10_twinSort_12 X hr hk N _ (fun v0 v1 v2 h hf H locs ls M hl => ih v0 v1 v2 h hf H locs ls M hl) N v0 v1 v2 (0 : Int32) (0 : Int32) h hf _ _ _ M (lv_sub hl [2, 3, 4, 1, 0] rfl)
def f_X10_twinSort (N : Nat) (v0 : Nat) (v1 : Int32) (h : Mem) : Option (Int32 × Mem) :=
  f_X10_twinSort_2 N N v0 v1 (0 : Int32) h
set_option maxRecDepth 100000 in
set_option maxHeartbeats 4000000 in
theorem w_X10_twinSort {p : Program} {l : Launch} {e : Env} {s : State} {m : MethodId} {args : Array Value} {below : List Frame} {meth : Method} {c : Code} {G : Gx} {r : Int32} {h' : Mem} (X : CX G p s m args c cX10_twinSort 5 RX10) (hr : meth.sig.returnType = (Option.some Jvm.ClassFile.FieldType.int)) (hk : meth.locks = false) (N : Nat) : ∀ (v0 : Nat) (v1 : Int32) (h : Mem), f_X10_twinSort N v0 v1 h = some (r, h') → ∀ (H : Heap) (locs : List Loc) (ls : Array Slot), MS G s h H locs 0 → lv_has ls 5 [(0, .ref (gB G + v0)), (1, .int v1)] → W p l e (rm_X10_twinSort) s m args below meth c H locs 0 0 (QI G below args s r h' 0 0) (F0 m 0 ls []) := by
  intro v0 v1 h hf H locs ls M hl
  rw [f_X10_twinSort] at hf
  refine lv_iconst (v := (0 : Int32)) X.1 X.2.1 dX10_twinSort_0 (by decide) ?_
  refine lv_istore_n (lv' := [(2, .int (0 : Int32)), (0, .ref (gB G + v0)), (1, .int v1)]) X.1 X.2.1 dX10_twinSort_1 rfl hl (by decide) rfl (fun ls hl => ?_)
  exact w_X10_twinSort_2 X hr hk N N v0 v1 (0 : Int32) h hf _ _ _ M (lv_sub hl [1, 2, 0] rfl)
theorem c_X10_twinSort (l : Launch) (G : Gx) (N : Nat) (v0 : Nat) (v1 : Int32) (h : Mem) (r : Int32) (h' : Mem) (hf : f_X10_twinSort N v0 v1 h = some (r, h')) : MetG l G yX10_twinSort (.code yX10_twinSort cX10_twinSort 5 (Option.some Jvm.ClassFile.FieldType.int)) rm_X10_twinSort [.ref (gB G + v0), .int v1] h (QcI G r h') 0 0 :=
  x_met (by decide) rfl (Nat.le_of_ble_eq_true rfl) (fun p e s m args below meth c ls X M hr hk hin hl => w_X10_twinSort X hr hk N v0 v1 h hf _ _ ls M hl)
abbrev rm_X10_year : Room := { frames := 3, cells := 0, slots := 0, locals := 84 }
def f_X10_year_89 (N : Nat) (v0 : Nat) (v1 : Int32) (v2 : Int32) (s0 : Nat) (s1 : Int32) (s2 : Int32) (h : Mem) (k29 : Nat → Int32 → Int32 → Mem → Option (Int32 × Mem)) : Option (Int32 × Mem) :=
  (stI 100 h s0 s1 s2).bind fun h1 =>
  k29 v0 v1 (v2 + 1) h1
set_option maxRecDepth 100000 in
set_option maxHeartbeats 4000000 in
theorem w_X10_year_89 {p : Program} {l : Launch} {e : Env} {s : State} {m : MethodId} {args : Array Value} {below : List Frame} {meth : Method} {c : Code} {G : Gx} {r : Int32} {h' : Mem} (X : CX G p s m args c cX10_year 5 RX10) (hr : meth.sig.returnType = (Option.some Jvm.ClassFile.FieldType.int)) (hk : meth.locks = false) (N : Nat) (k29 : Nat → Int32 → Int32 → Mem → Option (Int32 × Mem)) (K29 : ∀ (v0 : Nat) (v1 : Int32) (v2 : Int32) (h : Mem), k29 v0 v1 v2 h = some (r, h') → ∀ (H : Heap) (locs : List Loc) (ls : Array Slot), MS G s h H locs 0 → lv_has ls 5 [(0, .ref (gB G + v0)), (1, .int v1), (2, .int v2)] → W p l e (rm_X10_year) s m args below meth c H locs 0 0 (QI G below args s r h' 0 0) (F0 m 29 ls [])) : ∀ (v0 : Nat) (v1 : Int32) (v2 : Int32) (s0 : Nat) (s1 : Int32) (s2 : Int32) (h : Mem), f_X10_year_89 N v0 v1 v2 s0 s1 s2 h k29 = some (r, h') → ∀ (H : Heap) (locs : List Loc) (ls : Array Slot), MS G s h H locs 0 → lv_has ls 5 [(0, .ref (gB G + v0)), (1, .int v1), (2, .int v2)] → W p l e (rm_X10_year) s m args below meth c H locs 0 0 (QI G below args s r h' 0 0) (F0 m 89 ls [.int s2, .int s1, .ref (gB G + s0)]) := by
  intro v0 v1 v2 s0 s1 s2 h hf H locs ls M hl
  rw [f_X10_year_89] at hf
  obtain ⟨h1, q2, hf⟩ := bnd hf
  refine x_iast X M q2 dX10_year_89 (fun H locs M => ?_)
  refine lv_iinc (v := (v2 + 1)) (lv' := [(2, .int (v2 + 1)), (0, .ref (gB G + v0)), (1, .int v1)]) X.1 X.2.1 dX10_year_90 hl (k := 2) rfl (by first | rfl | decide) (by decide) rfl (fun ls hl => ?_)
  refine lv_goto (tgt := 29) X.1 X.2.1 dX10_year_93 (by decide) ?_
  exact K29 v0 v1 (v2 + 1) h1 hf _ _ _ M (lv_sub hl [1, 2, 0] rfl)
def f_X10_year_115 (N : Nat) (n : Nat) (v0 : Nat) (v2 : Int32) (v3 : Int32) (h : Mem) : Option (Int32 × Mem) := match n with
  | 0 => none
  | n + 1 =>
    (gI h v0 10 0).bind fun t1 =>
    if t1 ≤ v3 then
      some (v2, h)
    else
      (ck h v0 10).bind fun _ =>
      b2 (f_X10_twinSort N v0 v3 h) fun t7 h6 =>
      if t7 < 0 then
        f_X10_year_115 N n v0 v2 (v3 + 1) h6
      else
        (ck h6 v0 10).bind fun _ =>
        b2 (f_X10_isFree N v0 v3 h6) fun t12 h11 =>
        if t12 = 0 then
          f_X10_year_115 N n v0 v2 (v3 + 1) h11
        else
          (gI h11 v0 10 1).bind fun t14 =>
          if t14 = (8 : Int32) then
            f_X10_year_115 N n v0 v2 (v3 + 1) h11
          else
            (ck h11 v0 10).bind fun _ =>
            (f_X10_add N v0 t7 (10 : Int32) v3 h11).bind fun h19 =>
            f_X10_year_115 N n v0 (v2 + 1) (v3 + 1) h19
set_option maxRecDepth 100000 in
set_option maxHeartbeats 4000000 in
theorem w_X10_year_115 {p : Program} {l : Launch} {e : Env} {s : State} {m : MethodId} {args : Array Value} {below : List Frame} {meth : Method} {c : Code} {G : Gx} {r : Int32} {h' : Mem} (X : CX G p s m args c cX10_year 5 RX10) (hr : meth.sig.returnType = (Option.some Jvm.ClassFile.FieldType.int)) (hk : meth.locks = false) (N : Nat) : ∀ (n : Nat) (v0 : Nat) (v2 : Int32) (v3 : Int32) (h : Mem), f_X10_year_115 N n v0 v2 v3 h = some (r, h') → ∀ (H : Heap) (locs : List Loc) (ls : Array Slot), MS G s h H locs 0 → lv_has ls 5 [(0, .ref (gB G + v0)), (2, .int v2), (3, .int v3)] → W p l e (rm_X10_year) s m args below meth c H locs 0 0 (QI G below args s r h' 0 0) (F0 m 115 ls []) := by
  intro n
  induction n with
  | zero =>
    intro v0 v2 v3 h hf
    cases hf
  | succ n ih =>
    intro v0 v2 v3 h hf H locs ls M hl
    rw [f_X10_year_115] at hf
    refine lv_iload_n X.1 X.2.1 dX10_year_115 rfl (lv_at hl 2 rfl) ?_
    refine lv_aload_n X.1 X.2.1 dX10_year_116 rfl (lv_at hl 0 rfl) ?_
    obtain ⟨t1, q2, hf⟩ := bnd hf
    refine x_geti fl_X10_7 X M q2 dX10_year_117 ?_
    refine lv_icmp_ge (tgt := 173) X.1 X.2.1 dX10_year_120 (by decide) (fun c3 => ?_) (fun c3 => ?_)
    · have hf := ifp c3 hf
      refine lv_iload_n X.1 X.2.1 dX10_year_173 rfl (lv_at hl 1 rfl) ?_
      obtain ⟨rfl, rfl⟩ := rt2 hf
      exact x_iret X hr hk M dX10_year_174
    · have hf := ifn c3 hf
      refine lv_aload_n X.1 X.2.1 dX10_year_123 rfl (lv_at hl 0 rfl) ?_
      refine lv_iload_n X.1 X.2.1 dX10_year_124 rfl (lv_at hl 2 rfl) ?_
      obtain ⟨⟨⟩, q4, hf⟩ := bnd hf
      obtain ⟨t7, h6, q5, hf⟩ := bnd2 hf
      refine x_callVi (As := [.int v3]) cf_X10_390 (c_X10_twinSort l G N v0 v3 h _ _ q5) rfl ⟨rfl, rfl, Nat.le_of_ble_eq_true rfl, Nat.le_of_ble_eq_true rfl⟩ ⟨Nat.le_of_ble_eq_true rfl, Nat.le_of_ble_eq_true rfl⟩ X M (x_recv cls_X10 X M q4) rfl rfl hl.1 (Nat.le_of_ble_eq_true rfl) dX10_year_125 (fun H locs M => ?_)
      refine lv_istore (lv' := [(4, .int t7), (0, .ref (gB G + v0)), (2, .int v2), (3, .int v3)]) X.1 X.2.1 dX10_year_128 hl (by decide) rfl (fun ls hl => ?_)
      refine lv_iload X.1 X.2.1 dX10_year_130 (lv_at hl 0 rfl) ?_
      refine lv_if_lt (tgt := 167) X.1 X.2.1 dX10_year_132 (by decide) (fun c8 => ?_) (fun c8 => ?_)
      · have hf := ifp c8 hf
        refine lv_iinc (v := (v3 + 1)) (lv' := [(3, .int (v3 + 1)), (4, .int t7), (0, .ref (gB G + v0)), (2, .int v2)]) X.1 X.2.1 dX10_year_167 hl (k := 3) rfl (by first | rfl | decide) (by decide) rfl (fun ls hl => ?_)
        refine lv_goto (tgt := 115) X.1 X.2.1 dX10_year_170 (by decide) ?_
        exact ih v0 v2 (v3 + 1) h6 hf _ _ _ M (lv_sub hl [2, 3, 0] rfl)
      · have hf := ifn c8 hf
        refine lv_aload_n X.1 X.2.1 dX10_year_135 rfl (lv_at hl 1 rfl) ?_
        refine lv_iload_n X.1 X.2.1 dX10_year_136 rfl (lv_at hl 3 rfl) ?_
        obtain ⟨⟨⟩, q9, hf⟩ := bnd hf
        obtain ⟨t12, h11, q10, hf⟩ := bnd2 hf
        refine x_callVi (As := [.int v3]) cf_X10_209 (c_X10_isFree l G N v0 v3 h6 _ _ q10) rfl ⟨rfl, rfl, Nat.le_of_ble_eq_true rfl, Nat.le_of_ble_eq_true rfl⟩ ⟨Nat.le_of_ble_eq_true rfl, Nat.le_of_ble_eq_true rfl⟩ X M (x_recv cls_X10 X M q9) rfl rfl hl.1 (Nat.le_of_ble_eq_true rfl) dX10_year_137 (fun H locs M => ?_)
        refine lv_if_eq (tgt := 167) X.1 X.2.1 dX10_year_140 (by decide) (fun c13 => ?_) (fun c13 => ?_)
        · have hf := ifp c13 hf
          refine lv_iinc (v := (v3 + 1)) (lv' := [(3, .int (v3 + 1)), (4, .int t7), (0, .ref (gB G + v0)), (2, .int v2)]) X.1 X.2.1 dX10_year_167 hl (k := 3) rfl (by first | rfl | decide) (by decide) rfl (fun ls hl => ?_)
          refine lv_goto (tgt := 115) X.1 X.2.1 dX10_year_170 (by decide) ?_
          exact ih v0 v2 (v3 + 1) h11 hf _ _ _ M (lv_sub hl [2, 3, 0] rfl)
        · have hf := ifn c13 hf
          refine lv_aload_n X.1 X.2.1 dX10_year_143 rfl (lv_at hl 1 rfl) ?_
          obtain ⟨t14, q15, hf⟩ := bnd hf
          refine x_geti fl_X10_13 X M q15 dX10_year_144 ?_
          refine lv_bipush (v := (8 : Int32)) X.1 X.2.1 dX10_year_147 (by decide) ?_
          refine lv_icmp_ne (tgt := 155) X.1 X.2.1 dX10_year_149 (by decide) (fun c16 => ?_) (fun c16 => ?_)
          · have hf := ifn c16 hf
            refine lv_aload_n X.1 X.2.1 dX10_year_155 rfl (lv_at hl 1 rfl) ?_
            refine lv_iload X.1 X.2.1 dX10_year_156 (lv_at hl 0 rfl) ?_
            refine lv_bipush (v := (10 : Int32)) X.1 X.2.1 dX10_year_158 (by decide) ?_
            refine lv_iload_n X.1 X.2.1 dX10_year_160 rfl (lv_at hl 3 rfl) ?_
            obtain ⟨⟨⟩, q17, hf⟩ := bnd hf
            obtain ⟨h19, q18, hf⟩ := bnd hf
            refine x_callVv (As := [.int t7, .int (10 : Int32), .int v3]) cf_X10_212 (c_X10_add l G N v0 t7 (10 : Int32) v3 h11 _ q18) rfl ⟨rfl, rfl, Nat.le_of_ble_eq_true rfl, Nat.le_of_ble_eq_true rfl⟩ ⟨Nat.le_of_ble_eq_true rfl, Nat.le_of_ble_eq_true rfl⟩ X M (x_recv cls_X10 X M q17) rfl rfl hl.1 (Nat.le_of_ble_eq_true rfl) dX10_year_161 (fun H locs M => ?_)
            refine lv_iinc (v := (v2 + 1)) (lv' := [(2, .int (v2 + 1)), (4, .int t7), (0, .ref (gB G + v0)), (3, .int v3)]) X.1 X.2.1 dX10_year_164 hl (k := 2) rfl (by first | rfl | decide) (by decide) rfl (fun ls hl => ?_)
            refine lv_iinc (v := (v3 + 1)) (lv' := [(3, .int (v3 + 1)), (2, .int (v2 + 1)), (4, .int t7), (0, .ref (gB G + v0))]) X.1 X.2.1 dX10_year_167 hl (k := 3) rfl (by first | rfl | decide) (by decide) rfl (fun ls hl => ?_)
            refine lv_goto (tgt := 115) X.1 X.2.1 dX10_year_170 (by decide) ?_
            exact ih v0 (v2 + 1) (v3 + 1) h19 hf _ _ _ M (lv_sub hl [3, 1, 0] rfl)
          · have hf := ifp c16 hf
            refine lv_goto (tgt := 167) X.1 X.2.1 dX10_year_152 (by decide) ?_
            refine lv_iinc (v := (v3 + 1)) (lv' := [(3, .int (v3 + 1)), (4, .int t7), (0, .ref (gB G + v0)), (2, .int v2)]) X.1 X.2.1 dX10_year_167 hl (k := 3) rfl (by first | rfl | decide) (by decide) rfl (fun ls hl => ?_)
            refine lv_goto (tgt := 115) X.1 X.2.1 dX10_year_170 (by decide) ?_
            exact ih v0 v2 (v3 + 1) h11 hf _ _ _ M (lv_sub hl [2, 3, 0] rfl)
def f_X10_year_29 (N : Nat) (n : Nat) (v0 : Nat) (v1 : Int32) (v2 : Int32) (h : Mem) : Option (Int32 × Mem) := match n with
  | 0 => none
  | n + 1 =>
    (gI h v0 10 1).bind fun t1 =>
    if t1 ≤ v2 then
      (sZ h v0 10 29 (0 : Int32)).bind fun h4 =>
      (gI h4 v0 10 2).bind fun t6 =>
      (sI h4 v0 10 2 (t6 + (1 : Int32))).bind fun h8 =>
      f_X10_year_115 N N v0 (0 : Int32) (0 : Int32) h8
    else
      (gR h v0 10 9).bind fun t10 =>
      (lI 100 h t10 v2).bind fun t12 =>
      (gI h v0 10 2).bind fun t14 =>
      (gR h v0 10 9).bind fun t16 =>
      if (1 : Int32) ≤ ((t12 + (((((13 : Int32) * v2) + ((7 : Int32) * t14)) + v1) - ((((13 : Int32) * v2) + ((7 : Int32) * t14)) + v1) / (5 : Int32) * (5 : Int32))) - (2 : Int32)) then
        if ((t12 + (((((13 : Int32) * v2) + ((7 : Int32) * t14)) + v1) - ((((13 : Int32) * v2) + ((7 : Int32) * t14)) + v1) / (5 : Int32) * (5 : Int32))) - (2 : Int32)) ≤ (99 : Int32) then
          f_X10_year_89 N v0 v1 v2 t16 v2 ((t12 + (((((13 : Int32) * v2) + ((7 : Int32) * t14)) + v1) - ((((13 : Int32) * v2) + ((7 : Int32) * t14)) + v1) / (5 : Int32) * (5 : Int32))) - (2 : Int32)) h (fun v0 v1 v2 h => f_X10_year_29 N n v0 v1 v2 h)
        else
          f_X10_year_89 N v0 v1 v2 t16 v2 (99 : Int32) h (fun v0 v1 v2 h => f_X10_year_29 N n v0 v1 v2 h)
      else
        f_X10_year_89 N v0 v1 v2 t16 v2 (1 : Int32) h (fun v0 v1 v2 h => f_X10_year_29 N n v0 v1 v2 h)
set_option maxRecDepth 100000 in
set_option maxHeartbeats 4000000 in
theorem w_X10_year_29 {p : Program} {l : Launch} {e : Env} {s : State} {m : MethodId} {args : Array Value} {below : List Frame} {meth : Method} {c : Code} {G : Gx} {r : Int32} {h' : Mem} (X : CX G p s m args c cX10_year 5 RX10) (hr : meth.sig.returnType = (Option.some Jvm.ClassFile.FieldType.int)) (hk : meth.locks = false) (N : Nat) : ∀ (n : Nat) (v0 : Nat) (v1 : Int32) (v2 : Int32) (h : Mem), f_X10_year_29 N n v0 v1 v2 h = some (r, h') → ∀ (H : Heap) (locs : List Loc) (ls : Array Slot), MS G s h H locs 0 → lv_has ls 5 [(0, .ref (gB G + v0)), (1, .int v1), (2, .int v2)] → W p l e (rm_X10_year) s m args below meth c H locs 0 0 (QI G below args s r h' 0 0) (F0 m 29 ls []) := by
  intro n
  induction n with
  | zero =>
    intro v0 v1 v2 h hf
    cases hf
  | succ n ih =>
    intro v0 v1 v2 h hf H locs ls M hl
    rw [f_X10_year_29] at hf
    refine lv_iload_n X.1 X.2.1 dX10_year_29 rfl (lv_at hl 2 rfl) ?_
    refine lv_aload_n X.1 X.2.1 dX10_year_30 rfl (lv_at hl 0 rfl) ?_
    obtain ⟨t1, q2, hf⟩ := bnd hf
    refine x_geti fl_X10_13 X M q2 dX10_year_31 ?_
    refine lv_icmp_ge (tgt := 96) X.1 X.2.1 dX10_year_34 (by decide) (fun c3 => ?_) (fun c3 => ?_)
    · have hf := ifp c3 hf
      refine lv_aload_n X.1 X.2.1 dX10_year_96 rfl (lv_at hl 0 rfl) ?_
      refine lv_iconst (v := (0 : Int32)) X.1 X.2.1 dX10_year_97 (by decide) ?_
      obtain ⟨h4, q5, hf⟩ := bnd hf
      refine x_putz fl_X10_98 fp_X10_98.1 fp_X10_98.2 X M q5 dX10_year_98 (fun H locs M => ?_)
      refine lv_aload_n X.1 X.2.1 dX10_year_101 rfl (lv_at hl 0 rfl) ?_
      refine lv_dup X.1 X.2.1 dX10_year_102 rfl ?_
      obtain ⟨t6, q7, hf⟩ := bnd hf
      refine x_geti fl_X10_16 X M q7 dX10_year_103 ?_
      refine lv_iconst (v := (1 : Int32)) X.1 X.2.1 dX10_year_106 (by decide) ?_
      refine lv_iadd X.1 X.2.1 dX10_year_107 ?_
      obtain ⟨h8, q9, hf⟩ := bnd hf
      refine x_puti fl_X10_16 fp_X10_16.1 fp_X10_16.2 X M q9 dX10_year_108 (fun H locs M => ?_)
      refine lv_iconst (v := (0 : Int32)) X.1 X.2.1 dX10_year_111 (by decide) ?_
      refine lv_istore_n (lv' := [(2, .int (0 : Int32)), (0, .ref (gB G + v0)), (1, .int v1)]) X.1 X.2.1 dX10_year_112 rfl hl (by decide) rfl (fun ls hl => ?_)
      refine lv_iconst (v := (0 : Int32)) X.1 X.2.1 dX10_year_113 (by decide) ?_
      refine lv_istore_n (lv' := [(3, .int (0 : Int32)), (2, .int (0 : Int32)), (0, .ref (gB G + v0)), (1, .int v1)]) X.1 X.2.1 dX10_year_114 rfl hl (by decide) rfl (fun ls hl => ?_)
      exact w_X10_year_115 X hr hk N N v0 (0 : Int32) (0 : Int32) h8 hf _ _ _ M (lv_sub hl [2, 1, 0] rfl)
    · have hf := ifn c3 hf
      refine lv_aload_n X.1 X.2.1 dX10_year_37 rfl (lv_at hl 0 rfl) ?_
      obtain ⟨t10, q11, hf⟩ := bnd hf
      refine x_getr fl_X10_38 X M q11 dX10_year_38 ?_
      refine lv_iload_n X.1 X.2.1 dX10_year_41 rfl (lv_at hl 2 rfl) ?_
      obtain ⟨t12, q13, hf⟩ := bnd hf
      refine x_iald X M q13 dX10_year_42 ?_
      refine lv_bipush (v := (13 : Int32)) X.1 X.2.1 dX10_year_43 (by decide) ?_
      refine lv_iload_n X.1 X.2.1 dX10_year_45 rfl (lv_at hl 2 rfl) ?_
      refine lv_imul X.1 X.2.1 dX10_year_46 ?_
      refine lv_bipush (v := (7 : Int32)) X.1 X.2.1 dX10_year_47 (by decide) ?_
      refine lv_aload_n X.1 X.2.1 dX10_year_49 rfl (lv_at hl 0 rfl) ?_
      obtain ⟨t14, q15, hf⟩ := bnd hf
      refine x_geti fl_X10_16 X M q15 dX10_year_50 ?_
      refine lv_imul X.1 X.2.1 dX10_year_53 ?_
      refine lv_iadd X.1 X.2.1 dX10_year_54 ?_
      refine lv_iload_n X.1 X.2.1 dX10_year_55 rfl (lv_at hl 1 rfl) ?_
      refine lv_iadd X.1 X.2.1 dX10_year_56 ?_
      refine lv_iconst (v := (5 : Int32)) X.1 X.2.1 dX10_year_57 (by decide) ?_
      refine lv_irem X.1 X.2.1 dX10_year_58 (by decide) ?_
      refine lv_iadd X.1 X.2.1 dX10_year_59 ?_
      refine lv_iconst (v := (2 : Int32)) X.1 X.2.1 dX10_year_60 (by decide) ?_
      refine lv_isub X.1 X.2.1 dX10_year_61 ?_
      refine lv_istore_n (lv' := [(3, .int ((t12 + (((((13 : Int32) * v2) + ((7 : Int32) * t14)) + v1) - ((((13 : Int32) * v2) + ((7 : Int32) * t14)) + v1) / (5 : Int32) * (5 : Int32))) - (2 : Int32))), (0, .ref (gB G + v0)), (1, .int v1), (2, .int v2)]) X.1 X.2.1 dX10_year_62 rfl hl (by decide) rfl (fun ls hl => ?_)
      refine lv_aload_n X.1 X.2.1 dX10_year_63 rfl (lv_at hl 1 rfl) ?_
      obtain ⟨t16, q17, hf⟩ := bnd hf
      refine x_getr fl_X10_38 X M q17 dX10_year_64 ?_
      refine lv_iload_n X.1 X.2.1 dX10_year_67 rfl (lv_at hl 3 rfl) ?_
      refine lv_iload_n X.1 X.2.1 dX10_year_68 rfl (lv_at hl 0 rfl) ?_
      refine lv_iconst (v := (1 : Int32)) X.1 X.2.1 dX10_year_69 (by decide) ?_
      refine lv_icmp_ge (tgt := 77) X.1 X.2.1 dX10_year_70 (by decide) (fun c18 => ?_) (fun c18 => ?_)
      · have hf := ifp c18 hf
        refine lv_iload_n X.1 X.2.1 dX10_year_77 rfl (lv_at hl 0 rfl) ?_
        refine lv_bipush (v := (99 : Int32)) X.1 X.2.1 dX10_year_78 (by decide) ?_
        refine lv_icmp_le (tgt := 88) X.1 X.2.1 dX10_year_80 (by decide) (fun c19 => ?_) (fun c19 => ?_)
        · have hf := ifp c19 hf
          refine lv_iload_n X.1 X.2.1 dX10_year_88 rfl (lv_at hl 0 rfl) ?_
          exact w_X10_year_89 X hr hk N _ (fun v0 v1 v2 h hf H locs ls M hl => ih v0 v1 v2 h hf H locs ls M hl) v0 v1 v2 t16 v2 ((t12 + (((((13 : Int32) * v2) + ((7 : Int32) * t14)) + v1) - ((((13 : Int32) * v2) + ((7 : Int32) * t14)) + v1) / (5 : Int32) * (5 : Int32))) - (2 : Int32)) h hf _ _ _ M (lv_sub hl [1, 2, 3] rfl)
        · have hf := ifn c19 hf
          refine lv_bipush (v := (99 : Int32)) X.1 X.2.1 dX10_year_83 (by decide) ?_
          refine lv_goto (tgt := 89) X.1 X.2.1 dX10_year_85 (by decide) ?_
          exact w_X10_year_89 X hr hk N _ (fun v0 v1 v2 h hf H locs ls M hl => ih v0 v1 v2 h hf H locs ls M hl) v0 v1 v2 t16 v2 (99 : Int32) h hf _ _ _ M (lv_sub hl [1, 2, 3] rfl)
      · have hf := ifn c18 hf
        refine lv_iconst (v := (1 : Int32)) X.1 X.2.1 dX10_year_73 (by decide) ?_
        refine lv_goto (tgt := 89) X.1 X.2.1 dX10_year_74 (by decide) ?_
        exact w_X10_year_89 X hr hk N _ (fun v0 v1 v2 h hf H locs ls M hl => ih v0 v1 v2 h hf H locs ls M hl) v0 v1 v2 t16 v2 (1 : Int32) h hf _ _ _ M (lv_sub hl [1, 2, 3] rfl)
def f_X10_year (N : Nat) (v0 : Nat) (v1 : Int32) (h : Mem) : Option (Int32 × Mem) :=
  (ck h v0 10).bind fun _ =>
  b2 (f_X10_in N v0 v1 (0 : Int32) (999 : Int32) h) fun t4 h3 =>
  if t4 = 0 then
    some ((-2 : Int32), h3)
  else
    (gI h3 v0 10 2).bind fun t6 =>
    if t6 = (99 : Int32) then
      some ((-3 : Int32), h3)
    else
      f_X10_year_29 N N v0 v1 (0 : Int32) h3
set_option maxRecDepth 100000 in
set_option maxHeartbeats 4000000 in
theorem w_X10_year {p : Program} {l : Launch} {e : Env} {s : State} {m : MethodId} {args : Array Value} {below : List Frame} {meth : Method} {c : Code} {G : Gx} {r : Int32} {h' : Mem} (X : CX G p s m args c cX10_year 5 RX10) (hr : meth.sig.returnType = (Option.some Jvm.ClassFile.FieldType.int)) (hk : meth.locks = false) (N : Nat) : ∀ (v0 : Nat) (v1 : Int32) (h : Mem), f_X10_year N v0 v1 h = some (r, h') → ∀ (H : Heap) (locs : List Loc) (ls : Array Slot), MS G s h H locs 0 → lv_has ls 5 [(0, .ref (gB G + v0)), (1, .int v1)] → W p l e (rm_X10_year) s m args below meth c H locs 0 0 (QI G below args s r h' 0 0) (F0 m 0 ls []) := by
  intro v0 v1 h hf H locs ls M hl
  rw [f_X10_year] at hf
  refine lv_aload_n X.1 X.2.1 dX10_year_0 rfl (lv_at hl 0 rfl) ?_
  refine lv_iload_n X.1 X.2.1 dX10_year_1 rfl (lv_at hl 1 rfl) ?_
  refine lv_iconst (v := (0 : Int32)) X.1 X.2.1 dX10_year_2 (by decide) ?_
  refine lv_sipush (v := (999 : Int32)) X.1 X.2.1 dX10_year_3 (by decide) ?_
  obtain ⟨⟨⟩, q1, hf⟩ := bnd hf
  obtain ⟨t4, h3, q2, hf⟩ := bnd2 hf
  refine x_callVi (As := [.int v1, .int (0 : Int32), .int (999 : Int32)]) cf_X10_197 (c_X10_in l G N v0 v1 (0 : Int32) (999 : Int32) h _ _ q2) rfl ⟨rfl, rfl, Nat.le_of_ble_eq_true rfl, Nat.le_of_ble_eq_true rfl⟩ ⟨Nat.le_of_ble_eq_true rfl, Nat.le_of_ble_eq_true rfl⟩ X M (x_recv cls_X10 X M q1) rfl rfl hl.1 (Nat.le_of_ble_eq_true rfl) dX10_year_6 (fun H locs M => ?_)
  refine lv_if_ne (tgt := 15) X.1 X.2.1 dX10_year_9 (by decide) (fun c5 => ?_) (fun c5 => ?_)
  · have hf := ifn c5 hf
    refine lv_aload_n X.1 X.2.1 dX10_year_15 rfl (lv_at hl 0 rfl) ?_
    obtain ⟨t6, q7, hf⟩ := bnd hf
    refine x_geti fl_X10_16 X M q7 dX10_year_16 ?_
    refine lv_bipush (v := (99 : Int32)) X.1 X.2.1 dX10_year_19 (by decide) ?_
    refine lv_icmp_ne (tgt := 27) X.1 X.2.1 dX10_year_21 (by decide) (fun c8 => ?_) (fun c8 => ?_)
    · have hf := ifn c8 hf
      refine lv_iconst (v := (0 : Int32)) X.1 X.2.1 dX10_year_27 (by decide) ?_
      refine lv_istore_n (lv' := [(2, .int (0 : Int32)), (0, .ref (gB G + v0)), (1, .int v1)]) X.1 X.2.1 dX10_year_28 rfl hl (by decide) rfl (fun ls hl => ?_)
      exact w_X10_year_29 X hr hk N N v0 v1 (0 : Int32) h3 hf _ _ _ M (lv_sub hl [1, 2, 0] rfl)
    · have hf := ifp c8 hf
      refine lv_bipush (v := (-3 : Int32)) X.1 X.2.1 dX10_year_24 (by decide) ?_
      obtain ⟨rfl, rfl⟩ := rt2 hf
      exact x_iret X hr hk M dX10_year_26
  · have hf := ifp c5 hf
    refine lv_bipush (v := (-2 : Int32)) X.1 X.2.1 dX10_year_12 (by decide) ?_
    obtain ⟨rfl, rfl⟩ := rt2 hf
    exact x_iret X hr hk M dX10_year_14
theorem c_X10_year (l : Launch) (G : Gx) (N : Nat) (v0 : Nat) (v1 : Int32) (h : Mem) (r : Int32) (h' : Mem) (hf : f_X10_year N v0 v1 h = some (r, h')) : MetG l G yX10_year (.code yX10_year cX10_year 5 (Option.some Jvm.ClassFile.FieldType.int)) rm_X10_year [.ref (gB G + v0), .int v1] h (QcI G r h') 0 0 :=
  x_met (by decide) rfl (Nat.le_of_ble_eq_true rfl) (fun p e s m args below meth c ls X M hr hk hin hl => w_X10_year X hr hk N v0 v1 h hf _ _ ls M hl)
abbrev rm_X10_body : Room := { frames := 1, cells := 0, slots := 0, locals := 40 }
def f_X10_body_19 (N : Nat) (v0 : Nat) (h : Mem) : Option Mem :=
  (gI h v0 10 55).bind fun t1 =>
  (sI h v0 10 55 (t1 + (1 : Int32))).bind fun h3 =>
  some h3
set_option maxRecDepth 100000 in
set_option maxHeartbeats 4000000 in
theorem w_X10_body_19 {p : Program} {l : Launch} {e : Env} {s : State} {m : MethodId} {args : Array Value} {below : List Frame} {meth : Method} {c : Code} {G : Gx} {h' : Mem} {L : Nat} (X : CX G p s m args c cX10_body 2 RX10) (hr : meth.sig.returnType = (Option.none : Option Jvm.ClassFile.FieldType)) (hk : meth.locks = false) (hL : s.heap.size + 0 = gB G + L) (N : Nat) : ∀ (v0 : Nat) (h : Mem), f_X10_body_19 N v0 h = some h' → ∀ (H : Heap) (locs : List Loc) (ls : Array Slot), MS G s h H locs 0 → lv_has ls 2 [(0, .ref (gB G + v0))] → W p l e (rm_X10_body) s m args below meth c H locs 0 0 (QV G below args s h' L 0 0) (F0 m 19 ls []) := by
  intro v0 h hf H locs ls M hl
  rw [f_X10_body_19] at hf
  refine lv_aload_n X.1 X.2.1 dX10_body_19 rfl (lv_at hl 0 rfl) ?_
  refine lv_dup X.1 X.2.1 dX10_body_20 rfl ?_
  obtain ⟨t1, q2, hf⟩ := bnd hf
  refine x_geti fl_X10_179 X M q2 dX10_body_21 ?_
  refine lv_iconst (v := (1 : Int32)) X.1 X.2.1 dX10_body_24 (by decide) ?_
  refine lv_iadd X.1 X.2.1 dX10_body_25 ?_
  obtain ⟨h3, q4, hf⟩ := bnd hf
  refine x_puti fl_X10_179 fp_X10_179.1 fp_X10_179.2 X M q4 dX10_body_26 (fun H locs M => ?_)
  obtain rfl := rt1 hf
  exact x_vret X hr hk M hL dX10_body_29
def f_X10_body (N : Nat) (v0 : Nat) (v1 : Int32) (h : Mem) : Option Mem :=
  (gI h v0 10 55).bind fun t1 =>
  if (20 : Int32) ≤ t1 then
    f_X10_body_19 N v0 h
  else
    (gR h v0 10 56).bind fun t4 =>
    (gI h v0 10 55).bind fun t6 =>
    (stI 100 h t4 t6 v1).bind fun h8 =>
    f_X10_body_19 N v0 h8
set_option maxRecDepth 100000 in
set_option maxHeartbeats 4000000 in
theorem w_X10_body {p : Program} {l : Launch} {e : Env} {s : State} {m : MethodId} {args : Array Value} {below : List Frame} {meth : Method} {c : Code} {G : Gx} {h' : Mem} {L : Nat} (X : CX G p s m args c cX10_body 2 RX10) (hr : meth.sig.returnType = (Option.none : Option Jvm.ClassFile.FieldType)) (hk : meth.locks = false) (hL : s.heap.size + 0 = gB G + L) (N : Nat) : ∀ (v0 : Nat) (v1 : Int32) (h : Mem), f_X10_body N v0 v1 h = some h' → ∀ (H : Heap) (locs : List Loc) (ls : Array Slot), MS G s h H locs 0 → lv_has ls 2 [(0, .ref (gB G + v0)), (1, .int v1)] → W p l e (rm_X10_body) s m args below meth c H locs 0 0 (QV G below args s h' L 0 0) (F0 m 0 ls []) := by
  intro v0 v1 h hf H locs ls M hl
  rw [f_X10_body] at hf
  refine lv_aload_n X.1 X.2.1 dX10_body_0 rfl (lv_at hl 0 rfl) ?_
  obtain ⟨t1, q2, hf⟩ := bnd hf
  refine x_geti fl_X10_179 X M q2 dX10_body_1 ?_
  refine lv_bipush (v := (20 : Int32)) X.1 X.2.1 dX10_body_4 (by decide) ?_
  refine lv_icmp_ge (tgt := 19) X.1 X.2.1 dX10_body_6 (by decide) (fun c3 => ?_) (fun c3 => ?_)
  · have hf := ifp c3 hf
    exact w_X10_body_19 X hr hk hL N v0 h hf _ _ _ M (lv_sub hl [0] rfl)
  · have hf := ifn c3 hf
    refine lv_aload_n X.1 X.2.1 dX10_body_9 rfl (lv_at hl 0 rfl) ?_
    obtain ⟨t4, q5, hf⟩ := bnd hf
    refine x_getr fl_X10_182 X M q5 dX10_body_10 ?_
    refine lv_aload_n X.1 X.2.1 dX10_body_13 rfl (lv_at hl 0 rfl) ?_
    obtain ⟨t6, q7, hf⟩ := bnd hf
    refine x_geti fl_X10_179 X M q7 dX10_body_14 ?_
    refine lv_iload_n X.1 X.2.1 dX10_body_17 rfl (lv_at hl 1 rfl) ?_
    obtain ⟨h8, q9, hf⟩ := bnd hf
    refine x_iast X M q9 dX10_body_18 (fun H locs M => ?_)
    exact w_X10_body_19 X hr hk hL N v0 h8 hf _ _ _ M (lv_sub hl [0] rfl)
theorem c_X10_body (l : Launch) (G : Gx) (N : Nat) (v0 : Nat) (v1 : Int32) (h : Mem) (h' : Mem) (hf : f_X10_body N v0 v1 h = some h') : MetG l G yX10_body (.code yX10_body cX10_body 2 (Option.none : Option Jvm.ClassFile.FieldType)) rm_X10_body [.ref (gB G + v0), .int v1] h (QcV G h' (h.1.length + 0)) 0 0 :=
  x_met (by decide) rfl (Nat.le_of_ble_eq_true rfl) (fun p e s m args below meth c ls X M hr hk hin hl => w_X10_body X hr hk (by have := M.2.2; omega) N v0 v1 h hf _ _ ls M hl)
abbrev rm_X10_plainHolds : Room := { frames := 2, cells := 0, slots := 0, locals := 61 }
def f_X10_plainHolds (N : Nat) (v0 : Nat) (v1 : Int32) (h : Mem) : Option (Int32 × Mem) :=
  (ck h v0 10).bind fun _ =>
  (f_X10_body N v0 (10 : Int32) h).bind fun h3 =>
  (gI h3 v0 10 1).bind fun t4 =>
  some ((v1 + t4), h3)
set_option maxRecDepth 100000 in
set_option maxHeartbeats 4000000 in
theorem w_X10_plainHolds {p : Program} {l : Launch} {e : Env} {s : State} {m : MethodId} {args : Array Value} {below : List Frame} {meth : Method} {c : Code} {G : Gx} {r : Int32} {h' : Mem} (X : CX G p s m args c cX10_plainHolds 2 RX10) (hr : meth.sig.returnType = (Option.some Jvm.ClassFile.FieldType.int)) (hk : meth.locks = false) (N : Nat) : ∀ (v0 : Nat) (v1 : Int32) (h : Mem), f_X10_plainHolds N v0 v1 h = some (r, h') → ∀ (H : Heap) (locs : List Loc) (ls : Array Slot), MS G s h H locs 0 → lv_has ls 2 [(0, .ref (gB G + v0)), (1, .int v1)] → W p l e (rm_X10_plainHolds) s m args below meth c H locs 0 0 (QI G below args s r h' 0 0) (F0 m 0 ls []) := by
  intro v0 v1 h hf H locs ls M hl
  rw [f_X10_plainHolds] at hf
  refine lv_aload_n X.1 X.2.1 dX10_plainHolds_0 rfl (lv_at hl 0 rfl) ?_
  refine lv_bipush (v := (10 : Int32)) X.1 X.2.1 dX10_plainHolds_1 (by decide) ?_
  obtain ⟨⟨⟩, q1, hf⟩ := bnd hf
  obtain ⟨h3, q2, hf⟩ := bnd hf
  refine x_callVv (As := [.int (10 : Int32)]) cf_X10_393 (c_X10_body l G N v0 (10 : Int32) h _ q2) rfl ⟨rfl, rfl, Nat.le_of_ble_eq_true rfl, Nat.le_of_ble_eq_true rfl⟩ ⟨Nat.le_of_ble_eq_true rfl, Nat.le_of_ble_eq_true rfl⟩ X M (x_recv cls_X10 X M q1) rfl rfl hl.1 (Nat.le_of_ble_eq_true rfl) dX10_plainHolds_3 (fun H locs M => ?_)
  refine lv_iload_n X.1 X.2.1 dX10_plainHolds_6 rfl (lv_at hl 1 rfl) ?_
  refine lv_aload_n X.1 X.2.1 dX10_plainHolds_7 rfl (lv_at hl 0 rfl) ?_
  obtain ⟨t4, q5, hf⟩ := bnd hf
  refine x_geti fl_X10_13 X M q5 dX10_plainHolds_8 ?_
  refine lv_iadd X.1 X.2.1 dX10_plainHolds_11 ?_
  obtain ⟨rfl, rfl⟩ := rt2 hf
  exact x_iret X hr hk M dX10_plainHolds_12
theorem c_X10_plainHolds (l : Launch) (G : Gx) (N : Nat) (v0 : Nat) (v1 : Int32) (h : Mem) (r : Int32) (h' : Mem) (hf : f_X10_plainHolds N v0 v1 h = some (r, h')) : MetG l G yX10_plainHolds (.code yX10_plainHolds cX10_plainHolds 2 (Option.some Jvm.ClassFile.FieldType.int)) rm_X10_plainHolds [.ref (gB G + v0), .int v1] h (QcI G r h') 0 0 :=
  x_met (by decide) rfl (Nat.le_of_ble_eq_true rfl) (fun p e s m args below meth c ls X M hr hk hin hl => w_X10_plainHolds X hr hk N v0 v1 h hf _ _ ls M hl)
abbrev rm_X10_votedHolds : Room := { frames := 3, cells := 0, slots := 0, locals := 82 }
def f_X10_votedHolds (N : Nat) (v0 : Nat) (v1 : Int32) (h : Mem) : Option (Int32 × Mem) :=
  (ck h v0 10).bind fun _ =>
  (f_X10_body N v0 (30 : Int32) h).bind fun h3 =>
  (ck h3 v0 10).bind fun _ =>
  b2 (f_X10_plainHolds N v0 (v1 * (3 : Int32)) h3) fun t7 h6 =>
  some (t7, h6)
set_option maxRecDepth 100000 in
set_option maxHeartbeats 4000000 in
theorem w_X10_votedHolds {p : Program} {l : Launch} {e : Env} {s : State} {m : MethodId} {args : Array Value} {below : List Frame} {meth : Method} {c : Code} {G : Gx} {r : Int32} {h' : Mem} (X : CX G p s m args c cX10_votedHolds 2 RX10) (hr : meth.sig.returnType = (Option.some Jvm.ClassFile.FieldType.int)) (hk : meth.locks = false) (N : Nat) : ∀ (v0 : Nat) (v1 : Int32) (h : Mem), f_X10_votedHolds N v0 v1 h = some (r, h') → ∀ (H : Heap) (locs : List Loc) (ls : Array Slot), MS G s h H locs 0 → lv_has ls 2 [(0, .ref (gB G + v0)), (1, .int v1)] → W p l e (rm_X10_votedHolds) s m args below meth c H locs 0 0 (QI G below args s r h' 0 0) (F0 m 0 ls []) := by
  intro v0 v1 h hf H locs ls M hl
  rw [f_X10_votedHolds] at hf
  refine lv_aload_n X.1 X.2.1 dX10_votedHolds_0 rfl (lv_at hl 0 rfl) ?_
  refine lv_bipush (v := (30 : Int32)) X.1 X.2.1 dX10_votedHolds_1 (by decide) ?_
  obtain ⟨⟨⟩, q1, hf⟩ := bnd hf
  obtain ⟨h3, q2, hf⟩ := bnd hf
  refine x_callVv (As := [.int (30 : Int32)]) cf_X10_393 (c_X10_body l G N v0 (30 : Int32) h _ q2) rfl ⟨rfl, rfl, Nat.le_of_ble_eq_true rfl, Nat.le_of_ble_eq_true rfl⟩ ⟨Nat.le_of_ble_eq_true rfl, Nat.le_of_ble_eq_true rfl⟩ X M (x_recv cls_X10 X M q1) rfl rfl hl.1 (Nat.le_of_ble_eq_true rfl) dX10_votedHolds_3 (fun H locs M => ?_)
  refine lv_aload_n X.1 X.2.1 dX10_votedHolds_6 rfl (lv_at hl 0 rfl) ?_
  refine lv_iload_n X.1 X.2.1 dX10_votedHolds_7 rfl (lv_at hl 1 rfl) ?_
  refine lv_iconst (v := (3 : Int32)) X.1 X.2.1 dX10_votedHolds_8 (by decide) ?_
  refine lv_imul X.1 X.2.1 dX10_votedHolds_9 ?_
  obtain ⟨⟨⟩, q4, hf⟩ := bnd hf
  obtain ⟨t7, h6, q5, hf⟩ := bnd2 hf
  refine x_callVi (As := [.int (v1 * (3 : Int32))]) cf_X10_396 (c_X10_plainHolds l G N v0 (v1 * (3 : Int32)) h3 _ _ q5) rfl ⟨rfl, rfl, Nat.le_of_ble_eq_true rfl, Nat.le_of_ble_eq_true rfl⟩ ⟨Nat.le_of_ble_eq_true rfl, Nat.le_of_ble_eq_true rfl⟩ X M (x_recv cls_X10 X M q4) rfl rfl hl.1 (Nat.le_of_ble_eq_true rfl) dX10_votedHolds_10 (fun H locs M => ?_)
  obtain ⟨rfl, rfl⟩ := rt2 hf
  exact x_iret X hr hk M dX10_votedHolds_13
theorem c_X10_votedHolds (l : Launch) (G : Gx) (N : Nat) (v0 : Nat) (v1 : Int32) (h : Mem) (r : Int32) (h' : Mem) (hf : f_X10_votedHolds N v0 v1 h = some (r, h')) : MetG l G yX10_votedHolds (.code yX10_votedHolds cX10_votedHolds 2 (Option.some Jvm.ClassFile.FieldType.int)) rm_X10_votedHolds [.ref (gB G + v0), .int v1] h (QcI G r h') 0 0 :=
  x_met (by decide) rfl (Nat.le_of_ble_eq_true rfl) (fun p e s m args below meth c ls X M hr hk hin hl => w_X10_votedHolds X hr hk N v0 v1 h hf _ _ ls M hl)
abbrev rm_X10_holds : Room := { frames := 4, cells := 0, slots := 0, locals := 103 }
def f_X10_holds_10 (N : Nat) (v0 : Nat) (v2 : Int32) (h : Mem) : Option (Int32 × Mem) :=
  (ck h v0 10).bind fun _ =>
  b2 (f_X10_votedHolds N v0 v2 h) fun t4 h3 =>
  some (t4, h3)
set_option maxRecDepth 100000 in
set_option maxHeartbeats 4000000 in
theorem w_X10_holds_10 {p : Program} {l : Launch} {e : Env} {s : State} {m : MethodId} {args : Array Value} {below : List Frame} {meth : Method} {c : Code} {G : Gx} {r : Int32} {h' : Mem} (X : CX G p s m args c cX10_holds 3 RX10) (hr : meth.sig.returnType = (Option.some Jvm.ClassFile.FieldType.int)) (hk : meth.locks = false) (N : Nat) : ∀ (v0 : Nat) (v2 : Int32) (h : Mem), f_X10_holds_10 N v0 v2 h = some (r, h') → ∀ (H : Heap) (locs : List Loc) (ls : Array Slot), MS G s h H locs 0 → lv_has ls 3 [(0, .ref (gB G + v0)), (2, .int v2)] → W p l e (rm_X10_holds) s m args below meth c H locs 0 0 (QI G below args s r h' 0 0) (F0 m 10 ls []) := by
  intro v0 v2 h hf H locs ls M hl
  rw [f_X10_holds_10] at hf
  refine lv_aload_n X.1 X.2.1 dX10_holds_10 rfl (lv_at hl 0 rfl) ?_
  refine lv_iload_n X.1 X.2.1 dX10_holds_11 rfl (lv_at hl 1 rfl) ?_
  obtain ⟨⟨⟩, q1, hf⟩ := bnd hf
  obtain ⟨t4, h3, q2, hf⟩ := bnd2 hf
  refine x_callVi (As := [.int v2]) cf_X10_399 (c_X10_votedHolds l G N v0 v2 h _ _ q2) rfl ⟨rfl, rfl, Nat.le_of_ble_eq_true rfl, Nat.le_of_ble_eq_true rfl⟩ ⟨Nat.le_of_ble_eq_true rfl, Nat.le_of_ble_eq_true rfl⟩ X M (x_recv cls_X10 X M q1) rfl rfl hl.1 (Nat.le_of_ble_eq_true rfl) dX10_holds_12 (fun H locs M => ?_)
  obtain ⟨rfl, rfl⟩ := rt2 hf
  exact x_iret X hr hk M dX10_holds_15
def f_X10_holds (N : Nat) (v0 : Nat) (v1 : Int32) (v2 : Int32) (h : Mem) : Option (Int32 × Mem) :=
  if v1 = (2 : Int32) then
    f_X10_holds_10 N v0 v2 h
  else
    if v1 = (4 : Int32) then
      f_X10_holds_10 N v0 v2 h
    else
      if v1 = (3 : Int32) then
        (ck h v0 10).bind fun _ =>
        (f_X10_body N v0 (40 : Int32) h).bind fun h10 =>
        (ck h10 v0 10).bind fun _ =>
        b2 (f_X10_plainHolds N v0 v2 h10) fun t14 h13 =>
        some ((-t14), h13)
      else
        (ck h v0 10).bind fun _ =>
        b2 (f_X10_plainHolds N v0 v2 h) fun t7 h6 =>
        some (t7, h6)
set_option maxRecDepth 100000 in
set_option maxHeartbeats 4000000 in
theorem w_X10_holds {p : Program} {l : Launch} {e : Env} {s : State} {m : MethodId} {args : Array Value} {below : List Frame} {meth : Method} {c : Code} {G : Gx} {r : Int32} {h' : Mem} (X : CX G p s m args c cX10_holds 3 RX10) (hr : meth.sig.returnType = (Option.some Jvm.ClassFile.FieldType.int)) (hk : meth.locks = false) (N : Nat) : ∀ (v0 : Nat) (v1 : Int32) (v2 : Int32) (h : Mem), f_X10_holds N v0 v1 v2 h = some (r, h') → ∀ (H : Heap) (locs : List Loc) (ls : Array Slot), MS G s h H locs 0 → lv_has ls 3 [(0, .ref (gB G + v0)), (1, .int v1), (2, .int v2)] → W p l e (rm_X10_holds) s m args below meth c H locs 0 0 (QI G below args s r h' 0 0) (F0 m 0 ls []) := by
  intro v0 v1 v2 h hf H locs ls M hl
  rw [f_X10_holds] at hf
  refine lv_iload_n X.1 X.2.1 dX10_holds_0 rfl (lv_at hl 1 rfl) ?_
  refine lv_iconst (v := (2 : Int32)) X.1 X.2.1 dX10_holds_1 (by decide) ?_
  refine lv_icmp_eq (tgt := 10) X.1 X.2.1 dX10_holds_2 (by decide) (fun c1 => ?_) (fun c1 => ?_)
  · have hf := ifp c1 hf
    exact w_X10_holds_10 X hr hk N v0 v2 h hf _ _ _ M (lv_sub hl [0, 2] rfl)
  · have hf := ifn c1 hf
    refine lv_iload_n X.1 X.2.1 dX10_holds_5 rfl (lv_at hl 1 rfl) ?_
    refine lv_iconst (v := (4 : Int32)) X.1 X.2.1 dX10_holds_6 (by decide) ?_
    refine lv_icmp_ne (tgt := 16) X.1 X.2.1 dX10_holds_7 (by decide) (fun c2 => ?_) (fun c2 => ?_)
    · have hf := ifn c2 hf
      refine lv_iload_n X.1 X.2.1 dX10_holds_16 rfl (lv_at hl 1 rfl) ?_
      refine lv_iconst (v := (3 : Int32)) X.1 X.2.1 dX10_holds_17 (by decide) ?_
      refine lv_icmp_ne (tgt := 34) X.1 X.2.1 dX10_holds_18 (by decide) (fun c3 => ?_) (fun c3 => ?_)
      · have hf := ifn c3 hf
        refine lv_aload_n X.1 X.2.1 dX10_holds_34 rfl (lv_at hl 0 rfl) ?_
        refine lv_iload_n X.1 X.2.1 dX10_holds_35 rfl (lv_at hl 2 rfl) ?_
        obtain ⟨⟨⟩, q4, hf⟩ := bnd hf
        obtain ⟨t7, h6, q5, hf⟩ := bnd2 hf
        refine x_callVi (As := [.int v2]) cf_X10_396 (c_X10_plainHolds l G N v0 v2 h _ _ q5) rfl ⟨rfl, rfl, Nat.le_of_ble_eq_true rfl, Nat.le_of_ble_eq_true rfl⟩ ⟨Nat.le_of_ble_eq_true rfl, Nat.le_of_ble_eq_true rfl⟩ X M (x_recv cls_X10 X M q4) rfl rfl hl.1 (Nat.le_of_ble_eq_true rfl) dX10_holds_36 (fun H locs M => ?_)
        obtain ⟨rfl, rfl⟩ := rt2 hf
        exact x_iret X hr hk M dX10_holds_39
      · have hf := ifp c3 hf
        refine lv_aload_n X.1 X.2.1 dX10_holds_21 rfl (lv_at hl 0 rfl) ?_
        refine lv_bipush (v := (40 : Int32)) X.1 X.2.1 dX10_holds_22 (by decide) ?_
        obtain ⟨⟨⟩, q8, hf⟩ := bnd hf
        obtain ⟨h10, q9, hf⟩ := bnd hf
        refine x_callVv (As := [.int (40 : Int32)]) cf_X10_393 (c_X10_body l G N v0 (40 : Int32) h _ q9) rfl ⟨rfl, rfl, Nat.le_of_ble_eq_true rfl, Nat.le_of_ble_eq_true rfl⟩ ⟨Nat.le_of_ble_eq_true rfl, Nat.le_of_ble_eq_true rfl⟩ X M (x_recv cls_X10 X M q8) rfl rfl hl.1 (Nat.le_of_ble_eq_true rfl) dX10_holds_24 (fun H locs M => ?_)
        refine lv_aload_n X.1 X.2.1 dX10_holds_27 rfl (lv_at hl 0 rfl) ?_
        refine lv_iload_n X.1 X.2.1 dX10_holds_28 rfl (lv_at hl 2 rfl) ?_
        obtain ⟨⟨⟩, q11, hf⟩ := bnd hf
        obtain ⟨t14, h13, q12, hf⟩ := bnd2 hf
        refine x_callVi (As := [.int v2]) cf_X10_396 (c_X10_plainHolds l G N v0 v2 h10 _ _ q12) rfl ⟨rfl, rfl, Nat.le_of_ble_eq_true rfl, Nat.le_of_ble_eq_true rfl⟩ ⟨Nat.le_of_ble_eq_true rfl, Nat.le_of_ble_eq_true rfl⟩ X M (x_recv cls_X10 X M q11) rfl rfl hl.1 (Nat.le_of_ble_eq_true rfl) dX10_holds_29 (fun H locs M => ?_)
        refine lv_ineg X.1 X.2.1 dX10_holds_32 ?_
        obtain ⟨rfl, rfl⟩ := rt2 hf
        exact x_iret X hr hk M dX10_holds_33
    · have hf := ifp c2 hf
      exact w_X10_holds_10 X hr hk N v0 v2 h hf _ _ _ M (lv_sub hl [0, 2] rfl)
theorem c_X10_holds (l : Launch) (G : Gx) (N : Nat) (v0 : Nat) (v1 : Int32) (v2 : Int32) (h : Mem) (r : Int32) (h' : Mem) (hf : f_X10_holds N v0 v1 v2 h = some (r, h')) : MetG l G yX10_holds (.code yX10_holds cX10_holds 3 (Option.some Jvm.ClassFile.FieldType.int)) rm_X10_holds [.ref (gB G + v0), .int v1, .int v2] h (QcI G r h') 0 0 :=
  x_met (by decide) rfl (Nat.le_of_ble_eq_true rfl) (fun p e s m args below meth c ls X M hr hk hin hl => w_X10_holds X hr hk N v0 v1 v2 h hf _ _ ls M hl)
abbrev rm_X10_plainBreaks : Room := { frames := 5, cells := 0, slots := 0, locals := 125 }
def f_X10_plainBreaks (N : Nat) (v0 : Nat) (v1 : Int32) (v2 : Int32) (h : Mem) : Option (Int32 × Mem) :=
  (ck h v0 10).bind fun _ =>
  (f_X10_body N v0 (11 : Int32) h).bind fun h3 =>
  (ck h3 v0 10).bind fun _ =>
  b2 (f_X10_holds N v0 v1 v2 h3) fun t7 h6 =>
  (gI h6 v0 10 0).bind fun t8 =>
  some ((t7 - t8), h6)
set_option maxRecDepth 100000 in
set_option maxHeartbeats 4000000 in
theorem w_X10_plainBreaks {p : Program} {l : Launch} {e : Env} {s : State} {m : MethodId} {args : Array Value} {below : List Frame} {meth : Method} {c : Code} {G : Gx} {r : Int32} {h' : Mem} (X : CX G p s m args c cX10_plainBreaks 3 RX10) (hr : meth.sig.returnType = (Option.some Jvm.ClassFile.FieldType.int)) (hk : meth.locks = false) (N : Nat) : ∀ (v0 : Nat) (v1 : Int32) (v2 : Int32) (h : Mem), f_X10_plainBreaks N v0 v1 v2 h = some (r, h') → ∀ (H : Heap) (locs : List Loc) (ls : Array Slot), MS G s h H locs 0 → lv_has ls 3 [(0, .ref (gB G + v0)), (1, .int v1), (2, .int v2)] → W p l e (rm_X10_plainBreaks) s m args below meth c H locs 0 0 (QI G below args s r h' 0 0) (F0 m 0 ls []) := by
  intro v0 v1 v2 h hf H locs ls M hl
  rw [f_X10_plainBreaks] at hf
  refine lv_aload_n X.1 X.2.1 dX10_plainBreaks_0 rfl (lv_at hl 0 rfl) ?_
  refine lv_bipush (v := (11 : Int32)) X.1 X.2.1 dX10_plainBreaks_1 (by decide) ?_
  obtain ⟨⟨⟩, q1, hf⟩ := bnd hf
  obtain ⟨h3, q2, hf⟩ := bnd hf
  refine x_callVv (As := [.int (11 : Int32)]) cf_X10_393 (c_X10_body l G N v0 (11 : Int32) h _ q2) rfl ⟨rfl, rfl, Nat.le_of_ble_eq_true rfl, Nat.le_of_ble_eq_true rfl⟩ ⟨Nat.le_of_ble_eq_true rfl, Nat.le_of_ble_eq_true rfl⟩ X M (x_recv cls_X10 X M q1) rfl rfl hl.1 (Nat.le_of_ble_eq_true rfl) dX10_plainBreaks_3 (fun H locs M => ?_)
  refine lv_aload_n X.1 X.2.1 dX10_plainBreaks_6 rfl (lv_at hl 0 rfl) ?_
  refine lv_iload_n X.1 X.2.1 dX10_plainBreaks_7 rfl (lv_at hl 1 rfl) ?_
  refine lv_iload_n X.1 X.2.1 dX10_plainBreaks_8 rfl (lv_at hl 2 rfl) ?_
  obtain ⟨⟨⟩, q4, hf⟩ := bnd hf
  obtain ⟨t7, h6, q5, hf⟩ := bnd2 hf
  refine x_callVi (As := [.int v1, .int v2]) cf_X10_402 (c_X10_holds l G N v0 v1 v2 h3 _ _ q5) rfl ⟨rfl, rfl, Nat.le_of_ble_eq_true rfl, Nat.le_of_ble_eq_true rfl⟩ ⟨Nat.le_of_ble_eq_true rfl, Nat.le_of_ble_eq_true rfl⟩ X M (x_recv cls_X10 X M q4) rfl rfl hl.1 (Nat.le_of_ble_eq_true rfl) dX10_plainBreaks_9 (fun H locs M => ?_)
  refine lv_aload_n X.1 X.2.1 dX10_plainBreaks_12 rfl (lv_at hl 0 rfl) ?_
  obtain ⟨t8, q9, hf⟩ := bnd hf
  refine x_geti fl_X10_7 X M q9 dX10_plainBreaks_13 ?_
  refine lv_isub X.1 X.2.1 dX10_plainBreaks_16 ?_
  obtain ⟨rfl, rfl⟩ := rt2 hf
  exact x_iret X hr hk M dX10_plainBreaks_17
theorem c_X10_plainBreaks (l : Launch) (G : Gx) (N : Nat) (v0 : Nat) (v1 : Int32) (v2 : Int32) (h : Mem) (r : Int32) (h' : Mem) (hf : f_X10_plainBreaks N v0 v1 v2 h = some (r, h')) : MetG l G yX10_plainBreaks (.code yX10_plainBreaks cX10_plainBreaks 3 (Option.some Jvm.ClassFile.FieldType.int)) rm_X10_plainBreaks [.ref (gB G + v0), .int v1, .int v2] h (QcI G r h') 0 0 :=
  x_met (by decide) rfl (Nat.le_of_ble_eq_true rfl) (fun p e s m args below meth c ls X M hr hk hin hl => w_X10_plainBreaks X hr hk N v0 v1 v2 h hf _ _ ls M hl)
abbrev rm_X10_stayBreaks : Room := { frames := 6, cells := 0, slots := 0, locals := 147 }
def f_X10_stayBreaks (N : Nat) (v0 : Nat) (v1 : Int32) (v2 : Int32) (h : Mem) : Option (Int32 × Mem) :=
  (ck h v0 10).bind fun _ =>
  (f_X10_body N v0 (20 : Int32) h).bind fun h3 =>
  (ck h3 v0 10).bind fun _ =>
  b2 (f_X10_plainBreaks N v0 v1 v2 h3) fun t7 h6 =>
  some ((t7 ^^^ (5 : Int32)), h6)
set_option maxRecDepth 100000 in
set_option maxHeartbeats 4000000 in
theorem w_X10_stayBreaks {p : Program} {l : Launch} {e : Env} {s : State} {m : MethodId} {args : Array Value} {below : List Frame} {meth : Method} {c : Code} {G : Gx} {r : Int32} {h' : Mem} (X : CX G p s m args c cX10_stayBreaks 3 RX10) (hr : meth.sig.returnType = (Option.some Jvm.ClassFile.FieldType.int)) (hk : meth.locks = false) (N : Nat) : ∀ (v0 : Nat) (v1 : Int32) (v2 : Int32) (h : Mem), f_X10_stayBreaks N v0 v1 v2 h = some (r, h') → ∀ (H : Heap) (locs : List Loc) (ls : Array Slot), MS G s h H locs 0 → lv_has ls 3 [(0, .ref (gB G + v0)), (1, .int v1), (2, .int v2)] → W p l e (rm_X10_stayBreaks) s m args below meth c H locs 0 0 (QI G below args s r h' 0 0) (F0 m 0 ls []) := by
  intro v0 v1 v2 h hf H locs ls M hl
  rw [f_X10_stayBreaks] at hf
  refine lv_aload_n X.1 X.2.1 dX10_stayBreaks_0 rfl (lv_at hl 0 rfl) ?_
  refine lv_bipush (v := (20 : Int32)) X.1 X.2.1 dX10_stayBreaks_1 (by decide) ?_
  obtain ⟨⟨⟩, q1, hf⟩ := bnd hf
  obtain ⟨h3, q2, hf⟩ := bnd hf
  refine x_callVv (As := [.int (20 : Int32)]) cf_X10_393 (c_X10_body l G N v0 (20 : Int32) h _ q2) rfl ⟨rfl, rfl, Nat.le_of_ble_eq_true rfl, Nat.le_of_ble_eq_true rfl⟩ ⟨Nat.le_of_ble_eq_true rfl, Nat.le_of_ble_eq_true rfl⟩ X M (x_recv cls_X10 X M q1) rfl rfl hl.1 (Nat.le_of_ble_eq_true rfl) dX10_stayBreaks_3 (fun H locs M => ?_)
  refine lv_aload_n X.1 X.2.1 dX10_stayBreaks_6 rfl (lv_at hl 0 rfl) ?_
  refine lv_iload_n X.1 X.2.1 dX10_stayBreaks_7 rfl (lv_at hl 1 rfl) ?_
  refine lv_iload_n X.1 X.2.1 dX10_stayBreaks_8 rfl (lv_at hl 2 rfl) ?_
  obtain ⟨⟨⟩, q4, hf⟩ := bnd hf
  obtain ⟨t7, h6, q5, hf⟩ := bnd2 hf
  refine x_callVi (As := [.int v1, .int v2]) cf_X10_405 (c_X10_plainBreaks l G N v0 v1 v2 h3 _ _ q5) rfl ⟨rfl, rfl, Nat.le_of_ble_eq_true rfl, Nat.le_of_ble_eq_true rfl⟩ ⟨Nat.le_of_ble_eq_true rfl, Nat.le_of_ble_eq_true rfl⟩ X M (x_recv cls_X10 X M q4) rfl rfl hl.1 (Nat.le_of_ble_eq_true rfl) dX10_stayBreaks_9 (fun H locs M => ?_)
  refine lv_iconst (v := (5 : Int32)) X.1 X.2.1 dX10_stayBreaks_12 (by decide) ?_
  refine lv_ixor X.1 X.2.1 dX10_stayBreaks_13 ?_
  obtain ⟨rfl, rfl⟩ := rt2 hf
  exact x_iret X hr hk M dX10_stayBreaks_14
theorem c_X10_stayBreaks (l : Launch) (G : Gx) (N : Nat) (v0 : Nat) (v1 : Int32) (v2 : Int32) (h : Mem) (r : Int32) (h' : Mem) (hf : f_X10_stayBreaks N v0 v1 v2 h = some (r, h')) : MetG l G yX10_stayBreaks (.code yX10_stayBreaks cX10_stayBreaks 3 (Option.some Jvm.ClassFile.FieldType.int)) rm_X10_stayBreaks [.ref (gB G + v0), .int v1, .int v2] h (QcI G r h') 0 0 :=
  x_met (by decide) rfl (Nat.le_of_ble_eq_true rfl) (fun p e s m args below meth c ls X M hr hk hin hl => w_X10_stayBreaks X hr hk N v0 v1 v2 h hf _ _ ls M hl)
abbrev rm_X10_breaks : Room := { frames := 7, cells := 0, slots := 0, locals := 169 }
def f_X10_breaks (N : Nat) (v0 : Nat) (v1 : Int32) (v2 : Int32) (h : Mem) : Option (Int32 × Mem) :=
  if v1 = 0 then
    (ck h v0 10).bind fun _ =>
    b2 (f_X10_plainBreaks N v0 v1 v2 h) fun t31 h30 =>
    some (t31, h30)
  else
    if v1 = (4 : Int32) then
      (ck h v0 10).bind fun _ =>
      (f_X10_body N v0 (51 : Int32) h).bind fun h19 =>
      (ck h19 v0 10).bind fun _ =>
      b2 (f_X10_stayBreaks N v0 v1 v2 h19) fun t23 h22 =>
      (ck h22 v0 10).bind fun _ =>
      b2 (f_X10_votedHolds N v0 (2 : Int32) h22) fun t27 h26 =>
      some ((t23 + t27), h26)
    else
      if v1 = (5 : Int32) then
        (ck h v0 10).bind fun _ =>
        (f_X10_body N v0 (60 : Int32) h).bind fun h10 =>
        (gI h10 v0 10 0).bind fun t11 =>
        (ck h10 v0 10).bind fun _ =>
        b2 (f_X10_stayBreaks N v0 v1 (v2 + t11) h10) fun t16 h15 =>
        some (t16, h15)
      else
        (ck h v0 10).bind fun _ =>
        b2 (f_X10_stayBreaks N v0 v1 v2 h) fun t7 h6 =>
        some (t7, h6)
set_option maxRecDepth 100000 in
set_option maxHeartbeats 4000000 in
theorem w_X10_breaks {p : Program} {l : Launch} {e : Env} {s : State} {m : MethodId} {args : Array Value} {below : List Frame} {meth : Method} {c : Code} {G : Gx} {r : Int32} {h' : Mem} (X : CX G p s m args c cX10_breaks 4 RX10) (hr : meth.sig.returnType = (Option.some Jvm.ClassFile.FieldType.int)) (hk : meth.locks = false) (N : Nat) : ∀ (v0 : Nat) (v1 : Int32) (v2 : Int32) (h : Mem), f_X10_breaks N v0 v1 v2 h = some (r, h') → ∀ (H : Heap) (locs : List Loc) (ls : Array Slot), MS G s h H locs 0 → lv_has ls 4 [(0, .ref (gB G + v0)), (1, .int v1), (2, .int v2)] → W p l e (rm_X10_breaks) s m args below meth c H locs 0 0 (QI G below args s r h' 0 0) (F0 m 0 ls []) := by
  intro v0 v1 v2 h hf H locs ls M hl
  rw [f_X10_breaks] at hf
  refine lv_iload_n X.1 X.2.1 dX10_breaks_0 rfl (lv_at hl 1 rfl) ?_
  refine lv_if_ne (tgt := 11) X.1 X.2.1 dX10_breaks_1 (by decide) (fun c1 => ?_) (fun c1 => ?_)
  · have hf := ifn c1 hf
    refine lv_iload_n X.1 X.2.1 dX10_breaks_11 rfl (lv_at hl 1 rfl) ?_
    refine lv_iconst (v := (4 : Int32)) X.1 X.2.1 dX10_breaks_12 (by decide) ?_
    refine lv_icmp_ne (tgt := 37) X.1 X.2.1 dX10_breaks_13 (by decide) (fun c2 => ?_) (fun c2 => ?_)
    · have hf := ifn c2 hf
      refine lv_iload_n X.1 X.2.1 dX10_breaks_37 rfl (lv_at hl 1 rfl) ?_
      refine lv_iconst (v := (5 : Int32)) X.1 X.2.1 dX10_breaks_38 (by decide) ?_
      refine lv_icmp_ne (tgt := 60) X.1 X.2.1 dX10_breaks_39 (by decide) (fun c3 => ?_) (fun c3 => ?_)
      · have hf := ifn c3 hf
        refine lv_aload_n X.1 X.2.1 dX10_breaks_60 rfl (lv_at hl 0 rfl) ?_
        refine lv_iload_n X.1 X.2.1 dX10_breaks_61 rfl (lv_at hl 1 rfl) ?_
        refine lv_iload_n X.1 X.2.1 dX10_breaks_62 rfl (lv_at hl 2 rfl) ?_
        obtain ⟨⟨⟩, q4, hf⟩ := bnd hf
        obtain ⟨t7, h6, q5, hf⟩ := bnd2 hf
        refine x_callVi (As := [.int v1, .int v2]) cf_X10_408 (c_X10_stayBreaks l G N v0 v1 v2 h _ _ q5) rfl ⟨rfl, rfl, Nat.le_of_ble_eq_true rfl, Nat.le_of_ble_eq_true rfl⟩ ⟨Nat.le_of_ble_eq_true rfl, Nat.le_of_ble_eq_true rfl⟩ X M (x_recv cls_X10 X M q4) rfl rfl hl.1 (Nat.le_of_ble_eq_true rfl) dX10_breaks_63 (fun H locs M => ?_)
        obtain ⟨rfl, rfl⟩ := rt2 hf
        exact x_iret X hr hk M dX10_breaks_66
      · have hf := ifp c3 hf
        refine lv_aload_n X.1 X.2.1 dX10_breaks_42 rfl (lv_at hl 0 rfl) ?_
        refine lv_bipush (v := (60 : Int32)) X.1 X.2.1 dX10_breaks_43 (by decide) ?_
        obtain ⟨⟨⟩, q8, hf⟩ := bnd hf
        obtain ⟨h10, q9, hf⟩ := bnd hf
        refine x_callVv (As := [.int (60 : Int32)]) cf_X10_393 (c_X10_body l G N v0 (60 : Int32) h _ q9) rfl ⟨rfl, rfl, Nat.le_of_ble_eq_true rfl, Nat.le_of_ble_eq_true rfl⟩ ⟨Nat.le_of_ble_eq_true rfl, Nat.le_of_ble_eq_true rfl⟩ X M (x_recv cls_X10 X M q8) rfl rfl hl.1 (Nat.le_of_ble_eq_true rfl) dX10_breaks_45 (fun H locs M => ?_)
        refine lv_aload_n X.1 X.2.1 dX10_breaks_48 rfl (lv_at hl 0 rfl) ?_
        refine lv_iload_n X.1 X.2.1 dX10_breaks_49 rfl (lv_at hl 1 rfl) ?_
        refine lv_iload_n X.1 X.2.1 dX10_breaks_50 rfl (lv_at hl 2 rfl) ?_
        refine lv_aload_n X.1 X.2.1 dX10_breaks_51 rfl (lv_at hl 0 rfl) ?_
        obtain ⟨t11, q12, hf⟩ := bnd hf
        refine x_geti fl_X10_7 X M q12 dX10_breaks_52 ?_
        refine lv_iadd X.1 X.2.1 dX10_breaks_55 ?_
        obtain ⟨⟨⟩, q13, hf⟩ := bnd hf
        obtain ⟨t16, h15, q14, hf⟩ := bnd2 hf
        refine x_callVi (As := [.int v1, .int (v2 + t11)]) cf_X10_408 (c_X10_stayBreaks l G N v0 v1 (v2 + t11) h10 _ _ q14) rfl ⟨rfl, rfl, Nat.le_of_ble_eq_true rfl, Nat.le_of_ble_eq_true rfl⟩ ⟨Nat.le_of_ble_eq_true rfl, Nat.le_of_ble_eq_true rfl⟩ X M (x_recv cls_X10 X M q13) rfl rfl hl.1 (Nat.le_of_ble_eq_true rfl) dX10_breaks_56 (fun H locs M => ?_)
        obtain ⟨rfl, rfl⟩ := rt2 hf
        exact x_iret X hr hk M dX10_breaks_59
    · have hf := ifp c2 hf
      refine lv_aload_n X.1 X.2.1 dX10_breaks_16 rfl (lv_at hl 0 rfl) ?_
      refine lv_bipush (v := (51 : Int32)) X.1 X.2.1 dX10_breaks_17 (by decide) ?_
      obtain ⟨⟨⟩, q17, hf⟩ := bnd hf
      obtain ⟨h19, q18, hf⟩ := bnd hf
      refine x_callVv (As := [.int (51 : Int32)]) cf_X10_393 (c_X10_body l G N v0 (51 : Int32) h _ q18) rfl ⟨rfl, rfl, Nat.le_of_ble_eq_true rfl, Nat.le_of_ble_eq_true rfl⟩ ⟨Nat.le_of_ble_eq_true rfl, Nat.le_of_ble_eq_true rfl⟩ X M (x_recv cls_X10 X M q17) rfl rfl hl.1 (Nat.le_of_ble_eq_true rfl) dX10_breaks_19 (fun H locs M => ?_)
      refine lv_aload_n X.1 X.2.1 dX10_breaks_22 rfl (lv_at hl 0 rfl) ?_
      refine lv_iload_n X.1 X.2.1 dX10_breaks_23 rfl (lv_at hl 1 rfl) ?_
      refine lv_iload_n X.1 X.2.1 dX10_breaks_24 rfl (lv_at hl 2 rfl) ?_
      obtain ⟨⟨⟩, q20, hf⟩ := bnd hf
      obtain ⟨t23, h22, q21, hf⟩ := bnd2 hf
      refine x_callVi (As := [.int v1, .int v2]) cf_X10_408 (c_X10_stayBreaks l G N v0 v1 v2 h19 _ _ q21) rfl ⟨rfl, rfl, Nat.le_of_ble_eq_true rfl, Nat.le_of_ble_eq_true rfl⟩ ⟨Nat.le_of_ble_eq_true rfl, Nat.le_of_ble_eq_true rfl⟩ X M (x_recv cls_X10 X M q20) rfl rfl hl.1 (Nat.le_of_ble_eq_true rfl) dX10_breaks_25 (fun H locs M => ?_)
      refine lv_istore_n (lv' := [(3, .int t23), (0, .ref (gB G + v0)), (1, .int v1), (2, .int v2)]) X.1 X.2.1 dX10_breaks_28 rfl hl (by decide) rfl (fun ls hl => ?_)
      refine lv_iload_n X.1 X.2.1 dX10_breaks_29 rfl (lv_at hl 0 rfl) ?_
      refine lv_aload_n X.1 X.2.1 dX10_breaks_30 rfl (lv_at hl 1 rfl) ?_
      refine lv_iconst (v := (2 : Int32)) X.1 X.2.1 dX10_breaks_31 (by decide) ?_
      obtain ⟨⟨⟩, q24, hf⟩ := bnd hf
      obtain ⟨t27, h26, q25, hf⟩ := bnd2 hf
      refine x_callVi (As := [.int (2 : Int32)]) cf_X10_399 (c_X10_votedHolds l G N v0 (2 : Int32) h22 _ _ q25) rfl ⟨rfl, rfl, Nat.le_of_ble_eq_true rfl, Nat.le_of_ble_eq_true rfl⟩ ⟨Nat.le_of_ble_eq_true rfl, Nat.le_of_ble_eq_true rfl⟩ X M (x_recv cls_X10 X M q24) rfl rfl hl.1 (Nat.le_of_ble_eq_true rfl) dX10_breaks_32 (fun H locs M => ?_)
      refine lv_iadd X.1 X.2.1 dX10_breaks_35 ?_
      obtain ⟨rfl, rfl⟩ := rt2 hf
      exact x_iret X hr hk M dX10_breaks_36
  · have hf := ifp c1 hf
    refine lv_aload_n X.1 X.2.1 dX10_breaks_4 rfl (lv_at hl 0 rfl) ?_
    refine lv_iload_n X.1 X.2.1 dX10_breaks_5 rfl (lv_at hl 1 rfl) ?_
    refine lv_iload_n X.1 X.2.1 dX10_breaks_6 rfl (lv_at hl 2 rfl) ?_
    obtain ⟨⟨⟩, q28, hf⟩ := bnd hf
    obtain ⟨t31, h30, q29, hf⟩ := bnd2 hf
    refine x_callVi (As := [.int v1, .int v2]) cf_X10_405 (c_X10_plainBreaks l G N v0 v1 v2 h _ _ q29) rfl ⟨rfl, rfl, Nat.le_of_ble_eq_true rfl, Nat.le_of_ble_eq_true rfl⟩ ⟨Nat.le_of_ble_eq_true rfl, Nat.le_of_ble_eq_true rfl⟩ X M (x_recv cls_X10 X M q28) rfl rfl hl.1 (Nat.le_of_ble_eq_true rfl) dX10_breaks_7 (fun H locs M => ?_)
    obtain ⟨rfl, rfl⟩ := rt2 hf
    exact x_iret X hr hk M dX10_breaks_10
theorem c_X10_breaks (l : Launch) (G : Gx) (N : Nat) (v0 : Nat) (v1 : Int32) (v2 : Int32) (h : Mem) (r : Int32) (h' : Mem) (hf : f_X10_breaks N v0 v1 v2 h = some (r, h')) : MetG l G yX10_breaks (.code yX10_breaks cX10_breaks 4 (Option.some Jvm.ClassFile.FieldType.int)) rm_X10_breaks [.ref (gB G + v0), .int v1, .int v2] h (QcI G r h') 0 0 :=
  x_met (by decide) rfl (Nat.le_of_ble_eq_true rfl) (fun p e s m args below meth c ls X M hr hk hin hl => w_X10_breaks X hr hk N v0 v1 v2 h hf _ _ ls M hl)
abbrev rm_X10_plainTells : Room := { frames := 8, cells := 0, slots := 0, locals := 192 }
def f_X10_plainTells (N : Nat) (v0 : Nat) (v1 : Int32) (v2 : Int32) (h : Mem) : Option (Int32 × Mem) :=
  (ck h v0 10).bind fun _ =>
  (f_X10_body N v0 (12 : Int32) h).bind fun h3 =>
  (ck h3 v0 10).bind fun _ =>
  b2 (f_X10_breaks N v0 v1 v2 h3) fun t7 h6 =>
  some ((t7 * (2 : Int32)), h6)
set_option maxRecDepth 100000 in
set_option maxHeartbeats 4000000 in
theorem w_X10_plainTells {p : Program} {l : Launch} {e : Env} {s : State} {m : MethodId} {args : Array Value} {below : List Frame} {meth : Method} {c : Code} {G : Gx} {r : Int32} {h' : Mem} (X : CX G p s m args c cX10_plainTells 3 RX10) (hr : meth.sig.returnType = (Option.some Jvm.ClassFile.FieldType.int)) (hk : meth.locks = false) (N : Nat) : ∀ (v0 : Nat) (v1 : Int32) (v2 : Int32) (h : Mem), f_X10_plainTells N v0 v1 v2 h = some (r, h') → ∀ (H : Heap) (locs : List Loc) (ls : Array Slot), MS G s h H locs 0 → lv_has ls 3 [(0, .ref (gB G + v0)), (1, .int v1), (2, .int v2)] → W p l e (rm_X10_plainTells) s m args below meth c H locs 0 0 (QI G below args s r h' 0 0) (F0 m 0 ls []) := by
  intro v0 v1 v2 h hf H locs ls M hl
  rw [f_X10_plainTells] at hf
  refine lv_aload_n X.1 X.2.1 dX10_plainTells_0 rfl (lv_at hl 0 rfl) ?_
  refine lv_bipush (v := (12 : Int32)) X.1 X.2.1 dX10_plainTells_1 (by decide) ?_
  obtain ⟨⟨⟩, q1, hf⟩ := bnd hf
  obtain ⟨h3, q2, hf⟩ := bnd hf
  refine x_callVv (As := [.int (12 : Int32)]) cf_X10_393 (c_X10_body l G N v0 (12 : Int32) h _ q2) rfl ⟨rfl, rfl, Nat.le_of_ble_eq_true rfl, Nat.le_of_ble_eq_true rfl⟩ ⟨Nat.le_of_ble_eq_true rfl, Nat.le_of_ble_eq_true rfl⟩ X M (x_recv cls_X10 X M q1) rfl rfl hl.1 (Nat.le_of_ble_eq_true rfl) dX10_plainTells_3 (fun H locs M => ?_)
  refine lv_aload_n X.1 X.2.1 dX10_plainTells_6 rfl (lv_at hl 0 rfl) ?_
  refine lv_iload_n X.1 X.2.1 dX10_plainTells_7 rfl (lv_at hl 1 rfl) ?_
  refine lv_iload_n X.1 X.2.1 dX10_plainTells_8 rfl (lv_at hl 2 rfl) ?_
  obtain ⟨⟨⟩, q4, hf⟩ := bnd hf
  obtain ⟨t7, h6, q5, hf⟩ := bnd2 hf
  refine x_callVi (As := [.int v1, .int v2]) cf_X10_411 (c_X10_breaks l G N v0 v1 v2 h3 _ _ q5) rfl ⟨rfl, rfl, Nat.le_of_ble_eq_true rfl, Nat.le_of_ble_eq_true rfl⟩ ⟨Nat.le_of_ble_eq_true rfl, Nat.le_of_ble_eq_true rfl⟩ X M (x_recv cls_X10 X M q4) rfl rfl hl.1 (Nat.le_of_ble_eq_true rfl) dX10_plainTells_9 (fun H locs M => ?_)
  refine lv_iconst (v := (2 : Int32)) X.1 X.2.1 dX10_plainTells_12 (by decide) ?_
  refine lv_imul X.1 X.2.1 dX10_plainTells_13 ?_
  obtain ⟨rfl, rfl⟩ := rt2 hf
  exact x_iret X hr hk M dX10_plainTells_14
theorem c_X10_plainTells (l : Launch) (G : Gx) (N : Nat) (v0 : Nat) (v1 : Int32) (v2 : Int32) (h : Mem) (r : Int32) (h' : Mem) (hf : f_X10_plainTells N v0 v1 v2 h = some (r, h')) : MetG l G yX10_plainTells (.code yX10_plainTells cX10_plainTells 3 (Option.some Jvm.ClassFile.FieldType.int)) rm_X10_plainTells [.ref (gB G + v0), .int v1, .int v2] h (QcI G r h') 0 0 :=
  x_met (by decide) rfl (Nat.le_of_ble_eq_true rfl) (fun p e s m args below meth c ls X M hr hk hin hl => w_X10_plainTells X hr hk N v0 v1 v2 h hf _ _ ls M hl)
abbrev rm_X10_votedTells : Room := { frames := 9, cells := 0, slots := 0, locals := 214 }
def f_X10_votedTells (N : Nat) (v0 : Nat) (v1 : Int32) (v2 : Int32) (h : Mem) : Option (Int32 × Mem) :=
  (ck h v0 10).bind fun _ =>
  (f_X10_body N v0 (31 : Int32) h).bind fun h3 =>
  (ck h3 v0 10).bind fun _ =>
  b2 (f_X10_plainTells N v0 v1 v2 h3) fun t7 h6 =>
  (ck h6 v0 10).bind fun _ =>
  b2 (f_X10_breaks N v0 v1 (1 : Int32) h6) fun t11 h10 =>
  some ((t7 + t11), h10)
set_option maxRecDepth 100000 in
set_option maxHeartbeats 4000000 in
theorem w_X10_votedTells {p : Program} {l : Launch} {e : Env} {s : State} {m : MethodId} {args : Array Value} {below : List Frame} {meth : Method} {c : Code} {G : Gx} {r : Int32} {h' : Mem} (X : CX G p s m args c cX10_votedTells 4 RX10) (hr : meth.sig.returnType = (Option.some Jvm.ClassFile.FieldType.int)) (hk : meth.locks = false) (N : Nat) : ∀ (v0 : Nat) (v1 : Int32) (v2 : Int32) (h : Mem), f_X10_votedTells N v0 v1 v2 h = some (r, h') → ∀ (H : Heap) (locs : List Loc) (ls : Array Slot), MS G s h H locs 0 → lv_has ls 4 [(0, .ref (gB G + v0)), (1, .int v1), (2, .int v2)] → W p l e (rm_X10_votedTells) s m args below meth c H locs 0 0 (QI G below args s r h' 0 0) (F0 m 0 ls []) := by
  intro v0 v1 v2 h hf H locs ls M hl
  rw [f_X10_votedTells] at hf
  refine lv_aload_n X.1 X.2.1 dX10_votedTells_0 rfl (lv_at hl 0 rfl) ?_
  refine lv_bipush (v := (31 : Int32)) X.1 X.2.1 dX10_votedTells_1 (by decide) ?_
  obtain ⟨⟨⟩, q1, hf⟩ := bnd hf
  obtain ⟨h3, q2, hf⟩ := bnd hf
  refine x_callVv (As := [.int (31 : Int32)]) cf_X10_393 (c_X10_body l G N v0 (31 : Int32) h _ q2) rfl ⟨rfl, rfl, Nat.le_of_ble_eq_true rfl, Nat.le_of_ble_eq_true rfl⟩ ⟨Nat.le_of_ble_eq_true rfl, Nat.le_of_ble_eq_true rfl⟩ X M (x_recv cls_X10 X M q1) rfl rfl hl.1 (Nat.le_of_ble_eq_true rfl) dX10_votedTells_3 (fun H locs M => ?_)
  refine lv_aload_n X.1 X.2.1 dX10_votedTells_6 rfl (lv_at hl 0 rfl) ?_
  refine lv_iload_n X.1 X.2.1 dX10_votedTells_7 rfl (lv_at hl 1 rfl) ?_
  refine lv_iload_n X.1 X.2.1 dX10_votedTells_8 rfl (lv_at hl 2 rfl) ?_
  obtain ⟨⟨⟩, q4, hf⟩ := bnd hf
  obtain ⟨t7, h6, q5, hf⟩ := bnd2 hf
  refine x_callVi (As := [.int v1, .int v2]) cf_X10_414 (c_X10_plainTells l G N v0 v1 v2 h3 _ _ q5) rfl ⟨rfl, rfl, Nat.le_of_ble_eq_true rfl, Nat.le_of_ble_eq_true rfl⟩ ⟨Nat.le_of_ble_eq_true rfl, Nat.le_of_ble_eq_true rfl⟩ X M (x_recv cls_X10 X M q4) rfl rfl hl.1 (Nat.le_of_ble_eq_true rfl) dX10_votedTells_9 (fun H locs M => ?_)
  refine lv_istore_n (lv' := [(3, .int t7), (0, .ref (gB G + v0)), (1, .int v1), (2, .int v2)]) X.1 X.2.1 dX10_votedTells_12 rfl hl (by decide) rfl (fun ls hl => ?_)
  refine lv_iload_n X.1 X.2.1 dX10_votedTells_13 rfl (lv_at hl 0 rfl) ?_
  refine lv_aload_n X.1 X.2.1 dX10_votedTells_14 rfl (lv_at hl 1 rfl) ?_
  refine lv_iload_n X.1 X.2.1 dX10_votedTells_15 rfl (lv_at hl 2 rfl) ?_
  refine lv_iconst (v := (1 : Int32)) X.1 X.2.1 dX10_votedTells_16 (by decide) ?_
  obtain ⟨⟨⟩, q8, hf⟩ := bnd hf
  obtain ⟨t11, h10, q9, hf⟩ := bnd2 hf
  refine x_callVi (As := [.int v1, .int (1 : Int32)]) cf_X10_411 (c_X10_breaks l G N v0 v1 (1 : Int32) h6 _ _ q9) rfl ⟨rfl, rfl, Nat.le_of_ble_eq_true rfl, Nat.le_of_ble_eq_true rfl⟩ ⟨Nat.le_of_ble_eq_true rfl, Nat.le_of_ble_eq_true rfl⟩ X M (x_recv cls_X10 X M q8) rfl rfl hl.1 (Nat.le_of_ble_eq_true rfl) dX10_votedTells_17 (fun H locs M => ?_)
  refine lv_iadd X.1 X.2.1 dX10_votedTells_20 ?_
  obtain ⟨rfl, rfl⟩ := rt2 hf
  exact x_iret X hr hk M dX10_votedTells_21
theorem c_X10_votedTells (l : Launch) (G : Gx) (N : Nat) (v0 : Nat) (v1 : Int32) (v2 : Int32) (h : Mem) (r : Int32) (h' : Mem) (hf : f_X10_votedTells N v0 v1 v2 h = some (r, h')) : MetG l G yX10_votedTells (.code yX10_votedTells cX10_votedTells 4 (Option.some Jvm.ClassFile.FieldType.int)) rm_X10_votedTells [.ref (gB G + v0), .int v1, .int v2] h (QcI G r h') 0 0 :=
  x_met (by decide) rfl (Nat.le_of_ble_eq_true rfl) (fun p e s m args below meth c ls X M hr hk hin hl => w_X10_votedTells X hr hk N v0 v1 v2 h hf _ _ ls M hl)
abbrev rm_X10_tells : Room := { frames := 10, cells := 0, slots := 0, locals := 237 }
def f_X10_tells (N : Nat) (v0 : Nat) (v1 : Int32) (v2 : Int32) (h : Mem) : Option (Int32 × Mem) :=
  if v1 = (2 : Int32) then
    (ck h v0 10).bind fun _ =>
    b2 (f_X10_votedTells N v0 v1 v2 h) fun t31 h30 =>
    some (t31, h30)
  else
    if v1 = (4 : Int32) then
      (ck h v0 10).bind fun _ =>
      (f_X10_body N v0 (50 : Int32) h).bind fun h21 =>
      (gI h21 v0 10 1).bind fun t22 =>
      (ck h21 v0 10).bind fun _ =>
      b2 (f_X10_votedTells N v0 v1 (v2 - t22) h21) fun t27 h26 =>
      some (t27, h26)
    else
      if v1 = (5 : Int32) then
        (ck h v0 10).bind fun _ =>
        (f_X10_body N v0 (61 : Int32) h).bind fun h10 =>
        (ck h10 v0 10).bind fun _ =>
        b2 (f_X10_holds N v0 v1 v2 h10) fun t14 h13 =>
        (ck h13 v0 10).bind fun _ =>
        b2 (f_X10_plainTells N v0 v1 v2 h13) fun t18 h17 =>
        some ((t14 - t18), h17)
      else
        (ck h v0 10).bind fun _ =>
        b2 (f_X10_plainTells N v0 v1 v2 h) fun t7 h6 =>
        some (t7, h6)
set_option maxRecDepth 100000 in
set_option maxHeartbeats 4000000 in
theorem w_X10_tells {p : Program} {l : Launch} {e : Env} {s : State} {m : MethodId} {args : Array Value} {below : List Frame} {meth : Method} {c : Code} {G : Gx} {r : Int32} {h' : Mem} (X : CX G p s m args c cX10_tells 4 RX10) (hr : meth.sig.returnType = (Option.some Jvm.ClassFile.FieldType.int)) (hk : meth.locks = false) (N : Nat) : ∀ (v0 : Nat) (v1 : Int32) (v2 : Int32) (h : Mem), f_X10_tells N v0 v1 v2 h = some (r, h') → ∀ (H : Heap) (locs : List Loc) (ls : Array Slot), MS G s h H locs 0 → lv_has ls 4 [(0, .ref (gB G + v0)), (1, .int v1), (2, .int v2)] → W p l e (rm_X10_tells) s m args below meth c H locs 0 0 (QI G below args s r h' 0 0) (F0 m 0 ls []) := by
  intro v0 v1 v2 h hf H locs ls M hl
  rw [f_X10_tells] at hf
  refine lv_iload_n X.1 X.2.1 dX10_tells_0 rfl (lv_at hl 1 rfl) ?_
  refine lv_iconst (v := (2 : Int32)) X.1 X.2.1 dX10_tells_1 (by decide) ?_
  refine lv_icmp_ne (tgt := 12) X.1 X.2.1 dX10_tells_2 (by decide) (fun c1 => ?_) (fun c1 => ?_)
  · have hf := ifn c1 hf
    refine lv_iload_n X.1 X.2.1 dX10_tells_12 rfl (lv_at hl 1 rfl) ?_
    refine lv_iconst (v := (4 : Int32)) X.1 X.2.1 dX10_tells_13 (by decide) ?_
    refine lv_icmp_ne (tgt := 35) X.1 X.2.1 dX10_tells_14 (by decide) (fun c2 => ?_) (fun c2 => ?_)
    · have hf := ifn c2 hf
      refine lv_iload_n X.1 X.2.1 dX10_tells_35 rfl (lv_at hl 1 rfl) ?_
      refine lv_iconst (v := (5 : Int32)) X.1 X.2.1 dX10_tells_36 (by decide) ?_
      refine lv_icmp_ne (tgt := 62) X.1 X.2.1 dX10_tells_37 (by decide) (fun c3 => ?_) (fun c3 => ?_)
      · have hf := ifn c3 hf
        refine lv_aload_n X.1 X.2.1 dX10_tells_62 rfl (lv_at hl 0 rfl) ?_
        refine lv_iload_n X.1 X.2.1 dX10_tells_63 rfl (lv_at hl 1 rfl) ?_
        refine lv_iload_n X.1 X.2.1 dX10_tells_64 rfl (lv_at hl 2 rfl) ?_
        obtain ⟨⟨⟩, q4, hf⟩ := bnd hf
        obtain ⟨t7, h6, q5, hf⟩ := bnd2 hf
        refine x_callVi (As := [.int v1, .int v2]) cf_X10_414 (c_X10_plainTells l G N v0 v1 v2 h _ _ q5) rfl ⟨rfl, rfl, Nat.le_of_ble_eq_true rfl, Nat.le_of_ble_eq_true rfl⟩ ⟨Nat.le_of_ble_eq_true rfl, Nat.le_of_ble_eq_true rfl⟩ X M (x_recv cls_X10 X M q4) rfl rfl hl.1 (Nat.le_of_ble_eq_true rfl) dX10_tells_65 (fun H locs M => ?_)
        obtain ⟨rfl, rfl⟩ := rt2 hf
        exact x_iret X hr hk M dX10_tells_68
      · have hf := ifp c3 hf
        refine lv_aload_n X.1 X.2.1 dX10_tells_40 rfl (lv_at hl 0 rfl) ?_
        refine lv_bipush (v := (61 : Int32)) X.1 X.2.1 dX10_tells_41 (by decide) ?_
        obtain ⟨⟨⟩, q8, hf⟩ := bnd hf
        obtain ⟨h10, q9, hf⟩ := bnd hf
        refine x_callVv (As := [.int (61 : Int32)]) cf_X10_393 (c_X10_body l G N v0 (61 : Int32) h _ q9) rfl ⟨rfl, rfl, Nat.le_of_ble_eq_true rfl, Nat.le_of_ble_eq_true rfl⟩ ⟨Nat.le_of_ble_eq_true rfl, Nat.le_of_ble_eq_true rfl⟩ X M (x_recv cls_X10 X M q8) rfl rfl hl.1 (Nat.le_of_ble_eq_true rfl) dX10_tells_43 (fun H locs M => ?_)
        refine lv_aload_n X.1 X.2.1 dX10_tells_46 rfl (lv_at hl 0 rfl) ?_
        refine lv_iload_n X.1 X.2.1 dX10_tells_47 rfl (lv_at hl 1 rfl) ?_
        refine lv_iload_n X.1 X.2.1 dX10_tells_48 rfl (lv_at hl 2 rfl) ?_
        obtain ⟨⟨⟩, q11, hf⟩ := bnd hf
        obtain ⟨t14, h13, q12, hf⟩ := bnd2 hf
        refine x_callVi (As := [.int v1, .int v2]) cf_X10_402 (c_X10_holds l G N v0 v1 v2 h10 _ _ q12) rfl ⟨rfl, rfl, Nat.le_of_ble_eq_true rfl, Nat.le_of_ble_eq_true rfl⟩ ⟨Nat.le_of_ble_eq_true rfl, Nat.le_of_ble_eq_true rfl⟩ X M (x_recv cls_X10 X M q11) rfl rfl hl.1 (Nat.le_of_ble_eq_true rfl) dX10_tells_49 (fun H locs M => ?_)
        refine lv_istore_n (lv' := [(3, .int t14), (0, .ref (gB G + v0)), (1, .int v1), (2, .int v2)]) X.1 X.2.1 dX10_tells_52 rfl hl (by decide) rfl (fun ls hl => ?_)
        refine lv_iload_n X.1 X.2.1 dX10_tells_53 rfl (lv_at hl 0 rfl) ?_
        refine lv_aload_n X.1 X.2.1 dX10_tells_54 rfl (lv_at hl 1 rfl) ?_
        refine lv_iload_n X.1 X.2.1 dX10_tells_55 rfl (lv_at hl 2 rfl) ?_
        refine lv_iload_n X.1 X.2.1 dX10_tells_56 rfl (lv_at hl 3 rfl) ?_
        obtain ⟨⟨⟩, q15, hf⟩ := bnd hf
        obtain ⟨t18, h17, q16, hf⟩ := bnd2 hf
        refine x_callVi (As := [.int v1, .int v2]) cf_X10_414 (c_X10_plainTells l G N v0 v1 v2 h13 _ _ q16) rfl ⟨rfl, rfl, Nat.le_of_ble_eq_true rfl, Nat.le_of_ble_eq_true rfl⟩ ⟨Nat.le_of_ble_eq_true rfl, Nat.le_of_ble_eq_true rfl⟩ X M (x_recv cls_X10 X M q15) rfl rfl hl.1 (Nat.le_of_ble_eq_true rfl) dX10_tells_57 (fun H locs M => ?_)
        refine lv_isub X.1 X.2.1 dX10_tells_60 ?_
        obtain ⟨rfl, rfl⟩ := rt2 hf
        exact x_iret X hr hk M dX10_tells_61
    · have hf := ifp c2 hf
      refine lv_aload_n X.1 X.2.1 dX10_tells_17 rfl (lv_at hl 0 rfl) ?_
      refine lv_bipush (v := (50 : Int32)) X.1 X.2.1 dX10_tells_18 (by decide) ?_
      obtain ⟨⟨⟩, q19, hf⟩ := bnd hf
      obtain ⟨h21, q20, hf⟩ := bnd hf
      refine x_callVv (As := [.int (50 : Int32)]) cf_X10_393 (c_X10_body l G N v0 (50 : Int32) h _ q20) rfl ⟨rfl, rfl, Nat.le_of_ble_eq_true rfl, Nat.le_of_ble_eq_true rfl⟩ ⟨Nat.le_of_ble_eq_true rfl, Nat.le_of_ble_eq_true rfl⟩ X M (x_recv cls_X10 X M q19) rfl rfl hl.1 (Nat.le_of_ble_eq_true rfl) dX10_tells_20 (fun H locs M => ?_)
      refine lv_aload_n X.1 X.2.1 dX10_tells_23 rfl (lv_at hl 0 rfl) ?_
      refine lv_iload_n X.1 X.2.1 dX10_tells_24 rfl (lv_at hl 1 rfl) ?_
      refine lv_iload_n X.1 X.2.1 dX10_tells_25 rfl (lv_at hl 2 rfl) ?_
      refine lv_aload_n X.1 X.2.1 dX10_tells_26 rfl (lv_at hl 0 rfl) ?_
      obtain ⟨t22, q23, hf⟩ := bnd hf
      refine x_geti fl_X10_13 X M q23 dX10_tells_27 ?_
      refine lv_isub X.1 X.2.1 dX10_tells_30 ?_
      obtain ⟨⟨⟩, q24, hf⟩ := bnd hf
      obtain ⟨t27, h26, q25, hf⟩ := bnd2 hf
      refine x_callVi (As := [.int v1, .int (v2 - t22)]) cf_X10_417 (c_X10_votedTells l G N v0 v1 (v2 - t22) h21 _ _ q25) rfl ⟨rfl, rfl, Nat.le_of_ble_eq_true rfl, Nat.le_of_ble_eq_true rfl⟩ ⟨Nat.le_of_ble_eq_true rfl, Nat.le_of_ble_eq_true rfl⟩ X M (x_recv cls_X10 X M q24) rfl rfl hl.1 (Nat.le_of_ble_eq_true rfl) dX10_tells_31 (fun H locs M => ?_)
      obtain ⟨rfl, rfl⟩ := rt2 hf
      exact x_iret X hr hk M dX10_tells_34
  · have hf := ifp c1 hf
    refine lv_aload_n X.1 X.2.1 dX10_tells_5 rfl (lv_at hl 0 rfl) ?_
    refine lv_iload_n X.1 X.2.1 dX10_tells_6 rfl (lv_at hl 1 rfl) ?_
    refine lv_iload_n X.1 X.2.1 dX10_tells_7 rfl (lv_at hl 2 rfl) ?_
    obtain ⟨⟨⟩, q28, hf⟩ := bnd hf
    obtain ⟨t31, h30, q29, hf⟩ := bnd2 hf
    refine x_callVi (As := [.int v1, .int v2]) cf_X10_417 (c_X10_votedTells l G N v0 v1 v2 h _ _ q29) rfl ⟨rfl, rfl, Nat.le_of_ble_eq_true rfl, Nat.le_of_ble_eq_true rfl⟩ ⟨Nat.le_of_ble_eq_true rfl, Nat.le_of_ble_eq_true rfl⟩ X M (x_recv cls_X10 X M q28) rfl rfl hl.1 (Nat.le_of_ble_eq_true rfl) dX10_tells_8 (fun H locs M => ?_)
    obtain ⟨rfl, rfl⟩ := rt2 hf
    exact x_iret X hr hk M dX10_tells_11
theorem c_X10_tells (l : Launch) (G : Gx) (N : Nat) (v0 : Nat) (v1 : Int32) (v2 : Int32) (h : Mem) (r : Int32) (h' : Mem) (hf : f_X10_tells N v0 v1 v2 h = some (r, h')) : MetG l G yX10_tells (.code yX10_tells cX10_tells 4 (Option.some Jvm.ClassFile.FieldType.int)) rm_X10_tells [.ref (gB G + v0), .int v1, .int v2] h (QcI G r h') 0 0 :=
  x_met (by decide) rfl (Nat.le_of_ble_eq_true rfl) (fun p e s m args below meth c ls X M hr hk hin hl => w_X10_tells X hr hk N v0 v1 v2 h hf _ _ ls M hl)
abbrev rm_X10_act : Room := { frames := 11, cells := 0, slots := 0, locals := 260 }
def f_X10_act (N : Nat) (v0 : Nat) (v1 : Int32) (v2 : Int32) (v3 : Int32) (h : Mem) : Option (Int32 × Mem) :=
  (sI h v0 10 55 (0 : Int32)).bind fun h1 =>
  (ck h1 v0 10).bind fun _ =>
  b2 (f_X10_in N v0 v1 (0 : Int32) (5 : Int32) h1) fun t6 h5 =>
  if t6 = 0 then
    some ((0 : Int32), h5)
  else
    (ck h5 v0 10).bind fun _ =>
    b2 (f_X10_in N v0 v2 (0 : Int32) (2 : Int32) h5) fun t11 h10 =>
    if t11 = 0 then
      some ((0 : Int32), h10)
    else
      if v2 = 0 then
        (ck h10 v0 10).bind fun _ =>
        b2 (f_X10_holds N v0 v1 v3 h10) fun t26 h25 =>
        some (t26, h25)
      else
        if v2 = (1 : Int32) then
          (ck h10 v0 10).bind fun _ =>
          b2 (f_X10_breaks N v0 v1 v3 h10) fun t22 h21 =>
          some (t22, h21)
        else
          (ck h10 v0 10).bind fun _ =>
          b2 (f_X10_tells N v0 v1 v3 h10) fun t18 h17 =>
          some (t18, h17)
set_option maxRecDepth 100000 in
set_option maxHeartbeats 4000000 in
theorem w_X10_act {p : Program} {l : Launch} {e : Env} {s : State} {m : MethodId} {args : Array Value} {below : List Frame} {meth : Method} {c : Code} {G : Gx} {r : Int32} {h' : Mem} (X : CX G p s m args c cX10_act 4 RX10) (hr : meth.sig.returnType = (Option.some Jvm.ClassFile.FieldType.int)) (hk : meth.locks = false) (N : Nat) : ∀ (v0 : Nat) (v1 : Int32) (v2 : Int32) (v3 : Int32) (h : Mem), f_X10_act N v0 v1 v2 v3 h = some (r, h') → ∀ (H : Heap) (locs : List Loc) (ls : Array Slot), MS G s h H locs 0 → lv_has ls 4 [(0, .ref (gB G + v0)), (1, .int v1), (2, .int v2), (3, .int v3)] → W p l e (rm_X10_act) s m args below meth c H locs 0 0 (QI G below args s r h' 0 0) (F0 m 0 ls []) := by
  intro v0 v1 v2 v3 h hf H locs ls M hl
  rw [f_X10_act] at hf
  refine lv_aload_n X.1 X.2.1 dX10_act_0 rfl (lv_at hl 0 rfl) ?_
  refine lv_iconst (v := (0 : Int32)) X.1 X.2.1 dX10_act_1 (by decide) ?_
  obtain ⟨h1, q2, hf⟩ := bnd hf
  refine x_puti fl_X10_179 fp_X10_179.1 fp_X10_179.2 X M q2 dX10_act_2 (fun H locs M => ?_)
  refine lv_aload_n X.1 X.2.1 dX10_act_5 rfl (lv_at hl 0 rfl) ?_
  refine lv_iload_n X.1 X.2.1 dX10_act_6 rfl (lv_at hl 1 rfl) ?_
  refine lv_iconst (v := (0 : Int32)) X.1 X.2.1 dX10_act_7 (by decide) ?_
  refine lv_iconst (v := (5 : Int32)) X.1 X.2.1 dX10_act_8 (by decide) ?_
  obtain ⟨⟨⟩, q3, hf⟩ := bnd hf
  obtain ⟨t6, h5, q4, hf⟩ := bnd2 hf
  refine x_callVi (As := [.int v1, .int (0 : Int32), .int (5 : Int32)]) cf_X10_197 (c_X10_in l G N v0 v1 (0 : Int32) (5 : Int32) h1 _ _ q4) rfl ⟨rfl, rfl, Nat.le_of_ble_eq_true rfl, Nat.le_of_ble_eq_true rfl⟩ ⟨Nat.le_of_ble_eq_true rfl, Nat.le_of_ble_eq_true rfl⟩ X M (x_recv cls_X10 X M q3) rfl rfl hl.1 (Nat.le_of_ble_eq_true rfl) dX10_act_9 (fun H locs M => ?_)
  refine lv_if_eq (tgt := 25) X.1 X.2.1 dX10_act_12 (by decide) (fun c7 => ?_) (fun c7 => ?_)
  · have hf := ifp c7 hf
    refine lv_iconst (v := (0 : Int32)) X.1 X.2.1 dX10_act_25 (by decide) ?_
    obtain ⟨rfl, rfl⟩ := rt2 hf
    exact x_iret X hr hk M dX10_act_26
  · have hf := ifn c7 hf
    refine lv_aload_n X.1 X.2.1 dX10_act_15 rfl (lv_at hl 0 rfl) ?_
    refine lv_iload_n X.1 X.2.1 dX10_act_16 rfl (lv_at hl 2 rfl) ?_
    refine lv_iconst (v := (0 : Int32)) X.1 X.2.1 dX10_act_17 (by decide) ?_
    refine lv_iconst (v := (2 : Int32)) X.1 X.2.1 dX10_act_18 (by decide) ?_
    obtain ⟨⟨⟩, q8, hf⟩ := bnd hf
    obtain ⟨t11, h10, q9, hf⟩ := bnd2 hf
    refine x_callVi (As := [.int v2, .int (0 : Int32), .int (2 : Int32)]) cf_X10_197 (c_X10_in l G N v0 v2 (0 : Int32) (2 : Int32) h5 _ _ q9) rfl ⟨rfl, rfl, Nat.le_of_ble_eq_true rfl, Nat.le_of_ble_eq_true rfl⟩ ⟨Nat.le_of_ble_eq_true rfl, Nat.le_of_ble_eq_true rfl⟩ X M (x_recv cls_X10 X M q8) rfl rfl hl.1 (Nat.le_of_ble_eq_true rfl) dX10_act_19 (fun H locs M => ?_)
    refine lv_if_ne (tgt := 27) X.1 X.2.1 dX10_act_22 (by decide) (fun c12 => ?_) (fun c12 => ?_)
    · have hf := ifn c12 hf
      refine lv_iload_n X.1 X.2.1 dX10_act_27 rfl (lv_at hl 2 rfl) ?_
      refine lv_if_ne (tgt := 40) X.1 X.2.1 dX10_act_28 (by decide) (fun c13 => ?_) (fun c13 => ?_)
      · have hf := ifn c13 hf
        refine lv_iload_n X.1 X.2.1 dX10_act_40 rfl (lv_at hl 2 rfl) ?_
        refine lv_iconst (v := (1 : Int32)) X.1 X.2.1 dX10_act_41 (by decide) ?_
        refine lv_icmp_ne (tgt := 54) X.1 X.2.1 dX10_act_42 (by decide) (fun c14 => ?_) (fun c14 => ?_)
        · have hf := ifn c14 hf
          refine lv_aload_n X.1 X.2.1 dX10_act_54 rfl (lv_at hl 0 rfl) ?_
          refine lv_iload_n X.1 X.2.1 dX10_act_55 rfl (lv_at hl 1 rfl) ?_
          refine lv_iload_n X.1 X.2.1 dX10_act_56 rfl (lv_at hl 3 rfl) ?_
          obtain ⟨⟨⟩, q15, hf⟩ := bnd hf
          obtain ⟨t18, h17, q16, hf⟩ := bnd2 hf
          refine x_callVi (As := [.int v1, .int v3]) cf_X10_420 (c_X10_tells l G N v0 v1 v3 h10 _ _ q16) rfl ⟨rfl, rfl, Nat.le_of_ble_eq_true rfl, Nat.le_of_ble_eq_true rfl⟩ ⟨Nat.le_of_ble_eq_true rfl, Nat.le_of_ble_eq_true rfl⟩ X M (x_recv cls_X10 X M q15) rfl rfl hl.1 (Nat.le_of_ble_eq_true rfl) dX10_act_57 (fun H locs M => ?_)
          obtain ⟨rfl, rfl⟩ := rt2 hf
          exact x_iret X hr hk M dX10_act_60
        · have hf := ifp c14 hf
          refine lv_aload_n X.1 X.2.1 dX10_act_45 rfl (lv_at hl 0 rfl) ?_
          refine lv_iload_n X.1 X.2.1 dX10_act_46 rfl (lv_at hl 1 rfl) ?_
          refine lv_iload_n X.1 X.2.1 dX10_act_47 rfl (lv_at hl 3 rfl) ?_
          obtain ⟨⟨⟩, q19, hf⟩ := bnd hf
          obtain ⟨t22, h21, q20, hf⟩ := bnd2 hf
          refine x_callVi (As := [.int v1, .int v3]) cf_X10_411 (c_X10_breaks l G N v0 v1 v3 h10 _ _ q20) rfl ⟨rfl, rfl, Nat.le_of_ble_eq_true rfl, Nat.le_of_ble_eq_true rfl⟩ ⟨Nat.le_of_ble_eq_true rfl, Nat.le_of_ble_eq_true rfl⟩ X M (x_recv cls_X10 X M q19) rfl rfl hl.1 (Nat.le_of_ble_eq_true rfl) dX10_act_48 (fun H locs M => ?_)
          refine lv_goto (tgt := 60) X.1 X.2.1 dX10_act_51 (by decide) ?_
          obtain ⟨rfl, rfl⟩ := rt2 hf
          exact x_iret X hr hk M dX10_act_60
      · have hf := ifp c13 hf
        refine lv_aload_n X.1 X.2.1 dX10_act_31 rfl (lv_at hl 0 rfl) ?_
        refine lv_iload_n X.1 X.2.1 dX10_act_32 rfl (lv_at hl 1 rfl) ?_
        refine lv_iload_n X.1 X.2.1 dX10_act_33 rfl (lv_at hl 3 rfl) ?_
        obtain ⟨⟨⟩, q23, hf⟩ := bnd hf
        obtain ⟨t26, h25, q24, hf⟩ := bnd2 hf
        refine x_callVi (As := [.int v1, .int v3]) cf_X10_402 (c_X10_holds l G N v0 v1 v3 h10 _ _ q24) rfl ⟨rfl, rfl, Nat.le_of_ble_eq_true rfl, Nat.le_of_ble_eq_true rfl⟩ ⟨Nat.le_of_ble_eq_true rfl, Nat.le_of_ble_eq_true rfl⟩ X M (x_recv cls_X10 X M q23) rfl rfl hl.1 (Nat.le_of_ble_eq_true rfl) dX10_act_34 (fun H locs M => ?_)
        refine lv_goto (tgt := 60) X.1 X.2.1 dX10_act_37 (by decide) ?_
        obtain ⟨rfl, rfl⟩ := rt2 hf
        exact x_iret X hr hk M dX10_act_60
    · have hf := ifp c12 hf
      refine lv_iconst (v := (0 : Int32)) X.1 X.2.1 dX10_act_25 (by decide) ?_
      obtain ⟨rfl, rfl⟩ := rt2 hf
      exact x_iret X hr hk M dX10_act_26
theorem c_X10_act (l : Launch) (G : Gx) (N : Nat) (v0 : Nat) (v1 : Int32) (v2 : Int32) (v3 : Int32) (h : Mem) (r : Int32) (h' : Mem) (hf : f_X10_act N v0 v1 v2 v3 h = some (r, h')) : MetG l G yX10_act (.code yX10_act cX10_act 4 (Option.some Jvm.ClassFile.FieldType.int)) rm_X10_act [.ref (gB G + v0), .int v1, .int v2, .int v3] h (QcI G r h') 0 0 :=
  x_met (by decide) rfl (Nat.le_of_ble_eq_true rfl) (fun p e s m args below meth c ls X M hr hk hin hl => w_X10_act X hr hk N v0 v1 v2 v3 h hf _ _ ls M hl)
abbrev rm_X10_trace : Room := { frames := 2, cells := 0, slots := 0, locals := 63 }
def f_X10_trace (N : Nat) (v0 : Nat) (v1 : Int32) (h : Mem) : Option (Int32 × Mem) :=
  (ck h v0 10).bind fun _ =>
  b2 (f_X10_in N v0 v1 (0 : Int32) (19 : Int32) h) fun t4 h3 =>
  if t4 = 0 then
    some ((-1 : Int32), h3)
  else
    (gI h3 v0 10 55).bind fun t6 =>
    if t6 ≤ v1 then
      some ((-1 : Int32), h3)
    else
      (gR h3 v0 10 56).bind fun t9 =>
      (lI 100 h3 t9 v1).bind fun t11 =>
      some (t11, h3)
set_option maxRecDepth 100000 in
set_option maxHeartbeats 4000000 in
theorem w_X10_trace {p : Program} {l : Launch} {e : Env} {s : State} {m : MethodId} {args : Array Value} {below : List Frame} {meth : Method} {c : Code} {G : Gx} {r : Int32} {h' : Mem} (X : CX G p s m args c cX10_trace 2 RX10) (hr : meth.sig.returnType = (Option.some Jvm.ClassFile.FieldType.int)) (hk : meth.locks = false) (N : Nat) : ∀ (v0 : Nat) (v1 : Int32) (h : Mem), f_X10_trace N v0 v1 h = some (r, h') → ∀ (H : Heap) (locs : List Loc) (ls : Array Slot), MS G s h H locs 0 → lv_has ls 2 [(0, .ref (gB G + v0)), (1, .int v1)] → W p l e (rm_X10_trace) s m args below meth c H locs 0 0 (QI G below args s r h' 0 0) (F0 m 0 ls []) := by
  intro v0 v1 h hf H locs ls M hl
  rw [f_X10_trace] at hf
  refine lv_aload_n X.1 X.2.1 dX10_trace_0 rfl (lv_at hl 0 rfl) ?_
  refine lv_iload_n X.1 X.2.1 dX10_trace_1 rfl (lv_at hl 1 rfl) ?_
  refine lv_iconst (v := (0 : Int32)) X.1 X.2.1 dX10_trace_2 (by decide) ?_
  refine lv_bipush (v := (19 : Int32)) X.1 X.2.1 dX10_trace_3 (by decide) ?_
  obtain ⟨⟨⟩, q1, hf⟩ := bnd hf
  obtain ⟨t4, h3, q2, hf⟩ := bnd2 hf
  refine x_callVi (As := [.int v1, .int (0 : Int32), .int (19 : Int32)]) cf_X10_197 (c_X10_in l G N v0 v1 (0 : Int32) (19 : Int32) h _ _ q2) rfl ⟨rfl, rfl, Nat.le_of_ble_eq_true rfl, Nat.le_of_ble_eq_true rfl⟩ ⟨Nat.le_of_ble_eq_true rfl, Nat.le_of_ble_eq_true rfl⟩ X M (x_recv cls_X10 X M q1) rfl rfl hl.1 (Nat.le_of_ble_eq_true rfl) dX10_trace_5 (fun H locs M => ?_)
  refine lv_if_eq (tgt := 28) X.1 X.2.1 dX10_trace_8 (by decide) (fun c5 => ?_) (fun c5 => ?_)
  · have hf := ifp c5 hf
    refine lv_iconst (v := (-1 : Int32)) X.1 X.2.1 dX10_trace_28 (by decide) ?_
    obtain ⟨rfl, rfl⟩ := rt2 hf
    exact x_iret X hr hk M dX10_trace_29
  · have hf := ifn c5 hf
    refine lv_iload_n X.1 X.2.1 dX10_trace_11 rfl (lv_at hl 1 rfl) ?_
    refine lv_aload_n X.1 X.2.1 dX10_trace_12 rfl (lv_at hl 0 rfl) ?_
    obtain ⟨t6, q7, hf⟩ := bnd hf
    refine x_geti fl_X10_179 X M q7 dX10_trace_13 ?_
    refine lv_icmp_ge (tgt := 28) X.1 X.2.1 dX10_trace_16 (by decide) (fun c8 => ?_) (fun c8 => ?_)
    · have hf := ifp c8 hf
      refine lv_iconst (v := (-1 : Int32)) X.1 X.2.1 dX10_trace_28 (by decide) ?_
      obtain ⟨rfl, rfl⟩ := rt2 hf
      exact x_iret X hr hk M dX10_trace_29
    · have hf := ifn c8 hf
      refine lv_aload_n X.1 X.2.1 dX10_trace_19 rfl (lv_at hl 0 rfl) ?_
      obtain ⟨t9, q10, hf⟩ := bnd hf
      refine x_getr fl_X10_182 X M q10 dX10_trace_20 ?_
      refine lv_iload_n X.1 X.2.1 dX10_trace_23 rfl (lv_at hl 1 rfl) ?_
      obtain ⟨t11, q12, hf⟩ := bnd hf
      refine x_iald X M q12 dX10_trace_24 ?_
      refine lv_goto (tgt := 29) X.1 X.2.1 dX10_trace_25 (by decide) ?_
      obtain ⟨rfl, rfl⟩ := rt2 hf
      exact x_iret X hr hk M dX10_trace_29
theorem c_X10_trace (l : Launch) (G : Gx) (N : Nat) (v0 : Nat) (v1 : Int32) (h : Mem) (r : Int32) (h' : Mem) (hf : f_X10_trace N v0 v1 h = some (r, h')) : MetG l G yX10_trace (.code yX10_trace cX10_trace 2 (Option.some Jvm.ClassFile.FieldType.int)) rm_X10_trace [.ref (gB G + v0), .int v1] h (QcI G r h') 0 0 :=
  x_met (by decide) rfl (Nat.le_of_ble_eq_true rfl) (fun p e s m args below meth c ls X M hr hk hin hl => w_X10_trace X hr hk N v0 v1 h hf _ _ ls M hl)
