abbrev rm_X10_push : Room := { frames := 1, cells := 0, slots := 0, locals := 40 }
def f_X10_push_34 (N : Nat) (v0 : Nat) (s0 : Int32) (h : Mem) (k2 : Nat → Int32 → Mem → Option Mem) : Option Mem :=
  (gI h v0 10 32).bind fun t1 =>
  (sI h v0 10 32 (t1 - (1 : Int32))).bind fun h3 =>
  (gI h3 v0 10 34).bind fun t5 =>
  (sI h3 v0 10 34 (t5 - (1 : Int32))).bind fun h7 =>
  k2 v0 s0 h7
set_option maxRecDepth 100000 in
set_option maxHeartbeats 4000000 in
theorem w_X10_push_34 {p : Program} {l : Launch} {e : Env} {s : State} {m : MethodId} {args : Array Value} {below : List Frame} {meth : Method} {c : Code} {G : Gx} {h' : Mem} {L : Nat} (X : CX G p s m args c cX10_push 3 RX10) (hr : meth.sig.returnType = (Option.none : Option Jvm.ClassFile.FieldType)) (hk : meth.locks = false) (hL : s.heap.size + 0 = gB G + L) (N : Nat) (k2 : Nat → Int32 → Mem → Option Mem) (K2 : ∀ (v0 : Nat) (v2 : Int32) (h : Mem), k2 v0 v2 h = some h' → ∀ (H : Heap) (locs : List Loc) (ls : Array Slot), MS G s h H locs 0 → lv_has ls 3 [(0, .ref (gB G + v0)), (2, .int v2)] → W p l e (rm_X10_push) s m args below meth c H locs 0 0 (QV G below args s h' L 0 0) (F0 m 2 ls [])) : ∀ (v0 : Nat) (s0 : Int32) (h : Mem), f_X10_push_34 N v0 s0 h k2 = some h' → ∀ (H : Heap) (locs : List Loc) (ls : Array Slot), MS G s h H locs 0 → lv_has ls 3 [(0, .ref (gB G + v0))] → W p l e (rm_X10_push) s m args below meth c H locs 0 0 (QV G below args s h' L 0 0) (F0 m 34 ls [.int s0]) := by
  intro v0 s0 h hf H locs ls M hl
  rw [f_X10_push_34] at hf
  refine lv_istore_n (lv' := [(2, .int s0), (0, .ref (gB G + v0))]) X.1 X.2.1 dX10_push_34 rfl hl (by decide) rfl (fun ls hl => ?_)
  refine lv_aload_n X.1 X.2.1 dX10_push_35 rfl (lv_at hl 1 rfl) ?_
  refine lv_dup X.1 X.2.1 dX10_push_36 rfl ?_
  obtain ⟨t1, q2, hf⟩ := bnd hf
  refine x_geti fl_X10_109 X M q2 dX10_push_37 ?_
  refine lv_iconst (v := (1 : Int32)) X.1 X.2.1 dX10_push_40 (by decide) ?_
  refine lv_isub X.1 X.2.1 dX10_push_41 ?_
  obtain ⟨h3, q4, hf⟩ := bnd hf
  refine x_puti fl_X10_109 fp_X10_109.1 fp_X10_109.2 X M q4 dX10_push_42 (fun H locs M => ?_)
  refine lv_aload_n X.1 X.2.1 dX10_push_45 rfl (lv_at hl 1 rfl) ?_
  refine lv_dup X.1 X.2.1 dX10_push_46 rfl ?_
  obtain ⟨t5, q6, hf⟩ := bnd hf
  refine x_geti fl_X10_115 X M q6 dX10_push_47 ?_
  refine lv_iconst (v := (1 : Int32)) X.1 X.2.1 dX10_push_50 (by decide) ?_
  refine lv_isub X.1 X.2.1 dX10_push_51 ?_
  obtain ⟨h7, q8, hf⟩ := bnd hf
  refine x_puti fl_X10_115 fp_X10_115.1 fp_X10_115.2 X M q8 dX10_push_52 (fun H locs M => ?_)
  refine lv_goto (tgt := 2) X.1 X.2.1 dX10_push_55 (by decide) ?_
  exact K2 v0 s0 h7 hf _ _ _ M (lv_sub hl [1, 0] rfl)
def f_X10_push_58 (N : Nat) (v0 : Nat) (v2 : Int32) (h : Mem) : Option Mem :=
  (gR h v0 10 31).bind fun t1 =>
  (gI h v0 10 33).bind fun t3 =>
  (stI 102 h t1 t3 (vp_nar .boolean v2)).bind fun h5 =>
  (gI h5 v0 10 33).bind fun t7 =>
  (sI h5 v0 10 33 (t7 + (1 : Int32))).bind fun h9 =>
  some h9
set_option maxRecDepth 100000 in
set_option maxHeartbeats 4000000 in
theorem w_X10_push_58 {p : Program} {l : Launch} {e : Env} {s : State} {m : MethodId} {args : Array Value} {below : List Frame} {meth : Method} {c : Code} {G : Gx} {h' : Mem} {L : Nat} (X : CX G p s m args c cX10_push 3 RX10) (hr : meth.sig.returnType = (Option.none : Option Jvm.ClassFile.FieldType)) (hk : meth.locks = false) (hL : s.heap.size + 0 = gB G + L) (N : Nat) : ∀ (v0 : Nat) (v2 : Int32) (h : Mem), f_X10_push_58 N v0 v2 h = some h' → ∀ (H : Heap) (locs : List Loc) (ls : Array Slot), MS G s h H locs 0 → lv_has ls 3 [(0, .ref (gB G + v0)), (2, .int v2)] → W p l e (rm_X10_push) s m args below meth c H locs 0 0 (QV G below args s h' L 0 0) (F0 m 58 ls []) := by
  intro v0 v2 h hf H locs ls M hl
  rw [f_X10_push_58] at hf
  refine lv_aload_n X.1 X.2.1 dX10_push_58 rfl (lv_at hl 0 rfl) ?_
  obtain ⟨t1, q2, hf⟩ := bnd hf
  refine x_getr fl_X10_105 X M q2 dX10_push_59 ?_
  refine lv_aload_n X.1 X.2.1 dX10_push_62 rfl (lv_at hl 0 rfl) ?_
  obtain ⟨t3, q4, hf⟩ := bnd hf
  refine x_geti fl_X10_112 X M q4 dX10_push_63 ?_
  refine lv_iload_n X.1 X.2.1 dX10_push_66 rfl (lv_at hl 1 rfl) ?_
  obtain ⟨h5, q6, hf⟩ := bnd hf
  refine x_zast X M q6 dX10_push_67 (fun H locs M => ?_)
  refine lv_aload_n X.1 X.2.1 dX10_push_68 rfl (lv_at hl 0 rfl) ?_
  refine lv_dup X.1 X.2.1 dX10_push_69 rfl ?_
  obtain ⟨t7, q8, hf⟩ := bnd hf
  refine x_geti fl_X10_112 X M q8 dX10_push_70 ?_
  refine lv_iconst (v := (1 : Int32)) X.1 X.2.1 dX10_push_73 (by decide) ?_
  refine lv_iadd X.1 X.2.1 dX10_push_74 ?_
  obtain ⟨h9, q10, hf⟩ := bnd hf
  refine x_puti fl_X10_112 fp_X10_112.1 fp_X10_112.2 X M q10 dX10_push_75 (fun H locs M => ?_)
  obtain rfl := rt1 hf
  exact x_vret X hr hk M hL dX10_push_78
def f_X10_push_2 (N : Nat) (n : Nat) (v0 : Nat) (v2 : Int32) (h : Mem) : Option Mem := match n with
  | 0 => none
  | n + 1 =>
    (gI h v0 10 32).bind fun t1 =>
    if t1 ≤ 0 then
      f_X10_push_58 N v0 v2 h
    else
      (gR h v0 10 30).bind fun t4 =>
      (gI h v0 10 32).bind fun t6 =>
      (lI 100 h t4 (t6 - (1 : Int32))).bind fun t8 =>
      if t8 = (33 : Int32) then
        if v2 = 0 then
          f_X10_push_34 N v0 (1 : Int32) h (fun v0 v2 h => f_X10_push_2 N n v0 v2 h)
        else
          f_X10_push_34 N v0 (0 : Int32) h (fun v0 v2 h => f_X10_push_2 N n v0 v2 h)
      else
        f_X10_push_58 N v0 v2 h
set_option maxRecDepth 100000 in
set_option maxHeartbeats 4000000 in
theorem w_X10_push_2 {p : Program} {l : Launch} {e : Env} {s : State} {m : MethodId} {args : Array Value} {below : List Frame} {meth : Method} {c : Code} {G : Gx} {h' : Mem} {L : Nat} (X : CX G p s m args c cX10_push 3 RX10) (hr : meth.sig.returnType = (Option.none : Option Jvm.ClassFile.FieldType)) (hk : meth.locks = false) (hL : s.heap.size + 0 = gB G + L) (N : Nat) : ∀ (n : Nat) (v0 : Nat) (v2 : Int32) (h : Mem), f_X10_push_2 N n v0 v2 h = some h' → ∀ (H : Heap) (locs : List Loc) (ls : Array Slot), MS G s h H locs 0 → lv_has ls 3 [(0, .ref (gB G + v0)), (2, .int v2)] → W p l e (rm_X10_push) s m args below meth c H locs 0 0 (QV G below args s h' L 0 0) (F0 m 2 ls []) := by
  intro n
  induction n with
  | zero =>
    intro v0 v2 h hf
    cases hf
  | succ n ih =>
    intro v0 v2 h hf H locs ls M hl
    rw [f_X10_push_2] at hf
    refine lv_aload_n X.1 X.2.1 dX10_push_2 rfl (lv_at hl 0 rfl) ?_
    obtain ⟨t1, q2, hf⟩ := bnd hf
    refine x_geti fl_X10_109 X M q2 dX10_push_3 ?_
    refine lv_if_le (tgt := 58) X.1 X.2.1 dX10_push_6 (by decide) (fun c3 => ?_) (fun c3 => ?_)
    · have hf := ifp c3 hf
      exact w_X10_push_58 X hr hk hL N v0 v2 h hf _ _ _ M (lv_sub hl [0, 1] rfl)
    · have hf := ifn c3 hf
      refine lv_aload_n X.1 X.2.1 dX10_push_9 rfl (lv_at hl 0 rfl) ?_
      obtain ⟨t4, q5, hf⟩ := bnd hf
      refine x_getr fl_X10_102 X M q5 dX10_push_10 ?_
      refine lv_aload_n X.1 X.2.1 dX10_push_13 rfl (lv_at hl 0 rfl) ?_
      obtain ⟨t6, q7, hf⟩ := bnd hf
      refine x_geti fl_X10_109 X M q7 dX10_push_14 ?_
      refine lv_iconst (v := (1 : Int32)) X.1 X.2.1 dX10_push_17 (by decide) ?_
      refine lv_isub X.1 X.2.1 dX10_push_18 ?_
      obtain ⟨t8, q9, hf⟩ := bnd hf
      refine x_iald X M q9 dX10_push_19 ?_
      refine lv_bipush (v := (33 : Int32)) X.1 X.2.1 dX10_push_20 (by decide) ?_
      refine lv_icmp_ne (tgt := 58) X.1 X.2.1 dX10_push_22 (by decide) (fun c10 => ?_) (fun c10 => ?_)
      · have hf := ifn c10 hf
        exact w_X10_push_58 X hr hk hL N v0 v2 h hf _ _ _ M (lv_sub hl [0, 1] rfl)
      · have hf := ifp c10 hf
        refine lv_iload_n X.1 X.2.1 dX10_push_25 rfl (lv_at hl 1 rfl) ?_
        refine lv_if_ne (tgt := 33) X.1 X.2.1 dX10_push_26 (by decide) (fun c11 => ?_) (fun c11 => ?_)
        · have hf := ifn c11 hf
          refine lv_iconst (v := (0 : Int32)) X.1 X.2.1 dX10_push_33 (by decide) ?_
          exact w_X10_push_34 X hr hk hL N _ (fun v0 v2 h hf H locs ls M hl => ih v0 v2 h hf H locs ls M hl) v0 (0 : Int32) h hf _ _ _ M (lv_sub hl [0] rfl)
        · have hf := ifp c11 hf
          refine lv_iconst (v := (1 : Int32)) X.1 X.2.1 dX10_push_29 (by decide) ?_
          refine lv_goto (tgt := 34) X.1 X.2.1 dX10_push_30 (by decide) ?_
          exact w_X10_push_34 X hr hk hL N _ (fun v0 v2 h hf H locs ls M hl => ih v0 v2 h hf H locs ls M hl) v0 (1 : Int32) h hf _ _ _ M (lv_sub hl [0] rfl)
def f_X10_push (N : Nat) (v0 : Nat) (v1 : Int32) (h : Mem) : Option Mem :=
  f_X10_push_2 N N v0 v1 h
set_option maxRecDepth 100000 in
set_option maxHeartbeats 4000000 in
theorem w_X10_push {p : Program} {l : Launch} {e : Env} {s : State} {m : MethodId} {args : Array Value} {below : List Frame} {meth : Method} {c : Code} {G : Gx} {h' : Mem} {L : Nat} (X : CX G p s m args c cX10_push 3 RX10) (hr : meth.sig.returnType = (Option.none : Option Jvm.ClassFile.FieldType)) (hk : meth.locks = false) (hL : s.heap.size + 0 = gB G + L) (N : Nat) : ∀ (v0 : Nat) (v1 : Int32) (h : Mem), f_X10_push N v0 v1 h = some h' → ∀ (H : Heap) (locs : List Loc) (ls : Array Slot), MS G s h H locs 0 → lv_has ls 3 [(0, .ref (gB G + v0)), (1, .int v1)] → W p l e (rm_X10_push) s m args below meth c H locs 0 0 (QV G below args s h' L 0 0) (F0 m 0 ls []) := by
  intro v0 v1 h hf H locs ls M hl
  rw [f_X10_push] at hf
  refine lv_iload_n X.1 X.2.1 dX10_push_0 rfl (lv_at hl 1 rfl) ?_
  refine lv_istore_n (lv' := [(2, .int v1), (0, .ref (gB G + v0)), (1, .int v1)]) X.1 X.2.1 dX10_push_1 rfl hl (by decide) rfl (fun ls hl => ?_)
  exact w_X10_push_2 X hr hk hL N N v0 v1 h hf _ _ _ M (lv_sub hl [1, 0] rfl)
theorem c_X10_push (l : Launch) (G : Gx) (N : Nat) (v0 : Nat) (v1 : Int32) (h : Mem) (h' : Mem) (hf : f_X10_push N v0 v1 h = some h') : MetG l G yX10_push (.code yX10_push cX10_push 3 (Option.none : Option Jvm.ClassFile.FieldType)) rm_X10_push [.ref (gB G + v0), .int v1] h (QcV G h' (h.1.length + 0)) 0 0 :=
  x_met (by decide) rfl (Nat.le_of_ble_eq_true rfl) (fun p e s m args below meth c ls X M hr hk hin hl => w_X10_push X hr hk (by have := M.2.2; omega) N v0 v1 h hf _ _ ls M hl)
abbrev rm_X10_takesTest : Room := { frames := 4, cells := 0, slots := 0, locals := 104 }
def f_X10_takesTest_174 (N : Nat) (s0 : Nat) (s1 : Int32) (h : Mem) : Option (Int32 × Mem) :=
  (ck h s0 10).bind fun _ =>
  (f_X10_push N s0 s1 h).bind fun h3 =>
  some ((1 : Int32), h3)
set_option maxRecDepth 100000 in
set_option maxHeartbeats 4000000 in
theorem w_X10_takesTest_174 {p : Program} {l : Launch} {e : Env} {s : State} {m : MethodId} {args : Array Value} {below : List Frame} {meth : Method} {c : Code} {G : Gx} {r : Int32} {h' : Mem} (X : CX G p s m args c cX10_takesTest 4 RX10) (hr : meth.sig.returnType = (Option.some Jvm.ClassFile.FieldType.boolean)) (hk : meth.locks = false) (N : Nat) : ∀ (s0 : Nat) (s1 : Int32) (h : Mem), f_X10_takesTest_174 N s0 s1 h = some (r, h') → ∀ (H : Heap) (locs : List Loc) (ls : Array Slot), MS G s h H locs 0 → lv_has ls 4 [] → W p l e (rm_X10_takesTest) s m args below meth c H locs 0 0 (QI G below args s r h' 0 0) (F0 m 174 ls [.int s1, .ref (gB G + s0)]) := by
  intro s0 s1 h hf H locs ls M hl
  rw [f_X10_takesTest_174] at hf
  obtain ⟨⟨⟩, q1, hf⟩ := bnd hf
  obtain ⟨h3, q2, hf⟩ := bnd hf
  refine x_callVv (As := [.int s1]) cf_X10_246 (c_X10_push l G N s0 s1 h _ q2) rfl ⟨rfl, rfl, Nat.le_of_ble_eq_true rfl, Nat.le_of_ble_eq_true rfl⟩ ⟨Nat.le_of_ble_eq_true rfl, Nat.le_of_ble_eq_true rfl⟩ X M (x_recv cls_X10 X M q1) rfl rfl hl.1 (Nat.le_of_ble_eq_true rfl) dX10_takesTest_174 (fun H locs M => ?_)
  refine lv_iconst (v := (1 : Int32)) X.1 X.2.1 dX10_takesTest_177 (by decide) ?_
  obtain ⟨rfl, rfl⟩ := rt2 hf
  exact x_zret X hr hk rfl M dX10_takesTest_178
def f_X10_takesTest_46 (N : Nat) (v0 : Nat) (s0 : Int32) (h : Mem) : Option (Int32 × Mem) :=
  if 0 ≤ s0 then
    (gI h v0 10 19).bind fun t2 =>
    (sI h v0 10 19 (t2 + (1 : Int32))).bind fun h4 =>
    (ck h4 v0 10).bind fun _ =>
    b2 (f_X10_next N v0 h4) fun t9 h8 =>
    (ck h8 v0 10).bind fun _ =>
    b2 (f_X10_in N v0 t9 (60 : Int32) (62 : Int32) h8) fun t13 h12 =>
    if t13 = 0 then
      some ((0 : Int32), h12)
    else
      (gI h12 v0 10 19).bind fun t15 =>
      (sI h12 v0 10 19 (t15 + (1 : Int32))).bind fun h17 =>
      (ck h17 v0 10).bind fun _ =>
      b2 (f_X10_takesNumber N v0 h17) fun t22 h21 =>
      if t22 = 0 then
        some ((0 : Int32), h21)
      else
        if t9 = (60 : Int32) then
          (gR h21 v0 10 16).bind fun t40 =>
          (lI 100 h21 t40 s0).bind fun t42 =>
          (gI h21 v0 10 20).bind fun t44 =>
          if t44 ≤ t42 then
            f_X10_takesTest_174 N v0 (0 : Int32) h21
          else
            f_X10_takesTest_174 N v0 (1 : Int32) h21
        else
          if t9 = (61 : Int32) then
            (gR h21 v0 10 16).bind fun t33 =>
            (lI 100 h21 t33 s0).bind fun t35 =>
            (gI h21 v0 10 20).bind fun t37 =>
            if t35 = t37 then
              f_X10_takesTest_174 N v0 (1 : Int32) h21
            else
              f_X10_takesTest_174 N v0 (0 : Int32) h21
          else
            (gR h21 v0 10 16).bind fun t26 =>
            (lI 100 h21 t26 s0).bind fun t28 =>
            (gI h21 v0 10 20).bind fun t30 =>
            if t28 ≤ t30 then
              f_X10_takesTest_174 N v0 (0 : Int32) h21
            else
              f_X10_takesTest_174 N v0 (1 : Int32) h21
  else
    some ((0 : Int32), h)
set_option maxRecDepth 100000 in
set_option maxHeartbeats 4000000 in
theorem w_X10_takesTest_46 {p : Program} {l : Launch} {e : Env} {s : State} {m : MethodId} {args : Array Value} {below : List Frame} {meth : Method} {c : Code} {G : Gx} {r : Int32} {h' : Mem} (X : CX G p s m args c cX10_takesTest 4 RX10) (hr : meth.sig.returnType = (Option.some Jvm.ClassFile.FieldType.boolean)) (hk : meth.locks = false) (N : Nat) : ∀ (v0 : Nat) (s0 : Int32) (h : Mem), f_X10_takesTest_46 N v0 s0 h = some (r, h') → ∀ (H : Heap) (locs : List Loc) (ls : Array Slot), MS G s h H locs 0 → lv_has ls 4 [(0, .ref (gB G + v0))] → W p l e (rm_X10_takesTest) s m args below meth c H locs 0 0 (QI G below args s r h' 0 0) (F0 m 46 ls [.int s0]) := by
  intro v0 s0 h hf H locs ls M hl
  rw [f_X10_takesTest_46] at hf
  refine lv_istore_n (lv' := [(2, .int s0), (0, .ref (gB G + v0))]) X.1 X.2.1 dX10_takesTest_46 rfl hl (by decide) rfl (fun ls hl => ?_)
  refine lv_iload_n X.1 X.2.1 dX10_takesTest_47 rfl (lv_at hl 0 rfl) ?_
  refine lv_if_ge (tgt := 53) X.1 X.2.1 dX10_takesTest_48 (by decide) (fun c1 => ?_) (fun c1 => ?_)
  · have hf := ifp c1 hf
    refine lv_aload_n X.1 X.2.1 dX10_takesTest_53 rfl (lv_at hl 1 rfl) ?_
    refine lv_dup X.1 X.2.1 dX10_takesTest_54 rfl ?_
    obtain ⟨t2, q3, hf⟩ := bnd hf
    refine x_geti fl_X10_68 X M q3 dX10_takesTest_55 ?_
    refine lv_iconst (v := (1 : Int32)) X.1 X.2.1 dX10_takesTest_58 (by decide) ?_
    refine lv_iadd X.1 X.2.1 dX10_takesTest_59 ?_
    obtain ⟨h4, q5, hf⟩ := bnd hf
    refine x_puti fl_X10_68 fp_X10_68.1 fp_X10_68.2 X M q5 dX10_takesTest_60 (fun H locs M => ?_)
    refine lv_aload_n X.1 X.2.1 dX10_takesTest_63 rfl (lv_at hl 1 rfl) ?_
    obtain ⟨⟨⟩, q6, hf⟩ := bnd hf
    obtain ⟨t9, h8, q7, hf⟩ := bnd2 hf
    refine x_callVi (As := []) cf_X10_232 (c_X10_next l G N v0 h4 _ _ q7) rfl ⟨rfl, rfl, Nat.le_of_ble_eq_true rfl, Nat.le_of_ble_eq_true rfl⟩ ⟨Nat.le_of_ble_eq_true rfl, Nat.le_of_ble_eq_true rfl⟩ X M (x_recv cls_X10 X M q6) rfl rfl hl.1 (Nat.le_of_ble_eq_true rfl) dX10_takesTest_64 (fun H locs M => ?_)
    refine lv_istore_n (lv' := [(3, .int t9), (2, .int s0), (0, .ref (gB G + v0))]) X.1 X.2.1 dX10_takesTest_67 rfl hl (by decide) rfl (fun ls hl => ?_)
    refine lv_aload_n X.1 X.2.1 dX10_takesTest_68 rfl (lv_at hl 2 rfl) ?_
    refine lv_iload_n X.1 X.2.1 dX10_takesTest_69 rfl (lv_at hl 0 rfl) ?_
    refine lv_bipush (v := (60 : Int32)) X.1 X.2.1 dX10_takesTest_70 (by decide) ?_
    refine lv_bipush (v := (62 : Int32)) X.1 X.2.1 dX10_takesTest_72 (by decide) ?_
    obtain ⟨⟨⟩, q10, hf⟩ := bnd hf
    obtain ⟨t13, h12, q11, hf⟩ := bnd2 hf
    refine x_callVi (As := [.int t9, .int (60 : Int32), .int (62 : Int32)]) cf_X10_197 (c_X10_in l G N v0 t9 (60 : Int32) (62 : Int32) h8 _ _ q11) rfl ⟨rfl, rfl, Nat.le_of_ble_eq_true rfl, Nat.le_of_ble_eq_true rfl⟩ ⟨Nat.le_of_ble_eq_true rfl, Nat.le_of_ble_eq_true rfl⟩ X M (x_recv cls_X10 X M q10) rfl rfl hl.1 (Nat.le_of_ble_eq_true rfl) dX10_takesTest_74 (fun H locs M => ?_)
    refine lv_if_ne (tgt := 82) X.1 X.2.1 dX10_takesTest_77 (by decide) (fun c14 => ?_) (fun c14 => ?_)
    · have hf := ifn c14 hf
      refine lv_aload_n X.1 X.2.1 dX10_takesTest_82 rfl (lv_at hl 2 rfl) ?_
      refine lv_dup X.1 X.2.1 dX10_takesTest_83 rfl ?_
      obtain ⟨t15, q16, hf⟩ := bnd hf
      refine x_geti fl_X10_68 X M q16 dX10_takesTest_84 ?_
      refine lv_iconst (v := (1 : Int32)) X.1 X.2.1 dX10_takesTest_87 (by decide) ?_
      refine lv_iadd X.1 X.2.1 dX10_takesTest_88 ?_
      obtain ⟨h17, q18, hf⟩ := bnd hf
      refine x_puti fl_X10_68 fp_X10_68.1 fp_X10_68.2 X M q18 dX10_takesTest_89 (fun H locs M => ?_)
      refine lv_aload_n X.1 X.2.1 dX10_takesTest_92 rfl (lv_at hl 2 rfl) ?_
      obtain ⟨⟨⟩, q19, hf⟩ := bnd hf
      obtain ⟨t22, h21, q20, hf⟩ := bnd2 hf
      refine x_callVi (As := []) cf_X10_243 (c_X10_takesNumber l G N v0 h17 _ _ q20) rfl ⟨rfl, rfl, Nat.le_of_ble_eq_true rfl, Nat.le_of_ble_eq_true rfl⟩ ⟨Nat.le_of_ble_eq_true rfl, Nat.le_of_ble_eq_true rfl⟩ X M (x_recv cls_X10 X M q19) rfl rfl hl.1 (Nat.le_of_ble_eq_true rfl) dX10_takesTest_93 (fun H locs M => ?_)
      refine lv_if_ne (tgt := 101) X.1 X.2.1 dX10_takesTest_96 (by decide) (fun c23 => ?_) (fun c23 => ?_)
      · have hf := ifn c23 hf
        refine lv_aload_n X.1 X.2.1 dX10_takesTest_101 rfl (lv_at hl 2 rfl) ?_
        refine lv_iload_n X.1 X.2.1 dX10_takesTest_102 rfl (lv_at hl 0 rfl) ?_
        refine lv_bipush (v := (60 : Int32)) X.1 X.2.1 dX10_takesTest_103 (by decide) ?_
        refine lv_icmp_ne (tgt := 129) X.1 X.2.1 dX10_takesTest_105 (by decide) (fun c24 => ?_) (fun c24 => ?_)
        · have hf := ifn c24 hf
          refine lv_iload_n X.1 X.2.1 dX10_takesTest_129 rfl (lv_at hl 0 rfl) ?_
          refine lv_bipush (v := (61 : Int32)) X.1 X.2.1 dX10_takesTest_130 (by decide) ?_
          refine lv_icmp_ne (tgt := 156) X.1 X.2.1 dX10_takesTest_132 (by decide) (fun c25 => ?_) (fun c25 => ?_)
          · have hf := ifn c25 hf
            refine lv_aload_n X.1 X.2.1 dX10_takesTest_156 rfl (lv_at hl 2 rfl) ?_
            obtain ⟨t26, q27, hf⟩ := bnd hf
            refine x_getr fl_X10_59 X M q27 dX10_takesTest_157 ?_
            refine lv_iload_n X.1 X.2.1 dX10_takesTest_160 rfl (lv_at hl 1 rfl) ?_
            obtain ⟨t28, q29, hf⟩ := bnd hf
            refine x_iald X M q29 dX10_takesTest_161 ?_
            refine lv_aload_n X.1 X.2.1 dX10_takesTest_162 rfl (lv_at hl 2 rfl) ?_
            obtain ⟨t30, q31, hf⟩ := bnd hf
            refine x_geti fl_X10_71 X M q31 dX10_takesTest_163 ?_
            refine lv_icmp_le (tgt := 173) X.1 X.2.1 dX10_takesTest_166 (by decide) (fun c32 => ?_) (fun c32 => ?_)
            · have hf := ifp c32 hf
              refine lv_iconst (v := (0 : Int32)) X.1 X.2.1 dX10_takesTest_173 (by decide) ?_
              exact w_X10_takesTest_174 X hr hk N v0 (0 : Int32) h21 hf _ _ _ M (lv_sub hl [] rfl)
            · have hf := ifn c32 hf
              refine lv_iconst (v := (1 : Int32)) X.1 X.2.1 dX10_takesTest_169 (by decide) ?_
              refine lv_goto (tgt := 174) X.1 X.2.1 dX10_takesTest_170 (by decide) ?_
              exact w_X10_takesTest_174 X hr hk N v0 (1 : Int32) h21 hf _ _ _ M (lv_sub hl [] rfl)
          · have hf := ifp c25 hf
            refine lv_aload_n X.1 X.2.1 dX10_takesTest_135 rfl (lv_at hl 2 rfl) ?_
            obtain ⟨t33, q34, hf⟩ := bnd hf
            refine x_getr fl_X10_59 X M q34 dX10_takesTest_136 ?_
            refine lv_iload_n X.1 X.2.1 dX10_takesTest_139 rfl (lv_at hl 1 rfl) ?_
            obtain ⟨t35, q36, hf⟩ := bnd hf
            refine x_iald X M q36 dX10_takesTest_140 ?_
            refine lv_aload_n X.1 X.2.1 dX10_takesTest_141 rfl (lv_at hl 2 rfl) ?_
            obtain ⟨t37, q38, hf⟩ := bnd hf
            refine x_geti fl_X10_71 X M q38 dX10_takesTest_142 ?_
            refine lv_icmp_ne (tgt := 152) X.1 X.2.1 dX10_takesTest_145 (by decide) (fun c39 => ?_) (fun c39 => ?_)
            · have hf := ifn c39 hf
              refine lv_iconst (v := (0 : Int32)) X.1 X.2.1 dX10_takesTest_152 (by decide) ?_
              refine lv_goto (tgt := 174) X.1 X.2.1 dX10_takesTest_153 (by decide) ?_
              exact w_X10_takesTest_174 X hr hk N v0 (0 : Int32) h21 hf _ _ _ M (lv_sub hl [] rfl)
            · have hf := ifp c39 hf
              refine lv_iconst (v := (1 : Int32)) X.1 X.2.1 dX10_takesTest_148 (by decide) ?_
              refine lv_goto (tgt := 174) X.1 X.2.1 dX10_takesTest_149 (by decide) ?_
              exact w_X10_takesTest_174 X hr hk N v0 (1 : Int32) h21 hf _ _ _ M (lv_sub hl [] rfl)
        · have hf := ifp c24 hf
          refine lv_aload_n X.1 X.2.1 dX10_takesTest_108 rfl (lv_at hl 2 rfl) ?_
          obtain ⟨t40, q41, hf⟩ := bnd hf
          refine x_getr fl_X10_59 X M q41 dX10_takesTest_109 ?_
          refine lv_iload_n X.1 X.2.1 dX10_takesTest_112 rfl (lv_at hl 1 rfl) ?_
          obtain ⟨t42, q43, hf⟩ := bnd hf
          refine x_iald X M q43 dX10_takesTest_113 ?_
          refine lv_aload_n X.1 X.2.1 dX10_takesTest_114 rfl (lv_at hl 2 rfl) ?_
          obtain ⟨t44, q45, hf⟩ := bnd hf
          refine x_geti fl_X10_71 X M q45 dX10_takesTest_115 ?_
          refine lv_icmp_ge (tgt := 125) X.1 X.2.1 dX10_takesTest_118 (by decide) (fun c46 => ?_) (fun c46 => ?_)
          · have hf := ifp c46 hf
            refine lv_iconst (v := (0 : Int32)) X.1 X.2.1 dX10_takesTest_125 (by decide) ?_
            refine lv_goto (tgt := 174) X.1 X.2.1 dX10_takesTest_126 (by decide) ?_
            exact w_X10_takesTest_174 X hr hk N v0 (0 : Int32) h21 hf _ _ _ M (lv_sub hl [] rfl)
          · have hf := ifn c46 hf
            refine lv_iconst (v := (1 : Int32)) X.1 X.2.1 dX10_takesTest_121 (by decide) ?_
            refine lv_goto (tgt := 174) X.1 X.2.1 dX10_takesTest_122 (by decide) ?_
            exact w_X10_takesTest_174 X hr hk N v0 (1 : Int32) h21 hf _ _ _ M (lv_sub hl [] rfl)
      · have hf := ifp c23 hf
        refine lv_iconst (v := (0 : Int32)) X.1 X.2.1 dX10_takesTest_99 (by decide) ?_
        obtain ⟨rfl, rfl⟩ := rt2 hf
        exact x_zret X hr hk rfl M dX10_takesTest_100
    · have hf := ifp c14 hf
      refine lv_iconst (v := (0 : Int32)) X.1 X.2.1 dX10_takesTest_80 (by decide) ?_
      obtain ⟨rfl, rfl⟩ := rt2 hf
      exact x_zret X hr hk rfl M dX10_takesTest_81
  · have hf := ifn c1 hf
    refine lv_iconst (v := (0 : Int32)) X.1 X.2.1 dX10_takesTest_51 (by decide) ?_
    obtain ⟨rfl, rfl⟩ := rt2 hf
    exact x_zret X hr hk rfl M dX10_takesTest_52
def f_X10_takesTest (N : Nat) (v0 : Nat) (h : Mem) : Option (Int32 × Mem) :=
  (ck h v0 10).bind fun _ =>
  b2 (f_X10_next N v0 h) fun t4 h3 =>
  if t4 = (115 : Int32) then
    f_X10_takesTest_46 N v0 (0 : Int32) h3
  else
    if t4 = (105 : Int32) then
      f_X10_takesTest_46 N v0 (1 : Int32) h3
    else
      if t4 = (116 : Int32) then
        f_X10_takesTest_46 N v0 (2 : Int32) h3
      else
        if t4 = (102 : Int32) then
          f_X10_takesTest_46 N v0 (3 : Int32) h3
        else
          f_X10_takesTest_46 N v0 (-1 : Int32) h3
set_option maxRecDepth 100000 in
set_option maxHeartbeats 4000000 in
theorem w_X10_takesTest {p : Program} {l : Launch} {e : Env} {s : State} {m : MethodId} {args : Array Value} {below : List Frame} {meth : Method} {c : Code} {G : Gx} {r : Int32} {h' : Mem} (X : CX G p s m args c cX10_takesTest 4 RX10) (hr : meth.sig.returnType = (Option.some Jvm.ClassFile.FieldType.boolean)) (hk : meth.locks = false) (N : Nat) : ∀ (v0 : Nat) (h : Mem), f_X10_takesTest N v0 h = some (r, h') → ∀ (H : Heap) (locs : List Loc) (ls : Array Slot), MS G s h H locs 0 → lv_has ls 4 [(0, .ref (gB G + v0))] → W p l e (rm_X10_takesTest) s m args below meth c H locs 0 0 (QI G below args s r h' 0 0) (F0 m 0 ls []) := by
  intro v0 h hf H locs ls M hl
  rw [f_X10_takesTest] at hf
  refine lv_aload_n X.1 X.2.1 dX10_takesTest_0 rfl (lv_at hl 0 rfl) ?_
  obtain ⟨⟨⟩, q1, hf⟩ := bnd hf
  obtain ⟨t4, h3, q2, hf⟩ := bnd2 hf
  refine x_callVi (As := []) cf_X10_232 (c_X10_next l G N v0 h _ _ q2) rfl ⟨rfl, rfl, Nat.le_of_ble_eq_true rfl, Nat.le_of_ble_eq_true rfl⟩ ⟨Nat.le_of_ble_eq_true rfl, Nat.le_of_ble_eq_true rfl⟩ X M (x_recv cls_X10 X M q1) rfl rfl hl.1 (Nat.le_of_ble_eq_true rfl) dX10_takesTest_1 (fun H locs M => ?_)
  refine lv_istore_n (lv' := [(1, .int t4), (0, .ref (gB G + v0))]) X.1 X.2.1 dX10_takesTest_4 rfl hl (by decide) rfl (fun ls hl => ?_)
  refine lv_iload_n X.1 X.2.1 dX10_takesTest_5 rfl (lv_at hl 0 rfl) ?_
  refine lv_bipush (v := (115 : Int32)) X.1 X.2.1 dX10_takesTest_6 (by decide) ?_
  refine lv_icmp_ne (tgt := 15) X.1 X.2.1 dX10_takesTest_8 (by decide) (fun c5 => ?_) (fun c5 => ?_)
  · have hf := ifn c5 hf
    refine lv_iload_n X.1 X.2.1 dX10_takesTest_15 rfl (lv_at hl 0 rfl) ?_
    refine lv_bipush (v := (105 : Int32)) X.1 X.2.1 dX10_takesTest_16 (by decide) ?_
    refine lv_icmp_ne (tgt := 25) X.1 X.2.1 dX10_takesTest_18 (by decide) (fun c6 => ?_) (fun c6 => ?_)
    · have hf := ifn c6 hf
      refine lv_iload_n X.1 X.2.1 dX10_takesTest_25 rfl (lv_at hl 0 rfl) ?_
      refine lv_bipush (v := (116 : Int32)) X.1 X.2.1 dX10_takesTest_26 (by decide) ?_
      refine lv_icmp_ne (tgt := 35) X.1 X.2.1 dX10_takesTest_28 (by decide) (fun c7 => ?_) (fun c7 => ?_)
      · have hf := ifn c7 hf
        refine lv_iload_n X.1 X.2.1 dX10_takesTest_35 rfl (lv_at hl 0 rfl) ?_
        refine lv_bipush (v := (102 : Int32)) X.1 X.2.1 dX10_takesTest_36 (by decide) ?_
        refine lv_icmp_ne (tgt := 45) X.1 X.2.1 dX10_takesTest_38 (by decide) (fun c8 => ?_) (fun c8 => ?_)
        · have hf := ifn c8 hf
          refine lv_iconst (v := (-1 : Int32)) X.1 X.2.1 dX10_takesTest_45 (by decide) ?_
          exact w_X10_takesTest_46 X hr hk N v0 (-1 : Int32) h3 hf _ _ _ M (lv_sub hl [1] rfl)
        · have hf := ifp c8 hf
          refine lv_iconst (v := (3 : Int32)) X.1 X.2.1 dX10_takesTest_41 (by decide) ?_
          refine lv_goto (tgt := 46) X.1 X.2.1 dX10_takesTest_42 (by decide) ?_
          exact w_X10_takesTest_46 X hr hk N v0 (3 : Int32) h3 hf _ _ _ M (lv_sub hl [1] rfl)
      · have hf := ifp c7 hf
        refine lv_iconst (v := (2 : Int32)) X.1 X.2.1 dX10_takesTest_31 (by decide) ?_
        refine lv_goto (tgt := 46) X.1 X.2.1 dX10_takesTest_32 (by decide) ?_
        exact w_X10_takesTest_46 X hr hk N v0 (2 : Int32) h3 hf _ _ _ M (lv_sub hl [1] rfl)
    · have hf := ifp c6 hf
      refine lv_iconst (v := (1 : Int32)) X.1 X.2.1 dX10_takesTest_21 (by decide) ?_
      refine lv_goto (tgt := 46) X.1 X.2.1 dX10_takesTest_22 (by decide) ?_
      exact w_X10_takesTest_46 X hr hk N v0 (1 : Int32) h3 hf _ _ _ M (lv_sub hl [1] rfl)
  · have hf := ifp c5 hf
    refine lv_iconst (v := (0 : Int32)) X.1 X.2.1 dX10_takesTest_11 (by decide) ?_
    refine lv_goto (tgt := 46) X.1 X.2.1 dX10_takesTest_12 (by decide) ?_
    exact w_X10_takesTest_46 X hr hk N v0 (0 : Int32) h3 hf _ _ _ M (lv_sub hl [1] rfl)
theorem c_X10_takesTest (l : Launch) (G : Gx) (N : Nat) (v0 : Nat) (h : Mem) (r : Int32) (h' : Mem) (hf : f_X10_takesTest N v0 h = some (r, h')) : MetG l G yX10_takesTest (.code yX10_takesTest cX10_takesTest 4 (Option.some Jvm.ClassFile.FieldType.boolean)) rm_X10_takesTest [.ref (gB G + v0)] h (QcI G r h') 0 0 :=
  x_met (by decide) rfl (Nat.le_of_ble_eq_true rfl) (fun p e s m args below meth c ls X M hr hk hin hl => w_X10_takesTest X hr hk N v0 h hf _ _ ls M hl)
abbrev rm_X10_settle : Room := { frames := 1, cells := 0, slots := 0, locals := 40 }
def f_X10_settle_119 (N : Nat) (v0 : Nat) (v1 : Int32) (s0 : Nat) (s1 : Int32) (h : Mem) (k154 : Nat → Int32 → Nat → Int32 → Int32 → Mem → Option Mem) : Option Mem :=
  k154 v0 v1 s0 s1 (0 : Int32) h
set_option maxRecDepth 100000 in
set_option maxHeartbeats 4000000 in
theorem w_X10_settle_119 {p : Program} {l : Launch} {e : Env} {s : State} {m : MethodId} {args : Array Value} {below : List Frame} {meth : Method} {c : Code} {G : Gx} {h' : Mem} {L : Nat} (X : CX G p s m args c cX10_settle 2 RX10) (hr : meth.sig.returnType = (Option.none : Option Jvm.ClassFile.FieldType)) (hk : meth.locks = false) (hL : s.heap.size + 0 = gB G + L) (N : Nat) (k154 : Nat → Int32 → Nat → Int32 → Int32 → Mem → Option Mem) (K154 : ∀ (v0 : Nat) (v1 : Int32) (s0 : Nat) (s1 : Int32) (s2 : Int32) (h : Mem), k154 v0 v1 s0 s1 s2 h = some h' → ∀ (H : Heap) (locs : List Loc) (ls : Array Slot), MS G s h H locs 0 → lv_has ls 2 [(0, .ref (gB G + v0)), (1, .int v1)] → W p l e (rm_X10_settle) s m args below meth c H locs 0 0 (QV G below args s h' L 0 0) (F0 m 154 ls [.int s2, .int s1, .ref (gB G + s0)])) : ∀ (v0 : Nat) (v1 : Int32) (s0 : Nat) (s1 : Int32) (h : Mem), f_X10_settle_119 N v0 v1 s0 s1 h k154 = some h' → ∀ (H : Heap) (locs : List Loc) (ls : Array Slot), MS G s h H locs 0 → lv_has ls 2 [(0, .ref (gB G + v0)), (1, .int v1)] → W p l e (rm_X10_settle) s m args below meth c H locs 0 0 (QV G below args s h' L 0 0) (F0 m 119 ls [.int s1, .ref (gB G + s0)]) := by
  intro v0 v1 s0 s1 h hf H locs ls M hl
  rw [f_X10_settle_119] at hf
  refine lv_iconst (v := (0 : Int32)) X.1 X.2.1 dX10_settle_119 (by decide) ?_
  refine lv_goto (tgt := 154) X.1 X.2.1 dX10_settle_120 (by decide) ?_
  exact K154 v0 v1 s0 s1 (0 : Int32) h hf _ _ _ M (lv_sub hl [0, 1] rfl)
def f_X10_settle_149 (N : Nat) (v0 : Nat) (v1 : Int32) (s0 : Nat) (s1 : Int32) (h : Mem) (k154 : Nat → Int32 → Nat → Int32 → Int32 → Mem → Option Mem) : Option Mem :=
  k154 v0 v1 s0 s1 (1 : Int32) h
set_option maxRecDepth 100000 in
set_option maxHeartbeats 4000000 in
theorem w_X10_settle_149 {p : Program} {l : Launch} {e : Env} {s : State} {m : MethodId} {args : Array Value} {below : List Frame} {meth : Method} {c : Code} {G : Gx} {h' : Mem} {L : Nat} (X : CX G p s m args c cX10_settle 2 RX10) (hr : meth.sig.returnType = (Option.none : Option Jvm.ClassFile.FieldType)) (hk : meth.locks = false) (hL : s.heap.size + 0 = gB G + L) (N : Nat) (k154 : Nat → Int32 → Nat → Int32 → Int32 → Mem → Option Mem) (K154 : ∀ (v0 : Nat) (v1 : Int32) (s0 : Nat) (s1 : Int32) (s2 : Int32) (h : Mem), k154 v0 v1 s0 s1 s2 h = some h' → ∀ (H : Heap) (locs : List Loc) (ls : Array Slot), MS G s h H locs 0 → lv_has ls 2 [(0, .ref (gB G + v0)), (1, .int v1)] → W p l e (rm_X10_settle) s m args below meth c H locs 0 0 (QV G below args s h' L 0 0) (F0 m 154 ls [.int s2, .int s1, .ref (gB G + s0)])) : ∀ (v0 : Nat) (v1 : Int32) (s0 : Nat) (s1 : Int32) (h : Mem), f_X10_settle_149 N v0 v1 s0 s1 h k154 = some h' → ∀ (H : Heap) (locs : List Loc) (ls : Array Slot), MS G s h H locs 0 → lv_has ls 2 [(0, .ref (gB G + v0)), (1, .int v1)] → W p l e (rm_X10_settle) s m args below meth c H locs 0 0 (QV G below args s h' L 0 0) (F0 m 149 ls [.int s1, .ref (gB G + s0)]) := by
  intro v0 v1 s0 s1 h hf H locs ls M hl
  rw [f_X10_settle_149] at hf
  refine lv_iconst (v := (1 : Int32)) X.1 X.2.1 dX10_settle_149 (by decide) ?_
  refine lv_goto (tgt := 154) X.1 X.2.1 dX10_settle_150 (by decide) ?_
  exact K154 v0 v1 s0 s1 (1 : Int32) h hf _ _ _ M (lv_sub hl [0, 1] rfl)
def f_X10_settle_154 (N : Nat) (v0 : Nat) (v1 : Int32) (s0 : Nat) (s1 : Int32) (s2 : Int32) (h : Mem) (k0 : Nat → Int32 → Mem → Option Mem) : Option Mem :=
  (stI 102 h s0 s1 (vp_nar .boolean s2)).bind fun h1 =>
  k0 v0 v1 h1
set_option maxRecDepth 100000 in
set_option maxHeartbeats 4000000 in
theorem w_X10_settle_154 {p : Program} {l : Launch} {e : Env} {s : State} {m : MethodId} {args : Array Value} {below : List Frame} {meth : Method} {c : Code} {G : Gx} {h' : Mem} {L : Nat} (X : CX G p s m args c cX10_settle 2 RX10) (hr : meth.sig.returnType = (Option.none : Option Jvm.ClassFile.FieldType)) (hk : meth.locks = false) (hL : s.heap.size + 0 = gB G + L) (N : Nat) (k0 : Nat → Int32 → Mem → Option Mem) (K0 : ∀ (v0 : Nat) (v1 : Int32) (h : Mem), k0 v0 v1 h = some h' → ∀ (H : Heap) (locs : List Loc) (ls : Array Slot), MS G s h H locs 0 → lv_has ls 2 [(0, .ref (gB G + v0)), (1, .int v1)] → W p l e (rm_X10_settle) s m args below meth c H locs 0 0 (QV G below args s h' L 0 0) (F0 m 0 ls [])) : ∀ (v0 : Nat) (v1 : Int32) (s0 : Nat) (s1 : Int32) (s2 : Int32) (h : Mem), f_X10_settle_154 N v0 v1 s0 s1 s2 h k0 = some h' → ∀ (H : Heap) (locs : List Loc) (ls : Array Slot), MS G s h H locs 0 → lv_has ls 2 [(0, .ref (gB G + v0)), (1, .int v1)] → W p l e (rm_X10_settle) s m args below meth c H locs 0 0 (QV G below args s h' L 0 0) (F0 m 154 ls [.int s2, .int s1, .ref (gB G + s0)]) := by
  intro v0 v1 s0 s1 s2 h hf H locs ls M hl
  rw [f_X10_settle_154] at hf
  obtain ⟨h1, q2, hf⟩ := bnd hf
  refine x_zast X M q2 dX10_settle_154 (fun H locs M => ?_)
  refine lv_goto (tgt := 0) X.1 X.2.1 dX10_settle_155 (by decide) ?_
  exact K0 v0 v1 h1 hf _ _ _ M (lv_sub hl [0, 1] rfl)
def f_X10_settle_45 (N : Nat) (v0 : Nat) (v1 : Int32) (h : Mem) (k0 : Nat → Int32 → Mem → Option Mem) : Option Mem :=
  (gI h v0 10 32).bind fun t1 =>
  (sI h v0 10 32 (t1 - (1 : Int32))).bind fun h3 =>
  (gI h3 v0 10 33).bind fun t5 =>
  (sI h3 v0 10 33 (t5 - (1 : Int32))).bind fun h7 =>
  (gR h7 v0 10 31).bind fun t9 =>
  (gI h7 v0 10 33).bind fun t11 =>
  (gR h7 v0 10 30).bind fun t13 =>
  (gI h7 v0 10 32).bind fun t15 =>
  (lI 100 h7 t13 t15).bind fun t17 =>
  if t17 = (38 : Int32) then
    (gR h7 v0 10 31).bind fun t34 =>
    (gI h7 v0 10 33).bind fun t36 =>
    (lI 102 h7 t34 (t36 - (1 : Int32))).bind fun t38 =>
    if t38 = 0 then
      f_X10_settle_119 N v0 v1 t9 (t11 - (1 : Int32)) h7 (fun v0 v1 s0 s1 s2 h => f_X10_settle_154 N v0 v1 s0 s1 s2 h k0)
    else
      (gR h7 v0 10 31).bind fun t41 =>
      (gI h7 v0 10 33).bind fun t43 =>
      (lI 102 h7 t41 t43).bind fun t45 =>
      if t45 = 0 then
        f_X10_settle_119 N v0 v1 t9 (t11 - (1 : Int32)) h7 (fun v0 v1 s0 s1 s2 h => f_X10_settle_154 N v0 v1 s0 s1 s2 h k0)
      else
        f_X10_settle_154 N v0 v1 t9 (t11 - (1 : Int32)) (1 : Int32) h7 k0
  else
    (gR h7 v0 10 31).bind fun t20 =>
    (gI h7 v0 10 33).bind fun t22 =>
    (lI 102 h7 t20 (t22 - (1 : Int32))).bind fun t24 =>
    if t24 = 0 then
      (gR h7 v0 10 31).bind fun t27 =>
      (gI h7 v0 10 33).bind fun t29 =>
      (lI 102 h7 t27 t29).bind fun t31 =>
      if t31 = 0 then
        f_X10_settle_154 N v0 v1 t9 (t11 - (1 : Int32)) (0 : Int32) h7 k0
      else
        f_X10_settle_149 N v0 v1 t9 (t11 - (1 : Int32)) h7 (fun v0 v1 s0 s1 s2 h => f_X10_settle_154 N v0 v1 s0 s1 s2 h k0)
    else
      f_X10_settle_149 N v0 v1 t9 (t11 - (1 : Int32)) h7 (fun v0 v1 s0 s1 s2 h => f_X10_settle_154 N v0 v1 s0 s1 s2 h k0)
set_option maxRecDepth 100000 in
set_option maxHeartbeats 4000000 in
theorem w_X10_settle_45 {p : Program} {l : Launch} {e : Env} {s : State} {m : MethodId} {args : Array Value} {below : List Frame} {meth : Method} {c : Code} {G : Gx} {h' : Mem} {L : Nat} (X : CX G p s m args c cX10_settle 2 RX10) (hr : meth.sig.returnType = (Option.none : Option Jvm.ClassFile.FieldType)) (hk : meth.locks = false) (hL : s.heap.size + 0 = gB G + L) (N : Nat) (k0 : Nat → Int32 → Mem → Option Mem) (K0 : ∀ (v0 : Nat) (v1 : Int32) (h : Mem), k0 v0 v1 h = some h' → ∀ (H : Heap) (locs : List Loc) (ls : Array Slot), MS G s h H locs 0 → lv_has ls 2 [(0, .ref (gB G + v0)), (1, .int v1)] → W p l e (rm_X10_settle) s m args below meth c H locs 0 0 (QV G below args s h' L 0 0) (F0 m 0 ls [])) : ∀ (v0 : Nat) (v1 : Int32) (h : Mem), f_X10_settle_45 N v0 v1 h k0 = some h' → ∀ (H : Heap) (locs : List Loc) (ls : Array Slot), MS G s h H locs 0 → lv_has ls 2 [(0, .ref (gB G + v0)), (1, .int v1)] → W p l e (rm_X10_settle) s m args below meth c H locs 0 0 (QV G below args s h' L 0 0) (F0 m 45 ls []) := by
  intro v0 v1 h hf H locs ls M hl
  rw [f_X10_settle_45] at hf
  refine lv_aload_n X.1 X.2.1 dX10_settle_45 rfl (lv_at hl 0 rfl) ?_
  refine lv_dup X.1 X.2.1 dX10_settle_46 rfl ?_
  obtain ⟨t1, q2, hf⟩ := bnd hf
  refine x_geti fl_X10_109 X M q2 dX10_settle_47 ?_
  refine lv_iconst (v := (1 : Int32)) X.1 X.2.1 dX10_settle_50 (by decide) ?_
  refine lv_isub X.1 X.2.1 dX10_settle_51 ?_
  obtain ⟨h3, q4, hf⟩ := bnd hf
  refine x_puti fl_X10_109 fp_X10_109.1 fp_X10_109.2 X M q4 dX10_settle_52 (fun H locs M => ?_)
  refine lv_aload_n X.1 X.2.1 dX10_settle_55 rfl (lv_at hl 0 rfl) ?_
  refine lv_dup X.1 X.2.1 dX10_settle_56 rfl ?_
  obtain ⟨t5, q6, hf⟩ := bnd hf
  refine x_geti fl_X10_112 X M q6 dX10_settle_57 ?_
  refine lv_iconst (v := (1 : Int32)) X.1 X.2.1 dX10_settle_60 (by decide) ?_
  refine lv_isub X.1 X.2.1 dX10_settle_61 ?_
  obtain ⟨h7, q8, hf⟩ := bnd hf
  refine x_puti fl_X10_112 fp_X10_112.1 fp_X10_112.2 X M q8 dX10_settle_62 (fun H locs M => ?_)
  refine lv_aload_n X.1 X.2.1 dX10_settle_65 rfl (lv_at hl 0 rfl) ?_
  obtain ⟨t9, q10, hf⟩ := bnd hf
  refine x_getr fl_X10_105 X M q10 dX10_settle_66 ?_
  refine lv_aload_n X.1 X.2.1 dX10_settle_69 rfl (lv_at hl 0 rfl) ?_
  obtain ⟨t11, q12, hf⟩ := bnd hf
  refine x_geti fl_X10_112 X M q12 dX10_settle_70 ?_
  refine lv_iconst (v := (1 : Int32)) X.1 X.2.1 dX10_settle_73 (by decide) ?_
  refine lv_isub X.1 X.2.1 dX10_settle_74 ?_
  refine lv_aload_n X.1 X.2.1 dX10_settle_75 rfl (lv_at hl 0 rfl) ?_
  obtain ⟨t13, q14, hf⟩ := bnd hf
  refine x_getr fl_X10_102 X M q14 dX10_settle_76 ?_
  refine lv_aload_n X.1 X.2.1 dX10_settle_79 rfl (lv_at hl 0 rfl) ?_
  obtain ⟨t15, q16, hf⟩ := bnd hf
  refine x_geti fl_X10_109 X M q16 dX10_settle_80 ?_
  obtain ⟨t17, q18, hf⟩ := bnd hf
  refine x_iald X M q18 dX10_settle_83 ?_
  refine lv_bipush (v := (38 : Int32)) X.1 X.2.1 dX10_settle_84 (by decide) ?_
  refine lv_icmp_ne (tgt := 123) X.1 X.2.1 dX10_settle_86 (by decide) (fun c19 => ?_) (fun c19 => ?_)
  · have hf := ifn c19 hf
    refine lv_aload_n X.1 X.2.1 dX10_settle_123 rfl (lv_at hl 0 rfl) ?_
    obtain ⟨t20, q21, hf⟩ := bnd hf
    refine x_getr fl_X10_105 X M q21 dX10_settle_124 ?_
    refine lv_aload_n X.1 X.2.1 dX10_settle_127 rfl (lv_at hl 0 rfl) ?_
    obtain ⟨t22, q23, hf⟩ := bnd hf
    refine x_geti fl_X10_112 X M q23 dX10_settle_128 ?_
    refine lv_iconst (v := (1 : Int32)) X.1 X.2.1 dX10_settle_131 (by decide) ?_
    refine lv_isub X.1 X.2.1 dX10_settle_132 ?_
    obtain ⟨t24, q25, hf⟩ := bnd hf
    refine x_zald X M q25 dX10_settle_133 ?_
    refine lv_if_ne (tgt := 149) X.1 X.2.1 dX10_settle_134 (by decide) (fun c26 => ?_) (fun c26 => ?_)
    · have hf := ifn c26 hf
      exact w_X10_settle_149 X hr hk hL N _ (fun v0 v1 s0 s1 s2 h hf H locs ls M hl => w_X10_settle_154 X hr hk hL N _ K0 v0 v1 s0 s1 s2 h hf H locs ls M hl) v0 v1 t9 (t11 - (1 : Int32)) h7 hf _ _ _ M (lv_sub hl [0, 1] rfl)
    · have hf := ifp c26 hf
      refine lv_aload_n X.1 X.2.1 dX10_settle_137 rfl (lv_at hl 0 rfl) ?_
      obtain ⟨t27, q28, hf⟩ := bnd hf
      refine x_getr fl_X10_105 X M q28 dX10_settle_138 ?_
      refine lv_aload_n X.1 X.2.1 dX10_settle_141 rfl (lv_at hl 0 rfl) ?_
      obtain ⟨t29, q30, hf⟩ := bnd hf
      refine x_geti fl_X10_112 X M q30 dX10_settle_142 ?_
      obtain ⟨t31, q32, hf⟩ := bnd hf
      refine x_zald X M q32 dX10_settle_145 ?_
      refine lv_if_eq (tgt := 153) X.1 X.2.1 dX10_settle_146 (by decide) (fun c33 => ?_) (fun c33 => ?_)
      · have hf := ifp c33 hf
        refine lv_iconst (v := (0 : Int32)) X.1 X.2.1 dX10_settle_153 (by decide) ?_
        exact w_X10_settle_154 X hr hk hL N _ K0 v0 v1 t9 (t11 - (1 : Int32)) (0 : Int32) h7 hf _ _ _ M (lv_sub hl [0, 1] rfl)
      · have hf := ifn c33 hf
        exact w_X10_settle_149 X hr hk hL N _ (fun v0 v1 s0 s1 s2 h hf H locs ls M hl => w_X10_settle_154 X hr hk hL N _ K0 v0 v1 s0 s1 s2 h hf H locs ls M hl) v0 v1 t9 (t11 - (1 : Int32)) h7 hf _ _ _ M (lv_sub hl [0, 1] rfl)
  · have hf := ifp c19 hf
    refine lv_aload_n X.1 X.2.1 dX10_settle_89 rfl (lv_at hl 0 rfl) ?_
    obtain ⟨t34, q35, hf⟩ := bnd hf
    refine x_getr fl_X10_105 X M q35 dX10_settle_90 ?_
    refine lv_aload_n X.1 X.2.1 dX10_settle_93 rfl (lv_at hl 0 rfl) ?_
    obtain ⟨t36, q37, hf⟩ := bnd hf
    refine x_geti fl_X10_112 X M q37 dX10_settle_94 ?_
    refine lv_iconst (v := (1 : Int32)) X.1 X.2.1 dX10_settle_97 (by decide) ?_
    refine lv_isub X.1 X.2.1 dX10_settle_98 ?_
    obtain ⟨t38, q39, hf⟩ := bnd hf
    refine x_zald X M q39 dX10_settle_99 ?_
    refine lv_if_eq (tgt := 119) X.1 X.2.1 dX10_settle_100 (by decide) (fun c40 => ?_) (fun c40 => ?_)
    · have hf := ifp c40 hf
      exact w_X10_settle_119 X hr hk hL N _ (fun v0 v1 s0 s1 s2 h hf H locs ls M hl => w_X10_settle_154 X hr hk hL N _ K0 v0 v1 s0 s1 s2 h hf H locs ls M hl) v0 v1 t9 (t11 - (1 : Int32)) h7 hf _ _ _ M (lv_sub hl [0, 1] rfl)
    · have hf := ifn c40 hf
      refine lv_aload_n X.1 X.2.1 dX10_settle_103 rfl (lv_at hl 0 rfl) ?_
      obtain ⟨t41, q42, hf⟩ := bnd hf
      refine x_getr fl_X10_105 X M q42 dX10_settle_104 ?_
      refine lv_aload_n X.1 X.2.1 dX10_settle_107 rfl (lv_at hl 0 rfl) ?_
      obtain ⟨t43, q44, hf⟩ := bnd hf
      refine x_geti fl_X10_112 X M q44 dX10_settle_108 ?_
      obtain ⟨t45, q46, hf⟩ := bnd hf
      refine x_zald X M q46 dX10_settle_111 ?_
      refine lv_if_eq (tgt := 119) X.1 X.2.1 dX10_settle_112 (by decide) (fun c47 => ?_) (fun c47 => ?_)
      · have hf := ifp c47 hf
        exact w_X10_settle_119 X hr hk hL N _ (fun v0 v1 s0 s1 s2 h hf H locs ls M hl => w_X10_settle_154 X hr hk hL N _ K0 v0 v1 s0 s1 s2 h hf H locs ls M hl) v0 v1 t9 (t11 - (1 : Int32)) h7 hf _ _ _ M (lv_sub hl [0, 1] rfl)
      · have hf := ifn c47 hf
        refine lv_iconst (v := (1 : Int32)) X.1 X.2.1 dX10_settle_115 (by decide) ?_
        refine lv_goto (tgt := 154) X.1 X.2.1 dX10_settle_116 (by decide) ?_
        exact w_X10_settle_154 X hr hk hL N _ K0 v0 v1 t9 (t11 - (1 : Int32)) (1 : Int32) h7 hf _ _ _ M (lv_sub hl [0, 1] rfl)
def f_X10_settle_0 (N : Nat) (n : Nat) (v0 : Nat) (v1 : Int32) (h : Mem) : Option Mem := match n with
  | 0 => none
  | n + 1 =>
    (gI h v0 10 32).bind fun t1 =>
    if t1 ≤ 0 then
      some h
    else
      (gR h v0 10 30).bind fun t4 =>
      (gI h v0 10 32).bind fun t6 =>
      (lI 100 h t4 (t6 - (1 : Int32))).bind fun t8 =>
      if t8 = (38 : Int32) then
        f_X10_settle_45 N v0 v1 h (fun v0 v1 h => f_X10_settle_0 N n v0 v1 h)
      else
        (gR h v0 10 30).bind fun t11 =>
        (gI h v0 10 32).bind fun t13 =>
        (lI 100 h t11 (t13 - (1 : Int32))).bind fun t15 =>
        if t15 = (124 : Int32) then
          if v1 = (38 : Int32) then
            some h
          else
            f_X10_settle_45 N v0 v1 h (fun v0 v1 h => f_X10_settle_0 N n v0 v1 h)
        else
          some h
set_option maxRecDepth 100000 in
set_option maxHeartbeats 4000000 in
theorem w_X10_settle_0 {p : Program} {l : Launch} {e : Env} {s : State} {m : MethodId} {args : Array Value} {below : List Frame} {meth : Method} {c : Code} {G : Gx} {h' : Mem} {L : Nat} (X : CX G p s m args c cX10_settle 2 RX10) (hr : meth.sig.returnType = (Option.none : Option Jvm.ClassFile.FieldType)) (hk : meth.locks = false) (hL : s.heap.size + 0 = gB G + L) (N : Nat) : ∀ (n : Nat) (v0 : Nat) (v1 : Int32) (h : Mem), f_X10_settle_0 N n v0 v1 h = some h' → ∀ (H : Heap) (locs : List Loc) (ls : Array Slot), MS G s h H locs 0 → lv_has ls 2 [(0, .ref (gB G + v0)), (1, .int v1)] → W p l e (rm_X10_settle) s m args below meth c H locs 0 0 (QV G below args s h' L 0 0) (F0 m 0 ls []) := by
  intro n
  induction n with
  | zero =>
    intro v0 v1 h hf
    cases hf
  | succ n ih =>
    intro v0 v1 h hf H locs ls M hl
    rw [f_X10_settle_0] at hf
    refine lv_aload_n X.1 X.2.1 dX10_settle_0 rfl (lv_at hl 0 rfl) ?_
    obtain ⟨t1, q2, hf⟩ := bnd hf
    refine x_geti fl_X10_109 X M q2 dX10_settle_1 ?_
    refine lv_if_le (tgt := 158) X.1 X.2.1 dX10_settle_4 (by decide) (fun c3 => ?_) (fun c3 => ?_)
    · have hf := ifp c3 hf
      obtain rfl := rt1 hf
      exact x_vret X hr hk M hL dX10_settle_158
    · have hf := ifn c3 hf
      refine lv_aload_n X.1 X.2.1 dX10_settle_7 rfl (lv_at hl 0 rfl) ?_
      obtain ⟨t4, q5, hf⟩ := bnd hf
      refine x_getr fl_X10_102 X M q5 dX10_settle_8 ?_
      refine lv_aload_n X.1 X.2.1 dX10_settle_11 rfl (lv_at hl 0 rfl) ?_
      obtain ⟨t6, q7, hf⟩ := bnd hf
      refine x_geti fl_X10_109 X M q7 dX10_settle_12 ?_
      refine lv_iconst (v := (1 : Int32)) X.1 X.2.1 dX10_settle_15 (by decide) ?_
      refine lv_isub X.1 X.2.1 dX10_settle_16 ?_
      obtain ⟨t8, q9, hf⟩ := bnd hf
      refine x_iald X M q9 dX10_settle_17 ?_
      refine lv_bipush (v := (38 : Int32)) X.1 X.2.1 dX10_settle_18 (by decide) ?_
      refine lv_icmp_eq (tgt := 45) X.1 X.2.1 dX10_settle_20 (by decide) (fun c10 => ?_) (fun c10 => ?_)
      · have hf := ifp c10 hf
        exact w_X10_settle_45 X hr hk hL N _ (fun v0 v1 h hf H locs ls M hl => ih v0 v1 h hf H locs ls M hl) v0 v1 h hf _ _ _ M (lv_sub hl [0, 1] rfl)
      · have hf := ifn c10 hf
        refine lv_aload_n X.1 X.2.1 dX10_settle_23 rfl (lv_at hl 0 rfl) ?_
        obtain ⟨t11, q12, hf⟩ := bnd hf
        refine x_getr fl_X10_102 X M q12 dX10_settle_24 ?_
        refine lv_aload_n X.1 X.2.1 dX10_settle_27 rfl (lv_at hl 0 rfl) ?_
        obtain ⟨t13, q14, hf⟩ := bnd hf
        refine x_geti fl_X10_109 X M q14 dX10_settle_28 ?_
        refine lv_iconst (v := (1 : Int32)) X.1 X.2.1 dX10_settle_31 (by decide) ?_
        refine lv_isub X.1 X.2.1 dX10_settle_32 ?_
        obtain ⟨t15, q16, hf⟩ := bnd hf
        refine x_iald X M q16 dX10_settle_33 ?_
        refine lv_bipush (v := (124 : Int32)) X.1 X.2.1 dX10_settle_34 (by decide) ?_
        refine lv_icmp_ne (tgt := 158) X.1 X.2.1 dX10_settle_36 (by decide) (fun c17 => ?_) (fun c17 => ?_)
        · have hf := ifn c17 hf
          obtain rfl := rt1 hf
          exact x_vret X hr hk M hL dX10_settle_158
        · have hf := ifp c17 hf
          refine lv_iload_n X.1 X.2.1 dX10_settle_39 rfl (lv_at hl 1 rfl) ?_
          refine lv_bipush (v := (38 : Int32)) X.1 X.2.1 dX10_settle_40 (by decide) ?_
          refine lv_icmp_eq (tgt := 158) X.1 X.2.1 dX10_settle_42 (by decide) (fun c18 => ?_) (fun c18 => ?_)
          · have hf := ifp c18 hf
            obtain rfl := rt1 hf
            exact x_vret X hr hk M hL dX10_settle_158
          · have hf := ifn c18 hf
            exact w_X10_settle_45 X hr hk hL N _ (fun v0 v1 h hf H locs ls M hl => ih v0 v1 h hf H locs ls M hl) v0 v1 h hf _ _ _ M (lv_sub hl [0, 1] rfl)
def f_X10_settle (N : Nat) (v0 : Nat) (v1 : Int32) (h : Mem) : Option Mem := f_X10_settle_0 N N v0 v1 h
set_option maxRecDepth 100000 in
set_option maxHeartbeats 4000000 in
theorem w_X10_settle {p : Program} {l : Launch} {e : Env} {s : State} {m : MethodId} {args : Array Value} {below : List Frame} {meth : Method} {c : Code} {G : Gx} {h' : Mem} {L : Nat} (X : CX G p s m args c cX10_settle 2 RX10) (hr : meth.sig.returnType = (Option.none : Option Jvm.ClassFile.FieldType)) (hk : meth.locks = false) (hL : s.heap.size + 0 = gB G + L) (N : Nat) : ∀ (v0 : Nat) (v1 : Int32) (h : Mem), f_X10_settle N v0 v1 h = some h' → ∀ (H : Heap) (locs : List Loc) (ls : Array Slot), MS G s h H locs 0 → lv_has ls 2 [(0, .ref (gB G + v0)), (1, .int v1)] → W p l e (rm_X10_settle) s m args below meth c H locs 0 0 (QV G below args s h' L 0 0) (F0 m 0 ls []) := by
  intro v0 v1 h hf H locs ls M hl
  exact w_X10_settle_0 X hr hk hL N N v0 v1 h hf _ _ _ M hl

theorem c_X10_settle (l : Launch) (G : Gx) (N : Nat) (v0 : Nat) (v1 : Int32) (h : Mem) (h' : Mem) (hf : f_X10_settle N v0 v1 h = some h') : MetG l G yX10_settle (.code yX10_settle cX10_settle 2 (Option.none : Option Jvm.ClassFile.FieldType)) rm_X10_settle [.ref (gB G + v0), .int v1] h (QcV G h' (h.1.length + 0)) 0 0 :=
  x_met (by decide) rfl (Nat.le_of_ble_eq_true rfl) (fun p e s m args below meth c ls X M hr hk hin hl => w_X10_settle X hr hk (by have := M.2.2; omega) N v0 v1 h hf _ _ ls M hl)
abbrev rm_X10_takesE : Room := { frames := 5, cells := 0, slots := 0, locals := 127 }
def f_X10_takesE_38 (N : Nat) (v0 : Nat) (v1 : Int32) (v2 : Int32) (h : Mem) (k17 : Nat → Int32 → Mem → Option (Int32 × Mem)) : Option (Int32 × Mem) :=
  (gI h v0 10 34).bind fun t1 =>
  if t1 = (4 : Int32) then
    some ((0 : Int32), h)
  else
    (gI h v0 10 34).bind fun t4 =>
    (sI h v0 10 34 (t4 + (1 : Int32))).bind fun h6 =>
    (gR h6 v0 10 30).bind fun t8 =>
    (gI h6 v0 10 32).bind fun t10 =>
    (stI 100 h6 t8 t10 v2).bind fun h12 =>
    (gI h12 v0 10 32).bind fun t14 =>
    (sI h12 v0 10 32 (t14 + (1 : Int32))).bind fun h16 =>
    (gI h16 v0 10 19).bind fun t18 =>
    (sI h16 v0 10 19 (t18 + (1 : Int32))).bind fun h20 =>
    k17 v0 v1 h20
set_option maxRecDepth 100000 in
set_option maxHeartbeats 4000000 in
theorem w_X10_takesE_38 {p : Program} {l : Launch} {e : Env} {s : State} {m : MethodId} {args : Array Value} {below : List Frame} {meth : Method} {c : Code} {G : Gx} {r : Int32} {h' : Mem} (X : CX G p s m args c cX10_takesE 3 RX10) (hr : meth.sig.returnType = (Option.some Jvm.ClassFile.FieldType.boolean)) (hk : meth.locks = false) (N : Nat) (k17 : Nat → Int32 → Mem → Option (Int32 × Mem)) (K17 : ∀ (v0 : Nat) (v1 : Int32) (h : Mem), k17 v0 v1 h = some (r, h') → ∀ (H : Heap) (locs : List Loc) (ls : Array Slot), MS G s h H locs 0 → lv_has ls 3 [(0, .ref (gB G + v0)), (1, .int v1)] → W p l e (rm_X10_takesE) s m args below meth c H locs 0 0 (QI G below args s r h' 0 0) (F0 m 17 ls [])) : ∀ (v0 : Nat) (v1 : Int32) (v2 : Int32) (h : Mem), f_X10_takesE_38 N v0 v1 v2 h k17 = some (r, h') → ∀ (H : Heap) (locs : List Loc) (ls : Array Slot), MS G s h H locs 0 → lv_has ls 3 [(0, .ref (gB G + v0)), (1, .int v1), (2, .int v2)] → W p l e (rm_X10_takesE) s m args below meth c H locs 0 0 (QI G below args s r h' 0 0) (F0 m 38 ls []) := by
  intro v0 v1 v2 h hf H locs ls M hl
  rw [f_X10_takesE_38] at hf
  refine lv_aload_n X.1 X.2.1 dX10_takesE_38 rfl (lv_at hl 0 rfl) ?_
  obtain ⟨t1, q2, hf⟩ := bnd hf
  refine x_geti fl_X10_115 X M q2 dX10_takesE_39 ?_
  refine lv_iconst (v := (4 : Int32)) X.1 X.2.1 dX10_takesE_42 (by decide) ?_
  refine lv_icmp_ne (tgt := 48) X.1 X.2.1 dX10_takesE_43 (by decide) (fun c3 => ?_) (fun c3 => ?_)
  · have hf := ifn c3 hf
    refine lv_aload_n X.1 X.2.1 dX10_takesE_48 rfl (lv_at hl 0 rfl) ?_
    refine lv_dup X.1 X.2.1 dX10_takesE_49 rfl ?_
    obtain ⟨t4, q5, hf⟩ := bnd hf
    refine x_geti fl_X10_115 X M q5 dX10_takesE_50 ?_
    refine lv_iconst (v := (1 : Int32)) X.1 X.2.1 dX10_takesE_53 (by decide) ?_
    refine lv_iadd X.1 X.2.1 dX10_takesE_54 ?_
    obtain ⟨h6, q7, hf⟩ := bnd hf
    refine x_puti fl_X10_115 fp_X10_115.1 fp_X10_115.2 X M q7 dX10_takesE_55 (fun H locs M => ?_)
    refine lv_aload_n X.1 X.2.1 dX10_takesE_58 rfl (lv_at hl 0 rfl) ?_
    obtain ⟨t8, q9, hf⟩ := bnd hf
    refine x_getr fl_X10_102 X M q9 dX10_takesE_59 ?_
    refine lv_aload_n X.1 X.2.1 dX10_takesE_62 rfl (lv_at hl 0 rfl) ?_
    obtain ⟨t10, q11, hf⟩ := bnd hf
    refine x_geti fl_X10_109 X M q11 dX10_takesE_63 ?_
    refine lv_iload_n X.1 X.2.1 dX10_takesE_66 rfl (lv_at hl 2 rfl) ?_
    obtain ⟨h12, q13, hf⟩ := bnd hf
    refine x_iast X M q13 dX10_takesE_67 (fun H locs M => ?_)
    refine lv_aload_n X.1 X.2.1 dX10_takesE_68 rfl (lv_at hl 0 rfl) ?_
    refine lv_dup X.1 X.2.1 dX10_takesE_69 rfl ?_
    obtain ⟨t14, q15, hf⟩ := bnd hf
    refine x_geti fl_X10_109 X M q15 dX10_takesE_70 ?_
    refine lv_iconst (v := (1 : Int32)) X.1 X.2.1 dX10_takesE_73 (by decide) ?_
    refine lv_iadd X.1 X.2.1 dX10_takesE_74 ?_
    obtain ⟨h16, q17, hf⟩ := bnd hf
    refine x_puti fl_X10_109 fp_X10_109.1 fp_X10_109.2 X M q17 dX10_takesE_75 (fun H locs M => ?_)
    refine lv_aload_n X.1 X.2.1 dX10_takesE_78 rfl (lv_at hl 0 rfl) ?_
    refine lv_dup X.1 X.2.1 dX10_takesE_79 rfl ?_
    obtain ⟨t18, q19, hf⟩ := bnd hf
    refine x_geti fl_X10_68 X M q19 dX10_takesE_80 ?_
    refine lv_iconst (v := (1 : Int32)) X.1 X.2.1 dX10_takesE_83 (by decide) ?_
    refine lv_iadd X.1 X.2.1 dX10_takesE_84 ?_
    obtain ⟨h20, q21, hf⟩ := bnd hf
    refine x_puti fl_X10_68 fp_X10_68.1 fp_X10_68.2 X M q21 dX10_takesE_85 (fun H locs M => ?_)
    refine lv_goto (tgt := 17) X.1 X.2.1 dX10_takesE_88 (by decide) ?_
    exact K17 v0 v1 h20 hf _ _ _ M (lv_sub hl [0, 1] rfl)
  · have hf := ifp c3 hf
    refine lv_iconst (v := (0 : Int32)) X.1 X.2.1 dX10_takesE_46 (by decide) ?_
    obtain ⟨rfl, rfl⟩ := rt2 hf
    exact x_zret X hr hk rfl M dX10_takesE_47
def f_X10_takesE_117 (N : Nat) (v0 : Nat) (v2 : Int32) (h : Mem) (k17 : Nat → Int32 → Mem → Option (Int32 × Mem)) : Option (Int32 × Mem) :=
  (ck h v0 10).bind fun _ =>
  (f_X10_settle N v0 v2 h).bind fun h3 =>
  (gR h3 v0 10 30).bind fun t4 =>
  (gI h3 v0 10 32).bind fun t6 =>
  (stI 100 h3 t4 t6 v2).bind fun h8 =>
  (gI h8 v0 10 32).bind fun t10 =>
  (sI h8 v0 10 32 (t10 + (1 : Int32))).bind fun h12 =>
  (gI h12 v0 10 19).bind fun t14 =>
  (sI h12 v0 10 19 (t14 + (1 : Int32))).bind fun h16 =>
  k17 v0 (1 : Int32) h16
set_option maxRecDepth 100000 in
set_option maxHeartbeats 4000000 in
theorem w_X10_takesE_117 {p : Program} {l : Launch} {e : Env} {s : State} {m : MethodId} {args : Array Value} {below : List Frame} {meth : Method} {c : Code} {G : Gx} {r : Int32} {h' : Mem} (X : CX G p s m args c cX10_takesE 3 RX10) (hr : meth.sig.returnType = (Option.some Jvm.ClassFile.FieldType.boolean)) (hk : meth.locks = false) (N : Nat) (k17 : Nat → Int32 → Mem → Option (Int32 × Mem)) (K17 : ∀ (v0 : Nat) (v1 : Int32) (h : Mem), k17 v0 v1 h = some (r, h') → ∀ (H : Heap) (locs : List Loc) (ls : Array Slot), MS G s h H locs 0 → lv_has ls 3 [(0, .ref (gB G + v0)), (1, .int v1)] → W p l e (rm_X10_takesE) s m args below meth c H locs 0 0 (QI G below args s r h' 0 0) (F0 m 17 ls [])) : ∀ (v0 : Nat) (v2 : Int32) (h : Mem), f_X10_takesE_117 N v0 v2 h k17 = some (r, h') → ∀ (H : Heap) (locs : List Loc) (ls : Array Slot), MS G s h H locs 0 → lv_has ls 3 [(0, .ref (gB G + v0)), (2, .int v2)] → W p l e (rm_X10_takesE) s m args below meth c H locs 0 0 (QI G below args s r h' 0 0) (F0 m 117 ls []) := by
  intro v0 v2 h hf H locs ls M hl
  rw [f_X10_takesE_117] at hf
  refine lv_aload_n X.1 X.2.1 dX10_takesE_117 rfl (lv_at hl 0 rfl) ?_
  refine lv_iload_n X.1 X.2.1 dX10_takesE_118 rfl (lv_at hl 1 rfl) ?_
  obtain ⟨⟨⟩, q1, hf⟩ := bnd hf
  obtain ⟨h3, q2, hf⟩ := bnd hf
  refine x_callVv (As := [.int v2]) cf_X10_253 (c_X10_settle l G N v0 v2 h _ q2) rfl ⟨rfl, rfl, Nat.le_of_ble_eq_true rfl, Nat.le_of_ble_eq_true rfl⟩ ⟨Nat.le_of_ble_eq_true rfl, Nat.le_of_ble_eq_true rfl⟩ X M (x_recv cls_X10 X M q1) rfl rfl hl.1 (Nat.le_of_ble_eq_true rfl) dX10_takesE_119 (fun H locs M => ?_)
  refine lv_aload_n X.1 X.2.1 dX10_takesE_122 rfl (lv_at hl 0 rfl) ?_
  obtain ⟨t4, q5, hf⟩ := bnd hf
  refine x_getr fl_X10_102 X M q5 dX10_takesE_123 ?_
  refine lv_aload_n X.1 X.2.1 dX10_takesE_126 rfl (lv_at hl 0 rfl) ?_
  obtain ⟨t6, q7, hf⟩ := bnd hf
  refine x_geti fl_X10_109 X M q7 dX10_takesE_127 ?_
  refine lv_iload_n X.1 X.2.1 dX10_takesE_130 rfl (lv_at hl 1 rfl) ?_
  obtain ⟨h8, q9, hf⟩ := bnd hf
  refine x_iast X M q9 dX10_takesE_131 (fun H locs M => ?_)
  refine lv_aload_n X.1 X.2.1 dX10_takesE_132 rfl (lv_at hl 0 rfl) ?_
  refine lv_dup X.1 X.2.1 dX10_takesE_133 rfl ?_
  obtain ⟨t10, q11, hf⟩ := bnd hf
  refine x_geti fl_X10_109 X M q11 dX10_takesE_134 ?_
  refine lv_iconst (v := (1 : Int32)) X.1 X.2.1 dX10_takesE_137 (by decide) ?_
  refine lv_iadd X.1 X.2.1 dX10_takesE_138 ?_
  obtain ⟨h12, q13, hf⟩ := bnd hf
  refine x_puti fl_X10_109 fp_X10_109.1 fp_X10_109.2 X M q13 dX10_takesE_139 (fun H locs M => ?_)
  refine lv_iconst (v := (1 : Int32)) X.1 X.2.1 dX10_takesE_142 (by decide) ?_
  refine lv_istore_n (lv' := [(1, .int (1 : Int32)), (0, .ref (gB G + v0)), (2, .int v2)]) X.1 X.2.1 dX10_takesE_143 rfl hl (by decide) rfl (fun ls hl => ?_)
  refine lv_aload_n X.1 X.2.1 dX10_takesE_144 rfl (lv_at hl 1 rfl) ?_
  refine lv_dup X.1 X.2.1 dX10_takesE_145 rfl ?_
  obtain ⟨t14, q15, hf⟩ := bnd hf
  refine x_geti fl_X10_68 X M q15 dX10_takesE_146 ?_
  refine lv_iconst (v := (1 : Int32)) X.1 X.2.1 dX10_takesE_149 (by decide) ?_
  refine lv_iadd X.1 X.2.1 dX10_takesE_150 ?_
  obtain ⟨h16, q17, hf⟩ := bnd hf
  refine x_puti fl_X10_68 fp_X10_68.1 fp_X10_68.2 X M q17 dX10_takesE_151 (fun H locs M => ?_)
  refine lv_goto (tgt := 17) X.1 X.2.1 dX10_takesE_154 (by decide) ?_
  exact K17 v0 (1 : Int32) h16 hf _ _ _ M (lv_sub hl [1, 0] rfl)
def f_X10_takesE_17 (N : Nat) (n : Nat) (v0 : Nat) (v1 : Int32) (h : Mem) : Option (Int32 × Mem) := match n with
  | 0 => none
  | n + 1 =>
    (ck h v0 10).bind fun _ =>
    b2 (f_X10_next N v0 h) fun t4 h3 =>
    if v1 = 0 then
      if t4 = (38 : Int32) then
        f_X10_takesE_117 N v0 t4 h3 (fun v0 v1 h => f_X10_takesE_17 N n v0 v1 h)
      else
        if t4 = (124 : Int32) then
          f_X10_takesE_117 N v0 t4 h3 (fun v0 v1 h => f_X10_takesE_17 N n v0 v1 h)
        else
          (ck h3 v0 10).bind fun _ =>
          (f_X10_settle N v0 (124 : Int32) h3).bind fun h10 =>
          (gI h10 v0 10 32).bind fun t11 =>
          if t11 = 0 then
            some ((1 : Int32), h10)
          else
            if t4 = (41 : Int32) then
              (gI h10 v0 10 32).bind fun t15 =>
              (sI h10 v0 10 32 (t15 - (1 : Int32))).bind fun h17 =>
              (gI h17 v0 10 34).bind fun t19 =>
              (sI h17 v0 10 34 (t19 - (1 : Int32))).bind fun h21 =>
              (gI h21 v0 10 33).bind fun t23 =>
              (sI h21 v0 10 33 (t23 - (1 : Int32))).bind fun h25 =>
              (gI h25 v0 10 19).bind fun t27 =>
              (sI h25 v0 10 19 (t27 + (1 : Int32))).bind fun h29 =>
              (gR h29 v0 10 31).bind fun t31 =>
              (gI h29 v0 10 33).bind fun t33 =>
              (lI 102 h29 t31 t33).bind fun t35 =>
              (ck h29 v0 10).bind fun _ =>
              (f_X10_push N v0 t35 h29).bind fun h39 =>
              f_X10_takesE_17 N n v0 v1 h39
            else
              some ((0 : Int32), h10)
    else
      if t4 = (33 : Int32) then
        f_X10_takesE_38 N v0 v1 t4 h3 (fun v0 v1 h => f_X10_takesE_17 N n v0 v1 h)
      else
        if t4 = (40 : Int32) then
          f_X10_takesE_38 N v0 v1 t4 h3 (fun v0 v1 h => f_X10_takesE_17 N n v0 v1 h)
        else
          (ck h3 v0 10).bind fun _ =>
          b2 (f_X10_takesTest N v0 h3) fun t45 h44 =>
          if t45 = 0 then
            some ((0 : Int32), h44)
          else
            f_X10_takesE_17 N n v0 (0 : Int32) h44
set_option maxRecDepth 100000 in
set_option maxHeartbeats 4000000 in
theorem w_X10_takesE_17 {p : Program} {l : Launch} {e : Env} {s : State} {m : MethodId} {args : Array Value} {below : List Frame} {meth : Method} {c : Code} {G : Gx} {r : Int32} {h' : Mem} (X : CX G p s m args c cX10_takesE 3 RX10) (hr : meth.sig.returnType = (Option.some Jvm.ClassFile.FieldType.boolean)) (hk : meth.locks = false) (N : Nat) : ∀ (n : Nat) (v0 : Nat) (v1 : Int32) (h : Mem), f_X10_takesE_17 N n v0 v1 h = some (r, h') → ∀ (H : Heap) (locs : List Loc) (ls : Array Slot), MS G s h H locs 0 → lv_has ls 3 [(0, .ref (gB G + v0)), (1, .int v1)] → W p l e (rm_X10_takesE) s m args below meth c H locs 0 0 (QI G below args s r h' 0 0) (F0 m 17 ls []) := by
  intro n
  induction n with
  | zero =>
    intro v0 v1 h hf
    cases hf
  | succ n ih =>
    intro v0 v1 h hf H locs ls M hl
    rw [f_X10_takesE_17] at hf
    refine lv_aload_n X.1 X.2.1 dX10_takesE_17 rfl (lv_at hl 0 rfl) ?_
    obtain ⟨⟨⟩, q1, hf⟩ := bnd hf
    obtain ⟨t4, h3, q2, hf⟩ := bnd2 hf
    refine x_callVi (As := []) cf_X10_232 (c_X10_next l G N v0 h _ _ q2) rfl ⟨rfl, rfl, Nat.le_of_ble_eq_true rfl, Nat.le_of_ble_eq_true rfl⟩ ⟨Nat.le_of_ble_eq_true rfl, Nat.le_of_ble_eq_true rfl⟩ X M (x_recv cls_X10 X M q1) rfl rfl hl.1 (Nat.le_of_ble_eq_true rfl) dX10_takesE_18 (fun H locs M => ?_)
    refine lv_istore_n (lv' := [(2, .int t4), (0, .ref (gB G + v0)), (1, .int v1)]) X.1 X.2.1 dX10_takesE_21 rfl hl (by decide) rfl (fun ls hl => ?_)
    refine lv_iload_n X.1 X.2.1 dX10_takesE_22 rfl (lv_at hl 2 rfl) ?_
    refine lv_if_eq (tgt := 105) X.1 X.2.1 dX10_takesE_23 (by decide) (fun c5 => ?_) (fun c5 => ?_)
    · have hf := ifp c5 hf
      refine lv_iload_n X.1 X.2.1 dX10_takesE_105 rfl (lv_at hl 0 rfl) ?_
      refine lv_bipush (v := (38 : Int32)) X.1 X.2.1 dX10_takesE_106 (by decide) ?_
      refine lv_icmp_eq (tgt := 117) X.1 X.2.1 dX10_takesE_108 (by decide) (fun c6 => ?_) (fun c6 => ?_)
      · have hf := ifp c6 hf
        exact w_X10_takesE_117 X hr hk N _ (fun v0 v1 h hf H locs ls M hl => ih v0 v1 h hf H locs ls M hl) v0 t4 h3 hf _ _ _ M (lv_sub hl [1, 0] rfl)
      · have hf := ifn c6 hf
        refine lv_iload_n X.1 X.2.1 dX10_takesE_111 rfl (lv_at hl 0 rfl) ?_
        refine lv_bipush (v := (124 : Int32)) X.1 X.2.1 dX10_takesE_112 (by decide) ?_
        refine lv_icmp_ne (tgt := 157) X.1 X.2.1 dX10_takesE_114 (by decide) (fun c7 => ?_) (fun c7 => ?_)
        · have hf := ifn c7 hf
          refine lv_aload_n X.1 X.2.1 dX10_takesE_157 rfl (lv_at hl 1 rfl) ?_
          refine lv_bipush (v := (124 : Int32)) X.1 X.2.1 dX10_takesE_158 (by decide) ?_
          obtain ⟨⟨⟩, q8, hf⟩ := bnd hf
          obtain ⟨h10, q9, hf⟩ := bnd hf
          refine x_callVv (As := [.int (124 : Int32)]) cf_X10_253 (c_X10_settle l G N v0 (124 : Int32) h3 _ q9) rfl ⟨rfl, rfl, Nat.le_of_ble_eq_true rfl, Nat.le_of_ble_eq_true rfl⟩ ⟨Nat.le_of_ble_eq_true rfl, Nat.le_of_ble_eq_true rfl⟩ X M (x_recv cls_X10 X M q8) rfl rfl hl.1 (Nat.le_of_ble_eq_true rfl) dX10_takesE_160 (fun H locs M => ?_)
          refine lv_aload_n X.1 X.2.1 dX10_takesE_163 rfl (lv_at hl 1 rfl) ?_
          obtain ⟨t11, q12, hf⟩ := bnd hf
          refine x_geti fl_X10_109 X M q12 dX10_takesE_164 ?_
          refine lv_if_ne (tgt := 172) X.1 X.2.1 dX10_takesE_167 (by decide) (fun c13 => ?_) (fun c13 => ?_)
          · have hf := ifn c13 hf
            refine lv_iload_n X.1 X.2.1 dX10_takesE_172 rfl (lv_at hl 0 rfl) ?_
            refine lv_bipush (v := (41 : Int32)) X.1 X.2.1 dX10_takesE_173 (by decide) ?_
            refine lv_icmp_eq (tgt := 180) X.1 X.2.1 dX10_takesE_175 (by decide) (fun c14 => ?_) (fun c14 => ?_)
            · have hf := ifp c14 hf
              refine lv_aload_n X.1 X.2.1 dX10_takesE_180 rfl (lv_at hl 1 rfl) ?_
              refine lv_dup X.1 X.2.1 dX10_takesE_181 rfl ?_
              obtain ⟨t15, q16, hf⟩ := bnd hf
              refine x_geti fl_X10_109 X M q16 dX10_takesE_182 ?_
              refine lv_iconst (v := (1 : Int32)) X.1 X.2.1 dX10_takesE_185 (by decide) ?_
              refine lv_isub X.1 X.2.1 dX10_takesE_186 ?_
              obtain ⟨h17, q18, hf⟩ := bnd hf
              refine x_puti fl_X10_109 fp_X10_109.1 fp_X10_109.2 X M q18 dX10_takesE_187 (fun H locs M => ?_)
              refine lv_aload_n X.1 X.2.1 dX10_takesE_190 rfl (lv_at hl 1 rfl) ?_
              refine lv_dup X.1 X.2.1 dX10_takesE_191 rfl ?_
              obtain ⟨t19, q20, hf⟩ := bnd hf
              refine x_geti fl_X10_115 X M q20 dX10_takesE_192 ?_
              refine lv_iconst (v := (1 : Int32)) X.1 X.2.1 dX10_takesE_195 (by decide) ?_
              refine lv_isub X.1 X.2.1 dX10_takesE_196 ?_
              obtain ⟨h21, q22, hf⟩ := bnd hf
              refine x_puti fl_X10_115 fp_X10_115.1 fp_X10_115.2 X M q22 dX10_takesE_197 (fun H locs M => ?_)
              refine lv_aload_n X.1 X.2.1 dX10_takesE_200 rfl (lv_at hl 1 rfl) ?_
              refine lv_dup X.1 X.2.1 dX10_takesE_201 rfl ?_
              obtain ⟨t23, q24, hf⟩ := bnd hf
              refine x_geti fl_X10_112 X M q24 dX10_takesE_202 ?_
              refine lv_iconst (v := (1 : Int32)) X.1 X.2.1 dX10_takesE_205 (by decide) ?_
              refine lv_isub X.1 X.2.1 dX10_takesE_206 ?_
              obtain ⟨h25, q26, hf⟩ := bnd hf
              refine x_puti fl_X10_112 fp_X10_112.1 fp_X10_112.2 X M q26 dX10_takesE_207 (fun H locs M => ?_)
              refine lv_aload_n X.1 X.2.1 dX10_takesE_210 rfl (lv_at hl 1 rfl) ?_
              refine lv_dup X.1 X.2.1 dX10_takesE_211 rfl ?_
              obtain ⟨t27, q28, hf⟩ := bnd hf
              refine x_geti fl_X10_68 X M q28 dX10_takesE_212 ?_
              refine lv_iconst (v := (1 : Int32)) X.1 X.2.1 dX10_takesE_215 (by decide) ?_
              refine lv_iadd X.1 X.2.1 dX10_takesE_216 ?_
              obtain ⟨h29, q30, hf⟩ := bnd hf
              refine x_puti fl_X10_68 fp_X10_68.1 fp_X10_68.2 X M q30 dX10_takesE_217 (fun H locs M => ?_)
              refine lv_aload_n X.1 X.2.1 dX10_takesE_220 rfl (lv_at hl 1 rfl) ?_
              refine lv_aload_n X.1 X.2.1 dX10_takesE_221 rfl (lv_at hl 1 rfl) ?_
              obtain ⟨t31, q32, hf⟩ := bnd hf
              refine x_getr fl_X10_105 X M q32 dX10_takesE_222 ?_
              refine lv_aload_n X.1 X.2.1 dX10_takesE_225 rfl (lv_at hl 1 rfl) ?_
              obtain ⟨t33, q34, hf⟩ := bnd hf
              refine x_geti fl_X10_112 X M q34 dX10_takesE_226 ?_
              obtain ⟨t35, q36, hf⟩ := bnd hf
              refine x_zald X M q36 dX10_takesE_229 ?_
              obtain ⟨⟨⟩, q37, hf⟩ := bnd hf
              obtain ⟨h39, q38, hf⟩ := bnd hf
              refine x_callVv (As := [.int t35]) cf_X10_246 (c_X10_push l G N v0 t35 h29 _ q38) rfl ⟨rfl, rfl, Nat.le_of_ble_eq_true rfl, Nat.le_of_ble_eq_true rfl⟩ ⟨Nat.le_of_ble_eq_true rfl, Nat.le_of_ble_eq_true rfl⟩ X M (x_recv cls_X10 X M q37) rfl rfl hl.1 (Nat.le_of_ble_eq_true rfl) dX10_takesE_230 (fun H locs M => ?_)
              refine lv_goto (tgt := 17) X.1 X.2.1 dX10_takesE_233 (by decide) ?_
              exact ih v0 v1 h39 hf _ _ _ M (lv_sub hl [1, 2] rfl)
            · have hf := ifn c14 hf
              refine lv_iconst (v := (0 : Int32)) X.1 X.2.1 dX10_takesE_178 (by decide) ?_
              obtain ⟨rfl, rfl⟩ := rt2 hf
              exact x_zret X hr hk rfl M dX10_takesE_179
          · have hf := ifp c13 hf
            refine lv_iconst (v := (1 : Int32)) X.1 X.2.1 dX10_takesE_170 (by decide) ?_
            obtain ⟨rfl, rfl⟩ := rt2 hf
            exact x_zret X hr hk rfl M dX10_takesE_171
        · have hf := ifp c7 hf
          exact w_X10_takesE_117 X hr hk N _ (fun v0 v1 h hf H locs ls M hl => ih v0 v1 h hf H locs ls M hl) v0 t4 h3 hf _ _ _ M (lv_sub hl [1, 0] rfl)
    · have hf := ifn c5 hf
      refine lv_iload_n X.1 X.2.1 dX10_takesE_26 rfl (lv_at hl 0 rfl) ?_
      refine lv_bipush (v := (33 : Int32)) X.1 X.2.1 dX10_takesE_27 (by decide) ?_
      refine lv_icmp_eq (tgt := 38) X.1 X.2.1 dX10_takesE_29 (by decide) (fun c40 => ?_) (fun c40 => ?_)
      · have hf := ifp c40 hf
        exact w_X10_takesE_38 X hr hk N _ (fun v0 v1 h hf H locs ls M hl => ih v0 v1 h hf H locs ls M hl) v0 v1 t4 h3 hf _ _ _ M (lv_sub hl [1, 2, 0] rfl)
      · have hf := ifn c40 hf
        refine lv_iload_n X.1 X.2.1 dX10_takesE_32 rfl (lv_at hl 0 rfl) ?_
        refine lv_bipush (v := (40 : Int32)) X.1 X.2.1 dX10_takesE_33 (by decide) ?_
        refine lv_icmp_ne (tgt := 91) X.1 X.2.1 dX10_takesE_35 (by decide) (fun c41 => ?_) (fun c41 => ?_)
        · have hf := ifn c41 hf
          refine lv_aload_n X.1 X.2.1 dX10_takesE_91 rfl (lv_at hl 1 rfl) ?_
          obtain ⟨⟨⟩, q42, hf⟩ := bnd hf
          obtain ⟨t45, h44, q43, hf⟩ := bnd2 hf
          refine x_callVi (As := []) cf_X10_250 (c_X10_takesTest l G N v0 h3 _ _ q43) rfl ⟨rfl, rfl, Nat.le_of_ble_eq_true rfl, Nat.le_of_ble_eq_true rfl⟩ ⟨Nat.le_of_ble_eq_true rfl, Nat.le_of_ble_eq_true rfl⟩ X M (x_recv cls_X10 X M q42) rfl rfl hl.1 (Nat.le_of_ble_eq_true rfl) dX10_takesE_92 (fun H locs M => ?_)
          refine lv_if_eq (tgt := 103) X.1 X.2.1 dX10_takesE_95 (by decide) (fun c46 => ?_) (fun c46 => ?_)
          · have hf := ifp c46 hf
            refine lv_iconst (v := (0 : Int32)) X.1 X.2.1 dX10_takesE_103 (by decide) ?_
            obtain ⟨rfl, rfl⟩ := rt2 hf
            exact x_zret X hr hk rfl M dX10_takesE_104
          · have hf := ifn c46 hf
            refine lv_iconst (v := (0 : Int32)) X.1 X.2.1 dX10_takesE_98 (by decide) ?_
            refine lv_istore_n (lv' := [(1, .int (0 : Int32)), (2, .int t4), (0, .ref (gB G + v0))]) X.1 X.2.1 dX10_takesE_99 rfl hl (by decide) rfl (fun ls hl => ?_)
            refine lv_goto (tgt := 17) X.1 X.2.1 dX10_takesE_100 (by decide) ?_
            exact ih v0 (0 : Int32) h44 hf _ _ _ M (lv_sub hl [2, 0] rfl)
        · have hf := ifp c41 hf
          exact w_X10_takesE_38 X hr hk N _ (fun v0 v1 h hf H locs ls M hl => ih v0 v1 h hf H locs ls M hl) v0 v1 t4 h3 hf _ _ _ M (lv_sub hl [1, 2, 0] rfl)
def f_X10_takesE (N : Nat) (v0 : Nat) (h : Mem) : Option (Int32 × Mem) :=
  (sI h v0 10 32 (0 : Int32)).bind fun h1 =>
  (sI h1 v0 10 33 (0 : Int32)).bind fun h3 =>
  (sI h3 v0 10 34 (0 : Int32)).bind fun h5 =>
  f_X10_takesE_17 N N v0 (1 : Int32) h5
set_option maxRecDepth 100000 in
set_option maxHeartbeats 4000000 in
theorem w_X10_takesE {p : Program} {l : Launch} {e : Env} {s : State} {m : MethodId} {args : Array Value} {below : List Frame} {meth : Method} {c : Code} {G : Gx} {r : Int32} {h' : Mem} (X : CX G p s m args c cX10_takesE 3 RX10) (hr : meth.sig.returnType = (Option.some Jvm.ClassFile.FieldType.boolean)) (hk : meth.locks = false) (N : Nat) : ∀ (v0 : Nat) (h : Mem), f_X10_takesE N v0 h = some (r, h') → ∀ (H : Heap) (locs : List Loc) (ls : Array Slot), MS G s h H locs 0 → lv_has ls 3 [(0, .ref (gB G + v0))] → W p l e (rm_X10_takesE) s m args below meth c H locs 0 0 (QI G below args s r h' 0 0) (F0 m 0 ls []) := by
  intro v0 h hf H locs ls M hl
  rw [f_X10_takesE] at hf
  refine lv_aload_n X.1 X.2.1 dX10_takesE_0 rfl (lv_at hl 0 rfl) ?_
  refine lv_iconst (v := (0 : Int32)) X.1 X.2.1 dX10_takesE_1 (by decide) ?_
  obtain ⟨h1, q2, hf⟩ := bnd hf
  refine x_puti fl_X10_109 fp_X10_109.1 fp_X10_109.2 X M q2 dX10_takesE_2 (fun H locs M => ?_)
  refine lv_aload_n X.1 X.2.1 dX10_takesE_5 rfl (lv_at hl 0 rfl) ?_
  refine lv_iconst (v := (0 : Int32)) X.1 X.2.1 dX10_takesE_6 (by decide) ?_
  obtain ⟨h3, q4, hf⟩ := bnd hf
  refine x_puti fl_X10_112 fp_X10_112.1 fp_X10_112.2 X M q4 dX10_takesE_7 (fun H locs M => ?_)
  refine lv_aload_n X.1 X.2.1 dX10_takesE_10 rfl (lv_at hl 0 rfl) ?_
  refine lv_iconst (v := (0 : Int32)) X.1 X.2.1 dX10_takesE_11 (by decide) ?_
  obtain ⟨h5, q6, hf⟩ := bnd hf
  refine x_puti fl_X10_115 fp_X10_115.1 fp_X10_115.2 X M q6 dX10_takesE_12 (fun H locs M => ?_)
  refine lv_iconst (v := (1 : Int32)) X.1 X.2.1 dX10_takesE_15 (by decide) ?_
  refine lv_istore_n (lv' := [(1, .int (1 : Int32)), (0, .ref (gB G + v0))]) X.1 X.2.1 dX10_takesE_16 rfl hl (by decide) rfl (fun ls hl => ?_)
  exact w_X10_takesE_17 X hr hk N N v0 (1 : Int32) h5 hf _ _ _ M (lv_sub hl [1, 0] rfl)
theorem c_X10_takesE (l : Launch) (G : Gx) (N : Nat) (v0 : Nat) (h : Mem) (r : Int32) (h' : Mem) (hf : f_X10_takesE N v0 h = some (r, h')) : MetG l G yX10_takesE (.code yX10_takesE cX10_takesE 3 (Option.some Jvm.ClassFile.FieldType.boolean)) rm_X10_takesE [.ref (gB G + v0)] h (QcI G r h') 0 0 :=
  x_met (by decide) rfl (Nat.le_of_ble_eq_true rfl) (fun p e s m args below meth c ls X M hr hk hin hl => w_X10_takesE X hr hk N v0 h hf _ _ ls M hl)
abbrev rm_X10_takesShun : Room := { frames := 6, cells := 0, slots := 0, locals := 149 }
def f_X10_takesShun (N : Nat) (v0 : Nat) (h : Mem) : Option (Int32 × Mem) :=
  (ck h v0 10).bind fun _ =>
  b2 (f_X10_takesWord N v0 (631470 : Int32) (4 : Int32) h) fun t4 h3 =>
  if t4 = 0 then
    some ((0 : Int32), h3)
  else
    (ck h3 v0 10).bind fun _ =>
    b2 (f_X10_takesE N v0 h3) fun t9 h8 =>
    if t9 = 0 then
      some ((0 : Int32), h8)
    else
      (ck h8 v0 10).bind fun _ =>
      b2 (f_X10_takes N v0 (32 : Int32) h8) fun t14 h13 =>
      if t14 = 0 then
        some ((0 : Int32), h13)
      else
        (ck h13 v0 10).bind fun _ =>
        b2 (f_X10_takesNumber N v0 h13) fun t19 h18 =>
        if t19 = 0 then
          some ((0 : Int32), h18)
        else
          (gR h18 v0 10 31).bind fun t21 =>
          (lI 102 h18 t21 (0 : Int32)).bind fun t23 =>
          if t23 = 0 then
            some ((1 : Int32), h18)
          else
            (gI h18 v0 10 21).bind fun t26 =>
            (gI h18 v0 10 20).bind fun t28 =>
            (sI h18 v0 10 21 (t26 + t28)).bind fun h30 =>
            some ((1 : Int32), h30)
set_option maxRecDepth 100000 in
set_option maxHeartbeats 4000000 in
theorem w_X10_takesShun {p : Program} {l : Launch} {e : Env} {s : State} {m : MethodId} {args : Array Value} {below : List Frame} {meth : Method} {c : Code} {G : Gx} {r : Int32} {h' : Mem} (X : CX G p s m args c cX10_takesShun 1 RX10) (hr : meth.sig.returnType = (Option.some Jvm.ClassFile.FieldType.boolean)) (hk : meth.locks = false) (N : Nat) : ∀ (v0 : Nat) (h : Mem), f_X10_takesShun N v0 h = some (r, h') → ∀ (H : Heap) (locs : List Loc) (ls : Array Slot), MS G s h H locs 0 → lv_has ls 1 [(0, .ref (gB G + v0))] → W p l e (rm_X10_takesShun) s m args below meth c H locs 0 0 (QI G below args s r h' 0 0) (F0 m 0 ls []) := by
  intro v0 h hf H locs ls M hl
  rw [f_X10_takesShun] at hf
  refine lv_aload_n X.1 X.2.1 dX10_takesShun_0 rfl (lv_at hl 0 rfl) ?_
  refine lv_ldcw X.1 X.2.1 X.2.2.2.1 (X.2.2.2.2.1 _ k_1242) dX10_takesShun_1 ?_
  refine lv_iconst (v := (4 : Int32)) X.1 X.2.1 dX10_takesShun_4 (by decide) ?_
  obtain ⟨⟨⟩, q1, hf⟩ := bnd hf
  obtain ⟨t4, h3, q2, hf⟩ := bnd2 hf
  refine x_callVi (As := [.int (631470 : Int32), .int (4 : Int32)]) cf_X10_261 (c_X10_takesWord l G N v0 (631470 : Int32) (4 : Int32) h _ _ q2) rfl ⟨rfl, rfl, Nat.le_of_ble_eq_true rfl, Nat.le_of_ble_eq_true rfl⟩ ⟨Nat.le_of_ble_eq_true rfl, Nat.le_of_ble_eq_true rfl⟩ X M (x_recv cls_X10 X M q1) rfl rfl hl.1 (Nat.le_of_ble_eq_true rfl) dX10_takesShun_5 (fun H locs M => ?_)
  refine lv_if_eq (tgt := 34) X.1 X.2.1 dX10_takesShun_8 (by decide) (fun c5 => ?_) (fun c5 => ?_)
  · have hf := ifp c5 hf
    refine lv_iconst (v := (0 : Int32)) X.1 X.2.1 dX10_takesShun_34 (by decide) ?_
    obtain ⟨rfl, rfl⟩ := rt2 hf
    exact x_zret X hr hk rfl M dX10_takesShun_35
  · have hf := ifn c5 hf
    refine lv_aload_n X.1 X.2.1 dX10_takesShun_11 rfl (lv_at hl 0 rfl) ?_
    obtain ⟨⟨⟩, q6, hf⟩ := bnd hf
    obtain ⟨t9, h8, q7, hf⟩ := bnd2 hf
    refine x_callVi (As := []) cf_X10_266 (c_X10_takesE l G N v0 h3 _ _ q7) rfl ⟨rfl, rfl, Nat.le_of_ble_eq_true rfl, Nat.le_of_ble_eq_true rfl⟩ ⟨Nat.le_of_ble_eq_true rfl, Nat.le_of_ble_eq_true rfl⟩ X M (x_recv cls_X10 X M q6) rfl rfl hl.1 (Nat.le_of_ble_eq_true rfl) dX10_takesShun_12 (fun H locs M => ?_)
    refine lv_if_eq (tgt := 34) X.1 X.2.1 dX10_takesShun_15 (by decide) (fun c10 => ?_) (fun c10 => ?_)
    · have hf := ifp c10 hf
      refine lv_iconst (v := (0 : Int32)) X.1 X.2.1 dX10_takesShun_34 (by decide) ?_
      obtain ⟨rfl, rfl⟩ := rt2 hf
      exact x_zret X hr hk rfl M dX10_takesShun_35
    · have hf := ifn c10 hf
      refine lv_aload_n X.1 X.2.1 dX10_takesShun_18 rfl (lv_at hl 0 rfl) ?_
      refine lv_bipush (v := (32 : Int32)) X.1 X.2.1 dX10_takesShun_19 (by decide) ?_
      obtain ⟨⟨⟩, q11, hf⟩ := bnd hf
      obtain ⟨t14, h13, q12, hf⟩ := bnd2 hf
      refine x_callVi (As := [.int (32 : Int32)]) cf_X10_236 (c_X10_takes l G N v0 (32 : Int32) h8 _ _ q12) rfl ⟨rfl, rfl, Nat.le_of_ble_eq_true rfl, Nat.le_of_ble_eq_true rfl⟩ ⟨Nat.le_of_ble_eq_true rfl, Nat.le_of_ble_eq_true rfl⟩ X M (x_recv cls_X10 X M q11) rfl rfl hl.1 (Nat.le_of_ble_eq_true rfl) dX10_takesShun_21 (fun H locs M => ?_)
      refine lv_if_eq (tgt := 34) X.1 X.2.1 dX10_takesShun_24 (by decide) (fun c15 => ?_) (fun c15 => ?_)
      · have hf := ifp c15 hf
        refine lv_iconst (v := (0 : Int32)) X.1 X.2.1 dX10_takesShun_34 (by decide) ?_
        obtain ⟨rfl, rfl⟩ := rt2 hf
        exact x_zret X hr hk rfl M dX10_takesShun_35
      · have hf := ifn c15 hf
        refine lv_aload_n X.1 X.2.1 dX10_takesShun_27 rfl (lv_at hl 0 rfl) ?_
        obtain ⟨⟨⟩, q16, hf⟩ := bnd hf
        obtain ⟨t19, h18, q17, hf⟩ := bnd2 hf
        refine x_callVi (As := []) cf_X10_243 (c_X10_takesNumber l G N v0 h13 _ _ q17) rfl ⟨rfl, rfl, Nat.le_of_ble_eq_true rfl, Nat.le_of_ble_eq_true rfl⟩ ⟨Nat.le_of_ble_eq_true rfl, Nat.le_of_ble_eq_true rfl⟩ X M (x_recv cls_X10 X M q16) rfl rfl hl.1 (Nat.le_of_ble_eq_true rfl) dX10_takesShun_28 (fun H locs M => ?_)
        refine lv_if_ne (tgt := 36) X.1 X.2.1 dX10_takesShun_31 (by decide) (fun c20 => ?_) (fun c20 => ?_)
        · have hf := ifn c20 hf
          refine lv_aload_n X.1 X.2.1 dX10_takesShun_36 rfl (lv_at hl 0 rfl) ?_
          obtain ⟨t21, q22, hf⟩ := bnd hf
          refine x_getr fl_X10_105 X M q22 dX10_takesShun_37 ?_
          refine lv_iconst (v := (0 : Int32)) X.1 X.2.1 dX10_takesShun_40 (by decide) ?_
          obtain ⟨t23, q24, hf⟩ := bnd hf
          refine x_zald X M q24 dX10_takesShun_41 ?_
          refine lv_if_eq (tgt := 58) X.1 X.2.1 dX10_takesShun_42 (by decide) (fun c25 => ?_) (fun c25 => ?_)
          · have hf := ifp c25 hf
            refine lv_iconst (v := (1 : Int32)) X.1 X.2.1 dX10_takesShun_58 (by decide) ?_
            obtain ⟨rfl, rfl⟩ := rt2 hf
            exact x_zret X hr hk rfl M dX10_takesShun_59
          · have hf := ifn c25 hf
            refine lv_aload_n X.1 X.2.1 dX10_takesShun_45 rfl (lv_at hl 0 rfl) ?_
            refine lv_dup X.1 X.2.1 dX10_takesShun_46 rfl ?_
            obtain ⟨t26, q27, hf⟩ := bnd hf
            refine x_geti fl_X10_74 X M q27 dX10_takesShun_47 ?_
            refine lv_aload_n X.1 X.2.1 dX10_takesShun_50 rfl (lv_at hl 0 rfl) ?_
            obtain ⟨t28, q29, hf⟩ := bnd hf
            refine x_geti fl_X10_71 X M q29 dX10_takesShun_51 ?_
            refine lv_iadd X.1 X.2.1 dX10_takesShun_54 ?_
            obtain ⟨h30, q31, hf⟩ := bnd hf
            refine x_puti fl_X10_74 fp_X10_74.1 fp_X10_74.2 X M q31 dX10_takesShun_55 (fun H locs M => ?_)
            refine lv_iconst (v := (1 : Int32)) X.1 X.2.1 dX10_takesShun_58 (by decide) ?_
            obtain ⟨rfl, rfl⟩ := rt2 hf
            exact x_zret X hr hk rfl M dX10_takesShun_59
        · have hf := ifp c20 hf
          refine lv_iconst (v := (0 : Int32)) X.1 X.2.1 dX10_takesShun_34 (by decide) ?_
          obtain ⟨rfl, rfl⟩ := rt2 hf
          exact x_zret X hr hk rfl M dX10_takesShun_35
theorem c_X10_takesShun (l : Launch) (G : Gx) (N : Nat) (v0 : Nat) (h : Mem) (r : Int32) (h' : Mem) (hf : f_X10_takesShun N v0 h = some (r, h')) : MetG l G yX10_takesShun (.code yX10_takesShun cX10_takesShun 1 (Option.some Jvm.ClassFile.FieldType.boolean)) rm_X10_takesShun [.ref (gB G + v0)] h (QcI G r h') 0 0 :=
  x_met (by decide) rfl (Nat.le_of_ble_eq_true rfl) (fun p e s m args below meth c ls X M hr hk hin hl => w_X10_takesShun X hr hk N v0 h hf _ _ ls M hl)
abbrev rm_X10_takesClause : Room := { frames := 7, cells := 0, slots := 0, locals := 169 }
def f_X10_takesClause_201 (N : Nat) (v0 : Nat) (h : Mem) : Option (Int32 × Mem) :=
  (ck h v0 10).bind fun _ =>
  b2 (f_X10_next N v0 h) fun t4 h3 =>
  (sI h3 v0 10 39 t4).bind fun h5 =>
  (gI h5 v0 10 19).bind fun t7 =>
  (sI h5 v0 10 19 (t7 + (1 : Int32))).bind fun h9 =>
  some ((1 : Int32), h9)
set_option maxRecDepth 100000 in
set_option maxHeartbeats 4000000 in
theorem w_X10_takesClause_201 {p : Program} {l : Launch} {e : Env} {s : State} {m : MethodId} {args : Array Value} {below : List Frame} {meth : Method} {c : Code} {G : Gx} {r : Int32} {h' : Mem} (X : CX G p s m args c cX10_takesClause 2 RX10) (hr : meth.sig.returnType = (Option.some Jvm.ClassFile.FieldType.boolean)) (hk : meth.locks = false) (N : Nat) : ∀ (v0 : Nat) (h : Mem), f_X10_takesClause_201 N v0 h = some (r, h') → ∀ (H : Heap) (locs : List Loc) (ls : Array Slot), MS G s h H locs 0 → lv_has ls 2 [(0, .ref (gB G + v0))] → W p l e (rm_X10_takesClause) s m args below meth c H locs 0 0 (QI G below args s r h' 0 0) (F0 m 201 ls []) := by
  intro v0 h hf H locs ls M hl
  rw [f_X10_takesClause_201] at hf
  refine lv_aload_n X.1 X.2.1 dX10_takesClause_201 rfl (lv_at hl 0 rfl) ?_
  refine lv_aload_n X.1 X.2.1 dX10_takesClause_202 rfl (lv_at hl 0 rfl) ?_
  obtain ⟨⟨⟩, q1, hf⟩ := bnd hf
  obtain ⟨t4, h3, q2, hf⟩ := bnd2 hf
  refine x_callVi (As := []) cf_X10_232 (c_X10_next l G N v0 h _ _ q2) rfl ⟨rfl, rfl, Nat.le_of_ble_eq_true rfl, Nat.le_of_ble_eq_true rfl⟩ ⟨Nat.le_of_ble_eq_true rfl, Nat.le_of_ble_eq_true rfl⟩ X M (x_recv cls_X10 X M q1) rfl rfl hl.1 (Nat.le_of_ble_eq_true rfl) dX10_takesClause_203 (fun H locs M => ?_)
  obtain ⟨h5, q6, hf⟩ := bnd hf
  refine x_puti fl_X10_130 fp_X10_130.1 fp_X10_130.2 X M q6 dX10_takesClause_206 (fun H locs M => ?_)
  refine lv_aload_n X.1 X.2.1 dX10_takesClause_209 rfl (lv_at hl 0 rfl) ?_
  refine lv_dup X.1 X.2.1 dX10_takesClause_210 rfl ?_
  obtain ⟨t7, q8, hf⟩ := bnd hf
  refine x_geti fl_X10_68 X M q8 dX10_takesClause_211 ?_
  refine lv_iconst (v := (1 : Int32)) X.1 X.2.1 dX10_takesClause_214 (by decide) ?_
  refine lv_iadd X.1 X.2.1 dX10_takesClause_215 ?_
  obtain ⟨h9, q10, hf⟩ := bnd hf
  refine x_puti fl_X10_68 fp_X10_68.1 fp_X10_68.2 X M q10 dX10_takesClause_216 (fun H locs M => ?_)
  refine lv_iconst (v := (1 : Int32)) X.1 X.2.1 dX10_takesClause_219 (by decide) ?_
  obtain ⟨rfl, rfl⟩ := rt2 hf
  exact x_zret X hr hk rfl M dX10_takesClause_220
def f_X10_takesClause_261 (N : Nat) (v0 : Nat) (h : Mem) : Option (Int32 × Mem) :=
  (ck h v0 10).bind fun _ =>
  b2 (f_X10_next N v0 h) fun t4 h3 =>
  (sI h3 v0 10 40 t4).bind fun h5 =>
  (gI h5 v0 10 19).bind fun t7 =>
  (sI h5 v0 10 19 (t7 + (1 : Int32))).bind fun h9 =>
  some ((1 : Int32), h9)
set_option maxRecDepth 100000 in
set_option maxHeartbeats 4000000 in
theorem w_X10_takesClause_261 {p : Program} {l : Launch} {e : Env} {s : State} {m : MethodId} {args : Array Value} {below : List Frame} {meth : Method} {c : Code} {G : Gx} {r : Int32} {h' : Mem} (X : CX G p s m args c cX10_takesClause 2 RX10) (hr : meth.sig.returnType = (Option.some Jvm.ClassFile.FieldType.boolean)) (hk : meth.locks = false) (N : Nat) : ∀ (v0 : Nat) (h : Mem), f_X10_takesClause_261 N v0 h = some (r, h') → ∀ (H : Heap) (locs : List Loc) (ls : Array Slot), MS G s h H locs 0 → lv_has ls 2 [(0, .ref (gB G + v0))] → W p l e (rm_X10_takesClause) s m args below meth c H locs 0 0 (QI G below args s r h' 0 0) (F0 m 261 ls []) := by
  intro v0 h hf H locs ls M hl
  rw [f_X10_takesClause_261] at hf
  refine lv_aload_n X.1 X.2.1 dX10_takesClause_261 rfl (lv_at hl 0 rfl) ?_
  refine lv_aload_n X.1 X.2.1 dX10_takesClause_262 rfl (lv_at hl 0 rfl) ?_
  obtain ⟨⟨⟩, q1, hf⟩ := bnd hf
  obtain ⟨t4, h3, q2, hf⟩ := bnd2 hf
  refine x_callVi (As := []) cf_X10_232 (c_X10_next l G N v0 h _ _ q2) rfl ⟨rfl, rfl, Nat.le_of_ble_eq_true rfl, Nat.le_of_ble_eq_true rfl⟩ ⟨Nat.le_of_ble_eq_true rfl, Nat.le_of_ble_eq_true rfl⟩ X M (x_recv cls_X10 X M q1) rfl rfl hl.1 (Nat.le_of_ble_eq_true rfl) dX10_takesClause_263 (fun H locs M => ?_)
  obtain ⟨h5, q6, hf⟩ := bnd hf
  refine x_puti fl_X10_133 fp_X10_133.1 fp_X10_133.2 X M q6 dX10_takesClause_266 (fun H locs M => ?_)
  refine lv_aload_n X.1 X.2.1 dX10_takesClause_269 rfl (lv_at hl 0 rfl) ?_
  refine lv_dup X.1 X.2.1 dX10_takesClause_270 rfl ?_
  obtain ⟨t7, q8, hf⟩ := bnd hf
  refine x_geti fl_X10_68 X M q8 dX10_takesClause_271 ?_
  refine lv_iconst (v := (1 : Int32)) X.1 X.2.1 dX10_takesClause_274 (by decide) ?_
  refine lv_iadd X.1 X.2.1 dX10_takesClause_275 ?_
  obtain ⟨h9, q10, hf⟩ := bnd hf
  refine x_puti fl_X10_68 fp_X10_68.1 fp_X10_68.2 X M q10 dX10_takesClause_276 (fun H locs M => ?_)
  refine lv_iconst (v := (1 : Int32)) X.1 X.2.1 dX10_takesClause_279 (by decide) ?_
  obtain ⟨rfl, rfl⟩ := rt2 hf
  exact x_zret X hr hk rfl M dX10_takesClause_280
def f_X10_takesClause_281 (N : Nat) (v0 : Nat) (h : Mem) : Option (Int32 × Mem) :=
  (ck h v0 10).bind fun _ =>
  b2 (f_X10_takesShun N v0 h) fun t4 h3 =>
  rz t4 h3
set_option maxRecDepth 100000 in
set_option maxHeartbeats 4000000 in
theorem w_X10_takesClause_281 {p : Program} {l : Launch} {e : Env} {s : State} {m : MethodId} {args : Array Value} {below : List Frame} {meth : Method} {c : Code} {G : Gx} {r : Int32} {h' : Mem} (X : CX G p s m args c cX10_takesClause 2 RX10) (hr : meth.sig.returnType = (Option.some Jvm.ClassFile.FieldType.boolean)) (hk : meth.locks = false) (N : Nat) : ∀ (v0 : Nat) (h : Mem), f_X10_takesClause_281 N v0 h = some (r, h') → ∀ (H : Heap) (locs : List Loc) (ls : Array Slot), MS G s h H locs 0 → lv_has ls 2 [(0, .ref (gB G + v0))] → W p l e (rm_X10_takesClause) s m args below meth c H locs 0 0 (QI G below args s r h' 0 0) (F0 m 281 ls []) := by
  intro v0 h hf H locs ls M hl
  rw [f_X10_takesClause_281] at hf
  refine lv_aload_n X.1 X.2.1 dX10_takesClause_281 rfl (lv_at hl 0 rfl) ?_
  obtain ⟨⟨⟩, q1, hf⟩ := bnd hf
  obtain ⟨t4, h3, q2, hf⟩ := bnd2 hf
  refine x_callVi (As := []) cf_X10_280 (c_X10_takesShun l G N v0 h _ _ q2) rfl ⟨rfl, rfl, Nat.le_of_ble_eq_true rfl, Nat.le_of_ble_eq_true rfl⟩ ⟨Nat.le_of_ble_eq_true rfl, Nat.le_of_ble_eq_true rfl⟩ X M (x_recv cls_X10 X M q1) rfl rfl hl.1 (Nat.le_of_ble_eq_true rfl) dX10_takesClause_282 (fun H locs M => ?_)
  obtain ⟨z, rfl, rfl⟩ := rz_spec hf
  exact x_zret X hr hk (nz z) M dX10_takesClause_285
def f_X10_takesClause (N : Nat) (v0 : Nat) (h : Mem) : Option (Int32 × Mem) :=
  (ck h v0 10).bind fun _ =>
  b2 (f_X10_next N v0 h) fun t4 h3 =>
  if t4 = 99 then
    (ck h3 v0 10).bind fun _ =>
    b2 (f_X10_takesCost N v0 h3) fun t9 h8 =>
    rz t9 h8
  else
  if t4 = 100 then
    (ck h3 v0 10).bind fun _ =>
    b2 (f_X10_takesWord N v0 (152755 : Int32) (4 : Int32) h3) fun t14 h13 =>
    if t14 = 0 then
      some ((0 : Int32), h13)
    else
      (ck h13 v0 10).bind fun _ =>
      b2 (f_X10_next N v0 h13) fun t19 h18 =>
      if t19 = (104 : Int32) then
        f_X10_takesClause_201 N v0 h18
      else
        (ck h18 v0 10).bind fun _ =>
        b2 (f_X10_next N v0 h18) fun t24 h23 =>
        if t24 = (105 : Int32) then
          f_X10_takesClause_201 N v0 h23
        else
          (ck h23 v0 10).bind fun _ =>
          b2 (f_X10_next N v0 h23) fun t29 h28 =>
          if t29 = (101 : Int32) then
            f_X10_takesClause_201 N v0 h28
          else
            some ((0 : Int32), h28)
  else
  if t4 = 101 then
    f_X10_takesClause_281 N v0 h3
  else
  if t4 = 102 then
    f_X10_takesClause_281 N v0 h3
  else
  if t4 = 103 then
    f_X10_takesClause_281 N v0 h3
  else
  if t4 = 104 then
    f_X10_takesClause_281 N v0 h3
  else
  if t4 = 105 then
    f_X10_takesClause_281 N v0 h3
  else
  if t4 = 106 then
    f_X10_takesClause_281 N v0 h3
  else
  if t4 = 107 then
    f_X10_takesClause_281 N v0 h3
  else
  if t4 = 108 then
    (ck h3 v0 10).bind fun _ =>
    b2 (f_X10_takesWord N v0 (402789 : Int32) (4 : Int32) h3) fun t42 h41 =>
    if t42 = 0 then
      some ((0 : Int32), h41)
    else
      (ck h41 v0 10).bind fun _ =>
      b2 (f_X10_takesTwo N v0 (0 : Int32) h41) fun t47 h46 =>
      if t47 = 0 then
        some ((0 : Int32), h46)
      else
        some ((1 : Int32), h46)
  else
  if t4 = 109 then
    (ck h3 v0 10).bind fun _ =>
    b2 (f_X10_takesWord N v0 (435589 : Int32) (4 : Int32) h3) fun t53 h52 =>
    if t53 = 0 then
      some ((0 : Int32), h52)
    else
      (ck h52 v0 10).bind fun _ =>
      b2 (f_X10_takesNumber N v0 h52) fun t58 h57 =>
      if t58 = 0 then
        some ((0 : Int32), h57)
      else
        (gI h57 v0 10 20).bind fun t60 =>
        (sI h57 v0 10 38 t60).bind fun h62 =>
        some ((1 : Int32), h62)
  else
  if t4 = 110 then
    (ck h3 v0 10).bind fun _ =>
    b2 (f_X10_takesWord N v0 (463922 : Int32) (4 : Int32) h3) fun t68 h67 =>
    if t68 = 0 then
      some ((0 : Int32), h67)
    else
      (ck h67 v0 10).bind fun _ =>
      b2 (f_X10_takesTwo N v0 (1 : Int32) h67) fun t73 h72 =>
      if t73 = 0 then
        some ((0 : Int32), h72)
      else
        some ((1 : Int32), h72)
  else
  if t4 = 111 then
    f_X10_takesClause_281 N v0 h3
  else
  if t4 = 112 then
    (ck h3 v0 10).bind fun _ =>
    b2 (f_X10_takesWord N v0 (533611 : Int32) (4 : Int32) h3) fun t80 h79 =>
    if t80 = 0 then
      some ((0 : Int32), h79)
    else
      (ck h79 v0 10).bind fun _ =>
      b2 (f_X10_next N v0 h79) fun t85 h84 =>
      if t85 = (109 : Int32) then
        f_X10_takesClause_261 N v0 h84
      else
        (ck h84 v0 10).bind fun _ =>
        b2 (f_X10_next N v0 h84) fun t90 h89 =>
        if t90 = (100 : Int32) then
          f_X10_takesClause_261 N v0 h89
        else
          (ck h89 v0 10).bind fun _ =>
          b2 (f_X10_next N v0 h89) fun t95 h94 =>
          if t95 = (111 : Int32) then
            f_X10_takesClause_261 N v0 h94
          else
            some ((0 : Int32), h94)
  else
  f_X10_takesClause_281 N v0 h3
set_option maxRecDepth 100000 in
set_option maxHeartbeats 4000000 in
theorem w_X10_takesClause {p : Program} {l : Launch} {e : Env} {s : State} {m : MethodId} {args : Array Value} {below : List Frame} {meth : Method} {c : Code} {G : Gx} {r : Int32} {h' : Mem} (X : CX G p s m args c cX10_takesClause 2 RX10) (hr : meth.sig.returnType = (Option.some Jvm.ClassFile.FieldType.boolean)) (hk : meth.locks = false) (N : Nat) : ∀ (v0 : Nat) (h : Mem), f_X10_takesClause N v0 h = some (r, h') → ∀ (H : Heap) (locs : List Loc) (ls : Array Slot), MS G s h H locs 0 → lv_has ls 2 [(0, .ref (gB G + v0))] → W p l e (rm_X10_takesClause) s m args below meth c H locs 0 0 (QI G below args s r h' 0 0) (F0 m 0 ls []) := by
  intro v0 h hf H locs ls M hl
  rw [f_X10_takesClause] at hf
  refine lv_aload_n X.1 X.2.1 dX10_takesClause_0 rfl (lv_at hl 0 rfl) ?_
  obtain ⟨⟨⟩, q1, hf⟩ := bnd hf
  obtain ⟨t4, h3, q2, hf⟩ := bnd2 hf
  refine x_callVi (As := []) cf_X10_232 (c_X10_next l G N v0 h _ _ q2) rfl ⟨rfl, rfl, Nat.le_of_ble_eq_true rfl, Nat.le_of_ble_eq_true rfl⟩ ⟨Nat.le_of_ble_eq_true rfl, Nat.le_of_ble_eq_true rfl⟩ X M (x_recv cls_X10 X M q1) rfl rfl hl.1 (Nat.le_of_ble_eq_true rfl) dX10_takesClause_1 (fun H locs M => ?_)
  refine lv_istore_n (lv' := [(1, .int t4), (0, .ref (gB G + v0))]) X.1 X.2.1 dX10_takesClause_4 rfl hl (by decide) rfl (fun ls hl => ?_)
  refine lv_iload_n X.1 X.2.1 dX10_takesClause_5 rfl (lv_at hl 0 rfl) ?_
  by_cases c5 : t4 = 99
  · have hf := ifp c5 hf
    refine x_tin (z := 99) (tgt := 126) X rfl c5 dX10_takesClause_6 (by decide) (by decide) rfl (by decide) ?_
    refine lv_aload_n X.1 X.2.1 dX10_takesClause_126 rfl (lv_at hl 1 rfl) ?_
    obtain ⟨⟨⟩, q6, hf⟩ := bnd hf
    obtain ⟨t9, h8, q7, hf⟩ := bnd2 hf
    refine x_callVi (As := []) cf_X10_274 (c_X10_takesCost l G N v0 h3 _ _ q7) rfl ⟨rfl, rfl, Nat.le_of_ble_eq_true rfl, Nat.le_of_ble_eq_true rfl⟩ ⟨Nat.le_of_ble_eq_true rfl, Nat.le_of_ble_eq_true rfl⟩ X M (x_recv cls_X10 X M q6) rfl rfl hl.1 (Nat.le_of_ble_eq_true rfl) dX10_takesClause_127 (fun H locs M => ?_)
    obtain ⟨z, rfl, rfl⟩ := rz_spec hf
    exact x_zret X hr hk (nz z) M dX10_takesClause_130
  have hf := ifn c5 hf
  by_cases c10 : t4 = 100
  · have hf := ifp c10 hf
    refine x_tin (z := 100) (tgt := 161) X rfl c10 dX10_takesClause_6 (by decide) (by decide) rfl (by decide) ?_
    refine lv_aload_n X.1 X.2.1 dX10_takesClause_161 rfl (lv_at hl 1 rfl) ?_
    refine lv_ldcw X.1 X.2.1 X.2.2.2.1 (X.2.2.2.2.1 _ k_1236) dX10_takesClause_162 ?_
    refine lv_iconst (v := (4 : Int32)) X.1 X.2.1 dX10_takesClause_165 (by decide) ?_
    obtain ⟨⟨⟩, q11, hf⟩ := bnd hf
    obtain ⟨t14, h13, q12, hf⟩ := bnd2 hf
    refine x_callVi (As := [.int (152755 : Int32), .int (4 : Int32)]) cf_X10_261 (c_X10_takesWord l G N v0 (152755 : Int32) (4 : Int32) h3 _ _ q12) rfl ⟨rfl, rfl, Nat.le_of_ble_eq_true rfl, Nat.le_of_ble_eq_true rfl⟩ ⟨Nat.le_of_ble_eq_true rfl, Nat.le_of_ble_eq_true rfl⟩ X M (x_recv cls_X10 X M q11) rfl rfl hl.1 (Nat.le_of_ble_eq_true rfl) dX10_takesClause_166 (fun H locs M => ?_)
    refine lv_if_eq (tgt := 199) X.1 X.2.1 dX10_takesClause_169 (by decide) (fun c15 => ?_) (fun c15 => ?_)
    · have hf := ifp c15 hf
      refine lv_iconst (v := (0 : Int32)) X.1 X.2.1 dX10_takesClause_199 (by decide) ?_
      obtain ⟨rfl, rfl⟩ := rt2 hf
      exact x_zret X hr hk rfl M dX10_takesClause_200
    · have hf := ifn c15 hf
      refine lv_aload_n X.1 X.2.1 dX10_takesClause_172 rfl (lv_at hl 1 rfl) ?_
      obtain ⟨⟨⟩, q16, hf⟩ := bnd hf
      obtain ⟨t19, h18, q17, hf⟩ := bnd2 hf
      refine x_callVi (As := []) cf_X10_232 (c_X10_next l G N v0 h13 _ _ q17) rfl ⟨rfl, rfl, Nat.le_of_ble_eq_true rfl, Nat.le_of_ble_eq_true rfl⟩ ⟨Nat.le_of_ble_eq_true rfl, Nat.le_of_ble_eq_true rfl⟩ X M (x_recv cls_X10 X M q16) rfl rfl hl.1 (Nat.le_of_ble_eq_true rfl) dX10_takesClause_173 (fun H locs M => ?_)
      refine lv_bipush (v := (104 : Int32)) X.1 X.2.1 dX10_takesClause_176 (by decide) ?_
      refine lv_icmp_eq (tgt := 201) X.1 X.2.1 dX10_takesClause_178 (by decide) (fun c20 => ?_) (fun c20 => ?_)
      · have hf := ifp c20 hf
        exact w_X10_takesClause_201 X hr hk N v0 h18 hf _ _ _ M (lv_sub hl [1] rfl)
      · have hf := ifn c20 hf
        refine lv_aload_n X.1 X.2.1 dX10_takesClause_181 rfl (lv_at hl 1 rfl) ?_
        obtain ⟨⟨⟩, q21, hf⟩ := bnd hf
        obtain ⟨t24, h23, q22, hf⟩ := bnd2 hf
        refine x_callVi (As := []) cf_X10_232 (c_X10_next l G N v0 h18 _ _ q22) rfl ⟨rfl, rfl, Nat.le_of_ble_eq_true rfl, Nat.le_of_ble_eq_true rfl⟩ ⟨Nat.le_of_ble_eq_true rfl, Nat.le_of_ble_eq_true rfl⟩ X M (x_recv cls_X10 X M q21) rfl rfl hl.1 (Nat.le_of_ble_eq_true rfl) dX10_takesClause_182 (fun H locs M => ?_)
        refine lv_bipush (v := (105 : Int32)) X.1 X.2.1 dX10_takesClause_185 (by decide) ?_
        refine lv_icmp_eq (tgt := 201) X.1 X.2.1 dX10_takesClause_187 (by decide) (fun c25 => ?_) (fun c25 => ?_)
        · have hf := ifp c25 hf
          exact w_X10_takesClause_201 X hr hk N v0 h23 hf _ _ _ M (lv_sub hl [1] rfl)
        · have hf := ifn c25 hf
          refine lv_aload_n X.1 X.2.1 dX10_takesClause_190 rfl (lv_at hl 1 rfl) ?_
          obtain ⟨⟨⟩, q26, hf⟩ := bnd hf
          obtain ⟨t29, h28, q27, hf⟩ := bnd2 hf
          refine x_callVi (As := []) cf_X10_232 (c_X10_next l G N v0 h23 _ _ q27) rfl ⟨rfl, rfl, Nat.le_of_ble_eq_true rfl, Nat.le_of_ble_eq_true rfl⟩ ⟨Nat.le_of_ble_eq_true rfl, Nat.le_of_ble_eq_true rfl⟩ X M (x_recv cls_X10 X M q26) rfl rfl hl.1 (Nat.le_of_ble_eq_true rfl) dX10_takesClause_191 (fun H locs M => ?_)
          refine lv_bipush (v := (101 : Int32)) X.1 X.2.1 dX10_takesClause_194 (by decide) ?_
          refine lv_icmp_eq (tgt := 201) X.1 X.2.1 dX10_takesClause_196 (by decide) (fun c30 => ?_) (fun c30 => ?_)
          · have hf := ifp c30 hf
            exact w_X10_takesClause_201 X hr hk N v0 h28 hf _ _ _ M (lv_sub hl [1] rfl)
          · have hf := ifn c30 hf
            refine lv_iconst (v := (0 : Int32)) X.1 X.2.1 dX10_takesClause_199 (by decide) ?_
            obtain ⟨rfl, rfl⟩ := rt2 hf
            exact x_zret X hr hk rfl M dX10_takesClause_200
  have hf := ifn c10 hf
  by_cases c31 : t4 = 101
  · have hf := ifp c31 hf
    refine x_tin (z := 101) (tgt := 281) X rfl c31 dX10_takesClause_6 (by decide) (by decide) rfl (by decide) ?_
    exact w_X10_takesClause_281 X hr hk N v0 h3 hf _ _ _ M (lv_sub hl [1] rfl)
  have hf := ifn c31 hf
  by_cases c32 : t4 = 102
  · have hf := ifp c32 hf
    refine x_tin (z := 102) (tgt := 281) X rfl c32 dX10_takesClause_6 (by decide) (by decide) rfl (by decide) ?_
    exact w_X10_takesClause_281 X hr hk N v0 h3 hf _ _ _ M (lv_sub hl [1] rfl)
  have hf := ifn c32 hf
  by_cases c33 : t4 = 103
  · have hf := ifp c33 hf
    refine x_tin (z := 103) (tgt := 281) X rfl c33 dX10_takesClause_6 (by decide) (by decide) rfl (by decide) ?_
    exact w_X10_takesClause_281 X hr hk N v0 h3 hf _ _ _ M (lv_sub hl [1] rfl)
  have hf := ifn c33 hf
  by_cases c34 : t4 = 104
  · have hf := ifp c34 hf
    refine x_tin (z := 104) (tgt := 281) X rfl c34 dX10_takesClause_6 (by decide) (by decide) rfl (by decide) ?_
    exact w_X10_takesClause_281 X hr hk N v0 h3 hf _ _ _ M (lv_sub hl [1] rfl)
  have hf := ifn c34 hf
  by_cases c35 : t4 = 105
  · have hf := ifp c35 hf
    refine x_tin (z := 105) (tgt := 281) X rfl c35 dX10_takesClause_6 (by decide) (by decide) rfl (by decide) ?_
    exact w_X10_takesClause_281 X hr hk N v0 h3 hf _ _ _ M (lv_sub hl [1] rfl)
  have hf := ifn c35 hf
  by_cases c36 : t4 = 106
  · have hf := ifp c36 hf
    refine x_tin (z := 106) (tgt := 281) X rfl c36 dX10_takesClause_6 (by decide) (by decide) rfl (by decide) ?_
    exact w_X10_takesClause_281 X hr hk N v0 h3 hf _ _ _ M (lv_sub hl [1] rfl)
  have hf := ifn c36 hf
  by_cases c37 : t4 = 107
  · have hf := ifp c37 hf
    refine x_tin (z := 107) (tgt := 281) X rfl c37 dX10_takesClause_6 (by decide) (by decide) rfl (by decide) ?_
    exact w_X10_takesClause_281 X hr hk N v0 h3 hf _ _ _ M (lv_sub hl [1] rfl)
  have hf := ifn c37 hf
  by_cases c38 : t4 = 108
  · have hf := ifp c38 hf
    refine x_tin (z := 108) (tgt := 76) X rfl c38 dX10_takesClause_6 (by decide) (by decide) rfl (by decide) ?_
    refine lv_aload_n X.1 X.2.1 dX10_takesClause_76 rfl (lv_at hl 1 rfl) ?_
    refine lv_ldcw X.1 X.2.1 X.2.2.2.1 (X.2.2.2.2.1 _ k_1204) dX10_takesClause_77 ?_
    refine lv_iconst (v := (4 : Int32)) X.1 X.2.1 dX10_takesClause_80 (by decide) ?_
    obtain ⟨⟨⟩, q39, hf⟩ := bnd hf
    obtain ⟨t42, h41, q40, hf⟩ := bnd2 hf
    refine x_callVi (As := [.int (402789 : Int32), .int (4 : Int32)]) cf_X10_261 (c_X10_takesWord l G N v0 (402789 : Int32) (4 : Int32) h3 _ _ q40) rfl ⟨rfl, rfl, Nat.le_of_ble_eq_true rfl, Nat.le_of_ble_eq_true rfl⟩ ⟨Nat.le_of_ble_eq_true rfl, Nat.le_of_ble_eq_true rfl⟩ X M (x_recv cls_X10 X M q39) rfl rfl hl.1 (Nat.le_of_ble_eq_true rfl) dX10_takesClause_81 (fun H locs M => ?_)
    refine lv_if_eq (tgt := 99) X.1 X.2.1 dX10_takesClause_84 (by decide) (fun c43 => ?_) (fun c43 => ?_)
    · have hf := ifp c43 hf
      refine lv_iconst (v := (0 : Int32)) X.1 X.2.1 dX10_takesClause_99 (by decide) ?_
      obtain ⟨rfl, rfl⟩ := rt2 hf
      exact x_zret X hr hk rfl M dX10_takesClause_100
    · have hf := ifn c43 hf
      refine lv_aload_n X.1 X.2.1 dX10_takesClause_87 rfl (lv_at hl 1 rfl) ?_
      refine lv_iconst (v := (0 : Int32)) X.1 X.2.1 dX10_takesClause_88 (by decide) ?_
      obtain ⟨⟨⟩, q44, hf⟩ := bnd hf
      obtain ⟨t47, h46, q45, hf⟩ := bnd2 hf
      refine x_callVi (As := [.int (0 : Int32)]) cf_X10_270 (c_X10_takesTwo l G N v0 (0 : Int32) h41 _ _ q45) rfl ⟨rfl, rfl, Nat.le_of_ble_eq_true rfl, Nat.le_of_ble_eq_true rfl⟩ ⟨Nat.le_of_ble_eq_true rfl, Nat.le_of_ble_eq_true rfl⟩ X M (x_recv cls_X10 X M q44) rfl rfl hl.1 (Nat.le_of_ble_eq_true rfl) dX10_takesClause_89 (fun H locs M => ?_)
      refine lv_if_eq (tgt := 99) X.1 X.2.1 dX10_takesClause_92 (by decide) (fun c48 => ?_) (fun c48 => ?_)
      · have hf := ifp c48 hf
        refine lv_iconst (v := (0 : Int32)) X.1 X.2.1 dX10_takesClause_99 (by decide) ?_
        obtain ⟨rfl, rfl⟩ := rt2 hf
        exact x_zret X hr hk rfl M dX10_takesClause_100
      · have hf := ifn c48 hf
        refine lv_iconst (v := (1 : Int32)) X.1 X.2.1 dX10_takesClause_95 (by decide) ?_
        refine lv_goto (tgt := 100) X.1 X.2.1 dX10_takesClause_96 (by decide) ?_
        obtain ⟨rfl, rfl⟩ := rt2 hf
        exact x_zret X hr hk rfl M dX10_takesClause_100
  have hf := ifn c38 hf
  by_cases c49 : t4 = 109
  · have hf := ifp c49 hf
    refine x_tin (z := 109) (tgt := 131) X rfl c49 dX10_takesClause_6 (by decide) (by decide) rfl (by decide) ?_
    refine lv_aload_n X.1 X.2.1 dX10_takesClause_131 rfl (lv_at hl 1 rfl) ?_
    refine lv_ldcw X.1 X.2.1 X.2.2.2.1 (X.2.2.2.2.1 _ k_1235) dX10_takesClause_132 ?_
    refine lv_iconst (v := (4 : Int32)) X.1 X.2.1 dX10_takesClause_135 (by decide) ?_
    obtain ⟨⟨⟩, q50, hf⟩ := bnd hf
    obtain ⟨t53, h52, q51, hf⟩ := bnd2 hf
    refine x_callVi (As := [.int (435589 : Int32), .int (4 : Int32)]) cf_X10_261 (c_X10_takesWord l G N v0 (435589 : Int32) (4 : Int32) h3 _ _ q51) rfl ⟨rfl, rfl, Nat.le_of_ble_eq_true rfl, Nat.le_of_ble_eq_true rfl⟩ ⟨Nat.le_of_ble_eq_true rfl, Nat.le_of_ble_eq_true rfl⟩ X M (x_recv cls_X10 X M q50) rfl rfl hl.1 (Nat.le_of_ble_eq_true rfl) dX10_takesClause_136 (fun H locs M => ?_)
    refine lv_if_eq (tgt := 149) X.1 X.2.1 dX10_takesClause_139 (by decide) (fun c54 => ?_) (fun c54 => ?_)
    · have hf := ifp c54 hf
      refine lv_iconst (v := (0 : Int32)) X.1 X.2.1 dX10_takesClause_149 (by decide) ?_
      obtain ⟨rfl, rfl⟩ := rt2 hf
      exact x_zret X hr hk rfl M dX10_takesClause_150
    · have hf := ifn c54 hf
      refine lv_aload_n X.1 X.2.1 dX10_takesClause_142 rfl (lv_at hl 1 rfl) ?_
      obtain ⟨⟨⟩, q55, hf⟩ := bnd hf
      obtain ⟨t58, h57, q56, hf⟩ := bnd2 hf
      refine x_callVi (As := []) cf_X10_243 (c_X10_takesNumber l G N v0 h52 _ _ q56) rfl ⟨rfl, rfl, Nat.le_of_ble_eq_true rfl, Nat.le_of_ble_eq_true rfl⟩ ⟨Nat.le_of_ble_eq_true rfl, Nat.le_of_ble_eq_true rfl⟩ X M (x_recv cls_X10 X M q55) rfl rfl hl.1 (Nat.le_of_ble_eq_true rfl) dX10_takesClause_143 (fun H locs M => ?_)
      refine lv_if_ne (tgt := 151) X.1 X.2.1 dX10_takesClause_146 (by decide) (fun c59 => ?_) (fun c59 => ?_)
      · have hf := ifn c59 hf
        refine lv_aload_n X.1 X.2.1 dX10_takesClause_151 rfl (lv_at hl 1 rfl) ?_
        refine lv_aload_n X.1 X.2.1 dX10_takesClause_152 rfl (lv_at hl 1 rfl) ?_
        obtain ⟨t60, q61, hf⟩ := bnd hf
        refine x_geti fl_X10_71 X M q61 dX10_takesClause_153 ?_
        obtain ⟨h62, q63, hf⟩ := bnd hf
        refine x_puti fl_X10_127 fp_X10_127.1 fp_X10_127.2 X M q63 dX10_takesClause_156 (fun H locs M => ?_)
        refine lv_iconst (v := (1 : Int32)) X.1 X.2.1 dX10_takesClause_159 (by decide) ?_
        obtain ⟨rfl, rfl⟩ := rt2 hf
        exact x_zret X hr hk rfl M dX10_takesClause_160
      · have hf := ifp c59 hf
        refine lv_iconst (v := (0 : Int32)) X.1 X.2.1 dX10_takesClause_149 (by decide) ?_
        obtain ⟨rfl, rfl⟩ := rt2 hf
        exact x_zret X hr hk rfl M dX10_takesClause_150
  have hf := ifn c49 hf
  by_cases c64 : t4 = 110
  · have hf := ifp c64 hf
    refine x_tin (z := 110) (tgt := 101) X rfl c64 dX10_takesClause_6 (by decide) (by decide) rfl (by decide) ?_
    refine lv_aload_n X.1 X.2.1 dX10_takesClause_101 rfl (lv_at hl 1 rfl) ?_
    refine lv_ldcw X.1 X.2.1 X.2.2.2.1 (X.2.2.2.2.1 _ k_1229) dX10_takesClause_102 ?_
    refine lv_iconst (v := (4 : Int32)) X.1 X.2.1 dX10_takesClause_105 (by decide) ?_
    obtain ⟨⟨⟩, q65, hf⟩ := bnd hf
    obtain ⟨t68, h67, q66, hf⟩ := bnd2 hf
    refine x_callVi (As := [.int (463922 : Int32), .int (4 : Int32)]) cf_X10_261 (c_X10_takesWord l G N v0 (463922 : Int32) (4 : Int32) h3 _ _ q66) rfl ⟨rfl, rfl, Nat.le_of_ble_eq_true rfl, Nat.le_of_ble_eq_true rfl⟩ ⟨Nat.le_of_ble_eq_true rfl, Nat.le_of_ble_eq_true rfl⟩ X M (x_recv cls_X10 X M q65) rfl rfl hl.1 (Nat.le_of_ble_eq_true rfl) dX10_takesClause_106 (fun H locs M => ?_)
    refine lv_if_eq (tgt := 124) X.1 X.2.1 dX10_takesClause_109 (by decide) (fun c69 => ?_) (fun c69 => ?_)
    · have hf := ifp c69 hf
      refine lv_iconst (v := (0 : Int32)) X.1 X.2.1 dX10_takesClause_124 (by decide) ?_
      obtain ⟨rfl, rfl⟩ := rt2 hf
      exact x_zret X hr hk rfl M dX10_takesClause_125
    · have hf := ifn c69 hf
      refine lv_aload_n X.1 X.2.1 dX10_takesClause_112 rfl (lv_at hl 1 rfl) ?_
      refine lv_iconst (v := (1 : Int32)) X.1 X.2.1 dX10_takesClause_113 (by decide) ?_
      obtain ⟨⟨⟩, q70, hf⟩ := bnd hf
      obtain ⟨t73, h72, q71, hf⟩ := bnd2 hf
      refine x_callVi (As := [.int (1 : Int32)]) cf_X10_270 (c_X10_takesTwo l G N v0 (1 : Int32) h67 _ _ q71) rfl ⟨rfl, rfl, Nat.le_of_ble_eq_true rfl, Nat.le_of_ble_eq_true rfl⟩ ⟨Nat.le_of_ble_eq_true rfl, Nat.le_of_ble_eq_true rfl⟩ X M (x_recv cls_X10 X M q70) rfl rfl hl.1 (Nat.le_of_ble_eq_true rfl) dX10_takesClause_114 (fun H locs M => ?_)
      refine lv_if_eq (tgt := 124) X.1 X.2.1 dX10_takesClause_117 (by decide) (fun c74 => ?_) (fun c74 => ?_)
      · have hf := ifp c74 hf
        refine lv_iconst (v := (0 : Int32)) X.1 X.2.1 dX10_takesClause_124 (by decide) ?_
        obtain ⟨rfl, rfl⟩ := rt2 hf
        exact x_zret X hr hk rfl M dX10_takesClause_125
      · have hf := ifn c74 hf
        refine lv_iconst (v := (1 : Int32)) X.1 X.2.1 dX10_takesClause_120 (by decide) ?_
        refine lv_goto (tgt := 125) X.1 X.2.1 dX10_takesClause_121 (by decide) ?_
        obtain ⟨rfl, rfl⟩ := rt2 hf
        exact x_zret X hr hk rfl M dX10_takesClause_125
  have hf := ifn c64 hf
  by_cases c75 : t4 = 111
  · have hf := ifp c75 hf
    refine x_tin (z := 111) (tgt := 281) X rfl c75 dX10_takesClause_6 (by decide) (by decide) rfl (by decide) ?_
    exact w_X10_takesClause_281 X hr hk N v0 h3 hf _ _ _ M (lv_sub hl [1] rfl)
  have hf := ifn c75 hf
  by_cases c76 : t4 = 112
  · have hf := ifp c76 hf
    refine x_tin (z := 112) (tgt := 221) X rfl c76 dX10_takesClause_6 (by decide) (by decide) rfl (by decide) ?_
    refine lv_aload_n X.1 X.2.1 dX10_takesClause_221 rfl (lv_at hl 1 rfl) ?_
    refine lv_ldcw X.1 X.2.1 X.2.2.2.1 (X.2.2.2.2.1 _ k_1237) dX10_takesClause_222 ?_
    refine lv_iconst (v := (4 : Int32)) X.1 X.2.1 dX10_takesClause_225 (by decide) ?_
    obtain ⟨⟨⟩, q77, hf⟩ := bnd hf
    obtain ⟨t80, h79, q78, hf⟩ := bnd2 hf
    refine x_callVi (As := [.int (533611 : Int32), .int (4 : Int32)]) cf_X10_261 (c_X10_takesWord l G N v0 (533611 : Int32) (4 : Int32) h3 _ _ q78) rfl ⟨rfl, rfl, Nat.le_of_ble_eq_true rfl, Nat.le_of_ble_eq_true rfl⟩ ⟨Nat.le_of_ble_eq_true rfl, Nat.le_of_ble_eq_true rfl⟩ X M (x_recv cls_X10 X M q77) rfl rfl hl.1 (Nat.le_of_ble_eq_true rfl) dX10_takesClause_226 (fun H locs M => ?_)
    refine lv_if_eq (tgt := 259) X.1 X.2.1 dX10_takesClause_229 (by decide) (fun c81 => ?_) (fun c81 => ?_)
    · have hf := ifp c81 hf
      refine lv_iconst (v := (0 : Int32)) X.1 X.2.1 dX10_takesClause_259 (by decide) ?_
      obtain ⟨rfl, rfl⟩ := rt2 hf
      exact x_zret X hr hk rfl M dX10_takesClause_260
    · have hf := ifn c81 hf
      refine lv_aload_n X.1 X.2.1 dX10_takesClause_232 rfl (lv_at hl 1 rfl) ?_
      obtain ⟨⟨⟩, q82, hf⟩ := bnd hf
      obtain ⟨t85, h84, q83, hf⟩ := bnd2 hf
      refine x_callVi (As := []) cf_X10_232 (c_X10_next l G N v0 h79 _ _ q83) rfl ⟨rfl, rfl, Nat.le_of_ble_eq_true rfl, Nat.le_of_ble_eq_true rfl⟩ ⟨Nat.le_of_ble_eq_true rfl, Nat.le_of_ble_eq_true rfl⟩ X M (x_recv cls_X10 X M q82) rfl rfl hl.1 (Nat.le_of_ble_eq_true rfl) dX10_takesClause_233 (fun H locs M => ?_)
      refine lv_bipush (v := (109 : Int32)) X.1 X.2.1 dX10_takesClause_236 (by decide) ?_
      refine lv_icmp_eq (tgt := 261) X.1 X.2.1 dX10_takesClause_238 (by decide) (fun c86 => ?_) (fun c86 => ?_)
      · have hf := ifp c86 hf
        exact w_X10_takesClause_261 X hr hk N v0 h84 hf _ _ _ M (lv_sub hl [1] rfl)
      · have hf := ifn c86 hf
        refine lv_aload_n X.1 X.2.1 dX10_takesClause_241 rfl (lv_at hl 1 rfl) ?_
        obtain ⟨⟨⟩, q87, hf⟩ := bnd hf
        obtain ⟨t90, h89, q88, hf⟩ := bnd2 hf
        refine x_callVi (As := []) cf_X10_232 (c_X10_next l G N v0 h84 _ _ q88) rfl ⟨rfl, rfl, Nat.le_of_ble_eq_true rfl, Nat.le_of_ble_eq_true rfl⟩ ⟨Nat.le_of_ble_eq_true rfl, Nat.le_of_ble_eq_true rfl⟩ X M (x_recv cls_X10 X M q87) rfl rfl hl.1 (Nat.le_of_ble_eq_true rfl) dX10_takesClause_242 (fun H locs M => ?_)
        refine lv_bipush (v := (100 : Int32)) X.1 X.2.1 dX10_takesClause_245 (by decide) ?_
        refine lv_icmp_eq (tgt := 261) X.1 X.2.1 dX10_takesClause_247 (by decide) (fun c91 => ?_) (fun c91 => ?_)
        · have hf := ifp c91 hf
          exact w_X10_takesClause_261 X hr hk N v0 h89 hf _ _ _ M (lv_sub hl [1] rfl)
        · have hf := ifn c91 hf
          refine lv_aload_n X.1 X.2.1 dX10_takesClause_250 rfl (lv_at hl 1 rfl) ?_
          obtain ⟨⟨⟩, q92, hf⟩ := bnd hf
          obtain ⟨t95, h94, q93, hf⟩ := bnd2 hf
          refine x_callVi (As := []) cf_X10_232 (c_X10_next l G N v0 h89 _ _ q93) rfl ⟨rfl, rfl, Nat.le_of_ble_eq_true rfl, Nat.le_of_ble_eq_true rfl⟩ ⟨Nat.le_of_ble_eq_true rfl, Nat.le_of_ble_eq_true rfl⟩ X M (x_recv cls_X10 X M q92) rfl rfl hl.1 (Nat.le_of_ble_eq_true rfl) dX10_takesClause_251 (fun H locs M => ?_)
          refine lv_bipush (v := (111 : Int32)) X.1 X.2.1 dX10_takesClause_254 (by decide) ?_
          refine lv_icmp_eq (tgt := 261) X.1 X.2.1 dX10_takesClause_256 (by decide) (fun c96 => ?_) (fun c96 => ?_)
          · have hf := ifp c96 hf
            exact w_X10_takesClause_261 X hr hk N v0 h94 hf _ _ _ M (lv_sub hl [1] rfl)
          · have hf := ifn c96 hf
            refine lv_iconst (v := (0 : Int32)) X.1 X.2.1 dX10_takesClause_259 (by decide) ?_
            obtain ⟨rfl, rfl⟩ := rt2 hf
            exact x_zret X hr hk rfl M dX10_takesClause_260
  have hf := ifn c76 hf
  have nc5 := lv_neT (a := 99) c5 rfl
  have nc10 := lv_neT (a := 100) c10 rfl
  have nc31 := lv_neT (a := 101) c31 rfl
  have nc32 := lv_neT (a := 102) c32 rfl
  have nc33 := lv_neT (a := 103) c33 rfl
  have nc34 := lv_neT (a := 104) c34 rfl
  have nc35 := lv_neT (a := 105) c35 rfl
  have nc36 := lv_neT (a := 106) c36 rfl
  have nc37 := lv_neT (a := 107) c37 rfl
  have nc38 := lv_neT (a := 108) c38 rfl
  have nc49 := lv_neT (a := 109) c49 rfl
  have nc64 := lv_neT (a := 110) c64 rfl
  have nc75 := lv_neT (a := 111) c75 rfl
  have nc76 := lv_neT (a := 112) c76 rfl
  refine lv_tableOut (tgt := 281) X.1 X.2.1 dX10_takesClause_6 (by omega) (by decide) ?_
  exact w_X10_takesClause_281 X hr hk N v0 h3 hf _ _ _ M (lv_sub hl [1] rfl)
theorem c_X10_takesClause (l : Launch) (G : Gx) (N : Nat) (v0 : Nat) (h : Mem) (r : Int32) (h' : Mem) (hf : f_X10_takesClause N v0 h = some (r, h')) : MetG l G yX10_takesClause (.code yX10_takesClause cX10_takesClause 2 (Option.some Jvm.ClassFile.FieldType.boolean)) rm_X10_takesClause [.ref (gB G + v0)] h (QcI G r h') 0 0 :=
  x_met (by decide) rfl (Nat.le_of_ble_eq_true rfl) (fun p e s m args below meth c ls X M hr hk hin hl => w_X10_takesClause X hr hk N v0 h hf _ _ ls M hl)
abbrev rm_X10_goes : Room := { frames := 8, cells := 0, slots := 0, locals := 190 }
def f_X10_goes_110 (N : Nat) (n : Nat) (v0 : Nat) (v2 : Int32) (h : Mem) : Option (Int32 × Mem) := match n with
  | 0 => none
  | n + 1 =>
    (ck h v0 10).bind fun _ =>
    b2 (f_X10_takesClause N v0 h) fun t4 h3 =>
    if t4 = 0 then
      some ((0 : Int32), h3)
    else
      (gI h3 v0 10 19).bind fun t6 =>
      (gI h3 v0 10 18).bind fun t8 =>
      if t6 = t8 then
        some ((1 : Int32), h3)
      else
        if (v2 + 1) = (10 : Int32) then
          some ((0 : Int32), h3)
        else
          (ck h3 v0 10).bind fun _ =>
          b2 (f_X10_takes N v0 (59 : Int32) h3) fun t15 h14 =>
          if t15 = 0 then
            some ((0 : Int32), h14)
          else
            f_X10_goes_110 N n v0 (v2 + 1) h14
set_option maxRecDepth 100000 in
set_option maxHeartbeats 4000000 in
theorem w_X10_goes_110 {p : Program} {l : Launch} {e : Env} {s : State} {m : MethodId} {args : Array Value} {below : List Frame} {meth : Method} {c : Code} {G : Gx} {r : Int32} {h' : Mem} (X : CX G p s m args c cX10_goes 4 RX10) (hr : meth.sig.returnType = (Option.some Jvm.ClassFile.FieldType.boolean)) (hk : meth.locks = false) (N : Nat) : ∀ (n : Nat) (v0 : Nat) (v2 : Int32) (h : Mem), f_X10_goes_110 N n v0 v2 h = some (r, h') → ∀ (H : Heap) (locs : List Loc) (ls : Array Slot), MS G s h H locs 0 → lv_has ls 4 [(0, .ref (gB G + v0)), (2, .int v2)] → W p l e (rm_X10_goes) s m args below meth c H locs 0 0 (QI G below args s r h' 0 0) (F0 m 110 ls []) := by
  intro n
  induction n with
  | zero =>
    intro v0 v2 h hf
    cases hf
  | succ n ih =>
    intro v0 v2 h hf H locs ls M hl
    rw [f_X10_goes_110] at hf
    refine lv_aload_n X.1 X.2.1 dX10_goes_110 rfl (lv_at hl 0 rfl) ?_
    obtain ⟨⟨⟩, q1, hf⟩ := bnd hf
    obtain ⟨t4, h3, q2, hf⟩ := bnd2 hf
    refine x_callVi (As := []) cf_X10_283 (c_X10_takesClause l G N v0 h _ _ q2) rfl ⟨rfl, rfl, Nat.le_of_ble_eq_true rfl, Nat.le_of_ble_eq_true rfl⟩ ⟨Nat.le_of_ble_eq_true rfl, Nat.le_of_ble_eq_true rfl⟩ X M (x_recv cls_X10 X M q1) rfl rfl hl.1 (Nat.le_of_ble_eq_true rfl) dX10_goes_111 (fun H locs M => ?_)
    refine lv_if_ne (tgt := 119) X.1 X.2.1 dX10_goes_114 (by decide) (fun c5 => ?_) (fun c5 => ?_)
    · have hf := ifn c5 hf
      refine lv_iinc (v := (v2 + 1)) (lv' := [(2, .int (v2 + 1)), (0, .ref (gB G + v0))]) X.1 X.2.1 dX10_goes_119 hl (k := 1) rfl (by first | rfl | decide) (by decide) rfl (fun ls hl => ?_)
      refine lv_aload_n X.1 X.2.1 dX10_goes_122 rfl (lv_at hl 1 rfl) ?_
      obtain ⟨t6, q7, hf⟩ := bnd hf
      refine x_geti fl_X10_68 X M q7 dX10_goes_123 ?_
      refine lv_aload_n X.1 X.2.1 dX10_goes_126 rfl (lv_at hl 1 rfl) ?_
      obtain ⟨t8, q9, hf⟩ := bnd hf
      refine x_geti fl_X10_65 X M q9 dX10_goes_127 ?_
      refine lv_icmp_ne (tgt := 135) X.1 X.2.1 dX10_goes_130 (by decide) (fun c10 => ?_) (fun c10 => ?_)
      · have hf := ifn c10 hf
        refine lv_iload_n X.1 X.2.1 dX10_goes_135 rfl (lv_at hl 0 rfl) ?_
        refine lv_bipush (v := (10 : Int32)) X.1 X.2.1 dX10_goes_136 (by decide) ?_
        refine lv_icmp_eq (tgt := 150) X.1 X.2.1 dX10_goes_138 (by decide) (fun c11 => ?_) (fun c11 => ?_)
        · have hf := ifp c11 hf
          refine lv_iconst (v := (0 : Int32)) X.1 X.2.1 dX10_goes_150 (by decide) ?_
          obtain ⟨rfl, rfl⟩ := rt2 hf
          exact x_zret X hr hk rfl M dX10_goes_151
        · have hf := ifn c11 hf
          refine lv_aload_n X.1 X.2.1 dX10_goes_141 rfl (lv_at hl 1 rfl) ?_
          refine lv_bipush (v := (59 : Int32)) X.1 X.2.1 dX10_goes_142 (by decide) ?_
          obtain ⟨⟨⟩, q12, hf⟩ := bnd hf
          obtain ⟨t15, h14, q13, hf⟩ := bnd2 hf
          refine x_callVi (As := [.int (59 : Int32)]) cf_X10_236 (c_X10_takes l G N v0 (59 : Int32) h3 _ _ q13) rfl ⟨rfl, rfl, Nat.le_of_ble_eq_true rfl, Nat.le_of_ble_eq_true rfl⟩ ⟨Nat.le_of_ble_eq_true rfl, Nat.le_of_ble_eq_true rfl⟩ X M (x_recv cls_X10 X M q12) rfl rfl hl.1 (Nat.le_of_ble_eq_true rfl) dX10_goes_144 (fun H locs M => ?_)
          refine lv_if_ne (tgt := 110) X.1 X.2.1 dX10_goes_147 (by decide) (fun c16 => ?_) (fun c16 => ?_)
          · have hf := ifn c16 hf
            exact ih v0 (v2 + 1) h14 hf _ _ _ M (lv_sub hl [1, 0] rfl)
          · have hf := ifp c16 hf
            refine lv_iconst (v := (0 : Int32)) X.1 X.2.1 dX10_goes_150 (by decide) ?_
            obtain ⟨rfl, rfl⟩ := rt2 hf
            exact x_zret X hr hk rfl M dX10_goes_151
      · have hf := ifp c10 hf
        refine lv_iconst (v := (1 : Int32)) X.1 X.2.1 dX10_goes_133 (by decide) ?_
        obtain ⟨rfl, rfl⟩ := rt2 hf
        exact x_zret X hr hk rfl M dX10_goes_134
    · have hf := ifp c5 hf
      refine lv_iconst (v := (0 : Int32)) X.1 X.2.1 dX10_goes_117 (by decide) ?_
      obtain ⟨rfl, rfl⟩ := rt2 hf
      exact x_zret X hr hk rfl M dX10_goes_118
def f_X10_goes_74 (N : Nat) (n : Nat) (v0 : Nat) (v2 : Int32) (v3 : Int32) (h : Mem) : Option (Int32 × Mem) := match n with
  | 0 => none
  | n + 1 =>
    if (3 : Int32) ≤ v3 then
      (sI h v0 10 38 (0 : Int32)).bind fun h2 =>
      (sI h2 v0 10 39 (104 : Int32)).bind fun h4 =>
      (sI h4 v0 10 40 (109 : Int32)).bind fun h6 =>
      f_X10_goes_110 N N v0 v2 h6
    else
      (gR h v0 10 37).bind fun t8 =>
      (stI 100 h t8 v3 (10 : Int32)).bind fun h10 =>
      f_X10_goes_74 N n v0 v2 (v3 + 1) h10
set_option maxRecDepth 100000 in
set_option maxHeartbeats 4000000 in
theorem w_X10_goes_74 {p : Program} {l : Launch} {e : Env} {s : State} {m : MethodId} {args : Array Value} {below : List Frame} {meth : Method} {c : Code} {G : Gx} {r : Int32} {h' : Mem} (X : CX G p s m args c cX10_goes 4 RX10) (hr : meth.sig.returnType = (Option.some Jvm.ClassFile.FieldType.boolean)) (hk : meth.locks = false) (N : Nat) : ∀ (n : Nat) (v0 : Nat) (v2 : Int32) (v3 : Int32) (h : Mem), f_X10_goes_74 N n v0 v2 v3 h = some (r, h') → ∀ (H : Heap) (locs : List Loc) (ls : Array Slot), MS G s h H locs 0 → lv_has ls 4 [(0, .ref (gB G + v0)), (2, .int v2), (3, .int v3)] → W p l e (rm_X10_goes) s m args below meth c H locs 0 0 (QI G below args s r h' 0 0) (F0 m 74 ls []) := by
  intro n
  induction n with
  | zero =>
    intro v0 v2 v3 h hf
    cases hf
  | succ n ih =>
    intro v0 v2 v3 h hf H locs ls M hl
    rw [f_X10_goes_74] at hf
    refine lv_iload_n X.1 X.2.1 dX10_goes_74 rfl (lv_at hl 2 rfl) ?_
    refine lv_iconst (v := (3 : Int32)) X.1 X.2.1 dX10_goes_75 (by decide) ?_
    refine lv_icmp_ge (tgt := 93) X.1 X.2.1 dX10_goes_76 (by decide) (fun c1 => ?_) (fun c1 => ?_)
    · have hf := ifp c1 hf
      refine lv_aload_n X.1 X.2.1 dX10_goes_93 rfl (lv_at hl 0 rfl) ?_
      refine lv_iconst (v := (0 : Int32)) X.1 X.2.1 dX10_goes_94 (by decide) ?_
      obtain ⟨h2, q3, hf⟩ := bnd hf
      refine x_puti fl_X10_127 fp_X10_127.1 fp_X10_127.2 X M q3 dX10_goes_95 (fun H locs M => ?_)
      refine lv_aload_n X.1 X.2.1 dX10_goes_98 rfl (lv_at hl 0 rfl) ?_
      refine lv_bipush (v := (104 : Int32)) X.1 X.2.1 dX10_goes_99 (by decide) ?_
      obtain ⟨h4, q5, hf⟩ := bnd hf
      refine x_puti fl_X10_130 fp_X10_130.1 fp_X10_130.2 X M q5 dX10_goes_101 (fun H locs M => ?_)
      refine lv_aload_n X.1 X.2.1 dX10_goes_104 rfl (lv_at hl 0 rfl) ?_
      refine lv_bipush (v := (109 : Int32)) X.1 X.2.1 dX10_goes_105 (by decide) ?_
      obtain ⟨h6, q7, hf⟩ := bnd hf
      refine x_puti fl_X10_133 fp_X10_133.1 fp_X10_133.2 X M q7 dX10_goes_107 (fun H locs M => ?_)
      exact w_X10_goes_110 X hr hk N N v0 v2 h6 hf _ _ _ M (lv_sub hl [0, 1] rfl)
    · have hf := ifn c1 hf
      refine lv_aload_n X.1 X.2.1 dX10_goes_79 rfl (lv_at hl 0 rfl) ?_
      obtain ⟨t8, q9, hf⟩ := bnd hf
      refine x_getr fl_X10_124 X M q9 dX10_goes_80 ?_
      refine lv_iload_n X.1 X.2.1 dX10_goes_83 rfl (lv_at hl 2 rfl) ?_
      refine lv_bipush (v := (10 : Int32)) X.1 X.2.1 dX10_goes_84 (by decide) ?_
      obtain ⟨h10, q11, hf⟩ := bnd hf
      refine x_iast X M q11 dX10_goes_86 (fun H locs M => ?_)
      refine lv_iinc (v := (v3 + 1)) (lv' := [(3, .int (v3 + 1)), (0, .ref (gB G + v0)), (2, .int v2)]) X.1 X.2.1 dX10_goes_87 hl (k := 2) rfl (by first | rfl | decide) (by decide) rfl (fun ls hl => ?_)
      refine lv_goto (tgt := 74) X.1 X.2.1 dX10_goes_90 (by decide) ?_
      exact ih v0 v2 (v3 + 1) h10 hf _ _ _ M (lv_sub hl [1, 2, 0] rfl)
def f_X10_goes_53 (N : Nat) (n : Nat) (v0 : Nat) (v2 : Int32) (v3 : Int32) (h : Mem) : Option (Int32 × Mem) := match n with
  | 0 => none
  | n + 1 =>
    if (16 : Int32) ≤ v3 then
      f_X10_goes_74 N N v0 v2 (0 : Int32) h
    else
      (gR h v0 10 36).bind fun t2 =>
      (stI 100 h t2 v3 (0 : Int32)).bind fun h4 =>
      f_X10_goes_53 N n v0 v2 (v3 + 1) h4
set_option maxRecDepth 100000 in
set_option maxHeartbeats 4000000 in
theorem w_X10_goes_53 {p : Program} {l : Launch} {e : Env} {s : State} {m : MethodId} {args : Array Value} {below : List Frame} {meth : Method} {c : Code} {G : Gx} {r : Int32} {h' : Mem} (X : CX G p s m args c cX10_goes 4 RX10) (hr : meth.sig.returnType = (Option.some Jvm.ClassFile.FieldType.boolean)) (hk : meth.locks = false) (N : Nat) : ∀ (n : Nat) (v0 : Nat) (v2 : Int32) (v3 : Int32) (h : Mem), f_X10_goes_53 N n v0 v2 v3 h = some (r, h') → ∀ (H : Heap) (locs : List Loc) (ls : Array Slot), MS G s h H locs 0 → lv_has ls 4 [(0, .ref (gB G + v0)), (2, .int v2), (3, .int v3)] → W p l e (rm_X10_goes) s m args below meth c H locs 0 0 (QI G below args s r h' 0 0) (F0 m 53 ls []) := by
  intro n
  induction n with
  | zero =>
    intro v0 v2 v3 h hf
    cases hf
  | succ n ih =>
    intro v0 v2 v3 h hf H locs ls M hl
    rw [f_X10_goes_53] at hf
    refine lv_iload_n X.1 X.2.1 dX10_goes_53 rfl (lv_at hl 2 rfl) ?_
    refine lv_bipush (v := (16 : Int32)) X.1 X.2.1 dX10_goes_54 (by decide) ?_
    refine lv_icmp_ge (tgt := 72) X.1 X.2.1 dX10_goes_56 (by decide) (fun c1 => ?_) (fun c1 => ?_)
    · have hf := ifp c1 hf
      refine lv_iconst (v := (0 : Int32)) X.1 X.2.1 dX10_goes_72 (by decide) ?_
      refine lv_istore_n (lv' := [(3, .int (0 : Int32)), (0, .ref (gB G + v0)), (2, .int v2)]) X.1 X.2.1 dX10_goes_73 rfl hl (by decide) rfl (fun ls hl => ?_)
      exact w_X10_goes_74 X hr hk N N v0 v2 (0 : Int32) h hf _ _ _ M (lv_sub hl [1, 2, 0] rfl)
    · have hf := ifn c1 hf
      refine lv_aload_n X.1 X.2.1 dX10_goes_59 rfl (lv_at hl 0 rfl) ?_
      obtain ⟨t2, q3, hf⟩ := bnd hf
      refine x_getr fl_X10_121 X M q3 dX10_goes_60 ?_
      refine lv_iload_n X.1 X.2.1 dX10_goes_63 rfl (lv_at hl 2 rfl) ?_
      refine lv_iconst (v := (0 : Int32)) X.1 X.2.1 dX10_goes_64 (by decide) ?_
      obtain ⟨h4, q5, hf⟩ := bnd hf
      refine x_iast X M q5 dX10_goes_65 (fun H locs M => ?_)
      refine lv_iinc (v := (v3 + 1)) (lv' := [(3, .int (v3 + 1)), (0, .ref (gB G + v0)), (2, .int v2)]) X.1 X.2.1 dX10_goes_66 hl (k := 2) rfl (by first | rfl | decide) (by decide) rfl (fun ls hl => ?_)
      refine lv_goto (tgt := 53) X.1 X.2.1 dX10_goes_69 (by decide) ?_
      exact ih v0 v2 (v3 + 1) h4 hf _ _ _ M (lv_sub hl [1, 2, 0] rfl)
def f_X10_goes_32 (N : Nat) (n : Nat) (v0 : Nat) (v2 : Int32) (v3 : Int32) (h : Mem) : Option (Int32 × Mem) := match n with
  | 0 => none
  | n + 1 =>
    if (12 : Int32) ≤ v3 then
      f_X10_goes_53 N N v0 v2 (0 : Int32) h
    else
      (gR h v0 10 35).bind fun t2 =>
      (stI 100 h t2 v3 (0 : Int32)).bind fun h4 =>
      f_X10_goes_32 N n v0 v2 (v3 + 1) h4
set_option maxRecDepth 100000 in
set_option maxHeartbeats 4000000 in
theorem w_X10_goes_32 {p : Program} {l : Launch} {e : Env} {s : State} {m : MethodId} {args : Array Value} {below : List Frame} {meth : Method} {c : Code} {G : Gx} {r : Int32} {h' : Mem} (X : CX G p s m args c cX10_goes 4 RX10) (hr : meth.sig.returnType = (Option.some Jvm.ClassFile.FieldType.boolean)) (hk : meth.locks = false) (N : Nat) : ∀ (n : Nat) (v0 : Nat) (v2 : Int32) (v3 : Int32) (h : Mem), f_X10_goes_32 N n v0 v2 v3 h = some (r, h') → ∀ (H : Heap) (locs : List Loc) (ls : Array Slot), MS G s h H locs 0 → lv_has ls 4 [(0, .ref (gB G + v0)), (2, .int v2), (3, .int v3)] → W p l e (rm_X10_goes) s m args below meth c H locs 0 0 (QI G below args s r h' 0 0) (F0 m 32 ls []) := by
  intro n
  induction n with
  | zero =>
    intro v0 v2 v3 h hf
    cases hf
  | succ n ih =>
    intro v0 v2 v3 h hf H locs ls M hl
    rw [f_X10_goes_32] at hf
    refine lv_iload_n X.1 X.2.1 dX10_goes_32 rfl (lv_at hl 2 rfl) ?_
    refine lv_bipush (v := (12 : Int32)) X.1 X.2.1 dX10_goes_33 (by decide) ?_
    refine lv_icmp_ge (tgt := 51) X.1 X.2.1 dX10_goes_35 (by decide) (fun c1 => ?_) (fun c1 => ?_)
    · have hf := ifp c1 hf
      refine lv_iconst (v := (0 : Int32)) X.1 X.2.1 dX10_goes_51 (by decide) ?_
      refine lv_istore_n (lv' := [(3, .int (0 : Int32)), (0, .ref (gB G + v0)), (2, .int v2)]) X.1 X.2.1 dX10_goes_52 rfl hl (by decide) rfl (fun ls hl => ?_)
      exact w_X10_goes_53 X hr hk N N v0 v2 (0 : Int32) h hf _ _ _ M (lv_sub hl [1, 2, 0] rfl)
    · have hf := ifn c1 hf
      refine lv_aload_n X.1 X.2.1 dX10_goes_38 rfl (lv_at hl 0 rfl) ?_
      obtain ⟨t2, q3, hf⟩ := bnd hf
      refine x_getr fl_X10_118 X M q3 dX10_goes_39 ?_
      refine lv_iload_n X.1 X.2.1 dX10_goes_42 rfl (lv_at hl 2 rfl) ?_
      refine lv_iconst (v := (0 : Int32)) X.1 X.2.1 dX10_goes_43 (by decide) ?_
      obtain ⟨h4, q5, hf⟩ := bnd hf
      refine x_iast X M q5 dX10_goes_44 (fun H locs M => ?_)
      refine lv_iinc (v := (v3 + 1)) (lv' := [(3, .int (v3 + 1)), (0, .ref (gB G + v0)), (2, .int v2)]) X.1 X.2.1 dX10_goes_45 hl (k := 2) rfl (by first | rfl | decide) (by decide) rfl (fun ls hl => ?_)
      refine lv_goto (tgt := 32) X.1 X.2.1 dX10_goes_48 (by decide) ?_
      exact ih v0 v2 (v3 + 1) h4 hf _ _ _ M (lv_sub hl [1, 2, 0] rfl)
def f_X10_goes (N : Nat) (v0 : Nat) (v1 : Int32) (h : Mem) : Option (Int32 × Mem) :=
  (sI h v0 10 17 ((120 : Int32) * v1)).bind fun h1 =>
  (gR h1 v0 10 15).bind fun t3 =>
  (lI 100 h1 t3 v1).bind fun t5 =>
  (sI h1 v0 10 18 t5).bind fun h7 =>
  (sI h7 v0 10 19 (0 : Int32)).bind fun h9 =>
  (sI h9 v0 10 21 (0 : Int32)).bind fun h11 =>
  f_X10_goes_32 N N v0 (0 : Int32) (0 : Int32) h11
set_option maxRecDepth 100000 in
set_option maxHeartbeats 4000000 in
theorem w_X10_goes {p : Program} {l : Launch} {e : Env} {s : State} {m : MethodId} {args : Array Value} {below : List Frame} {meth : Method} {c : Code} {G : Gx} {r : Int32} {h' : Mem} (X : CX G p s m args c cX10_goes 4 RX10) (hr : meth.sig.returnType = (Option.some Jvm.ClassFile.FieldType.boolean)) (hk : meth.locks = false) (N : Nat) : ∀ (v0 : Nat) (v1 : Int32) (h : Mem), f_X10_goes N v0 v1 h = some (r, h') → ∀ (H : Heap) (locs : List Loc) (ls : Array Slot), MS G s h H locs 0 → lv_has ls 4 [(0, .ref (gB G + v0)), (1, .int v1)] → W p l e (rm_X10_goes) s m args below meth c H locs 0 0 (QI G below args s r h' 0 0) (F0 m 0 ls []) := by
  intro v0 v1 h hf H locs ls M hl
  rw [f_X10_goes] at hf
  refine lv_aload_n X.1 X.2.1 dX10_goes_0 rfl (lv_at hl 0 rfl) ?_
  refine lv_bipush (v := (120 : Int32)) X.1 X.2.1 dX10_goes_1 (by decide) ?_
  refine lv_iload_n X.1 X.2.1 dX10_goes_3 rfl (lv_at hl 1 rfl) ?_
  refine lv_imul X.1 X.2.1 dX10_goes_4 ?_
  obtain ⟨h1, q2, hf⟩ := bnd hf
  refine x_puti fl_X10_62 fp_X10_62.1 fp_X10_62.2 X M q2 dX10_goes_5 (fun H locs M => ?_)
  refine lv_aload_n X.1 X.2.1 dX10_goes_8 rfl (lv_at hl 0 rfl) ?_
  refine lv_aload_n X.1 X.2.1 dX10_goes_9 rfl (lv_at hl 0 rfl) ?_
  obtain ⟨t3, q4, hf⟩ := bnd hf
  refine x_getr fl_X10_56 X M q4 dX10_goes_10 ?_
  refine lv_iload_n X.1 X.2.1 dX10_goes_13 rfl (lv_at hl 1 rfl) ?_
  obtain ⟨t5, q6, hf⟩ := bnd hf
  refine x_iald X M q6 dX10_goes_14 ?_
  obtain ⟨h7, q8, hf⟩ := bnd hf
  refine x_puti fl_X10_65 fp_X10_65.1 fp_X10_65.2 X M q8 dX10_goes_15 (fun H locs M => ?_)
  refine lv_aload_n X.1 X.2.1 dX10_goes_18 rfl (lv_at hl 0 rfl) ?_
  refine lv_iconst (v := (0 : Int32)) X.1 X.2.1 dX10_goes_19 (by decide) ?_
  obtain ⟨h9, q10, hf⟩ := bnd hf
  refine x_puti fl_X10_68 fp_X10_68.1 fp_X10_68.2 X M q10 dX10_goes_20 (fun H locs M => ?_)
  refine lv_aload_n X.1 X.2.1 dX10_goes_23 rfl (lv_at hl 0 rfl) ?_
  refine lv_iconst (v := (0 : Int32)) X.1 X.2.1 dX10_goes_24 (by decide) ?_
  obtain ⟨h11, q12, hf⟩ := bnd hf
  refine x_puti fl_X10_74 fp_X10_74.1 fp_X10_74.2 X M q12 dX10_goes_25 (fun H locs M => ?_)
  refine lv_iconst (v := (0 : Int32)) X.1 X.2.1 dX10_goes_28 (by decide) ?_
  refine lv_istore_n (lv' := [(2, .int (0 : Int32)), (0, .ref (gB G + v0)), (1, .int v1)]) X.1 X.2.1 dX10_goes_29 rfl hl (by decide) rfl (fun ls hl => ?_)
  refine lv_iconst (v := (0 : Int32)) X.1 X.2.1 dX10_goes_30 (by decide) ?_
  refine lv_istore_n (lv' := [(3, .int (0 : Int32)), (2, .int (0 : Int32)), (0, .ref (gB G + v0)), (1, .int v1)]) X.1 X.2.1 dX10_goes_31 rfl hl (by decide) rfl (fun ls hl => ?_)
  exact w_X10_goes_32 X hr hk N N v0 (0 : Int32) (0 : Int32) h11 hf _ _ _ M (lv_sub hl [2, 1, 0] rfl)
theorem c_X10_goes (l : Launch) (G : Gx) (N : Nat) (v0 : Nat) (v1 : Int32) (h : Mem) (r : Int32) (h' : Mem) (hf : f_X10_goes N v0 v1 h = some (r, h')) : MetG l G yX10_goes (.code yX10_goes cX10_goes 4 (Option.some Jvm.ClassFile.FieldType.boolean)) rm_X10_goes [.ref (gB G + v0), .int v1] h (QcI G r h') 0 0 :=
  x_met (by decide) rfl (Nat.le_of_ble_eq_true rfl) (fun p e s m args below meth c ls X M hr hk hin hl => w_X10_goes X hr hk N v0 v1 h hf _ _ ls M hl)
abbrev rm_X10_findShun : Room := { frames := 9, cells := 0, slots := 0, locals := 213 }
def f_X10_findShun_105 (N : Nat) (v0 : Nat) (v1 : Int32) (v2 : Int32) (v3 : Int32) (s0 : Nat) (s1 : Int32) (h : Mem) (k106 : Nat → Int32 → Int32 → Int32 → Nat → Int32 → Int32 → Mem → Option Mem) : Option Mem :=
  k106 v0 v1 v2 v3 s0 s1 (0 : Int32) h
set_option maxRecDepth 100000 in
set_option maxHeartbeats 4000000 in
theorem w_X10_findShun_105 {p : Program} {l : Launch} {e : Env} {s : State} {m : MethodId} {args : Array Value} {below : List Frame} {meth : Method} {c : Code} {G : Gx} {h' : Mem} {L : Nat} (X : CX G p s m args c cX10_findShun 4 RX10) (hr : meth.sig.returnType = (Option.none : Option Jvm.ClassFile.FieldType)) (hk : meth.locks = false) (hL : s.heap.size + 0 = gB G + L) (N : Nat) (k106 : Nat → Int32 → Int32 → Int32 → Nat → Int32 → Int32 → Mem → Option Mem) (K106 : ∀ (v0 : Nat) (v1 : Int32) (v2 : Int32) (v3 : Int32) (s0 : Nat) (s1 : Int32) (s2 : Int32) (h : Mem), k106 v0 v1 v2 v3 s0 s1 s2 h = some h' → ∀ (H : Heap) (locs : List Loc) (ls : Array Slot), MS G s h H locs 0 → lv_has ls 4 [(0, .ref (gB G + v0)), (1, .int v1), (2, .int v2), (3, .int v3)] → W p l e (rm_X10_findShun) s m args below meth c H locs 0 0 (QV G below args s h' L 0 0) (F0 m 106 ls [.int s2, .int s1, .ref (gB G + s0)])) : ∀ (v0 : Nat) (v1 : Int32) (v2 : Int32) (v3 : Int32) (s0 : Nat) (s1 : Int32) (h : Mem), f_X10_findShun_105 N v0 v1 v2 v3 s0 s1 h k106 = some h' → ∀ (H : Heap) (locs : List Loc) (ls : Array Slot), MS G s h H locs 0 → lv_has ls 4 [(0, .ref (gB G + v0)), (1, .int v1), (2, .int v2), (3, .int v3)] → W p l e (rm_X10_findShun) s m args below meth c H locs 0 0 (QV G below args s h' L 0 0) (F0 m 105 ls [.int s1, .ref (gB G + s0)]) := by
  intro v0 v1 v2 v3 s0 s1 h hf H locs ls M hl
  rw [f_X10_findShun_105] at hf
  refine lv_iconst (v := (0 : Int32)) X.1 X.2.1 dX10_findShun_105 (by decide) ?_
  exact K106 v0 v1 v2 v3 s0 s1 (0 : Int32) h hf _ _ _ M (lv_sub hl [0, 1, 2, 3] rfl)
def f_X10_findShun_106 (N : Nat) (v0 : Nat) (v1 : Int32) (v2 : Int32) (v3 : Int32) (s0 : Nat) (s1 : Int32) (s2 : Int32) (h : Mem) (k24 : Nat → Int32 → Int32 → Int32 → Mem → Option Mem) : Option Mem :=
  (stI 100 h s0 s1 s2).bind fun h1 =>
  k24 v0 v1 v2 (v3 + 1) h1
set_option maxRecDepth 100000 in
set_option maxHeartbeats 4000000 in
theorem w_X10_findShun_106 {p : Program} {l : Launch} {e : Env} {s : State} {m : MethodId} {args : Array Value} {below : List Frame} {meth : Method} {c : Code} {G : Gx} {h' : Mem} {L : Nat} (X : CX G p s m args c cX10_findShun 4 RX10) (hr : meth.sig.returnType = (Option.none : Option Jvm.ClassFile.FieldType)) (hk : meth.locks = false) (hL : s.heap.size + 0 = gB G + L) (N : Nat) (k24 : Nat → Int32 → Int32 → Int32 → Mem → Option Mem) (K24 : ∀ (v0 : Nat) (v1 : Int32) (v2 : Int32) (v3 : Int32) (h : Mem), k24 v0 v1 v2 v3 h = some h' → ∀ (H : Heap) (locs : List Loc) (ls : Array Slot), MS G s h H locs 0 → lv_has ls 4 [(0, .ref (gB G + v0)), (1, .int v1), (2, .int v2), (3, .int v3)] → W p l e (rm_X10_findShun) s m args below meth c H locs 0 0 (QV G below args s h' L 0 0) (F0 m 24 ls [])) : ∀ (v0 : Nat) (v1 : Int32) (v2 : Int32) (v3 : Int32) (s0 : Nat) (s1 : Int32) (s2 : Int32) (h : Mem), f_X10_findShun_106 N v0 v1 v2 v3 s0 s1 s2 h k24 = some h' → ∀ (H : Heap) (locs : List Loc) (ls : Array Slot), MS G s h H locs 0 → lv_has ls 4 [(0, .ref (gB G + v0)), (1, .int v1), (2, .int v2), (3, .int v3)] → W p l e (rm_X10_findShun) s m args below meth c H locs 0 0 (QV G below args s h' L 0 0) (F0 m 106 ls [.int s2, .int s1, .ref (gB G + s0)]) := by
  intro v0 v1 v2 v3 s0 s1 s2 h hf H locs ls M hl
  rw [f_X10_findShun_106] at hf
  obtain ⟨h1, q2, hf⟩ := bnd hf
  refine x_iast X M q2 dX10_findShun_106 (fun H locs M => ?_)
  refine lv_iinc (v := (v3 + 1)) (lv' := [(3, .int (v3 + 1)), (0, .ref (gB G + v0)), (1, .int v1), (2, .int v2)]) X.1 X.2.1 dX10_findShun_107 hl (k := 3) rfl (by first | rfl | decide) (by decide) rfl (fun ls hl => ?_)
  refine lv_goto (tgt := 24) X.1 X.2.1 dX10_findShun_110 (by decide) ?_
  exact K24 v0 v1 v2 (v3 + 1) h1 hf _ _ _ M (lv_sub hl [1, 2, 3, 0] rfl)
def f_X10_findShun_24 (N : Nat) (n : Nat) (v0 : Nat) (v1 : Int32) (v2 : Int32) (v3 : Int32) (h : Mem) (k17 : Nat → Int32 → Int32 → Mem → Option Mem) : Option Mem := match n with
  | 0 => none
  | n + 1 =>
    if (9 : Int32) ≤ v3 then
      k17 v0 v1 (v2 + 1) h
    else
      (gR h v0 10 16).bind fun t2 =>
      (gR h v0 10 8).bind fun t4 =>
      (lI 100 h t4 v1).bind fun t6 =>
      (stI 100 h t2 (0 : Int32) t6).bind fun h8 =>
      (gR h8 v0 10 16).bind fun t10 =>
      (gR h8 v0 10 9).bind fun t12 =>
      (lI 100 h8 t12 v1).bind fun t14 =>
      (stI 100 h8 t10 (1 : Int32) t14).bind fun h16 =>
      (gR h16 v0 10 16).bind fun t18 =>
      (stI 100 h16 t18 (2 : Int32) v2).bind fun h20 =>
      (gR h20 v0 10 16).bind fun t22 =>
      (stI 100 h20 t22 (3 : Int32) v3).bind fun h24 =>
      (gR h24 v0 10 28).bind fun t26 =>
      (gI h24 v0 10 12).bind fun t28 =>
      if t28 ≤ 0 then
        f_X10_findShun_105 N v0 v1 v2 v3 t26 ((((36 : Int32) * v1) + ((9 : Int32) * v2)) + v3) h24 (fun v0 v1 v2 v3 s0 s1 s2 h => f_X10_findShun_106 N v0 v1 v2 v3 s0 s1 s2 h (fun v0 v1 v2 v3 h => f_X10_findShun_24 N n v0 v1 v2 v3 h k17))
      else
        (ck h24 v0 10).bind fun _ =>
        b2 (f_X10_goes N v0 (0 : Int32) h24) fun t34 h33 =>
        if t34 = 0 then
          f_X10_findShun_105 N v0 v1 v2 v3 t26 ((((36 : Int32) * v1) + ((9 : Int32) * v2)) + v3) h33 (fun v0 v1 v2 v3 s0 s1 s2 h => f_X10_findShun_106 N v0 v1 v2 v3 s0 s1 s2 h (fun v0 v1 v2 v3 h => f_X10_findShun_24 N n v0 v1 v2 v3 h k17))
        else
          (gI h33 v0 10 21).bind fun t36 =>
          f_X10_findShun_106 N v0 v1 v2 v3 t26 ((((36 : Int32) * v1) + ((9 : Int32) * v2)) + v3) t36 h33 (fun v0 v1 v2 v3 h => f_X10_findShun_24 N n v0 v1 v2 v3 h k17)
set_option maxRecDepth 100000 in
set_option maxHeartbeats 4000000 in
theorem w_X10_findShun_24 {p : Program} {l : Launch} {e : Env} {s : State} {m : MethodId} {args : Array Value} {below : List Frame} {meth : Method} {c : Code} {G : Gx} {h' : Mem} {L : Nat} (X : CX G p s m args c cX10_findShun 4 RX10) (hr : meth.sig.returnType = (Option.none : Option Jvm.ClassFile.FieldType)) (hk : meth.locks = false) (hL : s.heap.size + 0 = gB G + L) (N : Nat) (k17 : Nat → Int32 → Int32 → Mem → Option Mem) (K17 : ∀ (v0 : Nat) (v1 : Int32) (v2 : Int32) (h : Mem), k17 v0 v1 v2 h = some h' → ∀ (H : Heap) (locs : List Loc) (ls : Array Slot), MS G s h H locs 0 → lv_has ls 4 [(0, .ref (gB G + v0)), (1, .int v1), (2, .int v2)] → W p l e (rm_X10_findShun) s m args below meth c H locs 0 0 (QV G below args s h' L 0 0) (F0 m 17 ls [])) : ∀ (n : Nat) (v0 : Nat) (v1 : Int32) (v2 : Int32) (v3 : Int32) (h : Mem), f_X10_findShun_24 N n v0 v1 v2 v3 h k17 = some h' → ∀ (H : Heap) (locs : List Loc) (ls : Array Slot), MS G s h H locs 0 → lv_has ls 4 [(0, .ref (gB G + v0)), (1, .int v1), (2, .int v2), (3, .int v3)] → W p l e (rm_X10_findShun) s m args below meth c H locs 0 0 (QV G below args s h' L 0 0) (F0 m 24 ls []) := by
  intro n
  induction n with
  | zero =>
    intro v0 v1 v2 v3 h hf
    cases hf
  | succ n ih =>
    intro v0 v1 v2 v3 h hf H locs ls M hl
    rw [f_X10_findShun_24] at hf
    refine lv_iload_n X.1 X.2.1 dX10_findShun_24 rfl (lv_at hl 3 rfl) ?_
    refine lv_bipush (v := (9 : Int32)) X.1 X.2.1 dX10_findShun_25 (by decide) ?_
    refine lv_icmp_ge (tgt := 113) X.1 X.2.1 dX10_findShun_27 (by decide) (fun c1 => ?_) (fun c1 => ?_)
    · have hf := ifp c1 hf
      refine lv_iinc (v := (v2 + 1)) (lv' := [(2, .int (v2 + 1)), (0, .ref (gB G + v0)), (1, .int v1), (3, .int v3)]) X.1 X.2.1 dX10_findShun_113 hl (k := 2) rfl (by first | rfl | decide) (by decide) rfl (fun ls hl => ?_)
      refine lv_goto (tgt := 17) X.1 X.2.1 dX10_findShun_116 (by decide) ?_
      exact K17 v0 v1 (v2 + 1) h hf _ _ _ M (lv_sub hl [1, 2, 0] rfl)
    · have hf := ifn c1 hf
      refine lv_aload_n X.1 X.2.1 dX10_findShun_30 rfl (lv_at hl 0 rfl) ?_
      obtain ⟨t2, q3, hf⟩ := bnd hf
      refine x_getr fl_X10_59 X M q3 dX10_findShun_31 ?_
      refine lv_iconst (v := (0 : Int32)) X.1 X.2.1 dX10_findShun_34 (by decide) ?_
      refine lv_aload_n X.1 X.2.1 dX10_findShun_35 rfl (lv_at hl 0 rfl) ?_
      obtain ⟨t4, q5, hf⟩ := bnd hf
      refine x_getr fl_X10_35 X M q5 dX10_findShun_36 ?_
      refine lv_iload_n X.1 X.2.1 dX10_findShun_39 rfl (lv_at hl 1 rfl) ?_
      obtain ⟨t6, q7, hf⟩ := bnd hf
      refine x_iald X M q7 dX10_findShun_40 ?_
      obtain ⟨h8, q9, hf⟩ := bnd hf
      refine x_iast X M q9 dX10_findShun_41 (fun H locs M => ?_)
      refine lv_aload_n X.1 X.2.1 dX10_findShun_42 rfl (lv_at hl 0 rfl) ?_
      obtain ⟨t10, q11, hf⟩ := bnd hf
      refine x_getr fl_X10_59 X M q11 dX10_findShun_43 ?_
      refine lv_iconst (v := (1 : Int32)) X.1 X.2.1 dX10_findShun_46 (by decide) ?_
      refine lv_aload_n X.1 X.2.1 dX10_findShun_47 rfl (lv_at hl 0 rfl) ?_
      obtain ⟨t12, q13, hf⟩ := bnd hf
      refine x_getr fl_X10_38 X M q13 dX10_findShun_48 ?_
      refine lv_iload_n X.1 X.2.1 dX10_findShun_51 rfl (lv_at hl 1 rfl) ?_
      obtain ⟨t14, q15, hf⟩ := bnd hf
      refine x_iald X M q15 dX10_findShun_52 ?_
      obtain ⟨h16, q17, hf⟩ := bnd hf
      refine x_iast X M q17 dX10_findShun_53 (fun H locs M => ?_)
      refine lv_aload_n X.1 X.2.1 dX10_findShun_54 rfl (lv_at hl 0 rfl) ?_
      obtain ⟨t18, q19, hf⟩ := bnd hf
      refine x_getr fl_X10_59 X M q19 dX10_findShun_55 ?_
      refine lv_iconst (v := (2 : Int32)) X.1 X.2.1 dX10_findShun_58 (by decide) ?_
      refine lv_iload_n X.1 X.2.1 dX10_findShun_59 rfl (lv_at hl 2 rfl) ?_
      obtain ⟨h20, q21, hf⟩ := bnd hf
      refine x_iast X M q21 dX10_findShun_60 (fun H locs M => ?_)
      refine lv_aload_n X.1 X.2.1 dX10_findShun_61 rfl (lv_at hl 0 rfl) ?_
      obtain ⟨t22, q23, hf⟩ := bnd hf
      refine x_getr fl_X10_59 X M q23 dX10_findShun_62 ?_
      refine lv_iconst (v := (3 : Int32)) X.1 X.2.1 dX10_findShun_65 (by decide) ?_
      refine lv_iload_n X.1 X.2.1 dX10_findShun_66 rfl (lv_at hl 3 rfl) ?_
      obtain ⟨h24, q25, hf⟩ := bnd hf
      refine x_iast X M q25 dX10_findShun_67 (fun H locs M => ?_)
      refine lv_aload_n X.1 X.2.1 dX10_findShun_68 rfl (lv_at hl 0 rfl) ?_
      obtain ⟨t26, q27, hf⟩ := bnd hf
      refine x_getr fl_X10_95 X M q27 dX10_findShun_69 ?_
      refine lv_bipush (v := (36 : Int32)) X.1 X.2.1 dX10_findShun_72 (by decide) ?_
      refine lv_iload_n X.1 X.2.1 dX10_findShun_74 rfl (lv_at hl 1 rfl) ?_
      refine lv_imul X.1 X.2.1 dX10_findShun_75 ?_
      refine lv_bipush (v := (9 : Int32)) X.1 X.2.1 dX10_findShun_76 (by decide) ?_
      refine lv_iload_n X.1 X.2.1 dX10_findShun_78 rfl (lv_at hl 2 rfl) ?_
      refine lv_imul X.1 X.2.1 dX10_findShun_79 ?_
      refine lv_iadd X.1 X.2.1 dX10_findShun_80 ?_
      refine lv_iload_n X.1 X.2.1 dX10_findShun_81 rfl (lv_at hl 3 rfl) ?_
      refine lv_iadd X.1 X.2.1 dX10_findShun_82 ?_
      refine lv_aload_n X.1 X.2.1 dX10_findShun_83 rfl (lv_at hl 0 rfl) ?_
      obtain ⟨t28, q29, hf⟩ := bnd hf
      refine x_geti fl_X10_47 X M q29 dX10_findShun_84 ?_
      refine lv_if_le (tgt := 105) X.1 X.2.1 dX10_findShun_87 (by decide) (fun c30 => ?_) (fun c30 => ?_)
      · have hf := ifp c30 hf
        exact w_X10_findShun_105 X hr hk hL N _ (fun v0 v1 v2 v3 s0 s1 s2 h hf H locs ls M hl => w_X10_findShun_106 X hr hk hL N _ (fun v0 v1 v2 v3 h hf H locs ls M hl => ih v0 v1 v2 v3 h hf H locs ls M hl) v0 v1 v2 v3 s0 s1 s2 h hf H locs ls M hl) v0 v1 v2 v3 t26 ((((36 : Int32) * v1) + ((9 : Int32) * v2)) + v3) h24 hf _ _ _ M (lv_sub hl [0, 1, 2, 3] rfl)
      · have hf := ifn c30 hf
        refine lv_aload_n X.1 X.2.1 dX10_findShun_90 rfl (lv_at hl 0 rfl) ?_
        refine lv_iconst (v := (0 : Int32)) X.1 X.2.1 dX10_findShun_91 (by decide) ?_
        obtain ⟨⟨⟩, q31, hf⟩ := bnd hf
        obtain ⟨t34, h33, q32, hf⟩ := bnd2 hf
        refine x_callVi (As := [.int (0 : Int32)]) cf_X10_286 (c_X10_goes l G N v0 (0 : Int32) h24 _ _ q32) rfl ⟨rfl, rfl, Nat.le_of_ble_eq_true rfl, Nat.le_of_ble_eq_true rfl⟩ ⟨Nat.le_of_ble_eq_true rfl, Nat.le_of_ble_eq_true rfl⟩ X M (x_recv cls_X10 X M q31) rfl rfl hl.1 (Nat.le_of_ble_eq_true rfl) dX10_findShun_92 (fun H locs M => ?_)
        refine lv_if_eq (tgt := 105) X.1 X.2.1 dX10_findShun_95 (by decide) (fun c35 => ?_) (fun c35 => ?_)
        · have hf := ifp c35 hf
          exact w_X10_findShun_105 X hr hk hL N _ (fun v0 v1 v2 v3 s0 s1 s2 h hf H locs ls M hl => w_X10_findShun_106 X hr hk hL N _ (fun v0 v1 v2 v3 h hf H locs ls M hl => ih v0 v1 v2 v3 h hf H locs ls M hl) v0 v1 v2 v3 s0 s1 s2 h hf H locs ls M hl) v0 v1 v2 v3 t26 ((((36 : Int32) * v1) + ((9 : Int32) * v2)) + v3) h33 hf _ _ _ M (lv_sub hl [0, 1, 2, 3] rfl)
        · have hf := ifn c35 hf
          refine lv_aload_n X.1 X.2.1 dX10_findShun_98 rfl (lv_at hl 0 rfl) ?_
          obtain ⟨t36, q37, hf⟩ := bnd hf
          refine x_geti fl_X10_74 X M q37 dX10_findShun_99 ?_
          refine lv_goto (tgt := 106) X.1 X.2.1 dX10_findShun_102 (by decide) ?_
          exact w_X10_findShun_106 X hr hk hL N _ (fun v0 v1 v2 v3 h hf H locs ls M hl => ih v0 v1 v2 v3 h hf H locs ls M hl) v0 v1 v2 v3 t26 ((((36 : Int32) * v1) + ((9 : Int32) * v2)) + v3) t36 h33 hf _ _ _ M (lv_sub hl [0, 1, 2, 3] rfl)
def f_X10_findShun_17 (N : Nat) (n : Nat) (v0 : Nat) (v1 : Int32) (v2 : Int32) (h : Mem) (k7 : Nat → Int32 → Mem → Option Mem) : Option Mem := match n with
  | 0 => none
  | n + 1 =>
    if (4 : Int32) ≤ v2 then
      k7 v0 (v1 + 1) h
    else
      f_X10_findShun_24 N N v0 v1 v2 (1 : Int32) h (fun v0 v1 v2 h => f_X10_findShun_17 N n v0 v1 v2 h k7)
set_option maxRecDepth 100000 in
set_option maxHeartbeats 4000000 in
theorem w_X10_findShun_17 {p : Program} {l : Launch} {e : Env} {s : State} {m : MethodId} {args : Array Value} {below : List Frame} {meth : Method} {c : Code} {G : Gx} {h' : Mem} {L : Nat} (X : CX G p s m args c cX10_findShun 4 RX10) (hr : meth.sig.returnType = (Option.none : Option Jvm.ClassFile.FieldType)) (hk : meth.locks = false) (hL : s.heap.size + 0 = gB G + L) (N : Nat) (k7 : Nat → Int32 → Mem → Option Mem) (K7 : ∀ (v0 : Nat) (v1 : Int32) (h : Mem), k7 v0 v1 h = some h' → ∀ (H : Heap) (locs : List Loc) (ls : Array Slot), MS G s h H locs 0 → lv_has ls 4 [(0, .ref (gB G + v0)), (1, .int v1)] → W p l e (rm_X10_findShun) s m args below meth c H locs 0 0 (QV G below args s h' L 0 0) (F0 m 7 ls [])) : ∀ (n : Nat) (v0 : Nat) (v1 : Int32) (v2 : Int32) (h : Mem), f_X10_findShun_17 N n v0 v1 v2 h k7 = some h' → ∀ (H : Heap) (locs : List Loc) (ls : Array Slot), MS G s h H locs 0 → lv_has ls 4 [(0, .ref (gB G + v0)), (1, .int v1), (2, .int v2)] → W p l e (rm_X10_findShun) s m args below meth c H locs 0 0 (QV G below args s h' L 0 0) (F0 m 17 ls []) := by
  intro n
  induction n with
  | zero =>
    intro v0 v1 v2 h hf
    cases hf
  | succ n ih =>
    intro v0 v1 v2 h hf H locs ls M hl
    rw [f_X10_findShun_17] at hf
    refine lv_iload_n X.1 X.2.1 dX10_findShun_17 rfl (lv_at hl 2 rfl) ?_
    refine lv_iconst (v := (4 : Int32)) X.1 X.2.1 dX10_findShun_18 (by decide) ?_
    refine lv_icmp_ge (tgt := 119) X.1 X.2.1 dX10_findShun_19 (by decide) (fun c1 => ?_) (fun c1 => ?_)
    · have hf := ifp c1 hf
      refine lv_iinc (v := (v1 + 1)) (lv' := [(1, .int (v1 + 1)), (0, .ref (gB G + v0)), (2, .int v2)]) X.1 X.2.1 dX10_findShun_119 hl (k := 1) rfl (by first | rfl | decide) (by decide) rfl (fun ls hl => ?_)
      refine lv_goto (tgt := 7) X.1 X.2.1 dX10_findShun_122 (by decide) ?_
      exact K7 v0 (v1 + 1) h hf _ _ _ M (lv_sub hl [1, 0] rfl)
    · have hf := ifn c1 hf
      refine lv_iconst (v := (1 : Int32)) X.1 X.2.1 dX10_findShun_22 (by decide) ?_
      refine lv_istore_n (lv' := [(3, .int (1 : Int32)), (0, .ref (gB G + v0)), (1, .int v1), (2, .int v2)]) X.1 X.2.1 dX10_findShun_23 rfl hl (by decide) rfl (fun ls hl => ?_)
      exact w_X10_findShun_24 X hr hk hL N _ (fun v0 v1 v2 h hf H locs ls M hl => ih v0 v1 v2 h hf H locs ls M hl) N v0 v1 v2 (1 : Int32) h hf _ _ _ M (lv_sub hl [1, 2, 3, 0] rfl)
def f_X10_findShun_7 (N : Nat) (n : Nat) (v0 : Nat) (v1 : Int32) (h : Mem) : Option Mem := match n with
  | 0 => none
  | n + 1 =>
    (gI h v0 10 1).bind fun t1 =>
    if t1 ≤ v1 then
      some h
    else
      f_X10_findShun_17 N N v0 v1 (0 : Int32) h (fun v0 v1 h => f_X10_findShun_7 N n v0 v1 h)
set_option maxRecDepth 100000 in
set_option maxHeartbeats 4000000 in
theorem w_X10_findShun_7 {p : Program} {l : Launch} {e : Env} {s : State} {m : MethodId} {args : Array Value} {below : List Frame} {meth : Method} {c : Code} {G : Gx} {h' : Mem} {L : Nat} (X : CX G p s m args c cX10_findShun 4 RX10) (hr : meth.sig.returnType = (Option.none : Option Jvm.ClassFile.FieldType)) (hk : meth.locks = false) (hL : s.heap.size + 0 = gB G + L) (N : Nat) : ∀ (n : Nat) (v0 : Nat) (v1 : Int32) (h : Mem), f_X10_findShun_7 N n v0 v1 h = some h' → ∀ (H : Heap) (locs : List Loc) (ls : Array Slot), MS G s h H locs 0 → lv_has ls 4 [(0, .ref (gB G + v0)), (1, .int v1)] → W p l e (rm_X10_findShun) s m args below meth c H locs 0 0 (QV G below args s h' L 0 0) (F0 m 7 ls []) := by
  intro n
  induction n with
  | zero =>
    intro v0 v1 h hf
    cases hf
  | succ n ih =>
    intro v0 v1 h hf H locs ls M hl
    rw [f_X10_findShun_7] at hf
    refine lv_iload_n X.1 X.2.1 dX10_findShun_7 rfl (lv_at hl 1 rfl) ?_
    refine lv_aload_n X.1 X.2.1 dX10_findShun_8 rfl (lv_at hl 0 rfl) ?_
    obtain ⟨t1, q2, hf⟩ := bnd hf
    refine x_geti fl_X10_13 X M q2 dX10_findShun_9 ?_
    refine lv_icmp_ge (tgt := 125) X.1 X.2.1 dX10_findShun_12 (by decide) (fun c3 => ?_) (fun c3 => ?_)
    · have hf := ifp c3 hf
      obtain rfl := rt1 hf
      exact x_vret X hr hk M hL dX10_findShun_125
    · have hf := ifn c3 hf
      refine lv_iconst (v := (0 : Int32)) X.1 X.2.1 dX10_findShun_15 (by decide) ?_
      refine lv_istore_n (lv' := [(2, .int (0 : Int32)), (0, .ref (gB G + v0)), (1, .int v1)]) X.1 X.2.1 dX10_findShun_16 rfl hl (by decide) rfl (fun ls hl => ?_)
      exact w_X10_findShun_17 X hr hk hL N _ (fun v0 v1 h hf H locs ls M hl => ih v0 v1 h hf H locs ls M hl) N v0 v1 (0 : Int32) h hf _ _ _ M (lv_sub hl [1, 2, 0] rfl)
def f_X10_findShun (N : Nat) (v0 : Nat) (h : Mem) : Option Mem :=
  (sZ h v0 10 29 (1 : Int32)).bind fun h1 =>
  f_X10_findShun_7 N N v0 (0 : Int32) h1
set_option maxRecDepth 100000 in
set_option maxHeartbeats 4000000 in
theorem w_X10_findShun {p : Program} {l : Launch} {e : Env} {s : State} {m : MethodId} {args : Array Value} {below : List Frame} {meth : Method} {c : Code} {G : Gx} {h' : Mem} {L : Nat} (X : CX G p s m args c cX10_findShun 4 RX10) (hr : meth.sig.returnType = (Option.none : Option Jvm.ClassFile.FieldType)) (hk : meth.locks = false) (hL : s.heap.size + 0 = gB G + L) (N : Nat) : ∀ (v0 : Nat) (h : Mem), f_X10_findShun N v0 h = some h' → ∀ (H : Heap) (locs : List Loc) (ls : Array Slot), MS G s h H locs 0 → lv_has ls 4 [(0, .ref (gB G + v0))] → W p l e (rm_X10_findShun) s m args below meth c H locs 0 0 (QV G below args s h' L 0 0) (F0 m 0 ls []) := by
  intro v0 h hf H locs ls M hl
  rw [f_X10_findShun] at hf
  refine lv_aload_n X.1 X.2.1 dX10_findShun_0 rfl (lv_at hl 0 rfl) ?_
  refine lv_iconst (v := (1 : Int32)) X.1 X.2.1 dX10_findShun_1 (by decide) ?_
  obtain ⟨h1, q2, hf⟩ := bnd hf
  refine x_putz fl_X10_98 fp_X10_98.1 fp_X10_98.2 X M q2 dX10_findShun_2 (fun H locs M => ?_)
  refine lv_iconst (v := (0 : Int32)) X.1 X.2.1 dX10_findShun_5 (by decide) ?_
  refine lv_istore_n (lv' := [(1, .int (0 : Int32)), (0, .ref (gB G + v0))]) X.1 X.2.1 dX10_findShun_6 rfl hl (by decide) rfl (fun ls hl => ?_)
  exact w_X10_findShun_7 X hr hk hL N N v0 (0 : Int32) h1 hf _ _ _ M (lv_sub hl [1, 0] rfl)
theorem c_X10_findShun (l : Launch) (G : Gx) (N : Nat) (v0 : Nat) (h : Mem) (h' : Mem) (hf : f_X10_findShun N v0 h = some h') : MetG l G yX10_findShun (.code yX10_findShun cX10_findShun 4 (Option.none : Option Jvm.ClassFile.FieldType)) rm_X10_findShun [.ref (gB G + v0)] h (QcV G h' (h.1.length + 0)) 0 0 :=
  x_met (by decide) rfl (Nat.le_of_ble_eq_true rfl) (fun p e s m args below meth c ls X M hr hk hin hl => w_X10_findShun X hr hk (by have := M.2.2; omega) N v0 h hf _ _ ls M hl)
abbrev rm_X10_abs : Room := { frames := 1, cells := 0, slots := 0, locals := 40 }
def f_X10_abs (N : Nat) (v0 : Nat) (v1 : Int32) (h : Mem) : Option (Int32 × Mem) :=
  if 0 ≤ v1 then
    some (v1, h)
  else
    some ((-v1), h)
set_option maxRecDepth 100000 in
set_option maxHeartbeats 4000000 in
theorem w_X10_abs {p : Program} {l : Launch} {e : Env} {s : State} {m : MethodId} {args : Array Value} {below : List Frame} {meth : Method} {c : Code} {G : Gx} {r : Int32} {h' : Mem} (X : CX G p s m args c cX10_abs 2 RX10) (hr : meth.sig.returnType = (Option.some Jvm.ClassFile.FieldType.int)) (hk : meth.locks = false) (N : Nat) : ∀ (v0 : Nat) (v1 : Int32) (h : Mem), f_X10_abs N v0 v1 h = some (r, h') → ∀ (H : Heap) (locs : List Loc) (ls : Array Slot), MS G s h H locs 0 → lv_has ls 2 [(0, .ref (gB G + v0)), (1, .int v1)] → W p l e (rm_X10_abs) s m args below meth c H locs 0 0 (QI G below args s r h' 0 0) (F0 m 0 ls []) := by
  intro v0 v1 h hf H locs ls M hl
  rw [f_X10_abs] at hf
  refine lv_iload_n X.1 X.2.1 dX10_abs_0 rfl (lv_at hl 1 rfl) ?_
  refine lv_if_ge (tgt := 9) X.1 X.2.1 dX10_abs_1 (by decide) (fun c1 => ?_) (fun c1 => ?_)
  · have hf := ifp c1 hf
    refine lv_iload_n X.1 X.2.1 dX10_abs_9 rfl (lv_at hl 1 rfl) ?_
    obtain ⟨rfl, rfl⟩ := rt2 hf
    exact x_iret X hr hk M dX10_abs_10
  · have hf := ifn c1 hf
    refine lv_iload_n X.1 X.2.1 dX10_abs_4 rfl (lv_at hl 1 rfl) ?_
    refine lv_ineg X.1 X.2.1 dX10_abs_5 ?_
    refine lv_goto (tgt := 10) X.1 X.2.1 dX10_abs_6 (by decide) ?_
    obtain ⟨rfl, rfl⟩ := rt2 hf
    exact x_iret X hr hk M dX10_abs_10
theorem c_X10_abs (l : Launch) (G : Gx) (N : Nat) (v0 : Nat) (v1 : Int32) (h : Mem) (r : Int32) (h' : Mem) (hf : f_X10_abs N v0 v1 h = some (r, h')) : MetG l G yX10_abs (.code yX10_abs cX10_abs 2 (Option.some Jvm.ClassFile.FieldType.int)) rm_X10_abs [.ref (gB G + v0), .int v1] h (QcI G r h') 0 0 :=
  x_met (by decide) rfl (Nat.le_of_ble_eq_true rfl) (fun p e s m args below meth c ls X M hr hk hin hl => w_X10_abs X hr hk N v0 v1 h hf _ _ ls M hl)
abbrev rm_X10_worthOf : Room := { frames := 10, cells := 0, slots := 0, locals := 236 }
def f_X10_worthOf_66 (N : Nat) (n : Nat) (v0 : Nat) (v1 : Int32) (v2 : Int32) (v3 : Int64) (v5 : Int32) (v6 : Int32) (h : Mem) : Option (Int64 × Mem) := match n with
  | 0 => none
  | n + 1 =>
    (gI h v0 10 1).bind fun t1 =>
    if t1 ≤ v6 then
      (ck h v0 10).bind fun _ =>
      b2 (f_X10_dues N v0 v1 v2 h) fun t7 h6 =>
      (gR h6 v0 10 5).bind fun t8 =>
      (lI 100 h6 t8 v2).bind fun t10 =>
      (gR h6 v0 10 28).bind fun t12 =>
      (lI 100 h6 t12 ((((36 : Int32) * v1) + ((9 : Int32) * v2)) + v5)).bind fun t14 =>
      (gI h6 v0 10 25).bind fun t16 =>
      (gR h6 v0 10 11).bind fun t18 =>
      (lI 100 h6 t18 v1).bind fun t20 =>
      (ck h6 v0 10).bind fun _ =>
      b2 (f_X10_abs N v0 (t20 - v2) h6) fun t25 h24 =>
      some (((((v3 - ((Int32.toInt64 t7))) - ((Int32.toInt64 t10))) - ((Int32.toInt64 t14))) - ((Int32.toInt64 (t16 * t25)))), h24)
    else
      if v6 = v1 then
        f_X10_worthOf_66 N n v0 v1 v2 v3 v5 (v6 + 1) h
      else
        (gR h v0 10 10).bind fun t27 =>
        (lI 100 h t27 v6).bind fun t29 =>
        if t29 = v2 then
          (gR h v0 10 23).bind fun t32 =>
          (gR h v0 10 8).bind fun t34 =>
          (lI 100 h t34 v1).bind fun t36 =>
          (gR h v0 10 8).bind fun t38 =>
          (lI 100 h t38 v6).bind fun t40 =>
          (lI 100 h t32 (((4 : Int32) * t36) + t40)).bind fun t42 =>
          f_X10_worthOf_66 N n v0 v1 v2 (v3 + ((Int32.toInt64 t42))) (v5 + 1) (v6 + 1) h
        else
          f_X10_worthOf_66 N n v0 v1 v2 v3 v5 (v6 + 1) h
set_option maxRecDepth 100000 in
set_option maxHeartbeats 4000000 in
theorem w_X10_worthOf_66 {p : Program} {l : Launch} {e : Env} {s : State} {m : MethodId} {args : Array Value} {below : List Frame} {meth : Method} {c : Code} {G : Gx} {r : Int64} {h' : Mem} (X : CX G p s m args c cX10_worthOf 7 RX10) (hr : meth.sig.returnType = (Option.some Jvm.ClassFile.FieldType.long)) (hk : meth.locks = false) (N : Nat) : ∀ (n : Nat) (v0 : Nat) (v1 : Int32) (v2 : Int32) (v3 : Int64) (v5 : Int32) (v6 : Int32) (h : Mem), f_X10_worthOf_66 N n v0 v1 v2 v3 v5 v6 h = some (r, h') → ∀ (H : Heap) (locs : List Loc) (ls : Array Slot), MS G s h H locs 0 → lv_has ls 7 [(0, .ref (gB G + v0)), (1, .int v1), (2, .int v2), (3, .long v3), (5, .int v5), (6, .int v6)] → W p l e (rm_X10_worthOf) s m args below meth c H locs 0 0 (QL G below args s r h' 0 0) (F0 m 66 ls []) := by
  intro n
  induction n with
  | zero =>
    intro v0 v1 v2 v3 v5 v6 h hf
    cases hf
  | succ n ih =>
    intro v0 v1 v2 v3 v5 v6 h hf H locs ls M hl
    rw [f_X10_worthOf_66] at hf
    refine lv_iload X.1 X.2.1 dX10_worthOf_66 (lv_at hl 5 rfl) ?_
    refine lv_aload_n X.1 X.2.1 dX10_worthOf_68 rfl (lv_at hl 0 rfl) ?_
    obtain ⟨t1, q2, hf⟩ := bnd hf
    refine x_geti fl_X10_13 X M q2 dX10_worthOf_69 ?_
    refine lv_icmp_ge (tgt := 129) X.1 X.2.1 dX10_worthOf_72 (by decide) (fun c3 => ?_) (fun c3 => ?_)
    · have hf := ifp c3 hf
      refine lv_lload_n X.1 X.2.1 dX10_worthOf_129 rfl (lv_at hl 3 rfl) ?_
      refine lv_aload_n X.1 X.2.1 dX10_worthOf_130 rfl (lv_at hl 0 rfl) ?_
      refine lv_iload_n X.1 X.2.1 dX10_worthOf_131 rfl (lv_at hl 1 rfl) ?_
      refine lv_iload_n X.1 X.2.1 dX10_worthOf_132 rfl (lv_at hl 2 rfl) ?_
      obtain ⟨⟨⟩, q4, hf⟩ := bnd hf
      obtain ⟨t7, h6, q5, hf⟩ := bnd2 hf
      refine x_callVi (As := [.int v1, .int v2]) cf_X10_221 (c_X10_dues l G N v0 v1 v2 h _ _ q5) rfl ⟨rfl, rfl, Nat.le_of_ble_eq_true rfl, Nat.le_of_ble_eq_true rfl⟩ ⟨Nat.le_of_ble_eq_true rfl, Nat.le_of_ble_eq_true rfl⟩ X M (x_recv cls_X10 X M q4) rfl rfl hl.1 (Nat.le_of_ble_eq_true rfl) dX10_worthOf_133 (fun H locs M => ?_)
      refine lv_i2l (v := ((Int32.toInt64 t7))) X.1 X.2.1 dX10_worthOf_136 rfl ?_
      refine lv_lsub X.1 X.2.1 dX10_worthOf_137 ?_
      refine lv_aload_n X.1 X.2.1 dX10_worthOf_138 rfl (lv_at hl 0 rfl) ?_
      obtain ⟨t8, q9, hf⟩ := bnd hf
      refine x_getr fl_X10_26 X M q9 dX10_worthOf_139 ?_
      refine lv_iload_n X.1 X.2.1 dX10_worthOf_142 rfl (lv_at hl 2 rfl) ?_
      obtain ⟨t10, q11, hf⟩ := bnd hf
      refine x_iald X M q11 dX10_worthOf_143 ?_
      refine lv_i2l (v := ((Int32.toInt64 t10))) X.1 X.2.1 dX10_worthOf_144 rfl ?_
      refine lv_lsub X.1 X.2.1 dX10_worthOf_145 ?_
      refine lv_aload_n X.1 X.2.1 dX10_worthOf_146 rfl (lv_at hl 0 rfl) ?_
      obtain ⟨t12, q13, hf⟩ := bnd hf
      refine x_getr fl_X10_95 X M q13 dX10_worthOf_147 ?_
      refine lv_bipush (v := (36 : Int32)) X.1 X.2.1 dX10_worthOf_150 (by decide) ?_
      refine lv_iload_n X.1 X.2.1 dX10_worthOf_152 rfl (lv_at hl 1 rfl) ?_
      refine lv_imul X.1 X.2.1 dX10_worthOf_153 ?_
      refine lv_bipush (v := (9 : Int32)) X.1 X.2.1 dX10_worthOf_154 (by decide) ?_
      refine lv_iload_n X.1 X.2.1 dX10_worthOf_156 rfl (lv_at hl 2 rfl) ?_
      refine lv_imul X.1 X.2.1 dX10_worthOf_157 ?_
      refine lv_iadd X.1 X.2.1 dX10_worthOf_158 ?_
      refine lv_iload X.1 X.2.1 dX10_worthOf_159 (lv_at hl 4 rfl) ?_
      refine lv_iadd X.1 X.2.1 dX10_worthOf_161 ?_
      obtain ⟨t14, q15, hf⟩ := bnd hf
      refine x_iald X M q15 dX10_worthOf_162 ?_
      refine lv_i2l (v := ((Int32.toInt64 t14))) X.1 X.2.1 dX10_worthOf_163 rfl ?_
      refine lv_lsub X.1 X.2.1 dX10_worthOf_164 ?_
      refine lv_aload_n X.1 X.2.1 dX10_worthOf_165 rfl (lv_at hl 0 rfl) ?_
      obtain ⟨t16, q17, hf⟩ := bnd hf
      refine x_geti fl_X10_86 X M q17 dX10_worthOf_166 ?_
      refine lv_aload_n X.1 X.2.1 dX10_worthOf_169 rfl (lv_at hl 0 rfl) ?_
      refine lv_aload_n X.1 X.2.1 dX10_worthOf_170 rfl (lv_at hl 0 rfl) ?_
      obtain ⟨t18, q19, hf⟩ := bnd hf
      refine x_getr fl_X10_44 X M q19 dX10_worthOf_171 ?_
      refine lv_iload_n X.1 X.2.1 dX10_worthOf_174 rfl (lv_at hl 1 rfl) ?_
      obtain ⟨t20, q21, hf⟩ := bnd hf
      refine x_iald X M q21 dX10_worthOf_175 ?_
      refine lv_iload_n X.1 X.2.1 dX10_worthOf_176 rfl (lv_at hl 2 rfl) ?_
      refine lv_isub X.1 X.2.1 dX10_worthOf_177 ?_
      obtain ⟨⟨⟩, q22, hf⟩ := bnd hf
      obtain ⟨t25, h24, q23, hf⟩ := bnd2 hf
      refine x_callVi (As := [.int (t20 - v2)]) cf_X10_292 (c_X10_abs l G N v0 (t20 - v2) h6 _ _ q23) rfl ⟨rfl, rfl, Nat.le_of_ble_eq_true rfl, Nat.le_of_ble_eq_true rfl⟩ ⟨Nat.le_of_ble_eq_true rfl, Nat.le_of_ble_eq_true rfl⟩ X M (x_recv cls_X10 X M q22) rfl rfl hl.1 (Nat.le_of_ble_eq_true rfl) dX10_worthOf_178 (fun H locs M => ?_)
      refine lv_imul X.1 X.2.1 dX10_worthOf_181 ?_
      refine lv_i2l (v := ((Int32.toInt64 (t16 * t25)))) X.1 X.2.1 dX10_worthOf_182 rfl ?_
      refine lv_lsub X.1 X.2.1 dX10_worthOf_183 ?_
      obtain ⟨rfl, rfl⟩ := rt2 hf
      exact x_lret X hr hk M dX10_worthOf_184
    · have hf := ifn c3 hf
      refine lv_iload X.1 X.2.1 dX10_worthOf_75 (lv_at hl 5 rfl) ?_
      refine lv_iload_n X.1 X.2.1 dX10_worthOf_77 rfl (lv_at hl 1 rfl) ?_
      refine lv_icmp_eq (tgt := 123) X.1 X.2.1 dX10_worthOf_78 (by decide) (fun c26 => ?_) (fun c26 => ?_)
      · have hf := ifp c26 hf
        refine lv_iinc (v := (v6 + 1)) (lv' := [(6, .int (v6 + 1)), (0, .ref (gB G + v0)), (1, .int v1), (2, .int v2), (3, .long v3), (5, .int v5)]) X.1 X.2.1 dX10_worthOf_123 hl (k := 5) rfl (by first | rfl | decide) (by decide) rfl (fun ls hl => ?_)
        refine lv_goto (tgt := 66) X.1 X.2.1 dX10_worthOf_126 (by decide) ?_
        exact ih v0 v1 v2 v3 v5 (v6 + 1) h hf _ _ _ M (lv_sub hl [1, 2, 3, 4, 5, 0] rfl)
      · have hf := ifn c26 hf
        refine lv_aload_n X.1 X.2.1 dX10_worthOf_81 rfl (lv_at hl 0 rfl) ?_
        obtain ⟨t27, q28, hf⟩ := bnd hf
        refine x_getr fl_X10_41 X M q28 dX10_worthOf_82 ?_
        refine lv_iload X.1 X.2.1 dX10_worthOf_85 (lv_at hl 5 rfl) ?_
        obtain ⟨t29, q30, hf⟩ := bnd hf
        refine x_iald X M q30 dX10_worthOf_87 ?_
        refine lv_iload_n X.1 X.2.1 dX10_worthOf_88 rfl (lv_at hl 2 rfl) ?_
        refine lv_icmp_eq (tgt := 95) X.1 X.2.1 dX10_worthOf_89 (by decide) (fun c31 => ?_) (fun c31 => ?_)
        · have hf := ifp c31 hf
          refine lv_iinc (v := (v5 + 1)) (lv' := [(5, .int (v5 + 1)), (0, .ref (gB G + v0)), (1, .int v1), (2, .int v2), (3, .long v3), (6, .int v6)]) X.1 X.2.1 dX10_worthOf_95 hl (k := 4) rfl (by first | rfl | decide) (by decide) rfl (fun ls hl => ?_)
          refine lv_lload_n X.1 X.2.1 dX10_worthOf_98 rfl (lv_at hl 4 rfl) ?_
          refine lv_aload_n X.1 X.2.1 dX10_worthOf_99 rfl (lv_at hl 1 rfl) ?_
          obtain ⟨t32, q33, hf⟩ := bnd hf
          refine x_getr fl_X10_80 X M q33 dX10_worthOf_100 ?_
          refine lv_iconst (v := (4 : Int32)) X.1 X.2.1 dX10_worthOf_103 (by decide) ?_
          refine lv_aload_n X.1 X.2.1 dX10_worthOf_104 rfl (lv_at hl 1 rfl) ?_
          obtain ⟨t34, q35, hf⟩ := bnd hf
          refine x_getr fl_X10_35 X M q35 dX10_worthOf_105 ?_
          refine lv_iload_n X.1 X.2.1 dX10_worthOf_108 rfl (lv_at hl 2 rfl) ?_
          obtain ⟨t36, q37, hf⟩ := bnd hf
          refine x_iald X M q37 dX10_worthOf_109 ?_
          refine lv_imul X.1 X.2.1 dX10_worthOf_110 ?_
          refine lv_aload_n X.1 X.2.1 dX10_worthOf_111 rfl (lv_at hl 1 rfl) ?_
          obtain ⟨t38, q39, hf⟩ := bnd hf
          refine x_getr fl_X10_35 X M q39 dX10_worthOf_112 ?_
          refine lv_iload X.1 X.2.1 dX10_worthOf_115 (lv_at hl 5 rfl) ?_
          obtain ⟨t40, q41, hf⟩ := bnd hf
          refine x_iald X M q41 dX10_worthOf_117 ?_
          refine lv_iadd X.1 X.2.1 dX10_worthOf_118 ?_
          obtain ⟨t42, q43, hf⟩ := bnd hf
          refine x_iald X M q43 dX10_worthOf_119 ?_
          refine lv_i2l (v := ((Int32.toInt64 t42))) X.1 X.2.1 dX10_worthOf_120 rfl ?_
          refine lv_ladd X.1 X.2.1 dX10_worthOf_121 ?_
          refine lv_lstore_n (lv' := [(3, .long (v3 + ((Int32.toInt64 t42)))), (5, .int (v5 + 1)), (0, .ref (gB G + v0)), (1, .int v1), (2, .int v2), (6, .int v6)]) X.1 X.2.1 dX10_worthOf_122 rfl hl (by decide) rfl (fun ls hl => ?_)
          refine lv_iinc (v := (v6 + 1)) (lv' := [(6, .int (v6 + 1)), (3, .long (v3 + ((Int32.toInt64 t42)))), (5, .int (v5 + 1)), (0, .ref (gB G + v0)), (1, .int v1), (2, .int v2)]) X.1 X.2.1 dX10_worthOf_123 hl (k := 5) rfl (by first | rfl | decide) (by decide) rfl (fun ls hl => ?_)
          refine lv_goto (tgt := 66) X.1 X.2.1 dX10_worthOf_126 (by decide) ?_
          exact ih v0 v1 v2 (v3 + ((Int32.toInt64 t42))) (v5 + 1) (v6 + 1) h hf _ _ _ M (lv_sub hl [3, 4, 5, 1, 2, 0] rfl)
        · have hf := ifn c31 hf
          refine lv_goto (tgt := 123) X.1 X.2.1 dX10_worthOf_92 (by decide) ?_
          refine lv_iinc (v := (v6 + 1)) (lv' := [(6, .int (v6 + 1)), (0, .ref (gB G + v0)), (1, .int v1), (2, .int v2), (3, .long v3), (5, .int v5)]) X.1 X.2.1 dX10_worthOf_123 hl (k := 5) rfl (by first | rfl | decide) (by decide) rfl (fun ls hl => ?_)
          refine lv_goto (tgt := 66) X.1 X.2.1 dX10_worthOf_126 (by decide) ?_
          exact ih v0 v1 v2 v3 v5 (v6 + 1) h hf _ _ _ M (lv_sub hl [1, 2, 3, 4, 5, 0] rfl)
def f_X10_worthOf_16 (N : Nat) (n : Nat) (v0 : Nat) (v1 : Int32) (v2 : Int32) (v3 : Int64) (v5 : Int32) (h : Mem) : Option (Int64 × Mem) := match n with
  | 0 => none
  | n + 1 =>
    if (3 : Int32) ≤ v5 then
      f_X10_worthOf_66 N N v0 v1 v2 v3 (1 : Int32) (0 : Int32) h
    else
      (gR h v0 10 22).bind fun t2 =>
      (gR h v0 10 8).bind fun t4 =>
      (lI 100 h t4 v1).bind fun t6 =>
      (lI 100 h t2 (((3 : Int32) * t6) + v5)).bind fun t8 =>
      (gR h v0 10 4).bind fun t10 =>
      (lI 100 h t10 (((3 : Int32) * v2) + v5)).bind fun t12 =>
      f_X10_worthOf_16 N n v0 v1 v2 (v3 + ((Int32.toInt64 (t8 * t12)))) (v5 + 1) h
set_option maxRecDepth 100000 in
set_option maxHeartbeats 4000000 in
theorem w_X10_worthOf_16 {p : Program} {l : Launch} {e : Env} {s : State} {m : MethodId} {args : Array Value} {below : List Frame} {meth : Method} {c : Code} {G : Gx} {r : Int64} {h' : Mem} (X : CX G p s m args c cX10_worthOf 7 RX10) (hr : meth.sig.returnType = (Option.some Jvm.ClassFile.FieldType.long)) (hk : meth.locks = false) (N : Nat) : ∀ (n : Nat) (v0 : Nat) (v1 : Int32) (v2 : Int32) (v3 : Int64) (v5 : Int32) (h : Mem), f_X10_worthOf_16 N n v0 v1 v2 v3 v5 h = some (r, h') → ∀ (H : Heap) (locs : List Loc) (ls : Array Slot), MS G s h H locs 0 → lv_has ls 7 [(0, .ref (gB G + v0)), (1, .int v1), (2, .int v2), (3, .long v3), (5, .int v5)] → W p l e (rm_X10_worthOf) s m args below meth c H locs 0 0 (QL G below args s r h' 0 0) (F0 m 16 ls []) := by
  intro n
  induction n with
  | zero =>
    intro v0 v1 v2 v3 v5 h hf
    cases hf
  | succ n ih =>
    intro v0 v1 v2 v3 v5 h hf H locs ls M hl
    rw [f_X10_worthOf_16] at hf
    refine lv_iload X.1 X.2.1 dX10_worthOf_16 (lv_at hl 4 rfl) ?_
    refine lv_iconst (v := (3 : Int32)) X.1 X.2.1 dX10_worthOf_18 (by decide) ?_
    refine lv_icmp_ge (tgt := 60) X.1 X.2.1 dX10_worthOf_19 (by decide) (fun c1 => ?_) (fun c1 => ?_)
    · have hf := ifp c1 hf
      refine lv_iconst (v := (1 : Int32)) X.1 X.2.1 dX10_worthOf_60 (by decide) ?_
      refine lv_istore (lv' := [(5, .int (1 : Int32)), (0, .ref (gB G + v0)), (1, .int v1), (2, .int v2), (3, .long v3)]) X.1 X.2.1 dX10_worthOf_61 hl (by decide) rfl (fun ls hl => ?_)
      refine lv_iconst (v := (0 : Int32)) X.1 X.2.1 dX10_worthOf_63 (by decide) ?_
      refine lv_istore (lv' := [(6, .int (0 : Int32)), (5, .int (1 : Int32)), (0, .ref (gB G + v0)), (1, .int v1), (2, .int v2), (3, .long v3)]) X.1 X.2.1 dX10_worthOf_64 hl (by decide) rfl (fun ls hl => ?_)
      exact w_X10_worthOf_66 X hr hk N N v0 v1 v2 v3 (1 : Int32) (0 : Int32) h hf _ _ _ M (lv_sub hl [2, 3, 4, 5, 1, 0] rfl)
    · have hf := ifn c1 hf
      refine lv_lload_n X.1 X.2.1 dX10_worthOf_22 rfl (lv_at hl 3 rfl) ?_
      refine lv_aload_n X.1 X.2.1 dX10_worthOf_23 rfl (lv_at hl 0 rfl) ?_
      obtain ⟨t2, q3, hf⟩ := bnd hf
      refine x_getr fl_X10_77 X M q3 dX10_worthOf_24 ?_
      refine lv_iconst (v := (3 : Int32)) X.1 X.2.1 dX10_worthOf_27 (by decide) ?_
      refine lv_aload_n X.1 X.2.1 dX10_worthOf_28 rfl (lv_at hl 0 rfl) ?_
      obtain ⟨t4, q5, hf⟩ := bnd hf
      refine x_getr fl_X10_35 X M q5 dX10_worthOf_29 ?_
      refine lv_iload_n X.1 X.2.1 dX10_worthOf_32 rfl (lv_at hl 1 rfl) ?_
      obtain ⟨t6, q7, hf⟩ := bnd hf
      refine x_iald X M q7 dX10_worthOf_33 ?_
      refine lv_imul X.1 X.2.1 dX10_worthOf_34 ?_
      refine lv_iload X.1 X.2.1 dX10_worthOf_35 (lv_at hl 4 rfl) ?_
      refine lv_iadd X.1 X.2.1 dX10_worthOf_37 ?_
      obtain ⟨t8, q9, hf⟩ := bnd hf
      refine x_iald X M q9 dX10_worthOf_38 ?_
      refine lv_aload_n X.1 X.2.1 dX10_worthOf_39 rfl (lv_at hl 0 rfl) ?_
      obtain ⟨t10, q11, hf⟩ := bnd hf
      refine x_getr fl_X10_23 X M q11 dX10_worthOf_40 ?_
      refine lv_iconst (v := (3 : Int32)) X.1 X.2.1 dX10_worthOf_43 (by decide) ?_
      refine lv_iload_n X.1 X.2.1 dX10_worthOf_44 rfl (lv_at hl 2 rfl) ?_
      refine lv_imul X.1 X.2.1 dX10_worthOf_45 ?_
      refine lv_iload X.1 X.2.1 dX10_worthOf_46 (lv_at hl 4 rfl) ?_
      refine lv_iadd X.1 X.2.1 dX10_worthOf_48 ?_
      obtain ⟨t12, q13, hf⟩ := bnd hf
      refine x_iald X M q13 dX10_worthOf_49 ?_
      refine lv_imul X.1 X.2.1 dX10_worthOf_50 ?_
      refine lv_i2l (v := ((Int32.toInt64 (t8 * t12)))) X.1 X.2.1 dX10_worthOf_51 rfl ?_
      refine lv_ladd X.1 X.2.1 dX10_worthOf_52 ?_
      refine lv_lstore_n (lv' := [(3, .long (v3 + ((Int32.toInt64 (t8 * t12))))), (0, .ref (gB G + v0)), (1, .int v1), (2, .int v2), (5, .int v5)]) X.1 X.2.1 dX10_worthOf_53 rfl hl (by decide) rfl (fun ls hl => ?_)
      refine lv_iinc (v := (v5 + 1)) (lv' := [(5, .int (v5 + 1)), (3, .long (v3 + ((Int32.toInt64 (t8 * t12))))), (0, .ref (gB G + v0)), (1, .int v1), (2, .int v2)]) X.1 X.2.1 dX10_worthOf_54 hl (k := 4) rfl (by first | rfl | decide) (by decide) rfl (fun ls hl => ?_)
      refine lv_goto (tgt := 16) X.1 X.2.1 dX10_worthOf_57 (by decide) ?_
      exact ih v0 v1 v2 (v3 + ((Int32.toInt64 (t8 * t12)))) (v5 + 1) h hf _ _ _ M (lv_sub hl [2, 3, 4, 1, 0] rfl)
def f_X10_worthOf_11 (N : Nat) (v0 : Nat) (v1 : Int32) (v2 : Int32) (h : Mem) : Option (Int64 × Mem) :=
  f_X10_worthOf_16 N N v0 v1 v2 (0 : Int64) (0 : Int32) h
set_option maxRecDepth 100000 in
set_option maxHeartbeats 4000000 in
theorem w_X10_worthOf_11 {p : Program} {l : Launch} {e : Env} {s : State} {m : MethodId} {args : Array Value} {below : List Frame} {meth : Method} {c : Code} {G : Gx} {r : Int64} {h' : Mem} (X : CX G p s m args c cX10_worthOf 7 RX10) (hr : meth.sig.returnType = (Option.some Jvm.ClassFile.FieldType.long)) (hk : meth.locks = false) (N : Nat) : ∀ (v0 : Nat) (v1 : Int32) (v2 : Int32) (h : Mem), f_X10_worthOf_11 N v0 v1 v2 h = some (r, h') → ∀ (H : Heap) (locs : List Loc) (ls : Array Slot), MS G s h H locs 0 → lv_has ls 7 [(0, .ref (gB G + v0)), (1, .int v1), (2, .int v2)] → W p l e (rm_X10_worthOf) s m args below meth c H locs 0 0 (QL G below args s r h' 0 0) (F0 m 11 ls []) := by
  intro v0 v1 v2 h hf H locs ls M hl
  rw [f_X10_worthOf_11] at hf
  refine lv_lconst (v := 0) X.1 X.2.1 dX10_worthOf_11 rfl ?_
  refine lv_lstore_n (lv' := [(3, .long (0 : Int64)), (0, .ref (gB G + v0)), (1, .int v1), (2, .int v2)]) X.1 X.2.1 dX10_worthOf_12 rfl hl (by decide) rfl (fun ls hl => ?_)
  refine lv_iconst (v := (0 : Int32)) X.1 X.2.1 dX10_worthOf_13 (by decide) ?_
  refine lv_istore (lv' := [(5, .int (0 : Int32)), (3, .long (0 : Int64)), (0, .ref (gB G + v0)), (1, .int v1), (2, .int v2)]) X.1 X.2.1 dX10_worthOf_14 hl (by decide) rfl (fun ls hl => ?_)
  exact w_X10_worthOf_16 X hr hk N N v0 v1 v2 (0 : Int64) (0 : Int32) h hf _ _ _ M (lv_sub hl [2, 3, 4, 1, 0] rfl)
def f_X10_worthOf (N : Nat) (v0 : Nat) (v1 : Int32) (v2 : Int32) (h : Mem) : Option (Int64 × Mem) :=
  (gI h v0 10 29).bind fun t1 =>
  if t1 = 0 then
    (ck h v0 10).bind fun _ =>
    (f_X10_findShun N v0 h).bind fun h6 =>
    f_X10_worthOf_11 N v0 v1 v2 h6
  else
    f_X10_worthOf_11 N v0 v1 v2 h
set_option maxRecDepth 100000 in
set_option maxHeartbeats 4000000 in
theorem w_X10_worthOf {p : Program} {l : Launch} {e : Env} {s : State} {m : MethodId} {args : Array Value} {below : List Frame} {meth : Method} {c : Code} {G : Gx} {r : Int64} {h' : Mem} (X : CX G p s m args c cX10_worthOf 7 RX10) (hr : meth.sig.returnType = (Option.some Jvm.ClassFile.FieldType.long)) (hk : meth.locks = false) (N : Nat) : ∀ (v0 : Nat) (v1 : Int32) (v2 : Int32) (h : Mem), f_X10_worthOf N v0 v1 v2 h = some (r, h') → ∀ (H : Heap) (locs : List Loc) (ls : Array Slot), MS G s h H locs 0 → lv_has ls 7 [(0, .ref (gB G + v0)), (1, .int v1), (2, .int v2)] → W p l e (rm_X10_worthOf) s m args below meth c H locs 0 0 (QL G below args s r h' 0 0) (F0 m 0 ls []) := by
  intro v0 v1 v2 h hf H locs ls M hl
  rw [f_X10_worthOf] at hf
  refine lv_aload_n X.1 X.2.1 dX10_worthOf_0 rfl (lv_at hl 0 rfl) ?_
  obtain ⟨t1, q2, hf⟩ := bnd hf
  refine x_geti fl_X10_98 X M q2 dX10_worthOf_1 ?_
  refine lv_if_ne (tgt := 11) X.1 X.2.1 dX10_worthOf_4 (by decide) (fun c3 => ?_) (fun c3 => ?_)
  · have hf := ifn c3 hf
    exact w_X10_worthOf_11 X hr hk N v0 v1 v2 h hf _ _ _ M (lv_sub hl [0, 1, 2] rfl)
  · have hf := ifp c3 hf
    refine lv_aload_n X.1 X.2.1 dX10_worthOf_7 rfl (lv_at hl 0 rfl) ?_
    obtain ⟨⟨⟩, q4, hf⟩ := bnd hf
    obtain ⟨h6, q5, hf⟩ := bnd hf
    refine x_callVv (As := []) cf_X10_289 (c_X10_findShun l G N v0 h _ q5) rfl ⟨rfl, rfl, Nat.le_of_ble_eq_true rfl, Nat.le_of_ble_eq_true rfl⟩ ⟨Nat.le_of_ble_eq_true rfl, Nat.le_of_ble_eq_true rfl⟩ X M (x_recv cls_X10 X M q4) rfl rfl hl.1 (Nat.le_of_ble_eq_true rfl) dX10_worthOf_8 (fun H locs M => ?_)
    exact w_X10_worthOf_11 X hr hk N v0 v1 v2 h6 hf _ _ _ M (lv_sub hl [0, 1, 2] rfl)
theorem c_X10_worthOf (l : Launch) (G : Gx) (N : Nat) (v0 : Nat) (v1 : Int32) (v2 : Int32) (h : Mem) (r : Int64) (h' : Mem) (hf : f_X10_worthOf N v0 v1 v2 h = some (r, h')) : MetG l G yX10_worthOf (.code yX10_worthOf cX10_worthOf 7 (Option.some Jvm.ClassFile.FieldType.long)) rm_X10_worthOf [.ref (gB G + v0), .int v1, .int v2] h (QcL G r h') 0 0 :=
  x_met (by decide) rfl (Nat.le_of_ble_eq_true rfl) (fun p e s m args below meth c ls X M hr hk hin hl => w_X10_worthOf X hr hk N v0 v1 v2 h hf _ _ ls M hl)
abbrev rm_X10_of : Room := { frames := 11, cells := 0, slots := 0, locals := 262 }
def f_X10_of (N : Nat) (v0 : Nat) (v1 : Int32) (v2 : Int32) (h : Mem) : Option (Int64 × Mem) :=
  (ck h v0 10).bind fun _ =>
  b2 (f_X10_isFamily N v0 v1 h) fun t4 h3 =>
  if t4 = 0 then
    some ((-9223372036854775808 : Int64), h3)
  else
    if v2 = 0 then
      (gR h3 v0 10 8).bind fun t7 =>
      (lI 100 h3 t7 v1).bind fun t9 =>
      some (((Int32.toInt64 t9)), h3)
    else
    if v2 = 1 then
      (gR h3 v0 10 9).bind fun t12 =>
      (lI 100 h3 t12 v1).bind fun t14 =>
      some (((Int32.toInt64 t14)), h3)
    else
    if v2 = 2 then
      (gR h3 v0 10 10).bind fun t17 =>
      (lI 100 h3 t17 v1).bind fun t19 =>
      some (((Int32.toInt64 t19)), h3)
    else
    if v2 = 3 then
      (gR h3 v0 10 11).bind fun t22 =>
      (lI 100 h3 t22 v1).bind fun t24 =>
      some (((Int32.toInt64 t24)), h3)
    else
    if v2 = 4 then
      (gR h3 v0 10 10).bind fun t27 =>
      (lI 100 h3 t27 v1).bind fun t29 =>
      (ck h3 v0 10).bind fun _ =>
      b2 (f_X10_dues N v0 v1 t29 h3) fun t34 h33 =>
      some (((Int32.toInt64 t34)), h33)
    else
    if v2 = 5 then
      (gR h3 v0 10 10).bind fun t36 =>
      (lI 100 h3 t36 v1).bind fun t38 =>
      (ck h3 v0 10).bind fun _ =>
      b2 (f_X10_worthOf N v0 v1 t38 h3) fun t43 h42 =>
      some (t43, h42)
    else
    some ((-9223372036854775808 : Int64), h3)
set_option maxRecDepth 100000 in
set_option maxHeartbeats 4000000 in
theorem w_X10_of {p : Program} {l : Launch} {e : Env} {s : State} {m : MethodId} {args : Array Value} {below : List Frame} {meth : Method} {c : Code} {G : Gx} {r : Int64} {h' : Mem} (X : CX G p s m args c cX10_of 3 RX10) (hr : meth.sig.returnType = (Option.some Jvm.ClassFile.FieldType.long)) (hk : meth.locks = false) (N : Nat) : ∀ (v0 : Nat) (v1 : Int32) (v2 : Int32) (h : Mem), f_X10_of N v0 v1 v2 h = some (r, h') → ∀ (H : Heap) (locs : List Loc) (ls : Array Slot), MS G s h H locs 0 → lv_has ls 3 [(0, .ref (gB G + v0)), (1, .int v1), (2, .int v2)] → W p l e (rm_X10_of) s m args below meth c H locs 0 0 (QL G below args s r h' 0 0) (F0 m 0 ls []) := by
  intro v0 v1 v2 h hf H locs ls M hl
  rw [f_X10_of] at hf
  refine lv_aload_n X.1 X.2.1 dX10_of_0 rfl (lv_at hl 0 rfl) ?_
  refine lv_iload_n X.1 X.2.1 dX10_of_1 rfl (lv_at hl 1 rfl) ?_
  obtain ⟨⟨⟩, q1, hf⟩ := bnd hf
  obtain ⟨t4, h3, q2, hf⟩ := bnd2 hf
  refine x_callVi (As := [.int v1]) cf_X10_216 (c_X10_isFamily l G N v0 v1 h _ _ q2) rfl ⟨rfl, rfl, Nat.le_of_ble_eq_true rfl, Nat.le_of_ble_eq_true rfl⟩ ⟨Nat.le_of_ble_eq_true rfl, Nat.le_of_ble_eq_true rfl⟩ X M (x_recv cls_X10 X M q1) rfl rfl hl.1 (Nat.le_of_ble_eq_true rfl) dX10_of_2 (fun H locs M => ?_)
  refine lv_if_ne (tgt := 12) X.1 X.2.1 dX10_of_5 (by decide) (fun c5 => ?_) (fun c5 => ?_)
  · have hf := ifn c5 hf
    refine lv_iload_n X.1 X.2.1 dX10_of_12 rfl (lv_at hl 2 rfl) ?_
    by_cases c6 : v2 = 0
    · have hf := ifp c6 hf
      refine x_tin (z := 0) (tgt := 52) X rfl c6 dX10_of_13 (by decide) (by decide) rfl (by decide) ?_
      refine lv_aload_n X.1 X.2.1 dX10_of_52 rfl (lv_at hl 0 rfl) ?_
      obtain ⟨t7, q8, hf⟩ := bnd hf
      refine x_getr fl_X10_35 X M q8 dX10_of_53 ?_
      refine lv_iload_n X.1 X.2.1 dX10_of_56 rfl (lv_at hl 1 rfl) ?_
      obtain ⟨t9, q10, hf⟩ := bnd hf
      refine x_iald X M q10 dX10_of_57 ?_
      refine lv_i2l (v := ((Int32.toInt64 t9))) X.1 X.2.1 dX10_of_58 rfl ?_
      obtain ⟨rfl, rfl⟩ := rt2 hf
      exact x_lret X hr hk M dX10_of_59
    have hf := ifn c6 hf
    by_cases c11 : v2 = 1
    · have hf := ifp c11 hf
      refine x_tin (z := 1) (tgt := 60) X rfl c11 dX10_of_13 (by decide) (by decide) rfl (by decide) ?_
      refine lv_aload_n X.1 X.2.1 dX10_of_60 rfl (lv_at hl 0 rfl) ?_
      obtain ⟨t12, q13, hf⟩ := bnd hf
      refine x_getr fl_X10_38 X M q13 dX10_of_61 ?_
      refine lv_iload_n X.1 X.2.1 dX10_of_64 rfl (lv_at hl 1 rfl) ?_
      obtain ⟨t14, q15, hf⟩ := bnd hf
      refine x_iald X M q15 dX10_of_65 ?_
      refine lv_i2l (v := ((Int32.toInt64 t14))) X.1 X.2.1 dX10_of_66 rfl ?_
      obtain ⟨rfl, rfl⟩ := rt2 hf
      exact x_lret X hr hk M dX10_of_67
    have hf := ifn c11 hf
    by_cases c16 : v2 = 2
    · have hf := ifp c16 hf
      refine x_tin (z := 2) (tgt := 68) X rfl c16 dX10_of_13 (by decide) (by decide) rfl (by decide) ?_
      refine lv_aload_n X.1 X.2.1 dX10_of_68 rfl (lv_at hl 0 rfl) ?_
      obtain ⟨t17, q18, hf⟩ := bnd hf
      refine x_getr fl_X10_41 X M q18 dX10_of_69 ?_
      refine lv_iload_n X.1 X.2.1 dX10_of_72 rfl (lv_at hl 1 rfl) ?_
      obtain ⟨t19, q20, hf⟩ := bnd hf
      refine x_iald X M q20 dX10_of_73 ?_
      refine lv_i2l (v := ((Int32.toInt64 t19))) X.1 X.2.1 dX10_of_74 rfl ?_
      obtain ⟨rfl, rfl⟩ := rt2 hf
      exact x_lret X hr hk M dX10_of_75
    have hf := ifn c16 hf
    by_cases c21 : v2 = 3
    · have hf := ifp c21 hf
      refine x_tin (z := 3) (tgt := 76) X rfl c21 dX10_of_13 (by decide) (by decide) rfl (by decide) ?_
      refine lv_aload_n X.1 X.2.1 dX10_of_76 rfl (lv_at hl 0 rfl) ?_
      obtain ⟨t22, q23, hf⟩ := bnd hf
      refine x_getr fl_X10_44 X M q23 dX10_of_77 ?_
      refine lv_iload_n X.1 X.2.1 dX10_of_80 rfl (lv_at hl 1 rfl) ?_
      obtain ⟨t24, q25, hf⟩ := bnd hf
      refine x_iald X M q25 dX10_of_81 ?_
      refine lv_i2l (v := ((Int32.toInt64 t24))) X.1 X.2.1 dX10_of_82 rfl ?_
      obtain ⟨rfl, rfl⟩ := rt2 hf
      exact x_lret X hr hk M dX10_of_83
    have hf := ifn c21 hf
    by_cases c26 : v2 = 4
    · have hf := ifp c26 hf
      refine x_tin (z := 4) (tgt := 84) X rfl c26 dX10_of_13 (by decide) (by decide) rfl (by decide) ?_
      refine lv_aload_n X.1 X.2.1 dX10_of_84 rfl (lv_at hl 0 rfl) ?_
      refine lv_iload_n X.1 X.2.1 dX10_of_85 rfl (lv_at hl 1 rfl) ?_
      refine lv_aload_n X.1 X.2.1 dX10_of_86 rfl (lv_at hl 0 rfl) ?_
      obtain ⟨t27, q28, hf⟩ := bnd hf
      refine x_getr fl_X10_41 X M q28 dX10_of_87 ?_
      refine lv_iload_n X.1 X.2.1 dX10_of_90 rfl (lv_at hl 1 rfl) ?_
      obtain ⟨t29, q30, hf⟩ := bnd hf
      refine x_iald X M q30 dX10_of_91 ?_
      obtain ⟨⟨⟩, q31, hf⟩ := bnd hf
      obtain ⟨t34, h33, q32, hf⟩ := bnd2 hf
      refine x_callVi (As := [.int v1, .int t29]) cf_X10_221 (c_X10_dues l G N v0 v1 t29 h3 _ _ q32) rfl ⟨rfl, rfl, Nat.le_of_ble_eq_true rfl, Nat.le_of_ble_eq_true rfl⟩ ⟨Nat.le_of_ble_eq_true rfl, Nat.le_of_ble_eq_true rfl⟩ X M (x_recv cls_X10 X M q31) rfl rfl hl.1 (Nat.le_of_ble_eq_true rfl) dX10_of_92 (fun H locs M => ?_)
      refine lv_i2l (v := ((Int32.toInt64 t34))) X.1 X.2.1 dX10_of_95 rfl ?_
      obtain ⟨rfl, rfl⟩ := rt2 hf
      exact x_lret X hr hk M dX10_of_96
    have hf := ifn c26 hf
    by_cases c35 : v2 = 5
    · have hf := ifp c35 hf
      refine x_tin (z := 5) (tgt := 97) X rfl c35 dX10_of_13 (by decide) (by decide) rfl (by decide) ?_
      refine lv_aload_n X.1 X.2.1 dX10_of_97 rfl (lv_at hl 0 rfl) ?_
      refine lv_iload_n X.1 X.2.1 dX10_of_98 rfl (lv_at hl 1 rfl) ?_
      refine lv_aload_n X.1 X.2.1 dX10_of_99 rfl (lv_at hl 0 rfl) ?_
      obtain ⟨t36, q37, hf⟩ := bnd hf
      refine x_getr fl_X10_41 X M q37 dX10_of_100 ?_
      refine lv_iload_n X.1 X.2.1 dX10_of_103 rfl (lv_at hl 1 rfl) ?_
      obtain ⟨t38, q39, hf⟩ := bnd hf
      refine x_iald X M q39 dX10_of_104 ?_
      obtain ⟨⟨⟩, q40, hf⟩ := bnd hf
      obtain ⟨t43, h42, q41, hf⟩ := bnd2 hf
      refine x_callVl (As := [.int v1, .int t38]) cf_X10_225 (c_X10_worthOf l G N v0 v1 t38 h3 _ _ q41) rfl ⟨rfl, rfl, Nat.le_of_ble_eq_true rfl, Nat.le_of_ble_eq_true rfl⟩ ⟨Nat.le_of_ble_eq_true rfl, Nat.le_of_ble_eq_true rfl⟩ X M (x_recv cls_X10 X M q40) rfl rfl hl.1 (Nat.le_of_ble_eq_true rfl) dX10_of_105 (fun H locs M => ?_)
      obtain ⟨rfl, rfl⟩ := rt2 hf
      exact x_lret X hr hk M dX10_of_108
    have hf := ifn c35 hf
    have nc6 := lv_neT (a := 0) c6 rfl
    have nc11 := lv_neT (a := 1) c11 rfl
    have nc16 := lv_neT (a := 2) c16 rfl
    have nc21 := lv_neT (a := 3) c21 rfl
    have nc26 := lv_neT (a := 4) c26 rfl
    have nc35 := lv_neT (a := 5) c35 rfl
    refine lv_tableOut (tgt := 109) X.1 X.2.1 dX10_of_13 (by omega) (by decide) ?_
    refine lv_ldc2 X.1 X.2.1 X.2.2.2.1 (X.2.2.2.2.1 _ k_1175) dX10_of_109 ?_
    obtain ⟨rfl, rfl⟩ := rt2 hf
    exact x_lret X hr hk M dX10_of_112
  · have hf := ifp c5 hf
    refine lv_ldc2 X.1 X.2.1 X.2.2.2.1 (X.2.2.2.2.1 _ k_1175) dX10_of_8 ?_
    obtain ⟨rfl, rfl⟩ := rt2 hf
    exact x_lret X hr hk M dX10_of_11
theorem c_X10_of (l : Launch) (G : Gx) (N : Nat) (v0 : Nat) (v1 : Int32) (v2 : Int32) (h : Mem) (r : Int64) (h' : Mem) (hf : f_X10_of N v0 v1 v2 h = some (r, h')) : MetG l G yX10_of (.code yX10_of cX10_of 3 (Option.some Jvm.ClassFile.FieldType.long)) rm_X10_of [.ref (gB G + v0), .int v1, .int v2] h (QcL G r h') 0 0 :=
  x_met (by decide) rfl (Nat.le_of_ble_eq_true rfl) (fun p e s m args below meth c ls X M hr hk hin hl => w_X10_of X hr hk N v0 v1 v2 h hf _ _ ls M hl)
