abbrev rm_X10_has : Room := { frames := 3, cells := 0, slots := 0, locals := 84 }
def f_X10_has_112 (N : Nat) (v0 : Nat) (v1 : Int32) (v2 : Int32) (h : Mem) : Option (Int32 × Mem) :=
  (gR h v0 10 4).bind fun t1 =>
  (lI 100 h t1 ((((3 : Int32) * v1) + v2) - (3 : Int32))).bind fun t3 =>
  some (t3, h)
set_option maxRecDepth 100000 in
set_option maxHeartbeats 4000000 in
theorem w_X10_has_112 {p : Program} {l : Launch} {e : Env} {s : State} {m : MethodId} {args : Array Value} {below : List Frame} {meth : Method} {c : Code} {G : Gx} {r : Int32} {h' : Mem} (X : CX G p s m args c cX10_has 3 RX10) (hr : meth.sig.returnType = (Option.some Jvm.ClassFile.FieldType.int)) (hk : meth.locks = false) (N : Nat) : ∀ (v0 : Nat) (v1 : Int32) (v2 : Int32) (h : Mem), f_X10_has_112 N v0 v1 v2 h = some (r, h') → ∀ (H : Heap) (locs : List Loc) (ls : Array Slot), MS G s h H locs 0 → lv_has ls 3 [(0, .ref (gB G + v0)), (1, .int v1), (2, .int v2)] → W p l e (rm_X10_has) s m args below meth c H locs 0 0 (QI G below args s r h' 0 0) (F0 m 112 ls []) := by
  intro v0 v1 v2 h hf H locs ls M hl
  rw [f_X10_has_112] at hf
  refine lv_aload_n X.1 X.2.1 dX10_has_112 rfl (lv_at hl 0 rfl) ?_
  obtain ⟨t1, q2, hf⟩ := bnd hf
  refine x_getr fl_X10_23 X M q2 dX10_has_113 ?_
  refine lv_iconst (v := (3 : Int32)) X.1 X.2.1 dX10_has_116 (by decide) ?_
  refine lv_iload_n X.1 X.2.1 dX10_has_117 rfl (lv_at hl 1 rfl) ?_
  refine lv_imul X.1 X.2.1 dX10_has_118 ?_
  refine lv_iload_n X.1 X.2.1 dX10_has_119 rfl (lv_at hl 2 rfl) ?_
  refine lv_iadd X.1 X.2.1 dX10_has_120 ?_
  refine lv_iconst (v := (3 : Int32)) X.1 X.2.1 dX10_has_121 (by decide) ?_
  refine lv_isub X.1 X.2.1 dX10_has_122 ?_
  obtain ⟨t3, q4, hf⟩ := bnd hf
  refine x_iald X M q4 dX10_has_123 ?_
  obtain ⟨rfl, rfl⟩ := rt2 hf
  exact x_iret X hr hk M dX10_has_124
def f_X10_has (N : Nat) (v0 : Nat) (v1 : Int32) (v2 : Int32) (h : Mem) : Option (Int32 × Mem) :=
  (ck h v0 10).bind fun _ =>
  b2 (f_X10_isTown N v0 v1 h) fun t4 h3 =>
  if t4 = 0 then
    some ((-1 : Int32), h3)
  else
    (ck h3 v0 10).bind fun _ =>
    b2 (f_X10_in N v0 v2 (0 : Int32) (8 : Int32) h3) fun t9 h8 =>
    if t9 = 0 then
      some ((-1 : Int32), h8)
    else
      if v2 = 0 then
        (gR h8 v0 10 3).bind fun t12 =>
        (lI 100 h8 t12 v1).bind fun t14 =>
        some (t14, h8)
      else
      if v2 = 1 then
        (ck h8 v0 10).bind fun _ =>
        b2 (f_X10_manyIn N v0 v1 h8) fun t20 h19 =>
        some (t20, h19)
      else
      if v2 = 2 then
        (ck h8 v0 10).bind fun _ =>
        b2 (f_X10_costOf N v0 v1 h8) fun t25 h24 =>
        some (t25, h24)
      else
      if v2 = 3 then
        f_X10_has_112 N v0 v1 v2 h8
      else
      if v2 = 4 then
        f_X10_has_112 N v0 v1 v2 h8
      else
      if v2 = 5 then
        f_X10_has_112 N v0 v1 v2 h8
      else
      if v2 = 6 then
        (gR h8 v0 10 5).bind fun t30 =>
        (lI 100 h8 t30 v1).bind fun t32 =>
        some (t32, h8)
      else
      if v2 = 7 then
        (gR h8 v0 10 6).bind fun t35 =>
        (lI 100 h8 t35 v1).bind fun t37 =>
        some (t37, h8)
      else
      if v2 = 8 then
        (gR h8 v0 10 7).bind fun t40 =>
        (lI 100 h8 t40 v1).bind fun t42 =>
        some (t42, h8)
      else
      f_X10_has_112 N v0 v1 v2 h8
set_option maxRecDepth 100000 in
set_option maxHeartbeats 4000000 in
theorem w_X10_has {p : Program} {l : Launch} {e : Env} {s : State} {m : MethodId} {args : Array Value} {below : List Frame} {meth : Method} {c : Code} {G : Gx} {r : Int32} {h' : Mem} (X : CX G p s m args c cX10_has 3 RX10) (hr : meth.sig.returnType = (Option.some Jvm.ClassFile.FieldType.int)) (hk : meth.locks = false) (N : Nat) : ∀ (v0 : Nat) (v1 : Int32) (v2 : Int32) (h : Mem), f_X10_has N v0 v1 v2 h = some (r, h') → ∀ (H : Heap) (locs : List Loc) (ls : Array Slot), MS G s h H locs 0 → lv_has ls 3 [(0, .ref (gB G + v0)), (1, .int v1), (2, .int v2)] → W p l e (rm_X10_has) s m args below meth c H locs 0 0 (QI G below args s r h' 0 0) (F0 m 0 ls []) := by
  intro v0 v1 v2 h hf H locs ls M hl
  rw [f_X10_has] at hf
  refine lv_aload_n X.1 X.2.1 dX10_has_0 rfl (lv_at hl 0 rfl) ?_
  refine lv_iload_n X.1 X.2.1 dX10_has_1 rfl (lv_at hl 1 rfl) ?_
  obtain ⟨⟨⟩, q1, hf⟩ := bnd hf
  obtain ⟨t4, h3, q2, hf⟩ := bnd2 hf
  refine x_callVi (As := [.int v1]) cf_X10_205 (c_X10_isTown l G N v0 v1 h _ _ q2) rfl ⟨rfl, rfl, Nat.le_of_ble_eq_true rfl, Nat.le_of_ble_eq_true rfl⟩ ⟨Nat.le_of_ble_eq_true rfl, Nat.le_of_ble_eq_true rfl⟩ X M (x_recv cls_X10 X M q1) rfl rfl hl.1 (Nat.le_of_ble_eq_true rfl) dX10_has_2 (fun H locs M => ?_)
  refine lv_if_eq (tgt := 19) X.1 X.2.1 dX10_has_5 (by decide) (fun c5 => ?_) (fun c5 => ?_)
  · have hf := ifp c5 hf
    refine lv_iconst (v := (-1 : Int32)) X.1 X.2.1 dX10_has_19 (by decide) ?_
    obtain ⟨rfl, rfl⟩ := rt2 hf
    exact x_iret X hr hk M dX10_has_20
  · have hf := ifn c5 hf
    refine lv_aload_n X.1 X.2.1 dX10_has_8 rfl (lv_at hl 0 rfl) ?_
    refine lv_iload_n X.1 X.2.1 dX10_has_9 rfl (lv_at hl 2 rfl) ?_
    refine lv_iconst (v := (0 : Int32)) X.1 X.2.1 dX10_has_10 (by decide) ?_
    refine lv_bipush (v := (8 : Int32)) X.1 X.2.1 dX10_has_11 (by decide) ?_
    obtain ⟨⟨⟩, q6, hf⟩ := bnd hf
    obtain ⟨t9, h8, q7, hf⟩ := bnd2 hf
    refine x_callVi (As := [.int v2, .int (0 : Int32), .int (8 : Int32)]) cf_X10_197 (c_X10_in l G N v0 v2 (0 : Int32) (8 : Int32) h3 _ _ q7) rfl ⟨rfl, rfl, Nat.le_of_ble_eq_true rfl, Nat.le_of_ble_eq_true rfl⟩ ⟨Nat.le_of_ble_eq_true rfl, Nat.le_of_ble_eq_true rfl⟩ X M (x_recv cls_X10 X M q6) rfl rfl hl.1 (Nat.le_of_ble_eq_true rfl) dX10_has_13 (fun H locs M => ?_)
    refine lv_if_ne (tgt := 21) X.1 X.2.1 dX10_has_16 (by decide) (fun c10 => ?_) (fun c10 => ?_)
    · have hf := ifn c10 hf
      refine lv_iload_n X.1 X.2.1 dX10_has_21 rfl (lv_at hl 2 rfl) ?_
      by_cases c11 : v2 = 0
      · have hf := ifp c11 hf
        refine x_tin (z := 0) (tgt := 72) X rfl c11 dX10_has_22 (by decide) (by decide) rfl (by decide) ?_
        refine lv_aload_n X.1 X.2.1 dX10_has_72 rfl (lv_at hl 0 rfl) ?_
        obtain ⟨t12, q13, hf⟩ := bnd hf
        refine x_getr fl_X10_19 X M q13 dX10_has_73 ?_
        refine lv_iload_n X.1 X.2.1 dX10_has_76 rfl (lv_at hl 1 rfl) ?_
        obtain ⟨t14, q15, hf⟩ := bnd hf
        refine x_iald X M q15 dX10_has_77 ?_
        obtain ⟨rfl, rfl⟩ := rt2 hf
        exact x_iret X hr hk M dX10_has_78
      have hf := ifn c11 hf
      by_cases c16 : v2 = 1
      · have hf := ifp c16 hf
        refine x_tin (z := 1) (tgt := 79) X rfl c16 dX10_has_22 (by decide) (by decide) rfl (by decide) ?_
        refine lv_aload_n X.1 X.2.1 dX10_has_79 rfl (lv_at hl 0 rfl) ?_
        refine lv_iload_n X.1 X.2.1 dX10_has_80 rfl (lv_at hl 1 rfl) ?_
        obtain ⟨⟨⟩, q17, hf⟩ := bnd hf
        obtain ⟨t20, h19, q18, hf⟩ := bnd2 hf
        refine x_callVi (As := [.int v1]) cf_X10_201 (c_X10_manyIn l G N v0 v1 h8 _ _ q18) rfl ⟨rfl, rfl, Nat.le_of_ble_eq_true rfl, Nat.le_of_ble_eq_true rfl⟩ ⟨Nat.le_of_ble_eq_true rfl, Nat.le_of_ble_eq_true rfl⟩ X M (x_recv cls_X10 X M q17) rfl rfl hl.1 (Nat.le_of_ble_eq_true rfl) dX10_has_81 (fun H locs M => ?_)
        obtain ⟨rfl, rfl⟩ := rt2 hf
        exact x_iret X hr hk M dX10_has_84
      have hf := ifn c16 hf
      by_cases c21 : v2 = 2
      · have hf := ifp c21 hf
        refine x_tin (z := 2) (tgt := 85) X rfl c21 dX10_has_22 (by decide) (by decide) rfl (by decide) ?_
        refine lv_aload_n X.1 X.2.1 dX10_has_85 rfl (lv_at hl 0 rfl) ?_
        refine lv_iload_n X.1 X.2.1 dX10_has_86 rfl (lv_at hl 1 rfl) ?_
        obtain ⟨⟨⟩, q22, hf⟩ := bnd hf
        obtain ⟨t25, h24, q23, hf⟩ := bnd2 hf
        refine x_callVi (As := [.int v1]) cf_X10_229 (c_X10_costOf l G N v0 v1 h8 _ _ q23) rfl ⟨rfl, rfl, Nat.le_of_ble_eq_true rfl, Nat.le_of_ble_eq_true rfl⟩ ⟨Nat.le_of_ble_eq_true rfl, Nat.le_of_ble_eq_true rfl⟩ X M (x_recv cls_X10 X M q22) rfl rfl hl.1 (Nat.le_of_ble_eq_true rfl) dX10_has_87 (fun H locs M => ?_)
        obtain ⟨rfl, rfl⟩ := rt2 hf
        exact x_iret X hr hk M dX10_has_90
      have hf := ifn c21 hf
      by_cases c26 : v2 = 3
      · have hf := ifp c26 hf
        refine x_tin (z := 3) (tgt := 112) X rfl c26 dX10_has_22 (by decide) (by decide) rfl (by decide) ?_
        exact w_X10_has_112 X hr hk N v0 v1 v2 h8 hf _ _ _ M (lv_sub hl [0, 1, 2] rfl)
      have hf := ifn c26 hf
      by_cases c27 : v2 = 4
      · have hf := ifp c27 hf
        refine x_tin (z := 4) (tgt := 112) X rfl c27 dX10_has_22 (by decide) (by decide) rfl (by decide) ?_
        exact w_X10_has_112 X hr hk N v0 v1 v2 h8 hf _ _ _ M (lv_sub hl [0, 1, 2] rfl)
      have hf := ifn c27 hf
      by_cases c28 : v2 = 5
      · have hf := ifp c28 hf
        refine x_tin (z := 5) (tgt := 112) X rfl c28 dX10_has_22 (by decide) (by decide) rfl (by decide) ?_
        exact w_X10_has_112 X hr hk N v0 v1 v2 h8 hf _ _ _ M (lv_sub hl [0, 1, 2] rfl)
      have hf := ifn c28 hf
      by_cases c29 : v2 = 6
      · have hf := ifp c29 hf
        refine x_tin (z := 6) (tgt := 91) X rfl c29 dX10_has_22 (by decide) (by decide) rfl (by decide) ?_
        refine lv_aload_n X.1 X.2.1 dX10_has_91 rfl (lv_at hl 0 rfl) ?_
        obtain ⟨t30, q31, hf⟩ := bnd hf
        refine x_getr fl_X10_26 X M q31 dX10_has_92 ?_
        refine lv_iload_n X.1 X.2.1 dX10_has_95 rfl (lv_at hl 1 rfl) ?_
        obtain ⟨t32, q33, hf⟩ := bnd hf
        refine x_iald X M q33 dX10_has_96 ?_
        obtain ⟨rfl, rfl⟩ := rt2 hf
        exact x_iret X hr hk M dX10_has_97
      have hf := ifn c29 hf
      by_cases c34 : v2 = 7
      · have hf := ifp c34 hf
        refine x_tin (z := 7) (tgt := 98) X rfl c34 dX10_has_22 (by decide) (by decide) rfl (by decide) ?_
        refine lv_aload_n X.1 X.2.1 dX10_has_98 rfl (lv_at hl 0 rfl) ?_
        obtain ⟨t35, q36, hf⟩ := bnd hf
        refine x_getr fl_X10_29 X M q36 dX10_has_99 ?_
        refine lv_iload_n X.1 X.2.1 dX10_has_102 rfl (lv_at hl 1 rfl) ?_
        obtain ⟨t37, q38, hf⟩ := bnd hf
        refine x_iald X M q38 dX10_has_103 ?_
        obtain ⟨rfl, rfl⟩ := rt2 hf
        exact x_iret X hr hk M dX10_has_104
      have hf := ifn c34 hf
      by_cases c39 : v2 = 8
      · have hf := ifp c39 hf
        refine x_tin (z := 8) (tgt := 105) X rfl c39 dX10_has_22 (by decide) (by decide) rfl (by decide) ?_
        refine lv_aload_n X.1 X.2.1 dX10_has_105 rfl (lv_at hl 0 rfl) ?_
        obtain ⟨t40, q41, hf⟩ := bnd hf
        refine x_getr fl_X10_32 X M q41 dX10_has_106 ?_
        refine lv_iload_n X.1 X.2.1 dX10_has_109 rfl (lv_at hl 1 rfl) ?_
        obtain ⟨t42, q43, hf⟩ := bnd hf
        refine x_iald X M q43 dX10_has_110 ?_
        obtain ⟨rfl, rfl⟩ := rt2 hf
        exact x_iret X hr hk M dX10_has_111
      have hf := ifn c39 hf
      have nc11 := lv_neT (a := 0) c11 rfl
      have nc16 := lv_neT (a := 1) c16 rfl
      have nc21 := lv_neT (a := 2) c21 rfl
      have nc26 := lv_neT (a := 3) c26 rfl
      have nc27 := lv_neT (a := 4) c27 rfl
      have nc28 := lv_neT (a := 5) c28 rfl
      have nc29 := lv_neT (a := 6) c29 rfl
      have nc34 := lv_neT (a := 7) c34 rfl
      have nc39 := lv_neT (a := 8) c39 rfl
      refine lv_tableOut (tgt := 112) X.1 X.2.1 dX10_has_22 (by omega) (by decide) ?_
      exact w_X10_has_112 X hr hk N v0 v1 v2 h8 hf _ _ _ M (lv_sub hl [0, 1, 2] rfl)
    · have hf := ifp c10 hf
      refine lv_iconst (v := (-1 : Int32)) X.1 X.2.1 dX10_has_19 (by decide) ?_
      obtain ⟨rfl, rfl⟩ := rt2 hf
      exact x_iret X hr hk M dX10_has_20
theorem c_X10_has (l : Launch) (G : Gx) (N : Nat) (v0 : Nat) (v1 : Int32) (v2 : Int32) (h : Mem) (r : Int32) (h' : Mem) (hf : f_X10_has N v0 v1 v2 h = some (r, h')) : MetG l G yX10_has (.code yX10_has cX10_has 3 (Option.some Jvm.ClassFile.FieldType.int)) rm_X10_has [.ref (gB G + v0), .int v1, .int v2] h (QcI G r h') 0 0 :=
  x_met (by decide) rfl (Nat.le_of_ble_eq_true rfl) (fun p e s m args below meth c ls X M hr hk hin hl => w_X10_has X hr hk N v0 v1 v2 h hf _ _ ls M hl)
abbrev rm_X10_feed : Room := { frames := 2, cells := 0, slots := 0, locals := 63 }
def f_X10_feed_31 (N : Nat) (n : Nat) (v0 : Nat) (v1 : Int32) (v3 : Int32) (h : Mem) : Option (Int32 × Mem) := match n with
  | 0 => none
  | n + 1 =>
    if v3 < 0 then
      (gI h v0 10 13).bind fun t2 =>
      some (t2, h)
    else
      (gR h v0 10 14).bind fun t4 =>
      (gI h v0 10 13).bind fun t6 =>
      (stI 100 h t4 ((120 : Int32) + t6) ((Int32.toInt8 (v1 >>> (((8 : Int32) * v3) &&& 31))).toInt32)).bind fun h8 =>
      (gI h8 v0 10 13).bind fun t10 =>
      (sI h8 v0 10 13 (t10 + (1 : Int32))).bind fun h12 =>
      f_X10_feed_31 N n v0 v1 (v3 + (-1)) h12
set_option maxRecDepth 100000 in
set_option maxHeartbeats 4000000 in
theorem w_X10_feed_31 {p : Program} {l : Launch} {e : Env} {s : State} {m : MethodId} {args : Array Value} {below : List Frame} {meth : Method} {c : Code} {G : Gx} {r : Int32} {h' : Mem} (X : CX G p s m args c cX10_feed 4 RX10) (hr : meth.sig.returnType = (Option.some Jvm.ClassFile.FieldType.int)) (hk : meth.locks = false) (N : Nat) : ∀ (n : Nat) (v0 : Nat) (v1 : Int32) (v3 : Int32) (h : Mem), f_X10_feed_31 N n v0 v1 v3 h = some (r, h') → ∀ (H : Heap) (locs : List Loc) (ls : Array Slot), MS G s h H locs 0 → lv_has ls 4 [(0, .ref (gB G + v0)), (1, .int v1), (3, .int v3)] → W p l e (rm_X10_feed) s m args below meth c H locs 0 0 (QI G below args s r h' 0 0) (F0 m 31 ls []) := by
  intro n
  induction n with
  | zero =>
    intro v0 v1 v3 h hf
    cases hf
  | succ n ih =>
    intro v0 v1 v3 h hf H locs ls M hl
    rw [f_X10_feed_31] at hf
    refine lv_iload_n X.1 X.2.1 dX10_feed_31 rfl (lv_at hl 2 rfl) ?_
    refine lv_if_lt (tgt := 70) X.1 X.2.1 dX10_feed_32 (by decide) (fun c1 => ?_) (fun c1 => ?_)
    · have hf := ifp c1 hf
      refine lv_aload_n X.1 X.2.1 dX10_feed_70 rfl (lv_at hl 0 rfl) ?_
      obtain ⟨t2, q3, hf⟩ := bnd hf
      refine x_geti fl_X10_50 X M q3 dX10_feed_71 ?_
      obtain ⟨rfl, rfl⟩ := rt2 hf
      exact x_iret X hr hk M dX10_feed_74
    · have hf := ifn c1 hf
      refine lv_aload_n X.1 X.2.1 dX10_feed_35 rfl (lv_at hl 0 rfl) ?_
      obtain ⟨t4, q5, hf⟩ := bnd hf
      refine x_getr fl_X10_53 X M q5 dX10_feed_36 ?_
      refine lv_bipush (v := (120 : Int32)) X.1 X.2.1 dX10_feed_39 (by decide) ?_
      refine lv_aload_n X.1 X.2.1 dX10_feed_41 rfl (lv_at hl 0 rfl) ?_
      obtain ⟨t6, q7, hf⟩ := bnd hf
      refine x_geti fl_X10_50 X M q7 dX10_feed_42 ?_
      refine lv_iadd X.1 X.2.1 dX10_feed_45 ?_
      refine lv_iload_n X.1 X.2.1 dX10_feed_46 rfl (lv_at hl 1 rfl) ?_
      refine lv_bipush (v := (8 : Int32)) X.1 X.2.1 dX10_feed_47 (by decide) ?_
      refine lv_iload_n X.1 X.2.1 dX10_feed_49 rfl (lv_at hl 2 rfl) ?_
      refine lv_imul X.1 X.2.1 dX10_feed_50 ?_
      refine lv_ishr X.1 X.2.1 dX10_feed_51 ?_
      refine lv_i2b (v := ((Int32.toInt8 (v1 >>> (((8 : Int32) * v3) &&& 31))).toInt32)) X.1 X.2.1 dX10_feed_52 rfl ?_
      obtain ⟨h8, q9, hf⟩ := bnd hf
      refine x_iast X M q9 dX10_feed_53 (fun H locs M => ?_)
      refine lv_aload_n X.1 X.2.1 dX10_feed_54 rfl (lv_at hl 0 rfl) ?_
      refine lv_dup X.1 X.2.1 dX10_feed_55 rfl ?_
      obtain ⟨t10, q11, hf⟩ := bnd hf
      refine x_geti fl_X10_50 X M q11 dX10_feed_56 ?_
      refine lv_iconst (v := (1 : Int32)) X.1 X.2.1 dX10_feed_59 (by decide) ?_
      refine lv_iadd X.1 X.2.1 dX10_feed_60 ?_
      obtain ⟨h12, q13, hf⟩ := bnd hf
      refine x_puti fl_X10_50 fp_X10_50.1 fp_X10_50.2 X M q13 dX10_feed_61 (fun H locs M => ?_)
      refine lv_iinc (v := (v3 + (-1))) (lv' := [(3, .int (v3 + (-1))), (0, .ref (gB G + v0)), (1, .int v1)]) X.1 X.2.1 dX10_feed_64 hl (k := 2) rfl (by first | rfl | decide) (by decide) rfl (fun ls hl => ?_)
      refine lv_goto (tgt := 31) X.1 X.2.1 dX10_feed_67 (by decide) ?_
      exact ih v0 v1 (v3 + (-1)) h12 hf _ _ _ M (lv_sub hl [1, 2, 0] rfl)
def f_X10_feed (N : Nat) (v0 : Nat) (v1 : Int32) (v2 : Int32) (h : Mem) : Option (Int32 × Mem) :=
  (ck h v0 10).bind fun _ =>
  b2 (f_X10_in N v0 v2 (0 : Int32) (4 : Int32) h) fun t4 h3 =>
  if t4 = 0 then
    some ((-2 : Int32), h3)
  else
    (gI h3 v0 10 13).bind fun t6 =>
    if (t6 + v2) ≤ (120 : Int32) then
      f_X10_feed_31 N N v0 v1 (v2 - (1 : Int32)) h3
    else
      some ((-4 : Int32), h3)
set_option maxRecDepth 100000 in
set_option maxHeartbeats 4000000 in
theorem w_X10_feed {p : Program} {l : Launch} {e : Env} {s : State} {m : MethodId} {args : Array Value} {below : List Frame} {meth : Method} {c : Code} {G : Gx} {r : Int32} {h' : Mem} (X : CX G p s m args c cX10_feed 4 RX10) (hr : meth.sig.returnType = (Option.some Jvm.ClassFile.FieldType.int)) (hk : meth.locks = false) (N : Nat) : ∀ (v0 : Nat) (v1 : Int32) (v2 : Int32) (h : Mem), f_X10_feed N v0 v1 v2 h = some (r, h') → ∀ (H : Heap) (locs : List Loc) (ls : Array Slot), MS G s h H locs 0 → lv_has ls 4 [(0, .ref (gB G + v0)), (1, .int v1), (2, .int v2)] → W p l e (rm_X10_feed) s m args below meth c H locs 0 0 (QI G below args s r h' 0 0) (F0 m 0 ls []) := by
  intro v0 v1 v2 h hf H locs ls M hl
  rw [f_X10_feed] at hf
  refine lv_aload_n X.1 X.2.1 dX10_feed_0 rfl (lv_at hl 0 rfl) ?_
  refine lv_iload_n X.1 X.2.1 dX10_feed_1 rfl (lv_at hl 2 rfl) ?_
  refine lv_iconst (v := (0 : Int32)) X.1 X.2.1 dX10_feed_2 (by decide) ?_
  refine lv_iconst (v := (4 : Int32)) X.1 X.2.1 dX10_feed_3 (by decide) ?_
  obtain ⟨⟨⟩, q1, hf⟩ := bnd hf
  obtain ⟨t4, h3, q2, hf⟩ := bnd2 hf
  refine x_callVi (As := [.int v2, .int (0 : Int32), .int (4 : Int32)]) cf_X10_197 (c_X10_in l G N v0 v2 (0 : Int32) (4 : Int32) h _ _ q2) rfl ⟨rfl, rfl, Nat.le_of_ble_eq_true rfl, Nat.le_of_ble_eq_true rfl⟩ ⟨Nat.le_of_ble_eq_true rfl, Nat.le_of_ble_eq_true rfl⟩ X M (x_recv cls_X10 X M q1) rfl rfl hl.1 (Nat.le_of_ble_eq_true rfl) dX10_feed_4 (fun H locs M => ?_)
  refine lv_if_ne (tgt := 13) X.1 X.2.1 dX10_feed_7 (by decide) (fun c5 => ?_) (fun c5 => ?_)
  · have hf := ifn c5 hf
    refine lv_aload_n X.1 X.2.1 dX10_feed_13 rfl (lv_at hl 0 rfl) ?_
    obtain ⟨t6, q7, hf⟩ := bnd hf
    refine x_geti fl_X10_50 X M q7 dX10_feed_14 ?_
    refine lv_iload_n X.1 X.2.1 dX10_feed_17 rfl (lv_at hl 2 rfl) ?_
    refine lv_iadd X.1 X.2.1 dX10_feed_18 ?_
    refine lv_bipush (v := (120 : Int32)) X.1 X.2.1 dX10_feed_19 (by decide) ?_
    refine lv_icmp_le (tgt := 27) X.1 X.2.1 dX10_feed_21 (by decide) (fun c8 => ?_) (fun c8 => ?_)
    · have hf := ifp c8 hf
      refine lv_iload_n X.1 X.2.1 dX10_feed_27 rfl (lv_at hl 2 rfl) ?_
      refine lv_iconst (v := (1 : Int32)) X.1 X.2.1 dX10_feed_28 (by decide) ?_
      refine lv_isub X.1 X.2.1 dX10_feed_29 ?_
      refine lv_istore_n (lv' := [(3, .int (v2 - (1 : Int32))), (0, .ref (gB G + v0)), (1, .int v1), (2, .int v2)]) X.1 X.2.1 dX10_feed_30 rfl hl (by decide) rfl (fun ls hl => ?_)
      exact w_X10_feed_31 X hr hk N N v0 v1 (v2 - (1 : Int32)) h3 hf _ _ _ M (lv_sub hl [1, 2, 0] rfl)
    · have hf := ifn c8 hf
      refine lv_bipush (v := (-4 : Int32)) X.1 X.2.1 dX10_feed_24 (by decide) ?_
      obtain ⟨rfl, rfl⟩ := rt2 hf
      exact x_iret X hr hk M dX10_feed_26
  · have hf := ifp c5 hf
    refine lv_bipush (v := (-2 : Int32)) X.1 X.2.1 dX10_feed_10 (by decide) ?_
    obtain ⟨rfl, rfl⟩ := rt2 hf
    exact x_iret X hr hk M dX10_feed_12
theorem c_X10_feed (l : Launch) (G : Gx) (N : Nat) (v0 : Nat) (v1 : Int32) (v2 : Int32) (h : Mem) (r : Int32) (h' : Mem) (hf : f_X10_feed N v0 v1 v2 h = some (r, h')) : MetG l G yX10_feed (.code yX10_feed cX10_feed 4 (Option.some Jvm.ClassFile.FieldType.int)) rm_X10_feed [.ref (gB G + v0), .int v1, .int v2] h (QcI G r h') 0 0 :=
  x_met (by decide) rfl (Nat.le_of_ble_eq_true rfl) (fun p e s m args below meth c ls X M hr hk hin hl => w_X10_feed X hr hk N v0 v1 v2 h hf _ _ ls M hl)
abbrev rm_X10_land : Room := { frames := 9, cells := 0, slots := 0, locals := 213 }
def f_X10_land_130 (N : Nat) (n : Nat) (v0 : Nat) (v1 : Int32) (h : Mem) : Option (Int32 × Mem) := match n with
  | 0 => none
  | n + 1 =>
    if (3 : Int32) ≤ v1 then
      (gI h v0 10 38).bind fun t2 =>
      (sI h v0 10 25 t2).bind fun h4 =>
      (gI h4 v0 10 39).bind fun t6 =>
      (sI h4 v0 10 26 t6).bind fun h8 =>
      (gI h8 v0 10 40).bind fun t10 =>
      (sI h8 v0 10 27 t10).bind fun h12 =>
      (sZ h12 v0 10 29 (0 : Int32)).bind fun h14 =>
      (gI h14 v0 10 12).bind fun t16 =>
      (sI h14 v0 10 12 (t16 + (1 : Int32))).bind fun h18 =>
      (gI h18 v0 10 12).bind fun t20 =>
      some (t20, h18)
    else
      (gR h v0 10 24).bind fun t22 =>
      (gR h v0 10 37).bind fun t24 =>
      (lI 100 h t24 v1).bind fun t26 =>
      (stI 100 h t22 v1 t26).bind fun h28 =>
      f_X10_land_130 N n v0 (v1 + 1) h28
set_option maxRecDepth 100000 in
set_option maxHeartbeats 4000000 in
theorem w_X10_land_130 {p : Program} {l : Launch} {e : Env} {s : State} {m : MethodId} {args : Array Value} {below : List Frame} {meth : Method} {c : Code} {G : Gx} {r : Int32} {h' : Mem} (X : CX G p s m args c cX10_land 2 RX10) (hr : meth.sig.returnType = (Option.some Jvm.ClassFile.FieldType.int)) (hk : meth.locks = false) (N : Nat) : ∀ (n : Nat) (v0 : Nat) (v1 : Int32) (h : Mem), f_X10_land_130 N n v0 v1 h = some (r, h') → ∀ (H : Heap) (locs : List Loc) (ls : Array Slot), MS G s h H locs 0 → lv_has ls 2 [(0, .ref (gB G + v0)), (1, .int v1)] → W p l e (rm_X10_land) s m args below meth c H locs 0 0 (QI G below args s r h' 0 0) (F0 m 130 ls []) := by
  intro n
  induction n with
  | zero =>
    intro v0 v1 h hf
    cases hf
  | succ n ih =>
    intro v0 v1 h hf H locs ls M hl
    rw [f_X10_land_130] at hf
    refine lv_iload_n X.1 X.2.1 dX10_land_130 rfl (lv_at hl 1 rfl) ?_
    refine lv_iconst (v := (3 : Int32)) X.1 X.2.1 dX10_land_131 (by decide) ?_
    refine lv_icmp_ge (tgt := 153) X.1 X.2.1 dX10_land_132 (by decide) (fun c1 => ?_) (fun c1 => ?_)
    · have hf := ifp c1 hf
      refine lv_aload_n X.1 X.2.1 dX10_land_153 rfl (lv_at hl 0 rfl) ?_
      refine lv_aload_n X.1 X.2.1 dX10_land_154 rfl (lv_at hl 0 rfl) ?_
      obtain ⟨t2, q3, hf⟩ := bnd hf
      refine x_geti fl_X10_127 X M q3 dX10_land_155 ?_
      obtain ⟨h4, q5, hf⟩ := bnd hf
      refine x_puti fl_X10_86 fp_X10_86.1 fp_X10_86.2 X M q5 dX10_land_158 (fun H locs M => ?_)
      refine lv_aload_n X.1 X.2.1 dX10_land_161 rfl (lv_at hl 0 rfl) ?_
      refine lv_aload_n X.1 X.2.1 dX10_land_162 rfl (lv_at hl 0 rfl) ?_
      obtain ⟨t6, q7, hf⟩ := bnd hf
      refine x_geti fl_X10_130 X M q7 dX10_land_163 ?_
      obtain ⟨h8, q9, hf⟩ := bnd hf
      refine x_puti fl_X10_89 fp_X10_89.1 fp_X10_89.2 X M q9 dX10_land_166 (fun H locs M => ?_)
      refine lv_aload_n X.1 X.2.1 dX10_land_169 rfl (lv_at hl 0 rfl) ?_
      refine lv_aload_n X.1 X.2.1 dX10_land_170 rfl (lv_at hl 0 rfl) ?_
      obtain ⟨t10, q11, hf⟩ := bnd hf
      refine x_geti fl_X10_133 X M q11 dX10_land_171 ?_
      obtain ⟨h12, q13, hf⟩ := bnd hf
      refine x_puti fl_X10_92 fp_X10_92.1 fp_X10_92.2 X M q13 dX10_land_174 (fun H locs M => ?_)
      refine lv_aload_n X.1 X.2.1 dX10_land_177 rfl (lv_at hl 0 rfl) ?_
      refine lv_iconst (v := (0 : Int32)) X.1 X.2.1 dX10_land_178 (by decide) ?_
      obtain ⟨h14, q15, hf⟩ := bnd hf
      refine x_putz fl_X10_98 fp_X10_98.1 fp_X10_98.2 X M q15 dX10_land_179 (fun H locs M => ?_)
      refine lv_aload_n X.1 X.2.1 dX10_land_182 rfl (lv_at hl 0 rfl) ?_
      refine lv_dup X.1 X.2.1 dX10_land_183 rfl ?_
      obtain ⟨t16, q17, hf⟩ := bnd hf
      refine x_geti fl_X10_47 X M q17 dX10_land_184 ?_
      refine lv_iconst (v := (1 : Int32)) X.1 X.2.1 dX10_land_187 (by decide) ?_
      refine lv_iadd X.1 X.2.1 dX10_land_188 ?_
      obtain ⟨h18, q19, hf⟩ := bnd hf
      refine x_puti fl_X10_47 fp_X10_47.1 fp_X10_47.2 X M q19 dX10_land_189 (fun H locs M => ?_)
      refine lv_aload_n X.1 X.2.1 dX10_land_192 rfl (lv_at hl 0 rfl) ?_
      obtain ⟨t20, q21, hf⟩ := bnd hf
      refine x_geti fl_X10_47 X M q21 dX10_land_193 ?_
      obtain ⟨rfl, rfl⟩ := rt2 hf
      exact x_iret X hr hk M dX10_land_196
    · have hf := ifn c1 hf
      refine lv_aload_n X.1 X.2.1 dX10_land_135 rfl (lv_at hl 0 rfl) ?_
      obtain ⟨t22, q23, hf⟩ := bnd hf
      refine x_getr fl_X10_83 X M q23 dX10_land_136 ?_
      refine lv_iload_n X.1 X.2.1 dX10_land_139 rfl (lv_at hl 1 rfl) ?_
      refine lv_aload_n X.1 X.2.1 dX10_land_140 rfl (lv_at hl 0 rfl) ?_
      obtain ⟨t24, q25, hf⟩ := bnd hf
      refine x_getr fl_X10_124 X M q25 dX10_land_141 ?_
      refine lv_iload_n X.1 X.2.1 dX10_land_144 rfl (lv_at hl 1 rfl) ?_
      obtain ⟨t26, q27, hf⟩ := bnd hf
      refine x_iald X M q27 dX10_land_145 ?_
      obtain ⟨h28, q29, hf⟩ := bnd hf
      refine x_iast X M q29 dX10_land_146 (fun H locs M => ?_)
      refine lv_iinc (v := (v1 + 1)) (lv' := [(1, .int (v1 + 1)), (0, .ref (gB G + v0))]) X.1 X.2.1 dX10_land_147 hl (k := 1) rfl (by first | rfl | decide) (by decide) rfl (fun ls hl => ?_)
      refine lv_goto (tgt := 130) X.1 X.2.1 dX10_land_150 (by decide) ?_
      exact ih v0 (v1 + 1) h28 hf _ _ _ M (lv_sub hl [1, 0] rfl)
def f_X10_land_104 (N : Nat) (n : Nat) (v0 : Nat) (v1 : Int32) (h : Mem) : Option (Int32 × Mem) := match n with
  | 0 => none
  | n + 1 =>
    if (16 : Int32) ≤ v1 then
      f_X10_land_130 N N v0 (0 : Int32) h
    else
      (gR h v0 10 23).bind fun t2 =>
      (gR h v0 10 36).bind fun t4 =>
      (lI 100 h t4 v1).bind fun t6 =>
      (stI 100 h t2 v1 t6).bind fun h8 =>
      f_X10_land_104 N n v0 (v1 + 1) h8
set_option maxRecDepth 100000 in
set_option maxHeartbeats 4000000 in
theorem w_X10_land_104 {p : Program} {l : Launch} {e : Env} {s : State} {m : MethodId} {args : Array Value} {below : List Frame} {meth : Method} {c : Code} {G : Gx} {r : Int32} {h' : Mem} (X : CX G p s m args c cX10_land 2 RX10) (hr : meth.sig.returnType = (Option.some Jvm.ClassFile.FieldType.int)) (hk : meth.locks = false) (N : Nat) : ∀ (n : Nat) (v0 : Nat) (v1 : Int32) (h : Mem), f_X10_land_104 N n v0 v1 h = some (r, h') → ∀ (H : Heap) (locs : List Loc) (ls : Array Slot), MS G s h H locs 0 → lv_has ls 2 [(0, .ref (gB G + v0)), (1, .int v1)] → W p l e (rm_X10_land) s m args below meth c H locs 0 0 (QI G below args s r h' 0 0) (F0 m 104 ls []) := by
  intro n
  induction n with
  | zero =>
    intro v0 v1 h hf
    cases hf
  | succ n ih =>
    intro v0 v1 h hf H locs ls M hl
    rw [f_X10_land_104] at hf
    refine lv_iload_n X.1 X.2.1 dX10_land_104 rfl (lv_at hl 1 rfl) ?_
    refine lv_bipush (v := (16 : Int32)) X.1 X.2.1 dX10_land_105 (by decide) ?_
    refine lv_icmp_ge (tgt := 128) X.1 X.2.1 dX10_land_107 (by decide) (fun c1 => ?_) (fun c1 => ?_)
    · have hf := ifp c1 hf
      refine lv_iconst (v := (0 : Int32)) X.1 X.2.1 dX10_land_128 (by decide) ?_
      refine lv_istore_n (lv' := [(1, .int (0 : Int32)), (0, .ref (gB G + v0))]) X.1 X.2.1 dX10_land_129 rfl hl (by decide) rfl (fun ls hl => ?_)
      exact w_X10_land_130 X hr hk N N v0 (0 : Int32) h hf _ _ _ M (lv_sub hl [1, 0] rfl)
    · have hf := ifn c1 hf
      refine lv_aload_n X.1 X.2.1 dX10_land_110 rfl (lv_at hl 0 rfl) ?_
      obtain ⟨t2, q3, hf⟩ := bnd hf
      refine x_getr fl_X10_80 X M q3 dX10_land_111 ?_
      refine lv_iload_n X.1 X.2.1 dX10_land_114 rfl (lv_at hl 1 rfl) ?_
      refine lv_aload_n X.1 X.2.1 dX10_land_115 rfl (lv_at hl 0 rfl) ?_
      obtain ⟨t4, q5, hf⟩ := bnd hf
      refine x_getr fl_X10_121 X M q5 dX10_land_116 ?_
      refine lv_iload_n X.1 X.2.1 dX10_land_119 rfl (lv_at hl 1 rfl) ?_
      obtain ⟨t6, q7, hf⟩ := bnd hf
      refine x_iald X M q7 dX10_land_120 ?_
      obtain ⟨h8, q9, hf⟩ := bnd hf
      refine x_iast X M q9 dX10_land_121 (fun H locs M => ?_)
      refine lv_iinc (v := (v1 + 1)) (lv' := [(1, .int (v1 + 1)), (0, .ref (gB G + v0))]) X.1 X.2.1 dX10_land_122 hl (k := 1) rfl (by first | rfl | decide) (by decide) rfl (fun ls hl => ?_)
      refine lv_goto (tgt := 104) X.1 X.2.1 dX10_land_125 (by decide) ?_
      exact ih v0 (v1 + 1) h8 hf _ _ _ M (lv_sub hl [1, 0] rfl)
def f_X10_land_78 (N : Nat) (n : Nat) (v0 : Nat) (v1 : Int32) (h : Mem) : Option (Int32 × Mem) := match n with
  | 0 => none
  | n + 1 =>
    if (12 : Int32) ≤ v1 then
      f_X10_land_104 N N v0 (0 : Int32) h
    else
      (gR h v0 10 22).bind fun t2 =>
      (gR h v0 10 35).bind fun t4 =>
      (lI 100 h t4 v1).bind fun t6 =>
      (stI 100 h t2 v1 t6).bind fun h8 =>
      f_X10_land_78 N n v0 (v1 + 1) h8
set_option maxRecDepth 100000 in
set_option maxHeartbeats 4000000 in
theorem w_X10_land_78 {p : Program} {l : Launch} {e : Env} {s : State} {m : MethodId} {args : Array Value} {below : List Frame} {meth : Method} {c : Code} {G : Gx} {r : Int32} {h' : Mem} (X : CX G p s m args c cX10_land 2 RX10) (hr : meth.sig.returnType = (Option.some Jvm.ClassFile.FieldType.int)) (hk : meth.locks = false) (N : Nat) : ∀ (n : Nat) (v0 : Nat) (v1 : Int32) (h : Mem), f_X10_land_78 N n v0 v1 h = some (r, h') → ∀ (H : Heap) (locs : List Loc) (ls : Array Slot), MS G s h H locs 0 → lv_has ls 2 [(0, .ref (gB G + v0)), (1, .int v1)] → W p l e (rm_X10_land) s m args below meth c H locs 0 0 (QI G below args s r h' 0 0) (F0 m 78 ls []) := by
  intro n
  induction n with
  | zero =>
    intro v0 v1 h hf
    cases hf
  | succ n ih =>
    intro v0 v1 h hf H locs ls M hl
    rw [f_X10_land_78] at hf
    refine lv_iload_n X.1 X.2.1 dX10_land_78 rfl (lv_at hl 1 rfl) ?_
    refine lv_bipush (v := (12 : Int32)) X.1 X.2.1 dX10_land_79 (by decide) ?_
    refine lv_icmp_ge (tgt := 102) X.1 X.2.1 dX10_land_81 (by decide) (fun c1 => ?_) (fun c1 => ?_)
    · have hf := ifp c1 hf
      refine lv_iconst (v := (0 : Int32)) X.1 X.2.1 dX10_land_102 (by decide) ?_
      refine lv_istore_n (lv' := [(1, .int (0 : Int32)), (0, .ref (gB G + v0))]) X.1 X.2.1 dX10_land_103 rfl hl (by decide) rfl (fun ls hl => ?_)
      exact w_X10_land_104 X hr hk N N v0 (0 : Int32) h hf _ _ _ M (lv_sub hl [1, 0] rfl)
    · have hf := ifn c1 hf
      refine lv_aload_n X.1 X.2.1 dX10_land_84 rfl (lv_at hl 0 rfl) ?_
      obtain ⟨t2, q3, hf⟩ := bnd hf
      refine x_getr fl_X10_77 X M q3 dX10_land_85 ?_
      refine lv_iload_n X.1 X.2.1 dX10_land_88 rfl (lv_at hl 1 rfl) ?_
      refine lv_aload_n X.1 X.2.1 dX10_land_89 rfl (lv_at hl 0 rfl) ?_
      obtain ⟨t4, q5, hf⟩ := bnd hf
      refine x_getr fl_X10_118 X M q5 dX10_land_90 ?_
      refine lv_iload_n X.1 X.2.1 dX10_land_93 rfl (lv_at hl 1 rfl) ?_
      obtain ⟨t6, q7, hf⟩ := bnd hf
      refine x_iald X M q7 dX10_land_94 ?_
      obtain ⟨h8, q9, hf⟩ := bnd hf
      refine x_iast X M q9 dX10_land_95 (fun H locs M => ?_)
      refine lv_iinc (v := (v1 + 1)) (lv' := [(1, .int (v1 + 1)), (0, .ref (gB G + v0))]) X.1 X.2.1 dX10_land_96 hl (k := 1) rfl (by first | rfl | decide) (by decide) rfl (fun ls hl => ?_)
      refine lv_goto (tgt := 78) X.1 X.2.1 dX10_land_99 (by decide) ?_
      exact ih v0 (v1 + 1) h8 hf _ _ _ M (lv_sub hl [1, 0] rfl)
def f_X10_land_45 (N : Nat) (n : Nat) (v0 : Nat) (v1 : Int32) (h : Mem) : Option (Int32 × Mem) := match n with
  | 0 => none
  | n + 1 =>
    (gR h v0 10 15).bind fun t1 =>
    (lI 100 h t1 (1 : Int32)).bind fun t3 =>
    if t3 ≤ v1 then
      f_X10_land_78 N N v0 (0 : Int32) h
    else
      (gR h v0 10 14).bind fun t6 =>
      (gR h v0 10 14).bind fun t8 =>
      (lI 100 h t8 ((120 : Int32) + v1)).bind fun t10 =>
      (stI 100 h t6 v1 t10).bind fun h12 =>
      f_X10_land_45 N n v0 (v1 + 1) h12
set_option maxRecDepth 100000 in
set_option maxHeartbeats 4000000 in
theorem w_X10_land_45 {p : Program} {l : Launch} {e : Env} {s : State} {m : MethodId} {args : Array Value} {below : List Frame} {meth : Method} {c : Code} {G : Gx} {r : Int32} {h' : Mem} (X : CX G p s m args c cX10_land 2 RX10) (hr : meth.sig.returnType = (Option.some Jvm.ClassFile.FieldType.int)) (hk : meth.locks = false) (N : Nat) : ∀ (n : Nat) (v0 : Nat) (v1 : Int32) (h : Mem), f_X10_land_45 N n v0 v1 h = some (r, h') → ∀ (H : Heap) (locs : List Loc) (ls : Array Slot), MS G s h H locs 0 → lv_has ls 2 [(0, .ref (gB G + v0)), (1, .int v1)] → W p l e (rm_X10_land) s m args below meth c H locs 0 0 (QI G below args s r h' 0 0) (F0 m 45 ls []) := by
  intro n
  induction n with
  | zero =>
    intro v0 v1 h hf
    cases hf
  | succ n ih =>
    intro v0 v1 h hf H locs ls M hl
    rw [f_X10_land_45] at hf
    refine lv_iload_n X.1 X.2.1 dX10_land_45 rfl (lv_at hl 1 rfl) ?_
    refine lv_aload_n X.1 X.2.1 dX10_land_46 rfl (lv_at hl 0 rfl) ?_
    obtain ⟨t1, q2, hf⟩ := bnd hf
    refine x_getr fl_X10_56 X M q2 dX10_land_47 ?_
    refine lv_iconst (v := (1 : Int32)) X.1 X.2.1 dX10_land_50 (by decide) ?_
    obtain ⟨t3, q4, hf⟩ := bnd hf
    refine x_iald X M q4 dX10_land_51 ?_
    refine lv_icmp_ge (tgt := 76) X.1 X.2.1 dX10_land_52 (by decide) (fun c5 => ?_) (fun c5 => ?_)
    · have hf := ifp c5 hf
      refine lv_iconst (v := (0 : Int32)) X.1 X.2.1 dX10_land_76 (by decide) ?_
      refine lv_istore_n (lv' := [(1, .int (0 : Int32)), (0, .ref (gB G + v0))]) X.1 X.2.1 dX10_land_77 rfl hl (by decide) rfl (fun ls hl => ?_)
      exact w_X10_land_78 X hr hk N N v0 (0 : Int32) h hf _ _ _ M (lv_sub hl [1, 0] rfl)
    · have hf := ifn c5 hf
      refine lv_aload_n X.1 X.2.1 dX10_land_55 rfl (lv_at hl 0 rfl) ?_
      obtain ⟨t6, q7, hf⟩ := bnd hf
      refine x_getr fl_X10_53 X M q7 dX10_land_56 ?_
      refine lv_iload_n X.1 X.2.1 dX10_land_59 rfl (lv_at hl 1 rfl) ?_
      refine lv_aload_n X.1 X.2.1 dX10_land_60 rfl (lv_at hl 0 rfl) ?_
      obtain ⟨t8, q9, hf⟩ := bnd hf
      refine x_getr fl_X10_53 X M q9 dX10_land_61 ?_
      refine lv_bipush (v := (120 : Int32)) X.1 X.2.1 dX10_land_64 (by decide) ?_
      refine lv_iload_n X.1 X.2.1 dX10_land_66 rfl (lv_at hl 1 rfl) ?_
      refine lv_iadd X.1 X.2.1 dX10_land_67 ?_
      obtain ⟨t10, q11, hf⟩ := bnd hf
      refine x_iald X M q11 dX10_land_68 ?_
      obtain ⟨h12, q13, hf⟩ := bnd hf
      refine x_iast X M q13 dX10_land_69 (fun H locs M => ?_)
      refine lv_iinc (v := (v1 + 1)) (lv' := [(1, .int (v1 + 1)), (0, .ref (gB G + v0))]) X.1 X.2.1 dX10_land_70 hl (k := 1) rfl (by first | rfl | decide) (by decide) rfl (fun ls hl => ?_)
      refine lv_goto (tgt := 45) X.1 X.2.1 dX10_land_73 (by decide) ?_
      exact ih v0 (v1 + 1) h12 hf _ _ _ M (lv_sub hl [1, 0] rfl)
def f_X10_land (N : Nat) (v0 : Nat) (h : Mem) : Option (Int32 × Mem) :=
  (gR h v0 10 15).bind fun t1 =>
  (gI h v0 10 13).bind fun t3 =>
  (stI 100 h t1 (1 : Int32) t3).bind fun h5 =>
  (sI h5 v0 10 13 (0 : Int32)).bind fun h7 =>
  (ck h7 v0 10).bind fun _ =>
  b2 (f_X10_goes N v0 (1 : Int32) h7) fun t12 h11 =>
  if t12 = 0 then
    (gI h11 v0 10 19).bind fun t22 =>
    some (((-10 : Int32) - t22), h11)
  else
    (gR h11 v0 10 15).bind fun t14 =>
    (gR h11 v0 10 15).bind fun t16 =>
    (lI 100 h11 t16 (1 : Int32)).bind fun t18 =>
    (stI 100 h11 t14 (0 : Int32) t18).bind fun h20 =>
    f_X10_land_45 N N v0 (0 : Int32) h20
set_option maxRecDepth 100000 in
set_option maxHeartbeats 4000000 in
theorem w_X10_land {p : Program} {l : Launch} {e : Env} {s : State} {m : MethodId} {args : Array Value} {below : List Frame} {meth : Method} {c : Code} {G : Gx} {r : Int32} {h' : Mem} (X : CX G p s m args c cX10_land 2 RX10) (hr : meth.sig.returnType = (Option.some Jvm.ClassFile.FieldType.int)) (hk : meth.locks = false) (N : Nat) : ∀ (v0 : Nat) (h : Mem), f_X10_land N v0 h = some (r, h') → ∀ (H : Heap) (locs : List Loc) (ls : Array Slot), MS G s h H locs 0 → lv_has ls 2 [(0, .ref (gB G + v0))] → W p l e (rm_X10_land) s m args below meth c H locs 0 0 (QI G below args s r h' 0 0) (F0 m 0 ls []) := by
  intro v0 h hf H locs ls M hl
  rw [f_X10_land] at hf
  refine lv_aload_n X.1 X.2.1 dX10_land_0 rfl (lv_at hl 0 rfl) ?_
  obtain ⟨t1, q2, hf⟩ := bnd hf
  refine x_getr fl_X10_56 X M q2 dX10_land_1 ?_
  refine lv_iconst (v := (1 : Int32)) X.1 X.2.1 dX10_land_4 (by decide) ?_
  refine lv_aload_n X.1 X.2.1 dX10_land_5 rfl (lv_at hl 0 rfl) ?_
  obtain ⟨t3, q4, hf⟩ := bnd hf
  refine x_geti fl_X10_50 X M q4 dX10_land_6 ?_
  obtain ⟨h5, q6, hf⟩ := bnd hf
  refine x_iast X M q6 dX10_land_9 (fun H locs M => ?_)
  refine lv_aload_n X.1 X.2.1 dX10_land_10 rfl (lv_at hl 0 rfl) ?_
  refine lv_iconst (v := (0 : Int32)) X.1 X.2.1 dX10_land_11 (by decide) ?_
  obtain ⟨h7, q8, hf⟩ := bnd hf
  refine x_puti fl_X10_50 fp_X10_50.1 fp_X10_50.2 X M q8 dX10_land_12 (fun H locs M => ?_)
  refine lv_aload_n X.1 X.2.1 dX10_land_15 rfl (lv_at hl 0 rfl) ?_
  refine lv_iconst (v := (1 : Int32)) X.1 X.2.1 dX10_land_16 (by decide) ?_
  obtain ⟨⟨⟩, q9, hf⟩ := bnd hf
  obtain ⟨t12, h11, q10, hf⟩ := bnd2 hf
  refine x_callVi (As := [.int (1 : Int32)]) cf_X10_286 (c_X10_goes l G N v0 (1 : Int32) h7 _ _ q10) rfl ⟨rfl, rfl, Nat.le_of_ble_eq_true rfl, Nat.le_of_ble_eq_true rfl⟩ ⟨Nat.le_of_ble_eq_true rfl, Nat.le_of_ble_eq_true rfl⟩ X M (x_recv cls_X10 X M q9) rfl rfl hl.1 (Nat.le_of_ble_eq_true rfl) dX10_land_17 (fun H locs M => ?_)
  refine lv_if_ne (tgt := 31) X.1 X.2.1 dX10_land_20 (by decide) (fun c13 => ?_) (fun c13 => ?_)
  · have hf := ifn c13 hf
    refine lv_aload_n X.1 X.2.1 dX10_land_31 rfl (lv_at hl 0 rfl) ?_
    obtain ⟨t14, q15, hf⟩ := bnd hf
    refine x_getr fl_X10_56 X M q15 dX10_land_32 ?_
    refine lv_iconst (v := (0 : Int32)) X.1 X.2.1 dX10_land_35 (by decide) ?_
    refine lv_aload_n X.1 X.2.1 dX10_land_36 rfl (lv_at hl 0 rfl) ?_
    obtain ⟨t16, q17, hf⟩ := bnd hf
    refine x_getr fl_X10_56 X M q17 dX10_land_37 ?_
    refine lv_iconst (v := (1 : Int32)) X.1 X.2.1 dX10_land_40 (by decide) ?_
    obtain ⟨t18, q19, hf⟩ := bnd hf
    refine x_iald X M q19 dX10_land_41 ?_
    obtain ⟨h20, q21, hf⟩ := bnd hf
    refine x_iast X M q21 dX10_land_42 (fun H locs M => ?_)
    refine lv_iconst (v := (0 : Int32)) X.1 X.2.1 dX10_land_43 (by decide) ?_
    refine lv_istore_n (lv' := [(1, .int (0 : Int32)), (0, .ref (gB G + v0))]) X.1 X.2.1 dX10_land_44 rfl hl (by decide) rfl (fun ls hl => ?_)
    exact w_X10_land_45 X hr hk N N v0 (0 : Int32) h20 hf _ _ _ M (lv_sub hl [1, 0] rfl)
  · have hf := ifp c13 hf
    refine lv_bipush (v := (-10 : Int32)) X.1 X.2.1 dX10_land_23 (by decide) ?_
    refine lv_aload_n X.1 X.2.1 dX10_land_25 rfl (lv_at hl 0 rfl) ?_
    obtain ⟨t22, q23, hf⟩ := bnd hf
    refine x_geti fl_X10_68 X M q23 dX10_land_26 ?_
    refine lv_isub X.1 X.2.1 dX10_land_29 ?_
    obtain ⟨rfl, rfl⟩ := rt2 hf
    exact x_iret X hr hk M dX10_land_30
theorem c_X10_land (l : Launch) (G : Gx) (N : Nat) (v0 : Nat) (h : Mem) (r : Int32) (h' : Mem) (hf : f_X10_land N v0 h = some (r, h')) : MetG l G yX10_land (.code yX10_land cX10_land 2 (Option.some Jvm.ClassFile.FieldType.int)) rm_X10_land [.ref (gB G + v0)] h (QcI G r h') 0 0 :=
  x_met (by decide) rfl (Nat.le_of_ble_eq_true rfl) (fun p e s m args below meth c ls X M hr hk hin hl => w_X10_land X hr hk N v0 h hf _ _ ls M hl)
abbrev rm_X10_worth : Room := { frames := 11, cells := 0, slots := 0, locals := 262 }
def f_X10_worth (N : Nat) (v0 : Nat) (v1 : Int32) (v2 : Int32) (h : Mem) : Option (Int64 × Mem) :=
  (ck h v0 10).bind fun _ =>
  b2 (f_X10_isFamily N v0 v1 h) fun t4 h3 =>
  if t4 = 0 then
    some ((-9223372036854775808 : Int64), h3)
  else
    (ck h3 v0 10).bind fun _ =>
    b2 (f_X10_isTown N v0 v2 h3) fun t9 h8 =>
    if t9 = 0 then
      some ((-9223372036854775808 : Int64), h8)
    else
      (ck h8 v0 10).bind fun _ =>
      b2 (f_X10_worthOf N v0 v1 v2 h8) fun t14 h13 =>
      some (t14, h13)
set_option maxRecDepth 100000 in
set_option maxHeartbeats 4000000 in
theorem w_X10_worth {p : Program} {l : Launch} {e : Env} {s : State} {m : MethodId} {args : Array Value} {below : List Frame} {meth : Method} {c : Code} {G : Gx} {r : Int64} {h' : Mem} (X : CX G p s m args c cX10_worth 3 RX10) (hr : meth.sig.returnType = (Option.some Jvm.ClassFile.FieldType.long)) (hk : meth.locks = false) (N : Nat) : ∀ (v0 : Nat) (v1 : Int32) (v2 : Int32) (h : Mem), f_X10_worth N v0 v1 v2 h = some (r, h') → ∀ (H : Heap) (locs : List Loc) (ls : Array Slot), MS G s h H locs 0 → lv_has ls 3 [(0, .ref (gB G + v0)), (1, .int v1), (2, .int v2)] → W p l e (rm_X10_worth) s m args below meth c H locs 0 0 (QL G below args s r h' 0 0) (F0 m 0 ls []) := by
  intro v0 v1 v2 h hf H locs ls M hl
  rw [f_X10_worth] at hf
  refine lv_aload_n X.1 X.2.1 dX10_worth_0 rfl (lv_at hl 0 rfl) ?_
  refine lv_iload_n X.1 X.2.1 dX10_worth_1 rfl (lv_at hl 1 rfl) ?_
  obtain ⟨⟨⟩, q1, hf⟩ := bnd hf
  obtain ⟨t4, h3, q2, hf⟩ := bnd2 hf
  refine x_callVi (As := [.int v1]) cf_X10_216 (c_X10_isFamily l G N v0 v1 h _ _ q2) rfl ⟨rfl, rfl, Nat.le_of_ble_eq_true rfl, Nat.le_of_ble_eq_true rfl⟩ ⟨Nat.le_of_ble_eq_true rfl, Nat.le_of_ble_eq_true rfl⟩ X M (x_recv cls_X10 X M q1) rfl rfl hl.1 (Nat.le_of_ble_eq_true rfl) dX10_worth_2 (fun H locs M => ?_)
  refine lv_if_eq (tgt := 25) X.1 X.2.1 dX10_worth_5 (by decide) (fun c5 => ?_) (fun c5 => ?_)
  · have hf := ifp c5 hf
    refine lv_ldc2 X.1 X.2.1 X.2.2.2.1 (X.2.2.2.2.1 _ k_1175) dX10_worth_25 ?_
    obtain ⟨rfl, rfl⟩ := rt2 hf
    exact x_lret X hr hk M dX10_worth_28
  · have hf := ifn c5 hf
    refine lv_aload_n X.1 X.2.1 dX10_worth_8 rfl (lv_at hl 0 rfl) ?_
    refine lv_iload_n X.1 X.2.1 dX10_worth_9 rfl (lv_at hl 2 rfl) ?_
    obtain ⟨⟨⟩, q6, hf⟩ := bnd hf
    obtain ⟨t9, h8, q7, hf⟩ := bnd2 hf
    refine x_callVi (As := [.int v2]) cf_X10_205 (c_X10_isTown l G N v0 v2 h3 _ _ q7) rfl ⟨rfl, rfl, Nat.le_of_ble_eq_true rfl, Nat.le_of_ble_eq_true rfl⟩ ⟨Nat.le_of_ble_eq_true rfl, Nat.le_of_ble_eq_true rfl⟩ X M (x_recv cls_X10 X M q6) rfl rfl hl.1 (Nat.le_of_ble_eq_true rfl) dX10_worth_10 (fun H locs M => ?_)
    refine lv_if_eq (tgt := 25) X.1 X.2.1 dX10_worth_13 (by decide) (fun c10 => ?_) (fun c10 => ?_)
    · have hf := ifp c10 hf
      refine lv_ldc2 X.1 X.2.1 X.2.2.2.1 (X.2.2.2.2.1 _ k_1175) dX10_worth_25 ?_
      obtain ⟨rfl, rfl⟩ := rt2 hf
      exact x_lret X hr hk M dX10_worth_28
    · have hf := ifn c10 hf
      refine lv_aload_n X.1 X.2.1 dX10_worth_16 rfl (lv_at hl 0 rfl) ?_
      refine lv_iload_n X.1 X.2.1 dX10_worth_17 rfl (lv_at hl 1 rfl) ?_
      refine lv_iload_n X.1 X.2.1 dX10_worth_18 rfl (lv_at hl 2 rfl) ?_
      obtain ⟨⟨⟩, q11, hf⟩ := bnd hf
      obtain ⟨t14, h13, q12, hf⟩ := bnd2 hf
      refine x_callVl (As := [.int v1, .int v2]) cf_X10_225 (c_X10_worthOf l G N v0 v1 v2 h8 _ _ q12) rfl ⟨rfl, rfl, Nat.le_of_ble_eq_true rfl, Nat.le_of_ble_eq_true rfl⟩ ⟨Nat.le_of_ble_eq_true rfl, Nat.le_of_ble_eq_true rfl⟩ X M (x_recv cls_X10 X M q11) rfl rfl hl.1 (Nat.le_of_ble_eq_true rfl) dX10_worth_19 (fun H locs M => ?_)
      refine lv_goto (tgt := 28) X.1 X.2.1 dX10_worth_22 (by decide) ?_
      obtain ⟨rfl, rfl⟩ := rt2 hf
      exact x_lret X hr hk M dX10_worth_28
theorem c_X10_worth (l : Launch) (G : Gx) (N : Nat) (v0 : Nat) (v1 : Int32) (v2 : Int32) (h : Mem) (r : Int64) (h' : Mem) (hf : f_X10_worth N v0 v1 v2 h = some (r, h')) : MetG l G yX10_worth (.code yX10_worth cX10_worth 3 (Option.some Jvm.ClassFile.FieldType.long)) rm_X10_worth [.ref (gB G + v0), .int v1, .int v2] h (QcL G r h') 0 0 :=
  x_met (by decide) rfl (Nat.le_of_ble_eq_true rfl) (fun p e s m args below meth c ls X M hr hk hin hl => w_X10_worth X hr hk N v0 v1 v2 h hf _ _ ls M hl)
abbrev rm_X10_wants : Room := { frames := 11, cells := 0, slots := 0, locals := 262 }
def f_X10_wants_64 (N : Nat) (v0 : Nat) (v1 : Int32) (v2 : Int32) (v3 : Int32) (v4 : Int32) (v8 : Int32) (v9 : Int64) (h : Mem) (k21 : Nat → Int32 → Int32 → Int32 → Int32 → Int32 → Int64 → Int32 → Mem → Option (Int32 × Mem)) : Option (Int32 × Mem) :=
  k21 v0 v1 v2 v3 v4 v8 v9 (v8 + 1) h
set_option maxRecDepth 100000 in
set_option maxHeartbeats 4000000 in
theorem w_X10_wants_64 {p : Program} {l : Launch} {e : Env} {s : State} {m : MethodId} {args : Array Value} {below : List Frame} {meth : Method} {c : Code} {G : Gx} {r : Int32} {h' : Mem} (X : CX G p s m args c cX10_wants 11 RX10) (hr : meth.sig.returnType = (Option.some Jvm.ClassFile.FieldType.int)) (hk : meth.locks = false) (N : Nat) (k21 : Nat → Int32 → Int32 → Int32 → Int32 → Int32 → Int64 → Int32 → Mem → Option (Int32 × Mem)) (K21 : ∀ (v0 : Nat) (v1 : Int32) (v2 : Int32) (v3 : Int32) (v4 : Int32) (v5 : Int32) (v6 : Int64) (v8 : Int32) (h : Mem), k21 v0 v1 v2 v3 v4 v5 v6 v8 h = some (r, h') → ∀ (H : Heap) (locs : List Loc) (ls : Array Slot), MS G s h H locs 0 → lv_has ls 11 [(0, .ref (gB G + v0)), (1, .int v1), (2, .int v2), (3, .int v3), (4, .int v4), (5, .int v5), (6, .long v6), (8, .int v8)] → W p l e (rm_X10_wants) s m args below meth c H locs 0 0 (QI G below args s r h' 0 0) (F0 m 21 ls [])) : ∀ (v0 : Nat) (v1 : Int32) (v2 : Int32) (v3 : Int32) (v4 : Int32) (v8 : Int32) (v9 : Int64) (h : Mem), f_X10_wants_64 N v0 v1 v2 v3 v4 v8 v9 h k21 = some (r, h') → ∀ (H : Heap) (locs : List Loc) (ls : Array Slot), MS G s h H locs 0 → lv_has ls 11 [(0, .ref (gB G + v0)), (1, .int v1), (2, .int v2), (3, .int v3), (4, .int v4), (8, .int v8), (9, .long v9)] → W p l e (rm_X10_wants) s m args below meth c H locs 0 0 (QI G below args s r h' 0 0) (F0 m 64 ls []) := by
  intro v0 v1 v2 v3 v4 v8 v9 h hf H locs ls M hl
  rw [f_X10_wants_64] at hf
  refine lv_lload X.1 X.2.1 dX10_wants_64 (lv_at hl 6 rfl) ?_
  refine lv_lstore (lv' := [(6, .long v9), (0, .ref (gB G + v0)), (1, .int v1), (2, .int v2), (3, .int v3), (4, .int v4), (8, .int v8), (9, .long v9)]) X.1 X.2.1 dX10_wants_66 hl (by decide) rfl (fun ls hl => ?_)
  refine lv_iload X.1 X.2.1 dX10_wants_68 (lv_at hl 6 rfl) ?_
  refine lv_istore (lv' := [(5, .int v8), (6, .long v9), (0, .ref (gB G + v0)), (1, .int v1), (2, .int v2), (3, .int v3), (4, .int v4), (8, .int v8), (9, .long v9)]) X.1 X.2.1 dX10_wants_70 hl (by decide) rfl (fun ls hl => ?_)
  refine lv_iinc (v := (v8 + 1)) (lv' := [(8, .int (v8 + 1)), (5, .int v8), (6, .long v9), (0, .ref (gB G + v0)), (1, .int v1), (2, .int v2), (3, .int v3), (4, .int v4), (9, .long v9)]) X.1 X.2.1 dX10_wants_72 hl (k := 7) rfl (by first | rfl | decide) (by decide) rfl (fun ls hl => ?_)
  refine lv_goto (tgt := 21) X.1 X.2.1 dX10_wants_75 (by decide) ?_
  exact K21 v0 v1 v2 v3 v4 v8 v9 (v8 + 1) h hf _ _ _ M (lv_sub hl [3, 4, 5, 6, 7, 1, 2, 0] rfl)
def f_X10_wants_21 (N : Nat) (n : Nat) (v0 : Nat) (v1 : Int32) (v2 : Int32) (v3 : Int32) (v4 : Int32) (v5 : Int32) (v6 : Int64) (v8 : Int32) (h : Mem) : Option (Int32 × Mem) := match n with
  | 0 => none
  | n + 1 =>
    if (6 : Int32) ≤ v8 then
      (gR h v0 10 4).bind fun t2 =>
      (stI 100 h t2 (((3 : Int32) * v2) + v3) v4).bind fun h4 =>
      some (v5, h4)
    else
      (gR h v0 10 4).bind fun t6 =>
      (stI 100 h t6 (((3 : Int32) * v2) + v3) v8).bind fun h8 =>
      (ck h8 v0 10).bind fun _ =>
      b2 (f_X10_worthOf N v0 v1 v2 h8) fun t13 h12 =>
      if v8 ≤ 0 then
        f_X10_wants_64 N v0 v1 v2 v3 v4 v8 t13 h12 (fun v0 v1 v2 v3 v4 v5 v6 v8 h => f_X10_wants_21 N n v0 v1 v2 v3 v4 v5 v6 v8 h)
      else
        if 0 < (lg_cmp t13 v6) then
          f_X10_wants_64 N v0 v1 v2 v3 v4 v8 t13 h12 (fun v0 v1 v2 v3 v4 v5 v6 v8 h => f_X10_wants_21 N n v0 v1 v2 v3 v4 v5 v6 v8 h)
        else
          f_X10_wants_21 N n v0 v1 v2 v3 v4 v5 v6 (v8 + 1) h12
set_option maxRecDepth 100000 in
set_option maxHeartbeats 4000000 in
theorem w_X10_wants_21 {p : Program} {l : Launch} {e : Env} {s : State} {m : MethodId} {args : Array Value} {below : List Frame} {meth : Method} {c : Code} {G : Gx} {r : Int32} {h' : Mem} (X : CX G p s m args c cX10_wants 11 RX10) (hr : meth.sig.returnType = (Option.some Jvm.ClassFile.FieldType.int)) (hk : meth.locks = false) (N : Nat) : ∀ (n : Nat) (v0 : Nat) (v1 : Int32) (v2 : Int32) (v3 : Int32) (v4 : Int32) (v5 : Int32) (v6 : Int64) (v8 : Int32) (h : Mem), f_X10_wants_21 N n v0 v1 v2 v3 v4 v5 v6 v8 h = some (r, h') → ∀ (H : Heap) (locs : List Loc) (ls : Array Slot), MS G s h H locs 0 → lv_has ls 11 [(0, .ref (gB G + v0)), (1, .int v1), (2, .int v2), (3, .int v3), (4, .int v4), (5, .int v5), (6, .long v6), (8, .int v8)] → W p l e (rm_X10_wants) s m args below meth c H locs 0 0 (QI G below args s r h' 0 0) (F0 m 21 ls []) := by
  intro n
  induction n with
  | zero =>
    intro v0 v1 v2 v3 v4 v5 v6 v8 h hf
    cases hf
  | succ n ih =>
    intro v0 v1 v2 v3 v4 v5 v6 v8 h hf H locs ls M hl
    rw [f_X10_wants_21] at hf
    refine lv_iload X.1 X.2.1 dX10_wants_21 (lv_at hl 7 rfl) ?_
    refine lv_bipush (v := (6 : Int32)) X.1 X.2.1 dX10_wants_23 (by decide) ?_
    refine lv_icmp_ge (tgt := 78) X.1 X.2.1 dX10_wants_25 (by decide) (fun c1 => ?_) (fun c1 => ?_)
    · have hf := ifp c1 hf
      refine lv_aload_n X.1 X.2.1 dX10_wants_78 rfl (lv_at hl 0 rfl) ?_
      obtain ⟨t2, q3, hf⟩ := bnd hf
      refine x_getr fl_X10_23 X M q3 dX10_wants_79 ?_
      refine lv_iconst (v := (3 : Int32)) X.1 X.2.1 dX10_wants_82 (by decide) ?_
      refine lv_iload_n X.1 X.2.1 dX10_wants_83 rfl (lv_at hl 2 rfl) ?_
      refine lv_imul X.1 X.2.1 dX10_wants_84 ?_
      refine lv_iload_n X.1 X.2.1 dX10_wants_85 rfl (lv_at hl 3 rfl) ?_
      refine lv_iadd X.1 X.2.1 dX10_wants_86 ?_
      refine lv_iload X.1 X.2.1 dX10_wants_87 (lv_at hl 4 rfl) ?_
      obtain ⟨h4, q5, hf⟩ := bnd hf
      refine x_iast X M q5 dX10_wants_89 (fun H locs M => ?_)
      refine lv_iload X.1 X.2.1 dX10_wants_90 (lv_at hl 5 rfl) ?_
      obtain ⟨rfl, rfl⟩ := rt2 hf
      exact x_iret X hr hk M dX10_wants_92
    · have hf := ifn c1 hf
      refine lv_aload_n X.1 X.2.1 dX10_wants_28 rfl (lv_at hl 0 rfl) ?_
      obtain ⟨t6, q7, hf⟩ := bnd hf
      refine x_getr fl_X10_23 X M q7 dX10_wants_29 ?_
      refine lv_iconst (v := (3 : Int32)) X.1 X.2.1 dX10_wants_32 (by decide) ?_
      refine lv_iload_n X.1 X.2.1 dX10_wants_33 rfl (lv_at hl 2 rfl) ?_
      refine lv_imul X.1 X.2.1 dX10_wants_34 ?_
      refine lv_iload_n X.1 X.2.1 dX10_wants_35 rfl (lv_at hl 3 rfl) ?_
      refine lv_iadd X.1 X.2.1 dX10_wants_36 ?_
      refine lv_iload X.1 X.2.1 dX10_wants_37 (lv_at hl 7 rfl) ?_
      obtain ⟨h8, q9, hf⟩ := bnd hf
      refine x_iast X M q9 dX10_wants_39 (fun H locs M => ?_)
      refine lv_aload_n X.1 X.2.1 dX10_wants_40 rfl (lv_at hl 0 rfl) ?_
      refine lv_iload_n X.1 X.2.1 dX10_wants_41 rfl (lv_at hl 1 rfl) ?_
      refine lv_iload_n X.1 X.2.1 dX10_wants_42 rfl (lv_at hl 2 rfl) ?_
      obtain ⟨⟨⟩, q10, hf⟩ := bnd hf
      obtain ⟨t13, h12, q11, hf⟩ := bnd2 hf
      refine x_callVl (As := [.int v1, .int v2]) cf_X10_225 (c_X10_worthOf l G N v0 v1 v2 h8 _ _ q11) rfl ⟨rfl, rfl, Nat.le_of_ble_eq_true rfl, Nat.le_of_ble_eq_true rfl⟩ ⟨Nat.le_of_ble_eq_true rfl, Nat.le_of_ble_eq_true rfl⟩ X M (x_recv cls_X10 X M q10) rfl rfl hl.1 (Nat.le_of_ble_eq_true rfl) dX10_wants_43 (fun H locs M => ?_)
      refine lv_lstore (lv' := [(9, .long t13), (0, .ref (gB G + v0)), (1, .int v1), (2, .int v2), (3, .int v3), (4, .int v4), (5, .int v5), (6, .long v6), (8, .int v8)]) X.1 X.2.1 dX10_wants_46 hl (by decide) rfl (fun ls hl => ?_)
      refine lv_iload X.1 X.2.1 dX10_wants_48 (lv_at hl 8 rfl) ?_
      refine lv_if_le (tgt := 64) X.1 X.2.1 dX10_wants_50 (by decide) (fun c14 => ?_) (fun c14 => ?_)
      · have hf := ifp c14 hf
        exact w_X10_wants_64 X hr hk N _ (fun v0 v1 v2 v3 v4 v5 v6 v8 h hf H locs ls M hl => ih v0 v1 v2 v3 v4 v5 v6 v8 h hf H locs ls M hl) v0 v1 v2 v3 v4 v8 t13 h12 hf _ _ _ M (lv_sub hl [1, 2, 3, 4, 5, 8, 0] rfl)
      · have hf := ifn c14 hf
        refine lv_lload X.1 X.2.1 dX10_wants_53 (lv_at hl 0 rfl) ?_
        refine lv_lload X.1 X.2.1 dX10_wants_55 (lv_at hl 7 rfl) ?_
        refine W.lcmp X.1 X.2.1 dX10_wants_57 ?_
        refine lv_if_gt (tgt := 64) X.1 X.2.1 dX10_wants_58 (by decide) (fun c15 => ?_) (fun c15 => ?_)
        · have hf := ifp c15 hf
          exact w_X10_wants_64 X hr hk N _ (fun v0 v1 v2 v3 v4 v5 v6 v8 h hf H locs ls M hl => ih v0 v1 v2 v3 v4 v5 v6 v8 h hf H locs ls M hl) v0 v1 v2 v3 v4 v8 t13 h12 hf _ _ _ M (lv_sub hl [1, 2, 3, 4, 5, 8, 0] rfl)
        · have hf := ifn c15 hf
          refine lv_goto (tgt := 72) X.1 X.2.1 dX10_wants_61 (by decide) ?_
          refine lv_iinc (v := (v8 + 1)) (lv' := [(8, .int (v8 + 1)), (9, .long t13), (0, .ref (gB G + v0)), (1, .int v1), (2, .int v2), (3, .int v3), (4, .int v4), (5, .int v5), (6, .long v6)]) X.1 X.2.1 dX10_wants_72 hl (k := 8) rfl (by first | rfl | decide) (by decide) rfl (fun ls hl => ?_)
          refine lv_goto (tgt := 21) X.1 X.2.1 dX10_wants_75 (by decide) ?_
          exact ih v0 v1 v2 v3 v4 v5 v6 (v8 + 1) h12 hf _ _ _ M (lv_sub hl [2, 3, 4, 5, 6, 7, 8, 0] rfl)
def f_X10_wants (N : Nat) (v0 : Nat) (v1 : Int32) (v2 : Int32) (v3 : Int32) (h : Mem) : Option (Int32 × Mem) :=
  (gR h v0 10 4).bind fun t1 =>
  (lI 100 h t1 (((3 : Int32) * v2) + v3)).bind fun t3 =>
  f_X10_wants_21 N N v0 v1 v2 v3 t3 (0 : Int32) (0 : Int64) (0 : Int32) h
set_option maxRecDepth 100000 in
set_option maxHeartbeats 4000000 in
theorem w_X10_wants {p : Program} {l : Launch} {e : Env} {s : State} {m : MethodId} {args : Array Value} {below : List Frame} {meth : Method} {c : Code} {G : Gx} {r : Int32} {h' : Mem} (X : CX G p s m args c cX10_wants 11 RX10) (hr : meth.sig.returnType = (Option.some Jvm.ClassFile.FieldType.int)) (hk : meth.locks = false) (N : Nat) : ∀ (v0 : Nat) (v1 : Int32) (v2 : Int32) (v3 : Int32) (h : Mem), f_X10_wants N v0 v1 v2 v3 h = some (r, h') → ∀ (H : Heap) (locs : List Loc) (ls : Array Slot), MS G s h H locs 0 → lv_has ls 11 [(0, .ref (gB G + v0)), (1, .int v1), (2, .int v2), (3, .int v3)] → W p l e (rm_X10_wants) s m args below meth c H locs 0 0 (QI G below args s r h' 0 0) (F0 m 0 ls []) := by
  intro v0 v1 v2 v3 h hf H locs ls M hl
  rw [f_X10_wants] at hf
  refine lv_aload_n X.1 X.2.1 dX10_wants_0 rfl (lv_at hl 0 rfl) ?_
  obtain ⟨t1, q2, hf⟩ := bnd hf
  refine x_getr fl_X10_23 X M q2 dX10_wants_1 ?_
  refine lv_iconst (v := (3 : Int32)) X.1 X.2.1 dX10_wants_4 (by decide) ?_
  refine lv_iload_n X.1 X.2.1 dX10_wants_5 rfl (lv_at hl 2 rfl) ?_
  refine lv_imul X.1 X.2.1 dX10_wants_6 ?_
  refine lv_iload_n X.1 X.2.1 dX10_wants_7 rfl (lv_at hl 3 rfl) ?_
  refine lv_iadd X.1 X.2.1 dX10_wants_8 ?_
  obtain ⟨t3, q4, hf⟩ := bnd hf
  refine x_iald X M q4 dX10_wants_9 ?_
  refine lv_istore (lv' := [(4, .int t3), (0, .ref (gB G + v0)), (1, .int v1), (2, .int v2), (3, .int v3)]) X.1 X.2.1 dX10_wants_10 hl (by decide) rfl (fun ls hl => ?_)
  refine lv_iconst (v := (0 : Int32)) X.1 X.2.1 dX10_wants_12 (by decide) ?_
  refine lv_istore (lv' := [(5, .int (0 : Int32)), (4, .int t3), (0, .ref (gB G + v0)), (1, .int v1), (2, .int v2), (3, .int v3)]) X.1 X.2.1 dX10_wants_13 hl (by decide) rfl (fun ls hl => ?_)
  refine lv_lconst (v := 0) X.1 X.2.1 dX10_wants_15 rfl ?_
  refine lv_lstore (lv' := [(6, .long (0 : Int64)), (5, .int (0 : Int32)), (4, .int t3), (0, .ref (gB G + v0)), (1, .int v1), (2, .int v2), (3, .int v3)]) X.1 X.2.1 dX10_wants_16 hl (by decide) rfl (fun ls hl => ?_)
  refine lv_iconst (v := (0 : Int32)) X.1 X.2.1 dX10_wants_18 (by decide) ?_
  refine lv_istore (lv' := [(8, .int (0 : Int32)), (6, .long (0 : Int64)), (5, .int (0 : Int32)), (4, .int t3), (0, .ref (gB G + v0)), (1, .int v1), (2, .int v2), (3, .int v3)]) X.1 X.2.1 dX10_wants_19 hl (by decide) rfl (fun ls hl => ?_)
  exact w_X10_wants_21 X hr hk N N v0 v1 v2 v3 t3 (0 : Int32) (0 : Int64) (0 : Int32) h hf _ _ _ M (lv_sub hl [4, 5, 6, 7, 3, 2, 1, 0] rfl)
theorem c_X10_wants (l : Launch) (G : Gx) (N : Nat) (v0 : Nat) (v1 : Int32) (v2 : Int32) (v3 : Int32) (h : Mem) (r : Int32) (h' : Mem) (hf : f_X10_wants N v0 v1 v2 v3 h = some (r, h')) : MetG l G yX10_wants (.code yX10_wants cX10_wants 11 (Option.some Jvm.ClassFile.FieldType.int)) rm_X10_wants [.ref (gB G + v0), .int v1, .int v2, .int v3] h (QcI G r h') 0 0 :=
  x_met (by decide) rfl (Nat.le_of_ble_eq_true rfl) (fun p e s m args below meth c ls X M hr hk hin hl => w_X10_wants X hr hk N v0 v1 v2 v3 h hf _ _ ls M hl)
abbrev rm_X10_choiceOf : Room := { frames := 12, cells := 0, slots := 0, locals := 292 }
def f_X10_choiceOf_49 (N : Nat) (v0 : Nat) (v1 : Int32) (v2 : Int32) (v4 : Int32) (h : Mem) (k54 : Nat → Int32 → Int32 → Int32 → Int32 → Mem → Option (Int32 × Mem)) : Option (Int32 × Mem) :=
  k54 v0 v1 v2 v4 (1 : Int32) h
set_option maxRecDepth 100000 in
set_option maxHeartbeats 4000000 in
theorem w_X10_choiceOf_49 {p : Program} {l : Launch} {e : Env} {s : State} {m : MethodId} {args : Array Value} {below : List Frame} {meth : Method} {c : Code} {G : Gx} {r : Int32} {h' : Mem} (X : CX G p s m args c cX10_choiceOf 7 RX10) (hr : meth.sig.returnType = (Option.some Jvm.ClassFile.FieldType.int)) (hk : meth.locks = false) (N : Nat) (k54 : Nat → Int32 → Int32 → Int32 → Int32 → Mem → Option (Int32 × Mem)) (K54 : ∀ (v0 : Nat) (v1 : Int32) (v2 : Int32) (v4 : Int32) (s0 : Int32) (h : Mem), k54 v0 v1 v2 v4 s0 h = some (r, h') → ∀ (H : Heap) (locs : List Loc) (ls : Array Slot), MS G s h H locs 0 → lv_has ls 7 [(0, .ref (gB G + v0)), (1, .int v1), (2, .int v2), (4, .int v4)] → W p l e (rm_X10_choiceOf) s m args below meth c H locs 0 0 (QI G below args s r h' 0 0) (F0 m 54 ls [.int s0])) : ∀ (v0 : Nat) (v1 : Int32) (v2 : Int32) (v4 : Int32) (h : Mem), f_X10_choiceOf_49 N v0 v1 v2 v4 h k54 = some (r, h') → ∀ (H : Heap) (locs : List Loc) (ls : Array Slot), MS G s h H locs 0 → lv_has ls 7 [(0, .ref (gB G + v0)), (1, .int v1), (2, .int v2), (4, .int v4)] → W p l e (rm_X10_choiceOf) s m args below meth c H locs 0 0 (QI G below args s r h' 0 0) (F0 m 49 ls []) := by
  intro v0 v1 v2 v4 h hf H locs ls M hl
  rw [f_X10_choiceOf_49] at hf
  refine lv_iconst (v := (1 : Int32)) X.1 X.2.1 dX10_choiceOf_49 (by decide) ?_
  refine lv_goto (tgt := 54) X.1 X.2.1 dX10_choiceOf_50 (by decide) ?_
  exact K54 v0 v1 v2 v4 (1 : Int32) h hf _ _ _ M (lv_sub hl [0, 1, 2, 3] rfl)
def f_X10_choiceOf_53 (N : Nat) (v0 : Nat) (v1 : Int32) (v2 : Int32) (v4 : Int32) (h : Mem) (k54 : Nat → Int32 → Int32 → Int32 → Int32 → Mem → Option (Int32 × Mem)) : Option (Int32 × Mem) :=
  k54 v0 v1 v2 v4 (0 : Int32) h
set_option maxRecDepth 100000 in
set_option maxHeartbeats 4000000 in
theorem w_X10_choiceOf_53 {p : Program} {l : Launch} {e : Env} {s : State} {m : MethodId} {args : Array Value} {below : List Frame} {meth : Method} {c : Code} {G : Gx} {r : Int32} {h' : Mem} (X : CX G p s m args c cX10_choiceOf 7 RX10) (hr : meth.sig.returnType = (Option.some Jvm.ClassFile.FieldType.int)) (hk : meth.locks = false) (N : Nat) (k54 : Nat → Int32 → Int32 → Int32 → Int32 → Mem → Option (Int32 × Mem)) (K54 : ∀ (v0 : Nat) (v1 : Int32) (v2 : Int32) (v4 : Int32) (s0 : Int32) (h : Mem), k54 v0 v1 v2 v4 s0 h = some (r, h') → ∀ (H : Heap) (locs : List Loc) (ls : Array Slot), MS G s h H locs 0 → lv_has ls 7 [(0, .ref (gB G + v0)), (1, .int v1), (2, .int v2), (4, .int v4)] → W p l e (rm_X10_choiceOf) s m args below meth c H locs 0 0 (QI G below args s r h' 0 0) (F0 m 54 ls [.int s0])) : ∀ (v0 : Nat) (v1 : Int32) (v2 : Int32) (v4 : Int32) (h : Mem), f_X10_choiceOf_53 N v0 v1 v2 v4 h k54 = some (r, h') → ∀ (H : Heap) (locs : List Loc) (ls : Array Slot), MS G s h H locs 0 → lv_has ls 7 [(0, .ref (gB G + v0)), (1, .int v1), (2, .int v2), (4, .int v4)] → W p l e (rm_X10_choiceOf) s m args below meth c H locs 0 0 (QI G below args s r h' 0 0) (F0 m 53 ls []) := by
  intro v0 v1 v2 v4 h hf H locs ls M hl
  rw [f_X10_choiceOf_53] at hf
  refine lv_iconst (v := (0 : Int32)) X.1 X.2.1 dX10_choiceOf_53 (by decide) ?_
  exact K54 v0 v1 v2 v4 (0 : Int32) h hf _ _ _ M (lv_sub hl [0, 1, 2, 3] rfl)
def f_X10_choiceOf_54 (N : Nat) (v0 : Nat) (v1 : Int32) (v2 : Int32) (v4 : Int32) (s0 : Int32) (h : Mem) (k5 : Nat → Int32 → Int32 → Int32 → Int32 → Mem → Option (Int32 × Mem)) : Option (Int32 × Mem) :=
  k5 v0 v1 v2 s0 (v4 + 1) h
set_option maxRecDepth 100000 in
set_option maxHeartbeats 4000000 in
theorem w_X10_choiceOf_54 {p : Program} {l : Launch} {e : Env} {s : State} {m : MethodId} {args : Array Value} {below : List Frame} {meth : Method} {c : Code} {G : Gx} {r : Int32} {h' : Mem} (X : CX G p s m args c cX10_choiceOf 7 RX10) (hr : meth.sig.returnType = (Option.some Jvm.ClassFile.FieldType.int)) (hk : meth.locks = false) (N : Nat) (k5 : Nat → Int32 → Int32 → Int32 → Int32 → Mem → Option (Int32 × Mem)) (K5 : ∀ (v0 : Nat) (v1 : Int32) (v2 : Int32) (v3 : Int32) (v4 : Int32) (h : Mem), k5 v0 v1 v2 v3 v4 h = some (r, h') → ∀ (H : Heap) (locs : List Loc) (ls : Array Slot), MS G s h H locs 0 → lv_has ls 7 [(0, .ref (gB G + v0)), (1, .int v1), (2, .int v2), (3, .int v3), (4, .int v4)] → W p l e (rm_X10_choiceOf) s m args below meth c H locs 0 0 (QI G below args s r h' 0 0) (F0 m 5 ls [])) : ∀ (v0 : Nat) (v1 : Int32) (v2 : Int32) (v4 : Int32) (s0 : Int32) (h : Mem), f_X10_choiceOf_54 N v0 v1 v2 v4 s0 h k5 = some (r, h') → ∀ (H : Heap) (locs : List Loc) (ls : Array Slot), MS G s h H locs 0 → lv_has ls 7 [(0, .ref (gB G + v0)), (1, .int v1), (2, .int v2), (4, .int v4)] → W p l e (rm_X10_choiceOf) s m args below meth c H locs 0 0 (QI G below args s r h' 0 0) (F0 m 54 ls [.int s0]) := by
  intro v0 v1 v2 v4 s0 h hf H locs ls M hl
  rw [f_X10_choiceOf_54] at hf
  refine lv_istore_n (lv' := [(3, .int s0), (0, .ref (gB G + v0)), (1, .int v1), (2, .int v2), (4, .int v4)]) X.1 X.2.1 dX10_choiceOf_54 rfl hl (by decide) rfl (fun ls hl => ?_)
  refine lv_iinc (v := (v4 + 1)) (lv' := [(4, .int (v4 + 1)), (3, .int s0), (0, .ref (gB G + v0)), (1, .int v1), (2, .int v2)]) X.1 X.2.1 dX10_choiceOf_55 hl (k := 4) rfl (by first | rfl | decide) (by decide) rfl (fun ls hl => ?_)
  refine lv_goto (tgt := 5) X.1 X.2.1 dX10_choiceOf_58 (by decide) ?_
  exact K5 v0 v1 v2 s0 (v4 + 1) h hf _ _ _ M (lv_sub hl [2, 3, 4, 1, 0] rfl)
def f_X10_choiceOf_129 (N : Nat) (v0 : Nat) (v1 : Int32) (v2 : Int32) (v3 : Int32) (v4 : Int32) (v5 : Int32) (h : Mem) (k91 : Nat → Int32 → Int32 → Int32 → Int32 → Int32 → Mem → Option (Int32 × Mem)) : Option (Int32 × Mem) :=
  (gR h v0 10 41).bind fun t1 =>
  (ck h v0 10).bind fun _ =>
  b2 (f_X10_wants N v0 v5 v1 v2 h) fun t6 h5 =>
  (lI 100 h5 t1 t6).bind fun t7 =>
  (stI 100 h5 t1 t6 (t7 + (1 : Int32))).bind fun h9 =>
  k91 v0 v1 v2 v3 (v4 + 1) (v5 + 1) h9
set_option maxRecDepth 100000 in
set_option maxHeartbeats 4000000 in
theorem w_X10_choiceOf_129 {p : Program} {l : Launch} {e : Env} {s : State} {m : MethodId} {args : Array Value} {below : List Frame} {meth : Method} {c : Code} {G : Gx} {r : Int32} {h' : Mem} (X : CX G p s m args c cX10_choiceOf 7 RX10) (hr : meth.sig.returnType = (Option.some Jvm.ClassFile.FieldType.int)) (hk : meth.locks = false) (N : Nat) (k91 : Nat → Int32 → Int32 → Int32 → Int32 → Int32 → Mem → Option (Int32 × Mem)) (K91 : ∀ (v0 : Nat) (v1 : Int32) (v2 : Int32) (v3 : Int32) (v4 : Int32) (v5 : Int32) (h : Mem), k91 v0 v1 v2 v3 v4 v5 h = some (r, h') → ∀ (H : Heap) (locs : List Loc) (ls : Array Slot), MS G s h H locs 0 → lv_has ls 7 [(0, .ref (gB G + v0)), (1, .int v1), (2, .int v2), (3, .int v3), (4, .int v4), (5, .int v5)] → W p l e (rm_X10_choiceOf) s m args below meth c H locs 0 0 (QI G below args s r h' 0 0) (F0 m 91 ls [])) : ∀ (v0 : Nat) (v1 : Int32) (v2 : Int32) (v3 : Int32) (v4 : Int32) (v5 : Int32) (h : Mem), f_X10_choiceOf_129 N v0 v1 v2 v3 v4 v5 h k91 = some (r, h') → ∀ (H : Heap) (locs : List Loc) (ls : Array Slot), MS G s h H locs 0 → lv_has ls 7 [(0, .ref (gB G + v0)), (1, .int v1), (2, .int v2), (3, .int v3), (4, .int v4), (5, .int v5)] → W p l e (rm_X10_choiceOf) s m args below meth c H locs 0 0 (QI G below args s r h' 0 0) (F0 m 129 ls []) := by
  intro v0 v1 v2 v3 v4 v5 h hf H locs ls M hl
  rw [f_X10_choiceOf_129] at hf
  refine lv_aload_n X.1 X.2.1 dX10_choiceOf_129 rfl (lv_at hl 0 rfl) ?_
  obtain ⟨t1, q2, hf⟩ := bnd hf
  refine x_getr fl_X10_136 X M q2 dX10_choiceOf_130 ?_
  refine lv_aload_n X.1 X.2.1 dX10_choiceOf_133 rfl (lv_at hl 0 rfl) ?_
  refine lv_iload X.1 X.2.1 dX10_choiceOf_134 (lv_at hl 5 rfl) ?_
  refine lv_iload_n X.1 X.2.1 dX10_choiceOf_136 rfl (lv_at hl 1 rfl) ?_
  refine lv_iload_n X.1 X.2.1 dX10_choiceOf_137 rfl (lv_at hl 2 rfl) ?_
  obtain ⟨⟨⟩, q3, hf⟩ := bnd hf
  obtain ⟨t6, h5, q4, hf⟩ := bnd2 hf
  refine x_callVi (As := [.int v5, .int v1, .int v2]) cf_X10_295 (c_X10_wants l G N v0 v5 v1 v2 h _ _ q4) rfl ⟨rfl, rfl, Nat.le_of_ble_eq_true rfl, Nat.le_of_ble_eq_true rfl⟩ ⟨Nat.le_of_ble_eq_true rfl, Nat.le_of_ble_eq_true rfl⟩ X M (x_recv cls_X10 X M q3) rfl rfl hl.1 (Nat.le_of_ble_eq_true rfl) dX10_choiceOf_138 (fun H locs M => ?_)
  refine lv_dup2_11 X.1 X.2.1 dX10_choiceOf_141 rfl rfl ?_
  obtain ⟨t7, q8, hf⟩ := bnd hf
  refine x_iald X M q8 dX10_choiceOf_142 ?_
  refine lv_iconst (v := (1 : Int32)) X.1 X.2.1 dX10_choiceOf_143 (by decide) ?_
  refine lv_iadd X.1 X.2.1 dX10_choiceOf_144 ?_
  obtain ⟨h9, q10, hf⟩ := bnd hf
  refine x_iast X M q10 dX10_choiceOf_145 (fun H locs M => ?_)
  refine lv_iinc (v := (v4 + 1)) (lv' := [(4, .int (v4 + 1)), (0, .ref (gB G + v0)), (1, .int v1), (2, .int v2), (3, .int v3), (5, .int v5)]) X.1 X.2.1 dX10_choiceOf_146 hl (k := 4) rfl (by first | rfl | decide) (by decide) rfl (fun ls hl => ?_)
  refine lv_iinc (v := (v5 + 1)) (lv' := [(5, .int (v5 + 1)), (4, .int (v4 + 1)), (0, .ref (gB G + v0)), (1, .int v1), (2, .int v2), (3, .int v3)]) X.1 X.2.1 dX10_choiceOf_149 hl (k := 5) rfl (by first | rfl | decide) (by decide) rfl (fun ls hl => ?_)
  refine lv_goto (tgt := 91) X.1 X.2.1 dX10_choiceOf_152 (by decide) ?_
  exact K91 v0 v1 v2 v3 (v4 + 1) (v5 + 1) h9 hf _ _ _ M (lv_sub hl [2, 3, 4, 5, 1, 0] rfl)
def f_X10_choiceOf_184 (N : Nat) (n : Nat) (v0 : Nat) (v4 : Int32) (v5 : Int32) (v6 : Int32) (h : Mem) : Option (Int32 × Mem) := match n with
  | 0 => none
  | n + 1 =>
    if v4 ≤ 0 then
      some (v5, h)
    else
      (gR h v0 10 41).bind fun t2 =>
      (lI 100 h t2 v5).bind fun t4 =>
      if v6 < t4 then
        some (v5, h)
      else
        (gR h v0 10 41).bind fun t7 =>
        (lI 100 h t7 v5).bind fun t9 =>
        f_X10_choiceOf_184 N n v0 v4 (v5 + 1) (v6 - t9) h
set_option maxRecDepth 100000 in
set_option maxHeartbeats 4000000 in
theorem w_X10_choiceOf_184 {p : Program} {l : Launch} {e : Env} {s : State} {m : MethodId} {args : Array Value} {below : List Frame} {meth : Method} {c : Code} {G : Gx} {r : Int32} {h' : Mem} (X : CX G p s m args c cX10_choiceOf 7 RX10) (hr : meth.sig.returnType = (Option.some Jvm.ClassFile.FieldType.int)) (hk : meth.locks = false) (N : Nat) : ∀ (n : Nat) (v0 : Nat) (v4 : Int32) (v5 : Int32) (v6 : Int32) (h : Mem), f_X10_choiceOf_184 N n v0 v4 v5 v6 h = some (r, h') → ∀ (H : Heap) (locs : List Loc) (ls : Array Slot), MS G s h H locs 0 → lv_has ls 7 [(0, .ref (gB G + v0)), (4, .int v4), (5, .int v5), (6, .int v6)] → W p l e (rm_X10_choiceOf) s m args below meth c H locs 0 0 (QI G below args s r h' 0 0) (F0 m 184 ls []) := by
  intro n
  induction n with
  | zero =>
    intro v0 v4 v5 v6 h hf
    cases hf
  | succ n ih =>
    intro v0 v4 v5 v6 h hf H locs ls M hl
    rw [f_X10_choiceOf_184] at hf
    refine lv_iload X.1 X.2.1 dX10_choiceOf_184 (lv_at hl 1 rfl) ?_
    refine lv_if_le (tgt := 219) X.1 X.2.1 dX10_choiceOf_186 (by decide) (fun c1 => ?_) (fun c1 => ?_)
    · have hf := ifp c1 hf
      refine lv_iload X.1 X.2.1 dX10_choiceOf_219 (lv_at hl 2 rfl) ?_
      obtain ⟨rfl, rfl⟩ := rt2 hf
      exact x_iret X hr hk M dX10_choiceOf_221
    · have hf := ifn c1 hf
      refine lv_iload X.1 X.2.1 dX10_choiceOf_189 (lv_at hl 3 rfl) ?_
      refine lv_aload_n X.1 X.2.1 dX10_choiceOf_191 rfl (lv_at hl 0 rfl) ?_
      obtain ⟨t2, q3, hf⟩ := bnd hf
      refine x_getr fl_X10_136 X M q3 dX10_choiceOf_192 ?_
      refine lv_iload X.1 X.2.1 dX10_choiceOf_195 (lv_at hl 2 rfl) ?_
      obtain ⟨t4, q5, hf⟩ := bnd hf
      refine x_iald X M q5 dX10_choiceOf_197 ?_
      refine lv_icmp_lt (tgt := 219) X.1 X.2.1 dX10_choiceOf_198 (by decide) (fun c6 => ?_) (fun c6 => ?_)
      · have hf := ifp c6 hf
        refine lv_iload X.1 X.2.1 dX10_choiceOf_219 (lv_at hl 2 rfl) ?_
        obtain ⟨rfl, rfl⟩ := rt2 hf
        exact x_iret X hr hk M dX10_choiceOf_221
      · have hf := ifn c6 hf
        refine lv_iload X.1 X.2.1 dX10_choiceOf_201 (lv_at hl 3 rfl) ?_
        refine lv_aload_n X.1 X.2.1 dX10_choiceOf_203 rfl (lv_at hl 0 rfl) ?_
        obtain ⟨t7, q8, hf⟩ := bnd hf
        refine x_getr fl_X10_136 X M q8 dX10_choiceOf_204 ?_
        refine lv_iload X.1 X.2.1 dX10_choiceOf_207 (lv_at hl 2 rfl) ?_
        obtain ⟨t9, q10, hf⟩ := bnd hf
        refine x_iald X M q10 dX10_choiceOf_209 ?_
        refine lv_isub X.1 X.2.1 dX10_choiceOf_210 ?_
        refine lv_istore (lv' := [(6, .int (v6 - t9)), (0, .ref (gB G + v0)), (4, .int v4), (5, .int v5)]) X.1 X.2.1 dX10_choiceOf_211 hl (by decide) rfl (fun ls hl => ?_)
        refine lv_iinc (v := (v5 + 1)) (lv' := [(5, .int (v5 + 1)), (6, .int (v6 - t9)), (0, .ref (gB G + v0)), (4, .int v4)]) X.1 X.2.1 dX10_choiceOf_213 hl (k := 3) rfl (by first | rfl | decide) (by decide) rfl (fun ls hl => ?_)
        refine lv_goto (tgt := 184) X.1 X.2.1 dX10_choiceOf_216 (by decide) ?_
        exact ih v0 v4 (v5 + 1) (v6 - t9) h hf _ _ _ M (lv_sub hl [2, 3, 0, 1] rfl)
def f_X10_choiceOf_182 (N : Nat) (v0 : Nat) (v4 : Int32) (v5 : Int32) (s0 : Int32) (h : Mem) : Option (Int32 × Mem) :=
  f_X10_choiceOf_184 N N v0 v4 v5 s0 h
set_option maxRecDepth 100000 in
set_option maxHeartbeats 4000000 in
theorem w_X10_choiceOf_182 {p : Program} {l : Launch} {e : Env} {s : State} {m : MethodId} {args : Array Value} {below : List Frame} {meth : Method} {c : Code} {G : Gx} {r : Int32} {h' : Mem} (X : CX G p s m args c cX10_choiceOf 7 RX10) (hr : meth.sig.returnType = (Option.some Jvm.ClassFile.FieldType.int)) (hk : meth.locks = false) (N : Nat) : ∀ (v0 : Nat) (v4 : Int32) (v5 : Int32) (s0 : Int32) (h : Mem), f_X10_choiceOf_182 N v0 v4 v5 s0 h = some (r, h') → ∀ (H : Heap) (locs : List Loc) (ls : Array Slot), MS G s h H locs 0 → lv_has ls 7 [(0, .ref (gB G + v0)), (4, .int v4), (5, .int v5)] → W p l e (rm_X10_choiceOf) s m args below meth c H locs 0 0 (QI G below args s r h' 0 0) (F0 m 182 ls [.int s0]) := by
  intro v0 v4 v5 s0 h hf H locs ls M hl
  rw [f_X10_choiceOf_182] at hf
  refine lv_istore (lv' := [(6, .int s0), (0, .ref (gB G + v0)), (4, .int v4), (5, .int v5)]) X.1 X.2.1 dX10_choiceOf_182 hl (by decide) rfl (fun ls hl => ?_)
  exact w_X10_choiceOf_184 X hr hk N N v0 v4 v5 s0 h hf _ _ _ M (lv_sub hl [1, 2, 3, 0] rfl)
def f_X10_choiceOf_225 (N : Nat) (n : Nat) (v0 : Nat) (v5 : Int32) (v6 : Int32) (h : Mem) : Option (Int32 × Mem) := match n with
  | 0 => none
  | n + 1 =>
    if (6 : Int32) ≤ v6 then
      some (v5, h)
    else
      (gR h v0 10 41).bind fun t2 =>
      (lI 100 h t2 v6).bind fun t4 =>
      (gR h v0 10 41).bind fun t6 =>
      (lI 100 h t6 v5).bind fun t8 =>
      if t4 ≤ t8 then
        f_X10_choiceOf_225 N n v0 v5 (v6 + 1) h
      else
        f_X10_choiceOf_225 N n v0 v6 (v6 + 1) h
set_option maxRecDepth 100000 in
set_option maxHeartbeats 4000000 in
theorem w_X10_choiceOf_225 {p : Program} {l : Launch} {e : Env} {s : State} {m : MethodId} {args : Array Value} {below : List Frame} {meth : Method} {c : Code} {G : Gx} {r : Int32} {h' : Mem} (X : CX G p s m args c cX10_choiceOf 7 RX10) (hr : meth.sig.returnType = (Option.some Jvm.ClassFile.FieldType.int)) (hk : meth.locks = false) (N : Nat) : ∀ (n : Nat) (v0 : Nat) (v5 : Int32) (v6 : Int32) (h : Mem), f_X10_choiceOf_225 N n v0 v5 v6 h = some (r, h') → ∀ (H : Heap) (locs : List Loc) (ls : Array Slot), MS G s h H locs 0 → lv_has ls 7 [(0, .ref (gB G + v0)), (5, .int v5), (6, .int v6)] → W p l e (rm_X10_choiceOf) s m args below meth c H locs 0 0 (QI G below args s r h' 0 0) (F0 m 225 ls []) := by
  intro n
  induction n with
  | zero =>
    intro v0 v5 v6 h hf
    cases hf
  | succ n ih =>
    intro v0 v5 v6 h hf H locs ls M hl
    rw [f_X10_choiceOf_225] at hf
    refine lv_iload X.1 X.2.1 dX10_choiceOf_225 (lv_at hl 2 rfl) ?_
    refine lv_bipush (v := (6 : Int32)) X.1 X.2.1 dX10_choiceOf_227 (by decide) ?_
    refine lv_icmp_ge (tgt := 259) X.1 X.2.1 dX10_choiceOf_229 (by decide) (fun c1 => ?_) (fun c1 => ?_)
    · have hf := ifp c1 hf
      refine lv_iload X.1 X.2.1 dX10_choiceOf_259 (lv_at hl 1 rfl) ?_
      obtain ⟨rfl, rfl⟩ := rt2 hf
      exact x_iret X hr hk M dX10_choiceOf_261
    · have hf := ifn c1 hf
      refine lv_aload_n X.1 X.2.1 dX10_choiceOf_232 rfl (lv_at hl 0 rfl) ?_
      obtain ⟨t2, q3, hf⟩ := bnd hf
      refine x_getr fl_X10_136 X M q3 dX10_choiceOf_233 ?_
      refine lv_iload X.1 X.2.1 dX10_choiceOf_236 (lv_at hl 2 rfl) ?_
      obtain ⟨t4, q5, hf⟩ := bnd hf
      refine x_iald X M q5 dX10_choiceOf_238 ?_
      refine lv_aload_n X.1 X.2.1 dX10_choiceOf_239 rfl (lv_at hl 0 rfl) ?_
      obtain ⟨t6, q7, hf⟩ := bnd hf
      refine x_getr fl_X10_136 X M q7 dX10_choiceOf_240 ?_
      refine lv_iload X.1 X.2.1 dX10_choiceOf_243 (lv_at hl 1 rfl) ?_
      obtain ⟨t8, q9, hf⟩ := bnd hf
      refine x_iald X M q9 dX10_choiceOf_245 ?_
      refine lv_icmp_le (tgt := 253) X.1 X.2.1 dX10_choiceOf_246 (by decide) (fun c10 => ?_) (fun c10 => ?_)
      · have hf := ifp c10 hf
        refine lv_iinc (v := (v6 + 1)) (lv' := [(6, .int (v6 + 1)), (0, .ref (gB G + v0)), (5, .int v5)]) X.1 X.2.1 dX10_choiceOf_253 hl (k := 2) rfl (by first | rfl | decide) (by decide) rfl (fun ls hl => ?_)
        refine lv_goto (tgt := 225) X.1 X.2.1 dX10_choiceOf_256 (by decide) ?_
        exact ih v0 v5 (v6 + 1) h hf _ _ _ M (lv_sub hl [1, 2, 0] rfl)
      · have hf := ifn c10 hf
        refine lv_iload X.1 X.2.1 dX10_choiceOf_249 (lv_at hl 2 rfl) ?_
        refine lv_istore (lv' := [(5, .int v6), (0, .ref (gB G + v0)), (6, .int v6)]) X.1 X.2.1 dX10_choiceOf_251 hl (by decide) rfl (fun ls hl => ?_)
        refine lv_iinc (v := (v6 + 1)) (lv' := [(6, .int (v6 + 1)), (5, .int v6), (0, .ref (gB G + v0))]) X.1 X.2.1 dX10_choiceOf_253 hl (k := 2) rfl (by first | rfl | decide) (by decide) rfl (fun ls hl => ?_)
        refine lv_goto (tgt := 225) X.1 X.2.1 dX10_choiceOf_256 (by decide) ?_
        exact ih v0 v6 (v6 + 1) h hf _ _ _ M (lv_sub hl [2, 1, 0] rfl)
def f_X10_choiceOf_91 (N : Nat) (n : Nat) (v0 : Nat) (v1 : Int32) (v2 : Int32) (v3 : Int32) (v4 : Int32) (v5 : Int32) (h : Mem) : Option (Int32 × Mem) := match n with
  | 0 => none
  | n + 1 =>
    (gI h v0 10 1).bind fun t1 =>
    if t1 ≤ v5 then
      (gI h v0 10 27).bind fun t4 =>
      if t4 = (100 : Int32) then
        if v4 = 0 then
          f_X10_choiceOf_182 N v0 v4 (0 : Int32) (0 : Int32) h
        else
          f_X10_choiceOf_182 N v0 v4 (0 : Int32) ((v4 - (1 : Int32)) / (2 : Int32)) h
      else
        f_X10_choiceOf_225 N N v0 (0 : Int32) (1 : Int32) h
    else
      (gR h v0 10 10).bind fun t8 =>
      (lI 100 h t8 v5).bind fun t10 =>
      if t10 = v1 then
        if v3 = 0 then
          f_X10_choiceOf_129 N v0 v1 v2 v3 v4 v5 h (fun v0 v1 v2 v3 v4 v5 h => f_X10_choiceOf_91 N n v0 v1 v2 v3 v4 v5 h)
        else
          (gR h v0 10 11).bind fun t14 =>
          (lI 100 h t14 v5).bind fun t16 =>
          if t16 = v1 then
            f_X10_choiceOf_129 N v0 v1 v2 v3 v4 v5 h (fun v0 v1 v2 v3 v4 v5 h => f_X10_choiceOf_91 N n v0 v1 v2 v3 v4 v5 h)
          else
            f_X10_choiceOf_91 N n v0 v1 v2 v3 v4 (v5 + 1) h
      else
        f_X10_choiceOf_91 N n v0 v1 v2 v3 v4 (v5 + 1) h
set_option maxRecDepth 100000 in
set_option maxHeartbeats 4000000 in
theorem w_X10_choiceOf_91 {p : Program} {l : Launch} {e : Env} {s : State} {m : MethodId} {args : Array Value} {below : List Frame} {meth : Method} {c : Code} {G : Gx} {r : Int32} {h' : Mem} (X : CX G p s m args c cX10_choiceOf 7 RX10) (hr : meth.sig.returnType = (Option.some Jvm.ClassFile.FieldType.int)) (hk : meth.locks = false) (N : Nat) : ∀ (n : Nat) (v0 : Nat) (v1 : Int32) (v2 : Int32) (v3 : Int32) (v4 : Int32) (v5 : Int32) (h : Mem), f_X10_choiceOf_91 N n v0 v1 v2 v3 v4 v5 h = some (r, h') → ∀ (H : Heap) (locs : List Loc) (ls : Array Slot), MS G s h H locs 0 → lv_has ls 7 [(0, .ref (gB G + v0)), (1, .int v1), (2, .int v2), (3, .int v3), (4, .int v4), (5, .int v5)] → W p l e (rm_X10_choiceOf) s m args below meth c H locs 0 0 (QI G below args s r h' 0 0) (F0 m 91 ls []) := by
  intro n
  induction n with
  | zero =>
    intro v0 v1 v2 v3 v4 v5 h hf
    cases hf
  | succ n ih =>
    intro v0 v1 v2 v3 v4 v5 h hf H locs ls M hl
    rw [f_X10_choiceOf_91] at hf
    refine lv_iload X.1 X.2.1 dX10_choiceOf_91 (lv_at hl 5 rfl) ?_
    refine lv_aload_n X.1 X.2.1 dX10_choiceOf_93 rfl (lv_at hl 0 rfl) ?_
    obtain ⟨t1, q2, hf⟩ := bnd hf
    refine x_geti fl_X10_13 X M q2 dX10_choiceOf_94 ?_
    refine lv_icmp_ge (tgt := 155) X.1 X.2.1 dX10_choiceOf_97 (by decide) (fun c3 => ?_) (fun c3 => ?_)
    · have hf := ifp c3 hf
      refine lv_iconst (v := (0 : Int32)) X.1 X.2.1 dX10_choiceOf_155 (by decide) ?_
      refine lv_istore (lv' := [(5, .int (0 : Int32)), (0, .ref (gB G + v0)), (1, .int v1), (2, .int v2), (3, .int v3), (4, .int v4)]) X.1 X.2.1 dX10_choiceOf_156 hl (by decide) rfl (fun ls hl => ?_)
      refine lv_aload_n X.1 X.2.1 dX10_choiceOf_158 rfl (lv_at hl 1 rfl) ?_
      obtain ⟨t4, q5, hf⟩ := bnd hf
      refine x_geti fl_X10_92 X M q5 dX10_choiceOf_159 ?_
      refine lv_bipush (v := (100 : Int32)) X.1 X.2.1 dX10_choiceOf_162 (by decide) ?_
      refine lv_icmp_ne (tgt := 222) X.1 X.2.1 dX10_choiceOf_164 (by decide) (fun c6 => ?_) (fun c6 => ?_)
      · have hf := ifn c6 hf
        refine lv_iconst (v := (1 : Int32)) X.1 X.2.1 dX10_choiceOf_222 (by decide) ?_
        refine lv_istore (lv' := [(6, .int (1 : Int32)), (5, .int (0 : Int32)), (0, .ref (gB G + v0)), (1, .int v1), (2, .int v2), (3, .int v3), (4, .int v4)]) X.1 X.2.1 dX10_choiceOf_223 hl (by decide) rfl (fun ls hl => ?_)
        exact w_X10_choiceOf_225 X hr hk N N v0 (0 : Int32) (1 : Int32) h hf _ _ _ M (lv_sub hl [2, 1, 0] rfl)
      · have hf := ifp c6 hf
        refine lv_iload X.1 X.2.1 dX10_choiceOf_167 (lv_at hl 5 rfl) ?_
        refine lv_if_ne (tgt := 176) X.1 X.2.1 dX10_choiceOf_169 (by decide) (fun c7 => ?_) (fun c7 => ?_)
        · have hf := ifn c7 hf
          refine lv_iload X.1 X.2.1 dX10_choiceOf_176 (lv_at hl 5 rfl) ?_
          refine lv_iconst (v := (1 : Int32)) X.1 X.2.1 dX10_choiceOf_178 (by decide) ?_
          refine lv_isub X.1 X.2.1 dX10_choiceOf_179 ?_
          refine lv_iconst (v := (2 : Int32)) X.1 X.2.1 dX10_choiceOf_180 (by decide) ?_
          refine lv_idiv X.1 X.2.1 dX10_choiceOf_181 (by decide) ?_
          exact w_X10_choiceOf_182 X hr hk N v0 v4 (0 : Int32) ((v4 - (1 : Int32)) / (2 : Int32)) h hf _ _ _ M (lv_sub hl [1, 5, 0] rfl)
        · have hf := ifp c7 hf
          refine lv_iconst (v := (0 : Int32)) X.1 X.2.1 dX10_choiceOf_172 (by decide) ?_
          refine lv_goto (tgt := 182) X.1 X.2.1 dX10_choiceOf_173 (by decide) ?_
          exact w_X10_choiceOf_182 X hr hk N v0 v4 (0 : Int32) (0 : Int32) h hf _ _ _ M (lv_sub hl [1, 5, 0] rfl)
    · have hf := ifn c3 hf
      refine lv_aload_n X.1 X.2.1 dX10_choiceOf_100 rfl (lv_at hl 0 rfl) ?_
      obtain ⟨t8, q9, hf⟩ := bnd hf
      refine x_getr fl_X10_41 X M q9 dX10_choiceOf_101 ?_
      refine lv_iload X.1 X.2.1 dX10_choiceOf_104 (lv_at hl 5 rfl) ?_
      obtain ⟨t10, q11, hf⟩ := bnd hf
      refine x_iald X M q11 dX10_choiceOf_106 ?_
      refine lv_iload_n X.1 X.2.1 dX10_choiceOf_107 rfl (lv_at hl 1 rfl) ?_
      refine lv_icmp_ne (tgt := 149) X.1 X.2.1 dX10_choiceOf_108 (by decide) (fun c12 => ?_) (fun c12 => ?_)
      · have hf := ifn c12 hf
        refine lv_iinc (v := (v5 + 1)) (lv' := [(5, .int (v5 + 1)), (0, .ref (gB G + v0)), (1, .int v1), (2, .int v2), (3, .int v3), (4, .int v4)]) X.1 X.2.1 dX10_choiceOf_149 hl (k := 5) rfl (by first | rfl | decide) (by decide) rfl (fun ls hl => ?_)
        refine lv_goto (tgt := 91) X.1 X.2.1 dX10_choiceOf_152 (by decide) ?_
        exact ih v0 v1 v2 v3 v4 (v5 + 1) h hf _ _ _ M (lv_sub hl [1, 2, 3, 4, 5, 0] rfl)
      · have hf := ifp c12 hf
        refine lv_iload_n X.1 X.2.1 dX10_choiceOf_111 rfl (lv_at hl 3 rfl) ?_
        refine lv_if_eq (tgt := 129) X.1 X.2.1 dX10_choiceOf_112 (by decide) (fun c13 => ?_) (fun c13 => ?_)
        · have hf := ifp c13 hf
          exact w_X10_choiceOf_129 X hr hk N _ (fun v0 v1 v2 v3 v4 v5 h hf H locs ls M hl => ih v0 v1 v2 v3 v4 v5 h hf H locs ls M hl) v0 v1 v2 v3 v4 v5 h hf _ _ _ M (lv_sub hl [0, 1, 2, 3, 4, 5] rfl)
        · have hf := ifn c13 hf
          refine lv_aload_n X.1 X.2.1 dX10_choiceOf_115 rfl (lv_at hl 0 rfl) ?_
          obtain ⟨t14, q15, hf⟩ := bnd hf
          refine x_getr fl_X10_44 X M q15 dX10_choiceOf_116 ?_
          refine lv_iload X.1 X.2.1 dX10_choiceOf_119 (lv_at hl 5 rfl) ?_
          obtain ⟨t16, q17, hf⟩ := bnd hf
          refine x_iald X M q17 dX10_choiceOf_121 ?_
          refine lv_iload_n X.1 X.2.1 dX10_choiceOf_122 rfl (lv_at hl 1 rfl) ?_
          refine lv_icmp_eq (tgt := 129) X.1 X.2.1 dX10_choiceOf_123 (by decide) (fun c18 => ?_) (fun c18 => ?_)
          · have hf := ifp c18 hf
            exact w_X10_choiceOf_129 X hr hk N _ (fun v0 v1 v2 v3 v4 v5 h hf H locs ls M hl => ih v0 v1 v2 v3 v4 v5 h hf H locs ls M hl) v0 v1 v2 v3 v4 v5 h hf _ _ _ M (lv_sub hl [0, 1, 2, 3, 4, 5] rfl)
          · have hf := ifn c18 hf
            refine lv_goto (tgt := 149) X.1 X.2.1 dX10_choiceOf_126 (by decide) ?_
            refine lv_iinc (v := (v5 + 1)) (lv' := [(5, .int (v5 + 1)), (0, .ref (gB G + v0)), (1, .int v1), (2, .int v2), (3, .int v3), (4, .int v4)]) X.1 X.2.1 dX10_choiceOf_149 hl (k := 5) rfl (by first | rfl | decide) (by decide) rfl (fun ls hl => ?_)
            refine lv_goto (tgt := 91) X.1 X.2.1 dX10_choiceOf_152 (by decide) ?_
            exact ih v0 v1 v2 v3 v4 (v5 + 1) h hf _ _ _ M (lv_sub hl [1, 2, 3, 4, 5, 0] rfl)
def f_X10_choiceOf_64 (N : Nat) (n : Nat) (v0 : Nat) (v1 : Int32) (v2 : Int32) (v3 : Int32) (v4 : Int32) (h : Mem) : Option (Int32 × Mem) := match n with
  | 0 => none
  | n + 1 =>
    if (6 : Int32) ≤ v4 then
      f_X10_choiceOf_91 N N v0 v1 v2 v3 (0 : Int32) (0 : Int32) h
    else
      (gR h v0 10 41).bind fun t2 =>
      (stI 100 h t2 v4 (0 : Int32)).bind fun h4 =>
      f_X10_choiceOf_64 N n v0 v1 v2 v3 (v4 + 1) h4
set_option maxRecDepth 100000 in
set_option maxHeartbeats 4000000 in
theorem w_X10_choiceOf_64 {p : Program} {l : Launch} {e : Env} {s : State} {m : MethodId} {args : Array Value} {below : List Frame} {meth : Method} {c : Code} {G : Gx} {r : Int32} {h' : Mem} (X : CX G p s m args c cX10_choiceOf 7 RX10) (hr : meth.sig.returnType = (Option.some Jvm.ClassFile.FieldType.int)) (hk : meth.locks = false) (N : Nat) : ∀ (n : Nat) (v0 : Nat) (v1 : Int32) (v2 : Int32) (v3 : Int32) (v4 : Int32) (h : Mem), f_X10_choiceOf_64 N n v0 v1 v2 v3 v4 h = some (r, h') → ∀ (H : Heap) (locs : List Loc) (ls : Array Slot), MS G s h H locs 0 → lv_has ls 7 [(0, .ref (gB G + v0)), (1, .int v1), (2, .int v2), (3, .int v3), (4, .int v4)] → W p l e (rm_X10_choiceOf) s m args below meth c H locs 0 0 (QI G below args s r h' 0 0) (F0 m 64 ls []) := by
  intro n
  induction n with
  | zero =>
    intro v0 v1 v2 v3 v4 h hf
    cases hf
  | succ n ih =>
    intro v0 v1 v2 v3 v4 h hf H locs ls M hl
    rw [f_X10_choiceOf_64] at hf
    refine lv_iload X.1 X.2.1 dX10_choiceOf_64 (lv_at hl 4 rfl) ?_
    refine lv_bipush (v := (6 : Int32)) X.1 X.2.1 dX10_choiceOf_66 (by decide) ?_
    refine lv_icmp_ge (tgt := 85) X.1 X.2.1 dX10_choiceOf_68 (by decide) (fun c1 => ?_) (fun c1 => ?_)
    · have hf := ifp c1 hf
      refine lv_iconst (v := (0 : Int32)) X.1 X.2.1 dX10_choiceOf_85 (by decide) ?_
      refine lv_istore (lv' := [(4, .int (0 : Int32)), (0, .ref (gB G + v0)), (1, .int v1), (2, .int v2), (3, .int v3)]) X.1 X.2.1 dX10_choiceOf_86 hl (by decide) rfl (fun ls hl => ?_)
      refine lv_iconst (v := (0 : Int32)) X.1 X.2.1 dX10_choiceOf_88 (by decide) ?_
      refine lv_istore (lv' := [(5, .int (0 : Int32)), (4, .int (0 : Int32)), (0, .ref (gB G + v0)), (1, .int v1), (2, .int v2), (3, .int v3)]) X.1 X.2.1 dX10_choiceOf_89 hl (by decide) rfl (fun ls hl => ?_)
      exact w_X10_choiceOf_91 X hr hk N N v0 v1 v2 v3 (0 : Int32) (0 : Int32) h hf _ _ _ M (lv_sub hl [2, 3, 4, 5, 1, 0] rfl)
    · have hf := ifn c1 hf
      refine lv_aload_n X.1 X.2.1 dX10_choiceOf_71 rfl (lv_at hl 0 rfl) ?_
      obtain ⟨t2, q3, hf⟩ := bnd hf
      refine x_getr fl_X10_136 X M q3 dX10_choiceOf_72 ?_
      refine lv_iload X.1 X.2.1 dX10_choiceOf_75 (lv_at hl 4 rfl) ?_
      refine lv_iconst (v := (0 : Int32)) X.1 X.2.1 dX10_choiceOf_77 (by decide) ?_
      obtain ⟨h4, q5, hf⟩ := bnd hf
      refine x_iast X M q5 dX10_choiceOf_78 (fun H locs M => ?_)
      refine lv_iinc (v := (v4 + 1)) (lv' := [(4, .int (v4 + 1)), (0, .ref (gB G + v0)), (1, .int v1), (2, .int v2), (3, .int v3)]) X.1 X.2.1 dX10_choiceOf_79 hl (k := 4) rfl (by first | rfl | decide) (by decide) rfl (fun ls hl => ?_)
      refine lv_goto (tgt := 64) X.1 X.2.1 dX10_choiceOf_82 (by decide) ?_
      exact ih v0 v1 v2 v3 (v4 + 1) h4 hf _ _ _ M (lv_sub hl [1, 2, 3, 4, 0] rfl)
def f_X10_choiceOf_5 (N : Nat) (n : Nat) (v0 : Nat) (v1 : Int32) (v2 : Int32) (v3 : Int32) (v4 : Int32) (h : Mem) : Option (Int32 × Mem) := match n with
  | 0 => none
  | n + 1 =>
    (gI h v0 10 1).bind fun t1 =>
    if t1 ≤ v4 then
      f_X10_choiceOf_64 N N v0 v1 v2 v3 (0 : Int32) h
    else
      if v3 = 0 then
        (gI h v0 10 27).bind fun t5 =>
        if t5 = (111 : Int32) then
          (gR h v0 10 10).bind fun t8 =>
          (lI 100 h t8 v4).bind fun t10 =>
          if t10 = v1 then
            (gR h v0 10 11).bind fun t13 =>
            (lI 100 h t13 v4).bind fun t15 =>
            if t15 = v1 then
              f_X10_choiceOf_49 N v0 v1 v2 v4 h (fun v0 v1 v2 v4 s0 h => f_X10_choiceOf_54 N v0 v1 v2 v4 s0 h (fun v0 v1 v2 v3 v4 h => f_X10_choiceOf_5 N n v0 v1 v2 v3 v4 h))
            else
              f_X10_choiceOf_53 N v0 v1 v2 v4 h (fun v0 v1 v2 v4 s0 h => f_X10_choiceOf_54 N v0 v1 v2 v4 s0 h (fun v0 v1 v2 v3 v4 h => f_X10_choiceOf_5 N n v0 v1 v2 v3 v4 h))
          else
            f_X10_choiceOf_53 N v0 v1 v2 v4 h (fun v0 v1 v2 v4 s0 h => f_X10_choiceOf_54 N v0 v1 v2 v4 s0 h (fun v0 v1 v2 v3 v4 h => f_X10_choiceOf_5 N n v0 v1 v2 v3 v4 h))
        else
          f_X10_choiceOf_53 N v0 v1 v2 v4 h (fun v0 v1 v2 v4 s0 h => f_X10_choiceOf_54 N v0 v1 v2 v4 s0 h (fun v0 v1 v2 v3 v4 h => f_X10_choiceOf_5 N n v0 v1 v2 v3 v4 h))
      else
        f_X10_choiceOf_49 N v0 v1 v2 v4 h (fun v0 v1 v2 v4 s0 h => f_X10_choiceOf_54 N v0 v1 v2 v4 s0 h (fun v0 v1 v2 v3 v4 h => f_X10_choiceOf_5 N n v0 v1 v2 v3 v4 h))
set_option maxRecDepth 100000 in
set_option maxHeartbeats 4000000 in
theorem w_X10_choiceOf_5 {p : Program} {l : Launch} {e : Env} {s : State} {m : MethodId} {args : Array Value} {below : List Frame} {meth : Method} {c : Code} {G : Gx} {r : Int32} {h' : Mem} (X : CX G p s m args c cX10_choiceOf 7 RX10) (hr : meth.sig.returnType = (Option.some Jvm.ClassFile.FieldType.int)) (hk : meth.locks = false) (N : Nat) : ∀ (n : Nat) (v0 : Nat) (v1 : Int32) (v2 : Int32) (v3 : Int32) (v4 : Int32) (h : Mem), f_X10_choiceOf_5 N n v0 v1 v2 v3 v4 h = some (r, h') → ∀ (H : Heap) (locs : List Loc) (ls : Array Slot), MS G s h H locs 0 → lv_has ls 7 [(0, .ref (gB G + v0)), (1, .int v1), (2, .int v2), (3, .int v3), (4, .int v4)] → W p l e (rm_X10_choiceOf) s m args below meth c H locs 0 0 (QI G below args s r h' 0 0) (F0 m 5 ls []) := by
  intro n
  induction n with
  | zero =>
    intro v0 v1 v2 v3 v4 h hf
    cases hf
  | succ n ih =>
    intro v0 v1 v2 v3 v4 h hf H locs ls M hl
    rw [f_X10_choiceOf_5] at hf
    refine lv_iload X.1 X.2.1 dX10_choiceOf_5 (lv_at hl 4 rfl) ?_
    refine lv_aload_n X.1 X.2.1 dX10_choiceOf_7 rfl (lv_at hl 0 rfl) ?_
    obtain ⟨t1, q2, hf⟩ := bnd hf
    refine x_geti fl_X10_13 X M q2 dX10_choiceOf_8 ?_
    refine lv_icmp_ge (tgt := 61) X.1 X.2.1 dX10_choiceOf_11 (by decide) (fun c3 => ?_) (fun c3 => ?_)
    · have hf := ifp c3 hf
      refine lv_iconst (v := (0 : Int32)) X.1 X.2.1 dX10_choiceOf_61 (by decide) ?_
      refine lv_istore (lv' := [(4, .int (0 : Int32)), (0, .ref (gB G + v0)), (1, .int v1), (2, .int v2), (3, .int v3)]) X.1 X.2.1 dX10_choiceOf_62 hl (by decide) rfl (fun ls hl => ?_)
      exact w_X10_choiceOf_64 X hr hk N N v0 v1 v2 v3 (0 : Int32) h hf _ _ _ M (lv_sub hl [1, 2, 3, 4, 0] rfl)
    · have hf := ifn c3 hf
      refine lv_iload_n X.1 X.2.1 dX10_choiceOf_14 rfl (lv_at hl 3 rfl) ?_
      refine lv_if_ne (tgt := 49) X.1 X.2.1 dX10_choiceOf_15 (by decide) (fun c4 => ?_) (fun c4 => ?_)
      · have hf := ifn c4 hf
        exact w_X10_choiceOf_49 X hr hk N _ (fun v0 v1 v2 v4 s0 h hf H locs ls M hl => w_X10_choiceOf_54 X hr hk N _ (fun v0 v1 v2 v3 v4 h hf H locs ls M hl => ih v0 v1 v2 v3 v4 h hf H locs ls M hl) v0 v1 v2 v4 s0 h hf H locs ls M hl) v0 v1 v2 v4 h hf _ _ _ M (lv_sub hl [0, 1, 2, 4] rfl)
      · have hf := ifp c4 hf
        refine lv_aload_n X.1 X.2.1 dX10_choiceOf_18 rfl (lv_at hl 0 rfl) ?_
        obtain ⟨t5, q6, hf⟩ := bnd hf
        refine x_geti fl_X10_92 X M q6 dX10_choiceOf_19 ?_
        refine lv_bipush (v := (111 : Int32)) X.1 X.2.1 dX10_choiceOf_22 (by decide) ?_
        refine lv_icmp_ne (tgt := 53) X.1 X.2.1 dX10_choiceOf_24 (by decide) (fun c7 => ?_) (fun c7 => ?_)
        · have hf := ifn c7 hf
          exact w_X10_choiceOf_53 X hr hk N _ (fun v0 v1 v2 v4 s0 h hf H locs ls M hl => w_X10_choiceOf_54 X hr hk N _ (fun v0 v1 v2 v3 v4 h hf H locs ls M hl => ih v0 v1 v2 v3 v4 h hf H locs ls M hl) v0 v1 v2 v4 s0 h hf H locs ls M hl) v0 v1 v2 v4 h hf _ _ _ M (lv_sub hl [0, 1, 2, 4] rfl)
        · have hf := ifp c7 hf
          refine lv_aload_n X.1 X.2.1 dX10_choiceOf_27 rfl (lv_at hl 0 rfl) ?_
          obtain ⟨t8, q9, hf⟩ := bnd hf
          refine x_getr fl_X10_41 X M q9 dX10_choiceOf_28 ?_
          refine lv_iload X.1 X.2.1 dX10_choiceOf_31 (lv_at hl 4 rfl) ?_
          obtain ⟨t10, q11, hf⟩ := bnd hf
          refine x_iald X M q11 dX10_choiceOf_33 ?_
          refine lv_iload_n X.1 X.2.1 dX10_choiceOf_34 rfl (lv_at hl 1 rfl) ?_
          refine lv_icmp_ne (tgt := 53) X.1 X.2.1 dX10_choiceOf_35 (by decide) (fun c12 => ?_) (fun c12 => ?_)
          · have hf := ifn c12 hf
            exact w_X10_choiceOf_53 X hr hk N _ (fun v0 v1 v2 v4 s0 h hf H locs ls M hl => w_X10_choiceOf_54 X hr hk N _ (fun v0 v1 v2 v3 v4 h hf H locs ls M hl => ih v0 v1 v2 v3 v4 h hf H locs ls M hl) v0 v1 v2 v4 s0 h hf H locs ls M hl) v0 v1 v2 v4 h hf _ _ _ M (lv_sub hl [0, 1, 2, 4] rfl)
          · have hf := ifp c12 hf
            refine lv_aload_n X.1 X.2.1 dX10_choiceOf_38 rfl (lv_at hl 0 rfl) ?_
            obtain ⟨t13, q14, hf⟩ := bnd hf
            refine x_getr fl_X10_44 X M q14 dX10_choiceOf_39 ?_
            refine lv_iload X.1 X.2.1 dX10_choiceOf_42 (lv_at hl 4 rfl) ?_
            obtain ⟨t15, q16, hf⟩ := bnd hf
            refine x_iald X M q16 dX10_choiceOf_44 ?_
            refine lv_iload_n X.1 X.2.1 dX10_choiceOf_45 rfl (lv_at hl 1 rfl) ?_
            refine lv_icmp_ne (tgt := 53) X.1 X.2.1 dX10_choiceOf_46 (by decide) (fun c17 => ?_) (fun c17 => ?_)
            · have hf := ifn c17 hf
              exact w_X10_choiceOf_53 X hr hk N _ (fun v0 v1 v2 v4 s0 h hf H locs ls M hl => w_X10_choiceOf_54 X hr hk N _ (fun v0 v1 v2 v3 v4 h hf H locs ls M hl => ih v0 v1 v2 v3 v4 h hf H locs ls M hl) v0 v1 v2 v4 s0 h hf H locs ls M hl) v0 v1 v2 v4 h hf _ _ _ M (lv_sub hl [0, 1, 2, 4] rfl)
            · have hf := ifp c17 hf
              exact w_X10_choiceOf_49 X hr hk N _ (fun v0 v1 v2 v4 s0 h hf H locs ls M hl => w_X10_choiceOf_54 X hr hk N _ (fun v0 v1 v2 v3 v4 h hf H locs ls M hl => ih v0 v1 v2 v3 v4 h hf H locs ls M hl) v0 v1 v2 v4 s0 h hf H locs ls M hl) v0 v1 v2 v4 h hf _ _ _ M (lv_sub hl [0, 1, 2, 4] rfl)
def f_X10_choiceOf (N : Nat) (v0 : Nat) (v1 : Int32) (v2 : Int32) (h : Mem) : Option (Int32 × Mem) :=
  f_X10_choiceOf_5 N N v0 v1 v2 (0 : Int32) (0 : Int32) h
set_option maxRecDepth 100000 in
set_option maxHeartbeats 4000000 in
theorem w_X10_choiceOf {p : Program} {l : Launch} {e : Env} {s : State} {m : MethodId} {args : Array Value} {below : List Frame} {meth : Method} {c : Code} {G : Gx} {r : Int32} {h' : Mem} (X : CX G p s m args c cX10_choiceOf 7 RX10) (hr : meth.sig.returnType = (Option.some Jvm.ClassFile.FieldType.int)) (hk : meth.locks = false) (N : Nat) : ∀ (v0 : Nat) (v1 : Int32) (v2 : Int32) (h : Mem), f_X10_choiceOf N v0 v1 v2 h = some (r, h') → ∀ (H : Heap) (locs : List Loc) (ls : Array Slot), MS G s h H locs 0 → lv_has ls 7 [(0, .ref (gB G + v0)), (1, .int v1), (2, .int v2)] → W p l e (rm_X10_choiceOf) s m args below meth c H locs 0 0 (QI G below args s r h' 0 0) (F0 m 0 ls []) := by
  intro v0 v1 v2 h hf H locs ls M hl
  rw [f_X10_choiceOf] at hf
  refine lv_iconst (v := (0 : Int32)) X.1 X.2.1 dX10_choiceOf_0 (by decide) ?_
  refine lv_istore_n (lv' := [(3, .int (0 : Int32)), (0, .ref (gB G + v0)), (1, .int v1), (2, .int v2)]) X.1 X.2.1 dX10_choiceOf_1 rfl hl (by decide) rfl (fun ls hl => ?_)
  refine lv_iconst (v := (0 : Int32)) X.1 X.2.1 dX10_choiceOf_2 (by decide) ?_
  refine lv_istore (lv' := [(4, .int (0 : Int32)), (3, .int (0 : Int32)), (0, .ref (gB G + v0)), (1, .int v1), (2, .int v2)]) X.1 X.2.1 dX10_choiceOf_3 hl (by decide) rfl (fun ls hl => ?_)
  exact w_X10_choiceOf_5 X hr hk N N v0 v1 v2 (0 : Int32) (0 : Int32) h hf _ _ _ M (lv_sub hl [2, 3, 4, 1, 0] rfl)
theorem c_X10_choiceOf (l : Launch) (G : Gx) (N : Nat) (v0 : Nat) (v1 : Int32) (v2 : Int32) (h : Mem) (r : Int32) (h' : Mem) (hf : f_X10_choiceOf N v0 v1 v2 h = some (r, h')) : MetG l G yX10_choiceOf (.code yX10_choiceOf cX10_choiceOf 7 (Option.some Jvm.ClassFile.FieldType.int)) rm_X10_choiceOf [.ref (gB G + v0), .int v1, .int v2] h (QcI G r h') 0 0 :=
  x_met (by decide) rfl (Nat.le_of_ble_eq_true rfl) (fun p e s m args below meth c ls X M hr hk hin hl => w_X10_choiceOf X hr hk N v0 v1 v2 h hf _ _ ls M hl)
abbrev rm_X10_choice : Room := { frames := 13, cells := 0, slots := 0, locals := 318 }
def f_X10_choice (N : Nat) (v0 : Nat) (v1 : Int32) (v2 : Int32) (h : Mem) : Option (Int32 × Mem) :=
  (ck h v0 10).bind fun _ =>
  b2 (f_X10_isTown N v0 v1 h) fun t4 h3 =>
  if t4 = 0 then
    some ((-1 : Int32), h3)
  else
    (ck h3 v0 10).bind fun _ =>
    b2 (f_X10_in N v0 v2 (0 : Int32) (2 : Int32) h3) fun t9 h8 =>
    if t9 = 0 then
      some ((-1 : Int32), h8)
    else
      (ck h8 v0 10).bind fun _ =>
      b2 (f_X10_choiceOf N v0 v1 v2 h8) fun t14 h13 =>
      some (t14, h13)
set_option maxRecDepth 100000 in
set_option maxHeartbeats 4000000 in
theorem w_X10_choice {p : Program} {l : Launch} {e : Env} {s : State} {m : MethodId} {args : Array Value} {below : List Frame} {meth : Method} {c : Code} {G : Gx} {r : Int32} {h' : Mem} (X : CX G p s m args c cX10_choice 3 RX10) (hr : meth.sig.returnType = (Option.some Jvm.ClassFile.FieldType.int)) (hk : meth.locks = false) (N : Nat) : ∀ (v0 : Nat) (v1 : Int32) (v2 : Int32) (h : Mem), f_X10_choice N v0 v1 v2 h = some (r, h') → ∀ (H : Heap) (locs : List Loc) (ls : Array Slot), MS G s h H locs 0 → lv_has ls 3 [(0, .ref (gB G + v0)), (1, .int v1), (2, .int v2)] → W p l e (rm_X10_choice) s m args below meth c H locs 0 0 (QI G below args s r h' 0 0) (F0 m 0 ls []) := by
  intro v0 v1 v2 h hf H locs ls M hl
  rw [f_X10_choice] at hf
  refine lv_aload_n X.1 X.2.1 dX10_choice_0 rfl (lv_at hl 0 rfl) ?_
  refine lv_iload_n X.1 X.2.1 dX10_choice_1 rfl (lv_at hl 1 rfl) ?_
  obtain ⟨⟨⟩, q1, hf⟩ := bnd hf
  obtain ⟨t4, h3, q2, hf⟩ := bnd2 hf
  refine x_callVi (As := [.int v1]) cf_X10_205 (c_X10_isTown l G N v0 v1 h _ _ q2) rfl ⟨rfl, rfl, Nat.le_of_ble_eq_true rfl, Nat.le_of_ble_eq_true rfl⟩ ⟨Nat.le_of_ble_eq_true rfl, Nat.le_of_ble_eq_true rfl⟩ X M (x_recv cls_X10 X M q1) rfl rfl hl.1 (Nat.le_of_ble_eq_true rfl) dX10_choice_2 (fun H locs M => ?_)
  refine lv_if_eq (tgt := 27) X.1 X.2.1 dX10_choice_5 (by decide) (fun c5 => ?_) (fun c5 => ?_)
  · have hf := ifp c5 hf
    refine lv_iconst (v := (-1 : Int32)) X.1 X.2.1 dX10_choice_27 (by decide) ?_
    obtain ⟨rfl, rfl⟩ := rt2 hf
    exact x_iret X hr hk M dX10_choice_28
  · have hf := ifn c5 hf
    refine lv_aload_n X.1 X.2.1 dX10_choice_8 rfl (lv_at hl 0 rfl) ?_
    refine lv_iload_n X.1 X.2.1 dX10_choice_9 rfl (lv_at hl 2 rfl) ?_
    refine lv_iconst (v := (0 : Int32)) X.1 X.2.1 dX10_choice_10 (by decide) ?_
    refine lv_iconst (v := (2 : Int32)) X.1 X.2.1 dX10_choice_11 (by decide) ?_
    obtain ⟨⟨⟩, q6, hf⟩ := bnd hf
    obtain ⟨t9, h8, q7, hf⟩ := bnd2 hf
    refine x_callVi (As := [.int v2, .int (0 : Int32), .int (2 : Int32)]) cf_X10_197 (c_X10_in l G N v0 v2 (0 : Int32) (2 : Int32) h3 _ _ q7) rfl ⟨rfl, rfl, Nat.le_of_ble_eq_true rfl, Nat.le_of_ble_eq_true rfl⟩ ⟨Nat.le_of_ble_eq_true rfl, Nat.le_of_ble_eq_true rfl⟩ X M (x_recv cls_X10 X M q6) rfl rfl hl.1 (Nat.le_of_ble_eq_true rfl) dX10_choice_12 (fun H locs M => ?_)
    refine lv_if_eq (tgt := 27) X.1 X.2.1 dX10_choice_15 (by decide) (fun c10 => ?_) (fun c10 => ?_)
    · have hf := ifp c10 hf
      refine lv_iconst (v := (-1 : Int32)) X.1 X.2.1 dX10_choice_27 (by decide) ?_
      obtain ⟨rfl, rfl⟩ := rt2 hf
      exact x_iret X hr hk M dX10_choice_28
    · have hf := ifn c10 hf
      refine lv_aload_n X.1 X.2.1 dX10_choice_18 rfl (lv_at hl 0 rfl) ?_
      refine lv_iload_n X.1 X.2.1 dX10_choice_19 rfl (lv_at hl 1 rfl) ?_
      refine lv_iload_n X.1 X.2.1 dX10_choice_20 rfl (lv_at hl 2 rfl) ?_
      obtain ⟨⟨⟩, q11, hf⟩ := bnd hf
      obtain ⟨t14, h13, q12, hf⟩ := bnd2 hf
      refine x_callVi (As := [.int v1, .int v2]) cf_X10_299 (c_X10_choiceOf l G N v0 v1 v2 h8 _ _ q12) rfl ⟨rfl, rfl, Nat.le_of_ble_eq_true rfl, Nat.le_of_ble_eq_true rfl⟩ ⟨Nat.le_of_ble_eq_true rfl, Nat.le_of_ble_eq_true rfl⟩ X M (x_recv cls_X10 X M q11) rfl rfl hl.1 (Nat.le_of_ble_eq_true rfl) dX10_choice_21 (fun H locs M => ?_)
      refine lv_goto (tgt := 28) X.1 X.2.1 dX10_choice_24 (by decide) ?_
      obtain ⟨rfl, rfl⟩ := rt2 hf
      exact x_iret X hr hk M dX10_choice_28
theorem c_X10_choice (l : Launch) (G : Gx) (N : Nat) (v0 : Nat) (v1 : Int32) (v2 : Int32) (h : Mem) (r : Int32) (h' : Mem) (hf : f_X10_choice N v0 v1 v2 h = some (r, h')) : MetG l G yX10_choice (.code yX10_choice cX10_choice 3 (Option.some Jvm.ClassFile.FieldType.int)) rm_X10_choice [.ref (gB G + v0), .int v1, .int v2] h (QcI G r h') 0 0 :=
  x_met (by decide) rfl (Nat.le_of_ble_eq_true rfl) (fun p e s m args below meth c ls X M hr hk hin hl => w_X10_choice X hr hk N v0 v1 v2 h hf _ _ ls M hl)
abbrev rm_X10_chooses : Room := { frames := 13, cells := 0, slots := 0, locals := 318 }
def f_X10_chooses_38 (N : Nat) (v0 : Nat) (v1 : Int32) (v3 : Int32) (v4 : Int32) (s0 : Int32) (s1 : Int32) (h : Mem) (k4 : Nat → Int32 → Int32 → Int32 → Mem → Option (Int32 × Mem)) : Option (Int32 × Mem) :=
  (gR h v0 10 4).bind fun t1 =>
  (stI 100 h t1 (((3 : Int32) * v1) + v3) v4).bind fun h3 =>
  k4 v0 v1 (s0 + s1) (v3 + 1) h3
set_option maxRecDepth 100000 in
set_option maxHeartbeats 4000000 in
theorem w_X10_chooses_38 {p : Program} {l : Launch} {e : Env} {s : State} {m : MethodId} {args : Array Value} {below : List Frame} {meth : Method} {c : Code} {G : Gx} {r : Int32} {h' : Mem} (X : CX G p s m args c cX10_chooses 5 RX10) (hr : meth.sig.returnType = (Option.some Jvm.ClassFile.FieldType.int)) (hk : meth.locks = false) (N : Nat) (k4 : Nat → Int32 → Int32 → Int32 → Mem → Option (Int32 × Mem)) (K4 : ∀ (v0 : Nat) (v1 : Int32) (v2 : Int32) (v3 : Int32) (h : Mem), k4 v0 v1 v2 v3 h = some (r, h') → ∀ (H : Heap) (locs : List Loc) (ls : Array Slot), MS G s h H locs 0 → lv_has ls 5 [(0, .ref (gB G + v0)), (1, .int v1), (2, .int v2), (3, .int v3)] → W p l e (rm_X10_chooses) s m args below meth c H locs 0 0 (QI G below args s r h' 0 0) (F0 m 4 ls [])) : ∀ (v0 : Nat) (v1 : Int32) (v3 : Int32) (v4 : Int32) (s0 : Int32) (s1 : Int32) (h : Mem), f_X10_chooses_38 N v0 v1 v3 v4 s0 s1 h k4 = some (r, h') → ∀ (H : Heap) (locs : List Loc) (ls : Array Slot), MS G s h H locs 0 → lv_has ls 5 [(0, .ref (gB G + v0)), (1, .int v1), (3, .int v3), (4, .int v4)] → W p l e (rm_X10_chooses) s m args below meth c H locs 0 0 (QI G below args s r h' 0 0) (F0 m 38 ls [.int s1, .int s0]) := by
  intro v0 v1 v3 v4 s0 s1 h hf H locs ls M hl
  rw [f_X10_chooses_38] at hf
  refine lv_iadd X.1 X.2.1 dX10_chooses_38 ?_
  refine lv_istore_n (lv' := [(2, .int (s0 + s1)), (0, .ref (gB G + v0)), (1, .int v1), (3, .int v3), (4, .int v4)]) X.1 X.2.1 dX10_chooses_39 rfl hl (by decide) rfl (fun ls hl => ?_)
  refine lv_aload_n X.1 X.2.1 dX10_chooses_40 rfl (lv_at hl 1 rfl) ?_
  obtain ⟨t1, q2, hf⟩ := bnd hf
  refine x_getr fl_X10_23 X M q2 dX10_chooses_41 ?_
  refine lv_iconst (v := (3 : Int32)) X.1 X.2.1 dX10_chooses_44 (by decide) ?_
  refine lv_iload_n X.1 X.2.1 dX10_chooses_45 rfl (lv_at hl 2 rfl) ?_
  refine lv_imul X.1 X.2.1 dX10_chooses_46 ?_
  refine lv_iload_n X.1 X.2.1 dX10_chooses_47 rfl (lv_at hl 3 rfl) ?_
  refine lv_iadd X.1 X.2.1 dX10_chooses_48 ?_
  refine lv_iload X.1 X.2.1 dX10_chooses_49 (lv_at hl 4 rfl) ?_
  obtain ⟨h3, q4, hf⟩ := bnd hf
  refine x_iast X M q4 dX10_chooses_51 (fun H locs M => ?_)
  refine lv_iinc (v := (v3 + 1)) (lv' := [(3, .int (v3 + 1)), (2, .int (s0 + s1)), (0, .ref (gB G + v0)), (1, .int v1), (4, .int v4)]) X.1 X.2.1 dX10_chooses_52 hl (k := 3) rfl (by first | rfl | decide) (by decide) rfl (fun ls hl => ?_)
  refine lv_goto (tgt := 4) X.1 X.2.1 dX10_chooses_55 (by decide) ?_
  exact K4 v0 v1 (s0 + s1) (v3 + 1) h3 hf _ _ _ M (lv_sub hl [2, 3, 1, 0] rfl)
def f_X10_chooses_4 (N : Nat) (n : Nat) (v0 : Nat) (v1 : Int32) (v2 : Int32) (v3 : Int32) (h : Mem) : Option (Int32 × Mem) := match n with
  | 0 => none
  | n + 1 =>
    if (3 : Int32) ≤ v3 then
      some (v2, h)
    else
      (ck h v0 10).bind fun _ =>
      b2 (f_X10_choiceOf N v0 v1 v3 h) fun t5 h4 =>
      (gR h4 v0 10 4).bind fun t6 =>
      (lI 100 h4 t6 (((3 : Int32) * v1) + v3)).bind fun t8 =>
      if t5 = t8 then
        f_X10_chooses_38 N v0 v1 v3 t5 v2 (0 : Int32) h4 (fun v0 v1 v2 v3 h => f_X10_chooses_4 N n v0 v1 v2 v3 h)
      else
        f_X10_chooses_38 N v0 v1 v3 t5 v2 (1 : Int32) h4 (fun v0 v1 v2 v3 h => f_X10_chooses_4 N n v0 v1 v2 v3 h)
set_option maxRecDepth 100000 in
set_option maxHeartbeats 4000000 in
theorem w_X10_chooses_4 {p : Program} {l : Launch} {e : Env} {s : State} {m : MethodId} {args : Array Value} {below : List Frame} {meth : Method} {c : Code} {G : Gx} {r : Int32} {h' : Mem} (X : CX G p s m args c cX10_chooses 5 RX10) (hr : meth.sig.returnType = (Option.some Jvm.ClassFile.FieldType.int)) (hk : meth.locks = false) (N : Nat) : ∀ (n : Nat) (v0 : Nat) (v1 : Int32) (v2 : Int32) (v3 : Int32) (h : Mem), f_X10_chooses_4 N n v0 v1 v2 v3 h = some (r, h') → ∀ (H : Heap) (locs : List Loc) (ls : Array Slot), MS G s h H locs 0 → lv_has ls 5 [(0, .ref (gB G + v0)), (1, .int v1), (2, .int v2), (3, .int v3)] → W p l e (rm_X10_chooses) s m args below meth c H locs 0 0 (QI G below args s r h' 0 0) (F0 m 4 ls []) := by
  intro n
  induction n with
  | zero =>
    intro v0 v1 v2 v3 h hf
    cases hf
  | succ n ih =>
    intro v0 v1 v2 v3 h hf H locs ls M hl
    rw [f_X10_chooses_4] at hf
    refine lv_iload_n X.1 X.2.1 dX10_chooses_4 rfl (lv_at hl 3 rfl) ?_
    refine lv_iconst (v := (3 : Int32)) X.1 X.2.1 dX10_chooses_5 (by decide) ?_
    refine lv_icmp_ge (tgt := 58) X.1 X.2.1 dX10_chooses_6 (by decide) (fun c1 => ?_) (fun c1 => ?_)
    · have hf := ifp c1 hf
      refine lv_iload_n X.1 X.2.1 dX10_chooses_58 rfl (lv_at hl 2 rfl) ?_
      obtain ⟨rfl, rfl⟩ := rt2 hf
      exact x_iret X hr hk M dX10_chooses_59
    · have hf := ifn c1 hf
      refine lv_aload_n X.1 X.2.1 dX10_chooses_9 rfl (lv_at hl 0 rfl) ?_
      refine lv_iload_n X.1 X.2.1 dX10_chooses_10 rfl (lv_at hl 1 rfl) ?_
      refine lv_iload_n X.1 X.2.1 dX10_chooses_11 rfl (lv_at hl 3 rfl) ?_
      obtain ⟨⟨⟩, q2, hf⟩ := bnd hf
      obtain ⟨t5, h4, q3, hf⟩ := bnd2 hf
      refine x_callVi (As := [.int v1, .int v3]) cf_X10_299 (c_X10_choiceOf l G N v0 v1 v3 h _ _ q3) rfl ⟨rfl, rfl, Nat.le_of_ble_eq_true rfl, Nat.le_of_ble_eq_true rfl⟩ ⟨Nat.le_of_ble_eq_true rfl, Nat.le_of_ble_eq_true rfl⟩ X M (x_recv cls_X10 X M q2) rfl rfl hl.1 (Nat.le_of_ble_eq_true rfl) dX10_chooses_12 (fun H locs M => ?_)
      refine lv_istore (lv' := [(4, .int t5), (0, .ref (gB G + v0)), (1, .int v1), (2, .int v2), (3, .int v3)]) X.1 X.2.1 dX10_chooses_15 hl (by decide) rfl (fun ls hl => ?_)
      refine lv_iload_n X.1 X.2.1 dX10_chooses_17 rfl (lv_at hl 3 rfl) ?_
      refine lv_iload X.1 X.2.1 dX10_chooses_18 (lv_at hl 0 rfl) ?_
      refine lv_aload_n X.1 X.2.1 dX10_chooses_20 rfl (lv_at hl 1 rfl) ?_
      obtain ⟨t6, q7, hf⟩ := bnd hf
      refine x_getr fl_X10_23 X M q7 dX10_chooses_21 ?_
      refine lv_iconst (v := (3 : Int32)) X.1 X.2.1 dX10_chooses_24 (by decide) ?_
      refine lv_iload_n X.1 X.2.1 dX10_chooses_25 rfl (lv_at hl 2 rfl) ?_
      refine lv_imul X.1 X.2.1 dX10_chooses_26 ?_
      refine lv_iload_n X.1 X.2.1 dX10_chooses_27 rfl (lv_at hl 4 rfl) ?_
      refine lv_iadd X.1 X.2.1 dX10_chooses_28 ?_
      obtain ⟨t8, q9, hf⟩ := bnd hf
      refine x_iald X M q9 dX10_chooses_29 ?_
      refine lv_icmp_ne (tgt := 37) X.1 X.2.1 dX10_chooses_30 (by decide) (fun c10 => ?_) (fun c10 => ?_)
      · have hf := ifn c10 hf
        refine lv_iconst (v := (1 : Int32)) X.1 X.2.1 dX10_chooses_37 (by decide) ?_
        exact w_X10_chooses_38 X hr hk N _ (fun v0 v1 v2 v3 h hf H locs ls M hl => ih v0 v1 v2 v3 h hf H locs ls M hl) v0 v1 v3 t5 v2 (1 : Int32) h4 hf _ _ _ M (lv_sub hl [1, 2, 4, 0] rfl)
      · have hf := ifp c10 hf
        refine lv_iconst (v := (0 : Int32)) X.1 X.2.1 dX10_chooses_33 (by decide) ?_
        refine lv_goto (tgt := 38) X.1 X.2.1 dX10_chooses_34 (by decide) ?_
        exact w_X10_chooses_38 X hr hk N _ (fun v0 v1 v2 v3 h hf H locs ls M hl => ih v0 v1 v2 v3 h hf H locs ls M hl) v0 v1 v3 t5 v2 (0 : Int32) h4 hf _ _ _ M (lv_sub hl [1, 2, 4, 0] rfl)
def f_X10_chooses (N : Nat) (v0 : Nat) (v1 : Int32) (h : Mem) : Option (Int32 × Mem) :=
  f_X10_chooses_4 N N v0 v1 (0 : Int32) (0 : Int32) h
set_option maxRecDepth 100000 in
set_option maxHeartbeats 4000000 in
theorem w_X10_chooses {p : Program} {l : Launch} {e : Env} {s : State} {m : MethodId} {args : Array Value} {below : List Frame} {meth : Method} {c : Code} {G : Gx} {r : Int32} {h' : Mem} (X : CX G p s m args c cX10_chooses 5 RX10) (hr : meth.sig.returnType = (Option.some Jvm.ClassFile.FieldType.int)) (hk : meth.locks = false) (N : Nat) : ∀ (v0 : Nat) (v1 : Int32) (h : Mem), f_X10_chooses N v0 v1 h = some (r, h') → ∀ (H : Heap) (locs : List Loc) (ls : Array Slot), MS G s h H locs 0 → lv_has ls 5 [(0, .ref (gB G + v0)), (1, .int v1)] → W p l e (rm_X10_chooses) s m args below meth c H locs 0 0 (QI G below args s r h' 0 0) (F0 m 0 ls []) := by
  intro v0 v1 h hf H locs ls M hl
  rw [f_X10_chooses] at hf
  refine lv_iconst (v := (0 : Int32)) X.1 X.2.1 dX10_chooses_0 (by decide) ?_
  refine lv_istore_n (lv' := [(2, .int (0 : Int32)), (0, .ref (gB G + v0)), (1, .int v1)]) X.1 X.2.1 dX10_chooses_1 rfl hl (by decide) rfl (fun ls hl => ?_)
  refine lv_iconst (v := (0 : Int32)) X.1 X.2.1 dX10_chooses_2 (by decide) ?_
  refine lv_istore_n (lv' := [(3, .int (0 : Int32)), (2, .int (0 : Int32)), (0, .ref (gB G + v0)), (1, .int v1)]) X.1 X.2.1 dX10_chooses_3 rfl hl (by decide) rfl (fun ls hl => ?_)
  exact w_X10_chooses_4 X hr hk N N v0 v1 (0 : Int32) (0 : Int32) h hf _ _ _ M (lv_sub hl [2, 3, 1, 0] rfl)
theorem c_X10_chooses (l : Launch) (G : Gx) (N : Nat) (v0 : Nat) (v1 : Int32) (h : Mem) (r : Int32) (h' : Mem) (hf : f_X10_chooses N v0 v1 h = some (r, h')) : MetG l G yX10_chooses (.code yX10_chooses cX10_chooses 5 (Option.some Jvm.ClassFile.FieldType.int)) rm_X10_chooses [.ref (gB G + v0), .int v1] h (QcI G r h') 0 0 :=
  x_met (by decide) rfl (Nat.le_of_ble_eq_true rfl) (fun p e s m args below meth c ls X M hr hk hin hl => w_X10_chooses X hr hk N v0 v1 h hf _ _ ls M hl)
abbrev rm_X10_choose : Room := { frames := 14, cells := 0, slots := 0, locals := 342 }
def f_X10_choose (N : Nat) (v0 : Nat) (v1 : Int32) (h : Mem) : Option (Int32 × Mem) :=
  (ck h v0 10).bind fun _ =>
  b2 (f_X10_isTown N v0 v1 h) fun t4 h3 =>
  if t4 = 0 then
    some ((-1 : Int32), h3)
  else
    (ck h3 v0 10).bind fun _ =>
    b2 (f_X10_chooses N v0 v1 h3) fun t9 h8 =>
    some (t9, h8)
set_option maxRecDepth 100000 in
set_option maxHeartbeats 4000000 in
theorem w_X10_choose {p : Program} {l : Launch} {e : Env} {s : State} {m : MethodId} {args : Array Value} {below : List Frame} {meth : Method} {c : Code} {G : Gx} {r : Int32} {h' : Mem} (X : CX G p s m args c cX10_choose 2 RX10) (hr : meth.sig.returnType = (Option.some Jvm.ClassFile.FieldType.int)) (hk : meth.locks = false) (N : Nat) : ∀ (v0 : Nat) (v1 : Int32) (h : Mem), f_X10_choose N v0 v1 h = some (r, h') → ∀ (H : Heap) (locs : List Loc) (ls : Array Slot), MS G s h H locs 0 → lv_has ls 2 [(0, .ref (gB G + v0)), (1, .int v1)] → W p l e (rm_X10_choose) s m args below meth c H locs 0 0 (QI G below args s r h' 0 0) (F0 m 0 ls []) := by
  intro v0 v1 h hf H locs ls M hl
  rw [f_X10_choose] at hf
  refine lv_aload_n X.1 X.2.1 dX10_choose_0 rfl (lv_at hl 0 rfl) ?_
  refine lv_iload_n X.1 X.2.1 dX10_choose_1 rfl (lv_at hl 1 rfl) ?_
  obtain ⟨⟨⟩, q1, hf⟩ := bnd hf
  obtain ⟨t4, h3, q2, hf⟩ := bnd2 hf
  refine x_callVi (As := [.int v1]) cf_X10_205 (c_X10_isTown l G N v0 v1 h _ _ q2) rfl ⟨rfl, rfl, Nat.le_of_ble_eq_true rfl, Nat.le_of_ble_eq_true rfl⟩ ⟨Nat.le_of_ble_eq_true rfl, Nat.le_of_ble_eq_true rfl⟩ X M (x_recv cls_X10 X M q1) rfl rfl hl.1 (Nat.le_of_ble_eq_true rfl) dX10_choose_2 (fun H locs M => ?_)
  refine lv_if_eq (tgt := 16) X.1 X.2.1 dX10_choose_5 (by decide) (fun c5 => ?_) (fun c5 => ?_)
  · have hf := ifp c5 hf
    refine lv_iconst (v := (-1 : Int32)) X.1 X.2.1 dX10_choose_16 (by decide) ?_
    obtain ⟨rfl, rfl⟩ := rt2 hf
    exact x_iret X hr hk M dX10_choose_17
  · have hf := ifn c5 hf
    refine lv_aload_n X.1 X.2.1 dX10_choose_8 rfl (lv_at hl 0 rfl) ?_
    refine lv_iload_n X.1 X.2.1 dX10_choose_9 rfl (lv_at hl 1 rfl) ?_
    obtain ⟨⟨⟩, q6, hf⟩ := bnd hf
    obtain ⟨t9, h8, q7, hf⟩ := bnd2 hf
    refine x_callVi (As := [.int v1]) cf_X10_302 (c_X10_chooses l G N v0 v1 h3 _ _ q7) rfl ⟨rfl, rfl, Nat.le_of_ble_eq_true rfl, Nat.le_of_ble_eq_true rfl⟩ ⟨Nat.le_of_ble_eq_true rfl, Nat.le_of_ble_eq_true rfl⟩ X M (x_recv cls_X10 X M q6) rfl rfl hl.1 (Nat.le_of_ble_eq_true rfl) dX10_choose_10 (fun H locs M => ?_)
    refine lv_goto (tgt := 17) X.1 X.2.1 dX10_choose_13 (by decide) ?_
    obtain ⟨rfl, rfl⟩ := rt2 hf
    exact x_iret X hr hk M dX10_choose_17
theorem c_X10_choose (l : Launch) (G : Gx) (N : Nat) (v0 : Nat) (v1 : Int32) (h : Mem) (r : Int32) (h' : Mem) (hf : f_X10_choose N v0 v1 h = some (r, h')) : MetG l G yX10_choose (.code yX10_choose cX10_choose 2 (Option.some Jvm.ClassFile.FieldType.int)) rm_X10_choose [.ref (gB G + v0), .int v1] h (QcI G r h') 0 0 :=
  x_met (by decide) rfl (Nat.le_of_ble_eq_true rfl) (fun p e s m args below meth c ls X M hr hk hin hl => w_X10_choose X hr hk N v0 v1 h hf _ _ ls M hl)
abbrev rm_X10_isHindered : Room := { frames := 1, cells := 0, slots := 0, locals := 40 }
def f_X10_isHindered (N : Nat) (v0 : Nat) (v1 : Int32) (v2 : Int32) (h : Mem) : Option (Int32 × Mem) :=
  (gR h v0 10 9).bind fun t1 =>
  (lI 100 h t1 v1).bind fun t3 =>
  (gR h v0 10 6).bind fun t5 =>
  (lI 100 h t5 v2).bind fun t7 =>
  if t7 ≤ t3 then
    some ((0 : Int32), h)
  else
    some ((1 : Int32), h)
set_option maxRecDepth 100000 in
set_option maxHeartbeats 4000000 in
theorem w_X10_isHindered {p : Program} {l : Launch} {e : Env} {s : State} {m : MethodId} {args : Array Value} {below : List Frame} {meth : Method} {c : Code} {G : Gx} {r : Int32} {h' : Mem} (X : CX G p s m args c cX10_isHindered 3 RX10) (hr : meth.sig.returnType = (Option.some Jvm.ClassFile.FieldType.boolean)) (hk : meth.locks = false) (N : Nat) : ∀ (v0 : Nat) (v1 : Int32) (v2 : Int32) (h : Mem), f_X10_isHindered N v0 v1 v2 h = some (r, h') → ∀ (H : Heap) (locs : List Loc) (ls : Array Slot), MS G s h H locs 0 → lv_has ls 3 [(0, .ref (gB G + v0)), (1, .int v1), (2, .int v2)] → W p l e (rm_X10_isHindered) s m args below meth c H locs 0 0 (QI G below args s r h' 0 0) (F0 m 0 ls []) := by
  intro v0 v1 v2 h hf H locs ls M hl
  rw [f_X10_isHindered] at hf
  refine lv_aload_n X.1 X.2.1 dX10_isHindered_0 rfl (lv_at hl 0 rfl) ?_
  obtain ⟨t1, q2, hf⟩ := bnd hf
  refine x_getr fl_X10_38 X M q2 dX10_isHindered_1 ?_
  refine lv_iload_n X.1 X.2.1 dX10_isHindered_4 rfl (lv_at hl 1 rfl) ?_
  obtain ⟨t3, q4, hf⟩ := bnd hf
  refine x_iald X M q4 dX10_isHindered_5 ?_
  refine lv_aload_n X.1 X.2.1 dX10_isHindered_6 rfl (lv_at hl 0 rfl) ?_
  obtain ⟨t5, q6, hf⟩ := bnd hf
  refine x_getr fl_X10_29 X M q6 dX10_isHindered_7 ?_
  refine lv_iload_n X.1 X.2.1 dX10_isHindered_10 rfl (lv_at hl 2 rfl) ?_
  obtain ⟨t7, q8, hf⟩ := bnd hf
  refine x_iald X M q8 dX10_isHindered_11 ?_
  refine lv_icmp_ge (tgt := 19) X.1 X.2.1 dX10_isHindered_12 (by decide) (fun c9 => ?_) (fun c9 => ?_)
  · have hf := ifp c9 hf
    refine lv_iconst (v := (0 : Int32)) X.1 X.2.1 dX10_isHindered_19 (by decide) ?_
    obtain ⟨rfl, rfl⟩ := rt2 hf
    exact x_zret X hr hk rfl M dX10_isHindered_20
  · have hf := ifn c9 hf
    refine lv_iconst (v := (1 : Int32)) X.1 X.2.1 dX10_isHindered_15 (by decide) ?_
    refine lv_goto (tgt := 20) X.1 X.2.1 dX10_isHindered_16 (by decide) ?_
    obtain ⟨rfl, rfl⟩ := rt2 hf
    exact x_zret X hr hk rfl M dX10_isHindered_20
theorem c_X10_isHindered (l : Launch) (G : Gx) (N : Nat) (v0 : Nat) (v1 : Int32) (v2 : Int32) (h : Mem) (r : Int32) (h' : Mem) (hf : f_X10_isHindered N v0 v1 v2 h = some (r, h')) : MetG l G yX10_isHindered (.code yX10_isHindered cX10_isHindered 3 (Option.some Jvm.ClassFile.FieldType.boolean)) rm_X10_isHindered [.ref (gB G + v0), .int v1, .int v2] h (QcI G r h') 0 0 :=
  x_met (by decide) rfl (Nat.le_of_ble_eq_true rfl) (fun p e s m args below meth c ls X M hr hk hin hl => w_X10_isHindered X hr hk N v0 v1 v2 h hf _ _ ls M hl)
abbrev rm_X10_canGo : Room := { frames := 3, cells := 0, slots := 0, locals := 84 }
def f_X10_canGo (N : Nat) (v0 : Nat) (v1 : Int32) (v2 : Int32) (h : Mem) : Option (Int32 × Mem) :=
  (gR h v0 10 10).bind fun t1 =>
  (lI 100 h t1 v1).bind fun t3 =>
  if t3 = v2 then
    some ((0 : Int32), h)
  else
    (ck h v0 10).bind fun _ =>
    b2 (f_X10_isFree N v0 v2 h) fun t9 h8 =>
    if t9 = 0 then
      some ((0 : Int32), h8)
    else
      (ck h8 v0 10).bind fun _ =>
      b2 (f_X10_isHindered N v0 v1 v2 h8) fun t14 h13 =>
      if t14 = 0 then
        some ((1 : Int32), h13)
      else
        some ((0 : Int32), h13)
set_option maxRecDepth 100000 in
set_option maxHeartbeats 4000000 in
theorem w_X10_canGo {p : Program} {l : Launch} {e : Env} {s : State} {m : MethodId} {args : Array Value} {below : List Frame} {meth : Method} {c : Code} {G : Gx} {r : Int32} {h' : Mem} (X : CX G p s m args c cX10_canGo 3 RX10) (hr : meth.sig.returnType = (Option.some Jvm.ClassFile.FieldType.boolean)) (hk : meth.locks = false) (N : Nat) : ∀ (v0 : Nat) (v1 : Int32) (v2 : Int32) (h : Mem), f_X10_canGo N v0 v1 v2 h = some (r, h') → ∀ (H : Heap) (locs : List Loc) (ls : Array Slot), MS G s h H locs 0 → lv_has ls 3 [(0, .ref (gB G + v0)), (1, .int v1), (2, .int v2)] → W p l e (rm_X10_canGo) s m args below meth c H locs 0 0 (QI G below args s r h' 0 0) (F0 m 0 ls []) := by
  intro v0 v1 v2 h hf H locs ls M hl
  rw [f_X10_canGo] at hf
  refine lv_aload_n X.1 X.2.1 dX10_canGo_0 rfl (lv_at hl 0 rfl) ?_
  obtain ⟨t1, q2, hf⟩ := bnd hf
  refine x_getr fl_X10_41 X M q2 dX10_canGo_1 ?_
  refine lv_iload_n X.1 X.2.1 dX10_canGo_4 rfl (lv_at hl 1 rfl) ?_
  obtain ⟨t3, q4, hf⟩ := bnd hf
  refine x_iald X M q4 dX10_canGo_5 ?_
  refine lv_iload_n X.1 X.2.1 dX10_canGo_6 rfl (lv_at hl 2 rfl) ?_
  refine lv_icmp_eq (tgt := 31) X.1 X.2.1 dX10_canGo_7 (by decide) (fun c5 => ?_) (fun c5 => ?_)
  · have hf := ifp c5 hf
    refine lv_iconst (v := (0 : Int32)) X.1 X.2.1 dX10_canGo_31 (by decide) ?_
    obtain ⟨rfl, rfl⟩ := rt2 hf
    exact x_zret X hr hk rfl M dX10_canGo_32
  · have hf := ifn c5 hf
    refine lv_aload_n X.1 X.2.1 dX10_canGo_10 rfl (lv_at hl 0 rfl) ?_
    refine lv_iload_n X.1 X.2.1 dX10_canGo_11 rfl (lv_at hl 2 rfl) ?_
    obtain ⟨⟨⟩, q6, hf⟩ := bnd hf
    obtain ⟨t9, h8, q7, hf⟩ := bnd2 hf
    refine x_callVi (As := [.int v2]) cf_X10_209 (c_X10_isFree l G N v0 v2 h _ _ q7) rfl ⟨rfl, rfl, Nat.le_of_ble_eq_true rfl, Nat.le_of_ble_eq_true rfl⟩ ⟨Nat.le_of_ble_eq_true rfl, Nat.le_of_ble_eq_true rfl⟩ X M (x_recv cls_X10 X M q6) rfl rfl hl.1 (Nat.le_of_ble_eq_true rfl) dX10_canGo_12 (fun H locs M => ?_)
    refine lv_if_eq (tgt := 31) X.1 X.2.1 dX10_canGo_15 (by decide) (fun c10 => ?_) (fun c10 => ?_)
    · have hf := ifp c10 hf
      refine lv_iconst (v := (0 : Int32)) X.1 X.2.1 dX10_canGo_31 (by decide) ?_
      obtain ⟨rfl, rfl⟩ := rt2 hf
      exact x_zret X hr hk rfl M dX10_canGo_32
    · have hf := ifn c10 hf
      refine lv_aload_n X.1 X.2.1 dX10_canGo_18 rfl (lv_at hl 0 rfl) ?_
      refine lv_iload_n X.1 X.2.1 dX10_canGo_19 rfl (lv_at hl 1 rfl) ?_
      refine lv_iload_n X.1 X.2.1 dX10_canGo_20 rfl (lv_at hl 2 rfl) ?_
      obtain ⟨⟨⟩, q11, hf⟩ := bnd hf
      obtain ⟨t14, h13, q12, hf⟩ := bnd2 hf
      refine x_callVi (As := [.int v1, .int v2]) cf_X10_305 (c_X10_isHindered l G N v0 v1 v2 h8 _ _ q12) rfl ⟨rfl, rfl, Nat.le_of_ble_eq_true rfl, Nat.le_of_ble_eq_true rfl⟩ ⟨Nat.le_of_ble_eq_true rfl, Nat.le_of_ble_eq_true rfl⟩ X M (x_recv cls_X10 X M q11) rfl rfl hl.1 (Nat.le_of_ble_eq_true rfl) dX10_canGo_21 (fun H locs M => ?_)
      refine lv_if_ne (tgt := 31) X.1 X.2.1 dX10_canGo_24 (by decide) (fun c15 => ?_) (fun c15 => ?_)
      · have hf := ifn c15 hf
        refine lv_iconst (v := (0 : Int32)) X.1 X.2.1 dX10_canGo_31 (by decide) ?_
        obtain ⟨rfl, rfl⟩ := rt2 hf
        exact x_zret X hr hk rfl M dX10_canGo_32
      · have hf := ifp c15 hf
        refine lv_iconst (v := (1 : Int32)) X.1 X.2.1 dX10_canGo_27 (by decide) ?_
        refine lv_goto (tgt := 32) X.1 X.2.1 dX10_canGo_28 (by decide) ?_
        obtain ⟨rfl, rfl⟩ := rt2 hf
        exact x_zret X hr hk rfl M dX10_canGo_32
theorem c_X10_canGo (l : Launch) (G : Gx) (N : Nat) (v0 : Nat) (v1 : Int32) (v2 : Int32) (h : Mem) (r : Int32) (h' : Mem) (hf : f_X10_canGo N v0 v1 v2 h = some (r, h')) : MetG l G yX10_canGo (.code yX10_canGo cX10_canGo 3 (Option.some Jvm.ClassFile.FieldType.boolean)) rm_X10_canGo [.ref (gB G + v0), .int v1, .int v2] h (QcI G r h') 0 0 :=
  x_met (by decide) rfl (Nat.le_of_ble_eq_true rfl) (fun p e s m args below meth c ls X M hr hk hin hl => w_X10_canGo X hr hk N v0 v1 v2 h hf _ _ ls M hl)
abbrev rm_X10_stayBreak : Room := { frames := 11, cells := 0, slots := 0, locals := 262 }
def f_X10_stayBreak_25 (N : Nat) (n : Nat) (v0 : Nat) (v1 : Int32) (v2 : Int64) (v4 : Int32) (h : Mem) (k2 : Nat → Int32 → Mem → Option (Int32 × Mem)) : Option (Int32 × Mem) := match n with
  | 0 => none
  | n + 1 =>
    (gI h v0 10 0).bind fun t1 =>
    if t1 ≤ v4 then
      k2 v0 (v1 + 1) h
    else
      (ck h v0 10).bind fun _ =>
      b2 (f_X10_canGo N v0 v1 v4 h) fun t7 h6 =>
      if t7 = 0 then
        f_X10_stayBreak_25 N n v0 v1 v2 (v4 + 1) h6 k2
      else
        (ck h6 v0 10).bind fun _ =>
        b2 (f_X10_worthOf N v0 v1 v4 h6) fun t12 h11 =>
        if (lg_cmp t12 v2) ≤ 0 then
          f_X10_stayBreak_25 N n v0 v1 v2 (v4 + 1) h11 k2
        else
          some ((((100 : Int32) * v1) + v4), h11)
set_option maxRecDepth 100000 in
set_option maxHeartbeats 4000000 in
theorem w_X10_stayBreak_25 {p : Program} {l : Launch} {e : Env} {s : State} {m : MethodId} {args : Array Value} {below : List Frame} {meth : Method} {c : Code} {G : Gx} {r : Int32} {h' : Mem} (X : CX G p s m args c cX10_stayBreak 5 RX10) (hr : meth.sig.returnType = (Option.some Jvm.ClassFile.FieldType.int)) (hk : meth.locks = false) (N : Nat) (k2 : Nat → Int32 → Mem → Option (Int32 × Mem)) (K2 : ∀ (v0 : Nat) (v1 : Int32) (h : Mem), k2 v0 v1 h = some (r, h') → ∀ (H : Heap) (locs : List Loc) (ls : Array Slot), MS G s h H locs 0 → lv_has ls 5 [(0, .ref (gB G + v0)), (1, .int v1)] → W p l e (rm_X10_stayBreak) s m args below meth c H locs 0 0 (QI G below args s r h' 0 0) (F0 m 2 ls [])) : ∀ (n : Nat) (v0 : Nat) (v1 : Int32) (v2 : Int64) (v4 : Int32) (h : Mem), f_X10_stayBreak_25 N n v0 v1 v2 v4 h k2 = some (r, h') → ∀ (H : Heap) (locs : List Loc) (ls : Array Slot), MS G s h H locs 0 → lv_has ls 5 [(0, .ref (gB G + v0)), (1, .int v1), (2, .long v2), (4, .int v4)] → W p l e (rm_X10_stayBreak) s m args below meth c H locs 0 0 (QI G below args s r h' 0 0) (F0 m 25 ls []) := by
  intro n
  induction n with
  | zero =>
    intro v0 v1 v2 v4 h hf
    cases hf
  | succ n ih =>
    intro v0 v1 v2 v4 h hf H locs ls M hl
    rw [f_X10_stayBreak_25] at hf
    refine lv_iload X.1 X.2.1 dX10_stayBreak_25 (lv_at hl 3 rfl) ?_
    refine lv_aload_n X.1 X.2.1 dX10_stayBreak_27 rfl (lv_at hl 0 rfl) ?_
    obtain ⟨t1, q2, hf⟩ := bnd hf
    refine x_geti fl_X10_7 X M q2 dX10_stayBreak_28 ?_
    refine lv_icmp_ge (tgt := 70) X.1 X.2.1 dX10_stayBreak_31 (by decide) (fun c3 => ?_) (fun c3 => ?_)
    · have hf := ifp c3 hf
      refine lv_iinc (v := (v1 + 1)) (lv' := [(1, .int (v1 + 1)), (0, .ref (gB G + v0)), (2, .long v2), (4, .int v4)]) X.1 X.2.1 dX10_stayBreak_70 hl (k := 1) rfl (by first | rfl | decide) (by decide) rfl (fun ls hl => ?_)
      refine lv_goto (tgt := 2) X.1 X.2.1 dX10_stayBreak_73 (by decide) ?_
      exact K2 v0 (v1 + 1) h hf _ _ _ M (lv_sub hl [1, 0] rfl)
    · have hf := ifn c3 hf
      refine lv_aload_n X.1 X.2.1 dX10_stayBreak_34 rfl (lv_at hl 0 rfl) ?_
      refine lv_iload_n X.1 X.2.1 dX10_stayBreak_35 rfl (lv_at hl 1 rfl) ?_
      refine lv_iload X.1 X.2.1 dX10_stayBreak_36 (lv_at hl 3 rfl) ?_
      obtain ⟨⟨⟩, q4, hf⟩ := bnd hf
      obtain ⟨t7, h6, q5, hf⟩ := bnd2 hf
      refine x_callVi (As := [.int v1, .int v4]) cf_X10_308 (c_X10_canGo l G N v0 v1 v4 h _ _ q5) rfl ⟨rfl, rfl, Nat.le_of_ble_eq_true rfl, Nat.le_of_ble_eq_true rfl⟩ ⟨Nat.le_of_ble_eq_true rfl, Nat.le_of_ble_eq_true rfl⟩ X M (x_recv cls_X10 X M q4) rfl rfl hl.1 (Nat.le_of_ble_eq_true rfl) dX10_stayBreak_38 (fun H locs M => ?_)
      refine lv_if_eq (tgt := 64) X.1 X.2.1 dX10_stayBreak_41 (by decide) (fun c8 => ?_) (fun c8 => ?_)
      · have hf := ifp c8 hf
        refine lv_iinc (v := (v4 + 1)) (lv' := [(4, .int (v4 + 1)), (0, .ref (gB G + v0)), (1, .int v1), (2, .long v2)]) X.1 X.2.1 dX10_stayBreak_64 hl (k := 3) rfl (by first | rfl | decide) (by decide) rfl (fun ls hl => ?_)
        refine lv_goto (tgt := 25) X.1 X.2.1 dX10_stayBreak_67 (by decide) ?_
        exact ih v0 v1 v2 (v4 + 1) h6 hf _ _ _ M (lv_sub hl [1, 2, 3, 0] rfl)
      · have hf := ifn c8 hf
        refine lv_aload_n X.1 X.2.1 dX10_stayBreak_44 rfl (lv_at hl 0 rfl) ?_
        refine lv_iload_n X.1 X.2.1 dX10_stayBreak_45 rfl (lv_at hl 1 rfl) ?_
        refine lv_iload X.1 X.2.1 dX10_stayBreak_46 (lv_at hl 3 rfl) ?_
        obtain ⟨⟨⟩, q9, hf⟩ := bnd hf
        obtain ⟨t12, h11, q10, hf⟩ := bnd2 hf
        refine x_callVl (As := [.int v1, .int v4]) cf_X10_225 (c_X10_worthOf l G N v0 v1 v4 h6 _ _ q10) rfl ⟨rfl, rfl, Nat.le_of_ble_eq_true rfl, Nat.le_of_ble_eq_true rfl⟩ ⟨Nat.le_of_ble_eq_true rfl, Nat.le_of_ble_eq_true rfl⟩ X M (x_recv cls_X10 X M q9) rfl rfl hl.1 (Nat.le_of_ble_eq_true rfl) dX10_stayBreak_48 (fun H locs M => ?_)
        refine lv_lload_n X.1 X.2.1 dX10_stayBreak_51 rfl (lv_at hl 2 rfl) ?_
        refine W.lcmp X.1 X.2.1 dX10_stayBreak_52 ?_
        refine lv_if_le (tgt := 64) X.1 X.2.1 dX10_stayBreak_53 (by decide) (fun c13 => ?_) (fun c13 => ?_)
        · have hf := ifp c13 hf
          refine lv_iinc (v := (v4 + 1)) (lv' := [(4, .int (v4 + 1)), (0, .ref (gB G + v0)), (1, .int v1), (2, .long v2)]) X.1 X.2.1 dX10_stayBreak_64 hl (k := 3) rfl (by first | rfl | decide) (by decide) rfl (fun ls hl => ?_)
          refine lv_goto (tgt := 25) X.1 X.2.1 dX10_stayBreak_67 (by decide) ?_
          exact ih v0 v1 v2 (v4 + 1) h11 hf _ _ _ M (lv_sub hl [1, 2, 3, 0] rfl)
        · have hf := ifn c13 hf
          refine lv_bipush (v := (100 : Int32)) X.1 X.2.1 dX10_stayBreak_56 (by decide) ?_
          refine lv_iload_n X.1 X.2.1 dX10_stayBreak_58 rfl (lv_at hl 1 rfl) ?_
          refine lv_imul X.1 X.2.1 dX10_stayBreak_59 ?_
          refine lv_iload X.1 X.2.1 dX10_stayBreak_60 (lv_at hl 3 rfl) ?_
          refine lv_iadd X.1 X.2.1 dX10_stayBreak_62 ?_
          obtain ⟨rfl, rfl⟩ := rt2 hf
          exact x_iret X hr hk M dX10_stayBreak_63
def f_X10_stayBreak_2 (N : Nat) (n : Nat) (v0 : Nat) (v1 : Int32) (h : Mem) : Option (Int32 × Mem) := match n with
  | 0 => none
  | n + 1 =>
    (gI h v0 10 1).bind fun t1 =>
    if t1 ≤ v1 then
      some ((-5 : Int32), h)
    else
      (gR h v0 10 10).bind fun t4 =>
      (lI 100 h t4 v1).bind fun t6 =>
      (ck h v0 10).bind fun _ =>
      b2 (f_X10_worthOf N v0 v1 t6 h) fun t11 h10 =>
      f_X10_stayBreak_25 N N v0 v1 t11 (0 : Int32) h10 (fun v0 v1 h => f_X10_stayBreak_2 N n v0 v1 h)
set_option maxRecDepth 100000 in
set_option maxHeartbeats 4000000 in
theorem w_X10_stayBreak_2 {p : Program} {l : Launch} {e : Env} {s : State} {m : MethodId} {args : Array Value} {below : List Frame} {meth : Method} {c : Code} {G : Gx} {r : Int32} {h' : Mem} (X : CX G p s m args c cX10_stayBreak 5 RX10) (hr : meth.sig.returnType = (Option.some Jvm.ClassFile.FieldType.int)) (hk : meth.locks = false) (N : Nat) : ∀ (n : Nat) (v0 : Nat) (v1 : Int32) (h : Mem), f_X10_stayBreak_2 N n v0 v1 h = some (r, h') → ∀ (H : Heap) (locs : List Loc) (ls : Array Slot), MS G s h H locs 0 → lv_has ls 5 [(0, .ref (gB G + v0)), (1, .int v1)] → W p l e (rm_X10_stayBreak) s m args below meth c H locs 0 0 (QI G below args s r h' 0 0) (F0 m 2 ls []) := by
  intro n
  induction n with
  | zero =>
    intro v0 v1 h hf
    cases hf
  | succ n ih =>
    intro v0 v1 h hf H locs ls M hl
    rw [f_X10_stayBreak_2] at hf
    refine lv_iload_n X.1 X.2.1 dX10_stayBreak_2 rfl (lv_at hl 1 rfl) ?_
    refine lv_aload_n X.1 X.2.1 dX10_stayBreak_3 rfl (lv_at hl 0 rfl) ?_
    obtain ⟨t1, q2, hf⟩ := bnd hf
    refine x_geti fl_X10_13 X M q2 dX10_stayBreak_4 ?_
    refine lv_icmp_ge (tgt := 76) X.1 X.2.1 dX10_stayBreak_7 (by decide) (fun c3 => ?_) (fun c3 => ?_)
    · have hf := ifp c3 hf
      refine lv_bipush (v := (-5 : Int32)) X.1 X.2.1 dX10_stayBreak_76 (by decide) ?_
      obtain ⟨rfl, rfl⟩ := rt2 hf
      exact x_iret X hr hk M dX10_stayBreak_78
    · have hf := ifn c3 hf
      refine lv_aload_n X.1 X.2.1 dX10_stayBreak_10 rfl (lv_at hl 0 rfl) ?_
      refine lv_iload_n X.1 X.2.1 dX10_stayBreak_11 rfl (lv_at hl 1 rfl) ?_
      refine lv_aload_n X.1 X.2.1 dX10_stayBreak_12 rfl (lv_at hl 0 rfl) ?_
      obtain ⟨t4, q5, hf⟩ := bnd hf
      refine x_getr fl_X10_41 X M q5 dX10_stayBreak_13 ?_
      refine lv_iload_n X.1 X.2.1 dX10_stayBreak_16 rfl (lv_at hl 1 rfl) ?_
      obtain ⟨t6, q7, hf⟩ := bnd hf
      refine x_iald X M q7 dX10_stayBreak_17 ?_
      obtain ⟨⟨⟩, q8, hf⟩ := bnd hf
      obtain ⟨t11, h10, q9, hf⟩ := bnd2 hf
      refine x_callVl (As := [.int v1, .int t6]) cf_X10_225 (c_X10_worthOf l G N v0 v1 t6 h _ _ q9) rfl ⟨rfl, rfl, Nat.le_of_ble_eq_true rfl, Nat.le_of_ble_eq_true rfl⟩ ⟨Nat.le_of_ble_eq_true rfl, Nat.le_of_ble_eq_true rfl⟩ X M (x_recv cls_X10 X M q8) rfl rfl hl.1 (Nat.le_of_ble_eq_true rfl) dX10_stayBreak_18 (fun H locs M => ?_)
      refine lv_lstore_n (lv' := [(2, .long t11), (0, .ref (gB G + v0)), (1, .int v1)]) X.1 X.2.1 dX10_stayBreak_21 rfl hl (by decide) rfl (fun ls hl => ?_)
      refine lv_iconst (v := (0 : Int32)) X.1 X.2.1 dX10_stayBreak_22 (by decide) ?_
      refine lv_istore (lv' := [(4, .int (0 : Int32)), (2, .long t11), (0, .ref (gB G + v0)), (1, .int v1)]) X.1 X.2.1 dX10_stayBreak_23 hl (by decide) rfl (fun ls hl => ?_)
      exact w_X10_stayBreak_25 X hr hk N _ (fun v0 v1 h hf H locs ls M hl => ih v0 v1 h hf H locs ls M hl) N v0 v1 t11 (0 : Int32) h10 hf _ _ _ M (lv_sub hl [2, 3, 1, 0] rfl)
def f_X10_stayBreak (N : Nat) (v0 : Nat) (h : Mem) : Option (Int32 × Mem) :=
  f_X10_stayBreak_2 N N v0 (0 : Int32) h
set_option maxRecDepth 100000 in
set_option maxHeartbeats 4000000 in
theorem w_X10_stayBreak {p : Program} {l : Launch} {e : Env} {s : State} {m : MethodId} {args : Array Value} {below : List Frame} {meth : Method} {c : Code} {G : Gx} {r : Int32} {h' : Mem} (X : CX G p s m args c cX10_stayBreak 5 RX10) (hr : meth.sig.returnType = (Option.some Jvm.ClassFile.FieldType.int)) (hk : meth.locks = false) (N : Nat) : ∀ (v0 : Nat) (h : Mem), f_X10_stayBreak N v0 h = some (r, h') → ∀ (H : Heap) (locs : List Loc) (ls : Array Slot), MS G s h H locs 0 → lv_has ls 5 [(0, .ref (gB G + v0))] → W p l e (rm_X10_stayBreak) s m args below meth c H locs 0 0 (QI G below args s r h' 0 0) (F0 m 0 ls []) := by
  intro v0 h hf H locs ls M hl
  rw [f_X10_stayBreak] at hf
  refine lv_iconst (v := (0 : Int32)) X.1 X.2.1 dX10_stayBreak_0 (by decide) ?_
  refine lv_istore_n (lv' := [(1, .int (0 : Int32)), (0, .ref (gB G + v0))]) X.1 X.2.1 dX10_stayBreak_1 rfl hl (by decide) rfl (fun ls hl => ?_)
  exact w_X10_stayBreak_2 X hr hk N N v0 (0 : Int32) h hf _ _ _ M (lv_sub hl [1, 0] rfl)
theorem c_X10_stayBreak (l : Launch) (G : Gx) (N : Nat) (v0 : Nat) (h : Mem) (r : Int32) (h' : Mem) (hf : f_X10_stayBreak N v0 h = some (r, h')) : MetG l G yX10_stayBreak (.code yX10_stayBreak cX10_stayBreak 5 (Option.some Jvm.ClassFile.FieldType.int)) rm_X10_stayBreak [.ref (gB G + v0)] h (QcI G r h') 0 0 :=
  x_met (by decide) rfl (Nat.le_of_ble_eq_true rfl) (fun p e s m args below meth c ls X M hr hk hin hl => w_X10_stayBreak X hr hk N v0 h hf _ _ ls M hl)
abbrev rm_X10_rentBreak : Room := { frames := 11, cells := 0, slots := 0, locals := 262 }
def f_X10_rentBreak_25 (N : Nat) (n : Nat) (v0 : Nat) (v1 : Int32) (v2 : Int64) (v4 : Int32) (h : Mem) (k2 : Nat → Int32 → Mem → Option (Int32 × Mem)) : Option (Int32 × Mem) := match n with
  | 0 => none
  | n + 1 =>
    (gI h v0 10 0).bind fun t1 =>
    if t1 ≤ v4 then
      k2 v0 (v1 + 1) h
    else
      (gR h v0 10 10).bind fun t4 =>
      (lI 100 h t4 v1).bind fun t6 =>
      if t6 = v4 then
        f_X10_rentBreak_25 N n v0 v1 v2 (v4 + 1) h k2
      else
        (ck h v0 10).bind fun _ =>
        b2 (f_X10_isFree N v0 v4 h) fun t12 h11 =>
        if t12 = 0 then
          (ck h11 v0 10).bind fun _ =>
          b2 (f_X10_isHindered N v0 v1 v4 h11) fun t17 h16 =>
          if t17 = 0 then
            (ck h16 v0 10).bind fun _ =>
            b2 (f_X10_worthOf N v0 v1 v4 h16) fun t22 h21 =>
            if (lg_cmp t22 v2) ≤ 0 then
              f_X10_rentBreak_25 N n v0 v1 v2 (v4 + 1) h21 k2
            else
              some ((((100 : Int32) * v1) + v4), h21)
          else
            f_X10_rentBreak_25 N n v0 v1 v2 (v4 + 1) h16 k2
        else
          f_X10_rentBreak_25 N n v0 v1 v2 (v4 + 1) h11 k2
set_option maxRecDepth 100000 in
set_option maxHeartbeats 4000000 in
theorem w_X10_rentBreak_25 {p : Program} {l : Launch} {e : Env} {s : State} {m : MethodId} {args : Array Value} {below : List Frame} {meth : Method} {c : Code} {G : Gx} {r : Int32} {h' : Mem} (X : CX G p s m args c cX10_rentBreak 5 RX10) (hr : meth.sig.returnType = (Option.some Jvm.ClassFile.FieldType.int)) (hk : meth.locks = false) (N : Nat) (k2 : Nat → Int32 → Mem → Option (Int32 × Mem)) (K2 : ∀ (v0 : Nat) (v1 : Int32) (h : Mem), k2 v0 v1 h = some (r, h') → ∀ (H : Heap) (locs : List Loc) (ls : Array Slot), MS G s h H locs 0 → lv_has ls 5 [(0, .ref (gB G + v0)), (1, .int v1)] → W p l e (rm_X10_rentBreak) s m args below meth c H locs 0 0 (QI G below args s r h' 0 0) (F0 m 2 ls [])) : ∀ (n : Nat) (v0 : Nat) (v1 : Int32) (v2 : Int64) (v4 : Int32) (h : Mem), f_X10_rentBreak_25 N n v0 v1 v2 v4 h k2 = some (r, h') → ∀ (H : Heap) (locs : List Loc) (ls : Array Slot), MS G s h H locs 0 → lv_has ls 5 [(0, .ref (gB G + v0)), (1, .int v1), (2, .long v2), (4, .int v4)] → W p l e (rm_X10_rentBreak) s m args below meth c H locs 0 0 (QI G below args s r h' 0 0) (F0 m 25 ls []) := by
  intro n
  induction n with
  | zero =>
    intro v0 v1 v2 v4 h hf
    cases hf
  | succ n ih =>
    intro v0 v1 v2 v4 h hf H locs ls M hl
    rw [f_X10_rentBreak_25] at hf
    refine lv_iload X.1 X.2.1 dX10_rentBreak_25 (lv_at hl 3 rfl) ?_
    refine lv_aload_n X.1 X.2.1 dX10_rentBreak_27 rfl (lv_at hl 0 rfl) ?_
    obtain ⟨t1, q2, hf⟩ := bnd hf
    refine x_geti fl_X10_7 X M q2 dX10_rentBreak_28 ?_
    refine lv_icmp_ge (tgt := 90) X.1 X.2.1 dX10_rentBreak_31 (by decide) (fun c3 => ?_) (fun c3 => ?_)
    · have hf := ifp c3 hf
      refine lv_iinc (v := (v1 + 1)) (lv' := [(1, .int (v1 + 1)), (0, .ref (gB G + v0)), (2, .long v2), (4, .int v4)]) X.1 X.2.1 dX10_rentBreak_90 hl (k := 1) rfl (by first | rfl | decide) (by decide) rfl (fun ls hl => ?_)
      refine lv_goto (tgt := 2) X.1 X.2.1 dX10_rentBreak_93 (by decide) ?_
      exact K2 v0 (v1 + 1) h hf _ _ _ M (lv_sub hl [1, 0] rfl)
    · have hf := ifn c3 hf
      refine lv_aload_n X.1 X.2.1 dX10_rentBreak_34 rfl (lv_at hl 0 rfl) ?_
      obtain ⟨t4, q5, hf⟩ := bnd hf
      refine x_getr fl_X10_41 X M q5 dX10_rentBreak_35 ?_
      refine lv_iload_n X.1 X.2.1 dX10_rentBreak_38 rfl (lv_at hl 1 rfl) ?_
      obtain ⟨t6, q7, hf⟩ := bnd hf
      refine x_iald X M q7 dX10_rentBreak_39 ?_
      refine lv_iload X.1 X.2.1 dX10_rentBreak_40 (lv_at hl 3 rfl) ?_
      refine lv_icmp_eq (tgt := 84) X.1 X.2.1 dX10_rentBreak_42 (by decide) (fun c8 => ?_) (fun c8 => ?_)
      · have hf := ifp c8 hf
        refine lv_iinc (v := (v4 + 1)) (lv' := [(4, .int (v4 + 1)), (0, .ref (gB G + v0)), (1, .int v1), (2, .long v2)]) X.1 X.2.1 dX10_rentBreak_84 hl (k := 3) rfl (by first | rfl | decide) (by decide) rfl (fun ls hl => ?_)
        refine lv_goto (tgt := 25) X.1 X.2.1 dX10_rentBreak_87 (by decide) ?_
        exact ih v0 v1 v2 (v4 + 1) h hf _ _ _ M (lv_sub hl [1, 2, 3, 0] rfl)
      · have hf := ifn c8 hf
        refine lv_aload_n X.1 X.2.1 dX10_rentBreak_45 rfl (lv_at hl 0 rfl) ?_
        refine lv_iload X.1 X.2.1 dX10_rentBreak_46 (lv_at hl 3 rfl) ?_
        obtain ⟨⟨⟩, q9, hf⟩ := bnd hf
        obtain ⟨t12, h11, q10, hf⟩ := bnd2 hf
        refine x_callVi (As := [.int v4]) cf_X10_209 (c_X10_isFree l G N v0 v4 h _ _ q10) rfl ⟨rfl, rfl, Nat.le_of_ble_eq_true rfl, Nat.le_of_ble_eq_true rfl⟩ ⟨Nat.le_of_ble_eq_true rfl, Nat.le_of_ble_eq_true rfl⟩ X M (x_recv cls_X10 X M q9) rfl rfl hl.1 (Nat.le_of_ble_eq_true rfl) dX10_rentBreak_48 (fun H locs M => ?_)
        refine lv_if_ne (tgt := 84) X.1 X.2.1 dX10_rentBreak_51 (by decide) (fun c13 => ?_) (fun c13 => ?_)
        · have hf := ifn c13 hf
          refine lv_iinc (v := (v4 + 1)) (lv' := [(4, .int (v4 + 1)), (0, .ref (gB G + v0)), (1, .int v1), (2, .long v2)]) X.1 X.2.1 dX10_rentBreak_84 hl (k := 3) rfl (by first | rfl | decide) (by decide) rfl (fun ls hl => ?_)
          refine lv_goto (tgt := 25) X.1 X.2.1 dX10_rentBreak_87 (by decide) ?_
          exact ih v0 v1 v2 (v4 + 1) h11 hf _ _ _ M (lv_sub hl [1, 2, 3, 0] rfl)
        · have hf := ifp c13 hf
          refine lv_aload_n X.1 X.2.1 dX10_rentBreak_54 rfl (lv_at hl 0 rfl) ?_
          refine lv_iload_n X.1 X.2.1 dX10_rentBreak_55 rfl (lv_at hl 1 rfl) ?_
          refine lv_iload X.1 X.2.1 dX10_rentBreak_56 (lv_at hl 3 rfl) ?_
          obtain ⟨⟨⟩, q14, hf⟩ := bnd hf
          obtain ⟨t17, h16, q15, hf⟩ := bnd2 hf
          refine x_callVi (As := [.int v1, .int v4]) cf_X10_305 (c_X10_isHindered l G N v0 v1 v4 h11 _ _ q15) rfl ⟨rfl, rfl, Nat.le_of_ble_eq_true rfl, Nat.le_of_ble_eq_true rfl⟩ ⟨Nat.le_of_ble_eq_true rfl, Nat.le_of_ble_eq_true rfl⟩ X M (x_recv cls_X10 X M q14) rfl rfl hl.1 (Nat.le_of_ble_eq_true rfl) dX10_rentBreak_58 (fun H locs M => ?_)
          refine lv_if_ne (tgt := 84) X.1 X.2.1 dX10_rentBreak_61 (by decide) (fun c18 => ?_) (fun c18 => ?_)
          · have hf := ifn c18 hf
            refine lv_iinc (v := (v4 + 1)) (lv' := [(4, .int (v4 + 1)), (0, .ref (gB G + v0)), (1, .int v1), (2, .long v2)]) X.1 X.2.1 dX10_rentBreak_84 hl (k := 3) rfl (by first | rfl | decide) (by decide) rfl (fun ls hl => ?_)
            refine lv_goto (tgt := 25) X.1 X.2.1 dX10_rentBreak_87 (by decide) ?_
            exact ih v0 v1 v2 (v4 + 1) h16 hf _ _ _ M (lv_sub hl [1, 2, 3, 0] rfl)
          · have hf := ifp c18 hf
            refine lv_aload_n X.1 X.2.1 dX10_rentBreak_64 rfl (lv_at hl 0 rfl) ?_
            refine lv_iload_n X.1 X.2.1 dX10_rentBreak_65 rfl (lv_at hl 1 rfl) ?_
            refine lv_iload X.1 X.2.1 dX10_rentBreak_66 (lv_at hl 3 rfl) ?_
            obtain ⟨⟨⟩, q19, hf⟩ := bnd hf
            obtain ⟨t22, h21, q20, hf⟩ := bnd2 hf
            refine x_callVl (As := [.int v1, .int v4]) cf_X10_225 (c_X10_worthOf l G N v0 v1 v4 h16 _ _ q20) rfl ⟨rfl, rfl, Nat.le_of_ble_eq_true rfl, Nat.le_of_ble_eq_true rfl⟩ ⟨Nat.le_of_ble_eq_true rfl, Nat.le_of_ble_eq_true rfl⟩ X M (x_recv cls_X10 X M q19) rfl rfl hl.1 (Nat.le_of_ble_eq_true rfl) dX10_rentBreak_68 (fun H locs M => ?_)
            refine lv_lload_n X.1 X.2.1 dX10_rentBreak_71 rfl (lv_at hl 2 rfl) ?_
            refine W.lcmp X.1 X.2.1 dX10_rentBreak_72 ?_
            refine lv_if_le (tgt := 84) X.1 X.2.1 dX10_rentBreak_73 (by decide) (fun c23 => ?_) (fun c23 => ?_)
            · have hf := ifp c23 hf
              refine lv_iinc (v := (v4 + 1)) (lv' := [(4, .int (v4 + 1)), (0, .ref (gB G + v0)), (1, .int v1), (2, .long v2)]) X.1 X.2.1 dX10_rentBreak_84 hl (k := 3) rfl (by first | rfl | decide) (by decide) rfl (fun ls hl => ?_)
              refine lv_goto (tgt := 25) X.1 X.2.1 dX10_rentBreak_87 (by decide) ?_
              exact ih v0 v1 v2 (v4 + 1) h21 hf _ _ _ M (lv_sub hl [1, 2, 3, 0] rfl)
            · have hf := ifn c23 hf
              refine lv_bipush (v := (100 : Int32)) X.1 X.2.1 dX10_rentBreak_76 (by decide) ?_
              refine lv_iload_n X.1 X.2.1 dX10_rentBreak_78 rfl (lv_at hl 1 rfl) ?_
              refine lv_imul X.1 X.2.1 dX10_rentBreak_79 ?_
              refine lv_iload X.1 X.2.1 dX10_rentBreak_80 (lv_at hl 3 rfl) ?_
              refine lv_iadd X.1 X.2.1 dX10_rentBreak_82 ?_
              obtain ⟨rfl, rfl⟩ := rt2 hf
              exact x_iret X hr hk M dX10_rentBreak_83
def f_X10_rentBreak_98 (N : Nat) (n : Nat) (v0 : Nat) (v1 : Int32) (h : Mem) : Option (Int32 × Mem) := match n with
  | 0 => none
  | n + 1 =>
    (gI h v0 10 0).bind fun t1 =>
    if t1 ≤ v1 then
      some ((-5 : Int32), h)
    else
      (ck h v0 10).bind fun _ =>
      b2 (f_X10_isFree N v0 v1 h) fun t7 h6 =>
      if t7 = 0 then
        f_X10_rentBreak_98 N n v0 (v1 + 1) h6
      else
        (gR h6 v0 10 5).bind fun t9 =>
        (lI 100 h6 t9 v1).bind fun t11 =>
        if t11 ≤ 0 then
          f_X10_rentBreak_98 N n v0 (v1 + 1) h6
        else
          some (((1000 : Int32) + v1), h6)
set_option maxRecDepth 100000 in
set_option maxHeartbeats 4000000 in
theorem w_X10_rentBreak_98 {p : Program} {l : Launch} {e : Env} {s : State} {m : MethodId} {args : Array Value} {below : List Frame} {meth : Method} {c : Code} {G : Gx} {r : Int32} {h' : Mem} (X : CX G p s m args c cX10_rentBreak 5 RX10) (hr : meth.sig.returnType = (Option.some Jvm.ClassFile.FieldType.int)) (hk : meth.locks = false) (N : Nat) : ∀ (n : Nat) (v0 : Nat) (v1 : Int32) (h : Mem), f_X10_rentBreak_98 N n v0 v1 h = some (r, h') → ∀ (H : Heap) (locs : List Loc) (ls : Array Slot), MS G s h H locs 0 → lv_has ls 5 [(0, .ref (gB G + v0)), (1, .int v1)] → W p l e (rm_X10_rentBreak) s m args below meth c H locs 0 0 (QI G below args s r h' 0 0) (F0 m 98 ls []) := by
  intro n
  induction n with
  | zero =>
    intro v0 v1 h hf
    cases hf
  | succ n ih =>
    intro v0 v1 h hf H locs ls M hl
    rw [f_X10_rentBreak_98] at hf
    refine lv_iload_n X.1 X.2.1 dX10_rentBreak_98 rfl (lv_at hl 1 rfl) ?_
    refine lv_aload_n X.1 X.2.1 dX10_rentBreak_99 rfl (lv_at hl 0 rfl) ?_
    obtain ⟨t1, q2, hf⟩ := bnd hf
    refine x_geti fl_X10_7 X M q2 dX10_rentBreak_100 ?_
    refine lv_icmp_ge (tgt := 135) X.1 X.2.1 dX10_rentBreak_103 (by decide) (fun c3 => ?_) (fun c3 => ?_)
    · have hf := ifp c3 hf
      refine lv_bipush (v := (-5 : Int32)) X.1 X.2.1 dX10_rentBreak_135 (by decide) ?_
      obtain ⟨rfl, rfl⟩ := rt2 hf
      exact x_iret X hr hk M dX10_rentBreak_137
    · have hf := ifn c3 hf
      refine lv_aload_n X.1 X.2.1 dX10_rentBreak_106 rfl (lv_at hl 0 rfl) ?_
      refine lv_iload_n X.1 X.2.1 dX10_rentBreak_107 rfl (lv_at hl 1 rfl) ?_
      obtain ⟨⟨⟩, q4, hf⟩ := bnd hf
      obtain ⟨t7, h6, q5, hf⟩ := bnd2 hf
      refine x_callVi (As := [.int v1]) cf_X10_209 (c_X10_isFree l G N v0 v1 h _ _ q5) rfl ⟨rfl, rfl, Nat.le_of_ble_eq_true rfl, Nat.le_of_ble_eq_true rfl⟩ ⟨Nat.le_of_ble_eq_true rfl, Nat.le_of_ble_eq_true rfl⟩ X M (x_recv cls_X10 X M q4) rfl rfl hl.1 (Nat.le_of_ble_eq_true rfl) dX10_rentBreak_108 (fun H locs M => ?_)
      refine lv_if_eq (tgt := 129) X.1 X.2.1 dX10_rentBreak_111 (by decide) (fun c8 => ?_) (fun c8 => ?_)
      · have hf := ifp c8 hf
        refine lv_iinc (v := (v1 + 1)) (lv' := [(1, .int (v1 + 1)), (0, .ref (gB G + v0))]) X.1 X.2.1 dX10_rentBreak_129 hl (k := 1) rfl (by first | rfl | decide) (by decide) rfl (fun ls hl => ?_)
        refine lv_goto (tgt := 98) X.1 X.2.1 dX10_rentBreak_132 (by decide) ?_
        exact ih v0 (v1 + 1) h6 hf _ _ _ M (lv_sub hl [1, 0] rfl)
      · have hf := ifn c8 hf
        refine lv_aload_n X.1 X.2.1 dX10_rentBreak_114 rfl (lv_at hl 0 rfl) ?_
        obtain ⟨t9, q10, hf⟩ := bnd hf
        refine x_getr fl_X10_26 X M q10 dX10_rentBreak_115 ?_
        refine lv_iload_n X.1 X.2.1 dX10_rentBreak_118 rfl (lv_at hl 1 rfl) ?_
        obtain ⟨t11, q12, hf⟩ := bnd hf
        refine x_iald X M q12 dX10_rentBreak_119 ?_
        refine lv_if_le (tgt := 129) X.1 X.2.1 dX10_rentBreak_120 (by decide) (fun c13 => ?_) (fun c13 => ?_)
        · have hf := ifp c13 hf
          refine lv_iinc (v := (v1 + 1)) (lv' := [(1, .int (v1 + 1)), (0, .ref (gB G + v0))]) X.1 X.2.1 dX10_rentBreak_129 hl (k := 1) rfl (by first | rfl | decide) (by decide) rfl (fun ls hl => ?_)
          refine lv_goto (tgt := 98) X.1 X.2.1 dX10_rentBreak_132 (by decide) ?_
          exact ih v0 (v1 + 1) h6 hf _ _ _ M (lv_sub hl [1, 0] rfl)
        · have hf := ifn c13 hf
          refine lv_sipush (v := (1000 : Int32)) X.1 X.2.1 dX10_rentBreak_123 (by decide) ?_
          refine lv_iload_n X.1 X.2.1 dX10_rentBreak_126 rfl (lv_at hl 1 rfl) ?_
          refine lv_iadd X.1 X.2.1 dX10_rentBreak_127 ?_
          obtain ⟨rfl, rfl⟩ := rt2 hf
          exact x_iret X hr hk M dX10_rentBreak_128
def f_X10_rentBreak_2 (N : Nat) (n : Nat) (v0 : Nat) (v1 : Int32) (h : Mem) : Option (Int32 × Mem) := match n with
  | 0 => none
  | n + 1 =>
    (gI h v0 10 1).bind fun t1 =>
    if t1 ≤ v1 then
      f_X10_rentBreak_98 N N v0 (0 : Int32) h
    else
      (gR h v0 10 10).bind fun t4 =>
      (lI 100 h t4 v1).bind fun t6 =>
      (ck h v0 10).bind fun _ =>
      b2 (f_X10_worthOf N v0 v1 t6 h) fun t11 h10 =>
      f_X10_rentBreak_25 N N v0 v1 t11 (0 : Int32) h10 (fun v0 v1 h => f_X10_rentBreak_2 N n v0 v1 h)
set_option maxRecDepth 100000 in
set_option maxHeartbeats 4000000 in
theorem w_X10_rentBreak_2 {p : Program} {l : Launch} {e : Env} {s : State} {m : MethodId} {args : Array Value} {below : List Frame} {meth : Method} {c : Code} {G : Gx} {r : Int32} {h' : Mem} (X : CX G p s m args c cX10_rentBreak 5 RX10) (hr : meth.sig.returnType = (Option.some Jvm.ClassFile.FieldType.int)) (hk : meth.locks = false) (N : Nat) : ∀ (n : Nat) (v0 : Nat) (v1 : Int32) (h : Mem), f_X10_rentBreak_2 N n v0 v1 h = some (r, h') → ∀ (H : Heap) (locs : List Loc) (ls : Array Slot), MS G s h H locs 0 → lv_has ls 5 [(0, .ref (gB G + v0)), (1, .int v1)] → W p l e (rm_X10_rentBreak) s m args below meth c H locs 0 0 (QI G below args s r h' 0 0) (F0 m 2 ls []) := by
  intro n
  induction n with
  | zero =>
    intro v0 v1 h hf
    cases hf
  | succ n ih =>
    intro v0 v1 h hf H locs ls M hl
    rw [f_X10_rentBreak_2] at hf
    refine lv_iload_n X.1 X.2.1 dX10_rentBreak_2 rfl (lv_at hl 1 rfl) ?_
    refine lv_aload_n X.1 X.2.1 dX10_rentBreak_3 rfl (lv_at hl 0 rfl) ?_
    obtain ⟨t1, q2, hf⟩ := bnd hf
    refine x_geti fl_X10_13 X M q2 dX10_rentBreak_4 ?_
    refine lv_icmp_ge (tgt := 96) X.1 X.2.1 dX10_rentBreak_7 (by decide) (fun c3 => ?_) (fun c3 => ?_)
    · have hf := ifp c3 hf
      refine lv_iconst (v := (0 : Int32)) X.1 X.2.1 dX10_rentBreak_96 (by decide) ?_
      refine lv_istore_n (lv' := [(1, .int (0 : Int32)), (0, .ref (gB G + v0))]) X.1 X.2.1 dX10_rentBreak_97 rfl hl (by decide) rfl (fun ls hl => ?_)
      exact w_X10_rentBreak_98 X hr hk N N v0 (0 : Int32) h hf _ _ _ M (lv_sub hl [1, 0] rfl)
    · have hf := ifn c3 hf
      refine lv_aload_n X.1 X.2.1 dX10_rentBreak_10 rfl (lv_at hl 0 rfl) ?_
      refine lv_iload_n X.1 X.2.1 dX10_rentBreak_11 rfl (lv_at hl 1 rfl) ?_
      refine lv_aload_n X.1 X.2.1 dX10_rentBreak_12 rfl (lv_at hl 0 rfl) ?_
      obtain ⟨t4, q5, hf⟩ := bnd hf
      refine x_getr fl_X10_41 X M q5 dX10_rentBreak_13 ?_
      refine lv_iload_n X.1 X.2.1 dX10_rentBreak_16 rfl (lv_at hl 1 rfl) ?_
      obtain ⟨t6, q7, hf⟩ := bnd hf
      refine x_iald X M q7 dX10_rentBreak_17 ?_
      obtain ⟨⟨⟩, q8, hf⟩ := bnd hf
      obtain ⟨t11, h10, q9, hf⟩ := bnd2 hf
      refine x_callVl (As := [.int v1, .int t6]) cf_X10_225 (c_X10_worthOf l G N v0 v1 t6 h _ _ q9) rfl ⟨rfl, rfl, Nat.le_of_ble_eq_true rfl, Nat.le_of_ble_eq_true rfl⟩ ⟨Nat.le_of_ble_eq_true rfl, Nat.le_of_ble_eq_true rfl⟩ X M (x_recv cls_X10 X M q8) rfl rfl hl.1 (Nat.le_of_ble_eq_true rfl) dX10_rentBreak_18 (fun H locs M => ?_)
      refine lv_lstore_n (lv' := [(2, .long t11), (0, .ref (gB G + v0)), (1, .int v1)]) X.1 X.2.1 dX10_rentBreak_21 rfl hl (by decide) rfl (fun ls hl => ?_)
      refine lv_iconst (v := (0 : Int32)) X.1 X.2.1 dX10_rentBreak_22 (by decide) ?_
      refine lv_istore (lv' := [(4, .int (0 : Int32)), (2, .long t11), (0, .ref (gB G + v0)), (1, .int v1)]) X.1 X.2.1 dX10_rentBreak_23 hl (by decide) rfl (fun ls hl => ?_)
      exact w_X10_rentBreak_25 X hr hk N _ (fun v0 v1 h hf H locs ls M hl => ih v0 v1 h hf H locs ls M hl) N v0 v1 t11 (0 : Int32) h10 hf _ _ _ M (lv_sub hl [2, 3, 1, 0] rfl)
def f_X10_rentBreak (N : Nat) (v0 : Nat) (h : Mem) : Option (Int32 × Mem) :=
  f_X10_rentBreak_2 N N v0 (0 : Int32) h
set_option maxRecDepth 100000 in
set_option maxHeartbeats 4000000 in
theorem w_X10_rentBreak {p : Program} {l : Launch} {e : Env} {s : State} {m : MethodId} {args : Array Value} {below : List Frame} {meth : Method} {c : Code} {G : Gx} {r : Int32} {h' : Mem} (X : CX G p s m args c cX10_rentBreak 5 RX10) (hr : meth.sig.returnType = (Option.some Jvm.ClassFile.FieldType.int)) (hk : meth.locks = false) (N : Nat) : ∀ (v0 : Nat) (h : Mem), f_X10_rentBreak N v0 h = some (r, h') → ∀ (H : Heap) (locs : List Loc) (ls : Array Slot), MS G s h H locs 0 → lv_has ls 5 [(0, .ref (gB G + v0))] → W p l e (rm_X10_rentBreak) s m args below meth c H locs 0 0 (QI G below args s r h' 0 0) (F0 m 0 ls []) := by
  intro v0 h hf H locs ls M hl
  rw [f_X10_rentBreak] at hf
  refine lv_iconst (v := (0 : Int32)) X.1 X.2.1 dX10_rentBreak_0 (by decide) ?_
  refine lv_istore_n (lv' := [(1, .int (0 : Int32)), (0, .ref (gB G + v0))]) X.1 X.2.1 dX10_rentBreak_1 rfl hl (by decide) rfl (fun ls hl => ?_)
  exact w_X10_rentBreak_2 X hr hk N N v0 (0 : Int32) h hf _ _ _ M (lv_sub hl [1, 0] rfl)
theorem c_X10_rentBreak (l : Launch) (G : Gx) (N : Nat) (v0 : Nat) (h : Mem) (r : Int32) (h' : Mem) (hf : f_X10_rentBreak N v0 h = some (r, h')) : MetG l G yX10_rentBreak (.code yX10_rentBreak cX10_rentBreak 5 (Option.some Jvm.ClassFile.FieldType.int)) rm_X10_rentBreak [.ref (gB G + v0)] h (QcI G r h') 0 0 :=
  x_met (by decide) rfl (Nat.le_of_ble_eq_true rfl) (fun p e s m args below meth c ls X M hr hk hin hl => w_X10_rentBreak X hr hk N v0 h hf _ _ ls M hl)
abbrev rm_X10_ones : Room := { frames := 1, cells := 0, slots := 0, locals := 40 }
def f_X10_ones_4 (N : Nat) (n : Nat) (v2 : Int32) (v3 : Int32) (h : Mem) : Option (Int32 × Mem) := match n with
  | 0 => none
  | n + 1 =>
    if v3 = 0 then
      some (v2, h)
    else
      f_X10_ones_4 N n (v2 + 1) (v3 &&& (v3 - (1 : Int32))) h
set_option maxRecDepth 100000 in
set_option maxHeartbeats 4000000 in
theorem w_X10_ones_4 {p : Program} {l : Launch} {e : Env} {s : State} {m : MethodId} {args : Array Value} {below : List Frame} {meth : Method} {c : Code} {G : Gx} {r : Int32} {h' : Mem} (X : CX G p s m args c cX10_ones 4 RX10) (hr : meth.sig.returnType = (Option.some Jvm.ClassFile.FieldType.int)) (hk : meth.locks = false) (N : Nat) : ∀ (n : Nat) (v2 : Int32) (v3 : Int32) (h : Mem), f_X10_ones_4 N n v2 v3 h = some (r, h') → ∀ (H : Heap) (locs : List Loc) (ls : Array Slot), MS G s h H locs 0 → lv_has ls 4 [(2, .int v2), (3, .int v3)] → W p l e (rm_X10_ones) s m args below meth c H locs 0 0 (QI G below args s r h' 0 0) (F0 m 4 ls []) := by
  intro n
  induction n with
  | zero =>
    intro v2 v3 h hf
    cases hf
  | succ n ih =>
    intro v2 v3 h hf H locs ls M hl
    rw [f_X10_ones_4] at hf
    refine lv_iload_n X.1 X.2.1 dX10_ones_4 rfl (lv_at hl 1 rfl) ?_
    refine lv_if_eq (tgt := 20) X.1 X.2.1 dX10_ones_5 (by decide) (fun c1 => ?_) (fun c1 => ?_)
    · have hf := ifp c1 hf
      refine lv_iload_n X.1 X.2.1 dX10_ones_20 rfl (lv_at hl 0 rfl) ?_
      obtain ⟨rfl, rfl⟩ := rt2 hf
      exact x_iret X hr hk M dX10_ones_21
    · have hf := ifn c1 hf
      refine lv_iinc (v := (v2 + 1)) (lv' := [(2, .int (v2 + 1)), (3, .int v3)]) X.1 X.2.1 dX10_ones_8 hl (k := 0) rfl (by first | rfl | decide) (by decide) rfl (fun ls hl => ?_)
      refine lv_iload_n X.1 X.2.1 dX10_ones_11 rfl (lv_at hl 1 rfl) ?_
      refine lv_iload_n X.1 X.2.1 dX10_ones_12 rfl (lv_at hl 1 rfl) ?_
      refine lv_iconst (v := (1 : Int32)) X.1 X.2.1 dX10_ones_13 (by decide) ?_
      refine lv_isub X.1 X.2.1 dX10_ones_14 ?_
      refine lv_iand X.1 X.2.1 dX10_ones_15 ?_
      refine lv_istore_n (lv' := [(3, .int (v3 &&& (v3 - (1 : Int32)))), (2, .int (v2 + 1))]) X.1 X.2.1 dX10_ones_16 rfl hl (by decide) rfl (fun ls hl => ?_)
      refine lv_goto (tgt := 4) X.1 X.2.1 dX10_ones_17 (by decide) ?_
      exact ih (v2 + 1) (v3 &&& (v3 - (1 : Int32))) h hf _ _ _ M (lv_sub hl [1, 0] rfl)
def f_X10_ones (N : Nat) (v0 : Nat) (v1 : Int32) (h : Mem) : Option (Int32 × Mem) :=
  f_X10_ones_4 N N (0 : Int32) v1 h
set_option maxRecDepth 100000 in
set_option maxHeartbeats 4000000 in
theorem w_X10_ones {p : Program} {l : Launch} {e : Env} {s : State} {m : MethodId} {args : Array Value} {below : List Frame} {meth : Method} {c : Code} {G : Gx} {r : Int32} {h' : Mem} (X : CX G p s m args c cX10_ones 4 RX10) (hr : meth.sig.returnType = (Option.some Jvm.ClassFile.FieldType.int)) (hk : meth.locks = false) (N : Nat) : ∀ (v0 : Nat) (v1 : Int32) (h : Mem), f_X10_ones N v0 v1 h = some (r, h') → ∀ (H : Heap) (locs : List Loc) (ls : Array Slot), MS G s h H locs 0 → lv_has ls 4 [(0, .ref (gB G + v0)), (1, .int v1)] → W p l e (rm_X10_ones) s m args below meth c H locs 0 0 (QI G below args s r h' 0 0) (F0 m 0 ls []) := by
  intro v0 v1 h hf H locs ls M hl
  rw [f_X10_ones] at hf
  refine lv_iconst (v := (0 : Int32)) X.1 X.2.1 dX10_ones_0 (by decide) ?_
  refine lv_istore_n (lv' := [(2, .int (0 : Int32)), (0, .ref (gB G + v0)), (1, .int v1)]) X.1 X.2.1 dX10_ones_1 rfl hl (by decide) rfl (fun ls hl => ?_)
  refine lv_iload_n X.1 X.2.1 dX10_ones_2 rfl (lv_at hl 2 rfl) ?_
  refine lv_istore_n (lv' := [(3, .int v1), (2, .int (0 : Int32)), (0, .ref (gB G + v0)), (1, .int v1)]) X.1 X.2.1 dX10_ones_3 rfl hl (by decide) rfl (fun ls hl => ?_)
  exact w_X10_ones_4 X hr hk N N (0 : Int32) v1 h hf _ _ _ M (lv_sub hl [1, 0] rfl)
theorem c_X10_ones (l : Launch) (G : Gx) (N : Nat) (v0 : Nat) (v1 : Int32) (h : Mem) (r : Int32) (h' : Mem) (hf : f_X10_ones N v0 v1 h = some (r, h')) : MetG l G yX10_ones (.code yX10_ones cX10_ones 4 (Option.some Jvm.ClassFile.FieldType.int)) rm_X10_ones [.ref (gB G + v0), .int v1] h (QcI G r h') 0 0 :=
  x_met (by decide) rfl (Nat.le_of_ble_eq_true rfl) (fun p e s m args below meth c ls X M hr hk hin hl => w_X10_ones X hr hk N v0 v1 h hf _ _ ls M hl)
abbrev rm_X10_isClub : Room := { frames := 11, cells := 0, slots := 0, locals := 262 }
def f_X10_isClub_113 (N : Nat) (v0 : Nat) (v1 : Int32) (v2 : Int32) (v4 : Int32) (h : Mem) (k114 : Nat → Int32 → Int32 → Int32 → Int32 → Mem → Option (Int32 × Mem)) : Option (Int32 × Mem) :=
  k114 v0 v1 v2 v4 (0 : Int32) h
set_option maxRecDepth 100000 in
set_option maxHeartbeats 4000000 in
theorem w_X10_isClub_113 {p : Program} {l : Launch} {e : Env} {s : State} {m : MethodId} {args : Array Value} {below : List Frame} {meth : Method} {c : Code} {G : Gx} {r : Int32} {h' : Mem} (X : CX G p s m args c cX10_isClub 5 RX10) (hr : meth.sig.returnType = (Option.some Jvm.ClassFile.FieldType.boolean)) (hk : meth.locks = false) (N : Nat) (k114 : Nat → Int32 → Int32 → Int32 → Int32 → Mem → Option (Int32 × Mem)) (K114 : ∀ (v0 : Nat) (v1 : Int32) (v2 : Int32) (v4 : Int32) (s0 : Int32) (h : Mem), k114 v0 v1 v2 v4 s0 h = some (r, h') → ∀ (H : Heap) (locs : List Loc) (ls : Array Slot), MS G s h H locs 0 → lv_has ls 5 [(0, .ref (gB G + v0)), (1, .int v1), (2, .int v2), (4, .int v4)] → W p l e (rm_X10_isClub) s m args below meth c H locs 0 0 (QI G below args s r h' 0 0) (F0 m 114 ls [.int s0])) : ∀ (v0 : Nat) (v1 : Int32) (v2 : Int32) (v4 : Int32) (h : Mem), f_X10_isClub_113 N v0 v1 v2 v4 h k114 = some (r, h') → ∀ (H : Heap) (locs : List Loc) (ls : Array Slot), MS G s h H locs 0 → lv_has ls 5 [(0, .ref (gB G + v0)), (1, .int v1), (2, .int v2), (4, .int v4)] → W p l e (rm_X10_isClub) s m args below meth c H locs 0 0 (QI G below args s r h' 0 0) (F0 m 113 ls []) := by
  intro v0 v1 v2 v4 h hf H locs ls M hl
  rw [f_X10_isClub_113] at hf
  refine lv_iconst (v := (0 : Int32)) X.1 X.2.1 dX10_isClub_113 (by decide) ?_
  exact K114 v0 v1 v2 v4 (0 : Int32) h hf _ _ _ M (lv_sub hl [0, 1, 2, 3] rfl)
def f_X10_isClub_114 (N : Nat) (v0 : Nat) (v1 : Int32) (v2 : Int32) (v4 : Int32) (s0 : Int32) (h : Mem) (k74 : Nat → Int32 → Int32 → Int32 → Int32 → Mem → Option (Int32 × Mem)) : Option (Int32 × Mem) :=
  (gR h v0 10 10).bind fun t1 =>
  (stI 100 h t1 v4 v2).bind fun h3 =>
  k74 v0 v1 v2 s0 (v4 + 1) h3
set_option maxRecDepth 100000 in
set_option maxHeartbeats 4000000 in
theorem w_X10_isClub_114 {p : Program} {l : Launch} {e : Env} {s : State} {m : MethodId} {args : Array Value} {below : List Frame} {meth : Method} {c : Code} {G : Gx} {r : Int32} {h' : Mem} (X : CX G p s m args c cX10_isClub 5 RX10) (hr : meth.sig.returnType = (Option.some Jvm.ClassFile.FieldType.boolean)) (hk : meth.locks = false) (N : Nat) (k74 : Nat → Int32 → Int32 → Int32 → Int32 → Mem → Option (Int32 × Mem)) (K74 : ∀ (v0 : Nat) (v1 : Int32) (v2 : Int32) (v3 : Int32) (v4 : Int32) (h : Mem), k74 v0 v1 v2 v3 v4 h = some (r, h') → ∀ (H : Heap) (locs : List Loc) (ls : Array Slot), MS G s h H locs 0 → lv_has ls 5 [(0, .ref (gB G + v0)), (1, .int v1), (2, .int v2), (3, .int v3), (4, .int v4)] → W p l e (rm_X10_isClub) s m args below meth c H locs 0 0 (QI G below args s r h' 0 0) (F0 m 74 ls [])) : ∀ (v0 : Nat) (v1 : Int32) (v2 : Int32) (v4 : Int32) (s0 : Int32) (h : Mem), f_X10_isClub_114 N v0 v1 v2 v4 s0 h k74 = some (r, h') → ∀ (H : Heap) (locs : List Loc) (ls : Array Slot), MS G s h H locs 0 → lv_has ls 5 [(0, .ref (gB G + v0)), (1, .int v1), (2, .int v2), (4, .int v4)] → W p l e (rm_X10_isClub) s m args below meth c H locs 0 0 (QI G below args s r h' 0 0) (F0 m 114 ls [.int s0]) := by
  intro v0 v1 v2 v4 s0 h hf H locs ls M hl
  rw [f_X10_isClub_114] at hf
  refine lv_istore_n (lv' := [(3, .int s0), (0, .ref (gB G + v0)), (1, .int v1), (2, .int v2), (4, .int v4)]) X.1 X.2.1 dX10_isClub_114 rfl hl (by decide) rfl (fun ls hl => ?_)
  refine lv_aload_n X.1 X.2.1 dX10_isClub_115 rfl (lv_at hl 1 rfl) ?_
  obtain ⟨t1, q2, hf⟩ := bnd hf
  refine x_getr fl_X10_41 X M q2 dX10_isClub_116 ?_
  refine lv_iload X.1 X.2.1 dX10_isClub_119 (lv_at hl 4 rfl) ?_
  refine lv_iload_n X.1 X.2.1 dX10_isClub_121 rfl (lv_at hl 3 rfl) ?_
  obtain ⟨h3, q4, hf⟩ := bnd hf
  refine x_iast X M q4 dX10_isClub_122 (fun H locs M => ?_)
  refine lv_iinc (v := (v4 + 1)) (lv' := [(4, .int (v4 + 1)), (3, .int s0), (0, .ref (gB G + v0)), (1, .int v1), (2, .int v2)]) X.1 X.2.1 dX10_isClub_123 hl (k := 4) rfl (by first | rfl | decide) (by decide) rfl (fun ls hl => ?_)
  refine lv_goto (tgt := 74) X.1 X.2.1 dX10_isClub_126 (by decide) ?_
  exact K74 v0 v1 v2 s0 (v4 + 1) h3 hf _ _ _ M (lv_sub hl [2, 3, 4, 1, 0] rfl)
def f_X10_isClub_172 (N : Nat) (v0 : Nat) (v1 : Int32) (v2 : Int32) (v4 : Int32) (h : Mem) (k177 : Nat → Int32 → Int32 → Int32 → Int32 → Mem → Option (Int32 × Mem)) : Option (Int32 × Mem) :=
  k177 v0 v1 v2 v4 (1 : Int32) h
set_option maxRecDepth 100000 in
set_option maxHeartbeats 4000000 in
theorem w_X10_isClub_172 {p : Program} {l : Launch} {e : Env} {s : State} {m : MethodId} {args : Array Value} {below : List Frame} {meth : Method} {c : Code} {G : Gx} {r : Int32} {h' : Mem} (X : CX G p s m args c cX10_isClub 5 RX10) (hr : meth.sig.returnType = (Option.some Jvm.ClassFile.FieldType.boolean)) (hk : meth.locks = false) (N : Nat) (k177 : Nat → Int32 → Int32 → Int32 → Int32 → Mem → Option (Int32 × Mem)) (K177 : ∀ (v0 : Nat) (v1 : Int32) (v2 : Int32) (v4 : Int32) (s0 : Int32) (h : Mem), k177 v0 v1 v2 v4 s0 h = some (r, h') → ∀ (H : Heap) (locs : List Loc) (ls : Array Slot), MS G s h H locs 0 → lv_has ls 5 [(0, .ref (gB G + v0)), (1, .int v1), (2, .int v2), (4, .int v4)] → W p l e (rm_X10_isClub) s m args below meth c H locs 0 0 (QI G below args s r h' 0 0) (F0 m 177 ls [.int s0])) : ∀ (v0 : Nat) (v1 : Int32) (v2 : Int32) (v4 : Int32) (h : Mem), f_X10_isClub_172 N v0 v1 v2 v4 h k177 = some (r, h') → ∀ (H : Heap) (locs : List Loc) (ls : Array Slot), MS G s h H locs 0 → lv_has ls 5 [(0, .ref (gB G + v0)), (1, .int v1), (2, .int v2), (4, .int v4)] → W p l e (rm_X10_isClub) s m args below meth c H locs 0 0 (QI G below args s r h' 0 0) (F0 m 172 ls []) := by
  intro v0 v1 v2 v4 h hf H locs ls M hl
  rw [f_X10_isClub_172] at hf
  refine lv_iconst (v := (1 : Int32)) X.1 X.2.1 dX10_isClub_172 (by decide) ?_
  refine lv_goto (tgt := 177) X.1 X.2.1 dX10_isClub_173 (by decide) ?_
  exact K177 v0 v1 v2 v4 (1 : Int32) h hf _ _ _ M (lv_sub hl [0, 1, 2, 3] rfl)
def f_X10_isClub_177 (N : Nat) (v0 : Nat) (v1 : Int32) (v2 : Int32) (v4 : Int32) (s0 : Int32) (h : Mem) (k132 : Nat → Int32 → Int32 → Int32 → Int32 → Mem → Option (Int32 × Mem)) : Option (Int32 × Mem) :=
  k132 v0 v1 v2 s0 (v4 + 1) h
set_option maxRecDepth 100000 in
set_option maxHeartbeats 4000000 in
theorem w_X10_isClub_177 {p : Program} {l : Launch} {e : Env} {s : State} {m : MethodId} {args : Array Value} {below : List Frame} {meth : Method} {c : Code} {G : Gx} {r : Int32} {h' : Mem} (X : CX G p s m args c cX10_isClub 5 RX10) (hr : meth.sig.returnType = (Option.some Jvm.ClassFile.FieldType.boolean)) (hk : meth.locks = false) (N : Nat) (k132 : Nat → Int32 → Int32 → Int32 → Int32 → Mem → Option (Int32 × Mem)) (K132 : ∀ (v0 : Nat) (v1 : Int32) (v2 : Int32) (v3 : Int32) (v4 : Int32) (h : Mem), k132 v0 v1 v2 v3 v4 h = some (r, h') → ∀ (H : Heap) (locs : List Loc) (ls : Array Slot), MS G s h H locs 0 → lv_has ls 5 [(0, .ref (gB G + v0)), (1, .int v1), (2, .int v2), (3, .int v3), (4, .int v4)] → W p l e (rm_X10_isClub) s m args below meth c H locs 0 0 (QI G below args s r h' 0 0) (F0 m 132 ls [])) : ∀ (v0 : Nat) (v1 : Int32) (v2 : Int32) (v4 : Int32) (s0 : Int32) (h : Mem), f_X10_isClub_177 N v0 v1 v2 v4 s0 h k132 = some (r, h') → ∀ (H : Heap) (locs : List Loc) (ls : Array Slot), MS G s h H locs 0 → lv_has ls 5 [(0, .ref (gB G + v0)), (1, .int v1), (2, .int v2), (4, .int v4)] → W p l e (rm_X10_isClub) s m args below meth c H locs 0 0 (QI G below args s r h' 0 0) (F0 m 177 ls [.int s0]) := by
  intro v0 v1 v2 v4 s0 h hf H locs ls M hl
  rw [f_X10_isClub_177] at hf
  refine lv_istore_n (lv' := [(3, .int s0), (0, .ref (gB G + v0)), (1, .int v1), (2, .int v2), (4, .int v4)]) X.1 X.2.1 dX10_isClub_177 rfl hl (by decide) rfl (fun ls hl => ?_)
  refine lv_iinc (v := (v4 + 1)) (lv' := [(4, .int (v4 + 1)), (3, .int s0), (0, .ref (gB G + v0)), (1, .int v1), (2, .int v2)]) X.1 X.2.1 dX10_isClub_178 hl (k := 4) rfl (by first | rfl | decide) (by decide) rfl (fun ls hl => ?_)
  refine lv_goto (tgt := 132) X.1 X.2.1 dX10_isClub_181 (by decide) ?_
  exact K132 v0 v1 v2 s0 (v4 + 1) h hf _ _ _ M (lv_sub hl [2, 3, 4, 1, 0] rfl)
def f_X10_isClub_187 (N : Nat) (n : Nat) (v0 : Nat) (v3 : Int32) (v4 : Int32) (h : Mem) : Option (Int32 × Mem) := match n with
  | 0 => none
  | n + 1 =>
    (gI h v0 10 1).bind fun t1 =>
    if t1 ≤ v4 then
      rz v3 h
    else
      (gR h v0 10 10).bind fun t4 =>
      (gR h v0 10 43).bind fun t6 =>
      (lI 100 h t6 v4).bind fun t8 =>
      (stI 100 h t4 v4 t8).bind fun h10 =>
      f_X10_isClub_187 N n v0 v3 (v4 + 1) h10
set_option maxRecDepth 100000 in
set_option maxHeartbeats 4000000 in
theorem w_X10_isClub_187 {p : Program} {l : Launch} {e : Env} {s : State} {m : MethodId} {args : Array Value} {below : List Frame} {meth : Method} {c : Code} {G : Gx} {r : Int32} {h' : Mem} (X : CX G p s m args c cX10_isClub 5 RX10) (hr : meth.sig.returnType = (Option.some Jvm.ClassFile.FieldType.boolean)) (hk : meth.locks = false) (N : Nat) : ∀ (n : Nat) (v0 : Nat) (v3 : Int32) (v4 : Int32) (h : Mem), f_X10_isClub_187 N n v0 v3 v4 h = some (r, h') → ∀ (H : Heap) (locs : List Loc) (ls : Array Slot), MS G s h H locs 0 → lv_has ls 5 [(0, .ref (gB G + v0)), (3, .int v3), (4, .int v4)] → W p l e (rm_X10_isClub) s m args below meth c H locs 0 0 (QI G below args s r h' 0 0) (F0 m 187 ls []) := by
  intro n
  induction n with
  | zero =>
    intro v0 v3 v4 h hf
    cases hf
  | succ n ih =>
    intro v0 v3 v4 h hf H locs ls M hl
    rw [f_X10_isClub_187] at hf
    refine lv_iload X.1 X.2.1 dX10_isClub_187 (lv_at hl 2 rfl) ?_
    refine lv_aload_n X.1 X.2.1 dX10_isClub_189 rfl (lv_at hl 0 rfl) ?_
    obtain ⟨t1, q2, hf⟩ := bnd hf
    refine x_geti fl_X10_13 X M q2 dX10_isClub_190 ?_
    refine lv_icmp_ge (tgt := 216) X.1 X.2.1 dX10_isClub_193 (by decide) (fun c3 => ?_) (fun c3 => ?_)
    · have hf := ifp c3 hf
      refine lv_iload_n X.1 X.2.1 dX10_isClub_216 rfl (lv_at hl 1 rfl) ?_
      obtain ⟨z, rfl, rfl⟩ := rz_spec hf
      exact x_zret X hr hk (nz z) M dX10_isClub_217
    · have hf := ifn c3 hf
      refine lv_aload_n X.1 X.2.1 dX10_isClub_196 rfl (lv_at hl 0 rfl) ?_
      obtain ⟨t4, q5, hf⟩ := bnd hf
      refine x_getr fl_X10_41 X M q5 dX10_isClub_197 ?_
      refine lv_iload X.1 X.2.1 dX10_isClub_200 (lv_at hl 2 rfl) ?_
      refine lv_aload_n X.1 X.2.1 dX10_isClub_202 rfl (lv_at hl 0 rfl) ?_
      obtain ⟨t6, q7, hf⟩ := bnd hf
      refine x_getr fl_X10_142 X M q7 dX10_isClub_203 ?_
      refine lv_iload X.1 X.2.1 dX10_isClub_206 (lv_at hl 2 rfl) ?_
      obtain ⟨t8, q9, hf⟩ := bnd hf
      refine x_iald X M q9 dX10_isClub_208 ?_
      obtain ⟨h10, q11, hf⟩ := bnd hf
      refine x_iast X M q11 dX10_isClub_209 (fun H locs M => ?_)
      refine lv_iinc (v := (v4 + 1)) (lv' := [(4, .int (v4 + 1)), (0, .ref (gB G + v0)), (3, .int v3)]) X.1 X.2.1 dX10_isClub_210 hl (k := 2) rfl (by first | rfl | decide) (by decide) rfl (fun ls hl => ?_)
      refine lv_goto (tgt := 187) X.1 X.2.1 dX10_isClub_213 (by decide) ?_
      exact ih v0 v3 (v4 + 1) h10 hf _ _ _ M (lv_sub hl [1, 2, 0] rfl)
def f_X10_isClub_184 (N : Nat) (v0 : Nat) (v3 : Int32) (h : Mem) : Option (Int32 × Mem) :=
  f_X10_isClub_187 N N v0 v3 (0 : Int32) h
set_option maxRecDepth 100000 in
set_option maxHeartbeats 4000000 in
theorem w_X10_isClub_184 {p : Program} {l : Launch} {e : Env} {s : State} {m : MethodId} {args : Array Value} {below : List Frame} {meth : Method} {c : Code} {G : Gx} {r : Int32} {h' : Mem} (X : CX G p s m args c cX10_isClub 5 RX10) (hr : meth.sig.returnType = (Option.some Jvm.ClassFile.FieldType.boolean)) (hk : meth.locks = false) (N : Nat) : ∀ (v0 : Nat) (v3 : Int32) (h : Mem), f_X10_isClub_184 N v0 v3 h = some (r, h') → ∀ (H : Heap) (locs : List Loc) (ls : Array Slot), MS G s h H locs 0 → lv_has ls 5 [(0, .ref (gB G + v0)), (3, .int v3)] → W p l e (rm_X10_isClub) s m args below meth c H locs 0 0 (QI G below args s r h' 0 0) (F0 m 184 ls []) := by
  intro v0 v3 h hf H locs ls M hl
  rw [f_X10_isClub_184] at hf
  refine lv_iconst (v := (0 : Int32)) X.1 X.2.1 dX10_isClub_184 (by decide) ?_
  refine lv_istore (lv' := [(4, .int (0 : Int32)), (0, .ref (gB G + v0)), (3, .int v3)]) X.1 X.2.1 dX10_isClub_185 hl (by decide) rfl (fun ls hl => ?_)
  exact w_X10_isClub_187 X hr hk N N v0 v3 (0 : Int32) h hf _ _ _ M (lv_sub hl [1, 2, 0] rfl)
def f_X10_isClub_132 (N : Nat) (n : Nat) (v0 : Nat) (v1 : Int32) (v2 : Int32) (v3 : Int32) (v4 : Int32) (h : Mem) : Option (Int32 × Mem) := match n with
  | 0 => none
  | n + 1 =>
    (gI h v0 10 1).bind fun t1 =>
    if t1 ≤ v4 then
      f_X10_isClub_184 N v0 v3 h
    else
      if v3 = 0 then
        f_X10_isClub_184 N v0 v3 h
      else
        if ((v1 >>> (v4 &&& 31)) &&& (1 : Int32)) = 0 then
          f_X10_isClub_172 N v0 v1 v2 v4 h (fun v0 v1 v2 v4 s0 h => f_X10_isClub_177 N v0 v1 v2 v4 s0 h (fun v0 v1 v2 v3 v4 h => f_X10_isClub_132 N n v0 v1 v2 v3 v4 h))
        else
          (ck h v0 10).bind fun _ =>
          b2 (f_X10_worthOf N v0 v4 v2 h) fun t9 h8 =>
          (gR h8 v0 10 44).bind fun t10 =>
          (lJ h8 t10 v4).bind fun t12 =>
          if (lg_cmp t9 t12) ≤ 0 then
            f_X10_isClub_177 N v0 v1 v2 v4 (0 : Int32) h8 (fun v0 v1 v2 v3 v4 h => f_X10_isClub_132 N n v0 v1 v2 v3 v4 h)
          else
            f_X10_isClub_172 N v0 v1 v2 v4 h8 (fun v0 v1 v2 v4 s0 h => f_X10_isClub_177 N v0 v1 v2 v4 s0 h (fun v0 v1 v2 v3 v4 h => f_X10_isClub_132 N n v0 v1 v2 v3 v4 h))
set_option maxRecDepth 100000 in
set_option maxHeartbeats 4000000 in
theorem w_X10_isClub_132 {p : Program} {l : Launch} {e : Env} {s : State} {m : MethodId} {args : Array Value} {below : List Frame} {meth : Method} {c : Code} {G : Gx} {r : Int32} {h' : Mem} (X : CX G p s m args c cX10_isClub 5 RX10) (hr : meth.sig.returnType = (Option.some Jvm.ClassFile.FieldType.boolean)) (hk : meth.locks = false) (N : Nat) : ∀ (n : Nat) (v0 : Nat) (v1 : Int32) (v2 : Int32) (v3 : Int32) (v4 : Int32) (h : Mem), f_X10_isClub_132 N n v0 v1 v2 v3 v4 h = some (r, h') → ∀ (H : Heap) (locs : List Loc) (ls : Array Slot), MS G s h H locs 0 → lv_has ls 5 [(0, .ref (gB G + v0)), (1, .int v1), (2, .int v2), (3, .int v3), (4, .int v4)] → W p l e (rm_X10_isClub) s m args below meth c H locs 0 0 (QI G below args s r h' 0 0) (F0 m 132 ls []) := by
  intro n
  induction n with
  | zero =>
    intro v0 v1 v2 v3 v4 h hf
    cases hf
  | succ n ih =>
    intro v0 v1 v2 v3 v4 h hf H locs ls M hl
    rw [f_X10_isClub_132] at hf
    refine lv_iload X.1 X.2.1 dX10_isClub_132 (lv_at hl 4 rfl) ?_
    refine lv_aload_n X.1 X.2.1 dX10_isClub_134 rfl (lv_at hl 0 rfl) ?_
    obtain ⟨t1, q2, hf⟩ := bnd hf
    refine x_geti fl_X10_13 X M q2 dX10_isClub_135 ?_
    refine lv_icmp_ge (tgt := 184) X.1 X.2.1 dX10_isClub_138 (by decide) (fun c3 => ?_) (fun c3 => ?_)
    · have hf := ifp c3 hf
      exact w_X10_isClub_184 X hr hk N v0 v3 h hf _ _ _ M (lv_sub hl [0, 3] rfl)
    · have hf := ifn c3 hf
      refine lv_iload_n X.1 X.2.1 dX10_isClub_141 rfl (lv_at hl 3 rfl) ?_
      refine lv_if_eq (tgt := 184) X.1 X.2.1 dX10_isClub_142 (by decide) (fun c4 => ?_) (fun c4 => ?_)
      · have hf := ifp c4 hf
        exact w_X10_isClub_184 X hr hk N v0 v3 h hf _ _ _ M (lv_sub hl [0, 3] rfl)
      · have hf := ifn c4 hf
        refine lv_iload_n X.1 X.2.1 dX10_isClub_145 rfl (lv_at hl 1 rfl) ?_
        refine lv_iload X.1 X.2.1 dX10_isClub_146 (lv_at hl 4 rfl) ?_
        refine lv_ishr X.1 X.2.1 dX10_isClub_148 ?_
        refine lv_iconst (v := (1 : Int32)) X.1 X.2.1 dX10_isClub_149 (by decide) ?_
        refine lv_iand X.1 X.2.1 dX10_isClub_150 ?_
        refine lv_if_eq (tgt := 172) X.1 X.2.1 dX10_isClub_151 (by decide) (fun c5 => ?_) (fun c5 => ?_)
        · have hf := ifp c5 hf
          exact w_X10_isClub_172 X hr hk N _ (fun v0 v1 v2 v4 s0 h hf H locs ls M hl => w_X10_isClub_177 X hr hk N _ (fun v0 v1 v2 v3 v4 h hf H locs ls M hl => ih v0 v1 v2 v3 v4 h hf H locs ls M hl) v0 v1 v2 v4 s0 h hf H locs ls M hl) v0 v1 v2 v4 h hf _ _ _ M (lv_sub hl [0, 1, 2, 4] rfl)
        · have hf := ifn c5 hf
          refine lv_aload_n X.1 X.2.1 dX10_isClub_154 rfl (lv_at hl 0 rfl) ?_
          refine lv_iload X.1 X.2.1 dX10_isClub_155 (lv_at hl 4 rfl) ?_
          refine lv_iload_n X.1 X.2.1 dX10_isClub_157 rfl (lv_at hl 2 rfl) ?_
          obtain ⟨⟨⟩, q6, hf⟩ := bnd hf
          obtain ⟨t9, h8, q7, hf⟩ := bnd2 hf
          refine x_callVl (As := [.int v4, .int v2]) cf_X10_225 (c_X10_worthOf l G N v0 v4 v2 h _ _ q7) rfl ⟨rfl, rfl, Nat.le_of_ble_eq_true rfl, Nat.le_of_ble_eq_true rfl⟩ ⟨Nat.le_of_ble_eq_true rfl, Nat.le_of_ble_eq_true rfl⟩ X M (x_recv cls_X10 X M q6) rfl rfl hl.1 (Nat.le_of_ble_eq_true rfl) dX10_isClub_158 (fun H locs M => ?_)
          refine lv_aload_n X.1 X.2.1 dX10_isClub_161 rfl (lv_at hl 0 rfl) ?_
          obtain ⟨t10, q11, hf⟩ := bnd hf
          refine x_getr fl_X10_145 X M q11 dX10_isClub_162 ?_
          refine lv_iload X.1 X.2.1 dX10_isClub_165 (lv_at hl 4 rfl) ?_
          obtain ⟨t12, q13, hf⟩ := bnd hf
          refine x_lald X M q13 dX10_isClub_167 ?_
          refine W.lcmp X.1 X.2.1 dX10_isClub_168 ?_
          refine lv_if_le (tgt := 176) X.1 X.2.1 dX10_isClub_169 (by decide) (fun c14 => ?_) (fun c14 => ?_)
          · have hf := ifp c14 hf
            refine lv_iconst (v := (0 : Int32)) X.1 X.2.1 dX10_isClub_176 (by decide) ?_
            exact w_X10_isClub_177 X hr hk N _ (fun v0 v1 v2 v3 v4 h hf H locs ls M hl => ih v0 v1 v2 v3 v4 h hf H locs ls M hl) v0 v1 v2 v4 (0 : Int32) h8 hf _ _ _ M (lv_sub hl [0, 1, 2, 4] rfl)
          · have hf := ifn c14 hf
            exact w_X10_isClub_172 X hr hk N _ (fun v0 v1 v2 v4 s0 h hf H locs ls M hl => w_X10_isClub_177 X hr hk N _ (fun v0 v1 v2 v3 v4 h hf H locs ls M hl => ih v0 v1 v2 v3 v4 h hf H locs ls M hl) v0 v1 v2 v4 s0 h hf H locs ls M hl) v0 v1 v2 v4 h8 hf _ _ _ M (lv_sub hl [0, 1, 2, 4] rfl)
def f_X10_isClub_74 (N : Nat) (n : Nat) (v0 : Nat) (v1 : Int32) (v2 : Int32) (v3 : Int32) (v4 : Int32) (h : Mem) : Option (Int32 × Mem) := match n with
  | 0 => none
  | n + 1 =>
    (gI h v0 10 1).bind fun t1 =>
    if t1 ≤ v4 then
      f_X10_isClub_132 N N v0 v1 v2 v3 (0 : Int32) h
    else
      if ((v1 >>> (v4 &&& 31)) &&& (1 : Int32)) = 0 then
        f_X10_isClub_74 N n v0 v1 v2 v3 (v4 + 1) h
      else
        if v3 = 0 then
          f_X10_isClub_113 N v0 v1 v2 v4 h (fun v0 v1 v2 v4 s0 h => f_X10_isClub_114 N v0 v1 v2 v4 s0 h (fun v0 v1 v2 v3 v4 h => f_X10_isClub_74 N n v0 v1 v2 v3 v4 h))
        else
          (ck h v0 10).bind fun _ =>
          b2 (f_X10_isHindered N v0 v4 v2 h) fun t9 h8 =>
          if t9 = 0 then
            f_X10_isClub_114 N v0 v1 v2 v4 (1 : Int32) h8 (fun v0 v1 v2 v3 v4 h => f_X10_isClub_74 N n v0 v1 v2 v3 v4 h)
          else
            f_X10_isClub_113 N v0 v1 v2 v4 h8 (fun v0 v1 v2 v4 s0 h => f_X10_isClub_114 N v0 v1 v2 v4 s0 h (fun v0 v1 v2 v3 v4 h => f_X10_isClub_74 N n v0 v1 v2 v3 v4 h))
set_option maxRecDepth 100000 in
set_option maxHeartbeats 4000000 in
theorem w_X10_isClub_74 {p : Program} {l : Launch} {e : Env} {s : State} {m : MethodId} {args : Array Value} {below : List Frame} {meth : Method} {c : Code} {G : Gx} {r : Int32} {h' : Mem} (X : CX G p s m args c cX10_isClub 5 RX10) (hr : meth.sig.returnType = (Option.some Jvm.ClassFile.FieldType.boolean)) (hk : meth.locks = false) (N : Nat) : ∀ (n : Nat) (v0 : Nat) (v1 : Int32) (v2 : Int32) (v3 : Int32) (v4 : Int32) (h : Mem), f_X10_isClub_74 N n v0 v1 v2 v3 v4 h = some (r, h') → ∀ (H : Heap) (locs : List Loc) (ls : Array Slot), MS G s h H locs 0 → lv_has ls 5 [(0, .ref (gB G + v0)), (1, .int v1), (2, .int v2), (3, .int v3), (4, .int v4)] → W p l e (rm_X10_isClub) s m args below meth c H locs 0 0 (QI G below args s r h' 0 0) (F0 m 74 ls []) := by
  intro n
  induction n with
  | zero =>
    intro v0 v1 v2 v3 v4 h hf
    cases hf
  | succ n ih =>
    intro v0 v1 v2 v3 v4 h hf H locs ls M hl
    rw [f_X10_isClub_74] at hf
    refine lv_iload X.1 X.2.1 dX10_isClub_74 (lv_at hl 4 rfl) ?_
    refine lv_aload_n X.1 X.2.1 dX10_isClub_76 rfl (lv_at hl 0 rfl) ?_
    obtain ⟨t1, q2, hf⟩ := bnd hf
    refine x_geti fl_X10_13 X M q2 dX10_isClub_77 ?_
    refine lv_icmp_ge (tgt := 129) X.1 X.2.1 dX10_isClub_80 (by decide) (fun c3 => ?_) (fun c3 => ?_)
    · have hf := ifp c3 hf
      refine lv_iconst (v := (0 : Int32)) X.1 X.2.1 dX10_isClub_129 (by decide) ?_
      refine lv_istore (lv' := [(4, .int (0 : Int32)), (0, .ref (gB G + v0)), (1, .int v1), (2, .int v2), (3, .int v3)]) X.1 X.2.1 dX10_isClub_130 hl (by decide) rfl (fun ls hl => ?_)
      exact w_X10_isClub_132 X hr hk N N v0 v1 v2 v3 (0 : Int32) h hf _ _ _ M (lv_sub hl [1, 2, 3, 4, 0] rfl)
    · have hf := ifn c3 hf
      refine lv_iload_n X.1 X.2.1 dX10_isClub_83 rfl (lv_at hl 1 rfl) ?_
      refine lv_iload X.1 X.2.1 dX10_isClub_84 (lv_at hl 4 rfl) ?_
      refine lv_ishr X.1 X.2.1 dX10_isClub_86 ?_
      refine lv_iconst (v := (1 : Int32)) X.1 X.2.1 dX10_isClub_87 (by decide) ?_
      refine lv_iand X.1 X.2.1 dX10_isClub_88 ?_
      refine lv_if_ne (tgt := 95) X.1 X.2.1 dX10_isClub_89 (by decide) (fun c4 => ?_) (fun c4 => ?_)
      · have hf := ifn c4 hf
        refine lv_iload_n X.1 X.2.1 dX10_isClub_95 rfl (lv_at hl 3 rfl) ?_
        refine lv_if_eq (tgt := 113) X.1 X.2.1 dX10_isClub_96 (by decide) (fun c5 => ?_) (fun c5 => ?_)
        · have hf := ifp c5 hf
          exact w_X10_isClub_113 X hr hk N _ (fun v0 v1 v2 v4 s0 h hf H locs ls M hl => w_X10_isClub_114 X hr hk N _ (fun v0 v1 v2 v3 v4 h hf H locs ls M hl => ih v0 v1 v2 v3 v4 h hf H locs ls M hl) v0 v1 v2 v4 s0 h hf H locs ls M hl) v0 v1 v2 v4 h hf _ _ _ M (lv_sub hl [0, 1, 2, 4] rfl)
        · have hf := ifn c5 hf
          refine lv_aload_n X.1 X.2.1 dX10_isClub_99 rfl (lv_at hl 0 rfl) ?_
          refine lv_iload X.1 X.2.1 dX10_isClub_100 (lv_at hl 4 rfl) ?_
          refine lv_iload_n X.1 X.2.1 dX10_isClub_102 rfl (lv_at hl 2 rfl) ?_
          obtain ⟨⟨⟩, q6, hf⟩ := bnd hf
          obtain ⟨t9, h8, q7, hf⟩ := bnd2 hf
          refine x_callVi (As := [.int v4, .int v2]) cf_X10_305 (c_X10_isHindered l G N v0 v4 v2 h _ _ q7) rfl ⟨rfl, rfl, Nat.le_of_ble_eq_true rfl, Nat.le_of_ble_eq_true rfl⟩ ⟨Nat.le_of_ble_eq_true rfl, Nat.le_of_ble_eq_true rfl⟩ X M (x_recv cls_X10 X M q6) rfl rfl hl.1 (Nat.le_of_ble_eq_true rfl) dX10_isClub_103 (fun H locs M => ?_)
          refine lv_if_ne (tgt := 113) X.1 X.2.1 dX10_isClub_106 (by decide) (fun c10 => ?_) (fun c10 => ?_)
          · have hf := ifn c10 hf
            exact w_X10_isClub_113 X hr hk N _ (fun v0 v1 v2 v4 s0 h hf H locs ls M hl => w_X10_isClub_114 X hr hk N _ (fun v0 v1 v2 v3 v4 h hf H locs ls M hl => ih v0 v1 v2 v3 v4 h hf H locs ls M hl) v0 v1 v2 v4 s0 h hf H locs ls M hl) v0 v1 v2 v4 h8 hf _ _ _ M (lv_sub hl [0, 1, 2, 4] rfl)
          · have hf := ifp c10 hf
            refine lv_iconst (v := (1 : Int32)) X.1 X.2.1 dX10_isClub_109 (by decide) ?_
            refine lv_goto (tgt := 114) X.1 X.2.1 dX10_isClub_110 (by decide) ?_
            exact w_X10_isClub_114 X hr hk N _ (fun v0 v1 v2 v3 v4 h hf H locs ls M hl => ih v0 v1 v2 v3 v4 h hf H locs ls M hl) v0 v1 v2 v4 (1 : Int32) h8 hf _ _ _ M (lv_sub hl [0, 1, 2, 4] rfl)
      · have hf := ifp c4 hf
        refine lv_goto (tgt := 123) X.1 X.2.1 dX10_isClub_92 (by decide) ?_
        refine lv_iinc (v := (v4 + 1)) (lv' := [(4, .int (v4 + 1)), (0, .ref (gB G + v0)), (1, .int v1), (2, .int v2), (3, .int v3)]) X.1 X.2.1 dX10_isClub_123 hl (k := 4) rfl (by first | rfl | decide) (by decide) rfl (fun ls hl => ?_)
        refine lv_goto (tgt := 74) X.1 X.2.1 dX10_isClub_126 (by decide) ?_
        exact ih v0 v1 v2 v3 (v4 + 1) h hf _ _ _ M (lv_sub hl [1, 2, 3, 4, 0] rfl)
def f_X10_isClub_26 (N : Nat) (n : Nat) (v0 : Nat) (v1 : Int32) (v2 : Int32) (v3 : Int32) (h : Mem) : Option (Int32 × Mem) := match n with
  | 0 => none
  | n + 1 =>
    (gI h v0 10 1).bind fun t1 =>
    if t1 ≤ v3 then
      f_X10_isClub_74 N N v0 v1 v2 (1 : Int32) (0 : Int32) h
    else
      (gR h v0 10 43).bind fun t4 =>
      (gR h v0 10 10).bind fun t6 =>
      (lI 100 h t6 v3).bind fun t8 =>
      (stI 100 h t4 v3 t8).bind fun h10 =>
      (gR h10 v0 10 44).bind fun t12 =>
      (gR h10 v0 10 10).bind fun t14 =>
      (lI 100 h10 t14 v3).bind fun t16 =>
      (ck h10 v0 10).bind fun _ =>
      b2 (f_X10_worthOf N v0 v3 t16 h10) fun t21 h20 =>
      (stJ h20 t12 v3 t21).bind fun h22 =>
      f_X10_isClub_26 N n v0 v1 v2 (v3 + 1) h22
set_option maxRecDepth 100000 in
set_option maxHeartbeats 4000000 in
theorem w_X10_isClub_26 {p : Program} {l : Launch} {e : Env} {s : State} {m : MethodId} {args : Array Value} {below : List Frame} {meth : Method} {c : Code} {G : Gx} {r : Int32} {h' : Mem} (X : CX G p s m args c cX10_isClub 5 RX10) (hr : meth.sig.returnType = (Option.some Jvm.ClassFile.FieldType.boolean)) (hk : meth.locks = false) (N : Nat) : ∀ (n : Nat) (v0 : Nat) (v1 : Int32) (v2 : Int32) (v3 : Int32) (h : Mem), f_X10_isClub_26 N n v0 v1 v2 v3 h = some (r, h') → ∀ (H : Heap) (locs : List Loc) (ls : Array Slot), MS G s h H locs 0 → lv_has ls 5 [(0, .ref (gB G + v0)), (1, .int v1), (2, .int v2), (3, .int v3)] → W p l e (rm_X10_isClub) s m args below meth c H locs 0 0 (QI G below args s r h' 0 0) (F0 m 26 ls []) := by
  intro n
  induction n with
  | zero =>
    intro v0 v1 v2 v3 h hf
    cases hf
  | succ n ih =>
    intro v0 v1 v2 v3 h hf H locs ls M hl
    rw [f_X10_isClub_26] at hf
    refine lv_iload_n X.1 X.2.1 dX10_isClub_26 rfl (lv_at hl 3 rfl) ?_
    refine lv_aload_n X.1 X.2.1 dX10_isClub_27 rfl (lv_at hl 0 rfl) ?_
    obtain ⟨t1, q2, hf⟩ := bnd hf
    refine x_geti fl_X10_13 X M q2 dX10_isClub_28 ?_
    refine lv_icmp_ge (tgt := 69) X.1 X.2.1 dX10_isClub_31 (by decide) (fun c3 => ?_) (fun c3 => ?_)
    · have hf := ifp c3 hf
      refine lv_iconst (v := (1 : Int32)) X.1 X.2.1 dX10_isClub_69 (by decide) ?_
      refine lv_istore_n (lv' := [(3, .int (1 : Int32)), (0, .ref (gB G + v0)), (1, .int v1), (2, .int v2)]) X.1 X.2.1 dX10_isClub_70 rfl hl (by decide) rfl (fun ls hl => ?_)
      refine lv_iconst (v := (0 : Int32)) X.1 X.2.1 dX10_isClub_71 (by decide) ?_
      refine lv_istore (lv' := [(4, .int (0 : Int32)), (3, .int (1 : Int32)), (0, .ref (gB G + v0)), (1, .int v1), (2, .int v2)]) X.1 X.2.1 dX10_isClub_72 hl (by decide) rfl (fun ls hl => ?_)
      exact w_X10_isClub_74 X hr hk N N v0 v1 v2 (1 : Int32) (0 : Int32) h hf _ _ _ M (lv_sub hl [2, 3, 4, 1, 0] rfl)
    · have hf := ifn c3 hf
      refine lv_aload_n X.1 X.2.1 dX10_isClub_34 rfl (lv_at hl 0 rfl) ?_
      obtain ⟨t4, q5, hf⟩ := bnd hf
      refine x_getr fl_X10_142 X M q5 dX10_isClub_35 ?_
      refine lv_iload_n X.1 X.2.1 dX10_isClub_38 rfl (lv_at hl 3 rfl) ?_
      refine lv_aload_n X.1 X.2.1 dX10_isClub_39 rfl (lv_at hl 0 rfl) ?_
      obtain ⟨t6, q7, hf⟩ := bnd hf
      refine x_getr fl_X10_41 X M q7 dX10_isClub_40 ?_
      refine lv_iload_n X.1 X.2.1 dX10_isClub_43 rfl (lv_at hl 3 rfl) ?_
      obtain ⟨t8, q9, hf⟩ := bnd hf
      refine x_iald X M q9 dX10_isClub_44 ?_
      obtain ⟨h10, q11, hf⟩ := bnd hf
      refine x_iast X M q11 dX10_isClub_45 (fun H locs M => ?_)
      refine lv_aload_n X.1 X.2.1 dX10_isClub_46 rfl (lv_at hl 0 rfl) ?_
      obtain ⟨t12, q13, hf⟩ := bnd hf
      refine x_getr fl_X10_145 X M q13 dX10_isClub_47 ?_
      refine lv_iload_n X.1 X.2.1 dX10_isClub_50 rfl (lv_at hl 3 rfl) ?_
      refine lv_aload_n X.1 X.2.1 dX10_isClub_51 rfl (lv_at hl 0 rfl) ?_
      refine lv_iload_n X.1 X.2.1 dX10_isClub_52 rfl (lv_at hl 3 rfl) ?_
      refine lv_aload_n X.1 X.2.1 dX10_isClub_53 rfl (lv_at hl 0 rfl) ?_
      obtain ⟨t14, q15, hf⟩ := bnd hf
      refine x_getr fl_X10_41 X M q15 dX10_isClub_54 ?_
      refine lv_iload_n X.1 X.2.1 dX10_isClub_57 rfl (lv_at hl 3 rfl) ?_
      obtain ⟨t16, q17, hf⟩ := bnd hf
      refine x_iald X M q17 dX10_isClub_58 ?_
      obtain ⟨⟨⟩, q18, hf⟩ := bnd hf
      obtain ⟨t21, h20, q19, hf⟩ := bnd2 hf
      refine x_callVl (As := [.int v3, .int t16]) cf_X10_225 (c_X10_worthOf l G N v0 v3 t16 h10 _ _ q19) rfl ⟨rfl, rfl, Nat.le_of_ble_eq_true rfl, Nat.le_of_ble_eq_true rfl⟩ ⟨Nat.le_of_ble_eq_true rfl, Nat.le_of_ble_eq_true rfl⟩ X M (x_recv cls_X10 X M q18) rfl rfl hl.1 (Nat.le_of_ble_eq_true rfl) dX10_isClub_59 (fun H locs M => ?_)
      obtain ⟨h22, q23, hf⟩ := bnd hf
      refine x_last X M q23 dX10_isClub_62 (fun H locs M => ?_)
      refine lv_iinc (v := (v3 + 1)) (lv' := [(3, .int (v3 + 1)), (0, .ref (gB G + v0)), (1, .int v1), (2, .int v2)]) X.1 X.2.1 dX10_isClub_63 hl (k := 3) rfl (by first | rfl | decide) (by decide) rfl (fun ls hl => ?_)
      refine lv_goto (tgt := 26) X.1 X.2.1 dX10_isClub_66 (by decide) ?_
      exact ih v0 v1 v2 (v3 + 1) h22 hf _ _ _ M (lv_sub hl [1, 2, 3, 0] rfl)
def f_X10_isClub (N : Nat) (v0 : Nat) (v1 : Int32) (v2 : Int32) (h : Mem) : Option (Int32 × Mem) :=
  (ck h v0 10).bind fun _ =>
  b2 (f_X10_manyIn N v0 v2 h) fun t4 h3 =>
  if 0 < t4 then
    some ((0 : Int32), h3)
  else
    (ck h3 v0 10).bind fun _ =>
    b2 (f_X10_ones N v0 v1 h3) fun t9 h8 =>
    (gR h8 v0 10 3).bind fun t10 =>
    (lI 100 h8 t10 v2).bind fun t12 =>
    if t9 ≤ t12 then
      f_X10_isClub_26 N N v0 v1 v2 (0 : Int32) h8
    else
      some ((0 : Int32), h8)
set_option maxRecDepth 100000 in
set_option maxHeartbeats 4000000 in
theorem w_X10_isClub {p : Program} {l : Launch} {e : Env} {s : State} {m : MethodId} {args : Array Value} {below : List Frame} {meth : Method} {c : Code} {G : Gx} {r : Int32} {h' : Mem} (X : CX G p s m args c cX10_isClub 5 RX10) (hr : meth.sig.returnType = (Option.some Jvm.ClassFile.FieldType.boolean)) (hk : meth.locks = false) (N : Nat) : ∀ (v0 : Nat) (v1 : Int32) (v2 : Int32) (h : Mem), f_X10_isClub N v0 v1 v2 h = some (r, h') → ∀ (H : Heap) (locs : List Loc) (ls : Array Slot), MS G s h H locs 0 → lv_has ls 5 [(0, .ref (gB G + v0)), (1, .int v1), (2, .int v2)] → W p l e (rm_X10_isClub) s m args below meth c H locs 0 0 (QI G below args s r h' 0 0) (F0 m 0 ls []) := by
  intro v0 v1 v2 h hf H locs ls M hl
  rw [f_X10_isClub] at hf
  refine lv_aload_n X.1 X.2.1 dX10_isClub_0 rfl (lv_at hl 0 rfl) ?_
  refine lv_iload_n X.1 X.2.1 dX10_isClub_1 rfl (lv_at hl 2 rfl) ?_
  obtain ⟨⟨⟩, q1, hf⟩ := bnd hf
  obtain ⟨t4, h3, q2, hf⟩ := bnd2 hf
  refine x_callVi (As := [.int v2]) cf_X10_201 (c_X10_manyIn l G N v0 v2 h _ _ q2) rfl ⟨rfl, rfl, Nat.le_of_ble_eq_true rfl, Nat.le_of_ble_eq_true rfl⟩ ⟨Nat.le_of_ble_eq_true rfl, Nat.le_of_ble_eq_true rfl⟩ X M (x_recv cls_X10 X M q1) rfl rfl hl.1 (Nat.le_of_ble_eq_true rfl) dX10_isClub_2 (fun H locs M => ?_)
  refine lv_if_gt (tgt := 22) X.1 X.2.1 dX10_isClub_5 (by decide) (fun c5 => ?_) (fun c5 => ?_)
  · have hf := ifp c5 hf
    refine lv_iconst (v := (0 : Int32)) X.1 X.2.1 dX10_isClub_22 (by decide) ?_
    obtain ⟨rfl, rfl⟩ := rt2 hf
    exact x_zret X hr hk rfl M dX10_isClub_23
  · have hf := ifn c5 hf
    refine lv_aload_n X.1 X.2.1 dX10_isClub_8 rfl (lv_at hl 0 rfl) ?_
    refine lv_iload_n X.1 X.2.1 dX10_isClub_9 rfl (lv_at hl 1 rfl) ?_
    obtain ⟨⟨⟩, q6, hf⟩ := bnd hf
    obtain ⟨t9, h8, q7, hf⟩ := bnd2 hf
    refine x_callVi (As := [.int v1]) cf_X10_311 (c_X10_ones l G N v0 v1 h3 _ _ q7) rfl ⟨rfl, rfl, Nat.le_of_ble_eq_true rfl, Nat.le_of_ble_eq_true rfl⟩ ⟨Nat.le_of_ble_eq_true rfl, Nat.le_of_ble_eq_true rfl⟩ X M (x_recv cls_X10 X M q6) rfl rfl hl.1 (Nat.le_of_ble_eq_true rfl) dX10_isClub_10 (fun H locs M => ?_)
    refine lv_aload_n X.1 X.2.1 dX10_isClub_13 rfl (lv_at hl 0 rfl) ?_
    obtain ⟨t10, q11, hf⟩ := bnd hf
    refine x_getr fl_X10_19 X M q11 dX10_isClub_14 ?_
    refine lv_iload_n X.1 X.2.1 dX10_isClub_17 rfl (lv_at hl 2 rfl) ?_
    obtain ⟨t12, q13, hf⟩ := bnd hf
    refine x_iald X M q13 dX10_isClub_18 ?_
    refine lv_icmp_le (tgt := 24) X.1 X.2.1 dX10_isClub_19 (by decide) (fun c14 => ?_) (fun c14 => ?_)
    · have hf := ifp c14 hf
      refine lv_iconst (v := (0 : Int32)) X.1 X.2.1 dX10_isClub_24 (by decide) ?_
      refine lv_istore_n (lv' := [(3, .int (0 : Int32)), (0, .ref (gB G + v0)), (1, .int v1), (2, .int v2)]) X.1 X.2.1 dX10_isClub_25 rfl hl (by decide) rfl (fun ls hl => ?_)
      exact w_X10_isClub_26 X hr hk N N v0 v1 v2 (0 : Int32) h8 hf _ _ _ M (lv_sub hl [1, 2, 3, 0] rfl)
    · have hf := ifn c14 hf
      refine lv_iconst (v := (0 : Int32)) X.1 X.2.1 dX10_isClub_22 (by decide) ?_
      obtain ⟨rfl, rfl⟩ := rt2 hf
      exact x_zret X hr hk rfl M dX10_isClub_23
theorem c_X10_isClub (l : Launch) (G : Gx) (N : Nat) (v0 : Nat) (v1 : Int32) (v2 : Int32) (h : Mem) (r : Int32) (h' : Mem) (hf : f_X10_isClub N v0 v1 v2 h = some (r, h')) : MetG l G yX10_isClub (.code yX10_isClub cX10_isClub 5 (Option.some Jvm.ClassFile.FieldType.boolean)) rm_X10_isClub [.ref (gB G + v0), .int v1, .int v2] h (QcI G r h') 0 0 :=
  x_met (by decide) rfl (Nat.le_of_ble_eq_true rfl) (fun p e s m args below meth c ls X M hr hk hin hl => w_X10_isClub X hr hk N v0 v1 v2 h hf _ _ ls M hl)
