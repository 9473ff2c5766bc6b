abbrev rm_X9_sorted : Room := { frames := 14, cells := 0, slots := 0, locals := 442 }
def f_X9_sorted (N : Nat) (v0 : Nat) (v1 : Int32) (h : Mem) : Option (Int32 × Mem) :=
  b2 (f_X9_within N v1 (0 : Int32) (2 : Int32) h) fun t3 h2 =>
  if t3 = 0 then
    some ((-1 : Int32), h2)
  else
    if v1 = 0 then
      (gR h2 v0 9 0).bind fun t28 =>
      (ck h2 t28 1).bind fun _ =>
      b2 (f_X1_pairs N t28 h2) fun t33 h32 =>
      some (t33, h32)
    else
      (gR h2 v0 9 0).bind fun t6 =>
      (gI h2 t6 1 2).bind fun t8 =>
      if t8 ≤ (7 : Int32) then
        if v1 = (1 : Int32) then
          (gR h2 v0 9 7).bind fun t20 =>
          (gR h2 v0 9 0).bind fun t22 =>
          (ck h2 t20 2).bind fun _ =>
          b2 (f_X2_asSorted N t20 t22 h2) fun t27 h26 =>
          some (t27, h26)
        else
          (gR h2 v0 9 7).bind fun t12 =>
          (gR h2 v0 9 0).bind fun t14 =>
          (ck h2 t12 2).bind fun _ =>
          b2 (f_X2_ofAll N t12 t14 h2) fun t19 h18 =>
          some (t19, h18)
      else
        some ((-9 : Int32), h2)
set_option maxRecDepth 100000 in
set_option maxHeartbeats 4000000 in
theorem w_X9_sorted {p : Program} {l : Launch} {e : Env} {s : State} {m : MethodId} {args : Array Value} {below : List Frame} {meth : Method} {c : Code} {G : Gx} {r : Int32} {h' : Mem} (X : CX G p s m args c cX9_sorted 2 RX9) (hr : meth.sig.returnType = (Option.some Jvm.ClassFile.FieldType.int)) (hk : meth.locks = false) (N : Nat) : ∀ (v0 : Nat) (v1 : Int32) (h : Mem), f_X9_sorted N v0 v1 h = some (r, h') → ∀ (H : Heap) (locs : List Loc) (ls : Array Slot), MS G s h H locs 0 → lv_has ls 2 [(0, .ref (gB G + v0)), (1, .int v1)] → W p l e (rm_X9_sorted) s m args below meth c H locs 0 0 (QI G below args s r h' 0 0) (F0 m 0 ls []) := by
  intro v0 v1 h hf H locs ls M hl
  rw [f_X9_sorted] at hf
  refine lv_iload_n X.1 X.2.1 dX9_sorted_0 rfl (lv_at hl 1 rfl) ?_
  refine lv_iconst (v := (0 : Int32)) X.1 X.2.1 dX9_sorted_1 (by decide) ?_
  refine lv_iconst (v := (2 : Int32)) X.1 X.2.1 dX9_sorted_2 (by decide) ?_
  obtain ⟨t3, h2, q1, hf⟩ := bnd2 hf
  refine x_callSi (As := [.int v1, .int (0 : Int32), .int (2 : Int32)]) cf_X9_84 (c_X9_within l G N v1 (0 : Int32) (2 : Int32) h _ _ q1) rfl ⟨rfl, rfl, Nat.le_of_ble_eq_true rfl, Nat.le_of_ble_eq_true rfl⟩ ⟨Nat.le_of_ble_eq_true rfl, Nat.le_of_ble_eq_true rfl⟩ X M rfl rfl hl.1 (Nat.le_of_ble_eq_true rfl) dX9_sorted_3 (fun H locs M => ?_)
  refine lv_if_ne (tgt := 11) X.1 X.2.1 dX9_sorted_6 (by decide) (fun c4 => ?_) (fun c4 => ?_)
  · have hf := ifn c4 hf
    refine lv_iload_n X.1 X.2.1 dX9_sorted_11 rfl (lv_at hl 1 rfl) ?_
    refine lv_if_ne (tgt := 23) X.1 X.2.1 dX9_sorted_12 (by decide) (fun c5 => ?_) (fun c5 => ?_)
    · have hf := ifn c5 hf
      refine lv_aload_n X.1 X.2.1 dX9_sorted_23 rfl (lv_at hl 0 rfl) ?_
      obtain ⟨t6, q7, hf⟩ := bnd hf
      refine x_getr fl_X9_17 X M q7 dX9_sorted_24 ?_
      obtain ⟨t8, q9, hf⟩ := bnd hf
      refine x_geti fl_X9_202 X M q9 dX9_sorted_27 ?_
      refine lv_bipush (v := (7 : Int32)) X.1 X.2.1 dX9_sorted_30 (by decide) ?_
      refine lv_icmp_le (tgt := 38) X.1 X.2.1 dX9_sorted_32 (by decide) (fun c10 => ?_) (fun c10 => ?_)
      · have hf := ifp c10 hf
        refine lv_iload_n X.1 X.2.1 dX9_sorted_38 rfl (lv_at hl 1 rfl) ?_
        refine lv_iconst (v := (1 : Int32)) X.1 X.2.1 dX9_sorted_39 (by decide) ?_
        refine lv_icmp_ne (tgt := 57) X.1 X.2.1 dX9_sorted_40 (by decide) (fun c11 => ?_) (fun c11 => ?_)
        · have hf := ifn c11 hf
          refine lv_aload_n X.1 X.2.1 dX9_sorted_57 rfl (lv_at hl 0 rfl) ?_
          obtain ⟨t12, q13, hf⟩ := bnd hf
          refine x_getr fl_X9_60 X M q13 dX9_sorted_58 ?_
          refine lv_aload_n X.1 X.2.1 dX9_sorted_61 rfl (lv_at hl 0 rfl) ?_
          obtain ⟨t14, q15, hf⟩ := bnd hf
          refine x_getr fl_X9_17 X M q15 dX9_sorted_62 ?_
          obtain ⟨⟨⟩, q16, hf⟩ := bnd hf
          obtain ⟨t19, h18, q17, hf⟩ := bnd2 hf
          refine x_callVi (As := [.ref (gB G + t14)]) cf_X9_246 (c_X2_ofAll l G N t12 t14 h2 _ _ q17) rfl ⟨rfl, rfl, Nat.le_of_ble_eq_true rfl, Nat.le_of_ble_eq_true rfl⟩ ⟨Nat.le_of_ble_eq_true rfl, Nat.le_of_ble_eq_true rfl⟩ X M (x_recv cls_X2 X M q16) rfl rfl hl.1 (Nat.le_of_ble_eq_true rfl) dX9_sorted_65 (fun H locs M => ?_)
          obtain ⟨rfl, rfl⟩ := rt2 hf
          exact x_iret X hr hk M dX9_sorted_68
        · have hf := ifp c11 hf
          refine lv_aload_n X.1 X.2.1 dX9_sorted_43 rfl (lv_at hl 0 rfl) ?_
          obtain ⟨t20, q21, hf⟩ := bnd hf
          refine x_getr fl_X9_60 X M q21 dX9_sorted_44 ?_
          refine lv_aload_n X.1 X.2.1 dX9_sorted_47 rfl (lv_at hl 0 rfl) ?_
          obtain ⟨t22, q23, hf⟩ := bnd hf
          refine x_getr fl_X9_17 X M q23 dX9_sorted_48 ?_
          obtain ⟨⟨⟩, q24, hf⟩ := bnd hf
          obtain ⟨t27, h26, q25, hf⟩ := bnd2 hf
          refine x_callVi (As := [.ref (gB G + t22)]) cf_X9_242 (c_X2_asSorted l G N t20 t22 h2 _ _ q25) rfl ⟨rfl, rfl, Nat.le_of_ble_eq_true rfl, Nat.le_of_ble_eq_true rfl⟩ ⟨Nat.le_of_ble_eq_true rfl, Nat.le_of_ble_eq_true rfl⟩ X M (x_recv cls_X2 X M q24) rfl rfl hl.1 (Nat.le_of_ble_eq_true rfl) dX9_sorted_51 (fun H locs M => ?_)
          refine lv_goto (tgt := 68) X.1 X.2.1 dX9_sorted_54 (by decide) ?_
          obtain ⟨rfl, rfl⟩ := rt2 hf
          exact x_iret X hr hk M dX9_sorted_68
      · have hf := ifn c10 hf
        refine lv_bipush (v := (-9 : Int32)) X.1 X.2.1 dX9_sorted_35 (by decide) ?_
        obtain ⟨rfl, rfl⟩ := rt2 hf
        exact x_iret X hr hk M dX9_sorted_37
    · have hf := ifp c5 hf
      refine lv_aload_n X.1 X.2.1 dX9_sorted_15 rfl (lv_at hl 0 rfl) ?_
      obtain ⟨t28, q29, hf⟩ := bnd hf
      refine x_getr fl_X9_17 X M q29 dX9_sorted_16 ?_
      obtain ⟨⟨⟩, q30, hf⟩ := bnd hf
      obtain ⟨t33, h32, q31, hf⟩ := bnd2 hf
      refine x_callVi (As := []) cf_X9_239 (c_X1_pairs l G N t28 h2 _ _ q31) rfl ⟨rfl, rfl, Nat.le_of_ble_eq_true rfl, Nat.le_of_ble_eq_true rfl⟩ ⟨Nat.le_of_ble_eq_true rfl, Nat.le_of_ble_eq_true rfl⟩ X M (x_recv cls_X1 X M q30) rfl rfl hl.1 (Nat.le_of_ble_eq_true rfl) dX9_sorted_19 (fun H locs M => ?_)
      obtain ⟨rfl, rfl⟩ := rt2 hf
      exact x_iret X hr hk M dX9_sorted_22
  · have hf := ifp c4 hf
    refine lv_iconst (v := (-1 : Int32)) X.1 X.2.1 dX9_sorted_9 (by decide) ?_
    obtain ⟨rfl, rfl⟩ := rt2 hf
    exact x_iret X hr hk M dX9_sorted_10
theorem c_X9_sorted (l : Launch) (G : Gx) (N : Nat) (v0 : Nat) (v1 : Int32) (h : Mem) (r : Int32) (h' : Mem) (hf : f_X9_sorted N v0 v1 h = some (r, h')) : MetG l G yX9_sorted (.code yX9_sorted cX9_sorted 2 (Option.some Jvm.ClassFile.FieldType.int)) rm_X9_sorted [.ref (gB G + v0), .int v1] h (QcI G r h') 0 0 :=
  x_met (by decide) rfl (Nat.le_of_ble_eq_true rfl) (fun p e s m args below meth c ls X M hr hk hin hl => w_X9_sorted X hr hk N v0 v1 h hf _ _ ls M hl)
abbrev rm_X9_tip : Room := { frames := 8, cells := 0, slots := 0, locals := 219 }
def f_X9_tip_39 (N : Nat) (n : Nat) (v0 : Nat) (v1 : Int32) (v2 : Int32) (v3 : Int32) (h : Mem) (k26 : Nat → Int32 → Int32 → Mem → Option (Int32 × Mem)) : Option (Int32 × Mem) := match n with
  | 0 => none
  | n + 1 =>
    (gR h v0 9 0).bind fun t1 =>
    (gI h t1 1 1).bind fun t3 =>
    if t3 ≤ v3 then
      k26 v0 v1 (v2 + 1) h
    else
      (gR h v0 9 0).bind fun t6 =>
      (ck h t6 1).bind fun _ =>
      b2 (f_X1_canGo N t6 v2 v3 h) fun t11 h10 =>
      if t11 = 0 then
        f_X9_tip_39 N n v0 v1 v2 (v3 + 1) h10 k26
      else
        (gR h10 v0 9 1).bind fun t13 =>
        (gR h10 v0 9 0).bind fun t15 =>
        (ck h10 t13 1).bind fun _ =>
        (f_X1_become N t13 t15 h10).bind fun h19 =>
        (gR h19 v0 9 1).bind fun t20 =>
        (gR h19 t20 1 10).bind fun t22 =>
        (stI 100 h19 t22 v2 v3).bind fun h24 =>
        (gR h24 v0 9 6).bind fun t26 =>
        (gR h24 v0 9 1).bind fun t28 =>
        (ck h24 t26 8).bind fun _ =>
        b2 (f_X8_strideOn N t26 t28 v1 h24) fun t33 h32 =>
        (gR h32 v0 9 1).bind fun t34 =>
        (gR h32 v0 9 2).bind fun t36 =>
        (ck h32 t34 1).bind fun _ =>
        b2 (f_X1_othersDiffer N t34 t36 v2 h32) fun t41 h40 =>
        if t41 = 0 then
          f_X9_tip_39 N n v0 v1 v2 (v3 + 1) h40 k26
        else
          some ((((100 : Int32) * v2) + v3), h40)
set_option maxRecDepth 100000 in
set_option maxHeartbeats 4000000 in
theorem w_X9_tip_39 {p : Program} {l : Launch} {e : Env} {s : State} {m : MethodId} {args : Array Value} {below : List Frame} {meth : Method} {c : Code} {G : Gx} {r : Int32} {h' : Mem} (X : CX G p s m args c cX9_tip 4 RX9) (hr : meth.sig.returnType = (Option.some Jvm.ClassFile.FieldType.int)) (hk : meth.locks = false) (N : Nat) (k26 : Nat → Int32 → Int32 → Mem → Option (Int32 × Mem)) (K26 : ∀ (v0 : Nat) (v1 : Int32) (v2 : Int32) (h : Mem), k26 v0 v1 v2 h = some (r, h') → ∀ (H : Heap) (locs : List Loc) (ls : Array Slot), MS G s h H locs 0 → lv_has ls 4 [(0, .ref (gB G + v0)), (1, .int v1), (2, .int v2)] → W p l e (rm_X9_tip) s m args below meth c H locs 0 0 (QI G below args s r h' 0 0) (F0 m 26 ls [])) : ∀ (n : Nat) (v0 : Nat) (v1 : Int32) (v2 : Int32) (v3 : Int32) (h : Mem), f_X9_tip_39 N n v0 v1 v2 v3 h k26 = some (r, h') → ∀ (H : Heap) (locs : List Loc) (ls : Array Slot), MS G s h H locs 0 → lv_has ls 4 [(0, .ref (gB G + v0)), (1, .int v1), (2, .int v2), (3, .int v3)] → W p l e (rm_X9_tip) s m args below meth c H locs 0 0 (QI G below args s r h' 0 0) (F0 m 39 ls []) := by
  intro n
  induction n with
  | zero =>
    intro v0 v1 v2 v3 h hf
    cases hf
  | succ n ih =>
    intro v0 v1 v2 v3 h hf H locs ls M hl
    rw [f_X9_tip_39] at hf
    refine lv_iload_n X.1 X.2.1 dX9_tip_39 rfl (lv_at hl 3 rfl) ?_
    refine lv_aload_n X.1 X.2.1 dX9_tip_40 rfl (lv_at hl 0 rfl) ?_
    obtain ⟨t1, q2, hf⟩ := bnd hf
    refine x_getr fl_X9_17 X M q2 dX9_tip_41 ?_
    obtain ⟨t3, q4, hf⟩ := bnd hf
    refine x_geti fl_X9_88 X M q4 dX9_tip_44 ?_
    refine lv_icmp_ge (tgt := 127) X.1 X.2.1 dX9_tip_47 (by decide) (fun c5 => ?_) (fun c5 => ?_)
    · have hf := ifp c5 hf
      refine lv_iinc (v := (v2 + 1)) (lv' := [(2, .int (v2 + 1)), (0, .ref (gB G + v0)), (1, .int v1), (3, .int v3)]) X.1 X.2.1 dX9_tip_127 hl (k := 2) rfl (by first | rfl | decide) (by decide) rfl (fun ls hl => ?_)
      refine lv_goto (tgt := 26) X.1 X.2.1 dX9_tip_130 (by decide) ?_
      exact K26 v0 v1 (v2 + 1) h hf _ _ _ M (lv_sub hl [1, 2, 0] rfl)
    · have hf := ifn c5 hf
      refine lv_aload_n X.1 X.2.1 dX9_tip_50 rfl (lv_at hl 0 rfl) ?_
      obtain ⟨t6, q7, hf⟩ := bnd hf
      refine x_getr fl_X9_17 X M q7 dX9_tip_51 ?_
      refine lv_iload_n X.1 X.2.1 dX9_tip_54 rfl (lv_at hl 2 rfl) ?_
      refine lv_iload_n X.1 X.2.1 dX9_tip_55 rfl (lv_at hl 3 rfl) ?_
      obtain ⟨⟨⟩, q8, hf⟩ := bnd hf
      obtain ⟨t11, h10, q9, hf⟩ := bnd2 hf
      refine x_callVi (As := [.int v2, .int v3]) cf_X9_181 (c_X1_canGo l G N t6 v2 v3 h _ _ q9) rfl ⟨rfl, rfl, Nat.le_of_ble_eq_true rfl, Nat.le_of_ble_eq_true rfl⟩ ⟨Nat.le_of_ble_eq_true rfl, Nat.le_of_ble_eq_true rfl⟩ X M (x_recv cls_X1 X M q8) rfl rfl hl.1 (Nat.le_of_ble_eq_true rfl) dX9_tip_56 (fun H locs M => ?_)
      refine lv_if_ne (tgt := 65) X.1 X.2.1 dX9_tip_59 (by decide) (fun c12 => ?_) (fun c12 => ?_)
      · have hf := ifn c12 hf
        refine lv_aload_n X.1 X.2.1 dX9_tip_65 rfl (lv_at hl 0 rfl) ?_
        obtain ⟨t13, q14, hf⟩ := bnd hf
        refine x_getr fl_X9_27 X M q14 dX9_tip_66 ?_
        refine lv_aload_n X.1 X.2.1 dX9_tip_69 rfl (lv_at hl 0 rfl) ?_
        obtain ⟨t15, q16, hf⟩ := bnd hf
        refine x_getr fl_X9_17 X M q16 dX9_tip_70 ?_
        obtain ⟨⟨⟩, q17, hf⟩ := bnd hf
        obtain ⟨h19, q18, hf⟩ := bnd hf
        refine x_callVv (As := [.ref (gB G + t15)]) cf_X9_208 (c_X1_become l G N t13 t15 h10 _ q18) rfl ⟨rfl, rfl, Nat.le_of_ble_eq_true rfl, Nat.le_of_ble_eq_true rfl⟩ ⟨Nat.le_of_ble_eq_true rfl, Nat.le_of_ble_eq_true rfl⟩ X M (x_recv cls_X1 X M q17) rfl rfl hl.1 (Nat.le_of_ble_eq_true rfl) dX9_tip_73 (fun H locs M => ?_)
        refine lv_aload_n X.1 X.2.1 dX9_tip_76 rfl (lv_at hl 0 rfl) ?_
        obtain ⟨t20, q21, hf⟩ := bnd hf
        refine x_getr fl_X9_27 X M q21 dX9_tip_77 ?_
        obtain ⟨t22, q23, hf⟩ := bnd hf
        refine x_getr fl_X9_128 X M q23 dX9_tip_80 ?_
        refine lv_iload_n X.1 X.2.1 dX9_tip_83 rfl (lv_at hl 2 rfl) ?_
        refine lv_iload_n X.1 X.2.1 dX9_tip_84 rfl (lv_at hl 3 rfl) ?_
        obtain ⟨h24, q25, hf⟩ := bnd hf
        refine x_iast X M q25 dX9_tip_85 (fun H locs M => ?_)
        refine lv_aload_n X.1 X.2.1 dX9_tip_86 rfl (lv_at hl 0 rfl) ?_
        obtain ⟨t26, q27, hf⟩ := bnd hf
        refine x_getr fl_X9_53 X M q27 dX9_tip_87 ?_
        refine lv_aload_n X.1 X.2.1 dX9_tip_90 rfl (lv_at hl 0 rfl) ?_
        obtain ⟨t28, q29, hf⟩ := bnd hf
        refine x_getr fl_X9_27 X M q29 dX9_tip_91 ?_
        refine lv_iload_n X.1 X.2.1 dX9_tip_94 rfl (lv_at hl 1 rfl) ?_
        obtain ⟨⟨⟩, q30, hf⟩ := bnd hf
        obtain ⟨t33, h32, q31, hf⟩ := bnd2 hf
        refine x_callVi (As := [.ref (gB G + t28), .int v1]) cf_X9_189 (c_X8_strideOn l G N t26 t28 v1 h24 _ _ q31) rfl ⟨rfl, rfl, Nat.le_of_ble_eq_true rfl, Nat.le_of_ble_eq_true rfl⟩ ⟨Nat.le_of_ble_eq_true rfl, Nat.le_of_ble_eq_true rfl⟩ X M (x_recv cls_X8 X M q30) rfl rfl hl.1 (Nat.le_of_ble_eq_true rfl) dX9_tip_95 (fun H locs M => ?_)
        refine lv_pop X.1 X.2.1 dX9_tip_98 rfl ?_
        refine lv_aload_n X.1 X.2.1 dX9_tip_99 rfl (lv_at hl 0 rfl) ?_
        obtain ⟨t34, q35, hf⟩ := bnd hf
        refine x_getr fl_X9_27 X M q35 dX9_tip_100 ?_
        refine lv_aload_n X.1 X.2.1 dX9_tip_103 rfl (lv_at hl 0 rfl) ?_
        obtain ⟨t36, q37, hf⟩ := bnd hf
        refine x_getr fl_X9_30 X M q37 dX9_tip_104 ?_
        refine lv_iload_n X.1 X.2.1 dX9_tip_107 rfl (lv_at hl 2 rfl) ?_
        obtain ⟨⟨⟩, q38, hf⟩ := bnd hf
        obtain ⟨t41, h40, q39, hf⟩ := bnd2 hf
        refine x_callVi (As := [.ref (gB G + t36), .int v2]) cf_X9_249 (c_X1_othersDiffer l G N t34 t36 v2 h32 _ _ q39) rfl ⟨rfl, rfl, Nat.le_of_ble_eq_true rfl, Nat.le_of_ble_eq_true rfl⟩ ⟨Nat.le_of_ble_eq_true rfl, Nat.le_of_ble_eq_true rfl⟩ X M (x_recv cls_X1 X M q38) rfl rfl hl.1 (Nat.le_of_ble_eq_true rfl) dX9_tip_108 (fun H locs M => ?_)
        refine lv_if_eq (tgt := 121) X.1 X.2.1 dX9_tip_111 (by decide) (fun c42 => ?_) (fun c42 => ?_)
        · have hf := ifp c42 hf
          refine lv_iinc (v := (v3 + 1)) (lv' := [(3, .int (v3 + 1)), (0, .ref (gB G + v0)), (1, .int v1), (2, .int v2)]) X.1 X.2.1 dX9_tip_121 hl (k := 3) rfl (by first | rfl | decide) (by decide) rfl (fun ls hl => ?_)
          refine lv_goto (tgt := 39) X.1 X.2.1 dX9_tip_124 (by decide) ?_
          exact ih v0 v1 v2 (v3 + 1) h40 hf _ _ _ M (lv_sub hl [1, 2, 3, 0] rfl)
        · have hf := ifn c42 hf
          refine lv_bipush (v := (100 : Int32)) X.1 X.2.1 dX9_tip_114 (by decide) ?_
          refine lv_iload_n X.1 X.2.1 dX9_tip_116 rfl (lv_at hl 2 rfl) ?_
          refine lv_imul X.1 X.2.1 dX9_tip_117 ?_
          refine lv_iload_n X.1 X.2.1 dX9_tip_118 rfl (lv_at hl 3 rfl) ?_
          refine lv_iadd X.1 X.2.1 dX9_tip_119 ?_
          obtain ⟨rfl, rfl⟩ := rt2 hf
          exact x_iret X hr hk M dX9_tip_120
      · have hf := ifp c12 hf
        refine lv_goto (tgt := 121) X.1 X.2.1 dX9_tip_62 (by decide) ?_
        refine lv_iinc (v := (v3 + 1)) (lv' := [(3, .int (v3 + 1)), (0, .ref (gB G + v0)), (1, .int v1), (2, .int v2)]) X.1 X.2.1 dX9_tip_121 hl (k := 3) rfl (by first | rfl | decide) (by decide) rfl (fun ls hl => ?_)
        refine lv_goto (tgt := 39) X.1 X.2.1 dX9_tip_124 (by decide) ?_
        exact ih v0 v1 v2 (v3 + 1) h10 hf _ _ _ M (lv_sub hl [1, 2, 3, 0] rfl)
def f_X9_tip_26 (N : Nat) (n : Nat) (v0 : Nat) (v1 : Int32) (v2 : Int32) (h : Mem) : Option (Int32 × Mem) := match n with
  | 0 => none
  | n + 1 =>
    (gR h v0 9 0).bind fun t1 =>
    (gI h t1 1 2).bind fun t3 =>
    if t3 ≤ v2 then
      some ((-5 : Int32), h)
    else
      f_X9_tip_39 N N v0 v1 v2 (0 : Int32) h (fun v0 v1 v2 h => f_X9_tip_26 N n v0 v1 v2 h)
set_option maxRecDepth 100000 in
set_option maxHeartbeats 4000000 in
theorem w_X9_tip_26 {p : Program} {l : Launch} {e : Env} {s : State} {m : MethodId} {args : Array Value} {below : List Frame} {meth : Method} {c : Code} {G : Gx} {r : Int32} {h' : Mem} (X : CX G p s m args c cX9_tip 4 RX9) (hr : meth.sig.returnType = (Option.some Jvm.ClassFile.FieldType.int)) (hk : meth.locks = false) (N : Nat) : ∀ (n : Nat) (v0 : Nat) (v1 : Int32) (v2 : Int32) (h : Mem), f_X9_tip_26 N n v0 v1 v2 h = some (r, h') → ∀ (H : Heap) (locs : List Loc) (ls : Array Slot), MS G s h H locs 0 → lv_has ls 4 [(0, .ref (gB G + v0)), (1, .int v1), (2, .int v2)] → W p l e (rm_X9_tip) s m args below meth c H locs 0 0 (QI G below args s r h' 0 0) (F0 m 26 ls []) := by
  intro n
  induction n with
  | zero =>
    intro v0 v1 v2 h hf
    cases hf
  | succ n ih =>
    intro v0 v1 v2 h hf H locs ls M hl
    rw [f_X9_tip_26] at hf
    refine lv_iload_n X.1 X.2.1 dX9_tip_26 rfl (lv_at hl 2 rfl) ?_
    refine lv_aload_n X.1 X.2.1 dX9_tip_27 rfl (lv_at hl 0 rfl) ?_
    obtain ⟨t1, q2, hf⟩ := bnd hf
    refine x_getr fl_X9_17 X M q2 dX9_tip_28 ?_
    obtain ⟨t3, q4, hf⟩ := bnd hf
    refine x_geti fl_X9_202 X M q4 dX9_tip_31 ?_
    refine lv_icmp_ge (tgt := 133) X.1 X.2.1 dX9_tip_34 (by decide) (fun c5 => ?_) (fun c5 => ?_)
    · have hf := ifp c5 hf
      refine lv_bipush (v := (-5 : Int32)) X.1 X.2.1 dX9_tip_133 (by decide) ?_
      obtain ⟨rfl, rfl⟩ := rt2 hf
      exact x_iret X hr hk M dX9_tip_135
    · have hf := ifn c5 hf
      refine lv_iconst (v := (0 : Int32)) X.1 X.2.1 dX9_tip_37 (by decide) ?_
      refine lv_istore_n (lv' := [(3, .int (0 : Int32)), (0, .ref (gB G + v0)), (1, .int v1), (2, .int v2)]) X.1 X.2.1 dX9_tip_38 rfl hl (by decide) rfl (fun ls hl => ?_)
      exact w_X9_tip_39 X hr hk N _ (fun v0 v1 v2 h hf H locs ls M hl => ih v0 v1 v2 h hf H locs ls M hl) N v0 v1 v2 (0 : Int32) h hf _ _ _ M (lv_sub hl [1, 2, 3, 0] rfl)
def f_X9_tip (N : Nat) (v0 : Nat) (v1 : Int32) (h : Mem) : Option (Int32 × Mem) :=
  (gR h v0 9 2).bind fun t1 =>
  (gR h v0 9 0).bind fun t3 =>
  (ck h t1 1).bind fun _ =>
  (f_X1_become N t1 t3 h).bind fun h7 =>
  (gR h7 v0 9 6).bind fun t8 =>
  (gR h7 v0 9 2).bind fun t10 =>
  (ck h7 t8 8).bind fun _ =>
  b2 (f_X8_strideOn N t8 t10 v1 h7) fun t15 h14 =>
  f_X9_tip_26 N N v0 v1 (0 : Int32) h14
set_option maxRecDepth 100000 in
set_option maxHeartbeats 4000000 in
theorem w_X9_tip {p : Program} {l : Launch} {e : Env} {s : State} {m : MethodId} {args : Array Value} {below : List Frame} {meth : Method} {c : Code} {G : Gx} {r : Int32} {h' : Mem} (X : CX G p s m args c cX9_tip 4 RX9) (hr : meth.sig.returnType = (Option.some Jvm.ClassFile.FieldType.int)) (hk : meth.locks = false) (N : Nat) : ∀ (v0 : Nat) (v1 : Int32) (h : Mem), f_X9_tip N v0 v1 h = some (r, h') → ∀ (H : Heap) (locs : List Loc) (ls : Array Slot), MS G s h H locs 0 → lv_has ls 4 [(0, .ref (gB G + v0)), (1, .int v1)] → W p l e (rm_X9_tip) s m args below meth c H locs 0 0 (QI G below args s r h' 0 0) (F0 m 0 ls []) := by
  intro v0 v1 h hf H locs ls M hl
  rw [f_X9_tip] at hf
  refine lv_aload_n X.1 X.2.1 dX9_tip_0 rfl (lv_at hl 0 rfl) ?_
  obtain ⟨t1, q2, hf⟩ := bnd hf
  refine x_getr fl_X9_30 X M q2 dX9_tip_1 ?_
  refine lv_aload_n X.1 X.2.1 dX9_tip_4 rfl (lv_at hl 0 rfl) ?_
  obtain ⟨t3, q4, hf⟩ := bnd hf
  refine x_getr fl_X9_17 X M q4 dX9_tip_5 ?_
  obtain ⟨⟨⟩, q5, hf⟩ := bnd hf
  obtain ⟨h7, q6, hf⟩ := bnd hf
  refine x_callVv (As := [.ref (gB G + t3)]) cf_X9_208 (c_X1_become l G N t1 t3 h _ q6) rfl ⟨rfl, rfl, Nat.le_of_ble_eq_true rfl, Nat.le_of_ble_eq_true rfl⟩ ⟨Nat.le_of_ble_eq_true rfl, Nat.le_of_ble_eq_true rfl⟩ X M (x_recv cls_X1 X M q5) rfl rfl hl.1 (Nat.le_of_ble_eq_true rfl) dX9_tip_8 (fun H locs M => ?_)
  refine lv_aload_n X.1 X.2.1 dX9_tip_11 rfl (lv_at hl 0 rfl) ?_
  obtain ⟨t8, q9, hf⟩ := bnd hf
  refine x_getr fl_X9_53 X M q9 dX9_tip_12 ?_
  refine lv_aload_n X.1 X.2.1 dX9_tip_15 rfl (lv_at hl 0 rfl) ?_
  obtain ⟨t10, q11, hf⟩ := bnd hf
  refine x_getr fl_X9_30 X M q11 dX9_tip_16 ?_
  refine lv_iload_n X.1 X.2.1 dX9_tip_19 rfl (lv_at hl 1 rfl) ?_
  obtain ⟨⟨⟩, q12, hf⟩ := bnd hf
  obtain ⟨t15, h14, q13, hf⟩ := bnd2 hf
  refine x_callVi (As := [.ref (gB G + t10), .int v1]) cf_X9_189 (c_X8_strideOn l G N t8 t10 v1 h7 _ _ q13) rfl ⟨rfl, rfl, Nat.le_of_ble_eq_true rfl, Nat.le_of_ble_eq_true rfl⟩ ⟨Nat.le_of_ble_eq_true rfl, Nat.le_of_ble_eq_true rfl⟩ X M (x_recv cls_X8 X M q12) rfl rfl hl.1 (Nat.le_of_ble_eq_true rfl) dX9_tip_20 (fun H locs M => ?_)
  refine lv_pop X.1 X.2.1 dX9_tip_23 rfl ?_
  refine lv_iconst (v := (0 : Int32)) X.1 X.2.1 dX9_tip_24 (by decide) ?_
  refine lv_istore_n (lv' := [(2, .int (0 : Int32)), (0, .ref (gB G + v0)), (1, .int v1)]) X.1 X.2.1 dX9_tip_25 rfl hl (by decide) rfl (fun ls hl => ?_)
  exact w_X9_tip_26 X hr hk N N v0 v1 (0 : Int32) h14 hf _ _ _ M (lv_sub hl [1, 2, 0] rfl)
theorem c_X9_tip (l : Launch) (G : Gx) (N : Nat) (v0 : Nat) (v1 : Int32) (h : Mem) (r : Int32) (h' : Mem) (hf : f_X9_tip N v0 v1 h = some (r, h')) : MetG l G yX9_tip (.code yX9_tip cX9_tip 4 (Option.some Jvm.ClassFile.FieldType.int)) rm_X9_tip [.ref (gB G + v0), .int v1] h (QcI G r h') 0 0 :=
  x_met (by decide) rfl (Nat.le_of_ble_eq_true rfl) (fun p e s m args below meth c ls X M hr hk hin hl => w_X9_tip X hr hk N v0 v1 h hf _ _ ls M hl)
abbrev rm_X9_law : Room := { frames := 3, cells := 1, slots := 4, locals := 83 }
def f_X9_law_31 (N : Nat) (v0 : Nat) (v1 : Int32) (v2 : Int32) (v3 : Int32) (v4 : Int32) (s0 : Int32) (h : Mem) : Option (Int32 × Mem) :=
  b2 (f_X9_within N v3 (0 : Int32) s0 h) fun t3 h2 =>
  if t3 = 0 then
    some ((-2 : Int32), h2)
  else
    b2 (f_X9_within N v4 (0 : Int32) (99 : Int32) h2) fun t7 h6 =>
    if t7 = 0 then
      some ((-2 : Int32), h6)
    else
      (gI h6 v0 9 11).bind fun t9 =>
      if t9 < (4 : Int32) then
        (gR h6 v0 9 9).bind fun t12 =>
        (gI h6 v0 9 11).bind fun t14 =>
        (f_X4_init N h6.1.length v1 v2 v3 v4 (al h6 (4, 0))).bind fun h17 =>
        (stQ 104 4 h17 t12 t14 h6.1.length).bind fun h18 =>
        (gI h18 v0 9 11).bind fun t20 =>
        (sI h18 v0 9 11 (t20 + (1 : Int32))).bind fun h22 =>
        some (t20, h22)
      else
        some ((-4 : Int32), h6)
set_option maxRecDepth 100000 in
set_option maxHeartbeats 4000000 in
theorem w_X9_law_31 {p : Program} {l : Launch} {e : Env} {s : State} {m : MethodId} {args : Array Value} {below : List Frame} {meth : Method} {c : Code} {G : Gx} {r : Int32} {h' : Mem} (X : CX G p s m args c cX9_law 6 RX9) (hr : meth.sig.returnType = (Option.some Jvm.ClassFile.FieldType.int)) (hk : meth.locks = false) (N : Nat) : ∀ (v0 : Nat) (v1 : Int32) (v2 : Int32) (v3 : Int32) (v4 : Int32) (s0 : Int32) (h : Mem), f_X9_law_31 N v0 v1 v2 v3 v4 s0 h = some (r, h') → ∀ (H : Heap) (locs : List Loc) (ls : Array Slot), MS G s h H locs 0 → lv_has ls 6 [(0, .ref (gB G + v0)), (1, .int v1), (2, .int v2), (3, .int v3), (4, .int v4)] → W p l e (rm_X9_law) s m args below meth c H locs 0 0 (QI G below args s r h' 1 4) (F0 m 31 ls [.int s0]) := by
  intro v0 v1 v2 v3 v4 s0 h hf H locs ls M hl
  rw [f_X9_law_31] at hf
  refine lv_istore (lv' := [(5, .int s0), (0, .ref (gB G + v0)), (1, .int v1), (2, .int v2), (3, .int v3), (4, .int v4)]) X.1 X.2.1 dX9_law_31 hl (by decide) rfl (fun ls hl => ?_)
  refine lv_iload_n X.1 X.2.1 dX9_law_33 rfl (lv_at hl 4 rfl) ?_
  refine lv_iconst (v := (0 : Int32)) X.1 X.2.1 dX9_law_34 (by decide) ?_
  refine lv_iload X.1 X.2.1 dX9_law_35 (lv_at hl 0 rfl) ?_
  obtain ⟨t3, h2, q1, hf⟩ := bnd2 hf
  refine x_callSi (As := [.int v3, .int (0 : Int32), .int s0]) cf_X9_84 (c_X9_within l G N v3 (0 : Int32) s0 h _ _ q1) rfl ⟨rfl, rfl, Nat.le_of_ble_eq_true rfl, Nat.le_of_ble_eq_true rfl⟩ ⟨Nat.le_of_ble_eq_true rfl, Nat.le_of_ble_eq_true rfl⟩ X M rfl rfl hl.1 (Nat.le_of_ble_eq_true rfl) dX9_law_37 (fun H locs M => ?_)
  refine lv_if_eq (tgt := 54) X.1 X.2.1 dX9_law_40 (by decide) (fun c4 => ?_) (fun c4 => ?_)
  · have hf := ifp c4 hf
    refine lv_bipush (v := (-2 : Int32)) X.1 X.2.1 dX9_law_54 (by decide) ?_
    obtain ⟨rfl, rfl⟩ := rt2 hf
    refine W.widen (k := 1) (n := 4) (Nat.le_of_ble_eq_true rfl) (Nat.le_of_ble_eq_true rfl) ?_
    exact x_iretW X hr hk M dX9_law_56
  · have hf := ifn c4 hf
    refine lv_iload X.1 X.2.1 dX9_law_43 (lv_at hl 5 rfl) ?_
    refine lv_iconst (v := (0 : Int32)) X.1 X.2.1 dX9_law_45 (by decide) ?_
    refine lv_bipush (v := (99 : Int32)) X.1 X.2.1 dX9_law_46 (by decide) ?_
    obtain ⟨t7, h6, q5, hf⟩ := bnd2 hf
    refine x_callSi (As := [.int v4, .int (0 : Int32), .int (99 : Int32)]) cf_X9_84 (c_X9_within l G N v4 (0 : Int32) (99 : Int32) h2 _ _ q5) rfl ⟨rfl, rfl, Nat.le_of_ble_eq_true rfl, Nat.le_of_ble_eq_true rfl⟩ ⟨Nat.le_of_ble_eq_true rfl, Nat.le_of_ble_eq_true rfl⟩ X M rfl rfl hl.1 (Nat.le_of_ble_eq_true rfl) dX9_law_48 (fun H locs M => ?_)
    refine lv_if_ne (tgt := 57) X.1 X.2.1 dX9_law_51 (by decide) (fun c8 => ?_) (fun c8 => ?_)
    · have hf := ifn c8 hf
      refine lv_aload_n X.1 X.2.1 dX9_law_57 rfl (lv_at hl 1 rfl) ?_
      obtain ⟨t9, q10, hf⟩ := bnd hf
      refine x_geti fl_X9_253 X M q10 dX9_law_58 ?_
      refine lv_iconst (v := (4 : Int32)) X.1 X.2.1 dX9_law_61 (by decide) ?_
      refine lv_icmp_lt (tgt := 68) X.1 X.2.1 dX9_law_62 (by decide) (fun c11 => ?_) (fun c11 => ?_)
      · have hf := ifp c11 hf
        refine lv_aload_n X.1 X.2.1 dX9_law_68 rfl (lv_at hl 1 rfl) ?_
        obtain ⟨t12, q13, hf⟩ := bnd hf
        refine x_getr fl_X9_73 X M q13 dX9_law_69 ?_
        refine lv_aload_n X.1 X.2.1 dX9_law_72 rfl (lv_at hl 1 rfl) ?_
        obtain ⟨t14, q15, hf⟩ := bnd hf
        refine x_geti fl_X9_253 X M q15 dX9_law_73 ?_
        refine x_new cls_X4 k_231 k_807 k_20 X M ⟨Nat.le_of_ble_eq_true rfl, Nat.le_of_ble_eq_true rfl⟩ dX9_law_76 (fun H locs M => ?_)
        refine lv_dup X.1 X.2.1 dX9_law_79 rfl ?_
        refine lv_iload_n X.1 X.2.1 dX9_law_80 rfl (lv_at hl 2 rfl) ?_
        refine lv_iload_n X.1 X.2.1 dX9_law_81 rfl (lv_at hl 3 rfl) ?_
        refine lv_iload_n X.1 X.2.1 dX9_law_82 rfl (lv_at hl 4 rfl) ?_
        refine lv_iload X.1 X.2.1 dX9_law_83 (lv_at hl 5 rfl) ?_
        obtain ⟨h17, q16, hf⟩ := bnd hf
        refine x_callI (As := [.int v1, .int v2, .int v3, .int v4]) cf_X9_256 (c_X4_init l G N h6.1.length v1 v2 v3 v4 (al h6 (4, 0)) _ q16) rfl ⟨rfl, rfl, Nat.le_of_ble_eq_true rfl, Nat.le_of_ble_eq_true rfl⟩ ⟨Nat.le_of_ble_eq_true rfl, Nat.le_of_ble_eq_true rfl⟩ X M rfl rfl hl.1 (Nat.le_of_ble_eq_true rfl) dX9_law_85 (fun H locs M => ?_)
        obtain ⟨h18, q19, hf⟩ := bnd hf
        refine x_aast (by decide) (fun _ => rfl) (by decide) rfl X M q19 dX9_law_88 (fun H locs M => ?_)
        refine lv_aload_n X.1 X.2.1 dX9_law_89 rfl (lv_at hl 1 rfl) ?_
        refine lv_dup X.1 X.2.1 dX9_law_90 rfl ?_
        obtain ⟨t20, q21, hf⟩ := bnd hf
        refine x_geti fl_X9_253 X M q21 dX9_law_91 ?_
        refine lv_dup_x1 X.1 X.2.1 dX9_law_94 rfl rfl ?_
        refine lv_iconst (v := (1 : Int32)) X.1 X.2.1 dX9_law_95 (by decide) ?_
        refine lv_iadd X.1 X.2.1 dX9_law_96 ?_
        obtain ⟨h22, q23, hf⟩ := bnd hf
        refine x_puti fl_X9_253 fp_X9_253.1 fp_X9_253.2 X M q23 dX9_law_97 (fun H locs M => ?_)
        obtain ⟨rfl, rfl⟩ := rt2 hf
        exact x_iret X hr hk M dX9_law_100
      · have hf := ifn c11 hf
        refine lv_bipush (v := (-4 : Int32)) X.1 X.2.1 dX9_law_65 (by decide) ?_
        obtain ⟨rfl, rfl⟩ := rt2 hf
        refine W.widen (k := 1) (n := 4) (Nat.le_of_ble_eq_true rfl) (Nat.le_of_ble_eq_true rfl) ?_
        exact x_iretW X hr hk M dX9_law_67
    · have hf := ifp c8 hf
      refine lv_bipush (v := (-2 : Int32)) X.1 X.2.1 dX9_law_54 (by decide) ?_
      obtain ⟨rfl, rfl⟩ := rt2 hf
      refine W.widen (k := 1) (n := 4) (Nat.le_of_ble_eq_true rfl) (Nat.le_of_ble_eq_true rfl) ?_
      exact x_iretW X hr hk M dX9_law_56
def f_X9_law (N : Nat) (v0 : Nat) (v1 : Int32) (v2 : Int32) (v3 : Int32) (v4 : Int32) (h : Mem) : Option (Int32 × Mem) :=
  b2 (f_X9_within N v1 (0 : Int32) (2 : Int32) h) fun t3 h2 =>
  if t3 = 0 then
    some ((-1 : Int32), h2)
  else
    (ck h2 v0 9).bind fun _ =>
    b2 (f_X9_isTown N v0 v2 h2) fun t8 h7 =>
    if t8 = 0 then
      some ((-1 : Int32), h7)
    else
      if v1 = 0 then
        f_X9_law_31 N v0 v1 v2 v3 v4 (99 : Int32) h7
      else
        f_X9_law_31 N v0 v1 v2 v3 v4 (999 : Int32) h7
set_option maxRecDepth 100000 in
set_option maxHeartbeats 4000000 in
theorem w_X9_law {p : Program} {l : Launch} {e : Env} {s : State} {m : MethodId} {args : Array Value} {below : List Frame} {meth : Method} {c : Code} {G : Gx} {r : Int32} {h' : Mem} (X : CX G p s m args c cX9_law 6 RX9) (hr : meth.sig.returnType = (Option.some Jvm.ClassFile.FieldType.int)) (hk : meth.locks = false) (N : Nat) : ∀ (v0 : Nat) (v1 : Int32) (v2 : Int32) (v3 : Int32) (v4 : Int32) (h : Mem), f_X9_law N v0 v1 v2 v3 v4 h = some (r, h') → ∀ (H : Heap) (locs : List Loc) (ls : Array Slot), MS G s h H locs 0 → lv_has ls 6 [(0, .ref (gB G + v0)), (1, .int v1), (2, .int v2), (3, .int v3), (4, .int v4)] → W p l e (rm_X9_law) s m args below meth c H locs 0 0 (QI G below args s r h' 1 4) (F0 m 0 ls []) := by
  intro v0 v1 v2 v3 v4 h hf H locs ls M hl
  rw [f_X9_law] at hf
  refine lv_iload_n X.1 X.2.1 dX9_law_0 rfl (lv_at hl 1 rfl) ?_
  refine lv_iconst (v := (0 : Int32)) X.1 X.2.1 dX9_law_1 (by decide) ?_
  refine lv_iconst (v := (2 : Int32)) X.1 X.2.1 dX9_law_2 (by decide) ?_
  obtain ⟨t3, h2, q1, hf⟩ := bnd2 hf
  refine x_callSi (As := [.int v1, .int (0 : Int32), .int (2 : Int32)]) cf_X9_84 (c_X9_within l G N v1 (0 : Int32) (2 : Int32) h _ _ q1) rfl ⟨rfl, rfl, Nat.le_of_ble_eq_true rfl, Nat.le_of_ble_eq_true rfl⟩ ⟨Nat.le_of_ble_eq_true rfl, Nat.le_of_ble_eq_true rfl⟩ X M rfl rfl hl.1 (Nat.le_of_ble_eq_true rfl) dX9_law_3 (fun H locs M => ?_)
  refine lv_if_eq (tgt := 17) X.1 X.2.1 dX9_law_6 (by decide) (fun c4 => ?_) (fun c4 => ?_)
  · have hf := ifp c4 hf
    refine lv_iconst (v := (-1 : Int32)) X.1 X.2.1 dX9_law_17 (by decide) ?_
    obtain ⟨rfl, rfl⟩ := rt2 hf
    refine W.widen (k := 1) (n := 4) (Nat.le_of_ble_eq_true rfl) (Nat.le_of_ble_eq_true rfl) ?_
    exact x_iretW X hr hk M dX9_law_18
  · have hf := ifn c4 hf
    refine lv_aload_n X.1 X.2.1 dX9_law_9 rfl (lv_at hl 0 rfl) ?_
    refine lv_iload_n X.1 X.2.1 dX9_law_10 rfl (lv_at hl 2 rfl) ?_
    obtain ⟨⟨⟩, q5, hf⟩ := bnd hf
    obtain ⟨t8, h7, q6, hf⟩ := bnd2 hf
    refine x_callVi (As := [.int v2]) cf_X9_96 (c_X9_isTown l G N v0 v2 h2 _ _ q6) rfl ⟨rfl, rfl, Nat.le_of_ble_eq_true rfl, Nat.le_of_ble_eq_true rfl⟩ ⟨Nat.le_of_ble_eq_true rfl, Nat.le_of_ble_eq_true rfl⟩ X M (x_recv cls_X9 X M q5) rfl rfl hl.1 (Nat.le_of_ble_eq_true rfl) dX9_law_11 (fun H locs M => ?_)
    refine lv_if_ne (tgt := 19) X.1 X.2.1 dX9_law_14 (by decide) (fun c9 => ?_) (fun c9 => ?_)
    · have hf := ifn c9 hf
      refine lv_iload_n X.1 X.2.1 dX9_law_19 rfl (lv_at hl 1 rfl) ?_
      refine lv_if_ne (tgt := 28) X.1 X.2.1 dX9_law_20 (by decide) (fun c10 => ?_) (fun c10 => ?_)
      · have hf := ifn c10 hf
        refine lv_sipush (v := (999 : Int32)) X.1 X.2.1 dX9_law_28 (by decide) ?_
        exact w_X9_law_31 X hr hk N v0 v1 v2 v3 v4 (999 : Int32) h7 hf _ _ _ M (lv_sub hl [0, 1, 2, 3, 4] rfl)
      · have hf := ifp c10 hf
        refine lv_bipush (v := (99 : Int32)) X.1 X.2.1 dX9_law_23 (by decide) ?_
        refine lv_goto (tgt := 31) X.1 X.2.1 dX9_law_25 (by decide) ?_
        exact w_X9_law_31 X hr hk N v0 v1 v2 v3 v4 (99 : Int32) h7 hf _ _ _ M (lv_sub hl [0, 1, 2, 3, 4] rfl)
    · have hf := ifp c9 hf
      refine lv_iconst (v := (-1 : Int32)) X.1 X.2.1 dX9_law_17 (by decide) ?_
      obtain ⟨rfl, rfl⟩ := rt2 hf
      refine W.widen (k := 1) (n := 4) (Nat.le_of_ble_eq_true rfl) (Nat.le_of_ble_eq_true rfl) ?_
      exact x_iretW X hr hk M dX9_law_18
theorem c_X9_law (l : Launch) (G : Gx) (N : Nat) (v0 : Nat) (v1 : Int32) (v2 : Int32) (v3 : Int32) (v4 : Int32) (h : Mem) (r : Int32) (h' : Mem) (hf : f_X9_law N v0 v1 v2 v3 v4 h = some (r, h')) : MetG l G yX9_law (.code yX9_law cX9_law 6 (Option.some Jvm.ClassFile.FieldType.int)) rm_X9_law [.ref (gB G + v0), .int v1, .int v2, .int v3, .int v4] h (QcI G r h') 1 4 :=
  x_met (by decide) rfl (Nat.le_of_ble_eq_true rfl) (fun p e s m args below meth c ls X M hr hk hin hl => w_X9_law X hr hk N v0 v1 v2 v3 v4 h hf _ _ ls M hl)
abbrev rm_X9_priceOf : Room := { frames := 1, cells := 0, slots := 0, locals := 40 }
def f_X9_priceOf_4 (N : Nat) (n : Nat) (v0 : Nat) (v1 : Int32) (v2 : Int32) (v3 : Int32) (h : Mem) : Option (Int32 × Mem) := match n with
  | 0 => none
  | n + 1 =>
    (gI h v0 9 11).bind fun t1 =>
    if t1 ≤ v3 then
      some (v2, h)
    else
      if ((v1 >>> (v3 &&& 31)) &&& (1 : Int32)) = (1 : Int32) then
        (gR h v0 9 9).bind fun t5 =>
        (lQ 104 h t5 v3).bind fun t7 =>
        (gI h t7 4 3).bind fun t9 =>
        f_X9_priceOf_4 N n v0 v1 (v2 + t9) (v3 + 1) h
      else
        f_X9_priceOf_4 N n v0 v1 v2 (v3 + 1) h
set_option maxRecDepth 100000 in
set_option maxHeartbeats 4000000 in
theorem w_X9_priceOf_4 {p : Program} {l : Launch} {e : Env} {s : State} {m : MethodId} {args : Array Value} {below : List Frame} {meth : Method} {c : Code} {G : Gx} {r : Int32} {h' : Mem} (X : CX G p s m args c cX9_priceOf 4 RX9) (hr : meth.sig.returnType = (Option.some Jvm.ClassFile.FieldType.int)) (hk : meth.locks = false) (N : Nat) : ∀ (n : Nat) (v0 : Nat) (v1 : Int32) (v2 : Int32) (v3 : Int32) (h : Mem), f_X9_priceOf_4 N n v0 v1 v2 v3 h = some (r, h') → ∀ (H : Heap) (locs : List Loc) (ls : Array Slot), MS G s h H locs 0 → lv_has ls 4 [(0, .ref (gB G + v0)), (1, .int v1), (2, .int v2), (3, .int v3)] → W p l e (rm_X9_priceOf) s m args below meth c H locs 0 0 (QI G below args s r h' 0 0) (F0 m 4 ls []) := by
  intro n
  induction n with
  | zero =>
    intro v0 v1 v2 v3 h hf
    cases hf
  | succ n ih =>
    intro v0 v1 v2 v3 h hf H locs ls M hl
    rw [f_X9_priceOf_4] at hf
    refine lv_iload_n X.1 X.2.1 dX9_priceOf_4 rfl (lv_at hl 3 rfl) ?_
    refine lv_aload_n X.1 X.2.1 dX9_priceOf_5 rfl (lv_at hl 0 rfl) ?_
    obtain ⟨t1, q2, hf⟩ := bnd hf
    refine x_geti fl_X9_253 X M q2 dX9_priceOf_6 ?_
    refine lv_icmp_ge (tgt := 39) X.1 X.2.1 dX9_priceOf_9 (by decide) (fun c3 => ?_) (fun c3 => ?_)
    · have hf := ifp c3 hf
      refine lv_iload_n X.1 X.2.1 dX9_priceOf_39 rfl (lv_at hl 2 rfl) ?_
      obtain ⟨rfl, rfl⟩ := rt2 hf
      exact x_iret X hr hk M dX9_priceOf_40
    · have hf := ifn c3 hf
      refine lv_iload_n X.1 X.2.1 dX9_priceOf_12 rfl (lv_at hl 1 rfl) ?_
      refine lv_iload_n X.1 X.2.1 dX9_priceOf_13 rfl (lv_at hl 3 rfl) ?_
      refine lv_ishr X.1 X.2.1 dX9_priceOf_14 ?_
      refine lv_iconst (v := (1 : Int32)) X.1 X.2.1 dX9_priceOf_15 (by decide) ?_
      refine lv_iand X.1 X.2.1 dX9_priceOf_16 ?_
      refine lv_iconst (v := (1 : Int32)) X.1 X.2.1 dX9_priceOf_17 (by decide) ?_
      refine lv_icmp_ne (tgt := 33) X.1 X.2.1 dX9_priceOf_18 (by decide) (fun c4 => ?_) (fun c4 => ?_)
      · have hf := ifn c4 hf
        refine lv_iinc (v := (v3 + 1)) (lv' := [(3, .int (v3 + 1)), (0, .ref (gB G + v0)), (1, .int v1), (2, .int v2)]) X.1 X.2.1 dX9_priceOf_33 hl (k := 3) rfl (by first | rfl | decide) (by decide) rfl (fun ls hl => ?_)
        refine lv_goto (tgt := 4) X.1 X.2.1 dX9_priceOf_36 (by decide) ?_
        exact ih v0 v1 v2 (v3 + 1) h hf _ _ _ M (lv_sub hl [1, 2, 3, 0] rfl)
      · have hf := ifp c4 hf
        refine lv_iload_n X.1 X.2.1 dX9_priceOf_21 rfl (lv_at hl 2 rfl) ?_
        refine lv_aload_n X.1 X.2.1 dX9_priceOf_22 rfl (lv_at hl 0 rfl) ?_
        obtain ⟨t5, q6, hf⟩ := bnd hf
        refine x_getr fl_X9_73 X M q6 dX9_priceOf_23 ?_
        refine lv_iload_n X.1 X.2.1 dX9_priceOf_26 rfl (lv_at hl 3 rfl) ?_
        obtain ⟨t7, q8, hf⟩ := bnd hf
        refine x_aald (by decide) (fun _ => rfl) X M q8 dX9_priceOf_27 ?_
        obtain ⟨t9, q10, hf⟩ := bnd hf
        refine x_geti fl_X9_324 X M q10 dX9_priceOf_28 ?_
        refine lv_iadd X.1 X.2.1 dX9_priceOf_31 ?_
        refine lv_istore_n (lv' := [(2, .int (v2 + t9)), (0, .ref (gB G + v0)), (1, .int v1), (3, .int v3)]) X.1 X.2.1 dX9_priceOf_32 rfl hl (by decide) rfl (fun ls hl => ?_)
        refine lv_iinc (v := (v3 + 1)) (lv' := [(3, .int (v3 + 1)), (2, .int (v2 + t9)), (0, .ref (gB G + v0)), (1, .int v1)]) X.1 X.2.1 dX9_priceOf_33 hl (k := 3) rfl (by first | rfl | decide) (by decide) rfl (fun ls hl => ?_)
        refine lv_goto (tgt := 4) X.1 X.2.1 dX9_priceOf_36 (by decide) ?_
        exact ih v0 v1 (v2 + t9) (v3 + 1) h hf _ _ _ M (lv_sub hl [2, 3, 1, 0] rfl)
def f_X9_priceOf (N : Nat) (v0 : Nat) (v1 : Int32) (h : Mem) : Option (Int32 × Mem) :=
  f_X9_priceOf_4 N N v0 v1 (0 : Int32) (0 : Int32) h
set_option maxRecDepth 100000 in
set_option maxHeartbeats 4000000 in
theorem w_X9_priceOf {p : Program} {l : Launch} {e : Env} {s : State} {m : MethodId} {args : Array Value} {below : List Frame} {meth : Method} {c : Code} {G : Gx} {r : Int32} {h' : Mem} (X : CX G p s m args c cX9_priceOf 4 RX9) (hr : meth.sig.returnType = (Option.some Jvm.ClassFile.FieldType.int)) (hk : meth.locks = false) (N : Nat) : ∀ (v0 : Nat) (v1 : Int32) (h : Mem), f_X9_priceOf N v0 v1 h = some (r, h') → ∀ (H : Heap) (locs : List Loc) (ls : Array Slot), MS G s h H locs 0 → lv_has ls 4 [(0, .ref (gB G + v0)), (1, .int v1)] → W p l e (rm_X9_priceOf) s m args below meth c H locs 0 0 (QI G below args s r h' 0 0) (F0 m 0 ls []) := by
  intro v0 v1 h hf H locs ls M hl
  rw [f_X9_priceOf] at hf
  refine lv_iconst (v := (0 : Int32)) X.1 X.2.1 dX9_priceOf_0 (by decide) ?_
  refine lv_istore_n (lv' := [(2, .int (0 : Int32)), (0, .ref (gB G + v0)), (1, .int v1)]) X.1 X.2.1 dX9_priceOf_1 rfl hl (by decide) rfl (fun ls hl => ?_)
  refine lv_iconst (v := (0 : Int32)) X.1 X.2.1 dX9_priceOf_2 (by decide) ?_
  refine lv_istore_n (lv' := [(3, .int (0 : Int32)), (2, .int (0 : Int32)), (0, .ref (gB G + v0)), (1, .int v1)]) X.1 X.2.1 dX9_priceOf_3 rfl hl (by decide) rfl (fun ls hl => ?_)
  exact w_X9_priceOf_4 X hr hk N N v0 v1 (0 : Int32) (0 : Int32) h hf _ _ _ M (lv_sub hl [2, 3, 1, 0] rfl)
theorem c_X9_priceOf (l : Launch) (G : Gx) (N : Nat) (v0 : Nat) (v1 : Int32) (h : Mem) (r : Int32) (h' : Mem) (hf : f_X9_priceOf N v0 v1 h = some (r, h')) : MetG l G yX9_priceOf (.code yX9_priceOf cX9_priceOf 4 (Option.some Jvm.ClassFile.FieldType.int)) rm_X9_priceOf [.ref (gB G + v0), .int v1] h (QcI G r h') 0 0 :=
  x_met (by decide) rfl (Nat.le_of_ble_eq_true rfl) (fun p e s m args below meth c ls X M hr hk hin hl => w_X9_priceOf X hr hk N v0 v1 h hf _ _ ls M hl)
abbrev rm_X9_clashIn : Room := { frames := 2, cells := 0, slots := 0, locals := 61 }
def f_X9_clashIn_12 (N : Nat) (n : Nat) (v0 : Nat) (v1 : Int32) (v2 : Int32) (v3 : Int32) (h : Mem) (k2 : Nat → Int32 → Int32 → Mem → Option (Int32 × Mem)) : Option (Int32 × Mem) := match n with
  | 0 => none
  | n + 1 =>
    if v2 ≤ v3 then
      k2 v0 v1 (v2 + 1) h
    else
      if (((v1 >>> (v2 &&& 31)) &&& (v1 >>> (v3 &&& 31))) &&& (1 : Int32)) = (1 : Int32) then
        (gR h v0 9 9).bind fun t3 =>
        (lQ 104 h t3 v2).bind fun t5 =>
        (gR h v0 9 9).bind fun t7 =>
        (lQ 104 h t7 v3).bind fun t9 =>
        (ck h t5 4).bind fun _ =>
        b2 (f_X4_clashes N t5 t9 h) fun t14 h13 =>
        if t14 = 0 then
          f_X9_clashIn_12 N n v0 v1 v2 (v3 + 1) h13 k2
        else
          some ((1 : Int32), h13)
      else
        f_X9_clashIn_12 N n v0 v1 v2 (v3 + 1) h k2
set_option maxRecDepth 100000 in
set_option maxHeartbeats 4000000 in
theorem w_X9_clashIn_12 {p : Program} {l : Launch} {e : Env} {s : State} {m : MethodId} {args : Array Value} {below : List Frame} {meth : Method} {c : Code} {G : Gx} {r : Int32} {h' : Mem} (X : CX G p s m args c cX9_clashIn 4 RX9) (hr : meth.sig.returnType = (Option.some Jvm.ClassFile.FieldType.boolean)) (hk : meth.locks = false) (N : Nat) (k2 : Nat → Int32 → Int32 → Mem → Option (Int32 × Mem)) (K2 : ∀ (v0 : Nat) (v1 : Int32) (v2 : Int32) (h : Mem), k2 v0 v1 v2 h = some (r, h') → ∀ (H : Heap) (locs : List Loc) (ls : Array Slot), MS G s h H locs 0 → lv_has ls 4 [(0, .ref (gB G + v0)), (1, .int v1), (2, .int v2)] → W p l e (rm_X9_clashIn) s m args below meth c H locs 0 0 (QI G below args s r h' 0 0) (F0 m 2 ls [])) : ∀ (n : Nat) (v0 : Nat) (v1 : Int32) (v2 : Int32) (v3 : Int32) (h : Mem), f_X9_clashIn_12 N n v0 v1 v2 v3 h k2 = some (r, h') → ∀ (H : Heap) (locs : List Loc) (ls : Array Slot), MS G s h H locs 0 → lv_has ls 4 [(0, .ref (gB G + v0)), (1, .int v1), (2, .int v2), (3, .int v3)] → W p l e (rm_X9_clashIn) s m args below meth c H locs 0 0 (QI G below args s r h' 0 0) (F0 m 12 ls []) := by
  intro n
  induction n with
  | zero =>
    intro v0 v1 v2 v3 h hf
    cases hf
  | succ n ih =>
    intro v0 v1 v2 v3 h hf H locs ls M hl
    rw [f_X9_clashIn_12] at hf
    refine lv_iload_n X.1 X.2.1 dX9_clashIn_12 rfl (lv_at hl 3 rfl) ?_
    refine lv_iload_n X.1 X.2.1 dX9_clashIn_13 rfl (lv_at hl 2 rfl) ?_
    refine lv_icmp_ge (tgt := 56) X.1 X.2.1 dX9_clashIn_14 (by decide) (fun c1 => ?_) (fun c1 => ?_)
    · have hf := ifp c1 hf
      refine lv_iinc (v := (v2 + 1)) (lv' := [(2, .int (v2 + 1)), (0, .ref (gB G + v0)), (1, .int v1), (3, .int v3)]) X.1 X.2.1 dX9_clashIn_56 hl (k := 2) rfl (by first | rfl | decide) (by decide) rfl (fun ls hl => ?_)
      refine lv_goto (tgt := 2) X.1 X.2.1 dX9_clashIn_59 (by decide) ?_
      exact K2 v0 v1 (v2 + 1) h hf _ _ _ M (lv_sub hl [1, 2, 0] rfl)
    · have hf := ifn c1 hf
      refine lv_iload_n X.1 X.2.1 dX9_clashIn_17 rfl (lv_at hl 1 rfl) ?_
      refine lv_iload_n X.1 X.2.1 dX9_clashIn_18 rfl (lv_at hl 2 rfl) ?_
      refine lv_ishr X.1 X.2.1 dX9_clashIn_19 ?_
      refine lv_iload_n X.1 X.2.1 dX9_clashIn_20 rfl (lv_at hl 1 rfl) ?_
      refine lv_iload_n X.1 X.2.1 dX9_clashIn_21 rfl (lv_at hl 3 rfl) ?_
      refine lv_ishr X.1 X.2.1 dX9_clashIn_22 ?_
      refine lv_iand X.1 X.2.1 dX9_clashIn_23 ?_
      refine lv_iconst (v := (1 : Int32)) X.1 X.2.1 dX9_clashIn_24 (by decide) ?_
      refine lv_iand X.1 X.2.1 dX9_clashIn_25 ?_
      refine lv_iconst (v := (1 : Int32)) X.1 X.2.1 dX9_clashIn_26 (by decide) ?_
      refine lv_icmp_ne (tgt := 50) X.1 X.2.1 dX9_clashIn_27 (by decide) (fun c2 => ?_) (fun c2 => ?_)
      · have hf := ifn c2 hf
        refine lv_iinc (v := (v3 + 1)) (lv' := [(3, .int (v3 + 1)), (0, .ref (gB G + v0)), (1, .int v1), (2, .int v2)]) X.1 X.2.1 dX9_clashIn_50 hl (k := 3) rfl (by first | rfl | decide) (by decide) rfl (fun ls hl => ?_)
        refine lv_goto (tgt := 12) X.1 X.2.1 dX9_clashIn_53 (by decide) ?_
        exact ih v0 v1 v2 (v3 + 1) h hf _ _ _ M (lv_sub hl [1, 2, 3, 0] rfl)
      · have hf := ifp c2 hf
        refine lv_aload_n X.1 X.2.1 dX9_clashIn_30 rfl (lv_at hl 0 rfl) ?_
        obtain ⟨t3, q4, hf⟩ := bnd hf
        refine x_getr fl_X9_73 X M q4 dX9_clashIn_31 ?_
        refine lv_iload_n X.1 X.2.1 dX9_clashIn_34 rfl (lv_at hl 2 rfl) ?_
        obtain ⟨t5, q6, hf⟩ := bnd hf
        refine x_aald (by decide) (fun _ => rfl) X M q6 dX9_clashIn_35 ?_
        refine lv_aload_n X.1 X.2.1 dX9_clashIn_36 rfl (lv_at hl 0 rfl) ?_
        obtain ⟨t7, q8, hf⟩ := bnd hf
        refine x_getr fl_X9_73 X M q8 dX9_clashIn_37 ?_
        refine lv_iload_n X.1 X.2.1 dX9_clashIn_40 rfl (lv_at hl 3 rfl) ?_
        obtain ⟨t9, q10, hf⟩ := bnd hf
        refine x_aald (by decide) (fun _ => rfl) X M q10 dX9_clashIn_41 ?_
        obtain ⟨⟨⟩, q11, hf⟩ := bnd hf
        obtain ⟨t14, h13, q12, hf⟩ := bnd2 hf
        refine x_callVi (As := [.ref (gB G + t9)]) cf_X9_327 (c_X4_clashes l G N t5 t9 h _ _ q12) rfl ⟨rfl, rfl, Nat.le_of_ble_eq_true rfl, Nat.le_of_ble_eq_true rfl⟩ ⟨Nat.le_of_ble_eq_true rfl, Nat.le_of_ble_eq_true rfl⟩ X M (x_recv cls_X4 X M q11) rfl rfl hl.1 (Nat.le_of_ble_eq_true rfl) dX9_clashIn_42 (fun H locs M => ?_)
        refine lv_if_eq (tgt := 50) X.1 X.2.1 dX9_clashIn_45 (by decide) (fun c15 => ?_) (fun c15 => ?_)
        · have hf := ifp c15 hf
          refine lv_iinc (v := (v3 + 1)) (lv' := [(3, .int (v3 + 1)), (0, .ref (gB G + v0)), (1, .int v1), (2, .int v2)]) X.1 X.2.1 dX9_clashIn_50 hl (k := 3) rfl (by first | rfl | decide) (by decide) rfl (fun ls hl => ?_)
          refine lv_goto (tgt := 12) X.1 X.2.1 dX9_clashIn_53 (by decide) ?_
          exact ih v0 v1 v2 (v3 + 1) h13 hf _ _ _ M (lv_sub hl [1, 2, 3, 0] rfl)
        · have hf := ifn c15 hf
          refine lv_iconst (v := (1 : Int32)) X.1 X.2.1 dX9_clashIn_48 (by decide) ?_
          obtain ⟨rfl, rfl⟩ := rt2 hf
          exact x_zret X hr hk rfl M dX9_clashIn_49
def f_X9_clashIn_2 (N : Nat) (n : Nat) (v0 : Nat) (v1 : Int32) (v2 : Int32) (h : Mem) : Option (Int32 × Mem) := match n with
  | 0 => none
  | n + 1 =>
    (gI h v0 9 11).bind fun t1 =>
    if t1 ≤ v2 then
      some ((0 : Int32), h)
    else
      f_X9_clashIn_12 N N v0 v1 v2 (0 : Int32) h (fun v0 v1 v2 h => f_X9_clashIn_2 N n v0 v1 v2 h)
set_option maxRecDepth 100000 in
set_option maxHeartbeats 4000000 in
theorem w_X9_clashIn_2 {p : Program} {l : Launch} {e : Env} {s : State} {m : MethodId} {args : Array Value} {below : List Frame} {meth : Method} {c : Code} {G : Gx} {r : Int32} {h' : Mem} (X : CX G p s m args c cX9_clashIn 4 RX9) (hr : meth.sig.returnType = (Option.some Jvm.ClassFile.FieldType.boolean)) (hk : meth.locks = false) (N : Nat) : ∀ (n : Nat) (v0 : Nat) (v1 : Int32) (v2 : Int32) (h : Mem), f_X9_clashIn_2 N n v0 v1 v2 h = some (r, h') → ∀ (H : Heap) (locs : List Loc) (ls : Array Slot), MS G s h H locs 0 → lv_has ls 4 [(0, .ref (gB G + v0)), (1, .int v1), (2, .int v2)] → W p l e (rm_X9_clashIn) s m args below meth c H locs 0 0 (QI G below args s r h' 0 0) (F0 m 2 ls []) := by
  intro n
  induction n with
  | zero =>
    intro v0 v1 v2 h hf
    cases hf
  | succ n ih =>
    intro v0 v1 v2 h hf H locs ls M hl
    rw [f_X9_clashIn_2] at hf
    refine lv_iload_n X.1 X.2.1 dX9_clashIn_2 rfl (lv_at hl 2 rfl) ?_
    refine lv_aload_n X.1 X.2.1 dX9_clashIn_3 rfl (lv_at hl 0 rfl) ?_
    obtain ⟨t1, q2, hf⟩ := bnd hf
    refine x_geti fl_X9_253 X M q2 dX9_clashIn_4 ?_
    refine lv_icmp_ge (tgt := 62) X.1 X.2.1 dX9_clashIn_7 (by decide) (fun c3 => ?_) (fun c3 => ?_)
    · have hf := ifp c3 hf
      refine lv_iconst (v := (0 : Int32)) X.1 X.2.1 dX9_clashIn_62 (by decide) ?_
      obtain ⟨rfl, rfl⟩ := rt2 hf
      exact x_zret X hr hk rfl M dX9_clashIn_63
    · have hf := ifn c3 hf
      refine lv_iconst (v := (0 : Int32)) X.1 X.2.1 dX9_clashIn_10 (by decide) ?_
      refine lv_istore_n (lv' := [(3, .int (0 : Int32)), (0, .ref (gB G + v0)), (1, .int v1), (2, .int v2)]) X.1 X.2.1 dX9_clashIn_11 rfl hl (by decide) rfl (fun ls hl => ?_)
      exact w_X9_clashIn_12 X hr hk N _ (fun v0 v1 v2 h hf H locs ls M hl => ih v0 v1 v2 h hf H locs ls M hl) N v0 v1 v2 (0 : Int32) h hf _ _ _ M (lv_sub hl [1, 2, 3, 0] rfl)
def f_X9_clashIn (N : Nat) (v0 : Nat) (v1 : Int32) (h : Mem) : Option (Int32 × Mem) :=
  f_X9_clashIn_2 N N v0 v1 (0 : Int32) h
set_option maxRecDepth 100000 in
set_option maxHeartbeats 4000000 in
theorem w_X9_clashIn {p : Program} {l : Launch} {e : Env} {s : State} {m : MethodId} {args : Array Value} {below : List Frame} {meth : Method} {c : Code} {G : Gx} {r : Int32} {h' : Mem} (X : CX G p s m args c cX9_clashIn 4 RX9) (hr : meth.sig.returnType = (Option.some Jvm.ClassFile.FieldType.boolean)) (hk : meth.locks = false) (N : Nat) : ∀ (v0 : Nat) (v1 : Int32) (h : Mem), f_X9_clashIn N v0 v1 h = some (r, h') → ∀ (H : Heap) (locs : List Loc) (ls : Array Slot), MS G s h H locs 0 → lv_has ls 4 [(0, .ref (gB G + v0)), (1, .int v1)] → W p l e (rm_X9_clashIn) s m args below meth c H locs 0 0 (QI G below args s r h' 0 0) (F0 m 0 ls []) := by
  intro v0 v1 h hf H locs ls M hl
  rw [f_X9_clashIn] at hf
  refine lv_iconst (v := (0 : Int32)) X.1 X.2.1 dX9_clashIn_0 (by decide) ?_
  refine lv_istore_n (lv' := [(2, .int (0 : Int32)), (0, .ref (gB G + v0)), (1, .int v1)]) X.1 X.2.1 dX9_clashIn_1 rfl hl (by decide) rfl (fun ls hl => ?_)
  exact w_X9_clashIn_2 X hr hk N N v0 v1 (0 : Int32) h hf _ _ _ M (lv_sub hl [1, 2, 0] rfl)
theorem c_X9_clashIn (l : Launch) (G : Gx) (N : Nat) (v0 : Nat) (v1 : Int32) (h : Mem) (r : Int32) (h' : Mem) (hf : f_X9_clashIn N v0 v1 h = some (r, h')) : MetG l G yX9_clashIn (.code yX9_clashIn cX9_clashIn 4 (Option.some Jvm.ClassFile.FieldType.boolean)) rm_X9_clashIn [.ref (gB G + v0), .int v1] h (QcI G r h') 0 0 :=
  x_met (by decide) rfl (Nat.le_of_ble_eq_true rfl) (fun p e s m args below meth c ls X M hr hk hin hl => w_X9_clashIn X hr hk N v0 v1 h hf _ _ ls M hl)
abbrev rm_X9_enact : Room := { frames := 2, cells := 0, slots := 0, locals := 62 }
def f_X9_enact_2 (N : Nat) (n : Nat) (v0 : Nat) (v1 : Int32) (v2 : Int32) (h : Mem) : Option Mem := match n with
  | 0 => none
  | n + 1 =>
    (gI h v0 9 11).bind fun t1 =>
    if t1 ≤ v2 then
      some h
    else
      if ((v1 >>> (v2 &&& 31)) &&& (1 : Int32)) = (1 : Int32) then
        (gR h v0 9 9).bind fun t5 =>
        (lQ 104 h t5 v2).bind fun t7 =>
        (gR h v0 9 1).bind fun t9 =>
        (ck h t7 4).bind fun _ =>
        (f_X4_rule N t7 t9 h).bind fun h13 =>
        f_X9_enact_2 N n v0 v1 (v2 + 1) h13
      else
        f_X9_enact_2 N n v0 v1 (v2 + 1) h
set_option maxRecDepth 100000 in
set_option maxHeartbeats 4000000 in
theorem w_X9_enact_2 {p : Program} {l : Launch} {e : Env} {s : State} {m : MethodId} {args : Array Value} {below : List Frame} {meth : Method} {c : Code} {G : Gx} {h' : Mem} {L : Nat} (X : CX G p s m args c cX9_enact 3 RX9) (hr : meth.sig.returnType = (Option.none : Option Jvm.ClassFile.FieldType)) (hk : meth.locks = false) (hL : s.heap.size + 0 = gB G + L) (N : Nat) : ∀ (n : Nat) (v0 : Nat) (v1 : Int32) (v2 : Int32) (h : Mem), f_X9_enact_2 N n v0 v1 v2 h = some h' → ∀ (H : Heap) (locs : List Loc) (ls : Array Slot), MS G s h H locs 0 → lv_has ls 3 [(0, .ref (gB G + v0)), (1, .int v1), (2, .int v2)] → W p l e (rm_X9_enact) s m args below meth c H locs 0 0 (QV G below args s h' L 0 0) (F0 m 2 ls []) := by
  intro n
  induction n with
  | zero =>
    intro v0 v1 v2 h hf
    cases hf
  | succ n ih =>
    intro v0 v1 v2 h hf H locs ls M hl
    rw [f_X9_enact_2] at hf
    refine lv_iload_n X.1 X.2.1 dX9_enact_2 rfl (lv_at hl 2 rfl) ?_
    refine lv_aload_n X.1 X.2.1 dX9_enact_3 rfl (lv_at hl 0 rfl) ?_
    obtain ⟨t1, q2, hf⟩ := bnd hf
    refine x_geti fl_X9_253 X M q2 dX9_enact_4 ?_
    refine lv_icmp_ge (tgt := 38) X.1 X.2.1 dX9_enact_7 (by decide) (fun c3 => ?_) (fun c3 => ?_)
    · have hf := ifp c3 hf
      obtain rfl := rt1 hf
      exact x_vret X hr hk M hL dX9_enact_38
    · have hf := ifn c3 hf
      refine lv_iload_n X.1 X.2.1 dX9_enact_10 rfl (lv_at hl 1 rfl) ?_
      refine lv_iload_n X.1 X.2.1 dX9_enact_11 rfl (lv_at hl 2 rfl) ?_
      refine lv_ishr X.1 X.2.1 dX9_enact_12 ?_
      refine lv_iconst (v := (1 : Int32)) X.1 X.2.1 dX9_enact_13 (by decide) ?_
      refine lv_iand X.1 X.2.1 dX9_enact_14 ?_
      refine lv_iconst (v := (1 : Int32)) X.1 X.2.1 dX9_enact_15 (by decide) ?_
      refine lv_icmp_ne (tgt := 32) X.1 X.2.1 dX9_enact_16 (by decide) (fun c4 => ?_) (fun c4 => ?_)
      · have hf := ifn c4 hf
        refine lv_iinc (v := (v2 + 1)) (lv' := [(2, .int (v2 + 1)), (0, .ref (gB G + v0)), (1, .int v1)]) X.1 X.2.1 dX9_enact_32 hl (k := 2) rfl (by first | rfl | decide) (by decide) rfl (fun ls hl => ?_)
        refine lv_goto (tgt := 2) X.1 X.2.1 dX9_enact_35 (by decide) ?_
        exact ih v0 v1 (v2 + 1) h hf _ _ _ M (lv_sub hl [1, 2, 0] rfl)
      · have hf := ifp c4 hf
        refine lv_aload_n X.1 X.2.1 dX9_enact_19 rfl (lv_at hl 0 rfl) ?_
        obtain ⟨t5, q6, hf⟩ := bnd hf
        refine x_getr fl_X9_73 X M q6 dX9_enact_20 ?_
        refine lv_iload_n X.1 X.2.1 dX9_enact_23 rfl (lv_at hl 2 rfl) ?_
        obtain ⟨t7, q8, hf⟩ := bnd hf
        refine x_aald (by decide) (fun _ => rfl) X M q8 dX9_enact_24 ?_
        refine lv_aload_n X.1 X.2.1 dX9_enact_25 rfl (lv_at hl 0 rfl) ?_
        obtain ⟨t9, q10, hf⟩ := bnd hf
        refine x_getr fl_X9_27 X M q10 dX9_enact_26 ?_
        obtain ⟨⟨⟩, q11, hf⟩ := bnd hf
        obtain ⟨h13, q12, hf⟩ := bnd hf
        refine x_callVv (As := [.ref (gB G + t9)]) cf_X9_331 (c_X4_rule l G N t7 t9 h _ q12) rfl ⟨rfl, rfl, Nat.le_of_ble_eq_true rfl, Nat.le_of_ble_eq_true rfl⟩ ⟨Nat.le_of_ble_eq_true rfl, Nat.le_of_ble_eq_true rfl⟩ X M (x_recv cls_X4 X M q11) rfl rfl hl.1 (Nat.le_of_ble_eq_true rfl) dX9_enact_29 (fun H locs M => ?_)
        refine lv_iinc (v := (v2 + 1)) (lv' := [(2, .int (v2 + 1)), (0, .ref (gB G + v0)), (1, .int v1)]) X.1 X.2.1 dX9_enact_32 hl (k := 2) rfl (by first | rfl | decide) (by decide) rfl (fun ls hl => ?_)
        refine lv_goto (tgt := 2) X.1 X.2.1 dX9_enact_35 (by decide) ?_
        exact ih v0 v1 (v2 + 1) h13 hf _ _ _ M (lv_sub hl [1, 2, 0] rfl)
def f_X9_enact (N : Nat) (v0 : Nat) (v1 : Int32) (h : Mem) : Option Mem :=
  f_X9_enact_2 N N v0 v1 (0 : Int32) h
set_option maxRecDepth 100000 in
set_option maxHeartbeats 4000000 in
theorem w_X9_enact {p : Program} {l : Launch} {e : Env} {s : State} {m : MethodId} {args : Array Value} {below : List Frame} {meth : Method} {c : Code} {G : Gx} {h' : Mem} {L : Nat} (X : CX G p s m args c cX9_enact 3 RX9) (hr : meth.sig.returnType = (Option.none : Option Jvm.ClassFile.FieldType)) (hk : meth.locks = false) (hL : s.heap.size + 0 = gB G + L) (N : Nat) : ∀ (v0 : Nat) (v1 : Int32) (h : Mem), f_X9_enact N v0 v1 h = some h' → ∀ (H : Heap) (locs : List Loc) (ls : Array Slot), MS G s h H locs 0 → lv_has ls 3 [(0, .ref (gB G + v0)), (1, .int v1)] → W p l e (rm_X9_enact) s m args below meth c H locs 0 0 (QV G below args s h' L 0 0) (F0 m 0 ls []) := by
  intro v0 v1 h hf H locs ls M hl
  rw [f_X9_enact] at hf
  refine lv_iconst (v := (0 : Int32)) X.1 X.2.1 dX9_enact_0 (by decide) ?_
  refine lv_istore_n (lv' := [(2, .int (0 : Int32)), (0, .ref (gB G + v0)), (1, .int v1)]) X.1 X.2.1 dX9_enact_1 rfl hl (by decide) rfl (fun ls hl => ?_)
  exact w_X9_enact_2 X hr hk hL N N v0 v1 (0 : Int32) h hf _ _ _ M (lv_sub hl [1, 2, 0] rfl)
theorem c_X9_enact (l : Launch) (G : Gx) (N : Nat) (v0 : Nat) (v1 : Int32) (h : Mem) (h' : Mem) (hf : f_X9_enact N v0 v1 h = some h') : MetG l G yX9_enact (.code yX9_enact cX9_enact 3 (Option.none : Option Jvm.ClassFile.FieldType)) rm_X9_enact [.ref (gB G + v0), .int v1] h (QcV G h' (h.1.length + 0)) 0 0 :=
  x_met (by decide) rfl (Nat.le_of_ble_eq_true rfl) (fun p e s m args below meth c ls X M hr hk hin hl => w_X9_enact X hr hk (by have := M.2.2; omega) N v0 v1 h hf _ _ ls M hl)
abbrev rm_X9_mend : Room := { frames := 8, cells := 0, slots := 0, locals := 219 }
def f_X9_mend_127 (N : Nat) (v0 : Nat) (v1 : Int32) (v2 : Int32) (v7 : Int32) (v8 : Int32) (v9 : Int64) (h : Mem) (k27 : Nat → Int32 → Int32 → Int32 → Int32 → Int64 → Int32 → Mem → Option (Int32 × Mem)) : Option (Int32 × Mem) :=
  k27 v0 v1 v2 v7 v8 v9 (v7 + 1) h
set_option maxRecDepth 100000 in
set_option maxHeartbeats 4000000 in
theorem w_X9_mend_127 {p : Program} {l : Launch} {e : Env} {s : State} {m : MethodId} {args : Array Value} {below : List Frame} {meth : Method} {c : Code} {G : Gx} {r : Int32} {h' : Mem} (X : CX G p s m args c cX9_mend 11 RX9) (hr : meth.sig.returnType = (Option.some Jvm.ClassFile.FieldType.int)) (hk : meth.locks = false) (N : Nat) (k27 : Nat → Int32 → Int32 → Int32 → Int32 → Int64 → Int32 → Mem → Option (Int32 × Mem)) (K27 : ∀ (v0 : Nat) (v1 : Int32) (v2 : Int32) (v3 : Int32) (v4 : Int32) (v5 : Int64) (v7 : Int32) (h : Mem), k27 v0 v1 v2 v3 v4 v5 v7 h = some (r, h') → ∀ (H : Heap) (locs : List Loc) (ls : Array Slot), MS G s h H locs 0 → lv_has ls 11 [(0, .ref (gB G + v0)), (1, .int v1), (2, .int v2), (3, .int v3), (4, .int v4), (5, .long v5), (7, .int v7)] → W p l e (rm_X9_mend) s m args below meth c H locs 0 0 (QI G below args s r h' 0 0) (F0 m 27 ls [])) : ∀ (v0 : Nat) (v1 : Int32) (v2 : Int32) (v7 : Int32) (v8 : Int32) (v9 : Int64) (h : Mem), f_X9_mend_127 N v0 v1 v2 v7 v8 v9 h k27 = some (r, h') → ∀ (H : Heap) (locs : List Loc) (ls : Array Slot), MS G s h H locs 0 → lv_has ls 11 [(0, .ref (gB G + v0)), (1, .int v1), (2, .int v2), (7, .int v7), (8, .int v8), (9, .long v9)] → W p l e (rm_X9_mend) s m args below meth c H locs 0 0 (QI G below args s r h' 0 0) (F0 m 127 ls []) := by
  intro v0 v1 v2 v7 v8 v9 h hf H locs ls M hl
  rw [f_X9_mend_127] at hf
  refine lv_iload X.1 X.2.1 dX9_mend_127 (lv_at hl 3 rfl) ?_
  refine lv_istore_n (lv' := [(3, .int v7), (0, .ref (gB G + v0)), (1, .int v1), (2, .int v2), (7, .int v7), (8, .int v8), (9, .long v9)]) X.1 X.2.1 dX9_mend_129 rfl hl (by decide) rfl (fun ls hl => ?_)
  refine lv_iload X.1 X.2.1 dX9_mend_130 (lv_at hl 5 rfl) ?_
  refine lv_istore (lv' := [(4, .int v8), (3, .int v7), (0, .ref (gB G + v0)), (1, .int v1), (2, .int v2), (7, .int v7), (8, .int v8), (9, .long v9)]) X.1 X.2.1 dX9_mend_132 hl (by decide) rfl (fun ls hl => ?_)
  refine lv_lload X.1 X.2.1 dX9_mend_134 (lv_at hl 7 rfl) ?_
  refine lv_lstore (lv' := [(5, .long v9), (4, .int v8), (3, .int v7), (0, .ref (gB G + v0)), (1, .int v1), (2, .int v2), (7, .int v7), (8, .int v8), (9, .long v9)]) X.1 X.2.1 dX9_mend_136 hl (by decide) rfl (fun ls hl => ?_)
  refine lv_iinc (v := (v7 + 1)) (lv' := [(7, .int (v7 + 1)), (5, .long v9), (4, .int v8), (3, .int v7), (0, .ref (gB G + v0)), (1, .int v1), (2, .int v2), (8, .int v8), (9, .long v9)]) X.1 X.2.1 dX9_mend_138 hl (k := 6) rfl (by first | rfl | decide) (by decide) rfl (fun ls hl => ?_)
  refine lv_goto (tgt := 27) X.1 X.2.1 dX9_mend_141 (by decide) ?_
  exact K27 v0 v1 v2 v7 v8 v9 (v7 + 1) h hf _ _ _ M (lv_sub hl [4, 5, 6, 3, 2, 1, 0] rfl)
def f_X9_mend_27 (N : Nat) (n : Nat) (v0 : Nat) (v1 : Int32) (v2 : Int32) (v3 : Int32) (v4 : Int32) (v5 : Int64) (v7 : Int32) (h : Mem) : Option (Int32 × Mem) := match n with
  | 0 => none
  | n + 1 =>
    (gI h v0 9 11).bind fun t1 =>
    if ((1 : Int32) <<< (t1 &&& 31)) ≤ v7 then
      some (v3, h)
    else
      (ck h v0 9).bind fun _ =>
      b2 (f_X9_priceOf N v0 v7 h) fun t7 h6 =>
      if v1 < t7 then
        f_X9_mend_27 N n v0 v1 v2 v3 v4 v5 (v7 + 1) h6
      else
        (ck h6 v0 9).bind fun _ =>
        b2 (f_X9_clashIn N v0 v7 h6) fun t12 h11 =>
        if t12 = 0 then
          (gR h11 v0 9 1).bind fun t14 =>
          (gR h11 v0 9 0).bind fun t16 =>
          (ck h11 t14 1).bind fun _ =>
          (f_X1_become N t14 t16 h11).bind fun h20 =>
          (ck h20 v0 9).bind fun _ =>
          (f_X9_enact N v0 v7 h20).bind fun h23 =>
          (gR h23 v0 9 6).bind fun t24 =>
          (gR h23 v0 9 1).bind fun t26 =>
          (ck h23 t24 8).bind fun _ =>
          b2 (f_X8_strideOn N t24 t26 v2 h23) fun t31 h30 =>
          (gR h30 v0 9 1).bind fun t32 =>
          (ck h30 t32 1).bind fun _ =>
          b2 (f_X1_leastWorth N t32 h30) fun t37 h36 =>
          if 0 < (lg_cmp ((Int32.toInt64 t37)) v5) then
            f_X9_mend_127 N v0 v1 v2 v7 t7 ((Int32.toInt64 t37)) h36 (fun v0 v1 v2 v3 v4 v5 v7 h => f_X9_mend_27 N n v0 v1 v2 v3 v4 v5 v7 h)
          else
            if (lg_cmp ((Int32.toInt64 t37)) v5) = 0 then
              if v4 ≤ t7 then
                f_X9_mend_27 N n v0 v1 v2 v3 v4 v5 (v7 + 1) h36
              else
                f_X9_mend_127 N v0 v1 v2 v7 t7 ((Int32.toInt64 t37)) h36 (fun v0 v1 v2 v3 v4 v5 v7 h => f_X9_mend_27 N n v0 v1 v2 v3 v4 v5 v7 h)
            else
              f_X9_mend_27 N n v0 v1 v2 v3 v4 v5 (v7 + 1) h36
        else
          f_X9_mend_27 N n v0 v1 v2 v3 v4 v5 (v7 + 1) h11
set_option maxRecDepth 100000 in
set_option maxHeartbeats 4000000 in
theorem w_X9_mend_27 {p : Program} {l : Launch} {e : Env} {s : State} {m : MethodId} {args : Array Value} {below : List Frame} {meth : Method} {c : Code} {G : Gx} {r : Int32} {h' : Mem} (X : CX G p s m args c cX9_mend 11 RX9) (hr : meth.sig.returnType = (Option.some Jvm.ClassFile.FieldType.int)) (hk : meth.locks = false) (N : Nat) : ∀ (n : Nat) (v0 : Nat) (v1 : Int32) (v2 : Int32) (v3 : Int32) (v4 : Int32) (v5 : Int64) (v7 : Int32) (h : Mem), f_X9_mend_27 N n v0 v1 v2 v3 v4 v5 v7 h = some (r, h') → ∀ (H : Heap) (locs : List Loc) (ls : Array Slot), MS G s h H locs 0 → lv_has ls 11 [(0, .ref (gB G + v0)), (1, .int v1), (2, .int v2), (3, .int v3), (4, .int v4), (5, .long v5), (7, .int v7)] → W p l e (rm_X9_mend) s m args below meth c H locs 0 0 (QI G below args s r h' 0 0) (F0 m 27 ls []) := by
  intro n
  induction n with
  | zero =>
    intro v0 v1 v2 v3 v4 v5 v7 h hf
    cases hf
  | succ n ih =>
    intro v0 v1 v2 v3 v4 v5 v7 h hf H locs ls M hl
    rw [f_X9_mend_27] at hf
    refine lv_iload X.1 X.2.1 dX9_mend_27 (lv_at hl 6 rfl) ?_
    refine lv_iconst (v := (1 : Int32)) X.1 X.2.1 dX9_mend_29 (by decide) ?_
    refine lv_aload_n X.1 X.2.1 dX9_mend_30 rfl (lv_at hl 0 rfl) ?_
    obtain ⟨t1, q2, hf⟩ := bnd hf
    refine x_geti fl_X9_253 X M q2 dX9_mend_31 ?_
    refine lv_ishl X.1 X.2.1 dX9_mend_34 ?_
    refine lv_icmp_ge (tgt := 144) X.1 X.2.1 dX9_mend_35 (by decide) (fun c3 => ?_) (fun c3 => ?_)
    · have hf := ifp c3 hf
      refine lv_iload_n X.1 X.2.1 dX9_mend_144 rfl (lv_at hl 3 rfl) ?_
      obtain ⟨rfl, rfl⟩ := rt2 hf
      exact x_iret X hr hk M dX9_mend_145
    · have hf := ifn c3 hf
      refine lv_aload_n X.1 X.2.1 dX9_mend_38 rfl (lv_at hl 0 rfl) ?_
      refine lv_iload X.1 X.2.1 dX9_mend_39 (lv_at hl 6 rfl) ?_
      obtain ⟨⟨⟩, q4, hf⟩ := bnd hf
      obtain ⟨t7, h6, q5, hf⟩ := bnd2 hf
      refine x_callVi (As := [.int v7]) cf_X9_259 (c_X9_priceOf l G N v0 v7 h _ _ q5) rfl ⟨rfl, rfl, Nat.le_of_ble_eq_true rfl, Nat.le_of_ble_eq_true rfl⟩ ⟨Nat.le_of_ble_eq_true rfl, Nat.le_of_ble_eq_true rfl⟩ X M (x_recv cls_X9 X M q4) rfl rfl hl.1 (Nat.le_of_ble_eq_true rfl) dX9_mend_41 (fun H locs M => ?_)
      refine lv_istore (lv' := [(8, .int t7), (0, .ref (gB G + v0)), (1, .int v1), (2, .int v2), (3, .int v3), (4, .int v4), (5, .long v5), (7, .int v7)]) X.1 X.2.1 dX9_mend_44 hl (by decide) rfl (fun ls hl => ?_)
      refine lv_iload X.1 X.2.1 dX9_mend_46 (lv_at hl 0 rfl) ?_
      refine lv_iload_n X.1 X.2.1 dX9_mend_48 rfl (lv_at hl 2 rfl) ?_
      refine lv_icmp_gt (tgt := 138) X.1 X.2.1 dX9_mend_49 (by decide) (fun c8 => ?_) (fun c8 => ?_)
      · have hf := ifp c8 hf
        refine lv_iinc (v := (v7 + 1)) (lv' := [(7, .int (v7 + 1)), (8, .int t7), (0, .ref (gB G + v0)), (1, .int v1), (2, .int v2), (3, .int v3), (4, .int v4), (5, .long v5)]) X.1 X.2.1 dX9_mend_138 hl (k := 7) rfl (by first | rfl | decide) (by decide) rfl (fun ls hl => ?_)
        refine lv_goto (tgt := 27) X.1 X.2.1 dX9_mend_141 (by decide) ?_
        exact ih v0 v1 v2 v3 v4 v5 (v7 + 1) h6 hf _ _ _ M (lv_sub hl [2, 3, 4, 5, 6, 7, 0] rfl)
      · have hf := ifn c8 hf
        refine lv_aload_n X.1 X.2.1 dX9_mend_52 rfl (lv_at hl 1 rfl) ?_
        refine lv_iload X.1 X.2.1 dX9_mend_53 (lv_at hl 7 rfl) ?_
        obtain ⟨⟨⟩, q9, hf⟩ := bnd hf
        obtain ⟨t12, h11, q10, hf⟩ := bnd2 hf
        refine x_callVi (As := [.int v7]) cf_X9_262 (c_X9_clashIn l G N v0 v7 h6 _ _ q10) rfl ⟨rfl, rfl, Nat.le_of_ble_eq_true rfl, Nat.le_of_ble_eq_true rfl⟩ ⟨Nat.le_of_ble_eq_true rfl, Nat.le_of_ble_eq_true rfl⟩ X M (x_recv cls_X9 X M q9) rfl rfl hl.1 (Nat.le_of_ble_eq_true rfl) dX9_mend_55 (fun H locs M => ?_)
        refine lv_if_eq (tgt := 64) X.1 X.2.1 dX9_mend_58 (by decide) (fun c13 => ?_) (fun c13 => ?_)
        · have hf := ifp c13 hf
          refine lv_aload_n X.1 X.2.1 dX9_mend_64 rfl (lv_at hl 1 rfl) ?_
          obtain ⟨t14, q15, hf⟩ := bnd hf
          refine x_getr fl_X9_27 X M q15 dX9_mend_65 ?_
          refine lv_aload_n X.1 X.2.1 dX9_mend_68 rfl (lv_at hl 1 rfl) ?_
          obtain ⟨t16, q17, hf⟩ := bnd hf
          refine x_getr fl_X9_17 X M q17 dX9_mend_69 ?_
          obtain ⟨⟨⟩, q18, hf⟩ := bnd hf
          obtain ⟨h20, q19, hf⟩ := bnd hf
          refine x_callVv (As := [.ref (gB G + t16)]) cf_X9_208 (c_X1_become l G N t14 t16 h11 _ q19) rfl ⟨rfl, rfl, Nat.le_of_ble_eq_true rfl, Nat.le_of_ble_eq_true rfl⟩ ⟨Nat.le_of_ble_eq_true rfl, Nat.le_of_ble_eq_true rfl⟩ X M (x_recv cls_X1 X M q18) rfl rfl hl.1 (Nat.le_of_ble_eq_true rfl) dX9_mend_72 (fun H locs M => ?_)
          refine lv_aload_n X.1 X.2.1 dX9_mend_75 rfl (lv_at hl 1 rfl) ?_
          refine lv_iload X.1 X.2.1 dX9_mend_76 (lv_at hl 7 rfl) ?_
          obtain ⟨⟨⟩, q21, hf⟩ := bnd hf
          obtain ⟨h23, q22, hf⟩ := bnd hf
          refine x_callVv (As := [.int v7]) cf_X9_265 (c_X9_enact l G N v0 v7 h20 _ q22) rfl ⟨rfl, rfl, Nat.le_of_ble_eq_true rfl, Nat.le_of_ble_eq_true rfl⟩ ⟨Nat.le_of_ble_eq_true rfl, Nat.le_of_ble_eq_true rfl⟩ X M (x_recv cls_X9 X M q21) rfl rfl hl.1 (Nat.le_of_ble_eq_true rfl) dX9_mend_78 (fun H locs M => ?_)
          refine lv_aload_n X.1 X.2.1 dX9_mend_81 rfl (lv_at hl 1 rfl) ?_
          obtain ⟨t24, q25, hf⟩ := bnd hf
          refine x_getr fl_X9_53 X M q25 dX9_mend_82 ?_
          refine lv_aload_n X.1 X.2.1 dX9_mend_85 rfl (lv_at hl 1 rfl) ?_
          obtain ⟨t26, q27, hf⟩ := bnd hf
          refine x_getr fl_X9_27 X M q27 dX9_mend_86 ?_
          refine lv_iload_n X.1 X.2.1 dX9_mend_89 rfl (lv_at hl 3 rfl) ?_
          obtain ⟨⟨⟩, q28, hf⟩ := bnd hf
          obtain ⟨t31, h30, q29, hf⟩ := bnd2 hf
          refine x_callVi (As := [.ref (gB G + t26), .int v2]) cf_X9_189 (c_X8_strideOn l G N t24 t26 v2 h23 _ _ q29) rfl ⟨rfl, rfl, Nat.le_of_ble_eq_true rfl, Nat.le_of_ble_eq_true rfl⟩ ⟨Nat.le_of_ble_eq_true rfl, Nat.le_of_ble_eq_true rfl⟩ X M (x_recv cls_X8 X M q28) rfl rfl hl.1 (Nat.le_of_ble_eq_true rfl) dX9_mend_90 (fun H locs M => ?_)
          refine lv_pop X.1 X.2.1 dX9_mend_93 rfl ?_
          refine lv_aload_n X.1 X.2.1 dX9_mend_94 rfl (lv_at hl 1 rfl) ?_
          obtain ⟨t32, q33, hf⟩ := bnd hf
          refine x_getr fl_X9_27 X M q33 dX9_mend_95 ?_
          obtain ⟨⟨⟩, q34, hf⟩ := bnd hf
          obtain ⟨t37, h36, q35, hf⟩ := bnd2 hf
          refine x_callVi (As := []) cf_X9_269 (c_X1_leastWorth l G N t32 h30 _ _ q35) rfl ⟨rfl, rfl, Nat.le_of_ble_eq_true rfl, Nat.le_of_ble_eq_true rfl⟩ ⟨Nat.le_of_ble_eq_true rfl, Nat.le_of_ble_eq_true rfl⟩ X M (x_recv cls_X1 X M q34) rfl rfl hl.1 (Nat.le_of_ble_eq_true rfl) dX9_mend_98 (fun H locs M => ?_)
          refine lv_i2l (v := ((Int32.toInt64 t37))) X.1 X.2.1 dX9_mend_101 rfl ?_
          refine lv_lstore (lv' := [(9, .long ((Int32.toInt64 t37))), (8, .int t7), (0, .ref (gB G + v0)), (1, .int v1), (2, .int v2), (3, .int v3), (4, .int v4), (5, .long v5), (7, .int v7)]) X.1 X.2.1 dX9_mend_102 hl (by decide) rfl (fun ls hl => ?_)
          refine lv_lload X.1 X.2.1 dX9_mend_104 (lv_at hl 0 rfl) ?_
          refine lv_lload X.1 X.2.1 dX9_mend_106 (lv_at hl 7 rfl) ?_
          refine W.lcmp X.1 X.2.1 dX9_mend_108 ?_
          refine lv_if_gt (tgt := 127) X.1 X.2.1 dX9_mend_109 (by decide) (fun c38 => ?_) (fun c38 => ?_)
          · have hf := ifp c38 hf
            exact w_X9_mend_127 X hr hk N _ (fun v0 v1 v2 v3 v4 v5 v7 h hf H locs ls M hl => ih v0 v1 v2 v3 v4 v5 v7 h hf H locs ls M hl) v0 v1 v2 v7 t7 ((Int32.toInt64 t37)) h36 hf _ _ _ M (lv_sub hl [2, 3, 4, 8, 1, 0] rfl)
          · have hf := ifn c38 hf
            refine lv_lload X.1 X.2.1 dX9_mend_112 (lv_at hl 0 rfl) ?_
            refine lv_lload X.1 X.2.1 dX9_mend_114 (lv_at hl 7 rfl) ?_
            refine W.lcmp X.1 X.2.1 dX9_mend_116 ?_
            refine lv_if_ne (tgt := 138) X.1 X.2.1 dX9_mend_117 (by decide) (fun c39 => ?_) (fun c39 => ?_)
            · have hf := ifn c39 hf
              refine lv_iinc (v := (v7 + 1)) (lv' := [(7, .int (v7 + 1)), (9, .long ((Int32.toInt64 t37))), (8, .int t7), (0, .ref (gB G + v0)), (1, .int v1), (2, .int v2), (3, .int v3), (4, .int v4), (5, .long v5)]) X.1 X.2.1 dX9_mend_138 hl (k := 8) rfl (by first | rfl | decide) (by decide) rfl (fun ls hl => ?_)
              refine lv_goto (tgt := 27) X.1 X.2.1 dX9_mend_141 (by decide) ?_
              exact ih v0 v1 v2 v3 v4 v5 (v7 + 1) h36 hf _ _ _ M (lv_sub hl [3, 4, 5, 6, 7, 8, 0] rfl)
            · have hf := ifp c39 hf
              refine lv_iload X.1 X.2.1 dX9_mend_120 (lv_at hl 1 rfl) ?_
              refine lv_iload X.1 X.2.1 dX9_mend_122 (lv_at hl 6 rfl) ?_
              refine lv_icmp_ge (tgt := 138) X.1 X.2.1 dX9_mend_124 (by decide) (fun c40 => ?_) (fun c40 => ?_)
              · have hf := ifp c40 hf
                refine lv_iinc (v := (v7 + 1)) (lv' := [(7, .int (v7 + 1)), (9, .long ((Int32.toInt64 t37))), (8, .int t7), (0, .ref (gB G + v0)), (1, .int v1), (2, .int v2), (3, .int v3), (4, .int v4), (5, .long v5)]) X.1 X.2.1 dX9_mend_138 hl (k := 8) rfl (by first | rfl | decide) (by decide) rfl (fun ls hl => ?_)
                refine lv_goto (tgt := 27) X.1 X.2.1 dX9_mend_141 (by decide) ?_
                exact ih v0 v1 v2 v3 v4 v5 (v7 + 1) h36 hf _ _ _ M (lv_sub hl [3, 4, 5, 6, 7, 8, 0] rfl)
              · have hf := ifn c40 hf
                exact w_X9_mend_127 X hr hk N _ (fun v0 v1 v2 v3 v4 v5 v7 h hf H locs ls M hl => ih v0 v1 v2 v3 v4 v5 v7 h hf H locs ls M hl) v0 v1 v2 v7 t7 ((Int32.toInt64 t37)) h36 hf _ _ _ M (lv_sub hl [2, 3, 4, 8, 1, 0] rfl)
        · have hf := ifn c13 hf
          refine lv_goto (tgt := 138) X.1 X.2.1 dX9_mend_61 (by decide) ?_
          refine lv_iinc (v := (v7 + 1)) (lv' := [(7, .int (v7 + 1)), (8, .int t7), (0, .ref (gB G + v0)), (1, .int v1), (2, .int v2), (3, .int v3), (4, .int v4), (5, .long v5)]) X.1 X.2.1 dX9_mend_138 hl (k := 7) rfl (by first | rfl | decide) (by decide) rfl (fun ls hl => ?_)
          refine lv_goto (tgt := 27) X.1 X.2.1 dX9_mend_141 (by decide) ?_
          exact ih v0 v1 v2 v3 v4 v5 (v7 + 1) h11 hf _ _ _ M (lv_sub hl [2, 3, 4, 5, 6, 7, 0] rfl)
def f_X9_mend (N : Nat) (v0 : Nat) (v1 : Int32) (v2 : Int32) (h : Mem) : Option (Int32 × Mem) :=
  b2 (f_X9_within N v1 (0 : Int32) (999 : Int32) h) fun t3 h2 =>
  if t3 = 0 then
    some ((-2 : Int32), h2)
  else
    f_X9_mend_27 N N v0 v1 v2 (0 : Int32) (0 : Int32) (-9223372036854775808 : Int64) (0 : Int32) h2
set_option maxRecDepth 100000 in
set_option maxHeartbeats 4000000 in
theorem w_X9_mend {p : Program} {l : Launch} {e : Env} {s : State} {m : MethodId} {args : Array Value} {below : List Frame} {meth : Method} {c : Code} {G : Gx} {r : Int32} {h' : Mem} (X : CX G p s m args c cX9_mend 11 RX9) (hr : meth.sig.returnType = (Option.some Jvm.ClassFile.FieldType.int)) (hk : meth.locks = false) (N : Nat) : ∀ (v0 : Nat) (v1 : Int32) (v2 : Int32) (h : Mem), f_X9_mend N v0 v1 v2 h = some (r, h') → ∀ (H : Heap) (locs : List Loc) (ls : Array Slot), MS G s h H locs 0 → lv_has ls 11 [(0, .ref (gB G + v0)), (1, .int v1), (2, .int v2)] → W p l e (rm_X9_mend) s m args below meth c H locs 0 0 (QI G below args s r h' 0 0) (F0 m 0 ls []) := by
  intro v0 v1 v2 h hf H locs ls M hl
  rw [f_X9_mend] at hf
  refine lv_iload_n X.1 X.2.1 dX9_mend_0 rfl (lv_at hl 1 rfl) ?_
  refine lv_iconst (v := (0 : Int32)) X.1 X.2.1 dX9_mend_1 (by decide) ?_
  refine lv_sipush (v := (999 : Int32)) X.1 X.2.1 dX9_mend_2 (by decide) ?_
  obtain ⟨t3, h2, q1, hf⟩ := bnd2 hf
  refine x_callSi (As := [.int v1, .int (0 : Int32), .int (999 : Int32)]) cf_X9_84 (c_X9_within l G N v1 (0 : Int32) (999 : Int32) h _ _ q1) rfl ⟨rfl, rfl, Nat.le_of_ble_eq_true rfl, Nat.le_of_ble_eq_true rfl⟩ ⟨Nat.le_of_ble_eq_true rfl, Nat.le_of_ble_eq_true rfl⟩ X M rfl rfl hl.1 (Nat.le_of_ble_eq_true rfl) dX9_mend_5 (fun H locs M => ?_)
  refine lv_if_ne (tgt := 14) X.1 X.2.1 dX9_mend_8 (by decide) (fun c4 => ?_) (fun c4 => ?_)
  · have hf := ifn c4 hf
    refine lv_iconst (v := (0 : Int32)) X.1 X.2.1 dX9_mend_14 (by decide) ?_
    refine lv_istore_n (lv' := [(3, .int (0 : Int32)), (0, .ref (gB G + v0)), (1, .int v1), (2, .int v2)]) X.1 X.2.1 dX9_mend_15 rfl hl (by decide) rfl (fun ls hl => ?_)
    refine lv_iconst (v := (0 : Int32)) X.1 X.2.1 dX9_mend_16 (by decide) ?_
    refine lv_istore (lv' := [(4, .int (0 : Int32)), (3, .int (0 : Int32)), (0, .ref (gB G + v0)), (1, .int v1), (2, .int v2)]) X.1 X.2.1 dX9_mend_17 hl (by decide) rfl (fun ls hl => ?_)
    refine lv_ldc2 X.1 X.2.1 X.2.2.2.1 (X.2.2.2.2.1 _ k_337) dX9_mend_19 ?_
    refine lv_lstore (lv' := [(5, .long (-9223372036854775808 : Int64)), (4, .int (0 : Int32)), (3, .int (0 : Int32)), (0, .ref (gB G + v0)), (1, .int v1), (2, .int v2)]) X.1 X.2.1 dX9_mend_22 hl (by decide) rfl (fun ls hl => ?_)
    refine lv_iconst (v := (0 : Int32)) X.1 X.2.1 dX9_mend_24 (by decide) ?_
    refine lv_istore (lv' := [(7, .int (0 : Int32)), (5, .long (-9223372036854775808 : Int64)), (4, .int (0 : Int32)), (3, .int (0 : Int32)), (0, .ref (gB G + v0)), (1, .int v1), (2, .int v2)]) X.1 X.2.1 dX9_mend_25 hl (by decide) rfl (fun ls hl => ?_)
    exact w_X9_mend_27 X hr hk N N v0 v1 v2 (0 : Int32) (0 : Int32) (-9223372036854775808 : Int64) (0 : Int32) h2 hf _ _ _ M (lv_sub hl [4, 5, 6, 3, 2, 1, 0] rfl)
  · have hf := ifp c4 hf
    refine lv_bipush (v := (-2 : Int32)) X.1 X.2.1 dX9_mend_11 (by decide) ?_
    obtain ⟨rfl, rfl⟩ := rt2 hf
    exact x_iret X hr hk M dX9_mend_13
theorem c_X9_mend (l : Launch) (G : Gx) (N : Nat) (v0 : Nat) (v1 : Int32) (v2 : Int32) (h : Mem) (r : Int32) (h' : Mem) (hf : f_X9_mend N v0 v1 v2 h = some (r, h')) : MetG l G yX9_mend (.code yX9_mend cX9_mend 11 (Option.some Jvm.ClassFile.FieldType.int)) rm_X9_mend [.ref (gB G + v0), .int v1, .int v2] h (QcI G r h') 0 0 :=
  x_met (by decide) rfl (Nat.le_of_ble_eq_true rfl) (fun p e s m args below meth c ls X M hr hk hin hl => w_X9_mend X hr hk N v0 v1 v2 h hf _ _ ls M hl)
abbrev rm_X9_edge : Room := { frames := 8, cells := 0, slots := 0, locals := 219 }
def f_X9_edge_143 (N : Nat) (v0 : Nat) (v3 : Int32) (v4 : Nat) (v5 : Int32) (v6 : Int32) (v7 : Int32) (v8 : Int32) (v9 : Int32) (h : Mem) (k98 : Nat → Int32 → Nat → Int32 → Int32 → Int32 → Int32 → Int32 → Mem → Option (Int32 × Mem)) : Option (Int32 × Mem) :=
  k98 v0 v3 v4 v5 v6 v7 v8 (v9 + ((2 : Int32) * v8)) h
set_option maxRecDepth 100000 in
set_option maxHeartbeats 4000000 in
theorem w_X9_edge_143 {p : Program} {l : Launch} {e : Env} {s : State} {m : MethodId} {args : Array Value} {below : List Frame} {meth : Method} {c : Code} {G : Gx} {r : Int32} {h' : Mem} (X : CX G p s m args c cX9_edge 10 RX9) (hr : meth.sig.returnType = (Option.some Jvm.ClassFile.FieldType.int)) (hk : meth.locks = false) (N : Nat) (k98 : Nat → Int32 → Nat → Int32 → Int32 → Int32 → Int32 → Int32 → Mem → Option (Int32 × Mem)) (K98 : ∀ (v0 : Nat) (v3 : Int32) (v4 : Nat) (v5 : Int32) (v6 : Int32) (v7 : Int32) (v8 : Int32) (v9 : Int32) (h : Mem), k98 v0 v3 v4 v5 v6 v7 v8 v9 h = some (r, h') → ∀ (H : Heap) (locs : List Loc) (ls : Array Slot), MS G s h H locs 0 → lv_has ls 10 [(0, .ref (gB G + v0)), (3, .int v3), (4, .ref (gB G + v4)), (5, .int v5), (6, .int v6), (7, .int v7), (8, .int v8), (9, .int v9)] → W p l e (rm_X9_edge) s m args below meth c H locs 0 0 (QI G below args s r h' 0 0) (F0 m 98 ls [])) : ∀ (v0 : Nat) (v3 : Int32) (v4 : Nat) (v5 : Int32) (v6 : Int32) (v7 : Int32) (v8 : Int32) (v9 : Int32) (h : Mem), f_X9_edge_143 N v0 v3 v4 v5 v6 v7 v8 v9 h k98 = some (r, h') → ∀ (H : Heap) (locs : List Loc) (ls : Array Slot), MS G s h H locs 0 → lv_has ls 10 [(0, .ref (gB G + v0)), (3, .int v3), (4, .ref (gB G + v4)), (5, .int v5), (6, .int v6), (7, .int v7), (8, .int v8), (9, .int v9)] → W p l e (rm_X9_edge) s m args below meth c H locs 0 0 (QI G below args s r h' 0 0) (F0 m 143 ls []) := by
  intro v0 v3 v4 v5 v6 v7 v8 v9 h hf H locs ls M hl
  rw [f_X9_edge_143] at hf
  refine lv_iload X.1 X.2.1 dX9_edge_143 (lv_at hl 7 rfl) ?_
  refine lv_iconst (v := (2 : Int32)) X.1 X.2.1 dX9_edge_145 (by decide) ?_
  refine lv_iload X.1 X.2.1 dX9_edge_146 (lv_at hl 6 rfl) ?_
  refine lv_imul X.1 X.2.1 dX9_edge_148 ?_
  refine lv_iadd X.1 X.2.1 dX9_edge_149 ?_
  refine lv_istore (lv' := [(9, .int (v9 + ((2 : Int32) * v8))), (0, .ref (gB G + v0)), (3, .int v3), (4, .ref (gB G + v4)), (5, .int v5), (6, .int v6), (7, .int v7), (8, .int v8)]) X.1 X.2.1 dX9_edge_150 hl (by decide) rfl (fun ls hl => ?_)
  refine lv_goto (tgt := 98) X.1 X.2.1 dX9_edge_152 (by decide) ?_
  exact K98 v0 v3 v4 v5 v6 v7 v8 (v9 + ((2 : Int32) * v8)) h hf _ _ _ M (lv_sub hl [1, 2, 3, 4, 5, 6, 7, 0] rfl)
def f_X9_edge_98 (N : Nat) (n : Nat) (v0 : Nat) (v3 : Int32) (v4 : Nat) (v5 : Int32) (v6 : Int32) (v7 : Int32) (v8 : Int32) (v9 : Int32) (h : Mem) (k79 : Nat → Int32 → Nat → Int32 → Int32 → Int32 → Int32 → Mem → Option (Int32 × Mem)) : Option (Int32 × Mem) := match n with
  | 0 => none
  | n + 1 =>
    if v8 < v9 then
      k79 v0 v3 v4 v5 v6 v7 (v8 + 1) h
    else
      if v7 = (-100 : Int32) then
        (stI 100 h v4 v5 (v6 + v9)).bind fun h3 =>
        (gR h3 v0 9 5).bind fun t5 =>
        (gR h3 v0 9 0).bind fun t7 =>
        (ck h3 t5 6).bind fun _ =>
        b2 (f_X6_breach N t5 t7 v3 h3) fun t12 h11 =>
        if t12 = (-5 : Int32) then
          f_X9_edge_143 N v0 v3 v4 v5 v6 v7 v8 v9 h11 (fun v0 v3 v4 v5 v6 v7 v8 v9 h => f_X9_edge_98 N n v0 v3 v4 v5 v6 v7 v8 v9 h k79)
        else
          f_X9_edge_143 N v0 v3 v4 v5 v6 v9 v8 v9 h11 (fun v0 v3 v4 v5 v6 v7 v8 v9 h => f_X9_edge_98 N n v0 v3 v4 v5 v6 v7 v8 v9 h k79)
      else
        k79 v0 v3 v4 v5 v6 v7 (v8 + 1) h
set_option maxRecDepth 100000 in
set_option maxHeartbeats 4000000 in
theorem w_X9_edge_98 {p : Program} {l : Launch} {e : Env} {s : State} {m : MethodId} {args : Array Value} {below : List Frame} {meth : Method} {c : Code} {G : Gx} {r : Int32} {h' : Mem} (X : CX G p s m args c cX9_edge 10 RX9) (hr : meth.sig.returnType = (Option.some Jvm.ClassFile.FieldType.int)) (hk : meth.locks = false) (N : Nat) (k79 : Nat → Int32 → Nat → Int32 → Int32 → Int32 → Int32 → Mem → Option (Int32 × Mem)) (K79 : ∀ (v0 : Nat) (v3 : Int32) (v4 : Nat) (v5 : Int32) (v6 : Int32) (v7 : Int32) (v8 : Int32) (h : Mem), k79 v0 v3 v4 v5 v6 v7 v8 h = some (r, h') → ∀ (H : Heap) (locs : List Loc) (ls : Array Slot), MS G s h H locs 0 → lv_has ls 10 [(0, .ref (gB G + v0)), (3, .int v3), (4, .ref (gB G + v4)), (5, .int v5), (6, .int v6), (7, .int v7), (8, .int v8)] → W p l e (rm_X9_edge) s m args below meth c H locs 0 0 (QI G below args s r h' 0 0) (F0 m 79 ls [])) : ∀ (n : Nat) (v0 : Nat) (v3 : Int32) (v4 : Nat) (v5 : Int32) (v6 : Int32) (v7 : Int32) (v8 : Int32) (v9 : Int32) (h : Mem), f_X9_edge_98 N n v0 v3 v4 v5 v6 v7 v8 v9 h k79 = some (r, h') → ∀ (H : Heap) (locs : List Loc) (ls : Array Slot), MS G s h H locs 0 → lv_has ls 10 [(0, .ref (gB G + v0)), (3, .int v3), (4, .ref (gB G + v4)), (5, .int v5), (6, .int v6), (7, .int v7), (8, .int v8), (9, .int v9)] → W p l e (rm_X9_edge) s m args below meth c H locs 0 0 (QI G below args s r h' 0 0) (F0 m 98 ls []) := by
  intro n
  induction n with
  | zero =>
    intro v0 v3 v4 v5 v6 v7 v8 v9 h hf
    cases hf
  | succ n ih =>
    intro v0 v3 v4 v5 v6 v7 v8 v9 h hf H locs ls M hl
    rw [f_X9_edge_98] at hf
    refine lv_iload X.1 X.2.1 dX9_edge_98 (lv_at hl 7 rfl) ?_
    refine lv_iload X.1 X.2.1 dX9_edge_100 (lv_at hl 6 rfl) ?_
    refine lv_icmp_gt (tgt := 155) X.1 X.2.1 dX9_edge_102 (by decide) (fun c1 => ?_) (fun c1 => ?_)
    · have hf := ifp c1 hf
      refine lv_iinc (v := (v8 + 1)) (lv' := [(8, .int (v8 + 1)), (0, .ref (gB G + v0)), (3, .int v3), (4, .ref (gB G + v4)), (5, .int v5), (6, .int v6), (7, .int v7), (9, .int v9)]) X.1 X.2.1 dX9_edge_155 hl (k := 6) rfl (by first | rfl | decide) (by decide) rfl (fun ls hl => ?_)
      refine lv_goto (tgt := 79) X.1 X.2.1 dX9_edge_158 (by decide) ?_
      exact K79 v0 v3 v4 v5 v6 v7 (v8 + 1) h hf _ _ _ M (lv_sub hl [1, 2, 3, 4, 5, 6, 0] rfl)
    · have hf := ifn c1 hf
      refine lv_iload X.1 X.2.1 dX9_edge_105 (lv_at hl 5 rfl) ?_
      refine lv_bipush (v := (-100 : Int32)) X.1 X.2.1 dX9_edge_107 (by decide) ?_
      refine lv_icmp_ne (tgt := 155) X.1 X.2.1 dX9_edge_109 (by decide) (fun c2 => ?_) (fun c2 => ?_)
      · have hf := ifn c2 hf
        refine lv_iinc (v := (v8 + 1)) (lv' := [(8, .int (v8 + 1)), (0, .ref (gB G + v0)), (3, .int v3), (4, .ref (gB G + v4)), (5, .int v5), (6, .int v6), (7, .int v7), (9, .int v9)]) X.1 X.2.1 dX9_edge_155 hl (k := 6) rfl (by first | rfl | decide) (by decide) rfl (fun ls hl => ?_)
        refine lv_goto (tgt := 79) X.1 X.2.1 dX9_edge_158 (by decide) ?_
        exact K79 v0 v3 v4 v5 v6 v7 (v8 + 1) h hf _ _ _ M (lv_sub hl [1, 2, 3, 4, 5, 6, 0] rfl)
      · have hf := ifp c2 hf
        refine lv_aload X.1 X.2.1 dX9_edge_112 (lv_at hl 2 rfl) ?_
        refine lv_iload X.1 X.2.1 dX9_edge_114 (lv_at hl 3 rfl) ?_
        refine lv_iload X.1 X.2.1 dX9_edge_116 (lv_at hl 4 rfl) ?_
        refine lv_iload X.1 X.2.1 dX9_edge_118 (lv_at hl 7 rfl) ?_
        refine lv_iadd X.1 X.2.1 dX9_edge_120 ?_
        obtain ⟨h3, q4, hf⟩ := bnd hf
        refine x_iast X M q4 dX9_edge_121 (fun H locs M => ?_)
        refine lv_aload_n X.1 X.2.1 dX9_edge_122 rfl (lv_at hl 0 rfl) ?_
        obtain ⟨t5, q6, hf⟩ := bnd hf
        refine x_getr fl_X9_46 X M q6 dX9_edge_123 ?_
        refine lv_aload_n X.1 X.2.1 dX9_edge_126 rfl (lv_at hl 0 rfl) ?_
        obtain ⟨t7, q8, hf⟩ := bnd hf
        refine x_getr fl_X9_17 X M q8 dX9_edge_127 ?_
        refine lv_iload_n X.1 X.2.1 dX9_edge_130 rfl (lv_at hl 1 rfl) ?_
        obtain ⟨⟨⟩, q9, hf⟩ := bnd hf
        obtain ⟨t12, h11, q10, hf⟩ := bnd2 hf
        refine x_callVi (As := [.ref (gB G + t7), .int v3]) cf_X9_177 (c_X6_breach l G N t5 t7 v3 h3 _ _ q10) rfl ⟨rfl, rfl, Nat.le_of_ble_eq_true rfl, Nat.le_of_ble_eq_true rfl⟩ ⟨Nat.le_of_ble_eq_true rfl, Nat.le_of_ble_eq_true rfl⟩ X M (x_recv cls_X6 X M q9) rfl rfl hl.1 (Nat.le_of_ble_eq_true rfl) dX9_edge_131 (fun H locs M => ?_)
        refine lv_bipush (v := (-5 : Int32)) X.1 X.2.1 dX9_edge_134 (by decide) ?_
        refine lv_icmp_eq (tgt := 143) X.1 X.2.1 dX9_edge_136 (by decide) (fun c13 => ?_) (fun c13 => ?_)
        · have hf := ifp c13 hf
          exact w_X9_edge_143 X hr hk N _ (fun v0 v3 v4 v5 v6 v7 v8 v9 h hf H locs ls M hl => ih v0 v3 v4 v5 v6 v7 v8 v9 h hf H locs ls M hl) v0 v3 v4 v5 v6 v7 v8 v9 h11 hf _ _ _ M (lv_sub hl [0, 1, 2, 3, 4, 5, 6, 7] rfl)
        · have hf := ifn c13 hf
          refine lv_iload X.1 X.2.1 dX9_edge_139 (lv_at hl 7 rfl) ?_
          refine lv_istore (lv' := [(7, .int v9), (0, .ref (gB G + v0)), (3, .int v3), (4, .ref (gB G + v4)), (5, .int v5), (6, .int v6), (8, .int v8), (9, .int v9)]) X.1 X.2.1 dX9_edge_141 hl (by decide) rfl (fun ls hl => ?_)
          exact w_X9_edge_143 X hr hk N _ (fun v0 v3 v4 v5 v6 v7 v8 v9 h hf H locs ls M hl => ih v0 v3 v4 v5 v6 v7 v8 v9 h hf H locs ls M hl) v0 v3 v4 v5 v6 v9 v8 v9 h11 hf _ _ _ M (lv_sub hl [1, 2, 3, 4, 5, 0, 6, 7] rfl)
def f_X9_edge_161 (N : Nat) (v4 : Nat) (v5 : Int32) (v6 : Int32) (v7 : Int32) (h : Mem) : Option (Int32 × Mem) :=
  (stI 100 h v4 v5 v6).bind fun h1 =>
  some (v7, h1)
set_option maxRecDepth 100000 in
set_option maxHeartbeats 4000000 in
theorem w_X9_edge_161 {p : Program} {l : Launch} {e : Env} {s : State} {m : MethodId} {args : Array Value} {below : List Frame} {meth : Method} {c : Code} {G : Gx} {r : Int32} {h' : Mem} (X : CX G p s m args c cX9_edge 10 RX9) (hr : meth.sig.returnType = (Option.some Jvm.ClassFile.FieldType.int)) (hk : meth.locks = false) (N : Nat) : ∀ (v4 : Nat) (v5 : Int32) (v6 : Int32) (v7 : Int32) (h : Mem), f_X9_edge_161 N v4 v5 v6 v7 h = some (r, h') → ∀ (H : Heap) (locs : List Loc) (ls : Array Slot), MS G s h H locs 0 → lv_has ls 10 [(4, .ref (gB G + v4)), (5, .int v5), (6, .int v6), (7, .int v7)] → W p l e (rm_X9_edge) s m args below meth c H locs 0 0 (QI G below args s r h' 0 0) (F0 m 161 ls []) := by
  intro v4 v5 v6 v7 h hf H locs ls M hl
  rw [f_X9_edge_161] at hf
  refine lv_aload X.1 X.2.1 dX9_edge_161 (lv_at hl 0 rfl) ?_
  refine lv_iload X.1 X.2.1 dX9_edge_163 (lv_at hl 1 rfl) ?_
  refine lv_iload X.1 X.2.1 dX9_edge_165 (lv_at hl 2 rfl) ?_
  obtain ⟨h1, q2, hf⟩ := bnd hf
  refine x_iast X M q2 dX9_edge_167 (fun H locs M => ?_)
  refine lv_iload X.1 X.2.1 dX9_edge_168 (lv_at hl 3 rfl) ?_
  obtain ⟨rfl, rfl⟩ := rt2 hf
  exact x_iret X hr hk M dX9_edge_170
def f_X9_edge_79 (N : Nat) (n : Nat) (v0 : Nat) (v3 : Int32) (v4 : Nat) (v5 : Int32) (v6 : Int32) (v7 : Int32) (v8 : Int32) (h : Mem) : Option (Int32 × Mem) := match n with
  | 0 => none
  | n + 1 =>
    if (20 : Int32) < v8 then
      f_X9_edge_161 N v4 v5 v6 v7 h
    else
      if v7 = (-100 : Int32) then
        f_X9_edge_98 N N v0 v3 v4 v5 v6 v7 v8 (-v8) h (fun v0 v3 v4 v5 v6 v7 v8 h => f_X9_edge_79 N n v0 v3 v4 v5 v6 v7 v8 h)
      else
        f_X9_edge_161 N v4 v5 v6 v7 h
set_option maxRecDepth 100000 in
set_option maxHeartbeats 4000000 in
theorem w_X9_edge_79 {p : Program} {l : Launch} {e : Env} {s : State} {m : MethodId} {args : Array Value} {below : List Frame} {meth : Method} {c : Code} {G : Gx} {r : Int32} {h' : Mem} (X : CX G p s m args c cX9_edge 10 RX9) (hr : meth.sig.returnType = (Option.some Jvm.ClassFile.FieldType.int)) (hk : meth.locks = false) (N : Nat) : ∀ (n : Nat) (v0 : Nat) (v3 : Int32) (v4 : Nat) (v5 : Int32) (v6 : Int32) (v7 : Int32) (v8 : Int32) (h : Mem), f_X9_edge_79 N n v0 v3 v4 v5 v6 v7 v8 h = some (r, h') → ∀ (H : Heap) (locs : List Loc) (ls : Array Slot), MS G s h H locs 0 → lv_has ls 10 [(0, .ref (gB G + v0)), (3, .int v3), (4, .ref (gB G + v4)), (5, .int v5), (6, .int v6), (7, .int v7), (8, .int v8)] → W p l e (rm_X9_edge) s m args below meth c H locs 0 0 (QI G below args s r h' 0 0) (F0 m 79 ls []) := by
  intro n
  induction n with
  | zero =>
    intro v0 v3 v4 v5 v6 v7 v8 h hf
    cases hf
  | succ n ih =>
    intro v0 v3 v4 v5 v6 v7 v8 h hf H locs ls M hl
    rw [f_X9_edge_79] at hf
    refine lv_iload X.1 X.2.1 dX9_edge_79 (lv_at hl 6 rfl) ?_
    refine lv_bipush (v := (20 : Int32)) X.1 X.2.1 dX9_edge_81 (by decide) ?_
    refine lv_icmp_gt (tgt := 161) X.1 X.2.1 dX9_edge_83 (by decide) (fun c1 => ?_) (fun c1 => ?_)
    · have hf := ifp c1 hf
      exact w_X9_edge_161 X hr hk N v4 v5 v6 v7 h hf _ _ _ M (lv_sub hl [2, 3, 4, 5] rfl)
    · have hf := ifn c1 hf
      refine lv_iload X.1 X.2.1 dX9_edge_86 (lv_at hl 5 rfl) ?_
      refine lv_bipush (v := (-100 : Int32)) X.1 X.2.1 dX9_edge_88 (by decide) ?_
      refine lv_icmp_ne (tgt := 161) X.1 X.2.1 dX9_edge_90 (by decide) (fun c2 => ?_) (fun c2 => ?_)
      · have hf := ifn c2 hf
        exact w_X9_edge_161 X hr hk N v4 v5 v6 v7 h hf _ _ _ M (lv_sub hl [2, 3, 4, 5] rfl)
      · have hf := ifp c2 hf
        refine lv_iload X.1 X.2.1 dX9_edge_93 (lv_at hl 6 rfl) ?_
        refine lv_ineg X.1 X.2.1 dX9_edge_95 ?_
        refine lv_istore (lv' := [(9, .int (-v8)), (0, .ref (gB G + v0)), (3, .int v3), (4, .ref (gB G + v4)), (5, .int v5), (6, .int v6), (7, .int v7), (8, .int v8)]) X.1 X.2.1 dX9_edge_96 hl (by decide) rfl (fun ls hl => ?_)
        exact w_X9_edge_98 X hr hk N _ (fun v0 v3 v4 v5 v6 v7 v8 h hf H locs ls M hl => ih v0 v3 v4 v5 v6 v7 v8 h hf H locs ls M hl) N v0 v3 v4 v5 v6 v7 v8 (-v8) h hf _ _ _ M (lv_sub hl [1, 2, 3, 4, 5, 6, 7, 0] rfl)
def f_X9_edge (N : Nat) (v0 : Nat) (v1 : Int32) (v2 : Int32) (v3 : Int32) (h : Mem) : Option (Int32 × Mem) :=
  b2 (f_X9_within N v1 (0 : Int32) (3 : Int32) h) fun t3 h2 =>
  if t3 = 0 then
    some ((-1 : Int32), h2)
  else
    b2 (f_X9_within N v2 (0 : Int32) (2 : Int32) h2) fun t7 h6 =>
    if t7 = 0 then
      some ((-1 : Int32), h6)
    else
      b2 (f_X9_isRest N v3 h6) fun t11 h10 =>
      if t11 = 0 then
        some ((-1 : Int32), h10)
      else
        (gR h10 v0 9 5).bind fun t13 =>
        (gR h10 v0 9 0).bind fun t15 =>
        (ck h10 t13 6).bind fun _ =>
        b2 (f_X6_breach N t13 t15 v3 h10) fun t20 h19 =>
        if t20 = (-5 : Int32) then
          (gR h19 v0 9 0).bind fun t22 =>
          (gR h19 t22 1 0).bind fun t24 =>
          (gR h19 t24 3 0).bind fun t26 =>
          (lI 100 h19 t26 ((v1 * (3 : Int32)) + v2)).bind fun t28 =>
          f_X9_edge_79 N N v0 v3 t26 ((v1 * (3 : Int32)) + v2) t28 (-100 : Int32) (1 : Int32) h19
        else
          some ((0 : Int32), h19)
set_option maxRecDepth 100000 in
set_option maxHeartbeats 4000000 in
theorem w_X9_edge {p : Program} {l : Launch} {e : Env} {s : State} {m : MethodId} {args : Array Value} {below : List Frame} {meth : Method} {c : Code} {G : Gx} {r : Int32} {h' : Mem} (X : CX G p s m args c cX9_edge 10 RX9) (hr : meth.sig.returnType = (Option.some Jvm.ClassFile.FieldType.int)) (hk : meth.locks = false) (N : Nat) : ∀ (v0 : Nat) (v1 : Int32) (v2 : Int32) (v3 : Int32) (h : Mem), f_X9_edge N v0 v1 v2 v3 h = some (r, h') → ∀ (H : Heap) (locs : List Loc) (ls : Array Slot), MS G s h H locs 0 → lv_has ls 10 [(0, .ref (gB G + v0)), (1, .int v1), (2, .int v2), (3, .int v3)] → W p l e (rm_X9_edge) s m args below meth c H locs 0 0 (QI G below args s r h' 0 0) (F0 m 0 ls []) := by
  intro v0 v1 v2 v3 h hf H locs ls M hl
  rw [f_X9_edge] at hf
  refine lv_iload_n X.1 X.2.1 dX9_edge_0 rfl (lv_at hl 1 rfl) ?_
  refine lv_iconst (v := (0 : Int32)) X.1 X.2.1 dX9_edge_1 (by decide) ?_
  refine lv_iconst (v := (3 : Int32)) X.1 X.2.1 dX9_edge_2 (by decide) ?_
  obtain ⟨t3, h2, q1, hf⟩ := bnd2 hf
  refine x_callSi (As := [.int v1, .int (0 : Int32), .int (3 : Int32)]) cf_X9_84 (c_X9_within l G N v1 (0 : Int32) (3 : Int32) h _ _ q1) rfl ⟨rfl, rfl, Nat.le_of_ble_eq_true rfl, Nat.le_of_ble_eq_true rfl⟩ ⟨Nat.le_of_ble_eq_true rfl, Nat.le_of_ble_eq_true rfl⟩ X M rfl rfl hl.1 (Nat.le_of_ble_eq_true rfl) dX9_edge_3 (fun H locs M => ?_)
  refine lv_if_eq (tgt := 25) X.1 X.2.1 dX9_edge_6 (by decide) (fun c4 => ?_) (fun c4 => ?_)
  · have hf := ifp c4 hf
    refine lv_iconst (v := (-1 : Int32)) X.1 X.2.1 dX9_edge_25 (by decide) ?_
    obtain ⟨rfl, rfl⟩ := rt2 hf
    exact x_iret X hr hk M dX9_edge_26
  · have hf := ifn c4 hf
    refine lv_iload_n X.1 X.2.1 dX9_edge_9 rfl (lv_at hl 2 rfl) ?_
    refine lv_iconst (v := (0 : Int32)) X.1 X.2.1 dX9_edge_10 (by decide) ?_
    refine lv_iconst (v := (2 : Int32)) X.1 X.2.1 dX9_edge_11 (by decide) ?_
    obtain ⟨t7, h6, q5, hf⟩ := bnd2 hf
    refine x_callSi (As := [.int v2, .int (0 : Int32), .int (2 : Int32)]) cf_X9_84 (c_X9_within l G N v2 (0 : Int32) (2 : Int32) h2 _ _ q5) rfl ⟨rfl, rfl, Nat.le_of_ble_eq_true rfl, Nat.le_of_ble_eq_true rfl⟩ ⟨Nat.le_of_ble_eq_true rfl, Nat.le_of_ble_eq_true rfl⟩ X M rfl rfl hl.1 (Nat.le_of_ble_eq_true rfl) dX9_edge_12 (fun H locs M => ?_)
    refine lv_if_eq (tgt := 25) X.1 X.2.1 dX9_edge_15 (by decide) (fun c8 => ?_) (fun c8 => ?_)
    · have hf := ifp c8 hf
      refine lv_iconst (v := (-1 : Int32)) X.1 X.2.1 dX9_edge_25 (by decide) ?_
      obtain ⟨rfl, rfl⟩ := rt2 hf
      exact x_iret X hr hk M dX9_edge_26
    · have hf := ifn c8 hf
      refine lv_iload_n X.1 X.2.1 dX9_edge_18 rfl (lv_at hl 3 rfl) ?_
      obtain ⟨t11, h10, q9, hf⟩ := bnd2 hf
      refine x_callSi (As := [.int v3]) cf_X9_174 (c_X9_isRest l G N v3 h6 _ _ q9) rfl ⟨rfl, rfl, Nat.le_of_ble_eq_true rfl, Nat.le_of_ble_eq_true rfl⟩ ⟨Nat.le_of_ble_eq_true rfl, Nat.le_of_ble_eq_true rfl⟩ X M rfl rfl hl.1 (Nat.le_of_ble_eq_true rfl) dX9_edge_19 (fun H locs M => ?_)
      refine lv_if_ne (tgt := 27) X.1 X.2.1 dX9_edge_22 (by decide) (fun c12 => ?_) (fun c12 => ?_)
      · have hf := ifn c12 hf
        refine lv_aload_n X.1 X.2.1 dX9_edge_27 rfl (lv_at hl 0 rfl) ?_
        obtain ⟨t13, q14, hf⟩ := bnd hf
        refine x_getr fl_X9_46 X M q14 dX9_edge_28 ?_
        refine lv_aload_n X.1 X.2.1 dX9_edge_31 rfl (lv_at hl 0 rfl) ?_
        obtain ⟨t15, q16, hf⟩ := bnd hf
        refine x_getr fl_X9_17 X M q16 dX9_edge_32 ?_
        refine lv_iload_n X.1 X.2.1 dX9_edge_35 rfl (lv_at hl 3 rfl) ?_
        obtain ⟨⟨⟩, q17, hf⟩ := bnd hf
        obtain ⟨t20, h19, q18, hf⟩ := bnd2 hf
        refine x_callVi (As := [.ref (gB G + t15), .int v3]) cf_X9_177 (c_X6_breach l G N t13 t15 v3 h10 _ _ q18) rfl ⟨rfl, rfl, Nat.le_of_ble_eq_true rfl, Nat.le_of_ble_eq_true rfl⟩ ⟨Nat.le_of_ble_eq_true rfl, Nat.le_of_ble_eq_true rfl⟩ X M (x_recv cls_X6 X M q17) rfl rfl hl.1 (Nat.le_of_ble_eq_true rfl) dX9_edge_36 (fun H locs M => ?_)
        refine lv_bipush (v := (-5 : Int32)) X.1 X.2.1 dX9_edge_39 (by decide) ?_
        refine lv_icmp_eq (tgt := 46) X.1 X.2.1 dX9_edge_41 (by decide) (fun c21 => ?_) (fun c21 => ?_)
        · have hf := ifp c21 hf
          refine lv_aload_n X.1 X.2.1 dX9_edge_46 rfl (lv_at hl 0 rfl) ?_
          obtain ⟨t22, q23, hf⟩ := bnd hf
          refine x_getr fl_X9_17 X M q23 dX9_edge_47 ?_
          obtain ⟨t24, q25, hf⟩ := bnd hf
          refine x_getr fl_X9_23 X M q25 dX9_edge_50 ?_
          obtain ⟨t26, q27, hf⟩ := bnd hf
          refine x_getr fl_X9_272 X M q27 dX9_edge_53 ?_
          refine lv_astore (lv' := [(4, .ref (gB G + t26)), (0, .ref (gB G + v0)), (1, .int v1), (2, .int v2), (3, .int v3)]) X.1 X.2.1 dX9_edge_56 hl (by decide) rfl (fun ls hl => ?_)
          refine lv_iload_n X.1 X.2.1 dX9_edge_58 rfl (lv_at hl 2 rfl) ?_
          refine lv_iconst (v := (3 : Int32)) X.1 X.2.1 dX9_edge_59 (by decide) ?_
          refine lv_imul X.1 X.2.1 dX9_edge_60 ?_
          refine lv_iload_n X.1 X.2.1 dX9_edge_61 rfl (lv_at hl 3 rfl) ?_
          refine lv_iadd X.1 X.2.1 dX9_edge_62 ?_
          refine lv_istore (lv' := [(5, .int ((v1 * (3 : Int32)) + v2)), (4, .ref (gB G + t26)), (0, .ref (gB G + v0)), (1, .int v1), (2, .int v2), (3, .int v3)]) X.1 X.2.1 dX9_edge_63 hl (by decide) rfl (fun ls hl => ?_)
          refine lv_aload X.1 X.2.1 dX9_edge_65 (lv_at hl 1 rfl) ?_
          refine lv_iload X.1 X.2.1 dX9_edge_67 (lv_at hl 0 rfl) ?_
          obtain ⟨t28, q29, hf⟩ := bnd hf
          refine x_iald X M q29 dX9_edge_69 ?_
          refine lv_istore (lv' := [(6, .int t28), (5, .int ((v1 * (3 : Int32)) + v2)), (4, .ref (gB G + t26)), (0, .ref (gB G + v0)), (1, .int v1), (2, .int v2), (3, .int v3)]) X.1 X.2.1 dX9_edge_70 hl (by decide) rfl (fun ls hl => ?_)
          refine lv_bipush (v := (-100 : Int32)) X.1 X.2.1 dX9_edge_72 (by decide) ?_
          refine lv_istore (lv' := [(7, .int (-100 : Int32)), (6, .int t28), (5, .int ((v1 * (3 : Int32)) + v2)), (4, .ref (gB G + t26)), (0, .ref (gB G + v0)), (1, .int v1), (2, .int v2), (3, .int v3)]) X.1 X.2.1 dX9_edge_74 hl (by decide) rfl (fun ls hl => ?_)
          refine lv_iconst (v := (1 : Int32)) X.1 X.2.1 dX9_edge_76 (by decide) ?_
          refine lv_istore (lv' := [(8, .int (1 : Int32)), (7, .int (-100 : Int32)), (6, .int t28), (5, .int ((v1 * (3 : Int32)) + v2)), (4, .ref (gB G + t26)), (0, .ref (gB G + v0)), (1, .int v1), (2, .int v2), (3, .int v3)]) X.1 X.2.1 dX9_edge_77 hl (by decide) rfl (fun ls hl => ?_)
          exact w_X9_edge_79 X hr hk N N v0 v3 t26 ((v1 * (3 : Int32)) + v2) t28 (-100 : Int32) (1 : Int32) h19 hf _ _ _ M (lv_sub hl [5, 8, 4, 3, 2, 1, 0] rfl)
        · have hf := ifn c21 hf
          refine lv_iconst (v := (0 : Int32)) X.1 X.2.1 dX9_edge_44 (by decide) ?_
          obtain ⟨rfl, rfl⟩ := rt2 hf
          exact x_iret X hr hk M dX9_edge_45
      · have hf := ifp c12 hf
        refine lv_iconst (v := (-1 : Int32)) X.1 X.2.1 dX9_edge_25 (by decide) ?_
        obtain ⟨rfl, rfl⟩ := rt2 hf
        exact x_iret X hr hk M dX9_edge_26
theorem c_X9_edge (l : Launch) (G : Gx) (N : Nat) (v0 : Nat) (v1 : Int32) (v2 : Int32) (v3 : Int32) (h : Mem) (r : Int32) (h' : Mem) (hf : f_X9_edge N v0 v1 v2 v3 h = some (r, h')) : MetG l G yX9_edge (.code yX9_edge cX9_edge 10 (Option.some Jvm.ClassFile.FieldType.int)) rm_X9_edge [.ref (gB G + v0), .int v1, .int v2, .int v3] h (QcI G r h') 0 0 :=
  x_met (by decide) rfl (Nat.le_of_ble_eq_true rfl) (fun p e s m args below meth c ls X M hr hk hin hl => w_X9_edge X hr hk N v0 v1 v2 v3 h hf _ _ ls M hl)
abbrev rm_X9_births : Room := { frames := 3, cells := 0, slots := 0, locals := 84 }
def f_X9_births_4 (N : Nat) (n : Nat) (v0 : Nat) (v1 : Int32) (v2 : Int32) (h : Mem) : Option (Int32 × Mem) := match n with
  | 0 => none
  | n + 1 =>
    (gR h v0 9 0).bind fun t1 =>
    (gI h t1 1 1).bind fun t3 =>
    if t3 ≤ v2 then
      some (v1, h)
    else
      (gR h v0 9 0).bind fun t6 =>
      (ck h t6 1).bind fun _ =>
      b2 (f_X1_doubledSort N t6 v2 h) fun t11 h10 =>
      if t11 < 0 then
        f_X9_births_4 N n v0 v1 (v2 + 1) h10
      else
        (gR h10 v0 9 0).bind fun t13 =>
        (ck h10 t13 1).bind fun _ =>
        b2 (f_X1_hasRoom N t13 v2 h10) fun t18 h17 =>
        if t18 = 0 then
          f_X9_births_4 N n v0 v1 (v2 + 1) h17
        else
          (gR h17 v0 9 0).bind fun t20 =>
          (ck h17 t20 1).bind fun _ =>
          b2 (f_X1_join N t20 t11 (10 : Int32) v2 h17) fun t25 h24 =>
          if t25 < 0 then
            f_X9_births_4 N n v0 v1 (v2 + 1) h24
          else
            f_X9_births_4 N n v0 (v1 + 1) (v2 + 1) h24
set_option maxRecDepth 100000 in
set_option maxHeartbeats 4000000 in
theorem w_X9_births_4 {p : Program} {l : Launch} {e : Env} {s : State} {m : MethodId} {args : Array Value} {below : List Frame} {meth : Method} {c : Code} {G : Gx} {r : Int32} {h' : Mem} (X : CX G p s m args c cX9_births 4 RX9) (hr : meth.sig.returnType = (Option.some Jvm.ClassFile.FieldType.int)) (hk : meth.locks = false) (N : Nat) : ∀ (n : Nat) (v0 : Nat) (v1 : Int32) (v2 : Int32) (h : Mem), f_X9_births_4 N n v0 v1 v2 h = some (r, h') → ∀ (H : Heap) (locs : List Loc) (ls : Array Slot), MS G s h H locs 0 → lv_has ls 4 [(0, .ref (gB G + v0)), (1, .int v1), (2, .int v2)] → W p l e (rm_X9_births) s m args below meth c H locs 0 0 (QI G below args s r h' 0 0) (F0 m 4 ls []) := by
  intro n
  induction n with
  | zero =>
    intro v0 v1 v2 h hf
    cases hf
  | succ n ih =>
    intro v0 v1 v2 h hf H locs ls M hl
    rw [f_X9_births_4] at hf
    refine lv_iload_n X.1 X.2.1 dX9_births_4 rfl (lv_at hl 2 rfl) ?_
    refine lv_aload_n X.1 X.2.1 dX9_births_5 rfl (lv_at hl 0 rfl) ?_
    obtain ⟨t1, q2, hf⟩ := bnd hf
    refine x_getr fl_X9_17 X M q2 dX9_births_6 ?_
    obtain ⟨t3, q4, hf⟩ := bnd hf
    refine x_geti fl_X9_88 X M q4 dX9_births_9 ?_
    refine lv_icmp_ge (tgt := 62) X.1 X.2.1 dX9_births_12 (by decide) (fun c5 => ?_) (fun c5 => ?_)
    · have hf := ifp c5 hf
      refine lv_iload_n X.1 X.2.1 dX9_births_62 rfl (lv_at hl 1 rfl) ?_
      obtain ⟨rfl, rfl⟩ := rt2 hf
      exact x_iret X hr hk M dX9_births_63
    · have hf := ifn c5 hf
      refine lv_aload_n X.1 X.2.1 dX9_births_15 rfl (lv_at hl 0 rfl) ?_
      obtain ⟨t6, q7, hf⟩ := bnd hf
      refine x_getr fl_X9_17 X M q7 dX9_births_16 ?_
      refine lv_iload_n X.1 X.2.1 dX9_births_19 rfl (lv_at hl 2 rfl) ?_
      obtain ⟨⟨⟩, q8, hf⟩ := bnd hf
      obtain ⟨t11, h10, q9, hf⟩ := bnd2 hf
      refine x_callVi (As := [.int v2]) cf_X9_334 (c_X1_doubledSort l G N t6 v2 h _ _ q9) rfl ⟨rfl, rfl, Nat.le_of_ble_eq_true rfl, Nat.le_of_ble_eq_true rfl⟩ ⟨Nat.le_of_ble_eq_true rfl, Nat.le_of_ble_eq_true rfl⟩ X M (x_recv cls_X1 X M q8) rfl rfl hl.1 (Nat.le_of_ble_eq_true rfl) dX9_births_20 (fun H locs M => ?_)
      refine lv_istore_n (lv' := [(3, .int t11), (0, .ref (gB G + v0)), (1, .int v1), (2, .int v2)]) X.1 X.2.1 dX9_births_23 rfl hl (by decide) rfl (fun ls hl => ?_)
      refine lv_iload_n X.1 X.2.1 dX9_births_24 rfl (lv_at hl 0 rfl) ?_
      refine lv_if_lt (tgt := 56) X.1 X.2.1 dX9_births_25 (by decide) (fun c12 => ?_) (fun c12 => ?_)
      · have hf := ifp c12 hf
        refine lv_iinc (v := (v2 + 1)) (lv' := [(2, .int (v2 + 1)), (3, .int t11), (0, .ref (gB G + v0)), (1, .int v1)]) X.1 X.2.1 dX9_births_56 hl (k := 3) rfl (by first | rfl | decide) (by decide) rfl (fun ls hl => ?_)
        refine lv_goto (tgt := 4) X.1 X.2.1 dX9_births_59 (by decide) ?_
        exact ih v0 v1 (v2 + 1) h10 hf _ _ _ M (lv_sub hl [2, 3, 0] rfl)
      · have hf := ifn c12 hf
        refine lv_aload_n X.1 X.2.1 dX9_births_28 rfl (lv_at hl 1 rfl) ?_
        obtain ⟨t13, q14, hf⟩ := bnd hf
        refine x_getr fl_X9_17 X M q14 dX9_births_29 ?_
        refine lv_iload_n X.1 X.2.1 dX9_births_32 rfl (lv_at hl 3 rfl) ?_
        obtain ⟨⟨⟩, q15, hf⟩ := bnd hf
        obtain ⟨t18, h17, q16, hf⟩ := bnd2 hf
        refine x_callVi (As := [.int v2]) cf_X9_100 (c_X1_hasRoom l G N t13 v2 h10 _ _ q16) rfl ⟨rfl, rfl, Nat.le_of_ble_eq_true rfl, Nat.le_of_ble_eq_true rfl⟩ ⟨Nat.le_of_ble_eq_true rfl, Nat.le_of_ble_eq_true rfl⟩ X M (x_recv cls_X1 X M q15) rfl rfl hl.1 (Nat.le_of_ble_eq_true rfl) dX9_births_33 (fun H locs M => ?_)
        refine lv_if_eq (tgt := 56) X.1 X.2.1 dX9_births_36 (by decide) (fun c19 => ?_) (fun c19 => ?_)
        · have hf := ifp c19 hf
          refine lv_iinc (v := (v2 + 1)) (lv' := [(2, .int (v2 + 1)), (3, .int t11), (0, .ref (gB G + v0)), (1, .int v1)]) X.1 X.2.1 dX9_births_56 hl (k := 3) rfl (by first | rfl | decide) (by decide) rfl (fun ls hl => ?_)
          refine lv_goto (tgt := 4) X.1 X.2.1 dX9_births_59 (by decide) ?_
          exact ih v0 v1 (v2 + 1) h17 hf _ _ _ M (lv_sub hl [2, 3, 0] rfl)
        · have hf := ifn c19 hf
          refine lv_aload_n X.1 X.2.1 dX9_births_39 rfl (lv_at hl 1 rfl) ?_
          obtain ⟨t20, q21, hf⟩ := bnd hf
          refine x_getr fl_X9_17 X M q21 dX9_births_40 ?_
          refine lv_iload_n X.1 X.2.1 dX9_births_43 rfl (lv_at hl 0 rfl) ?_
          refine lv_bipush (v := (10 : Int32)) X.1 X.2.1 dX9_births_44 (by decide) ?_
          refine lv_iload_n X.1 X.2.1 dX9_births_46 rfl (lv_at hl 3 rfl) ?_
          obtain ⟨⟨⟩, q22, hf⟩ := bnd hf
          obtain ⟨t25, h24, q23, hf⟩ := bnd2 hf
          refine x_callVi (As := [.int t11, .int (10 : Int32), .int v2]) cf_X9_103 (c_X1_join l G N t20 t11 (10 : Int32) v2 h17 _ _ q23) rfl ⟨rfl, rfl, Nat.le_of_ble_eq_true rfl, Nat.le_of_ble_eq_true rfl⟩ ⟨Nat.le_of_ble_eq_true rfl, Nat.le_of_ble_eq_true rfl⟩ X M (x_recv cls_X1 X M q22) rfl rfl hl.1 (Nat.le_of_ble_eq_true rfl) dX9_births_47 (fun H locs M => ?_)
          refine lv_if_lt (tgt := 56) X.1 X.2.1 dX9_births_50 (by decide) (fun c26 => ?_) (fun c26 => ?_)
          · have hf := ifp c26 hf
            refine lv_iinc (v := (v2 + 1)) (lv' := [(2, .int (v2 + 1)), (3, .int t11), (0, .ref (gB G + v0)), (1, .int v1)]) X.1 X.2.1 dX9_births_56 hl (k := 3) rfl (by first | rfl | decide) (by decide) rfl (fun ls hl => ?_)
            refine lv_goto (tgt := 4) X.1 X.2.1 dX9_births_59 (by decide) ?_
            exact ih v0 v1 (v2 + 1) h24 hf _ _ _ M (lv_sub hl [2, 3, 0] rfl)
          · have hf := ifn c26 hf
            refine lv_iinc (v := (v1 + 1)) (lv' := [(1, .int (v1 + 1)), (3, .int t11), (0, .ref (gB G + v0)), (2, .int v2)]) X.1 X.2.1 dX9_births_53 hl (k := 2) rfl (by first | rfl | decide) (by decide) rfl (fun ls hl => ?_)
            refine lv_iinc (v := (v2 + 1)) (lv' := [(2, .int (v2 + 1)), (1, .int (v1 + 1)), (3, .int t11), (0, .ref (gB G + v0))]) X.1 X.2.1 dX9_births_56 hl (k := 3) rfl (by first | rfl | decide) (by decide) rfl (fun ls hl => ?_)
            refine lv_goto (tgt := 4) X.1 X.2.1 dX9_births_59 (by decide) ?_
            exact ih v0 (v1 + 1) (v2 + 1) h24 hf _ _ _ M (lv_sub hl [3, 1, 0] rfl)
def f_X9_births (N : Nat) (v0 : Nat) (h : Mem) : Option (Int32 × Mem) :=
  f_X9_births_4 N N v0 (0 : Int32) (0 : Int32) h
set_option maxRecDepth 100000 in
set_option maxHeartbeats 4000000 in
theorem w_X9_births {p : Program} {l : Launch} {e : Env} {s : State} {m : MethodId} {args : Array Value} {below : List Frame} {meth : Method} {c : Code} {G : Gx} {r : Int32} {h' : Mem} (X : CX G p s m args c cX9_births 4 RX9) (hr : meth.sig.returnType = (Option.some Jvm.ClassFile.FieldType.int)) (hk : meth.locks = false) (N : Nat) : ∀ (v0 : Nat) (h : Mem), f_X9_births N v0 h = some (r, h') → ∀ (H : Heap) (locs : List Loc) (ls : Array Slot), MS G s h H locs 0 → lv_has ls 4 [(0, .ref (gB G + v0))] → W p l e (rm_X9_births) s m args below meth c H locs 0 0 (QI G below args s r h' 0 0) (F0 m 0 ls []) := by
  intro v0 h hf H locs ls M hl
  rw [f_X9_births] at hf
  refine lv_iconst (v := (0 : Int32)) X.1 X.2.1 dX9_births_0 (by decide) ?_
  refine lv_istore_n (lv' := [(1, .int (0 : Int32)), (0, .ref (gB G + v0))]) X.1 X.2.1 dX9_births_1 rfl hl (by decide) rfl (fun ls hl => ?_)
  refine lv_iconst (v := (0 : Int32)) X.1 X.2.1 dX9_births_2 (by decide) ?_
  refine lv_istore_n (lv' := [(2, .int (0 : Int32)), (1, .int (0 : Int32)), (0, .ref (gB G + v0))]) X.1 X.2.1 dX9_births_3 rfl hl (by decide) rfl (fun ls hl => ?_)
  exact w_X9_births_4 X hr hk N N v0 (0 : Int32) (0 : Int32) h hf _ _ _ M (lv_sub hl [2, 1, 0] rfl)
theorem c_X9_births (l : Launch) (G : Gx) (N : Nat) (v0 : Nat) (h : Mem) (r : Int32) (h' : Mem) (hf : f_X9_births N v0 h = some (r, h')) : MetG l G yX9_births (.code yX9_births cX9_births 4 (Option.some Jvm.ClassFile.FieldType.int)) rm_X9_births [.ref (gB G + v0)] h (QcI G r h') 0 0 :=
  x_met (by decide) rfl (Nat.le_of_ble_eq_true rfl) (fun p e s m args below meth c ls X M hr hk hin hl => w_X9_births X hr hk N v0 h hf _ _ ls M hl)
abbrev rm_X9_year : Room := { frames := 4, cells := 0, slots := 0, locals := 107 }
def f_X9_year_28 (N : Nat) (n : Nat) (v0 : Nat) (v1 : Int32) (v2 : Int32) (h : Mem) : Option (Int32 × Mem) := match n with
  | 0 => none
  | n + 1 =>
    (gR h v0 9 0).bind fun t1 =>
    (gI h t1 1 2).bind fun t3 =>
    if t3 ≤ v2 then
      (gI h v0 9 13).bind fun t6 =>
      (sI h v0 9 13 (t6 + (1 : Int32))).bind fun h8 =>
      (ck h8 v0 9).bind fun _ =>
      b2 (f_X9_births N v0 h8) fun t13 h12 =>
      some (t13, h12)
    else
      (gR h v0 9 0).bind fun t14 =>
      (gR h t14 1 9).bind fun t16 =>
      (lI 100 h t16 v2).bind fun t18 =>
      (gI h v0 9 13).bind fun t20 =>
      (gR h v0 9 0).bind fun t22 =>
      (gR h t22 1 9).bind fun t24 =>
      (stI 100 h t24 v2 (if (1 : Int32) < (if ((t18 + (((((13 : Int32) * v2) + ((7 : Int32) * t20)) + v1) - ((((13 : Int32) * v2) + ((7 : Int32) * t20)) + v1) / (5 : Int32) * (5 : Int32))) - (2 : Int32)) < (99 : Int32) then ((t18 + (((((13 : Int32) * v2) + ((7 : Int32) * t20)) + v1) - ((((13 : Int32) * v2) + ((7 : Int32) * t20)) + v1) / (5 : Int32) * (5 : Int32))) - (2 : Int32)) else (99 : Int32)) then (if ((t18 + (((((13 : Int32) * v2) + ((7 : Int32) * t20)) + v1) - ((((13 : Int32) * v2) + ((7 : Int32) * t20)) + v1) / (5 : Int32) * (5 : Int32))) - (2 : Int32)) < (99 : Int32) then ((t18 + (((((13 : Int32) * v2) + ((7 : Int32) * t20)) + v1) - ((((13 : Int32) * v2) + ((7 : Int32) * t20)) + v1) / (5 : Int32) * (5 : Int32))) - (2 : Int32)) else (99 : Int32)) else (1 : Int32))).bind fun h26 =>
      f_X9_year_28 N n v0 v1 (v2 + 1) h26
set_option maxRecDepth 100000 in
set_option maxHeartbeats 4000000 in
theorem w_X9_year_28 {p : Program} {l : Launch} {e : Env} {s : State} {m : MethodId} {args : Array Value} {below : List Frame} {meth : Method} {c : Code} {G : Gx} {r : Int32} {h' : Mem} (X : CX G p s m args c cX9_year 4 RX9) (hr : meth.sig.returnType = (Option.some Jvm.ClassFile.FieldType.int)) (hk : meth.locks = false) (N : Nat) : ∀ (n : Nat) (v0 : Nat) (v1 : Int32) (v2 : Int32) (h : Mem), f_X9_year_28 N n v0 v1 v2 h = some (r, h') → ∀ (H : Heap) (locs : List Loc) (ls : Array Slot), MS G s h H locs 0 → lv_has ls 4 [(0, .ref (gB G + v0)), (1, .int v1), (2, .int v2)] → W p l e (rm_X9_year) s m args below meth c H locs 0 0 (QI G below args s r h' 0 0) (F0 m 28 ls []) := by
  intro n
  induction n with
  | zero =>
    intro v0 v1 v2 h hf
    cases hf
  | succ n ih =>
    intro v0 v1 v2 h hf H locs ls M hl
    rw [f_X9_year_28] at hf
    refine lv_iload_n X.1 X.2.1 dX9_year_28 rfl (lv_at hl 2 rfl) ?_
    refine lv_aload_n X.1 X.2.1 dX9_year_29 rfl (lv_at hl 0 rfl) ?_
    obtain ⟨t1, q2, hf⟩ := bnd hf
    refine x_getr fl_X9_17 X M q2 dX9_year_30 ?_
    obtain ⟨t3, q4, hf⟩ := bnd hf
    refine x_geti fl_X9_202 X M q4 dX9_year_33 ?_
    refine lv_icmp_ge (tgt := 93) X.1 X.2.1 dX9_year_36 (by decide) (fun c5 => ?_) (fun c5 => ?_)
    · have hf := ifp c5 hf
      refine lv_aload_n X.1 X.2.1 dX9_year_93 rfl (lv_at hl 0 rfl) ?_
      refine lv_dup X.1 X.2.1 dX9_year_94 rfl ?_
      obtain ⟨t6, q7, hf⟩ := bnd hf
      refine x_geti fl_X9_275 X M q7 dX9_year_95 ?_
      refine lv_iconst (v := (1 : Int32)) X.1 X.2.1 dX9_year_98 (by decide) ?_
      refine lv_iadd X.1 X.2.1 dX9_year_99 ?_
      obtain ⟨h8, q9, hf⟩ := bnd hf
      refine x_puti fl_X9_275 fp_X9_275.1 fp_X9_275.2 X M q9 dX9_year_100 (fun H locs M => ?_)
      refine lv_aload_n X.1 X.2.1 dX9_year_103 rfl (lv_at hl 0 rfl) ?_
      obtain ⟨⟨⟩, q10, hf⟩ := bnd hf
      obtain ⟨t13, h12, q11, hf⟩ := bnd2 hf
      refine x_callVi (As := []) cf_X9_286 (c_X9_births l G N v0 h8 _ _ q11) rfl ⟨rfl, rfl, Nat.le_of_ble_eq_true rfl, Nat.le_of_ble_eq_true rfl⟩ ⟨Nat.le_of_ble_eq_true rfl, Nat.le_of_ble_eq_true rfl⟩ X M (x_recv cls_X9 X M q10) rfl rfl hl.1 (Nat.le_of_ble_eq_true rfl) dX9_year_104 (fun H locs M => ?_)
      obtain ⟨rfl, rfl⟩ := rt2 hf
      exact x_iret X hr hk M dX9_year_107
    · have hf := ifn c5 hf
      refine lv_aload_n X.1 X.2.1 dX9_year_39 rfl (lv_at hl 0 rfl) ?_
      obtain ⟨t14, q15, hf⟩ := bnd hf
      refine x_getr fl_X9_17 X M q15 dX9_year_40 ?_
      obtain ⟨t16, q17, hf⟩ := bnd hf
      refine x_getr fl_X9_134 X M q17 dX9_year_43 ?_
      refine lv_iload_n X.1 X.2.1 dX9_year_46 rfl (lv_at hl 2 rfl) ?_
      obtain ⟨t18, q19, hf⟩ := bnd hf
      refine x_iald X M q19 dX9_year_47 ?_
      refine lv_bipush (v := (13 : Int32)) X.1 X.2.1 dX9_year_48 (by decide) ?_
      refine lv_iload_n X.1 X.2.1 dX9_year_50 rfl (lv_at hl 2 rfl) ?_
      refine lv_imul X.1 X.2.1 dX9_year_51 ?_
      refine lv_bipush (v := (7 : Int32)) X.1 X.2.1 dX9_year_52 (by decide) ?_
      refine lv_aload_n X.1 X.2.1 dX9_year_54 rfl (lv_at hl 0 rfl) ?_
      obtain ⟨t20, q21, hf⟩ := bnd hf
      refine x_geti fl_X9_275 X M q21 dX9_year_55 ?_
      refine lv_imul X.1 X.2.1 dX9_year_58 ?_
      refine lv_iadd X.1 X.2.1 dX9_year_59 ?_
      refine lv_iload_n X.1 X.2.1 dX9_year_60 rfl (lv_at hl 1 rfl) ?_
      refine lv_iadd X.1 X.2.1 dX9_year_61 ?_
      refine lv_iconst (v := (5 : Int32)) X.1 X.2.1 dX9_year_62 (by decide) ?_
      refine lv_irem X.1 X.2.1 dX9_year_63 (by decide) ?_
      refine lv_iadd X.1 X.2.1 dX9_year_64 ?_
      refine lv_iconst (v := (2 : Int32)) X.1 X.2.1 dX9_year_65 (by decide) ?_
      refine lv_isub X.1 X.2.1 dX9_year_66 ?_
      refine lv_istore_n (lv' := [(3, .int ((t18 + (((((13 : Int32) * v2) + ((7 : Int32) * t20)) + v1) - ((((13 : Int32) * v2) + ((7 : Int32) * t20)) + v1) / (5 : Int32) * (5 : Int32))) - (2 : Int32))), (0, .ref (gB G + v0)), (1, .int v1), (2, .int v2)]) X.1 X.2.1 dX9_year_67 rfl hl (by decide) rfl (fun ls hl => ?_)
      refine lv_aload_n X.1 X.2.1 dX9_year_68 rfl (lv_at hl 1 rfl) ?_
      obtain ⟨t22, q23, hf⟩ := bnd hf
      refine x_getr fl_X9_17 X M q23 dX9_year_69 ?_
      obtain ⟨t24, q25, hf⟩ := bnd hf
      refine x_getr fl_X9_134 X M q25 dX9_year_72 ?_
      refine lv_iload_n X.1 X.2.1 dX9_year_75 rfl (lv_at hl 3 rfl) ?_
      refine lv_iconst (v := (1 : Int32)) X.1 X.2.1 dX9_year_76 (by decide) ?_
      refine lv_bipush (v := (99 : Int32)) X.1 X.2.1 dX9_year_77 (by decide) ?_
      refine lv_iload_n X.1 X.2.1 dX9_year_79 rfl (lv_at hl 0 rfl) ?_
      refine va_mmin X.1 X.2.1 (X.2.2.1.trans hl.1.symm) X.2.2.2.1 (X.2.2.2.2.1 _ k_862) (X.2.2.2.2.1 _ k_510) (X.2.2.2.2.1 _ k_11) (X.2.2.2.2.1 _ k_511) (Nat.le_of_ble_eq_true rfl) (Nat.le_of_ble_eq_true rfl) (Nat.le_of_ble_eq_true rfl) (Nat.le_of_ble_eq_true rfl) dX9_year_80 ?_
      refine va_mmax X.1 X.2.1 (X.2.2.1.trans hl.1.symm) X.2.2.2.1 (X.2.2.2.2.1 _ k_863) (X.2.2.2.2.1 _ k_507) (X.2.2.2.2.1 _ k_11) (X.2.2.2.2.1 _ k_508) (Nat.le_of_ble_eq_true rfl) (Nat.le_of_ble_eq_true rfl) (Nat.le_of_ble_eq_true rfl) (Nat.le_of_ble_eq_true rfl) dX9_year_83 ?_
      obtain ⟨h26, q27, hf⟩ := bnd hf
      refine x_iast X M q27 dX9_year_86 (fun H locs M => ?_)
      refine lv_iinc (v := (v2 + 1)) (lv' := [(2, .int (v2 + 1)), (3, .int ((t18 + (((((13 : Int32) * v2) + ((7 : Int32) * t20)) + v1) - ((((13 : Int32) * v2) + ((7 : Int32) * t20)) + v1) / (5 : Int32) * (5 : Int32))) - (2 : Int32))), (0, .ref (gB G + v0)), (1, .int v1)]) X.1 X.2.1 dX9_year_87 hl (k := 3) rfl (by first | rfl | decide) (by decide) rfl (fun ls hl => ?_)
      refine lv_goto (tgt := 28) X.1 X.2.1 dX9_year_90 (by decide) ?_
      exact ih v0 v1 (v2 + 1) h26 hf _ _ _ M (lv_sub hl [2, 3, 0] rfl)
def f_X9_year (N : Nat) (v0 : Nat) (v1 : Int32) (h : Mem) : Option (Int32 × Mem) :=
  b2 (f_X9_within N v1 (0 : Int32) (999 : Int32) h) fun t3 h2 =>
  if t3 = 0 then
    some ((-2 : Int32), h2)
  else
    (gI h2 v0 9 13).bind fun t5 =>
    if t5 < (99 : Int32) then
      f_X9_year_28 N N v0 v1 (0 : Int32) h2
    else
      some ((-3 : Int32), h2)
set_option maxRecDepth 100000 in
set_option maxHeartbeats 4000000 in
theorem w_X9_year {p : Program} {l : Launch} {e : Env} {s : State} {m : MethodId} {args : Array Value} {below : List Frame} {meth : Method} {c : Code} {G : Gx} {r : Int32} {h' : Mem} (X : CX G p s m args c cX9_year 4 RX9) (hr : meth.sig.returnType = (Option.some Jvm.ClassFile.FieldType.int)) (hk : meth.locks = false) (N : Nat) : ∀ (v0 : Nat) (v1 : Int32) (h : Mem), f_X9_year N v0 v1 h = some (r, h') → ∀ (H : Heap) (locs : List Loc) (ls : Array Slot), MS G s h H locs 0 → lv_has ls 4 [(0, .ref (gB G + v0)), (1, .int v1)] → W p l e (rm_X9_year) s m args below meth c H locs 0 0 (QI G below args s r h' 0 0) (F0 m 0 ls []) := by
  intro v0 v1 h hf H locs ls M hl
  rw [f_X9_year] at hf
  refine lv_iload_n X.1 X.2.1 dX9_year_0 rfl (lv_at hl 1 rfl) ?_
  refine lv_iconst (v := (0 : Int32)) X.1 X.2.1 dX9_year_1 (by decide) ?_
  refine lv_sipush (v := (999 : Int32)) X.1 X.2.1 dX9_year_2 (by decide) ?_
  obtain ⟨t3, h2, q1, hf⟩ := bnd2 hf
  refine x_callSi (As := [.int v1, .int (0 : Int32), .int (999 : Int32)]) cf_X9_84 (c_X9_within l G N v1 (0 : Int32) (999 : Int32) h _ _ q1) rfl ⟨rfl, rfl, Nat.le_of_ble_eq_true rfl, Nat.le_of_ble_eq_true rfl⟩ ⟨Nat.le_of_ble_eq_true rfl, Nat.le_of_ble_eq_true rfl⟩ X M rfl rfl hl.1 (Nat.le_of_ble_eq_true rfl) dX9_year_5 (fun H locs M => ?_)
  refine lv_if_ne (tgt := 14) X.1 X.2.1 dX9_year_8 (by decide) (fun c4 => ?_) (fun c4 => ?_)
  · have hf := ifn c4 hf
    refine lv_aload_n X.1 X.2.1 dX9_year_14 rfl (lv_at hl 0 rfl) ?_
    obtain ⟨t5, q6, hf⟩ := bnd hf
    refine x_geti fl_X9_275 X M q6 dX9_year_15 ?_
    refine lv_bipush (v := (99 : Int32)) X.1 X.2.1 dX9_year_18 (by decide) ?_
    refine lv_icmp_lt (tgt := 26) X.1 X.2.1 dX9_year_20 (by decide) (fun c7 => ?_) (fun c7 => ?_)
    · have hf := ifp c7 hf
      refine lv_iconst (v := (0 : Int32)) X.1 X.2.1 dX9_year_26 (by decide) ?_
      refine lv_istore_n (lv' := [(2, .int (0 : Int32)), (0, .ref (gB G + v0)), (1, .int v1)]) X.1 X.2.1 dX9_year_27 rfl hl (by decide) rfl (fun ls hl => ?_)
      exact w_X9_year_28 X hr hk N N v0 v1 (0 : Int32) h2 hf _ _ _ M (lv_sub hl [1, 2, 0] rfl)
    · have hf := ifn c7 hf
      refine lv_bipush (v := (-3 : Int32)) X.1 X.2.1 dX9_year_23 (by decide) ?_
      obtain ⟨rfl, rfl⟩ := rt2 hf
      exact x_iret X hr hk M dX9_year_25
  · have hf := ifp c4 hf
    refine lv_bipush (v := (-2 : Int32)) X.1 X.2.1 dX9_year_11 (by decide) ?_
    obtain ⟨rfl, rfl⟩ := rt2 hf
    exact x_iret X hr hk M dX9_year_13
theorem c_X9_year (l : Launch) (G : Gx) (N : Nat) (v0 : Nat) (v1 : Int32) (h : Mem) (r : Int32) (h' : Mem) (hf : f_X9_year N v0 v1 h = some (r, h')) : MetG l G yX9_year (.code yX9_year cX9_year 4 (Option.some Jvm.ClassFile.FieldType.int)) rm_X9_year [.ref (gB G + v0), .int v1] h (QcI G r h') 0 0 :=
  x_met (by decide) rfl (Nat.le_of_ble_eq_true rfl) (fun p e s m args below meth c ls X M hr hk hin hl => w_X9_year X hr hk N v0 v1 h hf _ _ ls M hl)
abbrev rm_X9_act : Room := { frames := 65, cells := 0, slots := 0, locals := 2070 }
def f_X9_act (N : Nat) (v0 : Nat) (v1 : Int32) (v2 : Int32) (v3 : Int32) (h : Mem) : Option (Int32 × Mem) :=
  (gR h v0 9 8).bind fun t1 =>
  (gR h v0 9 0).bind fun t3 =>
  (gI h t3 1 2).bind fun t5 =>
  (gR h v0 9 0).bind fun t7 =>
  (gI h t7 1 1).bind fun t9 =>
  (ck h t1 0).bind fun _ =>
  (f_X0_forget N t1 t5 t9 h).bind fun h13 =>
  b2 (f_X9_within N v1 (0 : Int32) (5 : Int32) h13) fun t16 h15 =>
  if t16 = 0 then
    some ((0 : Int32), h15)
  else
    b2 (f_X9_within N v2 (0 : Int32) (2 : Int32) h15) fun t20 h19 =>
    if t20 = 0 then
      some ((0 : Int32), h19)
    else
      (gR h19 v0 9 8).bind fun t22 =>
      (ck h19 t22 0).bind fun _ =>
      b2 (f_X0_done N t22 v1 v2 v3 h19) fun t27 h26 =>
      some (t27, h26)
set_option maxRecDepth 100000 in
set_option maxHeartbeats 4000000 in
theorem w_X9_act {p : Program} {l : Launch} {e : Env} {s : State} {m : MethodId} {args : Array Value} {below : List Frame} {meth : Method} {c : Code} {G : Gx} {r : Int32} {h' : Mem} (X : CX G p s m args c cX9_act 4 RX9) (hr : meth.sig.returnType = (Option.some Jvm.ClassFile.FieldType.int)) (hk : meth.locks = false) (N : Nat) : ∀ (v0 : Nat) (v1 : Int32) (v2 : Int32) (v3 : Int32) (h : Mem), f_X9_act N v0 v1 v2 v3 h = some (r, h') → ∀ (H : Heap) (locs : List Loc) (ls : Array Slot), MS G s h H locs 0 → lv_has ls 4 [(0, .ref (gB G + v0)), (1, .int v1), (2, .int v2), (3, .int v3)] → W p l e (rm_X9_act) s m args below meth c H locs 0 0 (QI G below args s r h' 0 0) (F0 m 0 ls []) := by
  intro v0 v1 v2 v3 h hf H locs ls M hl
  rw [f_X9_act] at hf
  refine lv_aload_n X.1 X.2.1 dX9_act_0 rfl (lv_at hl 0 rfl) ?_
  obtain ⟨t1, q2, hf⟩ := bnd hf
  refine x_getr fl_X9_67 X M q2 dX9_act_1 ?_
  refine lv_aload_n X.1 X.2.1 dX9_act_4 rfl (lv_at hl 0 rfl) ?_
  obtain ⟨t3, q4, hf⟩ := bnd hf
  refine x_getr fl_X9_17 X M q4 dX9_act_5 ?_
  obtain ⟨t5, q6, hf⟩ := bnd hf
  refine x_geti fl_X9_202 X M q6 dX9_act_8 ?_
  refine lv_aload_n X.1 X.2.1 dX9_act_11 rfl (lv_at hl 0 rfl) ?_
  obtain ⟨t7, q8, hf⟩ := bnd hf
  refine x_getr fl_X9_17 X M q8 dX9_act_12 ?_
  obtain ⟨t9, q10, hf⟩ := bnd hf
  refine x_geti fl_X9_88 X M q10 dX9_act_15 ?_
  obtain ⟨⟨⟩, q11, hf⟩ := bnd hf
  obtain ⟨h13, q12, hf⟩ := bnd hf
  refine x_callVv (As := [.int t5, .int t9]) cf_X9_289 (c_X0_forget l G N t1 t5 t9 h _ q12) rfl ⟨rfl, rfl, Nat.le_of_ble_eq_true rfl, Nat.le_of_ble_eq_true rfl⟩ ⟨Nat.le_of_ble_eq_true rfl, Nat.le_of_ble_eq_true rfl⟩ X M (x_recv cls_X0 X M q11) rfl rfl hl.1 (Nat.le_of_ble_eq_true rfl) dX9_act_18 (fun H locs M => ?_)
  refine lv_iload_n X.1 X.2.1 dX9_act_21 rfl (lv_at hl 1 rfl) ?_
  refine lv_iconst (v := (0 : Int32)) X.1 X.2.1 dX9_act_22 (by decide) ?_
  refine lv_iconst (v := (5 : Int32)) X.1 X.2.1 dX9_act_23 (by decide) ?_
  obtain ⟨t16, h15, q14, hf⟩ := bnd2 hf
  refine x_callSi (As := [.int v1, .int (0 : Int32), .int (5 : Int32)]) cf_X9_84 (c_X9_within l G N v1 (0 : Int32) (5 : Int32) h13 _ _ q14) rfl ⟨rfl, rfl, Nat.le_of_ble_eq_true rfl, Nat.le_of_ble_eq_true rfl⟩ ⟨Nat.le_of_ble_eq_true rfl, Nat.le_of_ble_eq_true rfl⟩ X M rfl rfl hl.1 (Nat.le_of_ble_eq_true rfl) dX9_act_24 (fun H locs M => ?_)
  refine lv_if_eq (tgt := 39) X.1 X.2.1 dX9_act_27 (by decide) (fun c17 => ?_) (fun c17 => ?_)
  · have hf := ifp c17 hf
    refine lv_iconst (v := (0 : Int32)) X.1 X.2.1 dX9_act_39 (by decide) ?_
    obtain ⟨rfl, rfl⟩ := rt2 hf
    exact x_iret X hr hk M dX9_act_40
  · have hf := ifn c17 hf
    refine lv_iload_n X.1 X.2.1 dX9_act_30 rfl (lv_at hl 2 rfl) ?_
    refine lv_iconst (v := (0 : Int32)) X.1 X.2.1 dX9_act_31 (by decide) ?_
    refine lv_iconst (v := (2 : Int32)) X.1 X.2.1 dX9_act_32 (by decide) ?_
    obtain ⟨t20, h19, q18, hf⟩ := bnd2 hf
    refine x_callSi (As := [.int v2, .int (0 : Int32), .int (2 : Int32)]) cf_X9_84 (c_X9_within l G N v2 (0 : Int32) (2 : Int32) h15 _ _ q18) rfl ⟨rfl, rfl, Nat.le_of_ble_eq_true rfl, Nat.le_of_ble_eq_true rfl⟩ ⟨Nat.le_of_ble_eq_true rfl, Nat.le_of_ble_eq_true rfl⟩ X M rfl rfl hl.1 (Nat.le_of_ble_eq_true rfl) dX9_act_33 (fun H locs M => ?_)
    refine lv_if_ne (tgt := 41) X.1 X.2.1 dX9_act_36 (by decide) (fun c21 => ?_) (fun c21 => ?_)
    · have hf := ifn c21 hf
      refine lv_aload_n X.1 X.2.1 dX9_act_41 rfl (lv_at hl 0 rfl) ?_
      obtain ⟨t22, q23, hf⟩ := bnd hf
      refine x_getr fl_X9_67 X M q23 dX9_act_42 ?_
      refine lv_iload_n X.1 X.2.1 dX9_act_45 rfl (lv_at hl 1 rfl) ?_
      refine lv_iload_n X.1 X.2.1 dX9_act_46 rfl (lv_at hl 2 rfl) ?_
      refine lv_iload_n X.1 X.2.1 dX9_act_47 rfl (lv_at hl 3 rfl) ?_
      obtain ⟨⟨⟩, q24, hf⟩ := bnd hf
      obtain ⟨t27, h26, q25, hf⟩ := bnd2 hf
      refine x_callVi (As := [.int v1, .int v2, .int v3]) cf_X9_293 (c_X0_done l G N t22 v1 v2 v3 h19 _ _ q25) rfl ⟨rfl, rfl, Nat.le_of_ble_eq_true rfl, Nat.le_of_ble_eq_true rfl⟩ ⟨Nat.le_of_ble_eq_true rfl, Nat.le_of_ble_eq_true rfl⟩ X M (x_recv cls_X0 X M q24) rfl rfl hl.1 (Nat.le_of_ble_eq_true rfl) dX9_act_48 (fun H locs M => ?_)
      obtain ⟨rfl, rfl⟩ := rt2 hf
      exact x_iret X hr hk M dX9_act_51
    · have hf := ifp c21 hf
      refine lv_iconst (v := (0 : Int32)) X.1 X.2.1 dX9_act_39 (by decide) ?_
      obtain ⟨rfl, rfl⟩ := rt2 hf
      exact x_iret X hr hk M dX9_act_40
theorem c_X9_act (l : Launch) (G : Gx) (N : Nat) (v0 : Nat) (v1 : Int32) (v2 : Int32) (v3 : Int32) (h : Mem) (r : Int32) (h' : Mem) (hf : f_X9_act N v0 v1 v2 v3 h = some (r, h')) : MetG l G yX9_act (.code yX9_act cX9_act 4 (Option.some Jvm.ClassFile.FieldType.int)) rm_X9_act [.ref (gB G + v0), .int v1, .int v2, .int v3] h (QcI G r h') 0 0 :=
  x_met (by decide) rfl (Nat.le_of_ble_eq_true rfl) (fun p e s m args below meth c ls X M hr hk hin hl => w_X9_act X hr hk N v0 v1 v2 v3 h hf _ _ ls M hl)
abbrev rm_X9_trace : Room := { frames := 1, cells := 0, slots := 0, locals := 40 }
def f_X9_trace (N : Nat) (v0 : Nat) (v1 : Int32) (h : Mem) : Option (Int32 × Mem) :=
  if v1 < 0 then
    some ((-1 : Int32), h)
  else
    if (20 : Int32) ≤ v1 then
      some ((-1 : Int32), h)
    else
      (gR h v0 9 8).bind fun t3 =>
      (gI h t3 0 1).bind fun t5 =>
      if t5 ≤ v1 then
        some ((-1 : Int32), h)
      else
        (gR h v0 9 8).bind fun t8 =>
        (gR h t8 0 0).bind fun t10 =>
        (lI 100 h t10 v1).bind fun t12 =>
        some (t12, h)
set_option maxRecDepth 100000 in
set_option maxHeartbeats 4000000 in
theorem w_X9_trace {p : Program} {l : Launch} {e : Env} {s : State} {m : MethodId} {args : Array Value} {below : List Frame} {meth : Method} {c : Code} {G : Gx} {r : Int32} {h' : Mem} (X : CX G p s m args c cX9_trace 2 RX9) (hr : meth.sig.returnType = (Option.some Jvm.ClassFile.FieldType.int)) (hk : meth.locks = false) (N : Nat) : ∀ (v0 : Nat) (v1 : Int32) (h : Mem), f_X9_trace N v0 v1 h = some (r, h') → ∀ (H : Heap) (locs : List Loc) (ls : Array Slot), MS G s h H locs 0 → lv_has ls 2 [(0, .ref (gB G + v0)), (1, .int v1)] → W p l e (rm_X9_trace) s m args below meth c H locs 0 0 (QI G below args s r h' 0 0) (F0 m 0 ls []) := by
  intro v0 v1 h hf H locs ls M hl
  rw [f_X9_trace] at hf
  refine lv_iload_n X.1 X.2.1 dX9_trace_0 rfl (lv_at hl 1 rfl) ?_
  refine lv_if_lt (tgt := 33) X.1 X.2.1 dX9_trace_1 (by decide) (fun c1 => ?_) (fun c1 => ?_)
  · have hf := ifp c1 hf
    refine lv_iconst (v := (-1 : Int32)) X.1 X.2.1 dX9_trace_33 (by decide) ?_
    obtain ⟨rfl, rfl⟩ := rt2 hf
    exact x_iret X hr hk M dX9_trace_34
  · have hf := ifn c1 hf
    refine lv_iload_n X.1 X.2.1 dX9_trace_4 rfl (lv_at hl 1 rfl) ?_
    refine lv_bipush (v := (20 : Int32)) X.1 X.2.1 dX9_trace_5 (by decide) ?_
    refine lv_icmp_ge (tgt := 33) X.1 X.2.1 dX9_trace_7 (by decide) (fun c2 => ?_) (fun c2 => ?_)
    · have hf := ifp c2 hf
      refine lv_iconst (v := (-1 : Int32)) X.1 X.2.1 dX9_trace_33 (by decide) ?_
      obtain ⟨rfl, rfl⟩ := rt2 hf
      exact x_iret X hr hk M dX9_trace_34
    · have hf := ifn c2 hf
      refine lv_iload_n X.1 X.2.1 dX9_trace_10 rfl (lv_at hl 1 rfl) ?_
      refine lv_aload_n X.1 X.2.1 dX9_trace_11 rfl (lv_at hl 0 rfl) ?_
      obtain ⟨t3, q4, hf⟩ := bnd hf
      refine x_getr fl_X9_67 X M q4 dX9_trace_12 ?_
      obtain ⟨t5, q6, hf⟩ := bnd hf
      refine x_geti fl_X9_296 X M q6 dX9_trace_15 ?_
      refine lv_icmp_ge (tgt := 33) X.1 X.2.1 dX9_trace_18 (by decide) (fun c7 => ?_) (fun c7 => ?_)
      · have hf := ifp c7 hf
        refine lv_iconst (v := (-1 : Int32)) X.1 X.2.1 dX9_trace_33 (by decide) ?_
        obtain ⟨rfl, rfl⟩ := rt2 hf
        exact x_iret X hr hk M dX9_trace_34
      · have hf := ifn c7 hf
        refine lv_aload_n X.1 X.2.1 dX9_trace_21 rfl (lv_at hl 0 rfl) ?_
        obtain ⟨t8, q9, hf⟩ := bnd hf
        refine x_getr fl_X9_67 X M q9 dX9_trace_22 ?_
        obtain ⟨t10, q11, hf⟩ := bnd hf
        refine x_getr fl_X9_299 X M q11 dX9_trace_25 ?_
        refine lv_iload_n X.1 X.2.1 dX9_trace_28 rfl (lv_at hl 1 rfl) ?_
        obtain ⟨t12, q13, hf⟩ := bnd hf
        refine x_iald X M q13 dX9_trace_29 ?_
        refine lv_goto (tgt := 34) X.1 X.2.1 dX9_trace_30 (by decide) ?_
        obtain ⟨rfl, rfl⟩ := rt2 hf
        exact x_iret X hr hk M dX9_trace_34
theorem c_X9_trace (l : Launch) (G : Gx) (N : Nat) (v0 : Nat) (v1 : Int32) (h : Mem) (r : Int32) (h' : Mem) (hf : f_X9_trace N v0 v1 h = some (r, h')) : MetG l G yX9_trace (.code yX9_trace cX9_trace 2 (Option.some Jvm.ClassFile.FieldType.int)) rm_X9_trace [.ref (gB G + v0), .int v1] h (QcI G r h') 0 0 :=
  x_met (by decide) rfl (Nat.le_of_ble_eq_true rfl) (fun p e s m args below meth c ls X M hr hk hin hl => w_X9_trace X hr hk N v0 v1 h hf _ _ ls M hl)
abbrev rm_X9_taken : Room := { frames := 2, cells := 0, slots := 0, locals := 63 }
def f_X9_taken (N : Nat) (v0 : Nat) (v1 : Int32) (v2 : Int32) (h : Mem) : Option (Int32 × Mem) :=
  b2 (f_X9_within N v2 (0 : Int32) (5 : Int32) h) fun t3 h2 =>
  if t3 = 0 then
    some ((-2 : Int32), h2)
  else
    b2 (f_X9_within N v1 (0 : Int32) (5 : Int32) h2) fun t7 h6 =>
    if t7 = 0 then
      some ((-11 : Int32), h6)
    else
      b2 (f_X6_isUnder N v1 v2 h6) fun t11 h10 =>
      if t11 = 0 then
        some ((-12 : Int32), h10)
      else
        some (v1, h10)
set_option maxRecDepth 100000 in
set_option maxHeartbeats 4000000 in
theorem w_X9_taken {p : Program} {l : Launch} {e : Env} {s : State} {m : MethodId} {args : Array Value} {below : List Frame} {meth : Method} {c : Code} {G : Gx} {r : Int32} {h' : Mem} (X : CX G p s m args c cX9_taken 3 RX9) (hr : meth.sig.returnType = (Option.some Jvm.ClassFile.FieldType.int)) (hk : meth.locks = false) (N : Nat) : ∀ (v0 : Nat) (v1 : Int32) (v2 : Int32) (h : Mem), f_X9_taken N v0 v1 v2 h = some (r, h') → ∀ (H : Heap) (locs : List Loc) (ls : Array Slot), MS G s h H locs 0 → lv_has ls 3 [(0, .ref (gB G + v0)), (1, .int v1), (2, .int v2)] → W p l e (rm_X9_taken) s m args below meth c H locs 0 0 (QI G below args s r h' 0 0) (F0 m 0 ls []) := by
  intro v0 v1 v2 h hf H locs ls M hl
  rw [f_X9_taken] at hf
  refine lv_iload_n X.1 X.2.1 dX9_taken_0 rfl (lv_at hl 2 rfl) ?_
  refine lv_iconst (v := (0 : Int32)) X.1 X.2.1 dX9_taken_1 (by decide) ?_
  refine lv_iconst (v := (5 : Int32)) X.1 X.2.1 dX9_taken_2 (by decide) ?_
  obtain ⟨t3, h2, q1, hf⟩ := bnd2 hf
  refine x_callSi (As := [.int v2, .int (0 : Int32), .int (5 : Int32)]) cf_X9_84 (c_X9_within l G N v2 (0 : Int32) (5 : Int32) h _ _ q1) rfl ⟨rfl, rfl, Nat.le_of_ble_eq_true rfl, Nat.le_of_ble_eq_true rfl⟩ ⟨Nat.le_of_ble_eq_true rfl, Nat.le_of_ble_eq_true rfl⟩ X M rfl rfl hl.1 (Nat.le_of_ble_eq_true rfl) dX9_taken_3 (fun H locs M => ?_)
  refine lv_if_ne (tgt := 12) X.1 X.2.1 dX9_taken_6 (by decide) (fun c4 => ?_) (fun c4 => ?_)
  · have hf := ifn c4 hf
    refine lv_iload_n X.1 X.2.1 dX9_taken_12 rfl (lv_at hl 1 rfl) ?_
    refine lv_iconst (v := (0 : Int32)) X.1 X.2.1 dX9_taken_13 (by decide) ?_
    refine lv_iconst (v := (5 : Int32)) X.1 X.2.1 dX9_taken_14 (by decide) ?_
    obtain ⟨t7, h6, q5, hf⟩ := bnd2 hf
    refine x_callSi (As := [.int v1, .int (0 : Int32), .int (5 : Int32)]) cf_X9_84 (c_X9_within l G N v1 (0 : Int32) (5 : Int32) h2 _ _ q5) rfl ⟨rfl, rfl, Nat.le_of_ble_eq_true rfl, Nat.le_of_ble_eq_true rfl⟩ ⟨Nat.le_of_ble_eq_true rfl, Nat.le_of_ble_eq_true rfl⟩ X M rfl rfl hl.1 (Nat.le_of_ble_eq_true rfl) dX9_taken_15 (fun H locs M => ?_)
    refine lv_if_ne (tgt := 24) X.1 X.2.1 dX9_taken_18 (by decide) (fun c8 => ?_) (fun c8 => ?_)
    · have hf := ifn c8 hf
      refine lv_iload_n X.1 X.2.1 dX9_taken_24 rfl (lv_at hl 1 rfl) ?_
      refine lv_iload_n X.1 X.2.1 dX9_taken_25 rfl (lv_at hl 2 rfl) ?_
      obtain ⟨t11, h10, q9, hf⟩ := bnd2 hf
      refine x_callSi (As := [.int v1, .int v2]) cf_X9_302 (c_X6_isUnder l G N v1 v2 h6 _ _ q9) rfl ⟨rfl, rfl, Nat.le_of_ble_eq_true rfl, Nat.le_of_ble_eq_true rfl⟩ ⟨Nat.le_of_ble_eq_true rfl, Nat.le_of_ble_eq_true rfl⟩ X M rfl rfl hl.1 (Nat.le_of_ble_eq_true rfl) dX9_taken_26 (fun H locs M => ?_)
      refine lv_if_eq (tgt := 36) X.1 X.2.1 dX9_taken_29 (by decide) (fun c12 => ?_) (fun c12 => ?_)
      · have hf := ifp c12 hf
        refine lv_bipush (v := (-12 : Int32)) X.1 X.2.1 dX9_taken_36 (by decide) ?_
        obtain ⟨rfl, rfl⟩ := rt2 hf
        exact x_iret X hr hk M dX9_taken_38
      · have hf := ifn c12 hf
        refine lv_iload_n X.1 X.2.1 dX9_taken_32 rfl (lv_at hl 1 rfl) ?_
        refine lv_goto (tgt := 38) X.1 X.2.1 dX9_taken_33 (by decide) ?_
        obtain ⟨rfl, rfl⟩ := rt2 hf
        exact x_iret X hr hk M dX9_taken_38
    · have hf := ifp c8 hf
      refine lv_bipush (v := (-11 : Int32)) X.1 X.2.1 dX9_taken_21 (by decide) ?_
      obtain ⟨rfl, rfl⟩ := rt2 hf
      exact x_iret X hr hk M dX9_taken_23
  · have hf := ifp c4 hf
    refine lv_bipush (v := (-2 : Int32)) X.1 X.2.1 dX9_taken_9 (by decide) ?_
    obtain ⟨rfl, rfl⟩ := rt2 hf
    exact x_iret X hr hk M dX9_taken_11
theorem c_X9_taken (l : Launch) (G : Gx) (N : Nat) (v0 : Nat) (v1 : Int32) (v2 : Int32) (h : Mem) (r : Int32) (h' : Mem) (hf : f_X9_taken N v0 v1 v2 h = some (r, h')) : MetG l G yX9_taken (.code yX9_taken cX9_taken 3 (Option.some Jvm.ClassFile.FieldType.int)) rm_X9_taken [.ref (gB G + v0), .int v1, .int v2] h (QcI G r h') 0 0 :=
  x_met (by decide) rfl (Nat.le_of_ble_eq_true rfl) (fun p e s m args below meth c ls X M hr hk hin hl => w_X9_taken X hr hk N v0 v1 v2 h hf _ _ ls M hl)
abbrev rm_X9_count : Room := { frames := 1, cells := 0, slots := 0, locals := 40 }
def f_X9_count (N : Nat) (v0 : Nat) (v1 : Int32) (h : Mem) : Option (Int32 × Mem) :=
  if v1 = 0 then
    (gR h v0 9 0).bind fun t2 =>
    (gI h t2 1 1).bind fun t4 =>
    some (t4, h)
  else
  if v1 = 1 then
    (gR h v0 9 0).bind fun t7 =>
    (gI h t7 1 2).bind fun t9 =>
    some (t9, h)
  else
  if v1 = 2 then
    (gI h v0 9 12).bind fun t12 =>
    some (t12, h)
  else
  if v1 = 3 then
    (gR h v0 9 4).bind fun t15 =>
    (gI h t15 5 1).bind fun t17 =>
    some (t17, h)
  else
  if v1 = 4 then
    (gI h v0 9 11).bind fun t20 =>
    some (t20, h)
  else
  if v1 = 5 then
    (gI h v0 9 13).bind fun t23 =>
    some (t23, h)
  else
  if v1 = 6 then
    (gR h v0 9 8).bind fun t26 =>
    (gI h t26 0 1).bind fun t28 =>
    some (t28, h)
  else
  some ((-2 : Int32), h)
set_option maxRecDepth 100000 in
set_option maxHeartbeats 4000000 in
theorem w_X9_count {p : Program} {l : Launch} {e : Env} {s : State} {m : MethodId} {args : Array Value} {below : List Frame} {meth : Method} {c : Code} {G : Gx} {r : Int32} {h' : Mem} (X : CX G p s m args c cX9_count 2 RX9) (hr : meth.sig.returnType = (Option.some Jvm.ClassFile.FieldType.int)) (hk : meth.locks = false) (N : Nat) : ∀ (v0 : Nat) (v1 : Int32) (h : Mem), f_X9_count N v0 v1 h = some (r, h') → ∀ (H : Heap) (locs : List Loc) (ls : Array Slot), MS G s h H locs 0 → lv_has ls 2 [(0, .ref (gB G + v0)), (1, .int v1)] → W p l e (rm_X9_count) s m args below meth c H locs 0 0 (QI G below args s r h' 0 0) (F0 m 0 ls []) := by
  intro v0 v1 h hf H locs ls M hl
  rw [f_X9_count] at hf
  refine lv_iload_n X.1 X.2.1 dX9_count_0 rfl (lv_at hl 1 rfl) ?_
  by_cases c1 : v1 = 0
  · have hf := ifp c1 hf
    refine x_tin (z := 0) (tgt := 44) X rfl c1 dX9_count_1 (by decide) (by decide) rfl (by decide) ?_
    refine lv_aload_n X.1 X.2.1 dX9_count_44 rfl (lv_at hl 0 rfl) ?_
    obtain ⟨t2, q3, hf⟩ := bnd hf
    refine x_getr fl_X9_17 X M q3 dX9_count_45 ?_
    obtain ⟨t4, q5, hf⟩ := bnd hf
    refine x_geti fl_X9_88 X M q5 dX9_count_48 ?_
    obtain ⟨rfl, rfl⟩ := rt2 hf
    exact x_iret X hr hk M dX9_count_51
  have hf := ifn c1 hf
  by_cases c6 : v1 = 1
  · have hf := ifp c6 hf
    refine x_tin (z := 1) (tgt := 52) X rfl c6 dX9_count_1 (by decide) (by decide) rfl (by decide) ?_
    refine lv_aload_n X.1 X.2.1 dX9_count_52 rfl (lv_at hl 0 rfl) ?_
    obtain ⟨t7, q8, hf⟩ := bnd hf
    refine x_getr fl_X9_17 X M q8 dX9_count_53 ?_
    obtain ⟨t9, q10, hf⟩ := bnd hf
    refine x_geti fl_X9_202 X M q10 dX9_count_56 ?_
    obtain ⟨rfl, rfl⟩ := rt2 hf
    exact x_iret X hr hk M dX9_count_59
  have hf := ifn c6 hf
  by_cases c11 : v1 = 2
  · have hf := ifp c11 hf
    refine x_tin (z := 2) (tgt := 60) X rfl c11 dX9_count_1 (by decide) (by decide) rfl (by decide) ?_
    refine lv_aload_n X.1 X.2.1 dX9_count_60 rfl (lv_at hl 0 rfl) ?_
    obtain ⟨t12, q13, hf⟩ := bnd hf
    refine x_geti fl_X9_165 X M q13 dX9_count_61 ?_
    obtain ⟨rfl, rfl⟩ := rt2 hf
    exact x_iret X hr hk M dX9_count_64
  have hf := ifn c11 hf
  by_cases c14 : v1 = 3
  · have hf := ifp c14 hf
    refine x_tin (z := 3) (tgt := 65) X rfl c14 dX9_count_1 (by decide) (by decide) rfl (by decide) ?_
    refine lv_aload_n X.1 X.2.1 dX9_count_65 rfl (lv_at hl 0 rfl) ?_
    obtain ⟨t15, q16, hf⟩ := bnd hf
    refine x_getr fl_X9_39 X M q16 dX9_count_66 ?_
    obtain ⟨t17, q18, hf⟩ := bnd hf
    refine x_geti fl_X9_154 X M q18 dX9_count_69 ?_
    obtain ⟨rfl, rfl⟩ := rt2 hf
    exact x_iret X hr hk M dX9_count_72
  have hf := ifn c14 hf
  by_cases c19 : v1 = 4
  · have hf := ifp c19 hf
    refine x_tin (z := 4) (tgt := 73) X rfl c19 dX9_count_1 (by decide) (by decide) rfl (by decide) ?_
    refine lv_aload_n X.1 X.2.1 dX9_count_73 rfl (lv_at hl 0 rfl) ?_
    obtain ⟨t20, q21, hf⟩ := bnd hf
    refine x_geti fl_X9_253 X M q21 dX9_count_74 ?_
    obtain ⟨rfl, rfl⟩ := rt2 hf
    exact x_iret X hr hk M dX9_count_77
  have hf := ifn c19 hf
  by_cases c22 : v1 = 5
  · have hf := ifp c22 hf
    refine x_tin (z := 5) (tgt := 78) X rfl c22 dX9_count_1 (by decide) (by decide) rfl (by decide) ?_
    refine lv_aload_n X.1 X.2.1 dX9_count_78 rfl (lv_at hl 0 rfl) ?_
    obtain ⟨t23, q24, hf⟩ := bnd hf
    refine x_geti fl_X9_275 X M q24 dX9_count_79 ?_
    obtain ⟨rfl, rfl⟩ := rt2 hf
    exact x_iret X hr hk M dX9_count_82
  have hf := ifn c22 hf
  by_cases c25 : v1 = 6
  · have hf := ifp c25 hf
    refine x_tin (z := 6) (tgt := 83) X rfl c25 dX9_count_1 (by decide) (by decide) rfl (by decide) ?_
    refine lv_aload_n X.1 X.2.1 dX9_count_83 rfl (lv_at hl 0 rfl) ?_
    obtain ⟨t26, q27, hf⟩ := bnd hf
    refine x_getr fl_X9_67 X M q27 dX9_count_84 ?_
    obtain ⟨t28, q29, hf⟩ := bnd hf
    refine x_geti fl_X9_296 X M q29 dX9_count_87 ?_
    obtain ⟨rfl, rfl⟩ := rt2 hf
    exact x_iret X hr hk M dX9_count_90
  have hf := ifn c25 hf
  have nc1 := lv_neT (a := 0) c1 rfl
  have nc6 := lv_neT (a := 1) c6 rfl
  have nc11 := lv_neT (a := 2) c11 rfl
  have nc14 := lv_neT (a := 3) c14 rfl
  have nc19 := lv_neT (a := 4) c19 rfl
  have nc22 := lv_neT (a := 5) c22 rfl
  have nc25 := lv_neT (a := 6) c25 rfl
  refine lv_tableOut (tgt := 91) X.1 X.2.1 dX9_count_1 (by omega) (by decide) ?_
  refine lv_bipush (v := (-2 : Int32)) X.1 X.2.1 dX9_count_91 (by decide) ?_
  obtain ⟨rfl, rfl⟩ := rt2 hf
  exact x_iret X hr hk M dX9_count_93
theorem c_X9_count (l : Launch) (G : Gx) (N : Nat) (v0 : Nat) (v1 : Int32) (h : Mem) (r : Int32) (h' : Mem) (hf : f_X9_count N v0 v1 h = some (r, h')) : MetG l G yX9_count (.code yX9_count cX9_count 2 (Option.some Jvm.ClassFile.FieldType.int)) rm_X9_count [.ref (gB G + v0), .int v1] h (QcI G r h') 0 0 :=
  x_met (by decide) rfl (Nat.le_of_ble_eq_true rfl) (fun p e s m args below meth c ls X M hr hk hin hl => w_X9_count X hr hk N v0 v1 h hf _ _ ls M hl)
abbrev rm_X9_tape : Room := { frames := 3, cells := 0, slots := 0, locals := 86 }
def f_X9_tape (N : Nat) (v0 : Nat) (v1 : Int32) (v2 : Int32) (v3 : Int32) (h : Mem) : Option (Int32 × Mem) :=
  b2 (f_X9_isTape N v1 h) fun t3 h2 =>
  if t3 = 0 then
    some ((-1 : Int32), h2)
  else
    b2 (f_X9_within N v2 (-1 : Int32) (4 : Int32) h2) fun t7 h6 =>
    if t7 = 0 then
      some ((-2 : Int32), h6)
    else
      if v2 = (-1 : Int32) then
        (gR h6 v0 9 10).bind fun t19 =>
        (lQ 105 h6 t19 v1).bind fun t21 =>
        (ck h6 t21 7).bind fun _ =>
        (f_X7_become N t21 v2 (0 : Int32) h6).bind fun h25 =>
        some ((1 : Int32), h25)
      else
        if v3 ≤ (60 : Int32) then
          if 0 ≤ v3 then
            (gR h6 v0 9 10).bind fun t12 =>
            (lQ 105 h6 t12 v1).bind fun t14 =>
            (ck h6 t14 7).bind fun _ =>
            (f_X7_become N t14 v2 v3 h6).bind fun h18 =>
            some ((1 : Int32), h18)
          else
            some ((-14 : Int32), h6)
        else
          some ((-2 : Int32), h6)
set_option maxRecDepth 100000 in
set_option maxHeartbeats 4000000 in
theorem w_X9_tape {p : Program} {l : Launch} {e : Env} {s : State} {m : MethodId} {args : Array Value} {below : List Frame} {meth : Method} {c : Code} {G : Gx} {r : Int32} {h' : Mem} (X : CX G p s m args c cX9_tape 4 RX9) (hr : meth.sig.returnType = (Option.some Jvm.ClassFile.FieldType.int)) (hk : meth.locks = false) (N : Nat) : ∀ (v0 : Nat) (v1 : Int32) (v2 : Int32) (v3 : Int32) (h : Mem), f_X9_tape N v0 v1 v2 v3 h = some (r, h') → ∀ (H : Heap) (locs : List Loc) (ls : Array Slot), MS G s h H locs 0 → lv_has ls 4 [(0, .ref (gB G + v0)), (1, .int v1), (2, .int v2), (3, .int v3)] → W p l e (rm_X9_tape) s m args below meth c H locs 0 0 (QI G below args s r h' 0 0) (F0 m 0 ls []) := by
  intro v0 v1 v2 v3 h hf H locs ls M hl
  rw [f_X9_tape] at hf
  refine lv_iload_n X.1 X.2.1 dX9_tape_0 rfl (lv_at hl 1 rfl) ?_
  obtain ⟨t3, h2, q1, hf⟩ := bnd2 hf
  refine x_callSi (As := [.int v1]) cf_X9_192 (c_X9_isTape l G N v1 h _ _ q1) rfl ⟨rfl, rfl, Nat.le_of_ble_eq_true rfl, Nat.le_of_ble_eq_true rfl⟩ ⟨Nat.le_of_ble_eq_true rfl, Nat.le_of_ble_eq_true rfl⟩ X M rfl rfl hl.1 (Nat.le_of_ble_eq_true rfl) dX9_tape_1 (fun H locs M => ?_)
  refine lv_if_ne (tgt := 9) X.1 X.2.1 dX9_tape_4 (by decide) (fun c4 => ?_) (fun c4 => ?_)
  · have hf := ifn c4 hf
    refine lv_iload_n X.1 X.2.1 dX9_tape_9 rfl (lv_at hl 2 rfl) ?_
    refine lv_iconst (v := (-1 : Int32)) X.1 X.2.1 dX9_tape_10 (by decide) ?_
    refine lv_iconst (v := (4 : Int32)) X.1 X.2.1 dX9_tape_11 (by decide) ?_
    obtain ⟨t7, h6, q5, hf⟩ := bnd2 hf
    refine x_callSi (As := [.int v2, .int (-1 : Int32), .int (4 : Int32)]) cf_X9_84 (c_X9_within l G N v2 (-1 : Int32) (4 : Int32) h2 _ _ q5) rfl ⟨rfl, rfl, Nat.le_of_ble_eq_true rfl, Nat.le_of_ble_eq_true rfl⟩ ⟨Nat.le_of_ble_eq_true rfl, Nat.le_of_ble_eq_true rfl⟩ X M rfl rfl hl.1 (Nat.le_of_ble_eq_true rfl) dX9_tape_12 (fun H locs M => ?_)
    refine lv_if_ne (tgt := 21) X.1 X.2.1 dX9_tape_15 (by decide) (fun c8 => ?_) (fun c8 => ?_)
    · have hf := ifn c8 hf
      refine lv_iload_n X.1 X.2.1 dX9_tape_21 rfl (lv_at hl 2 rfl) ?_
      refine lv_iconst (v := (-1 : Int32)) X.1 X.2.1 dX9_tape_22 (by decide) ?_
      refine lv_icmp_ne (tgt := 39) X.1 X.2.1 dX9_tape_23 (by decide) (fun c9 => ?_) (fun c9 => ?_)
      · have hf := ifn c9 hf
        refine lv_iload_n X.1 X.2.1 dX9_tape_39 rfl (lv_at hl 3 rfl) ?_
        refine lv_bipush (v := (60 : Int32)) X.1 X.2.1 dX9_tape_40 (by decide) ?_
        refine lv_icmp_le (tgt := 48) X.1 X.2.1 dX9_tape_42 (by decide) (fun c10 => ?_) (fun c10 => ?_)
        · have hf := ifp c10 hf
          refine lv_iload_n X.1 X.2.1 dX9_tape_48 rfl (lv_at hl 3 rfl) ?_
          refine lv_if_ge (tgt := 55) X.1 X.2.1 dX9_tape_49 (by decide) (fun c11 => ?_) (fun c11 => ?_)
          · have hf := ifp c11 hf
            refine lv_aload_n X.1 X.2.1 dX9_tape_55 rfl (lv_at hl 0 rfl) ?_
            obtain ⟨t12, q13, hf⟩ := bnd hf
            refine x_getr fl_X9_79 X M q13 dX9_tape_56 ?_
            refine lv_iload_n X.1 X.2.1 dX9_tape_59 rfl (lv_at hl 1 rfl) ?_
            obtain ⟨t14, q15, hf⟩ := bnd hf
            refine x_aald (by decide) (fun _ => rfl) X M q15 dX9_tape_60 ?_
            refine lv_iload_n X.1 X.2.1 dX9_tape_61 rfl (lv_at hl 2 rfl) ?_
            refine lv_iload_n X.1 X.2.1 dX9_tape_62 rfl (lv_at hl 3 rfl) ?_
            obtain ⟨⟨⟩, q16, hf⟩ := bnd hf
            obtain ⟨h18, q17, hf⟩ := bnd hf
            refine x_callVv (As := [.int v2, .int v3]) cf_X9_305 (c_X7_become l G N t14 v2 v3 h6 _ q17) rfl ⟨rfl, rfl, Nat.le_of_ble_eq_true rfl, Nat.le_of_ble_eq_true rfl⟩ ⟨Nat.le_of_ble_eq_true rfl, Nat.le_of_ble_eq_true rfl⟩ X M (x_recv cls_X7 X M q16) rfl rfl hl.1 (Nat.le_of_ble_eq_true rfl) dX9_tape_63 (fun H locs M => ?_)
            refine lv_iconst (v := (1 : Int32)) X.1 X.2.1 dX9_tape_66 (by decide) ?_
            obtain ⟨rfl, rfl⟩ := rt2 hf
            exact x_iret X hr hk M dX9_tape_67
          · have hf := ifn c11 hf
            refine lv_bipush (v := (-14 : Int32)) X.1 X.2.1 dX9_tape_52 (by decide) ?_
            obtain ⟨rfl, rfl⟩ := rt2 hf
            exact x_iret X hr hk M dX9_tape_54
        · have hf := ifn c10 hf
          refine lv_bipush (v := (-2 : Int32)) X.1 X.2.1 dX9_tape_45 (by decide) ?_
          obtain ⟨rfl, rfl⟩ := rt2 hf
          exact x_iret X hr hk M dX9_tape_47
      · have hf := ifp c9 hf
        refine lv_aload_n X.1 X.2.1 dX9_tape_26 rfl (lv_at hl 0 rfl) ?_
        obtain ⟨t19, q20, hf⟩ := bnd hf
        refine x_getr fl_X9_79 X M q20 dX9_tape_27 ?_
        refine lv_iload_n X.1 X.2.1 dX9_tape_30 rfl (lv_at hl 1 rfl) ?_
        obtain ⟨t21, q22, hf⟩ := bnd hf
        refine x_aald (by decide) (fun _ => rfl) X M q22 dX9_tape_31 ?_
        refine lv_iload_n X.1 X.2.1 dX9_tape_32 rfl (lv_at hl 2 rfl) ?_
        refine lv_iconst (v := (0 : Int32)) X.1 X.2.1 dX9_tape_33 (by decide) ?_
        obtain ⟨⟨⟩, q23, hf⟩ := bnd hf
        obtain ⟨h25, q24, hf⟩ := bnd hf
        refine x_callVv (As := [.int v2, .int (0 : Int32)]) cf_X9_305 (c_X7_become l G N t21 v2 (0 : Int32) h6 _ q24) rfl ⟨rfl, rfl, Nat.le_of_ble_eq_true rfl, Nat.le_of_ble_eq_true rfl⟩ ⟨Nat.le_of_ble_eq_true rfl, Nat.le_of_ble_eq_true rfl⟩ X M (x_recv cls_X7 X M q23) rfl rfl hl.1 (Nat.le_of_ble_eq_true rfl) dX9_tape_34 (fun H locs M => ?_)
        refine lv_iconst (v := (1 : Int32)) X.1 X.2.1 dX9_tape_37 (by decide) ?_
        obtain ⟨rfl, rfl⟩ := rt2 hf
        exact x_iret X hr hk M dX9_tape_38
    · have hf := ifp c8 hf
      refine lv_bipush (v := (-2 : Int32)) X.1 X.2.1 dX9_tape_18 (by decide) ?_
      obtain ⟨rfl, rfl⟩ := rt2 hf
      exact x_iret X hr hk M dX9_tape_20
  · have hf := ifp c4 hf
    refine lv_iconst (v := (-1 : Int32)) X.1 X.2.1 dX9_tape_7 (by decide) ?_
    obtain ⟨rfl, rfl⟩ := rt2 hf
    exact x_iret X hr hk M dX9_tape_8
theorem c_X9_tape (l : Launch) (G : Gx) (N : Nat) (v0 : Nat) (v1 : Int32) (v2 : Int32) (v3 : Int32) (h : Mem) (r : Int32) (h' : Mem) (hf : f_X9_tape N v0 v1 v2 v3 h = some (r, h')) : MetG l G yX9_tape (.code yX9_tape cX9_tape 4 (Option.some Jvm.ClassFile.FieldType.int)) rm_X9_tape [.ref (gB G + v0), .int v1, .int v2, .int v3] h (QcI G r h') 0 0 :=
  x_met (by decide) rfl (Nat.le_of_ble_eq_true rfl) (fun p e s m args below meth c ls X M hr hk hin hl => w_X9_tape X hr hk N v0 v1 v2 v3 h hf _ _ ls M hl)
abbrev rm_X9_item : Room := { frames := 3, cells := 0, slots := 0, locals := 82 }
def f_X9_item (N : Nat) (v0 : Nat) (v1 : Int32) (v2 : Int32) (v3 : Int64) (h : Mem) : Option (Int32 × Mem) :=
  b2 (f_X9_isTape N v1 h) fun t3 h2 =>
  if t3 = 0 then
    some ((-1 : Int32), h2)
  else
    (gR h2 v0 9 10).bind fun t5 =>
    (lQ 105 h2 t5 v1).bind fun t7 =>
    (ck h2 t7 7).bind fun _ =>
    b2 (f_X7_isNothing N t7 h2) fun t12 h11 =>
    if t12 = 0 then
      (ck h11 t7 7).bind fun _ =>
      b2 (f_X7_spans N t7 v2 (1 : Int32) h11) fun t17 h16 =>
      if t17 = 0 then
        some ((-13 : Int32), h16)
      else
        (gR h16 t7 7 0).bind fun t19 =>
        (ck h16 t7 7).bind fun _ =>
        b2 (f_X7_cut N t7 v3 h16) fun t24 h23 =>
        (stJ h23 t19 v2 t24).bind fun h25 =>
        some ((1 : Int32), h25)
    else
      some ((-11 : Int32), h11)
set_option maxRecDepth 100000 in
set_option maxHeartbeats 4000000 in
theorem w_X9_item {p : Program} {l : Launch} {e : Env} {s : State} {m : MethodId} {args : Array Value} {below : List Frame} {meth : Method} {c : Code} {G : Gx} {r : Int32} {h' : Mem} (X : CX G p s m args c cX9_item 6 RX9) (hr : meth.sig.returnType = (Option.some Jvm.ClassFile.FieldType.int)) (hk : meth.locks = false) (N : Nat) : ∀ (v0 : Nat) (v1 : Int32) (v2 : Int32) (v3 : Int64) (h : Mem), f_X9_item N v0 v1 v2 v3 h = some (r, h') → ∀ (H : Heap) (locs : List Loc) (ls : Array Slot), MS G s h H locs 0 → lv_has ls 6 [(0, .ref (gB G + v0)), (1, .int v1), (2, .int v2), (3, .long v3)] → W p l e (rm_X9_item) s m args below meth c H locs 0 0 (QI G below args s r h' 0 0) (F0 m 0 ls []) := by
  intro v0 v1 v2 v3 h hf H locs ls M hl
  rw [f_X9_item] at hf
  refine lv_iload_n X.1 X.2.1 dX9_item_0 rfl (lv_at hl 1 rfl) ?_
  obtain ⟨t3, h2, q1, hf⟩ := bnd2 hf
  refine x_callSi (As := [.int v1]) cf_X9_192 (c_X9_isTape l G N v1 h _ _ q1) rfl ⟨rfl, rfl, Nat.le_of_ble_eq_true rfl, Nat.le_of_ble_eq_true rfl⟩ ⟨Nat.le_of_ble_eq_true rfl, Nat.le_of_ble_eq_true rfl⟩ X M rfl rfl hl.1 (Nat.le_of_ble_eq_true rfl) dX9_item_1 (fun H locs M => ?_)
  refine lv_if_ne (tgt := 9) X.1 X.2.1 dX9_item_4 (by decide) (fun c4 => ?_) (fun c4 => ?_)
  · have hf := ifn c4 hf
    refine lv_aload_n X.1 X.2.1 dX9_item_9 rfl (lv_at hl 0 rfl) ?_
    obtain ⟨t5, q6, hf⟩ := bnd hf
    refine x_getr fl_X9_79 X M q6 dX9_item_10 ?_
    refine lv_iload_n X.1 X.2.1 dX9_item_13 rfl (lv_at hl 1 rfl) ?_
    obtain ⟨t7, q8, hf⟩ := bnd hf
    refine x_aald (by decide) (fun _ => rfl) X M q8 dX9_item_14 ?_
    refine lv_astore (lv' := [(5, .ref (gB G + t7)), (0, .ref (gB G + v0)), (1, .int v1), (2, .int v2), (3, .long v3)]) X.1 X.2.1 dX9_item_15 hl (by decide) rfl (fun ls hl => ?_)
    refine lv_aload X.1 X.2.1 dX9_item_17 (lv_at hl 0 rfl) ?_
    obtain ⟨⟨⟩, q9, hf⟩ := bnd hf
    obtain ⟨t12, h11, q10, hf⟩ := bnd2 hf
    refine x_callVi (As := []) cf_X9_195 (c_X7_isNothing l G N t7 h2 _ _ q10) rfl ⟨rfl, rfl, Nat.le_of_ble_eq_true rfl, Nat.le_of_ble_eq_true rfl⟩ ⟨Nat.le_of_ble_eq_true rfl, Nat.le_of_ble_eq_true rfl⟩ X M (x_recv cls_X7 X M q9) rfl rfl hl.1 (Nat.le_of_ble_eq_true rfl) dX9_item_19 (fun H locs M => ?_)
    refine lv_if_eq (tgt := 28) X.1 X.2.1 dX9_item_22 (by decide) (fun c13 => ?_) (fun c13 => ?_)
    · have hf := ifp c13 hf
      refine lv_aload X.1 X.2.1 dX9_item_28 (lv_at hl 0 rfl) ?_
      refine lv_iload_n X.1 X.2.1 dX9_item_30 rfl (lv_at hl 3 rfl) ?_
      refine lv_iconst (v := (1 : Int32)) X.1 X.2.1 dX9_item_31 (by decide) ?_
      obtain ⟨⟨⟩, q14, hf⟩ := bnd hf
      obtain ⟨t17, h16, q15, hf⟩ := bnd2 hf
      refine x_callVi (As := [.int v2, .int (1 : Int32)]) cf_X9_205 (c_X7_spans l G N t7 v2 (1 : Int32) h11 _ _ q15) rfl ⟨rfl, rfl, Nat.le_of_ble_eq_true rfl, Nat.le_of_ble_eq_true rfl⟩ ⟨Nat.le_of_ble_eq_true rfl, Nat.le_of_ble_eq_true rfl⟩ X M (x_recv cls_X7 X M q14) rfl rfl hl.1 (Nat.le_of_ble_eq_true rfl) dX9_item_32 (fun H locs M => ?_)
      refine lv_if_ne (tgt := 41) X.1 X.2.1 dX9_item_35 (by decide) (fun c18 => ?_) (fun c18 => ?_)
      · have hf := ifn c18 hf
        refine lv_aload X.1 X.2.1 dX9_item_41 (lv_at hl 0 rfl) ?_
        obtain ⟨t19, q20, hf⟩ := bnd hf
        refine x_getr fl_X9_307 X M q20 dX9_item_43 ?_
        refine lv_iload_n X.1 X.2.1 dX9_item_46 rfl (lv_at hl 3 rfl) ?_
        refine lv_aload X.1 X.2.1 dX9_item_47 (lv_at hl 0 rfl) ?_
        refine lv_lload_n X.1 X.2.1 dX9_item_49 rfl (lv_at hl 4 rfl) ?_
        obtain ⟨⟨⟩, q21, hf⟩ := bnd hf
        obtain ⟨t24, h23, q22, hf⟩ := bnd2 hf
        refine x_callVl (As := [.long v3]) cf_X9_311 (c_X7_cut l G N t7 v3 h16 _ _ q22) rfl ⟨rfl, rfl, Nat.le_of_ble_eq_true rfl, Nat.le_of_ble_eq_true rfl⟩ ⟨Nat.le_of_ble_eq_true rfl, Nat.le_of_ble_eq_true rfl⟩ X M (x_recv cls_X7 X M q21) rfl rfl hl.1 (Nat.le_of_ble_eq_true rfl) dX9_item_50 (fun H locs M => ?_)
        obtain ⟨h25, q26, hf⟩ := bnd hf
        refine x_last X M q26 dX9_item_53 (fun H locs M => ?_)
        refine lv_iconst (v := (1 : Int32)) X.1 X.2.1 dX9_item_54 (by decide) ?_
        obtain ⟨rfl, rfl⟩ := rt2 hf
        exact x_iret X hr hk M dX9_item_55
      · have hf := ifp c18 hf
        refine lv_bipush (v := (-13 : Int32)) X.1 X.2.1 dX9_item_38 (by decide) ?_
        obtain ⟨rfl, rfl⟩ := rt2 hf
        exact x_iret X hr hk M dX9_item_40
    · have hf := ifn c13 hf
      refine lv_bipush (v := (-11 : Int32)) X.1 X.2.1 dX9_item_25 (by decide) ?_
      obtain ⟨rfl, rfl⟩ := rt2 hf
      exact x_iret X hr hk M dX9_item_27
  · have hf := ifp c4 hf
    refine lv_iconst (v := (-1 : Int32)) X.1 X.2.1 dX9_item_7 (by decide) ?_
    obtain ⟨rfl, rfl⟩ := rt2 hf
    exact x_iret X hr hk M dX9_item_8
theorem c_X9_item (l : Launch) (G : Gx) (N : Nat) (v0 : Nat) (v1 : Int32) (v2 : Int32) (v3 : Int64) (h : Mem) (r : Int32) (h' : Mem) (hf : f_X9_item N v0 v1 v2 v3 h = some (r, h')) : MetG l G yX9_item (.code yX9_item cX9_item 6 (Option.some Jvm.ClassFile.FieldType.int)) rm_X9_item [.ref (gB G + v0), .int v1, .int v2, .long v3] h (QcI G r h') 0 0 :=
  x_met (by decide) rfl (Nat.le_of_ble_eq_true rfl) (fun p e s m args below meth c ls X M hr hk hin hl => w_X9_item X hr hk N v0 v1 v2 v3 h hf _ _ ls M hl)
abbrev rm_X9_read : Room := { frames := 3, cells := 0, slots := 0, locals := 82 }
def f_X9_read (N : Nat) (v0 : Nat) (v1 : Int32) (v2 : Int32) (h : Mem) : Option (Int64 × Mem) :=
  b2 (f_X9_isTape N v1 h) fun t3 h2 =>
  if t3 = 0 then
    some ((-9223372036854775808 : Int64), h2)
  else
    (gR h2 v0 9 10).bind fun t5 =>
    (lQ 105 h2 t5 v1).bind fun t7 =>
    (ck h2 t7 7).bind fun _ =>
    b2 (f_X7_spans N t7 v2 (1 : Int32) h2) fun t12 h11 =>
    if t12 = 0 then
      some ((-9223372036854775808 : Int64), h11)
    else
      (gR h11 v0 9 10).bind fun t14 =>
      (lQ 105 h11 t14 v1).bind fun t16 =>
      (gR h11 t16 7 0).bind fun t18 =>
      (lJ h11 t18 v2).bind fun t20 =>
      some (t20, h11)
set_option maxRecDepth 100000 in
set_option maxHeartbeats 4000000 in
theorem w_X9_read {p : Program} {l : Launch} {e : Env} {s : State} {m : MethodId} {args : Array Value} {below : List Frame} {meth : Method} {c : Code} {G : Gx} {r : Int64} {h' : Mem} (X : CX G p s m args c cX9_read 3 RX9) (hr : meth.sig.returnType = (Option.some Jvm.ClassFile.FieldType.long)) (hk : meth.locks = false) (N : Nat) : ∀ (v0 : Nat) (v1 : Int32) (v2 : Int32) (h : Mem), f_X9_read N v0 v1 v2 h = some (r, h') → ∀ (H : Heap) (locs : List Loc) (ls : Array Slot), MS G s h H locs 0 → lv_has ls 3 [(0, .ref (gB G + v0)), (1, .int v1), (2, .int v2)] → W p l e (rm_X9_read) s m args below meth c H locs 0 0 (QL G below args s r h' 0 0) (F0 m 0 ls []) := by
  intro v0 v1 v2 h hf H locs ls M hl
  rw [f_X9_read] at hf
  refine lv_iload_n X.1 X.2.1 dX9_read_0 rfl (lv_at hl 1 rfl) ?_
  obtain ⟨t3, h2, q1, hf⟩ := bnd2 hf
  refine x_callSi (As := [.int v1]) cf_X9_192 (c_X9_isTape l G N v1 h _ _ q1) rfl ⟨rfl, rfl, Nat.le_of_ble_eq_true rfl, Nat.le_of_ble_eq_true rfl⟩ ⟨Nat.le_of_ble_eq_true rfl, Nat.le_of_ble_eq_true rfl⟩ X M rfl rfl hl.1 (Nat.le_of_ble_eq_true rfl) dX9_read_1 (fun H locs M => ?_)
  refine lv_if_eq (tgt := 35) X.1 X.2.1 dX9_read_4 (by decide) (fun c4 => ?_) (fun c4 => ?_)
  · have hf := ifp c4 hf
    refine lv_ldc2 X.1 X.2.1 X.2.2.2.1 (X.2.2.2.2.1 _ k_337) dX9_read_35 ?_
    obtain ⟨rfl, rfl⟩ := rt2 hf
    exact x_lret X hr hk M dX9_read_38
  · have hf := ifn c4 hf
    refine lv_aload_n X.1 X.2.1 dX9_read_7 rfl (lv_at hl 0 rfl) ?_
    obtain ⟨t5, q6, hf⟩ := bnd hf
    refine x_getr fl_X9_79 X M q6 dX9_read_8 ?_
    refine lv_iload_n X.1 X.2.1 dX9_read_11 rfl (lv_at hl 1 rfl) ?_
    obtain ⟨t7, q8, hf⟩ := bnd hf
    refine x_aald (by decide) (fun _ => rfl) X M q8 dX9_read_12 ?_
    refine lv_iload_n X.1 X.2.1 dX9_read_13 rfl (lv_at hl 2 rfl) ?_
    refine lv_iconst (v := (1 : Int32)) X.1 X.2.1 dX9_read_14 (by decide) ?_
    obtain ⟨⟨⟩, q9, hf⟩ := bnd hf
    obtain ⟨t12, h11, q10, hf⟩ := bnd2 hf
    refine x_callVi (As := [.int v2, .int (1 : Int32)]) cf_X9_205 (c_X7_spans l G N t7 v2 (1 : Int32) h2 _ _ q10) rfl ⟨rfl, rfl, Nat.le_of_ble_eq_true rfl, Nat.le_of_ble_eq_true rfl⟩ ⟨Nat.le_of_ble_eq_true rfl, Nat.le_of_ble_eq_true rfl⟩ X M (x_recv cls_X7 X M q9) rfl rfl hl.1 (Nat.le_of_ble_eq_true rfl) dX9_read_15 (fun H locs M => ?_)
    refine lv_if_eq (tgt := 35) X.1 X.2.1 dX9_read_18 (by decide) (fun c13 => ?_) (fun c13 => ?_)
    · have hf := ifp c13 hf
      refine lv_ldc2 X.1 X.2.1 X.2.2.2.1 (X.2.2.2.2.1 _ k_337) dX9_read_35 ?_
      obtain ⟨rfl, rfl⟩ := rt2 hf
      exact x_lret X hr hk M dX9_read_38
    · have hf := ifn c13 hf
      refine lv_aload_n X.1 X.2.1 dX9_read_21 rfl (lv_at hl 0 rfl) ?_
      obtain ⟨t14, q15, hf⟩ := bnd hf
      refine x_getr fl_X9_79 X M q15 dX9_read_22 ?_
      refine lv_iload_n X.1 X.2.1 dX9_read_25 rfl (lv_at hl 1 rfl) ?_
      obtain ⟨t16, q17, hf⟩ := bnd hf
      refine x_aald (by decide) (fun _ => rfl) X M q17 dX9_read_26 ?_
      obtain ⟨t18, q19, hf⟩ := bnd hf
      refine x_getr fl_X9_307 X M q19 dX9_read_27 ?_
      refine lv_iload_n X.1 X.2.1 dX9_read_30 rfl (lv_at hl 2 rfl) ?_
      obtain ⟨t20, q21, hf⟩ := bnd hf
      refine x_lald X M q21 dX9_read_31 ?_
      refine lv_goto (tgt := 38) X.1 X.2.1 dX9_read_32 (by decide) ?_
      obtain ⟨rfl, rfl⟩ := rt2 hf
      exact x_lret X hr hk M dX9_read_38
theorem c_X9_read (l : Launch) (G : Gx) (N : Nat) (v0 : Nat) (v1 : Int32) (v2 : Int32) (h : Mem) (r : Int64) (h' : Mem) (hf : f_X9_read N v0 v1 v2 h = some (r, h')) : MetG l G yX9_read (.code yX9_read cX9_read 3 (Option.some Jvm.ClassFile.FieldType.long)) rm_X9_read [.ref (gB G + v0), .int v1, .int v2] h (QcL G r h') 0 0 :=
  x_met (by decide) rfl (Nat.le_of_ble_eq_true rfl) (fun p e s m args below meth c ls X M hr hk hin hl => w_X9_read X hr hk N v0 v1 v2 h hf _ _ ls M hl)
abbrev rm_X9_shift : Room := { frames := 3, cells := 0, slots := 0, locals := 82 }
def f_X9_shift (N : Nat) (v0 : Nat) (v1 : Int32) (v2 : Int32) (v3 : Int32) (v4 : Int32) (v5 : Int32) (h : Mem) : Option (Int32 × Mem) :=
  b2 (f_X9_isTape N v1 h) fun t3 h2 =>
  if t3 = 0 then
    some ((-1 : Int32), h2)
  else
    b2 (f_X9_isTape N v3 h2) fun t7 h6 =>
    if t7 = 0 then
      some ((-1 : Int32), h6)
    else
      (gR h6 v0 9 10).bind fun t9 =>
      (lQ 105 h6 t9 v1).bind fun t11 =>
      (gR h6 v0 9 10).bind fun t13 =>
      (lQ 105 h6 t13 v3).bind fun t15 =>
      (ck h6 t11 7).bind fun _ =>
      b2 (f_X7_isNothing N t11 h6) fun t20 h19 =>
      if t20 = 0 then
        (ck h19 t15 7).bind fun _ =>
        b2 (f_X7_isNothing N t15 h19) fun t25 h24 =>
        if t25 = 0 then
          (gI h24 t11 7 1).bind fun t27 =>
          (gI h24 t15 7 1).bind fun t29 =>
          if t27 = t29 then
            (ck h24 t11 7).bind fun _ =>
            b2 (f_X7_spans N t11 v2 v5 h24) fun t35 h34 =>
            if t35 = 0 then
              some ((-13 : Int32), h34)
            else
              (ck h34 t15 7).bind fun _ =>
              b2 (f_X7_spans N t15 v4 v5 h34) fun t40 h39 =>
              if t40 = 0 then
                some ((-13 : Int32), h39)
              else
                (gR h39 t11 7 0).bind fun t42 =>
                (gR h39 t15 7 0).bind fun t44 =>
                (cpJ h39 t42 v2 t44 v4 v5).bind fun h46 =>
                some (v5, h46)
          else
            some ((-12 : Int32), h24)
        else
          some ((-11 : Int32), h24)
      else
        some ((-11 : Int32), h19)
set_option maxRecDepth 100000 in
set_option maxHeartbeats 4000000 in
theorem w_X9_shift {p : Program} {l : Launch} {e : Env} {s : State} {m : MethodId} {args : Array Value} {below : List Frame} {meth : Method} {c : Code} {G : Gx} {r : Int32} {h' : Mem} (X : CX G p s m args c cX9_shift 8 RX9) (hr : meth.sig.returnType = (Option.some Jvm.ClassFile.FieldType.int)) (hk : meth.locks = false) (N : Nat) : ∀ (v0 : Nat) (v1 : Int32) (v2 : Int32) (v3 : Int32) (v4 : Int32) (v5 : Int32) (h : Mem), f_X9_shift N v0 v1 v2 v3 v4 v5 h = some (r, h') → ∀ (H : Heap) (locs : List Loc) (ls : Array Slot), MS G s h H locs 0 → lv_has ls 8 [(0, .ref (gB G + v0)), (1, .int v1), (2, .int v2), (3, .int v3), (4, .int v4), (5, .int v5)] → W p l e (rm_X9_shift) s m args below meth c H locs 0 0 (QI G below args s r h' 0 0) (F0 m 0 ls []) := by
  intro v0 v1 v2 v3 v4 v5 h hf H locs ls M hl
  rw [f_X9_shift] at hf
  refine lv_iload_n X.1 X.2.1 dX9_shift_0 rfl (lv_at hl 1 rfl) ?_
  obtain ⟨t3, h2, q1, hf⟩ := bnd2 hf
  refine x_callSi (As := [.int v1]) cf_X9_192 (c_X9_isTape l G N v1 h _ _ q1) rfl ⟨rfl, rfl, Nat.le_of_ble_eq_true rfl, Nat.le_of_ble_eq_true rfl⟩ ⟨Nat.le_of_ble_eq_true rfl, Nat.le_of_ble_eq_true rfl⟩ X M rfl rfl hl.1 (Nat.le_of_ble_eq_true rfl) dX9_shift_1 (fun H locs M => ?_)
  refine lv_if_eq (tgt := 14) X.1 X.2.1 dX9_shift_4 (by decide) (fun c4 => ?_) (fun c4 => ?_)
  · have hf := ifp c4 hf
    refine lv_iconst (v := (-1 : Int32)) X.1 X.2.1 dX9_shift_14 (by decide) ?_
    obtain ⟨rfl, rfl⟩ := rt2 hf
    exact x_iret X hr hk M dX9_shift_15
  · have hf := ifn c4 hf
    refine lv_iload_n X.1 X.2.1 dX9_shift_7 rfl (lv_at hl 3 rfl) ?_
    obtain ⟨t7, h6, q5, hf⟩ := bnd2 hf
    refine x_callSi (As := [.int v3]) cf_X9_192 (c_X9_isTape l G N v3 h2 _ _ q5) rfl ⟨rfl, rfl, Nat.le_of_ble_eq_true rfl, Nat.le_of_ble_eq_true rfl⟩ ⟨Nat.le_of_ble_eq_true rfl, Nat.le_of_ble_eq_true rfl⟩ X M rfl rfl hl.1 (Nat.le_of_ble_eq_true rfl) dX9_shift_8 (fun H locs M => ?_)
    refine lv_if_ne (tgt := 16) X.1 X.2.1 dX9_shift_11 (by decide) (fun c8 => ?_) (fun c8 => ?_)
    · have hf := ifn c8 hf
      refine lv_aload_n X.1 X.2.1 dX9_shift_16 rfl (lv_at hl 0 rfl) ?_
      obtain ⟨t9, q10, hf⟩ := bnd hf
      refine x_getr fl_X9_79 X M q10 dX9_shift_17 ?_
      refine lv_iload_n X.1 X.2.1 dX9_shift_20 rfl (lv_at hl 1 rfl) ?_
      obtain ⟨t11, q12, hf⟩ := bnd hf
      refine x_aald (by decide) (fun _ => rfl) X M q12 dX9_shift_21 ?_
      refine lv_astore (lv' := [(6, .ref (gB G + t11)), (0, .ref (gB G + v0)), (1, .int v1), (2, .int v2), (3, .int v3), (4, .int v4), (5, .int v5)]) X.1 X.2.1 dX9_shift_22 hl (by decide) rfl (fun ls hl => ?_)
      refine lv_aload_n X.1 X.2.1 dX9_shift_24 rfl (lv_at hl 1 rfl) ?_
      obtain ⟨t13, q14, hf⟩ := bnd hf
      refine x_getr fl_X9_79 X M q14 dX9_shift_25 ?_
      refine lv_iload_n X.1 X.2.1 dX9_shift_28 rfl (lv_at hl 4 rfl) ?_
      obtain ⟨t15, q16, hf⟩ := bnd hf
      refine x_aald (by decide) (fun _ => rfl) X M q16 dX9_shift_29 ?_
      refine lv_astore (lv' := [(7, .ref (gB G + t15)), (6, .ref (gB G + t11)), (0, .ref (gB G + v0)), (1, .int v1), (2, .int v2), (3, .int v3), (4, .int v4), (5, .int v5)]) X.1 X.2.1 dX9_shift_30 hl (by decide) rfl (fun ls hl => ?_)
      refine lv_aload X.1 X.2.1 dX9_shift_32 (lv_at hl 1 rfl) ?_
      obtain ⟨⟨⟩, q17, hf⟩ := bnd hf
      obtain ⟨t20, h19, q18, hf⟩ := bnd2 hf
      refine x_callVi (As := []) cf_X9_195 (c_X7_isNothing l G N t11 h6 _ _ q18) rfl ⟨rfl, rfl, Nat.le_of_ble_eq_true rfl, Nat.le_of_ble_eq_true rfl⟩ ⟨Nat.le_of_ble_eq_true rfl, Nat.le_of_ble_eq_true rfl⟩ X M (x_recv cls_X7 X M q17) rfl rfl hl.1 (Nat.le_of_ble_eq_true rfl) dX9_shift_34 (fun H locs M => ?_)
      refine lv_if_ne (tgt := 48) X.1 X.2.1 dX9_shift_37 (by decide) (fun c21 => ?_) (fun c21 => ?_)
      · have hf := ifn c21 hf
        refine lv_bipush (v := (-11 : Int32)) X.1 X.2.1 dX9_shift_48 (by decide) ?_
        obtain ⟨rfl, rfl⟩ := rt2 hf
        exact x_iret X hr hk M dX9_shift_50
      · have hf := ifp c21 hf
        refine lv_aload X.1 X.2.1 dX9_shift_40 (lv_at hl 0 rfl) ?_
        obtain ⟨⟨⟩, q22, hf⟩ := bnd hf
        obtain ⟨t25, h24, q23, hf⟩ := bnd2 hf
        refine x_callVi (As := []) cf_X9_195 (c_X7_isNothing l G N t15 h19 _ _ q23) rfl ⟨rfl, rfl, Nat.le_of_ble_eq_true rfl, Nat.le_of_ble_eq_true rfl⟩ ⟨Nat.le_of_ble_eq_true rfl, Nat.le_of_ble_eq_true rfl⟩ X M (x_recv cls_X7 X M q22) rfl rfl hl.1 (Nat.le_of_ble_eq_true rfl) dX9_shift_42 (fun H locs M => ?_)
        refine lv_if_eq (tgt := 51) X.1 X.2.1 dX9_shift_45 (by decide) (fun c26 => ?_) (fun c26 => ?_)
        · have hf := ifp c26 hf
          refine lv_aload X.1 X.2.1 dX9_shift_51 (lv_at hl 1 rfl) ?_
          obtain ⟨t27, q28, hf⟩ := bnd hf
          refine x_geti fl_X9_199 X M q28 dX9_shift_53 ?_
          refine lv_aload X.1 X.2.1 dX9_shift_56 (lv_at hl 0 rfl) ?_
          obtain ⟨t29, q30, hf⟩ := bnd hf
          refine x_geti fl_X9_199 X M q30 dX9_shift_58 ?_
          refine lv_icmp_eq (tgt := 67) X.1 X.2.1 dX9_shift_61 (by decide) (fun c31 => ?_) (fun c31 => ?_)
          · have hf := ifp c31 hf
            refine lv_aload X.1 X.2.1 dX9_shift_67 (lv_at hl 1 rfl) ?_
            refine lv_iload_n X.1 X.2.1 dX9_shift_69 rfl (lv_at hl 4 rfl) ?_
            refine lv_iload X.1 X.2.1 dX9_shift_70 (lv_at hl 7 rfl) ?_
            obtain ⟨⟨⟩, q32, hf⟩ := bnd hf
            obtain ⟨t35, h34, q33, hf⟩ := bnd2 hf
            refine x_callVi (As := [.int v2, .int v5]) cf_X9_205 (c_X7_spans l G N t11 v2 v5 h24 _ _ q33) rfl ⟨rfl, rfl, Nat.le_of_ble_eq_true rfl, Nat.le_of_ble_eq_true rfl⟩ ⟨Nat.le_of_ble_eq_true rfl, Nat.le_of_ble_eq_true rfl⟩ X M (x_recv cls_X7 X M q32) rfl rfl hl.1 (Nat.le_of_ble_eq_true rfl) dX9_shift_72 (fun H locs M => ?_)
            refine lv_if_eq (tgt := 90) X.1 X.2.1 dX9_shift_75 (by decide) (fun c36 => ?_) (fun c36 => ?_)
            · have hf := ifp c36 hf
              refine lv_bipush (v := (-13 : Int32)) X.1 X.2.1 dX9_shift_90 (by decide) ?_
              obtain ⟨rfl, rfl⟩ := rt2 hf
              exact x_iret X hr hk M dX9_shift_92
            · have hf := ifn c36 hf
              refine lv_aload X.1 X.2.1 dX9_shift_78 (lv_at hl 0 rfl) ?_
              refine lv_iload X.1 X.2.1 dX9_shift_80 (lv_at hl 6 rfl) ?_
              refine lv_iload X.1 X.2.1 dX9_shift_82 (lv_at hl 7 rfl) ?_
              obtain ⟨⟨⟩, q37, hf⟩ := bnd hf
              obtain ⟨t40, h39, q38, hf⟩ := bnd2 hf
              refine x_callVi (As := [.int v4, .int v5]) cf_X9_205 (c_X7_spans l G N t15 v4 v5 h34 _ _ q38) rfl ⟨rfl, rfl, Nat.le_of_ble_eq_true rfl, Nat.le_of_ble_eq_true rfl⟩ ⟨Nat.le_of_ble_eq_true rfl, Nat.le_of_ble_eq_true rfl⟩ X M (x_recv cls_X7 X M q37) rfl rfl hl.1 (Nat.le_of_ble_eq_true rfl) dX9_shift_84 (fun H locs M => ?_)
              refine lv_if_ne (tgt := 93) X.1 X.2.1 dX9_shift_87 (by decide) (fun c41 => ?_) (fun c41 => ?_)
              · have hf := ifn c41 hf
                refine lv_aload X.1 X.2.1 dX9_shift_93 (lv_at hl 1 rfl) ?_
                obtain ⟨t42, q43, hf⟩ := bnd hf
                refine x_getr fl_X9_307 X M q43 dX9_shift_95 ?_
                refine lv_iload_n X.1 X.2.1 dX9_shift_98 rfl (lv_at hl 4 rfl) ?_
                refine lv_aload X.1 X.2.1 dX9_shift_99 (lv_at hl 0 rfl) ?_
                obtain ⟨t44, q45, hf⟩ := bnd hf
                refine x_getr fl_X9_307 X M q45 dX9_shift_101 ?_
                refine lv_iload X.1 X.2.1 dX9_shift_104 (lv_at hl 6 rfl) ?_
                refine lv_iload X.1 X.2.1 dX9_shift_106 (lv_at hl 7 rfl) ?_
                obtain ⟨h46, q47, hf⟩ := bnd hf
                refine x_cpJ k_943 k_654 k_653 k_18 X M q47 hl.1 (Nat.le_of_ble_eq_true rfl) (Nat.le_of_ble_eq_true rfl) dX9_shift_108 (fun H locs M => ?_)
                refine lv_iload X.1 X.2.1 dX9_shift_111 (lv_at hl 7 rfl) ?_
                obtain ⟨rfl, rfl⟩ := rt2 hf
                exact x_iret X hr hk M dX9_shift_113
              · have hf := ifp c41 hf
                refine lv_bipush (v := (-13 : Int32)) X.1 X.2.1 dX9_shift_90 (by decide) ?_
                obtain ⟨rfl, rfl⟩ := rt2 hf
                exact x_iret X hr hk M dX9_shift_92
          · have hf := ifn c31 hf
            refine lv_bipush (v := (-12 : Int32)) X.1 X.2.1 dX9_shift_64 (by decide) ?_
            obtain ⟨rfl, rfl⟩ := rt2 hf
            exact x_iret X hr hk M dX9_shift_66
        · have hf := ifn c26 hf
          refine lv_bipush (v := (-11 : Int32)) X.1 X.2.1 dX9_shift_48 (by decide) ?_
          obtain ⟨rfl, rfl⟩ := rt2 hf
          exact x_iret X hr hk M dX9_shift_50
    · have hf := ifp c8 hf
      refine lv_iconst (v := (-1 : Int32)) X.1 X.2.1 dX9_shift_14 (by decide) ?_
      obtain ⟨rfl, rfl⟩ := rt2 hf
      exact x_iret X hr hk M dX9_shift_15
theorem c_X9_shift (l : Launch) (G : Gx) (N : Nat) (v0 : Nat) (v1 : Int32) (v2 : Int32) (v3 : Int32) (v4 : Int32) (v5 : Int32) (h : Mem) (r : Int32) (h' : Mem) (hf : f_X9_shift N v0 v1 v2 v3 v4 v5 h = some (r, h')) : MetG l G yX9_shift (.code yX9_shift cX9_shift 8 (Option.some Jvm.ClassFile.FieldType.int)) rm_X9_shift [.ref (gB G + v0), .int v1, .int v2, .int v3, .int v4, .int v5] h (QcI G r h') 0 0 :=
  x_met (by decide) rfl (Nat.le_of_ble_eq_true rfl) (fun p e s m args below meth c ls X M hr hk hin hl => w_X9_shift X hr hk N v0 v1 v2 v3 v4 v5 h hf _ _ ls M hl)
