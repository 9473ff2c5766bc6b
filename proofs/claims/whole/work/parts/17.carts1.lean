abbrev rm_X9_init : Room := { frames := 2, cells := 70, slots := 1157, locals := 61 }
def f_X9_init (N : Nat) (v0 : Nat) (h : Mem) : Option Mem :=
  (f_X3_init N (al h (1, 0)).1.length (al (al h (1, 0)) (3, 0))).bind fun h2 =>
  (f_X1_init N h.1.length (al h (1, 0)).1.length h2).bind fun h4 =>
  (sR h4 v0 9 0 h.1.length).bind fun h5 =>
  (gR (al h5 (1, 0)) v0 9 0).bind fun t7 =>
  (gR (al h5 (1, 0)) t7 1 0).bind fun t9 =>
  (f_X1_init N h5.1.length t9 (al h5 (1, 0))).bind fun h12 =>
  (sR h12 v0 9 1 h5.1.length).bind fun h13 =>
  (gR (al h13 (1, 0)) v0 9 0).bind fun t15 =>
  (gR (al h13 (1, 0)) t15 1 0).bind fun t17 =>
  (f_X1_init N h13.1.length t17 (al h13 (1, 0))).bind fun h20 =>
  (sR h20 v0 9 2 h13.1.length).bind fun h21 =>
  (f_X3_init N h21.1.length (al h21 (3, 0))).bind fun h24 =>
  (sR h24 v0 9 3 h21.1.length).bind fun h25 =>
  (f_X5_init N h25.1.length (al h25 (5, 0))).bind fun h28 =>
  (sR h28 v0 9 4 h25.1.length).bind fun h29 =>
  (f_X6_init N h29.1.length (al h29 (6, 0))).bind fun h32 =>
  (sR h32 v0 9 5 h29.1.length).bind fun h33 =>
  (f_X8_init N h33.1.length (al h33 (8, 0))).bind fun h36 =>
  (sR h36 v0 9 6 h33.1.length).bind fun h37 =>
  (f_X2_init N h37.1.length (al h37 (2, 0))).bind fun h40 =>
  (sR h40 v0 9 7 h37.1.length).bind fun h41 =>
  (f_X0_init N h41.1.length (al h41 (0, 0))).bind fun h44 =>
  (sR h44 v0 9 8 h41.1.length).bind fun h45 =>
  (sR (al h45 (104, 4)) v0 9 9 h45.1.length).bind fun h47 =>
  (sR (al h47 (105, 6)) v0 9 10 h47.1.length).bind fun h49 =>
  (gR h49 v0 9 10).bind fun t51 =>
  (f_X7_init N h49.1.length (al h49 (7, 0))).bind fun h54 =>
  (stQ 105 7 h54 t51 (0 : Int32) h49.1.length).bind fun h55 =>
  (gR h55 v0 9 10).bind fun t57 =>
  (f_X7_init N h55.1.length (al h55 (7, 0))).bind fun h60 =>
  (stQ 105 7 h60 t57 (1 : Int32) h55.1.length).bind fun h61 =>
  (gR h61 v0 9 10).bind fun t63 =>
  (f_X7_init N h61.1.length (al h61 (7, 0))).bind fun h66 =>
  (stQ 105 7 h66 t63 (2 : Int32) h61.1.length).bind fun h67 =>
  (gR h67 v0 9 10).bind fun t69 =>
  (f_X7_init N h67.1.length (al h67 (7, 0))).bind fun h72 =>
  (stQ 105 7 h72 t69 (3 : Int32) h67.1.length).bind fun h73 =>
  (gR h73 v0 9 10).bind fun t75 =>
  (f_X7_init N h73.1.length (al h73 (7, 0))).bind fun h78 =>
  (stQ 105 7 h78 t75 (4 : Int32) h73.1.length).bind fun h79 =>
  (gR h79 v0 9 10).bind fun t81 =>
  (f_X7_init N h79.1.length (al h79 (7, 0))).bind fun h84 =>
  (stQ 105 7 h84 t81 (5 : Int32) h79.1.length).bind fun h85 =>
  some h85
set_option maxRecDepth 100000 in
set_option maxHeartbeats 4000000 in
theorem w_X9_init {p : Program} {l : Launch} {e : Env} {s : State} {m : MethodId} {args : Array Value} {below : List Frame} {meth : Method} {c : Code} {G : Gx} {h' : Mem} {L : Nat} (X : CX G p s m args c cX9_init 2 RX9) (hr : meth.sig.returnType = (Option.none : Option Jvm.ClassFile.FieldType)) (hk : meth.locks = false) (hL : s.heap.size + 70 = gB G + L) (hin : meth.name = "<init>") (N : Nat) : ∀ (v0 : Nat) (h : Mem), f_X9_init N v0 h = some h' → ∀ (H : Heap) (locs : List Loc) (ls : Array Slot), MS G s h H locs 0 → lv_has ls 2 [(0, .ref (gB G + v0))] → W p l e (rm_X9_init) s m args below meth c H locs 0 0 (QV G below args s h' L 70 1157) (F0 m 0 ls []) := by
  intro v0 h hf H locs ls M hl
  rw [f_X9_init] at hf
  refine lv_aload_n X.1 X.2.1 dX9_init_0 rfl (lv_at hl 0 rfl) ?_
  refine x_obj k_26 k_27 k_28 X hl.1 dX9_init_1 (Nat.le_of_ble_eq_true rfl) (Nat.le_of_ble_eq_true rfl) ?_
  refine lv_aload_n X.1 X.2.1 dX9_init_4 rfl (lv_at hl 0 rfl) ?_
  refine x_new cls_X1 k_29 k_30 k_2 X M ⟨Nat.le_of_ble_eq_true rfl, Nat.le_of_ble_eq_true rfl⟩ dX9_init_5 (fun H locs M => ?_)
  refine lv_dup X.1 X.2.1 dX9_init_8 rfl ?_
  refine x_new cls_X3 k_31 k_32 k_3 X M ⟨Nat.le_of_ble_eq_true rfl, Nat.le_of_ble_eq_true rfl⟩ dX9_init_9 (fun H locs M => ?_)
  refine lv_dup X.1 X.2.1 dX9_init_12 rfl ?_
  obtain ⟨h2, q1, hf⟩ := bnd hf
  refine x_callIN (As := []) cf_X9_13 (c_X3_init l G N (al h (1, 0)).1.length (al (al h (1, 0)) (3, 0)) _ q1) rfl ⟨rfl, rfl, Nat.le_of_ble_eq_true rfl, Nat.le_of_ble_eq_true rfl⟩ ⟨Nat.le_of_ble_eq_true rfl, Nat.le_of_ble_eq_true rfl⟩ X M rfl rfl hl.1 (Nat.le_of_ble_eq_true rfl) dX9_init_13 (fun H locs M => ?_)
  obtain ⟨h4, q3, hf⟩ := bnd hf
  refine x_callI (As := [.ref (gB G + (al h (1, 0)).1.length)]) cf_X9_14 (c_X1_init l G N h.1.length (al h (1, 0)).1.length h2 _ q3) rfl ⟨rfl, rfl, Nat.le_of_ble_eq_true rfl, Nat.le_of_ble_eq_true rfl⟩ ⟨Nat.le_of_ble_eq_true rfl, Nat.le_of_ble_eq_true rfl⟩ X M rfl rfl hl.1 (Nat.le_of_ble_eq_true rfl) dX9_init_16 (fun H locs M => ?_)
  obtain ⟨h5, q6, hf⟩ := bnd hf
  refine x_putrF fl_X9_17 fp_X9_17.1 hin rfl fp_X9_17.2 (fun _ => rfl) (fun _ => rfl) X M q6 dX9_init_19 (fun H locs M => ?_)
  refine lv_aload_n X.1 X.2.1 dX9_init_22 rfl (lv_at hl 0 rfl) ?_
  refine x_new cls_X1 k_29 k_30 k_2 X M ⟨Nat.le_of_ble_eq_true rfl, Nat.le_of_ble_eq_true rfl⟩ dX9_init_23 (fun H locs M => ?_)
  refine lv_dup X.1 X.2.1 dX9_init_26 rfl ?_
  refine lv_aload_n X.1 X.2.1 dX9_init_27 rfl (lv_at hl 0 rfl) ?_
  obtain ⟨t7, q8, hf⟩ := bnd hf
  refine x_getr fl_X9_17 X M q8 dX9_init_28 ?_
  obtain ⟨t9, q10, hf⟩ := bnd hf
  refine x_getr fl_X9_23 X M q10 dX9_init_31 ?_
  obtain ⟨h12, q11, hf⟩ := bnd hf
  refine x_callI (As := [.ref (gB G + t9)]) cf_X9_14 (c_X1_init l G N h5.1.length t9 (al h5 (1, 0)) _ q11) rfl ⟨rfl, rfl, Nat.le_of_ble_eq_true rfl, Nat.le_of_ble_eq_true rfl⟩ ⟨Nat.le_of_ble_eq_true rfl, Nat.le_of_ble_eq_true rfl⟩ X M rfl rfl hl.1 (Nat.le_of_ble_eq_true rfl) dX9_init_34 (fun H locs M => ?_)
  obtain ⟨h13, q14, hf⟩ := bnd hf
  refine x_putrF fl_X9_27 fp_X9_27.1 hin rfl fp_X9_27.2 (fun _ => rfl) (fun _ => rfl) X M q14 dX9_init_37 (fun H locs M => ?_)
  refine lv_aload_n X.1 X.2.1 dX9_init_40 rfl (lv_at hl 0 rfl) ?_
  refine x_new cls_X1 k_29 k_30 k_2 X M ⟨Nat.le_of_ble_eq_true rfl, Nat.le_of_ble_eq_true rfl⟩ dX9_init_41 (fun H locs M => ?_)
  refine lv_dup X.1 X.2.1 dX9_init_44 rfl ?_
  refine lv_aload_n X.1 X.2.1 dX9_init_45 rfl (lv_at hl 0 rfl) ?_
  obtain ⟨t15, q16, hf⟩ := bnd hf
  refine x_getr fl_X9_17 X M q16 dX9_init_46 ?_
  obtain ⟨t17, q18, hf⟩ := bnd hf
  refine x_getr fl_X9_23 X M q18 dX9_init_49 ?_
  obtain ⟨h20, q19, hf⟩ := bnd hf
  refine x_callI (As := [.ref (gB G + t17)]) cf_X9_14 (c_X1_init l G N h13.1.length t17 (al h13 (1, 0)) _ q19) rfl ⟨rfl, rfl, Nat.le_of_ble_eq_true rfl, Nat.le_of_ble_eq_true rfl⟩ ⟨Nat.le_of_ble_eq_true rfl, Nat.le_of_ble_eq_true rfl⟩ X M rfl rfl hl.1 (Nat.le_of_ble_eq_true rfl) dX9_init_52 (fun H locs M => ?_)
  obtain ⟨h21, q22, hf⟩ := bnd hf
  refine x_putrF fl_X9_30 fp_X9_30.1 hin rfl fp_X9_30.2 (fun _ => rfl) (fun _ => rfl) X M q22 dX9_init_55 (fun H locs M => ?_)
  refine lv_aload_n X.1 X.2.1 dX9_init_58 rfl (lv_at hl 0 rfl) ?_
  refine x_new cls_X3 k_31 k_32 k_3 X M ⟨Nat.le_of_ble_eq_true rfl, Nat.le_of_ble_eq_true rfl⟩ dX9_init_59 (fun H locs M => ?_)
  refine lv_dup X.1 X.2.1 dX9_init_62 rfl ?_
  obtain ⟨h24, q23, hf⟩ := bnd hf
  refine x_callIN (As := []) cf_X9_13 (c_X3_init l G N h21.1.length (al h21 (3, 0)) _ q23) rfl ⟨rfl, rfl, Nat.le_of_ble_eq_true rfl, Nat.le_of_ble_eq_true rfl⟩ ⟨Nat.le_of_ble_eq_true rfl, Nat.le_of_ble_eq_true rfl⟩ X M rfl rfl hl.1 (Nat.le_of_ble_eq_true rfl) dX9_init_63 (fun H locs M => ?_)
  obtain ⟨h25, q26, hf⟩ := bnd hf
  refine x_putr fl_X9_33 fp_X9_33.1 fp_X9_33.2 (fun _ => rfl) (fun _ => rfl) X M q26 dX9_init_66 (fun H locs M => ?_)
  refine lv_aload_n X.1 X.2.1 dX9_init_69 rfl (lv_at hl 0 rfl) ?_
  refine x_new cls_X5 k_149 k_150 k_4 X M ⟨Nat.le_of_ble_eq_true rfl, Nat.le_of_ble_eq_true rfl⟩ dX9_init_70 (fun H locs M => ?_)
  refine lv_dup X.1 X.2.1 dX9_init_73 rfl ?_
  obtain ⟨h28, q27, hf⟩ := bnd hf
  refine x_callIN (As := []) cf_X9_38 (c_X5_init l G N h25.1.length (al h25 (5, 0)) _ q27) rfl ⟨rfl, rfl, Nat.le_of_ble_eq_true rfl, Nat.le_of_ble_eq_true rfl⟩ ⟨Nat.le_of_ble_eq_true rfl, Nat.le_of_ble_eq_true rfl⟩ X M rfl rfl hl.1 (Nat.le_of_ble_eq_true rfl) dX9_init_74 (fun H locs M => ?_)
  obtain ⟨h29, q30, hf⟩ := bnd hf
  refine x_putrF fl_X9_39 fp_X9_39.1 hin rfl fp_X9_39.2 (fun _ => rfl) (fun _ => rfl) X M q30 dX9_init_77 (fun H locs M => ?_)
  refine lv_aload_n X.1 X.2.1 dX9_init_80 rfl (lv_at hl 0 rfl) ?_
  refine x_new cls_X6 k_167 k_168 k_5 X M ⟨Nat.le_of_ble_eq_true rfl, Nat.le_of_ble_eq_true rfl⟩ dX9_init_81 (fun H locs M => ?_)
  refine lv_dup X.1 X.2.1 dX9_init_84 rfl ?_
  obtain ⟨h32, q31, hf⟩ := bnd hf
  refine x_callIN (As := []) cf_X9_45 (c_X6_init l G N h29.1.length (al h29 (6, 0)) _ q31) rfl ⟨rfl, rfl, Nat.le_of_ble_eq_true rfl, Nat.le_of_ble_eq_true rfl⟩ ⟨Nat.le_of_ble_eq_true rfl, Nat.le_of_ble_eq_true rfl⟩ X M rfl rfl hl.1 (Nat.le_of_ble_eq_true rfl) dX9_init_85 (fun H locs M => ?_)
  obtain ⟨h33, q34, hf⟩ := bnd hf
  refine x_putrF fl_X9_46 fp_X9_46.1 hin rfl fp_X9_46.2 (fun _ => rfl) (fun _ => rfl) X M q34 dX9_init_88 (fun H locs M => ?_)
  refine lv_aload_n X.1 X.2.1 dX9_init_91 rfl (lv_at hl 0 rfl) ?_
  refine x_new cls_X8 k_183 k_184 k_6 X M ⟨Nat.le_of_ble_eq_true rfl, Nat.le_of_ble_eq_true rfl⟩ dX9_init_92 (fun H locs M => ?_)
  refine lv_dup X.1 X.2.1 dX9_init_95 rfl ?_
  obtain ⟨h36, q35, hf⟩ := bnd hf
  refine x_callIN (As := []) cf_X9_52 (c_X8_init l G N h33.1.length (al h33 (8, 0)) _ q35) rfl ⟨rfl, rfl, Nat.le_of_ble_eq_true rfl, Nat.le_of_ble_eq_true rfl⟩ ⟨Nat.le_of_ble_eq_true rfl, Nat.le_of_ble_eq_true rfl⟩ X M rfl rfl hl.1 (Nat.le_of_ble_eq_true rfl) dX9_init_96 (fun H locs M => ?_)
  obtain ⟨h37, q38, hf⟩ := bnd hf
  refine x_putrF fl_X9_53 fp_X9_53.1 hin rfl fp_X9_53.2 (fun _ => rfl) (fun _ => rfl) X M q38 dX9_init_99 (fun H locs M => ?_)
  refine lv_aload_n X.1 X.2.1 dX9_init_102 rfl (lv_at hl 0 rfl) ?_
  refine x_new cls_X2 k_194 k_195 k_7 X M ⟨Nat.le_of_ble_eq_true rfl, Nat.le_of_ble_eq_true rfl⟩ dX9_init_103 (fun H locs M => ?_)
  refine lv_dup X.1 X.2.1 dX9_init_106 rfl ?_
  obtain ⟨h40, q39, hf⟩ := bnd hf
  refine x_callIN (As := []) cf_X9_59 (c_X2_init l G N h37.1.length (al h37 (2, 0)) _ q39) rfl ⟨rfl, rfl, Nat.le_of_ble_eq_true rfl, Nat.le_of_ble_eq_true rfl⟩ ⟨Nat.le_of_ble_eq_true rfl, Nat.le_of_ble_eq_true rfl⟩ X M rfl rfl hl.1 (Nat.le_of_ble_eq_true rfl) dX9_init_107 (fun H locs M => ?_)
  obtain ⟨h41, q42, hf⟩ := bnd hf
  refine x_putrF fl_X9_60 fp_X9_60.1 hin rfl fp_X9_60.2 (fun _ => rfl) (fun _ => rfl) X M q42 dX9_init_110 (fun H locs M => ?_)
  refine lv_aload_n X.1 X.2.1 dX9_init_113 rfl (lv_at hl 0 rfl) ?_
  refine x_new cls_X0 k_207 k_208 k_8 X M ⟨Nat.le_of_ble_eq_true rfl, Nat.le_of_ble_eq_true rfl⟩ dX9_init_114 (fun H locs M => ?_)
  refine lv_dup X.1 X.2.1 dX9_init_117 rfl ?_
  obtain ⟨h44, q43, hf⟩ := bnd hf
  refine x_callIN (As := []) cf_X9_66 (c_X0_init l G N h41.1.length (al h41 (0, 0)) _ q43) rfl ⟨rfl, rfl, Nat.le_of_ble_eq_true rfl, Nat.le_of_ble_eq_true rfl⟩ ⟨Nat.le_of_ble_eq_true rfl, Nat.le_of_ble_eq_true rfl⟩ X M rfl rfl hl.1 (Nat.le_of_ble_eq_true rfl) dX9_init_118 (fun H locs M => ?_)
  obtain ⟨h45, q46, hf⟩ := bnd hf
  refine x_putrF fl_X9_67 fp_X9_67.1 hin rfl fp_X9_67.2 (fun _ => rfl) (fun _ => rfl) X M q46 dX9_init_121 (fun H locs M => ?_)
  refine lv_aload_n X.1 X.2.1 dX9_init_124 rfl (lv_at hl 0 rfl) ?_
  refine lv_iconst (v := (4 : Int32)) X.1 X.2.1 dX9_init_125 (by decide) ?_
  refine x_newQ (t := 104) (N := 4) (by decide) (fun _ => rfl) k_231 (fun E => E.2.2.2.2.2.2.2.2.2.2.1) (by decide) (by decide) (by decide) X M ⟨Nat.le_of_ble_eq_true rfl, Nat.le_of_ble_eq_true rfl⟩ dX9_init_126 (fun H locs M => ?_)
  obtain ⟨h47, q48, hf⟩ := bnd hf
  refine x_putrF fl_X9_73 fp_X9_73.1 hin rfl fp_X9_73.2 (fun _ => rfl) (fun _ => rfl) X M q48 dX9_init_129 (fun H locs M => ?_)
  refine lv_aload_n X.1 X.2.1 dX9_init_132 rfl (lv_at hl 0 rfl) ?_
  refine lv_bipush (v := (6 : Int32)) X.1 X.2.1 dX9_init_133 (by decide) ?_
  refine x_newQ (t := 105) (N := 6) (by decide) (fun _ => rfl) k_233 (fun E => E.2.2.2.2.2.2.2.2.2.2.2.1) (by decide) (by decide) (by decide) X M ⟨Nat.le_of_ble_eq_true rfl, Nat.le_of_ble_eq_true rfl⟩ dX9_init_135 (fun H locs M => ?_)
  obtain ⟨h49, q50, hf⟩ := bnd hf
  refine x_putrF fl_X9_79 fp_X9_79.1 hin rfl fp_X9_79.2 (fun _ => rfl) (fun _ => rfl) X M q50 dX9_init_138 (fun H locs M => ?_)
  refine lv_iconst (v := (0 : Int32)) X.1 X.2.1 dX9_init_141 (by decide) ?_
  refine lv_istore_n (lv' := [(1, .int (0 : Int32)), (0, .ref (gB G + v0))]) X.1 X.2.1 dX9_init_142 rfl hl (by decide) rfl (fun ls hl => ?_)
  refine lv_iload_n X.1 X.2.1 dX9_init_143 rfl (lv_at hl 0 rfl) ?_
  refine lv_bipush (v := (6 : Int32)) X.1 X.2.1 dX9_init_144 (by decide) ?_
  refine lv_icmp_ge (tgt := 168) X.1 X.2.1 dX9_init_146 (by decide) (fun q => absurd q (by decide)) (fun _ => ?_)
  refine lv_aload_n X.1 X.2.1 dX9_init_149 rfl (lv_at hl 1 rfl) ?_
  obtain ⟨t51, q52, hf⟩ := bnd hf
  refine x_getr fl_X9_79 X M q52 dX9_init_150 ?_
  refine lv_iload_n X.1 X.2.1 dX9_init_153 rfl (lv_at hl 0 rfl) ?_
  refine x_new cls_X7 k_233 k_235 k_9 X M ⟨Nat.le_of_ble_eq_true rfl, Nat.le_of_ble_eq_true rfl⟩ dX9_init_154 (fun H locs M => ?_)
  refine lv_dup X.1 X.2.1 dX9_init_157 rfl ?_
  obtain ⟨h54, q53, hf⟩ := bnd hf
  refine x_callIN (As := []) cf_X9_83 (c_X7_init l G N h49.1.length (al h49 (7, 0)) _ q53) rfl ⟨rfl, rfl, Nat.le_of_ble_eq_true rfl, Nat.le_of_ble_eq_true rfl⟩ ⟨Nat.le_of_ble_eq_true rfl, Nat.le_of_ble_eq_true rfl⟩ X M rfl rfl hl.1 (Nat.le_of_ble_eq_true rfl) dX9_init_158 (fun H locs M => ?_)
  obtain ⟨h55, q56, hf⟩ := bnd hf
  refine x_aast (by decide) (fun _ => rfl) (by decide) rfl X M q56 dX9_init_161 (fun H locs M => ?_)
  refine lv_iinc (v := (1 : Int32)) (lv' := [(1, .int (1 : Int32)), (0, .ref (gB G + v0))]) X.1 X.2.1 dX9_init_162 hl (k := 0) rfl (by first | rfl | decide) (by decide) rfl (fun ls hl => ?_)
  refine lv_goto (tgt := 143) X.1 X.2.1 dX9_init_165 (by decide) ?_
  refine lv_iload_n X.1 X.2.1 dX9_init_143 rfl (lv_at hl 0 rfl) ?_
  refine lv_bipush (v := (6 : Int32)) X.1 X.2.1 dX9_init_144 (by decide) ?_
  refine lv_icmp_ge (tgt := 168) X.1 X.2.1 dX9_init_146 (by decide) (fun q => absurd q (by decide)) (fun _ => ?_)
  refine lv_aload_n X.1 X.2.1 dX9_init_149 rfl (lv_at hl 1 rfl) ?_
  obtain ⟨t57, q58, hf⟩ := bnd hf
  refine x_getr fl_X9_79 X M q58 dX9_init_150 ?_
  refine lv_iload_n X.1 X.2.1 dX9_init_153 rfl (lv_at hl 0 rfl) ?_
  refine x_new cls_X7 k_233 k_235 k_9 X M ⟨Nat.le_of_ble_eq_true rfl, Nat.le_of_ble_eq_true rfl⟩ dX9_init_154 (fun H locs M => ?_)
  refine lv_dup X.1 X.2.1 dX9_init_157 rfl ?_
  obtain ⟨h60, q59, hf⟩ := bnd hf
  refine x_callIN (As := []) cf_X9_83 (c_X7_init l G N h55.1.length (al h55 (7, 0)) _ q59) rfl ⟨rfl, rfl, Nat.le_of_ble_eq_true rfl, Nat.le_of_ble_eq_true rfl⟩ ⟨Nat.le_of_ble_eq_true rfl, Nat.le_of_ble_eq_true rfl⟩ X M rfl rfl hl.1 (Nat.le_of_ble_eq_true rfl) dX9_init_158 (fun H locs M => ?_)
  obtain ⟨h61, q62, hf⟩ := bnd hf
  refine x_aast (by decide) (fun _ => rfl) (by decide) rfl X M q62 dX9_init_161 (fun H locs M => ?_)
  refine lv_iinc (v := (2 : Int32)) (lv' := [(1, .int (2 : Int32)), (0, .ref (gB G + v0))]) X.1 X.2.1 dX9_init_162 hl (k := 0) rfl (by first | rfl | decide) (by decide) rfl (fun ls hl => ?_)
  refine lv_goto (tgt := 143) X.1 X.2.1 dX9_init_165 (by decide) ?_
  refine lv_iload_n X.1 X.2.1 dX9_init_143 rfl (lv_at hl 0 rfl) ?_
  refine lv_bipush (v := (6 : Int32)) X.1 X.2.1 dX9_init_144 (by decide) ?_
  refine lv_icmp_ge (tgt := 168) X.1 X.2.1 dX9_init_146 (by decide) (fun q => absurd q (by decide)) (fun _ => ?_)
  refine lv_aload_n X.1 X.2.1 dX9_init_149 rfl (lv_at hl 1 rfl) ?_
  obtain ⟨t63, q64, hf⟩ := bnd hf
  refine x_getr fl_X9_79 X M q64 dX9_init_150 ?_
  refine lv_iload_n X.1 X.2.1 dX9_init_153 rfl (lv_at hl 0 rfl) ?_
  refine x_new cls_X7 k_233 k_235 k_9 X M ⟨Nat.le_of_ble_eq_true rfl, Nat.le_of_ble_eq_true rfl⟩ dX9_init_154 (fun H locs M => ?_)
  refine lv_dup X.1 X.2.1 dX9_init_157 rfl ?_
  obtain ⟨h66, q65, hf⟩ := bnd hf
  refine x_callIN (As := []) cf_X9_83 (c_X7_init l G N h61.1.length (al h61 (7, 0)) _ q65) rfl ⟨rfl, rfl, Nat.le_of_ble_eq_true rfl, Nat.le_of_ble_eq_true rfl⟩ ⟨Nat.le_of_ble_eq_true rfl, Nat.le_of_ble_eq_true rfl⟩ X M rfl rfl hl.1 (Nat.le_of_ble_eq_true rfl) dX9_init_158 (fun H locs M => ?_)
  obtain ⟨h67, q68, hf⟩ := bnd hf
  refine x_aast (by decide) (fun _ => rfl) (by decide) rfl X M q68 dX9_init_161 (fun H locs M => ?_)
  refine lv_iinc (v := (3 : Int32)) (lv' := [(1, .int (3 : Int32)), (0, .ref (gB G + v0))]) X.1 X.2.1 dX9_init_162 hl (k := 0) rfl (by first | rfl | decide) (by decide) rfl (fun ls hl => ?_)
  refine lv_goto (tgt := 143) X.1 X.2.1 dX9_init_165 (by decide) ?_
  refine lv_iload_n X.1 X.2.1 dX9_init_143 rfl (lv_at hl 0 rfl) ?_
  refine lv_bipush (v := (6 : Int32)) X.1 X.2.1 dX9_init_144 (by decide) ?_
  refine lv_icmp_ge (tgt := 168) X.1 X.2.1 dX9_init_146 (by decide) (fun q => absurd q (by decide)) (fun _ => ?_)
  refine lv_aload_n X.1 X.2.1 dX9_init_149 rfl (lv_at hl 1 rfl) ?_
  obtain ⟨t69, q70, hf⟩ := bnd hf
  refine x_getr fl_X9_79 X M q70 dX9_init_150 ?_
  refine lv_iload_n X.1 X.2.1 dX9_init_153 rfl (lv_at hl 0 rfl) ?_
  refine x_new cls_X7 k_233 k_235 k_9 X M ⟨Nat.le_of_ble_eq_true rfl, Nat.le_of_ble_eq_true rfl⟩ dX9_init_154 (fun H locs M => ?_)
  refine lv_dup X.1 X.2.1 dX9_init_157 rfl ?_
  obtain ⟨h72, q71, hf⟩ := bnd hf
  refine x_callIN (As := []) cf_X9_83 (c_X7_init l G N h67.1.length (al h67 (7, 0)) _ q71) rfl ⟨rfl, rfl, Nat.le_of_ble_eq_true rfl, Nat.le_of_ble_eq_true rfl⟩ ⟨Nat.le_of_ble_eq_true rfl, Nat.le_of_ble_eq_true rfl⟩ X M rfl rfl hl.1 (Nat.le_of_ble_eq_true rfl) dX9_init_158 (fun H locs M => ?_)
  obtain ⟨h73, q74, hf⟩ := bnd hf
  refine x_aast (by decide) (fun _ => rfl) (by decide) rfl X M q74 dX9_init_161 (fun H locs M => ?_)
  refine lv_iinc (v := (4 : Int32)) (lv' := [(1, .int (4 : Int32)), (0, .ref (gB G + v0))]) X.1 X.2.1 dX9_init_162 hl (k := 0) rfl (by first | rfl | decide) (by decide) rfl (fun ls hl => ?_)
  refine lv_goto (tgt := 143) X.1 X.2.1 dX9_init_165 (by decide) ?_
  refine lv_iload_n X.1 X.2.1 dX9_init_143 rfl (lv_at hl 0 rfl) ?_
  refine lv_bipush (v := (6 : Int32)) X.1 X.2.1 dX9_init_144 (by decide) ?_
  refine lv_icmp_ge (tgt := 168) X.1 X.2.1 dX9_init_146 (by decide) (fun q => absurd q (by decide)) (fun _ => ?_)
  refine lv_aload_n X.1 X.2.1 dX9_init_149 rfl (lv_at hl 1 rfl) ?_
  obtain ⟨t75, q76, hf⟩ := bnd hf
  refine x_getr fl_X9_79 X M q76 dX9_init_150 ?_
  refine lv_iload_n X.1 X.2.1 dX9_init_153 rfl (lv_at hl 0 rfl) ?_
  refine x_new cls_X7 k_233 k_235 k_9 X M ⟨Nat.le_of_ble_eq_true rfl, Nat.le_of_ble_eq_true rfl⟩ dX9_init_154 (fun H locs M => ?_)
  refine lv_dup X.1 X.2.1 dX9_init_157 rfl ?_
  obtain ⟨h78, q77, hf⟩ := bnd hf
  refine x_callIN (As := []) cf_X9_83 (c_X7_init l G N h73.1.length (al h73 (7, 0)) _ q77) rfl ⟨rfl, rfl, Nat.le_of_ble_eq_true rfl, Nat.le_of_ble_eq_true rfl⟩ ⟨Nat.le_of_ble_eq_true rfl, Nat.le_of_ble_eq_true rfl⟩ X M rfl rfl hl.1 (Nat.le_of_ble_eq_true rfl) dX9_init_158 (fun H locs M => ?_)
  obtain ⟨h79, q80, hf⟩ := bnd hf
  refine x_aast (by decide) (fun _ => rfl) (by decide) rfl X M q80 dX9_init_161 (fun H locs M => ?_)
  refine lv_iinc (v := (5 : Int32)) (lv' := [(1, .int (5 : Int32)), (0, .ref (gB G + v0))]) X.1 X.2.1 dX9_init_162 hl (k := 0) rfl (by first | rfl | decide) (by decide) rfl (fun ls hl => ?_)
  refine lv_goto (tgt := 143) X.1 X.2.1 dX9_init_165 (by decide) ?_
  refine lv_iload_n X.1 X.2.1 dX9_init_143 rfl (lv_at hl 0 rfl) ?_
  refine lv_bipush (v := (6 : Int32)) X.1 X.2.1 dX9_init_144 (by decide) ?_
  refine lv_icmp_ge (tgt := 168) X.1 X.2.1 dX9_init_146 (by decide) (fun q => absurd q (by decide)) (fun _ => ?_)
  refine lv_aload_n X.1 X.2.1 dX9_init_149 rfl (lv_at hl 1 rfl) ?_
  obtain ⟨t81, q82, hf⟩ := bnd hf
  refine x_getr fl_X9_79 X M q82 dX9_init_150 ?_
  refine lv_iload_n X.1 X.2.1 dX9_init_153 rfl (lv_at hl 0 rfl) ?_
  refine x_new cls_X7 k_233 k_235 k_9 X M ⟨Nat.le_of_ble_eq_true rfl, Nat.le_of_ble_eq_true rfl⟩ dX9_init_154 (fun H locs M => ?_)
  refine lv_dup X.1 X.2.1 dX9_init_157 rfl ?_
  obtain ⟨h84, q83, hf⟩ := bnd hf
  refine x_callIN (As := []) cf_X9_83 (c_X7_init l G N h79.1.length (al h79 (7, 0)) _ q83) rfl ⟨rfl, rfl, Nat.le_of_ble_eq_true rfl, Nat.le_of_ble_eq_true rfl⟩ ⟨Nat.le_of_ble_eq_true rfl, Nat.le_of_ble_eq_true rfl⟩ X M rfl rfl hl.1 (Nat.le_of_ble_eq_true rfl) dX9_init_158 (fun H locs M => ?_)
  obtain ⟨h85, q86, hf⟩ := bnd hf
  refine x_aast (by decide) (fun _ => rfl) (by decide) rfl X M q86 dX9_init_161 (fun H locs M => ?_)
  refine lv_iinc (v := (6 : Int32)) (lv' := [(1, .int (6 : Int32)), (0, .ref (gB G + v0))]) X.1 X.2.1 dX9_init_162 hl (k := 0) rfl (by first | rfl | decide) (by decide) rfl (fun ls hl => ?_)
  refine lv_goto (tgt := 143) X.1 X.2.1 dX9_init_165 (by decide) ?_
  refine lv_iload_n X.1 X.2.1 dX9_init_143 rfl (lv_at hl 0 rfl) ?_
  refine lv_bipush (v := (6 : Int32)) X.1 X.2.1 dX9_init_144 (by decide) ?_
  refine lv_icmp_ge (tgt := 168) X.1 X.2.1 dX9_init_146 (by decide) (fun _ => ?_) (fun q => absurd (by decide) q)
  obtain rfl := rt1 hf
  exact x_vret X hr hk M hL dX9_init_168
theorem c_X9_init (l : Launch) (G : Gx) (N : Nat) (v0 : Nat) (h : Mem) (h' : Mem) (hf : f_X9_init N v0 h = some h') : MetG l G yX9_init (.code yX9_init cX9_init 2 (Option.none : Option Jvm.ClassFile.FieldType)) rm_X9_init [.ref (gB G + v0)] h (QcV G h' (h.1.length + 70)) 70 1157 :=
  x_met (by decide) rfl (Nat.le_of_ble_eq_true rfl) (fun p e s m args below meth c ls X M hr hk hin hl => w_X9_init X hr hk (by have := M.2.2; omega) hin N v0 h hf _ _ ls M hl)
abbrev rm_X9_within : Room := { frames := 1, cells := 0, slots := 0, locals := 40 }
def f_X9_within (N : Nat) (v0 : Int32) (v1 : Int32) (v2 : Int32) (h : Mem) : Option (Int32 × Mem) :=
  if v0 < v1 then
    some ((0 : Int32), h)
  else
    if v2 < v0 then
      some ((0 : Int32), h)
    else
      some ((1 : Int32), h)
set_option maxRecDepth 100000 in
set_option maxHeartbeats 4000000 in
theorem w_X9_within {p : Program} {l : Launch} {e : Env} {s : State} {m : MethodId} {args : Array Value} {below : List Frame} {meth : Method} {c : Code} {G : Gx} {r : Int32} {h' : Mem} (X : CX G p s m args c cX9_within 3 RX9) (hr : meth.sig.returnType = (Option.some Jvm.ClassFile.FieldType.boolean)) (hk : meth.locks = false) (N : Nat) : ∀ (v0 : Int32) (v1 : Int32) (v2 : Int32) (h : Mem), f_X9_within N v0 v1 v2 h = some (r, h') → ∀ (H : Heap) (locs : List Loc) (ls : Array Slot), MS G s h H locs 0 → lv_has ls 3 [(0, .int v0), (1, .int v1), (2, .int v2)] → W p l e (rm_X9_within) s m args below meth c H locs 0 0 (QI G below args s r h' 0 0) (F0 m 0 ls []) := by
  intro v0 v1 v2 h hf H locs ls M hl
  rw [f_X9_within] at hf
  refine lv_iload_n X.1 X.2.1 dX9_within_0 rfl (lv_at hl 0 rfl) ?_
  refine lv_iload_n X.1 X.2.1 dX9_within_1 rfl (lv_at hl 1 rfl) ?_
  refine lv_icmp_lt (tgt := 14) X.1 X.2.1 dX9_within_2 (by decide) (fun c1 => ?_) (fun c1 => ?_)
  · have hf := ifp c1 hf
    refine lv_iconst (v := (0 : Int32)) X.1 X.2.1 dX9_within_14 (by decide) ?_
    obtain ⟨rfl, rfl⟩ := rt2 hf
    exact x_zret X hr hk rfl M dX9_within_15
  · have hf := ifn c1 hf
    refine lv_iload_n X.1 X.2.1 dX9_within_5 rfl (lv_at hl 0 rfl) ?_
    refine lv_iload_n X.1 X.2.1 dX9_within_6 rfl (lv_at hl 2 rfl) ?_
    refine lv_icmp_gt (tgt := 14) X.1 X.2.1 dX9_within_7 (by decide) (fun c2 => ?_) (fun c2 => ?_)
    · have hf := ifp c2 hf
      refine lv_iconst (v := (0 : Int32)) X.1 X.2.1 dX9_within_14 (by decide) ?_
      obtain ⟨rfl, rfl⟩ := rt2 hf
      exact x_zret X hr hk rfl M dX9_within_15
    · have hf := ifn c2 hf
      refine lv_iconst (v := (1 : Int32)) X.1 X.2.1 dX9_within_10 (by decide) ?_
      refine lv_goto (tgt := 15) X.1 X.2.1 dX9_within_11 (by decide) ?_
      obtain ⟨rfl, rfl⟩ := rt2 hf
      exact x_zret X hr hk rfl M dX9_within_15
theorem c_X9_within (l : Launch) (G : Gx) (N : Nat) (v0 : Int32) (v1 : Int32) (v2 : Int32) (h : Mem) (r : Int32) (h' : Mem) (hf : f_X9_within N v0 v1 v2 h = some (r, h')) : MetG l G yX9_within (.code yX9_within cX9_within 3 (Option.some Jvm.ClassFile.FieldType.boolean)) rm_X9_within [.int v0, .int v1, .int v2] h (QcI G r h') 0 0 :=
  x_met (by decide) rfl (Nat.le_of_ble_eq_true rfl) (fun p e s m args below meth c ls X M hr hk hin hl => w_X9_within X hr hk N v0 v1 v2 h hf _ _ ls M hl)
abbrev rm_X9_town : Room := { frames := 2, cells := 0, slots := 0, locals := 62 }
def f_X9_town (N : Nat) (v0 : Nat) (v1 : Int32) (h : Mem) : Option (Int32 × Mem) :=
  b2 (f_X9_within N v1 (1 : Int32) (8 : Int32) h) fun t3 h2 =>
  if t3 = 0 then
    some ((-2 : Int32), h2)
  else
    (gR h2 v0 9 0).bind fun t5 =>
    (gI h2 t5 1 1).bind fun t7 =>
    if t7 < (4 : Int32) then
      (gR h2 v0 9 0).bind fun t10 =>
      (gR h2 t10 1 3).bind fun t12 =>
      (gR h2 v0 9 0).bind fun t14 =>
      (gI h2 t14 1 1).bind fun t16 =>
      (stI 100 h2 t12 t16 v1).bind fun h18 =>
      (gR h18 v0 9 0).bind fun t20 =>
      (gI h18 t20 1 1).bind fun t22 =>
      (sI h18 t20 1 1 (t22 + (1 : Int32))).bind fun h24 =>
      some (t22, h24)
    else
      some ((-4 : Int32), h2)
set_option maxRecDepth 100000 in
set_option maxHeartbeats 4000000 in
theorem w_X9_town {p : Program} {l : Launch} {e : Env} {s : State} {m : MethodId} {args : Array Value} {below : List Frame} {meth : Method} {c : Code} {G : Gx} {r : Int32} {h' : Mem} (X : CX G p s m args c cX9_town 2 RX9) (hr : meth.sig.returnType = (Option.some Jvm.ClassFile.FieldType.int)) (hk : meth.locks = false) (N : Nat) : ∀ (v0 : Nat) (v1 : Int32) (h : Mem), f_X9_town N v0 v1 h = some (r, h') → ∀ (H : Heap) (locs : List Loc) (ls : Array Slot), MS G s h H locs 0 → lv_has ls 2 [(0, .ref (gB G + v0)), (1, .int v1)] → W p l e (rm_X9_town) s m args below meth c H locs 0 0 (QI G below args s r h' 0 0) (F0 m 0 ls []) := by
  intro v0 v1 h hf H locs ls M hl
  rw [f_X9_town] at hf
  refine lv_iload_n X.1 X.2.1 dX9_town_0 rfl (lv_at hl 1 rfl) ?_
  refine lv_iconst (v := (1 : Int32)) X.1 X.2.1 dX9_town_1 (by decide) ?_
  refine lv_bipush (v := (8 : Int32)) X.1 X.2.1 dX9_town_2 (by decide) ?_
  obtain ⟨t3, h2, q1, hf⟩ := bnd2 hf
  refine x_callSi (As := [.int v1, .int (1 : Int32), .int (8 : Int32)]) cf_X9_84 (c_X9_within l G N v1 (1 : Int32) (8 : Int32) h _ _ q1) rfl ⟨rfl, rfl, Nat.le_of_ble_eq_true rfl, Nat.le_of_ble_eq_true rfl⟩ ⟨Nat.le_of_ble_eq_true rfl, Nat.le_of_ble_eq_true rfl⟩ X M rfl rfl hl.1 (Nat.le_of_ble_eq_true rfl) dX9_town_4 (fun H locs M => ?_)
  refine lv_if_ne (tgt := 13) X.1 X.2.1 dX9_town_7 (by decide) (fun c4 => ?_) (fun c4 => ?_)
  · have hf := ifn c4 hf
    refine lv_aload_n X.1 X.2.1 dX9_town_13 rfl (lv_at hl 0 rfl) ?_
    obtain ⟨t5, q6, hf⟩ := bnd hf
    refine x_getr fl_X9_17 X M q6 dX9_town_14 ?_
    obtain ⟨t7, q8, hf⟩ := bnd hf
    refine x_geti fl_X9_88 X M q8 dX9_town_17 ?_
    refine lv_iconst (v := (4 : Int32)) X.1 X.2.1 dX9_town_20 (by decide) ?_
    refine lv_icmp_lt (tgt := 27) X.1 X.2.1 dX9_town_21 (by decide) (fun c9 => ?_) (fun c9 => ?_)
    · have hf := ifp c9 hf
      refine lv_aload_n X.1 X.2.1 dX9_town_27 rfl (lv_at hl 0 rfl) ?_
      obtain ⟨t10, q11, hf⟩ := bnd hf
      refine x_getr fl_X9_17 X M q11 dX9_town_28 ?_
      obtain ⟨t12, q13, hf⟩ := bnd hf
      refine x_getr fl_X9_92 X M q13 dX9_town_31 ?_
      refine lv_aload_n X.1 X.2.1 dX9_town_34 rfl (lv_at hl 0 rfl) ?_
      obtain ⟨t14, q15, hf⟩ := bnd hf
      refine x_getr fl_X9_17 X M q15 dX9_town_35 ?_
      obtain ⟨t16, q17, hf⟩ := bnd hf
      refine x_geti fl_X9_88 X M q17 dX9_town_38 ?_
      refine lv_iload_n X.1 X.2.1 dX9_town_41 rfl (lv_at hl 1 rfl) ?_
      obtain ⟨h18, q19, hf⟩ := bnd hf
      refine x_iast X M q19 dX9_town_42 (fun H locs M => ?_)
      refine lv_aload_n X.1 X.2.1 dX9_town_43 rfl (lv_at hl 0 rfl) ?_
      obtain ⟨t20, q21, hf⟩ := bnd hf
      refine x_getr fl_X9_17 X M q21 dX9_town_44 ?_
      refine lv_dup X.1 X.2.1 dX9_town_47 rfl ?_
      obtain ⟨t22, q23, hf⟩ := bnd hf
      refine x_geti fl_X9_88 X M q23 dX9_town_48 ?_
      refine lv_dup_x1 X.1 X.2.1 dX9_town_51 rfl rfl ?_
      refine lv_iconst (v := (1 : Int32)) X.1 X.2.1 dX9_town_52 (by decide) ?_
      refine lv_iadd X.1 X.2.1 dX9_town_53 ?_
      obtain ⟨h24, q25, hf⟩ := bnd hf
      refine x_puti fl_X9_88 fp_X9_88.1 fp_X9_88.2 X M q25 dX9_town_54 (fun H locs M => ?_)
      obtain ⟨rfl, rfl⟩ := rt2 hf
      exact x_iret X hr hk M dX9_town_57
    · have hf := ifn c9 hf
      refine lv_bipush (v := (-4 : Int32)) X.1 X.2.1 dX9_town_24 (by decide) ?_
      obtain ⟨rfl, rfl⟩ := rt2 hf
      exact x_iret X hr hk M dX9_town_26
  · have hf := ifp c4 hf
    refine lv_bipush (v := (-2 : Int32)) X.1 X.2.1 dX9_town_10 (by decide) ?_
    obtain ⟨rfl, rfl⟩ := rt2 hf
    exact x_iret X hr hk M dX9_town_12
theorem c_X9_town (l : Launch) (G : Gx) (N : Nat) (v0 : Nat) (v1 : Int32) (h : Mem) (r : Int32) (h' : Mem) (hf : f_X9_town N v0 v1 h = some (r, h')) : MetG l G yX9_town (.code yX9_town cX9_town 2 (Option.some Jvm.ClassFile.FieldType.int)) rm_X9_town [.ref (gB G + v0), .int v1] h (QcI G r h') 0 0 :=
  x_met (by decide) rfl (Nat.le_of_ble_eq_true rfl) (fun p e s m args below meth c ls X M hr hk hin hl => w_X9_town X hr hk N v0 v1 h hf _ _ ls M hl)
abbrev rm_X9_isTown : Room := { frames := 2, cells := 0, slots := 0, locals := 62 }
def f_X9_isTown (N : Nat) (v0 : Nat) (v1 : Int32) (h : Mem) : Option (Int32 × Mem) :=
  (gR h v0 9 0).bind fun t1 =>
  (gI h t1 1 1).bind fun t3 =>
  b2 (f_X9_within N v1 (0 : Int32) (t3 - (1 : Int32)) h) fun t7 h6 =>
  rz t7 h6
set_option maxRecDepth 100000 in
set_option maxHeartbeats 4000000 in
theorem w_X9_isTown {p : Program} {l : Launch} {e : Env} {s : State} {m : MethodId} {args : Array Value} {below : List Frame} {meth : Method} {c : Code} {G : Gx} {r : Int32} {h' : Mem} (X : CX G p s m args c cX9_isTown 2 RX9) (hr : meth.sig.returnType = (Option.some Jvm.ClassFile.FieldType.boolean)) (hk : meth.locks = false) (N : Nat) : ∀ (v0 : Nat) (v1 : Int32) (h : Mem), f_X9_isTown N v0 v1 h = some (r, h') → ∀ (H : Heap) (locs : List Loc) (ls : Array Slot), MS G s h H locs 0 → lv_has ls 2 [(0, .ref (gB G + v0)), (1, .int v1)] → W p l e (rm_X9_isTown) s m args below meth c H locs 0 0 (QI G below args s r h' 0 0) (F0 m 0 ls []) := by
  intro v0 v1 h hf H locs ls M hl
  rw [f_X9_isTown] at hf
  refine lv_iload_n X.1 X.2.1 dX9_isTown_0 rfl (lv_at hl 1 rfl) ?_
  refine lv_iconst (v := (0 : Int32)) X.1 X.2.1 dX9_isTown_1 (by decide) ?_
  refine lv_aload_n X.1 X.2.1 dX9_isTown_2 rfl (lv_at hl 0 rfl) ?_
  obtain ⟨t1, q2, hf⟩ := bnd hf
  refine x_getr fl_X9_17 X M q2 dX9_isTown_3 ?_
  obtain ⟨t3, q4, hf⟩ := bnd hf
  refine x_geti fl_X9_88 X M q4 dX9_isTown_6 ?_
  refine lv_iconst (v := (1 : Int32)) X.1 X.2.1 dX9_isTown_9 (by decide) ?_
  refine lv_isub X.1 X.2.1 dX9_isTown_10 ?_
  obtain ⟨t7, h6, q5, hf⟩ := bnd2 hf
  refine x_callSi (As := [.int v1, .int (0 : Int32), .int (t3 - (1 : Int32))]) cf_X9_84 (c_X9_within l G N v1 (0 : Int32) (t3 - (1 : Int32)) h _ _ q5) rfl ⟨rfl, rfl, Nat.le_of_ble_eq_true rfl, Nat.le_of_ble_eq_true rfl⟩ ⟨Nat.le_of_ble_eq_true rfl, Nat.le_of_ble_eq_true rfl⟩ X M rfl rfl hl.1 (Nat.le_of_ble_eq_true rfl) dX9_isTown_11 (fun H locs M => ?_)
  obtain ⟨z, rfl, rfl⟩ := rz_spec hf
  exact x_zret X hr hk (nz z) M dX9_isTown_14
theorem c_X9_isTown (l : Launch) (G : Gx) (N : Nat) (v0 : Nat) (v1 : Int32) (h : Mem) (r : Int32) (h' : Mem) (hf : f_X9_isTown N v0 v1 h = some (r, h')) : MetG l G yX9_isTown (.code yX9_isTown cX9_isTown 2 (Option.some Jvm.ClassFile.FieldType.boolean)) rm_X9_isTown [.ref (gB G + v0), .int v1] h (QcI G r h') 0 0 :=
  x_met (by decide) rfl (Nat.le_of_ble_eq_true rfl) (fun p e s m args below meth c ls X M hr hk hin hl => w_X9_isTown X hr hk N v0 v1 h hf _ _ ls M hl)
abbrev rm_X9_family : Room := { frames := 3, cells := 0, slots := 0, locals := 84 }
def f_X9_family (N : Nat) (v0 : Nat) (v1 : Int32) (v2 : Int32) (v3 : Int32) (h : Mem) : Option (Int32 × Mem) :=
  (ck h v0 9).bind fun _ =>
  b2 (f_X9_isTown N v0 v3 h) fun t4 h3 =>
  if t4 = 0 then
    some ((-1 : Int32), h3)
  else
    b2 (f_X9_within N v1 (0 : Int32) (3 : Int32) h3) fun t8 h7 =>
    if t8 = 0 then
      some ((-2 : Int32), h7)
    else
      b2 (f_X9_within N v2 (1 : Int32) (99 : Int32) h7) fun t12 h11 =>
      if t12 = 0 then
        some ((-2 : Int32), h11)
      else
        (gR h11 v0 9 0).bind fun t14 =>
        (ck h11 t14 1).bind fun _ =>
        b2 (f_X1_hasRoom N t14 v3 h11) fun t19 h18 =>
        if t19 = 0 then
          some ((-3 : Int32), h18)
        else
          (gR h18 v0 9 0).bind fun t21 =>
          (ck h18 t21 1).bind fun _ =>
          b2 (f_X1_join N t21 v1 v2 v3 h18) fun t26 h25 =>
          some (t26, h25)
set_option maxRecDepth 100000 in
set_option maxHeartbeats 4000000 in
theorem w_X9_family {p : Program} {l : Launch} {e : Env} {s : State} {m : MethodId} {args : Array Value} {below : List Frame} {meth : Method} {c : Code} {G : Gx} {r : Int32} {h' : Mem} (X : CX G p s m args c cX9_family 4 RX9) (hr : meth.sig.returnType = (Option.some Jvm.ClassFile.FieldType.int)) (hk : meth.locks = false) (N : Nat) : ∀ (v0 : Nat) (v1 : Int32) (v2 : Int32) (v3 : Int32) (h : Mem), f_X9_family N v0 v1 v2 v3 h = some (r, h') → ∀ (H : Heap) (locs : List Loc) (ls : Array Slot), MS G s h H locs 0 → lv_has ls 4 [(0, .ref (gB G + v0)), (1, .int v1), (2, .int v2), (3, .int v3)] → W p l e (rm_X9_family) s m args below meth c H locs 0 0 (QI G below args s r h' 0 0) (F0 m 0 ls []) := by
  intro v0 v1 v2 v3 h hf H locs ls M hl
  rw [f_X9_family] at hf
  refine lv_aload_n X.1 X.2.1 dX9_family_0 rfl (lv_at hl 0 rfl) ?_
  refine lv_iload_n X.1 X.2.1 dX9_family_1 rfl (lv_at hl 3 rfl) ?_
  obtain ⟨⟨⟩, q1, hf⟩ := bnd hf
  obtain ⟨t4, h3, q2, hf⟩ := bnd2 hf
  refine x_callVi (As := [.int v3]) cf_X9_96 (c_X9_isTown l G N v0 v3 h _ _ q2) rfl ⟨rfl, rfl, Nat.le_of_ble_eq_true rfl, Nat.le_of_ble_eq_true rfl⟩ ⟨Nat.le_of_ble_eq_true rfl, Nat.le_of_ble_eq_true rfl⟩ X M (x_recv cls_X9 X M q1) rfl rfl hl.1 (Nat.le_of_ble_eq_true rfl) dX9_family_2 (fun H locs M => ?_)
  refine lv_if_ne (tgt := 10) X.1 X.2.1 dX9_family_5 (by decide) (fun c5 => ?_) (fun c5 => ?_)
  · have hf := ifn c5 hf
    refine lv_iload_n X.1 X.2.1 dX9_family_10 rfl (lv_at hl 1 rfl) ?_
    refine lv_iconst (v := (0 : Int32)) X.1 X.2.1 dX9_family_11 (by decide) ?_
    refine lv_iconst (v := (3 : Int32)) X.1 X.2.1 dX9_family_12 (by decide) ?_
    obtain ⟨t8, h7, q6, hf⟩ := bnd2 hf
    refine x_callSi (As := [.int v1, .int (0 : Int32), .int (3 : Int32)]) cf_X9_84 (c_X9_within l G N v1 (0 : Int32) (3 : Int32) h3 _ _ q6) rfl ⟨rfl, rfl, Nat.le_of_ble_eq_true rfl, Nat.le_of_ble_eq_true rfl⟩ ⟨Nat.le_of_ble_eq_true rfl, Nat.le_of_ble_eq_true rfl⟩ X M rfl rfl hl.1 (Nat.le_of_ble_eq_true rfl) dX9_family_13 (fun H locs M => ?_)
    refine lv_if_eq (tgt := 29) X.1 X.2.1 dX9_family_16 (by decide) (fun c9 => ?_) (fun c9 => ?_)
    · have hf := ifp c9 hf
      refine lv_bipush (v := (-2 : Int32)) X.1 X.2.1 dX9_family_29 (by decide) ?_
      obtain ⟨rfl, rfl⟩ := rt2 hf
      exact x_iret X hr hk M dX9_family_31
    · have hf := ifn c9 hf
      refine lv_iload_n X.1 X.2.1 dX9_family_19 rfl (lv_at hl 2 rfl) ?_
      refine lv_iconst (v := (1 : Int32)) X.1 X.2.1 dX9_family_20 (by decide) ?_
      refine lv_bipush (v := (99 : Int32)) X.1 X.2.1 dX9_family_21 (by decide) ?_
      obtain ⟨t12, h11, q10, hf⟩ := bnd2 hf
      refine x_callSi (As := [.int v2, .int (1 : Int32), .int (99 : Int32)]) cf_X9_84 (c_X9_within l G N v2 (1 : Int32) (99 : Int32) h7 _ _ q10) rfl ⟨rfl, rfl, Nat.le_of_ble_eq_true rfl, Nat.le_of_ble_eq_true rfl⟩ ⟨Nat.le_of_ble_eq_true rfl, Nat.le_of_ble_eq_true rfl⟩ X M rfl rfl hl.1 (Nat.le_of_ble_eq_true rfl) dX9_family_23 (fun H locs M => ?_)
      refine lv_if_ne (tgt := 32) X.1 X.2.1 dX9_family_26 (by decide) (fun c13 => ?_) (fun c13 => ?_)
      · have hf := ifn c13 hf
        refine lv_aload_n X.1 X.2.1 dX9_family_32 rfl (lv_at hl 0 rfl) ?_
        obtain ⟨t14, q15, hf⟩ := bnd hf
        refine x_getr fl_X9_17 X M q15 dX9_family_33 ?_
        refine lv_iload_n X.1 X.2.1 dX9_family_36 rfl (lv_at hl 3 rfl) ?_
        obtain ⟨⟨⟩, q16, hf⟩ := bnd hf
        obtain ⟨t19, h18, q17, hf⟩ := bnd2 hf
        refine x_callVi (As := [.int v3]) cf_X9_100 (c_X1_hasRoom l G N t14 v3 h11 _ _ q17) rfl ⟨rfl, rfl, Nat.le_of_ble_eq_true rfl, Nat.le_of_ble_eq_true rfl⟩ ⟨Nat.le_of_ble_eq_true rfl, Nat.le_of_ble_eq_true rfl⟩ X M (x_recv cls_X1 X M q16) rfl rfl hl.1 (Nat.le_of_ble_eq_true rfl) dX9_family_37 (fun H locs M => ?_)
        refine lv_if_eq (tgt := 56) X.1 X.2.1 dX9_family_40 (by decide) (fun c20 => ?_) (fun c20 => ?_)
        · have hf := ifp c20 hf
          refine lv_bipush (v := (-3 : Int32)) X.1 X.2.1 dX9_family_56 (by decide) ?_
          obtain ⟨rfl, rfl⟩ := rt2 hf
          exact x_iret X hr hk M dX9_family_58
        · have hf := ifn c20 hf
          refine lv_aload_n X.1 X.2.1 dX9_family_43 rfl (lv_at hl 0 rfl) ?_
          obtain ⟨t21, q22, hf⟩ := bnd hf
          refine x_getr fl_X9_17 X M q22 dX9_family_44 ?_
          refine lv_iload_n X.1 X.2.1 dX9_family_47 rfl (lv_at hl 1 rfl) ?_
          refine lv_iload_n X.1 X.2.1 dX9_family_48 rfl (lv_at hl 2 rfl) ?_
          refine lv_iload_n X.1 X.2.1 dX9_family_49 rfl (lv_at hl 3 rfl) ?_
          obtain ⟨⟨⟩, q23, hf⟩ := bnd hf
          obtain ⟨t26, h25, q24, hf⟩ := bnd2 hf
          refine x_callVi (As := [.int v1, .int v2, .int v3]) cf_X9_103 (c_X1_join l G N t21 v1 v2 v3 h18 _ _ q24) rfl ⟨rfl, rfl, Nat.le_of_ble_eq_true rfl, Nat.le_of_ble_eq_true rfl⟩ ⟨Nat.le_of_ble_eq_true rfl, Nat.le_of_ble_eq_true rfl⟩ X M (x_recv cls_X1 X M q23) rfl rfl hl.1 (Nat.le_of_ble_eq_true rfl) dX9_family_50 (fun H locs M => ?_)
          refine lv_goto (tgt := 58) X.1 X.2.1 dX9_family_53 (by decide) ?_
          obtain ⟨rfl, rfl⟩ := rt2 hf
          exact x_iret X hr hk M dX9_family_58
      · have hf := ifp c13 hf
        refine lv_bipush (v := (-2 : Int32)) X.1 X.2.1 dX9_family_29 (by decide) ?_
        obtain ⟨rfl, rfl⟩ := rt2 hf
        exact x_iret X hr hk M dX9_family_31
  · have hf := ifp c5 hf
    refine lv_iconst (v := (-1 : Int32)) X.1 X.2.1 dX9_family_8 (by decide) ?_
    obtain ⟨rfl, rfl⟩ := rt2 hf
    exact x_iret X hr hk M dX9_family_9
theorem c_X9_family (l : Launch) (G : Gx) (N : Nat) (v0 : Nat) (v1 : Int32) (v2 : Int32) (v3 : Int32) (h : Mem) (r : Int32) (h' : Mem) (hf : f_X9_family N v0 v1 v2 v3 h = some (r, h')) : MetG l G yX9_family (.code yX9_family cX9_family 4 (Option.some Jvm.ClassFile.FieldType.int)) rm_X9_family [.ref (gB G + v0), .int v1, .int v2, .int v3] h (QcI G r h') 0 0 :=
  x_met (by decide) rfl (Nat.le_of_ble_eq_true rfl) (fun p e s m args below meth c ls X M hr hk hin hl => w_X9_family X hr hk N v0 v1 v2 v3 h hf _ _ ls M hl)
abbrev rm_X9_replace : Room := { frames := 1, cells := 0, slots := 0, locals := 40 }
def f_X9_replace (N : Nat) (v0 : Nat) (v1 : Int32) (v2 : Int32) (h : Mem) : Option (Int32 × Mem) :=
  (lI 100 h v0 v1).bind fun t1 =>
  (stI 100 h v0 v1 v2).bind fun h3 =>
  some (t1, h3)
set_option maxRecDepth 100000 in
set_option maxHeartbeats 4000000 in
theorem w_X9_replace {p : Program} {l : Launch} {e : Env} {s : State} {m : MethodId} {args : Array Value} {below : List Frame} {meth : Method} {c : Code} {G : Gx} {r : Int32} {h' : Mem} (X : CX G p s m args c cX9_replace 4 RX9) (hr : meth.sig.returnType = (Option.some Jvm.ClassFile.FieldType.int)) (hk : meth.locks = false) (N : Nat) : ∀ (v0 : Nat) (v1 : Int32) (v2 : Int32) (h : Mem), f_X9_replace N v0 v1 v2 h = some (r, h') → ∀ (H : Heap) (locs : List Loc) (ls : Array Slot), MS G s h H locs 0 → lv_has ls 4 [(0, .ref (gB G + v0)), (1, .int v1), (2, .int v2)] → W p l e (rm_X9_replace) s m args below meth c H locs 0 0 (QI G below args s r h' 0 0) (F0 m 0 ls []) := by
  intro v0 v1 v2 h hf H locs ls M hl
  rw [f_X9_replace] at hf
  refine lv_aload_n X.1 X.2.1 dX9_replace_0 rfl (lv_at hl 0 rfl) ?_
  refine lv_iload_n X.1 X.2.1 dX9_replace_1 rfl (lv_at hl 1 rfl) ?_
  obtain ⟨t1, q2, hf⟩ := bnd hf
  refine x_iald X M q2 dX9_replace_2 ?_
  refine lv_istore_n (lv' := [(3, .int t1), (0, .ref (gB G + v0)), (1, .int v1), (2, .int v2)]) X.1 X.2.1 dX9_replace_3 rfl hl (by decide) rfl (fun ls hl => ?_)
  refine lv_aload_n X.1 X.2.1 dX9_replace_4 rfl (lv_at hl 1 rfl) ?_
  refine lv_iload_n X.1 X.2.1 dX9_replace_5 rfl (lv_at hl 2 rfl) ?_
  refine lv_iload_n X.1 X.2.1 dX9_replace_6 rfl (lv_at hl 3 rfl) ?_
  obtain ⟨h3, q4, hf⟩ := bnd hf
  refine x_iast X M q4 dX9_replace_7 (fun H locs M => ?_)
  refine lv_iload_n X.1 X.2.1 dX9_replace_8 rfl (lv_at hl 0 rfl) ?_
  obtain ⟨rfl, rfl⟩ := rt2 hf
  exact x_iret X hr hk M dX9_replace_9
theorem c_X9_replace (l : Launch) (G : Gx) (N : Nat) (v0 : Nat) (v1 : Int32) (v2 : Int32) (h : Mem) (r : Int32) (h' : Mem) (hf : f_X9_replace N v0 v1 v2 h = some (r, h')) : MetG l G yX9_replace (.code yX9_replace cX9_replace 4 (Option.some Jvm.ClassFile.FieldType.int)) rm_X9_replace [.ref (gB G + v0), .int v1, .int v2] h (QcI G r h') 0 0 :=
  x_met (by decide) rfl (Nat.le_of_ble_eq_true rfl) (fun p e s m args below meth c ls X M hr hk hin hl => w_X9_replace X hr hk N v0 v1 v2 h hf _ _ ls M hl)
abbrev rm_X9_put : Room := { frames := 3, cells := 0, slots := 0, locals := 83 }
def f_X9_put_124 (N : Nat) (v1 : Int32) (v3 : Int32) (s0 : Nat) (h : Mem) : Option (Int32 × Mem) :=
  b2 (f_X9_replace N s0 v1 v3 h) fun t3 h2 =>
  some (t3, h2)
set_option maxRecDepth 100000 in
set_option maxHeartbeats 4000000 in
theorem w_X9_put_124 {p : Program} {l : Launch} {e : Env} {s : State} {m : MethodId} {args : Array Value} {below : List Frame} {meth : Method} {c : Code} {G : Gx} {r : Int32} {h' : Mem} (X : CX G p s m args c cX9_put 4 RX9) (hr : meth.sig.returnType = (Option.some Jvm.ClassFile.FieldType.int)) (hk : meth.locks = false) (N : Nat) : ∀ (v1 : Int32) (v3 : Int32) (s0 : Nat) (h : Mem), f_X9_put_124 N v1 v3 s0 h = some (r, h') → ∀ (H : Heap) (locs : List Loc) (ls : Array Slot), MS G s h H locs 0 → lv_has ls 4 [(1, .int v1), (3, .int v3)] → W p l e (rm_X9_put) s m args below meth c H locs 0 0 (QI G below args s r h' 0 0) (F0 m 124 ls [.ref (gB G + s0)]) := by
  intro v1 v3 s0 h hf H locs ls M hl
  rw [f_X9_put_124] at hf
  refine lv_iload_n X.1 X.2.1 dX9_put_124 rfl (lv_at hl 0 rfl) ?_
  refine lv_iload_n X.1 X.2.1 dX9_put_125 rfl (lv_at hl 1 rfl) ?_
  obtain ⟨t3, h2, q1, hf⟩ := bnd2 hf
  refine x_callSi (As := [.ref (gB G + s0), .int v1, .int v3]) cf_X9_110 (c_X9_replace l G N s0 v1 v3 h _ _ q1) rfl ⟨rfl, rfl, Nat.le_of_ble_eq_true rfl, Nat.le_of_ble_eq_true rfl⟩ ⟨Nat.le_of_ble_eq_true rfl, Nat.le_of_ble_eq_true rfl⟩ X M rfl rfl hl.1 (Nat.le_of_ble_eq_true rfl) dX9_put_126 (fun H locs M => ?_)
  obtain ⟨rfl, rfl⟩ := rt2 hf
  exact x_iret X hr hk M dX9_put_129
def f_X9_put (N : Nat) (v0 : Nat) (v1 : Int32) (v2 : Int32) (v3 : Int32) (h : Mem) : Option (Int32 × Mem) :=
  (ck h v0 9).bind fun _ =>
  b2 (f_X9_isTown N v0 v1 h) fun t4 h3 =>
  if t4 = 0 then
    some ((-1 : Int32), h3)
  else
    b2 (f_X9_within N v2 (0 : Int32) (5 : Int32) h3) fun t8 h7 =>
    if t8 = 0 then
      some ((-1 : Int32), h7)
    else
      if (3 : Int32) ≤ v2 then
        if v2 = (4 : Int32) then
          b2 (f_X9_within N v3 (0 : Int32) (99 : Int32) h7) fun t27 h26 =>
          if t27 = 0 then
            some ((-2 : Int32), h26)
          else
            (gR h26 v0 9 0).bind fun t29 =>
            (gR h26 t29 1 6).bind fun t31 =>
            b2 (f_X9_replace N t31 v1 v3 h26) fun t35 h34 =>
            some (t35, h34)
        else
          b2 (f_X9_within N v3 (0 : Int32) (999 : Int32) h7) fun t14 h13 =>
          if t14 = 0 then
            some ((-2 : Int32), h13)
          else
            if v2 = (3 : Int32) then
              (gR h13 v0 9 0).bind fun t21 =>
              (gR h13 t21 1 5).bind fun t23 =>
              f_X9_put_124 N v1 v3 t23 h13
            else
              (gR h13 v0 9 0).bind fun t17 =>
              (gR h13 t17 1 7).bind fun t19 =>
              f_X9_put_124 N v1 v3 t19 h13
      else
        b2 (f_X9_within N v3 (0 : Int32) (5 : Int32) h7) fun t38 h37 =>
        if t38 = 0 then
          some ((-2 : Int32), h37)
        else
          (gR h37 v0 9 0).bind fun t40 =>
          (gR h37 t40 1 4).bind fun t42 =>
          b2 (f_X9_replace N t42 ((v1 * (3 : Int32)) + v2) v3 h37) fun t46 h45 =>
          some (t46, h45)
set_option maxRecDepth 100000 in
set_option maxHeartbeats 4000000 in
theorem w_X9_put {p : Program} {l : Launch} {e : Env} {s : State} {m : MethodId} {args : Array Value} {below : List Frame} {meth : Method} {c : Code} {G : Gx} {r : Int32} {h' : Mem} (X : CX G p s m args c cX9_put 4 RX9) (hr : meth.sig.returnType = (Option.some Jvm.ClassFile.FieldType.int)) (hk : meth.locks = false) (N : Nat) : ∀ (v0 : Nat) (v1 : Int32) (v2 : Int32) (v3 : Int32) (h : Mem), f_X9_put N v0 v1 v2 v3 h = some (r, h') → ∀ (H : Heap) (locs : List Loc) (ls : Array Slot), MS G s h H locs 0 → lv_has ls 4 [(0, .ref (gB G + v0)), (1, .int v1), (2, .int v2), (3, .int v3)] → W p l e (rm_X9_put) s m args below meth c H locs 0 0 (QI G below args s r h' 0 0) (F0 m 0 ls []) := by
  intro v0 v1 v2 v3 h hf H locs ls M hl
  rw [f_X9_put] at hf
  refine lv_aload_n X.1 X.2.1 dX9_put_0 rfl (lv_at hl 0 rfl) ?_
  refine lv_iload_n X.1 X.2.1 dX9_put_1 rfl (lv_at hl 1 rfl) ?_
  obtain ⟨⟨⟩, q1, hf⟩ := bnd hf
  obtain ⟨t4, h3, q2, hf⟩ := bnd2 hf
  refine x_callVi (As := [.int v1]) cf_X9_96 (c_X9_isTown l G N v0 v1 h _ _ q2) rfl ⟨rfl, rfl, Nat.le_of_ble_eq_true rfl, Nat.le_of_ble_eq_true rfl⟩ ⟨Nat.le_of_ble_eq_true rfl, Nat.le_of_ble_eq_true rfl⟩ X M (x_recv cls_X9 X M q1) rfl rfl hl.1 (Nat.le_of_ble_eq_true rfl) dX9_put_2 (fun H locs M => ?_)
  refine lv_if_eq (tgt := 17) X.1 X.2.1 dX9_put_5 (by decide) (fun c5 => ?_) (fun c5 => ?_)
  · have hf := ifp c5 hf
    refine lv_iconst (v := (-1 : Int32)) X.1 X.2.1 dX9_put_17 (by decide) ?_
    obtain ⟨rfl, rfl⟩ := rt2 hf
    exact x_iret X hr hk M dX9_put_18
  · have hf := ifn c5 hf
    refine lv_iload_n X.1 X.2.1 dX9_put_8 rfl (lv_at hl 2 rfl) ?_
    refine lv_iconst (v := (0 : Int32)) X.1 X.2.1 dX9_put_9 (by decide) ?_
    refine lv_iconst (v := (5 : Int32)) X.1 X.2.1 dX9_put_10 (by decide) ?_
    obtain ⟨t8, h7, q6, hf⟩ := bnd2 hf
    refine x_callSi (As := [.int v2, .int (0 : Int32), .int (5 : Int32)]) cf_X9_84 (c_X9_within l G N v2 (0 : Int32) (5 : Int32) h3 _ _ q6) rfl ⟨rfl, rfl, Nat.le_of_ble_eq_true rfl, Nat.le_of_ble_eq_true rfl⟩ ⟨Nat.le_of_ble_eq_true rfl, Nat.le_of_ble_eq_true rfl⟩ X M rfl rfl hl.1 (Nat.le_of_ble_eq_true rfl) dX9_put_11 (fun H locs M => ?_)
    refine lv_if_ne (tgt := 19) X.1 X.2.1 dX9_put_14 (by decide) (fun c9 => ?_) (fun c9 => ?_)
    · have hf := ifn c9 hf
      refine lv_iload_n X.1 X.2.1 dX9_put_19 rfl (lv_at hl 2 rfl) ?_
      refine lv_iconst (v := (3 : Int32)) X.1 X.2.1 dX9_put_20 (by decide) ?_
      refine lv_icmp_ge (tgt := 55) X.1 X.2.1 dX9_put_21 (by decide) (fun c10 => ?_) (fun c10 => ?_)
      · have hf := ifp c10 hf
        refine lv_iload_n X.1 X.2.1 dX9_put_55 rfl (lv_at hl 2 rfl) ?_
        refine lv_iconst (v := (4 : Int32)) X.1 X.2.1 dX9_put_56 (by decide) ?_
        refine lv_icmp_ne (tgt := 88) X.1 X.2.1 dX9_put_57 (by decide) (fun c11 => ?_) (fun c11 => ?_)
        · have hf := ifn c11 hf
          refine lv_iload_n X.1 X.2.1 dX9_put_88 rfl (lv_at hl 3 rfl) ?_
          refine lv_iconst (v := (0 : Int32)) X.1 X.2.1 dX9_put_89 (by decide) ?_
          refine lv_sipush (v := (999 : Int32)) X.1 X.2.1 dX9_put_90 (by decide) ?_
          obtain ⟨t14, h13, q12, hf⟩ := bnd2 hf
          refine x_callSi (As := [.int v3, .int (0 : Int32), .int (999 : Int32)]) cf_X9_84 (c_X9_within l G N v3 (0 : Int32) (999 : Int32) h7 _ _ q12) rfl ⟨rfl, rfl, Nat.le_of_ble_eq_true rfl, Nat.le_of_ble_eq_true rfl⟩ ⟨Nat.le_of_ble_eq_true rfl, Nat.le_of_ble_eq_true rfl⟩ X M rfl rfl hl.1 (Nat.le_of_ble_eq_true rfl) dX9_put_93 (fun H locs M => ?_)
          refine lv_if_ne (tgt := 102) X.1 X.2.1 dX9_put_96 (by decide) (fun c15 => ?_) (fun c15 => ?_)
          · have hf := ifn c15 hf
            refine lv_iload_n X.1 X.2.1 dX9_put_102 rfl (lv_at hl 2 rfl) ?_
            refine lv_iconst (v := (3 : Int32)) X.1 X.2.1 dX9_put_103 (by decide) ?_
            refine lv_icmp_ne (tgt := 117) X.1 X.2.1 dX9_put_104 (by decide) (fun c16 => ?_) (fun c16 => ?_)
            · have hf := ifn c16 hf
              refine lv_aload_n X.1 X.2.1 dX9_put_117 rfl (lv_at hl 0 rfl) ?_
              obtain ⟨t17, q18, hf⟩ := bnd hf
              refine x_getr fl_X9_17 X M q18 dX9_put_118 ?_
              obtain ⟨t19, q20, hf⟩ := bnd hf
              refine x_getr fl_X9_120 X M q20 dX9_put_121 ?_
              exact w_X9_put_124 X hr hk N v1 v3 t19 h13 hf _ _ _ M (lv_sub hl [1, 3] rfl)
            · have hf := ifp c16 hf
              refine lv_aload_n X.1 X.2.1 dX9_put_107 rfl (lv_at hl 0 rfl) ?_
              obtain ⟨t21, q22, hf⟩ := bnd hf
              refine x_getr fl_X9_17 X M q22 dX9_put_108 ?_
              obtain ⟨t23, q24, hf⟩ := bnd hf
              refine x_getr fl_X9_117 X M q24 dX9_put_111 ?_
              refine lv_goto (tgt := 124) X.1 X.2.1 dX9_put_114 (by decide) ?_
              exact w_X9_put_124 X hr hk N v1 v3 t23 h13 hf _ _ _ M (lv_sub hl [1, 3] rfl)
          · have hf := ifp c15 hf
            refine lv_bipush (v := (-2 : Int32)) X.1 X.2.1 dX9_put_99 (by decide) ?_
            obtain ⟨rfl, rfl⟩ := rt2 hf
            exact x_iret X hr hk M dX9_put_101
        · have hf := ifp c11 hf
          refine lv_iload_n X.1 X.2.1 dX9_put_60 rfl (lv_at hl 3 rfl) ?_
          refine lv_iconst (v := (0 : Int32)) X.1 X.2.1 dX9_put_61 (by decide) ?_
          refine lv_bipush (v := (99 : Int32)) X.1 X.2.1 dX9_put_62 (by decide) ?_
          obtain ⟨t27, h26, q25, hf⟩ := bnd2 hf
          refine x_callSi (As := [.int v3, .int (0 : Int32), .int (99 : Int32)]) cf_X9_84 (c_X9_within l G N v3 (0 : Int32) (99 : Int32) h7 _ _ q25) rfl ⟨rfl, rfl, Nat.le_of_ble_eq_true rfl, Nat.le_of_ble_eq_true rfl⟩ ⟨Nat.le_of_ble_eq_true rfl, Nat.le_of_ble_eq_true rfl⟩ X M rfl rfl hl.1 (Nat.le_of_ble_eq_true rfl) dX9_put_64 (fun H locs M => ?_)
          refine lv_if_eq (tgt := 85) X.1 X.2.1 dX9_put_67 (by decide) (fun c28 => ?_) (fun c28 => ?_)
          · have hf := ifp c28 hf
            refine lv_bipush (v := (-2 : Int32)) X.1 X.2.1 dX9_put_85 (by decide) ?_
            obtain ⟨rfl, rfl⟩ := rt2 hf
            exact x_iret X hr hk M dX9_put_87
          · have hf := ifn c28 hf
            refine lv_aload_n X.1 X.2.1 dX9_put_70 rfl (lv_at hl 0 rfl) ?_
            obtain ⟨t29, q30, hf⟩ := bnd hf
            refine x_getr fl_X9_17 X M q30 dX9_put_71 ?_
            obtain ⟨t31, q32, hf⟩ := bnd hf
            refine x_getr fl_X9_114 X M q32 dX9_put_74 ?_
            refine lv_iload_n X.1 X.2.1 dX9_put_77 rfl (lv_at hl 1 rfl) ?_
            refine lv_iload_n X.1 X.2.1 dX9_put_78 rfl (lv_at hl 3 rfl) ?_
            obtain ⟨t35, h34, q33, hf⟩ := bnd2 hf
            refine x_callSi (As := [.ref (gB G + t31), .int v1, .int v3]) cf_X9_110 (c_X9_replace l G N t31 v1 v3 h26 _ _ q33) rfl ⟨rfl, rfl, Nat.le_of_ble_eq_true rfl, Nat.le_of_ble_eq_true rfl⟩ ⟨Nat.le_of_ble_eq_true rfl, Nat.le_of_ble_eq_true rfl⟩ X M rfl rfl hl.1 (Nat.le_of_ble_eq_true rfl) dX9_put_79 (fun H locs M => ?_)
            refine lv_goto (tgt := 87) X.1 X.2.1 dX9_put_82 (by decide) ?_
            obtain ⟨rfl, rfl⟩ := rt2 hf
            exact x_iret X hr hk M dX9_put_87
      · have hf := ifn c10 hf
        refine lv_iload_n X.1 X.2.1 dX9_put_24 rfl (lv_at hl 3 rfl) ?_
        refine lv_iconst (v := (0 : Int32)) X.1 X.2.1 dX9_put_25 (by decide) ?_
        refine lv_iconst (v := (5 : Int32)) X.1 X.2.1 dX9_put_26 (by decide) ?_
        obtain ⟨t38, h37, q36, hf⟩ := bnd2 hf
        refine x_callSi (As := [.int v3, .int (0 : Int32), .int (5 : Int32)]) cf_X9_84 (c_X9_within l G N v3 (0 : Int32) (5 : Int32) h7 _ _ q36) rfl ⟨rfl, rfl, Nat.le_of_ble_eq_true rfl, Nat.le_of_ble_eq_true rfl⟩ ⟨Nat.le_of_ble_eq_true rfl, Nat.le_of_ble_eq_true rfl⟩ X M rfl rfl hl.1 (Nat.le_of_ble_eq_true rfl) dX9_put_27 (fun H locs M => ?_)
        refine lv_if_eq (tgt := 52) X.1 X.2.1 dX9_put_30 (by decide) (fun c39 => ?_) (fun c39 => ?_)
        · have hf := ifp c39 hf
          refine lv_bipush (v := (-2 : Int32)) X.1 X.2.1 dX9_put_52 (by decide) ?_
          obtain ⟨rfl, rfl⟩ := rt2 hf
          exact x_iret X hr hk M dX9_put_54
        · have hf := ifn c39 hf
          refine lv_aload_n X.1 X.2.1 dX9_put_33 rfl (lv_at hl 0 rfl) ?_
          obtain ⟨t40, q41, hf⟩ := bnd hf
          refine x_getr fl_X9_17 X M q41 dX9_put_34 ?_
          obtain ⟨t42, q43, hf⟩ := bnd hf
          refine x_getr fl_X9_107 X M q43 dX9_put_37 ?_
          refine lv_iload_n X.1 X.2.1 dX9_put_40 rfl (lv_at hl 1 rfl) ?_
          refine lv_iconst (v := (3 : Int32)) X.1 X.2.1 dX9_put_41 (by decide) ?_
          refine lv_imul X.1 X.2.1 dX9_put_42 ?_
          refine lv_iload_n X.1 X.2.1 dX9_put_43 rfl (lv_at hl 2 rfl) ?_
          refine lv_iadd X.1 X.2.1 dX9_put_44 ?_
          refine lv_iload_n X.1 X.2.1 dX9_put_45 rfl (lv_at hl 3 rfl) ?_
          obtain ⟨t46, h45, q44, hf⟩ := bnd2 hf
          refine x_callSi (As := [.ref (gB G + t42), .int ((v1 * (3 : Int32)) + v2), .int v3]) cf_X9_110 (c_X9_replace l G N t42 ((v1 * (3 : Int32)) + v2) v3 h37 _ _ q44) rfl ⟨rfl, rfl, Nat.le_of_ble_eq_true rfl, Nat.le_of_ble_eq_true rfl⟩ ⟨Nat.le_of_ble_eq_true rfl, Nat.le_of_ble_eq_true rfl⟩ X M rfl rfl hl.1 (Nat.le_of_ble_eq_true rfl) dX9_put_46 (fun H locs M => ?_)
          refine lv_goto (tgt := 54) X.1 X.2.1 dX9_put_49 (by decide) ?_
          obtain ⟨rfl, rfl⟩ := rt2 hf
          exact x_iret X hr hk M dX9_put_54
    · have hf := ifp c9 hf
      refine lv_iconst (v := (-1 : Int32)) X.1 X.2.1 dX9_put_17 (by decide) ?_
      obtain ⟨rfl, rfl⟩ := rt2 hf
      exact x_iret X hr hk M dX9_put_18
theorem c_X9_put (l : Launch) (G : Gx) (N : Nat) (v0 : Nat) (v1 : Int32) (v2 : Int32) (v3 : Int32) (h : Mem) (r : Int32) (h' : Mem) (hf : f_X9_put N v0 v1 v2 v3 h = some (r, h')) : MetG l G yX9_put (.code yX9_put cX9_put 4 (Option.some Jvm.ClassFile.FieldType.int)) rm_X9_put [.ref (gB G + v0), .int v1, .int v2, .int v3] h (QcI G r h') 0 0 :=
  x_met (by decide) rfl (Nat.le_of_ble_eq_true rfl) (fun p e s m args below meth c ls X M hr hk hin hl => w_X9_put X hr hk N v0 v1 v2 v3 h hf _ _ ls M hl)
abbrev rm_X9_isFamily : Room := { frames := 2, cells := 0, slots := 0, locals := 62 }
def f_X9_isFamily (N : Nat) (v0 : Nat) (v1 : Int32) (h : Mem) : Option (Int32 × Mem) :=
  (gR h v0 9 0).bind fun t1 =>
  (gI h t1 1 2).bind fun t3 =>
  b2 (f_X9_within N v1 (0 : Int32) (t3 - (1 : Int32)) h) fun t7 h6 =>
  rz t7 h6
set_option maxRecDepth 100000 in
set_option maxHeartbeats 4000000 in
theorem w_X9_isFamily {p : Program} {l : Launch} {e : Env} {s : State} {m : MethodId} {args : Array Value} {below : List Frame} {meth : Method} {c : Code} {G : Gx} {r : Int32} {h' : Mem} (X : CX G p s m args c cX9_isFamily 2 RX9) (hr : meth.sig.returnType = (Option.some Jvm.ClassFile.FieldType.boolean)) (hk : meth.locks = false) (N : Nat) : ∀ (v0 : Nat) (v1 : Int32) (h : Mem), f_X9_isFamily N v0 v1 h = some (r, h') → ∀ (H : Heap) (locs : List Loc) (ls : Array Slot), MS G s h H locs 0 → lv_has ls 2 [(0, .ref (gB G + v0)), (1, .int v1)] → W p l e (rm_X9_isFamily) s m args below meth c H locs 0 0 (QI G below args s r h' 0 0) (F0 m 0 ls []) := by
  intro v0 v1 h hf H locs ls M hl
  rw [f_X9_isFamily] at hf
  refine lv_iload_n X.1 X.2.1 dX9_isFamily_0 rfl (lv_at hl 1 rfl) ?_
  refine lv_iconst (v := (0 : Int32)) X.1 X.2.1 dX9_isFamily_1 (by decide) ?_
  refine lv_aload_n X.1 X.2.1 dX9_isFamily_2 rfl (lv_at hl 0 rfl) ?_
  obtain ⟨t1, q2, hf⟩ := bnd hf
  refine x_getr fl_X9_17 X M q2 dX9_isFamily_3 ?_
  obtain ⟨t3, q4, hf⟩ := bnd hf
  refine x_geti fl_X9_202 X M q4 dX9_isFamily_6 ?_
  refine lv_iconst (v := (1 : Int32)) X.1 X.2.1 dX9_isFamily_9 (by decide) ?_
  refine lv_isub X.1 X.2.1 dX9_isFamily_10 ?_
  obtain ⟨t7, h6, q5, hf⟩ := bnd2 hf
  refine x_callSi (As := [.int v1, .int (0 : Int32), .int (t3 - (1 : Int32))]) cf_X9_84 (c_X9_within l G N v1 (0 : Int32) (t3 - (1 : Int32)) h _ _ q5) rfl ⟨rfl, rfl, Nat.le_of_ble_eq_true rfl, Nat.le_of_ble_eq_true rfl⟩ ⟨Nat.le_of_ble_eq_true rfl, Nat.le_of_ble_eq_true rfl⟩ X M rfl rfl hl.1 (Nat.le_of_ble_eq_true rfl) dX9_isFamily_11 (fun H locs M => ?_)
  obtain ⟨z, rfl, rfl⟩ := rz_spec hf
  exact x_zret X hr hk (nz z) M dX9_isFamily_14
theorem c_X9_isFamily (l : Launch) (G : Gx) (N : Nat) (v0 : Nat) (v1 : Int32) (h : Mem) (r : Int32) (h' : Mem) (hf : f_X9_isFamily N v0 v1 h = some (r, h')) : MetG l G yX9_isFamily (.code yX9_isFamily cX9_isFamily 2 (Option.some Jvm.ClassFile.FieldType.boolean)) rm_X9_isFamily [.ref (gB G + v0), .int v1] h (QcI G r h') 0 0 :=
  x_met (by decide) rfl (Nat.le_of_ble_eq_true rfl) (fun p e s m args below meth c ls X M hr hk hin hl => w_X9_isFamily X hr hk N v0 v1 h hf _ _ ls M hl)
abbrev rm_X9_of : Room := { frames := 5, cells := 0, slots := 0, locals := 136 }
def f_X9_of (N : Nat) (v0 : Nat) (v1 : Int32) (v2 : Int32) (h : Mem) : Option (Int64 × Mem) :=
  (ck h v0 9).bind fun _ =>
  b2 (f_X9_isFamily N v0 v1 h) fun t4 h3 =>
  if t4 = 0 then
    some ((-9223372036854775808 : Int64), h3)
  else
    (gR h3 v0 9 0).bind fun t6 =>
    (gR h3 t6 1 10).bind fun t8 =>
    (lI 100 h3 t8 v1).bind fun t10 =>
    if v2 = 0 then
      (gR h3 v0 9 0).bind fun t13 =>
      (gR h3 t13 1 8).bind fun t15 =>
      (lI 100 h3 t15 v1).bind fun t17 =>
      some (((Int32.toInt64 t17)), h3)
    else
    if v2 = 1 then
      (gR h3 v0 9 0).bind fun t20 =>
      (gR h3 t20 1 9).bind fun t22 =>
      (lI 100 h3 t22 v1).bind fun t24 =>
      some (((Int32.toInt64 t24)), h3)
    else
    if v2 = 2 then
      some (((Int32.toInt64 t10)), h3)
    else
    if v2 = 3 then
      (gR h3 v0 9 0).bind fun t28 =>
      (gR h3 t28 1 11).bind fun t30 =>
      (lI 100 h3 t30 v1).bind fun t32 =>
      some (((Int32.toInt64 t32)), h3)
    else
    if v2 = 4 then
      (gR h3 v0 9 0).bind fun t35 =>
      (ck h3 t35 1).bind fun _ =>
      b2 (f_X1_duesOf N t35 v1 t10 h3) fun t40 h39 =>
      some (((Int32.toInt64 t40)), h39)
    else
    if v2 = 5 then
      (gR h3 v0 9 0).bind fun t42 =>
      (ck h3 t42 1).bind fun _ =>
      b2 (f_X1_worthOf N t42 v1 t10 h3) fun t47 h46 =>
      some (((Int32.toInt64 t47)), h46)
    else
    some ((-9223372036854775808 : Int64), h3)
set_option maxRecDepth 100000 in
set_option maxHeartbeats 4000000 in
theorem w_X9_of {p : Program} {l : Launch} {e : Env} {s : State} {m : MethodId} {args : Array Value} {below : List Frame} {meth : Method} {c : Code} {G : Gx} {r : Int64} {h' : Mem} (X : CX G p s m args c cX9_of 4 RX9) (hr : meth.sig.returnType = (Option.some Jvm.ClassFile.FieldType.long)) (hk : meth.locks = false) (N : Nat) : ∀ (v0 : Nat) (v1 : Int32) (v2 : Int32) (h : Mem), f_X9_of N v0 v1 v2 h = some (r, h') → ∀ (H : Heap) (locs : List Loc) (ls : Array Slot), MS G s h H locs 0 → lv_has ls 4 [(0, .ref (gB G + v0)), (1, .int v1), (2, .int v2)] → W p l e (rm_X9_of) s m args below meth c H locs 0 0 (QL G below args s r h' 0 0) (F0 m 0 ls []) := by
  intro v0 v1 v2 h hf H locs ls M hl
  rw [f_X9_of] at hf
  refine lv_aload_n X.1 X.2.1 dX9_of_0 rfl (lv_at hl 0 rfl) ?_
  refine lv_iload_n X.1 X.2.1 dX9_of_1 rfl (lv_at hl 1 rfl) ?_
  obtain ⟨⟨⟩, q1, hf⟩ := bnd hf
  obtain ⟨t4, h3, q2, hf⟩ := bnd2 hf
  refine x_callVi (As := [.int v1]) cf_X9_123 (c_X9_isFamily l G N v0 v1 h _ _ q2) rfl ⟨rfl, rfl, Nat.le_of_ble_eq_true rfl, Nat.le_of_ble_eq_true rfl⟩ ⟨Nat.le_of_ble_eq_true rfl, Nat.le_of_ble_eq_true rfl⟩ X M (x_recv cls_X9 X M q1) rfl rfl hl.1 (Nat.le_of_ble_eq_true rfl) dX9_of_2 (fun H locs M => ?_)
  refine lv_if_ne (tgt := 12) X.1 X.2.1 dX9_of_5 (by decide) (fun c5 => ?_) (fun c5 => ?_)
  · have hf := ifn c5 hf
    refine lv_aload_n X.1 X.2.1 dX9_of_12 rfl (lv_at hl 0 rfl) ?_
    obtain ⟨t6, q7, hf⟩ := bnd hf
    refine x_getr fl_X9_17 X M q7 dX9_of_13 ?_
    obtain ⟨t8, q9, hf⟩ := bnd hf
    refine x_getr fl_X9_128 X M q9 dX9_of_16 ?_
    refine lv_iload_n X.1 X.2.1 dX9_of_19 rfl (lv_at hl 1 rfl) ?_
    obtain ⟨t10, q11, hf⟩ := bnd hf
    refine x_iald X M q11 dX9_of_20 ?_
    refine lv_istore_n (lv' := [(3, .int t10), (0, .ref (gB G + v0)), (1, .int v1), (2, .int v2)]) X.1 X.2.1 dX9_of_21 rfl hl (by decide) rfl (fun ls hl => ?_)
    refine lv_iload_n X.1 X.2.1 dX9_of_22 rfl (lv_at hl 3 rfl) ?_
    by_cases c12 : v2 = 0
    · have hf := ifp c12 hf
      refine x_tin (z := 0) (tgt := 60) X rfl c12 dX9_of_23 (by decide) (by decide) rfl (by decide) ?_
      refine lv_aload_n X.1 X.2.1 dX9_of_60 rfl (lv_at hl 1 rfl) ?_
      obtain ⟨t13, q14, hf⟩ := bnd hf
      refine x_getr fl_X9_17 X M q14 dX9_of_61 ?_
      obtain ⟨t15, q16, hf⟩ := bnd hf
      refine x_getr fl_X9_131 X M q16 dX9_of_64 ?_
      refine lv_iload_n X.1 X.2.1 dX9_of_67 rfl (lv_at hl 2 rfl) ?_
      obtain ⟨t17, q18, hf⟩ := bnd hf
      refine x_iald X M q18 dX9_of_68 ?_
      refine lv_i2l (v := ((Int32.toInt64 t17))) X.1 X.2.1 dX9_of_69 rfl ?_
      obtain ⟨rfl, rfl⟩ := rt2 hf
      exact x_lret X hr hk M dX9_of_70
    have hf := ifn c12 hf
    by_cases c19 : v2 = 1
    · have hf := ifp c19 hf
      refine x_tin (z := 1) (tgt := 71) X rfl c19 dX9_of_23 (by decide) (by decide) rfl (by decide) ?_
      refine lv_aload_n X.1 X.2.1 dX9_of_71 rfl (lv_at hl 1 rfl) ?_
      obtain ⟨t20, q21, hf⟩ := bnd hf
      refine x_getr fl_X9_17 X M q21 dX9_of_72 ?_
      obtain ⟨t22, q23, hf⟩ := bnd hf
      refine x_getr fl_X9_134 X M q23 dX9_of_75 ?_
      refine lv_iload_n X.1 X.2.1 dX9_of_78 rfl (lv_at hl 2 rfl) ?_
      obtain ⟨t24, q25, hf⟩ := bnd hf
      refine x_iald X M q25 dX9_of_79 ?_
      refine lv_i2l (v := ((Int32.toInt64 t24))) X.1 X.2.1 dX9_of_80 rfl ?_
      obtain ⟨rfl, rfl⟩ := rt2 hf
      exact x_lret X hr hk M dX9_of_81
    have hf := ifn c19 hf
    by_cases c26 : v2 = 2
    · have hf := ifp c26 hf
      refine x_tin (z := 2) (tgt := 82) X rfl c26 dX9_of_23 (by decide) (by decide) rfl (by decide) ?_
      refine lv_iload_n X.1 X.2.1 dX9_of_82 rfl (lv_at hl 0 rfl) ?_
      refine lv_i2l (v := ((Int32.toInt64 t10))) X.1 X.2.1 dX9_of_83 rfl ?_
      obtain ⟨rfl, rfl⟩ := rt2 hf
      exact x_lret X hr hk M dX9_of_84
    have hf := ifn c26 hf
    by_cases c27 : v2 = 3
    · have hf := ifp c27 hf
      refine x_tin (z := 3) (tgt := 85) X rfl c27 dX9_of_23 (by decide) (by decide) rfl (by decide) ?_
      refine lv_aload_n X.1 X.2.1 dX9_of_85 rfl (lv_at hl 1 rfl) ?_
      obtain ⟨t28, q29, hf⟩ := bnd hf
      refine x_getr fl_X9_17 X M q29 dX9_of_86 ?_
      obtain ⟨t30, q31, hf⟩ := bnd hf
      refine x_getr fl_X9_137 X M q31 dX9_of_89 ?_
      refine lv_iload_n X.1 X.2.1 dX9_of_92 rfl (lv_at hl 2 rfl) ?_
      obtain ⟨t32, q33, hf⟩ := bnd hf
      refine x_iald X M q33 dX9_of_93 ?_
      refine lv_i2l (v := ((Int32.toInt64 t32))) X.1 X.2.1 dX9_of_94 rfl ?_
      obtain ⟨rfl, rfl⟩ := rt2 hf
      exact x_lret X hr hk M dX9_of_95
    have hf := ifn c27 hf
    by_cases c34 : v2 = 4
    · have hf := ifp c34 hf
      refine x_tin (z := 4) (tgt := 96) X rfl c34 dX9_of_23 (by decide) (by decide) rfl (by decide) ?_
      refine lv_aload_n X.1 X.2.1 dX9_of_96 rfl (lv_at hl 1 rfl) ?_
      obtain ⟨t35, q36, hf⟩ := bnd hf
      refine x_getr fl_X9_17 X M q36 dX9_of_97 ?_
      refine lv_iload_n X.1 X.2.1 dX9_of_100 rfl (lv_at hl 2 rfl) ?_
      refine lv_iload_n X.1 X.2.1 dX9_of_101 rfl (lv_at hl 0 rfl) ?_
      obtain ⟨⟨⟩, q37, hf⟩ := bnd hf
      obtain ⟨t40, h39, q38, hf⟩ := bnd2 hf
      refine x_callVi (As := [.int v1, .int t10]) cf_X9_140 (c_X1_duesOf l G N t35 v1 t10 h3 _ _ q38) rfl ⟨rfl, rfl, Nat.le_of_ble_eq_true rfl, Nat.le_of_ble_eq_true rfl⟩ ⟨Nat.le_of_ble_eq_true rfl, Nat.le_of_ble_eq_true rfl⟩ X M (x_recv cls_X1 X M q37) rfl rfl hl.1 (Nat.le_of_ble_eq_true rfl) dX9_of_102 (fun H locs M => ?_)
      refine lv_i2l (v := ((Int32.toInt64 t40))) X.1 X.2.1 dX9_of_105 rfl ?_
      obtain ⟨rfl, rfl⟩ := rt2 hf
      exact x_lret X hr hk M dX9_of_106
    have hf := ifn c34 hf
    by_cases c41 : v2 = 5
    · have hf := ifp c41 hf
      refine x_tin (z := 5) (tgt := 107) X rfl c41 dX9_of_23 (by decide) (by decide) rfl (by decide) ?_
      refine lv_aload_n X.1 X.2.1 dX9_of_107 rfl (lv_at hl 1 rfl) ?_
      obtain ⟨t42, q43, hf⟩ := bnd hf
      refine x_getr fl_X9_17 X M q43 dX9_of_108 ?_
      refine lv_iload_n X.1 X.2.1 dX9_of_111 rfl (lv_at hl 2 rfl) ?_
      refine lv_iload_n X.1 X.2.1 dX9_of_112 rfl (lv_at hl 0 rfl) ?_
      obtain ⟨⟨⟩, q44, hf⟩ := bnd hf
      obtain ⟨t47, h46, q45, hf⟩ := bnd2 hf
      refine x_callVi (As := [.int v1, .int t10]) cf_X9_144 (c_X1_worthOf l G N t42 v1 t10 h3 _ _ q45) rfl ⟨rfl, rfl, Nat.le_of_ble_eq_true rfl, Nat.le_of_ble_eq_true rfl⟩ ⟨Nat.le_of_ble_eq_true rfl, Nat.le_of_ble_eq_true rfl⟩ X M (x_recv cls_X1 X M q44) rfl rfl hl.1 (Nat.le_of_ble_eq_true rfl) dX9_of_113 (fun H locs M => ?_)
      refine lv_i2l (v := ((Int32.toInt64 t47))) X.1 X.2.1 dX9_of_116 rfl ?_
      obtain ⟨rfl, rfl⟩ := rt2 hf
      exact x_lret X hr hk M dX9_of_117
    have hf := ifn c41 hf
    have nc12 := lv_neT (a := 0) c12 rfl
    have nc19 := lv_neT (a := 1) c19 rfl
    have nc26 := lv_neT (a := 2) c26 rfl
    have nc27 := lv_neT (a := 3) c27 rfl
    have nc34 := lv_neT (a := 4) c34 rfl
    have nc41 := lv_neT (a := 5) c41 rfl
    refine lv_tableOut (tgt := 118) X.1 X.2.1 dX9_of_23 (by omega) (by decide) ?_
    refine lv_ldc2 X.1 X.2.1 X.2.2.2.1 (X.2.2.2.2.1 _ k_337) dX9_of_118 ?_
    obtain ⟨rfl, rfl⟩ := rt2 hf
    exact x_lret X hr hk M dX9_of_121
  · have hf := ifp c5 hf
    refine lv_ldc2 X.1 X.2.1 X.2.2.2.1 (X.2.2.2.2.1 _ k_337) dX9_of_8 ?_
    obtain ⟨rfl, rfl⟩ := rt2 hf
    exact x_lret X hr hk M dX9_of_11
theorem c_X9_of (l : Launch) (G : Gx) (N : Nat) (v0 : Nat) (v1 : Int32) (v2 : Int32) (h : Mem) (r : Int64) (h' : Mem) (hf : f_X9_of N v0 v1 v2 h = some (r, h')) : MetG l G yX9_of (.code yX9_of cX9_of 4 (Option.some Jvm.ClassFile.FieldType.long)) rm_X9_of [.ref (gB G + v0), .int v1, .int v2] h (QcL G r h') 0 0 :=
  x_met (by decide) rfl (Nat.le_of_ble_eq_true rfl) (fun p e s m args below meth c ls X M hr hk hin hl => w_X9_of X hr hk N v0 v1 v2 h hf _ _ ls M hl)
abbrev rm_X9_has : Room := { frames := 3, cells := 0, slots := 0, locals := 83 }
def f_X9_has_88 (N : Nat) (v0 : Nat) (v1 : Int32) (v2 : Int32) (h : Mem) : Option (Int32 × Mem) :=
  (gR h v0 9 0).bind fun t1 =>
  (gR h t1 1 4).bind fun t3 =>
  (lI 100 h t3 (((v1 * (3 : Int32)) + v2) - (3 : Int32))).bind fun t5 =>
  some (t5, h)
set_option maxRecDepth 100000 in
set_option maxHeartbeats 4000000 in
theorem w_X9_has_88 {p : Program} {l : Launch} {e : Env} {s : State} {m : MethodId} {args : Array Value} {below : List Frame} {meth : Method} {c : Code} {G : Gx} {r : Int32} {h' : Mem} (X : CX G p s m args c cX9_has 3 RX9) (hr : meth.sig.returnType = (Option.some Jvm.ClassFile.FieldType.int)) (hk : meth.locks = false) (N : Nat) : ∀ (v0 : Nat) (v1 : Int32) (v2 : Int32) (h : Mem), f_X9_has_88 N v0 v1 v2 h = some (r, h') → ∀ (H : Heap) (locs : List Loc) (ls : Array Slot), MS G s h H locs 0 → lv_has ls 3 [(0, .ref (gB G + v0)), (1, .int v1), (2, .int v2)] → W p l e (rm_X9_has) s m args below meth c H locs 0 0 (QI G below args s r h' 0 0) (F0 m 88 ls []) := by
  intro v0 v1 v2 h hf H locs ls M hl
  rw [f_X9_has_88] at hf
  refine lv_aload_n X.1 X.2.1 dX9_has_88 rfl (lv_at hl 0 rfl) ?_
  obtain ⟨t1, q2, hf⟩ := bnd hf
  refine x_getr fl_X9_17 X M q2 dX9_has_89 ?_
  obtain ⟨t3, q4, hf⟩ := bnd hf
  refine x_getr fl_X9_107 X M q4 dX9_has_92 ?_
  refine lv_iload_n X.1 X.2.1 dX9_has_95 rfl (lv_at hl 1 rfl) ?_
  refine lv_iconst (v := (3 : Int32)) X.1 X.2.1 dX9_has_96 (by decide) ?_
  refine lv_imul X.1 X.2.1 dX9_has_97 ?_
  refine lv_iload_n X.1 X.2.1 dX9_has_98 rfl (lv_at hl 2 rfl) ?_
  refine lv_iadd X.1 X.2.1 dX9_has_99 ?_
  refine lv_iconst (v := (3 : Int32)) X.1 X.2.1 dX9_has_100 (by decide) ?_
  refine lv_isub X.1 X.2.1 dX9_has_101 ?_
  obtain ⟨t5, q6, hf⟩ := bnd hf
  refine x_iald X M q6 dX9_has_102 ?_
  obtain ⟨rfl, rfl⟩ := rt2 hf
  exact x_iret X hr hk M dX9_has_103
def f_X9_has (N : Nat) (v0 : Nat) (v1 : Int32) (v2 : Int32) (h : Mem) : Option (Int32 × Mem) :=
  (ck h v0 9).bind fun _ =>
  b2 (f_X9_isTown N v0 v1 h) fun t4 h3 =>
  if t4 = 0 then
    some ((-1 : Int32), h3)
  else
    if v2 = 0 then
      (gR h3 v0 9 0).bind fun t7 =>
      (gR h3 t7 1 3).bind fun t9 =>
      (lI 100 h3 t9 v1).bind fun t11 =>
      some (t11, h3)
    else
    if v2 = 1 then
      (gR h3 v0 9 0).bind fun t14 =>
      (ck h3 t14 1).bind fun _ =>
      b2 (f_X1_crowd N t14 v1 h3) fun t19 h18 =>
      some (t19, h18)
    else
    if v2 = 2 then
      (gR h3 v0 9 0).bind fun t21 =>
      (ck h3 t21 1).bind fun _ =>
      b2 (f_X1_costOf N t21 v1 h3) fun t26 h25 =>
      some (t26, h25)
    else
    if v2 = 3 then
      f_X9_has_88 N v0 v1 v2 h3
    else
    if v2 = 4 then
      f_X9_has_88 N v0 v1 v2 h3
    else
    if v2 = 5 then
      f_X9_has_88 N v0 v1 v2 h3
    else
    if v2 = 6 then
      (gR h3 v0 9 0).bind fun t31 =>
      (gR h3 t31 1 5).bind fun t33 =>
      (lI 100 h3 t33 v1).bind fun t35 =>
      some (t35, h3)
    else
    if v2 = 7 then
      (gR h3 v0 9 0).bind fun t38 =>
      (gR h3 t38 1 6).bind fun t40 =>
      (lI 100 h3 t40 v1).bind fun t42 =>
      some (t42, h3)
    else
    if v2 = 8 then
      (gR h3 v0 9 0).bind fun t45 =>
      (gR h3 t45 1 7).bind fun t47 =>
      (lI 100 h3 t47 v1).bind fun t49 =>
      some (t49, h3)
    else
    some ((-1 : Int32), h3)
set_option maxRecDepth 100000 in
set_option maxHeartbeats 4000000 in
theorem w_X9_has {p : Program} {l : Launch} {e : Env} {s : State} {m : MethodId} {args : Array Value} {below : List Frame} {meth : Method} {c : Code} {G : Gx} {r : Int32} {h' : Mem} (X : CX G p s m args c cX9_has 3 RX9) (hr : meth.sig.returnType = (Option.some Jvm.ClassFile.FieldType.int)) (hk : meth.locks = false) (N : Nat) : ∀ (v0 : Nat) (v1 : Int32) (v2 : Int32) (h : Mem), f_X9_has N v0 v1 v2 h = some (r, h') → ∀ (H : Heap) (locs : List Loc) (ls : Array Slot), MS G s h H locs 0 → lv_has ls 3 [(0, .ref (gB G + v0)), (1, .int v1), (2, .int v2)] → W p l e (rm_X9_has) s m args below meth c H locs 0 0 (QI G below args s r h' 0 0) (F0 m 0 ls []) := by
  intro v0 v1 v2 h hf H locs ls M hl
  rw [f_X9_has] at hf
  refine lv_aload_n X.1 X.2.1 dX9_has_0 rfl (lv_at hl 0 rfl) ?_
  refine lv_iload_n X.1 X.2.1 dX9_has_1 rfl (lv_at hl 1 rfl) ?_
  obtain ⟨⟨⟩, q1, hf⟩ := bnd hf
  obtain ⟨t4, h3, q2, hf⟩ := bnd2 hf
  refine x_callVi (As := [.int v1]) cf_X9_96 (c_X9_isTown l G N v0 v1 h _ _ q2) rfl ⟨rfl, rfl, Nat.le_of_ble_eq_true rfl, Nat.le_of_ble_eq_true rfl⟩ ⟨Nat.le_of_ble_eq_true rfl, Nat.le_of_ble_eq_true rfl⟩ X M (x_recv cls_X9 X M q1) rfl rfl hl.1 (Nat.le_of_ble_eq_true rfl) dX9_has_2 (fun H locs M => ?_)
  refine lv_if_ne (tgt := 10) X.1 X.2.1 dX9_has_5 (by decide) (fun c5 => ?_) (fun c5 => ?_)
  · have hf := ifn c5 hf
    refine lv_iload_n X.1 X.2.1 dX9_has_10 rfl (lv_at hl 2 rfl) ?_
    by_cases c6 : v2 = 0
    · have hf := ifp c6 hf
      refine x_tin (z := 0) (tgt := 60) X rfl c6 dX9_has_11 (by decide) (by decide) rfl (by decide) ?_
      refine lv_aload_n X.1 X.2.1 dX9_has_60 rfl (lv_at hl 0 rfl) ?_
      obtain ⟨t7, q8, hf⟩ := bnd hf
      refine x_getr fl_X9_17 X M q8 dX9_has_61 ?_
      obtain ⟨t9, q10, hf⟩ := bnd hf
      refine x_getr fl_X9_92 X M q10 dX9_has_64 ?_
      refine lv_iload_n X.1 X.2.1 dX9_has_67 rfl (lv_at hl 1 rfl) ?_
      obtain ⟨t11, q12, hf⟩ := bnd hf
      refine x_iald X M q12 dX9_has_68 ?_
      obtain ⟨rfl, rfl⟩ := rt2 hf
      exact x_iret X hr hk M dX9_has_69
    have hf := ifn c6 hf
    by_cases c13 : v2 = 1
    · have hf := ifp c13 hf
      refine x_tin (z := 1) (tgt := 70) X rfl c13 dX9_has_11 (by decide) (by decide) rfl (by decide) ?_
      refine lv_aload_n X.1 X.2.1 dX9_has_70 rfl (lv_at hl 0 rfl) ?_
      obtain ⟨t14, q15, hf⟩ := bnd hf
      refine x_getr fl_X9_17 X M q15 dX9_has_71 ?_
      refine lv_iload_n X.1 X.2.1 dX9_has_74 rfl (lv_at hl 1 rfl) ?_
      obtain ⟨⟨⟩, q16, hf⟩ := bnd hf
      obtain ⟨t19, h18, q17, hf⟩ := bnd2 hf
      refine x_callVi (As := [.int v1]) cf_X9_147 (c_X1_crowd l G N t14 v1 h3 _ _ q17) rfl ⟨rfl, rfl, Nat.le_of_ble_eq_true rfl, Nat.le_of_ble_eq_true rfl⟩ ⟨Nat.le_of_ble_eq_true rfl, Nat.le_of_ble_eq_true rfl⟩ X M (x_recv cls_X1 X M q16) rfl rfl hl.1 (Nat.le_of_ble_eq_true rfl) dX9_has_75 (fun H locs M => ?_)
      obtain ⟨rfl, rfl⟩ := rt2 hf
      exact x_iret X hr hk M dX9_has_78
    have hf := ifn c13 hf
    by_cases c20 : v2 = 2
    · have hf := ifp c20 hf
      refine x_tin (z := 2) (tgt := 79) X rfl c20 dX9_has_11 (by decide) (by decide) rfl (by decide) ?_
      refine lv_aload_n X.1 X.2.1 dX9_has_79 rfl (lv_at hl 0 rfl) ?_
      obtain ⟨t21, q22, hf⟩ := bnd hf
      refine x_getr fl_X9_17 X M q22 dX9_has_80 ?_
      refine lv_iload_n X.1 X.2.1 dX9_has_83 rfl (lv_at hl 1 rfl) ?_
      obtain ⟨⟨⟩, q23, hf⟩ := bnd hf
      obtain ⟨t26, h25, q24, hf⟩ := bnd2 hf
      refine x_callVi (As := [.int v1]) cf_X9_151 (c_X1_costOf l G N t21 v1 h3 _ _ q24) rfl ⟨rfl, rfl, Nat.le_of_ble_eq_true rfl, Nat.le_of_ble_eq_true rfl⟩ ⟨Nat.le_of_ble_eq_true rfl, Nat.le_of_ble_eq_true rfl⟩ X M (x_recv cls_X1 X M q23) rfl rfl hl.1 (Nat.le_of_ble_eq_true rfl) dX9_has_84 (fun H locs M => ?_)
      obtain ⟨rfl, rfl⟩ := rt2 hf
      exact x_iret X hr hk M dX9_has_87
    have hf := ifn c20 hf
    by_cases c27 : v2 = 3
    · have hf := ifp c27 hf
      refine x_tin (z := 3) (tgt := 88) X rfl c27 dX9_has_11 (by decide) (by decide) rfl (by decide) ?_
      exact w_X9_has_88 X hr hk N v0 v1 v2 h3 hf _ _ _ M (lv_sub hl [0, 1, 2] rfl)
    have hf := ifn c27 hf
    by_cases c28 : v2 = 4
    · have hf := ifp c28 hf
      refine x_tin (z := 4) (tgt := 88) X rfl c28 dX9_has_11 (by decide) (by decide) rfl (by decide) ?_
      exact w_X9_has_88 X hr hk N v0 v1 v2 h3 hf _ _ _ M (lv_sub hl [0, 1, 2] rfl)
    have hf := ifn c28 hf
    by_cases c29 : v2 = 5
    · have hf := ifp c29 hf
      refine x_tin (z := 5) (tgt := 88) X rfl c29 dX9_has_11 (by decide) (by decide) rfl (by decide) ?_
      exact w_X9_has_88 X hr hk N v0 v1 v2 h3 hf _ _ _ M (lv_sub hl [0, 1, 2] rfl)
    have hf := ifn c29 hf
    by_cases c30 : v2 = 6
    · have hf := ifp c30 hf
      refine x_tin (z := 6) (tgt := 104) X rfl c30 dX9_has_11 (by decide) (by decide) rfl (by decide) ?_
      refine lv_aload_n X.1 X.2.1 dX9_has_104 rfl (lv_at hl 0 rfl) ?_
      obtain ⟨t31, q32, hf⟩ := bnd hf
      refine x_getr fl_X9_17 X M q32 dX9_has_105 ?_
      obtain ⟨t33, q34, hf⟩ := bnd hf
      refine x_getr fl_X9_117 X M q34 dX9_has_108 ?_
      refine lv_iload_n X.1 X.2.1 dX9_has_111 rfl (lv_at hl 1 rfl) ?_
      obtain ⟨t35, q36, hf⟩ := bnd hf
      refine x_iald X M q36 dX9_has_112 ?_
      obtain ⟨rfl, rfl⟩ := rt2 hf
      exact x_iret X hr hk M dX9_has_113
    have hf := ifn c30 hf
    by_cases c37 : v2 = 7
    · have hf := ifp c37 hf
      refine x_tin (z := 7) (tgt := 114) X rfl c37 dX9_has_11 (by decide) (by decide) rfl (by decide) ?_
      refine lv_aload_n X.1 X.2.1 dX9_has_114 rfl (lv_at hl 0 rfl) ?_
      obtain ⟨t38, q39, hf⟩ := bnd hf
      refine x_getr fl_X9_17 X M q39 dX9_has_115 ?_
      obtain ⟨t40, q41, hf⟩ := bnd hf
      refine x_getr fl_X9_114 X M q41 dX9_has_118 ?_
      refine lv_iload_n X.1 X.2.1 dX9_has_121 rfl (lv_at hl 1 rfl) ?_
      obtain ⟨t42, q43, hf⟩ := bnd hf
      refine x_iald X M q43 dX9_has_122 ?_
      obtain ⟨rfl, rfl⟩ := rt2 hf
      exact x_iret X hr hk M dX9_has_123
    have hf := ifn c37 hf
    by_cases c44 : v2 = 8
    · have hf := ifp c44 hf
      refine x_tin (z := 8) (tgt := 124) X rfl c44 dX9_has_11 (by decide) (by decide) rfl (by decide) ?_
      refine lv_aload_n X.1 X.2.1 dX9_has_124 rfl (lv_at hl 0 rfl) ?_
      obtain ⟨t45, q46, hf⟩ := bnd hf
      refine x_getr fl_X9_17 X M q46 dX9_has_125 ?_
      obtain ⟨t47, q48, hf⟩ := bnd hf
      refine x_getr fl_X9_120 X M q48 dX9_has_128 ?_
      refine lv_iload_n X.1 X.2.1 dX9_has_131 rfl (lv_at hl 1 rfl) ?_
      obtain ⟨t49, q50, hf⟩ := bnd hf
      refine x_iald X M q50 dX9_has_132 ?_
      obtain ⟨rfl, rfl⟩ := rt2 hf
      exact x_iret X hr hk M dX9_has_133
    have hf := ifn c44 hf
    have nc6 := lv_neT (a := 0) c6 rfl
    have nc13 := lv_neT (a := 1) c13 rfl
    have nc20 := lv_neT (a := 2) c20 rfl
    have nc27 := lv_neT (a := 3) c27 rfl
    have nc28 := lv_neT (a := 4) c28 rfl
    have nc29 := lv_neT (a := 5) c29 rfl
    have nc30 := lv_neT (a := 6) c30 rfl
    have nc37 := lv_neT (a := 7) c37 rfl
    have nc44 := lv_neT (a := 8) c44 rfl
    refine lv_tableOut (tgt := 134) X.1 X.2.1 dX9_has_11 (by omega) (by decide) ?_
    refine lv_iconst (v := (-1 : Int32)) X.1 X.2.1 dX9_has_134 (by decide) ?_
    obtain ⟨rfl, rfl⟩ := rt2 hf
    exact x_iret X hr hk M dX9_has_135
  · have hf := ifp c5 hf
    refine lv_iconst (v := (-1 : Int32)) X.1 X.2.1 dX9_has_8 (by decide) ?_
    obtain ⟨rfl, rfl⟩ := rt2 hf
    exact x_iret X hr hk M dX9_has_9
theorem c_X9_has (l : Launch) (G : Gx) (N : Nat) (v0 : Nat) (v1 : Int32) (v2 : Int32) (h : Mem) (r : Int32) (h' : Mem) (hf : f_X9_has N v0 v1 v2 h = some (r, h')) : MetG l G yX9_has (.code yX9_has cX9_has 3 (Option.some Jvm.ClassFile.FieldType.int)) rm_X9_has [.ref (gB G + v0), .int v1, .int v2] h (QcI G r h') 0 0 :=
  x_met (by decide) rfl (Nat.le_of_ble_eq_true rfl) (fun p e s m args below meth c ls X M hr hk hin hl => w_X9_has X hr hk N v0 v1 v2 h hf _ _ ls M hl)
abbrev rm_X9_feed : Room := { frames := 2, cells := 0, slots := 0, locals := 62 }
def f_X9_feed_33 (N : Nat) (n : Nat) (v0 : Nat) (v1 : Int32) (v3 : Int32) (h : Mem) : Option (Int32 × Mem) := match n with
  | 0 => none
  | n + 1 =>
    if v3 < 0 then
      (gR h v0 9 4).bind fun t2 =>
      (gI h t2 5 1).bind fun t4 =>
      some (t4, h)
    else
      (gR h v0 9 4).bind fun t6 =>
      (ck h t6 5).bind fun _ =>
      (f_X5_append N t6 (((Int32.toUInt32 ((v1 >>> (((8 : Int32) * v3) &&& 31)) &&& (255 : Int32))) % 65536).toInt32) h).bind fun h10 =>
      f_X9_feed_33 N n v0 v1 (v3 + (-1)) h10
set_option maxRecDepth 100000 in
set_option maxHeartbeats 4000000 in
theorem w_X9_feed_33 {p : Program} {l : Launch} {e : Env} {s : State} {m : MethodId} {args : Array Value} {below : List Frame} {meth : Method} {c : Code} {G : Gx} {r : Int32} {h' : Mem} (X : CX G p s m args c cX9_feed 4 RX9) (hr : meth.sig.returnType = (Option.some Jvm.ClassFile.FieldType.int)) (hk : meth.locks = false) (N : Nat) : ∀ (n : Nat) (v0 : Nat) (v1 : Int32) (v3 : Int32) (h : Mem), f_X9_feed_33 N n v0 v1 v3 h = some (r, h') → ∀ (H : Heap) (locs : List Loc) (ls : Array Slot), MS G s h H locs 0 → lv_has ls 4 [(0, .ref (gB G + v0)), (1, .int v1), (3, .int v3)] → W p l e (rm_X9_feed) s m args below meth c H locs 0 0 (QI G below args s r h' 0 0) (F0 m 33 ls []) := by
  intro n
  induction n with
  | zero =>
    intro v0 v1 v3 h hf
    cases hf
  | succ n ih =>
    intro v0 v1 v3 h hf H locs ls M hl
    rw [f_X9_feed_33] at hf
    refine lv_iload_n X.1 X.2.1 dX9_feed_33 rfl (lv_at hl 2 rfl) ?_
    refine lv_if_lt (tgt := 61) X.1 X.2.1 dX9_feed_34 (by decide) (fun c1 => ?_) (fun c1 => ?_)
    · have hf := ifp c1 hf
      refine lv_aload_n X.1 X.2.1 dX9_feed_61 rfl (lv_at hl 0 rfl) ?_
      obtain ⟨t2, q3, hf⟩ := bnd hf
      refine x_getr fl_X9_39 X M q3 dX9_feed_62 ?_
      obtain ⟨t4, q5, hf⟩ := bnd hf
      refine x_geti fl_X9_154 X M q5 dX9_feed_65 ?_
      obtain ⟨rfl, rfl⟩ := rt2 hf
      exact x_iret X hr hk M dX9_feed_68
    · have hf := ifn c1 hf
      refine lv_aload_n X.1 X.2.1 dX9_feed_37 rfl (lv_at hl 0 rfl) ?_
      obtain ⟨t6, q7, hf⟩ := bnd hf
      refine x_getr fl_X9_39 X M q7 dX9_feed_38 ?_
      refine lv_iload_n X.1 X.2.1 dX9_feed_41 rfl (lv_at hl 1 rfl) ?_
      refine lv_bipush (v := (8 : Int32)) X.1 X.2.1 dX9_feed_42 (by decide) ?_
      refine lv_iload_n X.1 X.2.1 dX9_feed_44 rfl (lv_at hl 2 rfl) ?_
      refine lv_imul X.1 X.2.1 dX9_feed_45 ?_
      refine lv_ishr X.1 X.2.1 dX9_feed_46 ?_
      refine lv_sipush (v := (255 : Int32)) X.1 X.2.1 dX9_feed_47 (by decide) ?_
      refine lv_iand X.1 X.2.1 dX9_feed_50 ?_
      refine lv_i2c (v := (((Int32.toUInt32 ((v1 >>> (((8 : Int32) * v3) &&& 31)) &&& (255 : Int32))) % 65536).toInt32)) X.1 X.2.1 dX9_feed_51 rfl ?_
      obtain ⟨⟨⟩, q8, hf⟩ := bnd hf
      obtain ⟨h10, q9, hf⟩ := bnd hf
      refine x_callVv (As := [.int (((Int32.toUInt32 ((v1 >>> (((8 : Int32) * v3) &&& 31)) &&& (255 : Int32))) % 65536).toInt32)]) cf_X9_157 (c_X5_append l G N t6 (((Int32.toUInt32 ((v1 >>> (((8 : Int32) * v3) &&& 31)) &&& (255 : Int32))) % 65536).toInt32) h _ q9) rfl ⟨rfl, rfl, Nat.le_of_ble_eq_true rfl, Nat.le_of_ble_eq_true rfl⟩ ⟨Nat.le_of_ble_eq_true rfl, Nat.le_of_ble_eq_true rfl⟩ X M (x_recv cls_X5 X M q8) rfl rfl hl.1 (Nat.le_of_ble_eq_true rfl) dX9_feed_52 (fun H locs M => ?_)
      refine lv_iinc (v := (v3 + (-1))) (lv' := [(3, .int (v3 + (-1))), (0, .ref (gB G + v0)), (1, .int v1)]) X.1 X.2.1 dX9_feed_55 hl (k := 2) rfl (by first | rfl | decide) (by decide) rfl (fun ls hl => ?_)
      refine lv_goto (tgt := 33) X.1 X.2.1 dX9_feed_58 (by decide) ?_
      exact ih v0 v1 (v3 + (-1)) h10 hf _ _ _ M (lv_sub hl [1, 2, 0] rfl)
def f_X9_feed (N : Nat) (v0 : Nat) (v1 : Int32) (v2 : Int32) (h : Mem) : Option (Int32 × Mem) :=
  b2 (f_X9_within N v2 (0 : Int32) (4 : Int32) h) fun t3 h2 =>
  if t3 = 0 then
    some ((-2 : Int32), h2)
  else
    (gR h2 v0 9 4).bind fun t5 =>
    (gI h2 t5 5 1).bind fun t7 =>
    if (t7 + v2) ≤ (120 : Int32) then
      f_X9_feed_33 N N v0 v1 (v2 - (1 : Int32)) h2
    else
      some ((-4 : Int32), h2)
set_option maxRecDepth 100000 in
set_option maxHeartbeats 4000000 in
theorem w_X9_feed {p : Program} {l : Launch} {e : Env} {s : State} {m : MethodId} {args : Array Value} {below : List Frame} {meth : Method} {c : Code} {G : Gx} {r : Int32} {h' : Mem} (X : CX G p s m args c cX9_feed 4 RX9) (hr : meth.sig.returnType = (Option.some Jvm.ClassFile.FieldType.int)) (hk : meth.locks = false) (N : Nat) : ∀ (v0 : Nat) (v1 : Int32) (v2 : Int32) (h : Mem), f_X9_feed N v0 v1 v2 h = some (r, h') → ∀ (H : Heap) (locs : List Loc) (ls : Array Slot), MS G s h H locs 0 → lv_has ls 4 [(0, .ref (gB G + v0)), (1, .int v1), (2, .int v2)] → W p l e (rm_X9_feed) s m args below meth c H locs 0 0 (QI G below args s r h' 0 0) (F0 m 0 ls []) := by
  intro v0 v1 v2 h hf H locs ls M hl
  rw [f_X9_feed] at hf
  refine lv_iload_n X.1 X.2.1 dX9_feed_0 rfl (lv_at hl 2 rfl) ?_
  refine lv_iconst (v := (0 : Int32)) X.1 X.2.1 dX9_feed_1 (by decide) ?_
  refine lv_iconst (v := (4 : Int32)) X.1 X.2.1 dX9_feed_2 (by decide) ?_
  obtain ⟨t3, h2, q1, hf⟩ := bnd2 hf
  refine x_callSi (As := [.int v2, .int (0 : Int32), .int (4 : Int32)]) cf_X9_84 (c_X9_within l G N v2 (0 : Int32) (4 : Int32) h _ _ q1) rfl ⟨rfl, rfl, Nat.le_of_ble_eq_true rfl, Nat.le_of_ble_eq_true rfl⟩ ⟨Nat.le_of_ble_eq_true rfl, Nat.le_of_ble_eq_true rfl⟩ X M rfl rfl hl.1 (Nat.le_of_ble_eq_true rfl) dX9_feed_3 (fun H locs M => ?_)
  refine lv_if_ne (tgt := 12) X.1 X.2.1 dX9_feed_6 (by decide) (fun c4 => ?_) (fun c4 => ?_)
  · have hf := ifn c4 hf
    refine lv_aload_n X.1 X.2.1 dX9_feed_12 rfl (lv_at hl 0 rfl) ?_
    obtain ⟨t5, q6, hf⟩ := bnd hf
    refine x_getr fl_X9_39 X M q6 dX9_feed_13 ?_
    obtain ⟨t7, q8, hf⟩ := bnd hf
    refine x_geti fl_X9_154 X M q8 dX9_feed_16 ?_
    refine lv_iload_n X.1 X.2.1 dX9_feed_19 rfl (lv_at hl 2 rfl) ?_
    refine lv_iadd X.1 X.2.1 dX9_feed_20 ?_
    refine lv_bipush (v := (120 : Int32)) X.1 X.2.1 dX9_feed_21 (by decide) ?_
    refine lv_icmp_le (tgt := 29) X.1 X.2.1 dX9_feed_23 (by decide) (fun c9 => ?_) (fun c9 => ?_)
    · have hf := ifp c9 hf
      refine lv_iload_n X.1 X.2.1 dX9_feed_29 rfl (lv_at hl 2 rfl) ?_
      refine lv_iconst (v := (1 : Int32)) X.1 X.2.1 dX9_feed_30 (by decide) ?_
      refine lv_isub X.1 X.2.1 dX9_feed_31 ?_
      refine lv_istore_n (lv' := [(3, .int (v2 - (1 : Int32))), (0, .ref (gB G + v0)), (1, .int v1), (2, .int v2)]) X.1 X.2.1 dX9_feed_32 rfl hl (by decide) rfl (fun ls hl => ?_)
      exact w_X9_feed_33 X hr hk N N v0 v1 (v2 - (1 : Int32)) h2 hf _ _ _ M (lv_sub hl [1, 2, 0] rfl)
    · have hf := ifn c9 hf
      refine lv_bipush (v := (-4 : Int32)) X.1 X.2.1 dX9_feed_26 (by decide) ?_
      obtain ⟨rfl, rfl⟩ := rt2 hf
      exact x_iret X hr hk M dX9_feed_28
  · have hf := ifp c4 hf
    refine lv_bipush (v := (-2 : Int32)) X.1 X.2.1 dX9_feed_9 (by decide) ?_
    obtain ⟨rfl, rfl⟩ := rt2 hf
    exact x_iret X hr hk M dX9_feed_11
theorem c_X9_feed (l : Launch) (G : Gx) (N : Nat) (v0 : Nat) (v1 : Int32) (v2 : Int32) (h : Mem) (r : Int32) (h' : Mem) (hf : f_X9_feed N v0 v1 v2 h = some (r, h')) : MetG l G yX9_feed (.code yX9_feed cX9_feed 4 (Option.some Jvm.ClassFile.FieldType.int)) rm_X9_feed [.ref (gB G + v0), .int v1, .int v2] h (QcI G r h') 0 0 :=
  x_met (by decide) rfl (Nat.le_of_ble_eq_true rfl) (fun p e s m args below meth c ls X M hr hk hin hl => w_X9_feed X hr hk N v0 v1 v2 h hf _ _ ls M hl)
abbrev rm_X9_land : Room := { frames := 27, cells := 0, slots := 0, locals := 790 }
def f_X9_land (N : Nat) (v0 : Nat) (h : Mem) : Option (Int32 × Mem) :=
  (gR h v0 9 4).bind fun t1 =>
  (gR h v0 9 3).bind fun t3 =>
  (ck h t1 5).bind fun _ =>
  b2 (f_X5_faultIn N t1 t3 h) fun t8 h7 =>
  (gR h7 v0 9 4).bind fun t9 =>
  (sI h7 t9 5 1 (0 : Int32)).bind fun h11 =>
  if t8 = (-1 : Int32) then
    (gR h11 v0 9 0).bind fun t14 =>
    (gR h11 t14 1 0).bind fun t16 =>
    (gR h11 v0 9 0).bind fun t18 =>
    (gR h11 v0 9 3).bind fun t20 =>
    (sR h11 t18 1 0 t20).bind fun h22 =>
    (sR h22 v0 9 3 t16).bind fun h24 =>
    (gI h24 v0 9 12).bind fun t26 =>
    (sI h24 v0 9 12 (t26 + (1 : Int32))).bind fun h28 =>
    some ((t26 + (1 : Int32)), h28)
  else
    some (((-10 : Int32) - t8), h11)
set_option maxRecDepth 100000 in
set_option maxHeartbeats 4000000 in
theorem w_X9_land {p : Program} {l : Launch} {e : Env} {s : State} {m : MethodId} {args : Array Value} {below : List Frame} {meth : Method} {c : Code} {G : Gx} {r : Int32} {h' : Mem} (X : CX G p s m args c cX9_land 3 RX9) (hr : meth.sig.returnType = (Option.some Jvm.ClassFile.FieldType.int)) (hk : meth.locks = false) (N : Nat) : ∀ (v0 : Nat) (h : Mem), f_X9_land N v0 h = some (r, h') → ∀ (H : Heap) (locs : List Loc) (ls : Array Slot), MS G s h H locs 0 → lv_has ls 3 [(0, .ref (gB G + v0))] → W p l e (rm_X9_land) s m args below meth c H locs 0 0 (QI G below args s r h' 0 0) (F0 m 0 ls []) := by
  intro v0 h hf H locs ls M hl
  rw [f_X9_land] at hf
  refine lv_aload_n X.1 X.2.1 dX9_land_0 rfl (lv_at hl 0 rfl) ?_
  obtain ⟨t1, q2, hf⟩ := bnd hf
  refine x_getr fl_X9_39 X M q2 dX9_land_1 ?_
  refine lv_aload_n X.1 X.2.1 dX9_land_4 rfl (lv_at hl 0 rfl) ?_
  obtain ⟨t3, q4, hf⟩ := bnd hf
  refine x_getr fl_X9_33 X M q4 dX9_land_5 ?_
  obtain ⟨⟨⟩, q5, hf⟩ := bnd hf
  obtain ⟨t8, h7, q6, hf⟩ := bnd2 hf
  refine x_callVi (As := [.ref (gB G + t3)]) cf_X9_161 (c_X5_faultIn l G N t1 t3 h _ _ q6) rfl ⟨rfl, rfl, Nat.le_of_ble_eq_true rfl, Nat.le_of_ble_eq_true rfl⟩ ⟨Nat.le_of_ble_eq_true rfl, Nat.le_of_ble_eq_true rfl⟩ X M (x_recv cls_X5 X M q5) rfl rfl hl.1 (Nat.le_of_ble_eq_true rfl) dX9_land_8 (fun H locs M => ?_)
  refine lv_istore_n (lv' := [(1, .int t8), (0, .ref (gB G + v0))]) X.1 X.2.1 dX9_land_11 rfl hl (by decide) rfl (fun ls hl => ?_)
  refine lv_aload_n X.1 X.2.1 dX9_land_12 rfl (lv_at hl 1 rfl) ?_
  obtain ⟨t9, q10, hf⟩ := bnd hf
  refine x_getr fl_X9_39 X M q10 dX9_land_13 ?_
  refine lv_iconst (v := (0 : Int32)) X.1 X.2.1 dX9_land_16 (by decide) ?_
  obtain ⟨h11, q12, hf⟩ := bnd hf
  refine x_puti fl_X9_154 fp_X9_154.1 fp_X9_154.2 X M q12 dX9_land_17 (fun H locs M => ?_)
  refine lv_iload_n X.1 X.2.1 dX9_land_20 rfl (lv_at hl 0 rfl) ?_
  refine lv_iconst (v := (-1 : Int32)) X.1 X.2.1 dX9_land_21 (by decide) ?_
  refine lv_icmp_eq (tgt := 30) X.1 X.2.1 dX9_land_22 (by decide) (fun c13 => ?_) (fun c13 => ?_)
  · have hf := ifp c13 hf
    refine lv_aload_n X.1 X.2.1 dX9_land_30 rfl (lv_at hl 1 rfl) ?_
    obtain ⟨t14, q15, hf⟩ := bnd hf
    refine x_getr fl_X9_17 X M q15 dX9_land_31 ?_
    obtain ⟨t16, q17, hf⟩ := bnd hf
    refine x_getr fl_X9_23 X M q17 dX9_land_34 ?_
    refine lv_astore_n (lv' := [(2, .ref (gB G + t16)), (1, .int t8), (0, .ref (gB G + v0))]) X.1 X.2.1 dX9_land_37 rfl hl (by decide) rfl (fun ls hl => ?_)
    refine lv_aload_n X.1 X.2.1 dX9_land_38 rfl (lv_at hl 2 rfl) ?_
    obtain ⟨t18, q19, hf⟩ := bnd hf
    refine x_getr fl_X9_17 X M q19 dX9_land_39 ?_
    refine lv_aload_n X.1 X.2.1 dX9_land_42 rfl (lv_at hl 2 rfl) ?_
    obtain ⟨t20, q21, hf⟩ := bnd hf
    refine x_getr fl_X9_33 X M q21 dX9_land_43 ?_
    obtain ⟨h22, q23, hf⟩ := bnd hf
    refine x_putr fl_X9_23 fp_X9_23.1 fp_X9_23.2 (fun _ => rfl) (fun _ => rfl) X M q23 dX9_land_46 (fun H locs M => ?_)
    refine lv_aload_n X.1 X.2.1 dX9_land_49 rfl (lv_at hl 2 rfl) ?_
    refine lv_aload_n X.1 X.2.1 dX9_land_50 rfl (lv_at hl 0 rfl) ?_
    obtain ⟨h24, q25, hf⟩ := bnd hf
    refine x_putr fl_X9_33 fp_X9_33.1 fp_X9_33.2 (fun _ => rfl) (fun _ => rfl) X M q25 dX9_land_51 (fun H locs M => ?_)
    refine lv_aload_n X.1 X.2.1 dX9_land_54 rfl (lv_at hl 2 rfl) ?_
    refine lv_dup X.1 X.2.1 dX9_land_55 rfl ?_
    obtain ⟨t26, q27, hf⟩ := bnd hf
    refine x_geti fl_X9_165 X M q27 dX9_land_56 ?_
    refine lv_iconst (v := (1 : Int32)) X.1 X.2.1 dX9_land_59 (by decide) ?_
    refine lv_iadd X.1 X.2.1 dX9_land_60 ?_
    refine lv_dup_x1 X.1 X.2.1 dX9_land_61 rfl rfl ?_
    obtain ⟨h28, q29, hf⟩ := bnd hf
    refine x_puti fl_X9_165 fp_X9_165.1 fp_X9_165.2 X M q29 dX9_land_62 (fun H locs M => ?_)
    obtain ⟨rfl, rfl⟩ := rt2 hf
    exact x_iret X hr hk M dX9_land_65
  · have hf := ifn c13 hf
    refine lv_bipush (v := (-10 : Int32)) X.1 X.2.1 dX9_land_25 (by decide) ?_
    refine lv_iload_n X.1 X.2.1 dX9_land_27 rfl (lv_at hl 0 rfl) ?_
    refine lv_isub X.1 X.2.1 dX9_land_28 ?_
    obtain ⟨rfl, rfl⟩ := rt2 hf
    exact x_iret X hr hk M dX9_land_29
theorem c_X9_land (l : Launch) (G : Gx) (N : Nat) (v0 : Nat) (h : Mem) (r : Int32) (h' : Mem) (hf : f_X9_land N v0 h = some (r, h')) : MetG l G yX9_land (.code yX9_land cX9_land 3 (Option.some Jvm.ClassFile.FieldType.int)) rm_X9_land [.ref (gB G + v0)] h (QcI G r h') 0 0 :=
  x_met (by decide) rfl (Nat.le_of_ble_eq_true rfl) (fun p e s m args below meth c ls X M hr hk hin hl => w_X9_land X hr hk N v0 h hf _ _ ls M hl)
abbrev rm_X9_worth : Room := { frames := 5, cells := 0, slots := 0, locals := 136 }
def f_X9_worth (N : Nat) (v0 : Nat) (v1 : Int32) (v2 : Int32) (h : Mem) : Option (Int64 × Mem) :=
  (ck h v0 9).bind fun _ =>
  b2 (f_X9_isFamily N v0 v1 h) fun t4 h3 =>
  if t4 = 0 then
    some ((-9223372036854775808 : Int64), h3)
  else
    (ck h3 v0 9).bind fun _ =>
    b2 (f_X9_isTown N v0 v2 h3) fun t9 h8 =>
    if t9 = 0 then
      some ((-9223372036854775808 : Int64), h8)
    else
      (gR h8 v0 9 0).bind fun t11 =>
      (ck h8 t11 1).bind fun _ =>
      b2 (f_X1_worthOf N t11 v1 v2 h8) fun t16 h15 =>
      some (((Int32.toInt64 t16)), h15)
set_option maxRecDepth 100000 in
set_option maxHeartbeats 4000000 in
theorem w_X9_worth {p : Program} {l : Launch} {e : Env} {s : State} {m : MethodId} {args : Array Value} {below : List Frame} {meth : Method} {c : Code} {G : Gx} {r : Int64} {h' : Mem} (X : CX G p s m args c cX9_worth 3 RX9) (hr : meth.sig.returnType = (Option.some Jvm.ClassFile.FieldType.long)) (hk : meth.locks = false) (N : Nat) : ∀ (v0 : Nat) (v1 : Int32) (v2 : Int32) (h : Mem), f_X9_worth N v0 v1 v2 h = some (r, h') → ∀ (H : Heap) (locs : List Loc) (ls : Array Slot), MS G s h H locs 0 → lv_has ls 3 [(0, .ref (gB G + v0)), (1, .int v1), (2, .int v2)] → W p l e (rm_X9_worth) s m args below meth c H locs 0 0 (QL G below args s r h' 0 0) (F0 m 0 ls []) := by
  intro v0 v1 v2 h hf H locs ls M hl
  rw [f_X9_worth] at hf
  refine lv_aload_n X.1 X.2.1 dX9_worth_0 rfl (lv_at hl 0 rfl) ?_
  refine lv_iload_n X.1 X.2.1 dX9_worth_1 rfl (lv_at hl 1 rfl) ?_
  obtain ⟨⟨⟩, q1, hf⟩ := bnd hf
  obtain ⟨t4, h3, q2, hf⟩ := bnd2 hf
  refine x_callVi (As := [.int v1]) cf_X9_123 (c_X9_isFamily l G N v0 v1 h _ _ q2) rfl ⟨rfl, rfl, Nat.le_of_ble_eq_true rfl, Nat.le_of_ble_eq_true rfl⟩ ⟨Nat.le_of_ble_eq_true rfl, Nat.le_of_ble_eq_true rfl⟩ X M (x_recv cls_X9 X M q1) rfl rfl hl.1 (Nat.le_of_ble_eq_true rfl) dX9_worth_2 (fun H locs M => ?_)
  refine lv_if_eq (tgt := 29) X.1 X.2.1 dX9_worth_5 (by decide) (fun c5 => ?_) (fun c5 => ?_)
  · have hf := ifp c5 hf
    refine lv_ldc2 X.1 X.2.1 X.2.2.2.1 (X.2.2.2.2.1 _ k_337) dX9_worth_29 ?_
    obtain ⟨rfl, rfl⟩ := rt2 hf
    exact x_lret X hr hk M dX9_worth_32
  · have hf := ifn c5 hf
    refine lv_aload_n X.1 X.2.1 dX9_worth_8 rfl (lv_at hl 0 rfl) ?_
    refine lv_iload_n X.1 X.2.1 dX9_worth_9 rfl (lv_at hl 2 rfl) ?_
    obtain ⟨⟨⟩, q6, hf⟩ := bnd hf
    obtain ⟨t9, h8, q7, hf⟩ := bnd2 hf
    refine x_callVi (As := [.int v2]) cf_X9_96 (c_X9_isTown l G N v0 v2 h3 _ _ q7) rfl ⟨rfl, rfl, Nat.le_of_ble_eq_true rfl, Nat.le_of_ble_eq_true rfl⟩ ⟨Nat.le_of_ble_eq_true rfl, Nat.le_of_ble_eq_true rfl⟩ X M (x_recv cls_X9 X M q6) rfl rfl hl.1 (Nat.le_of_ble_eq_true rfl) dX9_worth_10 (fun H locs M => ?_)
    refine lv_if_eq (tgt := 29) X.1 X.2.1 dX9_worth_13 (by decide) (fun c10 => ?_) (fun c10 => ?_)
    · have hf := ifp c10 hf
      refine lv_ldc2 X.1 X.2.1 X.2.2.2.1 (X.2.2.2.2.1 _ k_337) dX9_worth_29 ?_
      obtain ⟨rfl, rfl⟩ := rt2 hf
      exact x_lret X hr hk M dX9_worth_32
    · have hf := ifn c10 hf
      refine lv_aload_n X.1 X.2.1 dX9_worth_16 rfl (lv_at hl 0 rfl) ?_
      obtain ⟨t11, q12, hf⟩ := bnd hf
      refine x_getr fl_X9_17 X M q12 dX9_worth_17 ?_
      refine lv_iload_n X.1 X.2.1 dX9_worth_20 rfl (lv_at hl 1 rfl) ?_
      refine lv_iload_n X.1 X.2.1 dX9_worth_21 rfl (lv_at hl 2 rfl) ?_
      obtain ⟨⟨⟩, q13, hf⟩ := bnd hf
      obtain ⟨t16, h15, q14, hf⟩ := bnd2 hf
      refine x_callVi (As := [.int v1, .int v2]) cf_X9_144 (c_X1_worthOf l G N t11 v1 v2 h8 _ _ q14) rfl ⟨rfl, rfl, Nat.le_of_ble_eq_true rfl, Nat.le_of_ble_eq_true rfl⟩ ⟨Nat.le_of_ble_eq_true rfl, Nat.le_of_ble_eq_true rfl⟩ X M (x_recv cls_X1 X M q13) rfl rfl hl.1 (Nat.le_of_ble_eq_true rfl) dX9_worth_22 (fun H locs M => ?_)
      refine lv_i2l (v := ((Int32.toInt64 t16))) X.1 X.2.1 dX9_worth_25 rfl ?_
      refine lv_goto (tgt := 32) X.1 X.2.1 dX9_worth_26 (by decide) ?_
      obtain ⟨rfl, rfl⟩ := rt2 hf
      exact x_lret X hr hk M dX9_worth_32
theorem c_X9_worth (l : Launch) (G : Gx) (N : Nat) (v0 : Nat) (v1 : Int32) (v2 : Int32) (h : Mem) (r : Int64) (h' : Mem) (hf : f_X9_worth N v0 v1 v2 h = some (r, h')) : MetG l G yX9_worth (.code yX9_worth cX9_worth 3 (Option.some Jvm.ClassFile.FieldType.long)) rm_X9_worth [.ref (gB G + v0), .int v1, .int v2] h (QcL G r h') 0 0 :=
  x_met (by decide) rfl (Nat.le_of_ble_eq_true rfl) (fun p e s m args below meth c ls X M hr hk hin hl => w_X9_worth X hr hk N v0 v1 v2 h hf _ _ ls M hl)
abbrev rm_X9_choice : Room := { frames := 5, cells := 0, slots := 0, locals := 146 }
def f_X9_choice (N : Nat) (v0 : Nat) (v1 : Int32) (v2 : Int32) (h : Mem) : Option (Int32 × Mem) :=
  (ck h v0 9).bind fun _ =>
  b2 (f_X9_isTown N v0 v1 h) fun t4 h3 =>
  if t4 = 0 then
    some ((-1 : Int32), h3)
  else
    b2 (f_X9_within N v2 (0 : Int32) (2 : Int32) h3) fun t8 h7 =>
    if t8 = 0 then
      some ((-1 : Int32), h7)
    else
      (gR h7 v0 9 0).bind fun t10 =>
      (ck h7 t10 1).bind fun _ =>
      b2 (f_X1_chosenLevel N t10 v1 v2 h7) fun t15 h14 =>
      some (t15, h14)
set_option maxRecDepth 100000 in
set_option maxHeartbeats 4000000 in
theorem w_X9_choice {p : Program} {l : Launch} {e : Env} {s : State} {m : MethodId} {args : Array Value} {below : List Frame} {meth : Method} {c : Code} {G : Gx} {r : Int32} {h' : Mem} (X : CX G p s m args c cX9_choice 3 RX9) (hr : meth.sig.returnType = (Option.some Jvm.ClassFile.FieldType.int)) (hk : meth.locks = false) (N : Nat) : ∀ (v0 : Nat) (v1 : Int32) (v2 : Int32) (h : Mem), f_X9_choice N v0 v1 v2 h = some (r, h') → ∀ (H : Heap) (locs : List Loc) (ls : Array Slot), MS G s h H locs 0 → lv_has ls 3 [(0, .ref (gB G + v0)), (1, .int v1), (2, .int v2)] → W p l e (rm_X9_choice) s m args below meth c H locs 0 0 (QI G below args s r h' 0 0) (F0 m 0 ls []) := by
  intro v0 v1 v2 h hf H locs ls M hl
  rw [f_X9_choice] at hf
  refine lv_aload_n X.1 X.2.1 dX9_choice_0 rfl (lv_at hl 0 rfl) ?_
  refine lv_iload_n X.1 X.2.1 dX9_choice_1 rfl (lv_at hl 1 rfl) ?_
  obtain ⟨⟨⟩, q1, hf⟩ := bnd hf
  obtain ⟨t4, h3, q2, hf⟩ := bnd2 hf
  refine x_callVi (As := [.int v1]) cf_X9_96 (c_X9_isTown l G N v0 v1 h _ _ q2) rfl ⟨rfl, rfl, Nat.le_of_ble_eq_true rfl, Nat.le_of_ble_eq_true rfl⟩ ⟨Nat.le_of_ble_eq_true rfl, Nat.le_of_ble_eq_true rfl⟩ X M (x_recv cls_X9 X M q1) rfl rfl hl.1 (Nat.le_of_ble_eq_true rfl) dX9_choice_2 (fun H locs M => ?_)
  refine lv_if_eq (tgt := 29) X.1 X.2.1 dX9_choice_5 (by decide) (fun c5 => ?_) (fun c5 => ?_)
  · have hf := ifp c5 hf
    refine lv_iconst (v := (-1 : Int32)) X.1 X.2.1 dX9_choice_29 (by decide) ?_
    obtain ⟨rfl, rfl⟩ := rt2 hf
    exact x_iret X hr hk M dX9_choice_30
  · have hf := ifn c5 hf
    refine lv_iload_n X.1 X.2.1 dX9_choice_8 rfl (lv_at hl 2 rfl) ?_
    refine lv_iconst (v := (0 : Int32)) X.1 X.2.1 dX9_choice_9 (by decide) ?_
    refine lv_iconst (v := (2 : Int32)) X.1 X.2.1 dX9_choice_10 (by decide) ?_
    obtain ⟨t8, h7, q6, hf⟩ := bnd2 hf
    refine x_callSi (As := [.int v2, .int (0 : Int32), .int (2 : Int32)]) cf_X9_84 (c_X9_within l G N v2 (0 : Int32) (2 : Int32) h3 _ _ q6) rfl ⟨rfl, rfl, Nat.le_of_ble_eq_true rfl, Nat.le_of_ble_eq_true rfl⟩ ⟨Nat.le_of_ble_eq_true rfl, Nat.le_of_ble_eq_true rfl⟩ X M rfl rfl hl.1 (Nat.le_of_ble_eq_true rfl) dX9_choice_11 (fun H locs M => ?_)
    refine lv_if_eq (tgt := 29) X.1 X.2.1 dX9_choice_14 (by decide) (fun c9 => ?_) (fun c9 => ?_)
    · have hf := ifp c9 hf
      refine lv_iconst (v := (-1 : Int32)) X.1 X.2.1 dX9_choice_29 (by decide) ?_
      obtain ⟨rfl, rfl⟩ := rt2 hf
      exact x_iret X hr hk M dX9_choice_30
    · have hf := ifn c9 hf
      refine lv_aload_n X.1 X.2.1 dX9_choice_17 rfl (lv_at hl 0 rfl) ?_
      obtain ⟨t10, q11, hf⟩ := bnd hf
      refine x_getr fl_X9_17 X M q11 dX9_choice_18 ?_
      refine lv_iload_n X.1 X.2.1 dX9_choice_21 rfl (lv_at hl 1 rfl) ?_
      refine lv_iload_n X.1 X.2.1 dX9_choice_22 rfl (lv_at hl 2 rfl) ?_
      obtain ⟨⟨⟩, q12, hf⟩ := bnd hf
      obtain ⟨t15, h14, q13, hf⟩ := bnd2 hf
      refine x_callVi (As := [.int v1, .int v2]) cf_X9_168 (c_X1_chosenLevel l G N t10 v1 v2 h7 _ _ q13) rfl ⟨rfl, rfl, Nat.le_of_ble_eq_true rfl, Nat.le_of_ble_eq_true rfl⟩ ⟨Nat.le_of_ble_eq_true rfl, Nat.le_of_ble_eq_true rfl⟩ X M (x_recv cls_X1 X M q12) rfl rfl hl.1 (Nat.le_of_ble_eq_true rfl) dX9_choice_23 (fun H locs M => ?_)
      refine lv_goto (tgt := 30) X.1 X.2.1 dX9_choice_26 (by decide) ?_
      obtain ⟨rfl, rfl⟩ := rt2 hf
      exact x_iret X hr hk M dX9_choice_30
theorem c_X9_choice (l : Launch) (G : Gx) (N : Nat) (v0 : Nat) (v1 : Int32) (v2 : Int32) (h : Mem) (r : Int32) (h' : Mem) (hf : f_X9_choice N v0 v1 v2 h = some (r, h')) : MetG l G yX9_choice (.code yX9_choice cX9_choice 3 (Option.some Jvm.ClassFile.FieldType.int)) rm_X9_choice [.ref (gB G + v0), .int v1, .int v2] h (QcI G r h') 0 0 :=
  x_met (by decide) rfl (Nat.le_of_ble_eq_true rfl) (fun p e s m args below meth c ls X M hr hk hin hl => w_X9_choice X hr hk N v0 v1 v2 h hf _ _ ls M hl)
abbrev rm_X9_choose : Room := { frames := 6, cells := 0, slots := 0, locals := 170 }
def f_X9_choose (N : Nat) (v0 : Nat) (v1 : Int32) (h : Mem) : Option (Int32 × Mem) :=
  (ck h v0 9).bind fun _ =>
  b2 (f_X9_isTown N v0 v1 h) fun t4 h3 =>
  if t4 = 0 then
    some ((-1 : Int32), h3)
  else
    (gR h3 v0 9 0).bind fun t6 =>
    (ck h3 t6 1).bind fun _ =>
    b2 (f_X1_vote N t6 v1 h3) fun t11 h10 =>
    some (t11, h10)
set_option maxRecDepth 100000 in
set_option maxHeartbeats 4000000 in
theorem w_X9_choose {p : Program} {l : Launch} {e : Env} {s : State} {m : MethodId} {args : Array Value} {below : List Frame} {meth : Method} {c : Code} {G : Gx} {r : Int32} {h' : Mem} (X : CX G p s m args c cX9_choose 2 RX9) (hr : meth.sig.returnType = (Option.some Jvm.ClassFile.FieldType.int)) (hk : meth.locks = false) (N : Nat) : ∀ (v0 : Nat) (v1 : Int32) (h : Mem), f_X9_choose N v0 v1 h = some (r, h') → ∀ (H : Heap) (locs : List Loc) (ls : Array Slot), MS G s h H locs 0 → lv_has ls 2 [(0, .ref (gB G + v0)), (1, .int v1)] → W p l e (rm_X9_choose) s m args below meth c H locs 0 0 (QI G below args s r h' 0 0) (F0 m 0 ls []) := by
  intro v0 v1 h hf H locs ls M hl
  rw [f_X9_choose] at hf
  refine lv_aload_n X.1 X.2.1 dX9_choose_0 rfl (lv_at hl 0 rfl) ?_
  refine lv_iload_n X.1 X.2.1 dX9_choose_1 rfl (lv_at hl 1 rfl) ?_
  obtain ⟨⟨⟩, q1, hf⟩ := bnd hf
  obtain ⟨t4, h3, q2, hf⟩ := bnd2 hf
  refine x_callVi (As := [.int v1]) cf_X9_96 (c_X9_isTown l G N v0 v1 h _ _ q2) rfl ⟨rfl, rfl, Nat.le_of_ble_eq_true rfl, Nat.le_of_ble_eq_true rfl⟩ ⟨Nat.le_of_ble_eq_true rfl, Nat.le_of_ble_eq_true rfl⟩ X M (x_recv cls_X9 X M q1) rfl rfl hl.1 (Nat.le_of_ble_eq_true rfl) dX9_choose_2 (fun H locs M => ?_)
  refine lv_if_eq (tgt := 19) X.1 X.2.1 dX9_choose_5 (by decide) (fun c5 => ?_) (fun c5 => ?_)
  · have hf := ifp c5 hf
    refine lv_iconst (v := (-1 : Int32)) X.1 X.2.1 dX9_choose_19 (by decide) ?_
    obtain ⟨rfl, rfl⟩ := rt2 hf
    exact x_iret X hr hk M dX9_choose_20
  · have hf := ifn c5 hf
    refine lv_aload_n X.1 X.2.1 dX9_choose_8 rfl (lv_at hl 0 rfl) ?_
    obtain ⟨t6, q7, hf⟩ := bnd hf
    refine x_getr fl_X9_17 X M q7 dX9_choose_9 ?_
    refine lv_iload_n X.1 X.2.1 dX9_choose_12 rfl (lv_at hl 1 rfl) ?_
    obtain ⟨⟨⟩, q8, hf⟩ := bnd hf
    obtain ⟨t11, h10, q9, hf⟩ := bnd2 hf
    refine x_callVi (As := [.int v1]) cf_X9_171 (c_X1_vote l G N t6 v1 h3 _ _ q9) rfl ⟨rfl, rfl, Nat.le_of_ble_eq_true rfl, Nat.le_of_ble_eq_true rfl⟩ ⟨Nat.le_of_ble_eq_true rfl, Nat.le_of_ble_eq_true rfl⟩ X M (x_recv cls_X1 X M q8) rfl rfl hl.1 (Nat.le_of_ble_eq_true rfl) dX9_choose_13 (fun H locs M => ?_)
    refine lv_goto (tgt := 20) X.1 X.2.1 dX9_choose_16 (by decide) ?_
    obtain ⟨rfl, rfl⟩ := rt2 hf
    exact x_iret X hr hk M dX9_choose_20
theorem c_X9_choose (l : Launch) (G : Gx) (N : Nat) (v0 : Nat) (v1 : Int32) (h : Mem) (r : Int32) (h' : Mem) (hf : f_X9_choose N v0 v1 h = some (r, h')) : MetG l G yX9_choose (.code yX9_choose cX9_choose 2 (Option.some Jvm.ClassFile.FieldType.int)) rm_X9_choose [.ref (gB G + v0), .int v1] h (QcI G r h') 0 0 :=
  x_met (by decide) rfl (Nat.le_of_ble_eq_true rfl) (fun p e s m args below meth c ls X M hr hk hin hl => w_X9_choose X hr hk N v0 v1 h hf _ _ ls M hl)
abbrev rm_X9_isRest : Room := { frames := 2, cells := 0, slots := 0, locals := 62 }
def f_X9_isRest (N : Nat) (v0 : Int32) (h : Mem) : Option (Int32 × Mem) :=
  b2 (f_X9_within N v0 (1 : Int32) (5 : Int32) h) fun t3 h2 =>
  rz t3 h2
set_option maxRecDepth 100000 in
set_option maxHeartbeats 4000000 in
theorem w_X9_isRest {p : Program} {l : Launch} {e : Env} {s : State} {m : MethodId} {args : Array Value} {below : List Frame} {meth : Method} {c : Code} {G : Gx} {r : Int32} {h' : Mem} (X : CX G p s m args c cX9_isRest 1 RX9) (hr : meth.sig.returnType = (Option.some Jvm.ClassFile.FieldType.boolean)) (hk : meth.locks = false) (N : Nat) : ∀ (v0 : Int32) (h : Mem), f_X9_isRest N v0 h = some (r, h') → ∀ (H : Heap) (locs : List Loc) (ls : Array Slot), MS G s h H locs 0 → lv_has ls 1 [(0, .int v0)] → W p l e (rm_X9_isRest) s m args below meth c H locs 0 0 (QI G below args s r h' 0 0) (F0 m 0 ls []) := by
  intro v0 h hf H locs ls M hl
  rw [f_X9_isRest] at hf
  refine lv_iload_n X.1 X.2.1 dX9_isRest_0 rfl (lv_at hl 0 rfl) ?_
  refine lv_iconst (v := (1 : Int32)) X.1 X.2.1 dX9_isRest_1 (by decide) ?_
  refine lv_iconst (v := (5 : Int32)) X.1 X.2.1 dX9_isRest_2 (by decide) ?_
  obtain ⟨t3, h2, q1, hf⟩ := bnd2 hf
  refine x_callSi (As := [.int v0, .int (1 : Int32), .int (5 : Int32)]) cf_X9_84 (c_X9_within l G N v0 (1 : Int32) (5 : Int32) h _ _ q1) rfl ⟨rfl, rfl, Nat.le_of_ble_eq_true rfl, Nat.le_of_ble_eq_true rfl⟩ ⟨Nat.le_of_ble_eq_true rfl, Nat.le_of_ble_eq_true rfl⟩ X M rfl rfl hl.1 (Nat.le_of_ble_eq_true rfl) dX9_isRest_3 (fun H locs M => ?_)
  obtain ⟨z, rfl, rfl⟩ := rz_spec hf
  exact x_zret X hr hk (nz z) M dX9_isRest_6
theorem c_X9_isRest (l : Launch) (G : Gx) (N : Nat) (v0 : Int32) (h : Mem) (r : Int32) (h' : Mem) (hf : f_X9_isRest N v0 h = some (r, h')) : MetG l G yX9_isRest (.code yX9_isRest cX9_isRest 1 (Option.some Jvm.ClassFile.FieldType.boolean)) rm_X9_isRest [.int v0] h (QcI G r h') 0 0 :=
  x_met (by decide) rfl (Nat.le_of_ble_eq_true rfl) (fun p e s m args below meth c ls X M hr hk hin hl => w_X9_isRest X hr hk N v0 h hf _ _ ls M hl)
abbrev rm_X9_rest : Room := { frames := 8, cells := 0, slots := 0, locals := 219 }
def f_X9_rest (N : Nat) (v0 : Nat) (v1 : Int32) (h : Mem) : Option (Int32 × Mem) :=
  b2 (f_X9_isRest N v1 h) fun t3 h2 =>
  if t3 = 0 then
    some ((-1 : Int32), h2)
  else
    (gR h2 v0 9 5).bind fun t5 =>
    (gR h2 v0 9 0).bind fun t7 =>
    (ck h2 t5 6).bind fun _ =>
    b2 (f_X6_breach N t5 t7 v1 h2) fun t12 h11 =>
    if t12 = (-5 : Int32) then
      some ((1 : Int32), h11)
    else
      some ((0 : Int32), h11)
set_option maxRecDepth 100000 in
set_option maxHeartbeats 4000000 in
theorem w_X9_rest {p : Program} {l : Launch} {e : Env} {s : State} {m : MethodId} {args : Array Value} {below : List Frame} {meth : Method} {c : Code} {G : Gx} {r : Int32} {h' : Mem} (X : CX G p s m args c cX9_rest 2 RX9) (hr : meth.sig.returnType = (Option.some Jvm.ClassFile.FieldType.int)) (hk : meth.locks = false) (N : Nat) : ∀ (v0 : Nat) (v1 : Int32) (h : Mem), f_X9_rest N v0 v1 h = some (r, h') → ∀ (H : Heap) (locs : List Loc) (ls : Array Slot), MS G s h H locs 0 → lv_has ls 2 [(0, .ref (gB G + v0)), (1, .int v1)] → W p l e (rm_X9_rest) s m args below meth c H locs 0 0 (QI G below args s r h' 0 0) (F0 m 0 ls []) := by
  intro v0 v1 h hf H locs ls M hl
  rw [f_X9_rest] at hf
  refine lv_iload_n X.1 X.2.1 dX9_rest_0 rfl (lv_at hl 1 rfl) ?_
  obtain ⟨t3, h2, q1, hf⟩ := bnd2 hf
  refine x_callSi (As := [.int v1]) cf_X9_174 (c_X9_isRest l G N v1 h _ _ q1) rfl ⟨rfl, rfl, Nat.le_of_ble_eq_true rfl, Nat.le_of_ble_eq_true rfl⟩ ⟨Nat.le_of_ble_eq_true rfl, Nat.le_of_ble_eq_true rfl⟩ X M rfl rfl hl.1 (Nat.le_of_ble_eq_true rfl) dX9_rest_1 (fun H locs M => ?_)
  refine lv_if_ne (tgt := 9) X.1 X.2.1 dX9_rest_4 (by decide) (fun c4 => ?_) (fun c4 => ?_)
  · have hf := ifn c4 hf
    refine lv_aload_n X.1 X.2.1 dX9_rest_9 rfl (lv_at hl 0 rfl) ?_
    obtain ⟨t5, q6, hf⟩ := bnd hf
    refine x_getr fl_X9_46 X M q6 dX9_rest_10 ?_
    refine lv_aload_n X.1 X.2.1 dX9_rest_13 rfl (lv_at hl 0 rfl) ?_
    obtain ⟨t7, q8, hf⟩ := bnd hf
    refine x_getr fl_X9_17 X M q8 dX9_rest_14 ?_
    refine lv_iload_n X.1 X.2.1 dX9_rest_17 rfl (lv_at hl 1 rfl) ?_
    obtain ⟨⟨⟩, q9, hf⟩ := bnd hf
    obtain ⟨t12, h11, q10, hf⟩ := bnd2 hf
    refine x_callVi (As := [.ref (gB G + t7), .int v1]) cf_X9_177 (c_X6_breach l G N t5 t7 v1 h2 _ _ q10) rfl ⟨rfl, rfl, Nat.le_of_ble_eq_true rfl, Nat.le_of_ble_eq_true rfl⟩ ⟨Nat.le_of_ble_eq_true rfl, Nat.le_of_ble_eq_true rfl⟩ X M (x_recv cls_X6 X M q9) rfl rfl hl.1 (Nat.le_of_ble_eq_true rfl) dX9_rest_18 (fun H locs M => ?_)
    refine lv_bipush (v := (-5 : Int32)) X.1 X.2.1 dX9_rest_21 (by decide) ?_
    refine lv_icmp_ne (tgt := 30) X.1 X.2.1 dX9_rest_23 (by decide) (fun c13 => ?_) (fun c13 => ?_)
    · have hf := ifn c13 hf
      refine lv_iconst (v := (0 : Int32)) X.1 X.2.1 dX9_rest_30 (by decide) ?_
      obtain ⟨rfl, rfl⟩ := rt2 hf
      exact x_iret X hr hk M dX9_rest_31
    · have hf := ifp c13 hf
      refine lv_iconst (v := (1 : Int32)) X.1 X.2.1 dX9_rest_26 (by decide) ?_
      refine lv_goto (tgt := 31) X.1 X.2.1 dX9_rest_27 (by decide) ?_
      obtain ⟨rfl, rfl⟩ := rt2 hf
      exact x_iret X hr hk M dX9_rest_31
  · have hf := ifp c4 hf
    refine lv_iconst (v := (-1 : Int32)) X.1 X.2.1 dX9_rest_7 (by decide) ?_
    obtain ⟨rfl, rfl⟩ := rt2 hf
    exact x_iret X hr hk M dX9_rest_8
theorem c_X9_rest (l : Launch) (G : Gx) (N : Nat) (v0 : Nat) (v1 : Int32) (h : Mem) (r : Int32) (h' : Mem) (hf : f_X9_rest N v0 v1 h = some (r, h')) : MetG l G yX9_rest (.code yX9_rest cX9_rest 2 (Option.some Jvm.ClassFile.FieldType.int)) rm_X9_rest [.ref (gB G + v0), .int v1] h (QcI G r h') 0 0 :=
  x_met (by decide) rfl (Nat.le_of_ble_eq_true rfl) (fun p e s m args below meth c ls X M hr hk hin hl => w_X9_rest X hr hk N v0 v1 h hf _ _ ls M hl)
abbrev rm_X9_broken : Room := { frames := 8, cells := 0, slots := 0, locals := 219 }
def f_X9_broken (N : Nat) (v0 : Nat) (v1 : Int32) (h : Mem) : Option (Int32 × Mem) :=
  b2 (f_X9_isRest N v1 h) fun t3 h2 =>
  if t3 = 0 then
    some ((-1 : Int32), h2)
  else
    (gR h2 v0 9 5).bind fun t5 =>
    (gR h2 v0 9 0).bind fun t7 =>
    (ck h2 t5 6).bind fun _ =>
    b2 (f_X6_breach N t5 t7 v1 h2) fun t12 h11 =>
    some (t12, h11)
set_option maxRecDepth 100000 in
set_option maxHeartbeats 4000000 in
theorem w_X9_broken {p : Program} {l : Launch} {e : Env} {s : State} {m : MethodId} {args : Array Value} {below : List Frame} {meth : Method} {c : Code} {G : Gx} {r : Int32} {h' : Mem} (X : CX G p s m args c cX9_broken 2 RX9) (hr : meth.sig.returnType = (Option.some Jvm.ClassFile.FieldType.int)) (hk : meth.locks = false) (N : Nat) : ∀ (v0 : Nat) (v1 : Int32) (h : Mem), f_X9_broken N v0 v1 h = some (r, h') → ∀ (H : Heap) (locs : List Loc) (ls : Array Slot), MS G s h H locs 0 → lv_has ls 2 [(0, .ref (gB G + v0)), (1, .int v1)] → W p l e (rm_X9_broken) s m args below meth c H locs 0 0 (QI G below args s r h' 0 0) (F0 m 0 ls []) := by
  intro v0 v1 h hf H locs ls M hl
  rw [f_X9_broken] at hf
  refine lv_iload_n X.1 X.2.1 dX9_broken_0 rfl (lv_at hl 1 rfl) ?_
  obtain ⟨t3, h2, q1, hf⟩ := bnd2 hf
  refine x_callSi (As := [.int v1]) cf_X9_174 (c_X9_isRest l G N v1 h _ _ q1) rfl ⟨rfl, rfl, Nat.le_of_ble_eq_true rfl, Nat.le_of_ble_eq_true rfl⟩ ⟨Nat.le_of_ble_eq_true rfl, Nat.le_of_ble_eq_true rfl⟩ X M rfl rfl hl.1 (Nat.le_of_ble_eq_true rfl) dX9_broken_1 (fun H locs M => ?_)
  refine lv_if_eq (tgt := 22) X.1 X.2.1 dX9_broken_4 (by decide) (fun c4 => ?_) (fun c4 => ?_)
  · have hf := ifp c4 hf
    refine lv_iconst (v := (-1 : Int32)) X.1 X.2.1 dX9_broken_22 (by decide) ?_
    obtain ⟨rfl, rfl⟩ := rt2 hf
    exact x_iret X hr hk M dX9_broken_23
  · have hf := ifn c4 hf
    refine lv_aload_n X.1 X.2.1 dX9_broken_7 rfl (lv_at hl 0 rfl) ?_
    obtain ⟨t5, q6, hf⟩ := bnd hf
    refine x_getr fl_X9_46 X M q6 dX9_broken_8 ?_
    refine lv_aload_n X.1 X.2.1 dX9_broken_11 rfl (lv_at hl 0 rfl) ?_
    obtain ⟨t7, q8, hf⟩ := bnd hf
    refine x_getr fl_X9_17 X M q8 dX9_broken_12 ?_
    refine lv_iload_n X.1 X.2.1 dX9_broken_15 rfl (lv_at hl 1 rfl) ?_
    obtain ⟨⟨⟩, q9, hf⟩ := bnd hf
    obtain ⟨t12, h11, q10, hf⟩ := bnd2 hf
    refine x_callVi (As := [.ref (gB G + t7), .int v1]) cf_X9_177 (c_X6_breach l G N t5 t7 v1 h2 _ _ q10) rfl ⟨rfl, rfl, Nat.le_of_ble_eq_true rfl, Nat.le_of_ble_eq_true rfl⟩ ⟨Nat.le_of_ble_eq_true rfl, Nat.le_of_ble_eq_true rfl⟩ X M (x_recv cls_X6 X M q9) rfl rfl hl.1 (Nat.le_of_ble_eq_true rfl) dX9_broken_16 (fun H locs M => ?_)
    refine lv_goto (tgt := 23) X.1 X.2.1 dX9_broken_19 (by decide) ?_
    obtain ⟨rfl, rfl⟩ := rt2 hf
    exact x_iret X hr hk M dX9_broken_23
theorem c_X9_broken (l : Launch) (G : Gx) (N : Nat) (v0 : Nat) (v1 : Int32) (h : Mem) (r : Int32) (h' : Mem) (hf : f_X9_broken N v0 v1 h = some (r, h')) : MetG l G yX9_broken (.code yX9_broken cX9_broken 2 (Option.some Jvm.ClassFile.FieldType.int)) rm_X9_broken [.ref (gB G + v0), .int v1] h (QcI G r h') 0 0 :=
  x_met (by decide) rfl (Nat.le_of_ble_eq_true rfl) (fun p e s m args below meth c ls X M hr hk hin hl => w_X9_broken X hr hk N v0 v1 h hf _ _ ls M hl)
abbrev rm_X9_go : Room := { frames := 4, cells := 0, slots := 0, locals := 106 }
def f_X9_go (N : Nat) (v0 : Nat) (v1 : Int32) (v2 : Int32) (h : Mem) : Option (Int32 × Mem) :=
  (ck h v0 9).bind fun _ =>
  b2 (f_X9_isFamily N v0 v1 h) fun t4 h3 =>
  if t4 = 0 then
    some ((-1 : Int32), h3)
  else
    (ck h3 v0 9).bind fun _ =>
    b2 (f_X9_isTown N v0 v2 h3) fun t9 h8 =>
    if t9 = 0 then
      some ((-1 : Int32), h8)
    else
      (gR h8 v0 9 0).bind fun t11 =>
      (ck h8 t11 1).bind fun _ =>
      b2 (f_X1_canGo N t11 v1 v2 h8) fun t16 h15 =>
      if t16 = 0 then
        some ((-3 : Int32), h15)
      else
        (gR h15 v0 9 0).bind fun t18 =>
        (gR h15 t18 1 10).bind fun t20 =>
        b2 (f_X9_replace N t20 v1 v2 h15) fun t24 h23 =>
        some (t24, h23)
set_option maxRecDepth 100000 in
set_option maxHeartbeats 4000000 in
theorem w_X9_go {p : Program} {l : Launch} {e : Env} {s : State} {m : MethodId} {args : Array Value} {below : List Frame} {meth : Method} {c : Code} {G : Gx} {r : Int32} {h' : Mem} (X : CX G p s m args c cX9_go 3 RX9) (hr : meth.sig.returnType = (Option.some Jvm.ClassFile.FieldType.int)) (hk : meth.locks = false) (N : Nat) : ∀ (v0 : Nat) (v1 : Int32) (v2 : Int32) (h : Mem), f_X9_go N v0 v1 v2 h = some (r, h') → ∀ (H : Heap) (locs : List Loc) (ls : Array Slot), MS G s h H locs 0 → lv_has ls 3 [(0, .ref (gB G + v0)), (1, .int v1), (2, .int v2)] → W p l e (rm_X9_go) s m args below meth c H locs 0 0 (QI G below args s r h' 0 0) (F0 m 0 ls []) := by
  intro v0 v1 v2 h hf H locs ls M hl
  rw [f_X9_go] at hf
  refine lv_aload_n X.1 X.2.1 dX9_go_0 rfl (lv_at hl 0 rfl) ?_
  refine lv_iload_n X.1 X.2.1 dX9_go_1 rfl (lv_at hl 1 rfl) ?_
  obtain ⟨⟨⟩, q1, hf⟩ := bnd hf
  obtain ⟨t4, h3, q2, hf⟩ := bnd2 hf
  refine x_callVi (As := [.int v1]) cf_X9_123 (c_X9_isFamily l G N v0 v1 h _ _ q2) rfl ⟨rfl, rfl, Nat.le_of_ble_eq_true rfl, Nat.le_of_ble_eq_true rfl⟩ ⟨Nat.le_of_ble_eq_true rfl, Nat.le_of_ble_eq_true rfl⟩ X M (x_recv cls_X9 X M q1) rfl rfl hl.1 (Nat.le_of_ble_eq_true rfl) dX9_go_2 (fun H locs M => ?_)
  refine lv_if_eq (tgt := 16) X.1 X.2.1 dX9_go_5 (by decide) (fun c5 => ?_) (fun c5 => ?_)
  · have hf := ifp c5 hf
    refine lv_iconst (v := (-1 : Int32)) X.1 X.2.1 dX9_go_16 (by decide) ?_
    obtain ⟨rfl, rfl⟩ := rt2 hf
    exact x_iret X hr hk M dX9_go_17
  · have hf := ifn c5 hf
    refine lv_aload_n X.1 X.2.1 dX9_go_8 rfl (lv_at hl 0 rfl) ?_
    refine lv_iload_n X.1 X.2.1 dX9_go_9 rfl (lv_at hl 2 rfl) ?_
    obtain ⟨⟨⟩, q6, hf⟩ := bnd hf
    obtain ⟨t9, h8, q7, hf⟩ := bnd2 hf
    refine x_callVi (As := [.int v2]) cf_X9_96 (c_X9_isTown l G N v0 v2 h3 _ _ q7) rfl ⟨rfl, rfl, Nat.le_of_ble_eq_true rfl, Nat.le_of_ble_eq_true rfl⟩ ⟨Nat.le_of_ble_eq_true rfl, Nat.le_of_ble_eq_true rfl⟩ X M (x_recv cls_X9 X M q6) rfl rfl hl.1 (Nat.le_of_ble_eq_true rfl) dX9_go_10 (fun H locs M => ?_)
    refine lv_if_ne (tgt := 18) X.1 X.2.1 dX9_go_13 (by decide) (fun c10 => ?_) (fun c10 => ?_)
    · have hf := ifn c10 hf
      refine lv_aload_n X.1 X.2.1 dX9_go_18 rfl (lv_at hl 0 rfl) ?_
      obtain ⟨t11, q12, hf⟩ := bnd hf
      refine x_getr fl_X9_17 X M q12 dX9_go_19 ?_
      refine lv_iload_n X.1 X.2.1 dX9_go_22 rfl (lv_at hl 1 rfl) ?_
      refine lv_iload_n X.1 X.2.1 dX9_go_23 rfl (lv_at hl 2 rfl) ?_
      obtain ⟨⟨⟩, q13, hf⟩ := bnd hf
      obtain ⟨t16, h15, q14, hf⟩ := bnd2 hf
      refine x_callVi (As := [.int v1, .int v2]) cf_X9_181 (c_X1_canGo l G N t11 v1 v2 h8 _ _ q14) rfl ⟨rfl, rfl, Nat.le_of_ble_eq_true rfl, Nat.le_of_ble_eq_true rfl⟩ ⟨Nat.le_of_ble_eq_true rfl, Nat.le_of_ble_eq_true rfl⟩ X M (x_recv cls_X1 X M q13) rfl rfl hl.1 (Nat.le_of_ble_eq_true rfl) dX9_go_24 (fun H locs M => ?_)
      refine lv_if_eq (tgt := 45) X.1 X.2.1 dX9_go_27 (by decide) (fun c17 => ?_) (fun c17 => ?_)
      · have hf := ifp c17 hf
        refine lv_bipush (v := (-3 : Int32)) X.1 X.2.1 dX9_go_45 (by decide) ?_
        obtain ⟨rfl, rfl⟩ := rt2 hf
        exact x_iret X hr hk M dX9_go_47
      · have hf := ifn c17 hf
        refine lv_aload_n X.1 X.2.1 dX9_go_30 rfl (lv_at hl 0 rfl) ?_
        obtain ⟨t18, q19, hf⟩ := bnd hf
        refine x_getr fl_X9_17 X M q19 dX9_go_31 ?_
        obtain ⟨t20, q21, hf⟩ := bnd hf
        refine x_getr fl_X9_128 X M q21 dX9_go_34 ?_
        refine lv_iload_n X.1 X.2.1 dX9_go_37 rfl (lv_at hl 1 rfl) ?_
        refine lv_iload_n X.1 X.2.1 dX9_go_38 rfl (lv_at hl 2 rfl) ?_
        obtain ⟨t24, h23, q22, hf⟩ := bnd2 hf
        refine x_callSi (As := [.ref (gB G + t20), .int v1, .int v2]) cf_X9_110 (c_X9_replace l G N t20 v1 v2 h15 _ _ q22) rfl ⟨rfl, rfl, Nat.le_of_ble_eq_true rfl, Nat.le_of_ble_eq_true rfl⟩ ⟨Nat.le_of_ble_eq_true rfl, Nat.le_of_ble_eq_true rfl⟩ X M rfl rfl hl.1 (Nat.le_of_ble_eq_true rfl) dX9_go_39 (fun H locs M => ?_)
        refine lv_goto (tgt := 47) X.1 X.2.1 dX9_go_42 (by decide) ?_
        obtain ⟨rfl, rfl⟩ := rt2 hf
        exact x_iret X hr hk M dX9_go_47
    · have hf := ifp c10 hf
      refine lv_iconst (v := (-1 : Int32)) X.1 X.2.1 dX9_go_16 (by decide) ?_
      obtain ⟨rfl, rfl⟩ := rt2 hf
      exact x_iret X hr hk M dX9_go_17
theorem c_X9_go (l : Launch) (G : Gx) (N : Nat) (v0 : Nat) (v1 : Int32) (v2 : Int32) (h : Mem) (r : Int32) (h' : Mem) (hf : f_X9_go N v0 v1 v2 h = some (r, h')) : MetG l G yX9_go (.code yX9_go cX9_go 3 (Option.some Jvm.ClassFile.FieldType.int)) rm_X9_go [.ref (gB G + v0), .int v1, .int v2] h (QcI G r h') 0 0 :=
  x_met (by decide) rfl (Nat.le_of_ble_eq_true rfl) (fun p e s m args below meth c ls X M hr hk hin hl => w_X9_go X hr hk N v0 v1 v2 h hf _ _ ls M hl)
abbrev rm_X9_step : Room := { frames := 7, cells := 0, slots := 0, locals := 195 }
def f_X9_step (N : Nat) (v0 : Nat) (v1 : Int32) (h : Mem) : Option (Int32 × Mem) :=
  (gR h v0 9 6).bind fun t1 =>
  (gR h v0 9 0).bind fun t3 =>
  (ck h t1 8).bind fun _ =>
  b2 (f_X8_stride N t1 t3 v1 h) fun t8 h7 =>
  some (t8, h7)
set_option maxRecDepth 100000 in
set_option maxHeartbeats 4000000 in
theorem w_X9_step {p : Program} {l : Launch} {e : Env} {s : State} {m : MethodId} {args : Array Value} {below : List Frame} {meth : Method} {c : Code} {G : Gx} {r : Int32} {h' : Mem} (X : CX G p s m args c cX9_step 2 RX9) (hr : meth.sig.returnType = (Option.some Jvm.ClassFile.FieldType.int)) (hk : meth.locks = false) (N : Nat) : ∀ (v0 : Nat) (v1 : Int32) (h : Mem), f_X9_step N v0 v1 h = some (r, h') → ∀ (H : Heap) (locs : List Loc) (ls : Array Slot), MS G s h H locs 0 → lv_has ls 2 [(0, .ref (gB G + v0)), (1, .int v1)] → W p l e (rm_X9_step) s m args below meth c H locs 0 0 (QI G below args s r h' 0 0) (F0 m 0 ls []) := by
  intro v0 v1 h hf H locs ls M hl
  rw [f_X9_step] at hf
  refine lv_aload_n X.1 X.2.1 dX9_step_0 rfl (lv_at hl 0 rfl) ?_
  obtain ⟨t1, q2, hf⟩ := bnd hf
  refine x_getr fl_X9_53 X M q2 dX9_step_1 ?_
  refine lv_aload_n X.1 X.2.1 dX9_step_4 rfl (lv_at hl 0 rfl) ?_
  obtain ⟨t3, q4, hf⟩ := bnd hf
  refine x_getr fl_X9_17 X M q4 dX9_step_5 ?_
  refine lv_iload_n X.1 X.2.1 dX9_step_8 rfl (lv_at hl 1 rfl) ?_
  obtain ⟨⟨⟩, q5, hf⟩ := bnd hf
  obtain ⟨t8, h7, q6, hf⟩ := bnd2 hf
  refine x_callVi (As := [.ref (gB G + t3), .int v1]) cf_X9_185 (c_X8_stride l G N t1 t3 v1 h _ _ q6) rfl ⟨rfl, rfl, Nat.le_of_ble_eq_true rfl, Nat.le_of_ble_eq_true rfl⟩ ⟨Nat.le_of_ble_eq_true rfl, Nat.le_of_ble_eq_true rfl⟩ X M (x_recv cls_X8 X M q5) rfl rfl hl.1 (Nat.le_of_ble_eq_true rfl) dX9_step_9 (fun H locs M => ?_)
  obtain ⟨rfl, rfl⟩ := rt2 hf
  exact x_iret X hr hk M dX9_step_12
theorem c_X9_step (l : Launch) (G : Gx) (N : Nat) (v0 : Nat) (v1 : Int32) (h : Mem) (r : Int32) (h' : Mem) (hf : f_X9_step N v0 v1 h = some (r, h')) : MetG l G yX9_step (.code yX9_step cX9_step 2 (Option.some Jvm.ClassFile.FieldType.int)) rm_X9_step [.ref (gB G + v0), .int v1] h (QcI G r h') 0 0 :=
  x_met (by decide) rfl (Nat.le_of_ble_eq_true rfl) (fun p e s m args below meth c ls X M hr hk hin hl => w_X9_step X hr hk N v0 v1 h hf _ _ ls M hl)
abbrev rm_X9_end : Room := { frames := 8, cells := 0, slots := 0, locals := 219 }
def f_X9_end (N : Nat) (v0 : Nat) (v1 : Int32) (h : Mem) : Option (Int32 × Mem) :=
  (gR h v0 9 6).bind fun t1 =>
  (gR h v0 9 0).bind fun t3 =>
  (ck h t1 8).bind fun _ =>
  b2 (f_X8_strideOn N t1 t3 v1 h) fun t8 h7 =>
  some (t8, h7)
set_option maxRecDepth 100000 in
set_option maxHeartbeats 4000000 in
theorem w_X9_end {p : Program} {l : Launch} {e : Env} {s : State} {m : MethodId} {args : Array Value} {below : List Frame} {meth : Method} {c : Code} {G : Gx} {r : Int32} {h' : Mem} (X : CX G p s m args c cX9_end 2 RX9) (hr : meth.sig.returnType = (Option.some Jvm.ClassFile.FieldType.int)) (hk : meth.locks = false) (N : Nat) : ∀ (v0 : Nat) (v1 : Int32) (h : Mem), f_X9_end N v0 v1 h = some (r, h') → ∀ (H : Heap) (locs : List Loc) (ls : Array Slot), MS G s h H locs 0 → lv_has ls 2 [(0, .ref (gB G + v0)), (1, .int v1)] → W p l e (rm_X9_end) s m args below meth c H locs 0 0 (QI G below args s r h' 0 0) (F0 m 0 ls []) := by
  intro v0 v1 h hf H locs ls M hl
  rw [f_X9_end] at hf
  refine lv_aload_n X.1 X.2.1 dX9_end_0 rfl (lv_at hl 0 rfl) ?_
  obtain ⟨t1, q2, hf⟩ := bnd hf
  refine x_getr fl_X9_53 X M q2 dX9_end_1 ?_
  refine lv_aload_n X.1 X.2.1 dX9_end_4 rfl (lv_at hl 0 rfl) ?_
  obtain ⟨t3, q4, hf⟩ := bnd hf
  refine x_getr fl_X9_17 X M q4 dX9_end_5 ?_
  refine lv_iload_n X.1 X.2.1 dX9_end_8 rfl (lv_at hl 1 rfl) ?_
  obtain ⟨⟨⟩, q5, hf⟩ := bnd hf
  obtain ⟨t8, h7, q6, hf⟩ := bnd2 hf
  refine x_callVi (As := [.ref (gB G + t3), .int v1]) cf_X9_189 (c_X8_strideOn l G N t1 t3 v1 h _ _ q6) rfl ⟨rfl, rfl, Nat.le_of_ble_eq_true rfl, Nat.le_of_ble_eq_true rfl⟩ ⟨Nat.le_of_ble_eq_true rfl, Nat.le_of_ble_eq_true rfl⟩ X M (x_recv cls_X8 X M q5) rfl rfl hl.1 (Nat.le_of_ble_eq_true rfl) dX9_end_9 (fun H locs M => ?_)
  obtain ⟨rfl, rfl⟩ := rt2 hf
  exact x_iret X hr hk M dX9_end_12
theorem c_X9_end (l : Launch) (G : Gx) (N : Nat) (v0 : Nat) (v1 : Int32) (h : Mem) (r : Int32) (h' : Mem) (hf : f_X9_end N v0 v1 h = some (r, h')) : MetG l G yX9_end (.code yX9_end cX9_end 2 (Option.some Jvm.ClassFile.FieldType.int)) rm_X9_end [.ref (gB G + v0), .int v1] h (QcI G r h') 0 0 :=
  x_met (by decide) rfl (Nat.le_of_ble_eq_true rfl) (fun p e s m args below meth c ls X M hr hk hin hl => w_X9_end X hr hk N v0 v1 h hf _ _ ls M hl)
abbrev rm_X9_isTape : Room := { frames := 2, cells := 0, slots := 0, locals := 62 }
def f_X9_isTape (N : Nat) (v0 : Int32) (h : Mem) : Option (Int32 × Mem) :=
  b2 (f_X9_within N v0 (0 : Int32) (5 : Int32) h) fun t3 h2 =>
  rz t3 h2
set_option maxRecDepth 100000 in
set_option maxHeartbeats 4000000 in
theorem w_X9_isTape {p : Program} {l : Launch} {e : Env} {s : State} {m : MethodId} {args : Array Value} {below : List Frame} {meth : Method} {c : Code} {G : Gx} {r : Int32} {h' : Mem} (X : CX G p s m args c cX9_isTape 1 RX9) (hr : meth.sig.returnType = (Option.some Jvm.ClassFile.FieldType.boolean)) (hk : meth.locks = false) (N : Nat) : ∀ (v0 : Int32) (h : Mem), f_X9_isTape N v0 h = some (r, h') → ∀ (H : Heap) (locs : List Loc) (ls : Array Slot), MS G s h H locs 0 → lv_has ls 1 [(0, .int v0)] → W p l e (rm_X9_isTape) s m args below meth c H locs 0 0 (QI G below args s r h' 0 0) (F0 m 0 ls []) := by
  intro v0 h hf H locs ls M hl
  rw [f_X9_isTape] at hf
  refine lv_iload_n X.1 X.2.1 dX9_isTape_0 rfl (lv_at hl 0 rfl) ?_
  refine lv_iconst (v := (0 : Int32)) X.1 X.2.1 dX9_isTape_1 (by decide) ?_
  refine lv_iconst (v := (5 : Int32)) X.1 X.2.1 dX9_isTape_2 (by decide) ?_
  obtain ⟨t3, h2, q1, hf⟩ := bnd2 hf
  refine x_callSi (As := [.int v0, .int (0 : Int32), .int (5 : Int32)]) cf_X9_84 (c_X9_within l G N v0 (0 : Int32) (5 : Int32) h _ _ q1) rfl ⟨rfl, rfl, Nat.le_of_ble_eq_true rfl, Nat.le_of_ble_eq_true rfl⟩ ⟨Nat.le_of_ble_eq_true rfl, Nat.le_of_ble_eq_true rfl⟩ X M rfl rfl hl.1 (Nat.le_of_ble_eq_true rfl) dX9_isTape_3 (fun H locs M => ?_)
  obtain ⟨z, rfl, rfl⟩ := rz_spec hf
  exact x_zret X hr hk (nz z) M dX9_isTape_6
theorem c_X9_isTape (l : Launch) (G : Gx) (N : Nat) (v0 : Int32) (h : Mem) (r : Int32) (h' : Mem) (hf : f_X9_isTape N v0 h = some (r, h')) : MetG l G yX9_isTape (.code yX9_isTape cX9_isTape 1 (Option.some Jvm.ClassFile.FieldType.boolean)) rm_X9_isTape [.int v0] h (QcI G r h') 0 0 :=
  x_met (by decide) rfl (Nat.le_of_ble_eq_true rfl) (fun p e s m args below meth c ls X M hr hk hin hl => w_X9_isTape X hr hk N v0 h hf _ _ ls M hl)
abbrev rm_X9_settleAsTold : Room := { frames := 3, cells := 0, slots := 0, locals := 84 }
def f_X9_settleAsTold_2 (N : Nat) (n : Nat) (v0 : Nat) (v1 : Nat) (v2 : Int32) (v3 : Int32) (h : Mem) : Option (Int32 × Mem) := match n with
  | 0 => none
  | n + 1 =>
    (gR h v0 9 1).bind fun t1 =>
    (gI h t1 1 2).bind fun t3 =>
    if t3 ≤ v3 then
      (gR h v0 9 1).bind fun t6 =>
      (ck h t6 1).bind fun _ =>
      b2 (f_X1_fits N t6 h) fun t11 h10 =>
      rz t11 h10
    else
      (gR h v1 7 0).bind fun t12 =>
      (lJ h t12 (v2 + v3)).bind fun t14 =>
      if (lg_cmp t14 (0 : Int64)) < 0 then
        some ((0 : Int32), h)
      else
        (gR h v0 9 1).bind fun t17 =>
        (gI h t17 1 1).bind fun t19 =>
        if (lg_cmp t14 ((Int32.toInt64 t19))) < 0 then
          (gR h v0 9 1).bind fun t22 =>
          (gR h t22 1 10).bind fun t24 =>
          (stI 100 h t24 v3 ((Int64.toInt32 t14))).bind fun h26 =>
          f_X9_settleAsTold_2 N n v0 v1 v2 (v3 + 1) h26
        else
          some ((0 : Int32), h)
set_option maxRecDepth 100000 in
set_option maxHeartbeats 4000000 in
theorem w_X9_settleAsTold_2 {p : Program} {l : Launch} {e : Env} {s : State} {m : MethodId} {args : Array Value} {below : List Frame} {meth : Method} {c : Code} {G : Gx} {r : Int32} {h' : Mem} (X : CX G p s m args c cX9_settleAsTold 6 RX9) (hr : meth.sig.returnType = (Option.some Jvm.ClassFile.FieldType.boolean)) (hk : meth.locks = false) (N : Nat) : ∀ (n : Nat) (v0 : Nat) (v1 : Nat) (v2 : Int32) (v3 : Int32) (h : Mem), f_X9_settleAsTold_2 N n v0 v1 v2 v3 h = some (r, h') → ∀ (H : Heap) (locs : List Loc) (ls : Array Slot), MS G s h H locs 0 → lv_has ls 6 [(0, .ref (gB G + v0)), (1, .ref (gB G + v1)), (2, .int v2), (3, .int v3)] → W p l e (rm_X9_settleAsTold) s m args below meth c H locs 0 0 (QI G below args s r h' 0 0) (F0 m 2 ls []) := by
  intro n
  induction n with
  | zero =>
    intro v0 v1 v2 v3 h hf
    cases hf
  | succ n ih =>
    intro v0 v1 v2 v3 h hf H locs ls M hl
    rw [f_X9_settleAsTold_2] at hf
    refine lv_iload_n X.1 X.2.1 dX9_settleAsTold_2 rfl (lv_at hl 3 rfl) ?_
    refine lv_aload_n X.1 X.2.1 dX9_settleAsTold_3 rfl (lv_at hl 0 rfl) ?_
    obtain ⟨t1, q2, hf⟩ := bnd hf
    refine x_getr fl_X9_27 X M q2 dX9_settleAsTold_4 ?_
    obtain ⟨t3, q4, hf⟩ := bnd hf
    refine x_geti fl_X9_202 X M q4 dX9_settleAsTold_7 ?_
    refine lv_icmp_ge (tgt := 64) X.1 X.2.1 dX9_settleAsTold_10 (by decide) (fun c5 => ?_) (fun c5 => ?_)
    · have hf := ifp c5 hf
      refine lv_aload_n X.1 X.2.1 dX9_settleAsTold_64 rfl (lv_at hl 0 rfl) ?_
      obtain ⟨t6, q7, hf⟩ := bnd hf
      refine x_getr fl_X9_27 X M q7 dX9_settleAsTold_65 ?_
      obtain ⟨⟨⟩, q8, hf⟩ := bnd hf
      obtain ⟨t11, h10, q9, hf⟩ := bnd2 hf
      refine x_callVi (As := []) cf_X9_321 (c_X1_fits l G N t6 h _ _ q9) rfl ⟨rfl, rfl, Nat.le_of_ble_eq_true rfl, Nat.le_of_ble_eq_true rfl⟩ ⟨Nat.le_of_ble_eq_true rfl, Nat.le_of_ble_eq_true rfl⟩ X M (x_recv cls_X1 X M q8) rfl rfl hl.1 (Nat.le_of_ble_eq_true rfl) dX9_settleAsTold_68 (fun H locs M => ?_)
      obtain ⟨z, rfl, rfl⟩ := rz_spec hf
      exact x_zret X hr hk (nz z) M dX9_settleAsTold_71
    · have hf := ifn c5 hf
      refine lv_aload_n X.1 X.2.1 dX9_settleAsTold_13 rfl (lv_at hl 1 rfl) ?_
      obtain ⟨t12, q13, hf⟩ := bnd hf
      refine x_getr fl_X9_307 X M q13 dX9_settleAsTold_14 ?_
      refine lv_iload_n X.1 X.2.1 dX9_settleAsTold_17 rfl (lv_at hl 2 rfl) ?_
      refine lv_iload_n X.1 X.2.1 dX9_settleAsTold_18 rfl (lv_at hl 3 rfl) ?_
      refine lv_iadd X.1 X.2.1 dX9_settleAsTold_19 ?_
      obtain ⟨t14, q15, hf⟩ := bnd hf
      refine x_lald X M q15 dX9_settleAsTold_20 ?_
      refine lv_lstore (lv' := [(4, .long t14), (0, .ref (gB G + v0)), (1, .ref (gB G + v1)), (2, .int v2), (3, .int v3)]) X.1 X.2.1 dX9_settleAsTold_21 hl (by decide) rfl (fun ls hl => ?_)
      refine lv_lload X.1 X.2.1 dX9_settleAsTold_23 (lv_at hl 0 rfl) ?_
      refine lv_lconst (v := 0) X.1 X.2.1 dX9_settleAsTold_25 rfl ?_
      refine W.lcmp X.1 X.2.1 dX9_settleAsTold_26 ?_
      refine lv_if_lt (tgt := 44) X.1 X.2.1 dX9_settleAsTold_27 (by decide) (fun c16 => ?_) (fun c16 => ?_)
      · have hf := ifp c16 hf
        refine lv_iconst (v := (0 : Int32)) X.1 X.2.1 dX9_settleAsTold_44 (by decide) ?_
        obtain ⟨rfl, rfl⟩ := rt2 hf
        exact x_zret X hr hk rfl M dX9_settleAsTold_45
      · have hf := ifn c16 hf
        refine lv_lload X.1 X.2.1 dX9_settleAsTold_30 (lv_at hl 0 rfl) ?_
        refine lv_aload_n X.1 X.2.1 dX9_settleAsTold_32 rfl (lv_at hl 1 rfl) ?_
        obtain ⟨t17, q18, hf⟩ := bnd hf
        refine x_getr fl_X9_27 X M q18 dX9_settleAsTold_33 ?_
        obtain ⟨t19, q20, hf⟩ := bnd hf
        refine x_geti fl_X9_88 X M q20 dX9_settleAsTold_36 ?_
        refine lv_i2l (v := ((Int32.toInt64 t19))) X.1 X.2.1 dX9_settleAsTold_39 rfl ?_
        refine W.lcmp X.1 X.2.1 dX9_settleAsTold_40 ?_
        refine lv_if_lt (tgt := 46) X.1 X.2.1 dX9_settleAsTold_41 (by decide) (fun c21 => ?_) (fun c21 => ?_)
        · have hf := ifp c21 hf
          refine lv_aload_n X.1 X.2.1 dX9_settleAsTold_46 rfl (lv_at hl 1 rfl) ?_
          obtain ⟨t22, q23, hf⟩ := bnd hf
          refine x_getr fl_X9_27 X M q23 dX9_settleAsTold_47 ?_
          obtain ⟨t24, q25, hf⟩ := bnd hf
          refine x_getr fl_X9_128 X M q25 dX9_settleAsTold_50 ?_
          refine lv_iload_n X.1 X.2.1 dX9_settleAsTold_53 rfl (lv_at hl 4 rfl) ?_
          refine lv_lload X.1 X.2.1 dX9_settleAsTold_54 (lv_at hl 0 rfl) ?_
          refine lv_l2i (v := ((Int64.toInt32 t14))) X.1 X.2.1 dX9_settleAsTold_56 rfl ?_
          obtain ⟨h26, q27, hf⟩ := bnd hf
          refine x_iast X M q27 dX9_settleAsTold_57 (fun H locs M => ?_)
          refine lv_iinc (v := (v3 + 1)) (lv' := [(3, .int (v3 + 1)), (4, .long t14), (0, .ref (gB G + v0)), (1, .ref (gB G + v1)), (2, .int v2)]) X.1 X.2.1 dX9_settleAsTold_58 hl (k := 4) rfl (by first | rfl | decide) (by decide) rfl (fun ls hl => ?_)
          refine lv_goto (tgt := 2) X.1 X.2.1 dX9_settleAsTold_61 (by decide) ?_
          exact ih v0 v1 v2 (v3 + 1) h26 hf _ _ _ M (lv_sub hl [2, 3, 4, 0] rfl)
        · have hf := ifn c21 hf
          refine lv_iconst (v := (0 : Int32)) X.1 X.2.1 dX9_settleAsTold_44 (by decide) ?_
          obtain ⟨rfl, rfl⟩ := rt2 hf
          exact x_zret X hr hk rfl M dX9_settleAsTold_45
def f_X9_settleAsTold (N : Nat) (v0 : Nat) (v1 : Nat) (v2 : Int32) (h : Mem) : Option (Int32 × Mem) :=
  f_X9_settleAsTold_2 N N v0 v1 v2 (0 : Int32) h
set_option maxRecDepth 100000 in
set_option maxHeartbeats 4000000 in
theorem w_X9_settleAsTold {p : Program} {l : Launch} {e : Env} {s : State} {m : MethodId} {args : Array Value} {below : List Frame} {meth : Method} {c : Code} {G : Gx} {r : Int32} {h' : Mem} (X : CX G p s m args c cX9_settleAsTold 6 RX9) (hr : meth.sig.returnType = (Option.some Jvm.ClassFile.FieldType.boolean)) (hk : meth.locks = false) (N : Nat) : ∀ (v0 : Nat) (v1 : Nat) (v2 : Int32) (h : Mem), f_X9_settleAsTold N v0 v1 v2 h = some (r, h') → ∀ (H : Heap) (locs : List Loc) (ls : Array Slot), MS G s h H locs 0 → lv_has ls 6 [(0, .ref (gB G + v0)), (1, .ref (gB G + v1)), (2, .int v2)] → W p l e (rm_X9_settleAsTold) s m args below meth c H locs 0 0 (QI G below args s r h' 0 0) (F0 m 0 ls []) := by
  intro v0 v1 v2 h hf H locs ls M hl
  rw [f_X9_settleAsTold] at hf
  refine lv_iconst (v := (0 : Int32)) X.1 X.2.1 dX9_settleAsTold_0 (by decide) ?_
  refine lv_istore_n (lv' := [(3, .int (0 : Int32)), (0, .ref (gB G + v0)), (1, .ref (gB G + v1)), (2, .int v2)]) X.1 X.2.1 dX9_settleAsTold_1 rfl hl (by decide) rfl (fun ls hl => ?_)
  exact w_X9_settleAsTold_2 X hr hk N N v0 v1 v2 (0 : Int32) h hf _ _ _ M (lv_sub hl [1, 2, 3, 0] rfl)
theorem c_X9_settleAsTold (l : Launch) (G : Gx) (N : Nat) (v0 : Nat) (v1 : Nat) (v2 : Int32) (h : Mem) (r : Int32) (h' : Mem) (hf : f_X9_settleAsTold N v0 v1 v2 h = some (r, h')) : MetG l G yX9_settleAsTold (.code yX9_settleAsTold cX9_settleAsTold 6 (Option.some Jvm.ClassFile.FieldType.boolean)) rm_X9_settleAsTold [.ref (gB G + v0), .ref (gB G + v1), .int v2] h (QcI G r h') 0 0 :=
  x_met (by decide) rfl (Nat.le_of_ble_eq_true rfl) (fun p e s m args below meth c ls X M hr hk hin hl => w_X9_settleAsTold X hr hk N v0 v1 v2 h hf _ _ ls M hl)
abbrev rm_X9_judge : Room := { frames := 8, cells := 0, slots := 0, locals := 219 }
def f_X9_judge (N : Nat) (v0 : Nat) (v1 : Int32) (v2 : Int32) (v3 : Int32) (h : Mem) : Option (Int32 × Mem) :=
  b2 (f_X9_isTape N v1 h) fun t3 h2 =>
  if t3 = 0 then
    some ((-1 : Int32), h2)
  else
    b2 (f_X9_isRest N v3 h2) fun t7 h6 =>
    if t7 = 0 then
      some ((-1 : Int32), h6)
    else
      (gR h6 v0 9 10).bind fun t9 =>
      (lQ 105 h6 t9 v1).bind fun t11 =>
      (ck h6 t11 7).bind fun _ =>
      b2 (f_X7_isNothing N t11 h6) fun t16 h15 =>
      if t16 = 0 then
        (gI h15 t11 7 1).bind fun t18 =>
        if t18 = (1 : Int32) then
          (gR h15 v0 9 0).bind fun t21 =>
          (gI h15 t21 1 2).bind fun t23 =>
          (ck h15 t11 7).bind fun _ =>
          b2 (f_X7_spans N t11 v2 t23 h15) fun t28 h27 =>
          if t28 = 0 then
            some ((-13 : Int32), h27)
          else
            (gR h27 v0 9 1).bind fun t30 =>
            (gR h27 v0 9 0).bind fun t32 =>
            (ck h27 t30 1).bind fun _ =>
            (f_X1_become N t30 t32 h27).bind fun h36 =>
            (ck h36 v0 9).bind fun _ =>
            b2 (f_X9_settleAsTold N v0 t11 v2 h36) fun t40 h39 =>
            if t40 = 0 then
              some ((-3 : Int32), h39)
            else
              (gR h39 v0 9 5).bind fun t42 =>
              (gR h39 v0 9 1).bind fun t44 =>
              (ck h39 t42 6).bind fun _ =>
              b2 (f_X6_breach N t42 t44 v3 h39) fun t49 h48 =>
              if t49 = (-5 : Int32) then
                some ((1 : Int32), h48)
              else
                some ((0 : Int32), h48)
        else
          some ((-12 : Int32), h15)
      else
        some ((-11 : Int32), h15)
set_option maxRecDepth 100000 in
set_option maxHeartbeats 4000000 in
theorem w_X9_judge {p : Program} {l : Launch} {e : Env} {s : State} {m : MethodId} {args : Array Value} {below : List Frame} {meth : Method} {c : Code} {G : Gx} {r : Int32} {h' : Mem} (X : CX G p s m args c cX9_judge 5 RX9) (hr : meth.sig.returnType = (Option.some Jvm.ClassFile.FieldType.int)) (hk : meth.locks = false) (N : Nat) : ∀ (v0 : Nat) (v1 : Int32) (v2 : Int32) (v3 : Int32) (h : Mem), f_X9_judge N v0 v1 v2 v3 h = some (r, h') → ∀ (H : Heap) (locs : List Loc) (ls : Array Slot), MS G s h H locs 0 → lv_has ls 5 [(0, .ref (gB G + v0)), (1, .int v1), (2, .int v2), (3, .int v3)] → W p l e (rm_X9_judge) s m args below meth c H locs 0 0 (QI G below args s r h' 0 0) (F0 m 0 ls []) := by
  intro v0 v1 v2 v3 h hf H locs ls M hl
  rw [f_X9_judge] at hf
  refine lv_iload_n X.1 X.2.1 dX9_judge_0 rfl (lv_at hl 1 rfl) ?_
  obtain ⟨t3, h2, q1, hf⟩ := bnd2 hf
  refine x_callSi (As := [.int v1]) cf_X9_192 (c_X9_isTape l G N v1 h _ _ q1) rfl ⟨rfl, rfl, Nat.le_of_ble_eq_true rfl, Nat.le_of_ble_eq_true rfl⟩ ⟨Nat.le_of_ble_eq_true rfl, Nat.le_of_ble_eq_true rfl⟩ X M rfl rfl hl.1 (Nat.le_of_ble_eq_true rfl) dX9_judge_1 (fun H locs M => ?_)
  refine lv_if_eq (tgt := 14) X.1 X.2.1 dX9_judge_4 (by decide) (fun c4 => ?_) (fun c4 => ?_)
  · have hf := ifp c4 hf
    refine lv_iconst (v := (-1 : Int32)) X.1 X.2.1 dX9_judge_14 (by decide) ?_
    obtain ⟨rfl, rfl⟩ := rt2 hf
    exact x_iret X hr hk M dX9_judge_15
  · have hf := ifn c4 hf
    refine lv_iload_n X.1 X.2.1 dX9_judge_7 rfl (lv_at hl 3 rfl) ?_
    obtain ⟨t7, h6, q5, hf⟩ := bnd2 hf
    refine x_callSi (As := [.int v3]) cf_X9_174 (c_X9_isRest l G N v3 h2 _ _ q5) rfl ⟨rfl, rfl, Nat.le_of_ble_eq_true rfl, Nat.le_of_ble_eq_true rfl⟩ ⟨Nat.le_of_ble_eq_true rfl, Nat.le_of_ble_eq_true rfl⟩ X M rfl rfl hl.1 (Nat.le_of_ble_eq_true rfl) dX9_judge_8 (fun H locs M => ?_)
    refine lv_if_ne (tgt := 16) X.1 X.2.1 dX9_judge_11 (by decide) (fun c8 => ?_) (fun c8 => ?_)
    · have hf := ifn c8 hf
      refine lv_aload_n X.1 X.2.1 dX9_judge_16 rfl (lv_at hl 0 rfl) ?_
      obtain ⟨t9, q10, hf⟩ := bnd hf
      refine x_getr fl_X9_79 X M q10 dX9_judge_17 ?_
      refine lv_iload_n X.1 X.2.1 dX9_judge_20 rfl (lv_at hl 1 rfl) ?_
      obtain ⟨t11, q12, hf⟩ := bnd hf
      refine x_aald (by decide) (fun _ => rfl) X M q12 dX9_judge_21 ?_
      refine lv_astore (lv' := [(4, .ref (gB G + t11)), (0, .ref (gB G + v0)), (1, .int v1), (2, .int v2), (3, .int v3)]) X.1 X.2.1 dX9_judge_22 hl (by decide) rfl (fun ls hl => ?_)
      refine lv_aload X.1 X.2.1 dX9_judge_24 (lv_at hl 0 rfl) ?_
      obtain ⟨⟨⟩, q13, hf⟩ := bnd hf
      obtain ⟨t16, h15, q14, hf⟩ := bnd2 hf
      refine x_callVi (As := []) cf_X9_195 (c_X7_isNothing l G N t11 h6 _ _ q14) rfl ⟨rfl, rfl, Nat.le_of_ble_eq_true rfl, Nat.le_of_ble_eq_true rfl⟩ ⟨Nat.le_of_ble_eq_true rfl, Nat.le_of_ble_eq_true rfl⟩ X M (x_recv cls_X7 X M q13) rfl rfl hl.1 (Nat.le_of_ble_eq_true rfl) dX9_judge_26 (fun H locs M => ?_)
      refine lv_if_eq (tgt := 35) X.1 X.2.1 dX9_judge_29 (by decide) (fun c17 => ?_) (fun c17 => ?_)
      · have hf := ifp c17 hf
        refine lv_aload X.1 X.2.1 dX9_judge_35 (lv_at hl 0 rfl) ?_
        obtain ⟨t18, q19, hf⟩ := bnd hf
        refine x_geti fl_X9_199 X M q19 dX9_judge_37 ?_
        refine lv_iconst (v := (1 : Int32)) X.1 X.2.1 dX9_judge_40 (by decide) ?_
        refine lv_icmp_eq (tgt := 47) X.1 X.2.1 dX9_judge_41 (by decide) (fun c20 => ?_) (fun c20 => ?_)
        · have hf := ifp c20 hf
          refine lv_aload X.1 X.2.1 dX9_judge_47 (lv_at hl 0 rfl) ?_
          refine lv_iload_n X.1 X.2.1 dX9_judge_49 rfl (lv_at hl 3 rfl) ?_
          refine lv_aload_n X.1 X.2.1 dX9_judge_50 rfl (lv_at hl 1 rfl) ?_
          obtain ⟨t21, q22, hf⟩ := bnd hf
          refine x_getr fl_X9_17 X M q22 dX9_judge_51 ?_
          obtain ⟨t23, q24, hf⟩ := bnd hf
          refine x_geti fl_X9_202 X M q24 dX9_judge_54 ?_
          obtain ⟨⟨⟩, q25, hf⟩ := bnd hf
          obtain ⟨t28, h27, q26, hf⟩ := bnd2 hf
          refine x_callVi (As := [.int v2, .int t23]) cf_X9_205 (c_X7_spans l G N t11 v2 t23 h15 _ _ q26) rfl ⟨rfl, rfl, Nat.le_of_ble_eq_true rfl, Nat.le_of_ble_eq_true rfl⟩ ⟨Nat.le_of_ble_eq_true rfl, Nat.le_of_ble_eq_true rfl⟩ X M (x_recv cls_X7 X M q25) rfl rfl hl.1 (Nat.le_of_ble_eq_true rfl) dX9_judge_57 (fun H locs M => ?_)
          refine lv_if_ne (tgt := 66) X.1 X.2.1 dX9_judge_60 (by decide) (fun c29 => ?_) (fun c29 => ?_)
          · have hf := ifn c29 hf
            refine lv_aload_n X.1 X.2.1 dX9_judge_66 rfl (lv_at hl 1 rfl) ?_
            obtain ⟨t30, q31, hf⟩ := bnd hf
            refine x_getr fl_X9_27 X M q31 dX9_judge_67 ?_
            refine lv_aload_n X.1 X.2.1 dX9_judge_70 rfl (lv_at hl 1 rfl) ?_
            obtain ⟨t32, q33, hf⟩ := bnd hf
            refine x_getr fl_X9_17 X M q33 dX9_judge_71 ?_
            obtain ⟨⟨⟩, q34, hf⟩ := bnd hf
            obtain ⟨h36, q35, hf⟩ := bnd hf
            refine x_callVv (As := [.ref (gB G + t32)]) cf_X9_208 (c_X1_become l G N t30 t32 h27 _ q35) rfl ⟨rfl, rfl, Nat.le_of_ble_eq_true rfl, Nat.le_of_ble_eq_true rfl⟩ ⟨Nat.le_of_ble_eq_true rfl, Nat.le_of_ble_eq_true rfl⟩ X M (x_recv cls_X1 X M q34) rfl rfl hl.1 (Nat.le_of_ble_eq_true rfl) dX9_judge_74 (fun H locs M => ?_)
            refine lv_aload_n X.1 X.2.1 dX9_judge_77 rfl (lv_at hl 1 rfl) ?_
            refine lv_aload X.1 X.2.1 dX9_judge_78 (lv_at hl 0 rfl) ?_
            refine lv_iload_n X.1 X.2.1 dX9_judge_80 rfl (lv_at hl 3 rfl) ?_
            obtain ⟨⟨⟩, q37, hf⟩ := bnd hf
            obtain ⟨t40, h39, q38, hf⟩ := bnd2 hf
            refine x_callVi (As := [.ref (gB G + t11), .int v2]) cf_X9_212 (c_X9_settleAsTold l G N v0 t11 v2 h36 _ _ q38) rfl ⟨rfl, rfl, Nat.le_of_ble_eq_true rfl, Nat.le_of_ble_eq_true rfl⟩ ⟨Nat.le_of_ble_eq_true rfl, Nat.le_of_ble_eq_true rfl⟩ X M (x_recv cls_X9 X M q37) rfl rfl hl.1 (Nat.le_of_ble_eq_true rfl) dX9_judge_81 (fun H locs M => ?_)
            refine lv_if_ne (tgt := 90) X.1 X.2.1 dX9_judge_84 (by decide) (fun c41 => ?_) (fun c41 => ?_)
            · have hf := ifn c41 hf
              refine lv_aload_n X.1 X.2.1 dX9_judge_90 rfl (lv_at hl 1 rfl) ?_
              obtain ⟨t42, q43, hf⟩ := bnd hf
              refine x_getr fl_X9_46 X M q43 dX9_judge_91 ?_
              refine lv_aload_n X.1 X.2.1 dX9_judge_94 rfl (lv_at hl 1 rfl) ?_
              obtain ⟨t44, q45, hf⟩ := bnd hf
              refine x_getr fl_X9_27 X M q45 dX9_judge_95 ?_
              refine lv_iload_n X.1 X.2.1 dX9_judge_98 rfl (lv_at hl 4 rfl) ?_
              obtain ⟨⟨⟩, q46, hf⟩ := bnd hf
              obtain ⟨t49, h48, q47, hf⟩ := bnd2 hf
              refine x_callVi (As := [.ref (gB G + t44), .int v3]) cf_X9_177 (c_X6_breach l G N t42 t44 v3 h39 _ _ q47) rfl ⟨rfl, rfl, Nat.le_of_ble_eq_true rfl, Nat.le_of_ble_eq_true rfl⟩ ⟨Nat.le_of_ble_eq_true rfl, Nat.le_of_ble_eq_true rfl⟩ X M (x_recv cls_X6 X M q46) rfl rfl hl.1 (Nat.le_of_ble_eq_true rfl) dX9_judge_99 (fun H locs M => ?_)
              refine lv_bipush (v := (-5 : Int32)) X.1 X.2.1 dX9_judge_102 (by decide) ?_
              refine lv_icmp_ne (tgt := 111) X.1 X.2.1 dX9_judge_104 (by decide) (fun c50 => ?_) (fun c50 => ?_)
              · have hf := ifn c50 hf
                refine lv_iconst (v := (0 : Int32)) X.1 X.2.1 dX9_judge_111 (by decide) ?_
                obtain ⟨rfl, rfl⟩ := rt2 hf
                exact x_iret X hr hk M dX9_judge_112
              · have hf := ifp c50 hf
                refine lv_iconst (v := (1 : Int32)) X.1 X.2.1 dX9_judge_107 (by decide) ?_
                refine lv_goto (tgt := 112) X.1 X.2.1 dX9_judge_108 (by decide) ?_
                obtain ⟨rfl, rfl⟩ := rt2 hf
                exact x_iret X hr hk M dX9_judge_112
            · have hf := ifp c41 hf
              refine lv_bipush (v := (-3 : Int32)) X.1 X.2.1 dX9_judge_87 (by decide) ?_
              obtain ⟨rfl, rfl⟩ := rt2 hf
              exact x_iret X hr hk M dX9_judge_89
          · have hf := ifp c29 hf
            refine lv_bipush (v := (-13 : Int32)) X.1 X.2.1 dX9_judge_63 (by decide) ?_
            obtain ⟨rfl, rfl⟩ := rt2 hf
            exact x_iret X hr hk M dX9_judge_65
        · have hf := ifn c20 hf
          refine lv_bipush (v := (-12 : Int32)) X.1 X.2.1 dX9_judge_44 (by decide) ?_
          obtain ⟨rfl, rfl⟩ := rt2 hf
          exact x_iret X hr hk M dX9_judge_46
      · have hf := ifn c17 hf
        refine lv_bipush (v := (-11 : Int32)) X.1 X.2.1 dX9_judge_32 (by decide) ?_
        obtain ⟨rfl, rfl⟩ := rt2 hf
        exact x_iret X hr hk M dX9_judge_34
    · have hf := ifp c8 hf
      refine lv_iconst (v := (-1 : Int32)) X.1 X.2.1 dX9_judge_14 (by decide) ?_
      obtain ⟨rfl, rfl⟩ := rt2 hf
      exact x_iret X hr hk M dX9_judge_15
theorem c_X9_judge (l : Launch) (G : Gx) (N : Nat) (v0 : Nat) (v1 : Int32) (v2 : Int32) (v3 : Int32) (h : Mem) (r : Int32) (h' : Mem) (hf : f_X9_judge N v0 v1 v2 v3 h = some (r, h')) : MetG l G yX9_judge (.code yX9_judge cX9_judge 5 (Option.some Jvm.ClassFile.FieldType.int)) rm_X9_judge [.ref (gB G + v0), .int v1, .int v2, .int v3] h (QcI G r h') 0 0 :=
  x_met (by decide) rfl (Nat.le_of_ble_eq_true rfl) (fun p e s m args below meth c ls X M hr hk hin hl => w_X9_judge X hr hk N v0 v1 v2 v3 h hf _ _ ls M hl)
abbrev rm_X9_all : Room := { frames := 8, cells := 0, slots := 0, locals := 219 }
def f_X9_all_61 (N : Nat) (n : Nat) (v0 : Nat) (v1 : Int32) (v2 : Int32) (v3 : Int32) (v4 : Int32) (v5 : Int32) (v6 : Int32) (h : Mem) : Option (Int32 × Mem) := match n with
  | 0 => none
  | n + 1 =>
    if v4 ≤ v6 then
      if v2 = (-1 : Int32) then
        some (v5, h)
      else
        some ((-1 : Int32), h)
    else
      (gR h v0 9 1).bind fun t3 =>
      (ck h t3 1).bind fun _ =>
      b2 (f_X1_settle N t3 v6 h) fun t8 h7 =>
      if t8 = 0 then
        f_X9_all_61 N n v0 v1 v2 v3 v4 v5 (v6 + 1) h7
      else
        (gR h7 v0 9 5).bind fun t10 =>
        (gR h7 v0 9 1).bind fun t12 =>
        (ck h7 t10 6).bind fun _ =>
        b2 (f_X6_breach N t10 t12 v1 h7) fun t17 h16 =>
        if t17 = (-5 : Int32) then
          if v5 = v2 then
            (gR h16 v0 9 1).bind fun t20 =>
            (gR h16 t20 1 10).bind fun t22 =>
            (lI 100 h16 t22 v3).bind fun t24 =>
            some (t24, h16)
          else
            f_X9_all_61 N n v0 v1 v2 v3 v4 (v5 + 1) (v6 + 1) h16
        else
          f_X9_all_61 N n v0 v1 v2 v3 v4 v5 (v6 + 1) h16
set_option maxRecDepth 100000 in
set_option maxHeartbeats 4000000 in
theorem w_X9_all_61 {p : Program} {l : Launch} {e : Env} {s : State} {m : MethodId} {args : Array Value} {below : List Frame} {meth : Method} {c : Code} {G : Gx} {r : Int32} {h' : Mem} (X : CX G p s m args c cX9_all 7 RX9) (hr : meth.sig.returnType = (Option.some Jvm.ClassFile.FieldType.int)) (hk : meth.locks = false) (N : Nat) : ∀ (n : Nat) (v0 : Nat) (v1 : Int32) (v2 : Int32) (v3 : Int32) (v4 : Int32) (v5 : Int32) (v6 : Int32) (h : Mem), f_X9_all_61 N n v0 v1 v2 v3 v4 v5 v6 h = some (r, h') → ∀ (H : Heap) (locs : List Loc) (ls : Array Slot), MS G s h H locs 0 → lv_has ls 7 [(0, .ref (gB G + v0)), (1, .int v1), (2, .int v2), (3, .int v3), (4, .int v4), (5, .int v5), (6, .int v6)] → W p l e (rm_X9_all) s m args below meth c H locs 0 0 (QI G below args s r h' 0 0) (F0 m 61 ls []) := by
  intro n
  induction n with
  | zero =>
    intro v0 v1 v2 v3 v4 v5 v6 h hf
    cases hf
  | succ n ih =>
    intro v0 v1 v2 v3 v4 v5 v6 h hf H locs ls M hl
    rw [f_X9_all_61] at hf
    refine lv_iload X.1 X.2.1 dX9_all_61 (lv_at hl 6 rfl) ?_
    refine lv_iload X.1 X.2.1 dX9_all_63 (lv_at hl 4 rfl) ?_
    refine lv_icmp_ge (tgt := 125) X.1 X.2.1 dX9_all_65 (by decide) (fun c1 => ?_) (fun c1 => ?_)
    · have hf := ifp c1 hf
      refine lv_iload_n X.1 X.2.1 dX9_all_125 rfl (lv_at hl 2 rfl) ?_
      refine lv_iconst (v := (-1 : Int32)) X.1 X.2.1 dX9_all_126 (by decide) ?_
      refine lv_icmp_ne (tgt := 135) X.1 X.2.1 dX9_all_127 (by decide) (fun c2 => ?_) (fun c2 => ?_)
      · have hf := ifn c2 hf
        refine lv_iconst (v := (-1 : Int32)) X.1 X.2.1 dX9_all_135 (by decide) ?_
        obtain ⟨rfl, rfl⟩ := rt2 hf
        exact x_iret X hr hk M dX9_all_136
      · have hf := ifp c2 hf
        refine lv_iload X.1 X.2.1 dX9_all_130 (lv_at hl 5 rfl) ?_
        refine lv_goto (tgt := 136) X.1 X.2.1 dX9_all_132 (by decide) ?_
        obtain ⟨rfl, rfl⟩ := rt2 hf
        exact x_iret X hr hk M dX9_all_136
    · have hf := ifn c1 hf
      refine lv_aload_n X.1 X.2.1 dX9_all_68 rfl (lv_at hl 0 rfl) ?_
      obtain ⟨t3, q4, hf⟩ := bnd hf
      refine x_getr fl_X9_27 X M q4 dX9_all_69 ?_
      refine lv_iload X.1 X.2.1 dX9_all_72 (lv_at hl 6 rfl) ?_
      obtain ⟨⟨⟩, q5, hf⟩ := bnd hf
      obtain ⟨t8, h7, q6, hf⟩ := bnd2 hf
      refine x_callVi (As := [.int v6]) cf_X9_223 (c_X1_settle l G N t3 v6 h _ _ q6) rfl ⟨rfl, rfl, Nat.le_of_ble_eq_true rfl, Nat.le_of_ble_eq_true rfl⟩ ⟨Nat.le_of_ble_eq_true rfl, Nat.le_of_ble_eq_true rfl⟩ X M (x_recv cls_X1 X M q5) rfl rfl hl.1 (Nat.le_of_ble_eq_true rfl) dX9_all_74 (fun H locs M => ?_)
      refine lv_if_eq (tgt := 119) X.1 X.2.1 dX9_all_77 (by decide) (fun c9 => ?_) (fun c9 => ?_)
      · have hf := ifp c9 hf
        refine lv_iinc (v := (v6 + 1)) (lv' := [(6, .int (v6 + 1)), (0, .ref (gB G + v0)), (1, .int v1), (2, .int v2), (3, .int v3), (4, .int v4), (5, .int v5)]) X.1 X.2.1 dX9_all_119 hl (k := 6) rfl (by first | rfl | decide) (by decide) rfl (fun ls hl => ?_)
        refine lv_goto (tgt := 61) X.1 X.2.1 dX9_all_122 (by decide) ?_
        exact ih v0 v1 v2 v3 v4 v5 (v6 + 1) h7 hf _ _ _ M (lv_sub hl [1, 2, 3, 4, 5, 6, 0] rfl)
      · have hf := ifn c9 hf
        refine lv_aload_n X.1 X.2.1 dX9_all_80 rfl (lv_at hl 0 rfl) ?_
        obtain ⟨t10, q11, hf⟩ := bnd hf
        refine x_getr fl_X9_46 X M q11 dX9_all_81 ?_
        refine lv_aload_n X.1 X.2.1 dX9_all_84 rfl (lv_at hl 0 rfl) ?_
        obtain ⟨t12, q13, hf⟩ := bnd hf
        refine x_getr fl_X9_27 X M q13 dX9_all_85 ?_
        refine lv_iload_n X.1 X.2.1 dX9_all_88 rfl (lv_at hl 1 rfl) ?_
        obtain ⟨⟨⟩, q14, hf⟩ := bnd hf
        obtain ⟨t17, h16, q15, hf⟩ := bnd2 hf
        refine x_callVi (As := [.ref (gB G + t12), .int v1]) cf_X9_177 (c_X6_breach l G N t10 t12 v1 h7 _ _ q15) rfl ⟨rfl, rfl, Nat.le_of_ble_eq_true rfl, Nat.le_of_ble_eq_true rfl⟩ ⟨Nat.le_of_ble_eq_true rfl, Nat.le_of_ble_eq_true rfl⟩ X M (x_recv cls_X6 X M q14) rfl rfl hl.1 (Nat.le_of_ble_eq_true rfl) dX9_all_89 (fun H locs M => ?_)
        refine lv_bipush (v := (-5 : Int32)) X.1 X.2.1 dX9_all_92 (by decide) ?_
        refine lv_icmp_eq (tgt := 100) X.1 X.2.1 dX9_all_94 (by decide) (fun c18 => ?_) (fun c18 => ?_)
        · have hf := ifp c18 hf
          refine lv_iload X.1 X.2.1 dX9_all_100 (lv_at hl 5 rfl) ?_
          refine lv_iload_n X.1 X.2.1 dX9_all_102 rfl (lv_at hl 2 rfl) ?_
          refine lv_icmp_ne (tgt := 116) X.1 X.2.1 dX9_all_103 (by decide) (fun c19 => ?_) (fun c19 => ?_)
          · have hf := ifn c19 hf
            refine lv_iinc (v := (v5 + 1)) (lv' := [(5, .int (v5 + 1)), (0, .ref (gB G + v0)), (1, .int v1), (2, .int v2), (3, .int v3), (4, .int v4), (6, .int v6)]) X.1 X.2.1 dX9_all_116 hl (k := 5) rfl (by first | rfl | decide) (by decide) rfl (fun ls hl => ?_)
            refine lv_iinc (v := (v6 + 1)) (lv' := [(6, .int (v6 + 1)), (5, .int (v5 + 1)), (0, .ref (gB G + v0)), (1, .int v1), (2, .int v2), (3, .int v3), (4, .int v4)]) X.1 X.2.1 dX9_all_119 hl (k := 6) rfl (by first | rfl | decide) (by decide) rfl (fun ls hl => ?_)
            refine lv_goto (tgt := 61) X.1 X.2.1 dX9_all_122 (by decide) ?_
            exact ih v0 v1 v2 v3 v4 (v5 + 1) (v6 + 1) h16 hf _ _ _ M (lv_sub hl [2, 3, 4, 5, 6, 1, 0] rfl)
          · have hf := ifp c19 hf
            refine lv_aload_n X.1 X.2.1 dX9_all_106 rfl (lv_at hl 0 rfl) ?_
            obtain ⟨t20, q21, hf⟩ := bnd hf
            refine x_getr fl_X9_27 X M q21 dX9_all_107 ?_
            obtain ⟨t22, q23, hf⟩ := bnd hf
            refine x_getr fl_X9_128 X M q23 dX9_all_110 ?_
            refine lv_iload_n X.1 X.2.1 dX9_all_113 rfl (lv_at hl 3 rfl) ?_
            obtain ⟨t24, q25, hf⟩ := bnd hf
            refine x_iald X M q25 dX9_all_114 ?_
            obtain ⟨rfl, rfl⟩ := rt2 hf
            exact x_iret X hr hk M dX9_all_115
        · have hf := ifn c18 hf
          refine lv_goto (tgt := 119) X.1 X.2.1 dX9_all_97 (by decide) ?_
          refine lv_iinc (v := (v6 + 1)) (lv' := [(6, .int (v6 + 1)), (0, .ref (gB G + v0)), (1, .int v1), (2, .int v2), (3, .int v3), (4, .int v4), (5, .int v5)]) X.1 X.2.1 dX9_all_119 hl (k := 6) rfl (by first | rfl | decide) (by decide) rfl (fun ls hl => ?_)
          refine lv_goto (tgt := 61) X.1 X.2.1 dX9_all_122 (by decide) ?_
          exact ih v0 v1 v2 v3 v4 v5 (v6 + 1) h16 hf _ _ _ M (lv_sub hl [1, 2, 3, 4, 5, 6, 0] rfl)
def f_X9_all (N : Nat) (v0 : Nat) (v1 : Int32) (v2 : Int32) (v3 : Int32) (h : Mem) : Option (Int32 × Mem) :=
  b2 (f_X9_isRest N v1 h) fun t3 h2 =>
  if t3 = 0 then
    some ((-1 : Int32), h2)
  else
    (ck h2 v0 9).bind fun _ =>
    b2 (f_X9_isFamily N v0 v3 h2) fun t8 h7 =>
    if t8 = 0 then
      some ((-1 : Int32), h7)
    else
      if (-1 : Int32) ≤ v2 then
        (gR h7 v0 9 0).bind fun t11 =>
        (ck h7 t11 1).bind fun _ =>
        b2 (f_X1_hasTooManyWays N t11 h7) fun t16 h15 =>
        if t16 = 0 then
          (gR h15 v0 9 1).bind fun t18 =>
          (gR h15 v0 9 0).bind fun t20 =>
          (ck h15 t18 1).bind fun _ =>
          (f_X1_become N t18 t20 h15).bind fun h24 =>
          (gR h24 v0 9 1).bind fun t25 =>
          (ck h24 t25 1).bind fun _ =>
          b2 (f_X1_ways N t25 h24) fun t30 h29 =>
          f_X9_all_61 N N v0 v1 v2 v3 t30 (0 : Int32) (0 : Int32) h29
        else
          some ((-9 : Int32), h15)
      else
        some ((-1 : Int32), h7)
set_option maxRecDepth 100000 in
set_option maxHeartbeats 4000000 in
theorem w_X9_all {p : Program} {l : Launch} {e : Env} {s : State} {m : MethodId} {args : Array Value} {below : List Frame} {meth : Method} {c : Code} {G : Gx} {r : Int32} {h' : Mem} (X : CX G p s m args c cX9_all 7 RX9) (hr : meth.sig.returnType = (Option.some Jvm.ClassFile.FieldType.int)) (hk : meth.locks = false) (N : Nat) : ∀ (v0 : Nat) (v1 : Int32) (v2 : Int32) (v3 : Int32) (h : Mem), f_X9_all N v0 v1 v2 v3 h = some (r, h') → ∀ (H : Heap) (locs : List Loc) (ls : Array Slot), MS G s h H locs 0 → lv_has ls 7 [(0, .ref (gB G + v0)), (1, .int v1), (2, .int v2), (3, .int v3)] → W p l e (rm_X9_all) s m args below meth c H locs 0 0 (QI G below args s r h' 0 0) (F0 m 0 ls []) := by
  intro v0 v1 v2 v3 h hf H locs ls M hl
  rw [f_X9_all] at hf
  refine lv_iload_n X.1 X.2.1 dX9_all_0 rfl (lv_at hl 1 rfl) ?_
  obtain ⟨t3, h2, q1, hf⟩ := bnd2 hf
  refine x_callSi (As := [.int v1]) cf_X9_174 (c_X9_isRest l G N v1 h _ _ q1) rfl ⟨rfl, rfl, Nat.le_of_ble_eq_true rfl, Nat.le_of_ble_eq_true rfl⟩ ⟨Nat.le_of_ble_eq_true rfl, Nat.le_of_ble_eq_true rfl⟩ X M rfl rfl hl.1 (Nat.le_of_ble_eq_true rfl) dX9_all_1 (fun H locs M => ?_)
  refine lv_if_eq (tgt := 20) X.1 X.2.1 dX9_all_4 (by decide) (fun c4 => ?_) (fun c4 => ?_)
  · have hf := ifp c4 hf
    refine lv_iconst (v := (-1 : Int32)) X.1 X.2.1 dX9_all_20 (by decide) ?_
    obtain ⟨rfl, rfl⟩ := rt2 hf
    exact x_iret X hr hk M dX9_all_21
  · have hf := ifn c4 hf
    refine lv_aload_n X.1 X.2.1 dX9_all_7 rfl (lv_at hl 0 rfl) ?_
    refine lv_iload_n X.1 X.2.1 dX9_all_8 rfl (lv_at hl 3 rfl) ?_
    obtain ⟨⟨⟩, q5, hf⟩ := bnd hf
    obtain ⟨t8, h7, q6, hf⟩ := bnd2 hf
    refine x_callVi (As := [.int v3]) cf_X9_123 (c_X9_isFamily l G N v0 v3 h2 _ _ q6) rfl ⟨rfl, rfl, Nat.le_of_ble_eq_true rfl, Nat.le_of_ble_eq_true rfl⟩ ⟨Nat.le_of_ble_eq_true rfl, Nat.le_of_ble_eq_true rfl⟩ X M (x_recv cls_X9 X M q5) rfl rfl hl.1 (Nat.le_of_ble_eq_true rfl) dX9_all_9 (fun H locs M => ?_)
    refine lv_if_eq (tgt := 20) X.1 X.2.1 dX9_all_12 (by decide) (fun c9 => ?_) (fun c9 => ?_)
    · have hf := ifp c9 hf
      refine lv_iconst (v := (-1 : Int32)) X.1 X.2.1 dX9_all_20 (by decide) ?_
      obtain ⟨rfl, rfl⟩ := rt2 hf
      exact x_iret X hr hk M dX9_all_21
    · have hf := ifn c9 hf
      refine lv_iload_n X.1 X.2.1 dX9_all_15 rfl (lv_at hl 2 rfl) ?_
      refine lv_iconst (v := (-1 : Int32)) X.1 X.2.1 dX9_all_16 (by decide) ?_
      refine lv_icmp_ge (tgt := 22) X.1 X.2.1 dX9_all_17 (by decide) (fun c10 => ?_) (fun c10 => ?_)
      · have hf := ifp c10 hf
        refine lv_aload_n X.1 X.2.1 dX9_all_22 rfl (lv_at hl 0 rfl) ?_
        obtain ⟨t11, q12, hf⟩ := bnd hf
        refine x_getr fl_X9_17 X M q12 dX9_all_23 ?_
        obtain ⟨⟨⟩, q13, hf⟩ := bnd hf
        obtain ⟨t16, h15, q14, hf⟩ := bnd2 hf
        refine x_callVi (As := []) cf_X9_216 (c_X1_hasTooManyWays l G N t11 h7 _ _ q14) rfl ⟨rfl, rfl, Nat.le_of_ble_eq_true rfl, Nat.le_of_ble_eq_true rfl⟩ ⟨Nat.le_of_ble_eq_true rfl, Nat.le_of_ble_eq_true rfl⟩ X M (x_recv cls_X1 X M q13) rfl rfl hl.1 (Nat.le_of_ble_eq_true rfl) dX9_all_26 (fun H locs M => ?_)
        refine lv_if_eq (tgt := 35) X.1 X.2.1 dX9_all_29 (by decide) (fun c17 => ?_) (fun c17 => ?_)
        · have hf := ifp c17 hf
          refine lv_aload_n X.1 X.2.1 dX9_all_35 rfl (lv_at hl 0 rfl) ?_
          obtain ⟨t18, q19, hf⟩ := bnd hf
          refine x_getr fl_X9_27 X M q19 dX9_all_36 ?_
          refine lv_aload_n X.1 X.2.1 dX9_all_39 rfl (lv_at hl 0 rfl) ?_
          obtain ⟨t20, q21, hf⟩ := bnd hf
          refine x_getr fl_X9_17 X M q21 dX9_all_40 ?_
          obtain ⟨⟨⟩, q22, hf⟩ := bnd hf
          obtain ⟨h24, q23, hf⟩ := bnd hf
          refine x_callVv (As := [.ref (gB G + t20)]) cf_X9_208 (c_X1_become l G N t18 t20 h15 _ q23) rfl ⟨rfl, rfl, Nat.le_of_ble_eq_true rfl, Nat.le_of_ble_eq_true rfl⟩ ⟨Nat.le_of_ble_eq_true rfl, Nat.le_of_ble_eq_true rfl⟩ X M (x_recv cls_X1 X M q22) rfl rfl hl.1 (Nat.le_of_ble_eq_true rfl) dX9_all_43 (fun H locs M => ?_)
          refine lv_aload_n X.1 X.2.1 dX9_all_46 rfl (lv_at hl 0 rfl) ?_
          obtain ⟨t25, q26, hf⟩ := bnd hf
          refine x_getr fl_X9_27 X M q26 dX9_all_47 ?_
          obtain ⟨⟨⟩, q27, hf⟩ := bnd hf
          obtain ⟨t30, h29, q28, hf⟩ := bnd2 hf
          refine x_callVi (As := []) cf_X9_219 (c_X1_ways l G N t25 h24 _ _ q28) rfl ⟨rfl, rfl, Nat.le_of_ble_eq_true rfl, Nat.le_of_ble_eq_true rfl⟩ ⟨Nat.le_of_ble_eq_true rfl, Nat.le_of_ble_eq_true rfl⟩ X M (x_recv cls_X1 X M q27) rfl rfl hl.1 (Nat.le_of_ble_eq_true rfl) dX9_all_50 (fun H locs M => ?_)
          refine lv_istore (lv' := [(4, .int t30), (0, .ref (gB G + v0)), (1, .int v1), (2, .int v2), (3, .int v3)]) X.1 X.2.1 dX9_all_53 hl (by decide) rfl (fun ls hl => ?_)
          refine lv_iconst (v := (0 : Int32)) X.1 X.2.1 dX9_all_55 (by decide) ?_
          refine lv_istore (lv' := [(5, .int (0 : Int32)), (4, .int t30), (0, .ref (gB G + v0)), (1, .int v1), (2, .int v2), (3, .int v3)]) X.1 X.2.1 dX9_all_56 hl (by decide) rfl (fun ls hl => ?_)
          refine lv_iconst (v := (0 : Int32)) X.1 X.2.1 dX9_all_58 (by decide) ?_
          refine lv_istore (lv' := [(6, .int (0 : Int32)), (5, .int (0 : Int32)), (4, .int t30), (0, .ref (gB G + v0)), (1, .int v1), (2, .int v2), (3, .int v3)]) X.1 X.2.1 dX9_all_59 hl (by decide) rfl (fun ls hl => ?_)
          exact w_X9_all_61 X hr hk N N v0 v1 v2 v3 t30 (0 : Int32) (0 : Int32) h29 hf _ _ _ M (lv_sub hl [3, 4, 5, 6, 2, 1, 0] rfl)
        · have hf := ifn c17 hf
          refine lv_bipush (v := (-9 : Int32)) X.1 X.2.1 dX9_all_32 (by decide) ?_
          obtain ⟨rfl, rfl⟩ := rt2 hf
          exact x_iret X hr hk M dX9_all_34
      · have hf := ifn c10 hf
        refine lv_iconst (v := (-1 : Int32)) X.1 X.2.1 dX9_all_20 (by decide) ?_
        obtain ⟨rfl, rfl⟩ := rt2 hf
        exact x_iret X hr hk M dX9_all_21
theorem c_X9_all (l : Launch) (G : Gx) (N : Nat) (v0 : Nat) (v1 : Int32) (v2 : Int32) (v3 : Int32) (h : Mem) (r : Int32) (h' : Mem) (hf : f_X9_all N v0 v1 v2 v3 h = some (r, h')) : MetG l G yX9_all (.code yX9_all cX9_all 7 (Option.some Jvm.ClassFile.FieldType.int)) rm_X9_all [.ref (gB G + v0), .int v1, .int v2, .int v3] h (QcI G r h') 0 0 :=
  x_met (by decide) rfl (Nat.le_of_ble_eq_true rfl) (fun p e s m args below meth c ls X M hr hk hin hl => w_X9_all X hr hk N v0 v1 v2 v3 h hf _ _ ls M hl)
abbrev rm_X9_good : Room := { frames := 6, cells := 0, slots := 0, locals := 159 }
def f_X9_good_52 (N : Nat) (n : Nat) (v0 : Nat) (v1 : Int32) (v2 : Int32) (v3 : Int64) (v5 : Int32) (v6 : Int32) (h : Mem) : Option (Int32 × Mem) := match n with
  | 0 => none
  | n + 1 =>
    if v2 ≤ v6 then
      some (v5, h)
    else
      (gR h v0 9 1).bind fun t2 =>
      (ck h t2 1).bind fun _ =>
      b2 (f_X1_settle N t2 v6 h) fun t7 h6 =>
      if t7 = 0 then
        f_X9_good_52 N n v0 v1 v2 v3 v5 (v6 + 1) h6
      else
        (gR h6 v0 9 1).bind fun t9 =>
        (ck h6 t9 1).bind fun _ =>
        b2 (f_X1_worthOfAll N t9 h6) fun t14 h13 =>
        if (lg_cmp t14 v3) ≤ 0 then
          f_X9_good_52 N n v0 v1 v2 v3 v5 (v6 + 1) h13
        else
          (gR h13 v0 9 1).bind fun t16 =>
          (gR h13 t16 1 10).bind fun t18 =>
          (lI 100 h13 t18 v1).bind fun t20 =>
          f_X9_good_52 N n v0 v1 v2 t14 t20 (v6 + 1) h13
set_option maxRecDepth 100000 in
set_option maxHeartbeats 4000000 in
theorem w_X9_good_52 {p : Program} {l : Launch} {e : Env} {s : State} {m : MethodId} {args : Array Value} {below : List Frame} {meth : Method} {c : Code} {G : Gx} {r : Int32} {h' : Mem} (X : CX G p s m args c cX9_good 9 RX9) (hr : meth.sig.returnType = (Option.some Jvm.ClassFile.FieldType.int)) (hk : meth.locks = false) (N : Nat) : ∀ (n : Nat) (v0 : Nat) (v1 : Int32) (v2 : Int32) (v3 : Int64) (v5 : Int32) (v6 : Int32) (h : Mem), f_X9_good_52 N n v0 v1 v2 v3 v5 v6 h = some (r, h') → ∀ (H : Heap) (locs : List Loc) (ls : Array Slot), MS G s h H locs 0 → lv_has ls 9 [(0, .ref (gB G + v0)), (1, .int v1), (2, .int v2), (3, .long v3), (5, .int v5), (6, .int v6)] → W p l e (rm_X9_good) s m args below meth c H locs 0 0 (QI G below args s r h' 0 0) (F0 m 52 ls []) := by
  intro n
  induction n with
  | zero =>
    intro v0 v1 v2 v3 v5 v6 h hf
    cases hf
  | succ n ih =>
    intro v0 v1 v2 v3 v5 v6 h hf H locs ls M hl
    rw [f_X9_good_52] at hf
    refine lv_iload X.1 X.2.1 dX9_good_52 (lv_at hl 5 rfl) ?_
    refine lv_iload_n X.1 X.2.1 dX9_good_54 rfl (lv_at hl 2 rfl) ?_
    refine lv_icmp_ge (tgt := 109) X.1 X.2.1 dX9_good_55 (by decide) (fun c1 => ?_) (fun c1 => ?_)
    · have hf := ifp c1 hf
      refine lv_iload X.1 X.2.1 dX9_good_109 (lv_at hl 4 rfl) ?_
      obtain ⟨rfl, rfl⟩ := rt2 hf
      exact x_iret X hr hk M dX9_good_111
    · have hf := ifn c1 hf
      refine lv_aload_n X.1 X.2.1 dX9_good_58 rfl (lv_at hl 0 rfl) ?_
      obtain ⟨t2, q3, hf⟩ := bnd hf
      refine x_getr fl_X9_27 X M q3 dX9_good_59 ?_
      refine lv_iload X.1 X.2.1 dX9_good_62 (lv_at hl 5 rfl) ?_
      obtain ⟨⟨⟩, q4, hf⟩ := bnd hf
      obtain ⟨t7, h6, q5, hf⟩ := bnd2 hf
      refine x_callVi (As := [.int v6]) cf_X9_223 (c_X1_settle l G N t2 v6 h _ _ q5) rfl ⟨rfl, rfl, Nat.le_of_ble_eq_true rfl, Nat.le_of_ble_eq_true rfl⟩ ⟨Nat.le_of_ble_eq_true rfl, Nat.le_of_ble_eq_true rfl⟩ X M (x_recv cls_X1 X M q4) rfl rfl hl.1 (Nat.le_of_ble_eq_true rfl) dX9_good_64 (fun H locs M => ?_)
      refine lv_if_ne (tgt := 73) X.1 X.2.1 dX9_good_67 (by decide) (fun c8 => ?_) (fun c8 => ?_)
      · have hf := ifn c8 hf
        refine lv_aload_n X.1 X.2.1 dX9_good_73 rfl (lv_at hl 0 rfl) ?_
        obtain ⟨t9, q10, hf⟩ := bnd hf
        refine x_getr fl_X9_27 X M q10 dX9_good_74 ?_
        obtain ⟨⟨⟩, q11, hf⟩ := bnd hf
        obtain ⟨t14, h13, q12, hf⟩ := bnd2 hf
        refine x_callVl (As := []) cf_X9_226 (c_X1_worthOfAll l G N t9 h6 _ _ q12) rfl ⟨rfl, rfl, Nat.le_of_ble_eq_true rfl, Nat.le_of_ble_eq_true rfl⟩ ⟨Nat.le_of_ble_eq_true rfl, Nat.le_of_ble_eq_true rfl⟩ X M (x_recv cls_X1 X M q11) rfl rfl hl.1 (Nat.le_of_ble_eq_true rfl) dX9_good_77 (fun H locs M => ?_)
        refine lv_lstore (lv' := [(7, .long t14), (0, .ref (gB G + v0)), (1, .int v1), (2, .int v2), (3, .long v3), (5, .int v5), (6, .int v6)]) X.1 X.2.1 dX9_good_80 hl (by decide) rfl (fun ls hl => ?_)
        refine lv_lload X.1 X.2.1 dX9_good_82 (lv_at hl 0 rfl) ?_
        refine lv_lload_n X.1 X.2.1 dX9_good_84 rfl (lv_at hl 4 rfl) ?_
        refine W.lcmp X.1 X.2.1 dX9_good_85 ?_
        refine lv_if_le (tgt := 103) X.1 X.2.1 dX9_good_86 (by decide) (fun c15 => ?_) (fun c15 => ?_)
        · have hf := ifp c15 hf
          refine lv_iinc (v := (v6 + 1)) (lv' := [(6, .int (v6 + 1)), (7, .long t14), (0, .ref (gB G + v0)), (1, .int v1), (2, .int v2), (3, .long v3), (5, .int v5)]) X.1 X.2.1 dX9_good_103 hl (k := 6) rfl (by first | rfl | decide) (by decide) rfl (fun ls hl => ?_)
          refine lv_goto (tgt := 52) X.1 X.2.1 dX9_good_106 (by decide) ?_
          exact ih v0 v1 v2 v3 v5 (v6 + 1) h13 hf _ _ _ M (lv_sub hl [2, 3, 4, 5, 6, 0] rfl)
        · have hf := ifn c15 hf
          refine lv_lload X.1 X.2.1 dX9_good_89 (lv_at hl 0 rfl) ?_
          refine lv_lstore_n (lv' := [(3, .long t14), (7, .long t14), (0, .ref (gB G + v0)), (1, .int v1), (2, .int v2), (5, .int v5), (6, .int v6)]) X.1 X.2.1 dX9_good_91 rfl hl (by decide) rfl (fun ls hl => ?_)
          refine lv_aload_n X.1 X.2.1 dX9_good_92 rfl (lv_at hl 2 rfl) ?_
          obtain ⟨t16, q17, hf⟩ := bnd hf
          refine x_getr fl_X9_27 X M q17 dX9_good_93 ?_
          obtain ⟨t18, q19, hf⟩ := bnd hf
          refine x_getr fl_X9_128 X M q19 dX9_good_96 ?_
          refine lv_iload_n X.1 X.2.1 dX9_good_99 rfl (lv_at hl 3 rfl) ?_
          obtain ⟨t20, q21, hf⟩ := bnd hf
          refine x_iald X M q21 dX9_good_100 ?_
          refine lv_istore (lv' := [(5, .int t20), (3, .long t14), (7, .long t14), (0, .ref (gB G + v0)), (1, .int v1), (2, .int v2), (6, .int v6)]) X.1 X.2.1 dX9_good_101 hl (by decide) rfl (fun ls hl => ?_)
          refine lv_iinc (v := (v6 + 1)) (lv' := [(6, .int (v6 + 1)), (5, .int t20), (3, .long t14), (7, .long t14), (0, .ref (gB G + v0)), (1, .int v1), (2, .int v2)]) X.1 X.2.1 dX9_good_103 hl (k := 6) rfl (by first | rfl | decide) (by decide) rfl (fun ls hl => ?_)
          refine lv_goto (tgt := 52) X.1 X.2.1 dX9_good_106 (by decide) ?_
          exact ih v0 v1 v2 t14 t20 (v6 + 1) h13 hf _ _ _ M (lv_sub hl [4, 5, 6, 2, 1, 0] rfl)
      · have hf := ifp c8 hf
        refine lv_goto (tgt := 103) X.1 X.2.1 dX9_good_70 (by decide) ?_
        refine lv_iinc (v := (v6 + 1)) (lv' := [(6, .int (v6 + 1)), (0, .ref (gB G + v0)), (1, .int v1), (2, .int v2), (3, .long v3), (5, .int v5)]) X.1 X.2.1 dX9_good_103 hl (k := 5) rfl (by first | rfl | decide) (by decide) rfl (fun ls hl => ?_)
        refine lv_goto (tgt := 52) X.1 X.2.1 dX9_good_106 (by decide) ?_
        exact ih v0 v1 v2 v3 v5 (v6 + 1) h6 hf _ _ _ M (lv_sub hl [1, 2, 3, 4, 5, 0] rfl)
def f_X9_good (N : Nat) (v0 : Nat) (v1 : Int32) (h : Mem) : Option (Int32 × Mem) :=
  (ck h v0 9).bind fun _ =>
  b2 (f_X9_isFamily N v0 v1 h) fun t4 h3 =>
  if t4 = 0 then
    some ((-1 : Int32), h3)
  else
    (gR h3 v0 9 0).bind fun t6 =>
    (ck h3 t6 1).bind fun _ =>
    b2 (f_X1_hasTooManyWays N t6 h3) fun t11 h10 =>
    if t11 = 0 then
      (gR h10 v0 9 1).bind fun t13 =>
      (gR h10 v0 9 0).bind fun t15 =>
      (ck h10 t13 1).bind fun _ =>
      (f_X1_become N t13 t15 h10).bind fun h19 =>
      (gR h19 v0 9 1).bind fun t20 =>
      (ck h19 t20 1).bind fun _ =>
      b2 (f_X1_ways N t20 h19) fun t25 h24 =>
      f_X9_good_52 N N v0 v1 t25 (-9223372036854775808 : Int64) (-1 : Int32) (0 : Int32) h24
    else
      some ((-9 : Int32), h10)
set_option maxRecDepth 100000 in
set_option maxHeartbeats 4000000 in
theorem w_X9_good {p : Program} {l : Launch} {e : Env} {s : State} {m : MethodId} {args : Array Value} {below : List Frame} {meth : Method} {c : Code} {G : Gx} {r : Int32} {h' : Mem} (X : CX G p s m args c cX9_good 9 RX9) (hr : meth.sig.returnType = (Option.some Jvm.ClassFile.FieldType.int)) (hk : meth.locks = false) (N : Nat) : ∀ (v0 : Nat) (v1 : Int32) (h : Mem), f_X9_good N v0 v1 h = some (r, h') → ∀ (H : Heap) (locs : List Loc) (ls : Array Slot), MS G s h H locs 0 → lv_has ls 9 [(0, .ref (gB G + v0)), (1, .int v1)] → W p l e (rm_X9_good) s m args below meth c H locs 0 0 (QI G below args s r h' 0 0) (F0 m 0 ls []) := by
  intro v0 v1 h hf H locs ls M hl
  rw [f_X9_good] at hf
  refine lv_aload_n X.1 X.2.1 dX9_good_0 rfl (lv_at hl 0 rfl) ?_
  refine lv_iload_n X.1 X.2.1 dX9_good_1 rfl (lv_at hl 1 rfl) ?_
  obtain ⟨⟨⟩, q1, hf⟩ := bnd hf
  obtain ⟨t4, h3, q2, hf⟩ := bnd2 hf
  refine x_callVi (As := [.int v1]) cf_X9_123 (c_X9_isFamily l G N v0 v1 h _ _ q2) rfl ⟨rfl, rfl, Nat.le_of_ble_eq_true rfl, Nat.le_of_ble_eq_true rfl⟩ ⟨Nat.le_of_ble_eq_true rfl, Nat.le_of_ble_eq_true rfl⟩ X M (x_recv cls_X9 X M q1) rfl rfl hl.1 (Nat.le_of_ble_eq_true rfl) dX9_good_2 (fun H locs M => ?_)
  refine lv_if_ne (tgt := 10) X.1 X.2.1 dX9_good_5 (by decide) (fun c5 => ?_) (fun c5 => ?_)
  · have hf := ifn c5 hf
    refine lv_aload_n X.1 X.2.1 dX9_good_10 rfl (lv_at hl 0 rfl) ?_
    obtain ⟨t6, q7, hf⟩ := bnd hf
    refine x_getr fl_X9_17 X M q7 dX9_good_11 ?_
    obtain ⟨⟨⟩, q8, hf⟩ := bnd hf
    obtain ⟨t11, h10, q9, hf⟩ := bnd2 hf
    refine x_callVi (As := []) cf_X9_216 (c_X1_hasTooManyWays l G N t6 h3 _ _ q9) rfl ⟨rfl, rfl, Nat.le_of_ble_eq_true rfl, Nat.le_of_ble_eq_true rfl⟩ ⟨Nat.le_of_ble_eq_true rfl, Nat.le_of_ble_eq_true rfl⟩ X M (x_recv cls_X1 X M q8) rfl rfl hl.1 (Nat.le_of_ble_eq_true rfl) dX9_good_14 (fun H locs M => ?_)
    refine lv_if_eq (tgt := 23) X.1 X.2.1 dX9_good_17 (by decide) (fun c12 => ?_) (fun c12 => ?_)
    · have hf := ifp c12 hf
      refine lv_aload_n X.1 X.2.1 dX9_good_23 rfl (lv_at hl 0 rfl) ?_
      obtain ⟨t13, q14, hf⟩ := bnd hf
      refine x_getr fl_X9_27 X M q14 dX9_good_24 ?_
      refine lv_aload_n X.1 X.2.1 dX9_good_27 rfl (lv_at hl 0 rfl) ?_
      obtain ⟨t15, q16, hf⟩ := bnd hf
      refine x_getr fl_X9_17 X M q16 dX9_good_28 ?_
      obtain ⟨⟨⟩, q17, hf⟩ := bnd hf
      obtain ⟨h19, q18, hf⟩ := bnd hf
      refine x_callVv (As := [.ref (gB G + t15)]) cf_X9_208 (c_X1_become l G N t13 t15 h10 _ q18) rfl ⟨rfl, rfl, Nat.le_of_ble_eq_true rfl, Nat.le_of_ble_eq_true rfl⟩ ⟨Nat.le_of_ble_eq_true rfl, Nat.le_of_ble_eq_true rfl⟩ X M (x_recv cls_X1 X M q17) rfl rfl hl.1 (Nat.le_of_ble_eq_true rfl) dX9_good_31 (fun H locs M => ?_)
      refine lv_aload_n X.1 X.2.1 dX9_good_34 rfl (lv_at hl 0 rfl) ?_
      obtain ⟨t20, q21, hf⟩ := bnd hf
      refine x_getr fl_X9_27 X M q21 dX9_good_35 ?_
      obtain ⟨⟨⟩, q22, hf⟩ := bnd hf
      obtain ⟨t25, h24, q23, hf⟩ := bnd2 hf
      refine x_callVi (As := []) cf_X9_219 (c_X1_ways l G N t20 h19 _ _ q23) rfl ⟨rfl, rfl, Nat.le_of_ble_eq_true rfl, Nat.le_of_ble_eq_true rfl⟩ ⟨Nat.le_of_ble_eq_true rfl, Nat.le_of_ble_eq_true rfl⟩ X M (x_recv cls_X1 X M q22) rfl rfl hl.1 (Nat.le_of_ble_eq_true rfl) dX9_good_38 (fun H locs M => ?_)
      refine lv_istore_n (lv' := [(2, .int t25), (0, .ref (gB G + v0)), (1, .int v1)]) X.1 X.2.1 dX9_good_41 rfl hl (by decide) rfl (fun ls hl => ?_)
      refine lv_ldc2 X.1 X.2.1 X.2.2.2.1 (X.2.2.2.2.1 _ k_337) dX9_good_42 ?_
      refine lv_lstore_n (lv' := [(3, .long (-9223372036854775808 : Int64)), (2, .int t25), (0, .ref (gB G + v0)), (1, .int v1)]) X.1 X.2.1 dX9_good_45 rfl hl (by decide) rfl (fun ls hl => ?_)
      refine lv_iconst (v := (-1 : Int32)) X.1 X.2.1 dX9_good_46 (by decide) ?_
      refine lv_istore (lv' := [(5, .int (-1 : Int32)), (3, .long (-9223372036854775808 : Int64)), (2, .int t25), (0, .ref (gB G + v0)), (1, .int v1)]) X.1 X.2.1 dX9_good_47 hl (by decide) rfl (fun ls hl => ?_)
      refine lv_iconst (v := (0 : Int32)) X.1 X.2.1 dX9_good_49 (by decide) ?_
      refine lv_istore (lv' := [(6, .int (0 : Int32)), (5, .int (-1 : Int32)), (3, .long (-9223372036854775808 : Int64)), (2, .int t25), (0, .ref (gB G + v0)), (1, .int v1)]) X.1 X.2.1 dX9_good_50 hl (by decide) rfl (fun ls hl => ?_)
      exact w_X9_good_52 X hr hk N N v0 v1 t25 (-9223372036854775808 : Int64) (-1 : Int32) (0 : Int32) h24 hf _ _ _ M (lv_sub hl [4, 5, 3, 2, 1, 0] rfl)
    · have hf := ifn c12 hf
      refine lv_bipush (v := (-9 : Int32)) X.1 X.2.1 dX9_good_20 (by decide) ?_
      obtain ⟨rfl, rfl⟩ := rt2 hf
      exact x_iret X hr hk M dX9_good_22
  · have hf := ifp c5 hf
    refine lv_iconst (v := (-1 : Int32)) X.1 X.2.1 dX9_good_8 (by decide) ?_
    obtain ⟨rfl, rfl⟩ := rt2 hf
    exact x_iret X hr hk M dX9_good_9
theorem c_X9_good (l : Launch) (G : Gx) (N : Nat) (v0 : Nat) (v1 : Int32) (h : Mem) (r : Int32) (h' : Mem) (hf : f_X9_good N v0 v1 h = some (r, h')) : MetG l G yX9_good (.code yX9_good cX9_good 9 (Option.some Jvm.ClassFile.FieldType.int)) rm_X9_good [.ref (gB G + v0), .int v1] h (QcI G r h') 0 0 :=
  x_met (by decide) rfl (Nat.le_of_ble_eq_true rfl) (fun p e s m args below meth c ls X M hr hk hin hl => w_X9_good X hr hk N v0 v1 h hf _ _ ls M hl)
abbrev rm_X9_rise : Room := { frames := 6, cells := 0, slots := 0, locals := 159 }
def f_X9_rise_13 (N : Nat) (n : Nat) (v0 : Nat) (v1 : Int32) (h : Mem) : Option (Int32 × Mem) := match n with
  | 0 => none
  | n + 1 =>
    if (200 : Int32) ≤ v1 then
      some ((200 : Int32), h)
    else
      (gR h v0 9 0).bind fun t2 =>
      (ck h t2 1).bind fun _ =>
      b2 (f_X1_soughtTown N t2 h) fun t7 h6 =>
      if 0 ≤ t7 then
        (gR h6 v0 9 0).bind fun t9 =>
        (gR h6 t9 1 5).bind fun t11 =>
        (lI 100 h6 t11 t7).bind fun t13 =>
        (stI 100 h6 t11 t7 (t13 + (1 : Int32))).bind fun h15 =>
        f_X9_rise_13 N n v0 (v1 + 1) h15
      else
        some (v1, h6)
set_option maxRecDepth 100000 in
set_option maxHeartbeats 4000000 in
theorem w_X9_rise_13 {p : Program} {l : Launch} {e : Env} {s : State} {m : MethodId} {args : Array Value} {below : List Frame} {meth : Method} {c : Code} {G : Gx} {r : Int32} {h' : Mem} (X : CX G p s m args c cX9_rise 3 RX9) (hr : meth.sig.returnType = (Option.some Jvm.ClassFile.FieldType.int)) (hk : meth.locks = false) (N : Nat) : ∀ (n : Nat) (v0 : Nat) (v1 : Int32) (h : Mem), f_X9_rise_13 N n v0 v1 h = some (r, h') → ∀ (H : Heap) (locs : List Loc) (ls : Array Slot), MS G s h H locs 0 → lv_has ls 3 [(0, .ref (gB G + v0)), (1, .int v1)] → W p l e (rm_X9_rise) s m args below meth c H locs 0 0 (QI G below args s r h' 0 0) (F0 m 13 ls []) := by
  intro n
  induction n with
  | zero =>
    intro v0 v1 h hf
    cases hf
  | succ n ih =>
    intro v0 v1 h hf H locs ls M hl
    rw [f_X9_rise_13] at hf
    refine lv_iload_n X.1 X.2.1 dX9_rise_13 rfl (lv_at hl 1 rfl) ?_
    refine lv_sipush (v := (200 : Int32)) X.1 X.2.1 dX9_rise_14 (by decide) ?_
    refine lv_icmp_ge (tgt := 53) X.1 X.2.1 dX9_rise_17 (by decide) (fun c1 => ?_) (fun c1 => ?_)
    · have hf := ifp c1 hf
      refine lv_sipush (v := (200 : Int32)) X.1 X.2.1 dX9_rise_53 (by decide) ?_
      obtain ⟨rfl, rfl⟩ := rt2 hf
      exact x_iret X hr hk M dX9_rise_56
    · have hf := ifn c1 hf
      refine lv_aload_n X.1 X.2.1 dX9_rise_20 rfl (lv_at hl 0 rfl) ?_
      obtain ⟨t2, q3, hf⟩ := bnd hf
      refine x_getr fl_X9_17 X M q3 dX9_rise_21 ?_
      obtain ⟨⟨⟩, q4, hf⟩ := bnd hf
      obtain ⟨t7, h6, q5, hf⟩ := bnd2 hf
      refine x_callVi (As := []) cf_X9_236 (c_X1_soughtTown l G N t2 h _ _ q5) rfl ⟨rfl, rfl, Nat.le_of_ble_eq_true rfl, Nat.le_of_ble_eq_true rfl⟩ ⟨Nat.le_of_ble_eq_true rfl, Nat.le_of_ble_eq_true rfl⟩ X M (x_recv cls_X1 X M q4) rfl rfl hl.1 (Nat.le_of_ble_eq_true rfl) dX9_rise_24 (fun H locs M => ?_)
      refine lv_istore_n (lv' := [(2, .int t7), (0, .ref (gB G + v0)), (1, .int v1)]) X.1 X.2.1 dX9_rise_27 rfl hl (by decide) rfl (fun ls hl => ?_)
      refine lv_iload_n X.1 X.2.1 dX9_rise_28 rfl (lv_at hl 0 rfl) ?_
      refine lv_if_ge (tgt := 34) X.1 X.2.1 dX9_rise_29 (by decide) (fun c8 => ?_) (fun c8 => ?_)
      · have hf := ifp c8 hf
        refine lv_aload_n X.1 X.2.1 dX9_rise_34 rfl (lv_at hl 1 rfl) ?_
        obtain ⟨t9, q10, hf⟩ := bnd hf
        refine x_getr fl_X9_17 X M q10 dX9_rise_35 ?_
        obtain ⟨t11, q12, hf⟩ := bnd hf
        refine x_getr fl_X9_117 X M q12 dX9_rise_38 ?_
        refine lv_iload_n X.1 X.2.1 dX9_rise_41 rfl (lv_at hl 0 rfl) ?_
        refine lv_dup2_11 X.1 X.2.1 dX9_rise_42 rfl rfl ?_
        obtain ⟨t13, q14, hf⟩ := bnd hf
        refine x_iald X M q14 dX9_rise_43 ?_
        refine lv_iconst (v := (1 : Int32)) X.1 X.2.1 dX9_rise_44 (by decide) ?_
        refine lv_iadd X.1 X.2.1 dX9_rise_45 ?_
        obtain ⟨h15, q16, hf⟩ := bnd hf
        refine x_iast X M q16 dX9_rise_46 (fun H locs M => ?_)
        refine lv_iinc (v := (v1 + 1)) (lv' := [(1, .int (v1 + 1)), (2, .int t7), (0, .ref (gB G + v0))]) X.1 X.2.1 dX9_rise_47 hl (k := 2) rfl (by first | rfl | decide) (by decide) rfl (fun ls hl => ?_)
        refine lv_goto (tgt := 13) X.1 X.2.1 dX9_rise_50 (by decide) ?_
        exact ih v0 (v1 + 1) h15 hf _ _ _ M (lv_sub hl [2, 0] rfl)
      · have hf := ifn c8 hf
        refine lv_iload_n X.1 X.2.1 dX9_rise_32 rfl (lv_at hl 2 rfl) ?_
        obtain ⟨rfl, rfl⟩ := rt2 hf
        exact x_iret X hr hk M dX9_rise_33
def f_X9_rise (N : Nat) (v0 : Nat) (h : Mem) : Option (Int32 × Mem) :=
  (gR h v0 9 0).bind fun t1 =>
  (gR h t1 1 5).bind fun t3 =>
  (f_J7_fill_53178 N t3 (0 : Int32) h).bind fun h6 =>
  f_X9_rise_13 N N v0 (0 : Int32) h6
set_option maxRecDepth 100000 in
set_option maxHeartbeats 4000000 in
theorem w_X9_rise {p : Program} {l : Launch} {e : Env} {s : State} {m : MethodId} {args : Array Value} {below : List Frame} {meth : Method} {c : Code} {G : Gx} {r : Int32} {h' : Mem} (X : CX G p s m args c cX9_rise 3 RX9) (hr : meth.sig.returnType = (Option.some Jvm.ClassFile.FieldType.int)) (hk : meth.locks = false) (N : Nat) : ∀ (v0 : Nat) (h : Mem), f_X9_rise N v0 h = some (r, h') → ∀ (H : Heap) (locs : List Loc) (ls : Array Slot), MS G s h H locs 0 → lv_has ls 3 [(0, .ref (gB G + v0))] → W p l e (rm_X9_rise) s m args below meth c H locs 0 0 (QI G below args s r h' 0 0) (F0 m 0 ls []) := by
  intro v0 h hf H locs ls M hl
  rw [f_X9_rise] at hf
  refine lv_aload_n X.1 X.2.1 dX9_rise_0 rfl (lv_at hl 0 rfl) ?_
  obtain ⟨t1, q2, hf⟩ := bnd hf
  refine x_getr fl_X9_17 X M q2 dX9_rise_1 ?_
  obtain ⟨t3, q4, hf⟩ := bnd hf
  refine x_getr fl_X9_117 X M q4 dX9_rise_4 ?_
  refine lv_iconst (v := (0 : Int32)) X.1 X.2.1 dX9_rise_7 (by decide) ?_
  obtain ⟨h6, q5, hf⟩ := bnd hf
  refine x_callSv (As := [.ref (gB G + t3), .int (0 : Int32)]) cf_X9_230 (c_J7_fill_53178 l G N t3 (0 : Int32) h _ q5) rfl ⟨rfl, rfl, Nat.le_of_ble_eq_true rfl, Nat.le_of_ble_eq_true rfl⟩ ⟨Nat.le_of_ble_eq_true rfl, Nat.le_of_ble_eq_true rfl⟩ X M rfl rfl hl.1 (Nat.le_of_ble_eq_true rfl) dX9_rise_8 (fun H locs M => ?_)
  refine lv_iconst (v := (0 : Int32)) X.1 X.2.1 dX9_rise_11 (by decide) ?_
  refine lv_istore_n (lv' := [(1, .int (0 : Int32)), (0, .ref (gB G + v0))]) X.1 X.2.1 dX9_rise_12 rfl hl (by decide) rfl (fun ls hl => ?_)
  exact w_X9_rise_13 X hr hk N N v0 (0 : Int32) h6 hf _ _ _ M (lv_sub hl [1, 0] rfl)
theorem c_X9_rise (l : Launch) (G : Gx) (N : Nat) (v0 : Nat) (h : Mem) (r : Int32) (h' : Mem) (hf : f_X9_rise N v0 h = some (r, h')) : MetG l G yX9_rise (.code yX9_rise cX9_rise 3 (Option.some Jvm.ClassFile.FieldType.int)) rm_X9_rise [.ref (gB G + v0)] h (QcI G r h') 0 0 :=
  x_met (by decide) rfl (Nat.le_of_ble_eq_true rfl) (fun p e s m args below meth c ls X M hr hk hin hl => w_X9_rise X hr hk N v0 h hf _ _ ls M hl)
