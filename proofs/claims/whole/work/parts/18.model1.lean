abbrev rm_X10_init : Room := { frames := 1, cells := 39, slots := 1875, locals := 40 }
def f_X10_init (N : Nat) (v0 : Nat) (h : Mem) : Option Mem :=
  (sI h v0 10 0 (0 : Int32)).bind fun h1 =>
  (sI h1 v0 10 1 (0 : Int32)).bind fun h3 =>
  (sI h3 v0 10 2 (0 : Int32)).bind fun h5 =>
  (sR (al h5 (100, 4)) v0 10 3 h5.1.length).bind fun h7 =>
  (sR (al h7 (100, 12)) v0 10 4 h7.1.length).bind fun h9 =>
  (sR (al h9 (100, 4)) v0 10 5 h9.1.length).bind fun h11 =>
  (sR (al h11 (100, 4)) v0 10 6 h11.1.length).bind fun h13 =>
  (sR (al h13 (100, 4)) v0 10 7 h13.1.length).bind fun h15 =>
  (sR (al h15 (100, 8)) v0 10 8 h15.1.length).bind fun h17 =>
  (sR (al h17 (100, 8)) v0 10 9 h17.1.length).bind fun h19 =>
  (sR (al h19 (100, 8)) v0 10 10 h19.1.length).bind fun h21 =>
  (sR (al h21 (100, 8)) v0 10 11 h21.1.length).bind fun h23 =>
  (sI h23 v0 10 12 (0 : Int32)).bind fun h25 =>
  (sI h25 v0 10 13 (0 : Int32)).bind fun h27 =>
  (sR (al h27 (100, 240)) v0 10 14 h27.1.length).bind fun h29 =>
  (sR (al h29 (100, 2)) v0 10 15 h29.1.length).bind fun h31 =>
  (sR (al h31 (100, 4)) v0 10 16 h31.1.length).bind fun h33 =>
  (sI h33 v0 10 17 (0 : Int32)).bind fun h35 =>
  (sI h35 v0 10 18 (0 : Int32)).bind fun h37 =>
  (sI h37 v0 10 19 (0 : Int32)).bind fun h39 =>
  (sI h39 v0 10 20 (0 : Int32)).bind fun h41 =>
  (sI h41 v0 10 21 (0 : Int32)).bind fun h43 =>
  (sR (al h43 (100, 12)) v0 10 22 h43.1.length).bind fun h45 =>
  (sR (al h45 (100, 16)) v0 10 23 h45.1.length).bind fun h47 =>
  (stI 100 (al h47 (100, 3)) h47.1.length (0 : Int32) (10 : Int32)).bind fun h49 =>
  (stI 100 h49 h47.1.length (1 : Int32) (10 : Int32)).bind fun h51 =>
  (stI 100 h51 h47.1.length (2 : Int32) (10 : Int32)).bind fun h53 =>
  (sR h53 v0 10 24 h47.1.length).bind fun h55 =>
  (sI h55 v0 10 25 (0 : Int32)).bind fun h57 =>
  (sI h57 v0 10 26 (104 : Int32)).bind fun h59 =>
  (sI h59 v0 10 27 (109 : Int32)).bind fun h61 =>
  (sR (al h61 (100, 288)) v0 10 28 h61.1.length).bind fun h63 =>
  (sZ h63 v0 10 29 (0 : Int32)).bind fun h65 =>
  (sR (al h65 (100, 121)) v0 10 30 h65.1.length).bind fun h67 =>
  (sR (al h67 (102, 121)) v0 10 31 h67.1.length).bind fun h69 =>
  (sI h69 v0 10 32 (0 : Int32)).bind fun h71 =>
  (sI h71 v0 10 33 (0 : Int32)).bind fun h73 =>
  (sI h73 v0 10 34 (0 : Int32)).bind fun h75 =>
  (sR (al h75 (100, 12)) v0 10 35 h75.1.length).bind fun h77 =>
  (sR (al h77 (100, 16)) v0 10 36 h77.1.length).bind fun h79 =>
  (sR (al h79 (100, 3)) v0 10 37 h79.1.length).bind fun h81 =>
  (sI h81 v0 10 38 (0 : Int32)).bind fun h83 =>
  (sI h83 v0 10 39 (104 : Int32)).bind fun h85 =>
  (sI h85 v0 10 40 (109 : Int32)).bind fun h87 =>
  (sR (al h87 (100, 6)) v0 10 41 h87.1.length).bind fun h89 =>
  (sR (al h89 (100, 3)) v0 10 42 h89.1.length).bind fun h91 =>
  (sR (al h91 (100, 8)) v0 10 43 h91.1.length).bind fun h93 =>
  (sR (al h93 (103, 8)) v0 10 44 h93.1.length).bind fun h95 =>
  (sR (al h95 (100, 420)) v0 10 45 h95.1.length).bind fun h97 =>
  (sR (al h97 (100, 40)) v0 10 46 h97.1.length).bind fun h99 =>
  (sR (al h99 (100, 8)) v0 10 47 h99.1.length).bind fun h101 =>
  (sR (al h101 (100, 8)) v0 10 48 h101.1.length).bind fun h103 =>
  (sR (al h103 (100, 8)) v0 10 49 h103.1.length).bind fun h105 =>
  (sI h105 v0 10 50 (0 : Int32)).bind fun h107 =>
  (sR (al h107 (100, 4)) v0 10 51 h107.1.length).bind fun h109 =>
  (sR (al h109 (100, 4)) v0 10 52 h109.1.length).bind fun h111 =>
  (sR (al h111 (100, 4)) v0 10 53 h111.1.length).bind fun h113 =>
  (sR (al h113 (100, 4)) v0 10 54 h113.1.length).bind fun h115 =>
  (sI h115 v0 10 55 (0 : Int32)).bind fun h117 =>
  (sR (al h117 (100, 20)) v0 10 56 h117.1.length).bind fun h119 =>
  (stI 100 (al h119 (100, 6)) h119.1.length (0 : Int32) (-1 : Int32)).bind fun h121 =>
  (stI 100 h121 h119.1.length (1 : Int32) (-1 : Int32)).bind fun h123 =>
  (stI 100 h123 h119.1.length (2 : Int32) (-1 : Int32)).bind fun h125 =>
  (stI 100 h125 h119.1.length (3 : Int32) (-1 : Int32)).bind fun h127 =>
  (stI 100 h127 h119.1.length (4 : Int32) (-1 : Int32)).bind fun h129 =>
  (stI 100 h129 h119.1.length (5 : Int32) (-1 : Int32)).bind fun h131 =>
  (sR h131 v0 10 57 h119.1.length).bind fun h133 =>
  (sR (al h133 (100, 6)) v0 10 58 h133.1.length).bind fun h135 =>
  (sR (al h135 (103, 360)) v0 10 59 h135.1.length).bind fun h137 =>
  (sR (al h137 (103, 60)) v0 10 60 h137.1.length).bind fun h139 =>
  some h139
set_option maxRecDepth 100000 in
set_option maxHeartbeats 4000000 in
theorem w_X10_init {p : Program} {l : Launch} {e : Env} {s : State} {m : MethodId} {args : Array Value} {below : List Frame} {meth : Method} {c : Code} {G : Gx} {h' : Mem} {L : Nat} (X : CX G p s m args c cX10_init 1 RX10) (hr : meth.sig.returnType = (Option.none : Option Jvm.ClassFile.FieldType)) (hk : meth.locks = false) (hL : s.heap.size + 39 = gB G + L) (hin : meth.name = "<init>") (N : Nat) : ∀ (v0 : Nat) (h : Mem), f_X10_init N v0 h = some h' → ∀ (H : Heap) (locs : List Loc) (ls : Array Slot), MS G s h H locs 0 → lv_has ls 1 [(0, .ref (gB G + v0))] → W p l e (rm_X10_init) s m args below meth c H locs 0 0 (QV G below args s h' L 39 1875) (F0 m 0 ls []) := by
  intro v0 h hf H locs ls M hl
  rw [f_X10_init] at hf
  refine lv_aload_n X.1 X.2.1 dX10_init_0 rfl (lv_at hl 0 rfl) ?_
  refine x_obj k_949 k_27 k_28 X hl.1 dX10_init_1 (Nat.le_of_ble_eq_true rfl) (Nat.le_of_ble_eq_true rfl) ?_
  refine lv_aload_n X.1 X.2.1 dX10_init_4 rfl (lv_at hl 0 rfl) ?_
  refine lv_iconst (v := (0 : Int32)) X.1 X.2.1 dX10_init_5 (by decide) ?_
  obtain ⟨h1, q2, hf⟩ := bnd hf
  refine x_puti fl_X10_7 fp_X10_7.1 fp_X10_7.2 X M q2 dX10_init_6 (fun H locs M => ?_)
  refine lv_aload_n X.1 X.2.1 dX10_init_9 rfl (lv_at hl 0 rfl) ?_
  refine lv_iconst (v := (0 : Int32)) X.1 X.2.1 dX10_init_10 (by decide) ?_
  obtain ⟨h3, q4, hf⟩ := bnd hf
  refine x_puti fl_X10_13 fp_X10_13.1 fp_X10_13.2 X M q4 dX10_init_11 (fun H locs M => ?_)
  refine lv_aload_n X.1 X.2.1 dX10_init_14 rfl (lv_at hl 0 rfl) ?_
  refine lv_iconst (v := (0 : Int32)) X.1 X.2.1 dX10_init_15 (by decide) ?_
  obtain ⟨h5, q6, hf⟩ := bnd hf
  refine x_puti fl_X10_16 fp_X10_16.1 fp_X10_16.2 X M q6 dX10_init_16 (fun H locs M => ?_)
  refine lv_aload_n X.1 X.2.1 dX10_init_19 rfl (lv_at hl 0 rfl) ?_
  refine lv_iconst (v := (4 : Int32)) X.1 X.2.1 dX10_init_20 (by decide) ?_
  refine x_newI (N := 4) k_75 (by decide) (by decide) (by decide) X M ⟨Nat.le_of_ble_eq_true rfl, Nat.le_of_ble_eq_true rfl⟩ dX10_init_21 (fun H locs M => ?_)
  obtain ⟨h7, q8, hf⟩ := bnd hf
  refine x_putrF fl_X10_19 fp_X10_19.1 hin rfl fp_X10_19.2 (fun _ => rfl) (fun _ => rfl) X M q8 dX10_init_23 (fun H locs M => ?_)
  refine lv_aload_n X.1 X.2.1 dX10_init_26 rfl (lv_at hl 0 rfl) ?_
  refine lv_bipush (v := (12 : Int32)) X.1 X.2.1 dX10_init_27 (by decide) ?_
  refine x_newI (N := 12) k_75 (by decide) (by decide) (by decide) X M ⟨Nat.le_of_ble_eq_true rfl, Nat.le_of_ble_eq_true rfl⟩ dX10_init_29 (fun H locs M => ?_)
  obtain ⟨h9, q10, hf⟩ := bnd hf
  refine x_putrF fl_X10_23 fp_X10_23.1 hin rfl fp_X10_23.2 (fun _ => rfl) (fun _ => rfl) X M q10 dX10_init_31 (fun H locs M => ?_)
  refine lv_aload_n X.1 X.2.1 dX10_init_34 rfl (lv_at hl 0 rfl) ?_
  refine lv_iconst (v := (4 : Int32)) X.1 X.2.1 dX10_init_35 (by decide) ?_
  refine x_newI (N := 4) k_75 (by decide) (by decide) (by decide) X M ⟨Nat.le_of_ble_eq_true rfl, Nat.le_of_ble_eq_true rfl⟩ dX10_init_36 (fun H locs M => ?_)
  obtain ⟨h11, q12, hf⟩ := bnd hf
  refine x_putrF fl_X10_26 fp_X10_26.1 hin rfl fp_X10_26.2 (fun _ => rfl) (fun _ => rfl) X M q12 dX10_init_38 (fun H locs M => ?_)
  refine lv_aload_n X.1 X.2.1 dX10_init_41 rfl (lv_at hl 0 rfl) ?_
  refine lv_iconst (v := (4 : Int32)) X.1 X.2.1 dX10_init_42 (by decide) ?_
  refine x_newI (N := 4) k_75 (by decide) (by decide) (by decide) X M ⟨Nat.le_of_ble_eq_true rfl, Nat.le_of_ble_eq_true rfl⟩ dX10_init_43 (fun H locs M => ?_)
  obtain ⟨h13, q14, hf⟩ := bnd hf
  refine x_putrF fl_X10_29 fp_X10_29.1 hin rfl fp_X10_29.2 (fun _ => rfl) (fun _ => rfl) X M q14 dX10_init_45 (fun H locs M => ?_)
  refine lv_aload_n X.1 X.2.1 dX10_init_48 rfl (lv_at hl 0 rfl) ?_
  refine lv_iconst (v := (4 : Int32)) X.1 X.2.1 dX10_init_49 (by decide) ?_
  refine x_newI (N := 4) k_75 (by decide) (by decide) (by decide) X M ⟨Nat.le_of_ble_eq_true rfl, Nat.le_of_ble_eq_true rfl⟩ dX10_init_50 (fun H locs M => ?_)
  obtain ⟨h15, q16, hf⟩ := bnd hf
  refine x_putrF fl_X10_32 fp_X10_32.1 hin rfl fp_X10_32.2 (fun _ => rfl) (fun _ => rfl) X M q16 dX10_init_52 (fun H locs M => ?_)
  refine lv_aload_n X.1 X.2.1 dX10_init_55 rfl (lv_at hl 0 rfl) ?_
  refine lv_bipush (v := (8 : Int32)) X.1 X.2.1 dX10_init_56 (by decide) ?_
  refine x_newI (N := 8) k_75 (by decide) (by decide) (by decide) X M ⟨Nat.le_of_ble_eq_true rfl, Nat.le_of_ble_eq_true rfl⟩ dX10_init_58 (fun H locs M => ?_)
  obtain ⟨h17, q18, hf⟩ := bnd hf
  refine x_putrF fl_X10_35 fp_X10_35.1 hin rfl fp_X10_35.2 (fun _ => rfl) (fun _ => rfl) X M q18 dX10_init_60 (fun H locs M => ?_)
  refine lv_aload_n X.1 X.2.1 dX10_init_63 rfl (lv_at hl 0 rfl) ?_
  refine lv_bipush (v := (8 : Int32)) X.1 X.2.1 dX10_init_64 (by decide) ?_
  refine x_newI (N := 8) k_75 (by decide) (by decide) (by decide) X M ⟨Nat.le_of_ble_eq_true rfl, Nat.le_of_ble_eq_true rfl⟩ dX10_init_66 (fun H locs M => ?_)
  obtain ⟨h19, q20, hf⟩ := bnd hf
  refine x_putrF fl_X10_38 fp_X10_38.1 hin rfl fp_X10_38.2 (fun _ => rfl) (fun _ => rfl) X M q20 dX10_init_68 (fun H locs M => ?_)
  refine lv_aload_n X.1 X.2.1 dX10_init_71 rfl (lv_at hl 0 rfl) ?_
  refine lv_bipush (v := (8 : Int32)) X.1 X.2.1 dX10_init_72 (by decide) ?_
  refine x_newI (N := 8) k_75 (by decide) (by decide) (by decide) X M ⟨Nat.le_of_ble_eq_true rfl, Nat.le_of_ble_eq_true rfl⟩ dX10_init_74 (fun H locs M => ?_)
  obtain ⟨h21, q22, hf⟩ := bnd hf
  refine x_putrF fl_X10_41 fp_X10_41.1 hin rfl fp_X10_41.2 (fun _ => rfl) (fun _ => rfl) X M q22 dX10_init_76 (fun H locs M => ?_)
  refine lv_aload_n X.1 X.2.1 dX10_init_79 rfl (lv_at hl 0 rfl) ?_
  refine lv_bipush (v := (8 : Int32)) X.1 X.2.1 dX10_init_80 (by decide) ?_
  refine x_newI (N := 8) k_75 (by decide) (by decide) (by decide) X M ⟨Nat.le_of_ble_eq_true rfl, Nat.le_of_ble_eq_true rfl⟩ dX10_init_82 (fun H locs M => ?_)
  obtain ⟨h23, q24, hf⟩ := bnd hf
  refine x_putrF fl_X10_44 fp_X10_44.1 hin rfl fp_X10_44.2 (fun _ => rfl) (fun _ => rfl) X M q24 dX10_init_84 (fun H locs M => ?_)
  refine lv_aload_n X.1 X.2.1 dX10_init_87 rfl (lv_at hl 0 rfl) ?_
  refine lv_iconst (v := (0 : Int32)) X.1 X.2.1 dX10_init_88 (by decide) ?_
  obtain ⟨h25, q26, hf⟩ := bnd hf
  refine x_puti fl_X10_47 fp_X10_47.1 fp_X10_47.2 X M q26 dX10_init_89 (fun H locs M => ?_)
  refine lv_aload_n X.1 X.2.1 dX10_init_92 rfl (lv_at hl 0 rfl) ?_
  refine lv_iconst (v := (0 : Int32)) X.1 X.2.1 dX10_init_93 (by decide) ?_
  obtain ⟨h27, q28, hf⟩ := bnd hf
  refine x_puti fl_X10_50 fp_X10_50.1 fp_X10_50.2 X M q28 dX10_init_94 (fun H locs M => ?_)
  refine lv_aload_n X.1 X.2.1 dX10_init_97 rfl (lv_at hl 0 rfl) ?_
  refine lv_sipush (v := (240 : Int32)) X.1 X.2.1 dX10_init_98 (by decide) ?_
  refine x_newI (N := 240) k_75 (by decide) (by decide) (by decide) X M ⟨Nat.le_of_ble_eq_true rfl, Nat.le_of_ble_eq_true rfl⟩ dX10_init_101 (fun H locs M => ?_)
  obtain ⟨h29, q30, hf⟩ := bnd hf
  refine x_putrF fl_X10_53 fp_X10_53.1 hin rfl fp_X10_53.2 (fun _ => rfl) (fun _ => rfl) X M q30 dX10_init_103 (fun H locs M => ?_)
  refine lv_aload_n X.1 X.2.1 dX10_init_106 rfl (lv_at hl 0 rfl) ?_
  refine lv_iconst (v := (2 : Int32)) X.1 X.2.1 dX10_init_107 (by decide) ?_
  refine x_newI (N := 2) k_75 (by decide) (by decide) (by decide) X M ⟨Nat.le_of_ble_eq_true rfl, Nat.le_of_ble_eq_true rfl⟩ dX10_init_108 (fun H locs M => ?_)
  obtain ⟨h31, q32, hf⟩ := bnd hf
  refine x_putrF fl_X10_56 fp_X10_56.1 hin rfl fp_X10_56.2 (fun _ => rfl) (fun _ => rfl) X M q32 dX10_init_110 (fun H locs M => ?_)
  refine lv_aload_n X.1 X.2.1 dX10_init_113 rfl (lv_at hl 0 rfl) ?_
  refine lv_iconst (v := (4 : Int32)) X.1 X.2.1 dX10_init_114 (by decide) ?_
  refine x_newI (N := 4) k_75 (by decide) (by decide) (by decide) X M ⟨Nat.le_of_ble_eq_true rfl, Nat.le_of_ble_eq_true rfl⟩ dX10_init_115 (fun H locs M => ?_)
  obtain ⟨h33, q34, hf⟩ := bnd hf
  refine x_putrF fl_X10_59 fp_X10_59.1 hin rfl fp_X10_59.2 (fun _ => rfl) (fun _ => rfl) X M q34 dX10_init_117 (fun H locs M => ?_)
  refine lv_aload_n X.1 X.2.1 dX10_init_120 rfl (lv_at hl 0 rfl) ?_
  refine lv_iconst (v := (0 : Int32)) X.1 X.2.1 dX10_init_121 (by decide) ?_
  obtain ⟨h35, q36, hf⟩ := bnd hf
  refine x_puti fl_X10_62 fp_X10_62.1 fp_X10_62.2 X M q36 dX10_init_122 (fun H locs M => ?_)
  refine lv_aload_n X.1 X.2.1 dX10_init_125 rfl (lv_at hl 0 rfl) ?_
  refine lv_iconst (v := (0 : Int32)) X.1 X.2.1 dX10_init_126 (by decide) ?_
  obtain ⟨h37, q38, hf⟩ := bnd hf
  refine x_puti fl_X10_65 fp_X10_65.1 fp_X10_65.2 X M q38 dX10_init_127 (fun H locs M => ?_)
  refine lv_aload_n X.1 X.2.1 dX10_init_130 rfl (lv_at hl 0 rfl) ?_
  refine lv_iconst (v := (0 : Int32)) X.1 X.2.1 dX10_init_131 (by decide) ?_
  obtain ⟨h39, q40, hf⟩ := bnd hf
  refine x_puti fl_X10_68 fp_X10_68.1 fp_X10_68.2 X M q40 dX10_init_132 (fun H locs M => ?_)
  refine lv_aload_n X.1 X.2.1 dX10_init_135 rfl (lv_at hl 0 rfl) ?_
  refine lv_iconst (v := (0 : Int32)) X.1 X.2.1 dX10_init_136 (by decide) ?_
  obtain ⟨h41, q42, hf⟩ := bnd hf
  refine x_puti fl_X10_71 fp_X10_71.1 fp_X10_71.2 X M q42 dX10_init_137 (fun H locs M => ?_)
  refine lv_aload_n X.1 X.2.1 dX10_init_140 rfl (lv_at hl 0 rfl) ?_
  refine lv_iconst (v := (0 : Int32)) X.1 X.2.1 dX10_init_141 (by decide) ?_
  obtain ⟨h43, q44, hf⟩ := bnd hf
  refine x_puti fl_X10_74 fp_X10_74.1 fp_X10_74.2 X M q44 dX10_init_142 (fun H locs M => ?_)
  refine lv_aload_n X.1 X.2.1 dX10_init_145 rfl (lv_at hl 0 rfl) ?_
  refine lv_bipush (v := (12 : Int32)) X.1 X.2.1 dX10_init_146 (by decide) ?_
  refine x_newI (N := 12) k_75 (by decide) (by decide) (by decide) X M ⟨Nat.le_of_ble_eq_true rfl, Nat.le_of_ble_eq_true rfl⟩ dX10_init_148 (fun H locs M => ?_)
  obtain ⟨h45, q46, hf⟩ := bnd hf
  refine x_putrF fl_X10_77 fp_X10_77.1 hin rfl fp_X10_77.2 (fun _ => rfl) (fun _ => rfl) X M q46 dX10_init_150 (fun H locs M => ?_)
  refine lv_aload_n X.1 X.2.1 dX10_init_153 rfl (lv_at hl 0 rfl) ?_
  refine lv_bipush (v := (16 : Int32)) X.1 X.2.1 dX10_init_154 (by decide) ?_
  refine x_newI (N := 16) k_75 (by decide) (by decide) (by decide) X M ⟨Nat.le_of_ble_eq_true rfl, Nat.le_of_ble_eq_true rfl⟩ dX10_init_156 (fun H locs M => ?_)
  obtain ⟨h47, q48, hf⟩ := bnd hf
  refine x_putrF fl_X10_80 fp_X10_80.1 hin rfl fp_X10_80.2 (fun _ => rfl) (fun _ => rfl) X M q48 dX10_init_158 (fun H locs M => ?_)
  refine lv_aload_n X.1 X.2.1 dX10_init_161 rfl (lv_at hl 0 rfl) ?_
  refine lv_iconst (v := (3 : Int32)) X.1 X.2.1 dX10_init_162 (by decide) ?_
  refine x_newI (N := 3) k_75 (by decide) (by decide) (by decide) X M ⟨Nat.le_of_ble_eq_true rfl, Nat.le_of_ble_eq_true rfl⟩ dX10_init_163 (fun H locs M => ?_)
  refine lv_dup X.1 X.2.1 dX10_init_165 rfl ?_
  refine lv_iconst (v := (0 : Int32)) X.1 X.2.1 dX10_init_166 (by decide) ?_
  refine lv_bipush (v := (10 : Int32)) X.1 X.2.1 dX10_init_167 (by decide) ?_
  obtain ⟨h49, q50, hf⟩ := bnd hf
  refine x_iast X M q50 dX10_init_169 (fun H locs M => ?_)
  refine lv_dup X.1 X.2.1 dX10_init_170 rfl ?_
  refine lv_iconst (v := (1 : Int32)) X.1 X.2.1 dX10_init_171 (by decide) ?_
  refine lv_bipush (v := (10 : Int32)) X.1 X.2.1 dX10_init_172 (by decide) ?_
  obtain ⟨h51, q52, hf⟩ := bnd hf
  refine x_iast X M q52 dX10_init_174 (fun H locs M => ?_)
  refine lv_dup X.1 X.2.1 dX10_init_175 rfl ?_
  refine lv_iconst (v := (2 : Int32)) X.1 X.2.1 dX10_init_176 (by decide) ?_
  refine lv_bipush (v := (10 : Int32)) X.1 X.2.1 dX10_init_177 (by decide) ?_
  obtain ⟨h53, q54, hf⟩ := bnd hf
  refine x_iast X M q54 dX10_init_179 (fun H locs M => ?_)
  obtain ⟨h55, q56, hf⟩ := bnd hf
  refine x_putrF fl_X10_83 fp_X10_83.1 hin rfl fp_X10_83.2 (fun _ => rfl) (fun _ => rfl) X M q56 dX10_init_180 (fun H locs M => ?_)
  refine lv_aload_n X.1 X.2.1 dX10_init_183 rfl (lv_at hl 0 rfl) ?_
  refine lv_iconst (v := (0 : Int32)) X.1 X.2.1 dX10_init_184 (by decide) ?_
  obtain ⟨h57, q58, hf⟩ := bnd hf
  refine x_puti fl_X10_86 fp_X10_86.1 fp_X10_86.2 X M q58 dX10_init_185 (fun H locs M => ?_)
  refine lv_aload_n X.1 X.2.1 dX10_init_188 rfl (lv_at hl 0 rfl) ?_
  refine lv_bipush (v := (104 : Int32)) X.1 X.2.1 dX10_init_189 (by decide) ?_
  obtain ⟨h59, q60, hf⟩ := bnd hf
  refine x_puti fl_X10_89 fp_X10_89.1 fp_X10_89.2 X M q60 dX10_init_191 (fun H locs M => ?_)
  refine lv_aload_n X.1 X.2.1 dX10_init_194 rfl (lv_at hl 0 rfl) ?_
  refine lv_bipush (v := (109 : Int32)) X.1 X.2.1 dX10_init_195 (by decide) ?_
  obtain ⟨h61, q62, hf⟩ := bnd hf
  refine x_puti fl_X10_92 fp_X10_92.1 fp_X10_92.2 X M q62 dX10_init_197 (fun H locs M => ?_)
  refine lv_aload_n X.1 X.2.1 dX10_init_200 rfl (lv_at hl 0 rfl) ?_
  refine lv_sipush (v := (288 : Int32)) X.1 X.2.1 dX10_init_201 (by decide) ?_
  refine x_newI (N := 288) k_75 (by decide) (by decide) (by decide) X M ⟨Nat.le_of_ble_eq_true rfl, Nat.le_of_ble_eq_true rfl⟩ dX10_init_204 (fun H locs M => ?_)
  obtain ⟨h63, q64, hf⟩ := bnd hf
  refine x_putrF fl_X10_95 fp_X10_95.1 hin rfl fp_X10_95.2 (fun _ => rfl) (fun _ => rfl) X M q64 dX10_init_206 (fun H locs M => ?_)
  refine lv_aload_n X.1 X.2.1 dX10_init_209 rfl (lv_at hl 0 rfl) ?_
  refine lv_iconst (v := (0 : Int32)) X.1 X.2.1 dX10_init_210 (by decide) ?_
  obtain ⟨h65, q66, hf⟩ := bnd hf
  refine x_putz fl_X10_98 fp_X10_98.1 fp_X10_98.2 X M q66 dX10_init_211 (fun H locs M => ?_)
  refine lv_aload_n X.1 X.2.1 dX10_init_214 rfl (lv_at hl 0 rfl) ?_
  refine lv_bipush (v := (121 : Int32)) X.1 X.2.1 dX10_init_215 (by decide) ?_
  refine x_newI (N := 121) k_75 (by decide) (by decide) (by decide) X M ⟨Nat.le_of_ble_eq_true rfl, Nat.le_of_ble_eq_true rfl⟩ dX10_init_217 (fun H locs M => ?_)
  obtain ⟨h67, q68, hf⟩ := bnd hf
  refine x_putrF fl_X10_102 fp_X10_102.1 hin rfl fp_X10_102.2 (fun _ => rfl) (fun _ => rfl) X M q68 dX10_init_219 (fun H locs M => ?_)
  refine lv_aload_n X.1 X.2.1 dX10_init_222 rfl (lv_at hl 0 rfl) ?_
  refine lv_bipush (v := (121 : Int32)) X.1 X.2.1 dX10_init_223 (by decide) ?_
  refine x_newZ (N := 121) k_1134 (by decide) (by decide) (by decide) X M ⟨Nat.le_of_ble_eq_true rfl, Nat.le_of_ble_eq_true rfl⟩ dX10_init_225 (fun H locs M => ?_)
  obtain ⟨h69, q70, hf⟩ := bnd hf
  refine x_putrF fl_X10_105 fp_X10_105.1 hin rfl fp_X10_105.2 (fun _ => rfl) (fun _ => rfl) X M q70 dX10_init_227 (fun H locs M => ?_)
  refine lv_aload_n X.1 X.2.1 dX10_init_230 rfl (lv_at hl 0 rfl) ?_
  refine lv_iconst (v := (0 : Int32)) X.1 X.2.1 dX10_init_231 (by decide) ?_
  obtain ⟨h71, q72, hf⟩ := bnd hf
  refine x_puti fl_X10_109 fp_X10_109.1 fp_X10_109.2 X M q72 dX10_init_232 (fun H locs M => ?_)
  refine lv_aload_n X.1 X.2.1 dX10_init_235 rfl (lv_at hl 0 rfl) ?_
  refine lv_iconst (v := (0 : Int32)) X.1 X.2.1 dX10_init_236 (by decide) ?_
  obtain ⟨h73, q74, hf⟩ := bnd hf
  refine x_puti fl_X10_112 fp_X10_112.1 fp_X10_112.2 X M q74 dX10_init_237 (fun H locs M => ?_)
  refine lv_aload_n X.1 X.2.1 dX10_init_240 rfl (lv_at hl 0 rfl) ?_
  refine lv_iconst (v := (0 : Int32)) X.1 X.2.1 dX10_init_241 (by decide) ?_
  obtain ⟨h75, q76, hf⟩ := bnd hf
  refine x_puti fl_X10_115 fp_X10_115.1 fp_X10_115.2 X M q76 dX10_init_242 (fun H locs M => ?_)
  refine lv_aload_n X.1 X.2.1 dX10_init_245 rfl (lv_at hl 0 rfl) ?_
  refine lv_bipush (v := (12 : Int32)) X.1 X.2.1 dX10_init_246 (by decide) ?_
  refine x_newI (N := 12) k_75 (by decide) (by decide) (by decide) X M ⟨Nat.le_of_ble_eq_true rfl, Nat.le_of_ble_eq_true rfl⟩ dX10_init_248 (fun H locs M => ?_)
  obtain ⟨h77, q78, hf⟩ := bnd hf
  refine x_putrF fl_X10_118 fp_X10_118.1 hin rfl fp_X10_118.2 (fun _ => rfl) (fun _ => rfl) X M q78 dX10_init_250 (fun H locs M => ?_)
  refine lv_aload_n X.1 X.2.1 dX10_init_253 rfl (lv_at hl 0 rfl) ?_
  refine lv_bipush (v := (16 : Int32)) X.1 X.2.1 dX10_init_254 (by decide) ?_
  refine x_newI (N := 16) k_75 (by decide) (by decide) (by decide) X M ⟨Nat.le_of_ble_eq_true rfl, Nat.le_of_ble_eq_true rfl⟩ dX10_init_256 (fun H locs M => ?_)
  obtain ⟨h79, q80, hf⟩ := bnd hf
  refine x_putrF fl_X10_121 fp_X10_121.1 hin rfl fp_X10_121.2 (fun _ => rfl) (fun _ => rfl) X M q80 dX10_init_258 (fun H locs M => ?_)
  refine lv_aload_n X.1 X.2.1 dX10_init_261 rfl (lv_at hl 0 rfl) ?_
  refine lv_iconst (v := (3 : Int32)) X.1 X.2.1 dX10_init_262 (by decide) ?_
  refine x_newI (N := 3) k_75 (by decide) (by decide) (by decide) X M ⟨Nat.le_of_ble_eq_true rfl, Nat.le_of_ble_eq_true rfl⟩ dX10_init_263 (fun H locs M => ?_)
  obtain ⟨h81, q82, hf⟩ := bnd hf
  refine x_putrF fl_X10_124 fp_X10_124.1 hin rfl fp_X10_124.2 (fun _ => rfl) (fun _ => rfl) X M q82 dX10_init_265 (fun H locs M => ?_)
  refine lv_aload_n X.1 X.2.1 dX10_init_268 rfl (lv_at hl 0 rfl) ?_
  refine lv_iconst (v := (0 : Int32)) X.1 X.2.1 dX10_init_269 (by decide) ?_
  obtain ⟨h83, q84, hf⟩ := bnd hf
  refine x_puti fl_X10_127 fp_X10_127.1 fp_X10_127.2 X M q84 dX10_init_270 (fun H locs M => ?_)
  refine lv_aload_n X.1 X.2.1 dX10_init_273 rfl (lv_at hl 0 rfl) ?_
  refine lv_bipush (v := (104 : Int32)) X.1 X.2.1 dX10_init_274 (by decide) ?_
  obtain ⟨h85, q86, hf⟩ := bnd hf
  refine x_puti fl_X10_130 fp_X10_130.1 fp_X10_130.2 X M q86 dX10_init_276 (fun H locs M => ?_)
  refine lv_aload_n X.1 X.2.1 dX10_init_279 rfl (lv_at hl 0 rfl) ?_
  refine lv_bipush (v := (109 : Int32)) X.1 X.2.1 dX10_init_280 (by decide) ?_
  obtain ⟨h87, q88, hf⟩ := bnd hf
  refine x_puti fl_X10_133 fp_X10_133.1 fp_X10_133.2 X M q88 dX10_init_282 (fun H locs M => ?_)
  refine lv_aload_n X.1 X.2.1 dX10_init_285 rfl (lv_at hl 0 rfl) ?_
  refine lv_bipush (v := (6 : Int32)) X.1 X.2.1 dX10_init_286 (by decide) ?_
  refine x_newI (N := 6) k_75 (by decide) (by decide) (by decide) X M ⟨Nat.le_of_ble_eq_true rfl, Nat.le_of_ble_eq_true rfl⟩ dX10_init_288 (fun H locs M => ?_)
  obtain ⟨h89, q90, hf⟩ := bnd hf
  refine x_putrF fl_X10_136 fp_X10_136.1 hin rfl fp_X10_136.2 (fun _ => rfl) (fun _ => rfl) X M q90 dX10_init_290 (fun H locs M => ?_)
  refine lv_aload_n X.1 X.2.1 dX10_init_293 rfl (lv_at hl 0 rfl) ?_
  refine lv_iconst (v := (3 : Int32)) X.1 X.2.1 dX10_init_294 (by decide) ?_
  refine x_newI (N := 3) k_75 (by decide) (by decide) (by decide) X M ⟨Nat.le_of_ble_eq_true rfl, Nat.le_of_ble_eq_true rfl⟩ dX10_init_295 (fun H locs M => ?_)
  obtain ⟨h91, q92, hf⟩ := bnd hf
  refine x_putrF fl_X10_139 fp_X10_139.1 hin rfl fp_X10_139.2 (fun _ => rfl) (fun _ => rfl) X M q92 dX10_init_297 (fun H locs M => ?_)
  refine lv_aload_n X.1 X.2.1 dX10_init_300 rfl (lv_at hl 0 rfl) ?_
  refine lv_bipush (v := (8 : Int32)) X.1 X.2.1 dX10_init_301 (by decide) ?_
  refine x_newI (N := 8) k_75 (by decide) (by decide) (by decide) X M ⟨Nat.le_of_ble_eq_true rfl, Nat.le_of_ble_eq_true rfl⟩ dX10_init_303 (fun H locs M => ?_)
  obtain ⟨h93, q94, hf⟩ := bnd hf
  refine x_putrF fl_X10_142 fp_X10_142.1 hin rfl fp_X10_142.2 (fun _ => rfl) (fun _ => rfl) X M q94 dX10_init_305 (fun H locs M => ?_)
  refine lv_aload_n X.1 X.2.1 dX10_init_308 rfl (lv_at hl 0 rfl) ?_
  refine lv_bipush (v := (8 : Int32)) X.1 X.2.1 dX10_init_309 (by decide) ?_
  refine x_newJ (N := 8) k_193 (by decide) (by decide) (by decide) X M ⟨Nat.le_of_ble_eq_true rfl, Nat.le_of_ble_eq_true rfl⟩ dX10_init_311 (fun H locs M => ?_)
  obtain ⟨h95, q96, hf⟩ := bnd hf
  refine x_putrF fl_X10_145 fp_X10_145.1 hin rfl fp_X10_145.2 (fun _ => rfl) (fun _ => rfl) X M q96 dX10_init_313 (fun H locs M => ?_)
  refine lv_aload_n X.1 X.2.1 dX10_init_316 rfl (lv_at hl 0 rfl) ?_
  refine lv_sipush (v := (420 : Int32)) X.1 X.2.1 dX10_init_317 (by decide) ?_
  refine x_newI (N := 420) k_75 (by decide) (by decide) (by decide) X M ⟨Nat.le_of_ble_eq_true rfl, Nat.le_of_ble_eq_true rfl⟩ dX10_init_320 (fun H locs M => ?_)
  obtain ⟨h97, q98, hf⟩ := bnd hf
  refine x_putrF fl_X10_149 fp_X10_149.1 hin rfl fp_X10_149.2 (fun _ => rfl) (fun _ => rfl) X M q98 dX10_init_322 (fun H locs M => ?_)
  refine lv_aload_n X.1 X.2.1 dX10_init_325 rfl (lv_at hl 0 rfl) ?_
  refine lv_bipush (v := (40 : Int32)) X.1 X.2.1 dX10_init_326 (by decide) ?_
  refine x_newI (N := 40) k_75 (by decide) (by decide) (by decide) X M ⟨Nat.le_of_ble_eq_true rfl, Nat.le_of_ble_eq_true rfl⟩ dX10_init_328 (fun H locs M => ?_)
  obtain ⟨h99, q100, hf⟩ := bnd hf
  refine x_putrF fl_X10_152 fp_X10_152.1 hin rfl fp_X10_152.2 (fun _ => rfl) (fun _ => rfl) X M q100 dX10_init_330 (fun H locs M => ?_)
  refine lv_aload_n X.1 X.2.1 dX10_init_333 rfl (lv_at hl 0 rfl) ?_
  refine lv_bipush (v := (8 : Int32)) X.1 X.2.1 dX10_init_334 (by decide) ?_
  refine x_newI (N := 8) k_75 (by decide) (by decide) (by decide) X M ⟨Nat.le_of_ble_eq_true rfl, Nat.le_of_ble_eq_true rfl⟩ dX10_init_336 (fun H locs M => ?_)
  obtain ⟨h101, q102, hf⟩ := bnd hf
  refine x_putrF fl_X10_155 fp_X10_155.1 hin rfl fp_X10_155.2 (fun _ => rfl) (fun _ => rfl) X M q102 dX10_init_338 (fun H locs M => ?_)
  refine lv_aload_n X.1 X.2.1 dX10_init_341 rfl (lv_at hl 0 rfl) ?_
  refine lv_bipush (v := (8 : Int32)) X.1 X.2.1 dX10_init_342 (by decide) ?_
  refine x_newI (N := 8) k_75 (by decide) (by decide) (by decide) X M ⟨Nat.le_of_ble_eq_true rfl, Nat.le_of_ble_eq_true rfl⟩ dX10_init_344 (fun H locs M => ?_)
  obtain ⟨h103, q104, hf⟩ := bnd hf
  refine x_putrF fl_X10_158 fp_X10_158.1 hin rfl fp_X10_158.2 (fun _ => rfl) (fun _ => rfl) X M q104 dX10_init_346 (fun H locs M => ?_)
  refine lv_aload_n X.1 X.2.1 dX10_init_349 rfl (lv_at hl 0 rfl) ?_
  refine lv_bipush (v := (8 : Int32)) X.1 X.2.1 dX10_init_350 (by decide) ?_
  refine x_newI (N := 8) k_75 (by decide) (by decide) (by decide) X M ⟨Nat.le_of_ble_eq_true rfl, Nat.le_of_ble_eq_true rfl⟩ dX10_init_352 (fun H locs M => ?_)
  obtain ⟨h105, q106, hf⟩ := bnd hf
  refine x_putrF fl_X10_161 fp_X10_161.1 hin rfl fp_X10_161.2 (fun _ => rfl) (fun _ => rfl) X M q106 dX10_init_354 (fun H locs M => ?_)
  refine lv_aload_n X.1 X.2.1 dX10_init_357 rfl (lv_at hl 0 rfl) ?_
  refine lv_iconst (v := (0 : Int32)) X.1 X.2.1 dX10_init_358 (by decide) ?_
  obtain ⟨h107, q108, hf⟩ := bnd hf
  refine x_puti fl_X10_164 fp_X10_164.1 fp_X10_164.2 X M q108 dX10_init_359 (fun H locs M => ?_)
  refine lv_aload_n X.1 X.2.1 dX10_init_362 rfl (lv_at hl 0 rfl) ?_
  refine lv_iconst (v := (4 : Int32)) X.1 X.2.1 dX10_init_363 (by decide) ?_
  refine x_newI (N := 4) k_75 (by decide) (by decide) (by decide) X M ⟨Nat.le_of_ble_eq_true rfl, Nat.le_of_ble_eq_true rfl⟩ dX10_init_364 (fun H locs M => ?_)
  obtain ⟨h109, q110, hf⟩ := bnd hf
  refine x_putrF fl_X10_167 fp_X10_167.1 hin rfl fp_X10_167.2 (fun _ => rfl) (fun _ => rfl) X M q110 dX10_init_366 (fun H locs M => ?_)
  refine lv_aload_n X.1 X.2.1 dX10_init_369 rfl (lv_at hl 0 rfl) ?_
  refine lv_iconst (v := (4 : Int32)) X.1 X.2.1 dX10_init_370 (by decide) ?_
  refine x_newI (N := 4) k_75 (by decide) (by decide) (by decide) X M ⟨Nat.le_of_ble_eq_true rfl, Nat.le_of_ble_eq_true rfl⟩ dX10_init_371 (fun H locs M => ?_)
  obtain ⟨h111, q112, hf⟩ := bnd hf
  refine x_putrF fl_X10_170 fp_X10_170.1 hin rfl fp_X10_170.2 (fun _ => rfl) (fun _ => rfl) X M q112 dX10_init_373 (fun H locs M => ?_)
  refine lv_aload_n X.1 X.2.1 dX10_init_376 rfl (lv_at hl 0 rfl) ?_
  refine lv_iconst (v := (4 : Int32)) X.1 X.2.1 dX10_init_377 (by decide) ?_
  refine x_newI (N := 4) k_75 (by decide) (by decide) (by decide) X M ⟨Nat.le_of_ble_eq_true rfl, Nat.le_of_ble_eq_true rfl⟩ dX10_init_378 (fun H locs M => ?_)
  obtain ⟨h113, q114, hf⟩ := bnd hf
  refine x_putrF fl_X10_173 fp_X10_173.1 hin rfl fp_X10_173.2 (fun _ => rfl) (fun _ => rfl) X M q114 dX10_init_380 (fun H locs M => ?_)
  refine lv_aload_n X.1 X.2.1 dX10_init_383 rfl (lv_at hl 0 rfl) ?_
  refine lv_iconst (v := (4 : Int32)) X.1 X.2.1 dX10_init_384 (by decide) ?_
  refine x_newI (N := 4) k_75 (by decide) (by decide) (by decide) X M ⟨Nat.le_of_ble_eq_true rfl, Nat.le_of_ble_eq_true rfl⟩ dX10_init_385 (fun H locs M => ?_)
  obtain ⟨h115, q116, hf⟩ := bnd hf
  refine x_putrF fl_X10_176 fp_X10_176.1 hin rfl fp_X10_176.2 (fun _ => rfl) (fun _ => rfl) X M q116 dX10_init_387 (fun H locs M => ?_)
  refine lv_aload_n X.1 X.2.1 dX10_init_390 rfl (lv_at hl 0 rfl) ?_
  refine lv_iconst (v := (0 : Int32)) X.1 X.2.1 dX10_init_391 (by decide) ?_
  obtain ⟨h117, q118, hf⟩ := bnd hf
  refine x_puti fl_X10_179 fp_X10_179.1 fp_X10_179.2 X M q118 dX10_init_392 (fun H locs M => ?_)
  refine lv_aload_n X.1 X.2.1 dX10_init_395 rfl (lv_at hl 0 rfl) ?_
  refine lv_bipush (v := (20 : Int32)) X.1 X.2.1 dX10_init_396 (by decide) ?_
  refine x_newI (N := 20) k_75 (by decide) (by decide) (by decide) X M ⟨Nat.le_of_ble_eq_true rfl, Nat.le_of_ble_eq_true rfl⟩ dX10_init_398 (fun H locs M => ?_)
  obtain ⟨h119, q120, hf⟩ := bnd hf
  refine x_putrF fl_X10_182 fp_X10_182.1 hin rfl fp_X10_182.2 (fun _ => rfl) (fun _ => rfl) X M q120 dX10_init_400 (fun H locs M => ?_)
  refine lv_aload_n X.1 X.2.1 dX10_init_403 rfl (lv_at hl 0 rfl) ?_
  refine lv_bipush (v := (6 : Int32)) X.1 X.2.1 dX10_init_404 (by decide) ?_
  refine x_newI (N := 6) k_75 (by decide) (by decide) (by decide) X M ⟨Nat.le_of_ble_eq_true rfl, Nat.le_of_ble_eq_true rfl⟩ dX10_init_406 (fun H locs M => ?_)
  refine lv_dup X.1 X.2.1 dX10_init_408 rfl ?_
  refine lv_iconst (v := (0 : Int32)) X.1 X.2.1 dX10_init_409 (by decide) ?_
  refine lv_iconst (v := (-1 : Int32)) X.1 X.2.1 dX10_init_410 (by decide) ?_
  obtain ⟨h121, q122, hf⟩ := bnd hf
  refine x_iast X M q122 dX10_init_411 (fun H locs M => ?_)
  refine lv_dup X.1 X.2.1 dX10_init_412 rfl ?_
  refine lv_iconst (v := (1 : Int32)) X.1 X.2.1 dX10_init_413 (by decide) ?_
  refine lv_iconst (v := (-1 : Int32)) X.1 X.2.1 dX10_init_414 (by decide) ?_
  obtain ⟨h123, q124, hf⟩ := bnd hf
  refine x_iast X M q124 dX10_init_415 (fun H locs M => ?_)
  refine lv_dup X.1 X.2.1 dX10_init_416 rfl ?_
  refine lv_iconst (v := (2 : Int32)) X.1 X.2.1 dX10_init_417 (by decide) ?_
  refine lv_iconst (v := (-1 : Int32)) X.1 X.2.1 dX10_init_418 (by decide) ?_
  obtain ⟨h125, q126, hf⟩ := bnd hf
  refine x_iast X M q126 dX10_init_419 (fun H locs M => ?_)
  refine lv_dup X.1 X.2.1 dX10_init_420 rfl ?_
  refine lv_iconst (v := (3 : Int32)) X.1 X.2.1 dX10_init_421 (by decide) ?_
  refine lv_iconst (v := (-1 : Int32)) X.1 X.2.1 dX10_init_422 (by decide) ?_
  obtain ⟨h127, q128, hf⟩ := bnd hf
  refine x_iast X M q128 dX10_init_423 (fun H locs M => ?_)
  refine lv_dup X.1 X.2.1 dX10_init_424 rfl ?_
  refine lv_iconst (v := (4 : Int32)) X.1 X.2.1 dX10_init_425 (by decide) ?_
  refine lv_iconst (v := (-1 : Int32)) X.1 X.2.1 dX10_init_426 (by decide) ?_
  obtain ⟨h129, q130, hf⟩ := bnd hf
  refine x_iast X M q130 dX10_init_427 (fun H locs M => ?_)
  refine lv_dup X.1 X.2.1 dX10_init_428 rfl ?_
  refine lv_iconst (v := (5 : Int32)) X.1 X.2.1 dX10_init_429 (by decide) ?_
  refine lv_iconst (v := (-1 : Int32)) X.1 X.2.1 dX10_init_430 (by decide) ?_
  obtain ⟨h131, q132, hf⟩ := bnd hf
  refine x_iast X M q132 dX10_init_431 (fun H locs M => ?_)
  obtain ⟨h133, q134, hf⟩ := bnd hf
  refine x_putrF fl_X10_185 fp_X10_185.1 hin rfl fp_X10_185.2 (fun _ => rfl) (fun _ => rfl) X M q134 dX10_init_432 (fun H locs M => ?_)
  refine lv_aload_n X.1 X.2.1 dX10_init_435 rfl (lv_at hl 0 rfl) ?_
  refine lv_bipush (v := (6 : Int32)) X.1 X.2.1 dX10_init_436 (by decide) ?_
  refine x_newI (N := 6) k_75 (by decide) (by decide) (by decide) X M ⟨Nat.le_of_ble_eq_true rfl, Nat.le_of_ble_eq_true rfl⟩ dX10_init_438 (fun H locs M => ?_)
  obtain ⟨h135, q136, hf⟩ := bnd hf
  refine x_putrF fl_X10_188 fp_X10_188.1 hin rfl fp_X10_188.2 (fun _ => rfl) (fun _ => rfl) X M q136 dX10_init_440 (fun H locs M => ?_)
  refine lv_aload_n X.1 X.2.1 dX10_init_443 rfl (lv_at hl 0 rfl) ?_
  refine lv_sipush (v := (360 : Int32)) X.1 X.2.1 dX10_init_444 (by decide) ?_
  refine x_newJ (N := 360) k_193 (by decide) (by decide) (by decide) X M ⟨Nat.le_of_ble_eq_true rfl, Nat.le_of_ble_eq_true rfl⟩ dX10_init_447 (fun H locs M => ?_)
  obtain ⟨h137, q138, hf⟩ := bnd hf
  refine x_putrF fl_X10_191 fp_X10_191.1 hin rfl fp_X10_191.2 (fun _ => rfl) (fun _ => rfl) X M q138 dX10_init_449 (fun H locs M => ?_)
  refine lv_aload_n X.1 X.2.1 dX10_init_452 rfl (lv_at hl 0 rfl) ?_
  refine lv_bipush (v := (60 : Int32)) X.1 X.2.1 dX10_init_453 (by decide) ?_
  refine x_newJ (N := 60) k_193 (by decide) (by decide) (by decide) X M ⟨Nat.le_of_ble_eq_true rfl, Nat.le_of_ble_eq_true rfl⟩ dX10_init_455 (fun H locs M => ?_)
  obtain ⟨h139, q140, hf⟩ := bnd hf
  refine x_putrF fl_X10_194 fp_X10_194.1 hin rfl fp_X10_194.2 (fun _ => rfl) (fun _ => rfl) X M q140 dX10_init_457 (fun H locs M => ?_)
  obtain rfl := rt1 hf
  exact x_vret X hr hk M hL dX10_init_460
theorem c_X10_init (l : Launch) (G : Gx) (N : Nat) (v0 : Nat) (h : Mem) (h' : Mem) (hf : f_X10_init N v0 h = some h') : MetG l G yX10_init (.code yX10_init cX10_init 1 (Option.none : Option Jvm.ClassFile.FieldType)) rm_X10_init [.ref (gB G + v0)] h (QcV G h' (h.1.length + 39)) 39 1875 :=
  x_met (by decide) rfl (Nat.le_of_ble_eq_true rfl) (fun p e s m args below meth c ls X M hr hk hin hl => w_X10_init X hr hk (by have := M.2.2; omega) hin N v0 h hf _ _ ls M hl)
abbrev rm_X10_in : Room := { frames := 1, cells := 0, slots := 0, locals := 40 }
def f_X10_in (N : Nat) (v0 : Nat) (v1 : Int32) (v2 : Int32) (v3 : Int32) (h : Mem) : Option (Int32 × Mem) :=
  if v1 < v2 then
    some ((0 : Int32), h)
  else
    if v3 < v1 then
      some ((0 : Int32), h)
    else
      some ((1 : Int32), h)
set_option maxRecDepth 100000 in
set_option maxHeartbeats 4000000 in
theorem w_X10_in {p : Program} {l : Launch} {e : Env} {s : State} {m : MethodId} {args : Array Value} {below : List Frame} {meth : Method} {c : Code} {G : Gx} {r : Int32} {h' : Mem} (X : CX G p s m args c cX10_in 4 RX10) (hr : meth.sig.returnType = (Option.some Jvm.ClassFile.FieldType.boolean)) (hk : meth.locks = false) (N : Nat) : ∀ (v0 : Nat) (v1 : Int32) (v2 : Int32) (v3 : Int32) (h : Mem), f_X10_in N v0 v1 v2 v3 h = some (r, h') → ∀ (H : Heap) (locs : List Loc) (ls : Array Slot), MS G s h H locs 0 → lv_has ls 4 [(0, .ref (gB G + v0)), (1, .int v1), (2, .int v2), (3, .int v3)] → W p l e (rm_X10_in) s m args below meth c H locs 0 0 (QI G below args s r h' 0 0) (F0 m 0 ls []) := by
  intro v0 v1 v2 v3 h hf H locs ls M hl
  rw [f_X10_in] at hf
  refine lv_iload_n X.1 X.2.1 dX10_in_0 rfl (lv_at hl 1 rfl) ?_
  refine lv_iload_n X.1 X.2.1 dX10_in_1 rfl (lv_at hl 2 rfl) ?_
  refine lv_icmp_lt (tgt := 14) X.1 X.2.1 dX10_in_2 (by decide) (fun c1 => ?_) (fun c1 => ?_)
  · have hf := ifp c1 hf
    refine lv_iconst (v := (0 : Int32)) X.1 X.2.1 dX10_in_14 (by decide) ?_
    obtain ⟨rfl, rfl⟩ := rt2 hf
    exact x_zret X hr hk rfl M dX10_in_15
  · have hf := ifn c1 hf
    refine lv_iload_n X.1 X.2.1 dX10_in_5 rfl (lv_at hl 1 rfl) ?_
    refine lv_iload_n X.1 X.2.1 dX10_in_6 rfl (lv_at hl 3 rfl) ?_
    refine lv_icmp_gt (tgt := 14) X.1 X.2.1 dX10_in_7 (by decide) (fun c2 => ?_) (fun c2 => ?_)
    · have hf := ifp c2 hf
      refine lv_iconst (v := (0 : Int32)) X.1 X.2.1 dX10_in_14 (by decide) ?_
      obtain ⟨rfl, rfl⟩ := rt2 hf
      exact x_zret X hr hk rfl M dX10_in_15
    · have hf := ifn c2 hf
      refine lv_iconst (v := (1 : Int32)) X.1 X.2.1 dX10_in_10 (by decide) ?_
      refine lv_goto (tgt := 15) X.1 X.2.1 dX10_in_11 (by decide) ?_
      obtain ⟨rfl, rfl⟩ := rt2 hf
      exact x_zret X hr hk rfl M dX10_in_15
theorem c_X10_in (l : Launch) (G : Gx) (N : Nat) (v0 : Nat) (v1 : Int32) (v2 : Int32) (v3 : Int32) (h : Mem) (r : Int32) (h' : Mem) (hf : f_X10_in N v0 v1 v2 v3 h = some (r, h')) : MetG l G yX10_in (.code yX10_in cX10_in 4 (Option.some Jvm.ClassFile.FieldType.boolean)) rm_X10_in [.ref (gB G + v0), .int v1, .int v2, .int v3] h (QcI G r h') 0 0 :=
  x_met (by decide) rfl (Nat.le_of_ble_eq_true rfl) (fun p e s m args below meth c ls X M hr hk hin hl => w_X10_in X hr hk N v0 v1 v2 v3 h hf _ _ ls M hl)
abbrev rm_X10_town : Room := { frames := 2, cells := 0, slots := 0, locals := 63 }
def f_X10_town (N : Nat) (v0 : Nat) (v1 : Int32) (h : Mem) : Option (Int32 × Mem) :=
  (ck h v0 10).bind fun _ =>
  b2 (f_X10_in N v0 v1 (1 : Int32) (8 : Int32) h) fun t4 h3 =>
  if t4 = 0 then
    some ((-2 : Int32), h3)
  else
    (gI h3 v0 10 0).bind fun t6 =>
    if t6 = (4 : Int32) then
      some ((-4 : Int32), h3)
    else
      (gR h3 v0 10 3).bind fun t9 =>
      (gI h3 v0 10 0).bind fun t11 =>
      (stI 100 h3 t9 t11 v1).bind fun h13 =>
      (gI h13 v0 10 0).bind fun t15 =>
      (sI h13 v0 10 0 (t15 + (1 : Int32))).bind fun h17 =>
      (gI h17 v0 10 0).bind fun t19 =>
      some ((t19 - (1 : Int32)), h17)
set_option maxRecDepth 100000 in
set_option maxHeartbeats 4000000 in
theorem w_X10_town {p : Program} {l : Launch} {e : Env} {s : State} {m : MethodId} {args : Array Value} {below : List Frame} {meth : Method} {c : Code} {G : Gx} {r : Int32} {h' : Mem} (X : CX G p s m args c cX10_town 2 RX10) (hr : meth.sig.returnType = (Option.some Jvm.ClassFile.FieldType.int)) (hk : meth.locks = false) (N : Nat) : ∀ (v0 : Nat) (v1 : Int32) (h : Mem), f_X10_town N v0 v1 h = some (r, h') → ∀ (H : Heap) (locs : List Loc) (ls : Array Slot), MS G s h H locs 0 → lv_has ls 2 [(0, .ref (gB G + v0)), (1, .int v1)] → W p l e (rm_X10_town) s m args below meth c H locs 0 0 (QI G below args s r h' 0 0) (F0 m 0 ls []) := by
  intro v0 v1 h hf H locs ls M hl
  rw [f_X10_town] at hf
  refine lv_aload_n X.1 X.2.1 dX10_town_0 rfl (lv_at hl 0 rfl) ?_
  refine lv_iload_n X.1 X.2.1 dX10_town_1 rfl (lv_at hl 1 rfl) ?_
  refine lv_iconst (v := (1 : Int32)) X.1 X.2.1 dX10_town_2 (by decide) ?_
  refine lv_bipush (v := (8 : Int32)) X.1 X.2.1 dX10_town_3 (by decide) ?_
  obtain ⟨⟨⟩, q1, hf⟩ := bnd hf
  obtain ⟨t4, h3, q2, hf⟩ := bnd2 hf
  refine x_callVi (As := [.int v1, .int (1 : Int32), .int (8 : Int32)]) cf_X10_197 (c_X10_in l G N v0 v1 (1 : Int32) (8 : Int32) h _ _ q2) rfl ⟨rfl, rfl, Nat.le_of_ble_eq_true rfl, Nat.le_of_ble_eq_true rfl⟩ ⟨Nat.le_of_ble_eq_true rfl, Nat.le_of_ble_eq_true rfl⟩ X M (x_recv cls_X10 X M q1) rfl rfl hl.1 (Nat.le_of_ble_eq_true rfl) dX10_town_5 (fun H locs M => ?_)
  refine lv_if_ne (tgt := 14) X.1 X.2.1 dX10_town_8 (by decide) (fun c5 => ?_) (fun c5 => ?_)
  · have hf := ifn c5 hf
    refine lv_aload_n X.1 X.2.1 dX10_town_14 rfl (lv_at hl 0 rfl) ?_
    obtain ⟨t6, q7, hf⟩ := bnd hf
    refine x_geti fl_X10_7 X M q7 dX10_town_15 ?_
    refine lv_iconst (v := (4 : Int32)) X.1 X.2.1 dX10_town_18 (by decide) ?_
    refine lv_icmp_ne (tgt := 25) X.1 X.2.1 dX10_town_19 (by decide) (fun c8 => ?_) (fun c8 => ?_)
    · have hf := ifn c8 hf
      refine lv_aload_n X.1 X.2.1 dX10_town_25 rfl (lv_at hl 0 rfl) ?_
      obtain ⟨t9, q10, hf⟩ := bnd hf
      refine x_getr fl_X10_19 X M q10 dX10_town_26 ?_
      refine lv_aload_n X.1 X.2.1 dX10_town_29 rfl (lv_at hl 0 rfl) ?_
      obtain ⟨t11, q12, hf⟩ := bnd hf
      refine x_geti fl_X10_7 X M q12 dX10_town_30 ?_
      refine lv_iload_n X.1 X.2.1 dX10_town_33 rfl (lv_at hl 1 rfl) ?_
      obtain ⟨h13, q14, hf⟩ := bnd hf
      refine x_iast X M q14 dX10_town_34 (fun H locs M => ?_)
      refine lv_aload_n X.1 X.2.1 dX10_town_35 rfl (lv_at hl 0 rfl) ?_
      refine lv_dup X.1 X.2.1 dX10_town_36 rfl ?_
      obtain ⟨t15, q16, hf⟩ := bnd hf
      refine x_geti fl_X10_7 X M q16 dX10_town_37 ?_
      refine lv_iconst (v := (1 : Int32)) X.1 X.2.1 dX10_town_40 (by decide) ?_
      refine lv_iadd X.1 X.2.1 dX10_town_41 ?_
      obtain ⟨h17, q18, hf⟩ := bnd hf
      refine x_puti fl_X10_7 fp_X10_7.1 fp_X10_7.2 X M q18 dX10_town_42 (fun H locs M => ?_)
      refine lv_aload_n X.1 X.2.1 dX10_town_45 rfl (lv_at hl 0 rfl) ?_
      obtain ⟨t19, q20, hf⟩ := bnd hf
      refine x_geti fl_X10_7 X M q20 dX10_town_46 ?_
      refine lv_iconst (v := (1 : Int32)) X.1 X.2.1 dX10_town_49 (by decide) ?_
      refine lv_isub X.1 X.2.1 dX10_town_50 ?_
      obtain ⟨rfl, rfl⟩ := rt2 hf
      exact x_iret X hr hk M dX10_town_51
    · have hf := ifp c8 hf
      refine lv_bipush (v := (-4 : Int32)) X.1 X.2.1 dX10_town_22 (by decide) ?_
      obtain ⟨rfl, rfl⟩ := rt2 hf
      exact x_iret X hr hk M dX10_town_24
  · have hf := ifp c5 hf
    refine lv_bipush (v := (-2 : Int32)) X.1 X.2.1 dX10_town_11 (by decide) ?_
    obtain ⟨rfl, rfl⟩ := rt2 hf
    exact x_iret X hr hk M dX10_town_13
theorem c_X10_town (l : Launch) (G : Gx) (N : Nat) (v0 : Nat) (v1 : Int32) (h : Mem) (r : Int32) (h' : Mem) (hf : f_X10_town N v0 v1 h = some (r, h')) : MetG l G yX10_town (.code yX10_town cX10_town 2 (Option.some Jvm.ClassFile.FieldType.int)) rm_X10_town [.ref (gB G + v0), .int v1] h (QcI G r h') 0 0 :=
  x_met (by decide) rfl (Nat.le_of_ble_eq_true rfl) (fun p e s m args below meth c ls X M hr hk hin hl => w_X10_town X hr hk N v0 v1 h hf _ _ ls M hl)
abbrev rm_X10_isTown : Room := { frames := 2, cells := 0, slots := 0, locals := 63 }
def f_X10_isTown (N : Nat) (v0 : Nat) (v1 : Int32) (h : Mem) : Option (Int32 × Mem) :=
  (gI h v0 10 0).bind fun t1 =>
  (ck h v0 10).bind fun _ =>
  b2 (f_X10_in N v0 v1 (0 : Int32) (t1 - (1 : Int32)) h) fun t6 h5 =>
  rz t6 h5
set_option maxRecDepth 100000 in
set_option maxHeartbeats 4000000 in
theorem w_X10_isTown {p : Program} {l : Launch} {e : Env} {s : State} {m : MethodId} {args : Array Value} {below : List Frame} {meth : Method} {c : Code} {G : Gx} {r : Int32} {h' : Mem} (X : CX G p s m args c cX10_isTown 2 RX10) (hr : meth.sig.returnType = (Option.some Jvm.ClassFile.FieldType.boolean)) (hk : meth.locks = false) (N : Nat) : ∀ (v0 : Nat) (v1 : Int32) (h : Mem), f_X10_isTown N v0 v1 h = some (r, h') → ∀ (H : Heap) (locs : List Loc) (ls : Array Slot), MS G s h H locs 0 → lv_has ls 2 [(0, .ref (gB G + v0)), (1, .int v1)] → W p l e (rm_X10_isTown) s m args below meth c H locs 0 0 (QI G below args s r h' 0 0) (F0 m 0 ls []) := by
  intro v0 v1 h hf H locs ls M hl
  rw [f_X10_isTown] at hf
  refine lv_aload_n X.1 X.2.1 dX10_isTown_0 rfl (lv_at hl 0 rfl) ?_
  refine lv_iload_n X.1 X.2.1 dX10_isTown_1 rfl (lv_at hl 1 rfl) ?_
  refine lv_iconst (v := (0 : Int32)) X.1 X.2.1 dX10_isTown_2 (by decide) ?_
  refine lv_aload_n X.1 X.2.1 dX10_isTown_3 rfl (lv_at hl 0 rfl) ?_
  obtain ⟨t1, q2, hf⟩ := bnd hf
  refine x_geti fl_X10_7 X M q2 dX10_isTown_4 ?_
  refine lv_iconst (v := (1 : Int32)) X.1 X.2.1 dX10_isTown_7 (by decide) ?_
  refine lv_isub X.1 X.2.1 dX10_isTown_8 ?_
  obtain ⟨⟨⟩, q3, hf⟩ := bnd hf
  obtain ⟨t6, h5, q4, hf⟩ := bnd2 hf
  refine x_callVi (As := [.int v1, .int (0 : Int32), .int (t1 - (1 : Int32))]) cf_X10_197 (c_X10_in l G N v0 v1 (0 : Int32) (t1 - (1 : Int32)) h _ _ q4) rfl ⟨rfl, rfl, Nat.le_of_ble_eq_true rfl, Nat.le_of_ble_eq_true rfl⟩ ⟨Nat.le_of_ble_eq_true rfl, Nat.le_of_ble_eq_true rfl⟩ X M (x_recv cls_X10 X M q3) rfl rfl hl.1 (Nat.le_of_ble_eq_true rfl) dX10_isTown_9 (fun H locs M => ?_)
  obtain ⟨z, rfl, rfl⟩ := rz_spec hf
  exact x_zret X hr hk (nz z) M dX10_isTown_12
theorem c_X10_isTown (l : Launch) (G : Gx) (N : Nat) (v0 : Nat) (v1 : Int32) (h : Mem) (r : Int32) (h' : Mem) (hf : f_X10_isTown N v0 v1 h = some (r, h')) : MetG l G yX10_isTown (.code yX10_isTown cX10_isTown 2 (Option.some Jvm.ClassFile.FieldType.boolean)) rm_X10_isTown [.ref (gB G + v0), .int v1] h (QcI G r h') 0 0 :=
  x_met (by decide) rfl (Nat.le_of_ble_eq_true rfl) (fun p e s m args below meth c ls X M hr hk hin hl => w_X10_isTown X hr hk N v0 v1 h hf _ _ ls M hl)
abbrev rm_X10_manyIn : Room := { frames := 1, cells := 0, slots := 0, locals := 40 }
def f_X10_manyIn_28 (N : Nat) (v0 : Nat) (v1 : Int32) (v3 : Int32) (s0 : Int32) (s1 : Int32) (h : Mem) (k4 : Nat → Int32 → Int32 → Int32 → Mem → Option (Int32 × Mem)) : Option (Int32 × Mem) :=
  k4 v0 v1 (s0 + s1) (v3 + 1) h
set_option maxRecDepth 100000 in
set_option maxHeartbeats 4000000 in
theorem w_X10_manyIn_28 {p : Program} {l : Launch} {e : Env} {s : State} {m : MethodId} {args : Array Value} {below : List Frame} {meth : Method} {c : Code} {G : Gx} {r : Int32} {h' : Mem} (X : CX G p s m args c cX10_manyIn 4 RX10) (hr : meth.sig.returnType = (Option.some Jvm.ClassFile.FieldType.int)) (hk : meth.locks = false) (N : Nat) (k4 : Nat → Int32 → Int32 → Int32 → Mem → Option (Int32 × Mem)) (K4 : ∀ (v0 : Nat) (v1 : Int32) (v2 : Int32) (v3 : Int32) (h : Mem), k4 v0 v1 v2 v3 h = some (r, h') → ∀ (H : Heap) (locs : List Loc) (ls : Array Slot), MS G s h H locs 0 → lv_has ls 4 [(0, .ref (gB G + v0)), (1, .int v1), (2, .int v2), (3, .int v3)] → W p l e (rm_X10_manyIn) s m args below meth c H locs 0 0 (QI G below args s r h' 0 0) (F0 m 4 ls [])) : ∀ (v0 : Nat) (v1 : Int32) (v3 : Int32) (s0 : Int32) (s1 : Int32) (h : Mem), f_X10_manyIn_28 N v0 v1 v3 s0 s1 h k4 = some (r, h') → ∀ (H : Heap) (locs : List Loc) (ls : Array Slot), MS G s h H locs 0 → lv_has ls 4 [(0, .ref (gB G + v0)), (1, .int v1), (3, .int v3)] → W p l e (rm_X10_manyIn) s m args below meth c H locs 0 0 (QI G below args s r h' 0 0) (F0 m 28 ls [.int s1, .int s0]) := by
  intro v0 v1 v3 s0 s1 h hf H locs ls M hl
  rw [f_X10_manyIn_28] at hf
  refine lv_iadd X.1 X.2.1 dX10_manyIn_28 ?_
  refine lv_istore_n (lv' := [(2, .int (s0 + s1)), (0, .ref (gB G + v0)), (1, .int v1), (3, .int v3)]) X.1 X.2.1 dX10_manyIn_29 rfl hl (by decide) rfl (fun ls hl => ?_)
  refine lv_iinc (v := (v3 + 1)) (lv' := [(3, .int (v3 + 1)), (2, .int (s0 + s1)), (0, .ref (gB G + v0)), (1, .int v1)]) X.1 X.2.1 dX10_manyIn_30 hl (k := 3) rfl (by first | rfl | decide) (by decide) rfl (fun ls hl => ?_)
  refine lv_goto (tgt := 4) X.1 X.2.1 dX10_manyIn_33 (by decide) ?_
  exact K4 v0 v1 (s0 + s1) (v3 + 1) h hf _ _ _ M (lv_sub hl [2, 3, 1, 0] rfl)
def f_X10_manyIn_4 (N : Nat) (n : Nat) (v0 : Nat) (v1 : Int32) (v2 : Int32) (v3 : Int32) (h : Mem) : Option (Int32 × Mem) := match n with
  | 0 => none
  | n + 1 =>
    (gI h v0 10 1).bind fun t1 =>
    if t1 ≤ v3 then
      some (v2, h)
    else
      (gR h v0 10 10).bind fun t4 =>
      (lI 100 h t4 v3).bind fun t6 =>
      if t6 = v1 then
        f_X10_manyIn_28 N v0 v1 v3 v2 (1 : Int32) h (fun v0 v1 v2 v3 h => f_X10_manyIn_4 N n v0 v1 v2 v3 h)
      else
        f_X10_manyIn_28 N v0 v1 v3 v2 (0 : Int32) h (fun v0 v1 v2 v3 h => f_X10_manyIn_4 N n v0 v1 v2 v3 h)
set_option maxRecDepth 100000 in
set_option maxHeartbeats 4000000 in
theorem w_X10_manyIn_4 {p : Program} {l : Launch} {e : Env} {s : State} {m : MethodId} {args : Array Value} {below : List Frame} {meth : Method} {c : Code} {G : Gx} {r : Int32} {h' : Mem} (X : CX G p s m args c cX10_manyIn 4 RX10) (hr : meth.sig.returnType = (Option.some Jvm.ClassFile.FieldType.int)) (hk : meth.locks = false) (N : Nat) : ∀ (n : Nat) (v0 : Nat) (v1 : Int32) (v2 : Int32) (v3 : Int32) (h : Mem), f_X10_manyIn_4 N n v0 v1 v2 v3 h = some (r, h') → ∀ (H : Heap) (locs : List Loc) (ls : Array Slot), MS G s h H locs 0 → lv_has ls 4 [(0, .ref (gB G + v0)), (1, .int v1), (2, .int v2), (3, .int v3)] → W p l e (rm_X10_manyIn) s m args below meth c H locs 0 0 (QI G below args s r h' 0 0) (F0 m 4 ls []) := by
  intro n
  induction n with
  | zero =>
    intro v0 v1 v2 v3 h hf
    cases hf
  | succ n ih =>
    intro v0 v1 v2 v3 h hf H locs ls M hl
    rw [f_X10_manyIn_4] at hf
    refine lv_iload_n X.1 X.2.1 dX10_manyIn_4 rfl (lv_at hl 3 rfl) ?_
    refine lv_aload_n X.1 X.2.1 dX10_manyIn_5 rfl (lv_at hl 0 rfl) ?_
    obtain ⟨t1, q2, hf⟩ := bnd hf
    refine x_geti fl_X10_13 X M q2 dX10_manyIn_6 ?_
    refine lv_icmp_ge (tgt := 36) X.1 X.2.1 dX10_manyIn_9 (by decide) (fun c3 => ?_) (fun c3 => ?_)
    · have hf := ifp c3 hf
      refine lv_iload_n X.1 X.2.1 dX10_manyIn_36 rfl (lv_at hl 2 rfl) ?_
      obtain ⟨rfl, rfl⟩ := rt2 hf
      exact x_iret X hr hk M dX10_manyIn_37
    · have hf := ifn c3 hf
      refine lv_iload_n X.1 X.2.1 dX10_manyIn_12 rfl (lv_at hl 2 rfl) ?_
      refine lv_aload_n X.1 X.2.1 dX10_manyIn_13 rfl (lv_at hl 0 rfl) ?_
      obtain ⟨t4, q5, hf⟩ := bnd hf
      refine x_getr fl_X10_41 X M q5 dX10_manyIn_14 ?_
      refine lv_iload_n X.1 X.2.1 dX10_manyIn_17 rfl (lv_at hl 3 rfl) ?_
      obtain ⟨t6, q7, hf⟩ := bnd hf
      refine x_iald X M q7 dX10_manyIn_18 ?_
      refine lv_iload_n X.1 X.2.1 dX10_manyIn_19 rfl (lv_at hl 1 rfl) ?_
      refine lv_icmp_ne (tgt := 27) X.1 X.2.1 dX10_manyIn_20 (by decide) (fun c8 => ?_) (fun c8 => ?_)
      · have hf := ifn c8 hf
        refine lv_iconst (v := (0 : Int32)) X.1 X.2.1 dX10_manyIn_27 (by decide) ?_
        exact w_X10_manyIn_28 X hr hk N _ (fun v0 v1 v2 v3 h hf H locs ls M hl => ih v0 v1 v2 v3 h hf H locs ls M hl) v0 v1 v3 v2 (0 : Int32) h hf _ _ _ M (lv_sub hl [0, 1, 3] rfl)
      · have hf := ifp c8 hf
        refine lv_iconst (v := (1 : Int32)) X.1 X.2.1 dX10_manyIn_23 (by decide) ?_
        refine lv_goto (tgt := 28) X.1 X.2.1 dX10_manyIn_24 (by decide) ?_
        exact w_X10_manyIn_28 X hr hk N _ (fun v0 v1 v2 v3 h hf H locs ls M hl => ih v0 v1 v2 v3 h hf H locs ls M hl) v0 v1 v3 v2 (1 : Int32) h hf _ _ _ M (lv_sub hl [0, 1, 3] rfl)
def f_X10_manyIn (N : Nat) (v0 : Nat) (v1 : Int32) (h : Mem) : Option (Int32 × Mem) :=
  f_X10_manyIn_4 N N v0 v1 (0 : Int32) (0 : Int32) h
set_option maxRecDepth 100000 in
set_option maxHeartbeats 4000000 in
theorem w_X10_manyIn {p : Program} {l : Launch} {e : Env} {s : State} {m : MethodId} {args : Array Value} {below : List Frame} {meth : Method} {c : Code} {G : Gx} {r : Int32} {h' : Mem} (X : CX G p s m args c cX10_manyIn 4 RX10) (hr : meth.sig.returnType = (Option.some Jvm.ClassFile.FieldType.int)) (hk : meth.locks = false) (N : Nat) : ∀ (v0 : Nat) (v1 : Int32) (h : Mem), f_X10_manyIn N v0 v1 h = some (r, h') → ∀ (H : Heap) (locs : List Loc) (ls : Array Slot), MS G s h H locs 0 → lv_has ls 4 [(0, .ref (gB G + v0)), (1, .int v1)] → W p l e (rm_X10_manyIn) s m args below meth c H locs 0 0 (QI G below args s r h' 0 0) (F0 m 0 ls []) := by
  intro v0 v1 h hf H locs ls M hl
  rw [f_X10_manyIn] at hf
  refine lv_iconst (v := (0 : Int32)) X.1 X.2.1 dX10_manyIn_0 (by decide) ?_
  refine lv_istore_n (lv' := [(2, .int (0 : Int32)), (0, .ref (gB G + v0)), (1, .int v1)]) X.1 X.2.1 dX10_manyIn_1 rfl hl (by decide) rfl (fun ls hl => ?_)
  refine lv_iconst (v := (0 : Int32)) X.1 X.2.1 dX10_manyIn_2 (by decide) ?_
  refine lv_istore_n (lv' := [(3, .int (0 : Int32)), (2, .int (0 : Int32)), (0, .ref (gB G + v0)), (1, .int v1)]) X.1 X.2.1 dX10_manyIn_3 rfl hl (by decide) rfl (fun ls hl => ?_)
  exact w_X10_manyIn_4 X hr hk N N v0 v1 (0 : Int32) (0 : Int32) h hf _ _ _ M (lv_sub hl [2, 3, 1, 0] rfl)
theorem c_X10_manyIn (l : Launch) (G : Gx) (N : Nat) (v0 : Nat) (v1 : Int32) (h : Mem) (r : Int32) (h' : Mem) (hf : f_X10_manyIn N v0 v1 h = some (r, h')) : MetG l G yX10_manyIn (.code yX10_manyIn cX10_manyIn 4 (Option.some Jvm.ClassFile.FieldType.int)) rm_X10_manyIn [.ref (gB G + v0), .int v1] h (QcI G r h') 0 0 :=
  x_met (by decide) rfl (Nat.le_of_ble_eq_true rfl) (fun p e s m args below meth c ls X M hr hk hin hl => w_X10_manyIn X hr hk N v0 v1 h hf _ _ ls M hl)
abbrev rm_X10_isFree : Room := { frames := 2, cells := 0, slots := 0, locals := 63 }
def f_X10_isFree (N : Nat) (v0 : Nat) (v1 : Int32) (h : Mem) : Option (Int32 × Mem) :=
  (ck h v0 10).bind fun _ =>
  b2 (f_X10_manyIn N v0 v1 h) fun t4 h3 =>
  (gR h3 v0 10 3).bind fun t5 =>
  (lI 100 h3 t5 v1).bind fun t7 =>
  if t7 ≤ t4 then
    some ((0 : Int32), h3)
  else
    some ((1 : Int32), h3)
set_option maxRecDepth 100000 in
set_option maxHeartbeats 4000000 in
theorem w_X10_isFree {p : Program} {l : Launch} {e : Env} {s : State} {m : MethodId} {args : Array Value} {below : List Frame} {meth : Method} {c : Code} {G : Gx} {r : Int32} {h' : Mem} (X : CX G p s m args c cX10_isFree 2 RX10) (hr : meth.sig.returnType = (Option.some Jvm.ClassFile.FieldType.boolean)) (hk : meth.locks = false) (N : Nat) : ∀ (v0 : Nat) (v1 : Int32) (h : Mem), f_X10_isFree N v0 v1 h = some (r, h') → ∀ (H : Heap) (locs : List Loc) (ls : Array Slot), MS G s h H locs 0 → lv_has ls 2 [(0, .ref (gB G + v0)), (1, .int v1)] → W p l e (rm_X10_isFree) s m args below meth c H locs 0 0 (QI G below args s r h' 0 0) (F0 m 0 ls []) := by
  intro v0 v1 h hf H locs ls M hl
  rw [f_X10_isFree] at hf
  refine lv_aload_n X.1 X.2.1 dX10_isFree_0 rfl (lv_at hl 0 rfl) ?_
  refine lv_iload_n X.1 X.2.1 dX10_isFree_1 rfl (lv_at hl 1 rfl) ?_
  obtain ⟨⟨⟩, q1, hf⟩ := bnd hf
  obtain ⟨t4, h3, q2, hf⟩ := bnd2 hf
  refine x_callVi (As := [.int v1]) cf_X10_201 (c_X10_manyIn l G N v0 v1 h _ _ q2) rfl ⟨rfl, rfl, Nat.le_of_ble_eq_true rfl, Nat.le_of_ble_eq_true rfl⟩ ⟨Nat.le_of_ble_eq_true rfl, Nat.le_of_ble_eq_true rfl⟩ X M (x_recv cls_X10 X M q1) rfl rfl hl.1 (Nat.le_of_ble_eq_true rfl) dX10_isFree_2 (fun H locs M => ?_)
  refine lv_aload_n X.1 X.2.1 dX10_isFree_5 rfl (lv_at hl 0 rfl) ?_
  obtain ⟨t5, q6, hf⟩ := bnd hf
  refine x_getr fl_X10_19 X M q6 dX10_isFree_6 ?_
  refine lv_iload_n X.1 X.2.1 dX10_isFree_9 rfl (lv_at hl 1 rfl) ?_
  obtain ⟨t7, q8, hf⟩ := bnd hf
  refine x_iald X M q8 dX10_isFree_10 ?_
  refine lv_icmp_ge (tgt := 18) X.1 X.2.1 dX10_isFree_11 (by decide) (fun c9 => ?_) (fun c9 => ?_)
  · have hf := ifp c9 hf
    refine lv_iconst (v := (0 : Int32)) X.1 X.2.1 dX10_isFree_18 (by decide) ?_
    obtain ⟨rfl, rfl⟩ := rt2 hf
    exact x_zret X hr hk rfl M dX10_isFree_19
  · have hf := ifn c9 hf
    refine lv_iconst (v := (1 : Int32)) X.1 X.2.1 dX10_isFree_14 (by decide) ?_
    refine lv_goto (tgt := 19) X.1 X.2.1 dX10_isFree_15 (by decide) ?_
    obtain ⟨rfl, rfl⟩ := rt2 hf
    exact x_zret X hr hk rfl M dX10_isFree_19
theorem c_X10_isFree (l : Launch) (G : Gx) (N : Nat) (v0 : Nat) (v1 : Int32) (h : Mem) (r : Int32) (h' : Mem) (hf : f_X10_isFree N v0 v1 h = some (r, h')) : MetG l G yX10_isFree (.code yX10_isFree cX10_isFree 2 (Option.some Jvm.ClassFile.FieldType.boolean)) rm_X10_isFree [.ref (gB G + v0), .int v1] h (QcI G r h') 0 0 :=
  x_met (by decide) rfl (Nat.le_of_ble_eq_true rfl) (fun p e s m args below meth c ls X M hr hk hin hl => w_X10_isFree X hr hk N v0 v1 h hf _ _ ls M hl)
abbrev rm_X10_add : Room := { frames := 1, cells := 0, slots := 0, locals := 40 }
def f_X10_add (N : Nat) (v0 : Nat) (v1 : Int32) (v2 : Int32) (v3 : Int32) (h : Mem) : Option Mem :=
  (gR h v0 10 8).bind fun t1 =>
  (gI h v0 10 1).bind fun t3 =>
  (stI 100 h t1 t3 v1).bind fun h5 =>
  (gR h5 v0 10 9).bind fun t7 =>
  (gI h5 v0 10 1).bind fun t9 =>
  (stI 100 h5 t7 t9 v2).bind fun h11 =>
  (gR h11 v0 10 10).bind fun t13 =>
  (gI h11 v0 10 1).bind fun t15 =>
  (stI 100 h11 t13 t15 v3).bind fun h17 =>
  (gR h17 v0 10 11).bind fun t19 =>
  (gI h17 v0 10 1).bind fun t21 =>
  (stI 100 h17 t19 t21 v3).bind fun h23 =>
  (gI h23 v0 10 1).bind fun t25 =>
  (sI h23 v0 10 1 (t25 + (1 : Int32))).bind fun h27 =>
  (sZ h27 v0 10 29 (0 : Int32)).bind fun h29 =>
  some h29
set_option maxRecDepth 100000 in
set_option maxHeartbeats 4000000 in
theorem w_X10_add {p : Program} {l : Launch} {e : Env} {s : State} {m : MethodId} {args : Array Value} {below : List Frame} {meth : Method} {c : Code} {G : Gx} {h' : Mem} {L : Nat} (X : CX G p s m args c cX10_add 4 RX10) (hr : meth.sig.returnType = (Option.none : Option Jvm.ClassFile.FieldType)) (hk : meth.locks = false) (hL : s.heap.size + 0 = gB G + L) (N : Nat) : ∀ (v0 : Nat) (v1 : Int32) (v2 : Int32) (v3 : Int32) (h : Mem), f_X10_add N v0 v1 v2 v3 h = some h' → ∀ (H : Heap) (locs : List Loc) (ls : Array Slot), MS G s h H locs 0 → lv_has ls 4 [(0, .ref (gB G + v0)), (1, .int v1), (2, .int v2), (3, .int v3)] → W p l e (rm_X10_add) s m args below meth c H locs 0 0 (QV G below args s h' L 0 0) (F0 m 0 ls []) := by
  intro v0 v1 v2 v3 h hf H locs ls M hl
  rw [f_X10_add] at hf
  refine lv_aload_n X.1 X.2.1 dX10_add_0 rfl (lv_at hl 0 rfl) ?_
  obtain ⟨t1, q2, hf⟩ := bnd hf
  refine x_getr fl_X10_35 X M q2 dX10_add_1 ?_
  refine lv_aload_n X.1 X.2.1 dX10_add_4 rfl (lv_at hl 0 rfl) ?_
  obtain ⟨t3, q4, hf⟩ := bnd hf
  refine x_geti fl_X10_13 X M q4 dX10_add_5 ?_
  refine lv_iload_n X.1 X.2.1 dX10_add_8 rfl (lv_at hl 1 rfl) ?_
  obtain ⟨h5, q6, hf⟩ := bnd hf
  refine x_iast X M q6 dX10_add_9 (fun H locs M => ?_)
  refine lv_aload_n X.1 X.2.1 dX10_add_10 rfl (lv_at hl 0 rfl) ?_
  obtain ⟨t7, q8, hf⟩ := bnd hf
  refine x_getr fl_X10_38 X M q8 dX10_add_11 ?_
  refine lv_aload_n X.1 X.2.1 dX10_add_14 rfl (lv_at hl 0 rfl) ?_
  obtain ⟨t9, q10, hf⟩ := bnd hf
  refine x_geti fl_X10_13 X M q10 dX10_add_15 ?_
  refine lv_iload_n X.1 X.2.1 dX10_add_18 rfl (lv_at hl 2 rfl) ?_
  obtain ⟨h11, q12, hf⟩ := bnd hf
  refine x_iast X M q12 dX10_add_19 (fun H locs M => ?_)
  refine lv_aload_n X.1 X.2.1 dX10_add_20 rfl (lv_at hl 0 rfl) ?_
  obtain ⟨t13, q14, hf⟩ := bnd hf
  refine x_getr fl_X10_41 X M q14 dX10_add_21 ?_
  refine lv_aload_n X.1 X.2.1 dX10_add_24 rfl (lv_at hl 0 rfl) ?_
  obtain ⟨t15, q16, hf⟩ := bnd hf
  refine x_geti fl_X10_13 X M q16 dX10_add_25 ?_
  refine lv_iload_n X.1 X.2.1 dX10_add_28 rfl (lv_at hl 3 rfl) ?_
  obtain ⟨h17, q18, hf⟩ := bnd hf
  refine x_iast X M q18 dX10_add_29 (fun H locs M => ?_)
  refine lv_aload_n X.1 X.2.1 dX10_add_30 rfl (lv_at hl 0 rfl) ?_
  obtain ⟨t19, q20, hf⟩ := bnd hf
  refine x_getr fl_X10_44 X M q20 dX10_add_31 ?_
  refine lv_aload_n X.1 X.2.1 dX10_add_34 rfl (lv_at hl 0 rfl) ?_
  obtain ⟨t21, q22, hf⟩ := bnd hf
  refine x_geti fl_X10_13 X M q22 dX10_add_35 ?_
  refine lv_iload_n X.1 X.2.1 dX10_add_38 rfl (lv_at hl 3 rfl) ?_
  obtain ⟨h23, q24, hf⟩ := bnd hf
  refine x_iast X M q24 dX10_add_39 (fun H locs M => ?_)
  refine lv_aload_n X.1 X.2.1 dX10_add_40 rfl (lv_at hl 0 rfl) ?_
  refine lv_dup X.1 X.2.1 dX10_add_41 rfl ?_
  obtain ⟨t25, q26, hf⟩ := bnd hf
  refine x_geti fl_X10_13 X M q26 dX10_add_42 ?_
  refine lv_iconst (v := (1 : Int32)) X.1 X.2.1 dX10_add_45 (by decide) ?_
  refine lv_iadd X.1 X.2.1 dX10_add_46 ?_
  obtain ⟨h27, q28, hf⟩ := bnd hf
  refine x_puti fl_X10_13 fp_X10_13.1 fp_X10_13.2 X M q28 dX10_add_47 (fun H locs M => ?_)
  refine lv_aload_n X.1 X.2.1 dX10_add_50 rfl (lv_at hl 0 rfl) ?_
  refine lv_iconst (v := (0 : Int32)) X.1 X.2.1 dX10_add_51 (by decide) ?_
  obtain ⟨h29, q30, hf⟩ := bnd hf
  refine x_putz fl_X10_98 fp_X10_98.1 fp_X10_98.2 X M q30 dX10_add_52 (fun H locs M => ?_)
  obtain rfl := rt1 hf
  exact x_vret X hr hk M hL dX10_add_55
theorem c_X10_add (l : Launch) (G : Gx) (N : Nat) (v0 : Nat) (v1 : Int32) (v2 : Int32) (v3 : Int32) (h : Mem) (h' : Mem) (hf : f_X10_add N v0 v1 v2 v3 h = some h') : MetG l G yX10_add (.code yX10_add cX10_add 4 (Option.none : Option Jvm.ClassFile.FieldType)) rm_X10_add [.ref (gB G + v0), .int v1, .int v2, .int v3] h (QcV G h' (h.1.length + 0)) 0 0 :=
  x_met (by decide) rfl (Nat.le_of_ble_eq_true rfl) (fun p e s m args below meth c ls X M hr hk hin hl => w_X10_add X hr hk (by have := M.2.2; omega) N v0 v1 v2 v3 h hf _ _ ls M hl)
abbrev rm_X10_family : Room := { frames := 3, cells := 0, slots := 0, locals := 84 }
def f_X10_family (N : Nat) (v0 : Nat) (v1 : Int32) (v2 : Int32) (v3 : Int32) (h : Mem) : Option (Int32 × Mem) :=
  (ck h v0 10).bind fun _ =>
  b2 (f_X10_isTown N v0 v3 h) fun t4 h3 =>
  if t4 = 0 then
    some ((-1 : Int32), h3)
  else
    (ck h3 v0 10).bind fun _ =>
    b2 (f_X10_in N v0 v1 (0 : Int32) (3 : Int32) h3) fun t9 h8 =>
    if t9 = 0 then
      some ((-2 : Int32), h8)
    else
      (ck h8 v0 10).bind fun _ =>
      b2 (f_X10_in N v0 v2 (1 : Int32) (99 : Int32) h8) fun t14 h13 =>
      if t14 = 0 then
        some ((-2 : Int32), h13)
      else
        (ck h13 v0 10).bind fun _ =>
        b2 (f_X10_isFree N v0 v3 h13) fun t19 h18 =>
        if t19 = 0 then
          some ((-3 : Int32), h18)
        else
          (gI h18 v0 10 1).bind fun t21 =>
          if t21 = (8 : Int32) then
            some ((-4 : Int32), h18)
          else
            (ck h18 v0 10).bind fun _ =>
            (f_X10_add N v0 v1 v2 v3 h18).bind fun h26 =>
            (gI h26 v0 10 1).bind fun t27 =>
            some ((t27 - (1 : Int32)), h26)
set_option maxRecDepth 100000 in
set_option maxHeartbeats 4000000 in
theorem w_X10_family {p : Program} {l : Launch} {e : Env} {s : State} {m : MethodId} {args : Array Value} {below : List Frame} {meth : Method} {c : Code} {G : Gx} {r : Int32} {h' : Mem} (X : CX G p s m args c cX10_family 4 RX10) (hr : meth.sig.returnType = (Option.some Jvm.ClassFile.FieldType.int)) (hk : meth.locks = false) (N : Nat) : ∀ (v0 : Nat) (v1 : Int32) (v2 : Int32) (v3 : Int32) (h : Mem), f_X10_family N v0 v1 v2 v3 h = some (r, h') → ∀ (H : Heap) (locs : List Loc) (ls : Array Slot), MS G s h H locs 0 → lv_has ls 4 [(0, .ref (gB G + v0)), (1, .int v1), (2, .int v2), (3, .int v3)] → W p l e (rm_X10_family) s m args below meth c H locs 0 0 (QI G below args s r h' 0 0) (F0 m 0 ls []) := by
  intro v0 v1 v2 v3 h hf H locs ls M hl
  rw [f_X10_family] at hf
  refine lv_aload_n X.1 X.2.1 dX10_family_0 rfl (lv_at hl 0 rfl) ?_
  refine lv_iload_n X.1 X.2.1 dX10_family_1 rfl (lv_at hl 3 rfl) ?_
  obtain ⟨⟨⟩, q1, hf⟩ := bnd hf
  obtain ⟨t4, h3, q2, hf⟩ := bnd2 hf
  refine x_callVi (As := [.int v3]) cf_X10_205 (c_X10_isTown l G N v0 v3 h _ _ q2) rfl ⟨rfl, rfl, Nat.le_of_ble_eq_true rfl, Nat.le_of_ble_eq_true rfl⟩ ⟨Nat.le_of_ble_eq_true rfl, Nat.le_of_ble_eq_true rfl⟩ X M (x_recv cls_X10 X M q1) rfl rfl hl.1 (Nat.le_of_ble_eq_true rfl) dX10_family_2 (fun H locs M => ?_)
  refine lv_if_ne (tgt := 10) X.1 X.2.1 dX10_family_5 (by decide) (fun c5 => ?_) (fun c5 => ?_)
  · have hf := ifn c5 hf
    refine lv_aload_n X.1 X.2.1 dX10_family_10 rfl (lv_at hl 0 rfl) ?_
    refine lv_iload_n X.1 X.2.1 dX10_family_11 rfl (lv_at hl 1 rfl) ?_
    refine lv_iconst (v := (0 : Int32)) X.1 X.2.1 dX10_family_12 (by decide) ?_
    refine lv_iconst (v := (3 : Int32)) X.1 X.2.1 dX10_family_13 (by decide) ?_
    obtain ⟨⟨⟩, q6, hf⟩ := bnd hf
    obtain ⟨t9, h8, q7, hf⟩ := bnd2 hf
    refine x_callVi (As := [.int v1, .int (0 : Int32), .int (3 : Int32)]) cf_X10_197 (c_X10_in l G N v0 v1 (0 : Int32) (3 : Int32) h3 _ _ q7) rfl ⟨rfl, rfl, Nat.le_of_ble_eq_true rfl, Nat.le_of_ble_eq_true rfl⟩ ⟨Nat.le_of_ble_eq_true rfl, Nat.le_of_ble_eq_true rfl⟩ X M (x_recv cls_X10 X M q6) rfl rfl hl.1 (Nat.le_of_ble_eq_true rfl) dX10_family_14 (fun H locs M => ?_)
    refine lv_if_eq (tgt := 31) X.1 X.2.1 dX10_family_17 (by decide) (fun c10 => ?_) (fun c10 => ?_)
    · have hf := ifp c10 hf
      refine lv_bipush (v := (-2 : Int32)) X.1 X.2.1 dX10_family_31 (by decide) ?_
      obtain ⟨rfl, rfl⟩ := rt2 hf
      exact x_iret X hr hk M dX10_family_33
    · have hf := ifn c10 hf
      refine lv_aload_n X.1 X.2.1 dX10_family_20 rfl (lv_at hl 0 rfl) ?_
      refine lv_iload_n X.1 X.2.1 dX10_family_21 rfl (lv_at hl 2 rfl) ?_
      refine lv_iconst (v := (1 : Int32)) X.1 X.2.1 dX10_family_22 (by decide) ?_
      refine lv_bipush (v := (99 : Int32)) X.1 X.2.1 dX10_family_23 (by decide) ?_
      obtain ⟨⟨⟩, q11, hf⟩ := bnd hf
      obtain ⟨t14, h13, q12, hf⟩ := bnd2 hf
      refine x_callVi (As := [.int v2, .int (1 : Int32), .int (99 : Int32)]) cf_X10_197 (c_X10_in l G N v0 v2 (1 : Int32) (99 : Int32) h8 _ _ q12) rfl ⟨rfl, rfl, Nat.le_of_ble_eq_true rfl, Nat.le_of_ble_eq_true rfl⟩ ⟨Nat.le_of_ble_eq_true rfl, Nat.le_of_ble_eq_true rfl⟩ X M (x_recv cls_X10 X M q11) rfl rfl hl.1 (Nat.le_of_ble_eq_true rfl) dX10_family_25 (fun H locs M => ?_)
      refine lv_if_ne (tgt := 34) X.1 X.2.1 dX10_family_28 (by decide) (fun c15 => ?_) (fun c15 => ?_)
      · have hf := ifn c15 hf
        refine lv_aload_n X.1 X.2.1 dX10_family_34 rfl (lv_at hl 0 rfl) ?_
        refine lv_iload_n X.1 X.2.1 dX10_family_35 rfl (lv_at hl 3 rfl) ?_
        obtain ⟨⟨⟩, q16, hf⟩ := bnd hf
        obtain ⟨t19, h18, q17, hf⟩ := bnd2 hf
        refine x_callVi (As := [.int v3]) cf_X10_209 (c_X10_isFree l G N v0 v3 h13 _ _ q17) rfl ⟨rfl, rfl, Nat.le_of_ble_eq_true rfl, Nat.le_of_ble_eq_true rfl⟩ ⟨Nat.le_of_ble_eq_true rfl, Nat.le_of_ble_eq_true rfl⟩ X M (x_recv cls_X10 X M q16) rfl rfl hl.1 (Nat.le_of_ble_eq_true rfl) dX10_family_36 (fun H locs M => ?_)
        refine lv_if_ne (tgt := 45) X.1 X.2.1 dX10_family_39 (by decide) (fun c20 => ?_) (fun c20 => ?_)
        · have hf := ifn c20 hf
          refine lv_aload_n X.1 X.2.1 dX10_family_45 rfl (lv_at hl 0 rfl) ?_
          obtain ⟨t21, q22, hf⟩ := bnd hf
          refine x_geti fl_X10_13 X M q22 dX10_family_46 ?_
          refine lv_bipush (v := (8 : Int32)) X.1 X.2.1 dX10_family_49 (by decide) ?_
          refine lv_icmp_ne (tgt := 57) X.1 X.2.1 dX10_family_51 (by decide) (fun c23 => ?_) (fun c23 => ?_)
          · have hf := ifn c23 hf
            refine lv_aload_n X.1 X.2.1 dX10_family_57 rfl (lv_at hl 0 rfl) ?_
            refine lv_iload_n X.1 X.2.1 dX10_family_58 rfl (lv_at hl 1 rfl) ?_
            refine lv_iload_n X.1 X.2.1 dX10_family_59 rfl (lv_at hl 2 rfl) ?_
            refine lv_iload_n X.1 X.2.1 dX10_family_60 rfl (lv_at hl 3 rfl) ?_
            obtain ⟨⟨⟩, q24, hf⟩ := bnd hf
            obtain ⟨h26, q25, hf⟩ := bnd hf
            refine x_callVv (As := [.int v1, .int v2, .int v3]) cf_X10_212 (c_X10_add l G N v0 v1 v2 v3 h18 _ q25) rfl ⟨rfl, rfl, Nat.le_of_ble_eq_true rfl, Nat.le_of_ble_eq_true rfl⟩ ⟨Nat.le_of_ble_eq_true rfl, Nat.le_of_ble_eq_true rfl⟩ X M (x_recv cls_X10 X M q24) rfl rfl hl.1 (Nat.le_of_ble_eq_true rfl) dX10_family_61 (fun H locs M => ?_)
            refine lv_aload_n X.1 X.2.1 dX10_family_64 rfl (lv_at hl 0 rfl) ?_
            obtain ⟨t27, q28, hf⟩ := bnd hf
            refine x_geti fl_X10_13 X M q28 dX10_family_65 ?_
            refine lv_iconst (v := (1 : Int32)) X.1 X.2.1 dX10_family_68 (by decide) ?_
            refine lv_isub X.1 X.2.1 dX10_family_69 ?_
            obtain ⟨rfl, rfl⟩ := rt2 hf
            exact x_iret X hr hk M dX10_family_70
          · have hf := ifp c23 hf
            refine lv_bipush (v := (-4 : Int32)) X.1 X.2.1 dX10_family_54 (by decide) ?_
            obtain ⟨rfl, rfl⟩ := rt2 hf
            exact x_iret X hr hk M dX10_family_56
        · have hf := ifp c20 hf
          refine lv_bipush (v := (-3 : Int32)) X.1 X.2.1 dX10_family_42 (by decide) ?_
          obtain ⟨rfl, rfl⟩ := rt2 hf
          exact x_iret X hr hk M dX10_family_44
      · have hf := ifp c15 hf
        refine lv_bipush (v := (-2 : Int32)) X.1 X.2.1 dX10_family_31 (by decide) ?_
        obtain ⟨rfl, rfl⟩ := rt2 hf
        exact x_iret X hr hk M dX10_family_33
  · have hf := ifp c5 hf
    refine lv_iconst (v := (-1 : Int32)) X.1 X.2.1 dX10_family_8 (by decide) ?_
    obtain ⟨rfl, rfl⟩ := rt2 hf
    exact x_iret X hr hk M dX10_family_9
theorem c_X10_family (l : Launch) (G : Gx) (N : Nat) (v0 : Nat) (v1 : Int32) (v2 : Int32) (v3 : Int32) (h : Mem) (r : Int32) (h' : Mem) (hf : f_X10_family N v0 v1 v2 v3 h = some (r, h')) : MetG l G yX10_family (.code yX10_family cX10_family 4 (Option.some Jvm.ClassFile.FieldType.int)) rm_X10_family [.ref (gB G + v0), .int v1, .int v2, .int v3] h (QcI G r h') 0 0 :=
  x_met (by decide) rfl (Nat.le_of_ble_eq_true rfl) (fun p e s m args below meth c ls X M hr hk hin hl => w_X10_family X hr hk N v0 v1 v2 v3 h hf _ _ ls M hl)
abbrev rm_X10_put : Room := { frames := 3, cells := 0, slots := 0, locals := 84 }
def f_X10_put_148 (N : Nat) (v0 : Nat) (v1 : Int32) (v2 : Int32) (v3 : Int32) (v4 : Int32) (h : Mem) : Option (Int32 × Mem) :=
  if v2 = (5 : Int32) then
    (gR h v0 10 7).bind fun t2 =>
    (stI 100 h t2 v1 v3).bind fun h4 =>
    some (v4, h4)
  else
    some (v4, h)
set_option maxRecDepth 100000 in
set_option maxHeartbeats 4000000 in
theorem w_X10_put_148 {p : Program} {l : Launch} {e : Env} {s : State} {m : MethodId} {args : Array Value} {below : List Frame} {meth : Method} {c : Code} {G : Gx} {r : Int32} {h' : Mem} (X : CX G p s m args c cX10_put 5 RX10) (hr : meth.sig.returnType = (Option.some Jvm.ClassFile.FieldType.int)) (hk : meth.locks = false) (N : Nat) : ∀ (v0 : Nat) (v1 : Int32) (v2 : Int32) (v3 : Int32) (v4 : Int32) (h : Mem), f_X10_put_148 N v0 v1 v2 v3 v4 h = some (r, h') → ∀ (H : Heap) (locs : List Loc) (ls : Array Slot), MS G s h H locs 0 → lv_has ls 5 [(0, .ref (gB G + v0)), (1, .int v1), (2, .int v2), (3, .int v3), (4, .int v4)] → W p l e (rm_X10_put) s m args below meth c H locs 0 0 (QI G below args s r h' 0 0) (F0 m 148 ls []) := by
  intro v0 v1 v2 v3 v4 h hf H locs ls M hl
  rw [f_X10_put_148] at hf
  refine lv_iload_n X.1 X.2.1 dX10_put_148 rfl (lv_at hl 2 rfl) ?_
  refine lv_iconst (v := (5 : Int32)) X.1 X.2.1 dX10_put_149 (by decide) ?_
  refine lv_icmp_ne (tgt := 160) X.1 X.2.1 dX10_put_150 (by decide) (fun c1 => ?_) (fun c1 => ?_)
  · have hf := ifn c1 hf
    refine lv_iload X.1 X.2.1 dX10_put_160 (lv_at hl 4 rfl) ?_
    obtain ⟨rfl, rfl⟩ := rt2 hf
    exact x_iret X hr hk M dX10_put_162
  · have hf := ifp c1 hf
    refine lv_aload_n X.1 X.2.1 dX10_put_153 rfl (lv_at hl 0 rfl) ?_
    obtain ⟨t2, q3, hf⟩ := bnd hf
    refine x_getr fl_X10_32 X M q3 dX10_put_154 ?_
    refine lv_iload_n X.1 X.2.1 dX10_put_157 rfl (lv_at hl 1 rfl) ?_
    refine lv_iload_n X.1 X.2.1 dX10_put_158 rfl (lv_at hl 3 rfl) ?_
    obtain ⟨h4, q5, hf⟩ := bnd hf
    refine x_iast X M q5 dX10_put_159 (fun H locs M => ?_)
    refine lv_iload X.1 X.2.1 dX10_put_160 (lv_at hl 4 rfl) ?_
    obtain ⟨rfl, rfl⟩ := rt2 hf
    exact x_iret X hr hk M dX10_put_162
def f_X10_put_136 (N : Nat) (v0 : Nat) (v1 : Int32) (v2 : Int32) (v3 : Int32) (v4 : Int32) (h : Mem) : Option (Int32 × Mem) :=
  if v2 = (4 : Int32) then
    (gR h v0 10 6).bind fun t2 =>
    (stI 100 h t2 v1 v3).bind fun h4 =>
    f_X10_put_148 N v0 v1 v2 v3 v4 h4
  else
    f_X10_put_148 N v0 v1 v2 v3 v4 h
set_option maxRecDepth 100000 in
set_option maxHeartbeats 4000000 in
theorem w_X10_put_136 {p : Program} {l : Launch} {e : Env} {s : State} {m : MethodId} {args : Array Value} {below : List Frame} {meth : Method} {c : Code} {G : Gx} {r : Int32} {h' : Mem} (X : CX G p s m args c cX10_put 5 RX10) (hr : meth.sig.returnType = (Option.some Jvm.ClassFile.FieldType.int)) (hk : meth.locks = false) (N : Nat) : ∀ (v0 : Nat) (v1 : Int32) (v2 : Int32) (v3 : Int32) (v4 : Int32) (h : Mem), f_X10_put_136 N v0 v1 v2 v3 v4 h = some (r, h') → ∀ (H : Heap) (locs : List Loc) (ls : Array Slot), MS G s h H locs 0 → lv_has ls 5 [(0, .ref (gB G + v0)), (1, .int v1), (2, .int v2), (3, .int v3), (4, .int v4)] → W p l e (rm_X10_put) s m args below meth c H locs 0 0 (QI G below args s r h' 0 0) (F0 m 136 ls []) := by
  intro v0 v1 v2 v3 v4 h hf H locs ls M hl
  rw [f_X10_put_136] at hf
  refine lv_iload_n X.1 X.2.1 dX10_put_136 rfl (lv_at hl 2 rfl) ?_
  refine lv_iconst (v := (4 : Int32)) X.1 X.2.1 dX10_put_137 (by decide) ?_
  refine lv_icmp_ne (tgt := 148) X.1 X.2.1 dX10_put_138 (by decide) (fun c1 => ?_) (fun c1 => ?_)
  · have hf := ifn c1 hf
    exact w_X10_put_148 X hr hk N v0 v1 v2 v3 v4 h hf _ _ _ M (lv_sub hl [0, 1, 2, 3, 4] rfl)
  · have hf := ifp c1 hf
    refine lv_aload_n X.1 X.2.1 dX10_put_141 rfl (lv_at hl 0 rfl) ?_
    obtain ⟨t2, q3, hf⟩ := bnd hf
    refine x_getr fl_X10_29 X M q3 dX10_put_142 ?_
    refine lv_iload_n X.1 X.2.1 dX10_put_145 rfl (lv_at hl 1 rfl) ?_
    refine lv_iload_n X.1 X.2.1 dX10_put_146 rfl (lv_at hl 3 rfl) ?_
    obtain ⟨h4, q5, hf⟩ := bnd hf
    refine x_iast X M q5 dX10_put_147 (fun H locs M => ?_)
    exact w_X10_put_148 X hr hk N v0 v1 v2 v3 v4 h4 hf _ _ _ M (lv_sub hl [0, 1, 2, 3, 4] rfl)
def f_X10_put_124 (N : Nat) (v0 : Nat) (v1 : Int32) (v2 : Int32) (v3 : Int32) (v4 : Int32) (h : Mem) : Option (Int32 × Mem) :=
  if v2 = (3 : Int32) then
    (gR h v0 10 5).bind fun t2 =>
    (stI 100 h t2 v1 v3).bind fun h4 =>
    f_X10_put_136 N v0 v1 v2 v3 v4 h4
  else
    f_X10_put_136 N v0 v1 v2 v3 v4 h
set_option maxRecDepth 100000 in
set_option maxHeartbeats 4000000 in
theorem w_X10_put_124 {p : Program} {l : Launch} {e : Env} {s : State} {m : MethodId} {args : Array Value} {below : List Frame} {meth : Method} {c : Code} {G : Gx} {r : Int32} {h' : Mem} (X : CX G p s m args c cX10_put 5 RX10) (hr : meth.sig.returnType = (Option.some Jvm.ClassFile.FieldType.int)) (hk : meth.locks = false) (N : Nat) : ∀ (v0 : Nat) (v1 : Int32) (v2 : Int32) (v3 : Int32) (v4 : Int32) (h : Mem), f_X10_put_124 N v0 v1 v2 v3 v4 h = some (r, h') → ∀ (H : Heap) (locs : List Loc) (ls : Array Slot), MS G s h H locs 0 → lv_has ls 5 [(0, .ref (gB G + v0)), (1, .int v1), (2, .int v2), (3, .int v3), (4, .int v4)] → W p l e (rm_X10_put) s m args below meth c H locs 0 0 (QI G below args s r h' 0 0) (F0 m 124 ls []) := by
  intro v0 v1 v2 v3 v4 h hf H locs ls M hl
  rw [f_X10_put_124] at hf
  refine lv_iload_n X.1 X.2.1 dX10_put_124 rfl (lv_at hl 2 rfl) ?_
  refine lv_iconst (v := (3 : Int32)) X.1 X.2.1 dX10_put_125 (by decide) ?_
  refine lv_icmp_ne (tgt := 136) X.1 X.2.1 dX10_put_126 (by decide) (fun c1 => ?_) (fun c1 => ?_)
  · have hf := ifn c1 hf
    exact w_X10_put_136 X hr hk N v0 v1 v2 v3 v4 h hf _ _ _ M (lv_sub hl [0, 1, 2, 3, 4] rfl)
  · have hf := ifp c1 hf
    refine lv_aload_n X.1 X.2.1 dX10_put_129 rfl (lv_at hl 0 rfl) ?_
    obtain ⟨t2, q3, hf⟩ := bnd hf
    refine x_getr fl_X10_26 X M q3 dX10_put_130 ?_
    refine lv_iload_n X.1 X.2.1 dX10_put_133 rfl (lv_at hl 1 rfl) ?_
    refine lv_iload_n X.1 X.2.1 dX10_put_134 rfl (lv_at hl 3 rfl) ?_
    obtain ⟨h4, q5, hf⟩ := bnd hf
    refine x_iast X M q5 dX10_put_135 (fun H locs M => ?_)
    exact w_X10_put_136 X hr hk N v0 v1 v2 v3 v4 h4 hf _ _ _ M (lv_sub hl [0, 1, 2, 3, 4] rfl)
def f_X10_put_106 (N : Nat) (v0 : Nat) (v1 : Int32) (v2 : Int32) (v3 : Int32) (s0 : Int32) (h : Mem) : Option (Int32 × Mem) :=
  if (3 : Int32) ≤ v2 then
    f_X10_put_124 N v0 v1 v2 v3 s0 h
  else
    (gR h v0 10 4).bind fun t2 =>
    (stI 100 h t2 (((3 : Int32) * v1) + v2) v3).bind fun h4 =>
    f_X10_put_124 N v0 v1 v2 v3 s0 h4
set_option maxRecDepth 100000 in
set_option maxHeartbeats 4000000 in
theorem w_X10_put_106 {p : Program} {l : Launch} {e : Env} {s : State} {m : MethodId} {args : Array Value} {below : List Frame} {meth : Method} {c : Code} {G : Gx} {r : Int32} {h' : Mem} (X : CX G p s m args c cX10_put 5 RX10) (hr : meth.sig.returnType = (Option.some Jvm.ClassFile.FieldType.int)) (hk : meth.locks = false) (N : Nat) : ∀ (v0 : Nat) (v1 : Int32) (v2 : Int32) (v3 : Int32) (s0 : Int32) (h : Mem), f_X10_put_106 N v0 v1 v2 v3 s0 h = some (r, h') → ∀ (H : Heap) (locs : List Loc) (ls : Array Slot), MS G s h H locs 0 → lv_has ls 5 [(0, .ref (gB G + v0)), (1, .int v1), (2, .int v2), (3, .int v3)] → W p l e (rm_X10_put) s m args below meth c H locs 0 0 (QI G below args s r h' 0 0) (F0 m 106 ls [.int s0]) := by
  intro v0 v1 v2 v3 s0 h hf H locs ls M hl
  rw [f_X10_put_106] at hf
  refine lv_istore (lv' := [(4, .int s0), (0, .ref (gB G + v0)), (1, .int v1), (2, .int v2), (3, .int v3)]) X.1 X.2.1 dX10_put_106 hl (by decide) rfl (fun ls hl => ?_)
  refine lv_iload_n X.1 X.2.1 dX10_put_108 rfl (lv_at hl 3 rfl) ?_
  refine lv_iconst (v := (3 : Int32)) X.1 X.2.1 dX10_put_109 (by decide) ?_
  refine lv_icmp_ge (tgt := 124) X.1 X.2.1 dX10_put_110 (by decide) (fun c1 => ?_) (fun c1 => ?_)
  · have hf := ifp c1 hf
    exact w_X10_put_124 X hr hk N v0 v1 v2 v3 s0 h hf _ _ _ M (lv_sub hl [1, 2, 3, 4, 0] rfl)
  · have hf := ifn c1 hf
    refine lv_aload_n X.1 X.2.1 dX10_put_113 rfl (lv_at hl 1 rfl) ?_
    obtain ⟨t2, q3, hf⟩ := bnd hf
    refine x_getr fl_X10_23 X M q3 dX10_put_114 ?_
    refine lv_iconst (v := (3 : Int32)) X.1 X.2.1 dX10_put_117 (by decide) ?_
    refine lv_iload_n X.1 X.2.1 dX10_put_118 rfl (lv_at hl 2 rfl) ?_
    refine lv_imul X.1 X.2.1 dX10_put_119 ?_
    refine lv_iload_n X.1 X.2.1 dX10_put_120 rfl (lv_at hl 3 rfl) ?_
    refine lv_iadd X.1 X.2.1 dX10_put_121 ?_
    refine lv_iload_n X.1 X.2.1 dX10_put_122 rfl (lv_at hl 4 rfl) ?_
    obtain ⟨h4, q5, hf⟩ := bnd hf
    refine x_iast X M q5 dX10_put_123 (fun H locs M => ?_)
    exact w_X10_put_124 X hr hk N v0 v1 v2 v3 s0 h4 hf _ _ _ M (lv_sub hl [1, 2, 3, 4, 0] rfl)
def f_X10_put_45 (N : Nat) (v0 : Nat) (v1 : Int32) (v2 : Int32) (v3 : Int32) (s0 : Nat) (s1 : Int32) (s2 : Int32) (s3 : Int32) (h : Mem) : Option (Int32 × Mem) :=
  (ck h s0 10).bind fun _ =>
  b2 (f_X10_in N s0 s1 s2 s3 h) fun t4 h3 =>
  if t4 = 0 then
    some ((-2 : Int32), h3)
  else
    if (3 : Int32) ≤ v2 then
      if v2 = (3 : Int32) then
        (gR h3 v0 10 5).bind fun t17 =>
        (lI 100 h3 t17 v1).bind fun t19 =>
        f_X10_put_106 N v0 v1 v2 v3 t19 h3
      else
        if v2 = (4 : Int32) then
          (gR h3 v0 10 6).bind fun t13 =>
          (lI 100 h3 t13 v1).bind fun t15 =>
          f_X10_put_106 N v0 v1 v2 v3 t15 h3
        else
          (gR h3 v0 10 7).bind fun t9 =>
          (lI 100 h3 t9 v1).bind fun t11 =>
          f_X10_put_106 N v0 v1 v2 v3 t11 h3
    else
      (gR h3 v0 10 4).bind fun t21 =>
      (lI 100 h3 t21 (((3 : Int32) * v1) + v2)).bind fun t23 =>
      f_X10_put_106 N v0 v1 v2 v3 t23 h3
set_option maxRecDepth 100000 in
set_option maxHeartbeats 4000000 in
theorem w_X10_put_45 {p : Program} {l : Launch} {e : Env} {s : State} {m : MethodId} {args : Array Value} {below : List Frame} {meth : Method} {c : Code} {G : Gx} {r : Int32} {h' : Mem} (X : CX G p s m args c cX10_put 5 RX10) (hr : meth.sig.returnType = (Option.some Jvm.ClassFile.FieldType.int)) (hk : meth.locks = false) (N : Nat) : ∀ (v0 : Nat) (v1 : Int32) (v2 : Int32) (v3 : Int32) (s0 : Nat) (s1 : Int32) (s2 : Int32) (s3 : Int32) (h : Mem), f_X10_put_45 N v0 v1 v2 v3 s0 s1 s2 s3 h = some (r, h') → ∀ (H : Heap) (locs : List Loc) (ls : Array Slot), MS G s h H locs 0 → lv_has ls 5 [(0, .ref (gB G + v0)), (1, .int v1), (2, .int v2), (3, .int v3)] → W p l e (rm_X10_put) s m args below meth c H locs 0 0 (QI G below args s r h' 0 0) (F0 m 45 ls [.int s3, .int s2, .int s1, .ref (gB G + s0)]) := by
  intro v0 v1 v2 v3 s0 s1 s2 s3 h hf H locs ls M hl
  rw [f_X10_put_45] at hf
  obtain ⟨⟨⟩, q1, hf⟩ := bnd hf
  obtain ⟨t4, h3, q2, hf⟩ := bnd2 hf
  refine x_callVi (As := [.int s1, .int s2, .int s3]) cf_X10_197 (c_X10_in l G N s0 s1 s2 s3 h _ _ q2) rfl ⟨rfl, rfl, Nat.le_of_ble_eq_true rfl, Nat.le_of_ble_eq_true rfl⟩ ⟨Nat.le_of_ble_eq_true rfl, Nat.le_of_ble_eq_true rfl⟩ X M (x_recv cls_X10 X M q1) rfl rfl hl.1 (Nat.le_of_ble_eq_true rfl) dX10_put_45 (fun H locs M => ?_)
  refine lv_if_ne (tgt := 54) X.1 X.2.1 dX10_put_48 (by decide) (fun c5 => ?_) (fun c5 => ?_)
  · have hf := ifn c5 hf
    refine lv_iload_n X.1 X.2.1 dX10_put_54 rfl (lv_at hl 2 rfl) ?_
    refine lv_iconst (v := (3 : Int32)) X.1 X.2.1 dX10_put_55 (by decide) ?_
    refine lv_icmp_ge (tgt := 72) X.1 X.2.1 dX10_put_56 (by decide) (fun c6 => ?_) (fun c6 => ?_)
    · have hf := ifp c6 hf
      refine lv_iload_n X.1 X.2.1 dX10_put_72 rfl (lv_at hl 2 rfl) ?_
      refine lv_iconst (v := (3 : Int32)) X.1 X.2.1 dX10_put_73 (by decide) ?_
      refine lv_icmp_ne (tgt := 86) X.1 X.2.1 dX10_put_74 (by decide) (fun c7 => ?_) (fun c7 => ?_)
      · have hf := ifn c7 hf
        refine lv_iload_n X.1 X.2.1 dX10_put_86 rfl (lv_at hl 2 rfl) ?_
        refine lv_iconst (v := (4 : Int32)) X.1 X.2.1 dX10_put_87 (by decide) ?_
        refine lv_icmp_ne (tgt := 100) X.1 X.2.1 dX10_put_88 (by decide) (fun c8 => ?_) (fun c8 => ?_)
        · have hf := ifn c8 hf
          refine lv_aload_n X.1 X.2.1 dX10_put_100 rfl (lv_at hl 0 rfl) ?_
          obtain ⟨t9, q10, hf⟩ := bnd hf
          refine x_getr fl_X10_32 X M q10 dX10_put_101 ?_
          refine lv_iload_n X.1 X.2.1 dX10_put_104 rfl (lv_at hl 1 rfl) ?_
          obtain ⟨t11, q12, hf⟩ := bnd hf
          refine x_iald X M q12 dX10_put_105 ?_
          exact w_X10_put_106 X hr hk N v0 v1 v2 v3 t11 h3 hf _ _ _ M (lv_sub hl [0, 1, 2, 3] rfl)
        · have hf := ifp c8 hf
          refine lv_aload_n X.1 X.2.1 dX10_put_91 rfl (lv_at hl 0 rfl) ?_
          obtain ⟨t13, q14, hf⟩ := bnd hf
          refine x_getr fl_X10_29 X M q14 dX10_put_92 ?_
          refine lv_iload_n X.1 X.2.1 dX10_put_95 rfl (lv_at hl 1 rfl) ?_
          obtain ⟨t15, q16, hf⟩ := bnd hf
          refine x_iald X M q16 dX10_put_96 ?_
          refine lv_goto (tgt := 106) X.1 X.2.1 dX10_put_97 (by decide) ?_
          exact w_X10_put_106 X hr hk N v0 v1 v2 v3 t15 h3 hf _ _ _ M (lv_sub hl [0, 1, 2, 3] rfl)
      · have hf := ifp c7 hf
        refine lv_aload_n X.1 X.2.1 dX10_put_77 rfl (lv_at hl 0 rfl) ?_
        obtain ⟨t17, q18, hf⟩ := bnd hf
        refine x_getr fl_X10_26 X M q18 dX10_put_78 ?_
        refine lv_iload_n X.1 X.2.1 dX10_put_81 rfl (lv_at hl 1 rfl) ?_
        obtain ⟨t19, q20, hf⟩ := bnd hf
        refine x_iald X M q20 dX10_put_82 ?_
        refine lv_goto (tgt := 106) X.1 X.2.1 dX10_put_83 (by decide) ?_
        exact w_X10_put_106 X hr hk N v0 v1 v2 v3 t19 h3 hf _ _ _ M (lv_sub hl [0, 1, 2, 3] rfl)
    · have hf := ifn c6 hf
      refine lv_aload_n X.1 X.2.1 dX10_put_59 rfl (lv_at hl 0 rfl) ?_
      obtain ⟨t21, q22, hf⟩ := bnd hf
      refine x_getr fl_X10_23 X M q22 dX10_put_60 ?_
      refine lv_iconst (v := (3 : Int32)) X.1 X.2.1 dX10_put_63 (by decide) ?_
      refine lv_iload_n X.1 X.2.1 dX10_put_64 rfl (lv_at hl 1 rfl) ?_
      refine lv_imul X.1 X.2.1 dX10_put_65 ?_
      refine lv_iload_n X.1 X.2.1 dX10_put_66 rfl (lv_at hl 2 rfl) ?_
      refine lv_iadd X.1 X.2.1 dX10_put_67 ?_
      obtain ⟨t23, q24, hf⟩ := bnd hf
      refine x_iald X M q24 dX10_put_68 ?_
      refine lv_goto (tgt := 106) X.1 X.2.1 dX10_put_69 (by decide) ?_
      exact w_X10_put_106 X hr hk N v0 v1 v2 v3 t23 h3 hf _ _ _ M (lv_sub hl [0, 1, 2, 3] rfl)
  · have hf := ifp c5 hf
    refine lv_bipush (v := (-2 : Int32)) X.1 X.2.1 dX10_put_51 (by decide) ?_
    obtain ⟨rfl, rfl⟩ := rt2 hf
    exact x_iret X hr hk M dX10_put_53
def f_X10_put (N : Nat) (v0 : Nat) (v1 : Int32) (v2 : Int32) (v3 : Int32) (h : Mem) : Option (Int32 × Mem) :=
  (ck h v0 10).bind fun _ =>
  b2 (f_X10_isTown N v0 v1 h) fun t4 h3 =>
  if t4 = 0 then
    some ((-1 : Int32), h3)
  else
    (ck h3 v0 10).bind fun _ =>
    b2 (f_X10_in N v0 v2 (0 : Int32) (5 : Int32) h3) fun t9 h8 =>
    if t9 = 0 then
      some ((-1 : Int32), h8)
    else
      if (3 : Int32) ≤ v2 then
        if v2 = (4 : Int32) then
          f_X10_put_45 N v0 v1 v2 v3 v0 v3 (0 : Int32) (99 : Int32) h8
        else
          f_X10_put_45 N v0 v1 v2 v3 v0 v3 (0 : Int32) (999 : Int32) h8
      else
        f_X10_put_45 N v0 v1 v2 v3 v0 v3 (0 : Int32) (5 : Int32) h8
set_option maxRecDepth 100000 in
set_option maxHeartbeats 4000000 in
theorem w_X10_put {p : Program} {l : Launch} {e : Env} {s : State} {m : MethodId} {args : Array Value} {below : List Frame} {meth : Method} {c : Code} {G : Gx} {r : Int32} {h' : Mem} (X : CX G p s m args c cX10_put 5 RX10) (hr : meth.sig.returnType = (Option.some Jvm.ClassFile.FieldType.int)) (hk : meth.locks = false) (N : Nat) : ∀ (v0 : Nat) (v1 : Int32) (v2 : Int32) (v3 : Int32) (h : Mem), f_X10_put N v0 v1 v2 v3 h = some (r, h') → ∀ (H : Heap) (locs : List Loc) (ls : Array Slot), MS G s h H locs 0 → lv_has ls 5 [(0, .ref (gB G + v0)), (1, .int v1), (2, .int v2), (3, .int v3)] → W p l e (rm_X10_put) s m args below meth c H locs 0 0 (QI G below args s r h' 0 0) (F0 m 0 ls []) := by
  intro v0 v1 v2 v3 h hf H locs ls M hl
  rw [f_X10_put] at hf
  refine lv_aload_n X.1 X.2.1 dX10_put_0 rfl (lv_at hl 0 rfl) ?_
  refine lv_iload_n X.1 X.2.1 dX10_put_1 rfl (lv_at hl 1 rfl) ?_
  obtain ⟨⟨⟩, q1, hf⟩ := bnd hf
  obtain ⟨t4, h3, q2, hf⟩ := bnd2 hf
  refine x_callVi (As := [.int v1]) cf_X10_205 (c_X10_isTown l G N v0 v1 h _ _ q2) rfl ⟨rfl, rfl, Nat.le_of_ble_eq_true rfl, Nat.le_of_ble_eq_true rfl⟩ ⟨Nat.le_of_ble_eq_true rfl, Nat.le_of_ble_eq_true rfl⟩ X M (x_recv cls_X10 X M q1) rfl rfl hl.1 (Nat.le_of_ble_eq_true rfl) dX10_put_2 (fun H locs M => ?_)
  refine lv_if_eq (tgt := 18) X.1 X.2.1 dX10_put_5 (by decide) (fun c5 => ?_) (fun c5 => ?_)
  · have hf := ifp c5 hf
    refine lv_iconst (v := (-1 : Int32)) X.1 X.2.1 dX10_put_18 (by decide) ?_
    obtain ⟨rfl, rfl⟩ := rt2 hf
    exact x_iret X hr hk M dX10_put_19
  · have hf := ifn c5 hf
    refine lv_aload_n X.1 X.2.1 dX10_put_8 rfl (lv_at hl 0 rfl) ?_
    refine lv_iload_n X.1 X.2.1 dX10_put_9 rfl (lv_at hl 2 rfl) ?_
    refine lv_iconst (v := (0 : Int32)) X.1 X.2.1 dX10_put_10 (by decide) ?_
    refine lv_iconst (v := (5 : Int32)) X.1 X.2.1 dX10_put_11 (by decide) ?_
    obtain ⟨⟨⟩, q6, hf⟩ := bnd hf
    obtain ⟨t9, h8, q7, hf⟩ := bnd2 hf
    refine x_callVi (As := [.int v2, .int (0 : Int32), .int (5 : Int32)]) cf_X10_197 (c_X10_in l G N v0 v2 (0 : Int32) (5 : Int32) h3 _ _ q7) rfl ⟨rfl, rfl, Nat.le_of_ble_eq_true rfl, Nat.le_of_ble_eq_true rfl⟩ ⟨Nat.le_of_ble_eq_true rfl, Nat.le_of_ble_eq_true rfl⟩ X M (x_recv cls_X10 X M q6) rfl rfl hl.1 (Nat.le_of_ble_eq_true rfl) dX10_put_12 (fun H locs M => ?_)
    refine lv_if_ne (tgt := 20) X.1 X.2.1 dX10_put_15 (by decide) (fun c10 => ?_) (fun c10 => ?_)
    · have hf := ifn c10 hf
      refine lv_aload_n X.1 X.2.1 dX10_put_20 rfl (lv_at hl 0 rfl) ?_
      refine lv_iload_n X.1 X.2.1 dX10_put_21 rfl (lv_at hl 3 rfl) ?_
      refine lv_iconst (v := (0 : Int32)) X.1 X.2.1 dX10_put_22 (by decide) ?_
      refine lv_iload_n X.1 X.2.1 dX10_put_23 rfl (lv_at hl 2 rfl) ?_
      refine lv_iconst (v := (3 : Int32)) X.1 X.2.1 dX10_put_24 (by decide) ?_
      refine lv_icmp_ge (tgt := 32) X.1 X.2.1 dX10_put_25 (by decide) (fun c11 => ?_) (fun c11 => ?_)
      · have hf := ifp c11 hf
        refine lv_iload_n X.1 X.2.1 dX10_put_32 rfl (lv_at hl 2 rfl) ?_
        refine lv_iconst (v := (4 : Int32)) X.1 X.2.1 dX10_put_33 (by decide) ?_
        refine lv_icmp_ne (tgt := 42) X.1 X.2.1 dX10_put_34 (by decide) (fun c12 => ?_) (fun c12 => ?_)
        · have hf := ifn c12 hf
          refine lv_sipush (v := (999 : Int32)) X.1 X.2.1 dX10_put_42 (by decide) ?_
          exact w_X10_put_45 X hr hk N v0 v1 v2 v3 v0 v3 (0 : Int32) (999 : Int32) h8 hf _ _ _ M (lv_sub hl [0, 1, 2, 3] rfl)
        · have hf := ifp c12 hf
          refine lv_bipush (v := (99 : Int32)) X.1 X.2.1 dX10_put_37 (by decide) ?_
          refine lv_goto (tgt := 45) X.1 X.2.1 dX10_put_39 (by decide) ?_
          exact w_X10_put_45 X hr hk N v0 v1 v2 v3 v0 v3 (0 : Int32) (99 : Int32) h8 hf _ _ _ M (lv_sub hl [0, 1, 2, 3] rfl)
      · have hf := ifn c11 hf
        refine lv_iconst (v := (5 : Int32)) X.1 X.2.1 dX10_put_28 (by decide) ?_
        refine lv_goto (tgt := 45) X.1 X.2.1 dX10_put_29 (by decide) ?_
        exact w_X10_put_45 X hr hk N v0 v1 v2 v3 v0 v3 (0 : Int32) (5 : Int32) h8 hf _ _ _ M (lv_sub hl [0, 1, 2, 3] rfl)
    · have hf := ifp c10 hf
      refine lv_iconst (v := (-1 : Int32)) X.1 X.2.1 dX10_put_18 (by decide) ?_
      obtain ⟨rfl, rfl⟩ := rt2 hf
      exact x_iret X hr hk M dX10_put_19
theorem c_X10_put (l : Launch) (G : Gx) (N : Nat) (v0 : Nat) (v1 : Int32) (v2 : Int32) (v3 : Int32) (h : Mem) (r : Int32) (h' : Mem) (hf : f_X10_put N v0 v1 v2 v3 h = some (r, h')) : MetG l G yX10_put (.code yX10_put cX10_put 5 (Option.some Jvm.ClassFile.FieldType.int)) rm_X10_put [.ref (gB G + v0), .int v1, .int v2, .int v3] h (QcI G r h') 0 0 :=
  x_met (by decide) rfl (Nat.le_of_ble_eq_true rfl) (fun p e s m args below meth c ls X M hr hk hin hl => w_X10_put X hr hk N v0 v1 v2 v3 h hf _ _ ls M hl)
abbrev rm_X10_isFamily : Room := { frames := 2, cells := 0, slots := 0, locals := 63 }
def f_X10_isFamily (N : Nat) (v0 : Nat) (v1 : Int32) (h : Mem) : Option (Int32 × Mem) :=
  (gI h v0 10 1).bind fun t1 =>
  (ck h v0 10).bind fun _ =>
  b2 (f_X10_in N v0 v1 (0 : Int32) (t1 - (1 : Int32)) h) fun t6 h5 =>
  rz t6 h5
set_option maxRecDepth 100000 in
set_option maxHeartbeats 4000000 in
theorem w_X10_isFamily {p : Program} {l : Launch} {e : Env} {s : State} {m : MethodId} {args : Array Value} {below : List Frame} {meth : Method} {c : Code} {G : Gx} {r : Int32} {h' : Mem} (X : CX G p s m args c cX10_isFamily 2 RX10) (hr : meth.sig.returnType = (Option.some Jvm.ClassFile.FieldType.boolean)) (hk : meth.locks = false) (N : Nat) : ∀ (v0 : Nat) (v1 : Int32) (h : Mem), f_X10_isFamily N v0 v1 h = some (r, h') → ∀ (H : Heap) (locs : List Loc) (ls : Array Slot), MS G s h H locs 0 → lv_has ls 2 [(0, .ref (gB G + v0)), (1, .int v1)] → W p l e (rm_X10_isFamily) s m args below meth c H locs 0 0 (QI G below args s r h' 0 0) (F0 m 0 ls []) := by
  intro v0 v1 h hf H locs ls M hl
  rw [f_X10_isFamily] at hf
  refine lv_aload_n X.1 X.2.1 dX10_isFamily_0 rfl (lv_at hl 0 rfl) ?_
  refine lv_iload_n X.1 X.2.1 dX10_isFamily_1 rfl (lv_at hl 1 rfl) ?_
  refine lv_iconst (v := (0 : Int32)) X.1 X.2.1 dX10_isFamily_2 (by decide) ?_
  refine lv_aload_n X.1 X.2.1 dX10_isFamily_3 rfl (lv_at hl 0 rfl) ?_
  obtain ⟨t1, q2, hf⟩ := bnd hf
  refine x_geti fl_X10_13 X M q2 dX10_isFamily_4 ?_
  refine lv_iconst (v := (1 : Int32)) X.1 X.2.1 dX10_isFamily_7 (by decide) ?_
  refine lv_isub X.1 X.2.1 dX10_isFamily_8 ?_
  obtain ⟨⟨⟩, q3, hf⟩ := bnd hf
  obtain ⟨t6, h5, q4, hf⟩ := bnd2 hf
  refine x_callVi (As := [.int v1, .int (0 : Int32), .int (t1 - (1 : Int32))]) cf_X10_197 (c_X10_in l G N v0 v1 (0 : Int32) (t1 - (1 : Int32)) h _ _ q4) rfl ⟨rfl, rfl, Nat.le_of_ble_eq_true rfl, Nat.le_of_ble_eq_true rfl⟩ ⟨Nat.le_of_ble_eq_true rfl, Nat.le_of_ble_eq_true rfl⟩ X M (x_recv cls_X10 X M q3) rfl rfl hl.1 (Nat.le_of_ble_eq_true rfl) dX10_isFamily_9 (fun H locs M => ?_)
  obtain ⟨z, rfl, rfl⟩ := rz_spec hf
  exact x_zret X hr hk (nz z) M dX10_isFamily_12
theorem c_X10_isFamily (l : Launch) (G : Gx) (N : Nat) (v0 : Nat) (v1 : Int32) (h : Mem) (r : Int32) (h' : Mem) (hf : f_X10_isFamily N v0 v1 h = some (r, h')) : MetG l G yX10_isFamily (.code yX10_isFamily cX10_isFamily 2 (Option.some Jvm.ClassFile.FieldType.boolean)) rm_X10_isFamily [.ref (gB G + v0), .int v1] h (QcI G r h') 0 0 :=
  x_met (by decide) rfl (Nat.le_of_ble_eq_true rfl) (fun p e s m args below meth c ls X M hr hk hin hl => w_X10_isFamily X hr hk N v0 v1 h hf _ _ ls M hl)
abbrev rm_X10_costOf : Room := { frames := 1, cells := 0, slots := 0, locals := 40 }
def f_X10_costOf_4 (N : Nat) (n : Nat) (v0 : Nat) (v1 : Int32) (v2 : Int32) (v3 : Int32) (h : Mem) : Option (Int32 × Mem) := match n with
  | 0 => none
  | n + 1 =>
    if (3 : Int32) ≤ v3 then
      (gR h v0 10 7).bind fun t2 =>
      (lI 100 h t2 v1).bind fun t4 =>
      if v2 ≤ t4 then
        some ((0 : Int32), h)
      else
        (gR h v0 10 7).bind fun t7 =>
        (lI 100 h t7 v1).bind fun t9 =>
        some ((v2 - t9), h)
    else
      (gR h v0 10 4).bind fun t11 =>
      (lI 100 h t11 (((3 : Int32) * v1) + v3)).bind fun t13 =>
      (gR h v0 10 24).bind fun t15 =>
      (lI 100 h t15 v3).bind fun t17 =>
      f_X10_costOf_4 N n v0 v1 (v2 + (t13 * t17)) (v3 + 1) h
set_option maxRecDepth 100000 in
set_option maxHeartbeats 4000000 in
theorem w_X10_costOf_4 {p : Program} {l : Launch} {e : Env} {s : State} {m : MethodId} {args : Array Value} {below : List Frame} {meth : Method} {c : Code} {G : Gx} {r : Int32} {h' : Mem} (X : CX G p s m args c cX10_costOf 4 RX10) (hr : meth.sig.returnType = (Option.some Jvm.ClassFile.FieldType.int)) (hk : meth.locks = false) (N : Nat) : ∀ (n : Nat) (v0 : Nat) (v1 : Int32) (v2 : Int32) (v3 : Int32) (h : Mem), f_X10_costOf_4 N n v0 v1 v2 v3 h = some (r, h') → ∀ (H : Heap) (locs : List Loc) (ls : Array Slot), MS G s h H locs 0 → lv_has ls 4 [(0, .ref (gB G + v0)), (1, .int v1), (2, .int v2), (3, .int v3)] → W p l e (rm_X10_costOf) s m args below meth c H locs 0 0 (QI G below args s r h' 0 0) (F0 m 4 ls []) := by
  intro n
  induction n with
  | zero =>
    intro v0 v1 v2 v3 h hf
    cases hf
  | succ n ih =>
    intro v0 v1 v2 v3 h hf H locs ls M hl
    rw [f_X10_costOf_4] at hf
    refine lv_iload_n X.1 X.2.1 dX10_costOf_4 rfl (lv_at hl 3 rfl) ?_
    refine lv_iconst (v := (3 : Int32)) X.1 X.2.1 dX10_costOf_5 (by decide) ?_
    refine lv_icmp_ge (tgt := 35) X.1 X.2.1 dX10_costOf_6 (by decide) (fun c1 => ?_) (fun c1 => ?_)
    · have hf := ifp c1 hf
      refine lv_iload_n X.1 X.2.1 dX10_costOf_35 rfl (lv_at hl 2 rfl) ?_
      refine lv_aload_n X.1 X.2.1 dX10_costOf_36 rfl (lv_at hl 0 rfl) ?_
      obtain ⟨t2, q3, hf⟩ := bnd hf
      refine x_getr fl_X10_32 X M q3 dX10_costOf_37 ?_
      refine lv_iload_n X.1 X.2.1 dX10_costOf_40 rfl (lv_at hl 1 rfl) ?_
      obtain ⟨t4, q5, hf⟩ := bnd hf
      refine x_iald X M q5 dX10_costOf_41 ?_
      refine lv_icmp_le (tgt := 56) X.1 X.2.1 dX10_costOf_42 (by decide) (fun c6 => ?_) (fun c6 => ?_)
      · have hf := ifp c6 hf
        refine lv_iconst (v := (0 : Int32)) X.1 X.2.1 dX10_costOf_56 (by decide) ?_
        obtain ⟨rfl, rfl⟩ := rt2 hf
        exact x_iret X hr hk M dX10_costOf_57
      · have hf := ifn c6 hf
        refine lv_iload_n X.1 X.2.1 dX10_costOf_45 rfl (lv_at hl 2 rfl) ?_
        refine lv_aload_n X.1 X.2.1 dX10_costOf_46 rfl (lv_at hl 0 rfl) ?_
        obtain ⟨t7, q8, hf⟩ := bnd hf
        refine x_getr fl_X10_32 X M q8 dX10_costOf_47 ?_
        refine lv_iload_n X.1 X.2.1 dX10_costOf_50 rfl (lv_at hl 1 rfl) ?_
        obtain ⟨t9, q10, hf⟩ := bnd hf
        refine x_iald X M q10 dX10_costOf_51 ?_
        refine lv_isub X.1 X.2.1 dX10_costOf_52 ?_
        refine lv_goto (tgt := 57) X.1 X.2.1 dX10_costOf_53 (by decide) ?_
        obtain ⟨rfl, rfl⟩ := rt2 hf
        exact x_iret X hr hk M dX10_costOf_57
    · have hf := ifn c1 hf
      refine lv_iload_n X.1 X.2.1 dX10_costOf_9 rfl (lv_at hl 2 rfl) ?_
      refine lv_aload_n X.1 X.2.1 dX10_costOf_10 rfl (lv_at hl 0 rfl) ?_
      obtain ⟨t11, q12, hf⟩ := bnd hf
      refine x_getr fl_X10_23 X M q12 dX10_costOf_11 ?_
      refine lv_iconst (v := (3 : Int32)) X.1 X.2.1 dX10_costOf_14 (by decide) ?_
      refine lv_iload_n X.1 X.2.1 dX10_costOf_15 rfl (lv_at hl 1 rfl) ?_
      refine lv_imul X.1 X.2.1 dX10_costOf_16 ?_
      refine lv_iload_n X.1 X.2.1 dX10_costOf_17 rfl (lv_at hl 3 rfl) ?_
      refine lv_iadd X.1 X.2.1 dX10_costOf_18 ?_
      obtain ⟨t13, q14, hf⟩ := bnd hf
      refine x_iald X M q14 dX10_costOf_19 ?_
      refine lv_aload_n X.1 X.2.1 dX10_costOf_20 rfl (lv_at hl 0 rfl) ?_
      obtain ⟨t15, q16, hf⟩ := bnd hf
      refine x_getr fl_X10_83 X M q16 dX10_costOf_21 ?_
      refine lv_iload_n X.1 X.2.1 dX10_costOf_24 rfl (lv_at hl 3 rfl) ?_
      obtain ⟨t17, q18, hf⟩ := bnd hf
      refine x_iald X M q18 dX10_costOf_25 ?_
      refine lv_imul X.1 X.2.1 dX10_costOf_26 ?_
      refine lv_iadd X.1 X.2.1 dX10_costOf_27 ?_
      refine lv_istore_n (lv' := [(2, .int (v2 + (t13 * t17))), (0, .ref (gB G + v0)), (1, .int v1), (3, .int v3)]) X.1 X.2.1 dX10_costOf_28 rfl hl (by decide) rfl (fun ls hl => ?_)
      refine lv_iinc (v := (v3 + 1)) (lv' := [(3, .int (v3 + 1)), (2, .int (v2 + (t13 * t17))), (0, .ref (gB G + v0)), (1, .int v1)]) X.1 X.2.1 dX10_costOf_29 hl (k := 3) rfl (by first | rfl | decide) (by decide) rfl (fun ls hl => ?_)
      refine lv_goto (tgt := 4) X.1 X.2.1 dX10_costOf_32 (by decide) ?_
      exact ih v0 v1 (v2 + (t13 * t17)) (v3 + 1) h hf _ _ _ M (lv_sub hl [2, 3, 1, 0] rfl)
def f_X10_costOf (N : Nat) (v0 : Nat) (v1 : Int32) (h : Mem) : Option (Int32 × Mem) :=
  f_X10_costOf_4 N N v0 v1 (0 : Int32) (0 : Int32) h
set_option maxRecDepth 100000 in
set_option maxHeartbeats 4000000 in
theorem w_X10_costOf {p : Program} {l : Launch} {e : Env} {s : State} {m : MethodId} {args : Array Value} {below : List Frame} {meth : Method} {c : Code} {G : Gx} {r : Int32} {h' : Mem} (X : CX G p s m args c cX10_costOf 4 RX10) (hr : meth.sig.returnType = (Option.some Jvm.ClassFile.FieldType.int)) (hk : meth.locks = false) (N : Nat) : ∀ (v0 : Nat) (v1 : Int32) (h : Mem), f_X10_costOf N v0 v1 h = some (r, h') → ∀ (H : Heap) (locs : List Loc) (ls : Array Slot), MS G s h H locs 0 → lv_has ls 4 [(0, .ref (gB G + v0)), (1, .int v1)] → W p l e (rm_X10_costOf) s m args below meth c H locs 0 0 (QI G below args s r h' 0 0) (F0 m 0 ls []) := by
  intro v0 v1 h hf H locs ls M hl
  rw [f_X10_costOf] at hf
  refine lv_iconst (v := (0 : Int32)) X.1 X.2.1 dX10_costOf_0 (by decide) ?_
  refine lv_istore_n (lv' := [(2, .int (0 : Int32)), (0, .ref (gB G + v0)), (1, .int v1)]) X.1 X.2.1 dX10_costOf_1 rfl hl (by decide) rfl (fun ls hl => ?_)
  refine lv_iconst (v := (0 : Int32)) X.1 X.2.1 dX10_costOf_2 (by decide) ?_
  refine lv_istore_n (lv' := [(3, .int (0 : Int32)), (2, .int (0 : Int32)), (0, .ref (gB G + v0)), (1, .int v1)]) X.1 X.2.1 dX10_costOf_3 rfl hl (by decide) rfl (fun ls hl => ?_)
  exact w_X10_costOf_4 X hr hk N N v0 v1 (0 : Int32) (0 : Int32) h hf _ _ _ M (lv_sub hl [2, 3, 1, 0] rfl)
theorem c_X10_costOf (l : Launch) (G : Gx) (N : Nat) (v0 : Nat) (v1 : Int32) (h : Mem) (r : Int32) (h' : Mem) (hf : f_X10_costOf N v0 v1 h = some (r, h')) : MetG l G yX10_costOf (.code yX10_costOf cX10_costOf 4 (Option.some Jvm.ClassFile.FieldType.int)) rm_X10_costOf [.ref (gB G + v0), .int v1] h (QcI G r h') 0 0 :=
  x_met (by decide) rfl (Nat.le_of_ble_eq_true rfl) (fun p e s m args below meth c ls X M hr hk hin hl => w_X10_costOf X hr hk N v0 v1 h hf _ _ ls M hl)
abbrev rm_X10_dues : Room := { frames := 2, cells := 0, slots := 0, locals := 63 }
def f_X10_dues_79 (N : Nat) (v0 : Nat) (v1 : Int32) (v2 : Int32) (v3 : Int32) (v4 : Int32) (v6 : Int32) (s0 : Int32) (h : Mem) (k11 : Nat → Int32 → Int32 → Int32 → Int32 → Int32 → Int32 → Mem → Option (Int32 × Mem)) : Option (Int32 × Mem) :=
  k11 v0 v1 v2 v3 v4 s0 (v6 + 1) h
set_option maxRecDepth 100000 in
set_option maxHeartbeats 4000000 in
theorem w_X10_dues_79 {p : Program} {l : Launch} {e : Env} {s : State} {m : MethodId} {args : Array Value} {below : List Frame} {meth : Method} {c : Code} {G : Gx} {r : Int32} {h' : Mem} (X : CX G p s m args c cX10_dues 8 RX10) (hr : meth.sig.returnType = (Option.some Jvm.ClassFile.FieldType.int)) (hk : meth.locks = false) (N : Nat) (k11 : Nat → Int32 → Int32 → Int32 → Int32 → Int32 → Int32 → Mem → Option (Int32 × Mem)) (K11 : ∀ (v0 : Nat) (v1 : Int32) (v2 : Int32) (v3 : Int32) (v4 : Int32) (v5 : Int32) (v6 : Int32) (h : Mem), k11 v0 v1 v2 v3 v4 v5 v6 h = some (r, h') → ∀ (H : Heap) (locs : List Loc) (ls : Array Slot), MS G s h H locs 0 → lv_has ls 8 [(0, .ref (gB G + v0)), (1, .int v1), (2, .int v2), (3, .int v3), (4, .int v4), (5, .int v5), (6, .int v6)] → W p l e (rm_X10_dues) s m args below meth c H locs 0 0 (QI G below args s r h' 0 0) (F0 m 11 ls [])) : ∀ (v0 : Nat) (v1 : Int32) (v2 : Int32) (v3 : Int32) (v4 : Int32) (v6 : Int32) (s0 : Int32) (h : Mem), f_X10_dues_79 N v0 v1 v2 v3 v4 v6 s0 h k11 = some (r, h') → ∀ (H : Heap) (locs : List Loc) (ls : Array Slot), MS G s h H locs 0 → lv_has ls 8 [(0, .ref (gB G + v0)), (1, .int v1), (2, .int v2), (3, .int v3), (4, .int v4), (6, .int v6)] → W p l e (rm_X10_dues) s m args below meth c H locs 0 0 (QI G below args s r h' 0 0) (F0 m 79 ls [.int s0]) := by
  intro v0 v1 v2 v3 v4 v6 s0 h hf H locs ls M hl
  rw [f_X10_dues_79] at hf
  refine lv_istore (lv' := [(5, .int s0), (0, .ref (gB G + v0)), (1, .int v1), (2, .int v2), (3, .int v3), (4, .int v4), (6, .int v6)]) X.1 X.2.1 dX10_dues_79 hl (by decide) rfl (fun ls hl => ?_)
  refine lv_iinc (v := (v6 + 1)) (lv' := [(6, .int (v6 + 1)), (5, .int s0), (0, .ref (gB G + v0)), (1, .int v1), (2, .int v2), (3, .int v3), (4, .int v4)]) X.1 X.2.1 dX10_dues_81 hl (k := 6) rfl (by first | rfl | decide) (by decide) rfl (fun ls hl => ?_)
  refine lv_goto (tgt := 11) X.1 X.2.1 dX10_dues_84 (by decide) ?_
  exact K11 v0 v1 v2 v3 v4 s0 (v6 + 1) h hf _ _ _ M (lv_sub hl [2, 3, 4, 5, 6, 1, 0] rfl)
def f_X10_dues_40 (N : Nat) (v0 : Nat) (v1 : Int32) (v2 : Int32) (v3 : Int32) (v4 : Int32) (v5 : Int32) (v6 : Int32) (h : Mem) (k11 : Nat → Int32 → Int32 → Int32 → Int32 → Int32 → Int32 → Mem → Option (Int32 × Mem)) : Option (Int32 × Mem) :=
  (gR h v0 10 9).bind fun t1 =>
  (lI 100 h t1 v6).bind fun t3 =>
  (gR h v0 10 9).bind fun t5 =>
  (lI 100 h t5 v6).bind fun t7 =>
  if t7 ≤ v5 then
    f_X10_dues_79 N v0 v1 v2 (v3 + 1) (v4 + t3) v6 v5 h k11
  else
    (gR h v0 10 9).bind fun t10 =>
    (lI 100 h t10 v6).bind fun t12 =>
    f_X10_dues_79 N v0 v1 v2 (v3 + 1) (v4 + t3) v6 t12 h k11
set_option maxRecDepth 100000 in
set_option maxHeartbeats 4000000 in
theorem w_X10_dues_40 {p : Program} {l : Launch} {e : Env} {s : State} {m : MethodId} {args : Array Value} {below : List Frame} {meth : Method} {c : Code} {G : Gx} {r : Int32} {h' : Mem} (X : CX G p s m args c cX10_dues 8 RX10) (hr : meth.sig.returnType = (Option.some Jvm.ClassFile.FieldType.int)) (hk : meth.locks = false) (N : Nat) (k11 : Nat → Int32 → Int32 → Int32 → Int32 → Int32 → Int32 → Mem → Option (Int32 × Mem)) (K11 : ∀ (v0 : Nat) (v1 : Int32) (v2 : Int32) (v3 : Int32) (v4 : Int32) (v5 : Int32) (v6 : Int32) (h : Mem), k11 v0 v1 v2 v3 v4 v5 v6 h = some (r, h') → ∀ (H : Heap) (locs : List Loc) (ls : Array Slot), MS G s h H locs 0 → lv_has ls 8 [(0, .ref (gB G + v0)), (1, .int v1), (2, .int v2), (3, .int v3), (4, .int v4), (5, .int v5), (6, .int v6)] → W p l e (rm_X10_dues) s m args below meth c H locs 0 0 (QI G below args s r h' 0 0) (F0 m 11 ls [])) : ∀ (v0 : Nat) (v1 : Int32) (v2 : Int32) (v3 : Int32) (v4 : Int32) (v5 : Int32) (v6 : Int32) (h : Mem), f_X10_dues_40 N v0 v1 v2 v3 v4 v5 v6 h k11 = some (r, h') → ∀ (H : Heap) (locs : List Loc) (ls : Array Slot), MS G s h H locs 0 → lv_has ls 8 [(0, .ref (gB G + v0)), (1, .int v1), (2, .int v2), (3, .int v3), (4, .int v4), (5, .int v5), (6, .int v6)] → W p l e (rm_X10_dues) s m args below meth c H locs 0 0 (QI G below args s r h' 0 0) (F0 m 40 ls []) := by
  intro v0 v1 v2 v3 v4 v5 v6 h hf H locs ls M hl
  rw [f_X10_dues_40] at hf
  refine lv_iinc (v := (v3 + 1)) (lv' := [(3, .int (v3 + 1)), (0, .ref (gB G + v0)), (1, .int v1), (2, .int v2), (4, .int v4), (5, .int v5), (6, .int v6)]) X.1 X.2.1 dX10_dues_40 hl (k := 3) rfl (by first | rfl | decide) (by decide) rfl (fun ls hl => ?_)
  refine lv_iload X.1 X.2.1 dX10_dues_43 (lv_at hl 4 rfl) ?_
  refine lv_aload_n X.1 X.2.1 dX10_dues_45 rfl (lv_at hl 1 rfl) ?_
  obtain ⟨t1, q2, hf⟩ := bnd hf
  refine x_getr fl_X10_38 X M q2 dX10_dues_46 ?_
  refine lv_iload X.1 X.2.1 dX10_dues_49 (lv_at hl 6 rfl) ?_
  obtain ⟨t3, q4, hf⟩ := bnd hf
  refine x_iald X M q4 dX10_dues_51 ?_
  refine lv_iadd X.1 X.2.1 dX10_dues_52 ?_
  refine lv_istore (lv' := [(4, .int (v4 + t3)), (3, .int (v3 + 1)), (0, .ref (gB G + v0)), (1, .int v1), (2, .int v2), (5, .int v5), (6, .int v6)]) X.1 X.2.1 dX10_dues_53 hl (by decide) rfl (fun ls hl => ?_)
  refine lv_aload_n X.1 X.2.1 dX10_dues_55 rfl (lv_at hl 2 rfl) ?_
  obtain ⟨t5, q6, hf⟩ := bnd hf
  refine x_getr fl_X10_38 X M q6 dX10_dues_56 ?_
  refine lv_iload X.1 X.2.1 dX10_dues_59 (lv_at hl 6 rfl) ?_
  obtain ⟨t7, q8, hf⟩ := bnd hf
  refine x_iald X M q8 dX10_dues_61 ?_
  refine lv_iload X.1 X.2.1 dX10_dues_62 (lv_at hl 5 rfl) ?_
  refine lv_icmp_le (tgt := 77) X.1 X.2.1 dX10_dues_64 (by decide) (fun c9 => ?_) (fun c9 => ?_)
  · have hf := ifp c9 hf
    refine lv_iload X.1 X.2.1 dX10_dues_77 (lv_at hl 5 rfl) ?_
    exact w_X10_dues_79 X hr hk N _ K11 v0 v1 v2 (v3 + 1) (v4 + t3) v6 v5 h hf _ _ _ M (lv_sub hl [2, 3, 4, 1, 0, 6] rfl)
  · have hf := ifn c9 hf
    refine lv_aload_n X.1 X.2.1 dX10_dues_67 rfl (lv_at hl 2 rfl) ?_
    obtain ⟨t10, q11, hf⟩ := bnd hf
    refine x_getr fl_X10_38 X M q11 dX10_dues_68 ?_
    refine lv_iload X.1 X.2.1 dX10_dues_71 (lv_at hl 6 rfl) ?_
    obtain ⟨t12, q13, hf⟩ := bnd hf
    refine x_iald X M q13 dX10_dues_73 ?_
    refine lv_goto (tgt := 79) X.1 X.2.1 dX10_dues_74 (by decide) ?_
    exact w_X10_dues_79 X hr hk N _ K11 v0 v1 v2 (v3 + 1) (v4 + t3) v6 t12 h hf _ _ _ M (lv_sub hl [2, 3, 4, 1, 0, 6] rfl)
def f_X10_dues_163 (N : Nat) (v0 : Nat) (v1 : Int32) (v2 : Int32) (v5 : Int32) (v7 : Int32) (s0 : Int32) (h : Mem) (k181 : Nat → Int32 → Int32 → Int32 → Int32 → Int32 → Mem → Option (Int32 × Mem)) (k182 : Nat → Int32 → Int32 → Int32 → Int32 → Int32 → Int32 → Mem → Option (Int32 × Mem)) : Option (Int32 × Mem) :=
  (gR h v0 10 9).bind fun t1 =>
  (lI 100 h t1 v7).bind fun t3 =>
  if ((2 : Int32) * t3) < v5 then
    k181 v0 v1 v2 v5 v7 s0 h
  else
    k182 v0 v1 v2 v5 v7 s0 (1 : Int32) h
set_option maxRecDepth 100000 in
set_option maxHeartbeats 4000000 in
theorem w_X10_dues_163 {p : Program} {l : Launch} {e : Env} {s : State} {m : MethodId} {args : Array Value} {below : List Frame} {meth : Method} {c : Code} {G : Gx} {r : Int32} {h' : Mem} (X : CX G p s m args c cX10_dues 8 RX10) (hr : meth.sig.returnType = (Option.some Jvm.ClassFile.FieldType.int)) (hk : meth.locks = false) (N : Nat) (k181 : Nat → Int32 → Int32 → Int32 → Int32 → Int32 → Mem → Option (Int32 × Mem)) (K181 : ∀ (v0 : Nat) (v1 : Int32) (v2 : Int32) (v5 : Int32) (v7 : Int32) (s0 : Int32) (h : Mem), k181 v0 v1 v2 v5 v7 s0 h = some (r, h') → ∀ (H : Heap) (locs : List Loc) (ls : Array Slot), MS G s h H locs 0 → lv_has ls 8 [(0, .ref (gB G + v0)), (1, .int v1), (2, .int v2), (5, .int v5), (7, .int v7)] → W p l e (rm_X10_dues) s m args below meth c H locs 0 0 (QI G below args s r h' 0 0) (F0 m 181 ls [.int s0])) (k182 : Nat → Int32 → Int32 → Int32 → Int32 → Int32 → Int32 → Mem → Option (Int32 × Mem)) (K182 : ∀ (v0 : Nat) (v1 : Int32) (v2 : Int32) (v5 : Int32) (v7 : Int32) (s0 : Int32) (s1 : Int32) (h : Mem), k182 v0 v1 v2 v5 v7 s0 s1 h = some (r, h') → ∀ (H : Heap) (locs : List Loc) (ls : Array Slot), MS G s h H locs 0 → lv_has ls 8 [(0, .ref (gB G + v0)), (1, .int v1), (2, .int v2), (5, .int v5), (7, .int v7)] → W p l e (rm_X10_dues) s m args below meth c H locs 0 0 (QI G below args s r h' 0 0) (F0 m 182 ls [.int s1, .int s0])) : ∀ (v0 : Nat) (v1 : Int32) (v2 : Int32) (v5 : Int32) (v7 : Int32) (s0 : Int32) (h : Mem), f_X10_dues_163 N v0 v1 v2 v5 v7 s0 h k181 k182 = some (r, h') → ∀ (H : Heap) (locs : List Loc) (ls : Array Slot), MS G s h H locs 0 → lv_has ls 8 [(0, .ref (gB G + v0)), (1, .int v1), (2, .int v2), (5, .int v5), (7, .int v7)] → W p l e (rm_X10_dues) s m args below meth c H locs 0 0 (QI G below args s r h' 0 0) (F0 m 163 ls [.int s0]) := by
  intro v0 v1 v2 v5 v7 s0 h hf H locs ls M hl
  rw [f_X10_dues_163] at hf
  refine lv_iconst (v := (2 : Int32)) X.1 X.2.1 dX10_dues_163 (by decide) ?_
  refine lv_aload_n X.1 X.2.1 dX10_dues_164 rfl (lv_at hl 0 rfl) ?_
  obtain ⟨t1, q2, hf⟩ := bnd hf
  refine x_getr fl_X10_38 X M q2 dX10_dues_165 ?_
  refine lv_iload X.1 X.2.1 dX10_dues_168 (lv_at hl 4 rfl) ?_
  obtain ⟨t3, q4, hf⟩ := bnd hf
  refine x_iald X M q4 dX10_dues_170 ?_
  refine lv_imul X.1 X.2.1 dX10_dues_171 ?_
  refine lv_iload X.1 X.2.1 dX10_dues_172 (lv_at hl 3 rfl) ?_
  refine lv_icmp_lt (tgt := 181) X.1 X.2.1 dX10_dues_174 (by decide) (fun c5 => ?_) (fun c5 => ?_)
  · have hf := ifp c5 hf
    exact K181 v0 v1 v2 v5 v7 s0 h hf _ _ _ M (lv_sub hl [0, 1, 2, 3, 4] rfl)
  · have hf := ifn c5 hf
    refine lv_iconst (v := (1 : Int32)) X.1 X.2.1 dX10_dues_177 (by decide) ?_
    refine lv_goto (tgt := 182) X.1 X.2.1 dX10_dues_178 (by decide) ?_
    exact K182 v0 v1 v2 v5 v7 s0 (1 : Int32) h hf _ _ _ M (lv_sub hl [0, 1, 2, 3, 4] rfl)
def f_X10_dues_181 (N : Nat) (v0 : Nat) (v1 : Int32) (v2 : Int32) (v5 : Int32) (v7 : Int32) (s0 : Int32) (h : Mem) (k182 : Nat → Int32 → Int32 → Int32 → Int32 → Int32 → Int32 → Mem → Option (Int32 × Mem)) : Option (Int32 × Mem) :=
  k182 v0 v1 v2 v5 v7 s0 (0 : Int32) h
set_option maxRecDepth 100000 in
set_option maxHeartbeats 4000000 in
theorem w_X10_dues_181 {p : Program} {l : Launch} {e : Env} {s : State} {m : MethodId} {args : Array Value} {below : List Frame} {meth : Method} {c : Code} {G : Gx} {r : Int32} {h' : Mem} (X : CX G p s m args c cX10_dues 8 RX10) (hr : meth.sig.returnType = (Option.some Jvm.ClassFile.FieldType.int)) (hk : meth.locks = false) (N : Nat) (k182 : Nat → Int32 → Int32 → Int32 → Int32 → Int32 → Int32 → Mem → Option (Int32 × Mem)) (K182 : ∀ (v0 : Nat) (v1 : Int32) (v2 : Int32) (v5 : Int32) (v7 : Int32) (s0 : Int32) (s1 : Int32) (h : Mem), k182 v0 v1 v2 v5 v7 s0 s1 h = some (r, h') → ∀ (H : Heap) (locs : List Loc) (ls : Array Slot), MS G s h H locs 0 → lv_has ls 8 [(0, .ref (gB G + v0)), (1, .int v1), (2, .int v2), (5, .int v5), (7, .int v7)] → W p l e (rm_X10_dues) s m args below meth c H locs 0 0 (QI G below args s r h' 0 0) (F0 m 182 ls [.int s1, .int s0])) : ∀ (v0 : Nat) (v1 : Int32) (v2 : Int32) (v5 : Int32) (v7 : Int32) (s0 : Int32) (h : Mem), f_X10_dues_181 N v0 v1 v2 v5 v7 s0 h k182 = some (r, h') → ∀ (H : Heap) (locs : List Loc) (ls : Array Slot), MS G s h H locs 0 → lv_has ls 8 [(0, .ref (gB G + v0)), (1, .int v1), (2, .int v2), (5, .int v5), (7, .int v7)] → W p l e (rm_X10_dues) s m args below meth c H locs 0 0 (QI G below args s r h' 0 0) (F0 m 181 ls [.int s0]) := by
  intro v0 v1 v2 v5 v7 s0 h hf H locs ls M hl
  rw [f_X10_dues_181] at hf
  refine lv_iconst (v := (0 : Int32)) X.1 X.2.1 dX10_dues_181 (by decide) ?_
  exact K182 v0 v1 v2 v5 v7 s0 (0 : Int32) h hf _ _ _ M (lv_sub hl [0, 1, 2, 3, 4] rfl)
def f_X10_dues_182 (N : Nat) (v0 : Nat) (v1 : Int32) (v2 : Int32) (v5 : Int32) (v7 : Int32) (s0 : Int32) (s1 : Int32) (h : Mem) (k135 : Nat → Int32 → Int32 → Int32 → Int32 → Int32 → Mem → Option (Int32 × Mem)) : Option (Int32 × Mem) :=
  k135 v0 v1 v2 v5 (s0 + s1) (v7 + 1) h
set_option maxRecDepth 100000 in
set_option maxHeartbeats 4000000 in
theorem w_X10_dues_182 {p : Program} {l : Launch} {e : Env} {s : State} {m : MethodId} {args : Array Value} {below : List Frame} {meth : Method} {c : Code} {G : Gx} {r : Int32} {h' : Mem} (X : CX G p s m args c cX10_dues 8 RX10) (hr : meth.sig.returnType = (Option.some Jvm.ClassFile.FieldType.int)) (hk : meth.locks = false) (N : Nat) (k135 : Nat → Int32 → Int32 → Int32 → Int32 → Int32 → Mem → Option (Int32 × Mem)) (K135 : ∀ (v0 : Nat) (v1 : Int32) (v2 : Int32) (v5 : Int32) (v6 : Int32) (v7 : Int32) (h : Mem), k135 v0 v1 v2 v5 v6 v7 h = some (r, h') → ∀ (H : Heap) (locs : List Loc) (ls : Array Slot), MS G s h H locs 0 → lv_has ls 8 [(0, .ref (gB G + v0)), (1, .int v1), (2, .int v2), (5, .int v5), (6, .int v6), (7, .int v7)] → W p l e (rm_X10_dues) s m args below meth c H locs 0 0 (QI G below args s r h' 0 0) (F0 m 135 ls [])) : ∀ (v0 : Nat) (v1 : Int32) (v2 : Int32) (v5 : Int32) (v7 : Int32) (s0 : Int32) (s1 : Int32) (h : Mem), f_X10_dues_182 N v0 v1 v2 v5 v7 s0 s1 h k135 = some (r, h') → ∀ (H : Heap) (locs : List Loc) (ls : Array Slot), MS G s h H locs 0 → lv_has ls 8 [(0, .ref (gB G + v0)), (1, .int v1), (2, .int v2), (5, .int v5), (7, .int v7)] → W p l e (rm_X10_dues) s m args below meth c H locs 0 0 (QI G below args s r h' 0 0) (F0 m 182 ls [.int s1, .int s0]) := by
  intro v0 v1 v2 v5 v7 s0 s1 h hf H locs ls M hl
  rw [f_X10_dues_182] at hf
  refine lv_iadd X.1 X.2.1 dX10_dues_182 ?_
  refine lv_istore (lv' := [(6, .int (s0 + s1)), (0, .ref (gB G + v0)), (1, .int v1), (2, .int v2), (5, .int v5), (7, .int v7)]) X.1 X.2.1 dX10_dues_183 hl (by decide) rfl (fun ls hl => ?_)
  refine lv_iinc (v := (v7 + 1)) (lv' := [(7, .int (v7 + 1)), (6, .int (s0 + s1)), (0, .ref (gB G + v0)), (1, .int v1), (2, .int v2), (5, .int v5)]) X.1 X.2.1 dX10_dues_185 hl (k := 5) rfl (by first | rfl | decide) (by decide) rfl (fun ls hl => ?_)
  refine lv_goto (tgt := 135) X.1 X.2.1 dX10_dues_188 (by decide) ?_
  exact K135 v0 v1 v2 v5 (s0 + s1) (v7 + 1) h hf _ _ _ M (lv_sub hl [2, 3, 4, 5, 1, 0] rfl)
def f_X10_dues_135 (N : Nat) (n : Nat) (v0 : Nat) (v1 : Int32) (v2 : Int32) (v5 : Int32) (v6 : Int32) (v7 : Int32) (h : Mem) : Option (Int32 × Mem) := match n with
  | 0 => none
  | n + 1 =>
    (gI h v0 10 1).bind fun t1 =>
    if t1 ≤ v7 then
      (gR h v0 10 9).bind fun t4 =>
      (lI 100 h t4 v1).bind fun t6 =>
      if ((2 : Int32) * t6) < v5 then
        some ((0 : Int32), h)
      else
        (ck h v0 10).bind fun _ =>
        b2 (f_X10_costOf N v0 v2 h) fun t12 h11 =>
        if v6 = 0 then none else
        some ((t12 / v6), h11)
    else
      (gR h v0 10 10).bind fun t14 =>
      (lI 100 h t14 v7).bind fun t16 =>
      if t16 = v2 then
        f_X10_dues_163 N v0 v1 v2 v5 v7 v6 h (fun v0 v1 v2 v5 v7 s0 h => f_X10_dues_181 N v0 v1 v2 v5 v7 s0 h (fun v0 v1 v2 v5 v7 s0 s1 h => f_X10_dues_182 N v0 v1 v2 v5 v7 s0 s1 h (fun v0 v1 v2 v5 v6 v7 h => f_X10_dues_135 N n v0 v1 v2 v5 v6 v7 h))) (fun v0 v1 v2 v5 v7 s0 s1 h => f_X10_dues_182 N v0 v1 v2 v5 v7 s0 s1 h (fun v0 v1 v2 v5 v6 v7 h => f_X10_dues_135 N n v0 v1 v2 v5 v6 v7 h))
      else
        if v7 = v1 then
          f_X10_dues_163 N v0 v1 v2 v5 v7 v6 h (fun v0 v1 v2 v5 v7 s0 h => f_X10_dues_181 N v0 v1 v2 v5 v7 s0 h (fun v0 v1 v2 v5 v7 s0 s1 h => f_X10_dues_182 N v0 v1 v2 v5 v7 s0 s1 h (fun v0 v1 v2 v5 v6 v7 h => f_X10_dues_135 N n v0 v1 v2 v5 v6 v7 h))) (fun v0 v1 v2 v5 v7 s0 s1 h => f_X10_dues_182 N v0 v1 v2 v5 v7 s0 s1 h (fun v0 v1 v2 v5 v6 v7 h => f_X10_dues_135 N n v0 v1 v2 v5 v6 v7 h))
        else
          f_X10_dues_181 N v0 v1 v2 v5 v7 v6 h (fun v0 v1 v2 v5 v7 s0 s1 h => f_X10_dues_182 N v0 v1 v2 v5 v7 s0 s1 h (fun v0 v1 v2 v5 v6 v7 h => f_X10_dues_135 N n v0 v1 v2 v5 v6 v7 h))
set_option maxRecDepth 100000 in
set_option maxHeartbeats 4000000 in
theorem w_X10_dues_135 {p : Program} {l : Launch} {e : Env} {s : State} {m : MethodId} {args : Array Value} {below : List Frame} {meth : Method} {c : Code} {G : Gx} {r : Int32} {h' : Mem} (X : CX G p s m args c cX10_dues 8 RX10) (hr : meth.sig.returnType = (Option.some Jvm.ClassFile.FieldType.int)) (hk : meth.locks = false) (N : Nat) : ∀ (n : Nat) (v0 : Nat) (v1 : Int32) (v2 : Int32) (v5 : Int32) (v6 : Int32) (v7 : Int32) (h : Mem), f_X10_dues_135 N n v0 v1 v2 v5 v6 v7 h = some (r, h') → ∀ (H : Heap) (locs : List Loc) (ls : Array Slot), MS G s h H locs 0 → lv_has ls 8 [(0, .ref (gB G + v0)), (1, .int v1), (2, .int v2), (5, .int v5), (6, .int v6), (7, .int v7)] → W p l e (rm_X10_dues) s m args below meth c H locs 0 0 (QI G below args s r h' 0 0) (F0 m 135 ls []) := by
  intro n
  induction n with
  | zero =>
    intro v0 v1 v2 v5 v6 v7 h hf
    cases hf
  | succ n ih =>
    intro v0 v1 v2 v5 v6 v7 h hf H locs ls M hl
    rw [f_X10_dues_135] at hf
    refine lv_iload X.1 X.2.1 dX10_dues_135 (lv_at hl 5 rfl) ?_
    refine lv_aload_n X.1 X.2.1 dX10_dues_137 rfl (lv_at hl 0 rfl) ?_
    obtain ⟨t1, q2, hf⟩ := bnd hf
    refine x_geti fl_X10_13 X M q2 dX10_dues_138 ?_
    refine lv_icmp_ge (tgt := 191) X.1 X.2.1 dX10_dues_141 (by decide) (fun c3 => ?_) (fun c3 => ?_)
    · have hf := ifp c3 hf
      refine lv_iconst (v := (2 : Int32)) X.1 X.2.1 dX10_dues_191 (by decide) ?_
      refine lv_aload_n X.1 X.2.1 dX10_dues_192 rfl (lv_at hl 0 rfl) ?_
      obtain ⟨t4, q5, hf⟩ := bnd hf
      refine x_getr fl_X10_38 X M q5 dX10_dues_193 ?_
      refine lv_iload_n X.1 X.2.1 dX10_dues_196 rfl (lv_at hl 1 rfl) ?_
      obtain ⟨t6, q7, hf⟩ := bnd hf
      refine x_iald X M q7 dX10_dues_197 ?_
      refine lv_imul X.1 X.2.1 dX10_dues_198 ?_
      refine lv_iload X.1 X.2.1 dX10_dues_199 (lv_at hl 3 rfl) ?_
      refine lv_icmp_lt (tgt := 215) X.1 X.2.1 dX10_dues_201 (by decide) (fun c8 => ?_) (fun c8 => ?_)
      · have hf := ifp c8 hf
        refine lv_iconst (v := (0 : Int32)) X.1 X.2.1 dX10_dues_215 (by decide) ?_
        obtain ⟨rfl, rfl⟩ := rt2 hf
        exact x_iret X hr hk M dX10_dues_216
      · have hf := ifn c8 hf
        refine lv_aload_n X.1 X.2.1 dX10_dues_204 rfl (lv_at hl 0 rfl) ?_
        refine lv_iload_n X.1 X.2.1 dX10_dues_205 rfl (lv_at hl 2 rfl) ?_
        obtain ⟨⟨⟩, q9, hf⟩ := bnd hf
        obtain ⟨t12, h11, q10, hf⟩ := bnd2 hf
        refine x_callVi (As := [.int v2]) cf_X10_229 (c_X10_costOf l G N v0 v2 h _ _ q10) rfl ⟨rfl, rfl, Nat.le_of_ble_eq_true rfl, Nat.le_of_ble_eq_true rfl⟩ ⟨Nat.le_of_ble_eq_true rfl, Nat.le_of_ble_eq_true rfl⟩ X M (x_recv cls_X10 X M q9) rfl rfl hl.1 (Nat.le_of_ble_eq_true rfl) dX10_dues_206 (fun H locs M => ?_)
        refine lv_iload X.1 X.2.1 dX10_dues_209 (lv_at hl 4 rfl) ?_
        by_cases c13 : v6 = 0
        · have hf := ifp c13 hf
          cases hf
        have hf := ifn c13 hf
        refine lv_idiv X.1 X.2.1 dX10_dues_211 c13 ?_
        refine lv_goto (tgt := 216) X.1 X.2.1 dX10_dues_212 (by decide) ?_
        obtain ⟨rfl, rfl⟩ := rt2 hf
        exact x_iret X hr hk M dX10_dues_216
    · have hf := ifn c3 hf
      refine lv_iload X.1 X.2.1 dX10_dues_144 (lv_at hl 4 rfl) ?_
      refine lv_aload_n X.1 X.2.1 dX10_dues_146 rfl (lv_at hl 0 rfl) ?_
      obtain ⟨t14, q15, hf⟩ := bnd hf
      refine x_getr fl_X10_41 X M q15 dX10_dues_147 ?_
      refine lv_iload X.1 X.2.1 dX10_dues_150 (lv_at hl 5 rfl) ?_
      obtain ⟨t16, q17, hf⟩ := bnd hf
      refine x_iald X M q17 dX10_dues_152 ?_
      refine lv_iload_n X.1 X.2.1 dX10_dues_153 rfl (lv_at hl 2 rfl) ?_
      refine lv_icmp_eq (tgt := 163) X.1 X.2.1 dX10_dues_154 (by decide) (fun c18 => ?_) (fun c18 => ?_)
      · have hf := ifp c18 hf
        exact w_X10_dues_163 X hr hk N _ (fun v0 v1 v2 v5 v7 s0 h hf H locs ls M hl => w_X10_dues_181 X hr hk N _ (fun v0 v1 v2 v5 v7 s0 s1 h hf H locs ls M hl => w_X10_dues_182 X hr hk N _ (fun v0 v1 v2 v5 v6 v7 h hf H locs ls M hl => ih v0 v1 v2 v5 v6 v7 h hf H locs ls M hl) v0 v1 v2 v5 v7 s0 s1 h hf H locs ls M hl) v0 v1 v2 v5 v7 s0 h hf H locs ls M hl) _ (fun v0 v1 v2 v5 v7 s0 s1 h hf H locs ls M hl => w_X10_dues_182 X hr hk N _ (fun v0 v1 v2 v5 v6 v7 h hf H locs ls M hl => ih v0 v1 v2 v5 v6 v7 h hf H locs ls M hl) v0 v1 v2 v5 v7 s0 s1 h hf H locs ls M hl) v0 v1 v2 v5 v7 v6 h hf _ _ _ M (lv_sub hl [0, 1, 2, 3, 5] rfl)
      · have hf := ifn c18 hf
        refine lv_iload X.1 X.2.1 dX10_dues_157 (lv_at hl 5 rfl) ?_
        refine lv_iload_n X.1 X.2.1 dX10_dues_159 rfl (lv_at hl 1 rfl) ?_
        refine lv_icmp_ne (tgt := 181) X.1 X.2.1 dX10_dues_160 (by decide) (fun c19 => ?_) (fun c19 => ?_)
        · have hf := ifn c19 hf
          exact w_X10_dues_181 X hr hk N _ (fun v0 v1 v2 v5 v7 s0 s1 h hf H locs ls M hl => w_X10_dues_182 X hr hk N _ (fun v0 v1 v2 v5 v6 v7 h hf H locs ls M hl => ih v0 v1 v2 v5 v6 v7 h hf H locs ls M hl) v0 v1 v2 v5 v7 s0 s1 h hf H locs ls M hl) v0 v1 v2 v5 v7 v6 h hf _ _ _ M (lv_sub hl [0, 1, 2, 3, 5] rfl)
        · have hf := ifp c19 hf
          exact w_X10_dues_163 X hr hk N _ (fun v0 v1 v2 v5 v7 s0 h hf H locs ls M hl => w_X10_dues_181 X hr hk N _ (fun v0 v1 v2 v5 v7 s0 s1 h hf H locs ls M hl => w_X10_dues_182 X hr hk N _ (fun v0 v1 v2 v5 v6 v7 h hf H locs ls M hl => ih v0 v1 v2 v5 v6 v7 h hf H locs ls M hl) v0 v1 v2 v5 v7 s0 s1 h hf H locs ls M hl) v0 v1 v2 v5 v7 s0 h hf H locs ls M hl) _ (fun v0 v1 v2 v5 v7 s0 s1 h hf H locs ls M hl => w_X10_dues_182 X hr hk N _ (fun v0 v1 v2 v5 v6 v7 h hf H locs ls M hl => ih v0 v1 v2 v5 v6 v7 h hf H locs ls M hl) v0 v1 v2 v5 v7 s0 s1 h hf H locs ls M hl) v0 v1 v2 v5 v7 v6 h hf _ _ _ M (lv_sub hl [0, 1, 2, 3, 5] rfl)
def f_X10_dues_11 (N : Nat) (n : Nat) (v0 : Nat) (v1 : Int32) (v2 : Int32) (v3 : Int32) (v4 : Int32) (v5 : Int32) (v6 : Int32) (h : Mem) : Option (Int32 × Mem) := match n with
  | 0 => none
  | n + 1 =>
    (gI h v0 10 1).bind fun t1 =>
    if t1 ≤ v6 then
      (gI h v0 10 26).bind fun t4 =>
      if t4 = (104 : Int32) then
        (ck h v0 10).bind fun _ =>
        b2 (f_X10_costOf N v0 v2 h) fun t22 h21 =>
        if v3 = 0 then none else
        some ((t22 / v3), h21)
      else
        (gI h v0 10 26).bind fun t7 =>
        if t7 = (105 : Int32) then
          (ck h v0 10).bind fun _ =>
          b2 (f_X10_costOf N v0 v2 h) fun t13 h12 =>
          (gR h12 v0 10 9).bind fun t14 =>
          (lI 100 h12 t14 v1).bind fun t16 =>
          if v4 = 0 then none else
          some (((t13 * t16) / v4), h12)
        else
          f_X10_dues_135 N N v0 v1 v2 v5 (0 : Int32) (0 : Int32) h
    else
      (gR h v0 10 10).bind fun t24 =>
      (lI 100 h t24 v6).bind fun t26 =>
      if t26 = v2 then
        f_X10_dues_40 N v0 v1 v2 v3 v4 v5 v6 h (fun v0 v1 v2 v3 v4 v5 v6 h => f_X10_dues_11 N n v0 v1 v2 v3 v4 v5 v6 h)
      else
        if v6 = v1 then
          f_X10_dues_40 N v0 v1 v2 v3 v4 v5 v6 h (fun v0 v1 v2 v3 v4 v5 v6 h => f_X10_dues_11 N n v0 v1 v2 v3 v4 v5 v6 h)
        else
          f_X10_dues_11 N n v0 v1 v2 v3 v4 v5 (v6 + 1) h
set_option maxRecDepth 100000 in
set_option maxHeartbeats 4000000 in
theorem w_X10_dues_11 {p : Program} {l : Launch} {e : Env} {s : State} {m : MethodId} {args : Array Value} {below : List Frame} {meth : Method} {c : Code} {G : Gx} {r : Int32} {h' : Mem} (X : CX G p s m args c cX10_dues 8 RX10) (hr : meth.sig.returnType = (Option.some Jvm.ClassFile.FieldType.int)) (hk : meth.locks = false) (N : Nat) : ∀ (n : Nat) (v0 : Nat) (v1 : Int32) (v2 : Int32) (v3 : Int32) (v4 : Int32) (v5 : Int32) (v6 : Int32) (h : Mem), f_X10_dues_11 N n v0 v1 v2 v3 v4 v5 v6 h = some (r, h') → ∀ (H : Heap) (locs : List Loc) (ls : Array Slot), MS G s h H locs 0 → lv_has ls 8 [(0, .ref (gB G + v0)), (1, .int v1), (2, .int v2), (3, .int v3), (4, .int v4), (5, .int v5), (6, .int v6)] → W p l e (rm_X10_dues) s m args below meth c H locs 0 0 (QI G below args s r h' 0 0) (F0 m 11 ls []) := by
  intro n
  induction n with
  | zero =>
    intro v0 v1 v2 v3 v4 v5 v6 h hf
    cases hf
  | succ n ih =>
    intro v0 v1 v2 v3 v4 v5 v6 h hf H locs ls M hl
    rw [f_X10_dues_11] at hf
    refine lv_iload X.1 X.2.1 dX10_dues_11 (lv_at hl 6 rfl) ?_
    refine lv_aload_n X.1 X.2.1 dX10_dues_13 rfl (lv_at hl 0 rfl) ?_
    obtain ⟨t1, q2, hf⟩ := bnd hf
    refine x_geti fl_X10_13 X M q2 dX10_dues_14 ?_
    refine lv_icmp_ge (tgt := 87) X.1 X.2.1 dX10_dues_17 (by decide) (fun c3 => ?_) (fun c3 => ?_)
    · have hf := ifp c3 hf
      refine lv_aload_n X.1 X.2.1 dX10_dues_87 rfl (lv_at hl 0 rfl) ?_
      obtain ⟨t4, q5, hf⟩ := bnd hf
      refine x_geti fl_X10_89 X M q5 dX10_dues_88 ?_
      refine lv_bipush (v := (104 : Int32)) X.1 X.2.1 dX10_dues_91 (by decide) ?_
      refine lv_icmp_ne (tgt := 104) X.1 X.2.1 dX10_dues_93 (by decide) (fun c6 => ?_) (fun c6 => ?_)
      · have hf := ifn c6 hf
        refine lv_aload_n X.1 X.2.1 dX10_dues_104 rfl (lv_at hl 0 rfl) ?_
        obtain ⟨t7, q8, hf⟩ := bnd hf
        refine x_geti fl_X10_89 X M q8 dX10_dues_105 ?_
        refine lv_bipush (v := (105 : Int32)) X.1 X.2.1 dX10_dues_108 (by decide) ?_
        refine lv_icmp_ne (tgt := 129) X.1 X.2.1 dX10_dues_110 (by decide) (fun c9 => ?_) (fun c9 => ?_)
        · have hf := ifn c9 hf
          refine lv_iconst (v := (0 : Int32)) X.1 X.2.1 dX10_dues_129 (by decide) ?_
          refine lv_istore (lv' := [(6, .int (0 : Int32)), (0, .ref (gB G + v0)), (1, .int v1), (2, .int v2), (3, .int v3), (4, .int v4), (5, .int v5)]) X.1 X.2.1 dX10_dues_130 hl (by decide) rfl (fun ls hl => ?_)
          refine lv_iconst (v := (0 : Int32)) X.1 X.2.1 dX10_dues_132 (by decide) ?_
          refine lv_istore (lv' := [(7, .int (0 : Int32)), (6, .int (0 : Int32)), (0, .ref (gB G + v0)), (1, .int v1), (2, .int v2), (3, .int v3), (4, .int v4), (5, .int v5)]) X.1 X.2.1 dX10_dues_133 hl (by decide) rfl (fun ls hl => ?_)
          exact w_X10_dues_135 X hr hk N N v0 v1 v2 v5 (0 : Int32) (0 : Int32) h hf _ _ _ M (lv_sub hl [2, 3, 4, 7, 1, 0] rfl)
        · have hf := ifp c9 hf
          refine lv_aload_n X.1 X.2.1 dX10_dues_113 rfl (lv_at hl 0 rfl) ?_
          refine lv_iload_n X.1 X.2.1 dX10_dues_114 rfl (lv_at hl 2 rfl) ?_
          obtain ⟨⟨⟩, q10, hf⟩ := bnd hf
          obtain ⟨t13, h12, q11, hf⟩ := bnd2 hf
          refine x_callVi (As := [.int v2]) cf_X10_229 (c_X10_costOf l G N v0 v2 h _ _ q11) rfl ⟨rfl, rfl, Nat.le_of_ble_eq_true rfl, Nat.le_of_ble_eq_true rfl⟩ ⟨Nat.le_of_ble_eq_true rfl, Nat.le_of_ble_eq_true rfl⟩ X M (x_recv cls_X10 X M q10) rfl rfl hl.1 (Nat.le_of_ble_eq_true rfl) dX10_dues_115 (fun H locs M => ?_)
          refine lv_aload_n X.1 X.2.1 dX10_dues_118 rfl (lv_at hl 0 rfl) ?_
          obtain ⟨t14, q15, hf⟩ := bnd hf
          refine x_getr fl_X10_38 X M q15 dX10_dues_119 ?_
          refine lv_iload_n X.1 X.2.1 dX10_dues_122 rfl (lv_at hl 1 rfl) ?_
          obtain ⟨t16, q17, hf⟩ := bnd hf
          refine x_iald X M q17 dX10_dues_123 ?_
          refine lv_imul X.1 X.2.1 dX10_dues_124 ?_
          refine lv_iload X.1 X.2.1 dX10_dues_125 (lv_at hl 4 rfl) ?_
          by_cases c18 : v4 = 0
          · have hf := ifp c18 hf
            cases hf
          have hf := ifn c18 hf
          refine lv_idiv X.1 X.2.1 dX10_dues_127 c18 ?_
          obtain ⟨rfl, rfl⟩ := rt2 hf
          exact x_iret X hr hk M dX10_dues_128
      · have hf := ifp c6 hf
        refine lv_aload_n X.1 X.2.1 dX10_dues_96 rfl (lv_at hl 0 rfl) ?_
        refine lv_iload_n X.1 X.2.1 dX10_dues_97 rfl (lv_at hl 2 rfl) ?_
        obtain ⟨⟨⟩, q19, hf⟩ := bnd hf
        obtain ⟨t22, h21, q20, hf⟩ := bnd2 hf
        refine x_callVi (As := [.int v2]) cf_X10_229 (c_X10_costOf l G N v0 v2 h _ _ q20) rfl ⟨rfl, rfl, Nat.le_of_ble_eq_true rfl, Nat.le_of_ble_eq_true rfl⟩ ⟨Nat.le_of_ble_eq_true rfl, Nat.le_of_ble_eq_true rfl⟩ X M (x_recv cls_X10 X M q19) rfl rfl hl.1 (Nat.le_of_ble_eq_true rfl) dX10_dues_98 (fun H locs M => ?_)
        refine lv_iload_n X.1 X.2.1 dX10_dues_101 rfl (lv_at hl 3 rfl) ?_
        by_cases c23 : v3 = 0
        · have hf := ifp c23 hf
          cases hf
        have hf := ifn c23 hf
        refine lv_idiv X.1 X.2.1 dX10_dues_102 c23 ?_
        obtain ⟨rfl, rfl⟩ := rt2 hf
        exact x_iret X hr hk M dX10_dues_103
    · have hf := ifn c3 hf
      refine lv_aload_n X.1 X.2.1 dX10_dues_20 rfl (lv_at hl 0 rfl) ?_
      obtain ⟨t24, q25, hf⟩ := bnd hf
      refine x_getr fl_X10_41 X M q25 dX10_dues_21 ?_
      refine lv_iload X.1 X.2.1 dX10_dues_24 (lv_at hl 6 rfl) ?_
      obtain ⟨t26, q27, hf⟩ := bnd hf
      refine x_iald X M q27 dX10_dues_26 ?_
      refine lv_iload_n X.1 X.2.1 dX10_dues_27 rfl (lv_at hl 2 rfl) ?_
      refine lv_icmp_eq (tgt := 40) X.1 X.2.1 dX10_dues_28 (by decide) (fun c28 => ?_) (fun c28 => ?_)
      · have hf := ifp c28 hf
        exact w_X10_dues_40 X hr hk N _ (fun v0 v1 v2 v3 v4 v5 v6 h hf H locs ls M hl => ih v0 v1 v2 v3 v4 v5 v6 h hf H locs ls M hl) v0 v1 v2 v3 v4 v5 v6 h hf _ _ _ M (lv_sub hl [0, 1, 2, 3, 4, 5, 6] rfl)
      · have hf := ifn c28 hf
        refine lv_iload X.1 X.2.1 dX10_dues_31 (lv_at hl 6 rfl) ?_
        refine lv_iload_n X.1 X.2.1 dX10_dues_33 rfl (lv_at hl 1 rfl) ?_
        refine lv_icmp_eq (tgt := 40) X.1 X.2.1 dX10_dues_34 (by decide) (fun c29 => ?_) (fun c29 => ?_)
        · have hf := ifp c29 hf
          exact w_X10_dues_40 X hr hk N _ (fun v0 v1 v2 v3 v4 v5 v6 h hf H locs ls M hl => ih v0 v1 v2 v3 v4 v5 v6 h hf H locs ls M hl) v0 v1 v2 v3 v4 v5 v6 h hf _ _ _ M (lv_sub hl [0, 1, 2, 3, 4, 5, 6] rfl)
        · have hf := ifn c29 hf
          refine lv_goto (tgt := 81) X.1 X.2.1 dX10_dues_37 (by decide) ?_
          refine lv_iinc (v := (v6 + 1)) (lv' := [(6, .int (v6 + 1)), (0, .ref (gB G + v0)), (1, .int v1), (2, .int v2), (3, .int v3), (4, .int v4), (5, .int v5)]) X.1 X.2.1 dX10_dues_81 hl (k := 6) rfl (by first | rfl | decide) (by decide) rfl (fun ls hl => ?_)
          refine lv_goto (tgt := 11) X.1 X.2.1 dX10_dues_84 (by decide) ?_
          exact ih v0 v1 v2 v3 v4 v5 (v6 + 1) h hf _ _ _ M (lv_sub hl [1, 2, 3, 4, 5, 6, 0] rfl)
def f_X10_dues (N : Nat) (v0 : Nat) (v1 : Int32) (v2 : Int32) (h : Mem) : Option (Int32 × Mem) :=
  f_X10_dues_11 N N v0 v1 v2 (0 : Int32) (0 : Int32) (0 : Int32) (0 : Int32) h
set_option maxRecDepth 100000 in
set_option maxHeartbeats 4000000 in
theorem w_X10_dues {p : Program} {l : Launch} {e : Env} {s : State} {m : MethodId} {args : Array Value} {below : List Frame} {meth : Method} {c : Code} {G : Gx} {r : Int32} {h' : Mem} (X : CX G p s m args c cX10_dues 8 RX10) (hr : meth.sig.returnType = (Option.some Jvm.ClassFile.FieldType.int)) (hk : meth.locks = false) (N : Nat) : ∀ (v0 : Nat) (v1 : Int32) (v2 : Int32) (h : Mem), f_X10_dues N v0 v1 v2 h = some (r, h') → ∀ (H : Heap) (locs : List Loc) (ls : Array Slot), MS G s h H locs 0 → lv_has ls 8 [(0, .ref (gB G + v0)), (1, .int v1), (2, .int v2)] → W p l e (rm_X10_dues) s m args below meth c H locs 0 0 (QI G below args s r h' 0 0) (F0 m 0 ls []) := by
  intro v0 v1 v2 h hf H locs ls M hl
  rw [f_X10_dues] at hf
  refine lv_iconst (v := (0 : Int32)) X.1 X.2.1 dX10_dues_0 (by decide) ?_
  refine lv_istore_n (lv' := [(3, .int (0 : Int32)), (0, .ref (gB G + v0)), (1, .int v1), (2, .int v2)]) X.1 X.2.1 dX10_dues_1 rfl hl (by decide) rfl (fun ls hl => ?_)
  refine lv_iconst (v := (0 : Int32)) X.1 X.2.1 dX10_dues_2 (by decide) ?_
  refine lv_istore (lv' := [(4, .int (0 : Int32)), (3, .int (0 : Int32)), (0, .ref (gB G + v0)), (1, .int v1), (2, .int v2)]) X.1 X.2.1 dX10_dues_3 hl (by decide) rfl (fun ls hl => ?_)
  refine lv_iconst (v := (0 : Int32)) X.1 X.2.1 dX10_dues_5 (by decide) ?_
  refine lv_istore (lv' := [(5, .int (0 : Int32)), (4, .int (0 : Int32)), (3, .int (0 : Int32)), (0, .ref (gB G + v0)), (1, .int v1), (2, .int v2)]) X.1 X.2.1 dX10_dues_6 hl (by decide) rfl (fun ls hl => ?_)
  refine lv_iconst (v := (0 : Int32)) X.1 X.2.1 dX10_dues_8 (by decide) ?_
  refine lv_istore (lv' := [(6, .int (0 : Int32)), (5, .int (0 : Int32)), (4, .int (0 : Int32)), (3, .int (0 : Int32)), (0, .ref (gB G + v0)), (1, .int v1), (2, .int v2)]) X.1 X.2.1 dX10_dues_9 hl (by decide) rfl (fun ls hl => ?_)
  exact w_X10_dues_11 X hr hk N N v0 v1 v2 (0 : Int32) (0 : Int32) (0 : Int32) (0 : Int32) h hf _ _ _ M (lv_sub hl [4, 5, 6, 3, 2, 1, 0] rfl)
theorem c_X10_dues (l : Launch) (G : Gx) (N : Nat) (v0 : Nat) (v1 : Int32) (v2 : Int32) (h : Mem) (r : Int32) (h' : Mem) (hf : f_X10_dues N v0 v1 v2 h = some (r, h')) : MetG l G yX10_dues (.code yX10_dues cX10_dues 8 (Option.some Jvm.ClassFile.FieldType.int)) rm_X10_dues [.ref (gB G + v0), .int v1, .int v2] h (QcI G r h') 0 0 :=
  x_met (by decide) rfl (Nat.le_of_ble_eq_true rfl) (fun p e s m args below meth c ls X M hr hk hin hl => w_X10_dues X hr hk N v0 v1 v2 h hf _ _ ls M hl)
abbrev rm_X10_next : Room := { frames := 1, cells := 0, slots := 0, locals := 40 }
def f_X10_next (N : Nat) (v0 : Nat) (h : Mem) : Option (Int32 × Mem) :=
  (gI h v0 10 19).bind fun t1 =>
  (gI h v0 10 18).bind fun t3 =>
  if t3 ≤ t1 then
    some ((-1 : Int32), h)
  else
    (gR h v0 10 14).bind fun t6 =>
    (gI h v0 10 17).bind fun t8 =>
    (gI h v0 10 19).bind fun t10 =>
    (lI 100 h t6 (t8 + t10)).bind fun t12 =>
    some (t12, h)
set_option maxRecDepth 100000 in
set_option maxHeartbeats 4000000 in
theorem w_X10_next {p : Program} {l : Launch} {e : Env} {s : State} {m : MethodId} {args : Array Value} {below : List Frame} {meth : Method} {c : Code} {G : Gx} {r : Int32} {h' : Mem} (X : CX G p s m args c cX10_next 1 RX10) (hr : meth.sig.returnType = (Option.some Jvm.ClassFile.FieldType.int)) (hk : meth.locks = false) (N : Nat) : ∀ (v0 : Nat) (h : Mem), f_X10_next N v0 h = some (r, h') → ∀ (H : Heap) (locs : List Loc) (ls : Array Slot), MS G s h H locs 0 → lv_has ls 1 [(0, .ref (gB G + v0))] → W p l e (rm_X10_next) s m args below meth c H locs 0 0 (QI G below args s r h' 0 0) (F0 m 0 ls []) := by
  intro v0 h hf H locs ls M hl
  rw [f_X10_next] at hf
  refine lv_aload_n X.1 X.2.1 dX10_next_0 rfl (lv_at hl 0 rfl) ?_
  obtain ⟨t1, q2, hf⟩ := bnd hf
  refine x_geti fl_X10_68 X M q2 dX10_next_1 ?_
  refine lv_aload_n X.1 X.2.1 dX10_next_4 rfl (lv_at hl 0 rfl) ?_
  obtain ⟨t3, q4, hf⟩ := bnd hf
  refine x_geti fl_X10_65 X M q4 dX10_next_5 ?_
  refine lv_icmp_ge (tgt := 28) X.1 X.2.1 dX10_next_8 (by decide) (fun c5 => ?_) (fun c5 => ?_)
  · have hf := ifp c5 hf
    refine lv_iconst (v := (-1 : Int32)) X.1 X.2.1 dX10_next_28 (by decide) ?_
    obtain ⟨rfl, rfl⟩ := rt2 hf
    exact x_iret X hr hk M dX10_next_29
  · have hf := ifn c5 hf
    refine lv_aload_n X.1 X.2.1 dX10_next_11 rfl (lv_at hl 0 rfl) ?_
    obtain ⟨t6, q7, hf⟩ := bnd hf
    refine x_getr fl_X10_53 X M q7 dX10_next_12 ?_
    refine lv_aload_n X.1 X.2.1 dX10_next_15 rfl (lv_at hl 0 rfl) ?_
    obtain ⟨t8, q9, hf⟩ := bnd hf
    refine x_geti fl_X10_62 X M q9 dX10_next_16 ?_
    refine lv_aload_n X.1 X.2.1 dX10_next_19 rfl (lv_at hl 0 rfl) ?_
    obtain ⟨t10, q11, hf⟩ := bnd hf
    refine x_geti fl_X10_68 X M q11 dX10_next_20 ?_
    refine lv_iadd X.1 X.2.1 dX10_next_23 ?_
    obtain ⟨t12, q13, hf⟩ := bnd hf
    refine x_iald X M q13 dX10_next_24 ?_
    refine lv_goto (tgt := 29) X.1 X.2.1 dX10_next_25 (by decide) ?_
    obtain ⟨rfl, rfl⟩ := rt2 hf
    exact x_iret X hr hk M dX10_next_29
theorem c_X10_next (l : Launch) (G : Gx) (N : Nat) (v0 : Nat) (h : Mem) (r : Int32) (h' : Mem) (hf : f_X10_next N v0 h = some (r, h')) : MetG l G yX10_next (.code yX10_next cX10_next 1 (Option.some Jvm.ClassFile.FieldType.int)) rm_X10_next [.ref (gB G + v0)] h (QcI G r h') 0 0 :=
  x_met (by decide) rfl (Nat.le_of_ble_eq_true rfl) (fun p e s m args below meth c ls X M hr hk hin hl => w_X10_next X hr hk N v0 h hf _ _ ls M hl)
abbrev rm_X10_takes : Room := { frames := 2, cells := 0, slots := 0, locals := 60 }
def f_X10_takes (N : Nat) (v0 : Nat) (v1 : Int32) (h : Mem) : Option (Int32 × Mem) :=
  (ck h v0 10).bind fun _ =>
  b2 (f_X10_next N v0 h) fun t4 h3 =>
  if t4 = v1 then
    (gI h3 v0 10 19).bind fun t6 =>
    (sI h3 v0 10 19 (t6 + (1 : Int32))).bind fun h8 =>
    some ((1 : Int32), h8)
  else
    some ((0 : Int32), h3)
set_option maxRecDepth 100000 in
set_option maxHeartbeats 4000000 in
theorem w_X10_takes {p : Program} {l : Launch} {e : Env} {s : State} {m : MethodId} {args : Array Value} {below : List Frame} {meth : Method} {c : Code} {G : Gx} {r : Int32} {h' : Mem} (X : CX G p s m args c cX10_takes 2 RX10) (hr : meth.sig.returnType = (Option.some Jvm.ClassFile.FieldType.boolean)) (hk : meth.locks = false) (N : Nat) : ∀ (v0 : Nat) (v1 : Int32) (h : Mem), f_X10_takes N v0 v1 h = some (r, h') → ∀ (H : Heap) (locs : List Loc) (ls : Array Slot), MS G s h H locs 0 → lv_has ls 2 [(0, .ref (gB G + v0)), (1, .int v1)] → W p l e (rm_X10_takes) s m args below meth c H locs 0 0 (QI G below args s r h' 0 0) (F0 m 0 ls []) := by
  intro v0 v1 h hf H locs ls M hl
  rw [f_X10_takes] at hf
  refine lv_aload_n X.1 X.2.1 dX10_takes_0 rfl (lv_at hl 0 rfl) ?_
  obtain ⟨⟨⟩, q1, hf⟩ := bnd hf
  obtain ⟨t4, h3, q2, hf⟩ := bnd2 hf
  refine x_callVi (As := []) cf_X10_232 (c_X10_next l G N v0 h _ _ q2) rfl ⟨rfl, rfl, Nat.le_of_ble_eq_true rfl, Nat.le_of_ble_eq_true rfl⟩ ⟨Nat.le_of_ble_eq_true rfl, Nat.le_of_ble_eq_true rfl⟩ X M (x_recv cls_X10 X M q1) rfl rfl hl.1 (Nat.le_of_ble_eq_true rfl) dX10_takes_1 (fun H locs M => ?_)
  refine lv_iload_n X.1 X.2.1 dX10_takes_4 rfl (lv_at hl 1 rfl) ?_
  refine lv_icmp_eq (tgt := 10) X.1 X.2.1 dX10_takes_5 (by decide) (fun c5 => ?_) (fun c5 => ?_)
  · have hf := ifp c5 hf
    refine lv_aload_n X.1 X.2.1 dX10_takes_10 rfl (lv_at hl 0 rfl) ?_
    refine lv_dup X.1 X.2.1 dX10_takes_11 rfl ?_
    obtain ⟨t6, q7, hf⟩ := bnd hf
    refine x_geti fl_X10_68 X M q7 dX10_takes_12 ?_
    refine lv_iconst (v := (1 : Int32)) X.1 X.2.1 dX10_takes_15 (by decide) ?_
    refine lv_iadd X.1 X.2.1 dX10_takes_16 ?_
    obtain ⟨h8, q9, hf⟩ := bnd hf
    refine x_puti fl_X10_68 fp_X10_68.1 fp_X10_68.2 X M q9 dX10_takes_17 (fun H locs M => ?_)
    refine lv_iconst (v := (1 : Int32)) X.1 X.2.1 dX10_takes_20 (by decide) ?_
    obtain ⟨rfl, rfl⟩ := rt2 hf
    exact x_zret X hr hk rfl M dX10_takes_21
  · have hf := ifn c5 hf
    refine lv_iconst (v := (0 : Int32)) X.1 X.2.1 dX10_takes_8 (by decide) ?_
    obtain ⟨rfl, rfl⟩ := rt2 hf
    exact x_zret X hr hk rfl M dX10_takes_9
theorem c_X10_takes (l : Launch) (G : Gx) (N : Nat) (v0 : Nat) (v1 : Int32) (h : Mem) (r : Int32) (h' : Mem) (hf : f_X10_takes N v0 v1 h = some (r, h')) : MetG l G yX10_takes (.code yX10_takes cX10_takes 2 (Option.some Jvm.ClassFile.FieldType.boolean)) rm_X10_takes [.ref (gB G + v0), .int v1] h (QcI G r h') 0 0 :=
  x_met (by decide) rfl (Nat.le_of_ble_eq_true rfl) (fun p e s m args below meth c ls X M hr hk hin hl => w_X10_takes X hr hk N v0 v1 h hf _ _ ls M hl)
abbrev rm_X10_takesWord : Room := { frames := 3, cells := 0, slots := 0, locals := 81 }
def f_X10_takesWord_4 (N : Nat) (n : Nat) (v0 : Nat) (v1 : Int32) (v3 : Int32) (h : Mem) : Option (Int32 × Mem) := match n with
  | 0 => none
  | n + 1 =>
    if v3 < 0 then
      (ck h v0 10).bind fun _ =>
      b2 (f_X10_takes N v0 (32 : Int32) h) fun t5 h4 =>
      rz t5 h4
    else
      (ck h v0 10).bind fun _ =>
      b2 (f_X10_takes N v0 ((96 : Int32) + ((v1 >>> (((5 : Int32) * v3) &&& 31)) &&& (31 : Int32))) h) fun t9 h8 =>
      if t9 = 0 then
        some ((0 : Int32), h8)
      else
        f_X10_takesWord_4 N n v0 v1 (v3 + (-1)) h8
set_option maxRecDepth 100000 in
set_option maxHeartbeats 4000000 in
theorem w_X10_takesWord_4 {p : Program} {l : Launch} {e : Env} {s : State} {m : MethodId} {args : Array Value} {below : List Frame} {meth : Method} {c : Code} {G : Gx} {r : Int32} {h' : Mem} (X : CX G p s m args c cX10_takesWord 4 RX10) (hr : meth.sig.returnType = (Option.some Jvm.ClassFile.FieldType.boolean)) (hk : meth.locks = false) (N : Nat) : ∀ (n : Nat) (v0 : Nat) (v1 : Int32) (v3 : Int32) (h : Mem), f_X10_takesWord_4 N n v0 v1 v3 h = some (r, h') → ∀ (H : Heap) (locs : List Loc) (ls : Array Slot), MS G s h H locs 0 → lv_has ls 4 [(0, .ref (gB G + v0)), (1, .int v1), (3, .int v3)] → W p l e (rm_X10_takesWord) s m args below meth c H locs 0 0 (QI G below args s r h' 0 0) (F0 m 4 ls []) := by
  intro n
  induction n with
  | zero =>
    intro v0 v1 v3 h hf
    cases hf
  | succ n ih =>
    intro v0 v1 v3 h hf H locs ls M hl
    rw [f_X10_takesWord_4] at hf
    refine lv_iload_n X.1 X.2.1 dX10_takesWord_4 rfl (lv_at hl 2 rfl) ?_
    refine lv_if_lt (tgt := 34) X.1 X.2.1 dX10_takesWord_5 (by decide) (fun c1 => ?_) (fun c1 => ?_)
    · have hf := ifp c1 hf
      refine lv_aload_n X.1 X.2.1 dX10_takesWord_34 rfl (lv_at hl 0 rfl) ?_
      refine lv_bipush (v := (32 : Int32)) X.1 X.2.1 dX10_takesWord_35 (by decide) ?_
      obtain ⟨⟨⟩, q2, hf⟩ := bnd hf
      obtain ⟨t5, h4, q3, hf⟩ := bnd2 hf
      refine x_callVi (As := [.int (32 : Int32)]) cf_X10_236 (c_X10_takes l G N v0 (32 : Int32) h _ _ q3) rfl ⟨rfl, rfl, Nat.le_of_ble_eq_true rfl, Nat.le_of_ble_eq_true rfl⟩ ⟨Nat.le_of_ble_eq_true rfl, Nat.le_of_ble_eq_true rfl⟩ X M (x_recv cls_X10 X M q2) rfl rfl hl.1 (Nat.le_of_ble_eq_true rfl) dX10_takesWord_37 (fun H locs M => ?_)
      obtain ⟨z, rfl, rfl⟩ := rz_spec hf
      exact x_zret X hr hk (nz z) M dX10_takesWord_40
    · have hf := ifn c1 hf
      refine lv_aload_n X.1 X.2.1 dX10_takesWord_8 rfl (lv_at hl 0 rfl) ?_
      refine lv_bipush (v := (96 : Int32)) X.1 X.2.1 dX10_takesWord_9 (by decide) ?_
      refine lv_iload_n X.1 X.2.1 dX10_takesWord_11 rfl (lv_at hl 1 rfl) ?_
      refine lv_iconst (v := (5 : Int32)) X.1 X.2.1 dX10_takesWord_12 (by decide) ?_
      refine lv_iload_n X.1 X.2.1 dX10_takesWord_13 rfl (lv_at hl 2 rfl) ?_
      refine lv_imul X.1 X.2.1 dX10_takesWord_14 ?_
      refine lv_ishr X.1 X.2.1 dX10_takesWord_15 ?_
      refine lv_bipush (v := (31 : Int32)) X.1 X.2.1 dX10_takesWord_16 (by decide) ?_
      refine lv_iand X.1 X.2.1 dX10_takesWord_18 ?_
      refine lv_iadd X.1 X.2.1 dX10_takesWord_19 ?_
      obtain ⟨⟨⟩, q6, hf⟩ := bnd hf
      obtain ⟨t9, h8, q7, hf⟩ := bnd2 hf
      refine x_callVi (As := [.int ((96 : Int32) + ((v1 >>> (((5 : Int32) * v3) &&& 31)) &&& (31 : Int32)))]) cf_X10_236 (c_X10_takes l G N v0 ((96 : Int32) + ((v1 >>> (((5 : Int32) * v3) &&& 31)) &&& (31 : Int32))) h _ _ q7) rfl ⟨rfl, rfl, Nat.le_of_ble_eq_true rfl, Nat.le_of_ble_eq_true rfl⟩ ⟨Nat.le_of_ble_eq_true rfl, Nat.le_of_ble_eq_true rfl⟩ X M (x_recv cls_X10 X M q6) rfl rfl hl.1 (Nat.le_of_ble_eq_true rfl) dX10_takesWord_20 (fun H locs M => ?_)
      refine lv_if_ne (tgt := 28) X.1 X.2.1 dX10_takesWord_23 (by decide) (fun c10 => ?_) (fun c10 => ?_)
      · have hf := ifn c10 hf
        refine lv_iinc (v := (v3 + (-1))) (lv' := [(3, .int (v3 + (-1))), (0, .ref (gB G + v0)), (1, .int v1)]) X.1 X.2.1 dX10_takesWord_28 hl (k := 2) rfl (by first | rfl | decide) (by decide) rfl (fun ls hl => ?_)
        refine lv_goto (tgt := 4) X.1 X.2.1 dX10_takesWord_31 (by decide) ?_
        exact ih v0 v1 (v3 + (-1)) h8 hf _ _ _ M (lv_sub hl [1, 2, 0] rfl)
      · have hf := ifp c10 hf
        refine lv_iconst (v := (0 : Int32)) X.1 X.2.1 dX10_takesWord_26 (by decide) ?_
        obtain ⟨rfl, rfl⟩ := rt2 hf
        exact x_zret X hr hk rfl M dX10_takesWord_27
def f_X10_takesWord (N : Nat) (v0 : Nat) (v1 : Int32) (v2 : Int32) (h : Mem) : Option (Int32 × Mem) :=
  f_X10_takesWord_4 N N v0 v1 (v2 - (1 : Int32)) h
set_option maxRecDepth 100000 in
set_option maxHeartbeats 4000000 in
theorem w_X10_takesWord {p : Program} {l : Launch} {e : Env} {s : State} {m : MethodId} {args : Array Value} {below : List Frame} {meth : Method} {c : Code} {G : Gx} {r : Int32} {h' : Mem} (X : CX G p s m args c cX10_takesWord 4 RX10) (hr : meth.sig.returnType = (Option.some Jvm.ClassFile.FieldType.boolean)) (hk : meth.locks = false) (N : Nat) : ∀ (v0 : Nat) (v1 : Int32) (v2 : Int32) (h : Mem), f_X10_takesWord N v0 v1 v2 h = some (r, h') → ∀ (H : Heap) (locs : List Loc) (ls : Array Slot), MS G s h H locs 0 → lv_has ls 4 [(0, .ref (gB G + v0)), (1, .int v1), (2, .int v2)] → W p l e (rm_X10_takesWord) s m args below meth c H locs 0 0 (QI G below args s r h' 0 0) (F0 m 0 ls []) := by
  intro v0 v1 v2 h hf H locs ls M hl
  rw [f_X10_takesWord] at hf
  refine lv_iload_n X.1 X.2.1 dX10_takesWord_0 rfl (lv_at hl 2 rfl) ?_
  refine lv_iconst (v := (1 : Int32)) X.1 X.2.1 dX10_takesWord_1 (by decide) ?_
  refine lv_isub X.1 X.2.1 dX10_takesWord_2 ?_
  refine lv_istore_n (lv' := [(3, .int (v2 - (1 : Int32))), (0, .ref (gB G + v0)), (1, .int v1), (2, .int v2)]) X.1 X.2.1 dX10_takesWord_3 rfl hl (by decide) rfl (fun ls hl => ?_)
  exact w_X10_takesWord_4 X hr hk N N v0 v1 (v2 - (1 : Int32)) h hf _ _ _ M (lv_sub hl [1, 2, 0] rfl)
theorem c_X10_takesWord (l : Launch) (G : Gx) (N : Nat) (v0 : Nat) (v1 : Int32) (v2 : Int32) (h : Mem) (r : Int32) (h' : Mem) (hf : f_X10_takesWord N v0 v1 v2 h = some (r, h')) : MetG l G yX10_takesWord (.code yX10_takesWord cX10_takesWord 4 (Option.some Jvm.ClassFile.FieldType.boolean)) rm_X10_takesWord [.ref (gB G + v0), .int v1, .int v2] h (QcI G r h') 0 0 :=
  x_met (by decide) rfl (Nat.le_of_ble_eq_true rfl) (fun p e s m args below meth c ls X M hr hk hin hl => w_X10_takesWord X hr hk N v0 v1 v2 h hf _ _ ls M hl)
abbrev rm_X10_takesFigure : Room := { frames := 2, cells := 0, slots := 0, locals := 63 }
def f_X10_takesFigure (N : Nat) (v0 : Nat) (v1 : Int32) (h : Mem) : Option (Int32 × Mem) :=
  (ck h v0 10).bind fun _ =>
  b2 (f_X10_next N v0 h) fun t4 h3 =>
  (ck h3 v0 10).bind fun _ =>
  b2 (f_X10_in N v0 (t4 - (48 : Int32)) (0 : Int32) v1 h3) fun t8 h7 =>
  if t8 = 0 then
    some ((0 : Int32), h7)
  else
    (ck h7 v0 10).bind fun _ =>
    b2 (f_X10_next N v0 h7) fun t13 h12 =>
    (sI h12 v0 10 20 (t13 - (48 : Int32))).bind fun h14 =>
    (gI h14 v0 10 19).bind fun t16 =>
    (sI h14 v0 10 19 (t16 + (1 : Int32))).bind fun h18 =>
    some ((1 : Int32), h18)
set_option maxRecDepth 100000 in
set_option maxHeartbeats 4000000 in
theorem w_X10_takesFigure {p : Program} {l : Launch} {e : Env} {s : State} {m : MethodId} {args : Array Value} {below : List Frame} {meth : Method} {c : Code} {G : Gx} {r : Int32} {h' : Mem} (X : CX G p s m args c cX10_takesFigure 2 RX10) (hr : meth.sig.returnType = (Option.some Jvm.ClassFile.FieldType.boolean)) (hk : meth.locks = false) (N : Nat) : ∀ (v0 : Nat) (v1 : Int32) (h : Mem), f_X10_takesFigure N v0 v1 h = some (r, h') → ∀ (H : Heap) (locs : List Loc) (ls : Array Slot), MS G s h H locs 0 → lv_has ls 2 [(0, .ref (gB G + v0)), (1, .int v1)] → W p l e (rm_X10_takesFigure) s m args below meth c H locs 0 0 (QI G below args s r h' 0 0) (F0 m 0 ls []) := by
  intro v0 v1 h hf H locs ls M hl
  rw [f_X10_takesFigure] at hf
  refine lv_aload_n X.1 X.2.1 dX10_takesFigure_0 rfl (lv_at hl 0 rfl) ?_
  refine lv_aload_n X.1 X.2.1 dX10_takesFigure_1 rfl (lv_at hl 0 rfl) ?_
  obtain ⟨⟨⟩, q1, hf⟩ := bnd hf
  obtain ⟨t4, h3, q2, hf⟩ := bnd2 hf
  refine x_callVi (As := []) cf_X10_232 (c_X10_next l G N v0 h _ _ q2) rfl ⟨rfl, rfl, Nat.le_of_ble_eq_true rfl, Nat.le_of_ble_eq_true rfl⟩ ⟨Nat.le_of_ble_eq_true rfl, Nat.le_of_ble_eq_true rfl⟩ X M (x_recv cls_X10 X M q1) rfl rfl hl.1 (Nat.le_of_ble_eq_true rfl) dX10_takesFigure_2 (fun H locs M => ?_)
  refine lv_bipush (v := (48 : Int32)) X.1 X.2.1 dX10_takesFigure_5 (by decide) ?_
  refine lv_isub X.1 X.2.1 dX10_takesFigure_7 ?_
  refine lv_iconst (v := (0 : Int32)) X.1 X.2.1 dX10_takesFigure_8 (by decide) ?_
  refine lv_iload_n X.1 X.2.1 dX10_takesFigure_9 rfl (lv_at hl 1 rfl) ?_
  obtain ⟨⟨⟩, q5, hf⟩ := bnd hf
  obtain ⟨t8, h7, q6, hf⟩ := bnd2 hf
  refine x_callVi (As := [.int (t4 - (48 : Int32)), .int (0 : Int32), .int v1]) cf_X10_197 (c_X10_in l G N v0 (t4 - (48 : Int32)) (0 : Int32) v1 h3 _ _ q6) rfl ⟨rfl, rfl, Nat.le_of_ble_eq_true rfl, Nat.le_of_ble_eq_true rfl⟩ ⟨Nat.le_of_ble_eq_true rfl, Nat.le_of_ble_eq_true rfl⟩ X M (x_recv cls_X10 X M q5) rfl rfl hl.1 (Nat.le_of_ble_eq_true rfl) dX10_takesFigure_10 (fun H locs M => ?_)
  refine lv_if_ne (tgt := 18) X.1 X.2.1 dX10_takesFigure_13 (by decide) (fun c9 => ?_) (fun c9 => ?_)
  · have hf := ifn c9 hf
    refine lv_aload_n X.1 X.2.1 dX10_takesFigure_18 rfl (lv_at hl 0 rfl) ?_
    refine lv_aload_n X.1 X.2.1 dX10_takesFigure_19 rfl (lv_at hl 0 rfl) ?_
    obtain ⟨⟨⟩, q10, hf⟩ := bnd hf
    obtain ⟨t13, h12, q11, hf⟩ := bnd2 hf
    refine x_callVi (As := []) cf_X10_232 (c_X10_next l G N v0 h7 _ _ q11) rfl ⟨rfl, rfl, Nat.le_of_ble_eq_true rfl, Nat.le_of_ble_eq_true rfl⟩ ⟨Nat.le_of_ble_eq_true rfl, Nat.le_of_ble_eq_true rfl⟩ X M (x_recv cls_X10 X M q10) rfl rfl hl.1 (Nat.le_of_ble_eq_true rfl) dX10_takesFigure_20 (fun H locs M => ?_)
    refine lv_bipush (v := (48 : Int32)) X.1 X.2.1 dX10_takesFigure_23 (by decide) ?_
    refine lv_isub X.1 X.2.1 dX10_takesFigure_25 ?_
    obtain ⟨h14, q15, hf⟩ := bnd hf
    refine x_puti fl_X10_71 fp_X10_71.1 fp_X10_71.2 X M q15 dX10_takesFigure_26 (fun H locs M => ?_)
    refine lv_aload_n X.1 X.2.1 dX10_takesFigure_29 rfl (lv_at hl 0 rfl) ?_
    refine lv_dup X.1 X.2.1 dX10_takesFigure_30 rfl ?_
    obtain ⟨t16, q17, hf⟩ := bnd hf
    refine x_geti fl_X10_68 X M q17 dX10_takesFigure_31 ?_
    refine lv_iconst (v := (1 : Int32)) X.1 X.2.1 dX10_takesFigure_34 (by decide) ?_
    refine lv_iadd X.1 X.2.1 dX10_takesFigure_35 ?_
    obtain ⟨h18, q19, hf⟩ := bnd hf
    refine x_puti fl_X10_68 fp_X10_68.1 fp_X10_68.2 X M q19 dX10_takesFigure_36 (fun H locs M => ?_)
    refine lv_iconst (v := (1 : Int32)) X.1 X.2.1 dX10_takesFigure_39 (by decide) ?_
    obtain ⟨rfl, rfl⟩ := rt2 hf
    exact x_zret X hr hk rfl M dX10_takesFigure_40
  · have hf := ifp c9 hf
    refine lv_iconst (v := (0 : Int32)) X.1 X.2.1 dX10_takesFigure_16 (by decide) ?_
    obtain ⟨rfl, rfl⟩ := rt2 hf
    exact x_zret X hr hk rfl M dX10_takesFigure_17
theorem c_X10_takesFigure (l : Launch) (G : Gx) (N : Nat) (v0 : Nat) (v1 : Int32) (h : Mem) (r : Int32) (h' : Mem) (hf : f_X10_takesFigure N v0 v1 h = some (r, h')) : MetG l G yX10_takesFigure (.code yX10_takesFigure cX10_takesFigure 2 (Option.some Jvm.ClassFile.FieldType.boolean)) rm_X10_takesFigure [.ref (gB G + v0), .int v1] h (QcI G r h') 0 0 :=
  x_met (by decide) rfl (Nat.le_of_ble_eq_true rfl) (fun p e s m args below meth c ls X M hr hk hin hl => w_X10_takesFigure X hr hk N v0 v1 h hf _ _ ls M hl)
abbrev rm_X10_isDigit : Room := { frames := 2, cells := 0, slots := 0, locals := 63 }
def f_X10_isDigit (N : Nat) (v0 : Nat) (h : Mem) : Option (Int32 × Mem) :=
  (ck h v0 10).bind fun _ =>
  b2 (f_X10_next N v0 h) fun t4 h3 =>
  (ck h3 v0 10).bind fun _ =>
  b2 (f_X10_in N v0 t4 (48 : Int32) (57 : Int32) h3) fun t8 h7 =>
  rz t8 h7
set_option maxRecDepth 100000 in
set_option maxHeartbeats 4000000 in
theorem w_X10_isDigit {p : Program} {l : Launch} {e : Env} {s : State} {m : MethodId} {args : Array Value} {below : List Frame} {meth : Method} {c : Code} {G : Gx} {r : Int32} {h' : Mem} (X : CX G p s m args c cX10_isDigit 1 RX10) (hr : meth.sig.returnType = (Option.some Jvm.ClassFile.FieldType.boolean)) (hk : meth.locks = false) (N : Nat) : ∀ (v0 : Nat) (h : Mem), f_X10_isDigit N v0 h = some (r, h') → ∀ (H : Heap) (locs : List Loc) (ls : Array Slot), MS G s h H locs 0 → lv_has ls 1 [(0, .ref (gB G + v0))] → W p l e (rm_X10_isDigit) s m args below meth c H locs 0 0 (QI G below args s r h' 0 0) (F0 m 0 ls []) := by
  intro v0 h hf H locs ls M hl
  rw [f_X10_isDigit] at hf
  refine lv_aload_n X.1 X.2.1 dX10_isDigit_0 rfl (lv_at hl 0 rfl) ?_
  refine lv_aload_n X.1 X.2.1 dX10_isDigit_1 rfl (lv_at hl 0 rfl) ?_
  obtain ⟨⟨⟩, q1, hf⟩ := bnd hf
  obtain ⟨t4, h3, q2, hf⟩ := bnd2 hf
  refine x_callVi (As := []) cf_X10_232 (c_X10_next l G N v0 h _ _ q2) rfl ⟨rfl, rfl, Nat.le_of_ble_eq_true rfl, Nat.le_of_ble_eq_true rfl⟩ ⟨Nat.le_of_ble_eq_true rfl, Nat.le_of_ble_eq_true rfl⟩ X M (x_recv cls_X10 X M q1) rfl rfl hl.1 (Nat.le_of_ble_eq_true rfl) dX10_isDigit_2 (fun H locs M => ?_)
  refine lv_bipush (v := (48 : Int32)) X.1 X.2.1 dX10_isDigit_5 (by decide) ?_
  refine lv_bipush (v := (57 : Int32)) X.1 X.2.1 dX10_isDigit_7 (by decide) ?_
  obtain ⟨⟨⟩, q5, hf⟩ := bnd hf
  obtain ⟨t8, h7, q6, hf⟩ := bnd2 hf
  refine x_callVi (As := [.int t4, .int (48 : Int32), .int (57 : Int32)]) cf_X10_197 (c_X10_in l G N v0 t4 (48 : Int32) (57 : Int32) h3 _ _ q6) rfl ⟨rfl, rfl, Nat.le_of_ble_eq_true rfl, Nat.le_of_ble_eq_true rfl⟩ ⟨Nat.le_of_ble_eq_true rfl, Nat.le_of_ble_eq_true rfl⟩ X M (x_recv cls_X10 X M q5) rfl rfl hl.1 (Nat.le_of_ble_eq_true rfl) dX10_isDigit_9 (fun H locs M => ?_)
  obtain ⟨z, rfl, rfl⟩ := rz_spec hf
  exact x_zret X hr hk (nz z) M dX10_isDigit_12
theorem c_X10_isDigit (l : Launch) (G : Gx) (N : Nat) (v0 : Nat) (h : Mem) (r : Int32) (h' : Mem) (hf : f_X10_isDigit N v0 h = some (r, h')) : MetG l G yX10_isDigit (.code yX10_isDigit cX10_isDigit 1 (Option.some Jvm.ClassFile.FieldType.boolean)) rm_X10_isDigit [.ref (gB G + v0)] h (QcI G r h') 0 0 :=
  x_met (by decide) rfl (Nat.le_of_ble_eq_true rfl) (fun p e s m args below meth c ls X M hr hk hin hl => w_X10_isDigit X hr hk N v0 h hf _ _ ls M hl)
abbrev rm_X10_takesNumber : Room := { frames := 3, cells := 0, slots := 0, locals := 83 }
def f_X10_takesNumber_16 (N : Nat) (n : Nat) (v0 : Nat) (v1 : Int32) (h : Mem) : Option (Int32 × Mem) := match n with
  | 0 => none
  | n + 1 =>
    if (3 : Int32) ≤ v1 then
      some ((1 : Int32), h)
    else
      (ck h v0 10).bind fun _ =>
      b2 (f_X10_isDigit N v0 h) fun t5 h4 =>
      if t5 = 0 then
        some ((1 : Int32), h4)
      else
        (gI h4 v0 10 20).bind fun t7 =>
        (ck h4 v0 10).bind fun _ =>
        b2 (f_X10_next N v0 h4) fun t12 h11 =>
        (sI h11 v0 10 20 ((((10 : Int32) * t7) + t12) - (48 : Int32))).bind fun h13 =>
        (gI h13 v0 10 19).bind fun t15 =>
        (sI h13 v0 10 19 (t15 + (1 : Int32))).bind fun h17 =>
        f_X10_takesNumber_16 N n v0 (v1 + 1) h17
set_option maxRecDepth 100000 in
set_option maxHeartbeats 4000000 in
theorem w_X10_takesNumber_16 {p : Program} {l : Launch} {e : Env} {s : State} {m : MethodId} {args : Array Value} {below : List Frame} {meth : Method} {c : Code} {G : Gx} {r : Int32} {h' : Mem} (X : CX G p s m args c cX10_takesNumber 2 RX10) (hr : meth.sig.returnType = (Option.some Jvm.ClassFile.FieldType.boolean)) (hk : meth.locks = false) (N : Nat) : ∀ (n : Nat) (v0 : Nat) (v1 : Int32) (h : Mem), f_X10_takesNumber_16 N n v0 v1 h = some (r, h') → ∀ (H : Heap) (locs : List Loc) (ls : Array Slot), MS G s h H locs 0 → lv_has ls 2 [(0, .ref (gB G + v0)), (1, .int v1)] → W p l e (rm_X10_takesNumber) s m args below meth c H locs 0 0 (QI G below args s r h' 0 0) (F0 m 16 ls []) := by
  intro n
  induction n with
  | zero =>
    intro v0 v1 h hf
    cases hf
  | succ n ih =>
    intro v0 v1 h hf H locs ls M hl
    rw [f_X10_takesNumber_16] at hf
    refine lv_iload_n X.1 X.2.1 dX10_takesNumber_16 rfl (lv_at hl 1 rfl) ?_
    refine lv_iconst (v := (3 : Int32)) X.1 X.2.1 dX10_takesNumber_17 (by decide) ?_
    refine lv_icmp_ge (tgt := 63) X.1 X.2.1 dX10_takesNumber_18 (by decide) (fun c1 => ?_) (fun c1 => ?_)
    · have hf := ifp c1 hf
      refine lv_iconst (v := (1 : Int32)) X.1 X.2.1 dX10_takesNumber_63 (by decide) ?_
      obtain ⟨rfl, rfl⟩ := rt2 hf
      exact x_zret X hr hk rfl M dX10_takesNumber_64
    · have hf := ifn c1 hf
      refine lv_aload_n X.1 X.2.1 dX10_takesNumber_21 rfl (lv_at hl 0 rfl) ?_
      obtain ⟨⟨⟩, q2, hf⟩ := bnd hf
      obtain ⟨t5, h4, q3, hf⟩ := bnd2 hf
      refine x_callVi (As := []) cf_X10_239 (c_X10_isDigit l G N v0 h _ _ q3) rfl ⟨rfl, rfl, Nat.le_of_ble_eq_true rfl, Nat.le_of_ble_eq_true rfl⟩ ⟨Nat.le_of_ble_eq_true rfl, Nat.le_of_ble_eq_true rfl⟩ X M (x_recv cls_X10 X M q2) rfl rfl hl.1 (Nat.le_of_ble_eq_true rfl) dX10_takesNumber_22 (fun H locs M => ?_)
      refine lv_if_eq (tgt := 63) X.1 X.2.1 dX10_takesNumber_25 (by decide) (fun c6 => ?_) (fun c6 => ?_)
      · have hf := ifp c6 hf
        refine lv_iconst (v := (1 : Int32)) X.1 X.2.1 dX10_takesNumber_63 (by decide) ?_
        obtain ⟨rfl, rfl⟩ := rt2 hf
        exact x_zret X hr hk rfl M dX10_takesNumber_64
      · have hf := ifn c6 hf
        refine lv_aload_n X.1 X.2.1 dX10_takesNumber_28 rfl (lv_at hl 0 rfl) ?_
        refine lv_bipush (v := (10 : Int32)) X.1 X.2.1 dX10_takesNumber_29 (by decide) ?_
        refine lv_aload_n X.1 X.2.1 dX10_takesNumber_31 rfl (lv_at hl 0 rfl) ?_
        obtain ⟨t7, q8, hf⟩ := bnd hf
        refine x_geti fl_X10_71 X M q8 dX10_takesNumber_32 ?_
        refine lv_imul X.1 X.2.1 dX10_takesNumber_35 ?_
        refine lv_aload_n X.1 X.2.1 dX10_takesNumber_36 rfl (lv_at hl 0 rfl) ?_
        obtain ⟨⟨⟩, q9, hf⟩ := bnd hf
        obtain ⟨t12, h11, q10, hf⟩ := bnd2 hf
        refine x_callVi (As := []) cf_X10_232 (c_X10_next l G N v0 h4 _ _ q10) rfl ⟨rfl, rfl, Nat.le_of_ble_eq_true rfl, Nat.le_of_ble_eq_true rfl⟩ ⟨Nat.le_of_ble_eq_true rfl, Nat.le_of_ble_eq_true rfl⟩ X M (x_recv cls_X10 X M q9) rfl rfl hl.1 (Nat.le_of_ble_eq_true rfl) dX10_takesNumber_37 (fun H locs M => ?_)
        refine lv_iadd X.1 X.2.1 dX10_takesNumber_40 ?_
        refine lv_bipush (v := (48 : Int32)) X.1 X.2.1 dX10_takesNumber_41 (by decide) ?_
        refine lv_isub X.1 X.2.1 dX10_takesNumber_43 ?_
        obtain ⟨h13, q14, hf⟩ := bnd hf
        refine x_puti fl_X10_71 fp_X10_71.1 fp_X10_71.2 X M q14 dX10_takesNumber_44 (fun H locs M => ?_)
        refine lv_aload_n X.1 X.2.1 dX10_takesNumber_47 rfl (lv_at hl 0 rfl) ?_
        refine lv_dup X.1 X.2.1 dX10_takesNumber_48 rfl ?_
        obtain ⟨t15, q16, hf⟩ := bnd hf
        refine x_geti fl_X10_68 X M q16 dX10_takesNumber_49 ?_
        refine lv_iconst (v := (1 : Int32)) X.1 X.2.1 dX10_takesNumber_52 (by decide) ?_
        refine lv_iadd X.1 X.2.1 dX10_takesNumber_53 ?_
        obtain ⟨h17, q18, hf⟩ := bnd hf
        refine x_puti fl_X10_68 fp_X10_68.1 fp_X10_68.2 X M q18 dX10_takesNumber_54 (fun H locs M => ?_)
        refine lv_iinc (v := (v1 + 1)) (lv' := [(1, .int (v1 + 1)), (0, .ref (gB G + v0))]) X.1 X.2.1 dX10_takesNumber_57 hl (k := 1) rfl (by first | rfl | decide) (by decide) rfl (fun ls hl => ?_)
        refine lv_goto (tgt := 16) X.1 X.2.1 dX10_takesNumber_60 (by decide) ?_
        exact ih v0 (v1 + 1) h17 hf _ _ _ M (lv_sub hl [1, 0] rfl)
def f_X10_takesNumber (N : Nat) (v0 : Nat) (h : Mem) : Option (Int32 × Mem) :=
  (ck h v0 10).bind fun _ =>
  b2 (f_X10_isDigit N v0 h) fun t4 h3 =>
  if t4 = 0 then
    some ((0 : Int32), h3)
  else
    (sI h3 v0 10 20 (0 : Int32)).bind fun h6 =>
    f_X10_takesNumber_16 N N v0 (0 : Int32) h6
set_option maxRecDepth 100000 in
set_option maxHeartbeats 4000000 in
theorem w_X10_takesNumber {p : Program} {l : Launch} {e : Env} {s : State} {m : MethodId} {args : Array Value} {below : List Frame} {meth : Method} {c : Code} {G : Gx} {r : Int32} {h' : Mem} (X : CX G p s m args c cX10_takesNumber 2 RX10) (hr : meth.sig.returnType = (Option.some Jvm.ClassFile.FieldType.boolean)) (hk : meth.locks = false) (N : Nat) : ∀ (v0 : Nat) (h : Mem), f_X10_takesNumber N v0 h = some (r, h') → ∀ (H : Heap) (locs : List Loc) (ls : Array Slot), MS G s h H locs 0 → lv_has ls 2 [(0, .ref (gB G + v0))] → W p l e (rm_X10_takesNumber) s m args below meth c H locs 0 0 (QI G below args s r h' 0 0) (F0 m 0 ls []) := by
  intro v0 h hf H locs ls M hl
  rw [f_X10_takesNumber] at hf
  refine lv_aload_n X.1 X.2.1 dX10_takesNumber_0 rfl (lv_at hl 0 rfl) ?_
  obtain ⟨⟨⟩, q1, hf⟩ := bnd hf
  obtain ⟨t4, h3, q2, hf⟩ := bnd2 hf
  refine x_callVi (As := []) cf_X10_239 (c_X10_isDigit l G N v0 h _ _ q2) rfl ⟨rfl, rfl, Nat.le_of_ble_eq_true rfl, Nat.le_of_ble_eq_true rfl⟩ ⟨Nat.le_of_ble_eq_true rfl, Nat.le_of_ble_eq_true rfl⟩ X M (x_recv cls_X10 X M q1) rfl rfl hl.1 (Nat.le_of_ble_eq_true rfl) dX10_takesNumber_1 (fun H locs M => ?_)
  refine lv_if_ne (tgt := 9) X.1 X.2.1 dX10_takesNumber_4 (by decide) (fun c5 => ?_) (fun c5 => ?_)
  · have hf := ifn c5 hf
    refine lv_aload_n X.1 X.2.1 dX10_takesNumber_9 rfl (lv_at hl 0 rfl) ?_
    refine lv_iconst (v := (0 : Int32)) X.1 X.2.1 dX10_takesNumber_10 (by decide) ?_
    obtain ⟨h6, q7, hf⟩ := bnd hf
    refine x_puti fl_X10_71 fp_X10_71.1 fp_X10_71.2 X M q7 dX10_takesNumber_11 (fun H locs M => ?_)
    refine lv_iconst (v := (0 : Int32)) X.1 X.2.1 dX10_takesNumber_14 (by decide) ?_
    refine lv_istore_n (lv' := [(1, .int (0 : Int32)), (0, .ref (gB G + v0))]) X.1 X.2.1 dX10_takesNumber_15 rfl hl (by decide) rfl (fun ls hl => ?_)
    exact w_X10_takesNumber_16 X hr hk N N v0 (0 : Int32) h6 hf _ _ _ M (lv_sub hl [1, 0] rfl)
  · have hf := ifp c5 hf
    refine lv_iconst (v := (0 : Int32)) X.1 X.2.1 dX10_takesNumber_7 (by decide) ?_
    obtain ⟨rfl, rfl⟩ := rt2 hf
    exact x_zret X hr hk rfl M dX10_takesNumber_8
theorem c_X10_takesNumber (l : Launch) (G : Gx) (N : Nat) (v0 : Nat) (h : Mem) (r : Int32) (h' : Mem) (hf : f_X10_takesNumber N v0 h = some (r, h')) : MetG l G yX10_takesNumber (.code yX10_takesNumber cX10_takesNumber 2 (Option.some Jvm.ClassFile.FieldType.boolean)) rm_X10_takesNumber [.ref (gB G + v0)] h (QcI G r h') 0 0 :=
  x_met (by decide) rfl (Nat.le_of_ble_eq_true rfl) (fun p e s m args below meth c ls X M hr hk hin hl => w_X10_takesNumber X hr hk N v0 h hf _ _ ls M hl)
abbrev rm_X10_takesTwo : Room := { frames := 4, cells := 0, slots := 0, locals := 104 }
def f_X10_takesTwo_34 (N : Nat) (v0 : Nat) (v1 : Int32) (v2 : Int32) (s0 : Nat) (s1 : Int32) (h : Mem) : Option (Int32 × Mem) :=
  (ck h s0 10).bind fun _ =>
  b2 (f_X10_takesFigure N s0 s1 h) fun t4 h3 =>
  if t4 = 0 then
    some ((0 : Int32), h3)
  else
    (gI h3 v0 10 20).bind fun t6 =>
    (ck h3 v0 10).bind fun _ =>
    b2 (f_X10_takes N v0 (32 : Int32) h3) fun t11 h10 =>
    if t11 = 0 then
      some ((0 : Int32), h10)
    else
      (ck h10 v0 10).bind fun _ =>
      b2 (f_X10_takesNumber N v0 h10) fun t16 h15 =>
      if t16 = 0 then
        some ((0 : Int32), h15)
      else
        if v1 = 0 then
          (gR h15 v0 10 35).bind fun t25 =>
          (gI h15 v0 10 20).bind fun t27 =>
          (stI 100 h15 t25 (((3 : Int32) * v2) + t6) t27).bind fun h29 =>
          some ((1 : Int32), h29)
        else
          (gR h15 v0 10 36).bind fun t19 =>
          (gI h15 v0 10 20).bind fun t21 =>
          (stI 100 h15 t19 (((4 : Int32) * v2) + t6) t21).bind fun h23 =>
          some ((1 : Int32), h23)
set_option maxRecDepth 100000 in
set_option maxHeartbeats 4000000 in
theorem w_X10_takesTwo_34 {p : Program} {l : Launch} {e : Env} {s : State} {m : MethodId} {args : Array Value} {below : List Frame} {meth : Method} {c : Code} {G : Gx} {r : Int32} {h' : Mem} (X : CX G p s m args c cX10_takesTwo 4 RX10) (hr : meth.sig.returnType = (Option.some Jvm.ClassFile.FieldType.boolean)) (hk : meth.locks = false) (N : Nat) : ∀ (v0 : Nat) (v1 : Int32) (v2 : Int32) (s0 : Nat) (s1 : Int32) (h : Mem), f_X10_takesTwo_34 N v0 v1 v2 s0 s1 h = some (r, h') → ∀ (H : Heap) (locs : List Loc) (ls : Array Slot), MS G s h H locs 0 → lv_has ls 4 [(0, .ref (gB G + v0)), (1, .int v1), (2, .int v2)] → W p l e (rm_X10_takesTwo) s m args below meth c H locs 0 0 (QI G below args s r h' 0 0) (F0 m 34 ls [.int s1, .ref (gB G + s0)]) := by
  intro v0 v1 v2 s0 s1 h hf H locs ls M hl
  rw [f_X10_takesTwo_34] at hf
  obtain ⟨⟨⟩, q1, hf⟩ := bnd hf
  obtain ⟨t4, h3, q2, hf⟩ := bnd2 hf
  refine x_callVi (As := [.int s1]) cf_X10_257 (c_X10_takesFigure l G N s0 s1 h _ _ q2) rfl ⟨rfl, rfl, Nat.le_of_ble_eq_true rfl, Nat.le_of_ble_eq_true rfl⟩ ⟨Nat.le_of_ble_eq_true rfl, Nat.le_of_ble_eq_true rfl⟩ X M (x_recv cls_X10 X M q1) rfl rfl hl.1 (Nat.le_of_ble_eq_true rfl) dX10_takesTwo_34 (fun H locs M => ?_)
  refine lv_if_ne (tgt := 42) X.1 X.2.1 dX10_takesTwo_37 (by decide) (fun c5 => ?_) (fun c5 => ?_)
  · have hf := ifn c5 hf
    refine lv_aload_n X.1 X.2.1 dX10_takesTwo_42 rfl (lv_at hl 0 rfl) ?_
    obtain ⟨t6, q7, hf⟩ := bnd hf
    refine x_geti fl_X10_71 X M q7 dX10_takesTwo_43 ?_
    refine lv_istore_n (lv' := [(3, .int t6), (0, .ref (gB G + v0)), (1, .int v1), (2, .int v2)]) X.1 X.2.1 dX10_takesTwo_46 rfl hl (by decide) rfl (fun ls hl => ?_)
    refine lv_aload_n X.1 X.2.1 dX10_takesTwo_47 rfl (lv_at hl 1 rfl) ?_
    refine lv_bipush (v := (32 : Int32)) X.1 X.2.1 dX10_takesTwo_48 (by decide) ?_
    obtain ⟨⟨⟩, q8, hf⟩ := bnd hf
    obtain ⟨t11, h10, q9, hf⟩ := bnd2 hf
    refine x_callVi (As := [.int (32 : Int32)]) cf_X10_236 (c_X10_takes l G N v0 (32 : Int32) h3 _ _ q9) rfl ⟨rfl, rfl, Nat.le_of_ble_eq_true rfl, Nat.le_of_ble_eq_true rfl⟩ ⟨Nat.le_of_ble_eq_true rfl, Nat.le_of_ble_eq_true rfl⟩ X M (x_recv cls_X10 X M q8) rfl rfl hl.1 (Nat.le_of_ble_eq_true rfl) dX10_takesTwo_50 (fun H locs M => ?_)
    refine lv_if_eq (tgt := 63) X.1 X.2.1 dX10_takesTwo_53 (by decide) (fun c12 => ?_) (fun c12 => ?_)
    · have hf := ifp c12 hf
      refine lv_iconst (v := (0 : Int32)) X.1 X.2.1 dX10_takesTwo_63 (by decide) ?_
      obtain ⟨rfl, rfl⟩ := rt2 hf
      exact x_zret X hr hk rfl M dX10_takesTwo_64
    · have hf := ifn c12 hf
      refine lv_aload_n X.1 X.2.1 dX10_takesTwo_56 rfl (lv_at hl 1 rfl) ?_
      obtain ⟨⟨⟩, q13, hf⟩ := bnd hf
      obtain ⟨t16, h15, q14, hf⟩ := bnd2 hf
      refine x_callVi (As := []) cf_X10_243 (c_X10_takesNumber l G N v0 h10 _ _ q14) rfl ⟨rfl, rfl, Nat.le_of_ble_eq_true rfl, Nat.le_of_ble_eq_true rfl⟩ ⟨Nat.le_of_ble_eq_true rfl, Nat.le_of_ble_eq_true rfl⟩ X M (x_recv cls_X10 X M q13) rfl rfl hl.1 (Nat.le_of_ble_eq_true rfl) dX10_takesTwo_57 (fun H locs M => ?_)
      refine lv_if_ne (tgt := 65) X.1 X.2.1 dX10_takesTwo_60 (by decide) (fun c17 => ?_) (fun c17 => ?_)
      · have hf := ifn c17 hf
        refine lv_iload_n X.1 X.2.1 dX10_takesTwo_65 rfl (lv_at hl 2 rfl) ?_
        refine lv_if_ne (tgt := 86) X.1 X.2.1 dX10_takesTwo_66 (by decide) (fun c18 => ?_) (fun c18 => ?_)
        · have hf := ifn c18 hf
          refine lv_aload_n X.1 X.2.1 dX10_takesTwo_86 rfl (lv_at hl 1 rfl) ?_
          obtain ⟨t19, q20, hf⟩ := bnd hf
          refine x_getr fl_X10_121 X M q20 dX10_takesTwo_87 ?_
          refine lv_iconst (v := (4 : Int32)) X.1 X.2.1 dX10_takesTwo_90 (by decide) ?_
          refine lv_iload_n X.1 X.2.1 dX10_takesTwo_91 rfl (lv_at hl 3 rfl) ?_
          refine lv_imul X.1 X.2.1 dX10_takesTwo_92 ?_
          refine lv_iload_n X.1 X.2.1 dX10_takesTwo_93 rfl (lv_at hl 0 rfl) ?_
          refine lv_iadd X.1 X.2.1 dX10_takesTwo_94 ?_
          refine lv_aload_n X.1 X.2.1 dX10_takesTwo_95 rfl (lv_at hl 1 rfl) ?_
          obtain ⟨t21, q22, hf⟩ := bnd hf
          refine x_geti fl_X10_71 X M q22 dX10_takesTwo_96 ?_
          obtain ⟨h23, q24, hf⟩ := bnd hf
          refine x_iast X M q24 dX10_takesTwo_99 (fun H locs M => ?_)
          refine lv_iconst (v := (1 : Int32)) X.1 X.2.1 dX10_takesTwo_100 (by decide) ?_
          obtain ⟨rfl, rfl⟩ := rt2 hf
          exact x_zret X hr hk rfl M dX10_takesTwo_101
        · have hf := ifp c18 hf
          refine lv_aload_n X.1 X.2.1 dX10_takesTwo_69 rfl (lv_at hl 1 rfl) ?_
          obtain ⟨t25, q26, hf⟩ := bnd hf
          refine x_getr fl_X10_118 X M q26 dX10_takesTwo_70 ?_
          refine lv_iconst (v := (3 : Int32)) X.1 X.2.1 dX10_takesTwo_73 (by decide) ?_
          refine lv_iload_n X.1 X.2.1 dX10_takesTwo_74 rfl (lv_at hl 3 rfl) ?_
          refine lv_imul X.1 X.2.1 dX10_takesTwo_75 ?_
          refine lv_iload_n X.1 X.2.1 dX10_takesTwo_76 rfl (lv_at hl 0 rfl) ?_
          refine lv_iadd X.1 X.2.1 dX10_takesTwo_77 ?_
          refine lv_aload_n X.1 X.2.1 dX10_takesTwo_78 rfl (lv_at hl 1 rfl) ?_
          obtain ⟨t27, q28, hf⟩ := bnd hf
          refine x_geti fl_X10_71 X M q28 dX10_takesTwo_79 ?_
          obtain ⟨h29, q30, hf⟩ := bnd hf
          refine x_iast X M q30 dX10_takesTwo_82 (fun H locs M => ?_)
          refine lv_goto (tgt := 100) X.1 X.2.1 dX10_takesTwo_83 (by decide) ?_
          refine lv_iconst (v := (1 : Int32)) X.1 X.2.1 dX10_takesTwo_100 (by decide) ?_
          obtain ⟨rfl, rfl⟩ := rt2 hf
          exact x_zret X hr hk rfl M dX10_takesTwo_101
      · have hf := ifp c17 hf
        refine lv_iconst (v := (0 : Int32)) X.1 X.2.1 dX10_takesTwo_63 (by decide) ?_
        obtain ⟨rfl, rfl⟩ := rt2 hf
        exact x_zret X hr hk rfl M dX10_takesTwo_64
  · have hf := ifp c5 hf
    refine lv_iconst (v := (0 : Int32)) X.1 X.2.1 dX10_takesTwo_40 (by decide) ?_
    obtain ⟨rfl, rfl⟩ := rt2 hf
    exact x_zret X hr hk rfl M dX10_takesTwo_41
def f_X10_takesTwo (N : Nat) (v0 : Nat) (v1 : Int32) (h : Mem) : Option (Int32 × Mem) :=
  (ck h v0 10).bind fun _ =>
  b2 (f_X10_takesFigure N v0 (3 : Int32) h) fun t4 h3 =>
  if t4 = 0 then
    some ((0 : Int32), h3)
  else
    (gI h3 v0 10 20).bind fun t6 =>
    (ck h3 v0 10).bind fun _ =>
    b2 (f_X10_takes N v0 (32 : Int32) h3) fun t11 h10 =>
    if t11 = 0 then
      some ((0 : Int32), h10)
    else
      if v1 = 0 then
        f_X10_takesTwo_34 N v0 v1 t6 v0 (2 : Int32) h10
      else
        f_X10_takesTwo_34 N v0 v1 t6 v0 (3 : Int32) h10
set_option maxRecDepth 100000 in
set_option maxHeartbeats 4000000 in
theorem w_X10_takesTwo {p : Program} {l : Launch} {e : Env} {s : State} {m : MethodId} {args : Array Value} {below : List Frame} {meth : Method} {c : Code} {G : Gx} {r : Int32} {h' : Mem} (X : CX G p s m args c cX10_takesTwo 4 RX10) (hr : meth.sig.returnType = (Option.some Jvm.ClassFile.FieldType.boolean)) (hk : meth.locks = false) (N : Nat) : ∀ (v0 : Nat) (v1 : Int32) (h : Mem), f_X10_takesTwo N v0 v1 h = some (r, h') → ∀ (H : Heap) (locs : List Loc) (ls : Array Slot), MS G s h H locs 0 → lv_has ls 4 [(0, .ref (gB G + v0)), (1, .int v1)] → W p l e (rm_X10_takesTwo) s m args below meth c H locs 0 0 (QI G below args s r h' 0 0) (F0 m 0 ls []) := by
  intro v0 v1 h hf H locs ls M hl
  rw [f_X10_takesTwo] at hf
  refine lv_aload_n X.1 X.2.1 dX10_takesTwo_0 rfl (lv_at hl 0 rfl) ?_
  refine lv_iconst (v := (3 : Int32)) X.1 X.2.1 dX10_takesTwo_1 (by decide) ?_
  obtain ⟨⟨⟩, q1, hf⟩ := bnd hf
  obtain ⟨t4, h3, q2, hf⟩ := bnd2 hf
  refine x_callVi (As := [.int (3 : Int32)]) cf_X10_257 (c_X10_takesFigure l G N v0 (3 : Int32) h _ _ q2) rfl ⟨rfl, rfl, Nat.le_of_ble_eq_true rfl, Nat.le_of_ble_eq_true rfl⟩ ⟨Nat.le_of_ble_eq_true rfl, Nat.le_of_ble_eq_true rfl⟩ X M (x_recv cls_X10 X M q1) rfl rfl hl.1 (Nat.le_of_ble_eq_true rfl) dX10_takesTwo_2 (fun H locs M => ?_)
  refine lv_if_ne (tgt := 10) X.1 X.2.1 dX10_takesTwo_5 (by decide) (fun c5 => ?_) (fun c5 => ?_)
  · have hf := ifn c5 hf
    refine lv_aload_n X.1 X.2.1 dX10_takesTwo_10 rfl (lv_at hl 0 rfl) ?_
    obtain ⟨t6, q7, hf⟩ := bnd hf
    refine x_geti fl_X10_71 X M q7 dX10_takesTwo_11 ?_
    refine lv_istore_n (lv' := [(2, .int t6), (0, .ref (gB G + v0)), (1, .int v1)]) X.1 X.2.1 dX10_takesTwo_14 rfl hl (by decide) rfl (fun ls hl => ?_)
    refine lv_aload_n X.1 X.2.1 dX10_takesTwo_15 rfl (lv_at hl 1 rfl) ?_
    refine lv_bipush (v := (32 : Int32)) X.1 X.2.1 dX10_takesTwo_16 (by decide) ?_
    obtain ⟨⟨⟩, q8, hf⟩ := bnd hf
    obtain ⟨t11, h10, q9, hf⟩ := bnd2 hf
    refine x_callVi (As := [.int (32 : Int32)]) cf_X10_236 (c_X10_takes l G N v0 (32 : Int32) h3 _ _ q9) rfl ⟨rfl, rfl, Nat.le_of_ble_eq_true rfl, Nat.le_of_ble_eq_true rfl⟩ ⟨Nat.le_of_ble_eq_true rfl, Nat.le_of_ble_eq_true rfl⟩ X M (x_recv cls_X10 X M q8) rfl rfl hl.1 (Nat.le_of_ble_eq_true rfl) dX10_takesTwo_18 (fun H locs M => ?_)
    refine lv_if_eq (tgt := 40) X.1 X.2.1 dX10_takesTwo_21 (by decide) (fun c12 => ?_) (fun c12 => ?_)
    · have hf := ifp c12 hf
      refine lv_iconst (v := (0 : Int32)) X.1 X.2.1 dX10_takesTwo_40 (by decide) ?_
      obtain ⟨rfl, rfl⟩ := rt2 hf
      exact x_zret X hr hk rfl M dX10_takesTwo_41
    · have hf := ifn c12 hf
      refine lv_aload_n X.1 X.2.1 dX10_takesTwo_24 rfl (lv_at hl 1 rfl) ?_
      refine lv_iload_n X.1 X.2.1 dX10_takesTwo_25 rfl (lv_at hl 2 rfl) ?_
      refine lv_if_ne (tgt := 33) X.1 X.2.1 dX10_takesTwo_26 (by decide) (fun c13 => ?_) (fun c13 => ?_)
      · have hf := ifn c13 hf
        refine lv_iconst (v := (3 : Int32)) X.1 X.2.1 dX10_takesTwo_33 (by decide) ?_
        exact w_X10_takesTwo_34 X hr hk N v0 v1 t6 v0 (3 : Int32) h10 hf _ _ _ M (lv_sub hl [1, 2, 0] rfl)
      · have hf := ifp c13 hf
        refine lv_iconst (v := (2 : Int32)) X.1 X.2.1 dX10_takesTwo_29 (by decide) ?_
        refine lv_goto (tgt := 34) X.1 X.2.1 dX10_takesTwo_30 (by decide) ?_
        exact w_X10_takesTwo_34 X hr hk N v0 v1 t6 v0 (2 : Int32) h10 hf _ _ _ M (lv_sub hl [1, 2, 0] rfl)
  · have hf := ifp c5 hf
    refine lv_iconst (v := (0 : Int32)) X.1 X.2.1 dX10_takesTwo_8 (by decide) ?_
    obtain ⟨rfl, rfl⟩ := rt2 hf
    exact x_zret X hr hk rfl M dX10_takesTwo_9
theorem c_X10_takesTwo (l : Launch) (G : Gx) (N : Nat) (v0 : Nat) (v1 : Int32) (h : Mem) (r : Int32) (h' : Mem) (hf : f_X10_takesTwo N v0 v1 h = some (r, h')) : MetG l G yX10_takesTwo (.code yX10_takesTwo cX10_takesTwo 4 (Option.some Jvm.ClassFile.FieldType.boolean)) rm_X10_takesTwo [.ref (gB G + v0), .int v1] h (QcI G r h') 0 0 :=
  x_met (by decide) rfl (Nat.le_of_ble_eq_true rfl) (fun p e s m args below meth c ls X M hr hk hin hl => w_X10_takesTwo X hr hk N v0 v1 h hf _ _ ls M hl)
abbrev rm_X10_takesCost : Room := { frames := 4, cells := 0, slots := 0, locals := 104 }
def f_X10_takesCost (N : Nat) (v0 : Nat) (h : Mem) : Option (Int32 × Mem) :=
  (ck h v0 10).bind fun _ =>
  b2 (f_X10_takesWord N v0 (114292 : Int32) (4 : Int32) h) fun t4 h3 =>
  if t4 = 0 then
    some ((0 : Int32), h3)
  else
    (ck h3 v0 10).bind fun _ =>
    b2 (f_X10_takesFigure N v0 (2 : Int32) h3) fun t9 h8 =>
    if t9 = 0 then
      some ((0 : Int32), h8)
    else
      (gI h8 v0 10 20).bind fun t11 =>
      (ck h8 v0 10).bind fun _ =>
      b2 (f_X10_takes N v0 (32 : Int32) h8) fun t16 h15 =>
      if t16 = 0 then
        some ((0 : Int32), h15)
      else
        (ck h15 v0 10).bind fun _ =>
        b2 (f_X10_takesNumber N v0 h15) fun t21 h20 =>
        if t21 = 0 then
          some ((0 : Int32), h20)
        else
          (gR h20 v0 10 37).bind fun t23 =>
          (gI h20 v0 10 20).bind fun t25 =>
          (stI 100 h20 t23 t11 t25).bind fun h27 =>
          some ((1 : Int32), h27)
set_option maxRecDepth 100000 in
set_option maxHeartbeats 4000000 in
theorem w_X10_takesCost {p : Program} {l : Launch} {e : Env} {s : State} {m : MethodId} {args : Array Value} {below : List Frame} {meth : Method} {c : Code} {G : Gx} {r : Int32} {h' : Mem} (X : CX G p s m args c cX10_takesCost 2 RX10) (hr : meth.sig.returnType = (Option.some Jvm.ClassFile.FieldType.boolean)) (hk : meth.locks = false) (N : Nat) : ∀ (v0 : Nat) (h : Mem), f_X10_takesCost N v0 h = some (r, h') → ∀ (H : Heap) (locs : List Loc) (ls : Array Slot), MS G s h H locs 0 → lv_has ls 2 [(0, .ref (gB G + v0))] → W p l e (rm_X10_takesCost) s m args below meth c H locs 0 0 (QI G below args s r h' 0 0) (F0 m 0 ls []) := by
  intro v0 h hf H locs ls M hl
  rw [f_X10_takesCost] at hf
  refine lv_aload_n X.1 X.2.1 dX10_takesCost_0 rfl (lv_at hl 0 rfl) ?_
  refine lv_ldcw X.1 X.2.1 X.2.2.2.1 (X.2.2.2.2.1 _ k_1234) dX10_takesCost_1 ?_
  refine lv_iconst (v := (4 : Int32)) X.1 X.2.1 dX10_takesCost_4 (by decide) ?_
  obtain ⟨⟨⟩, q1, hf⟩ := bnd hf
  obtain ⟨t4, h3, q2, hf⟩ := bnd2 hf
  refine x_callVi (As := [.int (114292 : Int32), .int (4 : Int32)]) cf_X10_261 (c_X10_takesWord l G N v0 (114292 : Int32) (4 : Int32) h _ _ q2) rfl ⟨rfl, rfl, Nat.le_of_ble_eq_true rfl, Nat.le_of_ble_eq_true rfl⟩ ⟨Nat.le_of_ble_eq_true rfl, Nat.le_of_ble_eq_true rfl⟩ X M (x_recv cls_X10 X M q1) rfl rfl hl.1 (Nat.le_of_ble_eq_true rfl) dX10_takesCost_5 (fun H locs M => ?_)
  refine lv_if_eq (tgt := 19) X.1 X.2.1 dX10_takesCost_8 (by decide) (fun c5 => ?_) (fun c5 => ?_)
  · have hf := ifp c5 hf
    refine lv_iconst (v := (0 : Int32)) X.1 X.2.1 dX10_takesCost_19 (by decide) ?_
    obtain ⟨rfl, rfl⟩ := rt2 hf
    exact x_zret X hr hk rfl M dX10_takesCost_20
  · have hf := ifn c5 hf
    refine lv_aload_n X.1 X.2.1 dX10_takesCost_11 rfl (lv_at hl 0 rfl) ?_
    refine lv_iconst (v := (2 : Int32)) X.1 X.2.1 dX10_takesCost_12 (by decide) ?_
    obtain ⟨⟨⟩, q6, hf⟩ := bnd hf
    obtain ⟨t9, h8, q7, hf⟩ := bnd2 hf
    refine x_callVi (As := [.int (2 : Int32)]) cf_X10_257 (c_X10_takesFigure l G N v0 (2 : Int32) h3 _ _ q7) rfl ⟨rfl, rfl, Nat.le_of_ble_eq_true rfl, Nat.le_of_ble_eq_true rfl⟩ ⟨Nat.le_of_ble_eq_true rfl, Nat.le_of_ble_eq_true rfl⟩ X M (x_recv cls_X10 X M q6) rfl rfl hl.1 (Nat.le_of_ble_eq_true rfl) dX10_takesCost_13 (fun H locs M => ?_)
    refine lv_if_ne (tgt := 21) X.1 X.2.1 dX10_takesCost_16 (by decide) (fun c10 => ?_) (fun c10 => ?_)
    · have hf := ifn c10 hf
      refine lv_aload_n X.1 X.2.1 dX10_takesCost_21 rfl (lv_at hl 0 rfl) ?_
      obtain ⟨t11, q12, hf⟩ := bnd hf
      refine x_geti fl_X10_71 X M q12 dX10_takesCost_22 ?_
      refine lv_istore_n (lv' := [(1, .int t11), (0, .ref (gB G + v0))]) X.1 X.2.1 dX10_takesCost_25 rfl hl (by decide) rfl (fun ls hl => ?_)
      refine lv_aload_n X.1 X.2.1 dX10_takesCost_26 rfl (lv_at hl 1 rfl) ?_
      refine lv_bipush (v := (32 : Int32)) X.1 X.2.1 dX10_takesCost_27 (by decide) ?_
      obtain ⟨⟨⟩, q13, hf⟩ := bnd hf
      obtain ⟨t16, h15, q14, hf⟩ := bnd2 hf
      refine x_callVi (As := [.int (32 : Int32)]) cf_X10_236 (c_X10_takes l G N v0 (32 : Int32) h8 _ _ q14) rfl ⟨rfl, rfl, Nat.le_of_ble_eq_true rfl, Nat.le_of_ble_eq_true rfl⟩ ⟨Nat.le_of_ble_eq_true rfl, Nat.le_of_ble_eq_true rfl⟩ X M (x_recv cls_X10 X M q13) rfl rfl hl.1 (Nat.le_of_ble_eq_true rfl) dX10_takesCost_29 (fun H locs M => ?_)
      refine lv_if_eq (tgt := 42) X.1 X.2.1 dX10_takesCost_32 (by decide) (fun c17 => ?_) (fun c17 => ?_)
      · have hf := ifp c17 hf
        refine lv_iconst (v := (0 : Int32)) X.1 X.2.1 dX10_takesCost_42 (by decide) ?_
        obtain ⟨rfl, rfl⟩ := rt2 hf
        exact x_zret X hr hk rfl M dX10_takesCost_43
      · have hf := ifn c17 hf
        refine lv_aload_n X.1 X.2.1 dX10_takesCost_35 rfl (lv_at hl 1 rfl) ?_
        obtain ⟨⟨⟩, q18, hf⟩ := bnd hf
        obtain ⟨t21, h20, q19, hf⟩ := bnd2 hf
        refine x_callVi (As := []) cf_X10_243 (c_X10_takesNumber l G N v0 h15 _ _ q19) rfl ⟨rfl, rfl, Nat.le_of_ble_eq_true rfl, Nat.le_of_ble_eq_true rfl⟩ ⟨Nat.le_of_ble_eq_true rfl, Nat.le_of_ble_eq_true rfl⟩ X M (x_recv cls_X10 X M q18) rfl rfl hl.1 (Nat.le_of_ble_eq_true rfl) dX10_takesCost_36 (fun H locs M => ?_)
        refine lv_if_ne (tgt := 44) X.1 X.2.1 dX10_takesCost_39 (by decide) (fun c22 => ?_) (fun c22 => ?_)
        · have hf := ifn c22 hf
          refine lv_aload_n X.1 X.2.1 dX10_takesCost_44 rfl (lv_at hl 1 rfl) ?_
          obtain ⟨t23, q24, hf⟩ := bnd hf
          refine x_getr fl_X10_124 X M q24 dX10_takesCost_45 ?_
          refine lv_iload_n X.1 X.2.1 dX10_takesCost_48 rfl (lv_at hl 0 rfl) ?_
          refine lv_aload_n X.1 X.2.1 dX10_takesCost_49 rfl (lv_at hl 1 rfl) ?_
          obtain ⟨t25, q26, hf⟩ := bnd hf
          refine x_geti fl_X10_71 X M q26 dX10_takesCost_50 ?_
          obtain ⟨h27, q28, hf⟩ := bnd hf
          refine x_iast X M q28 dX10_takesCost_53 (fun H locs M => ?_)
          refine lv_iconst (v := (1 : Int32)) X.1 X.2.1 dX10_takesCost_54 (by decide) ?_
          obtain ⟨rfl, rfl⟩ := rt2 hf
          exact x_zret X hr hk rfl M dX10_takesCost_55
        · have hf := ifp c22 hf
          refine lv_iconst (v := (0 : Int32)) X.1 X.2.1 dX10_takesCost_42 (by decide) ?_
          obtain ⟨rfl, rfl⟩ := rt2 hf
          exact x_zret X hr hk rfl M dX10_takesCost_43
    · have hf := ifp c10 hf
      refine lv_iconst (v := (0 : Int32)) X.1 X.2.1 dX10_takesCost_19 (by decide) ?_
      obtain ⟨rfl, rfl⟩ := rt2 hf
      exact x_zret X hr hk rfl M dX10_takesCost_20
theorem c_X10_takesCost (l : Launch) (G : Gx) (N : Nat) (v0 : Nat) (h : Mem) (r : Int32) (h' : Mem) (hf : f_X10_takesCost N v0 h = some (r, h')) : MetG l G yX10_takesCost (.code yX10_takesCost cX10_takesCost 2 (Option.some Jvm.ClassFile.FieldType.boolean)) rm_X10_takesCost [.ref (gB G + v0)] h (QcI G r h') 0 0 :=
  x_met (by decide) rfl (Nat.le_of_ble_eq_true rfl) (fun p e s m args below meth c ls X M hr hk hin hl => w_X10_takesCost X hr hk N v0 h hf _ _ ls M hl)
