abbrev rm_X2_init : Room := { frames := 1, cells := 2, slots := 20, locals := 40 }
def f_X2_init (N : Nat) (v0 : Nat) (h : Mem) : Option Mem :=
  (sR (al h (100, 4)) v0 2 0 h.1.length).bind fun h1 =>
  (sR (al h1 (100, 16)) v0 2 1 h1.1.length).bind fun h3 =>
  some h3
set_option maxRecDepth 100000 in
set_option maxHeartbeats 4000000 in
theorem w_X2_init {p : Program} {l : Launch} {e : Env} {s : State} {m : MethodId} {args : Array Value} {below : List Frame} {meth : Method} {c : Code} {G : Gx} {h' : Mem} {L : Nat} (X : CX G p s m args c cX2_init 1 RX2) (hr : meth.sig.returnType = (Option.none : Option Jvm.ClassFile.FieldType)) (hk : meth.locks = false) (hL : s.heap.size + 2 = gB G + L) (hin : meth.name = "<init>") (N : Nat) : ∀ (v0 : Nat) (h : Mem), f_X2_init N v0 h = some h' → ∀ (H : Heap) (locs : List Loc) (ls : Array Slot), MS G s h H locs 0 → lv_has ls 1 [(0, .ref (gB G + v0))] → W p l e (rm_X2_init) s m args below meth c H locs 0 0 (QV G below args s h' L 2 20) (F0 m 0 ls []) := by
  intro v0 h hf H locs ls M hl
  rw [f_X2_init] at hf
  refine lv_aload_n X.1 X.2.1 dX2_init_0 rfl (lv_at hl 0 rfl) ?_
  refine x_obj k_199 k_27 k_28 X hl.1 dX2_init_1 (Nat.le_of_ble_eq_true rfl) (Nat.le_of_ble_eq_true rfl) ?_
  refine lv_aload_n X.1 X.2.1 dX2_init_4 rfl (lv_at hl 0 rfl) ?_
  refine lv_iconst (v := (4 : Int32)) X.1 X.2.1 dX2_init_5 (by decide) ?_
  refine x_newI (N := 4) k_75 (by decide) (by decide) (by decide) X M ⟨Nat.le_of_ble_eq_true rfl, Nat.le_of_ble_eq_true rfl⟩ dX2_init_6 (fun H locs M => ?_)
  obtain ⟨h1, q2, hf⟩ := bnd hf
  refine x_putrF fl_X2_9 fp_X2_9.1 hin rfl fp_X2_9.2 (fun _ => rfl) (fun _ => rfl) X M q2 dX2_init_8 (fun H locs M => ?_)
  refine lv_aload_n X.1 X.2.1 dX2_init_11 rfl (lv_at hl 0 rfl) ?_
  refine lv_bipush (v := (16 : Int32)) X.1 X.2.1 dX2_init_12 (by decide) ?_
  refine x_newI (N := 16) k_75 (by decide) (by decide) (by decide) X M ⟨Nat.le_of_ble_eq_true rfl, Nat.le_of_ble_eq_true rfl⟩ dX2_init_14 (fun H locs M => ?_)
  obtain ⟨h3, q4, hf⟩ := bnd hf
  refine x_putrF fl_X2_15 fp_X2_15.1 hin rfl fp_X2_15.2 (fun _ => rfl) (fun _ => rfl) X M q4 dX2_init_16 (fun H locs M => ?_)
  obtain rfl := rt1 hf
  exact x_vret X hr hk M hL dX2_init_19
theorem c_X2_init (l : Launch) (G : Gx) (N : Nat) (v0 : Nat) (h : Mem) (h' : Mem) (hf : f_X2_init N v0 h = some h') : MetG l G yX2_init (.code yX2_init cX2_init 1 (Option.none : Option Jvm.ClassFile.FieldType)) rm_X2_init [.ref (gB G + v0)] h (QcV G h' (h.1.length + 2)) 2 20 :=
  x_met (by decide) rfl (Nat.le_of_ble_eq_true rfl) (fun p e s m args below meth c ls X M hr hk hin hl => w_X2_init X hr hk (by have := M.2.2; omega) hin N v0 h hf _ _ ls M hl)
abbrev rmR_X2_ways (d : Nat) : Room := { frames := 1 * d + 1, cells := 0, slots := 0, locals := 32 * d + 40 }
abbrev rm_X2_ways (d : Nat) : Room := { frames := 1 * d + 2, cells := 0, slots := 0, locals := 32 * d + 72 }
def f_X2_ways_24 (rc : Nat → Nat → Int32 → Int32 → Mem → Option (Int32 × Mem)) (N : Nat) (n : Nat) (v0 : Nat) (v1 : Nat) (v2 : Int32) (v3 : Int32) (v4 : Int32) (v5 : Int32) (h : Mem) : Option (Int32 × Mem) := match n with
  | 0 => none
  | n + 1 =>
    if (4 : Int32) ≤ v5 then
      some (v4, h)
    else
      (gR h v0 2 0).bind fun t2 =>
      (lI 100 h t2 v5).bind fun t4 =>
      if t4 = 0 then
        f_X2_ways_24 rc N n v0 v1 v2 v3 v4 (v5 + 1) h
      else
        (gR h v0 2 0).bind fun t7 =>
        (lI 100 h t7 v5).bind fun t9 =>
        (stI 100 h t7 v5 (t9 - (1 : Int32))).bind fun h11 =>
        (gR h11 v1 1 10).bind fun t13 =>
        (lI 100 h11 t13 v2).bind fun t15 =>
        (gR h11 v0 2 1).bind fun t17 =>
        (lI 100 h11 t17 ((t15 * (4 : Int32)) + v5)).bind fun t19 =>
        (stI 100 h11 t17 ((t15 * (4 : Int32)) + v5) (t19 + (1 : Int32))).bind fun h21 =>
        (ck h21 v0 2).bind fun _ =>
        b2 (rc v0 v1 (v2 + (1 : Int32)) (v3 - t19) h21) fun t26 h25 =>
        (gR h25 v0 2 1).bind fun t27 =>
        (lI 100 h25 t27 ((t15 * (4 : Int32)) + v5)).bind fun t29 =>
        (stI 100 h25 t27 ((t15 * (4 : Int32)) + v5) (t29 - (1 : Int32))).bind fun h31 =>
        (gR h31 v0 2 0).bind fun t33 =>
        (lI 100 h31 t33 v5).bind fun t35 =>
        (stI 100 h31 t33 v5 (t35 + (1 : Int32))).bind fun h37 =>
        f_X2_ways_24 rc N n v0 v1 v2 v3 (v4 + (t9 * t26)) (v5 + 1) h37
set_option maxRecDepth 100000 in
set_option maxHeartbeats 4000000 in
theorem w_X2_ways_24 {p : Program} {l : Launch} {e : Env} {s : State} {m : MethodId} {args : Array Value} {below : List Frame} {meth : Method} {c : Code} {G : Gx} {r : Int32} {h' : Mem} (X : CX G p s m args c cX2_ways 9 RX2) (hr : meth.sig.returnType = (Option.some Jvm.ClassFile.FieldType.int)) (hk : meth.locks = false) {d : Nat} (rc : Nat → Nat → Int32 → Int32 → Mem → Option (Int32 × Mem)) (hrc : ∀ (a0 : Nat) (a1 : Nat) (a2 : Int32) (a3 : Int32) (h : Mem) (r : Int32) (h' : Mem), rc a0 a1 a2 a3 h = some (r, h') → MetG l G yX2_ways (.code yX2_ways cX2_ways 9 (Option.some Jvm.ClassFile.FieldType.int)) (rmR_X2_ways d) [.ref (gB G + a0), .ref (gB G + a1), .int a2, .int a3] h (QcI G r h') 0 0) (N : Nat) : ∀ (n : Nat) (v0 : Nat) (v1 : Nat) (v2 : Int32) (v3 : Int32) (v4 : Int32) (v5 : Int32) (h : Mem), f_X2_ways_24 rc N n v0 v1 v2 v3 v4 v5 h = some (r, h') → ∀ (H : Heap) (locs : List Loc) (ls : Array Slot), MS G s h H locs 0 → lv_has ls 9 [(0, .ref (gB G + v0)), (1, .ref (gB G + v1)), (2, .int v2), (3, .int v3), (4, .int v4), (5, .int v5)] → W p l e (rm_X2_ways d) s m args below meth c H locs 0 0 (QI G below args s r h' 0 0) (F0 m 24 ls []) := by
  intro n
  induction n with
  | zero =>
    intro v0 v1 v2 v3 v4 v5 h hf
    cases hf
  | succ n ih =>
    intro v0 v1 v2 v3 v4 v5 h hf H locs ls M hl
    rw [f_X2_ways_24] at hf
    refine lv_iload X.1 X.2.1 dX2_ways_24 (lv_at hl 5 rfl) ?_
    refine lv_iconst (v := (4 : Int32)) X.1 X.2.1 dX2_ways_26 (by decide) ?_
    refine lv_icmp_ge (tgt := 132) X.1 X.2.1 dX2_ways_27 (by decide) (fun c1 => ?_) (fun c1 => ?_)
    · have hf := ifp c1 hf
      refine lv_iload X.1 X.2.1 dX2_ways_132 (lv_at hl 4 rfl) ?_
      obtain ⟨rfl, rfl⟩ := rt2 hf
      exact x_iret X hr hk M dX2_ways_134
    · have hf := ifn c1 hf
      refine lv_aload_n X.1 X.2.1 dX2_ways_30 rfl (lv_at hl 0 rfl) ?_
      obtain ⟨t2, q3, hf⟩ := bnd hf
      refine x_getr fl_X2_9 X M q3 dX2_ways_31 ?_
      refine lv_iload X.1 X.2.1 dX2_ways_34 (lv_at hl 5 rfl) ?_
      obtain ⟨t4, q5, hf⟩ := bnd hf
      refine x_iald X M q5 dX2_ways_36 ?_
      refine lv_if_ne (tgt := 43) X.1 X.2.1 dX2_ways_37 (by decide) (fun c6 => ?_) (fun c6 => ?_)
      · have hf := ifn c6 hf
        refine lv_aload_n X.1 X.2.1 dX2_ways_43 rfl (lv_at hl 0 rfl) ?_
        obtain ⟨t7, q8, hf⟩ := bnd hf
        refine x_getr fl_X2_9 X M q8 dX2_ways_44 ?_
        refine lv_iload X.1 X.2.1 dX2_ways_47 (lv_at hl 5 rfl) ?_
        refine lv_dup2_11 X.1 X.2.1 dX2_ways_49 rfl rfl ?_
        obtain ⟨t9, q10, hf⟩ := bnd hf
        refine x_iald X M q10 dX2_ways_50 ?_
        refine lv_dup_x2 X.1 X.2.1 dX2_ways_51 rfl rfl rfl ?_
        refine lv_iconst (v := (1 : Int32)) X.1 X.2.1 dX2_ways_52 (by decide) ?_
        refine lv_isub X.1 X.2.1 dX2_ways_53 ?_
        obtain ⟨h11, q12, hf⟩ := bnd hf
        refine x_iast X M q12 dX2_ways_54 (fun H locs M => ?_)
        refine lv_istore (lv' := [(6, .int t9), (0, .ref (gB G + v0)), (1, .ref (gB G + v1)), (2, .int v2), (3, .int v3), (4, .int v4), (5, .int v5)]) X.1 X.2.1 dX2_ways_55 hl (by decide) rfl (fun ls hl => ?_)
        refine lv_aload_n X.1 X.2.1 dX2_ways_57 rfl (lv_at hl 2 rfl) ?_
        obtain ⟨t13, q14, hf⟩ := bnd hf
        refine x_getr fl_X2_41 X M q14 dX2_ways_58 ?_
        refine lv_iload_n X.1 X.2.1 dX2_ways_61 rfl (lv_at hl 3 rfl) ?_
        obtain ⟨t15, q16, hf⟩ := bnd hf
        refine x_iald X M q16 dX2_ways_62 ?_
        refine lv_iconst (v := (4 : Int32)) X.1 X.2.1 dX2_ways_63 (by decide) ?_
        refine lv_imul X.1 X.2.1 dX2_ways_64 ?_
        refine lv_iload X.1 X.2.1 dX2_ways_65 (lv_at hl 6 rfl) ?_
        refine lv_iadd X.1 X.2.1 dX2_ways_67 ?_
        refine lv_istore (lv' := [(7, .int ((t15 * (4 : Int32)) + v5)), (6, .int t9), (0, .ref (gB G + v0)), (1, .ref (gB G + v1)), (2, .int v2), (3, .int v3), (4, .int v4), (5, .int v5)]) X.1 X.2.1 dX2_ways_68 hl (by decide) rfl (fun ls hl => ?_)
        refine lv_aload_n X.1 X.2.1 dX2_ways_70 rfl (lv_at hl 2 rfl) ?_
        obtain ⟨t17, q18, hf⟩ := bnd hf
        refine x_getr fl_X2_15 X M q18 dX2_ways_71 ?_
        refine lv_iload X.1 X.2.1 dX2_ways_74 (lv_at hl 0 rfl) ?_
        refine lv_dup2_11 X.1 X.2.1 dX2_ways_76 rfl rfl ?_
        obtain ⟨t19, q20, hf⟩ := bnd hf
        refine x_iald X M q20 dX2_ways_77 ?_
        refine lv_dup_x2 X.1 X.2.1 dX2_ways_78 rfl rfl rfl ?_
        refine lv_iconst (v := (1 : Int32)) X.1 X.2.1 dX2_ways_79 (by decide) ?_
        refine lv_iadd X.1 X.2.1 dX2_ways_80 ?_
        obtain ⟨h21, q22, hf⟩ := bnd hf
        refine x_iast X M q22 dX2_ways_81 (fun H locs M => ?_)
        refine lv_istore (lv' := [(8, .int t19), (7, .int ((t15 * (4 : Int32)) + v5)), (6, .int t9), (0, .ref (gB G + v0)), (1, .ref (gB G + v1)), (2, .int v2), (3, .int v3), (4, .int v4), (5, .int v5)]) X.1 X.2.1 dX2_ways_82 hl (by decide) rfl (fun ls hl => ?_)
        refine lv_iload X.1 X.2.1 dX2_ways_84 (lv_at hl 7 rfl) ?_
        refine lv_iload X.1 X.2.1 dX2_ways_86 (lv_at hl 2 rfl) ?_
        refine lv_aload_n X.1 X.2.1 dX2_ways_88 rfl (lv_at hl 3 rfl) ?_
        refine lv_aload_n X.1 X.2.1 dX2_ways_89 rfl (lv_at hl 4 rfl) ?_
        refine lv_iload_n X.1 X.2.1 dX2_ways_90 rfl (lv_at hl 5 rfl) ?_
        refine lv_iconst (v := (1 : Int32)) X.1 X.2.1 dX2_ways_91 (by decide) ?_
        refine lv_iadd X.1 X.2.1 dX2_ways_92 ?_
        refine lv_iload_n X.1 X.2.1 dX2_ways_93 rfl (lv_at hl 6 rfl) ?_
        refine lv_iload X.1 X.2.1 dX2_ways_94 (lv_at hl 0 rfl) ?_
        refine lv_isub X.1 X.2.1 dX2_ways_96 ?_
        obtain ⟨⟨⟩, q23, hf⟩ := bnd hf
        obtain ⟨t26, h25, q24, hf⟩ := bnd2 hf
        refine x_callVi (As := [.ref (gB G + v1), .int (v2 + (1 : Int32)), .int (v3 - t19)]) cf_X2_37 (hrc v0 v1 (v2 + (1 : Int32)) (v3 - t19) h21 _ _ q24) rfl ⟨rfl, rfl, by simp only [rmR_X2_ways, rm_X2_ways]; omega, by simp only [rmR_X2_ways, rm_X2_ways]; omega⟩ ⟨Nat.le_of_ble_eq_true rfl, Nat.le_of_ble_eq_true rfl⟩ X M (x_recv cls_X2 X M q23) rfl rfl hl.1 (Nat.le_of_ble_eq_true rfl) dX2_ways_97 (fun H locs M => ?_)
        refine lv_imul X.1 X.2.1 dX2_ways_100 ?_
        refine lv_iadd X.1 X.2.1 dX2_ways_101 ?_
        refine lv_istore (lv' := [(4, .int (v4 + (t9 * t26))), (8, .int t19), (7, .int ((t15 * (4 : Int32)) + v5)), (6, .int t9), (0, .ref (gB G + v0)), (1, .ref (gB G + v1)), (2, .int v2), (3, .int v3), (5, .int v5)]) X.1 X.2.1 dX2_ways_102 hl (by decide) rfl (fun ls hl => ?_)
        refine lv_aload_n X.1 X.2.1 dX2_ways_104 rfl (lv_at hl 4 rfl) ?_
        obtain ⟨t27, q28, hf⟩ := bnd hf
        refine x_getr fl_X2_15 X M q28 dX2_ways_105 ?_
        refine lv_iload X.1 X.2.1 dX2_ways_108 (lv_at hl 2 rfl) ?_
        refine lv_dup2_11 X.1 X.2.1 dX2_ways_110 rfl rfl ?_
        obtain ⟨t29, q30, hf⟩ := bnd hf
        refine x_iald X M q30 dX2_ways_111 ?_
        refine lv_iconst (v := (1 : Int32)) X.1 X.2.1 dX2_ways_112 (by decide) ?_
        refine lv_isub X.1 X.2.1 dX2_ways_113 ?_
        obtain ⟨h31, q32, hf⟩ := bnd hf
        refine x_iast X M q32 dX2_ways_114 (fun H locs M => ?_)
        refine lv_aload_n X.1 X.2.1 dX2_ways_115 rfl (lv_at hl 4 rfl) ?_
        obtain ⟨t33, q34, hf⟩ := bnd hf
        refine x_getr fl_X2_9 X M q34 dX2_ways_116 ?_
        refine lv_iload X.1 X.2.1 dX2_ways_119 (lv_at hl 8 rfl) ?_
        refine lv_dup2_11 X.1 X.2.1 dX2_ways_121 rfl rfl ?_
        obtain ⟨t35, q36, hf⟩ := bnd hf
        refine x_iald X M q36 dX2_ways_122 ?_
        refine lv_iconst (v := (1 : Int32)) X.1 X.2.1 dX2_ways_123 (by decide) ?_
        refine lv_iadd X.1 X.2.1 dX2_ways_124 ?_
        obtain ⟨h37, q38, hf⟩ := bnd hf
        refine x_iast X M q38 dX2_ways_125 (fun H locs M => ?_)
        refine lv_iinc (v := (v5 + 1)) (lv' := [(5, .int (v5 + 1)), (4, .int (v4 + (t9 * t26))), (8, .int t19), (7, .int ((t15 * (4 : Int32)) + v5)), (6, .int t9), (0, .ref (gB G + v0)), (1, .ref (gB G + v1)), (2, .int v2), (3, .int v3)]) X.1 X.2.1 dX2_ways_126 hl (k := 8) rfl (by first | rfl | decide) (by decide) rfl (fun ls hl => ?_)
        refine lv_goto (tgt := 24) X.1 X.2.1 dX2_ways_129 (by decide) ?_
        exact ih v0 v1 v2 v3 (v4 + (t9 * t26)) (v5 + 1) h37 hf _ _ _ M (lv_sub hl [5, 6, 7, 8, 1, 0] rfl)
      · have hf := ifp c6 hf
        refine lv_goto (tgt := 126) X.1 X.2.1 dX2_ways_40 (by decide) ?_
        refine lv_iinc (v := (v5 + 1)) (lv' := [(5, .int (v5 + 1)), (0, .ref (gB G + v0)), (1, .ref (gB G + v1)), (2, .int v2), (3, .int v3), (4, .int v4)]) X.1 X.2.1 dX2_ways_126 hl (k := 5) rfl (by first | rfl | decide) (by decide) rfl (fun ls hl => ?_)
        refine lv_goto (tgt := 24) X.1 X.2.1 dX2_ways_129 (by decide) ?_
        exact ih v0 v1 v2 v3 v4 (v5 + 1) h hf _ _ _ M (lv_sub hl [1, 2, 3, 4, 5, 0] rfl)
def f_X2_ways (rc : Nat → Nat → Int32 → Int32 → Mem → Option (Int32 × Mem)) (N : Nat) (v0 : Nat) (v1 : Nat) (v2 : Int32) (v3 : Int32) (h : Mem) : Option (Int32 × Mem) :=
  (gI h v1 1 2).bind fun t1 =>
  if v2 < t1 then
    f_X2_ways_24 rc N N v0 v1 v2 v3 (0 : Int32) (0 : Int32) h
  else
    if 0 < v3 then
      some ((0 : Int32), h)
    else
      some ((1 : Int32), h)
set_option maxRecDepth 100000 in
set_option maxHeartbeats 4000000 in
theorem w_X2_ways {p : Program} {l : Launch} {e : Env} {s : State} {m : MethodId} {args : Array Value} {below : List Frame} {meth : Method} {c : Code} {G : Gx} {r : Int32} {h' : Mem} (X : CX G p s m args c cX2_ways 9 RX2) (hr : meth.sig.returnType = (Option.some Jvm.ClassFile.FieldType.int)) (hk : meth.locks = false) {d : Nat} (rc : Nat → Nat → Int32 → Int32 → Mem → Option (Int32 × Mem)) (hrc : ∀ (a0 : Nat) (a1 : Nat) (a2 : Int32) (a3 : Int32) (h : Mem) (r : Int32) (h' : Mem), rc a0 a1 a2 a3 h = some (r, h') → MetG l G yX2_ways (.code yX2_ways cX2_ways 9 (Option.some Jvm.ClassFile.FieldType.int)) (rmR_X2_ways d) [.ref (gB G + a0), .ref (gB G + a1), .int a2, .int a3] h (QcI G r h') 0 0) (N : Nat) : ∀ (v0 : Nat) (v1 : Nat) (v2 : Int32) (v3 : Int32) (h : Mem), f_X2_ways rc N v0 v1 v2 v3 h = some (r, h') → ∀ (H : Heap) (locs : List Loc) (ls : Array Slot), MS G s h H locs 0 → lv_has ls 9 [(0, .ref (gB G + v0)), (1, .ref (gB G + v1)), (2, .int v2), (3, .int v3)] → W p l e (rm_X2_ways d) s m args below meth c H locs 0 0 (QI G below args s r h' 0 0) (F0 m 0 ls []) := by
  intro v0 v1 v2 v3 h hf H locs ls M hl
  rw [f_X2_ways] at hf
  refine lv_iload_n X.1 X.2.1 dX2_ways_0 rfl (lv_at hl 2 rfl) ?_
  refine lv_aload_n X.1 X.2.1 dX2_ways_1 rfl (lv_at hl 1 rfl) ?_
  obtain ⟨t1, q2, hf⟩ := bnd hf
  refine x_geti fl_X2_18 X M q2 dX2_ways_2 ?_
  refine lv_icmp_lt (tgt := 18) X.1 X.2.1 dX2_ways_5 (by decide) (fun c3 => ?_) (fun c3 => ?_)
  · have hf := ifp c3 hf
    refine lv_iconst (v := (0 : Int32)) X.1 X.2.1 dX2_ways_18 (by decide) ?_
    refine lv_istore (lv' := [(4, .int (0 : Int32)), (0, .ref (gB G + v0)), (1, .ref (gB G + v1)), (2, .int v2), (3, .int v3)]) X.1 X.2.1 dX2_ways_19 hl (by decide) rfl (fun ls hl => ?_)
    refine lv_iconst (v := (0 : Int32)) X.1 X.2.1 dX2_ways_21 (by decide) ?_
    refine lv_istore (lv' := [(5, .int (0 : Int32)), (4, .int (0 : Int32)), (0, .ref (gB G + v0)), (1, .ref (gB G + v1)), (2, .int v2), (3, .int v3)]) X.1 X.2.1 dX2_ways_22 hl (by decide) rfl (fun ls hl => ?_)
    exact w_X2_ways_24 X hr hk rc hrc N N v0 v1 v2 v3 (0 : Int32) (0 : Int32) h hf _ _ _ M (lv_sub hl [2, 3, 4, 5, 1, 0] rfl)
  · have hf := ifn c3 hf
    refine lv_iload_n X.1 X.2.1 dX2_ways_8 rfl (lv_at hl 3 rfl) ?_
    refine lv_if_gt (tgt := 16) X.1 X.2.1 dX2_ways_9 (by decide) (fun c4 => ?_) (fun c4 => ?_)
    · have hf := ifp c4 hf
      refine lv_iconst (v := (0 : Int32)) X.1 X.2.1 dX2_ways_16 (by decide) ?_
      obtain ⟨rfl, rfl⟩ := rt2 hf
      exact x_iret X hr hk M dX2_ways_17
    · have hf := ifn c4 hf
      refine lv_iconst (v := (1 : Int32)) X.1 X.2.1 dX2_ways_12 (by decide) ?_
      refine lv_goto (tgt := 17) X.1 X.2.1 dX2_ways_13 (by decide) ?_
      obtain ⟨rfl, rfl⟩ := rt2 hf
      exact x_iret X hr hk M dX2_ways_17
theorem c_X2_ways (l : Launch) (G : Gx) {d : Nat} (rc : Nat → Nat → Int32 → Int32 → Mem → Option (Int32 × Mem)) (hrc : ∀ (a0 : Nat) (a1 : Nat) (a2 : Int32) (a3 : Int32) (h : Mem) (r : Int32) (h' : Mem), rc a0 a1 a2 a3 h = some (r, h') → MetG l G yX2_ways (.code yX2_ways cX2_ways 9 (Option.some Jvm.ClassFile.FieldType.int)) (rmR_X2_ways d) [.ref (gB G + a0), .ref (gB G + a1), .int a2, .int a3] h (QcI G r h') 0 0) (N : Nat) (v0 : Nat) (v1 : Nat) (v2 : Int32) (v3 : Int32) (h : Mem) (r : Int32) (h' : Mem) (hf : f_X2_ways rc N v0 v1 v2 v3 h = some (r, h')) : MetG l G yX2_ways (.code yX2_ways cX2_ways 9 (Option.some Jvm.ClassFile.FieldType.int)) (rm_X2_ways d) [.ref (gB G + v0), .ref (gB G + v1), .int v2, .int v3] h (QcI G r h') 0 0 :=
  x_met (by decide) rfl (Nat.le_of_ble_eq_true rfl) (fun p e s m args below meth c ls X M hr hk hin hl => w_X2_ways X hr hk rc hrc N v0 v1 v2 v3 h hf _ _ ls M hl)
def FD_X2_ways (N : Nat) : Nat → Nat → Nat → Int32 → Int32 → Mem → Option (Int32 × Mem)
  | 0 => fun _ _ _ _ _ => none
  | d + 1 => fun v0 v1 v2 v3 h => f_X2_ways (FD_X2_ways N d) N v0 v1 v2 v3 h
theorem CD_X2_ways (l : Launch) (G : Gx) (N : Nat) : ∀ (d : Nat) (v0 : Nat) (v1 : Nat) (v2 : Int32) (v3 : Int32) (h : Mem) (r : Int32) (h' : Mem), FD_X2_ways N d v0 v1 v2 v3 h = some (r, h') → MetG l G yX2_ways (.code yX2_ways cX2_ways 9 (Option.some Jvm.ClassFile.FieldType.int)) (rmR_X2_ways d) [.ref (gB G + v0), .ref (gB G + v1), .int v2, .int v3] h (QcI G r h') 0 0 := by
  intro d
  induction d with
  | zero => intro v0 v1 v2 v3 h r h' hf; cases hf
  | succ d ih =>
    intro v0 v1 v2 v3 h r h' hf
    have hh := c_X2_ways l G (d := d) (FD_X2_ways N d) ih N v0 v1 v2 v3 h r h' hf
    have e : rm_X2_ways d = rmR_X2_ways (d + 1) := by simp only [rm_X2_ways, rmR_X2_ways]; congr 1; all_goals omega
    rw [← e]
    exact hh
def F_X2_ways (N : Nat) (v0 : Nat) (v1 : Nat) (v2 : Int32) (v3 : Int32) (h : Mem) : Option (Int32 × Mem) := f_X2_ways (FD_X2_ways N 10) N v0 v1 v2 v3 h
theorem C_X2_ways (l : Launch) (G : Gx) (N : Nat) (v0 : Nat) (v1 : Nat) (v2 : Int32) (v3 : Int32) (h : Mem) (r : Int32) (h' : Mem) (hf : F_X2_ways N v0 v1 v2 v3 h = some (r, h')) : MetG l G yX2_ways (.code yX2_ways cX2_ways 9 (Option.some Jvm.ClassFile.FieldType.int)) (rm_X2_ways 10) [.ref (gB G + v0), .ref (gB G + v1), .int v2, .int v3] h (QcI G r h') 0 0 := c_X2_ways l G (d := 10) (FD_X2_ways N 10) (CD_X2_ways l G N 10) N v0 v1 v2 v3 h r h' hf
abbrev rm_X2_asSorted : Room := { frames := 13, cells := 0, slots := 0, locals := 420 }
def f_X2_asSorted_18 (N : Nat) (n : Nat) (v0 : Nat) (v1 : Nat) (v2 : Int32) (h : Mem) : Option (Int32 × Mem) := match n with
  | 0 => none
  | n + 1 =>
    (gI h v1 1 2).bind fun t1 =>
    if t1 ≤ v2 then
      (ck h v1 1).bind fun _ =>
      b2 (f_X1_pairs N v1 h) fun t7 h6 =>
      (ck h6 v0 2).bind fun _ =>
      b2 (F_X2_ways N v0 v1 (0 : Int32) t7 h6) fun t11 h10 =>
      some (t11, h10)
    else
      (gR h v0 2 0).bind fun t12 =>
      (gR h v1 1 8).bind fun t14 =>
      (lI 100 h t14 v2).bind fun t16 =>
      (lI 100 h t12 t16).bind fun t18 =>
      (stI 100 h t12 t16 (t18 + (1 : Int32))).bind fun h20 =>
      f_X2_asSorted_18 N n v0 v1 (v2 + 1) h20
set_option maxRecDepth 100000 in
set_option maxHeartbeats 4000000 in
theorem w_X2_asSorted_18 {p : Program} {l : Launch} {e : Env} {s : State} {m : MethodId} {args : Array Value} {below : List Frame} {meth : Method} {c : Code} {G : Gx} {r : Int32} {h' : Mem} (X : CX G p s m args c cX2_asSorted 3 RX2) (hr : meth.sig.returnType = (Option.some Jvm.ClassFile.FieldType.int)) (hk : meth.locks = false) (N : Nat) : ∀ (n : Nat) (v0 : Nat) (v1 : Nat) (v2 : Int32) (h : Mem), f_X2_asSorted_18 N n v0 v1 v2 h = some (r, h') → ∀ (H : Heap) (locs : List Loc) (ls : Array Slot), MS G s h H locs 0 → lv_has ls 3 [(0, .ref (gB G + v0)), (1, .ref (gB G + v1)), (2, .int v2)] → W p l e (rm_X2_asSorted) s m args below meth c H locs 0 0 (QI G below args s r h' 0 0) (F0 m 18 ls []) := by
  intro n
  induction n with
  | zero =>
    intro v0 v1 v2 h hf
    cases hf
  | succ n ih =>
    intro v0 v1 v2 h hf H locs ls M hl
    rw [f_X2_asSorted_18] at hf
    refine lv_iload_n X.1 X.2.1 dX2_asSorted_18 rfl (lv_at hl 2 rfl) ?_
    refine lv_aload_n X.1 X.2.1 dX2_asSorted_19 rfl (lv_at hl 1 rfl) ?_
    obtain ⟨t1, q2, hf⟩ := bnd hf
    refine x_geti fl_X2_18 X M q2 dX2_asSorted_20 ?_
    refine lv_icmp_ge (tgt := 47) X.1 X.2.1 dX2_asSorted_23 (by decide) (fun c3 => ?_) (fun c3 => ?_)
    · have hf := ifp c3 hf
      refine lv_aload_n X.1 X.2.1 dX2_asSorted_47 rfl (lv_at hl 0 rfl) ?_
      refine lv_aload_n X.1 X.2.1 dX2_asSorted_48 rfl (lv_at hl 1 rfl) ?_
      refine lv_iconst (v := (0 : Int32)) X.1 X.2.1 dX2_asSorted_49 (by decide) ?_
      refine lv_aload_n X.1 X.2.1 dX2_asSorted_50 rfl (lv_at hl 1 rfl) ?_
      obtain ⟨⟨⟩, q4, hf⟩ := bnd hf
      obtain ⟨t7, h6, q5, hf⟩ := bnd2 hf
      refine x_callVi (As := []) cf_X2_33 (c_X1_pairs l G N v1 h _ _ q5) rfl ⟨rfl, rfl, Nat.le_of_ble_eq_true rfl, Nat.le_of_ble_eq_true rfl⟩ ⟨Nat.le_of_ble_eq_true rfl, Nat.le_of_ble_eq_true rfl⟩ X M (x_recv cls_X1 X M q4) rfl rfl hl.1 (Nat.le_of_ble_eq_true rfl) dX2_asSorted_51 (fun H locs M => ?_)
      obtain ⟨⟨⟩, q8, hf⟩ := bnd hf
      obtain ⟨t11, h10, q9, hf⟩ := bnd2 hf
      refine x_callVi (As := [.ref (gB G + v1), .int (0 : Int32), .int t7]) cf_X2_37 (C_X2_ways l G N v0 v1 (0 : Int32) t7 h6 _ _ q9) rfl ⟨rfl, rfl, Nat.le_of_ble_eq_true rfl, Nat.le_of_ble_eq_true rfl⟩ ⟨Nat.le_of_ble_eq_true rfl, Nat.le_of_ble_eq_true rfl⟩ X M (x_recv cls_X2 X M q8) rfl rfl hl.1 (Nat.le_of_ble_eq_true rfl) dX2_asSorted_54 (fun H locs M => ?_)
      obtain ⟨rfl, rfl⟩ := rt2 hf
      exact x_iret X hr hk M dX2_asSorted_57
    · have hf := ifn c3 hf
      refine lv_aload_n X.1 X.2.1 dX2_asSorted_26 rfl (lv_at hl 0 rfl) ?_
      obtain ⟨t12, q13, hf⟩ := bnd hf
      refine x_getr fl_X2_9 X M q13 dX2_asSorted_27 ?_
      refine lv_aload_n X.1 X.2.1 dX2_asSorted_30 rfl (lv_at hl 1 rfl) ?_
      obtain ⟨t14, q15, hf⟩ := bnd hf
      refine x_getr fl_X2_30 X M q15 dX2_asSorted_31 ?_
      refine lv_iload_n X.1 X.2.1 dX2_asSorted_34 rfl (lv_at hl 2 rfl) ?_
      obtain ⟨t16, q17, hf⟩ := bnd hf
      refine x_iald X M q17 dX2_asSorted_35 ?_
      refine lv_dup2_11 X.1 X.2.1 dX2_asSorted_36 rfl rfl ?_
      obtain ⟨t18, q19, hf⟩ := bnd hf
      refine x_iald X M q19 dX2_asSorted_37 ?_
      refine lv_iconst (v := (1 : Int32)) X.1 X.2.1 dX2_asSorted_38 (by decide) ?_
      refine lv_iadd X.1 X.2.1 dX2_asSorted_39 ?_
      obtain ⟨h20, q21, hf⟩ := bnd hf
      refine x_iast X M q21 dX2_asSorted_40 (fun H locs M => ?_)
      refine lv_iinc (v := (v2 + 1)) (lv' := [(2, .int (v2 + 1)), (0, .ref (gB G + v0)), (1, .ref (gB G + v1))]) X.1 X.2.1 dX2_asSorted_41 hl (k := 2) rfl (by first | rfl | decide) (by decide) rfl (fun ls hl => ?_)
      refine lv_goto (tgt := 18) X.1 X.2.1 dX2_asSorted_44 (by decide) ?_
      exact ih v0 v1 (v2 + 1) h20 hf _ _ _ M (lv_sub hl [1, 2, 0] rfl)
def f_X2_asSorted (N : Nat) (v0 : Nat) (v1 : Nat) (h : Mem) : Option (Int32 × Mem) :=
  (gR h v0 2 0).bind fun t1 =>
  (f_J7_fill_53178 N t1 (0 : Int32) h).bind fun h4 =>
  (gR h4 v0 2 1).bind fun t5 =>
  (f_J7_fill_53178 N t5 (0 : Int32) h4).bind fun h8 =>
  f_X2_asSorted_18 N N v0 v1 (0 : Int32) h8
set_option maxRecDepth 100000 in
set_option maxHeartbeats 4000000 in
theorem w_X2_asSorted {p : Program} {l : Launch} {e : Env} {s : State} {m : MethodId} {args : Array Value} {below : List Frame} {meth : Method} {c : Code} {G : Gx} {r : Int32} {h' : Mem} (X : CX G p s m args c cX2_asSorted 3 RX2) (hr : meth.sig.returnType = (Option.some Jvm.ClassFile.FieldType.int)) (hk : meth.locks = false) (N : Nat) : ∀ (v0 : Nat) (v1 : Nat) (h : Mem), f_X2_asSorted N v0 v1 h = some (r, h') → ∀ (H : Heap) (locs : List Loc) (ls : Array Slot), MS G s h H locs 0 → lv_has ls 3 [(0, .ref (gB G + v0)), (1, .ref (gB G + v1))] → W p l e (rm_X2_asSorted) s m args below meth c H locs 0 0 (QI G below args s r h' 0 0) (F0 m 0 ls []) := by
  intro v0 v1 h hf H locs ls M hl
  rw [f_X2_asSorted] at hf
  refine lv_aload_n X.1 X.2.1 dX2_asSorted_0 rfl (lv_at hl 0 rfl) ?_
  obtain ⟨t1, q2, hf⟩ := bnd hf
  refine x_getr fl_X2_9 X M q2 dX2_asSorted_1 ?_
  refine lv_iconst (v := (0 : Int32)) X.1 X.2.1 dX2_asSorted_4 (by decide) ?_
  obtain ⟨h4, q3, hf⟩ := bnd hf
  refine x_callSv (As := [.ref (gB G + t1), .int (0 : Int32)]) cf_X2_24 (c_J7_fill_53178 l G N t1 (0 : Int32) h _ q3) rfl ⟨rfl, rfl, Nat.le_of_ble_eq_true rfl, Nat.le_of_ble_eq_true rfl⟩ ⟨Nat.le_of_ble_eq_true rfl, Nat.le_of_ble_eq_true rfl⟩ X M rfl rfl hl.1 (Nat.le_of_ble_eq_true rfl) dX2_asSorted_5 (fun H locs M => ?_)
  refine lv_aload_n X.1 X.2.1 dX2_asSorted_8 rfl (lv_at hl 0 rfl) ?_
  obtain ⟨t5, q6, hf⟩ := bnd hf
  refine x_getr fl_X2_15 X M q6 dX2_asSorted_9 ?_
  refine lv_iconst (v := (0 : Int32)) X.1 X.2.1 dX2_asSorted_12 (by decide) ?_
  obtain ⟨h8, q7, hf⟩ := bnd hf
  refine x_callSv (As := [.ref (gB G + t5), .int (0 : Int32)]) cf_X2_24 (c_J7_fill_53178 l G N t5 (0 : Int32) h4 _ q7) rfl ⟨rfl, rfl, Nat.le_of_ble_eq_true rfl, Nat.le_of_ble_eq_true rfl⟩ ⟨Nat.le_of_ble_eq_true rfl, Nat.le_of_ble_eq_true rfl⟩ X M rfl rfl hl.1 (Nat.le_of_ble_eq_true rfl) dX2_asSorted_13 (fun H locs M => ?_)
  refine lv_iconst (v := (0 : Int32)) X.1 X.2.1 dX2_asSorted_16 (by decide) ?_
  refine lv_istore_n (lv' := [(2, .int (0 : Int32)), (0, .ref (gB G + v0)), (1, .ref (gB G + v1))]) X.1 X.2.1 dX2_asSorted_17 rfl hl (by decide) rfl (fun ls hl => ?_)
  exact w_X2_asSorted_18 X hr hk N N v0 v1 (0 : Int32) h8 hf _ _ _ M (lv_sub hl [1, 2, 0] rfl)
theorem c_X2_asSorted (l : Launch) (G : Gx) (N : Nat) (v0 : Nat) (v1 : Nat) (h : Mem) (r : Int32) (h' : Mem) (hf : f_X2_asSorted N v0 v1 h = some (r, h')) : MetG l G yX2_asSorted (.code yX2_asSorted cX2_asSorted 3 (Option.some Jvm.ClassFile.FieldType.int)) rm_X2_asSorted [.ref (gB G + v0), .ref (gB G + v1)] h (QcI G r h') 0 0 :=
  x_met (by decide) rfl (Nat.le_of_ble_eq_true rfl) (fun p e s m args below meth c ls X M hr hk hin hl => w_X2_asSorted X hr hk N v0 v1 h hf _ _ ls M hl)
abbrev rm_X2_ofAll : Room := { frames := 1, cells := 0, slots := 0, locals := 40 }
def f_X2_ofAll_4 (N : Nat) (n : Nat) (v1 : Nat) (v2 : Int32) (v3 : Int32) (h : Mem) : Option (Int32 × Mem) := match n with
  | 0 => none
  | n + 1 =>
    (gI h v1 1 2).bind fun t1 =>
    if t1 < v3 then
      some (v2, h)
    else
      f_X2_ofAll_4 N n v1 (v2 * v3) (v3 + 1) h
set_option maxRecDepth 100000 in
set_option maxHeartbeats 4000000 in
theorem w_X2_ofAll_4 {p : Program} {l : Launch} {e : Env} {s : State} {m : MethodId} {args : Array Value} {below : List Frame} {meth : Method} {c : Code} {G : Gx} {r : Int32} {h' : Mem} (X : CX G p s m args c cX2_ofAll 4 RX2) (hr : meth.sig.returnType = (Option.some Jvm.ClassFile.FieldType.int)) (hk : meth.locks = false) (N : Nat) : ∀ (n : Nat) (v1 : Nat) (v2 : Int32) (v3 : Int32) (h : Mem), f_X2_ofAll_4 N n v1 v2 v3 h = some (r, h') → ∀ (H : Heap) (locs : List Loc) (ls : Array Slot), MS G s h H locs 0 → lv_has ls 4 [(1, .ref (gB G + v1)), (2, .int v2), (3, .int v3)] → W p l e (rm_X2_ofAll) s m args below meth c H locs 0 0 (QI G below args s r h' 0 0) (F0 m 4 ls []) := by
  intro n
  induction n with
  | zero =>
    intro v1 v2 v3 h hf
    cases hf
  | succ n ih =>
    intro v1 v2 v3 h hf H locs ls M hl
    rw [f_X2_ofAll_4] at hf
    refine lv_iload_n X.1 X.2.1 dX2_ofAll_4 rfl (lv_at hl 2 rfl) ?_
    refine lv_aload_n X.1 X.2.1 dX2_ofAll_5 rfl (lv_at hl 0 rfl) ?_
    obtain ⟨t1, q2, hf⟩ := bnd hf
    refine x_geti fl_X2_18 X M q2 dX2_ofAll_6 ?_
    refine lv_icmp_gt (tgt := 22) X.1 X.2.1 dX2_ofAll_9 (by decide) (fun c3 => ?_) (fun c3 => ?_)
    · have hf := ifp c3 hf
      refine lv_iload_n X.1 X.2.1 dX2_ofAll_22 rfl (lv_at hl 1 rfl) ?_
      obtain ⟨rfl, rfl⟩ := rt2 hf
      exact x_iret X hr hk M dX2_ofAll_23
    · have hf := ifn c3 hf
      refine lv_iload_n X.1 X.2.1 dX2_ofAll_12 rfl (lv_at hl 1 rfl) ?_
      refine lv_iload_n X.1 X.2.1 dX2_ofAll_13 rfl (lv_at hl 2 rfl) ?_
      refine lv_imul X.1 X.2.1 dX2_ofAll_14 ?_
      refine lv_istore_n (lv' := [(2, .int (v2 * v3)), (1, .ref (gB G + v1)), (3, .int v3)]) X.1 X.2.1 dX2_ofAll_15 rfl hl (by decide) rfl (fun ls hl => ?_)
      refine lv_iinc (v := (v3 + 1)) (lv' := [(3, .int (v3 + 1)), (2, .int (v2 * v3)), (1, .ref (gB G + v1))]) X.1 X.2.1 dX2_ofAll_16 hl (k := 2) rfl (by first | rfl | decide) (by decide) rfl (fun ls hl => ?_)
      refine lv_goto (tgt := 4) X.1 X.2.1 dX2_ofAll_19 (by decide) ?_
      exact ih v1 (v2 * v3) (v3 + 1) h hf _ _ _ M (lv_sub hl [2, 1, 0] rfl)
def f_X2_ofAll (N : Nat) (v0 : Nat) (v1 : Nat) (h : Mem) : Option (Int32 × Mem) :=
  f_X2_ofAll_4 N N v1 (1 : Int32) (2 : Int32) h
set_option maxRecDepth 100000 in
set_option maxHeartbeats 4000000 in
theorem w_X2_ofAll {p : Program} {l : Launch} {e : Env} {s : State} {m : MethodId} {args : Array Value} {below : List Frame} {meth : Method} {c : Code} {G : Gx} {r : Int32} {h' : Mem} (X : CX G p s m args c cX2_ofAll 4 RX2) (hr : meth.sig.returnType = (Option.some Jvm.ClassFile.FieldType.int)) (hk : meth.locks = false) (N : Nat) : ∀ (v0 : Nat) (v1 : Nat) (h : Mem), f_X2_ofAll N v0 v1 h = some (r, h') → ∀ (H : Heap) (locs : List Loc) (ls : Array Slot), MS G s h H locs 0 → lv_has ls 4 [(0, .ref (gB G + v0)), (1, .ref (gB G + v1))] → W p l e (rm_X2_ofAll) s m args below meth c H locs 0 0 (QI G below args s r h' 0 0) (F0 m 0 ls []) := by
  intro v0 v1 h hf H locs ls M hl
  rw [f_X2_ofAll] at hf
  refine lv_iconst (v := (1 : Int32)) X.1 X.2.1 dX2_ofAll_0 (by decide) ?_
  refine lv_istore_n (lv' := [(2, .int (1 : Int32)), (0, .ref (gB G + v0)), (1, .ref (gB G + v1))]) X.1 X.2.1 dX2_ofAll_1 rfl hl (by decide) rfl (fun ls hl => ?_)
  refine lv_iconst (v := (2 : Int32)) X.1 X.2.1 dX2_ofAll_2 (by decide) ?_
  refine lv_istore_n (lv' := [(3, .int (2 : Int32)), (2, .int (1 : Int32)), (0, .ref (gB G + v0)), (1, .ref (gB G + v1))]) X.1 X.2.1 dX2_ofAll_3 rfl hl (by decide) rfl (fun ls hl => ?_)
  exact w_X2_ofAll_4 X hr hk N N v1 (1 : Int32) (2 : Int32) h hf _ _ _ M (lv_sub hl [3, 1, 0] rfl)
theorem c_X2_ofAll (l : Launch) (G : Gx) (N : Nat) (v0 : Nat) (v1 : Nat) (h : Mem) (r : Int32) (h' : Mem) (hf : f_X2_ofAll N v0 v1 h = some (r, h')) : MetG l G yX2_ofAll (.code yX2_ofAll cX2_ofAll 4 (Option.some Jvm.ClassFile.FieldType.int)) rm_X2_ofAll [.ref (gB G + v0), .ref (gB G + v1)] h (QcI G r h') 0 0 :=
  x_met (by decide) rfl (Nat.le_of_ble_eq_true rfl) (fun p e s m args below meth c ls X M hr hk hin hl => w_X2_ofAll X hr hk N v0 v1 h hf _ _ ls M hl)
