abbrev rm_X1_init : Room := { frames := 1, cells := 10, slots := 66, locals := 40 }
def f_X1_init (N : Nat) (v0 : Nat) (v1 : Nat) (h : Mem) : Option Mem :=
  (sR (al h (100, 4)) v0 1 3 h.1.length).bind fun h1 =>
  (sR (al h1 (100, 12)) v0 1 4 h1.1.length).bind fun h3 =>
  (sR (al h3 (100, 4)) v0 1 5 h3.1.length).bind fun h5 =>
  (sR (al h5 (100, 4)) v0 1 6 h5.1.length).bind fun h7 =>
  (sR (al h7 (100, 4)) v0 1 7 h7.1.length).bind fun h9 =>
  (sR (al h9 (100, 8)) v0 1 8 h9.1.length).bind fun h11 =>
  (sR (al h11 (100, 8)) v0 1 9 h11.1.length).bind fun h13 =>
  (sR (al h13 (100, 8)) v0 1 10 h13.1.length).bind fun h15 =>
  (sR (al h15 (100, 8)) v0 1 11 h15.1.length).bind fun h17 =>
  (sR (al h17 (100, 6)) v0 1 12 h17.1.length).bind fun h19 =>
  (sR h19 v0 1 0 v1).bind fun h21 =>
  some h21
set_option maxRecDepth 100000 in
set_option maxHeartbeats 4000000 in
theorem w_X1_init {p : Program} {l : Launch} {e : Env} {s : State} {m : MethodId} {args : Array Value} {below : List Frame} {meth : Method} {c : Code} {G : Gx} {h' : Mem} {L : Nat} (X : CX G p s m args c cX1_init 2 RX1) (hr : meth.sig.returnType = (Option.none : Option Jvm.ClassFile.FieldType)) (hk : meth.locks = false) (hL : s.heap.size + 10 = gB G + L) (hin : meth.name = "<init>") (N : Nat) : ∀ (v0 : Nat) (v1 : Nat) (h : Mem), f_X1_init N v0 v1 h = some h' → ∀ (H : Heap) (locs : List Loc) (ls : Array Slot), MS G s h H locs 0 → lv_has ls 2 [(0, .ref (gB G + v0)), (1, .ref (gB G + v1))] → W p l e (rm_X1_init) s m args below meth c H locs 0 0 (QV G below args s h' L 10 66) (F0 m 0 ls []) := by
  intro v0 v1 h hf H locs ls M hl
  rw [f_X1_init] at hf
  refine lv_aload_n X.1 X.2.1 dX1_init_0 rfl (lv_at hl 0 rfl) ?_
  refine x_obj k_79 k_27 k_28 X hl.1 dX1_init_1 (Nat.le_of_ble_eq_true rfl) (Nat.le_of_ble_eq_true rfl) ?_
  refine lv_aload_n X.1 X.2.1 dX1_init_4 rfl (lv_at hl 0 rfl) ?_
  refine lv_iconst (v := (4 : Int32)) X.1 X.2.1 dX1_init_5 (by decide) ?_
  refine x_newI (N := 4) k_75 (by decide) (by decide) (by decide) X M ⟨Nat.le_of_ble_eq_true rfl, Nat.le_of_ble_eq_true rfl⟩ dX1_init_6 (fun H locs M => ?_)
  obtain ⟨h1, q2, hf⟩ := bnd hf
  refine x_putrF fl_X1_9 fp_X1_9.1 hin rfl fp_X1_9.2 (fun _ => rfl) (fun _ => rfl) X M q2 dX1_init_8 (fun H locs M => ?_)
  refine lv_aload_n X.1 X.2.1 dX1_init_11 rfl (lv_at hl 0 rfl) ?_
  refine lv_bipush (v := (12 : Int32)) X.1 X.2.1 dX1_init_12 (by decide) ?_
  refine x_newI (N := 12) k_75 (by decide) (by decide) (by decide) X M ⟨Nat.le_of_ble_eq_true rfl, Nat.le_of_ble_eq_true rfl⟩ dX1_init_14 (fun H locs M => ?_)
  obtain ⟨h3, q4, hf⟩ := bnd hf
  refine x_putrF fl_X1_15 fp_X1_15.1 hin rfl fp_X1_15.2 (fun _ => rfl) (fun _ => rfl) X M q4 dX1_init_16 (fun H locs M => ?_)
  refine lv_aload_n X.1 X.2.1 dX1_init_19 rfl (lv_at hl 0 rfl) ?_
  refine lv_iconst (v := (4 : Int32)) X.1 X.2.1 dX1_init_20 (by decide) ?_
  refine x_newI (N := 4) k_75 (by decide) (by decide) (by decide) X M ⟨Nat.le_of_ble_eq_true rfl, Nat.le_of_ble_eq_true rfl⟩ dX1_init_21 (fun H locs M => ?_)
  obtain ⟨h5, q6, hf⟩ := bnd hf
  refine x_putrF fl_X1_18 fp_X1_18.1 hin rfl fp_X1_18.2 (fun _ => rfl) (fun _ => rfl) X M q6 dX1_init_23 (fun H locs M => ?_)
  refine lv_aload_n X.1 X.2.1 dX1_init_26 rfl (lv_at hl 0 rfl) ?_
  refine lv_iconst (v := (4 : Int32)) X.1 X.2.1 dX1_init_27 (by decide) ?_
  refine x_newI (N := 4) k_75 (by decide) (by decide) (by decide) X M ⟨Nat.le_of_ble_eq_true rfl, Nat.le_of_ble_eq_true rfl⟩ dX1_init_28 (fun H locs M => ?_)
  obtain ⟨h7, q8, hf⟩ := bnd hf
  refine x_putrF fl_X1_21 fp_X1_21.1 hin rfl fp_X1_21.2 (fun _ => rfl) (fun _ => rfl) X M q8 dX1_init_30 (fun H locs M => ?_)
  refine lv_aload_n X.1 X.2.1 dX1_init_33 rfl (lv_at hl 0 rfl) ?_
  refine lv_iconst (v := (4 : Int32)) X.1 X.2.1 dX1_init_34 (by decide) ?_
  refine x_newI (N := 4) k_75 (by decide) (by decide) (by decide) X M ⟨Nat.le_of_ble_eq_true rfl, Nat.le_of_ble_eq_true rfl⟩ dX1_init_35 (fun H locs M => ?_)
  obtain ⟨h9, q10, hf⟩ := bnd hf
  refine x_putrF fl_X1_24 fp_X1_24.1 hin rfl fp_X1_24.2 (fun _ => rfl) (fun _ => rfl) X M q10 dX1_init_37 (fun H locs M => ?_)
  refine lv_aload_n X.1 X.2.1 dX1_init_40 rfl (lv_at hl 0 rfl) ?_
  refine lv_bipush (v := (8 : Int32)) X.1 X.2.1 dX1_init_41 (by decide) ?_
  refine x_newI (N := 8) k_75 (by decide) (by decide) (by decide) X M ⟨Nat.le_of_ble_eq_true rfl, Nat.le_of_ble_eq_true rfl⟩ dX1_init_43 (fun H locs M => ?_)
  obtain ⟨h11, q12, hf⟩ := bnd hf
  refine x_putrF fl_X1_27 fp_X1_27.1 hin rfl fp_X1_27.2 (fun _ => rfl) (fun _ => rfl) X M q12 dX1_init_45 (fun H locs M => ?_)
  refine lv_aload_n X.1 X.2.1 dX1_init_48 rfl (lv_at hl 0 rfl) ?_
  refine lv_bipush (v := (8 : Int32)) X.1 X.2.1 dX1_init_49 (by decide) ?_
  refine x_newI (N := 8) k_75 (by decide) (by decide) (by decide) X M ⟨Nat.le_of_ble_eq_true rfl, Nat.le_of_ble_eq_true rfl⟩ dX1_init_51 (fun H locs M => ?_)
  obtain ⟨h13, q14, hf⟩ := bnd hf
  refine x_putrF fl_X1_30 fp_X1_30.1 hin rfl fp_X1_30.2 (fun _ => rfl) (fun _ => rfl) X M q14 dX1_init_53 (fun H locs M => ?_)
  refine lv_aload_n X.1 X.2.1 dX1_init_56 rfl (lv_at hl 0 rfl) ?_
  refine lv_bipush (v := (8 : Int32)) X.1 X.2.1 dX1_init_57 (by decide) ?_
  refine x_newI (N := 8) k_75 (by decide) (by decide) (by decide) X M ⟨Nat.le_of_ble_eq_true rfl, Nat.le_of_ble_eq_true rfl⟩ dX1_init_59 (fun H locs M => ?_)
  obtain ⟨h15, q16, hf⟩ := bnd hf
  refine x_putrF fl_X1_33 fp_X1_33.1 hin rfl fp_X1_33.2 (fun _ => rfl) (fun _ => rfl) X M q16 dX1_init_61 (fun H locs M => ?_)
  refine lv_aload_n X.1 X.2.1 dX1_init_64 rfl (lv_at hl 0 rfl) ?_
  refine lv_bipush (v := (8 : Int32)) X.1 X.2.1 dX1_init_65 (by decide) ?_
  refine x_newI (N := 8) k_75 (by decide) (by decide) (by decide) X M ⟨Nat.le_of_ble_eq_true rfl, Nat.le_of_ble_eq_true rfl⟩ dX1_init_67 (fun H locs M => ?_)
  obtain ⟨h17, q18, hf⟩ := bnd hf
  refine x_putrF fl_X1_36 fp_X1_36.1 hin rfl fp_X1_36.2 (fun _ => rfl) (fun _ => rfl) X M q18 dX1_init_69 (fun H locs M => ?_)
  refine lv_aload_n X.1 X.2.1 dX1_init_72 rfl (lv_at hl 0 rfl) ?_
  refine lv_bipush (v := (6 : Int32)) X.1 X.2.1 dX1_init_73 (by decide) ?_
  refine x_newI (N := 6) k_75 (by decide) (by decide) (by decide) X M ⟨Nat.le_of_ble_eq_true rfl, Nat.le_of_ble_eq_true rfl⟩ dX1_init_75 (fun H locs M => ?_)
  obtain ⟨h19, q20, hf⟩ := bnd hf
  refine x_putrF fl_X1_39 fp_X1_39.1 hin rfl fp_X1_39.2 (fun _ => rfl) (fun _ => rfl) X M q20 dX1_init_77 (fun H locs M => ?_)
  refine lv_aload_n X.1 X.2.1 dX1_init_80 rfl (lv_at hl 0 rfl) ?_
  refine lv_aload_n X.1 X.2.1 dX1_init_81 rfl (lv_at hl 1 rfl) ?_
  obtain ⟨h21, q22, hf⟩ := bnd hf
  refine x_putr fl_X1_42 fp_X1_42.1 fp_X1_42.2 (fun _ => rfl) (fun _ => rfl) X M q22 dX1_init_82 (fun H locs M => ?_)
  obtain rfl := rt1 hf
  exact x_vret X hr hk M hL dX1_init_85
theorem c_X1_init (l : Launch) (G : Gx) (N : Nat) (v0 : Nat) (v1 : Nat) (h : Mem) (h' : Mem) (hf : f_X1_init N v0 v1 h = some h') : MetG l G yX1_init (.code yX1_init cX1_init 2 (Option.none : Option Jvm.ClassFile.FieldType)) rm_X1_init [.ref (gB G + v0), .ref (gB G + v1)] h (QcV G h' (h.1.length + 10)) 10 66 :=
  x_met (by decide) rfl (Nat.le_of_ble_eq_true rfl) (fun p e s m args below meth c ls X M hr hk hin hl => w_X1_init X hr hk (by have := M.2.2; omega) hin N v0 v1 h hf _ _ ls M hl)
abbrev rm_X1_crowd : Room := { frames := 1, cells := 0, slots := 0, locals := 40 }
def f_X1_crowd_4 (N : Nat) (n : Nat) (v0 : Nat) (v1 : Int32) (v2 : Int32) (v3 : Int32) (h : Mem) : Option (Int32 × Mem) := match n with
  | 0 => none
  | n + 1 =>
    (gI h v0 1 2).bind fun t1 =>
    if t1 ≤ v3 then
      some (v2, h)
    else
      (gR h v0 1 10).bind fun t4 =>
      (lI 100 h t4 v3).bind fun t6 =>
      if t6 = v1 then
        f_X1_crowd_4 N n v0 v1 (v2 + 1) (v3 + 1) h
      else
        f_X1_crowd_4 N n v0 v1 v2 (v3 + 1) h
set_option maxRecDepth 100000 in
set_option maxHeartbeats 4000000 in
theorem w_X1_crowd_4 {p : Program} {l : Launch} {e : Env} {s : State} {m : MethodId} {args : Array Value} {below : List Frame} {meth : Method} {c : Code} {G : Gx} {r : Int32} {h' : Mem} (X : CX G p s m args c cX1_crowd 4 RX1) (hr : meth.sig.returnType = (Option.some Jvm.ClassFile.FieldType.int)) (hk : meth.locks = false) (N : Nat) : ∀ (n : Nat) (v0 : Nat) (v1 : Int32) (v2 : Int32) (v3 : Int32) (h : Mem), f_X1_crowd_4 N n v0 v1 v2 v3 h = some (r, h') → ∀ (H : Heap) (locs : List Loc) (ls : Array Slot), MS G s h H locs 0 → lv_has ls 4 [(0, .ref (gB G + v0)), (1, .int v1), (2, .int v2), (3, .int v3)] → W p l e (rm_X1_crowd) s m args below meth c H locs 0 0 (QI G below args s r h' 0 0) (F0 m 4 ls []) := by
  intro n
  induction n with
  | zero =>
    intro v0 v1 v2 v3 h hf
    cases hf
  | succ n ih =>
    intro v0 v1 v2 v3 h hf H locs ls M hl
    rw [f_X1_crowd_4] at hf
    refine lv_iload_n X.1 X.2.1 dX1_crowd_4 rfl (lv_at hl 3 rfl) ?_
    refine lv_aload_n X.1 X.2.1 dX1_crowd_5 rfl (lv_at hl 0 rfl) ?_
    obtain ⟨t1, q2, hf⟩ := bnd hf
    refine x_geti fl_X1_50 X M q2 dX1_crowd_6 ?_
    refine lv_icmp_ge (tgt := 31) X.1 X.2.1 dX1_crowd_9 (by decide) (fun c3 => ?_) (fun c3 => ?_)
    · have hf := ifp c3 hf
      refine lv_iload_n X.1 X.2.1 dX1_crowd_31 rfl (lv_at hl 2 rfl) ?_
      obtain ⟨rfl, rfl⟩ := rt2 hf
      exact x_iret X hr hk M dX1_crowd_32
    · have hf := ifn c3 hf
      refine lv_aload_n X.1 X.2.1 dX1_crowd_12 rfl (lv_at hl 0 rfl) ?_
      obtain ⟨t4, q5, hf⟩ := bnd hf
      refine x_getr fl_X1_33 X M q5 dX1_crowd_13 ?_
      refine lv_iload_n X.1 X.2.1 dX1_crowd_16 rfl (lv_at hl 3 rfl) ?_
      obtain ⟨t6, q7, hf⟩ := bnd hf
      refine x_iald X M q7 dX1_crowd_17 ?_
      refine lv_iload_n X.1 X.2.1 dX1_crowd_18 rfl (lv_at hl 1 rfl) ?_
      refine lv_icmp_ne (tgt := 25) X.1 X.2.1 dX1_crowd_19 (by decide) (fun c8 => ?_) (fun c8 => ?_)
      · have hf := ifn c8 hf
        refine lv_iinc (v := (v3 + 1)) (lv' := [(3, .int (v3 + 1)), (0, .ref (gB G + v0)), (1, .int v1), (2, .int v2)]) X.1 X.2.1 dX1_crowd_25 hl (k := 3) rfl (by first | rfl | decide) (by decide) rfl (fun ls hl => ?_)
        refine lv_goto (tgt := 4) X.1 X.2.1 dX1_crowd_28 (by decide) ?_
        exact ih v0 v1 v2 (v3 + 1) h hf _ _ _ M (lv_sub hl [1, 2, 3, 0] rfl)
      · have hf := ifp c8 hf
        refine lv_iinc (v := (v2 + 1)) (lv' := [(2, .int (v2 + 1)), (0, .ref (gB G + v0)), (1, .int v1), (3, .int v3)]) X.1 X.2.1 dX1_crowd_22 hl (k := 2) rfl (by first | rfl | decide) (by decide) rfl (fun ls hl => ?_)
        refine lv_iinc (v := (v3 + 1)) (lv' := [(3, .int (v3 + 1)), (2, .int (v2 + 1)), (0, .ref (gB G + v0)), (1, .int v1)]) X.1 X.2.1 dX1_crowd_25 hl (k := 3) rfl (by first | rfl | decide) (by decide) rfl (fun ls hl => ?_)
        refine lv_goto (tgt := 4) X.1 X.2.1 dX1_crowd_28 (by decide) ?_
        exact ih v0 v1 (v2 + 1) (v3 + 1) h hf _ _ _ M (lv_sub hl [2, 3, 1, 0] rfl)
def f_X1_crowd (N : Nat) (v0 : Nat) (v1 : Int32) (h : Mem) : Option (Int32 × Mem) :=
  f_X1_crowd_4 N N v0 v1 (0 : Int32) (0 : Int32) h
set_option maxRecDepth 100000 in
set_option maxHeartbeats 4000000 in
theorem w_X1_crowd {p : Program} {l : Launch} {e : Env} {s : State} {m : MethodId} {args : Array Value} {below : List Frame} {meth : Method} {c : Code} {G : Gx} {r : Int32} {h' : Mem} (X : CX G p s m args c cX1_crowd 4 RX1) (hr : meth.sig.returnType = (Option.some Jvm.ClassFile.FieldType.int)) (hk : meth.locks = false) (N : Nat) : ∀ (v0 : Nat) (v1 : Int32) (h : Mem), f_X1_crowd N v0 v1 h = some (r, h') → ∀ (H : Heap) (locs : List Loc) (ls : Array Slot), MS G s h H locs 0 → lv_has ls 4 [(0, .ref (gB G + v0)), (1, .int v1)] → W p l e (rm_X1_crowd) s m args below meth c H locs 0 0 (QI G below args s r h' 0 0) (F0 m 0 ls []) := by
  intro v0 v1 h hf H locs ls M hl
  rw [f_X1_crowd] at hf
  refine lv_iconst (v := (0 : Int32)) X.1 X.2.1 dX1_crowd_0 (by decide) ?_
  refine lv_istore_n (lv' := [(2, .int (0 : Int32)), (0, .ref (gB G + v0)), (1, .int v1)]) X.1 X.2.1 dX1_crowd_1 rfl hl (by decide) rfl (fun ls hl => ?_)
  refine lv_iconst (v := (0 : Int32)) X.1 X.2.1 dX1_crowd_2 (by decide) ?_
  refine lv_istore_n (lv' := [(3, .int (0 : Int32)), (2, .int (0 : Int32)), (0, .ref (gB G + v0)), (1, .int v1)]) X.1 X.2.1 dX1_crowd_3 rfl hl (by decide) rfl (fun ls hl => ?_)
  exact w_X1_crowd_4 X hr hk N N v0 v1 (0 : Int32) (0 : Int32) h hf _ _ _ M (lv_sub hl [2, 3, 1, 0] rfl)
theorem c_X1_crowd (l : Launch) (G : Gx) (N : Nat) (v0 : Nat) (v1 : Int32) (h : Mem) (r : Int32) (h' : Mem) (hf : f_X1_crowd N v0 v1 h = some (r, h')) : MetG l G yX1_crowd (.code yX1_crowd cX1_crowd 4 (Option.some Jvm.ClassFile.FieldType.int)) rm_X1_crowd [.ref (gB G + v0), .int v1] h (QcI G r h') 0 0 :=
  x_met (by decide) rfl (Nat.le_of_ble_eq_true rfl) (fun p e s m args below meth c ls X M hr hk hin hl => w_X1_crowd X hr hk N v0 v1 h hf _ _ ls M hl)
abbrev rm_X1_hasRoom : Room := { frames := 2, cells := 0, slots := 0, locals := 63 }
def f_X1_hasRoom (N : Nat) (v0 : Nat) (v1 : Int32) (h : Mem) : Option (Int32 × Mem) :=
  (ck h v0 1).bind fun _ =>
  b2 (f_X1_crowd N v0 v1 h) fun t4 h3 =>
  (gR h3 v0 1 3).bind fun t5 =>
  (lI 100 h3 t5 v1).bind fun t7 =>
  if t7 ≤ t4 then
    some ((0 : Int32), h3)
  else
    some ((1 : Int32), h3)
set_option maxRecDepth 100000 in
set_option maxHeartbeats 4000000 in
theorem w_X1_hasRoom {p : Program} {l : Launch} {e : Env} {s : State} {m : MethodId} {args : Array Value} {below : List Frame} {meth : Method} {c : Code} {G : Gx} {r : Int32} {h' : Mem} (X : CX G p s m args c cX1_hasRoom 2 RX1) (hr : meth.sig.returnType = (Option.some Jvm.ClassFile.FieldType.boolean)) (hk : meth.locks = false) (N : Nat) : ∀ (v0 : Nat) (v1 : Int32) (h : Mem), f_X1_hasRoom N v0 v1 h = some (r, h') → ∀ (H : Heap) (locs : List Loc) (ls : Array Slot), MS G s h H locs 0 → lv_has ls 2 [(0, .ref (gB G + v0)), (1, .int v1)] → W p l e (rm_X1_hasRoom) s m args below meth c H locs 0 0 (QI G below args s r h' 0 0) (F0 m 0 ls []) := by
  intro v0 v1 h hf H locs ls M hl
  rw [f_X1_hasRoom] at hf
  refine lv_aload_n X.1 X.2.1 dX1_hasRoom_0 rfl (lv_at hl 0 rfl) ?_
  refine lv_iload_n X.1 X.2.1 dX1_hasRoom_1 rfl (lv_at hl 1 rfl) ?_
  obtain ⟨⟨⟩, q1, hf⟩ := bnd hf
  obtain ⟨t4, h3, q2, hf⟩ := bnd2 hf
  refine x_callVi (As := [.int v1]) cf_X1_59 (c_X1_crowd l G N v0 v1 h _ _ q2) rfl ⟨rfl, rfl, Nat.le_of_ble_eq_true rfl, Nat.le_of_ble_eq_true rfl⟩ ⟨Nat.le_of_ble_eq_true rfl, Nat.le_of_ble_eq_true rfl⟩ X M (x_recv cls_X1 X M q1) rfl rfl hl.1 (Nat.le_of_ble_eq_true rfl) dX1_hasRoom_2 (fun H locs M => ?_)
  refine lv_aload_n X.1 X.2.1 dX1_hasRoom_5 rfl (lv_at hl 0 rfl) ?_
  obtain ⟨t5, q6, hf⟩ := bnd hf
  refine x_getr fl_X1_9 X M q6 dX1_hasRoom_6 ?_
  refine lv_iload_n X.1 X.2.1 dX1_hasRoom_9 rfl (lv_at hl 1 rfl) ?_
  obtain ⟨t7, q8, hf⟩ := bnd hf
  refine x_iald X M q8 dX1_hasRoom_10 ?_
  refine lv_icmp_ge (tgt := 18) X.1 X.2.1 dX1_hasRoom_11 (by decide) (fun c9 => ?_) (fun c9 => ?_)
  · have hf := ifp c9 hf
    refine lv_iconst (v := (0 : Int32)) X.1 X.2.1 dX1_hasRoom_18 (by decide) ?_
    obtain ⟨rfl, rfl⟩ := rt2 hf
    exact x_zret X hr hk rfl M dX1_hasRoom_19
  · have hf := ifn c9 hf
    refine lv_iconst (v := (1 : Int32)) X.1 X.2.1 dX1_hasRoom_14 (by decide) ?_
    refine lv_goto (tgt := 19) X.1 X.2.1 dX1_hasRoom_15 (by decide) ?_
    obtain ⟨rfl, rfl⟩ := rt2 hf
    exact x_zret X hr hk rfl M dX1_hasRoom_19
theorem c_X1_hasRoom (l : Launch) (G : Gx) (N : Nat) (v0 : Nat) (v1 : Int32) (h : Mem) (r : Int32) (h' : Mem) (hf : f_X1_hasRoom N v0 v1 h = some (r, h')) : MetG l G yX1_hasRoom (.code yX1_hasRoom cX1_hasRoom 2 (Option.some Jvm.ClassFile.FieldType.boolean)) rm_X1_hasRoom [.ref (gB G + v0), .int v1] h (QcI G r h') 0 0 :=
  x_met (by decide) rfl (Nat.le_of_ble_eq_true rfl) (fun p e s m args below meth c ls X M hr hk hin hl => w_X1_hasRoom X hr hk N v0 v1 h hf _ _ ls M hl)
abbrev rm_X1_join : Room := { frames := 1, cells := 0, slots := 0, locals := 40 }
def f_X1_join (N : Nat) (v0 : Nat) (v1 : Int32) (v2 : Int32) (v3 : Int32) (h : Mem) : Option (Int32 × Mem) :=
  (gI h v0 1 2).bind fun t1 =>
  if t1 < (8 : Int32) then
    (gR h v0 1 8).bind fun t4 =>
    (gI h v0 1 2).bind fun t6 =>
    (stI 100 h t4 t6 v1).bind fun h8 =>
    (gR h8 v0 1 9).bind fun t10 =>
    (gI h8 v0 1 2).bind fun t12 =>
    (stI 100 h8 t10 t12 v2).bind fun h14 =>
    (gR h14 v0 1 10).bind fun t16 =>
    (gI h14 v0 1 2).bind fun t18 =>
    (stI 100 h14 t16 t18 v3).bind fun h20 =>
    (gR h20 v0 1 11).bind fun t22 =>
    (gI h20 v0 1 2).bind fun t24 =>
    (stI 100 h20 t22 t24 v3).bind fun h26 =>
    (gI h26 v0 1 2).bind fun t28 =>
    (sI h26 v0 1 2 (t28 + (1 : Int32))).bind fun h30 =>
    some (t28, h30)
  else
    some ((-4 : Int32), h)
set_option maxRecDepth 100000 in
set_option maxHeartbeats 4000000 in
theorem w_X1_join {p : Program} {l : Launch} {e : Env} {s : State} {m : MethodId} {args : Array Value} {below : List Frame} {meth : Method} {c : Code} {G : Gx} {r : Int32} {h' : Mem} (X : CX G p s m args c cX1_join 4 RX1) (hr : meth.sig.returnType = (Option.some Jvm.ClassFile.FieldType.int)) (hk : meth.locks = false) (N : Nat) : ∀ (v0 : Nat) (v1 : Int32) (v2 : Int32) (v3 : Int32) (h : Mem), f_X1_join N v0 v1 v2 v3 h = some (r, h') → ∀ (H : Heap) (locs : List Loc) (ls : Array Slot), MS G s h H locs 0 → lv_has ls 4 [(0, .ref (gB G + v0)), (1, .int v1), (2, .int v2), (3, .int v3)] → W p l e (rm_X1_join) s m args below meth c H locs 0 0 (QI G below args s r h' 0 0) (F0 m 0 ls []) := by
  intro v0 v1 v2 v3 h hf H locs ls M hl
  rw [f_X1_join] at hf
  refine lv_aload_n X.1 X.2.1 dX1_join_0 rfl (lv_at hl 0 rfl) ?_
  obtain ⟨t1, q2, hf⟩ := bnd hf
  refine x_geti fl_X1_50 X M q2 dX1_join_1 ?_
  refine lv_bipush (v := (8 : Int32)) X.1 X.2.1 dX1_join_4 (by decide) ?_
  refine lv_icmp_lt (tgt := 12) X.1 X.2.1 dX1_join_6 (by decide) (fun c3 => ?_) (fun c3 => ?_)
  · have hf := ifp c3 hf
    refine lv_aload_n X.1 X.2.1 dX1_join_12 rfl (lv_at hl 0 rfl) ?_
    obtain ⟨t4, q5, hf⟩ := bnd hf
    refine x_getr fl_X1_27 X M q5 dX1_join_13 ?_
    refine lv_aload_n X.1 X.2.1 dX1_join_16 rfl (lv_at hl 0 rfl) ?_
    obtain ⟨t6, q7, hf⟩ := bnd hf
    refine x_geti fl_X1_50 X M q7 dX1_join_17 ?_
    refine lv_iload_n X.1 X.2.1 dX1_join_20 rfl (lv_at hl 1 rfl) ?_
    obtain ⟨h8, q9, hf⟩ := bnd hf
    refine x_iast X M q9 dX1_join_21 (fun H locs M => ?_)
    refine lv_aload_n X.1 X.2.1 dX1_join_22 rfl (lv_at hl 0 rfl) ?_
    obtain ⟨t10, q11, hf⟩ := bnd hf
    refine x_getr fl_X1_30 X M q11 dX1_join_23 ?_
    refine lv_aload_n X.1 X.2.1 dX1_join_26 rfl (lv_at hl 0 rfl) ?_
    obtain ⟨t12, q13, hf⟩ := bnd hf
    refine x_geti fl_X1_50 X M q13 dX1_join_27 ?_
    refine lv_iload_n X.1 X.2.1 dX1_join_30 rfl (lv_at hl 2 rfl) ?_
    obtain ⟨h14, q15, hf⟩ := bnd hf
    refine x_iast X M q15 dX1_join_31 (fun H locs M => ?_)
    refine lv_aload_n X.1 X.2.1 dX1_join_32 rfl (lv_at hl 0 rfl) ?_
    obtain ⟨t16, q17, hf⟩ := bnd hf
    refine x_getr fl_X1_33 X M q17 dX1_join_33 ?_
    refine lv_aload_n X.1 X.2.1 dX1_join_36 rfl (lv_at hl 0 rfl) ?_
    obtain ⟨t18, q19, hf⟩ := bnd hf
    refine x_geti fl_X1_50 X M q19 dX1_join_37 ?_
    refine lv_iload_n X.1 X.2.1 dX1_join_40 rfl (lv_at hl 3 rfl) ?_
    obtain ⟨h20, q21, hf⟩ := bnd hf
    refine x_iast X M q21 dX1_join_41 (fun H locs M => ?_)
    refine lv_aload_n X.1 X.2.1 dX1_join_42 rfl (lv_at hl 0 rfl) ?_
    obtain ⟨t22, q23, hf⟩ := bnd hf
    refine x_getr fl_X1_36 X M q23 dX1_join_43 ?_
    refine lv_aload_n X.1 X.2.1 dX1_join_46 rfl (lv_at hl 0 rfl) ?_
    obtain ⟨t24, q25, hf⟩ := bnd hf
    refine x_geti fl_X1_50 X M q25 dX1_join_47 ?_
    refine lv_iload_n X.1 X.2.1 dX1_join_50 rfl (lv_at hl 3 rfl) ?_
    obtain ⟨h26, q27, hf⟩ := bnd hf
    refine x_iast X M q27 dX1_join_51 (fun H locs M => ?_)
    refine lv_aload_n X.1 X.2.1 dX1_join_52 rfl (lv_at hl 0 rfl) ?_
    refine lv_dup X.1 X.2.1 dX1_join_53 rfl ?_
    obtain ⟨t28, q29, hf⟩ := bnd hf
    refine x_geti fl_X1_50 X M q29 dX1_join_54 ?_
    refine lv_dup_x1 X.1 X.2.1 dX1_join_57 rfl rfl ?_
    refine lv_iconst (v := (1 : Int32)) X.1 X.2.1 dX1_join_58 (by decide) ?_
    refine lv_iadd X.1 X.2.1 dX1_join_59 ?_
    obtain ⟨h30, q31, hf⟩ := bnd hf
    refine x_puti fl_X1_50 fp_X1_50.1 fp_X1_50.2 X M q31 dX1_join_60 (fun H locs M => ?_)
    obtain ⟨rfl, rfl⟩ := rt2 hf
    exact x_iret X hr hk M dX1_join_63
  · have hf := ifn c3 hf
    refine lv_bipush (v := (-4 : Int32)) X.1 X.2.1 dX1_join_9 (by decide) ?_
    obtain ⟨rfl, rfl⟩ := rt2 hf
    exact x_iret X hr hk M dX1_join_11
theorem c_X1_join (l : Launch) (G : Gx) (N : Nat) (v0 : Nat) (v1 : Int32) (v2 : Int32) (v3 : Int32) (h : Mem) (r : Int32) (h' : Mem) (hf : f_X1_join N v0 v1 v2 v3 h = some (r, h')) : MetG l G yX1_join (.code yX1_join cX1_join 4 (Option.some Jvm.ClassFile.FieldType.int)) rm_X1_join [.ref (gB G + v0), .int v1, .int v2, .int v3] h (QcI G r h') 0 0 :=
  x_met (by decide) rfl (Nat.le_of_ble_eq_true rfl) (fun p e s m args below meth c ls X M hr hk hin hl => w_X1_join X hr hk N v0 v1 v2 v3 h hf _ _ ls M hl)
abbrev rm_X1_isAsIfIn : Room := { frames := 1, cells := 0, slots := 0, locals := 40 }
def f_X1_isAsIfIn_15 (N : Nat) (h : Mem) : Option (Int32 × Mem) :=
  some ((1 : Int32), h)
set_option maxRecDepth 100000 in
set_option maxHeartbeats 4000000 in
theorem w_X1_isAsIfIn_15 {p : Program} {l : Launch} {e : Env} {s : State} {m : MethodId} {args : Array Value} {below : List Frame} {meth : Method} {c : Code} {G : Gx} {r : Int32} {h' : Mem} (X : CX G p s m args c cX1_isAsIfIn 4 RX1) (hr : meth.sig.returnType = (Option.some Jvm.ClassFile.FieldType.boolean)) (hk : meth.locks = false) (N : Nat) : ∀ (h : Mem), f_X1_isAsIfIn_15 N  h = some (r, h') → ∀ (H : Heap) (locs : List Loc) (ls : Array Slot), MS G s h H locs 0 → lv_has ls 4 [] → W p l e (rm_X1_isAsIfIn) s m args below meth c H locs 0 0 (QI G below args s r h' 0 0) (F0 m 15 ls []) := by
  intro  h hf H locs ls M hl
  rw [f_X1_isAsIfIn_15] at hf
  refine lv_iconst (v := (1 : Int32)) X.1 X.2.1 dX1_isAsIfIn_15 (by decide) ?_
  refine lv_goto (tgt := 20) X.1 X.2.1 dX1_isAsIfIn_16 (by decide) ?_
  obtain ⟨rfl, rfl⟩ := rt2 hf
  exact x_zret X hr hk rfl M dX1_isAsIfIn_20
def f_X1_isAsIfIn (N : Nat) (v0 : Nat) (v1 : Int32) (v2 : Int32) (v3 : Int32) (h : Mem) : Option (Int32 × Mem) :=
  (gR h v0 1 10).bind fun t1 =>
  (lI 100 h t1 v2).bind fun t3 =>
  if t3 = v1 then
    f_X1_isAsIfIn_15 N h
  else
    if v2 = v3 then
      f_X1_isAsIfIn_15 N h
    else
      some ((0 : Int32), h)
set_option maxRecDepth 100000 in
set_option maxHeartbeats 4000000 in
theorem w_X1_isAsIfIn {p : Program} {l : Launch} {e : Env} {s : State} {m : MethodId} {args : Array Value} {below : List Frame} {meth : Method} {c : Code} {G : Gx} {r : Int32} {h' : Mem} (X : CX G p s m args c cX1_isAsIfIn 4 RX1) (hr : meth.sig.returnType = (Option.some Jvm.ClassFile.FieldType.boolean)) (hk : meth.locks = false) (N : Nat) : ∀ (v0 : Nat) (v1 : Int32) (v2 : Int32) (v3 : Int32) (h : Mem), f_X1_isAsIfIn N v0 v1 v2 v3 h = some (r, h') → ∀ (H : Heap) (locs : List Loc) (ls : Array Slot), MS G s h H locs 0 → lv_has ls 4 [(0, .ref (gB G + v0)), (1, .int v1), (2, .int v2), (3, .int v3)] → W p l e (rm_X1_isAsIfIn) s m args below meth c H locs 0 0 (QI G below args s r h' 0 0) (F0 m 0 ls []) := by
  intro v0 v1 v2 v3 h hf H locs ls M hl
  rw [f_X1_isAsIfIn] at hf
  refine lv_aload_n X.1 X.2.1 dX1_isAsIfIn_0 rfl (lv_at hl 0 rfl) ?_
  obtain ⟨t1, q2, hf⟩ := bnd hf
  refine x_getr fl_X1_33 X M q2 dX1_isAsIfIn_1 ?_
  refine lv_iload_n X.1 X.2.1 dX1_isAsIfIn_4 rfl (lv_at hl 2 rfl) ?_
  obtain ⟨t3, q4, hf⟩ := bnd hf
  refine x_iald X M q4 dX1_isAsIfIn_5 ?_
  refine lv_iload_n X.1 X.2.1 dX1_isAsIfIn_6 rfl (lv_at hl 1 rfl) ?_
  refine lv_icmp_eq (tgt := 15) X.1 X.2.1 dX1_isAsIfIn_7 (by decide) (fun c5 => ?_) (fun c5 => ?_)
  · have hf := ifp c5 hf
    exact w_X1_isAsIfIn_15 X hr hk N h hf _ _ _ M (lv_sub hl [] rfl)
  · have hf := ifn c5 hf
    refine lv_iload_n X.1 X.2.1 dX1_isAsIfIn_10 rfl (lv_at hl 2 rfl) ?_
    refine lv_iload_n X.1 X.2.1 dX1_isAsIfIn_11 rfl (lv_at hl 3 rfl) ?_
    refine lv_icmp_ne (tgt := 19) X.1 X.2.1 dX1_isAsIfIn_12 (by decide) (fun c6 => ?_) (fun c6 => ?_)
    · have hf := ifn c6 hf
      refine lv_iconst (v := (0 : Int32)) X.1 X.2.1 dX1_isAsIfIn_19 (by decide) ?_
      obtain ⟨rfl, rfl⟩ := rt2 hf
      exact x_zret X hr hk rfl M dX1_isAsIfIn_20
    · have hf := ifp c6 hf
      exact w_X1_isAsIfIn_15 X hr hk N h hf _ _ _ M (lv_sub hl [] rfl)
theorem c_X1_isAsIfIn (l : Launch) (G : Gx) (N : Nat) (v0 : Nat) (v1 : Int32) (v2 : Int32) (v3 : Int32) (h : Mem) (r : Int32) (h' : Mem) (hf : f_X1_isAsIfIn N v0 v1 v2 v3 h = some (r, h')) : MetG l G yX1_isAsIfIn (.code yX1_isAsIfIn cX1_isAsIfIn 4 (Option.some Jvm.ClassFile.FieldType.boolean)) rm_X1_isAsIfIn [.ref (gB G + v0), .int v1, .int v2, .int v3] h (QcI G r h') 0 0 :=
  x_met (by decide) rfl (Nat.le_of_ble_eq_true rfl) (fun p e s m args below meth c ls X M hr hk hin hl => w_X1_isAsIfIn X hr hk N v0 v1 v2 v3 h hf _ _ ls M hl)
abbrev rm_X1_greatestIncome : Room := { frames := 2, cells := 0, slots := 0, locals := 63 }
def f_X1_greatestIncome_5 (N : Nat) (n : Nat) (v0 : Nat) (v1 : Int32) (v2 : Int32) (v3 : Int32) (v4 : Int32) (h : Mem) : Option (Int32 × Mem) := match n with
  | 0 => none
  | n + 1 =>
    (gI h v0 1 2).bind fun t1 =>
    if t1 ≤ v4 then
      some (v3, h)
    else
      (ck h v0 1).bind fun _ =>
      b2 (f_X1_isAsIfIn N v0 v1 v4 v2 h) fun t7 h6 =>
      if t7 = 0 then
        f_X1_greatestIncome_5 N n v0 v1 v2 v3 (v4 + 1) h6
      else
        (gR h6 v0 1 9).bind fun t9 =>
        (lI 100 h6 t9 v4).bind fun t11 =>
        if t11 ≤ v3 then
          f_X1_greatestIncome_5 N n v0 v1 v2 v3 (v4 + 1) h6
        else
          (gR h6 v0 1 9).bind fun t14 =>
          (lI 100 h6 t14 v4).bind fun t16 =>
          f_X1_greatestIncome_5 N n v0 v1 v2 t16 (v4 + 1) h6
set_option maxRecDepth 100000 in
set_option maxHeartbeats 4000000 in
theorem w_X1_greatestIncome_5 {p : Program} {l : Launch} {e : Env} {s : State} {m : MethodId} {args : Array Value} {below : List Frame} {meth : Method} {c : Code} {G : Gx} {r : Int32} {h' : Mem} (X : CX G p s m args c cX1_greatestIncome 5 RX1) (hr : meth.sig.returnType = (Option.some Jvm.ClassFile.FieldType.int)) (hk : meth.locks = false) (N : Nat) : ∀ (n : Nat) (v0 : Nat) (v1 : Int32) (v2 : Int32) (v3 : Int32) (v4 : Int32) (h : Mem), f_X1_greatestIncome_5 N n v0 v1 v2 v3 v4 h = some (r, h') → ∀ (H : Heap) (locs : List Loc) (ls : Array Slot), MS G s h H locs 0 → lv_has ls 5 [(0, .ref (gB G + v0)), (1, .int v1), (2, .int v2), (3, .int v3), (4, .int v4)] → W p l e (rm_X1_greatestIncome) s m args below meth c H locs 0 0 (QI G below args s r h' 0 0) (F0 m 5 ls []) := by
  intro n
  induction n with
  | zero =>
    intro v0 v1 v2 v3 v4 h hf
    cases hf
  | succ n ih =>
    intro v0 v1 v2 v3 v4 h hf H locs ls M hl
    rw [f_X1_greatestIncome_5] at hf
    refine lv_iload X.1 X.2.1 dX1_greatestIncome_5 (lv_at hl 4 rfl) ?_
    refine lv_aload_n X.1 X.2.1 dX1_greatestIncome_7 rfl (lv_at hl 0 rfl) ?_
    obtain ⟨t1, q2, hf⟩ := bnd hf
    refine x_geti fl_X1_50 X M q2 dX1_greatestIncome_8 ?_
    refine lv_icmp_ge (tgt := 50) X.1 X.2.1 dX1_greatestIncome_11 (by decide) (fun c3 => ?_) (fun c3 => ?_)
    · have hf := ifp c3 hf
      refine lv_iload_n X.1 X.2.1 dX1_greatestIncome_50 rfl (lv_at hl 3 rfl) ?_
      obtain ⟨rfl, rfl⟩ := rt2 hf
      exact x_iret X hr hk M dX1_greatestIncome_51
    · have hf := ifn c3 hf
      refine lv_aload_n X.1 X.2.1 dX1_greatestIncome_14 rfl (lv_at hl 0 rfl) ?_
      refine lv_iload_n X.1 X.2.1 dX1_greatestIncome_15 rfl (lv_at hl 1 rfl) ?_
      refine lv_iload X.1 X.2.1 dX1_greatestIncome_16 (lv_at hl 4 rfl) ?_
      refine lv_iload_n X.1 X.2.1 dX1_greatestIncome_18 rfl (lv_at hl 2 rfl) ?_
      obtain ⟨⟨⟩, q4, hf⟩ := bnd hf
      obtain ⟨t7, h6, q5, hf⟩ := bnd2 hf
      refine x_callVi (As := [.int v1, .int v4, .int v2]) cf_X1_72 (c_X1_isAsIfIn l G N v0 v1 v4 v2 h _ _ q5) rfl ⟨rfl, rfl, Nat.le_of_ble_eq_true rfl, Nat.le_of_ble_eq_true rfl⟩ ⟨Nat.le_of_ble_eq_true rfl, Nat.le_of_ble_eq_true rfl⟩ X M (x_recv cls_X1 X M q4) rfl rfl hl.1 (Nat.le_of_ble_eq_true rfl) dX1_greatestIncome_19 (fun H locs M => ?_)
      refine lv_if_eq (tgt := 44) X.1 X.2.1 dX1_greatestIncome_22 (by decide) (fun c8 => ?_) (fun c8 => ?_)
      · have hf := ifp c8 hf
        refine lv_iinc (v := (v4 + 1)) (lv' := [(4, .int (v4 + 1)), (0, .ref (gB G + v0)), (1, .int v1), (2, .int v2), (3, .int v3)]) X.1 X.2.1 dX1_greatestIncome_44 hl (k := 4) rfl (by first | rfl | decide) (by decide) rfl (fun ls hl => ?_)
        refine lv_goto (tgt := 5) X.1 X.2.1 dX1_greatestIncome_47 (by decide) ?_
        exact ih v0 v1 v2 v3 (v4 + 1) h6 hf _ _ _ M (lv_sub hl [1, 2, 3, 4, 0] rfl)
      · have hf := ifn c8 hf
        refine lv_aload_n X.1 X.2.1 dX1_greatestIncome_25 rfl (lv_at hl 0 rfl) ?_
        obtain ⟨t9, q10, hf⟩ := bnd hf
        refine x_getr fl_X1_30 X M q10 dX1_greatestIncome_26 ?_
        refine lv_iload X.1 X.2.1 dX1_greatestIncome_29 (lv_at hl 4 rfl) ?_
        obtain ⟨t11, q12, hf⟩ := bnd hf
        refine x_iald X M q12 dX1_greatestIncome_31 ?_
        refine lv_iload_n X.1 X.2.1 dX1_greatestIncome_32 rfl (lv_at hl 3 rfl) ?_
        refine lv_icmp_le (tgt := 44) X.1 X.2.1 dX1_greatestIncome_33 (by decide) (fun c13 => ?_) (fun c13 => ?_)
        · have hf := ifp c13 hf
          refine lv_iinc (v := (v4 + 1)) (lv' := [(4, .int (v4 + 1)), (0, .ref (gB G + v0)), (1, .int v1), (2, .int v2), (3, .int v3)]) X.1 X.2.1 dX1_greatestIncome_44 hl (k := 4) rfl (by first | rfl | decide) (by decide) rfl (fun ls hl => ?_)
          refine lv_goto (tgt := 5) X.1 X.2.1 dX1_greatestIncome_47 (by decide) ?_
          exact ih v0 v1 v2 v3 (v4 + 1) h6 hf _ _ _ M (lv_sub hl [1, 2, 3, 4, 0] rfl)
        · have hf := ifn c13 hf
          refine lv_aload_n X.1 X.2.1 dX1_greatestIncome_36 rfl (lv_at hl 0 rfl) ?_
          obtain ⟨t14, q15, hf⟩ := bnd hf
          refine x_getr fl_X1_30 X M q15 dX1_greatestIncome_37 ?_
          refine lv_iload X.1 X.2.1 dX1_greatestIncome_40 (lv_at hl 4 rfl) ?_
          obtain ⟨t16, q17, hf⟩ := bnd hf
          refine x_iald X M q17 dX1_greatestIncome_42 ?_
          refine lv_istore_n (lv' := [(3, .int t16), (0, .ref (gB G + v0)), (1, .int v1), (2, .int v2), (4, .int v4)]) X.1 X.2.1 dX1_greatestIncome_43 rfl hl (by decide) rfl (fun ls hl => ?_)
          refine lv_iinc (v := (v4 + 1)) (lv' := [(4, .int (v4 + 1)), (3, .int t16), (0, .ref (gB G + v0)), (1, .int v1), (2, .int v2)]) X.1 X.2.1 dX1_greatestIncome_44 hl (k := 4) rfl (by first | rfl | decide) (by decide) rfl (fun ls hl => ?_)
          refine lv_goto (tgt := 5) X.1 X.2.1 dX1_greatestIncome_47 (by decide) ?_
          exact ih v0 v1 v2 t16 (v4 + 1) h6 hf _ _ _ M (lv_sub hl [2, 3, 4, 1, 0] rfl)
def f_X1_greatestIncome (N : Nat) (v0 : Nat) (v1 : Int32) (v2 : Int32) (h : Mem) : Option (Int32 × Mem) :=
  f_X1_greatestIncome_5 N N v0 v1 v2 (0 : Int32) (0 : Int32) h
set_option maxRecDepth 100000 in
set_option maxHeartbeats 4000000 in
theorem w_X1_greatestIncome {p : Program} {l : Launch} {e : Env} {s : State} {m : MethodId} {args : Array Value} {below : List Frame} {meth : Method} {c : Code} {G : Gx} {r : Int32} {h' : Mem} (X : CX G p s m args c cX1_greatestIncome 5 RX1) (hr : meth.sig.returnType = (Option.some Jvm.ClassFile.FieldType.int)) (hk : meth.locks = false) (N : Nat) : ∀ (v0 : Nat) (v1 : Int32) (v2 : Int32) (h : Mem), f_X1_greatestIncome N v0 v1 v2 h = some (r, h') → ∀ (H : Heap) (locs : List Loc) (ls : Array Slot), MS G s h H locs 0 → lv_has ls 5 [(0, .ref (gB G + v0)), (1, .int v1), (2, .int v2)] → W p l e (rm_X1_greatestIncome) s m args below meth c H locs 0 0 (QI G below args s r h' 0 0) (F0 m 0 ls []) := by
  intro v0 v1 v2 h hf H locs ls M hl
  rw [f_X1_greatestIncome] at hf
  refine lv_iconst (v := (0 : Int32)) X.1 X.2.1 dX1_greatestIncome_0 (by decide) ?_
  refine lv_istore_n (lv' := [(3, .int (0 : Int32)), (0, .ref (gB G + v0)), (1, .int v1), (2, .int v2)]) X.1 X.2.1 dX1_greatestIncome_1 rfl hl (by decide) rfl (fun ls hl => ?_)
  refine lv_iconst (v := (0 : Int32)) X.1 X.2.1 dX1_greatestIncome_2 (by decide) ?_
  refine lv_istore (lv' := [(4, .int (0 : Int32)), (3, .int (0 : Int32)), (0, .ref (gB G + v0)), (1, .int v1), (2, .int v2)]) X.1 X.2.1 dX1_greatestIncome_3 hl (by decide) rfl (fun ls hl => ?_)
  exact w_X1_greatestIncome_5 X hr hk N N v0 v1 v2 (0 : Int32) (0 : Int32) h hf _ _ _ M (lv_sub hl [2, 3, 4, 1, 0] rfl)
theorem c_X1_greatestIncome (l : Launch) (G : Gx) (N : Nat) (v0 : Nat) (v1 : Int32) (v2 : Int32) (h : Mem) (r : Int32) (h' : Mem) (hf : f_X1_greatestIncome N v0 v1 v2 h = some (r, h')) : MetG l G yX1_greatestIncome (.code yX1_greatestIncome cX1_greatestIncome 5 (Option.some Jvm.ClassFile.FieldType.int)) rm_X1_greatestIncome [.ref (gB G + v0), .int v1, .int v2] h (QcI G r h') 0 0 :=
  x_met (by decide) rfl (Nat.le_of_ble_eq_true rfl) (fun p e s m args below meth c ls X M hr hk hin hl => w_X1_greatestIncome X hr hk N v0 v1 v2 h hf _ _ ls M hl)
abbrev rm_X1_costOf : Room := { frames := 1, cells := 0, slots := 0, locals := 40 }
def f_X1_costOf_10 (N : Nat) (n : Nat) (v0 : Nat) (v1 : Int32) (v2 : Int32) (v3 : Int32) (h : Mem) : Option (Int32 × Mem) := match n with
  | 0 => none
  | n + 1 =>
    if (3 : Int32) ≤ v3 then
      if 0 ≤ v2 then
        some (v2, h)
      else
        some ((0 : Int32), h)
    else
      (gR h v0 1 4).bind fun t3 =>
      (lI 100 h t3 ((v1 * (3 : Int32)) + v3)).bind fun t5 =>
      (gR h v0 1 0).bind fun t7 =>
      (gR h t7 3 2).bind fun t9 =>
      (lI 100 h t9 v3).bind fun t11 =>
      f_X1_costOf_10 N n v0 v1 (v2 + (t5 * t11)) (v3 + 1) h
set_option maxRecDepth 100000 in
set_option maxHeartbeats 4000000 in
theorem w_X1_costOf_10 {p : Program} {l : Launch} {e : Env} {s : State} {m : MethodId} {args : Array Value} {below : List Frame} {meth : Method} {c : Code} {G : Gx} {r : Int32} {h' : Mem} (X : CX G p s m args c cX1_costOf 4 RX1) (hr : meth.sig.returnType = (Option.some Jvm.ClassFile.FieldType.int)) (hk : meth.locks = false) (N : Nat) : ∀ (n : Nat) (v0 : Nat) (v1 : Int32) (v2 : Int32) (v3 : Int32) (h : Mem), f_X1_costOf_10 N n v0 v1 v2 v3 h = some (r, h') → ∀ (H : Heap) (locs : List Loc) (ls : Array Slot), MS G s h H locs 0 → lv_has ls 4 [(0, .ref (gB G + v0)), (1, .int v1), (2, .int v2), (3, .int v3)] → W p l e (rm_X1_costOf) s m args below meth c H locs 0 0 (QI G below args s r h' 0 0) (F0 m 10 ls []) := by
  intro n
  induction n with
  | zero =>
    intro v0 v1 v2 v3 h hf
    cases hf
  | succ n ih =>
    intro v0 v1 v2 v3 h hf H locs ls M hl
    rw [f_X1_costOf_10] at hf
    refine lv_iload_n X.1 X.2.1 dX1_costOf_10 rfl (lv_at hl 3 rfl) ?_
    refine lv_iconst (v := (3 : Int32)) X.1 X.2.1 dX1_costOf_11 (by decide) ?_
    refine lv_icmp_ge (tgt := 44) X.1 X.2.1 dX1_costOf_12 (by decide) (fun c1 => ?_) (fun c1 => ?_)
    · have hf := ifp c1 hf
      refine lv_iload_n X.1 X.2.1 dX1_costOf_44 rfl (lv_at hl 2 rfl) ?_
      refine lv_if_ge (tgt := 52) X.1 X.2.1 dX1_costOf_45 (by decide) (fun c2 => ?_) (fun c2 => ?_)
      · have hf := ifp c2 hf
        refine lv_iload_n X.1 X.2.1 dX1_costOf_52 rfl (lv_at hl 2 rfl) ?_
        obtain ⟨rfl, rfl⟩ := rt2 hf
        exact x_iret X hr hk M dX1_costOf_53
      · have hf := ifn c2 hf
        refine lv_iconst (v := (0 : Int32)) X.1 X.2.1 dX1_costOf_48 (by decide) ?_
        refine lv_goto (tgt := 53) X.1 X.2.1 dX1_costOf_49 (by decide) ?_
        obtain ⟨rfl, rfl⟩ := rt2 hf
        exact x_iret X hr hk M dX1_costOf_53
    · have hf := ifn c1 hf
      refine lv_iload_n X.1 X.2.1 dX1_costOf_15 rfl (lv_at hl 2 rfl) ?_
      refine lv_aload_n X.1 X.2.1 dX1_costOf_16 rfl (lv_at hl 0 rfl) ?_
      obtain ⟨t3, q4, hf⟩ := bnd hf
      refine x_getr fl_X1_15 X M q4 dX1_costOf_17 ?_
      refine lv_iload_n X.1 X.2.1 dX1_costOf_20 rfl (lv_at hl 1 rfl) ?_
      refine lv_iconst (v := (3 : Int32)) X.1 X.2.1 dX1_costOf_21 (by decide) ?_
      refine lv_imul X.1 X.2.1 dX1_costOf_22 ?_
      refine lv_iload_n X.1 X.2.1 dX1_costOf_23 rfl (lv_at hl 3 rfl) ?_
      refine lv_iadd X.1 X.2.1 dX1_costOf_24 ?_
      obtain ⟨t5, q6, hf⟩ := bnd hf
      refine x_iald X M q6 dX1_costOf_25 ?_
      refine lv_aload_n X.1 X.2.1 dX1_costOf_26 rfl (lv_at hl 0 rfl) ?_
      obtain ⟨t7, q8, hf⟩ := bnd hf
      refine x_getr fl_X1_42 X M q8 dX1_costOf_27 ?_
      obtain ⟨t9, q10, hf⟩ := bnd hf
      refine x_getr fl_X1_67 X M q10 dX1_costOf_30 ?_
      refine lv_iload_n X.1 X.2.1 dX1_costOf_33 rfl (lv_at hl 3 rfl) ?_
      obtain ⟨t11, q12, hf⟩ := bnd hf
      refine x_iald X M q12 dX1_costOf_34 ?_
      refine lv_imul X.1 X.2.1 dX1_costOf_35 ?_
      refine lv_iadd X.1 X.2.1 dX1_costOf_36 ?_
      refine lv_istore_n (lv' := [(2, .int (v2 + (t5 * t11))), (0, .ref (gB G + v0)), (1, .int v1), (3, .int v3)]) X.1 X.2.1 dX1_costOf_37 rfl hl (by decide) rfl (fun ls hl => ?_)
      refine lv_iinc (v := (v3 + 1)) (lv' := [(3, .int (v3 + 1)), (2, .int (v2 + (t5 * t11))), (0, .ref (gB G + v0)), (1, .int v1)]) X.1 X.2.1 dX1_costOf_38 hl (k := 3) rfl (by first | rfl | decide) (by decide) rfl (fun ls hl => ?_)
      refine lv_goto (tgt := 10) X.1 X.2.1 dX1_costOf_41 (by decide) ?_
      exact ih v0 v1 (v2 + (t5 * t11)) (v3 + 1) h hf _ _ _ M (lv_sub hl [2, 3, 1, 0] rfl)
def f_X1_costOf (N : Nat) (v0 : Nat) (v1 : Int32) (h : Mem) : Option (Int32 × Mem) :=
  (gR h v0 1 7).bind fun t1 =>
  (lI 100 h t1 v1).bind fun t3 =>
  f_X1_costOf_10 N N v0 v1 (-t3) (0 : Int32) h
set_option maxRecDepth 100000 in
set_option maxHeartbeats 4000000 in
theorem w_X1_costOf {p : Program} {l : Launch} {e : Env} {s : State} {m : MethodId} {args : Array Value} {below : List Frame} {meth : Method} {c : Code} {G : Gx} {r : Int32} {h' : Mem} (X : CX G p s m args c cX1_costOf 4 RX1) (hr : meth.sig.returnType = (Option.some Jvm.ClassFile.FieldType.int)) (hk : meth.locks = false) (N : Nat) : ∀ (v0 : Nat) (v1 : Int32) (h : Mem), f_X1_costOf N v0 v1 h = some (r, h') → ∀ (H : Heap) (locs : List Loc) (ls : Array Slot), MS G s h H locs 0 → lv_has ls 4 [(0, .ref (gB G + v0)), (1, .int v1)] → W p l e (rm_X1_costOf) s m args below meth c H locs 0 0 (QI G below args s r h' 0 0) (F0 m 0 ls []) := by
  intro v0 v1 h hf H locs ls M hl
  rw [f_X1_costOf] at hf
  refine lv_aload_n X.1 X.2.1 dX1_costOf_0 rfl (lv_at hl 0 rfl) ?_
  obtain ⟨t1, q2, hf⟩ := bnd hf
  refine x_getr fl_X1_24 X M q2 dX1_costOf_1 ?_
  refine lv_iload_n X.1 X.2.1 dX1_costOf_4 rfl (lv_at hl 1 rfl) ?_
  obtain ⟨t3, q4, hf⟩ := bnd hf
  refine x_iald X M q4 dX1_costOf_5 ?_
  refine lv_ineg X.1 X.2.1 dX1_costOf_6 ?_
  refine lv_istore_n (lv' := [(2, .int (-t3)), (0, .ref (gB G + v0)), (1, .int v1)]) X.1 X.2.1 dX1_costOf_7 rfl hl (by decide) rfl (fun ls hl => ?_)
  refine lv_iconst (v := (0 : Int32)) X.1 X.2.1 dX1_costOf_8 (by decide) ?_
  refine lv_istore_n (lv' := [(3, .int (0 : Int32)), (2, .int (-t3)), (0, .ref (gB G + v0)), (1, .int v1)]) X.1 X.2.1 dX1_costOf_9 rfl hl (by decide) rfl (fun ls hl => ?_)
  exact w_X1_costOf_10 X hr hk N N v0 v1 (-t3) (0 : Int32) h hf _ _ _ M (lv_sub hl [2, 3, 1, 0] rfl)
theorem c_X1_costOf (l : Launch) (G : Gx) (N : Nat) (v0 : Nat) (v1 : Int32) (h : Mem) (r : Int32) (h' : Mem) (hf : f_X1_costOf N v0 v1 h = some (r, h')) : MetG l G yX1_costOf (.code yX1_costOf cX1_costOf 4 (Option.some Jvm.ClassFile.FieldType.int)) rm_X1_costOf [.ref (gB G + v0), .int v1] h (QcI G r h') 0 0 :=
  x_met (by decide) rfl (Nat.le_of_ble_eq_true rfl) (fun p e s m args below meth c ls X M hr hk hin hl => w_X1_costOf X hr hk N v0 v1 h hf _ _ ls M hl)
abbrev rm_X1_share : Room := { frames := 1, cells := 0, slots := 0, locals := 40 }
def f_X1_share (N : Nat) (v0 : Nat) (v1 : Int32) (v2 : Int32) (h : Mem) : Option (Int32 × Mem) :=
  (gR h v0 1 0).bind fun t1 =>
  (gI h t1 3 4).bind fun t3 =>
  if t3 = 0 then
    some ((1 : Int32), h)
  else
  if t3 = 1 then
    (gR h v0 1 9).bind fun t7 =>
    (lI 100 h t7 v1).bind fun t9 =>
    some (t9, h)
  else
  (gR h v0 1 9).bind fun t11 =>
  (lI 100 h t11 v1).bind fun t13 =>
  if ((2 : Int32) * t13) < v2 then
    some ((0 : Int32), h)
  else
    some ((1 : Int32), h)
set_option maxRecDepth 100000 in
set_option maxHeartbeats 4000000 in
theorem w_X1_share {p : Program} {l : Launch} {e : Env} {s : State} {m : MethodId} {args : Array Value} {below : List Frame} {meth : Method} {c : Code} {G : Gx} {r : Int32} {h' : Mem} (X : CX G p s m args c cX1_share 3 RX1) (hr : meth.sig.returnType = (Option.some Jvm.ClassFile.FieldType.int)) (hk : meth.locks = false) (N : Nat) : ∀ (v0 : Nat) (v1 : Int32) (v2 : Int32) (h : Mem), f_X1_share N v0 v1 v2 h = some (r, h') → ∀ (H : Heap) (locs : List Loc) (ls : Array Slot), MS G s h H locs 0 → lv_has ls 3 [(0, .ref (gB G + v0)), (1, .int v1), (2, .int v2)] → W p l e (rm_X1_share) s m args below meth c H locs 0 0 (QI G below args s r h' 0 0) (F0 m 0 ls []) := by
  intro v0 v1 v2 h hf H locs ls M hl
  rw [f_X1_share] at hf
  refine lv_aload_n X.1 X.2.1 dX1_share_0 rfl (lv_at hl 0 rfl) ?_
  obtain ⟨t1, q2, hf⟩ := bnd hf
  refine x_getr fl_X1_42 X M q2 dX1_share_1 ?_
  obtain ⟨t3, q4, hf⟩ := bnd hf
  refine x_geti fl_X1_76 X M q4 dX1_share_4 ?_
  by_cases c5 : t3 = 0
  · have hf := ifp c5 hf
    refine x_lin (off := 25) (tgt := 32) X c5 dX1_share_7 (by decide) (by decide) (by decide) ?_
    refine lv_iconst (v := (1 : Int32)) X.1 X.2.1 dX1_share_32 (by decide) ?_
    obtain ⟨rfl, rfl⟩ := rt2 hf
    exact x_iret X hr hk M dX1_share_33
  have hf := ifn c5 hf
  by_cases c6 : t3 = 1
  · have hf := ifp c6 hf
    refine x_lin (off := 27) (tgt := 34) X c6 dX1_share_7 (by decide) (by decide) (by decide) ?_
    refine lv_aload_n X.1 X.2.1 dX1_share_34 rfl (lv_at hl 0 rfl) ?_
    obtain ⟨t7, q8, hf⟩ := bnd hf
    refine x_getr fl_X1_30 X M q8 dX1_share_35 ?_
    refine lv_iload_n X.1 X.2.1 dX1_share_38 rfl (lv_at hl 1 rfl) ?_
    obtain ⟨t9, q10, hf⟩ := bnd hf
    refine x_iald X M q10 dX1_share_39 ?_
    obtain ⟨rfl, rfl⟩ := rt2 hf
    exact x_iret X hr hk M dX1_share_40
  have hf := ifn c6 hf
  refine lv_lookup (off := 34) (tgt := 41) X.1 X.2.1 dX1_share_7 (by decide) ((lv_osw c5 rfl).trans ((lv_osw c6 rfl).trans (rfl))) (by decide) ?_
  refine lv_iconst (v := (2 : Int32)) X.1 X.2.1 dX1_share_41 (by decide) ?_
  refine lv_aload_n X.1 X.2.1 dX1_share_42 rfl (lv_at hl 0 rfl) ?_
  obtain ⟨t11, q12, hf⟩ := bnd hf
  refine x_getr fl_X1_30 X M q12 dX1_share_43 ?_
  refine lv_iload_n X.1 X.2.1 dX1_share_46 rfl (lv_at hl 1 rfl) ?_
  obtain ⟨t13, q14, hf⟩ := bnd hf
  refine x_iald X M q14 dX1_share_47 ?_
  refine lv_imul X.1 X.2.1 dX1_share_48 ?_
  refine lv_iload_n X.1 X.2.1 dX1_share_49 rfl (lv_at hl 2 rfl) ?_
  refine lv_icmp_lt (tgt := 57) X.1 X.2.1 dX1_share_50 (by decide) (fun c15 => ?_) (fun c15 => ?_)
  · have hf := ifp c15 hf
    refine lv_iconst (v := (0 : Int32)) X.1 X.2.1 dX1_share_57 (by decide) ?_
    obtain ⟨rfl, rfl⟩ := rt2 hf
    exact x_iret X hr hk M dX1_share_58
  · have hf := ifn c15 hf
    refine lv_iconst (v := (1 : Int32)) X.1 X.2.1 dX1_share_53 (by decide) ?_
    refine lv_goto (tgt := 58) X.1 X.2.1 dX1_share_54 (by decide) ?_
    obtain ⟨rfl, rfl⟩ := rt2 hf
    exact x_iret X hr hk M dX1_share_58
theorem c_X1_share (l : Launch) (G : Gx) (N : Nat) (v0 : Nat) (v1 : Int32) (v2 : Int32) (h : Mem) (r : Int32) (h' : Mem) (hf : f_X1_share N v0 v1 v2 h = some (r, h')) : MetG l G yX1_share (.code yX1_share cX1_share 3 (Option.some Jvm.ClassFile.FieldType.int)) rm_X1_share [.ref (gB G + v0), .int v1, .int v2] h (QcI G r h') 0 0 :=
  x_met (by decide) rfl (Nat.le_of_ble_eq_true rfl) (fun p e s m args below meth c ls X M hr hk hin hl => w_X1_share X hr hk N v0 v1 v2 h hf _ _ ls M hl)
abbrev rm_X1_sharesTogether : Room := { frames := 2, cells := 0, slots := 0, locals := 63 }
def f_X1_sharesTogether_6 (N : Nat) (n : Nat) (v0 : Nat) (v1 : Int32) (v2 : Int32) (v3 : Int32) (v4 : Int32) (v5 : Int32) (h : Mem) : Option (Int32 × Mem) := match n with
  | 0 => none
  | n + 1 =>
    (gI h v0 1 2).bind fun t1 =>
    if t1 ≤ v5 then
      some (v4, h)
    else
      (ck h v0 1).bind fun _ =>
      b2 (f_X1_isAsIfIn N v0 v1 v5 v2 h) fun t7 h6 =>
      if t7 = 0 then
        f_X1_sharesTogether_6 N n v0 v1 v2 v3 v4 (v5 + 1) h6
      else
        (ck h6 v0 1).bind fun _ =>
        b2 (f_X1_share N v0 v5 v3 h6) fun t12 h11 =>
        f_X1_sharesTogether_6 N n v0 v1 v2 v3 (v4 + t12) (v5 + 1) h11
set_option maxRecDepth 100000 in
set_option maxHeartbeats 4000000 in
theorem w_X1_sharesTogether_6 {p : Program} {l : Launch} {e : Env} {s : State} {m : MethodId} {args : Array Value} {below : List Frame} {meth : Method} {c : Code} {G : Gx} {r : Int32} {h' : Mem} (X : CX G p s m args c cX1_sharesTogether 6 RX1) (hr : meth.sig.returnType = (Option.some Jvm.ClassFile.FieldType.int)) (hk : meth.locks = false) (N : Nat) : ∀ (n : Nat) (v0 : Nat) (v1 : Int32) (v2 : Int32) (v3 : Int32) (v4 : Int32) (v5 : Int32) (h : Mem), f_X1_sharesTogether_6 N n v0 v1 v2 v3 v4 v5 h = some (r, h') → ∀ (H : Heap) (locs : List Loc) (ls : Array Slot), MS G s h H locs 0 → lv_has ls 6 [(0, .ref (gB G + v0)), (1, .int v1), (2, .int v2), (3, .int v3), (4, .int v4), (5, .int v5)] → W p l e (rm_X1_sharesTogether) s m args below meth c H locs 0 0 (QI G below args s r h' 0 0) (F0 m 6 ls []) := by
  intro n
  induction n with
  | zero =>
    intro v0 v1 v2 v3 v4 v5 h hf
    cases hf
  | succ n ih =>
    intro v0 v1 v2 v3 v4 v5 h hf H locs ls M hl
    rw [f_X1_sharesTogether_6] at hf
    refine lv_iload X.1 X.2.1 dX1_sharesTogether_6 (lv_at hl 5 rfl) ?_
    refine lv_aload_n X.1 X.2.1 dX1_sharesTogether_8 rfl (lv_at hl 0 rfl) ?_
    obtain ⟨t1, q2, hf⟩ := bnd hf
    refine x_geti fl_X1_50 X M q2 dX1_sharesTogether_9 ?_
    refine lv_icmp_ge (tgt := 44) X.1 X.2.1 dX1_sharesTogether_12 (by decide) (fun c3 => ?_) (fun c3 => ?_)
    · have hf := ifp c3 hf
      refine lv_iload X.1 X.2.1 dX1_sharesTogether_44 (lv_at hl 4 rfl) ?_
      obtain ⟨rfl, rfl⟩ := rt2 hf
      exact x_iret X hr hk M dX1_sharesTogether_46
    · have hf := ifn c3 hf
      refine lv_aload_n X.1 X.2.1 dX1_sharesTogether_15 rfl (lv_at hl 0 rfl) ?_
      refine lv_iload_n X.1 X.2.1 dX1_sharesTogether_16 rfl (lv_at hl 1 rfl) ?_
      refine lv_iload X.1 X.2.1 dX1_sharesTogether_17 (lv_at hl 5 rfl) ?_
      refine lv_iload_n X.1 X.2.1 dX1_sharesTogether_19 rfl (lv_at hl 2 rfl) ?_
      obtain ⟨⟨⟩, q4, hf⟩ := bnd hf
      obtain ⟨t7, h6, q5, hf⟩ := bnd2 hf
      refine x_callVi (As := [.int v1, .int v5, .int v2]) cf_X1_72 (c_X1_isAsIfIn l G N v0 v1 v5 v2 h _ _ q5) rfl ⟨rfl, rfl, Nat.le_of_ble_eq_true rfl, Nat.le_of_ble_eq_true rfl⟩ ⟨Nat.le_of_ble_eq_true rfl, Nat.le_of_ble_eq_true rfl⟩ X M (x_recv cls_X1 X M q4) rfl rfl hl.1 (Nat.le_of_ble_eq_true rfl) dX1_sharesTogether_20 (fun H locs M => ?_)
      refine lv_if_eq (tgt := 38) X.1 X.2.1 dX1_sharesTogether_23 (by decide) (fun c8 => ?_) (fun c8 => ?_)
      · have hf := ifp c8 hf
        refine lv_iinc (v := (v5 + 1)) (lv' := [(5, .int (v5 + 1)), (0, .ref (gB G + v0)), (1, .int v1), (2, .int v2), (3, .int v3), (4, .int v4)]) X.1 X.2.1 dX1_sharesTogether_38 hl (k := 5) rfl (by first | rfl | decide) (by decide) rfl (fun ls hl => ?_)
        refine lv_goto (tgt := 6) X.1 X.2.1 dX1_sharesTogether_41 (by decide) ?_
        exact ih v0 v1 v2 v3 v4 (v5 + 1) h6 hf _ _ _ M (lv_sub hl [1, 2, 3, 4, 5, 0] rfl)
      · have hf := ifn c8 hf
        refine lv_iload X.1 X.2.1 dX1_sharesTogether_26 (lv_at hl 4 rfl) ?_
        refine lv_aload_n X.1 X.2.1 dX1_sharesTogether_28 rfl (lv_at hl 0 rfl) ?_
        refine lv_iload X.1 X.2.1 dX1_sharesTogether_29 (lv_at hl 5 rfl) ?_
        refine lv_iload_n X.1 X.2.1 dX1_sharesTogether_31 rfl (lv_at hl 3 rfl) ?_
        obtain ⟨⟨⟩, q9, hf⟩ := bnd hf
        obtain ⟨t12, h11, q10, hf⟩ := bnd2 hf
        refine x_callVi (As := [.int v5, .int v3]) cf_X1_79 (c_X1_share l G N v0 v5 v3 h6 _ _ q10) rfl ⟨rfl, rfl, Nat.le_of_ble_eq_true rfl, Nat.le_of_ble_eq_true rfl⟩ ⟨Nat.le_of_ble_eq_true rfl, Nat.le_of_ble_eq_true rfl⟩ X M (x_recv cls_X1 X M q9) rfl rfl hl.1 (Nat.le_of_ble_eq_true rfl) dX1_sharesTogether_32 (fun H locs M => ?_)
        refine lv_iadd X.1 X.2.1 dX1_sharesTogether_35 ?_
        refine lv_istore (lv' := [(4, .int (v4 + t12)), (0, .ref (gB G + v0)), (1, .int v1), (2, .int v2), (3, .int v3), (5, .int v5)]) X.1 X.2.1 dX1_sharesTogether_36 hl (by decide) rfl (fun ls hl => ?_)
        refine lv_iinc (v := (v5 + 1)) (lv' := [(5, .int (v5 + 1)), (4, .int (v4 + t12)), (0, .ref (gB G + v0)), (1, .int v1), (2, .int v2), (3, .int v3)]) X.1 X.2.1 dX1_sharesTogether_38 hl (k := 5) rfl (by first | rfl | decide) (by decide) rfl (fun ls hl => ?_)
        refine lv_goto (tgt := 6) X.1 X.2.1 dX1_sharesTogether_41 (by decide) ?_
        exact ih v0 v1 v2 v3 (v4 + t12) (v5 + 1) h11 hf _ _ _ M (lv_sub hl [2, 3, 4, 5, 1, 0] rfl)
def f_X1_sharesTogether (N : Nat) (v0 : Nat) (v1 : Int32) (v2 : Int32) (v3 : Int32) (h : Mem) : Option (Int32 × Mem) :=
  f_X1_sharesTogether_6 N N v0 v1 v2 v3 (0 : Int32) (0 : Int32) h
set_option maxRecDepth 100000 in
set_option maxHeartbeats 4000000 in
theorem w_X1_sharesTogether {p : Program} {l : Launch} {e : Env} {s : State} {m : MethodId} {args : Array Value} {below : List Frame} {meth : Method} {c : Code} {G : Gx} {r : Int32} {h' : Mem} (X : CX G p s m args c cX1_sharesTogether 6 RX1) (hr : meth.sig.returnType = (Option.some Jvm.ClassFile.FieldType.int)) (hk : meth.locks = false) (N : Nat) : ∀ (v0 : Nat) (v1 : Int32) (v2 : Int32) (v3 : Int32) (h : Mem), f_X1_sharesTogether N v0 v1 v2 v3 h = some (r, h') → ∀ (H : Heap) (locs : List Loc) (ls : Array Slot), MS G s h H locs 0 → lv_has ls 6 [(0, .ref (gB G + v0)), (1, .int v1), (2, .int v2), (3, .int v3)] → W p l e (rm_X1_sharesTogether) s m args below meth c H locs 0 0 (QI G below args s r h' 0 0) (F0 m 0 ls []) := by
  intro v0 v1 v2 v3 h hf H locs ls M hl
  rw [f_X1_sharesTogether] at hf
  refine lv_iconst (v := (0 : Int32)) X.1 X.2.1 dX1_sharesTogether_0 (by decide) ?_
  refine lv_istore (lv' := [(4, .int (0 : Int32)), (0, .ref (gB G + v0)), (1, .int v1), (2, .int v2), (3, .int v3)]) X.1 X.2.1 dX1_sharesTogether_1 hl (by decide) rfl (fun ls hl => ?_)
  refine lv_iconst (v := (0 : Int32)) X.1 X.2.1 dX1_sharesTogether_3 (by decide) ?_
  refine lv_istore (lv' := [(5, .int (0 : Int32)), (4, .int (0 : Int32)), (0, .ref (gB G + v0)), (1, .int v1), (2, .int v2), (3, .int v3)]) X.1 X.2.1 dX1_sharesTogether_4 hl (by decide) rfl (fun ls hl => ?_)
  exact w_X1_sharesTogether_6 X hr hk N N v0 v1 v2 v3 (0 : Int32) (0 : Int32) h hf _ _ _ M (lv_sub hl [2, 3, 4, 5, 1, 0] rfl)
theorem c_X1_sharesTogether (l : Launch) (G : Gx) (N : Nat) (v0 : Nat) (v1 : Int32) (v2 : Int32) (v3 : Int32) (h : Mem) (r : Int32) (h' : Mem) (hf : f_X1_sharesTogether N v0 v1 v2 v3 h = some (r, h')) : MetG l G yX1_sharesTogether (.code yX1_sharesTogether cX1_sharesTogether 6 (Option.some Jvm.ClassFile.FieldType.int)) rm_X1_sharesTogether [.ref (gB G + v0), .int v1, .int v2, .int v3] h (QcI G r h') 0 0 :=
  x_met (by decide) rfl (Nat.le_of_ble_eq_true rfl) (fun p e s m args below meth c ls X M hr hk hin hl => w_X1_sharesTogether X hr hk N v0 v1 v2 v3 h hf _ _ ls M hl)
abbrev rm_X1_cutPart : Room := { frames := 1, cells := 0, slots := 0, locals := 40 }
def f_X1_cutPart (N : Nat) (v0 : Int32) (v1 : Int32) (v2 : Int32) (h : Mem) : Option (Int32 × Mem) :=
  if v2 = 0 then
    some ((0 : Int32), h)
  else
    if v2 = 0 then none else
    some (((v0 * v1) / v2), h)
set_option maxRecDepth 100000 in
set_option maxHeartbeats 4000000 in
theorem w_X1_cutPart {p : Program} {l : Launch} {e : Env} {s : State} {m : MethodId} {args : Array Value} {below : List Frame} {meth : Method} {c : Code} {G : Gx} {r : Int32} {h' : Mem} (X : CX G p s m args c cX1_cutPart 3 RX1) (hr : meth.sig.returnType = (Option.some Jvm.ClassFile.FieldType.int)) (hk : meth.locks = false) (N : Nat) : ∀ (v0 : Int32) (v1 : Int32) (v2 : Int32) (h : Mem), f_X1_cutPart N v0 v1 v2 h = some (r, h') → ∀ (H : Heap) (locs : List Loc) (ls : Array Slot), MS G s h H locs 0 → lv_has ls 3 [(0, .int v0), (1, .int v1), (2, .int v2)] → W p l e (rm_X1_cutPart) s m args below meth c H locs 0 0 (QI G below args s r h' 0 0) (F0 m 0 ls []) := by
  intro v0 v1 v2 h hf H locs ls M hl
  rw [f_X1_cutPart] at hf
  refine lv_iload_n X.1 X.2.1 dX1_cutPart_0 rfl (lv_at hl 2 rfl) ?_
  refine lv_if_ne (tgt := 8) X.1 X.2.1 dX1_cutPart_1 (by decide) (fun c1 => ?_) (fun c1 => ?_)
  · have hf := ifn c1 hf
    refine lv_iload_n X.1 X.2.1 dX1_cutPart_8 rfl (lv_at hl 0 rfl) ?_
    refine lv_iload_n X.1 X.2.1 dX1_cutPart_9 rfl (lv_at hl 1 rfl) ?_
    refine lv_imul X.1 X.2.1 dX1_cutPart_10 ?_
    refine lv_iload_n X.1 X.2.1 dX1_cutPart_11 rfl (lv_at hl 2 rfl) ?_
    by_cases c2 : v2 = 0
    · have hf := ifp c2 hf
      cases hf
    have hf := ifn c2 hf
    refine lv_idiv X.1 X.2.1 dX1_cutPart_12 c2 ?_
    obtain ⟨rfl, rfl⟩ := rt2 hf
    exact x_iret X hr hk M dX1_cutPart_13
  · have hf := ifp c1 hf
    refine lv_iconst (v := (0 : Int32)) X.1 X.2.1 dX1_cutPart_4 (by decide) ?_
    refine lv_goto (tgt := 13) X.1 X.2.1 dX1_cutPart_5 (by decide) ?_
    obtain ⟨rfl, rfl⟩ := rt2 hf
    exact x_iret X hr hk M dX1_cutPart_13
theorem c_X1_cutPart (l : Launch) (G : Gx) (N : Nat) (v0 : Int32) (v1 : Int32) (v2 : Int32) (h : Mem) (r : Int32) (h' : Mem) (hf : f_X1_cutPart N v0 v1 v2 h = some (r, h')) : MetG l G yX1_cutPart (.code yX1_cutPart cX1_cutPart 3 (Option.some Jvm.ClassFile.FieldType.int)) rm_X1_cutPart [.int v0, .int v1, .int v2] h (QcI G r h') 0 0 :=
  x_met (by decide) rfl (Nat.le_of_ble_eq_true rfl) (fun p e s m args below meth c ls X M hr hk hin hl => w_X1_cutPart X hr hk N v0 v1 v2 h hf _ _ ls M hl)
abbrev rm_X1_duesOf : Room := { frames := 3, cells := 0, slots := 0, locals := 88 }
def f_X1_duesOf (N : Nat) (v0 : Nat) (v1 : Int32) (v2 : Int32) (h : Mem) : Option (Int32 × Mem) :=
  (ck h v0 1).bind fun _ =>
  b2 (f_X1_greatestIncome N v0 v2 v1 h) fun t4 h3 =>
  (ck h3 v0 1).bind fun _ =>
  b2 (f_X1_costOf N v0 v2 h3) fun t8 h7 =>
  (ck h7 v0 1).bind fun _ =>
  b2 (f_X1_share N v0 v1 t4 h7) fun t12 h11 =>
  (ck h11 v0 1).bind fun _ =>
  b2 (f_X1_sharesTogether N v0 v2 v1 t4 h11) fun t16 h15 =>
  b2 (f_X1_cutPart N t8 t12 t16 h15) fun t19 h18 =>
  some (t19, h18)
set_option maxRecDepth 100000 in
set_option maxHeartbeats 4000000 in
theorem w_X1_duesOf {p : Program} {l : Launch} {e : Env} {s : State} {m : MethodId} {args : Array Value} {below : List Frame} {meth : Method} {c : Code} {G : Gx} {r : Int32} {h' : Mem} (X : CX G p s m args c cX1_duesOf 4 RX1) (hr : meth.sig.returnType = (Option.some Jvm.ClassFile.FieldType.int)) (hk : meth.locks = false) (N : Nat) : ∀ (v0 : Nat) (v1 : Int32) (v2 : Int32) (h : Mem), f_X1_duesOf N v0 v1 v2 h = some (r, h') → ∀ (H : Heap) (locs : List Loc) (ls : Array Slot), MS G s h H locs 0 → lv_has ls 4 [(0, .ref (gB G + v0)), (1, .int v1), (2, .int v2)] → W p l e (rm_X1_duesOf) s m args below meth c H locs 0 0 (QI G below args s r h' 0 0) (F0 m 0 ls []) := by
  intro v0 v1 v2 h hf H locs ls M hl
  rw [f_X1_duesOf] at hf
  refine lv_aload_n X.1 X.2.1 dX1_duesOf_0 rfl (lv_at hl 0 rfl) ?_
  refine lv_iload_n X.1 X.2.1 dX1_duesOf_1 rfl (lv_at hl 2 rfl) ?_
  refine lv_iload_n X.1 X.2.1 dX1_duesOf_2 rfl (lv_at hl 1 rfl) ?_
  obtain ⟨⟨⟩, q1, hf⟩ := bnd hf
  obtain ⟨t4, h3, q2, hf⟩ := bnd2 hf
  refine x_callVi (As := [.int v2, .int v1]) cf_X1_83 (c_X1_greatestIncome l G N v0 v2 v1 h _ _ q2) rfl ⟨rfl, rfl, Nat.le_of_ble_eq_true rfl, Nat.le_of_ble_eq_true rfl⟩ ⟨Nat.le_of_ble_eq_true rfl, Nat.le_of_ble_eq_true rfl⟩ X M (x_recv cls_X1 X M q1) rfl rfl hl.1 (Nat.le_of_ble_eq_true rfl) dX1_duesOf_3 (fun H locs M => ?_)
  refine lv_istore_n (lv' := [(3, .int t4), (0, .ref (gB G + v0)), (1, .int v1), (2, .int v2)]) X.1 X.2.1 dX1_duesOf_6 rfl hl (by decide) rfl (fun ls hl => ?_)
  refine lv_aload_n X.1 X.2.1 dX1_duesOf_7 rfl (lv_at hl 1 rfl) ?_
  refine lv_iload_n X.1 X.2.1 dX1_duesOf_8 rfl (lv_at hl 3 rfl) ?_
  obtain ⟨⟨⟩, q5, hf⟩ := bnd hf
  obtain ⟨t8, h7, q6, hf⟩ := bnd2 hf
  refine x_callVi (As := [.int v2]) cf_X1_86 (c_X1_costOf l G N v0 v2 h3 _ _ q6) rfl ⟨rfl, rfl, Nat.le_of_ble_eq_true rfl, Nat.le_of_ble_eq_true rfl⟩ ⟨Nat.le_of_ble_eq_true rfl, Nat.le_of_ble_eq_true rfl⟩ X M (x_recv cls_X1 X M q5) rfl rfl hl.1 (Nat.le_of_ble_eq_true rfl) dX1_duesOf_9 (fun H locs M => ?_)
  refine lv_aload_n X.1 X.2.1 dX1_duesOf_12 rfl (lv_at hl 1 rfl) ?_
  refine lv_iload_n X.1 X.2.1 dX1_duesOf_13 rfl (lv_at hl 2 rfl) ?_
  refine lv_iload_n X.1 X.2.1 dX1_duesOf_14 rfl (lv_at hl 0 rfl) ?_
  obtain ⟨⟨⟩, q9, hf⟩ := bnd hf
  obtain ⟨t12, h11, q10, hf⟩ := bnd2 hf
  refine x_callVi (As := [.int v1, .int t4]) cf_X1_79 (c_X1_share l G N v0 v1 t4 h7 _ _ q10) rfl ⟨rfl, rfl, Nat.le_of_ble_eq_true rfl, Nat.le_of_ble_eq_true rfl⟩ ⟨Nat.le_of_ble_eq_true rfl, Nat.le_of_ble_eq_true rfl⟩ X M (x_recv cls_X1 X M q9) rfl rfl hl.1 (Nat.le_of_ble_eq_true rfl) dX1_duesOf_15 (fun H locs M => ?_)
  refine lv_aload_n X.1 X.2.1 dX1_duesOf_18 rfl (lv_at hl 1 rfl) ?_
  refine lv_iload_n X.1 X.2.1 dX1_duesOf_19 rfl (lv_at hl 3 rfl) ?_
  refine lv_iload_n X.1 X.2.1 dX1_duesOf_20 rfl (lv_at hl 2 rfl) ?_
  refine lv_iload_n X.1 X.2.1 dX1_duesOf_21 rfl (lv_at hl 0 rfl) ?_
  obtain ⟨⟨⟩, q13, hf⟩ := bnd hf
  obtain ⟨t16, h15, q14, hf⟩ := bnd2 hf
  refine x_callVi (As := [.int v2, .int v1, .int t4]) cf_X1_89 (c_X1_sharesTogether l G N v0 v2 v1 t4 h11 _ _ q14) rfl ⟨rfl, rfl, Nat.le_of_ble_eq_true rfl, Nat.le_of_ble_eq_true rfl⟩ ⟨Nat.le_of_ble_eq_true rfl, Nat.le_of_ble_eq_true rfl⟩ X M (x_recv cls_X1 X M q13) rfl rfl hl.1 (Nat.le_of_ble_eq_true rfl) dX1_duesOf_22 (fun H locs M => ?_)
  obtain ⟨t19, h18, q17, hf⟩ := bnd2 hf
  refine x_callSi (As := [.int t8, .int t12, .int t16]) cf_X1_93 (c_X1_cutPart l G N t8 t12 t16 h15 _ _ q17) rfl ⟨rfl, rfl, Nat.le_of_ble_eq_true rfl, Nat.le_of_ble_eq_true rfl⟩ ⟨Nat.le_of_ble_eq_true rfl, Nat.le_of_ble_eq_true rfl⟩ X M rfl rfl hl.1 (Nat.le_of_ble_eq_true rfl) dX1_duesOf_25 (fun H locs M => ?_)
  obtain ⟨rfl, rfl⟩ := rt2 hf
  exact x_iret X hr hk M dX1_duesOf_28
theorem c_X1_duesOf (l : Launch) (G : Gx) (N : Nat) (v0 : Nat) (v1 : Int32) (v2 : Int32) (h : Mem) (r : Int32) (h' : Mem) (hf : f_X1_duesOf N v0 v1 v2 h = some (r, h')) : MetG l G yX1_duesOf (.code yX1_duesOf cX1_duesOf 4 (Option.some Jvm.ClassFile.FieldType.int)) rm_X1_duesOf [.ref (gB G + v0), .int v1, .int v2] h (QcI G r h') 0 0 :=
  x_met (by decide) rfl (Nat.le_of_ble_eq_true rfl) (fun p e s m args below meth c ls X M hr hk hin hl => w_X1_duesOf X hr hk N v0 v1 v2 h hf _ _ ls M hl)
abbrev rm_X1_worthOf : Room := { frames := 4, cells := 0, slots := 0, locals := 111 }
def f_X1_worthOf_70 (N : Nat) (n : Nat) (v0 : Nat) (v1 : Int32) (v2 : Int32) (v3 : Int32) (v4 : Int32) (v5 : Int32) (h : Mem) : Option (Int32 × Mem) := match n with
  | 0 => none
  | n + 1 =>
    (gI h v0 1 2).bind fun t1 =>
    if t1 ≤ v5 then
      (gR h v0 1 0).bind fun t4 =>
      (gR h v0 1 8).bind fun t6 =>
      (lI 100 h t6 v1).bind fun t8 =>
      (gR h v0 1 9).bind fun t10 =>
      (lI 100 h t10 v1).bind fun t12 =>
      (ck h t4 3).bind fun _ =>
      b2 (f_X3_shunned N t4 t8 t12 v2 v4 h) fun t17 h16 =>
      (gR h16 v0 1 0).bind fun t18 =>
      (gI h16 t18 3 3).bind fun t20 =>
      (gR h16 v0 1 11).bind fun t22 =>
      (lI 100 h16 t22 v1).bind fun t24 =>
      some (((v3 - t17) - (t20 * (if 0 ≤ (t24 - v2) then (t24 - v2) else 0 - (t24 - v2)))), h16)
    else
      if v5 = v1 then
        f_X1_worthOf_70 N n v0 v1 v2 v3 v4 (v5 + 1) h
      else
        (gR h v0 1 10).bind fun t27 =>
        (lI 100 h t27 v5).bind fun t29 =>
        if t29 = v2 then
          (gR h v0 1 0).bind fun t32 =>
          (gR h t32 3 1).bind fun t34 =>
          (gR h v0 1 8).bind fun t36 =>
          (lI 100 h t36 v1).bind fun t38 =>
          (gR h v0 1 8).bind fun t40 =>
          (lI 100 h t40 v5).bind fun t42 =>
          (lI 100 h t34 ((t38 * (4 : Int32)) + t42)).bind fun t44 =>
          f_X1_worthOf_70 N n v0 v1 v2 (v3 + t44) (v4 + 1) (v5 + 1) h
        else
          f_X1_worthOf_70 N n v0 v1 v2 v3 v4 (v5 + 1) h
set_option maxRecDepth 100000 in
set_option maxHeartbeats 4000000 in
theorem w_X1_worthOf_70 {p : Program} {l : Launch} {e : Env} {s : State} {m : MethodId} {args : Array Value} {below : List Frame} {meth : Method} {c : Code} {G : Gx} {r : Int32} {h' : Mem} (X : CX G p s m args c cX1_worthOf 6 RX1) (hr : meth.sig.returnType = (Option.some Jvm.ClassFile.FieldType.int)) (hk : meth.locks = false) (N : Nat) : ∀ (n : Nat) (v0 : Nat) (v1 : Int32) (v2 : Int32) (v3 : Int32) (v4 : Int32) (v5 : Int32) (h : Mem), f_X1_worthOf_70 N n v0 v1 v2 v3 v4 v5 h = some (r, h') → ∀ (H : Heap) (locs : List Loc) (ls : Array Slot), MS G s h H locs 0 → lv_has ls 6 [(0, .ref (gB G + v0)), (1, .int v1), (2, .int v2), (3, .int v3), (4, .int v4), (5, .int v5)] → W p l e (rm_X1_worthOf) s m args below meth c H locs 0 0 (QI G below args s r h' 0 0) (F0 m 70 ls []) := by
  intro n
  induction n with
  | zero =>
    intro v0 v1 v2 v3 v4 v5 h hf
    cases hf
  | succ n ih =>
    intro v0 v1 v2 v3 v4 v5 h hf H locs ls M hl
    rw [f_X1_worthOf_70] at hf
    refine lv_iload X.1 X.2.1 dX1_worthOf_70 (lv_at hl 5 rfl) ?_
    refine lv_aload_n X.1 X.2.1 dX1_worthOf_72 rfl (lv_at hl 0 rfl) ?_
    obtain ⟨t1, q2, hf⟩ := bnd hf
    refine x_geti fl_X1_50 X M q2 dX1_worthOf_73 ?_
    refine lv_icmp_ge (tgt := 132) X.1 X.2.1 dX1_worthOf_76 (by decide) (fun c3 => ?_) (fun c3 => ?_)
    · have hf := ifp c3 hf
      refine lv_iload_n X.1 X.2.1 dX1_worthOf_132 rfl (lv_at hl 3 rfl) ?_
      refine lv_aload_n X.1 X.2.1 dX1_worthOf_133 rfl (lv_at hl 0 rfl) ?_
      obtain ⟨t4, q5, hf⟩ := bnd hf
      refine x_getr fl_X1_42 X M q5 dX1_worthOf_134 ?_
      refine lv_aload_n X.1 X.2.1 dX1_worthOf_137 rfl (lv_at hl 0 rfl) ?_
      obtain ⟨t6, q7, hf⟩ := bnd hf
      refine x_getr fl_X1_27 X M q7 dX1_worthOf_138 ?_
      refine lv_iload_n X.1 X.2.1 dX1_worthOf_141 rfl (lv_at hl 1 rfl) ?_
      obtain ⟨t8, q9, hf⟩ := bnd hf
      refine x_iald X M q9 dX1_worthOf_142 ?_
      refine lv_aload_n X.1 X.2.1 dX1_worthOf_143 rfl (lv_at hl 0 rfl) ?_
      obtain ⟨t10, q11, hf⟩ := bnd hf
      refine x_getr fl_X1_30 X M q11 dX1_worthOf_144 ?_
      refine lv_iload_n X.1 X.2.1 dX1_worthOf_147 rfl (lv_at hl 1 rfl) ?_
      obtain ⟨t12, q13, hf⟩ := bnd hf
      refine x_iald X M q13 dX1_worthOf_148 ?_
      refine lv_iload_n X.1 X.2.1 dX1_worthOf_149 rfl (lv_at hl 2 rfl) ?_
      refine lv_iload X.1 X.2.1 dX1_worthOf_150 (lv_at hl 4 rfl) ?_
      obtain ⟨⟨⟩, q14, hf⟩ := bnd hf
      obtain ⟨t17, h16, q15, hf⟩ := bnd2 hf
      refine x_callVi (As := [.int t8, .int t12, .int v2, .int v4]) cf_X1_105 (c_X3_shunned l G N t4 t8 t12 v2 v4 h _ _ q15) rfl ⟨rfl, rfl, Nat.le_of_ble_eq_true rfl, Nat.le_of_ble_eq_true rfl⟩ ⟨Nat.le_of_ble_eq_true rfl, Nat.le_of_ble_eq_true rfl⟩ X M (x_recv cls_X3 X M q14) rfl rfl hl.1 (Nat.le_of_ble_eq_true rfl) dX1_worthOf_152 (fun H locs M => ?_)
      refine lv_isub X.1 X.2.1 dX1_worthOf_155 ?_
      refine lv_istore_n (lv' := [(3, .int (v3 - t17)), (0, .ref (gB G + v0)), (1, .int v1), (2, .int v2), (4, .int v4), (5, .int v5)]) X.1 X.2.1 dX1_worthOf_156 rfl hl (by decide) rfl (fun ls hl => ?_)
      refine lv_iload_n X.1 X.2.1 dX1_worthOf_157 rfl (lv_at hl 0 rfl) ?_
      refine lv_aload_n X.1 X.2.1 dX1_worthOf_158 rfl (lv_at hl 1 rfl) ?_
      obtain ⟨t18, q19, hf⟩ := bnd hf
      refine x_getr fl_X1_42 X M q19 dX1_worthOf_159 ?_
      obtain ⟨t20, q21, hf⟩ := bnd hf
      refine x_geti fl_X1_109 X M q21 dX1_worthOf_162 ?_
      refine lv_aload_n X.1 X.2.1 dX1_worthOf_165 rfl (lv_at hl 1 rfl) ?_
      obtain ⟨t22, q23, hf⟩ := bnd hf
      refine x_getr fl_X1_36 X M q23 dX1_worthOf_166 ?_
      refine lv_iload_n X.1 X.2.1 dX1_worthOf_169 rfl (lv_at hl 2 rfl) ?_
      obtain ⟨t24, q25, hf⟩ := bnd hf
      refine x_iald X M q25 dX1_worthOf_170 ?_
      refine lv_iload_n X.1 X.2.1 dX1_worthOf_171 rfl (lv_at hl 3 rfl) ?_
      refine lv_isub X.1 X.2.1 dX1_worthOf_172 ?_
      refine va_mabs X.1 X.2.1 (X.2.2.1.trans hl.1.symm) X.2.2.2.1 (X.2.2.2.2.1 _ k_377) (X.2.2.2.2.1 _ k_378) (X.2.2.2.2.1 _ k_11) (X.2.2.2.2.1 _ k_379) (Nat.le_of_ble_eq_true rfl) (Nat.le_of_ble_eq_true rfl) (Nat.le_of_ble_eq_true rfl) (Nat.le_of_ble_eq_true rfl) dX1_worthOf_173 ?_
      refine lv_imul X.1 X.2.1 dX1_worthOf_176 ?_
      refine lv_isub X.1 X.2.1 dX1_worthOf_177 ?_
      obtain ⟨rfl, rfl⟩ := rt2 hf
      exact x_iret X hr hk M dX1_worthOf_178
    · have hf := ifn c3 hf
      refine lv_iload X.1 X.2.1 dX1_worthOf_79 (lv_at hl 5 rfl) ?_
      refine lv_iload_n X.1 X.2.1 dX1_worthOf_81 rfl (lv_at hl 1 rfl) ?_
      refine lv_icmp_eq (tgt := 126) X.1 X.2.1 dX1_worthOf_82 (by decide) (fun c26 => ?_) (fun c26 => ?_)
      · have hf := ifp c26 hf
        refine lv_iinc (v := (v5 + 1)) (lv' := [(5, .int (v5 + 1)), (0, .ref (gB G + v0)), (1, .int v1), (2, .int v2), (3, .int v3), (4, .int v4)]) X.1 X.2.1 dX1_worthOf_126 hl (k := 5) rfl (by first | rfl | decide) (by decide) rfl (fun ls hl => ?_)
        refine lv_goto (tgt := 70) X.1 X.2.1 dX1_worthOf_129 (by decide) ?_
        exact ih v0 v1 v2 v3 v4 (v5 + 1) h hf _ _ _ M (lv_sub hl [1, 2, 3, 4, 5, 0] rfl)
      · have hf := ifn c26 hf
        refine lv_aload_n X.1 X.2.1 dX1_worthOf_85 rfl (lv_at hl 0 rfl) ?_
        obtain ⟨t27, q28, hf⟩ := bnd hf
        refine x_getr fl_X1_33 X M q28 dX1_worthOf_86 ?_
        refine lv_iload X.1 X.2.1 dX1_worthOf_89 (lv_at hl 5 rfl) ?_
        obtain ⟨t29, q30, hf⟩ := bnd hf
        refine x_iald X M q30 dX1_worthOf_91 ?_
        refine lv_iload_n X.1 X.2.1 dX1_worthOf_92 rfl (lv_at hl 2 rfl) ?_
        refine lv_icmp_ne (tgt := 126) X.1 X.2.1 dX1_worthOf_93 (by decide) (fun c31 => ?_) (fun c31 => ?_)
        · have hf := ifn c31 hf
          refine lv_iinc (v := (v5 + 1)) (lv' := [(5, .int (v5 + 1)), (0, .ref (gB G + v0)), (1, .int v1), (2, .int v2), (3, .int v3), (4, .int v4)]) X.1 X.2.1 dX1_worthOf_126 hl (k := 5) rfl (by first | rfl | decide) (by decide) rfl (fun ls hl => ?_)
          refine lv_goto (tgt := 70) X.1 X.2.1 dX1_worthOf_129 (by decide) ?_
          exact ih v0 v1 v2 v3 v4 (v5 + 1) h hf _ _ _ M (lv_sub hl [1, 2, 3, 4, 5, 0] rfl)
        · have hf := ifp c31 hf
          refine lv_iload_n X.1 X.2.1 dX1_worthOf_96 rfl (lv_at hl 3 rfl) ?_
          refine lv_aload_n X.1 X.2.1 dX1_worthOf_97 rfl (lv_at hl 0 rfl) ?_
          obtain ⟨t32, q33, hf⟩ := bnd hf
          refine x_getr fl_X1_42 X M q33 dX1_worthOf_98 ?_
          obtain ⟨t34, q35, hf⟩ := bnd hf
          refine x_getr fl_X1_102 X M q35 dX1_worthOf_101 ?_
          refine lv_aload_n X.1 X.2.1 dX1_worthOf_104 rfl (lv_at hl 0 rfl) ?_
          obtain ⟨t36, q37, hf⟩ := bnd hf
          refine x_getr fl_X1_27 X M q37 dX1_worthOf_105 ?_
          refine lv_iload_n X.1 X.2.1 dX1_worthOf_108 rfl (lv_at hl 1 rfl) ?_
          obtain ⟨t38, q39, hf⟩ := bnd hf
          refine x_iald X M q39 dX1_worthOf_109 ?_
          refine lv_iconst (v := (4 : Int32)) X.1 X.2.1 dX1_worthOf_110 (by decide) ?_
          refine lv_imul X.1 X.2.1 dX1_worthOf_111 ?_
          refine lv_aload_n X.1 X.2.1 dX1_worthOf_112 rfl (lv_at hl 0 rfl) ?_
          obtain ⟨t40, q41, hf⟩ := bnd hf
          refine x_getr fl_X1_27 X M q41 dX1_worthOf_113 ?_
          refine lv_iload X.1 X.2.1 dX1_worthOf_116 (lv_at hl 5 rfl) ?_
          obtain ⟨t42, q43, hf⟩ := bnd hf
          refine x_iald X M q43 dX1_worthOf_118 ?_
          refine lv_iadd X.1 X.2.1 dX1_worthOf_119 ?_
          obtain ⟨t44, q45, hf⟩ := bnd hf
          refine x_iald X M q45 dX1_worthOf_120 ?_
          refine lv_iadd X.1 X.2.1 dX1_worthOf_121 ?_
          refine lv_istore_n (lv' := [(3, .int (v3 + t44)), (0, .ref (gB G + v0)), (1, .int v1), (2, .int v2), (4, .int v4), (5, .int v5)]) X.1 X.2.1 dX1_worthOf_122 rfl hl (by decide) rfl (fun ls hl => ?_)
          refine lv_iinc (v := (v4 + 1)) (lv' := [(4, .int (v4 + 1)), (3, .int (v3 + t44)), (0, .ref (gB G + v0)), (1, .int v1), (2, .int v2), (5, .int v5)]) X.1 X.2.1 dX1_worthOf_123 hl (k := 4) rfl (by first | rfl | decide) (by decide) rfl (fun ls hl => ?_)
          refine lv_iinc (v := (v5 + 1)) (lv' := [(5, .int (v5 + 1)), (4, .int (v4 + 1)), (3, .int (v3 + t44)), (0, .ref (gB G + v0)), (1, .int v1), (2, .int v2)]) X.1 X.2.1 dX1_worthOf_126 hl (k := 5) rfl (by first | rfl | decide) (by decide) rfl (fun ls hl => ?_)
          refine lv_goto (tgt := 70) X.1 X.2.1 dX1_worthOf_129 (by decide) ?_
          exact ih v0 v1 v2 (v3 + t44) (v4 + 1) (v5 + 1) h hf _ _ _ M (lv_sub hl [3, 4, 5, 2, 1, 0] rfl)
def f_X1_worthOf_18 (N : Nat) (n : Nat) (v0 : Nat) (v1 : Int32) (v2 : Int32) (v3 : Int32) (v4 : Int32) (h : Mem) : Option (Int32 × Mem) := match n with
  | 0 => none
  | n + 1 =>
    if (3 : Int32) ≤ v4 then
      f_X1_worthOf_70 N N v0 v1 v2 v3 (1 : Int32) (0 : Int32) h
    else
      (gR h v0 1 4).bind fun t2 =>
      (lI 100 h t2 ((v2 * (3 : Int32)) + v4)).bind fun t4 =>
      (gR h v0 1 0).bind fun t6 =>
      (gR h t6 3 0).bind fun t8 =>
      (gR h v0 1 8).bind fun t10 =>
      (lI 100 h t10 v1).bind fun t12 =>
      (lI 100 h t8 ((t12 * (3 : Int32)) + v4)).bind fun t14 =>
      f_X1_worthOf_18 N n v0 v1 v2 (v3 + (t4 * t14)) (v4 + 1) h
set_option maxRecDepth 100000 in
set_option maxHeartbeats 4000000 in
theorem w_X1_worthOf_18 {p : Program} {l : Launch} {e : Env} {s : State} {m : MethodId} {args : Array Value} {below : List Frame} {meth : Method} {c : Code} {G : Gx} {r : Int32} {h' : Mem} (X : CX G p s m args c cX1_worthOf 6 RX1) (hr : meth.sig.returnType = (Option.some Jvm.ClassFile.FieldType.int)) (hk : meth.locks = false) (N : Nat) : ∀ (n : Nat) (v0 : Nat) (v1 : Int32) (v2 : Int32) (v3 : Int32) (v4 : Int32) (h : Mem), f_X1_worthOf_18 N n v0 v1 v2 v3 v4 h = some (r, h') → ∀ (H : Heap) (locs : List Loc) (ls : Array Slot), MS G s h H locs 0 → lv_has ls 6 [(0, .ref (gB G + v0)), (1, .int v1), (2, .int v2), (3, .int v3), (4, .int v4)] → W p l e (rm_X1_worthOf) s m args below meth c H locs 0 0 (QI G below args s r h' 0 0) (F0 m 18 ls []) := by
  intro n
  induction n with
  | zero =>
    intro v0 v1 v2 v3 v4 h hf
    cases hf
  | succ n ih =>
    intro v0 v1 v2 v3 v4 h hf H locs ls M hl
    rw [f_X1_worthOf_18] at hf
    refine lv_iload X.1 X.2.1 dX1_worthOf_18 (lv_at hl 4 rfl) ?_
    refine lv_iconst (v := (3 : Int32)) X.1 X.2.1 dX1_worthOf_20 (by decide) ?_
    refine lv_icmp_ge (tgt := 64) X.1 X.2.1 dX1_worthOf_21 (by decide) (fun c1 => ?_) (fun c1 => ?_)
    · have hf := ifp c1 hf
      refine lv_iconst (v := (1 : Int32)) X.1 X.2.1 dX1_worthOf_64 (by decide) ?_
      refine lv_istore (lv' := [(4, .int (1 : Int32)), (0, .ref (gB G + v0)), (1, .int v1), (2, .int v2), (3, .int v3)]) X.1 X.2.1 dX1_worthOf_65 hl (by decide) rfl (fun ls hl => ?_)
      refine lv_iconst (v := (0 : Int32)) X.1 X.2.1 dX1_worthOf_67 (by decide) ?_
      refine lv_istore (lv' := [(5, .int (0 : Int32)), (4, .int (1 : Int32)), (0, .ref (gB G + v0)), (1, .int v1), (2, .int v2), (3, .int v3)]) X.1 X.2.1 dX1_worthOf_68 hl (by decide) rfl (fun ls hl => ?_)
      exact w_X1_worthOf_70 X hr hk N N v0 v1 v2 v3 (1 : Int32) (0 : Int32) h hf _ _ _ M (lv_sub hl [2, 3, 4, 5, 1, 0] rfl)
    · have hf := ifn c1 hf
      refine lv_iload_n X.1 X.2.1 dX1_worthOf_24 rfl (lv_at hl 3 rfl) ?_
      refine lv_aload_n X.1 X.2.1 dX1_worthOf_25 rfl (lv_at hl 0 rfl) ?_
      obtain ⟨t2, q3, hf⟩ := bnd hf
      refine x_getr fl_X1_15 X M q3 dX1_worthOf_26 ?_
      refine lv_iload_n X.1 X.2.1 dX1_worthOf_29 rfl (lv_at hl 2 rfl) ?_
      refine lv_iconst (v := (3 : Int32)) X.1 X.2.1 dX1_worthOf_30 (by decide) ?_
      refine lv_imul X.1 X.2.1 dX1_worthOf_31 ?_
      refine lv_iload X.1 X.2.1 dX1_worthOf_32 (lv_at hl 4 rfl) ?_
      refine lv_iadd X.1 X.2.1 dX1_worthOf_34 ?_
      obtain ⟨t4, q5, hf⟩ := bnd hf
      refine x_iald X M q5 dX1_worthOf_35 ?_
      refine lv_aload_n X.1 X.2.1 dX1_worthOf_36 rfl (lv_at hl 0 rfl) ?_
      obtain ⟨t6, q7, hf⟩ := bnd hf
      refine x_getr fl_X1_42 X M q7 dX1_worthOf_37 ?_
      obtain ⟨t8, q9, hf⟩ := bnd hf
      refine x_getr fl_X1_99 X M q9 dX1_worthOf_40 ?_
      refine lv_aload_n X.1 X.2.1 dX1_worthOf_43 rfl (lv_at hl 0 rfl) ?_
      obtain ⟨t10, q11, hf⟩ := bnd hf
      refine x_getr fl_X1_27 X M q11 dX1_worthOf_44 ?_
      refine lv_iload_n X.1 X.2.1 dX1_worthOf_47 rfl (lv_at hl 1 rfl) ?_
      obtain ⟨t12, q13, hf⟩ := bnd hf
      refine x_iald X M q13 dX1_worthOf_48 ?_
      refine lv_iconst (v := (3 : Int32)) X.1 X.2.1 dX1_worthOf_49 (by decide) ?_
      refine lv_imul X.1 X.2.1 dX1_worthOf_50 ?_
      refine lv_iload X.1 X.2.1 dX1_worthOf_51 (lv_at hl 4 rfl) ?_
      refine lv_iadd X.1 X.2.1 dX1_worthOf_53 ?_
      obtain ⟨t14, q15, hf⟩ := bnd hf
      refine x_iald X M q15 dX1_worthOf_54 ?_
      refine lv_imul X.1 X.2.1 dX1_worthOf_55 ?_
      refine lv_iadd X.1 X.2.1 dX1_worthOf_56 ?_
      refine lv_istore_n (lv' := [(3, .int (v3 + (t4 * t14))), (0, .ref (gB G + v0)), (1, .int v1), (2, .int v2), (4, .int v4)]) X.1 X.2.1 dX1_worthOf_57 rfl hl (by decide) rfl (fun ls hl => ?_)
      refine lv_iinc (v := (v4 + 1)) (lv' := [(4, .int (v4 + 1)), (3, .int (v3 + (t4 * t14))), (0, .ref (gB G + v0)), (1, .int v1), (2, .int v2)]) X.1 X.2.1 dX1_worthOf_58 hl (k := 4) rfl (by first | rfl | decide) (by decide) rfl (fun ls hl => ?_)
      refine lv_goto (tgt := 18) X.1 X.2.1 dX1_worthOf_61 (by decide) ?_
      exact ih v0 v1 v2 (v3 + (t4 * t14)) (v4 + 1) h hf _ _ _ M (lv_sub hl [2, 3, 4, 1, 0] rfl)
def f_X1_worthOf (N : Nat) (v0 : Nat) (v1 : Int32) (v2 : Int32) (h : Mem) : Option (Int32 × Mem) :=
  (ck h v0 1).bind fun _ =>
  b2 (f_X1_duesOf N v0 v1 v2 h) fun t4 h3 =>
  (gR h3 v0 1 5).bind fun t5 =>
  (lI 100 h3 t5 v2).bind fun t7 =>
  f_X1_worthOf_18 N N v0 v1 v2 ((-t4) - t7) (0 : Int32) h3
set_option maxRecDepth 100000 in
set_option maxHeartbeats 4000000 in
theorem w_X1_worthOf {p : Program} {l : Launch} {e : Env} {s : State} {m : MethodId} {args : Array Value} {below : List Frame} {meth : Method} {c : Code} {G : Gx} {r : Int32} {h' : Mem} (X : CX G p s m args c cX1_worthOf 6 RX1) (hr : meth.sig.returnType = (Option.some Jvm.ClassFile.FieldType.int)) (hk : meth.locks = false) (N : Nat) : ∀ (v0 : Nat) (v1 : Int32) (v2 : Int32) (h : Mem), f_X1_worthOf N v0 v1 v2 h = some (r, h') → ∀ (H : Heap) (locs : List Loc) (ls : Array Slot), MS G s h H locs 0 → lv_has ls 6 [(0, .ref (gB G + v0)), (1, .int v1), (2, .int v2)] → W p l e (rm_X1_worthOf) s m args below meth c H locs 0 0 (QI G below args s r h' 0 0) (F0 m 0 ls []) := by
  intro v0 v1 v2 h hf H locs ls M hl
  rw [f_X1_worthOf] at hf
  refine lv_aload_n X.1 X.2.1 dX1_worthOf_0 rfl (lv_at hl 0 rfl) ?_
  refine lv_iload_n X.1 X.2.1 dX1_worthOf_1 rfl (lv_at hl 1 rfl) ?_
  refine lv_iload_n X.1 X.2.1 dX1_worthOf_2 rfl (lv_at hl 2 rfl) ?_
  obtain ⟨⟨⟩, q1, hf⟩ := bnd hf
  obtain ⟨t4, h3, q2, hf⟩ := bnd2 hf
  refine x_callVi (As := [.int v1, .int v2]) cf_X1_96 (c_X1_duesOf l G N v0 v1 v2 h _ _ q2) rfl ⟨rfl, rfl, Nat.le_of_ble_eq_true rfl, Nat.le_of_ble_eq_true rfl⟩ ⟨Nat.le_of_ble_eq_true rfl, Nat.le_of_ble_eq_true rfl⟩ X M (x_recv cls_X1 X M q1) rfl rfl hl.1 (Nat.le_of_ble_eq_true rfl) dX1_worthOf_3 (fun H locs M => ?_)
  refine lv_ineg X.1 X.2.1 dX1_worthOf_6 ?_
  refine lv_aload_n X.1 X.2.1 dX1_worthOf_7 rfl (lv_at hl 0 rfl) ?_
  obtain ⟨t5, q6, hf⟩ := bnd hf
  refine x_getr fl_X1_18 X M q6 dX1_worthOf_8 ?_
  refine lv_iload_n X.1 X.2.1 dX1_worthOf_11 rfl (lv_at hl 2 rfl) ?_
  obtain ⟨t7, q8, hf⟩ := bnd hf
  refine x_iald X M q8 dX1_worthOf_12 ?_
  refine lv_isub X.1 X.2.1 dX1_worthOf_13 ?_
  refine lv_istore_n (lv' := [(3, .int ((-t4) - t7)), (0, .ref (gB G + v0)), (1, .int v1), (2, .int v2)]) X.1 X.2.1 dX1_worthOf_14 rfl hl (by decide) rfl (fun ls hl => ?_)
  refine lv_iconst (v := (0 : Int32)) X.1 X.2.1 dX1_worthOf_15 (by decide) ?_
  refine lv_istore (lv' := [(4, .int (0 : Int32)), (3, .int ((-t4) - t7)), (0, .ref (gB G + v0)), (1, .int v1), (2, .int v2)]) X.1 X.2.1 dX1_worthOf_16 hl (by decide) rfl (fun ls hl => ?_)
  exact w_X1_worthOf_18 X hr hk N N v0 v1 v2 ((-t4) - t7) (0 : Int32) h3 hf _ _ _ M (lv_sub hl [2, 3, 4, 1, 0] rfl)
theorem c_X1_worthOf (l : Launch) (G : Gx) (N : Nat) (v0 : Nat) (v1 : Int32) (v2 : Int32) (h : Mem) (r : Int32) (h' : Mem) (hf : f_X1_worthOf N v0 v1 v2 h = some (r, h')) : MetG l G yX1_worthOf (.code yX1_worthOf cX1_worthOf 6 (Option.some Jvm.ClassFile.FieldType.int)) rm_X1_worthOf [.ref (gB G + v0), .int v1, .int v2] h (QcI G r h') 0 0 :=
  x_met (by decide) rfl (Nat.le_of_ble_eq_true rfl) (fun p e s m args below meth c ls X M hr hk hin hl => w_X1_worthOf X hr hk N v0 v1 v2 h hf _ _ ls M hl)
abbrev rm_X1_hasOldOnes : Room := { frames := 1, cells := 0, slots := 0, locals := 40 }
def f_X1_hasOldOnes_2 (N : Nat) (n : Nat) (v0 : Nat) (v1 : Int32) (v2 : Int32) (h : Mem) : Option (Int32 × Mem) := match n with
  | 0 => none
  | n + 1 =>
    (gI h v0 1 2).bind fun t1 =>
    if t1 ≤ v2 then
      some ((0 : Int32), h)
    else
      (gR h v0 1 10).bind fun t4 =>
      (lI 100 h t4 v2).bind fun t6 =>
      if t6 = v1 then
        (gR h v0 1 11).bind fun t9 =>
        (lI 100 h t9 v2).bind fun t11 =>
        if t11 = v1 then
          some ((1 : Int32), h)
        else
          f_X1_hasOldOnes_2 N n v0 v1 (v2 + 1) h
      else
        f_X1_hasOldOnes_2 N n v0 v1 (v2 + 1) h
set_option maxRecDepth 100000 in
set_option maxHeartbeats 4000000 in
theorem w_X1_hasOldOnes_2 {p : Program} {l : Launch} {e : Env} {s : State} {m : MethodId} {args : Array Value} {below : List Frame} {meth : Method} {c : Code} {G : Gx} {r : Int32} {h' : Mem} (X : CX G p s m args c cX1_hasOldOnes 3 RX1) (hr : meth.sig.returnType = (Option.some Jvm.ClassFile.FieldType.boolean)) (hk : meth.locks = false) (N : Nat) : ∀ (n : Nat) (v0 : Nat) (v1 : Int32) (v2 : Int32) (h : Mem), f_X1_hasOldOnes_2 N n v0 v1 v2 h = some (r, h') → ∀ (H : Heap) (locs : List Loc) (ls : Array Slot), MS G s h H locs 0 → lv_has ls 3 [(0, .ref (gB G + v0)), (1, .int v1), (2, .int v2)] → W p l e (rm_X1_hasOldOnes) s m args below meth c H locs 0 0 (QI G below args s r h' 0 0) (F0 m 2 ls []) := by
  intro n
  induction n with
  | zero =>
    intro v0 v1 v2 h hf
    cases hf
  | succ n ih =>
    intro v0 v1 v2 h hf H locs ls M hl
    rw [f_X1_hasOldOnes_2] at hf
    refine lv_iload_n X.1 X.2.1 dX1_hasOldOnes_2 rfl (lv_at hl 2 rfl) ?_
    refine lv_aload_n X.1 X.2.1 dX1_hasOldOnes_3 rfl (lv_at hl 0 rfl) ?_
    obtain ⟨t1, q2, hf⟩ := bnd hf
    refine x_geti fl_X1_50 X M q2 dX1_hasOldOnes_4 ?_
    refine lv_icmp_ge (tgt := 38) X.1 X.2.1 dX1_hasOldOnes_7 (by decide) (fun c3 => ?_) (fun c3 => ?_)
    · have hf := ifp c3 hf
      refine lv_iconst (v := (0 : Int32)) X.1 X.2.1 dX1_hasOldOnes_38 (by decide) ?_
      obtain ⟨rfl, rfl⟩ := rt2 hf
      exact x_zret X hr hk rfl M dX1_hasOldOnes_39
    · have hf := ifn c3 hf
      refine lv_aload_n X.1 X.2.1 dX1_hasOldOnes_10 rfl (lv_at hl 0 rfl) ?_
      obtain ⟨t4, q5, hf⟩ := bnd hf
      refine x_getr fl_X1_33 X M q5 dX1_hasOldOnes_11 ?_
      refine lv_iload_n X.1 X.2.1 dX1_hasOldOnes_14 rfl (lv_at hl 2 rfl) ?_
      obtain ⟨t6, q7, hf⟩ := bnd hf
      refine x_iald X M q7 dX1_hasOldOnes_15 ?_
      refine lv_iload_n X.1 X.2.1 dX1_hasOldOnes_16 rfl (lv_at hl 1 rfl) ?_
      refine lv_icmp_ne (tgt := 32) X.1 X.2.1 dX1_hasOldOnes_17 (by decide) (fun c8 => ?_) (fun c8 => ?_)
      · have hf := ifn c8 hf
        refine lv_iinc (v := (v2 + 1)) (lv' := [(2, .int (v2 + 1)), (0, .ref (gB G + v0)), (1, .int v1)]) X.1 X.2.1 dX1_hasOldOnes_32 hl (k := 2) rfl (by first | rfl | decide) (by decide) rfl (fun ls hl => ?_)
        refine lv_goto (tgt := 2) X.1 X.2.1 dX1_hasOldOnes_35 (by decide) ?_
        exact ih v0 v1 (v2 + 1) h hf _ _ _ M (lv_sub hl [1, 2, 0] rfl)
      · have hf := ifp c8 hf
        refine lv_aload_n X.1 X.2.1 dX1_hasOldOnes_20 rfl (lv_at hl 0 rfl) ?_
        obtain ⟨t9, q10, hf⟩ := bnd hf
        refine x_getr fl_X1_36 X M q10 dX1_hasOldOnes_21 ?_
        refine lv_iload_n X.1 X.2.1 dX1_hasOldOnes_24 rfl (lv_at hl 2 rfl) ?_
        obtain ⟨t11, q12, hf⟩ := bnd hf
        refine x_iald X M q12 dX1_hasOldOnes_25 ?_
        refine lv_iload_n X.1 X.2.1 dX1_hasOldOnes_26 rfl (lv_at hl 1 rfl) ?_
        refine lv_icmp_ne (tgt := 32) X.1 X.2.1 dX1_hasOldOnes_27 (by decide) (fun c13 => ?_) (fun c13 => ?_)
        · have hf := ifn c13 hf
          refine lv_iinc (v := (v2 + 1)) (lv' := [(2, .int (v2 + 1)), (0, .ref (gB G + v0)), (1, .int v1)]) X.1 X.2.1 dX1_hasOldOnes_32 hl (k := 2) rfl (by first | rfl | decide) (by decide) rfl (fun ls hl => ?_)
          refine lv_goto (tgt := 2) X.1 X.2.1 dX1_hasOldOnes_35 (by decide) ?_
          exact ih v0 v1 (v2 + 1) h hf _ _ _ M (lv_sub hl [1, 2, 0] rfl)
        · have hf := ifp c13 hf
          refine lv_iconst (v := (1 : Int32)) X.1 X.2.1 dX1_hasOldOnes_30 (by decide) ?_
          obtain ⟨rfl, rfl⟩ := rt2 hf
          exact x_zret X hr hk rfl M dX1_hasOldOnes_31
def f_X1_hasOldOnes (N : Nat) (v0 : Nat) (v1 : Int32) (h : Mem) : Option (Int32 × Mem) :=
  f_X1_hasOldOnes_2 N N v0 v1 (0 : Int32) h
set_option maxRecDepth 100000 in
set_option maxHeartbeats 4000000 in
theorem w_X1_hasOldOnes {p : Program} {l : Launch} {e : Env} {s : State} {m : MethodId} {args : Array Value} {below : List Frame} {meth : Method} {c : Code} {G : Gx} {r : Int32} {h' : Mem} (X : CX G p s m args c cX1_hasOldOnes 3 RX1) (hr : meth.sig.returnType = (Option.some Jvm.ClassFile.FieldType.boolean)) (hk : meth.locks = false) (N : Nat) : ∀ (v0 : Nat) (v1 : Int32) (h : Mem), f_X1_hasOldOnes N v0 v1 h = some (r, h') → ∀ (H : Heap) (locs : List Loc) (ls : Array Slot), MS G s h H locs 0 → lv_has ls 3 [(0, .ref (gB G + v0)), (1, .int v1)] → W p l e (rm_X1_hasOldOnes) s m args below meth c H locs 0 0 (QI G below args s r h' 0 0) (F0 m 0 ls []) := by
  intro v0 v1 h hf H locs ls M hl
  rw [f_X1_hasOldOnes] at hf
  refine lv_iconst (v := (0 : Int32)) X.1 X.2.1 dX1_hasOldOnes_0 (by decide) ?_
  refine lv_istore_n (lv' := [(2, .int (0 : Int32)), (0, .ref (gB G + v0)), (1, .int v1)]) X.1 X.2.1 dX1_hasOldOnes_1 rfl hl (by decide) rfl (fun ls hl => ?_)
  exact w_X1_hasOldOnes_2 X hr hk N N v0 v1 (0 : Int32) h hf _ _ _ M (lv_sub hl [1, 2, 0] rfl)
theorem c_X1_hasOldOnes (l : Launch) (G : Gx) (N : Nat) (v0 : Nat) (v1 : Int32) (h : Mem) (r : Int32) (h' : Mem) (hf : f_X1_hasOldOnes N v0 v1 h = some (r, h')) : MetG l G yX1_hasOldOnes (.code yX1_hasOldOnes cX1_hasOldOnes 3 (Option.some Jvm.ClassFile.FieldType.boolean)) rm_X1_hasOldOnes [.ref (gB G + v0), .int v1] h (QcI G r h') 0 0 :=
  x_met (by decide) rfl (Nat.le_of_ble_eq_true rfl) (fun p e s m args below meth c ls X M hr hk hin hl => w_X1_hasOldOnes X hr hk N v0 v1 h hf _ _ ls M hl)
abbrev rm_X1_wantedLevel : Room := { frames := 3, cells := 0, slots := 0, locals := 88 }
def f_X1_wantedLevel_120 (N : Nat) (v0 : Nat) (v2 : Int32) (v4 : Int32) (v6 : Int32) (v7 : Int32) (v8 : Int32) (v9 : Int32) (v12 : Int32) (v13 : Int32) (h : Mem) (k72 : Nat → Int32 → Int32 → Int32 → Int32 → Int32 → Int32 → Int32 → Int32 → Int32 → Mem → Option (Int32 × Mem)) : Option (Int32 × Mem) :=
  k72 v0 v2 v4 v6 v7 v8 v9 v12 v13 (v12 + 1) h
set_option maxRecDepth 100000 in
set_option maxHeartbeats 4000000 in
theorem w_X1_wantedLevel_120 {p : Program} {l : Launch} {e : Env} {s : State} {m : MethodId} {args : Array Value} {below : List Frame} {meth : Method} {c : Code} {G : Gx} {r : Int32} {h' : Mem} (X : CX G p s m args c cX1_wantedLevel 14 RX1) (hr : meth.sig.returnType = (Option.some Jvm.ClassFile.FieldType.int)) (hk : meth.locks = false) (N : Nat) (k72 : Nat → Int32 → Int32 → Int32 → Int32 → Int32 → Int32 → Int32 → Int32 → Int32 → Mem → Option (Int32 × Mem)) (K72 : ∀ (v0 : Nat) (v2 : Int32) (v4 : Int32) (v6 : Int32) (v7 : Int32) (v8 : Int32) (v9 : Int32) (v10 : Int32) (v11 : Int32) (v12 : Int32) (h : Mem), k72 v0 v2 v4 v6 v7 v8 v9 v10 v11 v12 h = some (r, h') → ∀ (H : Heap) (locs : List Loc) (ls : Array Slot), MS G s h H locs 0 → lv_has ls 14 [(0, .ref (gB G + v0)), (2, .int v2), (4, .int v4), (6, .int v6), (7, .int v7), (8, .int v8), (9, .int v9), (10, .int v10), (11, .int v11), (12, .int v12)] → W p l e (rm_X1_wantedLevel) s m args below meth c H locs 0 0 (QI G below args s r h' 0 0) (F0 m 72 ls [])) : ∀ (v0 : Nat) (v2 : Int32) (v4 : Int32) (v6 : Int32) (v7 : Int32) (v8 : Int32) (v9 : Int32) (v12 : Int32) (v13 : Int32) (h : Mem), f_X1_wantedLevel_120 N v0 v2 v4 v6 v7 v8 v9 v12 v13 h k72 = some (r, h') → ∀ (H : Heap) (locs : List Loc) (ls : Array Slot), MS G s h H locs 0 → lv_has ls 14 [(0, .ref (gB G + v0)), (2, .int v2), (4, .int v4), (6, .int v6), (7, .int v7), (8, .int v8), (9, .int v9), (12, .int v12), (13, .int v13)] → W p l e (rm_X1_wantedLevel) s m args below meth c H locs 0 0 (QI G below args s r h' 0 0) (F0 m 120 ls []) := by
  intro v0 v2 v4 v6 v7 v8 v9 v12 v13 h hf H locs ls M hl
  rw [f_X1_wantedLevel_120] at hf
  refine lv_iload X.1 X.2.1 dX1_wantedLevel_120 (lv_at hl 8 rfl) ?_
  refine lv_istore (lv' := [(11, .int v13), (0, .ref (gB G + v0)), (2, .int v2), (4, .int v4), (6, .int v6), (7, .int v7), (8, .int v8), (9, .int v9), (12, .int v12), (13, .int v13)]) X.1 X.2.1 dX1_wantedLevel_122 hl (by decide) rfl (fun ls hl => ?_)
  refine lv_iload X.1 X.2.1 dX1_wantedLevel_124 (lv_at hl 8 rfl) ?_
  refine lv_istore (lv' := [(10, .int v12), (11, .int v13), (0, .ref (gB G + v0)), (2, .int v2), (4, .int v4), (6, .int v6), (7, .int v7), (8, .int v8), (9, .int v9), (12, .int v12), (13, .int v13)]) X.1 X.2.1 dX1_wantedLevel_126 hl (by decide) rfl (fun ls hl => ?_)
  refine lv_iinc (v := (v12 + 1)) (lv' := [(12, .int (v12 + 1)), (10, .int v12), (11, .int v13), (0, .ref (gB G + v0)), (2, .int v2), (4, .int v4), (6, .int v6), (7, .int v7), (8, .int v8), (9, .int v9), (13, .int v13)]) X.1 X.2.1 dX1_wantedLevel_128 hl (k := 9) rfl (by first | rfl | decide) (by decide) rfl (fun ls hl => ?_)
  refine lv_goto (tgt := 72) X.1 X.2.1 dX1_wantedLevel_131 (by decide) ?_
  exact K72 v0 v2 v4 v6 v7 v8 v9 v12 v13 (v12 + 1) h hf _ _ _ M (lv_sub hl [3, 4, 5, 6, 7, 8, 9, 1, 2, 0] rfl)
def f_X1_wantedLevel_72 (N : Nat) (n : Nat) (v0 : Nat) (v2 : Int32) (v4 : Int32) (v6 : Int32) (v7 : Int32) (v8 : Int32) (v9 : Int32) (v10 : Int32) (v11 : Int32) (v12 : Int32) (h : Mem) : Option (Int32 × Mem) := match n with
  | 0 => none
  | n + 1 =>
    if (6 : Int32) ≤ v12 then
      (gR h v0 1 4).bind fun t2 =>
      (stI 100 h t2 v8 v9).bind fun h4 =>
      some (v10, h4)
    else
      (gR h v0 1 4).bind fun t6 =>
      (stI 100 h t6 v8 v12).bind fun h8 =>
      (ck h8 v0 1).bind fun _ =>
      b2 (f_X1_costOf N v0 v2 h8) fun t13 h12 =>
      b2 (f_X1_cutPart N t13 v6 v7 h12) fun t16 h15 =>
      if v12 = 0 then
        f_X1_wantedLevel_120 N v0 v2 v4 v6 v7 v8 v9 v12 ((v4 * v12) - t16) h15 (fun v0 v2 v4 v6 v7 v8 v9 v10 v11 v12 h => f_X1_wantedLevel_72 N n v0 v2 v4 v6 v7 v8 v9 v10 v11 v12 h)
      else
        if ((v4 * v12) - t16) ≤ v11 then
          f_X1_wantedLevel_72 N n v0 v2 v4 v6 v7 v8 v9 v10 v11 (v12 + 1) h15
        else
          f_X1_wantedLevel_120 N v0 v2 v4 v6 v7 v8 v9 v12 ((v4 * v12) - t16) h15 (fun v0 v2 v4 v6 v7 v8 v9 v10 v11 v12 h => f_X1_wantedLevel_72 N n v0 v2 v4 v6 v7 v8 v9 v10 v11 v12 h)
set_option maxRecDepth 100000 in
set_option maxHeartbeats 4000000 in
theorem w_X1_wantedLevel_72 {p : Program} {l : Launch} {e : Env} {s : State} {m : MethodId} {args : Array Value} {below : List Frame} {meth : Method} {c : Code} {G : Gx} {r : Int32} {h' : Mem} (X : CX G p s m args c cX1_wantedLevel 14 RX1) (hr : meth.sig.returnType = (Option.some Jvm.ClassFile.FieldType.int)) (hk : meth.locks = false) (N : Nat) : ∀ (n : Nat) (v0 : Nat) (v2 : Int32) (v4 : Int32) (v6 : Int32) (v7 : Int32) (v8 : Int32) (v9 : Int32) (v10 : Int32) (v11 : Int32) (v12 : Int32) (h : Mem), f_X1_wantedLevel_72 N n v0 v2 v4 v6 v7 v8 v9 v10 v11 v12 h = some (r, h') → ∀ (H : Heap) (locs : List Loc) (ls : Array Slot), MS G s h H locs 0 → lv_has ls 14 [(0, .ref (gB G + v0)), (2, .int v2), (4, .int v4), (6, .int v6), (7, .int v7), (8, .int v8), (9, .int v9), (10, .int v10), (11, .int v11), (12, .int v12)] → W p l e (rm_X1_wantedLevel) s m args below meth c H locs 0 0 (QI G below args s r h' 0 0) (F0 m 72 ls []) := by
  intro n
  induction n with
  | zero =>
    intro v0 v2 v4 v6 v7 v8 v9 v10 v11 v12 h hf
    cases hf
  | succ n ih =>
    intro v0 v2 v4 v6 v7 v8 v9 v10 v11 v12 h hf H locs ls M hl
    rw [f_X1_wantedLevel_72] at hf
    refine lv_iload X.1 X.2.1 dX1_wantedLevel_72 (lv_at hl 9 rfl) ?_
    refine lv_bipush (v := (6 : Int32)) X.1 X.2.1 dX1_wantedLevel_74 (by decide) ?_
    refine lv_icmp_ge (tgt := 134) X.1 X.2.1 dX1_wantedLevel_76 (by decide) (fun c1 => ?_) (fun c1 => ?_)
    · have hf := ifp c1 hf
      refine lv_aload_n X.1 X.2.1 dX1_wantedLevel_134 rfl (lv_at hl 0 rfl) ?_
      obtain ⟨t2, q3, hf⟩ := bnd hf
      refine x_getr fl_X1_15 X M q3 dX1_wantedLevel_135 ?_
      refine lv_iload X.1 X.2.1 dX1_wantedLevel_138 (lv_at hl 5 rfl) ?_
      refine lv_iload X.1 X.2.1 dX1_wantedLevel_140 (lv_at hl 6 rfl) ?_
      obtain ⟨h4, q5, hf⟩ := bnd hf
      refine x_iast X M q5 dX1_wantedLevel_142 (fun H locs M => ?_)
      refine lv_iload X.1 X.2.1 dX1_wantedLevel_143 (lv_at hl 7 rfl) ?_
      obtain ⟨rfl, rfl⟩ := rt2 hf
      exact x_iret X hr hk M dX1_wantedLevel_145
    · have hf := ifn c1 hf
      refine lv_aload_n X.1 X.2.1 dX1_wantedLevel_79 rfl (lv_at hl 0 rfl) ?_
      obtain ⟨t6, q7, hf⟩ := bnd hf
      refine x_getr fl_X1_15 X M q7 dX1_wantedLevel_80 ?_
      refine lv_iload X.1 X.2.1 dX1_wantedLevel_83 (lv_at hl 5 rfl) ?_
      refine lv_iload X.1 X.2.1 dX1_wantedLevel_85 (lv_at hl 9 rfl) ?_
      obtain ⟨h8, q9, hf⟩ := bnd hf
      refine x_iast X M q9 dX1_wantedLevel_87 (fun H locs M => ?_)
      refine lv_iload X.1 X.2.1 dX1_wantedLevel_88 (lv_at hl 2 rfl) ?_
      refine lv_iload X.1 X.2.1 dX1_wantedLevel_90 (lv_at hl 9 rfl) ?_
      refine lv_imul X.1 X.2.1 dX1_wantedLevel_92 ?_
      refine lv_aload_n X.1 X.2.1 dX1_wantedLevel_93 rfl (lv_at hl 0 rfl) ?_
      refine lv_iload_n X.1 X.2.1 dX1_wantedLevel_94 rfl (lv_at hl 1 rfl) ?_
      obtain ⟨⟨⟩, q10, hf⟩ := bnd hf
      obtain ⟨t13, h12, q11, hf⟩ := bnd2 hf
      refine x_callVi (As := [.int v2]) cf_X1_86 (c_X1_costOf l G N v0 v2 h8 _ _ q11) rfl ⟨rfl, rfl, Nat.le_of_ble_eq_true rfl, Nat.le_of_ble_eq_true rfl⟩ ⟨Nat.le_of_ble_eq_true rfl, Nat.le_of_ble_eq_true rfl⟩ X M (x_recv cls_X1 X M q10) rfl rfl hl.1 (Nat.le_of_ble_eq_true rfl) dX1_wantedLevel_95 (fun H locs M => ?_)
      refine lv_iload X.1 X.2.1 dX1_wantedLevel_98 (lv_at hl 3 rfl) ?_
      refine lv_iload X.1 X.2.1 dX1_wantedLevel_100 (lv_at hl 4 rfl) ?_
      obtain ⟨t16, h15, q14, hf⟩ := bnd2 hf
      refine x_callSi (As := [.int t13, .int v6, .int v7]) cf_X1_93 (c_X1_cutPart l G N t13 v6 v7 h12 _ _ q14) rfl ⟨rfl, rfl, Nat.le_of_ble_eq_true rfl, Nat.le_of_ble_eq_true rfl⟩ ⟨Nat.le_of_ble_eq_true rfl, Nat.le_of_ble_eq_true rfl⟩ X M rfl rfl hl.1 (Nat.le_of_ble_eq_true rfl) dX1_wantedLevel_102 (fun H locs M => ?_)
      refine lv_isub X.1 X.2.1 dX1_wantedLevel_105 ?_
      refine lv_istore (lv' := [(13, .int ((v4 * v12) - t16)), (0, .ref (gB G + v0)), (2, .int v2), (4, .int v4), (6, .int v6), (7, .int v7), (8, .int v8), (9, .int v9), (10, .int v10), (11, .int v11), (12, .int v12)]) X.1 X.2.1 dX1_wantedLevel_106 hl (by decide) rfl (fun ls hl => ?_)
      refine lv_iload X.1 X.2.1 dX1_wantedLevel_108 (lv_at hl 10 rfl) ?_
      refine lv_if_eq (tgt := 120) X.1 X.2.1 dX1_wantedLevel_110 (by decide) (fun c17 => ?_) (fun c17 => ?_)
      · have hf := ifp c17 hf
        exact w_X1_wantedLevel_120 X hr hk N _ (fun v0 v2 v4 v6 v7 v8 v9 v10 v11 v12 h hf H locs ls M hl => ih v0 v2 v4 v6 v7 v8 v9 v10 v11 v12 h hf H locs ls M hl) v0 v2 v4 v6 v7 v8 v9 v12 ((v4 * v12) - t16) h15 hf _ _ _ M (lv_sub hl [1, 2, 3, 4, 5, 6, 7, 10, 0] rfl)
      · have hf := ifn c17 hf
        refine lv_iload X.1 X.2.1 dX1_wantedLevel_113 (lv_at hl 0 rfl) ?_
        refine lv_iload X.1 X.2.1 dX1_wantedLevel_115 (lv_at hl 9 rfl) ?_
        refine lv_icmp_le (tgt := 128) X.1 X.2.1 dX1_wantedLevel_117 (by decide) (fun c18 => ?_) (fun c18 => ?_)
        · have hf := ifp c18 hf
          refine lv_iinc (v := (v12 + 1)) (lv' := [(12, .int (v12 + 1)), (13, .int ((v4 * v12) - t16)), (0, .ref (gB G + v0)), (2, .int v2), (4, .int v4), (6, .int v6), (7, .int v7), (8, .int v8), (9, .int v9), (10, .int v10), (11, .int v11)]) X.1 X.2.1 dX1_wantedLevel_128 hl (k := 10) rfl (by first | rfl | decide) (by decide) rfl (fun ls hl => ?_)
          refine lv_goto (tgt := 72) X.1 X.2.1 dX1_wantedLevel_131 (by decide) ?_
          exact ih v0 v2 v4 v6 v7 v8 v9 v10 v11 (v12 + 1) h15 hf _ _ _ M (lv_sub hl [2, 3, 4, 5, 6, 7, 8, 9, 10, 0] rfl)
        · have hf := ifn c18 hf
          exact w_X1_wantedLevel_120 X hr hk N _ (fun v0 v2 v4 v6 v7 v8 v9 v10 v11 v12 h hf H locs ls M hl => ih v0 v2 v4 v6 v7 v8 v9 v10 v11 v12 h hf H locs ls M hl) v0 v2 v4 v6 v7 v8 v9 v12 ((v4 * v12) - t16) h15 hf _ _ _ M (lv_sub hl [1, 2, 3, 4, 5, 6, 7, 10, 0] rfl)
def f_X1_wantedLevel (N : Nat) (v0 : Nat) (v1 : Int32) (v2 : Int32) (v3 : Int32) (h : Mem) : Option (Int32 × Mem) :=
  (gR h v0 1 0).bind fun t1 =>
  (gR h t1 3 0).bind fun t3 =>
  (gR h v0 1 8).bind fun t5 =>
  (lI 100 h t5 v1).bind fun t7 =>
  (lI 100 h t3 ((t7 * (3 : Int32)) + v3)).bind fun t9 =>
  (ck h v0 1).bind fun _ =>
  b2 (f_X1_greatestIncome N v0 v2 v1 h) fun t14 h13 =>
  (ck h13 v0 1).bind fun _ =>
  b2 (f_X1_share N v0 v1 t14 h13) fun t18 h17 =>
  (ck h17 v0 1).bind fun _ =>
  b2 (f_X1_sharesTogether N v0 v2 v1 t14 h17) fun t22 h21 =>
  (gR h21 v0 1 4).bind fun t23 =>
  (lI 100 h21 t23 ((v2 * (3 : Int32)) + v3)).bind fun t25 =>
  f_X1_wantedLevel_72 N N v0 v2 t9 t18 t22 ((v2 * (3 : Int32)) + v3) t25 (0 : Int32) (0 : Int32) (0 : Int32) h21
set_option maxRecDepth 100000 in
set_option maxHeartbeats 4000000 in
theorem w_X1_wantedLevel {p : Program} {l : Launch} {e : Env} {s : State} {m : MethodId} {args : Array Value} {below : List Frame} {meth : Method} {c : Code} {G : Gx} {r : Int32} {h' : Mem} (X : CX G p s m args c cX1_wantedLevel 14 RX1) (hr : meth.sig.returnType = (Option.some Jvm.ClassFile.FieldType.int)) (hk : meth.locks = false) (N : Nat) : ∀ (v0 : Nat) (v1 : Int32) (v2 : Int32) (v3 : Int32) (h : Mem), f_X1_wantedLevel N v0 v1 v2 v3 h = some (r, h') → ∀ (H : Heap) (locs : List Loc) (ls : Array Slot), MS G s h H locs 0 → lv_has ls 14 [(0, .ref (gB G + v0)), (1, .int v1), (2, .int v2), (3, .int v3)] → W p l e (rm_X1_wantedLevel) s m args below meth c H locs 0 0 (QI G below args s r h' 0 0) (F0 m 0 ls []) := by
  intro v0 v1 v2 v3 h hf H locs ls M hl
  rw [f_X1_wantedLevel] at hf
  refine lv_aload_n X.1 X.2.1 dX1_wantedLevel_0 rfl (lv_at hl 0 rfl) ?_
  obtain ⟨t1, q2, hf⟩ := bnd hf
  refine x_getr fl_X1_42 X M q2 dX1_wantedLevel_1 ?_
  obtain ⟨t3, q4, hf⟩ := bnd hf
  refine x_getr fl_X1_99 X M q4 dX1_wantedLevel_4 ?_
  refine lv_aload_n X.1 X.2.1 dX1_wantedLevel_7 rfl (lv_at hl 0 rfl) ?_
  obtain ⟨t5, q6, hf⟩ := bnd hf
  refine x_getr fl_X1_27 X M q6 dX1_wantedLevel_8 ?_
  refine lv_iload_n X.1 X.2.1 dX1_wantedLevel_11 rfl (lv_at hl 1 rfl) ?_
  obtain ⟨t7, q8, hf⟩ := bnd hf
  refine x_iald X M q8 dX1_wantedLevel_12 ?_
  refine lv_iconst (v := (3 : Int32)) X.1 X.2.1 dX1_wantedLevel_13 (by decide) ?_
  refine lv_imul X.1 X.2.1 dX1_wantedLevel_14 ?_
  refine lv_iload_n X.1 X.2.1 dX1_wantedLevel_15 rfl (lv_at hl 3 rfl) ?_
  refine lv_iadd X.1 X.2.1 dX1_wantedLevel_16 ?_
  obtain ⟨t9, q10, hf⟩ := bnd hf
  refine x_iald X M q10 dX1_wantedLevel_17 ?_
  refine lv_istore (lv' := [(4, .int t9), (0, .ref (gB G + v0)), (1, .int v1), (2, .int v2), (3, .int v3)]) X.1 X.2.1 dX1_wantedLevel_18 hl (by decide) rfl (fun ls hl => ?_)
  refine lv_aload_n X.1 X.2.1 dX1_wantedLevel_20 rfl (lv_at hl 1 rfl) ?_
  refine lv_iload_n X.1 X.2.1 dX1_wantedLevel_21 rfl (lv_at hl 3 rfl) ?_
  refine lv_iload_n X.1 X.2.1 dX1_wantedLevel_22 rfl (lv_at hl 2 rfl) ?_
  obtain ⟨⟨⟩, q11, hf⟩ := bnd hf
  obtain ⟨t14, h13, q12, hf⟩ := bnd2 hf
  refine x_callVi (As := [.int v2, .int v1]) cf_X1_83 (c_X1_greatestIncome l G N v0 v2 v1 h _ _ q12) rfl ⟨rfl, rfl, Nat.le_of_ble_eq_true rfl, Nat.le_of_ble_eq_true rfl⟩ ⟨Nat.le_of_ble_eq_true rfl, Nat.le_of_ble_eq_true rfl⟩ X M (x_recv cls_X1 X M q11) rfl rfl hl.1 (Nat.le_of_ble_eq_true rfl) dX1_wantedLevel_23 (fun H locs M => ?_)
  refine lv_istore (lv' := [(5, .int t14), (4, .int t9), (0, .ref (gB G + v0)), (1, .int v1), (2, .int v2), (3, .int v3)]) X.1 X.2.1 dX1_wantedLevel_26 hl (by decide) rfl (fun ls hl => ?_)
  refine lv_aload_n X.1 X.2.1 dX1_wantedLevel_28 rfl (lv_at hl 2 rfl) ?_
  refine lv_iload_n X.1 X.2.1 dX1_wantedLevel_29 rfl (lv_at hl 3 rfl) ?_
  refine lv_iload X.1 X.2.1 dX1_wantedLevel_30 (lv_at hl 0 rfl) ?_
  obtain ⟨⟨⟩, q15, hf⟩ := bnd hf
  obtain ⟨t18, h17, q16, hf⟩ := bnd2 hf
  refine x_callVi (As := [.int v1, .int t14]) cf_X1_79 (c_X1_share l G N v0 v1 t14 h13 _ _ q16) rfl ⟨rfl, rfl, Nat.le_of_ble_eq_true rfl, Nat.le_of_ble_eq_true rfl⟩ ⟨Nat.le_of_ble_eq_true rfl, Nat.le_of_ble_eq_true rfl⟩ X M (x_recv cls_X1 X M q15) rfl rfl hl.1 (Nat.le_of_ble_eq_true rfl) dX1_wantedLevel_32 (fun H locs M => ?_)
  refine lv_istore (lv' := [(6, .int t18), (5, .int t14), (4, .int t9), (0, .ref (gB G + v0)), (1, .int v1), (2, .int v2), (3, .int v3)]) X.1 X.2.1 dX1_wantedLevel_35 hl (by decide) rfl (fun ls hl => ?_)
  refine lv_aload_n X.1 X.2.1 dX1_wantedLevel_37 rfl (lv_at hl 3 rfl) ?_
  refine lv_iload_n X.1 X.2.1 dX1_wantedLevel_38 rfl (lv_at hl 5 rfl) ?_
  refine lv_iload_n X.1 X.2.1 dX1_wantedLevel_39 rfl (lv_at hl 4 rfl) ?_
  refine lv_iload X.1 X.2.1 dX1_wantedLevel_40 (lv_at hl 1 rfl) ?_
  obtain ⟨⟨⟩, q19, hf⟩ := bnd hf
  obtain ⟨t22, h21, q20, hf⟩ := bnd2 hf
  refine x_callVi (As := [.int v2, .int v1, .int t14]) cf_X1_89 (c_X1_sharesTogether l G N v0 v2 v1 t14 h17 _ _ q20) rfl ⟨rfl, rfl, Nat.le_of_ble_eq_true rfl, Nat.le_of_ble_eq_true rfl⟩ ⟨Nat.le_of_ble_eq_true rfl, Nat.le_of_ble_eq_true rfl⟩ X M (x_recv cls_X1 X M q19) rfl rfl hl.1 (Nat.le_of_ble_eq_true rfl) dX1_wantedLevel_42 (fun H locs M => ?_)
  refine lv_istore (lv' := [(7, .int t22), (6, .int t18), (5, .int t14), (4, .int t9), (0, .ref (gB G + v0)), (1, .int v1), (2, .int v2), (3, .int v3)]) X.1 X.2.1 dX1_wantedLevel_45 hl (by decide) rfl (fun ls hl => ?_)
  refine lv_iload_n X.1 X.2.1 dX1_wantedLevel_47 rfl (lv_at hl 6 rfl) ?_
  refine lv_iconst (v := (3 : Int32)) X.1 X.2.1 dX1_wantedLevel_48 (by decide) ?_
  refine lv_imul X.1 X.2.1 dX1_wantedLevel_49 ?_
  refine lv_iload_n X.1 X.2.1 dX1_wantedLevel_50 rfl (lv_at hl 7 rfl) ?_
  refine lv_iadd X.1 X.2.1 dX1_wantedLevel_51 ?_
  refine lv_istore (lv' := [(8, .int ((v2 * (3 : Int32)) + v3)), (7, .int t22), (6, .int t18), (5, .int t14), (4, .int t9), (0, .ref (gB G + v0)), (1, .int v1), (2, .int v2), (3, .int v3)]) X.1 X.2.1 dX1_wantedLevel_52 hl (by decide) rfl (fun ls hl => ?_)
  refine lv_aload_n X.1 X.2.1 dX1_wantedLevel_54 rfl (lv_at hl 5 rfl) ?_
  obtain ⟨t23, q24, hf⟩ := bnd hf
  refine x_getr fl_X1_15 X M q24 dX1_wantedLevel_55 ?_
  refine lv_iload X.1 X.2.1 dX1_wantedLevel_58 (lv_at hl 0 rfl) ?_
  obtain ⟨t25, q26, hf⟩ := bnd hf
  refine x_iald X M q26 dX1_wantedLevel_60 ?_
  refine lv_istore (lv' := [(9, .int t25), (8, .int ((v2 * (3 : Int32)) + v3)), (7, .int t22), (6, .int t18), (5, .int t14), (4, .int t9), (0, .ref (gB G + v0)), (1, .int v1), (2, .int v2), (3, .int v3)]) X.1 X.2.1 dX1_wantedLevel_61 hl (by decide) rfl (fun ls hl => ?_)
  refine lv_iconst (v := (0 : Int32)) X.1 X.2.1 dX1_wantedLevel_63 (by decide) ?_
  refine lv_istore (lv' := [(10, .int (0 : Int32)), (9, .int t25), (8, .int ((v2 * (3 : Int32)) + v3)), (7, .int t22), (6, .int t18), (5, .int t14), (4, .int t9), (0, .ref (gB G + v0)), (1, .int v1), (2, .int v2), (3, .int v3)]) X.1 X.2.1 dX1_wantedLevel_64 hl (by decide) rfl (fun ls hl => ?_)
  refine lv_iconst (v := (0 : Int32)) X.1 X.2.1 dX1_wantedLevel_66 (by decide) ?_
  refine lv_istore (lv' := [(11, .int (0 : Int32)), (10, .int (0 : Int32)), (9, .int t25), (8, .int ((v2 * (3 : Int32)) + v3)), (7, .int t22), (6, .int t18), (5, .int t14), (4, .int t9), (0, .ref (gB G + v0)), (1, .int v1), (2, .int v2), (3, .int v3)]) X.1 X.2.1 dX1_wantedLevel_67 hl (by decide) rfl (fun ls hl => ?_)
  refine lv_iconst (v := (0 : Int32)) X.1 X.2.1 dX1_wantedLevel_69 (by decide) ?_
  refine lv_istore (lv' := [(12, .int (0 : Int32)), (11, .int (0 : Int32)), (10, .int (0 : Int32)), (9, .int t25), (8, .int ((v2 * (3 : Int32)) + v3)), (7, .int t22), (6, .int t18), (5, .int t14), (4, .int t9), (0, .ref (gB G + v0)), (1, .int v1), (2, .int v2), (3, .int v3)]) X.1 X.2.1 dX1_wantedLevel_70 hl (by decide) rfl (fun ls hl => ?_)
  exact w_X1_wantedLevel_72 X hr hk N N v0 v2 t9 t18 t22 ((v2 * (3 : Int32)) + v3) t25 (0 : Int32) (0 : Int32) (0 : Int32) h21 hf _ _ _ M (lv_sub hl [9, 11, 8, 6, 5, 4, 3, 2, 1, 0] rfl)
theorem c_X1_wantedLevel (l : Launch) (G : Gx) (N : Nat) (v0 : Nat) (v1 : Int32) (v2 : Int32) (v3 : Int32) (h : Mem) (r : Int32) (h' : Mem) (hf : f_X1_wantedLevel N v0 v1 v2 v3 h = some (r, h')) : MetG l G yX1_wantedLevel (.code yX1_wantedLevel cX1_wantedLevel 14 (Option.some Jvm.ClassFile.FieldType.int)) rm_X1_wantedLevel [.ref (gB G + v0), .int v1, .int v2, .int v3] h (QcI G r h') 0 0 :=
  x_met (by decide) rfl (Nat.le_of_ble_eq_true rfl) (fun p e s m args below meth c ls X M hr hk hin hl => w_X1_wantedLevel X hr hk N v0 v1 v2 v3 h hf _ _ ls M hl)
abbrev rm_X1_middleWant : Room := { frames := 1, cells := 0, slots := 0, locals := 40 }
def f_X1_middleWant_4 (N : Nat) (n : Nat) (v0 : Nat) (v1 : Int32) (v2 : Int32) (v3 : Int32) (h : Mem) : Option (Int32 × Mem) := match n with
  | 0 => none
  | n + 1 =>
    if (6 : Int32) ≤ v3 then
      some ((0 : Int32), h)
    else
      (gR h v0 1 12).bind fun t2 =>
      (lI 100 h t2 v3).bind fun t4 =>
      if ((2 : Int32) * (v2 + t4)) < v1 then
        f_X1_middleWant_4 N n v0 v1 (v2 + t4) (v3 + 1) h
      else
        some (v3, h)
set_option maxRecDepth 100000 in
set_option maxHeartbeats 4000000 in
theorem w_X1_middleWant_4 {p : Program} {l : Launch} {e : Env} {s : State} {m : MethodId} {args : Array Value} {below : List Frame} {meth : Method} {c : Code} {G : Gx} {r : Int32} {h' : Mem} (X : CX G p s m args c cX1_middleWant 4 RX1) (hr : meth.sig.returnType = (Option.some Jvm.ClassFile.FieldType.int)) (hk : meth.locks = false) (N : Nat) : ∀ (n : Nat) (v0 : Nat) (v1 : Int32) (v2 : Int32) (v3 : Int32) (h : Mem), f_X1_middleWant_4 N n v0 v1 v2 v3 h = some (r, h') → ∀ (H : Heap) (locs : List Loc) (ls : Array Slot), MS G s h H locs 0 → lv_has ls 4 [(0, .ref (gB G + v0)), (1, .int v1), (2, .int v2), (3, .int v3)] → W p l e (rm_X1_middleWant) s m args below meth c H locs 0 0 (QI G below args s r h' 0 0) (F0 m 4 ls []) := by
  intro n
  induction n with
  | zero =>
    intro v0 v1 v2 v3 h hf
    cases hf
  | succ n ih =>
    intro v0 v1 v2 v3 h hf H locs ls M hl
    rw [f_X1_middleWant_4] at hf
    refine lv_iload_n X.1 X.2.1 dX1_middleWant_4 rfl (lv_at hl 3 rfl) ?_
    refine lv_bipush (v := (6 : Int32)) X.1 X.2.1 dX1_middleWant_5 (by decide) ?_
    refine lv_icmp_ge (tgt := 34) X.1 X.2.1 dX1_middleWant_7 (by decide) (fun c1 => ?_) (fun c1 => ?_)
    · have hf := ifp c1 hf
      refine lv_iconst (v := (0 : Int32)) X.1 X.2.1 dX1_middleWant_34 (by decide) ?_
      obtain ⟨rfl, rfl⟩ := rt2 hf
      exact x_iret X hr hk M dX1_middleWant_35
    · have hf := ifn c1 hf
      refine lv_iload_n X.1 X.2.1 dX1_middleWant_10 rfl (lv_at hl 2 rfl) ?_
      refine lv_aload_n X.1 X.2.1 dX1_middleWant_11 rfl (lv_at hl 0 rfl) ?_
      obtain ⟨t2, q3, hf⟩ := bnd hf
      refine x_getr fl_X1_39 X M q3 dX1_middleWant_12 ?_
      refine lv_iload_n X.1 X.2.1 dX1_middleWant_15 rfl (lv_at hl 3 rfl) ?_
      obtain ⟨t4, q5, hf⟩ := bnd hf
      refine x_iald X M q5 dX1_middleWant_16 ?_
      refine lv_iadd X.1 X.2.1 dX1_middleWant_17 ?_
      refine lv_istore_n (lv' := [(2, .int (v2 + t4)), (0, .ref (gB G + v0)), (1, .int v1), (3, .int v3)]) X.1 X.2.1 dX1_middleWant_18 rfl hl (by decide) rfl (fun ls hl => ?_)
      refine lv_iconst (v := (2 : Int32)) X.1 X.2.1 dX1_middleWant_19 (by decide) ?_
      refine lv_iload_n X.1 X.2.1 dX1_middleWant_20 rfl (lv_at hl 0 rfl) ?_
      refine lv_imul X.1 X.2.1 dX1_middleWant_21 ?_
      refine lv_iload_n X.1 X.2.1 dX1_middleWant_22 rfl (lv_at hl 2 rfl) ?_
      refine lv_icmp_lt (tgt := 28) X.1 X.2.1 dX1_middleWant_23 (by decide) (fun c6 => ?_) (fun c6 => ?_)
      · have hf := ifp c6 hf
        refine lv_iinc (v := (v3 + 1)) (lv' := [(3, .int (v3 + 1)), (2, .int (v2 + t4)), (0, .ref (gB G + v0)), (1, .int v1)]) X.1 X.2.1 dX1_middleWant_28 hl (k := 3) rfl (by first | rfl | decide) (by decide) rfl (fun ls hl => ?_)
        refine lv_goto (tgt := 4) X.1 X.2.1 dX1_middleWant_31 (by decide) ?_
        exact ih v0 v1 (v2 + t4) (v3 + 1) h hf _ _ _ M (lv_sub hl [2, 3, 1, 0] rfl)
      · have hf := ifn c6 hf
        refine lv_iload_n X.1 X.2.1 dX1_middleWant_26 rfl (lv_at hl 3 rfl) ?_
        obtain ⟨rfl, rfl⟩ := rt2 hf
        exact x_iret X hr hk M dX1_middleWant_27
def f_X1_middleWant (N : Nat) (v0 : Nat) (v1 : Int32) (h : Mem) : Option (Int32 × Mem) :=
  f_X1_middleWant_4 N N v0 v1 (0 : Int32) (0 : Int32) h
set_option maxRecDepth 100000 in
set_option maxHeartbeats 4000000 in
theorem w_X1_middleWant {p : Program} {l : Launch} {e : Env} {s : State} {m : MethodId} {args : Array Value} {below : List Frame} {meth : Method} {c : Code} {G : Gx} {r : Int32} {h' : Mem} (X : CX G p s m args c cX1_middleWant 4 RX1) (hr : meth.sig.returnType = (Option.some Jvm.ClassFile.FieldType.int)) (hk : meth.locks = false) (N : Nat) : ∀ (v0 : Nat) (v1 : Int32) (h : Mem), f_X1_middleWant N v0 v1 h = some (r, h') → ∀ (H : Heap) (locs : List Loc) (ls : Array Slot), MS G s h H locs 0 → lv_has ls 4 [(0, .ref (gB G + v0)), (1, .int v1)] → W p l e (rm_X1_middleWant) s m args below meth c H locs 0 0 (QI G below args s r h' 0 0) (F0 m 0 ls []) := by
  intro v0 v1 h hf H locs ls M hl
  rw [f_X1_middleWant] at hf
  refine lv_iconst (v := (0 : Int32)) X.1 X.2.1 dX1_middleWant_0 (by decide) ?_
  refine lv_istore_n (lv' := [(2, .int (0 : Int32)), (0, .ref (gB G + v0)), (1, .int v1)]) X.1 X.2.1 dX1_middleWant_1 rfl hl (by decide) rfl (fun ls hl => ?_)
  refine lv_iconst (v := (0 : Int32)) X.1 X.2.1 dX1_middleWant_2 (by decide) ?_
  refine lv_istore_n (lv' := [(3, .int (0 : Int32)), (2, .int (0 : Int32)), (0, .ref (gB G + v0)), (1, .int v1)]) X.1 X.2.1 dX1_middleWant_3 rfl hl (by decide) rfl (fun ls hl => ?_)
  exact w_X1_middleWant_4 X hr hk N N v0 v1 (0 : Int32) (0 : Int32) h hf _ _ _ M (lv_sub hl [2, 3, 1, 0] rfl)
theorem c_X1_middleWant (l : Launch) (G : Gx) (N : Nat) (v0 : Nat) (v1 : Int32) (h : Mem) (r : Int32) (h' : Mem) (hf : f_X1_middleWant N v0 v1 h = some (r, h')) : MetG l G yX1_middleWant (.code yX1_middleWant cX1_middleWant 4 (Option.some Jvm.ClassFile.FieldType.int)) rm_X1_middleWant [.ref (gB G + v0), .int v1] h (QcI G r h') 0 0 :=
  x_met (by decide) rfl (Nat.le_of_ble_eq_true rfl) (fun p e s m args below meth c ls X M hr hk hin hl => w_X1_middleWant X hr hk N v0 v1 h hf _ _ ls M hl)
abbrev rm_X1_commonestWant : Room := { frames := 1, cells := 0, slots := 0, locals := 40 }
def f_X1_commonestWant_4 (N : Nat) (n : Nat) (v0 : Nat) (v1 : Int32) (v2 : Int32) (h : Mem) : Option (Int32 × Mem) := match n with
  | 0 => none
  | n + 1 =>
    if (6 : Int32) ≤ v2 then
      some (v1, h)
    else
      (gR h v0 1 12).bind fun t2 =>
      (lI 100 h t2 v2).bind fun t4 =>
      (gR h v0 1 12).bind fun t6 =>
      (lI 100 h t6 v1).bind fun t8 =>
      if t4 ≤ t8 then
        f_X1_commonestWant_4 N n v0 v1 (v2 + 1) h
      else
        f_X1_commonestWant_4 N n v0 v2 (v2 + 1) h
set_option maxRecDepth 100000 in
set_option maxHeartbeats 4000000 in
theorem w_X1_commonestWant_4 {p : Program} {l : Launch} {e : Env} {s : State} {m : MethodId} {args : Array Value} {below : List Frame} {meth : Method} {c : Code} {G : Gx} {r : Int32} {h' : Mem} (X : CX G p s m args c cX1_commonestWant 3 RX1) (hr : meth.sig.returnType = (Option.some Jvm.ClassFile.FieldType.int)) (hk : meth.locks = false) (N : Nat) : ∀ (n : Nat) (v0 : Nat) (v1 : Int32) (v2 : Int32) (h : Mem), f_X1_commonestWant_4 N n v0 v1 v2 h = some (r, h') → ∀ (H : Heap) (locs : List Loc) (ls : Array Slot), MS G s h H locs 0 → lv_has ls 3 [(0, .ref (gB G + v0)), (1, .int v1), (2, .int v2)] → W p l e (rm_X1_commonestWant) s m args below meth c H locs 0 0 (QI G below args s r h' 0 0) (F0 m 4 ls []) := by
  intro n
  induction n with
  | zero =>
    intro v0 v1 v2 h hf
    cases hf
  | succ n ih =>
    intro v0 v1 v2 h hf H locs ls M hl
    rw [f_X1_commonestWant_4] at hf
    refine lv_iload_n X.1 X.2.1 dX1_commonestWant_4 rfl (lv_at hl 2 rfl) ?_
    refine lv_bipush (v := (6 : Int32)) X.1 X.2.1 dX1_commonestWant_5 (by decide) ?_
    refine lv_icmp_ge (tgt := 33) X.1 X.2.1 dX1_commonestWant_7 (by decide) (fun c1 => ?_) (fun c1 => ?_)
    · have hf := ifp c1 hf
      refine lv_iload_n X.1 X.2.1 dX1_commonestWant_33 rfl (lv_at hl 1 rfl) ?_
      obtain ⟨rfl, rfl⟩ := rt2 hf
      exact x_iret X hr hk M dX1_commonestWant_34
    · have hf := ifn c1 hf
      refine lv_aload_n X.1 X.2.1 dX1_commonestWant_10 rfl (lv_at hl 0 rfl) ?_
      obtain ⟨t2, q3, hf⟩ := bnd hf
      refine x_getr fl_X1_39 X M q3 dX1_commonestWant_11 ?_
      refine lv_iload_n X.1 X.2.1 dX1_commonestWant_14 rfl (lv_at hl 2 rfl) ?_
      obtain ⟨t4, q5, hf⟩ := bnd hf
      refine x_iald X M q5 dX1_commonestWant_15 ?_
      refine lv_aload_n X.1 X.2.1 dX1_commonestWant_16 rfl (lv_at hl 0 rfl) ?_
      obtain ⟨t6, q7, hf⟩ := bnd hf
      refine x_getr fl_X1_39 X M q7 dX1_commonestWant_17 ?_
      refine lv_iload_n X.1 X.2.1 dX1_commonestWant_20 rfl (lv_at hl 1 rfl) ?_
      obtain ⟨t8, q9, hf⟩ := bnd hf
      refine x_iald X M q9 dX1_commonestWant_21 ?_
      refine lv_icmp_le (tgt := 27) X.1 X.2.1 dX1_commonestWant_22 (by decide) (fun c10 => ?_) (fun c10 => ?_)
      · have hf := ifp c10 hf
        refine lv_iinc (v := (v2 + 1)) (lv' := [(2, .int (v2 + 1)), (0, .ref (gB G + v0)), (1, .int v1)]) X.1 X.2.1 dX1_commonestWant_27 hl (k := 2) rfl (by first | rfl | decide) (by decide) rfl (fun ls hl => ?_)
        refine lv_goto (tgt := 4) X.1 X.2.1 dX1_commonestWant_30 (by decide) ?_
        exact ih v0 v1 (v2 + 1) h hf _ _ _ M (lv_sub hl [1, 2, 0] rfl)
      · have hf := ifn c10 hf
        refine lv_iload_n X.1 X.2.1 dX1_commonestWant_25 rfl (lv_at hl 2 rfl) ?_
        refine lv_istore_n (lv' := [(1, .int v2), (0, .ref (gB G + v0)), (2, .int v2)]) X.1 X.2.1 dX1_commonestWant_26 rfl hl (by decide) rfl (fun ls hl => ?_)
        refine lv_iinc (v := (v2 + 1)) (lv' := [(2, .int (v2 + 1)), (1, .int v2), (0, .ref (gB G + v0))]) X.1 X.2.1 dX1_commonestWant_27 hl (k := 2) rfl (by first | rfl | decide) (by decide) rfl (fun ls hl => ?_)
        refine lv_goto (tgt := 4) X.1 X.2.1 dX1_commonestWant_30 (by decide) ?_
        exact ih v0 v2 (v2 + 1) h hf _ _ _ M (lv_sub hl [2, 1, 0] rfl)
def f_X1_commonestWant (N : Nat) (v0 : Nat) (h : Mem) : Option (Int32 × Mem) :=
  f_X1_commonestWant_4 N N v0 (0 : Int32) (1 : Int32) h
set_option maxRecDepth 100000 in
set_option maxHeartbeats 4000000 in
theorem w_X1_commonestWant {p : Program} {l : Launch} {e : Env} {s : State} {m : MethodId} {args : Array Value} {below : List Frame} {meth : Method} {c : Code} {G : Gx} {r : Int32} {h' : Mem} (X : CX G p s m args c cX1_commonestWant 3 RX1) (hr : meth.sig.returnType = (Option.some Jvm.ClassFile.FieldType.int)) (hk : meth.locks = false) (N : Nat) : ∀ (v0 : Nat) (h : Mem), f_X1_commonestWant N v0 h = some (r, h') → ∀ (H : Heap) (locs : List Loc) (ls : Array Slot), MS G s h H locs 0 → lv_has ls 3 [(0, .ref (gB G + v0))] → W p l e (rm_X1_commonestWant) s m args below meth c H locs 0 0 (QI G below args s r h' 0 0) (F0 m 0 ls []) := by
  intro v0 h hf H locs ls M hl
  rw [f_X1_commonestWant] at hf
  refine lv_iconst (v := (0 : Int32)) X.1 X.2.1 dX1_commonestWant_0 (by decide) ?_
  refine lv_istore_n (lv' := [(1, .int (0 : Int32)), (0, .ref (gB G + v0))]) X.1 X.2.1 dX1_commonestWant_1 rfl hl (by decide) rfl (fun ls hl => ?_)
  refine lv_iconst (v := (1 : Int32)) X.1 X.2.1 dX1_commonestWant_2 (by decide) ?_
  refine lv_istore_n (lv' := [(2, .int (1 : Int32)), (1, .int (0 : Int32)), (0, .ref (gB G + v0))]) X.1 X.2.1 dX1_commonestWant_3 rfl hl (by decide) rfl (fun ls hl => ?_)
  exact w_X1_commonestWant_4 X hr hk N N v0 (0 : Int32) (1 : Int32) h hf _ _ _ M (lv_sub hl [2, 1, 0] rfl)
theorem c_X1_commonestWant (l : Launch) (G : Gx) (N : Nat) (v0 : Nat) (h : Mem) (r : Int32) (h' : Mem) (hf : f_X1_commonestWant N v0 h = some (r, h')) : MetG l G yX1_commonestWant (.code yX1_commonestWant cX1_commonestWant 3 (Option.some Jvm.ClassFile.FieldType.int)) rm_X1_commonestWant [.ref (gB G + v0)] h (QcI G r h') 0 0 :=
  x_met (by decide) rfl (Nat.le_of_ble_eq_true rfl) (fun p e s m args below meth c ls X M hr hk hin hl => w_X1_commonestWant X hr hk N v0 h hf _ _ ls M hl)
abbrev rm_X1_chosenLevel : Room := { frames := 4, cells := 0, slots := 0, locals := 121 }
def f_X1_chosenLevel_31 (N : Nat) (v0 : Nat) (v1 : Int32) (v2 : Int32) (h : Mem) (k32 : Nat → Int32 → Int32 → Int32 → Mem → Option (Int32 × Mem)) : Option (Int32 × Mem) :=
  k32 v0 v1 v2 (0 : Int32) h
set_option maxRecDepth 100000 in
set_option maxHeartbeats 4000000 in
theorem w_X1_chosenLevel_31 {p : Program} {l : Launch} {e : Env} {s : State} {m : MethodId} {args : Array Value} {below : List Frame} {meth : Method} {c : Code} {G : Gx} {r : Int32} {h' : Mem} (X : CX G p s m args c cX1_chosenLevel 6 RX1) (hr : meth.sig.returnType = (Option.some Jvm.ClassFile.FieldType.int)) (hk : meth.locks = false) (N : Nat) (k32 : Nat → Int32 → Int32 → Int32 → Mem → Option (Int32 × Mem)) (K32 : ∀ (v0 : Nat) (v1 : Int32) (v2 : Int32) (s0 : Int32) (h : Mem), k32 v0 v1 v2 s0 h = some (r, h') → ∀ (H : Heap) (locs : List Loc) (ls : Array Slot), MS G s h H locs 0 → lv_has ls 6 [(0, .ref (gB G + v0)), (1, .int v1), (2, .int v2)] → W p l e (rm_X1_chosenLevel) s m args below meth c H locs 0 0 (QI G below args s r h' 0 0) (F0 m 32 ls [.int s0])) : ∀ (v0 : Nat) (v1 : Int32) (v2 : Int32) (h : Mem), f_X1_chosenLevel_31 N v0 v1 v2 h k32 = some (r, h') → ∀ (H : Heap) (locs : List Loc) (ls : Array Slot), MS G s h H locs 0 → lv_has ls 6 [(0, .ref (gB G + v0)), (1, .int v1), (2, .int v2)] → W p l e (rm_X1_chosenLevel) s m args below meth c H locs 0 0 (QI G below args s r h' 0 0) (F0 m 31 ls []) := by
  intro v0 v1 v2 h hf H locs ls M hl
  rw [f_X1_chosenLevel_31] at hf
  refine lv_iconst (v := (0 : Int32)) X.1 X.2.1 dX1_chosenLevel_31 (by decide) ?_
  exact K32 v0 v1 v2 (0 : Int32) h hf _ _ _ M (lv_sub hl [0, 1, 2] rfl)
def f_X1_chosenLevel_74 (N : Nat) (v0 : Nat) (v1 : Int32) (v2 : Int32) (v3 : Int32) (v4 : Int32) (v5 : Int32) (h : Mem) (k39 : Nat → Int32 → Int32 → Int32 → Int32 → Int32 → Mem → Option (Int32 × Mem)) : Option (Int32 × Mem) :=
  (gR h v0 1 12).bind fun t1 =>
  (ck h v0 1).bind fun _ =>
  b2 (f_X1_wantedLevel N v0 v5 v1 v2 h) fun t6 h5 =>
  (lI 100 h5 t1 t6).bind fun t7 =>
  (stI 100 h5 t1 t6 (t7 + (1 : Int32))).bind fun h9 =>
  k39 v0 v1 v2 v3 (v4 + 1) (v5 + 1) h9
set_option maxRecDepth 100000 in
set_option maxHeartbeats 4000000 in
theorem w_X1_chosenLevel_74 {p : Program} {l : Launch} {e : Env} {s : State} {m : MethodId} {args : Array Value} {below : List Frame} {meth : Method} {c : Code} {G : Gx} {r : Int32} {h' : Mem} (X : CX G p s m args c cX1_chosenLevel 6 RX1) (hr : meth.sig.returnType = (Option.some Jvm.ClassFile.FieldType.int)) (hk : meth.locks = false) (N : Nat) (k39 : Nat → Int32 → Int32 → Int32 → Int32 → Int32 → Mem → Option (Int32 × Mem)) (K39 : ∀ (v0 : Nat) (v1 : Int32) (v2 : Int32) (v3 : Int32) (v4 : Int32) (v5 : Int32) (h : Mem), k39 v0 v1 v2 v3 v4 v5 h = some (r, h') → ∀ (H : Heap) (locs : List Loc) (ls : Array Slot), MS G s h H locs 0 → lv_has ls 6 [(0, .ref (gB G + v0)), (1, .int v1), (2, .int v2), (3, .int v3), (4, .int v4), (5, .int v5)] → W p l e (rm_X1_chosenLevel) s m args below meth c H locs 0 0 (QI G below args s r h' 0 0) (F0 m 39 ls [])) : ∀ (v0 : Nat) (v1 : Int32) (v2 : Int32) (v3 : Int32) (v4 : Int32) (v5 : Int32) (h : Mem), f_X1_chosenLevel_74 N v0 v1 v2 v3 v4 v5 h k39 = some (r, h') → ∀ (H : Heap) (locs : List Loc) (ls : Array Slot), MS G s h H locs 0 → lv_has ls 6 [(0, .ref (gB G + v0)), (1, .int v1), (2, .int v2), (3, .int v3), (4, .int v4), (5, .int v5)] → W p l e (rm_X1_chosenLevel) s m args below meth c H locs 0 0 (QI G below args s r h' 0 0) (F0 m 74 ls []) := by
  intro v0 v1 v2 v3 v4 v5 h hf H locs ls M hl
  rw [f_X1_chosenLevel_74] at hf
  refine lv_aload_n X.1 X.2.1 dX1_chosenLevel_74 rfl (lv_at hl 0 rfl) ?_
  obtain ⟨t1, q2, hf⟩ := bnd hf
  refine x_getr fl_X1_39 X M q2 dX1_chosenLevel_75 ?_
  refine lv_aload_n X.1 X.2.1 dX1_chosenLevel_78 rfl (lv_at hl 0 rfl) ?_
  refine lv_iload X.1 X.2.1 dX1_chosenLevel_79 (lv_at hl 5 rfl) ?_
  refine lv_iload_n X.1 X.2.1 dX1_chosenLevel_81 rfl (lv_at hl 1 rfl) ?_
  refine lv_iload_n X.1 X.2.1 dX1_chosenLevel_82 rfl (lv_at hl 2 rfl) ?_
  obtain ⟨⟨⟩, q3, hf⟩ := bnd hf
  obtain ⟨t6, h5, q4, hf⟩ := bnd2 hf
  refine x_callVi (As := [.int v5, .int v1, .int v2]) cf_X1_136 (c_X1_wantedLevel l G N v0 v5 v1 v2 h _ _ q4) rfl ⟨rfl, rfl, Nat.le_of_ble_eq_true rfl, Nat.le_of_ble_eq_true rfl⟩ ⟨Nat.le_of_ble_eq_true rfl, Nat.le_of_ble_eq_true rfl⟩ X M (x_recv cls_X1 X M q3) rfl rfl hl.1 (Nat.le_of_ble_eq_true rfl) dX1_chosenLevel_83 (fun H locs M => ?_)
  refine lv_dup2_11 X.1 X.2.1 dX1_chosenLevel_86 rfl rfl ?_
  obtain ⟨t7, q8, hf⟩ := bnd hf
  refine x_iald X M q8 dX1_chosenLevel_87 ?_
  refine lv_iconst (v := (1 : Int32)) X.1 X.2.1 dX1_chosenLevel_88 (by decide) ?_
  refine lv_iadd X.1 X.2.1 dX1_chosenLevel_89 ?_
  obtain ⟨h9, q10, hf⟩ := bnd hf
  refine x_iast X M q10 dX1_chosenLevel_90 (fun H locs M => ?_)
  refine lv_iinc (v := (v4 + 1)) (lv' := [(4, .int (v4 + 1)), (0, .ref (gB G + v0)), (1, .int v1), (2, .int v2), (3, .int v3), (5, .int v5)]) X.1 X.2.1 dX1_chosenLevel_91 hl (k := 4) rfl (by first | rfl | decide) (by decide) rfl (fun ls hl => ?_)
  refine lv_iinc (v := (v5 + 1)) (lv' := [(5, .int (v5 + 1)), (4, .int (v4 + 1)), (0, .ref (gB G + v0)), (1, .int v1), (2, .int v2), (3, .int v3)]) X.1 X.2.1 dX1_chosenLevel_94 hl (k := 5) rfl (by first | rfl | decide) (by decide) rfl (fun ls hl => ?_)
  refine lv_goto (tgt := 39) X.1 X.2.1 dX1_chosenLevel_97 (by decide) ?_
  exact K39 v0 v1 v2 v3 (v4 + 1) (v5 + 1) h9 hf _ _ _ M (lv_sub hl [2, 3, 4, 5, 1, 0] rfl)
def f_X1_chosenLevel_39 (N : Nat) (n : Nat) (v0 : Nat) (v1 : Int32) (v2 : Int32) (v3 : Int32) (v4 : Int32) (v5 : Int32) (h : Mem) : Option (Int32 × Mem) := match n with
  | 0 => none
  | n + 1 =>
    (gI h v0 1 2).bind fun t1 =>
    if t1 ≤ v5 then
      (gR h v0 1 0).bind fun t4 =>
      (gI h t4 3 5).bind fun t6 =>
      if t6 = (1 : Int32) then
        (ck h v0 1).bind fun _ =>
        b2 (f_X1_middleWant N v0 v4 h) fun t16 h15 =>
        some (t16, h15)
      else
        (ck h v0 1).bind fun _ =>
        b2 (f_X1_commonestWant N v0 h) fun t12 h11 =>
        some (t12, h11)
    else
      (gR h v0 1 10).bind fun t17 =>
      (lI 100 h t17 v5).bind fun t19 =>
      if t19 = v1 then
        if v3 = 0 then
          f_X1_chosenLevel_74 N v0 v1 v2 v3 v4 v5 h (fun v0 v1 v2 v3 v4 v5 h => f_X1_chosenLevel_39 N n v0 v1 v2 v3 v4 v5 h)
        else
          (gR h v0 1 11).bind fun t23 =>
          (lI 100 h t23 v5).bind fun t25 =>
          if t25 = v1 then
            f_X1_chosenLevel_74 N v0 v1 v2 v3 v4 v5 h (fun v0 v1 v2 v3 v4 v5 h => f_X1_chosenLevel_39 N n v0 v1 v2 v3 v4 v5 h)
          else
            f_X1_chosenLevel_39 N n v0 v1 v2 v3 v4 (v5 + 1) h
      else
        f_X1_chosenLevel_39 N n v0 v1 v2 v3 v4 (v5 + 1) h
set_option maxRecDepth 100000 in
set_option maxHeartbeats 4000000 in
theorem w_X1_chosenLevel_39 {p : Program} {l : Launch} {e : Env} {s : State} {m : MethodId} {args : Array Value} {below : List Frame} {meth : Method} {c : Code} {G : Gx} {r : Int32} {h' : Mem} (X : CX G p s m args c cX1_chosenLevel 6 RX1) (hr : meth.sig.returnType = (Option.some Jvm.ClassFile.FieldType.int)) (hk : meth.locks = false) (N : Nat) : ∀ (n : Nat) (v0 : Nat) (v1 : Int32) (v2 : Int32) (v3 : Int32) (v4 : Int32) (v5 : Int32) (h : Mem), f_X1_chosenLevel_39 N n v0 v1 v2 v3 v4 v5 h = some (r, h') → ∀ (H : Heap) (locs : List Loc) (ls : Array Slot), MS G s h H locs 0 → lv_has ls 6 [(0, .ref (gB G + v0)), (1, .int v1), (2, .int v2), (3, .int v3), (4, .int v4), (5, .int v5)] → W p l e (rm_X1_chosenLevel) s m args below meth c H locs 0 0 (QI G below args s r h' 0 0) (F0 m 39 ls []) := by
  intro n
  induction n with
  | zero =>
    intro v0 v1 v2 v3 v4 v5 h hf
    cases hf
  | succ n ih =>
    intro v0 v1 v2 v3 v4 v5 h hf H locs ls M hl
    rw [f_X1_chosenLevel_39] at hf
    refine lv_iload X.1 X.2.1 dX1_chosenLevel_39 (lv_at hl 5 rfl) ?_
    refine lv_aload_n X.1 X.2.1 dX1_chosenLevel_41 rfl (lv_at hl 0 rfl) ?_
    obtain ⟨t1, q2, hf⟩ := bnd hf
    refine x_geti fl_X1_50 X M q2 dX1_chosenLevel_42 ?_
    refine lv_icmp_ge (tgt := 100) X.1 X.2.1 dX1_chosenLevel_45 (by decide) (fun c3 => ?_) (fun c3 => ?_)
    · have hf := ifp c3 hf
      refine lv_aload_n X.1 X.2.1 dX1_chosenLevel_100 rfl (lv_at hl 0 rfl) ?_
      obtain ⟨t4, q5, hf⟩ := bnd hf
      refine x_getr fl_X1_42 X M q5 dX1_chosenLevel_101 ?_
      obtain ⟨t6, q7, hf⟩ := bnd hf
      refine x_geti fl_X1_130 X M q7 dX1_chosenLevel_104 ?_
      refine lv_iconst (v := (1 : Int32)) X.1 X.2.1 dX1_chosenLevel_107 (by decide) ?_
      refine lv_icmp_ne (tgt := 120) X.1 X.2.1 dX1_chosenLevel_108 (by decide) (fun c8 => ?_) (fun c8 => ?_)
      · have hf := ifn c8 hf
        refine lv_aload_n X.1 X.2.1 dX1_chosenLevel_120 rfl (lv_at hl 0 rfl) ?_
        obtain ⟨⟨⟩, q9, hf⟩ := bnd hf
        obtain ⟨t12, h11, q10, hf⟩ := bnd2 hf
        refine x_callVi (As := []) cf_X1_142 (c_X1_commonestWant l G N v0 h _ _ q10) rfl ⟨rfl, rfl, Nat.le_of_ble_eq_true rfl, Nat.le_of_ble_eq_true rfl⟩ ⟨Nat.le_of_ble_eq_true rfl, Nat.le_of_ble_eq_true rfl⟩ X M (x_recv cls_X1 X M q9) rfl rfl hl.1 (Nat.le_of_ble_eq_true rfl) dX1_chosenLevel_121 (fun H locs M => ?_)
        obtain ⟨rfl, rfl⟩ := rt2 hf
        exact x_iret X hr hk M dX1_chosenLevel_124
      · have hf := ifp c8 hf
        refine lv_aload_n X.1 X.2.1 dX1_chosenLevel_111 rfl (lv_at hl 0 rfl) ?_
        refine lv_iload X.1 X.2.1 dX1_chosenLevel_112 (lv_at hl 4 rfl) ?_
        obtain ⟨⟨⟩, q13, hf⟩ := bnd hf
        obtain ⟨t16, h15, q14, hf⟩ := bnd2 hf
        refine x_callVi (As := [.int v4]) cf_X1_139 (c_X1_middleWant l G N v0 v4 h _ _ q14) rfl ⟨rfl, rfl, Nat.le_of_ble_eq_true rfl, Nat.le_of_ble_eq_true rfl⟩ ⟨Nat.le_of_ble_eq_true rfl, Nat.le_of_ble_eq_true rfl⟩ X M (x_recv cls_X1 X M q13) rfl rfl hl.1 (Nat.le_of_ble_eq_true rfl) dX1_chosenLevel_114 (fun H locs M => ?_)
        refine lv_goto (tgt := 124) X.1 X.2.1 dX1_chosenLevel_117 (by decide) ?_
        obtain ⟨rfl, rfl⟩ := rt2 hf
        exact x_iret X hr hk M dX1_chosenLevel_124
    · have hf := ifn c3 hf
      refine lv_aload_n X.1 X.2.1 dX1_chosenLevel_48 rfl (lv_at hl 0 rfl) ?_
      obtain ⟨t17, q18, hf⟩ := bnd hf
      refine x_getr fl_X1_33 X M q18 dX1_chosenLevel_49 ?_
      refine lv_iload X.1 X.2.1 dX1_chosenLevel_52 (lv_at hl 5 rfl) ?_
      obtain ⟨t19, q20, hf⟩ := bnd hf
      refine x_iald X M q20 dX1_chosenLevel_54 ?_
      refine lv_iload_n X.1 X.2.1 dX1_chosenLevel_55 rfl (lv_at hl 1 rfl) ?_
      refine lv_icmp_ne (tgt := 94) X.1 X.2.1 dX1_chosenLevel_56 (by decide) (fun c21 => ?_) (fun c21 => ?_)
      · have hf := ifn c21 hf
        refine lv_iinc (v := (v5 + 1)) (lv' := [(5, .int (v5 + 1)), (0, .ref (gB G + v0)), (1, .int v1), (2, .int v2), (3, .int v3), (4, .int v4)]) X.1 X.2.1 dX1_chosenLevel_94 hl (k := 5) rfl (by first | rfl | decide) (by decide) rfl (fun ls hl => ?_)
        refine lv_goto (tgt := 39) X.1 X.2.1 dX1_chosenLevel_97 (by decide) ?_
        exact ih v0 v1 v2 v3 v4 (v5 + 1) h hf _ _ _ M (lv_sub hl [1, 2, 3, 4, 5, 0] rfl)
      · have hf := ifp c21 hf
        refine lv_iload_n X.1 X.2.1 dX1_chosenLevel_59 rfl (lv_at hl 3 rfl) ?_
        refine lv_if_eq (tgt := 74) X.1 X.2.1 dX1_chosenLevel_60 (by decide) (fun c22 => ?_) (fun c22 => ?_)
        · have hf := ifp c22 hf
          exact w_X1_chosenLevel_74 X hr hk N _ (fun v0 v1 v2 v3 v4 v5 h hf H locs ls M hl => ih v0 v1 v2 v3 v4 v5 h hf H locs ls M hl) v0 v1 v2 v3 v4 v5 h hf _ _ _ M (lv_sub hl [0, 1, 2, 3, 4, 5] rfl)
        · have hf := ifn c22 hf
          refine lv_aload_n X.1 X.2.1 dX1_chosenLevel_63 rfl (lv_at hl 0 rfl) ?_
          obtain ⟨t23, q24, hf⟩ := bnd hf
          refine x_getr fl_X1_36 X M q24 dX1_chosenLevel_64 ?_
          refine lv_iload X.1 X.2.1 dX1_chosenLevel_67 (lv_at hl 5 rfl) ?_
          obtain ⟨t25, q26, hf⟩ := bnd hf
          refine x_iald X M q26 dX1_chosenLevel_69 ?_
          refine lv_iload_n X.1 X.2.1 dX1_chosenLevel_70 rfl (lv_at hl 1 rfl) ?_
          refine lv_icmp_ne (tgt := 94) X.1 X.2.1 dX1_chosenLevel_71 (by decide) (fun c27 => ?_) (fun c27 => ?_)
          · have hf := ifn c27 hf
            refine lv_iinc (v := (v5 + 1)) (lv' := [(5, .int (v5 + 1)), (0, .ref (gB G + v0)), (1, .int v1), (2, .int v2), (3, .int v3), (4, .int v4)]) X.1 X.2.1 dX1_chosenLevel_94 hl (k := 5) rfl (by first | rfl | decide) (by decide) rfl (fun ls hl => ?_)
            refine lv_goto (tgt := 39) X.1 X.2.1 dX1_chosenLevel_97 (by decide) ?_
            exact ih v0 v1 v2 v3 v4 (v5 + 1) h hf _ _ _ M (lv_sub hl [1, 2, 3, 4, 5, 0] rfl)
          · have hf := ifp c27 hf
            exact w_X1_chosenLevel_74 X hr hk N _ (fun v0 v1 v2 v3 v4 v5 h hf H locs ls M hl => ih v0 v1 v2 v3 v4 v5 h hf H locs ls M hl) v0 v1 v2 v3 v4 v5 h hf _ _ _ M (lv_sub hl [0, 1, 2, 3, 4, 5] rfl)
def f_X1_chosenLevel_32 (N : Nat) (v0 : Nat) (v1 : Int32) (v2 : Int32) (s0 : Int32) (h : Mem) : Option (Int32 × Mem) :=
  f_X1_chosenLevel_39 N N v0 v1 v2 s0 (0 : Int32) (0 : Int32) h
set_option maxRecDepth 100000 in
set_option maxHeartbeats 4000000 in
theorem w_X1_chosenLevel_32 {p : Program} {l : Launch} {e : Env} {s : State} {m : MethodId} {args : Array Value} {below : List Frame} {meth : Method} {c : Code} {G : Gx} {r : Int32} {h' : Mem} (X : CX G p s m args c cX1_chosenLevel 6 RX1) (hr : meth.sig.returnType = (Option.some Jvm.ClassFile.FieldType.int)) (hk : meth.locks = false) (N : Nat) : ∀ (v0 : Nat) (v1 : Int32) (v2 : Int32) (s0 : Int32) (h : Mem), f_X1_chosenLevel_32 N v0 v1 v2 s0 h = some (r, h') → ∀ (H : Heap) (locs : List Loc) (ls : Array Slot), MS G s h H locs 0 → lv_has ls 6 [(0, .ref (gB G + v0)), (1, .int v1), (2, .int v2)] → W p l e (rm_X1_chosenLevel) s m args below meth c H locs 0 0 (QI G below args s r h' 0 0) (F0 m 32 ls [.int s0]) := by
  intro v0 v1 v2 s0 h hf H locs ls M hl
  rw [f_X1_chosenLevel_32] at hf
  refine lv_istore_n (lv' := [(3, .int s0), (0, .ref (gB G + v0)), (1, .int v1), (2, .int v2)]) X.1 X.2.1 dX1_chosenLevel_32 rfl hl (by decide) rfl (fun ls hl => ?_)
  refine lv_iconst (v := (0 : Int32)) X.1 X.2.1 dX1_chosenLevel_33 (by decide) ?_
  refine lv_istore (lv' := [(4, .int (0 : Int32)), (3, .int s0), (0, .ref (gB G + v0)), (1, .int v1), (2, .int v2)]) X.1 X.2.1 dX1_chosenLevel_34 hl (by decide) rfl (fun ls hl => ?_)
  refine lv_iconst (v := (0 : Int32)) X.1 X.2.1 dX1_chosenLevel_36 (by decide) ?_
  refine lv_istore (lv' := [(5, .int (0 : Int32)), (4, .int (0 : Int32)), (3, .int s0), (0, .ref (gB G + v0)), (1, .int v1), (2, .int v2)]) X.1 X.2.1 dX1_chosenLevel_37 hl (by decide) rfl (fun ls hl => ?_)
  exact w_X1_chosenLevel_39 X hr hk N N v0 v1 v2 s0 (0 : Int32) (0 : Int32) h hf _ _ _ M (lv_sub hl [3, 4, 5, 2, 1, 0] rfl)
def f_X1_chosenLevel (N : Nat) (v0 : Nat) (v1 : Int32) (v2 : Int32) (h : Mem) : Option (Int32 × Mem) :=
  (gR h v0 1 12).bind fun t1 =>
  (f_J7_fill_53178 N t1 (0 : Int32) h).bind fun h4 =>
  (gR h4 v0 1 0).bind fun t5 =>
  (gI h4 t5 3 5).bind fun t7 =>
  if t7 = (2 : Int32) then
    (ck h4 v0 1).bind fun _ =>
    b2 (f_X1_hasOldOnes N v0 v1 h4) fun t13 h12 =>
    if t13 = 0 then
      f_X1_chosenLevel_31 N v0 v1 v2 h12 (fun v0 v1 v2 s0 h => f_X1_chosenLevel_32 N v0 v1 v2 s0 h)
    else
      f_X1_chosenLevel_32 N v0 v1 v2 (1 : Int32) h12
  else
    f_X1_chosenLevel_31 N v0 v1 v2 h4 (fun v0 v1 v2 s0 h => f_X1_chosenLevel_32 N v0 v1 v2 s0 h)
set_option maxRecDepth 100000 in
set_option maxHeartbeats 4000000 in
theorem w_X1_chosenLevel {p : Program} {l : Launch} {e : Env} {s : State} {m : MethodId} {args : Array Value} {below : List Frame} {meth : Method} {c : Code} {G : Gx} {r : Int32} {h' : Mem} (X : CX G p s m args c cX1_chosenLevel 6 RX1) (hr : meth.sig.returnType = (Option.some Jvm.ClassFile.FieldType.int)) (hk : meth.locks = false) (N : Nat) : ∀ (v0 : Nat) (v1 : Int32) (v2 : Int32) (h : Mem), f_X1_chosenLevel N v0 v1 v2 h = some (r, h') → ∀ (H : Heap) (locs : List Loc) (ls : Array Slot), MS G s h H locs 0 → lv_has ls 6 [(0, .ref (gB G + v0)), (1, .int v1), (2, .int v2)] → W p l e (rm_X1_chosenLevel) s m args below meth c H locs 0 0 (QI G below args s r h' 0 0) (F0 m 0 ls []) := by
  intro v0 v1 v2 h hf H locs ls M hl
  rw [f_X1_chosenLevel] at hf
  refine lv_aload_n X.1 X.2.1 dX1_chosenLevel_0 rfl (lv_at hl 0 rfl) ?_
  obtain ⟨t1, q2, hf⟩ := bnd hf
  refine x_getr fl_X1_39 X M q2 dX1_chosenLevel_1 ?_
  refine lv_iconst (v := (0 : Int32)) X.1 X.2.1 dX1_chosenLevel_4 (by decide) ?_
  obtain ⟨h4, q3, hf⟩ := bnd hf
  refine x_callSv (As := [.ref (gB G + t1), .int (0 : Int32)]) cf_X1_124 (c_J7_fill_53178 l G N t1 (0 : Int32) h _ q3) rfl ⟨rfl, rfl, Nat.le_of_ble_eq_true rfl, Nat.le_of_ble_eq_true rfl⟩ ⟨Nat.le_of_ble_eq_true rfl, Nat.le_of_ble_eq_true rfl⟩ X M rfl rfl hl.1 (Nat.le_of_ble_eq_true rfl) dX1_chosenLevel_5 (fun H locs M => ?_)
  refine lv_aload_n X.1 X.2.1 dX1_chosenLevel_8 rfl (lv_at hl 0 rfl) ?_
  obtain ⟨t5, q6, hf⟩ := bnd hf
  refine x_getr fl_X1_42 X M q6 dX1_chosenLevel_9 ?_
  obtain ⟨t7, q8, hf⟩ := bnd hf
  refine x_geti fl_X1_130 X M q8 dX1_chosenLevel_12 ?_
  refine lv_iconst (v := (2 : Int32)) X.1 X.2.1 dX1_chosenLevel_15 (by decide) ?_
  refine lv_icmp_ne (tgt := 31) X.1 X.2.1 dX1_chosenLevel_16 (by decide) (fun c9 => ?_) (fun c9 => ?_)
  · have hf := ifn c9 hf
    exact w_X1_chosenLevel_31 X hr hk N _ (fun v0 v1 v2 s0 h hf H locs ls M hl => w_X1_chosenLevel_32 X hr hk N v0 v1 v2 s0 h hf H locs ls M hl) v0 v1 v2 h4 hf _ _ _ M (lv_sub hl [0, 1, 2] rfl)
  · have hf := ifp c9 hf
    refine lv_aload_n X.1 X.2.1 dX1_chosenLevel_19 rfl (lv_at hl 0 rfl) ?_
    refine lv_iload_n X.1 X.2.1 dX1_chosenLevel_20 rfl (lv_at hl 1 rfl) ?_
    obtain ⟨⟨⟩, q10, hf⟩ := bnd hf
    obtain ⟨t13, h12, q11, hf⟩ := bnd2 hf
    refine x_callVi (As := [.int v1]) cf_X1_133 (c_X1_hasOldOnes l G N v0 v1 h4 _ _ q11) rfl ⟨rfl, rfl, Nat.le_of_ble_eq_true rfl, Nat.le_of_ble_eq_true rfl⟩ ⟨Nat.le_of_ble_eq_true rfl, Nat.le_of_ble_eq_true rfl⟩ X M (x_recv cls_X1 X M q10) rfl rfl hl.1 (Nat.le_of_ble_eq_true rfl) dX1_chosenLevel_21 (fun H locs M => ?_)
    refine lv_if_eq (tgt := 31) X.1 X.2.1 dX1_chosenLevel_24 (by decide) (fun c14 => ?_) (fun c14 => ?_)
    · have hf := ifp c14 hf
      exact w_X1_chosenLevel_31 X hr hk N _ (fun v0 v1 v2 s0 h hf H locs ls M hl => w_X1_chosenLevel_32 X hr hk N v0 v1 v2 s0 h hf H locs ls M hl) v0 v1 v2 h12 hf _ _ _ M (lv_sub hl [0, 1, 2] rfl)
    · have hf := ifn c14 hf
      refine lv_iconst (v := (1 : Int32)) X.1 X.2.1 dX1_chosenLevel_27 (by decide) ?_
      refine lv_goto (tgt := 32) X.1 X.2.1 dX1_chosenLevel_28 (by decide) ?_
      exact w_X1_chosenLevel_32 X hr hk N v0 v1 v2 (1 : Int32) h12 hf _ _ _ M (lv_sub hl [0, 1, 2] rfl)
theorem c_X1_chosenLevel (l : Launch) (G : Gx) (N : Nat) (v0 : Nat) (v1 : Int32) (v2 : Int32) (h : Mem) (r : Int32) (h' : Mem) (hf : f_X1_chosenLevel N v0 v1 v2 h = some (r, h')) : MetG l G yX1_chosenLevel (.code yX1_chosenLevel cX1_chosenLevel 6 (Option.some Jvm.ClassFile.FieldType.int)) rm_X1_chosenLevel [.ref (gB G + v0), .int v1, .int v2] h (QcI G r h') 0 0 :=
  x_met (by decide) rfl (Nat.le_of_ble_eq_true rfl) (fun p e s m args below meth c ls X M hr hk hin hl => w_X1_chosenLevel X hr hk N v0 v1 v2 h hf _ _ ls M hl)
abbrev rm_X1_vote : Room := { frames := 5, cells := 0, slots := 0, locals := 146 }
def f_X1_vote_4 (N : Nat) (n : Nat) (v0 : Nat) (v1 : Int32) (v2 : Int32) (v3 : Int32) (h : Mem) : Option (Int32 × Mem) := match n with
  | 0 => none
  | n + 1 =>
    if (3 : Int32) ≤ v3 then
      some (v2, h)
    else
      (ck h v0 1).bind fun _ =>
      b2 (f_X1_chosenLevel N v0 v1 v3 h) fun t5 h4 =>
      (gR h4 v0 1 4).bind fun t6 =>
      (lI 100 h4 t6 ((v1 * (3 : Int32)) + v3)).bind fun t8 =>
      if t5 = t8 then
        f_X1_vote_4 N n v0 v1 v2 (v3 + 1) h4
      else
        (gR h4 v0 1 4).bind fun t11 =>
        (stI 100 h4 t11 ((v1 * (3 : Int32)) + v3) t5).bind fun h13 =>
        f_X1_vote_4 N n v0 v1 (v2 + 1) (v3 + 1) h13
set_option maxRecDepth 100000 in
set_option maxHeartbeats 4000000 in
theorem w_X1_vote_4 {p : Program} {l : Launch} {e : Env} {s : State} {m : MethodId} {args : Array Value} {below : List Frame} {meth : Method} {c : Code} {G : Gx} {r : Int32} {h' : Mem} (X : CX G p s m args c cX1_vote 5 RX1) (hr : meth.sig.returnType = (Option.some Jvm.ClassFile.FieldType.int)) (hk : meth.locks = false) (N : Nat) : ∀ (n : Nat) (v0 : Nat) (v1 : Int32) (v2 : Int32) (v3 : Int32) (h : Mem), f_X1_vote_4 N n v0 v1 v2 v3 h = some (r, h') → ∀ (H : Heap) (locs : List Loc) (ls : Array Slot), MS G s h H locs 0 → lv_has ls 5 [(0, .ref (gB G + v0)), (1, .int v1), (2, .int v2), (3, .int v3)] → W p l e (rm_X1_vote) s m args below meth c H locs 0 0 (QI G below args s r h' 0 0) (F0 m 4 ls []) := by
  intro n
  induction n with
  | zero =>
    intro v0 v1 v2 v3 h hf
    cases hf
  | succ n ih =>
    intro v0 v1 v2 v3 h hf H locs ls M hl
    rw [f_X1_vote_4] at hf
    refine lv_iload_n X.1 X.2.1 dX1_vote_4 rfl (lv_at hl 3 rfl) ?_
    refine lv_iconst (v := (3 : Int32)) X.1 X.2.1 dX1_vote_5 (by decide) ?_
    refine lv_icmp_ge (tgt := 53) X.1 X.2.1 dX1_vote_6 (by decide) (fun c1 => ?_) (fun c1 => ?_)
    · have hf := ifp c1 hf
      refine lv_iload_n X.1 X.2.1 dX1_vote_53 rfl (lv_at hl 2 rfl) ?_
      obtain ⟨rfl, rfl⟩ := rt2 hf
      exact x_iret X hr hk M dX1_vote_54
    · have hf := ifn c1 hf
      refine lv_aload_n X.1 X.2.1 dX1_vote_9 rfl (lv_at hl 0 rfl) ?_
      refine lv_iload_n X.1 X.2.1 dX1_vote_10 rfl (lv_at hl 1 rfl) ?_
      refine lv_iload_n X.1 X.2.1 dX1_vote_11 rfl (lv_at hl 3 rfl) ?_
      obtain ⟨⟨⟩, q2, hf⟩ := bnd hf
      obtain ⟨t5, h4, q3, hf⟩ := bnd2 hf
      refine x_callVi (As := [.int v1, .int v3]) cf_X1_146 (c_X1_chosenLevel l G N v0 v1 v3 h _ _ q3) rfl ⟨rfl, rfl, Nat.le_of_ble_eq_true rfl, Nat.le_of_ble_eq_true rfl⟩ ⟨Nat.le_of_ble_eq_true rfl, Nat.le_of_ble_eq_true rfl⟩ X M (x_recv cls_X1 X M q2) rfl rfl hl.1 (Nat.le_of_ble_eq_true rfl) dX1_vote_12 (fun H locs M => ?_)
      refine lv_istore (lv' := [(4, .int t5), (0, .ref (gB G + v0)), (1, .int v1), (2, .int v2), (3, .int v3)]) X.1 X.2.1 dX1_vote_15 hl (by decide) rfl (fun ls hl => ?_)
      refine lv_iload X.1 X.2.1 dX1_vote_17 (lv_at hl 0 rfl) ?_
      refine lv_aload_n X.1 X.2.1 dX1_vote_19 rfl (lv_at hl 1 rfl) ?_
      obtain ⟨t6, q7, hf⟩ := bnd hf
      refine x_getr fl_X1_15 X M q7 dX1_vote_20 ?_
      refine lv_iload_n X.1 X.2.1 dX1_vote_23 rfl (lv_at hl 2 rfl) ?_
      refine lv_iconst (v := (3 : Int32)) X.1 X.2.1 dX1_vote_24 (by decide) ?_
      refine lv_imul X.1 X.2.1 dX1_vote_25 ?_
      refine lv_iload_n X.1 X.2.1 dX1_vote_26 rfl (lv_at hl 4 rfl) ?_
      refine lv_iadd X.1 X.2.1 dX1_vote_27 ?_
      obtain ⟨t8, q9, hf⟩ := bnd hf
      refine x_iald X M q9 dX1_vote_28 ?_
      refine lv_icmp_eq (tgt := 47) X.1 X.2.1 dX1_vote_29 (by decide) (fun c10 => ?_) (fun c10 => ?_)
      · have hf := ifp c10 hf
        refine lv_iinc (v := (v3 + 1)) (lv' := [(3, .int (v3 + 1)), (4, .int t5), (0, .ref (gB G + v0)), (1, .int v1), (2, .int v2)]) X.1 X.2.1 dX1_vote_47 hl (k := 4) rfl (by first | rfl | decide) (by decide) rfl (fun ls hl => ?_)
        refine lv_goto (tgt := 4) X.1 X.2.1 dX1_vote_50 (by decide) ?_
        exact ih v0 v1 v2 (v3 + 1) h4 hf _ _ _ M (lv_sub hl [2, 3, 4, 0] rfl)
      · have hf := ifn c10 hf
        refine lv_aload_n X.1 X.2.1 dX1_vote_32 rfl (lv_at hl 1 rfl) ?_
        obtain ⟨t11, q12, hf⟩ := bnd hf
        refine x_getr fl_X1_15 X M q12 dX1_vote_33 ?_
        refine lv_iload_n X.1 X.2.1 dX1_vote_36 rfl (lv_at hl 2 rfl) ?_
        refine lv_iconst (v := (3 : Int32)) X.1 X.2.1 dX1_vote_37 (by decide) ?_
        refine lv_imul X.1 X.2.1 dX1_vote_38 ?_
        refine lv_iload_n X.1 X.2.1 dX1_vote_39 rfl (lv_at hl 4 rfl) ?_
        refine lv_iadd X.1 X.2.1 dX1_vote_40 ?_
        refine lv_iload X.1 X.2.1 dX1_vote_41 (lv_at hl 0 rfl) ?_
        obtain ⟨h13, q14, hf⟩ := bnd hf
        refine x_iast X M q14 dX1_vote_43 (fun H locs M => ?_)
        refine lv_iinc (v := (v2 + 1)) (lv' := [(2, .int (v2 + 1)), (4, .int t5), (0, .ref (gB G + v0)), (1, .int v1), (3, .int v3)]) X.1 X.2.1 dX1_vote_44 hl (k := 3) rfl (by first | rfl | decide) (by decide) rfl (fun ls hl => ?_)
        refine lv_iinc (v := (v3 + 1)) (lv' := [(3, .int (v3 + 1)), (2, .int (v2 + 1)), (4, .int t5), (0, .ref (gB G + v0)), (1, .int v1)]) X.1 X.2.1 dX1_vote_47 hl (k := 4) rfl (by first | rfl | decide) (by decide) rfl (fun ls hl => ?_)
        refine lv_goto (tgt := 4) X.1 X.2.1 dX1_vote_50 (by decide) ?_
        exact ih v0 v1 (v2 + 1) (v3 + 1) h13 hf _ _ _ M (lv_sub hl [3, 4, 1, 0] rfl)
def f_X1_vote (N : Nat) (v0 : Nat) (v1 : Int32) (h : Mem) : Option (Int32 × Mem) :=
  f_X1_vote_4 N N v0 v1 (0 : Int32) (0 : Int32) h
set_option maxRecDepth 100000 in
set_option maxHeartbeats 4000000 in
theorem w_X1_vote {p : Program} {l : Launch} {e : Env} {s : State} {m : MethodId} {args : Array Value} {below : List Frame} {meth : Method} {c : Code} {G : Gx} {r : Int32} {h' : Mem} (X : CX G p s m args c cX1_vote 5 RX1) (hr : meth.sig.returnType = (Option.some Jvm.ClassFile.FieldType.int)) (hk : meth.locks = false) (N : Nat) : ∀ (v0 : Nat) (v1 : Int32) (h : Mem), f_X1_vote N v0 v1 h = some (r, h') → ∀ (H : Heap) (locs : List Loc) (ls : Array Slot), MS G s h H locs 0 → lv_has ls 5 [(0, .ref (gB G + v0)), (1, .int v1)] → W p l e (rm_X1_vote) s m args below meth c H locs 0 0 (QI G below args s r h' 0 0) (F0 m 0 ls []) := by
  intro v0 v1 h hf H locs ls M hl
  rw [f_X1_vote] at hf
  refine lv_iconst (v := (0 : Int32)) X.1 X.2.1 dX1_vote_0 (by decide) ?_
  refine lv_istore_n (lv' := [(2, .int (0 : Int32)), (0, .ref (gB G + v0)), (1, .int v1)]) X.1 X.2.1 dX1_vote_1 rfl hl (by decide) rfl (fun ls hl => ?_)
  refine lv_iconst (v := (0 : Int32)) X.1 X.2.1 dX1_vote_2 (by decide) ?_
  refine lv_istore_n (lv' := [(3, .int (0 : Int32)), (2, .int (0 : Int32)), (0, .ref (gB G + v0)), (1, .int v1)]) X.1 X.2.1 dX1_vote_3 rfl hl (by decide) rfl (fun ls hl => ?_)
  exact w_X1_vote_4 X hr hk N N v0 v1 (0 : Int32) (0 : Int32) h hf _ _ _ M (lv_sub hl [2, 3, 1, 0] rfl)
theorem c_X1_vote (l : Launch) (G : Gx) (N : Nat) (v0 : Nat) (v1 : Int32) (h : Mem) (r : Int32) (h' : Mem) (hf : f_X1_vote N v0 v1 h = some (r, h')) : MetG l G yX1_vote (.code yX1_vote cX1_vote 5 (Option.some Jvm.ClassFile.FieldType.int)) rm_X1_vote [.ref (gB G + v0), .int v1] h (QcI G r h') 0 0 :=
  x_met (by decide) rfl (Nat.le_of_ble_eq_true rfl) (fun p e s m args below meth c ls X M hr hk hin hl => w_X1_vote X hr hk N v0 v1 h hf _ _ ls M hl)
abbrev rm_X1_canGo : Room := { frames := 3, cells := 0, slots := 0, locals := 84 }
def f_X1_canGo (N : Nat) (v0 : Nat) (v1 : Int32) (v2 : Int32) (h : Mem) : Option (Int32 × Mem) :=
  (gR h v0 1 10).bind fun t1 =>
  (lI 100 h t1 v1).bind fun t3 =>
  if t3 = v2 then
    some ((0 : Int32), h)
  else
    (gR h v0 1 9).bind fun t6 =>
    (lI 100 h t6 v1).bind fun t8 =>
    (gR h v0 1 6).bind fun t10 =>
    (lI 100 h t10 v2).bind fun t12 =>
    if t8 < t12 then
      some ((0 : Int32), h)
    else
      (ck h v0 1).bind fun _ =>
      b2 (f_X1_hasRoom N v0 v2 h) fun t18 h17 =>
      if t18 = 0 then
        some ((0 : Int32), h17)
      else
        some ((1 : Int32), h17)
set_option maxRecDepth 100000 in
set_option maxHeartbeats 4000000 in
theorem w_X1_canGo {p : Program} {l : Launch} {e : Env} {s : State} {m : MethodId} {args : Array Value} {below : List Frame} {meth : Method} {c : Code} {G : Gx} {r : Int32} {h' : Mem} (X : CX G p s m args c cX1_canGo 3 RX1) (hr : meth.sig.returnType = (Option.some Jvm.ClassFile.FieldType.boolean)) (hk : meth.locks = false) (N : Nat) : ∀ (v0 : Nat) (v1 : Int32) (v2 : Int32) (h : Mem), f_X1_canGo N v0 v1 v2 h = some (r, h') → ∀ (H : Heap) (locs : List Loc) (ls : Array Slot), MS G s h H locs 0 → lv_has ls 3 [(0, .ref (gB G + v0)), (1, .int v1), (2, .int v2)] → W p l e (rm_X1_canGo) s m args below meth c H locs 0 0 (QI G below args s r h' 0 0) (F0 m 0 ls []) := by
  intro v0 v1 v2 h hf H locs ls M hl
  rw [f_X1_canGo] at hf
  refine lv_aload_n X.1 X.2.1 dX1_canGo_0 rfl (lv_at hl 0 rfl) ?_
  obtain ⟨t1, q2, hf⟩ := bnd hf
  refine x_getr fl_X1_33 X M q2 dX1_canGo_1 ?_
  refine lv_iload_n X.1 X.2.1 dX1_canGo_4 rfl (lv_at hl 1 rfl) ?_
  obtain ⟨t3, q4, hf⟩ := bnd hf
  refine x_iald X M q4 dX1_canGo_5 ?_
  refine lv_iload_n X.1 X.2.1 dX1_canGo_6 rfl (lv_at hl 2 rfl) ?_
  refine lv_icmp_eq (tgt := 37) X.1 X.2.1 dX1_canGo_7 (by decide) (fun c5 => ?_) (fun c5 => ?_)
  · have hf := ifp c5 hf
    refine lv_iconst (v := (0 : Int32)) X.1 X.2.1 dX1_canGo_37 (by decide) ?_
    obtain ⟨rfl, rfl⟩ := rt2 hf
    exact x_zret X hr hk rfl M dX1_canGo_38
  · have hf := ifn c5 hf
    refine lv_aload_n X.1 X.2.1 dX1_canGo_10 rfl (lv_at hl 0 rfl) ?_
    obtain ⟨t6, q7, hf⟩ := bnd hf
    refine x_getr fl_X1_30 X M q7 dX1_canGo_11 ?_
    refine lv_iload_n X.1 X.2.1 dX1_canGo_14 rfl (lv_at hl 1 rfl) ?_
    obtain ⟨t8, q9, hf⟩ := bnd hf
    refine x_iald X M q9 dX1_canGo_15 ?_
    refine lv_aload_n X.1 X.2.1 dX1_canGo_16 rfl (lv_at hl 0 rfl) ?_
    obtain ⟨t10, q11, hf⟩ := bnd hf
    refine x_getr fl_X1_21 X M q11 dX1_canGo_17 ?_
    refine lv_iload_n X.1 X.2.1 dX1_canGo_20 rfl (lv_at hl 2 rfl) ?_
    obtain ⟨t12, q13, hf⟩ := bnd hf
    refine x_iald X M q13 dX1_canGo_21 ?_
    refine lv_icmp_lt (tgt := 37) X.1 X.2.1 dX1_canGo_22 (by decide) (fun c14 => ?_) (fun c14 => ?_)
    · have hf := ifp c14 hf
      refine lv_iconst (v := (0 : Int32)) X.1 X.2.1 dX1_canGo_37 (by decide) ?_
      obtain ⟨rfl, rfl⟩ := rt2 hf
      exact x_zret X hr hk rfl M dX1_canGo_38
    · have hf := ifn c14 hf
      refine lv_aload_n X.1 X.2.1 dX1_canGo_25 rfl (lv_at hl 0 rfl) ?_
      refine lv_iload_n X.1 X.2.1 dX1_canGo_26 rfl (lv_at hl 2 rfl) ?_
      obtain ⟨⟨⟩, q15, hf⟩ := bnd hf
      obtain ⟨t18, h17, q16, hf⟩ := bnd2 hf
      refine x_callVi (As := [.int v2]) cf_X1_63 (c_X1_hasRoom l G N v0 v2 h _ _ q16) rfl ⟨rfl, rfl, Nat.le_of_ble_eq_true rfl, Nat.le_of_ble_eq_true rfl⟩ ⟨Nat.le_of_ble_eq_true rfl, Nat.le_of_ble_eq_true rfl⟩ X M (x_recv cls_X1 X M q15) rfl rfl hl.1 (Nat.le_of_ble_eq_true rfl) dX1_canGo_27 (fun H locs M => ?_)
      refine lv_if_eq (tgt := 37) X.1 X.2.1 dX1_canGo_30 (by decide) (fun c19 => ?_) (fun c19 => ?_)
      · have hf := ifp c19 hf
        refine lv_iconst (v := (0 : Int32)) X.1 X.2.1 dX1_canGo_37 (by decide) ?_
        obtain ⟨rfl, rfl⟩ := rt2 hf
        exact x_zret X hr hk rfl M dX1_canGo_38
      · have hf := ifn c19 hf
        refine lv_iconst (v := (1 : Int32)) X.1 X.2.1 dX1_canGo_33 (by decide) ?_
        refine lv_goto (tgt := 38) X.1 X.2.1 dX1_canGo_34 (by decide) ?_
        obtain ⟨rfl, rfl⟩ := rt2 hf
        exact x_zret X hr hk rfl M dX1_canGo_38
theorem c_X1_canGo (l : Launch) (G : Gx) (N : Nat) (v0 : Nat) (v1 : Int32) (v2 : Int32) (h : Mem) (r : Int32) (h' : Mem) (hf : f_X1_canGo N v0 v1 v2 h = some (r, h')) : MetG l G yX1_canGo (.code yX1_canGo cX1_canGo 3 (Option.some Jvm.ClassFile.FieldType.boolean)) rm_X1_canGo [.ref (gB G + v0), .int v1, .int v2] h (QcI G r h') 0 0 :=
  x_met (by decide) rfl (Nat.le_of_ble_eq_true rfl) (fun p e s m args below meth c ls X M hr hk hin hl => w_X1_canGo X hr hk N v0 v1 v2 h hf _ _ ls M hl)
abbrev rm_X1_betterTown : Room := { frames := 5, cells := 0, slots := 0, locals := 136 }
def f_X1_betterTown_17 (N : Nat) (n : Nat) (v0 : Nat) (v1 : Int32) (v2 : Int32) (v3 : Int32) (v4 : Int32) (h : Mem) : Option (Int32 × Mem) := match n with
  | 0 => none
  | n + 1 =>
    (gI h v0 1 1).bind fun t1 =>
    if t1 ≤ v4 then
      some (v2, h)
    else
      (ck h v0 1).bind fun _ =>
      b2 (f_X1_canGo N v0 v1 v4 h) fun t7 h6 =>
      if t7 = 0 then
        f_X1_betterTown_17 N n v0 v1 v2 v3 (v4 + 1) h6
      else
        (ck h6 v0 1).bind fun _ =>
        b2 (f_X1_worthOf N v0 v1 v4 h6) fun t12 h11 =>
        if t12 ≤ v3 then
          f_X1_betterTown_17 N n v0 v1 v2 v3 (v4 + 1) h11
        else
          f_X1_betterTown_17 N n v0 v1 v4 t12 (v4 + 1) h11
set_option maxRecDepth 100000 in
set_option maxHeartbeats 4000000 in
theorem w_X1_betterTown_17 {p : Program} {l : Launch} {e : Env} {s : State} {m : MethodId} {args : Array Value} {below : List Frame} {meth : Method} {c : Code} {G : Gx} {r : Int32} {h' : Mem} (X : CX G p s m args c cX1_betterTown 6 RX1) (hr : meth.sig.returnType = (Option.some Jvm.ClassFile.FieldType.int)) (hk : meth.locks = false) (N : Nat) : ∀ (n : Nat) (v0 : Nat) (v1 : Int32) (v2 : Int32) (v3 : Int32) (v4 : Int32) (h : Mem), f_X1_betterTown_17 N n v0 v1 v2 v3 v4 h = some (r, h') → ∀ (H : Heap) (locs : List Loc) (ls : Array Slot), MS G s h H locs 0 → lv_has ls 6 [(0, .ref (gB G + v0)), (1, .int v1), (2, .int v2), (3, .int v3), (4, .int v4)] → W p l e (rm_X1_betterTown) s m args below meth c H locs 0 0 (QI G below args s r h' 0 0) (F0 m 17 ls []) := by
  intro n
  induction n with
  | zero =>
    intro v0 v1 v2 v3 v4 h hf
    cases hf
  | succ n ih =>
    intro v0 v1 v2 v3 v4 h hf H locs ls M hl
    rw [f_X1_betterTown_17] at hf
    refine lv_iload X.1 X.2.1 dX1_betterTown_17 (lv_at hl 4 rfl) ?_
    refine lv_aload_n X.1 X.2.1 dX1_betterTown_19 rfl (lv_at hl 0 rfl) ?_
    obtain ⟨t1, q2, hf⟩ := bnd hf
    refine x_geti fl_X1_46 X M q2 dX1_betterTown_20 ?_
    refine lv_icmp_ge (tgt := 66) X.1 X.2.1 dX1_betterTown_23 (by decide) (fun c3 => ?_) (fun c3 => ?_)
    · have hf := ifp c3 hf
      refine lv_iload_n X.1 X.2.1 dX1_betterTown_66 rfl (lv_at hl 2 rfl) ?_
      obtain ⟨rfl, rfl⟩ := rt2 hf
      exact x_iret X hr hk M dX1_betterTown_67
    · have hf := ifn c3 hf
      refine lv_aload_n X.1 X.2.1 dX1_betterTown_26 rfl (lv_at hl 0 rfl) ?_
      refine lv_iload_n X.1 X.2.1 dX1_betterTown_27 rfl (lv_at hl 1 rfl) ?_
      refine lv_iload X.1 X.2.1 dX1_betterTown_28 (lv_at hl 4 rfl) ?_
      obtain ⟨⟨⟩, q4, hf⟩ := bnd hf
      obtain ⟨t7, h6, q5, hf⟩ := bnd2 hf
      refine x_callVi (As := [.int v1, .int v4]) cf_X1_120 (c_X1_canGo l G N v0 v1 v4 h _ _ q5) rfl ⟨rfl, rfl, Nat.le_of_ble_eq_true rfl, Nat.le_of_ble_eq_true rfl⟩ ⟨Nat.le_of_ble_eq_true rfl, Nat.le_of_ble_eq_true rfl⟩ X M (x_recv cls_X1 X M q4) rfl rfl hl.1 (Nat.le_of_ble_eq_true rfl) dX1_betterTown_30 (fun H locs M => ?_)
      refine lv_if_ne (tgt := 39) X.1 X.2.1 dX1_betterTown_33 (by decide) (fun c8 => ?_) (fun c8 => ?_)
      · have hf := ifn c8 hf
        refine lv_aload_n X.1 X.2.1 dX1_betterTown_39 rfl (lv_at hl 0 rfl) ?_
        refine lv_iload_n X.1 X.2.1 dX1_betterTown_40 rfl (lv_at hl 1 rfl) ?_
        refine lv_iload X.1 X.2.1 dX1_betterTown_41 (lv_at hl 4 rfl) ?_
        obtain ⟨⟨⟩, q9, hf⟩ := bnd hf
        obtain ⟨t12, h11, q10, hf⟩ := bnd2 hf
        refine x_callVi (As := [.int v1, .int v4]) cf_X1_117 (c_X1_worthOf l G N v0 v1 v4 h6 _ _ q10) rfl ⟨rfl, rfl, Nat.le_of_ble_eq_true rfl, Nat.le_of_ble_eq_true rfl⟩ ⟨Nat.le_of_ble_eq_true rfl, Nat.le_of_ble_eq_true rfl⟩ X M (x_recv cls_X1 X M q9) rfl rfl hl.1 (Nat.le_of_ble_eq_true rfl) dX1_betterTown_43 (fun H locs M => ?_)
        refine lv_istore (lv' := [(5, .int t12), (0, .ref (gB G + v0)), (1, .int v1), (2, .int v2), (3, .int v3), (4, .int v4)]) X.1 X.2.1 dX1_betterTown_46 hl (by decide) rfl (fun ls hl => ?_)
        refine lv_iload X.1 X.2.1 dX1_betterTown_48 (lv_at hl 0 rfl) ?_
        refine lv_iload_n X.1 X.2.1 dX1_betterTown_50 rfl (lv_at hl 4 rfl) ?_
        refine lv_icmp_le (tgt := 60) X.1 X.2.1 dX1_betterTown_51 (by decide) (fun c13 => ?_) (fun c13 => ?_)
        · have hf := ifp c13 hf
          refine lv_iinc (v := (v4 + 1)) (lv' := [(4, .int (v4 + 1)), (5, .int t12), (0, .ref (gB G + v0)), (1, .int v1), (2, .int v2), (3, .int v3)]) X.1 X.2.1 dX1_betterTown_60 hl (k := 5) rfl (by first | rfl | decide) (by decide) rfl (fun ls hl => ?_)
          refine lv_goto (tgt := 17) X.1 X.2.1 dX1_betterTown_63 (by decide) ?_
          exact ih v0 v1 v2 v3 (v4 + 1) h11 hf _ _ _ M (lv_sub hl [2, 3, 4, 5, 0] rfl)
        · have hf := ifn c13 hf
          refine lv_iload X.1 X.2.1 dX1_betterTown_54 (lv_at hl 0 rfl) ?_
          refine lv_istore_n (lv' := [(3, .int t12), (5, .int t12), (0, .ref (gB G + v0)), (1, .int v1), (2, .int v2), (4, .int v4)]) X.1 X.2.1 dX1_betterTown_56 rfl hl (by decide) rfl (fun ls hl => ?_)
          refine lv_iload X.1 X.2.1 dX1_betterTown_57 (lv_at hl 5 rfl) ?_
          refine lv_istore_n (lv' := [(2, .int v4), (3, .int t12), (5, .int t12), (0, .ref (gB G + v0)), (1, .int v1), (4, .int v4)]) X.1 X.2.1 dX1_betterTown_59 rfl hl (by decide) rfl (fun ls hl => ?_)
          refine lv_iinc (v := (v4 + 1)) (lv' := [(4, .int (v4 + 1)), (2, .int v4), (3, .int t12), (5, .int t12), (0, .ref (gB G + v0)), (1, .int v1)]) X.1 X.2.1 dX1_betterTown_60 hl (k := 5) rfl (by first | rfl | decide) (by decide) rfl (fun ls hl => ?_)
          refine lv_goto (tgt := 17) X.1 X.2.1 dX1_betterTown_63 (by decide) ?_
          exact ih v0 v1 v4 t12 (v4 + 1) h11 hf _ _ _ M (lv_sub hl [4, 5, 1, 2, 0] rfl)
      · have hf := ifp c8 hf
        refine lv_goto (tgt := 60) X.1 X.2.1 dX1_betterTown_36 (by decide) ?_
        refine lv_iinc (v := (v4 + 1)) (lv' := [(4, .int (v4 + 1)), (0, .ref (gB G + v0)), (1, .int v1), (2, .int v2), (3, .int v3)]) X.1 X.2.1 dX1_betterTown_60 hl (k := 4) rfl (by first | rfl | decide) (by decide) rfl (fun ls hl => ?_)
        refine lv_goto (tgt := 17) X.1 X.2.1 dX1_betterTown_63 (by decide) ?_
        exact ih v0 v1 v2 v3 (v4 + 1) h6 hf _ _ _ M (lv_sub hl [1, 2, 3, 4, 0] rfl)
def f_X1_betterTown (N : Nat) (v0 : Nat) (v1 : Int32) (h : Mem) : Option (Int32 × Mem) :=
  (gR h v0 1 10).bind fun t1 =>
  (lI 100 h t1 v1).bind fun t3 =>
  (ck h v0 1).bind fun _ =>
  b2 (f_X1_worthOf N v0 v1 t3 h) fun t8 h7 =>
  f_X1_betterTown_17 N N v0 v1 (-1 : Int32) t8 (0 : Int32) h7
set_option maxRecDepth 100000 in
set_option maxHeartbeats 4000000 in
theorem w_X1_betterTown {p : Program} {l : Launch} {e : Env} {s : State} {m : MethodId} {args : Array Value} {below : List Frame} {meth : Method} {c : Code} {G : Gx} {r : Int32} {h' : Mem} (X : CX G p s m args c cX1_betterTown 6 RX1) (hr : meth.sig.returnType = (Option.some Jvm.ClassFile.FieldType.int)) (hk : meth.locks = false) (N : Nat) : ∀ (v0 : Nat) (v1 : Int32) (h : Mem), f_X1_betterTown N v0 v1 h = some (r, h') → ∀ (H : Heap) (locs : List Loc) (ls : Array Slot), MS G s h H locs 0 → lv_has ls 6 [(0, .ref (gB G + v0)), (1, .int v1)] → W p l e (rm_X1_betterTown) s m args below meth c H locs 0 0 (QI G below args s r h' 0 0) (F0 m 0 ls []) := by
  intro v0 v1 h hf H locs ls M hl
  rw [f_X1_betterTown] at hf
  refine lv_iconst (v := (-1 : Int32)) X.1 X.2.1 dX1_betterTown_0 (by decide) ?_
  refine lv_istore_n (lv' := [(2, .int (-1 : Int32)), (0, .ref (gB G + v0)), (1, .int v1)]) X.1 X.2.1 dX1_betterTown_1 rfl hl (by decide) rfl (fun ls hl => ?_)
  refine lv_aload_n X.1 X.2.1 dX1_betterTown_2 rfl (lv_at hl 1 rfl) ?_
  refine lv_iload_n X.1 X.2.1 dX1_betterTown_3 rfl (lv_at hl 2 rfl) ?_
  refine lv_aload_n X.1 X.2.1 dX1_betterTown_4 rfl (lv_at hl 1 rfl) ?_
  obtain ⟨t1, q2, hf⟩ := bnd hf
  refine x_getr fl_X1_33 X M q2 dX1_betterTown_5 ?_
  refine lv_iload_n X.1 X.2.1 dX1_betterTown_8 rfl (lv_at hl 2 rfl) ?_
  obtain ⟨t3, q4, hf⟩ := bnd hf
  refine x_iald X M q4 dX1_betterTown_9 ?_
  obtain ⟨⟨⟩, q5, hf⟩ := bnd hf
  obtain ⟨t8, h7, q6, hf⟩ := bnd2 hf
  refine x_callVi (As := [.int v1, .int t3]) cf_X1_117 (c_X1_worthOf l G N v0 v1 t3 h _ _ q6) rfl ⟨rfl, rfl, Nat.le_of_ble_eq_true rfl, Nat.le_of_ble_eq_true rfl⟩ ⟨Nat.le_of_ble_eq_true rfl, Nat.le_of_ble_eq_true rfl⟩ X M (x_recv cls_X1 X M q5) rfl rfl hl.1 (Nat.le_of_ble_eq_true rfl) dX1_betterTown_10 (fun H locs M => ?_)
  refine lv_istore_n (lv' := [(3, .int t8), (2, .int (-1 : Int32)), (0, .ref (gB G + v0)), (1, .int v1)]) X.1 X.2.1 dX1_betterTown_13 rfl hl (by decide) rfl (fun ls hl => ?_)
  refine lv_iconst (v := (0 : Int32)) X.1 X.2.1 dX1_betterTown_14 (by decide) ?_
  refine lv_istore (lv' := [(4, .int (0 : Int32)), (3, .int t8), (2, .int (-1 : Int32)), (0, .ref (gB G + v0)), (1, .int v1)]) X.1 X.2.1 dX1_betterTown_15 hl (by decide) rfl (fun ls hl => ?_)
  exact w_X1_betterTown_17 X hr hk N N v0 v1 (-1 : Int32) t8 (0 : Int32) h7 hf _ _ _ M (lv_sub hl [3, 4, 2, 1, 0] rfl)
theorem c_X1_betterTown (l : Launch) (G : Gx) (N : Nat) (v0 : Nat) (v1 : Int32) (h : Mem) (r : Int32) (h' : Mem) (hf : f_X1_betterTown N v0 v1 h = some (r, h')) : MetG l G yX1_betterTown (.code yX1_betterTown cX1_betterTown 6 (Option.some Jvm.ClassFile.FieldType.int)) rm_X1_betterTown [.ref (gB G + v0), .int v1] h (QcI G r h') 0 0 :=
  x_met (by decide) rfl (Nat.le_of_ble_eq_true rfl) (fun p e s m args below meth c ls X M hr hk hin hl => w_X1_betterTown X hr hk N v0 v1 h hf _ _ ls M hl)
abbrev rm_X1_imprint : Room := { frames := 1, cells := 0, slots := 0, locals := 40 }
def f_X1_imprint_32 (N : Nat) (n : Nat) (v0 : Nat) (v1 : Int64) (v3 : Int32) (h : Mem) : Option (Int64 × Mem) := match n with
  | 0 => none
  | n + 1 =>
    if (12 : Int32) ≤ v3 then
      some (v1, h)
    else
      (gR h v0 1 4).bind fun t2 =>
      (lI 100 h t2 v3).bind fun t4 =>
      f_X1_imprint_32 N n v0 ((v1 <<< (Int32.toInt64 (3 : Int32) &&& 63)) ||| ((Int32.toInt64 t4))) (v3 + 1) h
set_option maxRecDepth 100000 in
set_option maxHeartbeats 4000000 in
theorem w_X1_imprint_32 {p : Program} {l : Launch} {e : Env} {s : State} {m : MethodId} {args : Array Value} {below : List Frame} {meth : Method} {c : Code} {G : Gx} {r : Int64} {h' : Mem} (X : CX G p s m args c cX1_imprint 4 RX1) (hr : meth.sig.returnType = (Option.some Jvm.ClassFile.FieldType.long)) (hk : meth.locks = false) (N : Nat) : ∀ (n : Nat) (v0 : Nat) (v1 : Int64) (v3 : Int32) (h : Mem), f_X1_imprint_32 N n v0 v1 v3 h = some (r, h') → ∀ (H : Heap) (locs : List Loc) (ls : Array Slot), MS G s h H locs 0 → lv_has ls 4 [(0, .ref (gB G + v0)), (1, .long v1), (3, .int v3)] → W p l e (rm_X1_imprint) s m args below meth c H locs 0 0 (QL G below args s r h' 0 0) (F0 m 32 ls []) := by
  intro n
  induction n with
  | zero =>
    intro v0 v1 v3 h hf
    cases hf
  | succ n ih =>
    intro v0 v1 v3 h hf H locs ls M hl
    rw [f_X1_imprint_32] at hf
    refine lv_iload_n X.1 X.2.1 dX1_imprint_32 rfl (lv_at hl 2 rfl) ?_
    refine lv_bipush (v := (12 : Int32)) X.1 X.2.1 dX1_imprint_33 (by decide) ?_
    refine lv_icmp_ge (tgt := 56) X.1 X.2.1 dX1_imprint_35 (by decide) (fun c1 => ?_) (fun c1 => ?_)
    · have hf := ifp c1 hf
      refine lv_lload_n X.1 X.2.1 dX1_imprint_56 rfl (lv_at hl 1 rfl) ?_
      obtain ⟨rfl, rfl⟩ := rt2 hf
      exact x_lret X hr hk M dX1_imprint_57
    · have hf := ifn c1 hf
      refine lv_lload_n X.1 X.2.1 dX1_imprint_38 rfl (lv_at hl 1 rfl) ?_
      refine lv_iconst (v := (3 : Int32)) X.1 X.2.1 dX1_imprint_39 (by decide) ?_
      refine lv_lshl (v := (v1 <<< (Int32.toInt64 (3 : Int32) &&& 63))) X.1 X.2.1 dX1_imprint_40 rfl ?_
      refine lv_aload_n X.1 X.2.1 dX1_imprint_41 rfl (lv_at hl 0 rfl) ?_
      obtain ⟨t2, q3, hf⟩ := bnd hf
      refine x_getr fl_X1_15 X M q3 dX1_imprint_42 ?_
      refine lv_iload_n X.1 X.2.1 dX1_imprint_45 rfl (lv_at hl 2 rfl) ?_
      obtain ⟨t4, q5, hf⟩ := bnd hf
      refine x_iald X M q5 dX1_imprint_46 ?_
      refine lv_i2l (v := ((Int32.toInt64 t4))) X.1 X.2.1 dX1_imprint_47 rfl ?_
      refine lv_lor X.1 X.2.1 dX1_imprint_48 ?_
      refine lv_lstore_n (lv' := [(1, .long ((v1 <<< (Int32.toInt64 (3 : Int32) &&& 63)) ||| ((Int32.toInt64 t4)))), (0, .ref (gB G + v0)), (3, .int v3)]) X.1 X.2.1 dX1_imprint_49 rfl hl (by decide) rfl (fun ls hl => ?_)
      refine lv_iinc (v := (v3 + 1)) (lv' := [(3, .int (v3 + 1)), (1, .long ((v1 <<< (Int32.toInt64 (3 : Int32) &&& 63)) ||| ((Int32.toInt64 t4)))), (0, .ref (gB G + v0))]) X.1 X.2.1 dX1_imprint_50 hl (k := 2) rfl (by first | rfl | decide) (by decide) rfl (fun ls hl => ?_)
      refine lv_goto (tgt := 32) X.1 X.2.1 dX1_imprint_53 (by decide) ?_
      exact ih v0 ((v1 <<< (Int32.toInt64 (3 : Int32) &&& 63)) ||| ((Int32.toInt64 t4))) (v3 + 1) h hf _ _ _ M (lv_sub hl [2, 1, 0] rfl)
def f_X1_imprint_4 (N : Nat) (n : Nat) (v0 : Nat) (v1 : Int64) (v3 : Int32) (h : Mem) : Option (Int64 × Mem) := match n with
  | 0 => none
  | n + 1 =>
    (gI h v0 1 2).bind fun t1 =>
    if t1 ≤ v3 then
      f_X1_imprint_32 N N v0 v1 (0 : Int32) h
    else
      (gR h v0 1 10).bind fun t4 =>
      (lI 100 h t4 v3).bind fun t6 =>
      f_X1_imprint_4 N n v0 ((v1 <<< (Int32.toInt64 (2 : Int32) &&& 63)) ||| ((Int32.toInt64 t6))) (v3 + 1) h
set_option maxRecDepth 100000 in
set_option maxHeartbeats 4000000 in
theorem w_X1_imprint_4 {p : Program} {l : Launch} {e : Env} {s : State} {m : MethodId} {args : Array Value} {below : List Frame} {meth : Method} {c : Code} {G : Gx} {r : Int64} {h' : Mem} (X : CX G p s m args c cX1_imprint 4 RX1) (hr : meth.sig.returnType = (Option.some Jvm.ClassFile.FieldType.long)) (hk : meth.locks = false) (N : Nat) : ∀ (n : Nat) (v0 : Nat) (v1 : Int64) (v3 : Int32) (h : Mem), f_X1_imprint_4 N n v0 v1 v3 h = some (r, h') → ∀ (H : Heap) (locs : List Loc) (ls : Array Slot), MS G s h H locs 0 → lv_has ls 4 [(0, .ref (gB G + v0)), (1, .long v1), (3, .int v3)] → W p l e (rm_X1_imprint) s m args below meth c H locs 0 0 (QL G below args s r h' 0 0) (F0 m 4 ls []) := by
  intro n
  induction n with
  | zero =>
    intro v0 v1 v3 h hf
    cases hf
  | succ n ih =>
    intro v0 v1 v3 h hf H locs ls M hl
    rw [f_X1_imprint_4] at hf
    refine lv_iload_n X.1 X.2.1 dX1_imprint_4 rfl (lv_at hl 2 rfl) ?_
    refine lv_aload_n X.1 X.2.1 dX1_imprint_5 rfl (lv_at hl 0 rfl) ?_
    obtain ⟨t1, q2, hf⟩ := bnd hf
    refine x_geti fl_X1_50 X M q2 dX1_imprint_6 ?_
    refine lv_icmp_ge (tgt := 30) X.1 X.2.1 dX1_imprint_9 (by decide) (fun c3 => ?_) (fun c3 => ?_)
    · have hf := ifp c3 hf
      refine lv_iconst (v := (0 : Int32)) X.1 X.2.1 dX1_imprint_30 (by decide) ?_
      refine lv_istore_n (lv' := [(3, .int (0 : Int32)), (0, .ref (gB G + v0)), (1, .long v1)]) X.1 X.2.1 dX1_imprint_31 rfl hl (by decide) rfl (fun ls hl => ?_)
      exact w_X1_imprint_32 X hr hk N N v0 v1 (0 : Int32) h hf _ _ _ M (lv_sub hl [1, 2, 0] rfl)
    · have hf := ifn c3 hf
      refine lv_lload_n X.1 X.2.1 dX1_imprint_12 rfl (lv_at hl 1 rfl) ?_
      refine lv_iconst (v := (2 : Int32)) X.1 X.2.1 dX1_imprint_13 (by decide) ?_
      refine lv_lshl (v := (v1 <<< (Int32.toInt64 (2 : Int32) &&& 63))) X.1 X.2.1 dX1_imprint_14 rfl ?_
      refine lv_aload_n X.1 X.2.1 dX1_imprint_15 rfl (lv_at hl 0 rfl) ?_
      obtain ⟨t4, q5, hf⟩ := bnd hf
      refine x_getr fl_X1_33 X M q5 dX1_imprint_16 ?_
      refine lv_iload_n X.1 X.2.1 dX1_imprint_19 rfl (lv_at hl 2 rfl) ?_
      obtain ⟨t6, q7, hf⟩ := bnd hf
      refine x_iald X M q7 dX1_imprint_20 ?_
      refine lv_i2l (v := ((Int32.toInt64 t6))) X.1 X.2.1 dX1_imprint_21 rfl ?_
      refine lv_lor X.1 X.2.1 dX1_imprint_22 ?_
      refine lv_lstore_n (lv' := [(1, .long ((v1 <<< (Int32.toInt64 (2 : Int32) &&& 63)) ||| ((Int32.toInt64 t6)))), (0, .ref (gB G + v0)), (3, .int v3)]) X.1 X.2.1 dX1_imprint_23 rfl hl (by decide) rfl (fun ls hl => ?_)
      refine lv_iinc (v := (v3 + 1)) (lv' := [(3, .int (v3 + 1)), (1, .long ((v1 <<< (Int32.toInt64 (2 : Int32) &&& 63)) ||| ((Int32.toInt64 t6)))), (0, .ref (gB G + v0))]) X.1 X.2.1 dX1_imprint_24 hl (k := 2) rfl (by first | rfl | decide) (by decide) rfl (fun ls hl => ?_)
      refine lv_goto (tgt := 4) X.1 X.2.1 dX1_imprint_27 (by decide) ?_
      exact ih v0 ((v1 <<< (Int32.toInt64 (2 : Int32) &&& 63)) ||| ((Int32.toInt64 t6))) (v3 + 1) h hf _ _ _ M (lv_sub hl [2, 1, 0] rfl)
def f_X1_imprint (N : Nat) (v0 : Nat) (h : Mem) : Option (Int64 × Mem) :=
  f_X1_imprint_4 N N v0 (0 : Int64) (0 : Int32) h
set_option maxRecDepth 100000 in
set_option maxHeartbeats 4000000 in
theorem w_X1_imprint {p : Program} {l : Launch} {e : Env} {s : State} {m : MethodId} {args : Array Value} {below : List Frame} {meth : Method} {c : Code} {G : Gx} {r : Int64} {h' : Mem} (X : CX G p s m args c cX1_imprint 4 RX1) (hr : meth.sig.returnType = (Option.some Jvm.ClassFile.FieldType.long)) (hk : meth.locks = false) (N : Nat) : ∀ (v0 : Nat) (h : Mem), f_X1_imprint N v0 h = some (r, h') → ∀ (H : Heap) (locs : List Loc) (ls : Array Slot), MS G s h H locs 0 → lv_has ls 4 [(0, .ref (gB G + v0))] → W p l e (rm_X1_imprint) s m args below meth c H locs 0 0 (QL G below args s r h' 0 0) (F0 m 0 ls []) := by
  intro v0 h hf H locs ls M hl
  rw [f_X1_imprint] at hf
  refine lv_lconst (v := 0) X.1 X.2.1 dX1_imprint_0 rfl ?_
  refine lv_lstore_n (lv' := [(1, .long (0 : Int64)), (0, .ref (gB G + v0))]) X.1 X.2.1 dX1_imprint_1 rfl hl (by decide) rfl (fun ls hl => ?_)
  refine lv_iconst (v := (0 : Int32)) X.1 X.2.1 dX1_imprint_2 (by decide) ?_
  refine lv_istore_n (lv' := [(3, .int (0 : Int32)), (1, .long (0 : Int64)), (0, .ref (gB G + v0))]) X.1 X.2.1 dX1_imprint_3 rfl hl (by decide) rfl (fun ls hl => ?_)
  exact w_X1_imprint_4 X hr hk N N v0 (0 : Int64) (0 : Int32) h hf _ _ _ M (lv_sub hl [2, 1, 0] rfl)
theorem c_X1_imprint (l : Launch) (G : Gx) (N : Nat) (v0 : Nat) (h : Mem) (r : Int64) (h' : Mem) (hf : f_X1_imprint N v0 h = some (r, h')) : MetG l G yX1_imprint (.code yX1_imprint cX1_imprint 4 (Option.some Jvm.ClassFile.FieldType.long)) rm_X1_imprint [.ref (gB G + v0)] h (QcL G r h') 0 0 :=
  x_met (by decide) rfl (Nat.le_of_ble_eq_true rfl) (fun p e s m args below meth c ls X M hr hk hin hl => w_X1_imprint X hr hk N v0 h hf _ _ ls M hl)
abbrev rm_X1_become : Room := { frames := 1, cells := 0, slots := 0, locals := 40 }
def f_X1_become (N : Nat) (v0 : Nat) (v1 : Nat) (h : Mem) : Option Mem :=
  (gR h v1 1 0).bind fun t1 =>
  (sR h v0 1 0 t1).bind fun h3 =>
  (gI h3 v1 1 1).bind fun t5 =>
  (sI h3 v0 1 1 t5).bind fun h7 =>
  (gI h7 v1 1 2).bind fun t9 =>
  (sI h7 v0 1 2 t9).bind fun h11 =>
  (gR h11 v1 1 3).bind fun t13 =>
  (gR h11 v0 1 3).bind fun t15 =>
  (cpI 100 h11 t13 (0 : Int32) t15 (0 : Int32) (4 : Int32)).bind fun h17 =>
  (gR h17 v1 1 4).bind fun t19 =>
  (gR h17 v0 1 4).bind fun t21 =>
  (cpI 100 h17 t19 (0 : Int32) t21 (0 : Int32) (12 : Int32)).bind fun h23 =>
  (gR h23 v1 1 5).bind fun t25 =>
  (gR h23 v0 1 5).bind fun t27 =>
  (cpI 100 h23 t25 (0 : Int32) t27 (0 : Int32) (4 : Int32)).bind fun h29 =>
  (gR h29 v1 1 6).bind fun t31 =>
  (gR h29 v0 1 6).bind fun t33 =>
  (cpI 100 h29 t31 (0 : Int32) t33 (0 : Int32) (4 : Int32)).bind fun h35 =>
  (gR h35 v1 1 7).bind fun t37 =>
  (gR h35 v0 1 7).bind fun t39 =>
  (cpI 100 h35 t37 (0 : Int32) t39 (0 : Int32) (4 : Int32)).bind fun h41 =>
  (gR h41 v1 1 8).bind fun t43 =>
  (gR h41 v0 1 8).bind fun t45 =>
  (cpI 100 h41 t43 (0 : Int32) t45 (0 : Int32) (8 : Int32)).bind fun h47 =>
  (gR h47 v1 1 9).bind fun t49 =>
  (gR h47 v0 1 9).bind fun t51 =>
  (cpI 100 h47 t49 (0 : Int32) t51 (0 : Int32) (8 : Int32)).bind fun h53 =>
  (gR h53 v1 1 10).bind fun t55 =>
  (gR h53 v0 1 10).bind fun t57 =>
  (cpI 100 h53 t55 (0 : Int32) t57 (0 : Int32) (8 : Int32)).bind fun h59 =>
  (gR h59 v1 1 11).bind fun t61 =>
  (gR h59 v0 1 11).bind fun t63 =>
  (cpI 100 h59 t61 (0 : Int32) t63 (0 : Int32) (8 : Int32)).bind fun h65 =>
  some h65
set_option maxRecDepth 100000 in
set_option maxHeartbeats 4000000 in
theorem w_X1_become {p : Program} {l : Launch} {e : Env} {s : State} {m : MethodId} {args : Array Value} {below : List Frame} {meth : Method} {c : Code} {G : Gx} {h' : Mem} {L : Nat} (X : CX G p s m args c cX1_become 2 RX1) (hr : meth.sig.returnType = (Option.none : Option Jvm.ClassFile.FieldType)) (hk : meth.locks = false) (hL : s.heap.size + 0 = gB G + L) (N : Nat) : ∀ (v0 : Nat) (v1 : Nat) (h : Mem), f_X1_become N v0 v1 h = some h' → ∀ (H : Heap) (locs : List Loc) (ls : Array Slot), MS G s h H locs 0 → lv_has ls 2 [(0, .ref (gB G + v0)), (1, .ref (gB G + v1))] → W p l e (rm_X1_become) s m args below meth c H locs 0 0 (QV G below args s h' L 0 0) (F0 m 0 ls []) := by
  intro v0 v1 h hf H locs ls M hl
  rw [f_X1_become] at hf
  refine lv_aload_n X.1 X.2.1 dX1_become_0 rfl (lv_at hl 0 rfl) ?_
  refine lv_aload_n X.1 X.2.1 dX1_become_1 rfl (lv_at hl 1 rfl) ?_
  obtain ⟨t1, q2, hf⟩ := bnd hf
  refine x_getr fl_X1_42 X M q2 dX1_become_2 ?_
  obtain ⟨h3, q4, hf⟩ := bnd hf
  refine x_putr fl_X1_42 fp_X1_42.1 fp_X1_42.2 (fun _ => rfl) (fun _ => rfl) X M q4 dX1_become_5 (fun H locs M => ?_)
  refine lv_aload_n X.1 X.2.1 dX1_become_8 rfl (lv_at hl 0 rfl) ?_
  refine lv_aload_n X.1 X.2.1 dX1_become_9 rfl (lv_at hl 1 rfl) ?_
  obtain ⟨t5, q6, hf⟩ := bnd hf
  refine x_geti fl_X1_46 X M q6 dX1_become_10 ?_
  obtain ⟨h7, q8, hf⟩ := bnd hf
  refine x_puti fl_X1_46 fp_X1_46.1 fp_X1_46.2 X M q8 dX1_become_13 (fun H locs M => ?_)
  refine lv_aload_n X.1 X.2.1 dX1_become_16 rfl (lv_at hl 0 rfl) ?_
  refine lv_aload_n X.1 X.2.1 dX1_become_17 rfl (lv_at hl 1 rfl) ?_
  obtain ⟨t9, q10, hf⟩ := bnd hf
  refine x_geti fl_X1_50 X M q10 dX1_become_18 ?_
  obtain ⟨h11, q12, hf⟩ := bnd hf
  refine x_puti fl_X1_50 fp_X1_50.1 fp_X1_50.2 X M q12 dX1_become_21 (fun H locs M => ?_)
  refine lv_aload_n X.1 X.2.1 dX1_become_24 rfl (lv_at hl 1 rfl) ?_
  obtain ⟨t13, q14, hf⟩ := bnd hf
  refine x_getr fl_X1_9 X M q14 dX1_become_25 ?_
  refine lv_iconst (v := (0 : Int32)) X.1 X.2.1 dX1_become_28 (by decide) ?_
  refine lv_aload_n X.1 X.2.1 dX1_become_29 rfl (lv_at hl 0 rfl) ?_
  obtain ⟨t15, q16, hf⟩ := bnd hf
  refine x_getr fl_X1_9 X M q16 dX1_become_30 ?_
  refine lv_iconst (v := (0 : Int32)) X.1 X.2.1 dX1_become_33 (by decide) ?_
  refine lv_iconst (v := (4 : Int32)) X.1 X.2.1 dX1_become_34 (by decide) ?_
  obtain ⟨h17, q18, hf⟩ := bnd hf
  refine x_cpI (by decide) (by decide) (fun _ => rfl) (fun _ => rfl) rfl k_730 k_654 k_653 k_18 X M q18 hl.1 (Nat.le_of_ble_eq_true rfl) (Nat.le_of_ble_eq_true rfl) dX1_become_35 (fun H locs M => ?_)
  refine lv_aload_n X.1 X.2.1 dX1_become_38 rfl (lv_at hl 1 rfl) ?_
  obtain ⟨t19, q20, hf⟩ := bnd hf
  refine x_getr fl_X1_15 X M q20 dX1_become_39 ?_
  refine lv_iconst (v := (0 : Int32)) X.1 X.2.1 dX1_become_42 (by decide) ?_
  refine lv_aload_n X.1 X.2.1 dX1_become_43 rfl (lv_at hl 0 rfl) ?_
  obtain ⟨t21, q22, hf⟩ := bnd hf
  refine x_getr fl_X1_15 X M q22 dX1_become_44 ?_
  refine lv_iconst (v := (0 : Int32)) X.1 X.2.1 dX1_become_47 (by decide) ?_
  refine lv_bipush (v := (12 : Int32)) X.1 X.2.1 dX1_become_48 (by decide) ?_
  obtain ⟨h23, q24, hf⟩ := bnd hf
  refine x_cpI (by decide) (by decide) (fun _ => rfl) (fun _ => rfl) rfl k_730 k_654 k_653 k_18 X M q24 hl.1 (Nat.le_of_ble_eq_true rfl) (Nat.le_of_ble_eq_true rfl) dX1_become_50 (fun H locs M => ?_)
  refine lv_aload_n X.1 X.2.1 dX1_become_53 rfl (lv_at hl 1 rfl) ?_
  obtain ⟨t25, q26, hf⟩ := bnd hf
  refine x_getr fl_X1_18 X M q26 dX1_become_54 ?_
  refine lv_iconst (v := (0 : Int32)) X.1 X.2.1 dX1_become_57 (by decide) ?_
  refine lv_aload_n X.1 X.2.1 dX1_become_58 rfl (lv_at hl 0 rfl) ?_
  obtain ⟨t27, q28, hf⟩ := bnd hf
  refine x_getr fl_X1_18 X M q28 dX1_become_59 ?_
  refine lv_iconst (v := (0 : Int32)) X.1 X.2.1 dX1_become_62 (by decide) ?_
  refine lv_iconst (v := (4 : Int32)) X.1 X.2.1 dX1_become_63 (by decide) ?_
  obtain ⟨h29, q30, hf⟩ := bnd hf
  refine x_cpI (by decide) (by decide) (fun _ => rfl) (fun _ => rfl) rfl k_730 k_654 k_653 k_18 X M q30 hl.1 (Nat.le_of_ble_eq_true rfl) (Nat.le_of_ble_eq_true rfl) dX1_become_64 (fun H locs M => ?_)
  refine lv_aload_n X.1 X.2.1 dX1_become_67 rfl (lv_at hl 1 rfl) ?_
  obtain ⟨t31, q32, hf⟩ := bnd hf
  refine x_getr fl_X1_21 X M q32 dX1_become_68 ?_
  refine lv_iconst (v := (0 : Int32)) X.1 X.2.1 dX1_become_71 (by decide) ?_
  refine lv_aload_n X.1 X.2.1 dX1_become_72 rfl (lv_at hl 0 rfl) ?_
  obtain ⟨t33, q34, hf⟩ := bnd hf
  refine x_getr fl_X1_21 X M q34 dX1_become_73 ?_
  refine lv_iconst (v := (0 : Int32)) X.1 X.2.1 dX1_become_76 (by decide) ?_
  refine lv_iconst (v := (4 : Int32)) X.1 X.2.1 dX1_become_77 (by decide) ?_
  obtain ⟨h35, q36, hf⟩ := bnd hf
  refine x_cpI (by decide) (by decide) (fun _ => rfl) (fun _ => rfl) rfl k_730 k_654 k_653 k_18 X M q36 hl.1 (Nat.le_of_ble_eq_true rfl) (Nat.le_of_ble_eq_true rfl) dX1_become_78 (fun H locs M => ?_)
  refine lv_aload_n X.1 X.2.1 dX1_become_81 rfl (lv_at hl 1 rfl) ?_
  obtain ⟨t37, q38, hf⟩ := bnd hf
  refine x_getr fl_X1_24 X M q38 dX1_become_82 ?_
  refine lv_iconst (v := (0 : Int32)) X.1 X.2.1 dX1_become_85 (by decide) ?_
  refine lv_aload_n X.1 X.2.1 dX1_become_86 rfl (lv_at hl 0 rfl) ?_
  obtain ⟨t39, q40, hf⟩ := bnd hf
  refine x_getr fl_X1_24 X M q40 dX1_become_87 ?_
  refine lv_iconst (v := (0 : Int32)) X.1 X.2.1 dX1_become_90 (by decide) ?_
  refine lv_iconst (v := (4 : Int32)) X.1 X.2.1 dX1_become_91 (by decide) ?_
  obtain ⟨h41, q42, hf⟩ := bnd hf
  refine x_cpI (by decide) (by decide) (fun _ => rfl) (fun _ => rfl) rfl k_730 k_654 k_653 k_18 X M q42 hl.1 (Nat.le_of_ble_eq_true rfl) (Nat.le_of_ble_eq_true rfl) dX1_become_92 (fun H locs M => ?_)
  refine lv_aload_n X.1 X.2.1 dX1_become_95 rfl (lv_at hl 1 rfl) ?_
  obtain ⟨t43, q44, hf⟩ := bnd hf
  refine x_getr fl_X1_27 X M q44 dX1_become_96 ?_
  refine lv_iconst (v := (0 : Int32)) X.1 X.2.1 dX1_become_99 (by decide) ?_
  refine lv_aload_n X.1 X.2.1 dX1_become_100 rfl (lv_at hl 0 rfl) ?_
  obtain ⟨t45, q46, hf⟩ := bnd hf
  refine x_getr fl_X1_27 X M q46 dX1_become_101 ?_
  refine lv_iconst (v := (0 : Int32)) X.1 X.2.1 dX1_become_104 (by decide) ?_
  refine lv_bipush (v := (8 : Int32)) X.1 X.2.1 dX1_become_105 (by decide) ?_
  obtain ⟨h47, q48, hf⟩ := bnd hf
  refine x_cpI (by decide) (by decide) (fun _ => rfl) (fun _ => rfl) rfl k_730 k_654 k_653 k_18 X M q48 hl.1 (Nat.le_of_ble_eq_true rfl) (Nat.le_of_ble_eq_true rfl) dX1_become_107 (fun H locs M => ?_)
  refine lv_aload_n X.1 X.2.1 dX1_become_110 rfl (lv_at hl 1 rfl) ?_
  obtain ⟨t49, q50, hf⟩ := bnd hf
  refine x_getr fl_X1_30 X M q50 dX1_become_111 ?_
  refine lv_iconst (v := (0 : Int32)) X.1 X.2.1 dX1_become_114 (by decide) ?_
  refine lv_aload_n X.1 X.2.1 dX1_become_115 rfl (lv_at hl 0 rfl) ?_
  obtain ⟨t51, q52, hf⟩ := bnd hf
  refine x_getr fl_X1_30 X M q52 dX1_become_116 ?_
  refine lv_iconst (v := (0 : Int32)) X.1 X.2.1 dX1_become_119 (by decide) ?_
  refine lv_bipush (v := (8 : Int32)) X.1 X.2.1 dX1_become_120 (by decide) ?_
  obtain ⟨h53, q54, hf⟩ := bnd hf
  refine x_cpI (by decide) (by decide) (fun _ => rfl) (fun _ => rfl) rfl k_730 k_654 k_653 k_18 X M q54 hl.1 (Nat.le_of_ble_eq_true rfl) (Nat.le_of_ble_eq_true rfl) dX1_become_122 (fun H locs M => ?_)
  refine lv_aload_n X.1 X.2.1 dX1_become_125 rfl (lv_at hl 1 rfl) ?_
  obtain ⟨t55, q56, hf⟩ := bnd hf
  refine x_getr fl_X1_33 X M q56 dX1_become_126 ?_
  refine lv_iconst (v := (0 : Int32)) X.1 X.2.1 dX1_become_129 (by decide) ?_
  refine lv_aload_n X.1 X.2.1 dX1_become_130 rfl (lv_at hl 0 rfl) ?_
  obtain ⟨t57, q58, hf⟩ := bnd hf
  refine x_getr fl_X1_33 X M q58 dX1_become_131 ?_
  refine lv_iconst (v := (0 : Int32)) X.1 X.2.1 dX1_become_134 (by decide) ?_
  refine lv_bipush (v := (8 : Int32)) X.1 X.2.1 dX1_become_135 (by decide) ?_
  obtain ⟨h59, q60, hf⟩ := bnd hf
  refine x_cpI (by decide) (by decide) (fun _ => rfl) (fun _ => rfl) rfl k_730 k_654 k_653 k_18 X M q60 hl.1 (Nat.le_of_ble_eq_true rfl) (Nat.le_of_ble_eq_true rfl) dX1_become_137 (fun H locs M => ?_)
  refine lv_aload_n X.1 X.2.1 dX1_become_140 rfl (lv_at hl 1 rfl) ?_
  obtain ⟨t61, q62, hf⟩ := bnd hf
  refine x_getr fl_X1_36 X M q62 dX1_become_141 ?_
  refine lv_iconst (v := (0 : Int32)) X.1 X.2.1 dX1_become_144 (by decide) ?_
  refine lv_aload_n X.1 X.2.1 dX1_become_145 rfl (lv_at hl 0 rfl) ?_
  obtain ⟨t63, q64, hf⟩ := bnd hf
  refine x_getr fl_X1_36 X M q64 dX1_become_146 ?_
  refine lv_iconst (v := (0 : Int32)) X.1 X.2.1 dX1_become_149 (by decide) ?_
  refine lv_bipush (v := (8 : Int32)) X.1 X.2.1 dX1_become_150 (by decide) ?_
  obtain ⟨h65, q66, hf⟩ := bnd hf
  refine x_cpI (by decide) (by decide) (fun _ => rfl) (fun _ => rfl) rfl k_730 k_654 k_653 k_18 X M q66 hl.1 (Nat.le_of_ble_eq_true rfl) (Nat.le_of_ble_eq_true rfl) dX1_become_152 (fun H locs M => ?_)
  obtain rfl := rt1 hf
  exact x_vret X hr hk M hL dX1_become_155
theorem c_X1_become (l : Launch) (G : Gx) (N : Nat) (v0 : Nat) (v1 : Nat) (h : Mem) (h' : Mem) (hf : f_X1_become N v0 v1 h = some h') : MetG l G yX1_become (.code yX1_become cX1_become 2 (Option.none : Option Jvm.ClassFile.FieldType)) rm_X1_become [.ref (gB G + v0), .ref (gB G + v1)] h (QcV G h' (h.1.length + 0)) 0 0 :=
  x_met (by decide) rfl (Nat.le_of_ble_eq_true rfl) (fun p e s m args below meth c ls X M hr hk hin hl => w_X1_become X hr hk (by have := M.2.2; omega) N v0 v1 h hf _ _ ls M hl)
