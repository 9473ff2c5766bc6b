abbrev rm_X6_init : Room := { frames := 1, cells := 3, slots := 19, locals := 40 }
def f_X6_init (N : Nat) (v0 : Nat) (h : Mem) : Option Mem :=
  (sR (al h (100, 3)) v0 6 0 h.1.length).bind fun h1 =>
  (sR (al h1 (100, 8)) v0 6 1 h1.1.length).bind fun h3 =>
  (sR (al h3 (100, 8)) v0 6 2 h3.1.length).bind fun h5 =>
  some h5
set_option maxRecDepth 100000 in
set_option maxHeartbeats 4000000 in
theorem w_X6_init {p : Program} {l : Launch} {e : Env} {s : State} {m : MethodId} {args : Array Value} {below : List Frame} {meth : Method} {c : Code} {G : Gx} {h' : Mem} {L : Nat} (X : CX G p s m args c cX6_init 1 RX6) (hr : meth.sig.returnType = (Option.none : Option Jvm.ClassFile.FieldType)) (hk : meth.locks = false) (hL : s.heap.size + 3 = gB G + L) (hin : meth.name = "<init>") (N : Nat) : ∀ (v0 : Nat) (h : Mem), f_X6_init N v0 h = some h' → ∀ (H : Heap) (locs : List Loc) (ls : Array Slot), MS G s h H locs 0 → lv_has ls 1 [(0, .ref (gB G + v0))] → W p l e (rm_X6_init) s m args below meth c H locs 0 0 (QV G below args s h' L 3 19) (F0 m 0 ls []) := by
  intro v0 h hf H locs ls M hl
  rw [f_X6_init] at hf
  refine lv_aload_n X.1 X.2.1 dX6_init_0 rfl (lv_at hl 0 rfl) ?_
  refine x_obj k_172 k_27 k_28 X hl.1 dX6_init_1 (Nat.le_of_ble_eq_true rfl) (Nat.le_of_ble_eq_true rfl) ?_
  refine lv_aload_n X.1 X.2.1 dX6_init_4 rfl (lv_at hl 0 rfl) ?_
  refine lv_iconst (v := (3 : Int32)) X.1 X.2.1 dX6_init_5 (by decide) ?_
  refine x_newI (N := 3) k_75 (by decide) (by decide) (by decide) X M ⟨Nat.le_of_ble_eq_true rfl, Nat.le_of_ble_eq_true rfl⟩ dX6_init_6 (fun H locs M => ?_)
  obtain ⟨h1, q2, hf⟩ := bnd hf
  refine x_putrF fl_X6_9 fp_X6_9.1 hin rfl fp_X6_9.2 (fun _ => rfl) (fun _ => rfl) X M q2 dX6_init_8 (fun H locs M => ?_)
  refine lv_aload_n X.1 X.2.1 dX6_init_11 rfl (lv_at hl 0 rfl) ?_
  refine lv_bipush (v := (8 : Int32)) X.1 X.2.1 dX6_init_12 (by decide) ?_
  refine x_newI (N := 8) k_75 (by decide) (by decide) (by decide) X M ⟨Nat.le_of_ble_eq_true rfl, Nat.le_of_ble_eq_true rfl⟩ dX6_init_14 (fun H locs M => ?_)
  obtain ⟨h3, q4, hf⟩ := bnd hf
  refine x_putrF fl_X6_15 fp_X6_15.1 hin rfl fp_X6_15.2 (fun _ => rfl) (fun _ => rfl) X M q4 dX6_init_16 (fun H locs M => ?_)
  refine lv_aload_n X.1 X.2.1 dX6_init_19 rfl (lv_at hl 0 rfl) ?_
  refine lv_bipush (v := (8 : Int32)) X.1 X.2.1 dX6_init_20 (by decide) ?_
  refine x_newI (N := 8) k_75 (by decide) (by decide) (by decide) X M ⟨Nat.le_of_ble_eq_true rfl, Nat.le_of_ble_eq_true rfl⟩ dX6_init_22 (fun H locs M => ?_)
  obtain ⟨h5, q6, hf⟩ := bnd hf
  refine x_putrF fl_X6_18 fp_X6_18.1 hin rfl fp_X6_18.2 (fun _ => rfl) (fun _ => rfl) X M q6 dX6_init_24 (fun H locs M => ?_)
  obtain rfl := rt1 hf
  exact x_vret X hr hk M hL dX6_init_27
theorem c_X6_init (l : Launch) (G : Gx) (N : Nat) (v0 : Nat) (h : Mem) (h' : Mem) (hf : f_X6_init N v0 h = some h') : MetG l G yX6_init (.code yX6_init cX6_init 1 (Option.none : Option Jvm.ClassFile.FieldType)) rm_X6_init [.ref (gB G + v0)] h (QcV G h' (h.1.length + 3)) 3 19 :=
  x_met (by decide) rfl (Nat.le_of_ble_eq_true rfl) (fun p e s m args below meth c ls X M hr hk hin hl => w_X6_init X hr hk (by have := M.2.2; omega) hin N v0 h hf _ _ ls M hl)
abbrev rm_X8_init : Room := { frames := 1, cells := 1, slots := 21, locals := 40 }
def f_X8_init (N : Nat) (v0 : Nat) (h : Mem) : Option Mem :=
  (sR (al h (103, 21)) v0 8 0 h.1.length).bind fun h1 =>
  some h1
set_option maxRecDepth 100000 in
set_option maxHeartbeats 4000000 in
theorem w_X8_init {p : Program} {l : Launch} {e : Env} {s : State} {m : MethodId} {args : Array Value} {below : List Frame} {meth : Method} {c : Code} {G : Gx} {h' : Mem} {L : Nat} (X : CX G p s m args c cX8_init 1 RX8) (hr : meth.sig.returnType = (Option.none : Option Jvm.ClassFile.FieldType)) (hk : meth.locks = false) (hL : s.heap.size + 1 = gB G + L) (hin : meth.name = "<init>") (N : Nat) : ∀ (v0 : Nat) (h : Mem), f_X8_init N v0 h = some h' → ∀ (H : Heap) (locs : List Loc) (ls : Array Slot), MS G s h H locs 0 → lv_has ls 1 [(0, .ref (gB G + v0))] → W p l e (rm_X8_init) s m args below meth c H locs 0 0 (QV G below args s h' L 1 21) (F0 m 0 ls []) := by
  intro v0 h hf H locs ls M hl
  rw [f_X8_init] at hf
  refine lv_aload_n X.1 X.2.1 dX8_init_0 rfl (lv_at hl 0 rfl) ?_
  refine x_obj k_188 k_27 k_28 X hl.1 dX8_init_1 (Nat.le_of_ble_eq_true rfl) (Nat.le_of_ble_eq_true rfl) ?_
  refine lv_aload_n X.1 X.2.1 dX8_init_4 rfl (lv_at hl 0 rfl) ?_
  refine lv_bipush (v := (21 : Int32)) X.1 X.2.1 dX8_init_5 (by decide) ?_
  refine x_newJ (N := 21) k_193 (by decide) (by decide) (by decide) X M ⟨Nat.le_of_ble_eq_true rfl, Nat.le_of_ble_eq_true rfl⟩ dX8_init_7 (fun H locs M => ?_)
  obtain ⟨h1, q2, hf⟩ := bnd hf
  refine x_putrF fl_X8_11 fp_X8_11.1 hin rfl fp_X8_11.2 (fun _ => rfl) (fun _ => rfl) X M q2 dX8_init_9 (fun H locs M => ?_)
  obtain rfl := rt1 hf
  exact x_vret X hr hk M hL dX8_init_12
theorem c_X8_init (l : Launch) (G : Gx) (N : Nat) (v0 : Nat) (h : Mem) (h' : Mem) (hf : f_X8_init N v0 h = some h') : MetG l G yX8_init (.code yX8_init cX8_init 1 (Option.none : Option Jvm.ClassFile.FieldType)) rm_X8_init [.ref (gB G + v0)] h (QcV G h' (h.1.length + 1)) 1 21 :=
  x_met (by decide) rfl (Nat.le_of_ble_eq_true rfl) (fun p e s m args below meth c ls X M hr hk hin hl => w_X8_init X hr hk (by have := M.2.2; omega) hin N v0 h hf _ _ ls M hl)
abbrev rm_X6_stay : Room := { frames := 5, cells := 0, slots := 0, locals := 136 }
def f_X6_stay_25 (N : Nat) (n : Nat) (v1 : Nat) (v2 : Int32) (v3 : Int32) (v4 : Int32) (h : Mem) (k2 : Nat → Int32 → Mem → Option (Int32 × Mem)) : Option (Int32 × Mem) := match n with
  | 0 => none
  | n + 1 =>
    (gI h v1 1 1).bind fun t1 =>
    if t1 ≤ v4 then
      k2 v1 (v2 + 1) h
    else
      (ck h v1 1).bind fun _ =>
      b2 (f_X1_canGo N v1 v2 v4 h) fun t7 h6 =>
      if t7 = 0 then
        f_X6_stay_25 N n v1 v2 v3 (v4 + 1) h6 k2
      else
        (ck h6 v1 1).bind fun _ =>
        b2 (f_X1_worthOf N v1 v2 v4 h6) fun t12 h11 =>
        if t12 ≤ v3 then
          f_X6_stay_25 N n v1 v2 v3 (v4 + 1) h11 k2
        else
          some ((((100 : Int32) * v2) + v4), h11)
set_option maxRecDepth 100000 in
set_option maxHeartbeats 4000000 in
theorem w_X6_stay_25 {p : Program} {l : Launch} {e : Env} {s : State} {m : MethodId} {args : Array Value} {below : List Frame} {meth : Method} {c : Code} {G : Gx} {r : Int32} {h' : Mem} (X : CX G p s m args c cX6_stay 5 RX6) (hr : meth.sig.returnType = (Option.some Jvm.ClassFile.FieldType.int)) (hk : meth.locks = false) (N : Nat) (k2 : Nat → Int32 → Mem → Option (Int32 × Mem)) (K2 : ∀ (v1 : Nat) (v2 : Int32) (h : Mem), k2 v1 v2 h = some (r, h') → ∀ (H : Heap) (locs : List Loc) (ls : Array Slot), MS G s h H locs 0 → lv_has ls 5 [(1, .ref (gB G + v1)), (2, .int v2)] → W p l e (rm_X6_stay) s m args below meth c H locs 0 0 (QI G below args s r h' 0 0) (F0 m 2 ls [])) : ∀ (n : Nat) (v1 : Nat) (v2 : Int32) (v3 : Int32) (v4 : Int32) (h : Mem), f_X6_stay_25 N n v1 v2 v3 v4 h k2 = some (r, h') → ∀ (H : Heap) (locs : List Loc) (ls : Array Slot), MS G s h H locs 0 → lv_has ls 5 [(1, .ref (gB G + v1)), (2, .int v2), (3, .int v3), (4, .int v4)] → W p l e (rm_X6_stay) s m args below meth c H locs 0 0 (QI G below args s r h' 0 0) (F0 m 25 ls []) := by
  intro n
  induction n with
  | zero =>
    intro v1 v2 v3 v4 h hf
    cases hf
  | succ n ih =>
    intro v1 v2 v3 v4 h hf H locs ls M hl
    rw [f_X6_stay_25] at hf
    refine lv_iload X.1 X.2.1 dX6_stay_25 (lv_at hl 3 rfl) ?_
    refine lv_aload_n X.1 X.2.1 dX6_stay_27 rfl (lv_at hl 0 rfl) ?_
    obtain ⟨t1, q2, hf⟩ := bnd hf
    refine x_geti fl_X6_57 X M q2 dX6_stay_28 ?_
    refine lv_icmp_ge (tgt := 69) X.1 X.2.1 dX6_stay_31 (by decide) (fun c3 => ?_) (fun c3 => ?_)
    · have hf := ifp c3 hf
      refine lv_iinc (v := (v2 + 1)) (lv' := [(2, .int (v2 + 1)), (1, .ref (gB G + v1)), (3, .int v3), (4, .int v4)]) X.1 X.2.1 dX6_stay_69 hl (k := 1) rfl (by first | rfl | decide) (by decide) rfl (fun ls hl => ?_)
      refine lv_goto (tgt := 2) X.1 X.2.1 dX6_stay_72 (by decide) ?_
      exact K2 v1 (v2 + 1) h hf _ _ _ M (lv_sub hl [1, 0] rfl)
    · have hf := ifn c3 hf
      refine lv_aload_n X.1 X.2.1 dX6_stay_34 rfl (lv_at hl 0 rfl) ?_
      refine lv_iload_n X.1 X.2.1 dX6_stay_35 rfl (lv_at hl 1 rfl) ?_
      refine lv_iload X.1 X.2.1 dX6_stay_36 (lv_at hl 3 rfl) ?_
      obtain ⟨⟨⟩, q4, hf⟩ := bnd hf
      obtain ⟨t7, h6, q5, hf⟩ := bnd2 hf
      refine x_callVi (As := [.int v2, .int v4]) cf_X6_60 (c_X1_canGo l G N v1 v2 v4 h _ _ q5) rfl ⟨rfl, rfl, Nat.le_of_ble_eq_true rfl, Nat.le_of_ble_eq_true rfl⟩ ⟨Nat.le_of_ble_eq_true rfl, Nat.le_of_ble_eq_true rfl⟩ X M (x_recv cls_X1 X M q4) rfl rfl hl.1 (Nat.le_of_ble_eq_true rfl) dX6_stay_38 (fun H locs M => ?_)
      refine lv_if_eq (tgt := 63) X.1 X.2.1 dX6_stay_41 (by decide) (fun c8 => ?_) (fun c8 => ?_)
      · have hf := ifp c8 hf
        refine lv_iinc (v := (v4 + 1)) (lv' := [(4, .int (v4 + 1)), (1, .ref (gB G + v1)), (2, .int v2), (3, .int v3)]) X.1 X.2.1 dX6_stay_63 hl (k := 3) rfl (by first | rfl | decide) (by decide) rfl (fun ls hl => ?_)
        refine lv_goto (tgt := 25) X.1 X.2.1 dX6_stay_66 (by decide) ?_
        exact ih v1 v2 v3 (v4 + 1) h6 hf _ _ _ M (lv_sub hl [1, 2, 3, 0] rfl)
      · have hf := ifn c8 hf
        refine lv_aload_n X.1 X.2.1 dX6_stay_44 rfl (lv_at hl 0 rfl) ?_
        refine lv_iload_n X.1 X.2.1 dX6_stay_45 rfl (lv_at hl 1 rfl) ?_
        refine lv_iload X.1 X.2.1 dX6_stay_46 (lv_at hl 3 rfl) ?_
        obtain ⟨⟨⟩, q9, hf⟩ := bnd hf
        obtain ⟨t12, h11, q10, hf⟩ := bnd2 hf
        refine x_callVi (As := [.int v2, .int v4]) cf_X6_53 (c_X1_worthOf l G N v1 v2 v4 h6 _ _ q10) rfl ⟨rfl, rfl, Nat.le_of_ble_eq_true rfl, Nat.le_of_ble_eq_true rfl⟩ ⟨Nat.le_of_ble_eq_true rfl, Nat.le_of_ble_eq_true rfl⟩ X M (x_recv cls_X1 X M q9) rfl rfl hl.1 (Nat.le_of_ble_eq_true rfl) dX6_stay_48 (fun H locs M => ?_)
        refine lv_iload_n X.1 X.2.1 dX6_stay_51 rfl (lv_at hl 2 rfl) ?_
        refine lv_icmp_le (tgt := 63) X.1 X.2.1 dX6_stay_52 (by decide) (fun c13 => ?_) (fun c13 => ?_)
        · have hf := ifp c13 hf
          refine lv_iinc (v := (v4 + 1)) (lv' := [(4, .int (v4 + 1)), (1, .ref (gB G + v1)), (2, .int v2), (3, .int v3)]) X.1 X.2.1 dX6_stay_63 hl (k := 3) rfl (by first | rfl | decide) (by decide) rfl (fun ls hl => ?_)
          refine lv_goto (tgt := 25) X.1 X.2.1 dX6_stay_66 (by decide) ?_
          exact ih v1 v2 v3 (v4 + 1) h11 hf _ _ _ M (lv_sub hl [1, 2, 3, 0] rfl)
        · have hf := ifn c13 hf
          refine lv_bipush (v := (100 : Int32)) X.1 X.2.1 dX6_stay_55 (by decide) ?_
          refine lv_iload_n X.1 X.2.1 dX6_stay_57 rfl (lv_at hl 1 rfl) ?_
          refine lv_imul X.1 X.2.1 dX6_stay_58 ?_
          refine lv_iload X.1 X.2.1 dX6_stay_59 (lv_at hl 3 rfl) ?_
          refine lv_iadd X.1 X.2.1 dX6_stay_61 ?_
          obtain ⟨rfl, rfl⟩ := rt2 hf
          exact x_iret X hr hk M dX6_stay_62
def f_X6_stay_2 (N : Nat) (n : Nat) (v1 : Nat) (v2 : Int32) (h : Mem) : Option (Int32 × Mem) := match n with
  | 0 => none
  | n + 1 =>
    (gI h v1 1 2).bind fun t1 =>
    if t1 ≤ v2 then
      some ((-5 : Int32), h)
    else
      (gR h v1 1 10).bind fun t4 =>
      (lI 100 h t4 v2).bind fun t6 =>
      (ck h v1 1).bind fun _ =>
      b2 (f_X1_worthOf N v1 v2 t6 h) fun t11 h10 =>
      f_X6_stay_25 N N v1 v2 t11 (0 : Int32) h10 (fun v1 v2 h => f_X6_stay_2 N n v1 v2 h)
set_option maxRecDepth 100000 in
set_option maxHeartbeats 4000000 in
theorem w_X6_stay_2 {p : Program} {l : Launch} {e : Env} {s : State} {m : MethodId} {args : Array Value} {below : List Frame} {meth : Method} {c : Code} {G : Gx} {r : Int32} {h' : Mem} (X : CX G p s m args c cX6_stay 5 RX6) (hr : meth.sig.returnType = (Option.some Jvm.ClassFile.FieldType.int)) (hk : meth.locks = false) (N : Nat) : ∀ (n : Nat) (v1 : Nat) (v2 : Int32) (h : Mem), f_X6_stay_2 N n v1 v2 h = some (r, h') → ∀ (H : Heap) (locs : List Loc) (ls : Array Slot), MS G s h H locs 0 → lv_has ls 5 [(1, .ref (gB G + v1)), (2, .int v2)] → W p l e (rm_X6_stay) s m args below meth c H locs 0 0 (QI G below args s r h' 0 0) (F0 m 2 ls []) := by
  intro n
  induction n with
  | zero =>
    intro v1 v2 h hf
    cases hf
  | succ n ih =>
    intro v1 v2 h hf H locs ls M hl
    rw [f_X6_stay_2] at hf
    refine lv_iload_n X.1 X.2.1 dX6_stay_2 rfl (lv_at hl 1 rfl) ?_
    refine lv_aload_n X.1 X.2.1 dX6_stay_3 rfl (lv_at hl 0 rfl) ?_
    obtain ⟨t1, q2, hf⟩ := bnd hf
    refine x_geti fl_X6_44 X M q2 dX6_stay_4 ?_
    refine lv_icmp_ge (tgt := 75) X.1 X.2.1 dX6_stay_7 (by decide) (fun c3 => ?_) (fun c3 => ?_)
    · have hf := ifp c3 hf
      refine lv_bipush (v := (-5 : Int32)) X.1 X.2.1 dX6_stay_75 (by decide) ?_
      obtain ⟨rfl, rfl⟩ := rt2 hf
      exact x_iret X hr hk M dX6_stay_77
    · have hf := ifn c3 hf
      refine lv_aload_n X.1 X.2.1 dX6_stay_10 rfl (lv_at hl 0 rfl) ?_
      refine lv_iload_n X.1 X.2.1 dX6_stay_11 rfl (lv_at hl 1 rfl) ?_
      refine lv_aload_n X.1 X.2.1 dX6_stay_12 rfl (lv_at hl 0 rfl) ?_
      obtain ⟨t4, q5, hf⟩ := bnd hf
      refine x_getr fl_X6_50 X M q5 dX6_stay_13 ?_
      refine lv_iload_n X.1 X.2.1 dX6_stay_16 rfl (lv_at hl 1 rfl) ?_
      obtain ⟨t6, q7, hf⟩ := bnd hf
      refine x_iald X M q7 dX6_stay_17 ?_
      obtain ⟨⟨⟩, q8, hf⟩ := bnd hf
      obtain ⟨t11, h10, q9, hf⟩ := bnd2 hf
      refine x_callVi (As := [.int v2, .int t6]) cf_X6_53 (c_X1_worthOf l G N v1 v2 t6 h _ _ q9) rfl ⟨rfl, rfl, Nat.le_of_ble_eq_true rfl, Nat.le_of_ble_eq_true rfl⟩ ⟨Nat.le_of_ble_eq_true rfl, Nat.le_of_ble_eq_true rfl⟩ X M (x_recv cls_X1 X M q8) rfl rfl hl.1 (Nat.le_of_ble_eq_true rfl) dX6_stay_18 (fun H locs M => ?_)
      refine lv_istore_n (lv' := [(3, .int t11), (1, .ref (gB G + v1)), (2, .int v2)]) X.1 X.2.1 dX6_stay_21 rfl hl (by decide) rfl (fun ls hl => ?_)
      refine lv_iconst (v := (0 : Int32)) X.1 X.2.1 dX6_stay_22 (by decide) ?_
      refine lv_istore (lv' := [(4, .int (0 : Int32)), (3, .int t11), (1, .ref (gB G + v1)), (2, .int v2)]) X.1 X.2.1 dX6_stay_23 hl (by decide) rfl (fun ls hl => ?_)
      exact w_X6_stay_25 X hr hk N _ (fun v1 v2 h hf H locs ls M hl => ih v1 v2 h hf H locs ls M hl) N v1 v2 t11 (0 : Int32) h10 hf _ _ _ M (lv_sub hl [2, 3, 1, 0] rfl)
def f_X6_stay (N : Nat) (v0 : Nat) (v1 : Nat) (h : Mem) : Option (Int32 × Mem) :=
  f_X6_stay_2 N N v1 (0 : Int32) h
set_option maxRecDepth 100000 in
set_option maxHeartbeats 4000000 in
theorem w_X6_stay {p : Program} {l : Launch} {e : Env} {s : State} {m : MethodId} {args : Array Value} {below : List Frame} {meth : Method} {c : Code} {G : Gx} {r : Int32} {h' : Mem} (X : CX G p s m args c cX6_stay 5 RX6) (hr : meth.sig.returnType = (Option.some Jvm.ClassFile.FieldType.int)) (hk : meth.locks = false) (N : Nat) : ∀ (v0 : Nat) (v1 : Nat) (h : Mem), f_X6_stay N v0 v1 h = some (r, h') → ∀ (H : Heap) (locs : List Loc) (ls : Array Slot), MS G s h H locs 0 → lv_has ls 5 [(0, .ref (gB G + v0)), (1, .ref (gB G + v1))] → W p l e (rm_X6_stay) s m args below meth c H locs 0 0 (QI G below args s r h' 0 0) (F0 m 0 ls []) := by
  intro v0 v1 h hf H locs ls M hl
  rw [f_X6_stay] at hf
  refine lv_iconst (v := (0 : Int32)) X.1 X.2.1 dX6_stay_0 (by decide) ?_
  refine lv_istore_n (lv' := [(2, .int (0 : Int32)), (0, .ref (gB G + v0)), (1, .ref (gB G + v1))]) X.1 X.2.1 dX6_stay_1 rfl hl (by decide) rfl (fun ls hl => ?_)
  exact w_X6_stay_2 X hr hk N N v1 (0 : Int32) h hf _ _ _ M (lv_sub hl [2, 0] rfl)
theorem c_X6_stay (l : Launch) (G : Gx) (N : Nat) (v0 : Nat) (v1 : Nat) (h : Mem) (r : Int32) (h' : Mem) (hf : f_X6_stay N v0 v1 h = some (r, h')) : MetG l G yX6_stay (.code yX6_stay cX6_stay 5 (Option.some Jvm.ClassFile.FieldType.int)) rm_X6_stay [.ref (gB G + v0), .ref (gB G + v1)] h (QcI G r h') 0 0 :=
  x_met (by decide) rfl (Nat.le_of_ble_eq_true rfl) (fun p e s m args below meth c ls X M hr hk hin hl => w_X6_stay X hr hk N v0 v1 h hf _ _ ls M hl)
abbrev rm_X6_isUnder : Room := { frames := 1, cells := 0, slots := 0, locals := 40 }
def f_X6_isUnder_4 (N : Nat) (n : Nat) (v1 : Int32) (v2 : Int32) (v3 : Int32) (h : Mem) : Option (Int32 × Mem) := match n with
  | 0 => none
  | n + 1 =>
    if (6 : Int32) ≤ v3 then
      some ((0 : Int32), h)
    else
      if v2 < 0 then
        some ((0 : Int32), h)
      else
        if v2 = v1 then
          some ((1 : Int32), h)
        else
          (lT 0 v2).bind fun t4 =>
          f_X6_isUnder_4 N n v1 t4 (v3 + 1) h
set_option maxRecDepth 100000 in
set_option maxHeartbeats 4000000 in
theorem w_X6_isUnder_4 {p : Program} {l : Launch} {e : Env} {s : State} {m : MethodId} {args : Array Value} {below : List Frame} {meth : Method} {c : Code} {G : Gx} {r : Int32} {h' : Mem} (X : CX G p s m args c cX6_isUnder 4 RX6) (hr : meth.sig.returnType = (Option.some Jvm.ClassFile.FieldType.boolean)) (hk : meth.locks = false) (N : Nat) : ∀ (n : Nat) (v1 : Int32) (v2 : Int32) (v3 : Int32) (h : Mem), f_X6_isUnder_4 N n v1 v2 v3 h = some (r, h') → ∀ (H : Heap) (locs : List Loc) (ls : Array Slot), MS G s h H locs 0 → lv_has ls 4 [(1, .int v1), (2, .int v2), (3, .int v3)] → W p l e (rm_X6_isUnder) s m args below meth c H locs 0 0 (QI G below args s r h' 0 0) (F0 m 4 ls []) := by
  intro n
  induction n with
  | zero =>
    intro v1 v2 v3 h hf
    cases hf
  | succ n ih =>
    intro v1 v2 v3 h hf H locs ls M hl
    rw [f_X6_isUnder_4] at hf
    refine lv_iload_n X.1 X.2.1 dX6_isUnder_4 rfl (lv_at hl 2 rfl) ?_
    refine lv_bipush (v := (6 : Int32)) X.1 X.2.1 dX6_isUnder_5 (by decide) ?_
    refine lv_icmp_ge (tgt := 33) X.1 X.2.1 dX6_isUnder_7 (by decide) (fun c1 => ?_) (fun c1 => ?_)
    · have hf := ifp c1 hf
      refine lv_iconst (v := (0 : Int32)) X.1 X.2.1 dX6_isUnder_33 (by decide) ?_
      obtain ⟨rfl, rfl⟩ := rt2 hf
      exact x_zret X hr hk rfl M dX6_isUnder_34
    · have hf := ifn c1 hf
      refine lv_iload_n X.1 X.2.1 dX6_isUnder_10 rfl (lv_at hl 1 rfl) ?_
      refine lv_if_lt (tgt := 33) X.1 X.2.1 dX6_isUnder_11 (by decide) (fun c2 => ?_) (fun c2 => ?_)
      · have hf := ifp c2 hf
        refine lv_iconst (v := (0 : Int32)) X.1 X.2.1 dX6_isUnder_33 (by decide) ?_
        obtain ⟨rfl, rfl⟩ := rt2 hf
        exact x_zret X hr hk rfl M dX6_isUnder_34
      · have hf := ifn c2 hf
        refine lv_iload_n X.1 X.2.1 dX6_isUnder_14 rfl (lv_at hl 1 rfl) ?_
        refine lv_iload_n X.1 X.2.1 dX6_isUnder_15 rfl (lv_at hl 0 rfl) ?_
        refine lv_icmp_ne (tgt := 21) X.1 X.2.1 dX6_isUnder_16 (by decide) (fun c3 => ?_) (fun c3 => ?_)
        · have hf := ifn c3 hf
          refine x_above (by decide +kernel) X M dX6_isUnder_21 ?_
          refine lv_iload_n X.1 X.2.1 dX6_isUnder_24 rfl (lv_at hl 1 rfl) ?_
          obtain ⟨t4, q5, hf⟩ := bnd hf
          refine x_tald (by decide) X M q5 dX6_isUnder_25 ?_
          refine lv_istore_n (lv' := [(2, .int t4), (1, .int v1), (3, .int v3)]) X.1 X.2.1 dX6_isUnder_26 rfl hl (by decide) rfl (fun ls hl => ?_)
          refine lv_iinc (v := (v3 + 1)) (lv' := [(3, .int (v3 + 1)), (2, .int t4), (1, .int v1)]) X.1 X.2.1 dX6_isUnder_27 hl (k := 2) rfl (by first | rfl | decide) (by decide) rfl (fun ls hl => ?_)
          refine lv_goto (tgt := 4) X.1 X.2.1 dX6_isUnder_30 (by decide) ?_
          exact ih v1 t4 (v3 + 1) h hf _ _ _ M (lv_sub hl [2, 1, 0] rfl)
        · have hf := ifp c3 hf
          refine lv_iconst (v := (1 : Int32)) X.1 X.2.1 dX6_isUnder_19 (by decide) ?_
          obtain ⟨rfl, rfl⟩ := rt2 hf
          exact x_zret X hr hk rfl M dX6_isUnder_20
def f_X6_isUnder (N : Nat) (v0 : Int32) (v1 : Int32) (h : Mem) : Option (Int32 × Mem) :=
  f_X6_isUnder_4 N N v1 v0 (0 : Int32) h
set_option maxRecDepth 100000 in
set_option maxHeartbeats 4000000 in
theorem w_X6_isUnder {p : Program} {l : Launch} {e : Env} {s : State} {m : MethodId} {args : Array Value} {below : List Frame} {meth : Method} {c : Code} {G : Gx} {r : Int32} {h' : Mem} (X : CX G p s m args c cX6_isUnder 4 RX6) (hr : meth.sig.returnType = (Option.some Jvm.ClassFile.FieldType.boolean)) (hk : meth.locks = false) (N : Nat) : ∀ (v0 : Int32) (v1 : Int32) (h : Mem), f_X6_isUnder N v0 v1 h = some (r, h') → ∀ (H : Heap) (locs : List Loc) (ls : Array Slot), MS G s h H locs 0 → lv_has ls 4 [(0, .int v0), (1, .int v1)] → W p l e (rm_X6_isUnder) s m args below meth c H locs 0 0 (QI G below args s r h' 0 0) (F0 m 0 ls []) := by
  intro v0 v1 h hf H locs ls M hl
  rw [f_X6_isUnder] at hf
  refine lv_iload_n X.1 X.2.1 dX6_isUnder_0 rfl (lv_at hl 0 rfl) ?_
  refine lv_istore_n (lv' := [(2, .int v0), (0, .int v0), (1, .int v1)]) X.1 X.2.1 dX6_isUnder_1 rfl hl (by decide) rfl (fun ls hl => ?_)
  refine lv_iconst (v := (0 : Int32)) X.1 X.2.1 dX6_isUnder_2 (by decide) ?_
  refine lv_istore_n (lv' := [(3, .int (0 : Int32)), (2, .int v0), (0, .int v0), (1, .int v1)]) X.1 X.2.1 dX6_isUnder_3 rfl hl (by decide) rfl (fun ls hl => ?_)
  exact w_X6_isUnder_4 X hr hk N N v1 v0 (0 : Int32) h hf _ _ _ M (lv_sub hl [3, 1, 0] rfl)
theorem c_X6_isUnder (l : Launch) (G : Gx) (N : Nat) (v0 : Int32) (v1 : Int32) (h : Mem) (r : Int32) (h' : Mem) (hf : f_X6_isUnder N v0 v1 h = some (r, h')) : MetG l G yX6_isUnder (.code yX6_isUnder cX6_isUnder 4 (Option.some Jvm.ClassFile.FieldType.boolean)) rm_X6_isUnder [.int v0, .int v1] h (QcI G r h') 0 0 :=
  x_met (by decide) rfl (Nat.le_of_ble_eq_true rfl) (fun p e s m args below meth c ls X M hr hk hin hl => w_X6_isUnder X hr hk N v0 v1 h hf _ _ ls M hl)
abbrev rm_X6_voted : Room := { frames := 5, cells := 0, slots := 0, locals := 146 }
def f_X6_voted_12 (N : Nat) (n : Nat) (v1 : Nat) (v2 : Int32) (v3 : Int32) (h : Mem) (k2 : Nat → Int32 → Mem → Option (Int32 × Mem)) : Option (Int32 × Mem) := match n with
  | 0 => none
  | n + 1 =>
    if (3 : Int32) ≤ v3 then
      k2 v1 (v2 + 1) h
    else
      (ck h v1 1).bind fun _ =>
      b2 (f_X1_chosenLevel N v1 v2 v3 h) fun t5 h4 =>
      (gR h4 v1 1 4).bind fun t6 =>
      (lI 100 h4 t6 ((v2 * (3 : Int32)) + v3)).bind fun t8 =>
      if t5 = t8 then
        f_X6_voted_12 N n v1 v2 (v3 + 1) h4 k2
      else
        some ((((100 : Int32) * v2) + v3), h4)
set_option maxRecDepth 100000 in
set_option maxHeartbeats 4000000 in
theorem w_X6_voted_12 {p : Program} {l : Launch} {e : Env} {s : State} {m : MethodId} {args : Array Value} {below : List Frame} {meth : Method} {c : Code} {G : Gx} {r : Int32} {h' : Mem} (X : CX G p s m args c cX6_voted 4 RX6) (hr : meth.sig.returnType = (Option.some Jvm.ClassFile.FieldType.int)) (hk : meth.locks = false) (N : Nat) (k2 : Nat → Int32 → Mem → Option (Int32 × Mem)) (K2 : ∀ (v1 : Nat) (v2 : Int32) (h : Mem), k2 v1 v2 h = some (r, h') → ∀ (H : Heap) (locs : List Loc) (ls : Array Slot), MS G s h H locs 0 → lv_has ls 4 [(1, .ref (gB G + v1)), (2, .int v2)] → W p l e (rm_X6_voted) s m args below meth c H locs 0 0 (QI G below args s r h' 0 0) (F0 m 2 ls [])) : ∀ (n : Nat) (v1 : Nat) (v2 : Int32) (v3 : Int32) (h : Mem), f_X6_voted_12 N n v1 v2 v3 h k2 = some (r, h') → ∀ (H : Heap) (locs : List Loc) (ls : Array Slot), MS G s h H locs 0 → lv_has ls 4 [(1, .ref (gB G + v1)), (2, .int v2), (3, .int v3)] → W p l e (rm_X6_voted) s m args below meth c H locs 0 0 (QI G below args s r h' 0 0) (F0 m 12 ls []) := by
  intro n
  induction n with
  | zero =>
    intro v1 v2 v3 h hf
    cases hf
  | succ n ih =>
    intro v1 v2 v3 h hf H locs ls M hl
    rw [f_X6_voted_12] at hf
    refine lv_iload_n X.1 X.2.1 dX6_voted_12 rfl (lv_at hl 2 rfl) ?_
    refine lv_iconst (v := (3 : Int32)) X.1 X.2.1 dX6_voted_13 (by decide) ?_
    refine lv_icmp_ge (tgt := 49) X.1 X.2.1 dX6_voted_14 (by decide) (fun c1 => ?_) (fun c1 => ?_)
    · have hf := ifp c1 hf
      refine lv_iinc (v := (v2 + 1)) (lv' := [(2, .int (v2 + 1)), (1, .ref (gB G + v1)), (3, .int v3)]) X.1 X.2.1 dX6_voted_49 hl (k := 1) rfl (by first | rfl | decide) (by decide) rfl (fun ls hl => ?_)
      refine lv_goto (tgt := 2) X.1 X.2.1 dX6_voted_52 (by decide) ?_
      exact K2 v1 (v2 + 1) h hf _ _ _ M (lv_sub hl [1, 0] rfl)
    · have hf := ifn c1 hf
      refine lv_aload_n X.1 X.2.1 dX6_voted_17 rfl (lv_at hl 0 rfl) ?_
      refine lv_iload_n X.1 X.2.1 dX6_voted_18 rfl (lv_at hl 1 rfl) ?_
      refine lv_iload_n X.1 X.2.1 dX6_voted_19 rfl (lv_at hl 2 rfl) ?_
      obtain ⟨⟨⟩, q2, hf⟩ := bnd hf
      obtain ⟨t5, h4, q3, hf⟩ := bnd2 hf
      refine x_callVi (As := [.int v2, .int v3]) cf_X6_63 (c_X1_chosenLevel l G N v1 v2 v3 h _ _ q3) rfl ⟨rfl, rfl, Nat.le_of_ble_eq_true rfl, Nat.le_of_ble_eq_true rfl⟩ ⟨Nat.le_of_ble_eq_true rfl, Nat.le_of_ble_eq_true rfl⟩ X M (x_recv cls_X1 X M q2) rfl rfl hl.1 (Nat.le_of_ble_eq_true rfl) dX6_voted_20 (fun H locs M => ?_)
      refine lv_aload_n X.1 X.2.1 dX6_voted_23 rfl (lv_at hl 0 rfl) ?_
      obtain ⟨t6, q7, hf⟩ := bnd hf
      refine x_getr fl_X6_66 X M q7 dX6_voted_24 ?_
      refine lv_iload_n X.1 X.2.1 dX6_voted_27 rfl (lv_at hl 1 rfl) ?_
      refine lv_iconst (v := (3 : Int32)) X.1 X.2.1 dX6_voted_28 (by decide) ?_
      refine lv_imul X.1 X.2.1 dX6_voted_29 ?_
      refine lv_iload_n X.1 X.2.1 dX6_voted_30 rfl (lv_at hl 2 rfl) ?_
      refine lv_iadd X.1 X.2.1 dX6_voted_31 ?_
      obtain ⟨t8, q9, hf⟩ := bnd hf
      refine x_iald X M q9 dX6_voted_32 ?_
      refine lv_icmp_eq (tgt := 43) X.1 X.2.1 dX6_voted_33 (by decide) (fun c10 => ?_) (fun c10 => ?_)
      · have hf := ifp c10 hf
        refine lv_iinc (v := (v3 + 1)) (lv' := [(3, .int (v3 + 1)), (1, .ref (gB G + v1)), (2, .int v2)]) X.1 X.2.1 dX6_voted_43 hl (k := 2) rfl (by first | rfl | decide) (by decide) rfl (fun ls hl => ?_)
        refine lv_goto (tgt := 12) X.1 X.2.1 dX6_voted_46 (by decide) ?_
        exact ih v1 v2 (v3 + 1) h4 hf _ _ _ M (lv_sub hl [1, 2, 0] rfl)
      · have hf := ifn c10 hf
        refine lv_bipush (v := (100 : Int32)) X.1 X.2.1 dX6_voted_36 (by decide) ?_
        refine lv_iload_n X.1 X.2.1 dX6_voted_38 rfl (lv_at hl 1 rfl) ?_
        refine lv_imul X.1 X.2.1 dX6_voted_39 ?_
        refine lv_iload_n X.1 X.2.1 dX6_voted_40 rfl (lv_at hl 2 rfl) ?_
        refine lv_iadd X.1 X.2.1 dX6_voted_41 ?_
        obtain ⟨rfl, rfl⟩ := rt2 hf
        exact x_iret X hr hk M dX6_voted_42
def f_X6_voted_2 (N : Nat) (n : Nat) (v1 : Nat) (v2 : Int32) (h : Mem) : Option (Int32 × Mem) := match n with
  | 0 => none
  | n + 1 =>
    (gI h v1 1 1).bind fun t1 =>
    if t1 ≤ v2 then
      some ((-5 : Int32), h)
    else
      f_X6_voted_12 N N v1 v2 (0 : Int32) h (fun v1 v2 h => f_X6_voted_2 N n v1 v2 h)
set_option maxRecDepth 100000 in
set_option maxHeartbeats 4000000 in
theorem w_X6_voted_2 {p : Program} {l : Launch} {e : Env} {s : State} {m : MethodId} {args : Array Value} {below : List Frame} {meth : Method} {c : Code} {G : Gx} {r : Int32} {h' : Mem} (X : CX G p s m args c cX6_voted 4 RX6) (hr : meth.sig.returnType = (Option.some Jvm.ClassFile.FieldType.int)) (hk : meth.locks = false) (N : Nat) : ∀ (n : Nat) (v1 : Nat) (v2 : Int32) (h : Mem), f_X6_voted_2 N n v1 v2 h = some (r, h') → ∀ (H : Heap) (locs : List Loc) (ls : Array Slot), MS G s h H locs 0 → lv_has ls 4 [(1, .ref (gB G + v1)), (2, .int v2)] → W p l e (rm_X6_voted) s m args below meth c H locs 0 0 (QI G below args s r h' 0 0) (F0 m 2 ls []) := by
  intro n
  induction n with
  | zero =>
    intro v1 v2 h hf
    cases hf
  | succ n ih =>
    intro v1 v2 h hf H locs ls M hl
    rw [f_X6_voted_2] at hf
    refine lv_iload_n X.1 X.2.1 dX6_voted_2 rfl (lv_at hl 1 rfl) ?_
    refine lv_aload_n X.1 X.2.1 dX6_voted_3 rfl (lv_at hl 0 rfl) ?_
    obtain ⟨t1, q2, hf⟩ := bnd hf
    refine x_geti fl_X6_57 X M q2 dX6_voted_4 ?_
    refine lv_icmp_ge (tgt := 55) X.1 X.2.1 dX6_voted_7 (by decide) (fun c3 => ?_) (fun c3 => ?_)
    · have hf := ifp c3 hf
      refine lv_bipush (v := (-5 : Int32)) X.1 X.2.1 dX6_voted_55 (by decide) ?_
      obtain ⟨rfl, rfl⟩ := rt2 hf
      exact x_iret X hr hk M dX6_voted_57
    · have hf := ifn c3 hf
      refine lv_iconst (v := (0 : Int32)) X.1 X.2.1 dX6_voted_10 (by decide) ?_
      refine lv_istore_n (lv' := [(3, .int (0 : Int32)), (1, .ref (gB G + v1)), (2, .int v2)]) X.1 X.2.1 dX6_voted_11 rfl hl (by decide) rfl (fun ls hl => ?_)
      exact w_X6_voted_12 X hr hk N _ (fun v1 v2 h hf H locs ls M hl => ih v1 v2 h hf H locs ls M hl) N v1 v2 (0 : Int32) h hf _ _ _ M (lv_sub hl [1, 2, 0] rfl)
def f_X6_voted (N : Nat) (v0 : Nat) (v1 : Nat) (h : Mem) : Option (Int32 × Mem) :=
  f_X6_voted_2 N N v1 (0 : Int32) h
set_option maxRecDepth 100000 in
set_option maxHeartbeats 4000000 in
theorem w_X6_voted {p : Program} {l : Launch} {e : Env} {s : State} {m : MethodId} {args : Array Value} {below : List Frame} {meth : Method} {c : Code} {G : Gx} {r : Int32} {h' : Mem} (X : CX G p s m args c cX6_voted 4 RX6) (hr : meth.sig.returnType = (Option.some Jvm.ClassFile.FieldType.int)) (hk : meth.locks = false) (N : Nat) : ∀ (v0 : Nat) (v1 : Nat) (h : Mem), f_X6_voted N v0 v1 h = some (r, h') → ∀ (H : Heap) (locs : List Loc) (ls : Array Slot), MS G s h H locs 0 → lv_has ls 4 [(0, .ref (gB G + v0)), (1, .ref (gB G + v1))] → W p l e (rm_X6_voted) s m args below meth c H locs 0 0 (QI G below args s r h' 0 0) (F0 m 0 ls []) := by
  intro v0 v1 h hf H locs ls M hl
  rw [f_X6_voted] at hf
  refine lv_iconst (v := (0 : Int32)) X.1 X.2.1 dX6_voted_0 (by decide) ?_
  refine lv_istore_n (lv' := [(2, .int (0 : Int32)), (0, .ref (gB G + v0)), (1, .ref (gB G + v1))]) X.1 X.2.1 dX6_voted_1 rfl hl (by decide) rfl (fun ls hl => ?_)
  exact w_X6_voted_2 X hr hk N N v1 (0 : Int32) h hf _ _ _ M (lv_sub hl [2, 0] rfl)
theorem c_X6_voted (l : Launch) (G : Gx) (N : Nat) (v0 : Nat) (v1 : Nat) (h : Mem) (r : Int32) (h' : Mem) (hf : f_X6_voted N v0 v1 h = some (r, h')) : MetG l G yX6_voted (.code yX6_voted cX6_voted 4 (Option.some Jvm.ClassFile.FieldType.int)) rm_X6_voted [.ref (gB G + v0), .ref (gB G + v1)] h (QcI G r h') 0 0 :=
  x_met (by decide) rfl (Nat.le_of_ble_eq_true rfl) (fun p e s m args below meth c ls X M hr hk hin hl => w_X6_voted X hr hk N v0 v1 h hf _ _ ls M hl)
abbrev rm_X6_rented : Room := { frames := 5, cells := 0, slots := 0, locals := 136 }
def f_X6_rented_25 (N : Nat) (n : Nat) (v1 : Nat) (v2 : Int32) (v3 : Int32) (v4 : Int32) (h : Mem) (k2 : Nat → Int32 → Mem → Option (Int32 × Mem)) : Option (Int32 × Mem) := match n with
  | 0 => none
  | n + 1 =>
    (gI h v1 1 1).bind fun t1 =>
    if t1 ≤ v4 then
      k2 v1 (v2 + 1) h
    else
      (ck h v1 1).bind fun _ =>
      b2 (f_X1_hasRoom N v1 v4 h) fun t7 h6 =>
      if t7 = 0 then
        (gR h6 v1 1 9).bind fun t9 =>
        (lI 100 h6 t9 v2).bind fun t11 =>
        (gR h6 v1 1 6).bind fun t13 =>
        (lI 100 h6 t13 v4).bind fun t15 =>
        if t11 < t15 then
          f_X6_rented_25 N n v1 v2 v3 (v4 + 1) h6 k2
        else
          (ck h6 v1 1).bind fun _ =>
          b2 (f_X1_worthOf N v1 v2 v4 h6) fun t21 h20 =>
          if t21 ≤ v3 then
            f_X6_rented_25 N n v1 v2 v3 (v4 + 1) h20 k2
          else
            some ((((100 : Int32) * v2) + v4), h20)
      else
        f_X6_rented_25 N n v1 v2 v3 (v4 + 1) h6 k2
set_option maxRecDepth 100000 in
set_option maxHeartbeats 4000000 in
theorem w_X6_rented_25 {p : Program} {l : Launch} {e : Env} {s : State} {m : MethodId} {args : Array Value} {below : List Frame} {meth : Method} {c : Code} {G : Gx} {r : Int32} {h' : Mem} (X : CX G p s m args c cX6_rented 5 RX6) (hr : meth.sig.returnType = (Option.some Jvm.ClassFile.FieldType.int)) (hk : meth.locks = false) (N : Nat) (k2 : Nat → Int32 → Mem → Option (Int32 × Mem)) (K2 : ∀ (v1 : Nat) (v2 : Int32) (h : Mem), k2 v1 v2 h = some (r, h') → ∀ (H : Heap) (locs : List Loc) (ls : Array Slot), MS G s h H locs 0 → lv_has ls 5 [(1, .ref (gB G + v1)), (2, .int v2)] → W p l e (rm_X6_rented) s m args below meth c H locs 0 0 (QI G below args s r h' 0 0) (F0 m 2 ls [])) : ∀ (n : Nat) (v1 : Nat) (v2 : Int32) (v3 : Int32) (v4 : Int32) (h : Mem), f_X6_rented_25 N n v1 v2 v3 v4 h k2 = some (r, h') → ∀ (H : Heap) (locs : List Loc) (ls : Array Slot), MS G s h H locs 0 → lv_has ls 5 [(1, .ref (gB G + v1)), (2, .int v2), (3, .int v3), (4, .int v4)] → W p l e (rm_X6_rented) s m args below meth c H locs 0 0 (QI G below args s r h' 0 0) (F0 m 25 ls []) := by
  intro n
  induction n with
  | zero =>
    intro v1 v2 v3 v4 h hf
    cases hf
  | succ n ih =>
    intro v1 v2 v3 v4 h hf H locs ls M hl
    rw [f_X6_rented_25] at hf
    refine lv_iload X.1 X.2.1 dX6_rented_25 (lv_at hl 3 rfl) ?_
    refine lv_aload_n X.1 X.2.1 dX6_rented_27 rfl (lv_at hl 0 rfl) ?_
    obtain ⟨t1, q2, hf⟩ := bnd hf
    refine x_geti fl_X6_57 X M q2 dX6_rented_28 ?_
    refine lv_icmp_ge (tgt := 84) X.1 X.2.1 dX6_rented_31 (by decide) (fun c3 => ?_) (fun c3 => ?_)
    · have hf := ifp c3 hf
      refine lv_iinc (v := (v2 + 1)) (lv' := [(2, .int (v2 + 1)), (1, .ref (gB G + v1)), (3, .int v3), (4, .int v4)]) X.1 X.2.1 dX6_rented_84 hl (k := 1) rfl (by first | rfl | decide) (by decide) rfl (fun ls hl => ?_)
      refine lv_goto (tgt := 2) X.1 X.2.1 dX6_rented_87 (by decide) ?_
      exact K2 v1 (v2 + 1) h hf _ _ _ M (lv_sub hl [1, 0] rfl)
    · have hf := ifn c3 hf
      refine lv_aload_n X.1 X.2.1 dX6_rented_34 rfl (lv_at hl 0 rfl) ?_
      refine lv_iload X.1 X.2.1 dX6_rented_35 (lv_at hl 3 rfl) ?_
      obtain ⟨⟨⟩, q4, hf⟩ := bnd hf
      obtain ⟨t7, h6, q5, hf⟩ := bnd2 hf
      refine x_callVi (As := [.int v4]) cf_X6_69 (c_X1_hasRoom l G N v1 v4 h _ _ q5) rfl ⟨rfl, rfl, Nat.le_of_ble_eq_true rfl, Nat.le_of_ble_eq_true rfl⟩ ⟨Nat.le_of_ble_eq_true rfl, Nat.le_of_ble_eq_true rfl⟩ X M (x_recv cls_X1 X M q4) rfl rfl hl.1 (Nat.le_of_ble_eq_true rfl) dX6_rented_37 (fun H locs M => ?_)
      refine lv_if_ne (tgt := 78) X.1 X.2.1 dX6_rented_40 (by decide) (fun c8 => ?_) (fun c8 => ?_)
      · have hf := ifn c8 hf
        refine lv_iinc (v := (v4 + 1)) (lv' := [(4, .int (v4 + 1)), (1, .ref (gB G + v1)), (2, .int v2), (3, .int v3)]) X.1 X.2.1 dX6_rented_78 hl (k := 3) rfl (by first | rfl | decide) (by decide) rfl (fun ls hl => ?_)
        refine lv_goto (tgt := 25) X.1 X.2.1 dX6_rented_81 (by decide) ?_
        exact ih v1 v2 v3 (v4 + 1) h6 hf _ _ _ M (lv_sub hl [1, 2, 3, 0] rfl)
      · have hf := ifp c8 hf
        refine lv_aload_n X.1 X.2.1 dX6_rented_43 rfl (lv_at hl 0 rfl) ?_
        obtain ⟨t9, q10, hf⟩ := bnd hf
        refine x_getr fl_X6_73 X M q10 dX6_rented_44 ?_
        refine lv_iload_n X.1 X.2.1 dX6_rented_47 rfl (lv_at hl 1 rfl) ?_
        obtain ⟨t11, q12, hf⟩ := bnd hf
        refine x_iald X M q12 dX6_rented_48 ?_
        refine lv_aload_n X.1 X.2.1 dX6_rented_49 rfl (lv_at hl 0 rfl) ?_
        obtain ⟨t13, q14, hf⟩ := bnd hf
        refine x_getr fl_X6_76 X M q14 dX6_rented_50 ?_
        refine lv_iload X.1 X.2.1 dX6_rented_53 (lv_at hl 3 rfl) ?_
        obtain ⟨t15, q16, hf⟩ := bnd hf
        refine x_iald X M q16 dX6_rented_55 ?_
        refine lv_icmp_lt (tgt := 78) X.1 X.2.1 dX6_rented_56 (by decide) (fun c17 => ?_) (fun c17 => ?_)
        · have hf := ifp c17 hf
          refine lv_iinc (v := (v4 + 1)) (lv' := [(4, .int (v4 + 1)), (1, .ref (gB G + v1)), (2, .int v2), (3, .int v3)]) X.1 X.2.1 dX6_rented_78 hl (k := 3) rfl (by first | rfl | decide) (by decide) rfl (fun ls hl => ?_)
          refine lv_goto (tgt := 25) X.1 X.2.1 dX6_rented_81 (by decide) ?_
          exact ih v1 v2 v3 (v4 + 1) h6 hf _ _ _ M (lv_sub hl [1, 2, 3, 0] rfl)
        · have hf := ifn c17 hf
          refine lv_aload_n X.1 X.2.1 dX6_rented_59 rfl (lv_at hl 0 rfl) ?_
          refine lv_iload_n X.1 X.2.1 dX6_rented_60 rfl (lv_at hl 1 rfl) ?_
          refine lv_iload X.1 X.2.1 dX6_rented_61 (lv_at hl 3 rfl) ?_
          obtain ⟨⟨⟩, q18, hf⟩ := bnd hf
          obtain ⟨t21, h20, q19, hf⟩ := bnd2 hf
          refine x_callVi (As := [.int v2, .int v4]) cf_X6_53 (c_X1_worthOf l G N v1 v2 v4 h6 _ _ q19) rfl ⟨rfl, rfl, Nat.le_of_ble_eq_true rfl, Nat.le_of_ble_eq_true rfl⟩ ⟨Nat.le_of_ble_eq_true rfl, Nat.le_of_ble_eq_true rfl⟩ X M (x_recv cls_X1 X M q18) rfl rfl hl.1 (Nat.le_of_ble_eq_true rfl) dX6_rented_63 (fun H locs M => ?_)
          refine lv_iload_n X.1 X.2.1 dX6_rented_66 rfl (lv_at hl 2 rfl) ?_
          refine lv_icmp_le (tgt := 78) X.1 X.2.1 dX6_rented_67 (by decide) (fun c22 => ?_) (fun c22 => ?_)
          · have hf := ifp c22 hf
            refine lv_iinc (v := (v4 + 1)) (lv' := [(4, .int (v4 + 1)), (1, .ref (gB G + v1)), (2, .int v2), (3, .int v3)]) X.1 X.2.1 dX6_rented_78 hl (k := 3) rfl (by first | rfl | decide) (by decide) rfl (fun ls hl => ?_)
            refine lv_goto (tgt := 25) X.1 X.2.1 dX6_rented_81 (by decide) ?_
            exact ih v1 v2 v3 (v4 + 1) h20 hf _ _ _ M (lv_sub hl [1, 2, 3, 0] rfl)
          · have hf := ifn c22 hf
            refine lv_bipush (v := (100 : Int32)) X.1 X.2.1 dX6_rented_70 (by decide) ?_
            refine lv_iload_n X.1 X.2.1 dX6_rented_72 rfl (lv_at hl 1 rfl) ?_
            refine lv_imul X.1 X.2.1 dX6_rented_73 ?_
            refine lv_iload X.1 X.2.1 dX6_rented_74 (lv_at hl 3 rfl) ?_
            refine lv_iadd X.1 X.2.1 dX6_rented_76 ?_
            obtain ⟨rfl, rfl⟩ := rt2 hf
            exact x_iret X hr hk M dX6_rented_77
def f_X6_rented_92 (N : Nat) (n : Nat) (v1 : Nat) (v2 : Int32) (h : Mem) : Option (Int32 × Mem) := match n with
  | 0 => none
  | n + 1 =>
    (gI h v1 1 1).bind fun t1 =>
    if t1 ≤ v2 then
      some ((-5 : Int32), h)
    else
      (ck h v1 1).bind fun _ =>
      b2 (f_X1_hasRoom N v1 v2 h) fun t7 h6 =>
      if t7 = 0 then
        f_X6_rented_92 N n v1 (v2 + 1) h6
      else
        (gR h6 v1 1 5).bind fun t9 =>
        (lI 100 h6 t9 v2).bind fun t11 =>
        if t11 = 0 then
          f_X6_rented_92 N n v1 (v2 + 1) h6
        else
          some (((1000 : Int32) + v2), h6)
set_option maxRecDepth 100000 in
set_option maxHeartbeats 4000000 in
theorem w_X6_rented_92 {p : Program} {l : Launch} {e : Env} {s : State} {m : MethodId} {args : Array Value} {below : List Frame} {meth : Method} {c : Code} {G : Gx} {r : Int32} {h' : Mem} (X : CX G p s m args c cX6_rented 5 RX6) (hr : meth.sig.returnType = (Option.some Jvm.ClassFile.FieldType.int)) (hk : meth.locks = false) (N : Nat) : ∀ (n : Nat) (v1 : Nat) (v2 : Int32) (h : Mem), f_X6_rented_92 N n v1 v2 h = some (r, h') → ∀ (H : Heap) (locs : List Loc) (ls : Array Slot), MS G s h H locs 0 → lv_has ls 5 [(1, .ref (gB G + v1)), (2, .int v2)] → W p l e (rm_X6_rented) s m args below meth c H locs 0 0 (QI G below args s r h' 0 0) (F0 m 92 ls []) := by
  intro n
  induction n with
  | zero =>
    intro v1 v2 h hf
    cases hf
  | succ n ih =>
    intro v1 v2 h hf H locs ls M hl
    rw [f_X6_rented_92] at hf
    refine lv_iload_n X.1 X.2.1 dX6_rented_92 rfl (lv_at hl 1 rfl) ?_
    refine lv_aload_n X.1 X.2.1 dX6_rented_93 rfl (lv_at hl 0 rfl) ?_
    obtain ⟨t1, q2, hf⟩ := bnd hf
    refine x_geti fl_X6_57 X M q2 dX6_rented_94 ?_
    refine lv_icmp_ge (tgt := 129) X.1 X.2.1 dX6_rented_97 (by decide) (fun c3 => ?_) (fun c3 => ?_)
    · have hf := ifp c3 hf
      refine lv_bipush (v := (-5 : Int32)) X.1 X.2.1 dX6_rented_129 (by decide) ?_
      obtain ⟨rfl, rfl⟩ := rt2 hf
      exact x_iret X hr hk M dX6_rented_131
    · have hf := ifn c3 hf
      refine lv_aload_n X.1 X.2.1 dX6_rented_100 rfl (lv_at hl 0 rfl) ?_
      refine lv_iload_n X.1 X.2.1 dX6_rented_101 rfl (lv_at hl 1 rfl) ?_
      obtain ⟨⟨⟩, q4, hf⟩ := bnd hf
      obtain ⟨t7, h6, q5, hf⟩ := bnd2 hf
      refine x_callVi (As := [.int v2]) cf_X6_69 (c_X1_hasRoom l G N v1 v2 h _ _ q5) rfl ⟨rfl, rfl, Nat.le_of_ble_eq_true rfl, Nat.le_of_ble_eq_true rfl⟩ ⟨Nat.le_of_ble_eq_true rfl, Nat.le_of_ble_eq_true rfl⟩ X M (x_recv cls_X1 X M q4) rfl rfl hl.1 (Nat.le_of_ble_eq_true rfl) dX6_rented_102 (fun H locs M => ?_)
      refine lv_if_eq (tgt := 123) X.1 X.2.1 dX6_rented_105 (by decide) (fun c8 => ?_) (fun c8 => ?_)
      · have hf := ifp c8 hf
        refine lv_iinc (v := (v2 + 1)) (lv' := [(2, .int (v2 + 1)), (1, .ref (gB G + v1))]) X.1 X.2.1 dX6_rented_123 hl (k := 1) rfl (by first | rfl | decide) (by decide) rfl (fun ls hl => ?_)
        refine lv_goto (tgt := 92) X.1 X.2.1 dX6_rented_126 (by decide) ?_
        exact ih v1 (v2 + 1) h6 hf _ _ _ M (lv_sub hl [1, 0] rfl)
      · have hf := ifn c8 hf
        refine lv_aload_n X.1 X.2.1 dX6_rented_108 rfl (lv_at hl 0 rfl) ?_
        obtain ⟨t9, q10, hf⟩ := bnd hf
        refine x_getr fl_X6_79 X M q10 dX6_rented_109 ?_
        refine lv_iload_n X.1 X.2.1 dX6_rented_112 rfl (lv_at hl 1 rfl) ?_
        obtain ⟨t11, q12, hf⟩ := bnd hf
        refine x_iald X M q12 dX6_rented_113 ?_
        refine lv_if_eq (tgt := 123) X.1 X.2.1 dX6_rented_114 (by decide) (fun c13 => ?_) (fun c13 => ?_)
        · have hf := ifp c13 hf
          refine lv_iinc (v := (v2 + 1)) (lv' := [(2, .int (v2 + 1)), (1, .ref (gB G + v1))]) X.1 X.2.1 dX6_rented_123 hl (k := 1) rfl (by first | rfl | decide) (by decide) rfl (fun ls hl => ?_)
          refine lv_goto (tgt := 92) X.1 X.2.1 dX6_rented_126 (by decide) ?_
          exact ih v1 (v2 + 1) h6 hf _ _ _ M (lv_sub hl [1, 0] rfl)
        · have hf := ifn c13 hf
          refine lv_sipush (v := (1000 : Int32)) X.1 X.2.1 dX6_rented_117 (by decide) ?_
          refine lv_iload_n X.1 X.2.1 dX6_rented_120 rfl (lv_at hl 1 rfl) ?_
          refine lv_iadd X.1 X.2.1 dX6_rented_121 ?_
          obtain ⟨rfl, rfl⟩ := rt2 hf
          exact x_iret X hr hk M dX6_rented_122
def f_X6_rented_2 (N : Nat) (n : Nat) (v1 : Nat) (v2 : Int32) (h : Mem) : Option (Int32 × Mem) := match n with
  | 0 => none
  | n + 1 =>
    (gI h v1 1 2).bind fun t1 =>
    if t1 ≤ v2 then
      f_X6_rented_92 N N v1 (0 : Int32) h
    else
      (gR h v1 1 10).bind fun t4 =>
      (lI 100 h t4 v2).bind fun t6 =>
      (ck h v1 1).bind fun _ =>
      b2 (f_X1_worthOf N v1 v2 t6 h) fun t11 h10 =>
      f_X6_rented_25 N N v1 v2 t11 (0 : Int32) h10 (fun v1 v2 h => f_X6_rented_2 N n v1 v2 h)
set_option maxRecDepth 100000 in
set_option maxHeartbeats 4000000 in
theorem w_X6_rented_2 {p : Program} {l : Launch} {e : Env} {s : State} {m : MethodId} {args : Array Value} {below : List Frame} {meth : Method} {c : Code} {G : Gx} {r : Int32} {h' : Mem} (X : CX G p s m args c cX6_rented 5 RX6) (hr : meth.sig.returnType = (Option.some Jvm.ClassFile.FieldType.int)) (hk : meth.locks = false) (N : Nat) : ∀ (n : Nat) (v1 : Nat) (v2 : Int32) (h : Mem), f_X6_rented_2 N n v1 v2 h = some (r, h') → ∀ (H : Heap) (locs : List Loc) (ls : Array Slot), MS G s h H locs 0 → lv_has ls 5 [(1, .ref (gB G + v1)), (2, .int v2)] → W p l e (rm_X6_rented) s m args below meth c H locs 0 0 (QI G below args s r h' 0 0) (F0 m 2 ls []) := by
  intro n
  induction n with
  | zero =>
    intro v1 v2 h hf
    cases hf
  | succ n ih =>
    intro v1 v2 h hf H locs ls M hl
    rw [f_X6_rented_2] at hf
    refine lv_iload_n X.1 X.2.1 dX6_rented_2 rfl (lv_at hl 1 rfl) ?_
    refine lv_aload_n X.1 X.2.1 dX6_rented_3 rfl (lv_at hl 0 rfl) ?_
    obtain ⟨t1, q2, hf⟩ := bnd hf
    refine x_geti fl_X6_44 X M q2 dX6_rented_4 ?_
    refine lv_icmp_ge (tgt := 90) X.1 X.2.1 dX6_rented_7 (by decide) (fun c3 => ?_) (fun c3 => ?_)
    · have hf := ifp c3 hf
      refine lv_iconst (v := (0 : Int32)) X.1 X.2.1 dX6_rented_90 (by decide) ?_
      refine lv_istore_n (lv' := [(2, .int (0 : Int32)), (1, .ref (gB G + v1))]) X.1 X.2.1 dX6_rented_91 rfl hl (by decide) rfl (fun ls hl => ?_)
      exact w_X6_rented_92 X hr hk N N v1 (0 : Int32) h hf _ _ _ M (lv_sub hl [1, 0] rfl)
    · have hf := ifn c3 hf
      refine lv_aload_n X.1 X.2.1 dX6_rented_10 rfl (lv_at hl 0 rfl) ?_
      refine lv_iload_n X.1 X.2.1 dX6_rented_11 rfl (lv_at hl 1 rfl) ?_
      refine lv_aload_n X.1 X.2.1 dX6_rented_12 rfl (lv_at hl 0 rfl) ?_
      obtain ⟨t4, q5, hf⟩ := bnd hf
      refine x_getr fl_X6_50 X M q5 dX6_rented_13 ?_
      refine lv_iload_n X.1 X.2.1 dX6_rented_16 rfl (lv_at hl 1 rfl) ?_
      obtain ⟨t6, q7, hf⟩ := bnd hf
      refine x_iald X M q7 dX6_rented_17 ?_
      obtain ⟨⟨⟩, q8, hf⟩ := bnd hf
      obtain ⟨t11, h10, q9, hf⟩ := bnd2 hf
      refine x_callVi (As := [.int v2, .int t6]) cf_X6_53 (c_X1_worthOf l G N v1 v2 t6 h _ _ q9) rfl ⟨rfl, rfl, Nat.le_of_ble_eq_true rfl, Nat.le_of_ble_eq_true rfl⟩ ⟨Nat.le_of_ble_eq_true rfl, Nat.le_of_ble_eq_true rfl⟩ X M (x_recv cls_X1 X M q8) rfl rfl hl.1 (Nat.le_of_ble_eq_true rfl) dX6_rented_18 (fun H locs M => ?_)
      refine lv_istore_n (lv' := [(3, .int t11), (1, .ref (gB G + v1)), (2, .int v2)]) X.1 X.2.1 dX6_rented_21 rfl hl (by decide) rfl (fun ls hl => ?_)
      refine lv_iconst (v := (0 : Int32)) X.1 X.2.1 dX6_rented_22 (by decide) ?_
      refine lv_istore (lv' := [(4, .int (0 : Int32)), (3, .int t11), (1, .ref (gB G + v1)), (2, .int v2)]) X.1 X.2.1 dX6_rented_23 hl (by decide) rfl (fun ls hl => ?_)
      exact w_X6_rented_25 X hr hk N _ (fun v1 v2 h hf H locs ls M hl => ih v1 v2 h hf H locs ls M hl) N v1 v2 t11 (0 : Int32) h10 hf _ _ _ M (lv_sub hl [2, 3, 1, 0] rfl)
def f_X6_rented (N : Nat) (v0 : Nat) (v1 : Nat) (h : Mem) : Option (Int32 × Mem) :=
  f_X6_rented_2 N N v1 (0 : Int32) h
set_option maxRecDepth 100000 in
set_option maxHeartbeats 4000000 in
theorem w_X6_rented {p : Program} {l : Launch} {e : Env} {s : State} {m : MethodId} {args : Array Value} {below : List Frame} {meth : Method} {c : Code} {G : Gx} {r : Int32} {h' : Mem} (X : CX G p s m args c cX6_rented 5 RX6) (hr : meth.sig.returnType = (Option.some Jvm.ClassFile.FieldType.int)) (hk : meth.locks = false) (N : Nat) : ∀ (v0 : Nat) (v1 : Nat) (h : Mem), f_X6_rented N v0 v1 h = some (r, h') → ∀ (H : Heap) (locs : List Loc) (ls : Array Slot), MS G s h H locs 0 → lv_has ls 5 [(0, .ref (gB G + v0)), (1, .ref (gB G + v1))] → W p l e (rm_X6_rented) s m args below meth c H locs 0 0 (QI G below args s r h' 0 0) (F0 m 0 ls []) := by
  intro v0 v1 h hf H locs ls M hl
  rw [f_X6_rented] at hf
  refine lv_iconst (v := (0 : Int32)) X.1 X.2.1 dX6_rented_0 (by decide) ?_
  refine lv_istore_n (lv' := [(2, .int (0 : Int32)), (0, .ref (gB G + v0)), (1, .ref (gB G + v1))]) X.1 X.2.1 dX6_rented_1 rfl hl (by decide) rfl (fun ls hl => ?_)
  exact w_X6_rented_2 X hr hk N N v1 (0 : Int32) h hf _ _ _ M (lv_sub hl [2, 0] rfl)
theorem c_X6_rented (l : Launch) (G : Gx) (N : Nat) (v0 : Nat) (v1 : Nat) (h : Mem) (r : Int32) (h' : Mem) (hf : f_X6_rented N v0 v1 h = some (r, h')) : MetG l G yX6_rented (.code yX6_rented cX6_rented 5 (Option.some Jvm.ClassFile.FieldType.int)) rm_X6_rented [.ref (gB G + v0), .ref (gB G + v1)] h (QcI G r h') 0 0 :=
  x_met (by decide) rfl (Nat.le_of_ble_eq_true rfl) (fun p e s m args below meth c ls X M hr hk hin hl => w_X6_rented X hr hk N v0 v1 h hf _ _ ls M hl)
abbrev rm_X6_seer : Room := { frames := 6, cells := 0, slots := 0, locals := 170 }
def f_X6_seer_28 (N : Nat) (n : Nat) (v0 : Nat) (v1 : Nat) (v2 : Int32) (v3 : Int32) (v4 : Int32) (v5 : Int32) (h : Mem) (k2 : Nat → Nat → Int32 → Mem → Option (Int32 × Mem)) : Option (Int32 × Mem) := match n with
  | 0 => none
  | n + 1 =>
    (gI h v1 1 1).bind fun t1 =>
    if t1 ≤ v5 then
      k2 v0 v1 (v2 + 1) h
    else
      (ck h v1 1).bind fun _ =>
      b2 (f_X1_canGo N v1 v2 v5 h) fun t7 h6 =>
      if t7 = 0 then
        f_X6_seer_28 N n v0 v1 v2 v3 v4 (v5 + 1) h6 k2
      else
        (gR h6 v1 1 4).bind fun t9 =>
        (gR h6 v0 6 0).bind fun t11 =>
        (cpI 100 h6 t9 (v5 * (3 : Int32)) t11 (0 : Int32) (3 : Int32)).bind fun h13 =>
        (gR h13 v1 1 10).bind fun t15 =>
        (stI 100 h13 t15 v2 v5).bind fun h17 =>
        (ck h17 v1 1).bind fun _ =>
        b2 (f_X1_vote N v1 v5 h17) fun t22 h21 =>
        (ck h21 v1 1).bind fun _ =>
        b2 (f_X1_worthOf N v1 v2 v5 h21) fun t26 h25 =>
        (gR h25 v1 1 10).bind fun t27 =>
        (stI 100 h25 t27 v2 v3).bind fun h29 =>
        (gR h29 v0 6 0).bind fun t31 =>
        (gR h29 v1 1 4).bind fun t33 =>
        (cpI 100 h29 t31 (0 : Int32) t33 (v5 * (3 : Int32)) (3 : Int32)).bind fun h35 =>
        if t26 ≤ v4 then
          f_X6_seer_28 N n v0 v1 v2 v3 v4 (v5 + 1) h35 k2
        else
          some ((((100 : Int32) * v2) + v5), h35)
set_option maxRecDepth 100000 in
set_option maxHeartbeats 4000000 in
theorem w_X6_seer_28 {p : Program} {l : Launch} {e : Env} {s : State} {m : MethodId} {args : Array Value} {below : List Frame} {meth : Method} {c : Code} {G : Gx} {r : Int32} {h' : Mem} (X : CX G p s m args c cX6_seer 7 RX6) (hr : meth.sig.returnType = (Option.some Jvm.ClassFile.FieldType.int)) (hk : meth.locks = false) (N : Nat) (k2 : Nat → Nat → Int32 → Mem → Option (Int32 × Mem)) (K2 : ∀ (v0 : Nat) (v1 : Nat) (v2 : Int32) (h : Mem), k2 v0 v1 v2 h = some (r, h') → ∀ (H : Heap) (locs : List Loc) (ls : Array Slot), MS G s h H locs 0 → lv_has ls 7 [(0, .ref (gB G + v0)), (1, .ref (gB G + v1)), (2, .int v2)] → W p l e (rm_X6_seer) s m args below meth c H locs 0 0 (QI G below args s r h' 0 0) (F0 m 2 ls [])) : ∀ (n : Nat) (v0 : Nat) (v1 : Nat) (v2 : Int32) (v3 : Int32) (v4 : Int32) (v5 : Int32) (h : Mem), f_X6_seer_28 N n v0 v1 v2 v3 v4 v5 h k2 = some (r, h') → ∀ (H : Heap) (locs : List Loc) (ls : Array Slot), MS G s h H locs 0 → lv_has ls 7 [(0, .ref (gB G + v0)), (1, .ref (gB G + v1)), (2, .int v2), (3, .int v3), (4, .int v4), (5, .int v5)] → W p l e (rm_X6_seer) s m args below meth c H locs 0 0 (QI G below args s r h' 0 0) (F0 m 28 ls []) := by
  intro n
  induction n with
  | zero =>
    intro v0 v1 v2 v3 v4 v5 h hf
    cases hf
  | succ n ih =>
    intro v0 v1 v2 v3 v4 v5 h hf H locs ls M hl
    rw [f_X6_seer_28] at hf
    refine lv_iload X.1 X.2.1 dX6_seer_28 (lv_at hl 5 rfl) ?_
    refine lv_aload_n X.1 X.2.1 dX6_seer_30 rfl (lv_at hl 1 rfl) ?_
    obtain ⟨t1, q2, hf⟩ := bnd hf
    refine x_geti fl_X6_57 X M q2 dX6_seer_31 ?_
    refine lv_icmp_ge (tgt := 136) X.1 X.2.1 dX6_seer_34 (by decide) (fun c3 => ?_) (fun c3 => ?_)
    · have hf := ifp c3 hf
      refine lv_iinc (v := (v2 + 1)) (lv' := [(2, .int (v2 + 1)), (0, .ref (gB G + v0)), (1, .ref (gB G + v1)), (3, .int v3), (4, .int v4), (5, .int v5)]) X.1 X.2.1 dX6_seer_136 hl (k := 2) rfl (by first | rfl | decide) (by decide) rfl (fun ls hl => ?_)
      refine lv_goto (tgt := 2) X.1 X.2.1 dX6_seer_139 (by decide) ?_
      exact K2 v0 v1 (v2 + 1) h hf _ _ _ M (lv_sub hl [1, 2, 0] rfl)
    · have hf := ifn c3 hf
      refine lv_aload_n X.1 X.2.1 dX6_seer_37 rfl (lv_at hl 1 rfl) ?_
      refine lv_iload_n X.1 X.2.1 dX6_seer_38 rfl (lv_at hl 2 rfl) ?_
      refine lv_iload X.1 X.2.1 dX6_seer_39 (lv_at hl 5 rfl) ?_
      obtain ⟨⟨⟩, q4, hf⟩ := bnd hf
      obtain ⟨t7, h6, q5, hf⟩ := bnd2 hf
      refine x_callVi (As := [.int v2, .int v5]) cf_X6_60 (c_X1_canGo l G N v1 v2 v5 h _ _ q5) rfl ⟨rfl, rfl, Nat.le_of_ble_eq_true rfl, Nat.le_of_ble_eq_true rfl⟩ ⟨Nat.le_of_ble_eq_true rfl, Nat.le_of_ble_eq_true rfl⟩ X M (x_recv cls_X1 X M q4) rfl rfl hl.1 (Nat.le_of_ble_eq_true rfl) dX6_seer_41 (fun H locs M => ?_)
      refine lv_if_ne (tgt := 50) X.1 X.2.1 dX6_seer_44 (by decide) (fun c8 => ?_) (fun c8 => ?_)
      · have hf := ifn c8 hf
        refine lv_aload_n X.1 X.2.1 dX6_seer_50 rfl (lv_at hl 1 rfl) ?_
        obtain ⟨t9, q10, hf⟩ := bnd hf
        refine x_getr fl_X6_66 X M q10 dX6_seer_51 ?_
        refine lv_iload X.1 X.2.1 dX6_seer_54 (lv_at hl 5 rfl) ?_
        refine lv_iconst (v := (3 : Int32)) X.1 X.2.1 dX6_seer_56 (by decide) ?_
        refine lv_imul X.1 X.2.1 dX6_seer_57 ?_
        refine lv_aload_n X.1 X.2.1 dX6_seer_58 rfl (lv_at hl 0 rfl) ?_
        obtain ⟨t11, q12, hf⟩ := bnd hf
        refine x_getr fl_X6_9 X M q12 dX6_seer_59 ?_
        refine lv_iconst (v := (0 : Int32)) X.1 X.2.1 dX6_seer_62 (by decide) ?_
        refine lv_iconst (v := (3 : Int32)) X.1 X.2.1 dX6_seer_63 (by decide) ?_
        obtain ⟨h13, q14, hf⟩ := bnd hf
        refine x_cpI (by decide) (by decide) (fun _ => rfl) (fun _ => rfl) rfl k_652 k_654 k_653 k_18 X M q14 hl.1 (Nat.le_of_ble_eq_true rfl) (Nat.le_of_ble_eq_true rfl) dX6_seer_64 (fun H locs M => ?_)
        refine lv_aload_n X.1 X.2.1 dX6_seer_67 rfl (lv_at hl 1 rfl) ?_
        obtain ⟨t15, q16, hf⟩ := bnd hf
        refine x_getr fl_X6_50 X M q16 dX6_seer_68 ?_
        refine lv_iload_n X.1 X.2.1 dX6_seer_71 rfl (lv_at hl 2 rfl) ?_
        refine lv_iload X.1 X.2.1 dX6_seer_72 (lv_at hl 5 rfl) ?_
        obtain ⟨h17, q18, hf⟩ := bnd hf
        refine x_iast X M q18 dX6_seer_74 (fun H locs M => ?_)
        refine lv_aload_n X.1 X.2.1 dX6_seer_75 rfl (lv_at hl 1 rfl) ?_
        refine lv_iload X.1 X.2.1 dX6_seer_76 (lv_at hl 5 rfl) ?_
        obtain ⟨⟨⟩, q19, hf⟩ := bnd hf
        obtain ⟨t22, h21, q20, hf⟩ := bnd2 hf
        refine x_callVi (As := [.int v5]) cf_X6_88 (c_X1_vote l G N v1 v5 h17 _ _ q20) rfl ⟨rfl, rfl, Nat.le_of_ble_eq_true rfl, Nat.le_of_ble_eq_true rfl⟩ ⟨Nat.le_of_ble_eq_true rfl, Nat.le_of_ble_eq_true rfl⟩ X M (x_recv cls_X1 X M q19) rfl rfl hl.1 (Nat.le_of_ble_eq_true rfl) dX6_seer_78 (fun H locs M => ?_)
        refine lv_pop X.1 X.2.1 dX6_seer_81 rfl ?_
        refine lv_aload_n X.1 X.2.1 dX6_seer_82 rfl (lv_at hl 1 rfl) ?_
        refine lv_iload_n X.1 X.2.1 dX6_seer_83 rfl (lv_at hl 2 rfl) ?_
        refine lv_iload X.1 X.2.1 dX6_seer_84 (lv_at hl 5 rfl) ?_
        obtain ⟨⟨⟩, q23, hf⟩ := bnd hf
        obtain ⟨t26, h25, q24, hf⟩ := bnd2 hf
        refine x_callVi (As := [.int v2, .int v5]) cf_X6_53 (c_X1_worthOf l G N v1 v2 v5 h21 _ _ q24) rfl ⟨rfl, rfl, Nat.le_of_ble_eq_true rfl, Nat.le_of_ble_eq_true rfl⟩ ⟨Nat.le_of_ble_eq_true rfl, Nat.le_of_ble_eq_true rfl⟩ X M (x_recv cls_X1 X M q23) rfl rfl hl.1 (Nat.le_of_ble_eq_true rfl) dX6_seer_86 (fun H locs M => ?_)
        refine lv_istore (lv' := [(6, .int t26), (0, .ref (gB G + v0)), (1, .ref (gB G + v1)), (2, .int v2), (3, .int v3), (4, .int v4), (5, .int v5)]) X.1 X.2.1 dX6_seer_89 hl (by decide) rfl (fun ls hl => ?_)
        refine lv_aload_n X.1 X.2.1 dX6_seer_91 rfl (lv_at hl 2 rfl) ?_
        obtain ⟨t27, q28, hf⟩ := bnd hf
        refine x_getr fl_X6_50 X M q28 dX6_seer_92 ?_
        refine lv_iload_n X.1 X.2.1 dX6_seer_95 rfl (lv_at hl 3 rfl) ?_
        refine lv_iload_n X.1 X.2.1 dX6_seer_96 rfl (lv_at hl 4 rfl) ?_
        obtain ⟨h29, q30, hf⟩ := bnd hf
        refine x_iast X M q30 dX6_seer_97 (fun H locs M => ?_)
        refine lv_aload_n X.1 X.2.1 dX6_seer_98 rfl (lv_at hl 1 rfl) ?_
        obtain ⟨t31, q32, hf⟩ := bnd hf
        refine x_getr fl_X6_9 X M q32 dX6_seer_99 ?_
        refine lv_iconst (v := (0 : Int32)) X.1 X.2.1 dX6_seer_102 (by decide) ?_
        refine lv_aload_n X.1 X.2.1 dX6_seer_103 rfl (lv_at hl 2 rfl) ?_
        obtain ⟨t33, q34, hf⟩ := bnd hf
        refine x_getr fl_X6_66 X M q34 dX6_seer_104 ?_
        refine lv_iload X.1 X.2.1 dX6_seer_107 (lv_at hl 6 rfl) ?_
        refine lv_iconst (v := (3 : Int32)) X.1 X.2.1 dX6_seer_109 (by decide) ?_
        refine lv_imul X.1 X.2.1 dX6_seer_110 ?_
        refine lv_iconst (v := (3 : Int32)) X.1 X.2.1 dX6_seer_111 (by decide) ?_
        obtain ⟨h35, q36, hf⟩ := bnd hf
        refine x_cpI (by decide) (by decide) (fun _ => rfl) (fun _ => rfl) rfl k_652 k_654 k_653 k_18 X M q36 hl.1 (Nat.le_of_ble_eq_true rfl) (Nat.le_of_ble_eq_true rfl) dX6_seer_112 (fun H locs M => ?_)
        refine lv_iload X.1 X.2.1 dX6_seer_115 (lv_at hl 0 rfl) ?_
        refine lv_iload X.1 X.2.1 dX6_seer_117 (lv_at hl 5 rfl) ?_
        refine lv_icmp_le (tgt := 130) X.1 X.2.1 dX6_seer_119 (by decide) (fun c37 => ?_) (fun c37 => ?_)
        · have hf := ifp c37 hf
          refine lv_iinc (v := (v5 + 1)) (lv' := [(5, .int (v5 + 1)), (6, .int t26), (0, .ref (gB G + v0)), (1, .ref (gB G + v1)), (2, .int v2), (3, .int v3), (4, .int v4)]) X.1 X.2.1 dX6_seer_130 hl (k := 6) rfl (by first | rfl | decide) (by decide) rfl (fun ls hl => ?_)
          refine lv_goto (tgt := 28) X.1 X.2.1 dX6_seer_133 (by decide) ?_
          exact ih v0 v1 v2 v3 v4 (v5 + 1) h35 hf _ _ _ M (lv_sub hl [2, 3, 4, 5, 6, 0] rfl)
        · have hf := ifn c37 hf
          refine lv_bipush (v := (100 : Int32)) X.1 X.2.1 dX6_seer_122 (by decide) ?_
          refine lv_iload_n X.1 X.2.1 dX6_seer_124 rfl (lv_at hl 3 rfl) ?_
          refine lv_imul X.1 X.2.1 dX6_seer_125 ?_
          refine lv_iload X.1 X.2.1 dX6_seer_126 (lv_at hl 6 rfl) ?_
          refine lv_iadd X.1 X.2.1 dX6_seer_128 ?_
          obtain ⟨rfl, rfl⟩ := rt2 hf
          exact x_iret X hr hk M dX6_seer_129
      · have hf := ifp c8 hf
        refine lv_goto (tgt := 130) X.1 X.2.1 dX6_seer_47 (by decide) ?_
        refine lv_iinc (v := (v5 + 1)) (lv' := [(5, .int (v5 + 1)), (0, .ref (gB G + v0)), (1, .ref (gB G + v1)), (2, .int v2), (3, .int v3), (4, .int v4)]) X.1 X.2.1 dX6_seer_130 hl (k := 5) rfl (by first | rfl | decide) (by decide) rfl (fun ls hl => ?_)
        refine lv_goto (tgt := 28) X.1 X.2.1 dX6_seer_133 (by decide) ?_
        exact ih v0 v1 v2 v3 v4 (v5 + 1) h6 hf _ _ _ M (lv_sub hl [1, 2, 3, 4, 5, 0] rfl)
def f_X6_seer_2 (N : Nat) (n : Nat) (v0 : Nat) (v1 : Nat) (v2 : Int32) (h : Mem) : Option (Int32 × Mem) := match n with
  | 0 => none
  | n + 1 =>
    (gI h v1 1 2).bind fun t1 =>
    if t1 ≤ v2 then
      some ((-5 : Int32), h)
    else
      (gR h v1 1 10).bind fun t4 =>
      (lI 100 h t4 v2).bind fun t6 =>
      (ck h v1 1).bind fun _ =>
      b2 (f_X1_worthOf N v1 v2 t6 h) fun t11 h10 =>
      f_X6_seer_28 N N v0 v1 v2 t6 t11 (0 : Int32) h10 (fun v0 v1 v2 h => f_X6_seer_2 N n v0 v1 v2 h)
set_option maxRecDepth 100000 in
set_option maxHeartbeats 4000000 in
theorem w_X6_seer_2 {p : Program} {l : Launch} {e : Env} {s : State} {m : MethodId} {args : Array Value} {below : List Frame} {meth : Method} {c : Code} {G : Gx} {r : Int32} {h' : Mem} (X : CX G p s m args c cX6_seer 7 RX6) (hr : meth.sig.returnType = (Option.some Jvm.ClassFile.FieldType.int)) (hk : meth.locks = false) (N : Nat) : ∀ (n : Nat) (v0 : Nat) (v1 : Nat) (v2 : Int32) (h : Mem), f_X6_seer_2 N n v0 v1 v2 h = some (r, h') → ∀ (H : Heap) (locs : List Loc) (ls : Array Slot), MS G s h H locs 0 → lv_has ls 7 [(0, .ref (gB G + v0)), (1, .ref (gB G + v1)), (2, .int v2)] → W p l e (rm_X6_seer) s m args below meth c H locs 0 0 (QI G below args s r h' 0 0) (F0 m 2 ls []) := by
  intro n
  induction n with
  | zero =>
    intro v0 v1 v2 h hf
    cases hf
  | succ n ih =>
    intro v0 v1 v2 h hf H locs ls M hl
    rw [f_X6_seer_2] at hf
    refine lv_iload_n X.1 X.2.1 dX6_seer_2 rfl (lv_at hl 2 rfl) ?_
    refine lv_aload_n X.1 X.2.1 dX6_seer_3 rfl (lv_at hl 1 rfl) ?_
    obtain ⟨t1, q2, hf⟩ := bnd hf
    refine x_geti fl_X6_44 X M q2 dX6_seer_4 ?_
    refine lv_icmp_ge (tgt := 142) X.1 X.2.1 dX6_seer_7 (by decide) (fun c3 => ?_) (fun c3 => ?_)
    · have hf := ifp c3 hf
      refine lv_bipush (v := (-5 : Int32)) X.1 X.2.1 dX6_seer_142 (by decide) ?_
      obtain ⟨rfl, rfl⟩ := rt2 hf
      exact x_iret X hr hk M dX6_seer_144
    · have hf := ifn c3 hf
      refine lv_aload_n X.1 X.2.1 dX6_seer_10 rfl (lv_at hl 1 rfl) ?_
      obtain ⟨t4, q5, hf⟩ := bnd hf
      refine x_getr fl_X6_50 X M q5 dX6_seer_11 ?_
      refine lv_iload_n X.1 X.2.1 dX6_seer_14 rfl (lv_at hl 2 rfl) ?_
      obtain ⟨t6, q7, hf⟩ := bnd hf
      refine x_iald X M q7 dX6_seer_15 ?_
      refine lv_istore_n (lv' := [(3, .int t6), (0, .ref (gB G + v0)), (1, .ref (gB G + v1)), (2, .int v2)]) X.1 X.2.1 dX6_seer_16 rfl hl (by decide) rfl (fun ls hl => ?_)
      refine lv_aload_n X.1 X.2.1 dX6_seer_17 rfl (lv_at hl 2 rfl) ?_
      refine lv_iload_n X.1 X.2.1 dX6_seer_18 rfl (lv_at hl 3 rfl) ?_
      refine lv_iload_n X.1 X.2.1 dX6_seer_19 rfl (lv_at hl 0 rfl) ?_
      obtain ⟨⟨⟩, q8, hf⟩ := bnd hf
      obtain ⟨t11, h10, q9, hf⟩ := bnd2 hf
      refine x_callVi (As := [.int v2, .int t6]) cf_X6_53 (c_X1_worthOf l G N v1 v2 t6 h _ _ q9) rfl ⟨rfl, rfl, Nat.le_of_ble_eq_true rfl, Nat.le_of_ble_eq_true rfl⟩ ⟨Nat.le_of_ble_eq_true rfl, Nat.le_of_ble_eq_true rfl⟩ X M (x_recv cls_X1 X M q8) rfl rfl hl.1 (Nat.le_of_ble_eq_true rfl) dX6_seer_20 (fun H locs M => ?_)
      refine lv_istore (lv' := [(4, .int t11), (3, .int t6), (0, .ref (gB G + v0)), (1, .ref (gB G + v1)), (2, .int v2)]) X.1 X.2.1 dX6_seer_23 hl (by decide) rfl (fun ls hl => ?_)
      refine lv_iconst (v := (0 : Int32)) X.1 X.2.1 dX6_seer_25 (by decide) ?_
      refine lv_istore (lv' := [(5, .int (0 : Int32)), (4, .int t11), (3, .int t6), (0, .ref (gB G + v0)), (1, .ref (gB G + v1)), (2, .int v2)]) X.1 X.2.1 dX6_seer_26 hl (by decide) rfl (fun ls hl => ?_)
      exact w_X6_seer_28 X hr hk N _ (fun v0 v1 v2 h hf H locs ls M hl => ih v0 v1 v2 h hf H locs ls M hl) N v0 v1 v2 t6 t11 (0 : Int32) h10 hf _ _ _ M (lv_sub hl [3, 4, 5, 2, 1, 0] rfl)
def f_X6_seer (N : Nat) (v0 : Nat) (v1 : Nat) (h : Mem) : Option (Int32 × Mem) :=
  f_X6_seer_2 N N v0 v1 (0 : Int32) h
set_option maxRecDepth 100000 in
set_option maxHeartbeats 4000000 in
theorem w_X6_seer {p : Program} {l : Launch} {e : Env} {s : State} {m : MethodId} {args : Array Value} {below : List Frame} {meth : Method} {c : Code} {G : Gx} {r : Int32} {h' : Mem} (X : CX G p s m args c cX6_seer 7 RX6) (hr : meth.sig.returnType = (Option.some Jvm.ClassFile.FieldType.int)) (hk : meth.locks = false) (N : Nat) : ∀ (v0 : Nat) (v1 : Nat) (h : Mem), f_X6_seer N v0 v1 h = some (r, h') → ∀ (H : Heap) (locs : List Loc) (ls : Array Slot), MS G s h H locs 0 → lv_has ls 7 [(0, .ref (gB G + v0)), (1, .ref (gB G + v1))] → W p l e (rm_X6_seer) s m args below meth c H locs 0 0 (QI G below args s r h' 0 0) (F0 m 0 ls []) := by
  intro v0 v1 h hf H locs ls M hl
  rw [f_X6_seer] at hf
  refine lv_iconst (v := (0 : Int32)) X.1 X.2.1 dX6_seer_0 (by decide) ?_
  refine lv_istore_n (lv' := [(2, .int (0 : Int32)), (0, .ref (gB G + v0)), (1, .ref (gB G + v1))]) X.1 X.2.1 dX6_seer_1 rfl hl (by decide) rfl (fun ls hl => ?_)
  exact w_X6_seer_2 X hr hk N N v0 v1 (0 : Int32) h hf _ _ _ M (lv_sub hl [1, 2, 0] rfl)
theorem c_X6_seer (l : Launch) (G : Gx) (N : Nat) (v0 : Nat) (v1 : Nat) (h : Mem) (r : Int32) (h' : Mem) (hf : f_X6_seer N v0 v1 h = some (r, h')) : MetG l G yX6_seer (.code yX6_seer cX6_seer 7 (Option.some Jvm.ClassFile.FieldType.int)) rm_X6_seer [.ref (gB G + v0), .ref (gB G + v1)] h (QcI G r h') 0 0 :=
  x_met (by decide) rfl (Nat.le_of_ble_eq_true rfl) (fun p e s m args below meth c ls X M hr hk hin hl => w_X6_seer X hr hk N v0 v1 h hf _ _ ls M hl)
abbrev rm_X6_wouldFound : Room := { frames := 5, cells := 0, slots := 0, locals := 136 }
def f_X6_wouldFound_63 (N : Nat) (v0 : Nat) (v1 : Nat) (v2 : Int32) (v3 : Int32) (v5 : Int32) (s0 : Int32) (s1 : Int32) (h : Mem) (k21 : Nat → Nat → Int32 → Int32 → Int32 → Int32 → Mem → Option (Int32 × Mem)) : Option (Int32 × Mem) :=
  (gR h v1 1 10).bind fun t1 =>
  (stI 100 h t1 v5 v3).bind fun h3 =>
  k21 v0 v1 v2 v3 (s0 &&& s1) (v5 + 1) h3
set_option maxRecDepth 100000 in
set_option maxHeartbeats 4000000 in
theorem w_X6_wouldFound_63 {p : Program} {l : Launch} {e : Env} {s : State} {m : MethodId} {args : Array Value} {below : List Frame} {meth : Method} {c : Code} {G : Gx} {r : Int32} {h' : Mem} (X : CX G p s m args c cX6_wouldFound 6 RX6) (hr : meth.sig.returnType = (Option.some Jvm.ClassFile.FieldType.boolean)) (hk : meth.locks = false) (N : Nat) (k21 : Nat → Nat → Int32 → Int32 → Int32 → Int32 → Mem → Option (Int32 × Mem)) (K21 : ∀ (v0 : Nat) (v1 : Nat) (v2 : Int32) (v3 : Int32) (v4 : Int32) (v5 : Int32) (h : Mem), k21 v0 v1 v2 v3 v4 v5 h = some (r, h') → ∀ (H : Heap) (locs : List Loc) (ls : Array Slot), MS G s h H locs 0 → lv_has ls 6 [(0, .ref (gB G + v0)), (1, .ref (gB G + v1)), (2, .int v2), (3, .int v3), (4, .int v4), (5, .int v5)] → W p l e (rm_X6_wouldFound) s m args below meth c H locs 0 0 (QI G below args s r h' 0 0) (F0 m 21 ls [])) : ∀ (v0 : Nat) (v1 : Nat) (v2 : Int32) (v3 : Int32) (v5 : Int32) (s0 : Int32) (s1 : Int32) (h : Mem), f_X6_wouldFound_63 N v0 v1 v2 v3 v5 s0 s1 h k21 = some (r, h') → ∀ (H : Heap) (locs : List Loc) (ls : Array Slot), MS G s h H locs 0 → lv_has ls 6 [(0, .ref (gB G + v0)), (1, .ref (gB G + v1)), (2, .int v2), (3, .int v3), (5, .int v5)] → W p l e (rm_X6_wouldFound) s m args below meth c H locs 0 0 (QI G below args s r h' 0 0) (F0 m 63 ls [.int s1, .int s0]) := by
  intro v0 v1 v2 v3 v5 s0 s1 h hf H locs ls M hl
  rw [f_X6_wouldFound_63] at hf
  refine lv_iand X.1 X.2.1 dX6_wouldFound_63 ?_
  refine lv_istore (lv' := [(4, .int (s0 &&& s1)), (0, .ref (gB G + v0)), (1, .ref (gB G + v1)), (2, .int v2), (3, .int v3), (5, .int v5)]) X.1 X.2.1 dX6_wouldFound_64 hl (by decide) rfl (fun ls hl => ?_)
  refine lv_aload_n X.1 X.2.1 dX6_wouldFound_66 rfl (lv_at hl 2 rfl) ?_
  obtain ⟨t1, q2, hf⟩ := bnd hf
  refine x_getr fl_X6_50 X M q2 dX6_wouldFound_67 ?_
  refine lv_iload X.1 X.2.1 dX6_wouldFound_70 (lv_at hl 5 rfl) ?_
  refine lv_iload_n X.1 X.2.1 dX6_wouldFound_72 rfl (lv_at hl 4 rfl) ?_
  obtain ⟨h3, q4, hf⟩ := bnd hf
  refine x_iast X M q4 dX6_wouldFound_73 (fun H locs M => ?_)
  refine lv_iinc (v := (v5 + 1)) (lv' := [(5, .int (v5 + 1)), (4, .int (s0 &&& s1)), (0, .ref (gB G + v0)), (1, .ref (gB G + v1)), (2, .int v2), (3, .int v3)]) X.1 X.2.1 dX6_wouldFound_74 hl (k := 5) rfl (by first | rfl | decide) (by decide) rfl (fun ls hl => ?_)
  refine lv_goto (tgt := 21) X.1 X.2.1 dX6_wouldFound_77 (by decide) ?_
  exact K21 v0 v1 v2 v3 (s0 &&& s1) (v5 + 1) h3 hf _ _ _ M (lv_sub hl [2, 3, 4, 5, 1, 0] rfl)
def f_X6_wouldFound_129 (N : Nat) (v0 : Nat) (v1 : Nat) (v2 : Int32) (v3 : Int32) (v5 : Int32) (s0 : Int32) (h : Mem) (k83 : Nat → Nat → Int32 → Int32 → Int32 → Int32 → Mem → Option (Int32 × Mem)) : Option (Int32 × Mem) :=
  k83 v0 v1 v2 v3 s0 (v5 + 1) h
set_option maxRecDepth 100000 in
set_option maxHeartbeats 4000000 in
theorem w_X6_wouldFound_129 {p : Program} {l : Launch} {e : Env} {s : State} {m : MethodId} {args : Array Value} {below : List Frame} {meth : Method} {c : Code} {G : Gx} {r : Int32} {h' : Mem} (X : CX G p s m args c cX6_wouldFound 6 RX6) (hr : meth.sig.returnType = (Option.some Jvm.ClassFile.FieldType.boolean)) (hk : meth.locks = false) (N : Nat) (k83 : Nat → Nat → Int32 → Int32 → Int32 → Int32 → Mem → Option (Int32 × Mem)) (K83 : ∀ (v0 : Nat) (v1 : Nat) (v2 : Int32) (v3 : Int32) (v4 : Int32) (v5 : Int32) (h : Mem), k83 v0 v1 v2 v3 v4 v5 h = some (r, h') → ∀ (H : Heap) (locs : List Loc) (ls : Array Slot), MS G s h H locs 0 → lv_has ls 6 [(0, .ref (gB G + v0)), (1, .ref (gB G + v1)), (2, .int v2), (3, .int v3), (4, .int v4), (5, .int v5)] → W p l e (rm_X6_wouldFound) s m args below meth c H locs 0 0 (QI G below args s r h' 0 0) (F0 m 83 ls [])) : ∀ (v0 : Nat) (v1 : Nat) (v2 : Int32) (v3 : Int32) (v5 : Int32) (s0 : Int32) (h : Mem), f_X6_wouldFound_129 N v0 v1 v2 v3 v5 s0 h k83 = some (r, h') → ∀ (H : Heap) (locs : List Loc) (ls : Array Slot), MS G s h H locs 0 → lv_has ls 6 [(0, .ref (gB G + v0)), (1, .ref (gB G + v1)), (2, .int v2), (3, .int v3), (5, .int v5)] → W p l e (rm_X6_wouldFound) s m args below meth c H locs 0 0 (QI G below args s r h' 0 0) (F0 m 129 ls [.int s0]) := by
  intro v0 v1 v2 v3 v5 s0 h hf H locs ls M hl
  rw [f_X6_wouldFound_129] at hf
  refine lv_istore (lv' := [(4, .int s0), (0, .ref (gB G + v0)), (1, .ref (gB G + v1)), (2, .int v2), (3, .int v3), (5, .int v5)]) X.1 X.2.1 dX6_wouldFound_129 hl (by decide) rfl (fun ls hl => ?_)
  refine lv_iinc (v := (v5 + 1)) (lv' := [(5, .int (v5 + 1)), (4, .int s0), (0, .ref (gB G + v0)), (1, .ref (gB G + v1)), (2, .int v2), (3, .int v3)]) X.1 X.2.1 dX6_wouldFound_131 hl (k := 5) rfl (by first | rfl | decide) (by decide) rfl (fun ls hl => ?_)
  refine lv_goto (tgt := 83) X.1 X.2.1 dX6_wouldFound_134 (by decide) ?_
  exact K83 v0 v1 v2 v3 s0 (v5 + 1) h hf _ _ _ M (lv_sub hl [2, 3, 4, 5, 1, 0] rfl)
def f_X6_wouldFound_137 (N : Nat) (v0 : Nat) (v1 : Nat) (v4 : Int32) (h : Mem) : Option (Int32 × Mem) :=
  (gR h v0 6 1).bind fun t1 =>
  (gR h v1 1 10).bind fun t3 =>
  (cpI 100 h t1 (0 : Int32) t3 (0 : Int32) (8 : Int32)).bind fun h5 =>
  rz v4 h5
set_option maxRecDepth 100000 in
set_option maxHeartbeats 4000000 in
theorem w_X6_wouldFound_137 {p : Program} {l : Launch} {e : Env} {s : State} {m : MethodId} {args : Array Value} {below : List Frame} {meth : Method} {c : Code} {G : Gx} {r : Int32} {h' : Mem} (X : CX G p s m args c cX6_wouldFound 6 RX6) (hr : meth.sig.returnType = (Option.some Jvm.ClassFile.FieldType.boolean)) (hk : meth.locks = false) (N : Nat) : ∀ (v0 : Nat) (v1 : Nat) (v4 : Int32) (h : Mem), f_X6_wouldFound_137 N v0 v1 v4 h = some (r, h') → ∀ (H : Heap) (locs : List Loc) (ls : Array Slot), MS G s h H locs 0 → lv_has ls 6 [(0, .ref (gB G + v0)), (1, .ref (gB G + v1)), (4, .int v4)] → W p l e (rm_X6_wouldFound) s m args below meth c H locs 0 0 (QI G below args s r h' 0 0) (F0 m 137 ls []) := by
  intro v0 v1 v4 h hf H locs ls M hl
  rw [f_X6_wouldFound_137] at hf
  refine lv_aload_n X.1 X.2.1 dX6_wouldFound_137 rfl (lv_at hl 0 rfl) ?_
  obtain ⟨t1, q2, hf⟩ := bnd hf
  refine x_getr fl_X6_15 X M q2 dX6_wouldFound_138 ?_
  refine lv_iconst (v := (0 : Int32)) X.1 X.2.1 dX6_wouldFound_141 (by decide) ?_
  refine lv_aload_n X.1 X.2.1 dX6_wouldFound_142 rfl (lv_at hl 1 rfl) ?_
  obtain ⟨t3, q4, hf⟩ := bnd hf
  refine x_getr fl_X6_50 X M q4 dX6_wouldFound_143 ?_
  refine lv_iconst (v := (0 : Int32)) X.1 X.2.1 dX6_wouldFound_146 (by decide) ?_
  refine lv_bipush (v := (8 : Int32)) X.1 X.2.1 dX6_wouldFound_147 (by decide) ?_
  obtain ⟨h5, q6, hf⟩ := bnd hf
  refine x_cpI (by decide) (by decide) (fun _ => rfl) (fun _ => rfl) rfl k_652 k_654 k_653 k_18 X M q6 hl.1 (Nat.le_of_ble_eq_true rfl) (Nat.le_of_ble_eq_true rfl) dX6_wouldFound_149 (fun H locs M => ?_)
  refine lv_iload X.1 X.2.1 dX6_wouldFound_152 (lv_at hl 2 rfl) ?_
  obtain ⟨z, rfl, rfl⟩ := rz_spec hf
  exact x_zret X hr hk (nz z) M dX6_wouldFound_154
def f_X6_wouldFound_83 (N : Nat) (n : Nat) (v0 : Nat) (v1 : Nat) (v2 : Int32) (v3 : Int32) (v4 : Int32) (v5 : Int32) (h : Mem) : Option (Int32 × Mem) := match n with
  | 0 => none
  | n + 1 =>
    (gI h v1 1 2).bind fun t1 =>
    if t1 ≤ v5 then
      f_X6_wouldFound_137 N v0 v1 v4 h
    else
      if v4 = 0 then
        f_X6_wouldFound_137 N v0 v1 v4 h
      else
        if ((v2 >>> (v5 &&& 31)) &&& (1 : Int32)) = (1 : Int32) then
          (ck h v1 1).bind fun _ =>
          b2 (f_X1_worthOf N v1 v5 v3 h) fun t9 h8 =>
          (gR h8 v0 6 2).bind fun t10 =>
          (lI 100 h8 t10 v5).bind fun t12 =>
          if t9 ≤ t12 then
            f_X6_wouldFound_129 N v0 v1 v2 v3 v5 (0 : Int32) h8 (fun v0 v1 v2 v3 v4 v5 h => f_X6_wouldFound_83 N n v0 v1 v2 v3 v4 v5 h)
          else
            f_X6_wouldFound_129 N v0 v1 v2 v3 v5 (1 : Int32) h8 (fun v0 v1 v2 v3 v4 v5 h => f_X6_wouldFound_83 N n v0 v1 v2 v3 v4 v5 h)
        else
          f_X6_wouldFound_83 N n v0 v1 v2 v3 v4 (v5 + 1) h
set_option maxRecDepth 100000 in
set_option maxHeartbeats 4000000 in
theorem w_X6_wouldFound_83 {p : Program} {l : Launch} {e : Env} {s : State} {m : MethodId} {args : Array Value} {below : List Frame} {meth : Method} {c : Code} {G : Gx} {r : Int32} {h' : Mem} (X : CX G p s m args c cX6_wouldFound 6 RX6) (hr : meth.sig.returnType = (Option.some Jvm.ClassFile.FieldType.boolean)) (hk : meth.locks = false) (N : Nat) : ∀ (n : Nat) (v0 : Nat) (v1 : Nat) (v2 : Int32) (v3 : Int32) (v4 : Int32) (v5 : Int32) (h : Mem), f_X6_wouldFound_83 N n v0 v1 v2 v3 v4 v5 h = some (r, h') → ∀ (H : Heap) (locs : List Loc) (ls : Array Slot), MS G s h H locs 0 → lv_has ls 6 [(0, .ref (gB G + v0)), (1, .ref (gB G + v1)), (2, .int v2), (3, .int v3), (4, .int v4), (5, .int v5)] → W p l e (rm_X6_wouldFound) s m args below meth c H locs 0 0 (QI G below args s r h' 0 0) (F0 m 83 ls []) := by
  intro n
  induction n with
  | zero =>
    intro v0 v1 v2 v3 v4 v5 h hf
    cases hf
  | succ n ih =>
    intro v0 v1 v2 v3 v4 v5 h hf H locs ls M hl
    rw [f_X6_wouldFound_83] at hf
    refine lv_iload X.1 X.2.1 dX6_wouldFound_83 (lv_at hl 5 rfl) ?_
    refine lv_aload_n X.1 X.2.1 dX6_wouldFound_85 rfl (lv_at hl 1 rfl) ?_
    obtain ⟨t1, q2, hf⟩ := bnd hf
    refine x_geti fl_X6_44 X M q2 dX6_wouldFound_86 ?_
    refine lv_icmp_ge (tgt := 137) X.1 X.2.1 dX6_wouldFound_89 (by decide) (fun c3 => ?_) (fun c3 => ?_)
    · have hf := ifp c3 hf
      exact w_X6_wouldFound_137 X hr hk N v0 v1 v4 h hf _ _ _ M (lv_sub hl [0, 1, 4] rfl)
    · have hf := ifn c3 hf
      refine lv_iload X.1 X.2.1 dX6_wouldFound_92 (lv_at hl 4 rfl) ?_
      refine lv_if_eq (tgt := 137) X.1 X.2.1 dX6_wouldFound_94 (by decide) (fun c4 => ?_) (fun c4 => ?_)
      · have hf := ifp c4 hf
        exact w_X6_wouldFound_137 X hr hk N v0 v1 v4 h hf _ _ _ M (lv_sub hl [0, 1, 4] rfl)
      · have hf := ifn c4 hf
        refine lv_iload_n X.1 X.2.1 dX6_wouldFound_97 rfl (lv_at hl 2 rfl) ?_
        refine lv_iload X.1 X.2.1 dX6_wouldFound_98 (lv_at hl 5 rfl) ?_
        refine lv_ishr X.1 X.2.1 dX6_wouldFound_100 ?_
        refine lv_iconst (v := (1 : Int32)) X.1 X.2.1 dX6_wouldFound_101 (by decide) ?_
        refine lv_iand X.1 X.2.1 dX6_wouldFound_102 ?_
        refine lv_iconst (v := (1 : Int32)) X.1 X.2.1 dX6_wouldFound_103 (by decide) ?_
        refine lv_icmp_ne (tgt := 131) X.1 X.2.1 dX6_wouldFound_104 (by decide) (fun c5 => ?_) (fun c5 => ?_)
        · have hf := ifn c5 hf
          refine lv_iinc (v := (v5 + 1)) (lv' := [(5, .int (v5 + 1)), (0, .ref (gB G + v0)), (1, .ref (gB G + v1)), (2, .int v2), (3, .int v3), (4, .int v4)]) X.1 X.2.1 dX6_wouldFound_131 hl (k := 5) rfl (by first | rfl | decide) (by decide) rfl (fun ls hl => ?_)
          refine lv_goto (tgt := 83) X.1 X.2.1 dX6_wouldFound_134 (by decide) ?_
          exact ih v0 v1 v2 v3 v4 (v5 + 1) h hf _ _ _ M (lv_sub hl [1, 2, 3, 4, 5, 0] rfl)
        · have hf := ifp c5 hf
          refine lv_aload_n X.1 X.2.1 dX6_wouldFound_107 rfl (lv_at hl 1 rfl) ?_
          refine lv_iload X.1 X.2.1 dX6_wouldFound_108 (lv_at hl 5 rfl) ?_
          refine lv_iload_n X.1 X.2.1 dX6_wouldFound_110 rfl (lv_at hl 3 rfl) ?_
          obtain ⟨⟨⟩, q6, hf⟩ := bnd hf
          obtain ⟨t9, h8, q7, hf⟩ := bnd2 hf
          refine x_callVi (As := [.int v5, .int v3]) cf_X6_53 (c_X1_worthOf l G N v1 v5 v3 h _ _ q7) rfl ⟨rfl, rfl, Nat.le_of_ble_eq_true rfl, Nat.le_of_ble_eq_true rfl⟩ ⟨Nat.le_of_ble_eq_true rfl, Nat.le_of_ble_eq_true rfl⟩ X M (x_recv cls_X1 X M q6) rfl rfl hl.1 (Nat.le_of_ble_eq_true rfl) dX6_wouldFound_111 (fun H locs M => ?_)
          refine lv_aload_n X.1 X.2.1 dX6_wouldFound_114 rfl (lv_at hl 0 rfl) ?_
          obtain ⟨t10, q11, hf⟩ := bnd hf
          refine x_getr fl_X6_18 X M q11 dX6_wouldFound_115 ?_
          refine lv_iload X.1 X.2.1 dX6_wouldFound_118 (lv_at hl 5 rfl) ?_
          obtain ⟨t12, q13, hf⟩ := bnd hf
          refine x_iald X M q13 dX6_wouldFound_120 ?_
          refine lv_icmp_le (tgt := 128) X.1 X.2.1 dX6_wouldFound_121 (by decide) (fun c14 => ?_) (fun c14 => ?_)
          · have hf := ifp c14 hf
            refine lv_iconst (v := (0 : Int32)) X.1 X.2.1 dX6_wouldFound_128 (by decide) ?_
            exact w_X6_wouldFound_129 X hr hk N _ (fun v0 v1 v2 v3 v4 v5 h hf H locs ls M hl => ih v0 v1 v2 v3 v4 v5 h hf H locs ls M hl) v0 v1 v2 v3 v5 (0 : Int32) h8 hf _ _ _ M (lv_sub hl [0, 1, 2, 3, 5] rfl)
          · have hf := ifn c14 hf
            refine lv_iconst (v := (1 : Int32)) X.1 X.2.1 dX6_wouldFound_124 (by decide) ?_
            refine lv_goto (tgt := 129) X.1 X.2.1 dX6_wouldFound_125 (by decide) ?_
            exact w_X6_wouldFound_129 X hr hk N _ (fun v0 v1 v2 v3 v4 v5 h hf H locs ls M hl => ih v0 v1 v2 v3 v4 v5 h hf H locs ls M hl) v0 v1 v2 v3 v5 (1 : Int32) h8 hf _ _ _ M (lv_sub hl [0, 1, 2, 3, 5] rfl)
def f_X6_wouldFound_21 (N : Nat) (n : Nat) (v0 : Nat) (v1 : Nat) (v2 : Int32) (v3 : Int32) (v4 : Int32) (v5 : Int32) (h : Mem) : Option (Int32 × Mem) := match n with
  | 0 => none
  | n + 1 =>
    (gI h v1 1 2).bind fun t1 =>
    if t1 ≤ v5 then
      f_X6_wouldFound_83 N N v0 v1 v2 v3 v4 (0 : Int32) h
    else
      if ((v2 >>> (v5 &&& 31)) &&& (1 : Int32)) = (1 : Int32) then
        (gR h v1 1 9).bind fun t5 =>
        (lI 100 h t5 v5).bind fun t7 =>
        (gR h v1 1 6).bind fun t9 =>
        (lI 100 h t9 v3).bind fun t11 =>
        if t7 < t11 then
          f_X6_wouldFound_63 N v0 v1 v2 v3 v5 v4 (0 : Int32) h (fun v0 v1 v2 v3 v4 v5 h => f_X6_wouldFound_21 N n v0 v1 v2 v3 v4 v5 h)
        else
          f_X6_wouldFound_63 N v0 v1 v2 v3 v5 v4 (1 : Int32) h (fun v0 v1 v2 v3 v4 v5 h => f_X6_wouldFound_21 N n v0 v1 v2 v3 v4 v5 h)
      else
        f_X6_wouldFound_21 N n v0 v1 v2 v3 v4 (v5 + 1) h
set_option maxRecDepth 100000 in
set_option maxHeartbeats 4000000 in
theorem w_X6_wouldFound_21 {p : Program} {l : Launch} {e : Env} {s : State} {m : MethodId} {args : Array Value} {below : List Frame} {meth : Method} {c : Code} {G : Gx} {r : Int32} {h' : Mem} (X : CX G p s m args c cX6_wouldFound 6 RX6) (hr : meth.sig.returnType = (Option.some Jvm.ClassFile.FieldType.boolean)) (hk : meth.locks = false) (N : Nat) : ∀ (n : Nat) (v0 : Nat) (v1 : Nat) (v2 : Int32) (v3 : Int32) (v4 : Int32) (v5 : Int32) (h : Mem), f_X6_wouldFound_21 N n v0 v1 v2 v3 v4 v5 h = some (r, h') → ∀ (H : Heap) (locs : List Loc) (ls : Array Slot), MS G s h H locs 0 → lv_has ls 6 [(0, .ref (gB G + v0)), (1, .ref (gB G + v1)), (2, .int v2), (3, .int v3), (4, .int v4), (5, .int v5)] → W p l e (rm_X6_wouldFound) s m args below meth c H locs 0 0 (QI G below args s r h' 0 0) (F0 m 21 ls []) := by
  intro n
  induction n with
  | zero =>
    intro v0 v1 v2 v3 v4 v5 h hf
    cases hf
  | succ n ih =>
    intro v0 v1 v2 v3 v4 v5 h hf H locs ls M hl
    rw [f_X6_wouldFound_21] at hf
    refine lv_iload X.1 X.2.1 dX6_wouldFound_21 (lv_at hl 5 rfl) ?_
    refine lv_aload_n X.1 X.2.1 dX6_wouldFound_23 rfl (lv_at hl 1 rfl) ?_
    obtain ⟨t1, q2, hf⟩ := bnd hf
    refine x_geti fl_X6_44 X M q2 dX6_wouldFound_24 ?_
    refine lv_icmp_ge (tgt := 80) X.1 X.2.1 dX6_wouldFound_27 (by decide) (fun c3 => ?_) (fun c3 => ?_)
    · have hf := ifp c3 hf
      refine lv_iconst (v := (0 : Int32)) X.1 X.2.1 dX6_wouldFound_80 (by decide) ?_
      refine lv_istore (lv' := [(5, .int (0 : Int32)), (0, .ref (gB G + v0)), (1, .ref (gB G + v1)), (2, .int v2), (3, .int v3), (4, .int v4)]) X.1 X.2.1 dX6_wouldFound_81 hl (by decide) rfl (fun ls hl => ?_)
      exact w_X6_wouldFound_83 X hr hk N N v0 v1 v2 v3 v4 (0 : Int32) h hf _ _ _ M (lv_sub hl [1, 2, 3, 4, 5, 0] rfl)
    · have hf := ifn c3 hf
      refine lv_iload_n X.1 X.2.1 dX6_wouldFound_30 rfl (lv_at hl 2 rfl) ?_
      refine lv_iload X.1 X.2.1 dX6_wouldFound_31 (lv_at hl 5 rfl) ?_
      refine lv_ishr X.1 X.2.1 dX6_wouldFound_33 ?_
      refine lv_iconst (v := (1 : Int32)) X.1 X.2.1 dX6_wouldFound_34 (by decide) ?_
      refine lv_iand X.1 X.2.1 dX6_wouldFound_35 ?_
      refine lv_iconst (v := (1 : Int32)) X.1 X.2.1 dX6_wouldFound_36 (by decide) ?_
      refine lv_icmp_ne (tgt := 74) X.1 X.2.1 dX6_wouldFound_37 (by decide) (fun c4 => ?_) (fun c4 => ?_)
      · have hf := ifn c4 hf
        refine lv_iinc (v := (v5 + 1)) (lv' := [(5, .int (v5 + 1)), (0, .ref (gB G + v0)), (1, .ref (gB G + v1)), (2, .int v2), (3, .int v3), (4, .int v4)]) X.1 X.2.1 dX6_wouldFound_74 hl (k := 5) rfl (by first | rfl | decide) (by decide) rfl (fun ls hl => ?_)
        refine lv_goto (tgt := 21) X.1 X.2.1 dX6_wouldFound_77 (by decide) ?_
        exact ih v0 v1 v2 v3 v4 (v5 + 1) h hf _ _ _ M (lv_sub hl [1, 2, 3, 4, 5, 0] rfl)
      · have hf := ifp c4 hf
        refine lv_iload X.1 X.2.1 dX6_wouldFound_40 (lv_at hl 4 rfl) ?_
        refine lv_aload_n X.1 X.2.1 dX6_wouldFound_42 rfl (lv_at hl 1 rfl) ?_
        obtain ⟨t5, q6, hf⟩ := bnd hf
        refine x_getr fl_X6_73 X M q6 dX6_wouldFound_43 ?_
        refine lv_iload X.1 X.2.1 dX6_wouldFound_46 (lv_at hl 5 rfl) ?_
        obtain ⟨t7, q8, hf⟩ := bnd hf
        refine x_iald X M q8 dX6_wouldFound_48 ?_
        refine lv_aload_n X.1 X.2.1 dX6_wouldFound_49 rfl (lv_at hl 1 rfl) ?_
        obtain ⟨t9, q10, hf⟩ := bnd hf
        refine x_getr fl_X6_76 X M q10 dX6_wouldFound_50 ?_
        refine lv_iload_n X.1 X.2.1 dX6_wouldFound_53 rfl (lv_at hl 3 rfl) ?_
        obtain ⟨t11, q12, hf⟩ := bnd hf
        refine x_iald X M q12 dX6_wouldFound_54 ?_
        refine lv_icmp_lt (tgt := 62) X.1 X.2.1 dX6_wouldFound_55 (by decide) (fun c13 => ?_) (fun c13 => ?_)
        · have hf := ifp c13 hf
          refine lv_iconst (v := (0 : Int32)) X.1 X.2.1 dX6_wouldFound_62 (by decide) ?_
          exact w_X6_wouldFound_63 X hr hk N _ (fun v0 v1 v2 v3 v4 v5 h hf H locs ls M hl => ih v0 v1 v2 v3 v4 v5 h hf H locs ls M hl) v0 v1 v2 v3 v5 v4 (0 : Int32) h hf _ _ _ M (lv_sub hl [0, 1, 2, 3, 5] rfl)
        · have hf := ifn c13 hf
          refine lv_iconst (v := (1 : Int32)) X.1 X.2.1 dX6_wouldFound_58 (by decide) ?_
          refine lv_goto (tgt := 63) X.1 X.2.1 dX6_wouldFound_59 (by decide) ?_
          exact w_X6_wouldFound_63 X hr hk N _ (fun v0 v1 v2 v3 v4 v5 h hf H locs ls M hl => ih v0 v1 v2 v3 v4 v5 h hf H locs ls M hl) v0 v1 v2 v3 v5 v4 (1 : Int32) h hf _ _ _ M (lv_sub hl [0, 1, 2, 3, 5] rfl)
def f_X6_wouldFound (N : Nat) (v0 : Nat) (v1 : Nat) (v2 : Int32) (v3 : Int32) (h : Mem) : Option (Int32 × Mem) :=
  (gR h v1 1 10).bind fun t1 =>
  (gR h v0 6 1).bind fun t3 =>
  (cpI 100 h t1 (0 : Int32) t3 (0 : Int32) (8 : Int32)).bind fun h5 =>
  f_X6_wouldFound_21 N N v0 v1 v2 v3 (1 : Int32) (0 : Int32) h5
set_option maxRecDepth 100000 in
set_option maxHeartbeats 4000000 in
theorem w_X6_wouldFound {p : Program} {l : Launch} {e : Env} {s : State} {m : MethodId} {args : Array Value} {below : List Frame} {meth : Method} {c : Code} {G : Gx} {r : Int32} {h' : Mem} (X : CX G p s m args c cX6_wouldFound 6 RX6) (hr : meth.sig.returnType = (Option.some Jvm.ClassFile.FieldType.boolean)) (hk : meth.locks = false) (N : Nat) : ∀ (v0 : Nat) (v1 : Nat) (v2 : Int32) (v3 : Int32) (h : Mem), f_X6_wouldFound N v0 v1 v2 v3 h = some (r, h') → ∀ (H : Heap) (locs : List Loc) (ls : Array Slot), MS G s h H locs 0 → lv_has ls 6 [(0, .ref (gB G + v0)), (1, .ref (gB G + v1)), (2, .int v2), (3, .int v3)] → W p l e (rm_X6_wouldFound) s m args below meth c H locs 0 0 (QI G below args s r h' 0 0) (F0 m 0 ls []) := by
  intro v0 v1 v2 v3 h hf H locs ls M hl
  rw [f_X6_wouldFound] at hf
  refine lv_aload_n X.1 X.2.1 dX6_wouldFound_0 rfl (lv_at hl 1 rfl) ?_
  obtain ⟨t1, q2, hf⟩ := bnd hf
  refine x_getr fl_X6_50 X M q2 dX6_wouldFound_1 ?_
  refine lv_iconst (v := (0 : Int32)) X.1 X.2.1 dX6_wouldFound_4 (by decide) ?_
  refine lv_aload_n X.1 X.2.1 dX6_wouldFound_5 rfl (lv_at hl 0 rfl) ?_
  obtain ⟨t3, q4, hf⟩ := bnd hf
  refine x_getr fl_X6_15 X M q4 dX6_wouldFound_6 ?_
  refine lv_iconst (v := (0 : Int32)) X.1 X.2.1 dX6_wouldFound_9 (by decide) ?_
  refine lv_bipush (v := (8 : Int32)) X.1 X.2.1 dX6_wouldFound_10 (by decide) ?_
  obtain ⟨h5, q6, hf⟩ := bnd hf
  refine x_cpI (by decide) (by decide) (fun _ => rfl) (fun _ => rfl) rfl k_652 k_654 k_653 k_18 X M q6 hl.1 (Nat.le_of_ble_eq_true rfl) (Nat.le_of_ble_eq_true rfl) dX6_wouldFound_12 (fun H locs M => ?_)
  refine lv_iconst (v := (1 : Int32)) X.1 X.2.1 dX6_wouldFound_15 (by decide) ?_
  refine lv_istore (lv' := [(4, .int (1 : Int32)), (0, .ref (gB G + v0)), (1, .ref (gB G + v1)), (2, .int v2), (3, .int v3)]) X.1 X.2.1 dX6_wouldFound_16 hl (by decide) rfl (fun ls hl => ?_)
  refine lv_iconst (v := (0 : Int32)) X.1 X.2.1 dX6_wouldFound_18 (by decide) ?_
  refine lv_istore (lv' := [(5, .int (0 : Int32)), (4, .int (1 : Int32)), (0, .ref (gB G + v0)), (1, .ref (gB G + v1)), (2, .int v2), (3, .int v3)]) X.1 X.2.1 dX6_wouldFound_19 hl (by decide) rfl (fun ls hl => ?_)
  exact w_X6_wouldFound_21 X hr hk N N v0 v1 v2 v3 (1 : Int32) (0 : Int32) h5 hf _ _ _ M (lv_sub hl [2, 3, 4, 5, 1, 0] rfl)
theorem c_X6_wouldFound (l : Launch) (G : Gx) (N : Nat) (v0 : Nat) (v1 : Nat) (v2 : Int32) (v3 : Int32) (h : Mem) (r : Int32) (h' : Mem) (hf : f_X6_wouldFound N v0 v1 v2 v3 h = some (r, h')) : MetG l G yX6_wouldFound (.code yX6_wouldFound cX6_wouldFound 6 (Option.some Jvm.ClassFile.FieldType.boolean)) rm_X6_wouldFound [.ref (gB G + v0), .ref (gB G + v1), .int v2, .int v3] h (QcI G r h') 0 0 :=
  x_met (by decide) rfl (Nat.le_of_ble_eq_true rfl) (fun p e s m args below meth c ls X M hr hk hin hl => w_X6_wouldFound X hr hk N v0 v1 v2 v3 h hf _ _ ls M hl)
abbrev rm_X6_leastOf : Room := { frames := 2, cells := 0, slots := 0, locals := 60 }
def f_X6_leastOf (N : Nat) (v0 : Int32) (h : Mem) : Option (Int32 × Mem) :=
  b2 (f_J6_bitCount_0f7a4 N ((v0 &&& (-v0)) - (1 : Int32)) h) fun t3 h2 =>
  some (t3, h2)
set_option maxRecDepth 100000 in
set_option maxHeartbeats 4000000 in
theorem w_X6_leastOf {p : Program} {l : Launch} {e : Env} {s : State} {m : MethodId} {args : Array Value} {below : List Frame} {meth : Method} {c : Code} {G : Gx} {r : Int32} {h' : Mem} (X : CX G p s m args c cX6_leastOf 1 RX6) (hr : meth.sig.returnType = (Option.some Jvm.ClassFile.FieldType.int)) (hk : meth.locks = false) (N : Nat) : ∀ (v0 : Int32) (h : Mem), f_X6_leastOf N v0 h = some (r, h') → ∀ (H : Heap) (locs : List Loc) (ls : Array Slot), MS G s h H locs 0 → lv_has ls 1 [(0, .int v0)] → W p l e (rm_X6_leastOf) s m args below meth c H locs 0 0 (QI G below args s r h' 0 0) (F0 m 0 ls []) := by
  intro v0 h hf H locs ls M hl
  rw [f_X6_leastOf] at hf
  refine lv_iload_n X.1 X.2.1 dX6_leastOf_0 rfl (lv_at hl 0 rfl) ?_
  refine lv_iload_n X.1 X.2.1 dX6_leastOf_1 rfl (lv_at hl 0 rfl) ?_
  refine lv_ineg X.1 X.2.1 dX6_leastOf_2 ?_
  refine lv_iand X.1 X.2.1 dX6_leastOf_3 ?_
  refine lv_iconst (v := (1 : Int32)) X.1 X.2.1 dX6_leastOf_4 (by decide) ?_
  refine lv_isub X.1 X.2.1 dX6_leastOf_5 ?_
  obtain ⟨t3, h2, q1, hf⟩ := bnd2 hf
  refine x_callSi (As := [.int ((v0 &&& (-v0)) - (1 : Int32))]) cf_X6_92 (c_J6_bitCount_0f7a4 l G N ((v0 &&& (-v0)) - (1 : Int32)) h _ _ q1) rfl ⟨rfl, rfl, Nat.le_of_ble_eq_true rfl, Nat.le_of_ble_eq_true rfl⟩ ⟨Nat.le_of_ble_eq_true rfl, Nat.le_of_ble_eq_true rfl⟩ X M rfl rfl hl.1 (Nat.le_of_ble_eq_true rfl) dX6_leastOf_6 (fun H locs M => ?_)
  obtain ⟨rfl, rfl⟩ := rt2 hf
  exact x_iret X hr hk M dX6_leastOf_9
theorem c_X6_leastOf (l : Launch) (G : Gx) (N : Nat) (v0 : Int32) (h : Mem) (r : Int32) (h' : Mem) (hf : f_X6_leastOf N v0 h = some (r, h')) : MetG l G yX6_leastOf (.code yX6_leastOf cX6_leastOf 1 (Option.some Jvm.ClassFile.FieldType.int)) rm_X6_leastOf [.int v0] h (QcI G r h') 0 0 :=
  x_met (by decide) rfl (Nat.le_of_ble_eq_true rfl) (fun p e s m args below meth c ls X M hr hk hin hl => w_X6_leastOf X hr hk N v0 h hf _ _ ls M hl)
abbrev rm_X6_club : Room := { frames := 6, cells := 0, slots := 0, locals := 161 }
def f_X6_club_66 (N : Nat) (n : Nat) (v0 : Nat) (v1 : Nat) (v2 : Int32) (v3 : Int32) (v4 : Int32) (h : Mem) (k35 : Nat → Nat → Int32 → Mem → Option (Int32 × Mem)) : Option (Int32 × Mem) := match n with
  | 0 => none
  | n + 1 =>
    (gI h v1 1 1).bind fun t1 =>
    if t1 ≤ v4 then
      k35 v0 v1 (v2 + 1) h
    else
      (ck h v1 1).bind fun _ =>
      b2 (f_X1_crowd N v1 v4 h) fun t7 h6 =>
      if t7 = 0 then
        (gR h6 v1 1 3).bind fun t9 =>
        (lI 100 h6 t9 v4).bind fun t11 =>
        if t11 < v3 then
          f_X6_club_66 N n v0 v1 v2 v3 (v4 + 1) h6 k35
        else
          (ck h6 v0 6).bind fun _ =>
          b2 (f_X6_wouldFound N v0 v1 v2 v4 h6) fun t17 h16 =>
          if t17 = 0 then
            f_X6_club_66 N n v0 v1 v2 v3 (v4 + 1) h16 k35
          else
            b2 (f_X6_leastOf N v2 h16) fun t21 h20 =>
            some ((((100 : Int32) * t21) + v4), h20)
      else
        f_X6_club_66 N n v0 v1 v2 v3 (v4 + 1) h6 k35
set_option maxRecDepth 100000 in
set_option maxHeartbeats 4000000 in
theorem w_X6_club_66 {p : Program} {l : Launch} {e : Env} {s : State} {m : MethodId} {args : Array Value} {below : List Frame} {meth : Method} {c : Code} {G : Gx} {r : Int32} {h' : Mem} (X : CX G p s m args c cX6_club 5 RX6) (hr : meth.sig.returnType = (Option.some Jvm.ClassFile.FieldType.int)) (hk : meth.locks = false) (N : Nat) (k35 : Nat → Nat → Int32 → Mem → Option (Int32 × Mem)) (K35 : ∀ (v0 : Nat) (v1 : Nat) (v2 : Int32) (h : Mem), k35 v0 v1 v2 h = some (r, h') → ∀ (H : Heap) (locs : List Loc) (ls : Array Slot), MS G s h H locs 0 → lv_has ls 5 [(0, .ref (gB G + v0)), (1, .ref (gB G + v1)), (2, .int v2)] → W p l e (rm_X6_club) s m args below meth c H locs 0 0 (QI G below args s r h' 0 0) (F0 m 35 ls [])) : ∀ (n : Nat) (v0 : Nat) (v1 : Nat) (v2 : Int32) (v3 : Int32) (v4 : Int32) (h : Mem), f_X6_club_66 N n v0 v1 v2 v3 v4 h k35 = some (r, h') → ∀ (H : Heap) (locs : List Loc) (ls : Array Slot), MS G s h H locs 0 → lv_has ls 5 [(0, .ref (gB G + v0)), (1, .ref (gB G + v1)), (2, .int v2), (3, .int v3), (4, .int v4)] → W p l e (rm_X6_club) s m args below meth c H locs 0 0 (QI G below args s r h' 0 0) (F0 m 66 ls []) := by
  intro n
  induction n with
  | zero =>
    intro v0 v1 v2 v3 v4 h hf
    cases hf
  | succ n ih =>
    intro v0 v1 v2 v3 v4 h hf H locs ls M hl
    rw [f_X6_club_66] at hf
    refine lv_iload X.1 X.2.1 dX6_club_66 (lv_at hl 4 rfl) ?_
    refine lv_aload_n X.1 X.2.1 dX6_club_68 rfl (lv_at hl 1 rfl) ?_
    obtain ⟨t1, q2, hf⟩ := bnd hf
    refine x_geti fl_X6_57 X M q2 dX6_club_69 ?_
    refine lv_icmp_ge (tgt := 123) X.1 X.2.1 dX6_club_72 (by decide) (fun c3 => ?_) (fun c3 => ?_)
    · have hf := ifp c3 hf
      refine lv_iinc (v := (v2 + 1)) (lv' := [(2, .int (v2 + 1)), (0, .ref (gB G + v0)), (1, .ref (gB G + v1)), (3, .int v3), (4, .int v4)]) X.1 X.2.1 dX6_club_123 hl (k := 2) rfl (by first | rfl | decide) (by decide) rfl (fun ls hl => ?_)
      refine lv_goto (tgt := 35) X.1 X.2.1 dX6_club_126 (by decide) ?_
      exact K35 v0 v1 (v2 + 1) h hf _ _ _ M (lv_sub hl [1, 2, 0] rfl)
    · have hf := ifn c3 hf
      refine lv_aload_n X.1 X.2.1 dX6_club_75 rfl (lv_at hl 1 rfl) ?_
      refine lv_iload X.1 X.2.1 dX6_club_76 (lv_at hl 4 rfl) ?_
      obtain ⟨⟨⟩, q4, hf⟩ := bnd hf
      obtain ⟨t7, h6, q5, hf⟩ := bnd2 hf
      refine x_callVi (As := [.int v4]) cf_X6_97 (c_X1_crowd l G N v1 v4 h _ _ q5) rfl ⟨rfl, rfl, Nat.le_of_ble_eq_true rfl, Nat.le_of_ble_eq_true rfl⟩ ⟨Nat.le_of_ble_eq_true rfl, Nat.le_of_ble_eq_true rfl⟩ X M (x_recv cls_X1 X M q4) rfl rfl hl.1 (Nat.le_of_ble_eq_true rfl) dX6_club_78 (fun H locs M => ?_)
      refine lv_if_ne (tgt := 117) X.1 X.2.1 dX6_club_81 (by decide) (fun c8 => ?_) (fun c8 => ?_)
      · have hf := ifn c8 hf
        refine lv_iinc (v := (v4 + 1)) (lv' := [(4, .int (v4 + 1)), (0, .ref (gB G + v0)), (1, .ref (gB G + v1)), (2, .int v2), (3, .int v3)]) X.1 X.2.1 dX6_club_117 hl (k := 4) rfl (by first | rfl | decide) (by decide) rfl (fun ls hl => ?_)
        refine lv_goto (tgt := 66) X.1 X.2.1 dX6_club_120 (by decide) ?_
        exact ih v0 v1 v2 v3 (v4 + 1) h6 hf _ _ _ M (lv_sub hl [1, 2, 3, 4, 0] rfl)
      · have hf := ifp c8 hf
        refine lv_aload_n X.1 X.2.1 dX6_club_84 rfl (lv_at hl 1 rfl) ?_
        obtain ⟨t9, q10, hf⟩ := bnd hf
        refine x_getr fl_X6_100 X M q10 dX6_club_85 ?_
        refine lv_iload X.1 X.2.1 dX6_club_88 (lv_at hl 4 rfl) ?_
        obtain ⟨t11, q12, hf⟩ := bnd hf
        refine x_iald X M q12 dX6_club_90 ?_
        refine lv_iload_n X.1 X.2.1 dX6_club_91 rfl (lv_at hl 3 rfl) ?_
        refine lv_icmp_lt (tgt := 117) X.1 X.2.1 dX6_club_92 (by decide) (fun c13 => ?_) (fun c13 => ?_)
        · have hf := ifp c13 hf
          refine lv_iinc (v := (v4 + 1)) (lv' := [(4, .int (v4 + 1)), (0, .ref (gB G + v0)), (1, .ref (gB G + v1)), (2, .int v2), (3, .int v3)]) X.1 X.2.1 dX6_club_117 hl (k := 4) rfl (by first | rfl | decide) (by decide) rfl (fun ls hl => ?_)
          refine lv_goto (tgt := 66) X.1 X.2.1 dX6_club_120 (by decide) ?_
          exact ih v0 v1 v2 v3 (v4 + 1) h6 hf _ _ _ M (lv_sub hl [1, 2, 3, 4, 0] rfl)
        · have hf := ifn c13 hf
          refine lv_aload_n X.1 X.2.1 dX6_club_95 rfl (lv_at hl 0 rfl) ?_
          refine lv_aload_n X.1 X.2.1 dX6_club_96 rfl (lv_at hl 1 rfl) ?_
          refine lv_iload_n X.1 X.2.1 dX6_club_97 rfl (lv_at hl 2 rfl) ?_
          refine lv_iload X.1 X.2.1 dX6_club_98 (lv_at hl 4 rfl) ?_
          obtain ⟨⟨⟩, q14, hf⟩ := bnd hf
          obtain ⟨t17, h16, q15, hf⟩ := bnd2 hf
          refine x_callVi (As := [.ref (gB G + v1), .int v2, .int v4]) cf_X6_103 (c_X6_wouldFound l G N v0 v1 v2 v4 h6 _ _ q15) rfl ⟨rfl, rfl, Nat.le_of_ble_eq_true rfl, Nat.le_of_ble_eq_true rfl⟩ ⟨Nat.le_of_ble_eq_true rfl, Nat.le_of_ble_eq_true rfl⟩ X M (x_recv cls_X6 X M q14) rfl rfl hl.1 (Nat.le_of_ble_eq_true rfl) dX6_club_100 (fun H locs M => ?_)
          refine lv_if_eq (tgt := 117) X.1 X.2.1 dX6_club_103 (by decide) (fun c18 => ?_) (fun c18 => ?_)
          · have hf := ifp c18 hf
            refine lv_iinc (v := (v4 + 1)) (lv' := [(4, .int (v4 + 1)), (0, .ref (gB G + v0)), (1, .ref (gB G + v1)), (2, .int v2), (3, .int v3)]) X.1 X.2.1 dX6_club_117 hl (k := 4) rfl (by first | rfl | decide) (by decide) rfl (fun ls hl => ?_)
            refine lv_goto (tgt := 66) X.1 X.2.1 dX6_club_120 (by decide) ?_
            exact ih v0 v1 v2 v3 (v4 + 1) h16 hf _ _ _ M (lv_sub hl [1, 2, 3, 4, 0] rfl)
          · have hf := ifn c18 hf
            refine lv_bipush (v := (100 : Int32)) X.1 X.2.1 dX6_club_106 (by decide) ?_
            refine lv_iload_n X.1 X.2.1 dX6_club_108 rfl (lv_at hl 2 rfl) ?_
            obtain ⟨t21, h20, q19, hf⟩ := bnd2 hf
            refine x_callSi (As := [.int v2]) cf_X6_107 (c_X6_leastOf l G N v2 h16 _ _ q19) rfl ⟨rfl, rfl, Nat.le_of_ble_eq_true rfl, Nat.le_of_ble_eq_true rfl⟩ ⟨Nat.le_of_ble_eq_true rfl, Nat.le_of_ble_eq_true rfl⟩ X M rfl rfl hl.1 (Nat.le_of_ble_eq_true rfl) dX6_club_109 (fun H locs M => ?_)
            refine lv_imul X.1 X.2.1 dX6_club_112 ?_
            refine lv_iload X.1 X.2.1 dX6_club_113 (lv_at hl 4 rfl) ?_
            refine lv_iadd X.1 X.2.1 dX6_club_115 ?_
            obtain ⟨rfl, rfl⟩ := rt2 hf
            exact x_iret X hr hk M dX6_club_116
def f_X6_club_63 (N : Nat) (v0 : Nat) (v1 : Nat) (v2 : Int32) (v3 : Int32) (h : Mem) (k35 : Nat → Nat → Int32 → Mem → Option (Int32 × Mem)) : Option (Int32 × Mem) :=
  f_X6_club_66 N N v0 v1 v2 v3 (0 : Int32) h k35
set_option maxRecDepth 100000 in
set_option maxHeartbeats 4000000 in
theorem w_X6_club_63 {p : Program} {l : Launch} {e : Env} {s : State} {m : MethodId} {args : Array Value} {below : List Frame} {meth : Method} {c : Code} {G : Gx} {r : Int32} {h' : Mem} (X : CX G p s m args c cX6_club 5 RX6) (hr : meth.sig.returnType = (Option.some Jvm.ClassFile.FieldType.int)) (hk : meth.locks = false) (N : Nat) (k35 : Nat → Nat → Int32 → Mem → Option (Int32 × Mem)) (K35 : ∀ (v0 : Nat) (v1 : Nat) (v2 : Int32) (h : Mem), k35 v0 v1 v2 h = some (r, h') → ∀ (H : Heap) (locs : List Loc) (ls : Array Slot), MS G s h H locs 0 → lv_has ls 5 [(0, .ref (gB G + v0)), (1, .ref (gB G + v1)), (2, .int v2)] → W p l e (rm_X6_club) s m args below meth c H locs 0 0 (QI G below args s r h' 0 0) (F0 m 35 ls [])) : ∀ (v0 : Nat) (v1 : Nat) (v2 : Int32) (v3 : Int32) (h : Mem), f_X6_club_63 N v0 v1 v2 v3 h k35 = some (r, h') → ∀ (H : Heap) (locs : List Loc) (ls : Array Slot), MS G s h H locs 0 → lv_has ls 5 [(0, .ref (gB G + v0)), (1, .ref (gB G + v1)), (2, .int v2), (3, .int v3)] → W p l e (rm_X6_club) s m args below meth c H locs 0 0 (QI G below args s r h' 0 0) (F0 m 63 ls []) := by
  intro v0 v1 v2 v3 h hf H locs ls M hl
  rw [f_X6_club_63] at hf
  refine lv_iconst (v := (0 : Int32)) X.1 X.2.1 dX6_club_63 (by decide) ?_
  refine lv_istore (lv' := [(4, .int (0 : Int32)), (0, .ref (gB G + v0)), (1, .ref (gB G + v1)), (2, .int v2), (3, .int v3)]) X.1 X.2.1 dX6_club_64 hl (by decide) rfl (fun ls hl => ?_)
  exact w_X6_club_66 X hr hk N _ K35 N v0 v1 v2 v3 (0 : Int32) h hf _ _ _ M (lv_sub hl [1, 2, 3, 4, 0] rfl)
def f_X6_club_35 (N : Nat) (n : Nat) (v0 : Nat) (v1 : Nat) (v2 : Int32) (h : Mem) : Option (Int32 × Mem) := match n with
  | 0 => none
  | n + 1 =>
    (gI h v1 1 2).bind fun t1 =>
    if ((1 : Int32) <<< (t1 &&& 31)) ≤ v2 then
      some ((-5 : Int32), h)
    else
      b2 (f_J6_bitCount_0f7a4 N v2 h) fun t6 h5 =>
      if t6 = (2 : Int32) then
        f_X6_club_63 N v0 v1 v2 t6 h5 (fun v0 v1 v2 h => f_X6_club_35 N n v0 v1 v2 h)
      else
        if t6 = (3 : Int32) then
          f_X6_club_63 N v0 v1 v2 t6 h5 (fun v0 v1 v2 h => f_X6_club_35 N n v0 v1 v2 h)
        else
          f_X6_club_35 N n v0 v1 (v2 + 1) h5
set_option maxRecDepth 100000 in
set_option maxHeartbeats 4000000 in
theorem w_X6_club_35 {p : Program} {l : Launch} {e : Env} {s : State} {m : MethodId} {args : Array Value} {below : List Frame} {meth : Method} {c : Code} {G : Gx} {r : Int32} {h' : Mem} (X : CX G p s m args c cX6_club 5 RX6) (hr : meth.sig.returnType = (Option.some Jvm.ClassFile.FieldType.int)) (hk : meth.locks = false) (N : Nat) : ∀ (n : Nat) (v0 : Nat) (v1 : Nat) (v2 : Int32) (h : Mem), f_X6_club_35 N n v0 v1 v2 h = some (r, h') → ∀ (H : Heap) (locs : List Loc) (ls : Array Slot), MS G s h H locs 0 → lv_has ls 5 [(0, .ref (gB G + v0)), (1, .ref (gB G + v1)), (2, .int v2)] → W p l e (rm_X6_club) s m args below meth c H locs 0 0 (QI G below args s r h' 0 0) (F0 m 35 ls []) := by
  intro n
  induction n with
  | zero =>
    intro v0 v1 v2 h hf
    cases hf
  | succ n ih =>
    intro v0 v1 v2 h hf H locs ls M hl
    rw [f_X6_club_35] at hf
    refine lv_iload_n X.1 X.2.1 dX6_club_35 rfl (lv_at hl 2 rfl) ?_
    refine lv_iconst (v := (1 : Int32)) X.1 X.2.1 dX6_club_36 (by decide) ?_
    refine lv_aload_n X.1 X.2.1 dX6_club_37 rfl (lv_at hl 1 rfl) ?_
    obtain ⟨t1, q2, hf⟩ := bnd hf
    refine x_geti fl_X6_44 X M q2 dX6_club_38 ?_
    refine lv_ishl X.1 X.2.1 dX6_club_41 ?_
    refine lv_icmp_ge (tgt := 129) X.1 X.2.1 dX6_club_42 (by decide) (fun c3 => ?_) (fun c3 => ?_)
    · have hf := ifp c3 hf
      refine lv_bipush (v := (-5 : Int32)) X.1 X.2.1 dX6_club_129 (by decide) ?_
      obtain ⟨rfl, rfl⟩ := rt2 hf
      exact x_iret X hr hk M dX6_club_131
    · have hf := ifn c3 hf
      refine lv_iload_n X.1 X.2.1 dX6_club_45 rfl (lv_at hl 2 rfl) ?_
      obtain ⟨t6, h5, q4, hf⟩ := bnd2 hf
      refine x_callSi (As := [.int v2]) cf_X6_92 (c_J6_bitCount_0f7a4 l G N v2 h _ _ q4) rfl ⟨rfl, rfl, Nat.le_of_ble_eq_true rfl, Nat.le_of_ble_eq_true rfl⟩ ⟨Nat.le_of_ble_eq_true rfl, Nat.le_of_ble_eq_true rfl⟩ X M rfl rfl hl.1 (Nat.le_of_ble_eq_true rfl) dX6_club_46 (fun H locs M => ?_)
      refine lv_istore_n (lv' := [(3, .int t6), (0, .ref (gB G + v0)), (1, .ref (gB G + v1)), (2, .int v2)]) X.1 X.2.1 dX6_club_49 rfl hl (by decide) rfl (fun ls hl => ?_)
      refine lv_iload_n X.1 X.2.1 dX6_club_50 rfl (lv_at hl 0 rfl) ?_
      refine lv_iconst (v := (2 : Int32)) X.1 X.2.1 dX6_club_51 (by decide) ?_
      refine lv_icmp_eq (tgt := 63) X.1 X.2.1 dX6_club_52 (by decide) (fun c7 => ?_) (fun c7 => ?_)
      · have hf := ifp c7 hf
        exact w_X6_club_63 X hr hk N _ (fun v0 v1 v2 h hf H locs ls M hl => ih v0 v1 v2 h hf H locs ls M hl) v0 v1 v2 t6 h5 hf _ _ _ M (lv_sub hl [1, 2, 3, 0] rfl)
      · have hf := ifn c7 hf
        refine lv_iload_n X.1 X.2.1 dX6_club_55 rfl (lv_at hl 0 rfl) ?_
        refine lv_iconst (v := (3 : Int32)) X.1 X.2.1 dX6_club_56 (by decide) ?_
        refine lv_icmp_eq (tgt := 63) X.1 X.2.1 dX6_club_57 (by decide) (fun c8 => ?_) (fun c8 => ?_)
        · have hf := ifp c8 hf
          exact w_X6_club_63 X hr hk N _ (fun v0 v1 v2 h hf H locs ls M hl => ih v0 v1 v2 h hf H locs ls M hl) v0 v1 v2 t6 h5 hf _ _ _ M (lv_sub hl [1, 2, 3, 0] rfl)
        · have hf := ifn c8 hf
          refine lv_goto (tgt := 123) X.1 X.2.1 dX6_club_60 (by decide) ?_
          refine lv_iinc (v := (v2 + 1)) (lv' := [(2, .int (v2 + 1)), (3, .int t6), (0, .ref (gB G + v0)), (1, .ref (gB G + v1))]) X.1 X.2.1 dX6_club_123 hl (k := 3) rfl (by first | rfl | decide) (by decide) rfl (fun ls hl => ?_)
          refine lv_goto (tgt := 35) X.1 X.2.1 dX6_club_126 (by decide) ?_
          exact ih v0 v1 (v2 + 1) h5 hf _ _ _ M (lv_sub hl [2, 3, 0] rfl)
def f_X6_club_2 (N : Nat) (n : Nat) (v0 : Nat) (v1 : Nat) (v2 : Int32) (h : Mem) : Option (Int32 × Mem) := match n with
  | 0 => none
  | n + 1 =>
    (gI h v1 1 2).bind fun t1 =>
    if t1 ≤ v2 then
      f_X6_club_35 N N v0 v1 (0 : Int32) h
    else
      (gR h v0 6 2).bind fun t4 =>
      (gR h v1 1 10).bind fun t6 =>
      (lI 100 h t6 v2).bind fun t8 =>
      (ck h v1 1).bind fun _ =>
      b2 (f_X1_worthOf N v1 v2 t8 h) fun t13 h12 =>
      (stI 100 h12 t4 v2 t13).bind fun h14 =>
      f_X6_club_2 N n v0 v1 (v2 + 1) h14
set_option maxRecDepth 100000 in
set_option maxHeartbeats 4000000 in
theorem w_X6_club_2 {p : Program} {l : Launch} {e : Env} {s : State} {m : MethodId} {args : Array Value} {below : List Frame} {meth : Method} {c : Code} {G : Gx} {r : Int32} {h' : Mem} (X : CX G p s m args c cX6_club 5 RX6) (hr : meth.sig.returnType = (Option.some Jvm.ClassFile.FieldType.int)) (hk : meth.locks = false) (N : Nat) : ∀ (n : Nat) (v0 : Nat) (v1 : Nat) (v2 : Int32) (h : Mem), f_X6_club_2 N n v0 v1 v2 h = some (r, h') → ∀ (H : Heap) (locs : List Loc) (ls : Array Slot), MS G s h H locs 0 → lv_has ls 5 [(0, .ref (gB G + v0)), (1, .ref (gB G + v1)), (2, .int v2)] → W p l e (rm_X6_club) s m args below meth c H locs 0 0 (QI G below args s r h' 0 0) (F0 m 2 ls []) := by
  intro n
  induction n with
  | zero =>
    intro v0 v1 v2 h hf
    cases hf
  | succ n ih =>
    intro v0 v1 v2 h hf H locs ls M hl
    rw [f_X6_club_2] at hf
    refine lv_iload_n X.1 X.2.1 dX6_club_2 rfl (lv_at hl 2 rfl) ?_
    refine lv_aload_n X.1 X.2.1 dX6_club_3 rfl (lv_at hl 1 rfl) ?_
    obtain ⟨t1, q2, hf⟩ := bnd hf
    refine x_geti fl_X6_44 X M q2 dX6_club_4 ?_
    refine lv_icmp_ge (tgt := 33) X.1 X.2.1 dX6_club_7 (by decide) (fun c3 => ?_) (fun c3 => ?_)
    · have hf := ifp c3 hf
      refine lv_iconst (v := (0 : Int32)) X.1 X.2.1 dX6_club_33 (by decide) ?_
      refine lv_istore_n (lv' := [(2, .int (0 : Int32)), (0, .ref (gB G + v0)), (1, .ref (gB G + v1))]) X.1 X.2.1 dX6_club_34 rfl hl (by decide) rfl (fun ls hl => ?_)
      exact w_X6_club_35 X hr hk N N v0 v1 (0 : Int32) h hf _ _ _ M (lv_sub hl [1, 2, 0] rfl)
    · have hf := ifn c3 hf
      refine lv_aload_n X.1 X.2.1 dX6_club_10 rfl (lv_at hl 0 rfl) ?_
      obtain ⟨t4, q5, hf⟩ := bnd hf
      refine x_getr fl_X6_18 X M q5 dX6_club_11 ?_
      refine lv_iload_n X.1 X.2.1 dX6_club_14 rfl (lv_at hl 2 rfl) ?_
      refine lv_aload_n X.1 X.2.1 dX6_club_15 rfl (lv_at hl 1 rfl) ?_
      refine lv_iload_n X.1 X.2.1 dX6_club_16 rfl (lv_at hl 2 rfl) ?_
      refine lv_aload_n X.1 X.2.1 dX6_club_17 rfl (lv_at hl 1 rfl) ?_
      obtain ⟨t6, q7, hf⟩ := bnd hf
      refine x_getr fl_X6_50 X M q7 dX6_club_18 ?_
      refine lv_iload_n X.1 X.2.1 dX6_club_21 rfl (lv_at hl 2 rfl) ?_
      obtain ⟨t8, q9, hf⟩ := bnd hf
      refine x_iald X M q9 dX6_club_22 ?_
      obtain ⟨⟨⟩, q10, hf⟩ := bnd hf
      obtain ⟨t13, h12, q11, hf⟩ := bnd2 hf
      refine x_callVi (As := [.int v2, .int t8]) cf_X6_53 (c_X1_worthOf l G N v1 v2 t8 h _ _ q11) rfl ⟨rfl, rfl, Nat.le_of_ble_eq_true rfl, Nat.le_of_ble_eq_true rfl⟩ ⟨Nat.le_of_ble_eq_true rfl, Nat.le_of_ble_eq_true rfl⟩ X M (x_recv cls_X1 X M q10) rfl rfl hl.1 (Nat.le_of_ble_eq_true rfl) dX6_club_23 (fun H locs M => ?_)
      obtain ⟨h14, q15, hf⟩ := bnd hf
      refine x_iast X M q15 dX6_club_26 (fun H locs M => ?_)
      refine lv_iinc (v := (v2 + 1)) (lv' := [(2, .int (v2 + 1)), (0, .ref (gB G + v0)), (1, .ref (gB G + v1))]) X.1 X.2.1 dX6_club_27 hl (k := 2) rfl (by first | rfl | decide) (by decide) rfl (fun ls hl => ?_)
      refine lv_goto (tgt := 2) X.1 X.2.1 dX6_club_30 (by decide) ?_
      exact ih v0 v1 (v2 + 1) h14 hf _ _ _ M (lv_sub hl [1, 2, 0] rfl)
def f_X6_club (N : Nat) (v0 : Nat) (v1 : Nat) (h : Mem) : Option (Int32 × Mem) :=
  f_X6_club_2 N N v0 v1 (0 : Int32) h
set_option maxRecDepth 100000 in
set_option maxHeartbeats 4000000 in
theorem w_X6_club {p : Program} {l : Launch} {e : Env} {s : State} {m : MethodId} {args : Array Value} {below : List Frame} {meth : Method} {c : Code} {G : Gx} {r : Int32} {h' : Mem} (X : CX G p s m args c cX6_club 5 RX6) (hr : meth.sig.returnType = (Option.some Jvm.ClassFile.FieldType.int)) (hk : meth.locks = false) (N : Nat) : ∀ (v0 : Nat) (v1 : Nat) (h : Mem), f_X6_club N v0 v1 h = some (r, h') → ∀ (H : Heap) (locs : List Loc) (ls : Array Slot), MS G s h H locs 0 → lv_has ls 5 [(0, .ref (gB G + v0)), (1, .ref (gB G + v1))] → W p l e (rm_X6_club) s m args below meth c H locs 0 0 (QI G below args s r h' 0 0) (F0 m 0 ls []) := by
  intro v0 v1 h hf H locs ls M hl
  rw [f_X6_club] at hf
  refine lv_iconst (v := (0 : Int32)) X.1 X.2.1 dX6_club_0 (by decide) ?_
  refine lv_istore_n (lv' := [(2, .int (0 : Int32)), (0, .ref (gB G + v0)), (1, .ref (gB G + v1))]) X.1 X.2.1 dX6_club_1 rfl hl (by decide) rfl (fun ls hl => ?_)
  exact w_X6_club_2 X hr hk N N v0 v1 (0 : Int32) h hf _ _ _ M (lv_sub hl [1, 2, 0] rfl)
theorem c_X6_club (l : Launch) (G : Gx) (N : Nat) (v0 : Nat) (v1 : Nat) (h : Mem) (r : Int32) (h' : Mem) (hf : f_X6_club N v0 v1 h = some (r, h')) : MetG l G yX6_club (.code yX6_club cX6_club 5 (Option.some Jvm.ClassFile.FieldType.int)) rm_X6_club [.ref (gB G + v0), .ref (gB G + v1)] h (QcI G r h') 0 0 :=
  x_met (by decide) rfl (Nat.le_of_ble_eq_true rfl) (fun p e s m args below meth c ls X M hr hk hin hl => w_X6_club X hr hk N v0 v1 h hf _ _ ls M hl)
abbrev rm_X6_breach : Room := { frames := 7, cells := 0, slots := 0, locals := 196 }
def f_X6_breach_26 (N : Nat) (v0 : Nat) (v1 : Nat) (v2 : Int32) (v3 : Int32) (h : Mem) : Option (Int32 × Mem) :=
  if v3 = (-5 : Int32) then
    if v2 = 3 then
      (ck h v0 6).bind fun _ =>
      b2 (f_X6_rented N v0 v1 h) fun t6 h5 =>
      some (t6, h5)
    else
    if v2 = 4 then
      (ck h v0 6).bind fun _ =>
      b2 (f_X6_seer N v0 v1 h) fun t11 h10 =>
      some (t11, h10)
    else
    if v2 = 5 then
      (ck h v0 6).bind fun _ =>
      b2 (f_X6_club N v0 v1 h) fun t16 h15 =>
      some (t16, h15)
    else
    some ((-5 : Int32), h)
  else
    some (v3, h)
set_option maxRecDepth 100000 in
set_option maxHeartbeats 4000000 in
theorem w_X6_breach_26 {p : Program} {l : Launch} {e : Env} {s : State} {m : MethodId} {args : Array Value} {below : List Frame} {meth : Method} {c : Code} {G : Gx} {r : Int32} {h' : Mem} (X : CX G p s m args c cX6_breach 4 RX6) (hr : meth.sig.returnType = (Option.some Jvm.ClassFile.FieldType.int)) (hk : meth.locks = false) (N : Nat) : ∀ (v0 : Nat) (v1 : Nat) (v2 : Int32) (v3 : Int32) (h : Mem), f_X6_breach_26 N v0 v1 v2 v3 h = some (r, h') → ∀ (H : Heap) (locs : List Loc) (ls : Array Slot), MS G s h H locs 0 → lv_has ls 4 [(0, .ref (gB G + v0)), (1, .ref (gB G + v1)), (2, .int v2), (3, .int v3)] → W p l e (rm_X6_breach) s m args below meth c H locs 0 0 (QI G below args s r h' 0 0) (F0 m 26 ls []) := by
  intro v0 v1 v2 v3 h hf H locs ls M hl
  rw [f_X6_breach_26] at hf
  refine lv_iload_n X.1 X.2.1 dX6_breach_26 rfl (lv_at hl 3 rfl) ?_
  refine lv_bipush (v := (-5 : Int32)) X.1 X.2.1 dX6_breach_27 (by decide) ?_
  refine lv_icmp_eq (tgt := 34) X.1 X.2.1 dX6_breach_29 (by decide) (fun c1 => ?_) (fun c1 => ?_)
  · have hf := ifp c1 hf
    refine lv_iload_n X.1 X.2.1 dX6_breach_34 rfl (lv_at hl 2 rfl) ?_
    by_cases c2 : v2 = 3
    · have hf := ifp c2 hf
      refine x_tin (z := 3) (tgt := 60) X rfl c2 dX6_breach_35 (by decide) (by decide) rfl (by decide) ?_
      refine lv_aload_n X.1 X.2.1 dX6_breach_60 rfl (lv_at hl 0 rfl) ?_
      refine lv_aload_n X.1 X.2.1 dX6_breach_61 rfl (lv_at hl 1 rfl) ?_
      obtain ⟨⟨⟩, q3, hf⟩ := bnd hf
      obtain ⟨t6, h5, q4, hf⟩ := bnd2 hf
      refine x_callVi (As := [.ref (gB G + v1)]) cf_X6_35 (c_X6_rented l G N v0 v1 h _ _ q4) rfl ⟨rfl, rfl, Nat.le_of_ble_eq_true rfl, Nat.le_of_ble_eq_true rfl⟩ ⟨Nat.le_of_ble_eq_true rfl, Nat.le_of_ble_eq_true rfl⟩ X M (x_recv cls_X6 X M q3) rfl rfl hl.1 (Nat.le_of_ble_eq_true rfl) dX6_breach_62 (fun H locs M => ?_)
      obtain ⟨rfl, rfl⟩ := rt2 hf
      exact x_iret X hr hk M dX6_breach_65
    have hf := ifn c2 hf
    by_cases c7 : v2 = 4
    · have hf := ifp c7 hf
      refine x_tin (z := 4) (tgt := 66) X rfl c7 dX6_breach_35 (by decide) (by decide) rfl (by decide) ?_
      refine lv_aload_n X.1 X.2.1 dX6_breach_66 rfl (lv_at hl 0 rfl) ?_
      refine lv_aload_n X.1 X.2.1 dX6_breach_67 rfl (lv_at hl 1 rfl) ?_
      obtain ⟨⟨⟩, q8, hf⟩ := bnd hf
      obtain ⟨t11, h10, q9, hf⟩ := bnd2 hf
      refine x_callVi (As := [.ref (gB G + v1)]) cf_X6_38 (c_X6_seer l G N v0 v1 h _ _ q9) rfl ⟨rfl, rfl, Nat.le_of_ble_eq_true rfl, Nat.le_of_ble_eq_true rfl⟩ ⟨Nat.le_of_ble_eq_true rfl, Nat.le_of_ble_eq_true rfl⟩ X M (x_recv cls_X6 X M q8) rfl rfl hl.1 (Nat.le_of_ble_eq_true rfl) dX6_breach_68 (fun H locs M => ?_)
      obtain ⟨rfl, rfl⟩ := rt2 hf
      exact x_iret X hr hk M dX6_breach_71
    have hf := ifn c7 hf
    by_cases c12 : v2 = 5
    · have hf := ifp c12 hf
      refine x_tin (z := 5) (tgt := 72) X rfl c12 dX6_breach_35 (by decide) (by decide) rfl (by decide) ?_
      refine lv_aload_n X.1 X.2.1 dX6_breach_72 rfl (lv_at hl 0 rfl) ?_
      refine lv_aload_n X.1 X.2.1 dX6_breach_73 rfl (lv_at hl 1 rfl) ?_
      obtain ⟨⟨⟩, q13, hf⟩ := bnd hf
      obtain ⟨t16, h15, q14, hf⟩ := bnd2 hf
      refine x_callVi (As := [.ref (gB G + v1)]) cf_X6_41 (c_X6_club l G N v0 v1 h _ _ q14) rfl ⟨rfl, rfl, Nat.le_of_ble_eq_true rfl, Nat.le_of_ble_eq_true rfl⟩ ⟨Nat.le_of_ble_eq_true rfl, Nat.le_of_ble_eq_true rfl⟩ X M (x_recv cls_X6 X M q13) rfl rfl hl.1 (Nat.le_of_ble_eq_true rfl) dX6_breach_74 (fun H locs M => ?_)
      obtain ⟨rfl, rfl⟩ := rt2 hf
      exact x_iret X hr hk M dX6_breach_77
    have hf := ifn c12 hf
    have nc2 := lv_neT (a := 3) c2 rfl
    have nc7 := lv_neT (a := 4) c7 rfl
    have nc12 := lv_neT (a := 5) c12 rfl
    refine lv_tableOut (tgt := 78) X.1 X.2.1 dX6_breach_35 (by omega) (by decide) ?_
    refine lv_bipush (v := (-5 : Int32)) X.1 X.2.1 dX6_breach_78 (by decide) ?_
    obtain ⟨rfl, rfl⟩ := rt2 hf
    exact x_iret X hr hk M dX6_breach_80
  · have hf := ifn c1 hf
    refine lv_iload_n X.1 X.2.1 dX6_breach_32 rfl (lv_at hl 3 rfl) ?_
    obtain ⟨rfl, rfl⟩ := rt2 hf
    exact x_iret X hr hk M dX6_breach_33
def f_X6_breach (N : Nat) (v0 : Nat) (v1 : Nat) (v2 : Int32) (h : Mem) : Option (Int32 × Mem) :=
  (ck h v0 6).bind fun _ =>
  b2 (f_X6_stay N v0 v1 h) fun t4 h3 =>
  if t4 = (-5 : Int32) then
    b2 (f_X6_isUnder N v2 (2 : Int32) h3) fun t8 h7 =>
    if t8 = 0 then
      f_X6_breach_26 N v0 v1 v2 t4 h7
    else
      (ck h7 v0 6).bind fun _ =>
      b2 (f_X6_voted N v0 v1 h7) fun t13 h12 =>
      f_X6_breach_26 N v0 v1 v2 t13 h12
  else
    f_X6_breach_26 N v0 v1 v2 t4 h3
set_option maxRecDepth 100000 in
set_option maxHeartbeats 4000000 in
theorem w_X6_breach {p : Program} {l : Launch} {e : Env} {s : State} {m : MethodId} {args : Array Value} {below : List Frame} {meth : Method} {c : Code} {G : Gx} {r : Int32} {h' : Mem} (X : CX G p s m args c cX6_breach 4 RX6) (hr : meth.sig.returnType = (Option.some Jvm.ClassFile.FieldType.int)) (hk : meth.locks = false) (N : Nat) : ∀ (v0 : Nat) (v1 : Nat) (v2 : Int32) (h : Mem), f_X6_breach N v0 v1 v2 h = some (r, h') → ∀ (H : Heap) (locs : List Loc) (ls : Array Slot), MS G s h H locs 0 → lv_has ls 4 [(0, .ref (gB G + v0)), (1, .ref (gB G + v1)), (2, .int v2)] → W p l e (rm_X6_breach) s m args below meth c H locs 0 0 (QI G below args s r h' 0 0) (F0 m 0 ls []) := by
  intro v0 v1 v2 h hf H locs ls M hl
  rw [f_X6_breach] at hf
  refine lv_aload_n X.1 X.2.1 dX6_breach_0 rfl (lv_at hl 0 rfl) ?_
  refine lv_aload_n X.1 X.2.1 dX6_breach_1 rfl (lv_at hl 1 rfl) ?_
  obtain ⟨⟨⟩, q1, hf⟩ := bnd hf
  obtain ⟨t4, h3, q2, hf⟩ := bnd2 hf
  refine x_callVi (As := [.ref (gB G + v1)]) cf_X6_24 (c_X6_stay l G N v0 v1 h _ _ q2) rfl ⟨rfl, rfl, Nat.le_of_ble_eq_true rfl, Nat.le_of_ble_eq_true rfl⟩ ⟨Nat.le_of_ble_eq_true rfl, Nat.le_of_ble_eq_true rfl⟩ X M (x_recv cls_X6 X M q1) rfl rfl hl.1 (Nat.le_of_ble_eq_true rfl) dX6_breach_2 (fun H locs M => ?_)
  refine lv_istore_n (lv' := [(3, .int t4), (0, .ref (gB G + v0)), (1, .ref (gB G + v1)), (2, .int v2)]) X.1 X.2.1 dX6_breach_5 rfl hl (by decide) rfl (fun ls hl => ?_)
  refine lv_iload_n X.1 X.2.1 dX6_breach_6 rfl (lv_at hl 0 rfl) ?_
  refine lv_bipush (v := (-5 : Int32)) X.1 X.2.1 dX6_breach_7 (by decide) ?_
  refine lv_icmp_ne (tgt := 26) X.1 X.2.1 dX6_breach_9 (by decide) (fun c5 => ?_) (fun c5 => ?_)
  · have hf := ifn c5 hf
    exact w_X6_breach_26 X hr hk N v0 v1 v2 t4 h3 hf _ _ _ M (lv_sub hl [1, 2, 3, 0] rfl)
  · have hf := ifp c5 hf
    refine lv_iload_n X.1 X.2.1 dX6_breach_12 rfl (lv_at hl 3 rfl) ?_
    refine lv_iconst (v := (2 : Int32)) X.1 X.2.1 dX6_breach_13 (by decide) ?_
    obtain ⟨t8, h7, q6, hf⟩ := bnd2 hf
    refine x_callSi (As := [.int v2, .int (2 : Int32)]) cf_X6_28 (c_X6_isUnder l G N v2 (2 : Int32) h3 _ _ q6) rfl ⟨rfl, rfl, Nat.le_of_ble_eq_true rfl, Nat.le_of_ble_eq_true rfl⟩ ⟨Nat.le_of_ble_eq_true rfl, Nat.le_of_ble_eq_true rfl⟩ X M rfl rfl hl.1 (Nat.le_of_ble_eq_true rfl) dX6_breach_14 (fun H locs M => ?_)
    refine lv_if_eq (tgt := 26) X.1 X.2.1 dX6_breach_17 (by decide) (fun c9 => ?_) (fun c9 => ?_)
    · have hf := ifp c9 hf
      exact w_X6_breach_26 X hr hk N v0 v1 v2 t4 h7 hf _ _ _ M (lv_sub hl [1, 2, 3, 0] rfl)
    · have hf := ifn c9 hf
      refine lv_aload_n X.1 X.2.1 dX6_breach_20 rfl (lv_at hl 1 rfl) ?_
      refine lv_aload_n X.1 X.2.1 dX6_breach_21 rfl (lv_at hl 2 rfl) ?_
      obtain ⟨⟨⟩, q10, hf⟩ := bnd hf
      obtain ⟨t13, h12, q11, hf⟩ := bnd2 hf
      refine x_callVi (As := [.ref (gB G + v1)]) cf_X6_32 (c_X6_voted l G N v0 v1 h7 _ _ q11) rfl ⟨rfl, rfl, Nat.le_of_ble_eq_true rfl, Nat.le_of_ble_eq_true rfl⟩ ⟨Nat.le_of_ble_eq_true rfl, Nat.le_of_ble_eq_true rfl⟩ X M (x_recv cls_X6 X M q10) rfl rfl hl.1 (Nat.le_of_ble_eq_true rfl) dX6_breach_22 (fun H locs M => ?_)
      refine lv_istore_n (lv' := [(3, .int t13), (0, .ref (gB G + v0)), (1, .ref (gB G + v1)), (2, .int v2)]) X.1 X.2.1 dX6_breach_25 rfl hl (by decide) rfl (fun ls hl => ?_)
      exact w_X6_breach_26 X hr hk N v0 v1 v2 t13 h12 hf _ _ _ M (lv_sub hl [1, 2, 3, 0] rfl)
theorem c_X6_breach (l : Launch) (G : Gx) (N : Nat) (v0 : Nat) (v1 : Nat) (v2 : Int32) (h : Mem) (r : Int32) (h' : Mem) (hf : f_X6_breach N v0 v1 v2 h = some (r, h')) : MetG l G yX6_breach (.code yX6_breach cX6_breach 4 (Option.some Jvm.ClassFile.FieldType.int)) rm_X6_breach [.ref (gB G + v0), .ref (gB G + v1), .int v2] h (QcI G r h') 0 0 :=
  x_met (by decide) rfl (Nat.le_of_ble_eq_true rfl) (fun p e s m args below meth c ls X M hr hk hin hl => w_X6_breach X hr hk N v0 v1 v2 h hf _ _ ls M hl)
abbrev rm_X8_stride : Room := { frames := 6, cells := 0, slots := 0, locals := 170 }
def f_X8_stride_88 (N : Nat) (v3 : Int32) (v4 : Int32) (h : Mem) : Option (Int32 × Mem) :=
  if v3 = (-5 : Int32) then
    if v4 = 0 then
      some ((-6 : Int32), h)
    else
      some (v3, h)
  else
    some (v3, h)
set_option maxRecDepth 100000 in
set_option maxHeartbeats 4000000 in
theorem w_X8_stride_88 {p : Program} {l : Launch} {e : Env} {s : State} {m : MethodId} {args : Array Value} {below : List Frame} {meth : Method} {c : Code} {G : Gx} {r : Int32} {h' : Mem} (X : CX G p s m args c cX8_stride 6 RX8) (hr : meth.sig.returnType = (Option.some Jvm.ClassFile.FieldType.int)) (hk : meth.locks = false) (N : Nat) : ∀ (v3 : Int32) (v4 : Int32) (h : Mem), f_X8_stride_88 N v3 v4 h = some (r, h') → ∀ (H : Heap) (locs : List Loc) (ls : Array Slot), MS G s h H locs 0 → lv_has ls 6 [(3, .int v3), (4, .int v4)] → W p l e (rm_X8_stride) s m args below meth c H locs 0 0 (QI G below args s r h' 0 0) (F0 m 88 ls []) := by
  intro v3 v4 h hf H locs ls M hl
  rw [f_X8_stride_88] at hf
  refine lv_iload_n X.1 X.2.1 dX8_stride_88 rfl (lv_at hl 0 rfl) ?_
  refine lv_bipush (v := (-5 : Int32)) X.1 X.2.1 dX8_stride_89 (by decide) ?_
  refine lv_icmp_ne (tgt := 104) X.1 X.2.1 dX8_stride_91 (by decide) (fun c1 => ?_) (fun c1 => ?_)
  · have hf := ifn c1 hf
    refine lv_iload_n X.1 X.2.1 dX8_stride_104 rfl (lv_at hl 0 rfl) ?_
    obtain ⟨rfl, rfl⟩ := rt2 hf
    exact x_iret X hr hk M dX8_stride_105
  · have hf := ifp c1 hf
    refine lv_iload X.1 X.2.1 dX8_stride_94 (lv_at hl 1 rfl) ?_
    refine lv_if_ne (tgt := 104) X.1 X.2.1 dX8_stride_96 (by decide) (fun c2 => ?_) (fun c2 => ?_)
    · have hf := ifn c2 hf
      refine lv_iload_n X.1 X.2.1 dX8_stride_104 rfl (lv_at hl 0 rfl) ?_
      obtain ⟨rfl, rfl⟩ := rt2 hf
      exact x_iret X hr hk M dX8_stride_105
    · have hf := ifp c2 hf
      refine lv_bipush (v := (-6 : Int32)) X.1 X.2.1 dX8_stride_99 (by decide) ?_
      refine lv_goto (tgt := 105) X.1 X.2.1 dX8_stride_101 (by decide) ?_
      obtain ⟨rfl, rfl⟩ := rt2 hf
      exact x_iret X hr hk M dX8_stride_105
def f_X8_stride_58 (N : Nat) (n : Nat) (v1 : Nat) (v2 : Int32) (v3 : Int32) (v4 : Int32) (v5 : Int32) (h : Mem) : Option (Int32 × Mem) := match n with
  | 0 => none
  | n + 1 =>
    (gI h v1 1 1).bind fun t1 =>
    if t1 ≤ v5 then
      f_X8_stride_88 N v3 v4 h
    else
      if v2 = 0 then
        f_X8_stride_88 N v3 v4 h
      else
        (ck h v1 1).bind fun _ =>
        b2 (f_X1_vote N v1 v5 h) fun t8 h7 =>
        f_X8_stride_58 N n v1 v2 v3 (v4 + t8) (v5 + 1) h7
set_option maxRecDepth 100000 in
set_option maxHeartbeats 4000000 in
theorem w_X8_stride_58 {p : Program} {l : Launch} {e : Env} {s : State} {m : MethodId} {args : Array Value} {below : List Frame} {meth : Method} {c : Code} {G : Gx} {r : Int32} {h' : Mem} (X : CX G p s m args c cX8_stride 6 RX8) (hr : meth.sig.returnType = (Option.some Jvm.ClassFile.FieldType.int)) (hk : meth.locks = false) (N : Nat) : ∀ (n : Nat) (v1 : Nat) (v2 : Int32) (v3 : Int32) (v4 : Int32) (v5 : Int32) (h : Mem), f_X8_stride_58 N n v1 v2 v3 v4 v5 h = some (r, h') → ∀ (H : Heap) (locs : List Loc) (ls : Array Slot), MS G s h H locs 0 → lv_has ls 6 [(1, .ref (gB G + v1)), (2, .int v2), (3, .int v3), (4, .int v4), (5, .int v5)] → W p l e (rm_X8_stride) s m args below meth c H locs 0 0 (QI G below args s r h' 0 0) (F0 m 58 ls []) := by
  intro n
  induction n with
  | zero =>
    intro v1 v2 v3 v4 v5 h hf
    cases hf
  | succ n ih =>
    intro v1 v2 v3 v4 v5 h hf H locs ls M hl
    rw [f_X8_stride_58] at hf
    refine lv_iload X.1 X.2.1 dX8_stride_58 (lv_at hl 4 rfl) ?_
    refine lv_aload_n X.1 X.2.1 dX8_stride_60 rfl (lv_at hl 0 rfl) ?_
    obtain ⟨t1, q2, hf⟩ := bnd hf
    refine x_geti fl_X8_29 X M q2 dX8_stride_61 ?_
    refine lv_icmp_ge (tgt := 88) X.1 X.2.1 dX8_stride_64 (by decide) (fun c3 => ?_) (fun c3 => ?_)
    · have hf := ifp c3 hf
      exact w_X8_stride_88 X hr hk N v3 v4 h hf _ _ _ M (lv_sub hl [2, 3] rfl)
    · have hf := ifn c3 hf
      refine lv_iload_n X.1 X.2.1 dX8_stride_67 rfl (lv_at hl 1 rfl) ?_
      refine lv_if_eq (tgt := 88) X.1 X.2.1 dX8_stride_68 (by decide) (fun c4 => ?_) (fun c4 => ?_)
      · have hf := ifp c4 hf
        exact w_X8_stride_88 X hr hk N v3 v4 h hf _ _ _ M (lv_sub hl [2, 3] rfl)
      · have hf := ifn c4 hf
        refine lv_iload X.1 X.2.1 dX8_stride_71 (lv_at hl 3 rfl) ?_
        refine lv_aload_n X.1 X.2.1 dX8_stride_73 rfl (lv_at hl 0 rfl) ?_
        refine lv_iload X.1 X.2.1 dX8_stride_74 (lv_at hl 4 rfl) ?_
        obtain ⟨⟨⟩, q5, hf⟩ := bnd hf
        obtain ⟨t8, h7, q6, hf⟩ := bnd2 hf
        refine x_callVi (As := [.int v5]) cf_X8_32 (c_X1_vote l G N v1 v5 h _ _ q6) rfl ⟨rfl, rfl, Nat.le_of_ble_eq_true rfl, Nat.le_of_ble_eq_true rfl⟩ ⟨Nat.le_of_ble_eq_true rfl, Nat.le_of_ble_eq_true rfl⟩ X M (x_recv cls_X1 X M q5) rfl rfl hl.1 (Nat.le_of_ble_eq_true rfl) dX8_stride_76 (fun H locs M => ?_)
        refine lv_iadd X.1 X.2.1 dX8_stride_79 ?_
        refine lv_istore (lv' := [(4, .int (v4 + t8)), (1, .ref (gB G + v1)), (2, .int v2), (3, .int v3), (5, .int v5)]) X.1 X.2.1 dX8_stride_80 hl (by decide) rfl (fun ls hl => ?_)
        refine lv_iinc (v := (v5 + 1)) (lv' := [(5, .int (v5 + 1)), (4, .int (v4 + t8)), (1, .ref (gB G + v1)), (2, .int v2), (3, .int v3)]) X.1 X.2.1 dX8_stride_82 hl (k := 4) rfl (by first | rfl | decide) (by decide) rfl (fun ls hl => ?_)
        refine lv_goto (tgt := 58) X.1 X.2.1 dX8_stride_85 (by decide) ?_
        exact ih v1 v2 v3 (v4 + t8) (v5 + 1) h7 hf _ _ _ M (lv_sub hl [2, 3, 4, 1, 0] rfl)
def f_X8_stride_52 (N : Nat) (v1 : Nat) (v2 : Int32) (v3 : Int32) (h : Mem) : Option (Int32 × Mem) :=
  f_X8_stride_58 N N v1 v2 v3 (0 : Int32) (0 : Int32) h
set_option maxRecDepth 100000 in
set_option maxHeartbeats 4000000 in
theorem w_X8_stride_52 {p : Program} {l : Launch} {e : Env} {s : State} {m : MethodId} {args : Array Value} {below : List Frame} {meth : Method} {c : Code} {G : Gx} {r : Int32} {h' : Mem} (X : CX G p s m args c cX8_stride 6 RX8) (hr : meth.sig.returnType = (Option.some Jvm.ClassFile.FieldType.int)) (hk : meth.locks = false) (N : Nat) : ∀ (v1 : Nat) (v2 : Int32) (v3 : Int32) (h : Mem), f_X8_stride_52 N v1 v2 v3 h = some (r, h') → ∀ (H : Heap) (locs : List Loc) (ls : Array Slot), MS G s h H locs 0 → lv_has ls 6 [(1, .ref (gB G + v1)), (2, .int v2), (3, .int v3)] → W p l e (rm_X8_stride) s m args below meth c H locs 0 0 (QI G below args s r h' 0 0) (F0 m 52 ls []) := by
  intro v1 v2 v3 h hf H locs ls M hl
  rw [f_X8_stride_52] at hf
  refine lv_iconst (v := (0 : Int32)) X.1 X.2.1 dX8_stride_52 (by decide) ?_
  refine lv_istore (lv' := [(4, .int (0 : Int32)), (1, .ref (gB G + v1)), (2, .int v2), (3, .int v3)]) X.1 X.2.1 dX8_stride_53 hl (by decide) rfl (fun ls hl => ?_)
  refine lv_iconst (v := (0 : Int32)) X.1 X.2.1 dX8_stride_55 (by decide) ?_
  refine lv_istore (lv' := [(5, .int (0 : Int32)), (4, .int (0 : Int32)), (1, .ref (gB G + v1)), (2, .int v2), (3, .int v3)]) X.1 X.2.1 dX8_stride_56 hl (by decide) rfl (fun ls hl => ?_)
  exact w_X8_stride_58 X hr hk N N v1 v2 v3 (0 : Int32) (0 : Int32) h hf _ _ _ M (lv_sub hl [2, 3, 4, 1, 0] rfl)
def f_X8_stride_6 (N : Nat) (n : Nat) (v1 : Nat) (v2 : Int32) (v3 : Int32) (v4 : Int32) (h : Mem) : Option (Int32 × Mem) := match n with
  | 0 => none
  | n + 1 =>
    (gI h v1 1 2).bind fun t1 =>
    if t1 ≤ v4 then
      f_X8_stride_52 N v1 v2 v3 h
    else
      if v3 = (-5 : Int32) then
        (ck h v1 1).bind fun _ =>
        b2 (f_X1_betterTown N v1 v4 h) fun t8 h7 =>
        if t8 < 0 then
          f_X8_stride_6 N n v1 v2 v3 (v4 + 1) h7
        else
          (gR h7 v1 1 10).bind fun t10 =>
          (stI 100 h7 t10 v4 t8).bind fun h12 =>
          f_X8_stride_6 N n v1 v2 v4 (v4 + 1) h12
      else
        f_X8_stride_52 N v1 v2 v3 h
set_option maxRecDepth 100000 in
set_option maxHeartbeats 4000000 in
theorem w_X8_stride_6 {p : Program} {l : Launch} {e : Env} {s : State} {m : MethodId} {args : Array Value} {below : List Frame} {meth : Method} {c : Code} {G : Gx} {r : Int32} {h' : Mem} (X : CX G p s m args c cX8_stride 6 RX8) (hr : meth.sig.returnType = (Option.some Jvm.ClassFile.FieldType.int)) (hk : meth.locks = false) (N : Nat) : ∀ (n : Nat) (v1 : Nat) (v2 : Int32) (v3 : Int32) (v4 : Int32) (h : Mem), f_X8_stride_6 N n v1 v2 v3 v4 h = some (r, h') → ∀ (H : Heap) (locs : List Loc) (ls : Array Slot), MS G s h H locs 0 → lv_has ls 6 [(1, .ref (gB G + v1)), (2, .int v2), (3, .int v3), (4, .int v4)] → W p l e (rm_X8_stride) s m args below meth c H locs 0 0 (QI G below args s r h' 0 0) (F0 m 6 ls []) := by
  intro n
  induction n with
  | zero =>
    intro v1 v2 v3 v4 h hf
    cases hf
  | succ n ih =>
    intro v1 v2 v3 v4 h hf H locs ls M hl
    rw [f_X8_stride_6] at hf
    refine lv_iload X.1 X.2.1 dX8_stride_6 (lv_at hl 3 rfl) ?_
    refine lv_aload_n X.1 X.2.1 dX8_stride_8 rfl (lv_at hl 0 rfl) ?_
    obtain ⟨t1, q2, hf⟩ := bnd hf
    refine x_geti fl_X8_15 X M q2 dX8_stride_9 ?_
    refine lv_icmp_ge (tgt := 52) X.1 X.2.1 dX8_stride_12 (by decide) (fun c3 => ?_) (fun c3 => ?_)
    · have hf := ifp c3 hf
      exact w_X8_stride_52 X hr hk N v1 v2 v3 h hf _ _ _ M (lv_sub hl [0, 1, 2] rfl)
    · have hf := ifn c3 hf
      refine lv_iload_n X.1 X.2.1 dX8_stride_15 rfl (lv_at hl 2 rfl) ?_
      refine lv_bipush (v := (-5 : Int32)) X.1 X.2.1 dX8_stride_16 (by decide) ?_
      refine lv_icmp_ne (tgt := 52) X.1 X.2.1 dX8_stride_18 (by decide) (fun c4 => ?_) (fun c4 => ?_)
      · have hf := ifn c4 hf
        exact w_X8_stride_52 X hr hk N v1 v2 v3 h hf _ _ _ M (lv_sub hl [0, 1, 2] rfl)
      · have hf := ifp c4 hf
        refine lv_aload_n X.1 X.2.1 dX8_stride_21 rfl (lv_at hl 0 rfl) ?_
        refine lv_iload X.1 X.2.1 dX8_stride_22 (lv_at hl 3 rfl) ?_
        obtain ⟨⟨⟩, q5, hf⟩ := bnd hf
        obtain ⟨t8, h7, q6, hf⟩ := bnd2 hf
        refine x_callVi (As := [.int v4]) cf_X8_21 (c_X1_betterTown l G N v1 v4 h _ _ q6) rfl ⟨rfl, rfl, Nat.le_of_ble_eq_true rfl, Nat.le_of_ble_eq_true rfl⟩ ⟨Nat.le_of_ble_eq_true rfl, Nat.le_of_ble_eq_true rfl⟩ X M (x_recv cls_X1 X M q5) rfl rfl hl.1 (Nat.le_of_ble_eq_true rfl) dX8_stride_24 (fun H locs M => ?_)
        refine lv_istore (lv' := [(5, .int t8), (1, .ref (gB G + v1)), (2, .int v2), (3, .int v3), (4, .int v4)]) X.1 X.2.1 dX8_stride_27 hl (by decide) rfl (fun ls hl => ?_)
        refine lv_iload X.1 X.2.1 dX8_stride_29 (lv_at hl 0 rfl) ?_
        refine lv_if_lt (tgt := 46) X.1 X.2.1 dX8_stride_31 (by decide) (fun c9 => ?_) (fun c9 => ?_)
        · have hf := ifp c9 hf
          refine lv_iinc (v := (v4 + 1)) (lv' := [(4, .int (v4 + 1)), (5, .int t8), (1, .ref (gB G + v1)), (2, .int v2), (3, .int v3)]) X.1 X.2.1 dX8_stride_46 hl (k := 4) rfl (by first | rfl | decide) (by decide) rfl (fun ls hl => ?_)
          refine lv_goto (tgt := 6) X.1 X.2.1 dX8_stride_49 (by decide) ?_
          exact ih v1 v2 v3 (v4 + 1) h7 hf _ _ _ M (lv_sub hl [2, 3, 4, 0] rfl)
        · have hf := ifn c9 hf
          refine lv_aload_n X.1 X.2.1 dX8_stride_34 rfl (lv_at hl 1 rfl) ?_
          obtain ⟨t10, q11, hf⟩ := bnd hf
          refine x_getr fl_X8_25 X M q11 dX8_stride_35 ?_
          refine lv_iload X.1 X.2.1 dX8_stride_38 (lv_at hl 4 rfl) ?_
          refine lv_iload X.1 X.2.1 dX8_stride_40 (lv_at hl 0 rfl) ?_
          obtain ⟨h12, q13, hf⟩ := bnd hf
          refine x_iast X M q13 dX8_stride_42 (fun H locs M => ?_)
          refine lv_iload X.1 X.2.1 dX8_stride_43 (lv_at hl 4 rfl) ?_
          refine lv_istore_n (lv' := [(3, .int v4), (5, .int t8), (1, .ref (gB G + v1)), (2, .int v2), (4, .int v4)]) X.1 X.2.1 dX8_stride_45 rfl hl (by decide) rfl (fun ls hl => ?_)
          refine lv_iinc (v := (v4 + 1)) (lv' := [(4, .int (v4 + 1)), (3, .int v4), (5, .int t8), (1, .ref (gB G + v1)), (2, .int v2)]) X.1 X.2.1 dX8_stride_46 hl (k := 4) rfl (by first | rfl | decide) (by decide) rfl (fun ls hl => ?_)
          refine lv_goto (tgt := 6) X.1 X.2.1 dX8_stride_49 (by decide) ?_
          exact ih v1 v2 v4 (v4 + 1) h12 hf _ _ _ M (lv_sub hl [3, 4, 1, 0] rfl)
def f_X8_stride (N : Nat) (v0 : Nat) (v1 : Nat) (v2 : Int32) (h : Mem) : Option (Int32 × Mem) :=
  f_X8_stride_6 N N v1 v2 (-5 : Int32) (0 : Int32) h
set_option maxRecDepth 100000 in
set_option maxHeartbeats 4000000 in
theorem w_X8_stride {p : Program} {l : Launch} {e : Env} {s : State} {m : MethodId} {args : Array Value} {below : List Frame} {meth : Method} {c : Code} {G : Gx} {r : Int32} {h' : Mem} (X : CX G p s m args c cX8_stride 6 RX8) (hr : meth.sig.returnType = (Option.some Jvm.ClassFile.FieldType.int)) (hk : meth.locks = false) (N : Nat) : ∀ (v0 : Nat) (v1 : Nat) (v2 : Int32) (h : Mem), f_X8_stride N v0 v1 v2 h = some (r, h') → ∀ (H : Heap) (locs : List Loc) (ls : Array Slot), MS G s h H locs 0 → lv_has ls 6 [(0, .ref (gB G + v0)), (1, .ref (gB G + v1)), (2, .int v2)] → W p l e (rm_X8_stride) s m args below meth c H locs 0 0 (QI G below args s r h' 0 0) (F0 m 0 ls []) := by
  intro v0 v1 v2 h hf H locs ls M hl
  rw [f_X8_stride] at hf
  refine lv_bipush (v := (-5 : Int32)) X.1 X.2.1 dX8_stride_0 (by decide) ?_
  refine lv_istore_n (lv' := [(3, .int (-5 : Int32)), (0, .ref (gB G + v0)), (1, .ref (gB G + v1)), (2, .int v2)]) X.1 X.2.1 dX8_stride_2 rfl hl (by decide) rfl (fun ls hl => ?_)
  refine lv_iconst (v := (0 : Int32)) X.1 X.2.1 dX8_stride_3 (by decide) ?_
  refine lv_istore (lv' := [(4, .int (0 : Int32)), (3, .int (-5 : Int32)), (0, .ref (gB G + v0)), (1, .ref (gB G + v1)), (2, .int v2)]) X.1 X.2.1 dX8_stride_4 hl (by decide) rfl (fun ls hl => ?_)
  exact w_X8_stride_6 X hr hk N N v1 v2 (-5 : Int32) (0 : Int32) h hf _ _ _ M (lv_sub hl [3, 4, 1, 0] rfl)
theorem c_X8_stride (l : Launch) (G : Gx) (N : Nat) (v0 : Nat) (v1 : Nat) (v2 : Int32) (h : Mem) (r : Int32) (h' : Mem) (hf : f_X8_stride N v0 v1 v2 h = some (r, h')) : MetG l G yX8_stride (.code yX8_stride cX8_stride 6 (Option.some Jvm.ClassFile.FieldType.int)) rm_X8_stride [.ref (gB G + v0), .ref (gB G + v1), .int v2] h (QcI G r h') 0 0 :=
  x_met (by decide) rfl (Nat.le_of_ble_eq_true rfl) (fun p e s m args below meth c ls X M hr hk hin hl => w_X8_stride X hr hk N v0 v1 v2 h hf _ _ ls M hl)
abbrev rm_X8_strideOn : Room := { frames := 7, cells := 0, slots := 0, locals := 195 }
def f_X8_strideOn_46 (N : Nat) (n : Nat) (v0 : Nat) (v1 : Nat) (v2 : Int32) (v3 : Int32) (v4 : Int32) (h : Mem) (k12 : Nat → Nat → Int32 → Int32 → Mem → Option (Int32 × Mem)) : Option (Int32 × Mem) := match n with
  | 0 => none
  | n + 1 =>
    if v3 < v4 then
      k12 v0 v1 v2 (v3 + 1) h
    else
      (gR h v0 8 0).bind fun t2 =>
      (lJ h t2 (v3 - v4)).bind fun t4 =>
      (gR h v0 8 0).bind fun t6 =>
      (lJ h t6 v3).bind fun t8 =>
      if (lg_cmp t4 t8) = 0 then
        some (((100 : Int32) + v4), h)
      else
        f_X8_strideOn_46 N n v0 v1 v2 v3 (v4 + 1) h k12
set_option maxRecDepth 100000 in
set_option maxHeartbeats 4000000 in
theorem w_X8_strideOn_46 {p : Program} {l : Launch} {e : Env} {s : State} {m : MethodId} {args : Array Value} {below : List Frame} {meth : Method} {c : Code} {G : Gx} {r : Int32} {h' : Mem} (X : CX G p s m args c cX8_strideOn 5 RX8) (hr : meth.sig.returnType = (Option.some Jvm.ClassFile.FieldType.int)) (hk : meth.locks = false) (N : Nat) (k12 : Nat → Nat → Int32 → Int32 → Mem → Option (Int32 × Mem)) (K12 : ∀ (v0 : Nat) (v1 : Nat) (v2 : Int32) (v3 : Int32) (h : Mem), k12 v0 v1 v2 v3 h = some (r, h') → ∀ (H : Heap) (locs : List Loc) (ls : Array Slot), MS G s h H locs 0 → lv_has ls 5 [(0, .ref (gB G + v0)), (1, .ref (gB G + v1)), (2, .int v2), (3, .int v3)] → W p l e (rm_X8_strideOn) s m args below meth c H locs 0 0 (QI G below args s r h' 0 0) (F0 m 12 ls [])) : ∀ (n : Nat) (v0 : Nat) (v1 : Nat) (v2 : Int32) (v3 : Int32) (v4 : Int32) (h : Mem), f_X8_strideOn_46 N n v0 v1 v2 v3 v4 h k12 = some (r, h') → ∀ (H : Heap) (locs : List Loc) (ls : Array Slot), MS G s h H locs 0 → lv_has ls 5 [(0, .ref (gB G + v0)), (1, .ref (gB G + v1)), (2, .int v2), (3, .int v3), (4, .int v4)] → W p l e (rm_X8_strideOn) s m args below meth c H locs 0 0 (QI G below args s r h' 0 0) (F0 m 46 ls []) := by
  intro n
  induction n with
  | zero =>
    intro v0 v1 v2 v3 v4 h hf
    cases hf
  | succ n ih =>
    intro v0 v1 v2 v3 v4 h hf H locs ls M hl
    rw [f_X8_strideOn_46] at hf
    refine lv_iload X.1 X.2.1 dX8_strideOn_46 (lv_at hl 4 rfl) ?_
    refine lv_iload_n X.1 X.2.1 dX8_strideOn_48 rfl (lv_at hl 3 rfl) ?_
    refine lv_icmp_gt (tgt := 83) X.1 X.2.1 dX8_strideOn_49 (by decide) (fun c1 => ?_) (fun c1 => ?_)
    · have hf := ifp c1 hf
      refine lv_iinc (v := (v3 + 1)) (lv' := [(3, .int (v3 + 1)), (0, .ref (gB G + v0)), (1, .ref (gB G + v1)), (2, .int v2), (4, .int v4)]) X.1 X.2.1 dX8_strideOn_83 hl (k := 3) rfl (by first | rfl | decide) (by decide) rfl (fun ls hl => ?_)
      refine lv_goto (tgt := 12) X.1 X.2.1 dX8_strideOn_86 (by decide) ?_
      exact K12 v0 v1 v2 (v3 + 1) h hf _ _ _ M (lv_sub hl [1, 2, 3, 0] rfl)
    · have hf := ifn c1 hf
      refine lv_aload_n X.1 X.2.1 dX8_strideOn_52 rfl (lv_at hl 0 rfl) ?_
      obtain ⟨t2, q3, hf⟩ := bnd hf
      refine x_getr fl_X8_11 X M q3 dX8_strideOn_53 ?_
      refine lv_iload_n X.1 X.2.1 dX8_strideOn_56 rfl (lv_at hl 3 rfl) ?_
      refine lv_iload X.1 X.2.1 dX8_strideOn_57 (lv_at hl 4 rfl) ?_
      refine lv_isub X.1 X.2.1 dX8_strideOn_59 ?_
      obtain ⟨t4, q5, hf⟩ := bnd hf
      refine x_lald X M q5 dX8_strideOn_60 ?_
      refine lv_aload_n X.1 X.2.1 dX8_strideOn_61 rfl (lv_at hl 0 rfl) ?_
      obtain ⟨t6, q7, hf⟩ := bnd hf
      refine x_getr fl_X8_11 X M q7 dX8_strideOn_62 ?_
      refine lv_iload_n X.1 X.2.1 dX8_strideOn_65 rfl (lv_at hl 3 rfl) ?_
      obtain ⟨t8, q9, hf⟩ := bnd hf
      refine x_lald X M q9 dX8_strideOn_66 ?_
      refine W.lcmp X.1 X.2.1 dX8_strideOn_67 ?_
      refine lv_if_ne (tgt := 77) X.1 X.2.1 dX8_strideOn_68 (by decide) (fun c10 => ?_) (fun c10 => ?_)
      · have hf := ifn c10 hf
        refine lv_iinc (v := (v4 + 1)) (lv' := [(4, .int (v4 + 1)), (0, .ref (gB G + v0)), (1, .ref (gB G + v1)), (2, .int v2), (3, .int v3)]) X.1 X.2.1 dX8_strideOn_77 hl (k := 4) rfl (by first | rfl | decide) (by decide) rfl (fun ls hl => ?_)
        refine lv_goto (tgt := 46) X.1 X.2.1 dX8_strideOn_80 (by decide) ?_
        exact ih v0 v1 v2 v3 (v4 + 1) h hf _ _ _ M (lv_sub hl [1, 2, 3, 4, 0] rfl)
      · have hf := ifp c10 hf
        refine lv_bipush (v := (100 : Int32)) X.1 X.2.1 dX8_strideOn_71 (by decide) ?_
        refine lv_iload X.1 X.2.1 dX8_strideOn_73 (lv_at hl 4 rfl) ?_
        refine lv_iadd X.1 X.2.1 dX8_strideOn_75 ?_
        obtain ⟨rfl, rfl⟩ := rt2 hf
        exact x_iret X hr hk M dX8_strideOn_76
def f_X8_strideOn_12 (N : Nat) (n : Nat) (v0 : Nat) (v1 : Nat) (v2 : Int32) (v3 : Int32) (h : Mem) : Option (Int32 × Mem) := match n with
  | 0 => none
  | n + 1 =>
    if (20 : Int32) < v3 then
      some ((200 : Int32), h)
    else
      (ck h v0 8).bind fun _ =>
      b2 (f_X8_stride N v0 v1 v2 h) fun t5 h4 =>
      if t5 = (-6 : Int32) then
        some ((v3 - (1 : Int32)), h4)
      else
        (gR h4 v0 8 0).bind fun t7 =>
        (ck h4 v1 1).bind fun _ =>
        b2 (f_X1_imprint N v1 h4) fun t12 h11 =>
        (stJ h11 t7 v3 t12).bind fun h13 =>
        f_X8_strideOn_46 N N v0 v1 v2 v3 (1 : Int32) h13 (fun v0 v1 v2 v3 h => f_X8_strideOn_12 N n v0 v1 v2 v3 h)
set_option maxRecDepth 100000 in
set_option maxHeartbeats 4000000 in
theorem w_X8_strideOn_12 {p : Program} {l : Launch} {e : Env} {s : State} {m : MethodId} {args : Array Value} {below : List Frame} {meth : Method} {c : Code} {G : Gx} {r : Int32} {h' : Mem} (X : CX G p s m args c cX8_strideOn 5 RX8) (hr : meth.sig.returnType = (Option.some Jvm.ClassFile.FieldType.int)) (hk : meth.locks = false) (N : Nat) : ∀ (n : Nat) (v0 : Nat) (v1 : Nat) (v2 : Int32) (v3 : Int32) (h : Mem), f_X8_strideOn_12 N n v0 v1 v2 v3 h = some (r, h') → ∀ (H : Heap) (locs : List Loc) (ls : Array Slot), MS G s h H locs 0 → lv_has ls 5 [(0, .ref (gB G + v0)), (1, .ref (gB G + v1)), (2, .int v2), (3, .int v3)] → W p l e (rm_X8_strideOn) s m args below meth c H locs 0 0 (QI G below args s r h' 0 0) (F0 m 12 ls []) := by
  intro n
  induction n with
  | zero =>
    intro v0 v1 v2 v3 h hf
    cases hf
  | succ n ih =>
    intro v0 v1 v2 v3 h hf H locs ls M hl
    rw [f_X8_strideOn_12] at hf
    refine lv_iload_n X.1 X.2.1 dX8_strideOn_12 rfl (lv_at hl 3 rfl) ?_
    refine lv_bipush (v := (20 : Int32)) X.1 X.2.1 dX8_strideOn_13 (by decide) ?_
    refine lv_icmp_gt (tgt := 89) X.1 X.2.1 dX8_strideOn_15 (by decide) (fun c1 => ?_) (fun c1 => ?_)
    · have hf := ifp c1 hf
      refine lv_sipush (v := (200 : Int32)) X.1 X.2.1 dX8_strideOn_89 (by decide) ?_
      obtain ⟨rfl, rfl⟩ := rt2 hf
      exact x_iret X hr hk M dX8_strideOn_92
    · have hf := ifn c1 hf
      refine lv_aload_n X.1 X.2.1 dX8_strideOn_18 rfl (lv_at hl 0 rfl) ?_
      refine lv_aload_n X.1 X.2.1 dX8_strideOn_19 rfl (lv_at hl 1 rfl) ?_
      refine lv_iload_n X.1 X.2.1 dX8_strideOn_20 rfl (lv_at hl 2 rfl) ?_
      obtain ⟨⟨⟩, q2, hf⟩ := bnd hf
      obtain ⟨t5, h4, q3, hf⟩ := bnd2 hf
      refine x_callVi (As := [.ref (gB G + v1), .int v2]) cf_X8_39 (c_X8_stride l G N v0 v1 v2 h _ _ q3) rfl ⟨rfl, rfl, Nat.le_of_ble_eq_true rfl, Nat.le_of_ble_eq_true rfl⟩ ⟨Nat.le_of_ble_eq_true rfl, Nat.le_of_ble_eq_true rfl⟩ X M (x_recv cls_X8 X M q2) rfl rfl hl.1 (Nat.le_of_ble_eq_true rfl) dX8_strideOn_21 (fun H locs M => ?_)
      refine lv_bipush (v := (-6 : Int32)) X.1 X.2.1 dX8_strideOn_24 (by decide) ?_
      refine lv_icmp_ne (tgt := 33) X.1 X.2.1 dX8_strideOn_26 (by decide) (fun c6 => ?_) (fun c6 => ?_)
      · have hf := ifn c6 hf
        refine lv_aload_n X.1 X.2.1 dX8_strideOn_33 rfl (lv_at hl 0 rfl) ?_
        obtain ⟨t7, q8, hf⟩ := bnd hf
        refine x_getr fl_X8_11 X M q8 dX8_strideOn_34 ?_
        refine lv_iload_n X.1 X.2.1 dX8_strideOn_37 rfl (lv_at hl 3 rfl) ?_
        refine lv_aload_n X.1 X.2.1 dX8_strideOn_38 rfl (lv_at hl 1 rfl) ?_
        obtain ⟨⟨⟩, q9, hf⟩ := bnd hf
        obtain ⟨t12, h11, q10, hf⟩ := bnd2 hf
        refine x_callVl (As := []) cf_X8_35 (c_X1_imprint l G N v1 h4 _ _ q10) rfl ⟨rfl, rfl, Nat.le_of_ble_eq_true rfl, Nat.le_of_ble_eq_true rfl⟩ ⟨Nat.le_of_ble_eq_true rfl, Nat.le_of_ble_eq_true rfl⟩ X M (x_recv cls_X1 X M q9) rfl rfl hl.1 (Nat.le_of_ble_eq_true rfl) dX8_strideOn_39 (fun H locs M => ?_)
        obtain ⟨h13, q14, hf⟩ := bnd hf
        refine x_last X M q14 dX8_strideOn_42 (fun H locs M => ?_)
        refine lv_iconst (v := (1 : Int32)) X.1 X.2.1 dX8_strideOn_43 (by decide) ?_
        refine lv_istore (lv' := [(4, .int (1 : Int32)), (0, .ref (gB G + v0)), (1, .ref (gB G + v1)), (2, .int v2), (3, .int v3)]) X.1 X.2.1 dX8_strideOn_44 hl (by decide) rfl (fun ls hl => ?_)
        exact w_X8_strideOn_46 X hr hk N _ (fun v0 v1 v2 v3 h hf H locs ls M hl => ih v0 v1 v2 v3 h hf H locs ls M hl) N v0 v1 v2 v3 (1 : Int32) h13 hf _ _ _ M (lv_sub hl [1, 2, 3, 4, 0] rfl)
      · have hf := ifp c6 hf
        refine lv_iload_n X.1 X.2.1 dX8_strideOn_29 rfl (lv_at hl 3 rfl) ?_
        refine lv_iconst (v := (1 : Int32)) X.1 X.2.1 dX8_strideOn_30 (by decide) ?_
        refine lv_isub X.1 X.2.1 dX8_strideOn_31 ?_
        obtain ⟨rfl, rfl⟩ := rt2 hf
        exact x_iret X hr hk M dX8_strideOn_32
def f_X8_strideOn (N : Nat) (v0 : Nat) (v1 : Nat) (v2 : Int32) (h : Mem) : Option (Int32 × Mem) :=
  (gR h v0 8 0).bind fun t1 =>
  (ck h v1 1).bind fun _ =>
  b2 (f_X1_imprint N v1 h) fun t6 h5 =>
  (stJ h5 t1 (0 : Int32) t6).bind fun h7 =>
  f_X8_strideOn_12 N N v0 v1 v2 (1 : Int32) h7
set_option maxRecDepth 100000 in
set_option maxHeartbeats 4000000 in
theorem w_X8_strideOn {p : Program} {l : Launch} {e : Env} {s : State} {m : MethodId} {args : Array Value} {below : List Frame} {meth : Method} {c : Code} {G : Gx} {r : Int32} {h' : Mem} (X : CX G p s m args c cX8_strideOn 5 RX8) (hr : meth.sig.returnType = (Option.some Jvm.ClassFile.FieldType.int)) (hk : meth.locks = false) (N : Nat) : ∀ (v0 : Nat) (v1 : Nat) (v2 : Int32) (h : Mem), f_X8_strideOn N v0 v1 v2 h = some (r, h') → ∀ (H : Heap) (locs : List Loc) (ls : Array Slot), MS G s h H locs 0 → lv_has ls 5 [(0, .ref (gB G + v0)), (1, .ref (gB G + v1)), (2, .int v2)] → W p l e (rm_X8_strideOn) s m args below meth c H locs 0 0 (QI G below args s r h' 0 0) (F0 m 0 ls []) := by
  intro v0 v1 v2 h hf H locs ls M hl
  rw [f_X8_strideOn] at hf
  refine lv_aload_n X.1 X.2.1 dX8_strideOn_0 rfl (lv_at hl 0 rfl) ?_
  obtain ⟨t1, q2, hf⟩ := bnd hf
  refine x_getr fl_X8_11 X M q2 dX8_strideOn_1 ?_
  refine lv_iconst (v := (0 : Int32)) X.1 X.2.1 dX8_strideOn_4 (by decide) ?_
  refine lv_aload_n X.1 X.2.1 dX8_strideOn_5 rfl (lv_at hl 1 rfl) ?_
  obtain ⟨⟨⟩, q3, hf⟩ := bnd hf
  obtain ⟨t6, h5, q4, hf⟩ := bnd2 hf
  refine x_callVl (As := []) cf_X8_35 (c_X1_imprint l G N v1 h _ _ q4) rfl ⟨rfl, rfl, Nat.le_of_ble_eq_true rfl, Nat.le_of_ble_eq_true rfl⟩ ⟨Nat.le_of_ble_eq_true rfl, Nat.le_of_ble_eq_true rfl⟩ X M (x_recv cls_X1 X M q3) rfl rfl hl.1 (Nat.le_of_ble_eq_true rfl) dX8_strideOn_6 (fun H locs M => ?_)
  obtain ⟨h7, q8, hf⟩ := bnd hf
  refine x_last X M q8 dX8_strideOn_9 (fun H locs M => ?_)
  refine lv_iconst (v := (1 : Int32)) X.1 X.2.1 dX8_strideOn_10 (by decide) ?_
  refine lv_istore_n (lv' := [(3, .int (1 : Int32)), (0, .ref (gB G + v0)), (1, .ref (gB G + v1)), (2, .int v2)]) X.1 X.2.1 dX8_strideOn_11 rfl hl (by decide) rfl (fun ls hl => ?_)
  exact w_X8_strideOn_12 X hr hk N N v0 v1 v2 (1 : Int32) h7 hf _ _ _ M (lv_sub hl [1, 2, 3, 0] rfl)
theorem c_X8_strideOn (l : Launch) (G : Gx) (N : Nat) (v0 : Nat) (v1 : Nat) (v2 : Int32) (h : Mem) (r : Int32) (h' : Mem) (hf : f_X8_strideOn N v0 v1 v2 h = some (r, h')) : MetG l G yX8_strideOn (.code yX8_strideOn cX8_strideOn 5 (Option.some Jvm.ClassFile.FieldType.int)) rm_X8_strideOn [.ref (gB G + v0), .ref (gB G + v1), .int v2] h (QcI G r h') 0 0 :=
  x_met (by decide) rfl (Nat.le_of_ble_eq_true rfl) (fun p e s m args below meth c ls X M hr hk hin hl => w_X8_strideOn X hr hk N v0 v1 v2 h hf _ _ ls M hl)
