abbrev rm_X5_init : Room := { frames := 1, cells := 1, slots := 120, locals := 40 }
def f_X5_init (N : Nat) (v0 : Nat) (h : Mem) : Option Mem :=
  (sR (al h (101, 120)) v0 5 0 h.1.length).bind fun h1 =>
  some h1
set_option maxRecDepth 100000 in
set_option maxHeartbeats 4000000 in
theorem w_X5_init {p : Program} {l : Launch} {e : Env} {s : State} {m : MethodId} {args : Array Value} {below : List Frame} {meth : Method} {c : Code} {G : Gx} {h' : Mem} {L : Nat} (X : CX G p s m args c cX5_init 1 RX5) (hr : meth.sig.returnType = (Option.none : Option Jvm.ClassFile.FieldType)) (hk : meth.locks = false) (hL : s.heap.size + 1 = gB G + L) (hin : meth.name = "<init>") (N : Nat) : ∀ (v0 : Nat) (h : Mem), f_X5_init N v0 h = some h' → ∀ (H : Heap) (locs : List Loc) (ls : Array Slot), MS G s h H locs 0 → lv_has ls 1 [(0, .ref (gB G + v0))] → W p l e (rm_X5_init) s m args below meth c H locs 0 0 (QV G below args s h' L 1 120) (F0 m 0 ls []) := by
  intro v0 h hf H locs ls M hl
  rw [f_X5_init] at hf
  refine lv_aload_n X.1 X.2.1 dX5_init_0 rfl (lv_at hl 0 rfl) ?_
  refine x_obj k_154 k_27 k_28 X hl.1 dX5_init_1 (Nat.le_of_ble_eq_true rfl) (Nat.le_of_ble_eq_true rfl) ?_
  refine lv_aload_n X.1 X.2.1 dX5_init_4 rfl (lv_at hl 0 rfl) ?_
  refine lv_bipush (v := (120 : Int32)) X.1 X.2.1 dX5_init_5 (by decide) ?_
  refine x_newC (N := 120) k_166 (by decide) (by decide) (by decide) X M ⟨Nat.le_of_ble_eq_true rfl, Nat.le_of_ble_eq_true rfl⟩ dX5_init_7 (fun H locs M => ?_)
  obtain ⟨h1, q2, hf⟩ := bnd hf
  refine x_putrF fl_X5_11 fp_X5_11.1 hin rfl fp_X5_11.2 (fun _ => rfl) (fun _ => rfl) X M q2 dX5_init_9 (fun H locs M => ?_)
  obtain rfl := rt1 hf
  exact x_vret X hr hk M hL dX5_init_12
theorem c_X5_init (l : Launch) (G : Gx) (N : Nat) (v0 : Nat) (h : Mem) (h' : Mem) (hf : f_X5_init N v0 h = some h') : MetG l G yX5_init (.code yX5_init cX5_init 1 (Option.none : Option Jvm.ClassFile.FieldType)) rm_X5_init [.ref (gB G + v0)] h (QcV G h' (h.1.length + 1)) 1 120 :=
  x_met (by decide) rfl (Nat.le_of_ble_eq_true rfl) (fun p e s m args below meth c ls X M hr hk hin hl => w_X5_init X hr hk (by have := M.2.2; omega) hin N v0 h hf _ _ ls M hl)
abbrev rm_X5_append : Room := { frames := 1, cells := 0, slots := 0, locals := 40 }
def f_X5_append (N : Nat) (v0 : Nat) (v1 : Int32) (h : Mem) : Option Mem :=
  (gI h v0 5 1).bind fun t1 =>
  if (120 : Int32) ≤ t1 then
    some h
  else
    (gR h v0 5 0).bind fun t4 =>
    (gI h v0 5 1).bind fun t6 =>
    (sI h v0 5 1 (t6 + (1 : Int32))).bind fun h8 =>
    (stI 101 h8 t4 t6 (vp_nar .char v1)).bind fun h10 =>
    some h10
set_option maxRecDepth 100000 in
set_option maxHeartbeats 4000000 in
theorem w_X5_append {p : Program} {l : Launch} {e : Env} {s : State} {m : MethodId} {args : Array Value} {below : List Frame} {meth : Method} {c : Code} {G : Gx} {h' : Mem} {L : Nat} (X : CX G p s m args c cX5_append 2 RX5) (hr : meth.sig.returnType = (Option.none : Option Jvm.ClassFile.FieldType)) (hk : meth.locks = false) (hL : s.heap.size + 0 = gB G + L) (N : Nat) : ∀ (v0 : Nat) (v1 : Int32) (h : Mem), f_X5_append N v0 v1 h = some h' → ∀ (H : Heap) (locs : List Loc) (ls : Array Slot), MS G s h H locs 0 → lv_has ls 2 [(0, .ref (gB G + v0)), (1, .int v1)] → W p l e (rm_X5_append) s m args below meth c H locs 0 0 (QV G below args s h' L 0 0) (F0 m 0 ls []) := by
  intro v0 v1 h hf H locs ls M hl
  rw [f_X5_append] at hf
  refine lv_aload_n X.1 X.2.1 dX5_append_0 rfl (lv_at hl 0 rfl) ?_
  obtain ⟨t1, q2, hf⟩ := bnd hf
  refine x_geti fl_X5_15 X M q2 dX5_append_1 ?_
  refine lv_bipush (v := (120 : Int32)) X.1 X.2.1 dX5_append_4 (by decide) ?_
  refine lv_icmp_ge (tgt := 26) X.1 X.2.1 dX5_append_6 (by decide) (fun c3 => ?_) (fun c3 => ?_)
  · have hf := ifp c3 hf
    obtain rfl := rt1 hf
    exact x_vret X hr hk M hL dX5_append_26
  · have hf := ifn c3 hf
    refine lv_aload_n X.1 X.2.1 dX5_append_9 rfl (lv_at hl 0 rfl) ?_
    obtain ⟨t4, q5, hf⟩ := bnd hf
    refine x_getr fl_X5_11 X M q5 dX5_append_10 ?_
    refine lv_aload_n X.1 X.2.1 dX5_append_13 rfl (lv_at hl 0 rfl) ?_
    refine lv_dup X.1 X.2.1 dX5_append_14 rfl ?_
    obtain ⟨t6, q7, hf⟩ := bnd hf
    refine x_geti fl_X5_15 X M q7 dX5_append_15 ?_
    refine lv_dup_x1 X.1 X.2.1 dX5_append_18 rfl rfl ?_
    refine lv_iconst (v := (1 : Int32)) X.1 X.2.1 dX5_append_19 (by decide) ?_
    refine lv_iadd X.1 X.2.1 dX5_append_20 ?_
    obtain ⟨h8, q9, hf⟩ := bnd hf
    refine x_puti fl_X5_15 fp_X5_15.1 fp_X5_15.2 X M q9 dX5_append_21 (fun H locs M => ?_)
    refine lv_iload_n X.1 X.2.1 dX5_append_24 rfl (lv_at hl 1 rfl) ?_
    obtain ⟨h10, q11, hf⟩ := bnd hf
    refine x_cast X M q11 dX5_append_25 (fun H locs M => ?_)
    obtain rfl := rt1 hf
    exact x_vret X hr hk M hL dX5_append_26
theorem c_X5_append (l : Launch) (G : Gx) (N : Nat) (v0 : Nat) (v1 : Int32) (h : Mem) (h' : Mem) (hf : f_X5_append N v0 v1 h = some h') : MetG l G yX5_append (.code yX5_append cX5_append 2 (Option.none : Option Jvm.ClassFile.FieldType)) rm_X5_append [.ref (gB G + v0), .int v1] h (QcV G h' (h.1.length + 0)) 0 0 :=
  x_met (by decide) rfl (Nat.le_of_ble_eq_true rfl) (fun p e s m args below meth c ls X M hr hk hin hl => w_X5_append X hr hk (by have := M.2.2; omega) N v0 v1 h hf _ _ ls M hl)
abbrev rm_X5_met : Room := { frames := 1, cells := 0, slots := 0, locals := 40 }
def f_X5_met (N : Nat) (v0 : Nat) (v1 : Int32) (h : Mem) : Option (Int32 × Mem) :=
  (gI h v0 5 2).bind fun t1 =>
  (gI h v0 5 1).bind fun t3 =>
  if t3 ≤ t1 then
    some ((0 : Int32), h)
  else
    (gR h v0 5 0).bind fun t6 =>
    (gI h v0 5 2).bind fun t8 =>
    (lI 101 h t6 t8).bind fun t10 =>
    if t10 = v1 then
      (gI h v0 5 2).bind fun t13 =>
      (sI h v0 5 2 (t13 + (1 : Int32))).bind fun h15 =>
      some ((1 : Int32), h15)
    else
      some ((0 : Int32), h)
set_option maxRecDepth 100000 in
set_option maxHeartbeats 4000000 in
theorem w_X5_met {p : Program} {l : Launch} {e : Env} {s : State} {m : MethodId} {args : Array Value} {below : List Frame} {meth : Method} {c : Code} {G : Gx} {r : Int32} {h' : Mem} (X : CX G p s m args c cX5_met 2 RX5) (hr : meth.sig.returnType = (Option.some Jvm.ClassFile.FieldType.boolean)) (hk : meth.locks = false) (N : Nat) : ∀ (v0 : Nat) (v1 : Int32) (h : Mem), f_X5_met N v0 v1 h = some (r, h') → ∀ (H : Heap) (locs : List Loc) (ls : Array Slot), MS G s h H locs 0 → lv_has ls 2 [(0, .ref (gB G + v0)), (1, .int v1)] → W p l e (rm_X5_met) s m args below meth c H locs 0 0 (QI G below args s r h' 0 0) (F0 m 0 ls []) := by
  intro v0 v1 h hf H locs ls M hl
  rw [f_X5_met] at hf
  refine lv_aload_n X.1 X.2.1 dX5_met_0 rfl (lv_at hl 0 rfl) ?_
  obtain ⟨t1, q2, hf⟩ := bnd hf
  refine x_geti fl_X5_24 X M q2 dX5_met_1 ?_
  refine lv_aload_n X.1 X.2.1 dX5_met_4 rfl (lv_at hl 0 rfl) ?_
  obtain ⟨t3, q4, hf⟩ := bnd hf
  refine x_geti fl_X5_15 X M q4 dX5_met_5 ?_
  refine lv_icmp_ge (tgt := 36) X.1 X.2.1 dX5_met_8 (by decide) (fun c5 => ?_) (fun c5 => ?_)
  · have hf := ifp c5 hf
    refine lv_iconst (v := (0 : Int32)) X.1 X.2.1 dX5_met_36 (by decide) ?_
    obtain ⟨rfl, rfl⟩ := rt2 hf
    exact x_zret X hr hk rfl M dX5_met_37
  · have hf := ifn c5 hf
    refine lv_aload_n X.1 X.2.1 dX5_met_11 rfl (lv_at hl 0 rfl) ?_
    obtain ⟨t6, q7, hf⟩ := bnd hf
    refine x_getr fl_X5_11 X M q7 dX5_met_12 ?_
    refine lv_aload_n X.1 X.2.1 dX5_met_15 rfl (lv_at hl 0 rfl) ?_
    obtain ⟨t8, q9, hf⟩ := bnd hf
    refine x_geti fl_X5_24 X M q9 dX5_met_16 ?_
    obtain ⟨t10, q11, hf⟩ := bnd hf
    refine x_cald X M q11 dX5_met_19 ?_
    refine lv_iload_n X.1 X.2.1 dX5_met_20 rfl (lv_at hl 1 rfl) ?_
    refine lv_icmp_ne (tgt := 36) X.1 X.2.1 dX5_met_21 (by decide) (fun c12 => ?_) (fun c12 => ?_)
    · have hf := ifn c12 hf
      refine lv_iconst (v := (0 : Int32)) X.1 X.2.1 dX5_met_36 (by decide) ?_
      obtain ⟨rfl, rfl⟩ := rt2 hf
      exact x_zret X hr hk rfl M dX5_met_37
    · have hf := ifp c12 hf
      refine lv_aload_n X.1 X.2.1 dX5_met_24 rfl (lv_at hl 0 rfl) ?_
      refine lv_dup X.1 X.2.1 dX5_met_25 rfl ?_
      obtain ⟨t13, q14, hf⟩ := bnd hf
      refine x_geti fl_X5_24 X M q14 dX5_met_26 ?_
      refine lv_iconst (v := (1 : Int32)) X.1 X.2.1 dX5_met_29 (by decide) ?_
      refine lv_iadd X.1 X.2.1 dX5_met_30 ?_
      obtain ⟨h15, q16, hf⟩ := bnd hf
      refine x_puti fl_X5_24 fp_X5_24.1 fp_X5_24.2 X M q16 dX5_met_31 (fun H locs M => ?_)
      refine lv_iconst (v := (1 : Int32)) X.1 X.2.1 dX5_met_34 (by decide) ?_
      obtain ⟨rfl, rfl⟩ := rt2 hf
      exact x_zret X hr hk rfl M dX5_met_35
theorem c_X5_met (l : Launch) (G : Gx) (N : Nat) (v0 : Nat) (v1 : Int32) (h : Mem) (r : Int32) (h' : Mem) (hf : f_X5_met N v0 v1 h = some (r, h')) : MetG l G yX5_met (.code yX5_met cX5_met 2 (Option.some Jvm.ClassFile.FieldType.boolean)) rm_X5_met [.ref (gB G + v0), .int v1] h (QcI G r h') 0 0 :=
  x_met (by decide) rfl (Nat.le_of_ble_eq_true rfl) (fun p e s m args below meth c ls X M hr hk hin hl => w_X5_met X hr hk N v0 v1 h hf _ _ ls M hl)
abbrev rm_X5_word : Room := { frames := 5, cells := 0, slots := 0, locals := 125 }
def f_X5_word_33 (N : Nat) (n : Nat) (v0 : Nat) (v1 : Int32) (v2 : Int32) (h : Mem) : Option (Int32 × Mem) := match n with
  | 0 => none
  | n + 1 =>
    if (4 : Int32) ≤ v2 then
      some (v1, h)
    else
      (sV 0).bind fun t3 =>
      b2 (f_J0_charAt_5068e N 0 ((v1 * (4 : Int32)) + v2) h) fun t6 h5 =>
      (ck h5 v0 5).bind fun _ =>
      b2 (f_X5_met N v0 t6 h5) fun t10 h9 =>
      if t10 = 0 then
        some ((-1 : Int32), h9)
      else
        f_X5_word_33 N n v0 v1 (v2 + 1) h9
set_option maxRecDepth 100000 in
set_option maxHeartbeats 4000000 in
theorem w_X5_word_33 {p : Program} {l : Launch} {e : Env} {s : State} {m : MethodId} {args : Array Value} {below : List Frame} {meth : Method} {c : Code} {G : Gx} {r : Int32} {h' : Mem} (X : CX G p s m args c cX5_word 3 RX5) (hr : meth.sig.returnType = (Option.some Jvm.ClassFile.FieldType.int)) (hk : meth.locks = false) (N : Nat) : ∀ (n : Nat) (v0 : Nat) (v1 : Int32) (v2 : Int32) (h : Mem), f_X5_word_33 N n v0 v1 v2 h = some (r, h') → ∀ (H : Heap) (locs : List Loc) (ls : Array Slot), MS G s h H locs 0 → lv_has ls 3 [(0, .ref (gB G + v0)), (1, .int v1), (2, .int v2)] → W p l e (rm_X5_word) s m args below meth c H locs 0 0 (QI G below args s r h' 0 0) (F0 m 33 ls []) := by
  intro n
  induction n with
  | zero =>
    intro v0 v1 v2 h hf
    cases hf
  | succ n ih =>
    intro v0 v1 v2 h hf H locs ls M hl
    rw [f_X5_word_33] at hf
    refine lv_iload_n X.1 X.2.1 dX5_word_33 rfl (lv_at hl 2 rfl) ?_
    refine lv_iconst (v := (4 : Int32)) X.1 X.2.1 dX5_word_34 (by decide) ?_
    refine lv_icmp_ge (tgt := 63) X.1 X.2.1 dX5_word_35 (by decide) (fun c1 => ?_) (fun c1 => ?_)
    · have hf := ifp c1 hf
      refine lv_iload_n X.1 X.2.1 dX5_word_63 rfl (lv_at hl 1 rfl) ?_
      obtain ⟨rfl, rfl⟩ := rt2 hf
      exact x_iret X hr hk M dX5_word_64
    · have hf := ifn c1 hf
      refine lv_aload_n X.1 X.2.1 dX5_word_38 rfl (lv_at hl 0 rfl) ?_
      refine x_ldcs (i := 0) rfl rfl X dX5_word_39 ?_
      refine lv_iload_n X.1 X.2.1 dX5_word_41 rfl (lv_at hl 1 rfl) ?_
      refine lv_iconst (v := (4 : Int32)) X.1 X.2.1 dX5_word_42 (by decide) ?_
      refine lv_imul X.1 X.2.1 dX5_word_43 ?_
      refine lv_iload_n X.1 X.2.1 dX5_word_44 rfl (lv_at hl 2 rfl) ?_
      refine lv_iadd X.1 X.2.1 dX5_word_45 ?_
      obtain ⟨t3, q2, hf⟩ := bnd hf
      obtain ⟨t6, h5, q4, hf⟩ := bnd2 hf
      refine x_callVi (As := [.int ((v1 * (4 : Int32)) + v2)]) cf_X5_90 (c_J0_charAt_5068e l G N 0 ((v1 * (4 : Int32)) + v2) h _ _ q4) rfl ⟨rfl, rfl, Nat.le_of_ble_eq_true rfl, Nat.le_of_ble_eq_true rfl⟩ ⟨Nat.le_of_ble_eq_true rfl, Nat.le_of_ble_eq_true rfl⟩ X M (x_recS X M q2) rfl rfl hl.1 (Nat.le_of_ble_eq_true rfl) dX5_word_46 (fun H locs M => ?_)
      obtain ⟨⟨⟩, q7, hf⟩ := bnd hf
      obtain ⟨t10, h9, q8, hf⟩ := bnd2 hf
      refine x_callVi (As := [.int t6]) cf_X5_31 (c_X5_met l G N v0 t6 h5 _ _ q8) rfl ⟨rfl, rfl, Nat.le_of_ble_eq_true rfl, Nat.le_of_ble_eq_true rfl⟩ ⟨Nat.le_of_ble_eq_true rfl, Nat.le_of_ble_eq_true rfl⟩ X M (x_recv cls_X5 X M q7) rfl rfl hl.1 (Nat.le_of_ble_eq_true rfl) dX5_word_49 (fun H locs M => ?_)
      refine lv_if_ne (tgt := 57) X.1 X.2.1 dX5_word_52 (by decide) (fun c11 => ?_) (fun c11 => ?_)
      · have hf := ifn c11 hf
        refine lv_iinc (v := (v2 + 1)) (lv' := [(2, .int (v2 + 1)), (0, .ref (gB G + v0)), (1, .int v1)]) X.1 X.2.1 dX5_word_57 hl (k := 2) rfl (by first | rfl | decide) (by decide) rfl (fun ls hl => ?_)
        refine lv_goto (tgt := 33) X.1 X.2.1 dX5_word_60 (by decide) ?_
        exact ih v0 v1 (v2 + 1) h9 hf _ _ _ M (lv_sub hl [1, 2, 0] rfl)
      · have hf := ifp c11 hf
        refine lv_iconst (v := (-1 : Int32)) X.1 X.2.1 dX5_word_55 (by decide) ?_
        obtain ⟨rfl, rfl⟩ := rt2 hf
        exact x_iret X hr hk M dX5_word_56
def f_X5_word_2 (N : Nat) (n : Nat) (v0 : Nat) (v1 : Int32) (h : Mem) : Option (Int32 × Mem) := match n with
  | 0 => none
  | n + 1 =>
    (sV 0).bind fun t2 =>
    b2 (f_J0_length_8abf5 N 0 h) fun t5 h4 =>
    if t5 ≤ (v1 * (4 : Int32)) then
      some ((-1 : Int32), h4)
    else
      (sV 0).bind fun t8 =>
      b2 (f_J0_charAt_5068e N 0 (v1 * (4 : Int32)) h4) fun t11 h10 =>
      (ck h10 v0 5).bind fun _ =>
      b2 (f_X5_met N v0 t11 h10) fun t15 h14 =>
      if t15 = 0 then
        f_X5_word_2 N n v0 (v1 + 1) h14
      else
        f_X5_word_33 N N v0 v1 (1 : Int32) h14
set_option maxRecDepth 100000 in
set_option maxHeartbeats 4000000 in
theorem w_X5_word_2 {p : Program} {l : Launch} {e : Env} {s : State} {m : MethodId} {args : Array Value} {below : List Frame} {meth : Method} {c : Code} {G : Gx} {r : Int32} {h' : Mem} (X : CX G p s m args c cX5_word 3 RX5) (hr : meth.sig.returnType = (Option.some Jvm.ClassFile.FieldType.int)) (hk : meth.locks = false) (N : Nat) : ∀ (n : Nat) (v0 : Nat) (v1 : Int32) (h : Mem), f_X5_word_2 N n v0 v1 h = some (r, h') → ∀ (H : Heap) (locs : List Loc) (ls : Array Slot), MS G s h H locs 0 → lv_has ls 3 [(0, .ref (gB G + v0)), (1, .int v1)] → W p l e (rm_X5_word) s m args below meth c H locs 0 0 (QI G below args s r h' 0 0) (F0 m 2 ls []) := by
  intro n
  induction n with
  | zero =>
    intro v0 v1 h hf
    cases hf
  | succ n ih =>
    intro v0 v1 h hf H locs ls M hl
    rw [f_X5_word_2] at hf
    refine lv_iload_n X.1 X.2.1 dX5_word_2 rfl (lv_at hl 1 rfl) ?_
    refine lv_iconst (v := (4 : Int32)) X.1 X.2.1 dX5_word_3 (by decide) ?_
    refine lv_imul X.1 X.2.1 dX5_word_4 ?_
    refine x_ldcs (i := 0) rfl rfl X dX5_word_5 ?_
    obtain ⟨t2, q1, hf⟩ := bnd hf
    obtain ⟨t5, h4, q3, hf⟩ := bnd2 hf
    refine x_callVi (As := []) cf_X5_86 (c_J0_length_8abf5 l G N 0 h _ _ q3) rfl ⟨rfl, rfl, Nat.le_of_ble_eq_true rfl, Nat.le_of_ble_eq_true rfl⟩ ⟨Nat.le_of_ble_eq_true rfl, Nat.le_of_ble_eq_true rfl⟩ X M (x_recS X M q1) rfl rfl hl.1 (Nat.le_of_ble_eq_true rfl) dX5_word_7 (fun H locs M => ?_)
    refine lv_icmp_ge (tgt := 71) X.1 X.2.1 dX5_word_10 (by decide) (fun c6 => ?_) (fun c6 => ?_)
    · have hf := ifp c6 hf
      refine lv_iconst (v := (-1 : Int32)) X.1 X.2.1 dX5_word_71 (by decide) ?_
      obtain ⟨rfl, rfl⟩ := rt2 hf
      exact x_iret X hr hk M dX5_word_72
    · have hf := ifn c6 hf
      refine lv_aload_n X.1 X.2.1 dX5_word_13 rfl (lv_at hl 0 rfl) ?_
      refine x_ldcs (i := 0) rfl rfl X dX5_word_14 ?_
      refine lv_iload_n X.1 X.2.1 dX5_word_16 rfl (lv_at hl 1 rfl) ?_
      refine lv_iconst (v := (4 : Int32)) X.1 X.2.1 dX5_word_17 (by decide) ?_
      refine lv_imul X.1 X.2.1 dX5_word_18 ?_
      obtain ⟨t8, q7, hf⟩ := bnd hf
      obtain ⟨t11, h10, q9, hf⟩ := bnd2 hf
      refine x_callVi (As := [.int (v1 * (4 : Int32))]) cf_X5_90 (c_J0_charAt_5068e l G N 0 (v1 * (4 : Int32)) h4 _ _ q9) rfl ⟨rfl, rfl, Nat.le_of_ble_eq_true rfl, Nat.le_of_ble_eq_true rfl⟩ ⟨Nat.le_of_ble_eq_true rfl, Nat.le_of_ble_eq_true rfl⟩ X M (x_recS X M q7) rfl rfl hl.1 (Nat.le_of_ble_eq_true rfl) dX5_word_19 (fun H locs M => ?_)
      obtain ⟨⟨⟩, q12, hf⟩ := bnd hf
      obtain ⟨t15, h14, q13, hf⟩ := bnd2 hf
      refine x_callVi (As := [.int t11]) cf_X5_31 (c_X5_met l G N v0 t11 h10 _ _ q13) rfl ⟨rfl, rfl, Nat.le_of_ble_eq_true rfl, Nat.le_of_ble_eq_true rfl⟩ ⟨Nat.le_of_ble_eq_true rfl, Nat.le_of_ble_eq_true rfl⟩ X M (x_recv cls_X5 X M q12) rfl rfl hl.1 (Nat.le_of_ble_eq_true rfl) dX5_word_22 (fun H locs M => ?_)
      refine lv_if_ne (tgt := 31) X.1 X.2.1 dX5_word_25 (by decide) (fun c16 => ?_) (fun c16 => ?_)
      · have hf := ifn c16 hf
        refine lv_iconst (v := (1 : Int32)) X.1 X.2.1 dX5_word_31 (by decide) ?_
        refine lv_istore_n (lv' := [(2, .int (1 : Int32)), (0, .ref (gB G + v0)), (1, .int v1)]) X.1 X.2.1 dX5_word_32 rfl hl (by decide) rfl (fun ls hl => ?_)
        exact w_X5_word_33 X hr hk N N v0 v1 (1 : Int32) h14 hf _ _ _ M (lv_sub hl [1, 2, 0] rfl)
      · have hf := ifp c16 hf
        refine lv_goto (tgt := 65) X.1 X.2.1 dX5_word_28 (by decide) ?_
        refine lv_iinc (v := (v1 + 1)) (lv' := [(1, .int (v1 + 1)), (0, .ref (gB G + v0))]) X.1 X.2.1 dX5_word_65 hl (k := 1) rfl (by first | rfl | decide) (by decide) rfl (fun ls hl => ?_)
        refine lv_goto (tgt := 2) X.1 X.2.1 dX5_word_68 (by decide) ?_
        exact ih v0 (v1 + 1) h14 hf _ _ _ M (lv_sub hl [1, 0] rfl)
def f_X5_word (N : Nat) (v0 : Nat) (h : Mem) : Option (Int32 × Mem) :=
  f_X5_word_2 N N v0 (0 : Int32) h
set_option maxRecDepth 100000 in
set_option maxHeartbeats 4000000 in
theorem w_X5_word {p : Program} {l : Launch} {e : Env} {s : State} {m : MethodId} {args : Array Value} {below : List Frame} {meth : Method} {c : Code} {G : Gx} {r : Int32} {h' : Mem} (X : CX G p s m args c cX5_word 3 RX5) (hr : meth.sig.returnType = (Option.some Jvm.ClassFile.FieldType.int)) (hk : meth.locks = false) (N : Nat) : ∀ (v0 : Nat) (h : Mem), f_X5_word N v0 h = some (r, h') → ∀ (H : Heap) (locs : List Loc) (ls : Array Slot), MS G s h H locs 0 → lv_has ls 3 [(0, .ref (gB G + v0))] → W p l e (rm_X5_word) s m args below meth c H locs 0 0 (QI G below args s r h' 0 0) (F0 m 0 ls []) := by
  intro v0 h hf H locs ls M hl
  rw [f_X5_word] at hf
  refine lv_iconst (v := (0 : Int32)) X.1 X.2.1 dX5_word_0 (by decide) ?_
  refine lv_istore_n (lv' := [(1, .int (0 : Int32)), (0, .ref (gB G + v0))]) X.1 X.2.1 dX5_word_1 rfl hl (by decide) rfl (fun ls hl => ?_)
  exact w_X5_word_2 X hr hk N N v0 (0 : Int32) h hf _ _ _ M (lv_sub hl [1, 0] rfl)
theorem c_X5_word (l : Launch) (G : Gx) (N : Nat) (v0 : Nat) (h : Mem) (r : Int32) (h' : Mem) (hf : f_X5_word N v0 h = some (r, h')) : MetG l G yX5_word (.code yX5_word cX5_word 3 (Option.some Jvm.ClassFile.FieldType.int)) rm_X5_word [.ref (gB G + v0)] h (QcI G r h') 0 0 :=
  x_met (by decide) rfl (Nat.le_of_ble_eq_true rfl) (fun p e s m args below meth c ls X M hr hk hin hl => w_X5_word X hr hk N v0 h hf _ _ ls M hl)
abbrev rm_X5_figure : Room := { frames := 1, cells := 0, slots := 0, locals := 40 }
def f_X5_figure (N : Nat) (v0 : Nat) (v1 : Int32) (h : Mem) : Option (Int32 × Mem) :=
  (gI h v0 5 2).bind fun t1 =>
  (gI h v0 5 1).bind fun t3 =>
  if t3 ≤ t1 then
    some ((-1 : Int32), h)
  else
    (gR h v0 5 0).bind fun t6 =>
    (gI h v0 5 2).bind fun t8 =>
    (lI 101 h t6 t8).bind fun t10 =>
    if t10 < (48 : Int32) then
      some ((-1 : Int32), h)
    else
      (gR h v0 5 0).bind fun t13 =>
      (gI h v0 5 2).bind fun t15 =>
      (lI 101 h t13 t15).bind fun t17 =>
      if ((48 : Int32) + v1) < t17 then
        some ((-1 : Int32), h)
      else
        (gR h v0 5 0).bind fun t20 =>
        (gI h v0 5 2).bind fun t22 =>
        (sI h v0 5 2 (t22 + (1 : Int32))).bind fun h24 =>
        (lI 101 h24 t20 t22).bind fun t26 =>
        some ((t26 - (48 : Int32)), h24)
set_option maxRecDepth 100000 in
set_option maxHeartbeats 4000000 in
theorem w_X5_figure {p : Program} {l : Launch} {e : Env} {s : State} {m : MethodId} {args : Array Value} {below : List Frame} {meth : Method} {c : Code} {G : Gx} {r : Int32} {h' : Mem} (X : CX G p s m args c cX5_figure 2 RX5) (hr : meth.sig.returnType = (Option.some Jvm.ClassFile.FieldType.int)) (hk : meth.locks = false) (N : Nat) : ∀ (v0 : Nat) (v1 : Int32) (h : Mem), f_X5_figure N v0 v1 h = some (r, h') → ∀ (H : Heap) (locs : List Loc) (ls : Array Slot), MS G s h H locs 0 → lv_has ls 2 [(0, .ref (gB G + v0)), (1, .int v1)] → W p l e (rm_X5_figure) s m args below meth c H locs 0 0 (QI G below args s r h' 0 0) (F0 m 0 ls []) := by
  intro v0 v1 h hf H locs ls M hl
  rw [f_X5_figure] at hf
  refine lv_aload_n X.1 X.2.1 dX5_figure_0 rfl (lv_at hl 0 rfl) ?_
  obtain ⟨t1, q2, hf⟩ := bnd hf
  refine x_geti fl_X5_24 X M q2 dX5_figure_1 ?_
  refine lv_aload_n X.1 X.2.1 dX5_figure_4 rfl (lv_at hl 0 rfl) ?_
  obtain ⟨t3, q4, hf⟩ := bnd hf
  refine x_geti fl_X5_15 X M q4 dX5_figure_5 ?_
  refine lv_icmp_ge (tgt := 61) X.1 X.2.1 dX5_figure_8 (by decide) (fun c5 => ?_) (fun c5 => ?_)
  · have hf := ifp c5 hf
    refine lv_iconst (v := (-1 : Int32)) X.1 X.2.1 dX5_figure_61 (by decide) ?_
    obtain ⟨rfl, rfl⟩ := rt2 hf
    exact x_iret X hr hk M dX5_figure_62
  · have hf := ifn c5 hf
    refine lv_aload_n X.1 X.2.1 dX5_figure_11 rfl (lv_at hl 0 rfl) ?_
    obtain ⟨t6, q7, hf⟩ := bnd hf
    refine x_getr fl_X5_11 X M q7 dX5_figure_12 ?_
    refine lv_aload_n X.1 X.2.1 dX5_figure_15 rfl (lv_at hl 0 rfl) ?_
    obtain ⟨t8, q9, hf⟩ := bnd hf
    refine x_geti fl_X5_24 X M q9 dX5_figure_16 ?_
    obtain ⟨t10, q11, hf⟩ := bnd hf
    refine x_cald X M q11 dX5_figure_19 ?_
    refine lv_bipush (v := (48 : Int32)) X.1 X.2.1 dX5_figure_20 (by decide) ?_
    refine lv_icmp_lt (tgt := 61) X.1 X.2.1 dX5_figure_22 (by decide) (fun c12 => ?_) (fun c12 => ?_)
    · have hf := ifp c12 hf
      refine lv_iconst (v := (-1 : Int32)) X.1 X.2.1 dX5_figure_61 (by decide) ?_
      obtain ⟨rfl, rfl⟩ := rt2 hf
      exact x_iret X hr hk M dX5_figure_62
    · have hf := ifn c12 hf
      refine lv_aload_n X.1 X.2.1 dX5_figure_25 rfl (lv_at hl 0 rfl) ?_
      obtain ⟨t13, q14, hf⟩ := bnd hf
      refine x_getr fl_X5_11 X M q14 dX5_figure_26 ?_
      refine lv_aload_n X.1 X.2.1 dX5_figure_29 rfl (lv_at hl 0 rfl) ?_
      obtain ⟨t15, q16, hf⟩ := bnd hf
      refine x_geti fl_X5_24 X M q16 dX5_figure_30 ?_
      obtain ⟨t17, q18, hf⟩ := bnd hf
      refine x_cald X M q18 dX5_figure_33 ?_
      refine lv_bipush (v := (48 : Int32)) X.1 X.2.1 dX5_figure_34 (by decide) ?_
      refine lv_iload_n X.1 X.2.1 dX5_figure_36 rfl (lv_at hl 1 rfl) ?_
      refine lv_iadd X.1 X.2.1 dX5_figure_37 ?_
      refine lv_icmp_gt (tgt := 61) X.1 X.2.1 dX5_figure_38 (by decide) (fun c19 => ?_) (fun c19 => ?_)
      · have hf := ifp c19 hf
        refine lv_iconst (v := (-1 : Int32)) X.1 X.2.1 dX5_figure_61 (by decide) ?_
        obtain ⟨rfl, rfl⟩ := rt2 hf
        exact x_iret X hr hk M dX5_figure_62
      · have hf := ifn c19 hf
        refine lv_aload_n X.1 X.2.1 dX5_figure_41 rfl (lv_at hl 0 rfl) ?_
        obtain ⟨t20, q21, hf⟩ := bnd hf
        refine x_getr fl_X5_11 X M q21 dX5_figure_42 ?_
        refine lv_aload_n X.1 X.2.1 dX5_figure_45 rfl (lv_at hl 0 rfl) ?_
        refine lv_dup X.1 X.2.1 dX5_figure_46 rfl ?_
        obtain ⟨t22, q23, hf⟩ := bnd hf
        refine x_geti fl_X5_24 X M q23 dX5_figure_47 ?_
        refine lv_dup_x1 X.1 X.2.1 dX5_figure_50 rfl rfl ?_
        refine lv_iconst (v := (1 : Int32)) X.1 X.2.1 dX5_figure_51 (by decide) ?_
        refine lv_iadd X.1 X.2.1 dX5_figure_52 ?_
        obtain ⟨h24, q25, hf⟩ := bnd hf
        refine x_puti fl_X5_24 fp_X5_24.1 fp_X5_24.2 X M q25 dX5_figure_53 (fun H locs M => ?_)
        obtain ⟨t26, q27, hf⟩ := bnd hf
        refine x_cald X M q27 dX5_figure_56 ?_
        refine lv_bipush (v := (48 : Int32)) X.1 X.2.1 dX5_figure_57 (by decide) ?_
        refine lv_isub X.1 X.2.1 dX5_figure_59 ?_
        obtain ⟨rfl, rfl⟩ := rt2 hf
        exact x_iret X hr hk M dX5_figure_60
theorem c_X5_figure (l : Launch) (G : Gx) (N : Nat) (v0 : Nat) (v1 : Int32) (h : Mem) (r : Int32) (h' : Mem) (hf : f_X5_figure N v0 v1 h = some (r, h')) : MetG l G yX5_figure (.code yX5_figure cX5_figure 2 (Option.some Jvm.ClassFile.FieldType.int)) rm_X5_figure [.ref (gB G + v0), .int v1] h (QcI G r h') 0 0 :=
  x_met (by decide) rfl (Nat.le_of_ble_eq_true rfl) (fun p e s m args below meth c ls X M hr hk hin hl => w_X5_figure X hr hk N v0 v1 h hf _ _ ls M hl)
abbrev rm_X5_number : Room := { frames := 1, cells := 0, slots := 0, locals := 40 }
def f_X5_number_59 (N : Nat) (v0 : Nat) (v2 : Int32) (s0 : Int32) (h : Mem) (k4 : Nat → Int32 → Int32 → Mem → Option (Int32 × Mem)) : Option (Int32 × Mem) :=
  (gR h v0 5 0).bind fun t1 =>
  (gI h v0 5 2).bind fun t3 =>
  (sI h v0 5 2 (t3 + (1 : Int32))).bind fun h5 =>
  (lI 101 h5 t1 t3).bind fun t7 =>
  k4 v0 (((s0 * (10 : Int32)) + t7) - (48 : Int32)) (v2 + 1) h5
set_option maxRecDepth 100000 in
set_option maxHeartbeats 4000000 in
theorem w_X5_number_59 {p : Program} {l : Launch} {e : Env} {s : State} {m : MethodId} {args : Array Value} {below : List Frame} {meth : Method} {c : Code} {G : Gx} {r : Int32} {h' : Mem} (X : CX G p s m args c cX5_number 3 RX5) (hr : meth.sig.returnType = (Option.some Jvm.ClassFile.FieldType.int)) (hk : meth.locks = false) (N : Nat) (k4 : Nat → Int32 → Int32 → Mem → Option (Int32 × Mem)) (K4 : ∀ (v0 : Nat) (v1 : Int32) (v2 : Int32) (h : Mem), k4 v0 v1 v2 h = some (r, h') → ∀ (H : Heap) (locs : List Loc) (ls : Array Slot), MS G s h H locs 0 → lv_has ls 3 [(0, .ref (gB G + v0)), (1, .int v1), (2, .int v2)] → W p l e (rm_X5_number) s m args below meth c H locs 0 0 (QI G below args s r h' 0 0) (F0 m 4 ls [])) : ∀ (v0 : Nat) (v2 : Int32) (s0 : Int32) (h : Mem), f_X5_number_59 N v0 v2 s0 h k4 = some (r, h') → ∀ (H : Heap) (locs : List Loc) (ls : Array Slot), MS G s h H locs 0 → lv_has ls 3 [(0, .ref (gB G + v0)), (2, .int v2)] → W p l e (rm_X5_number) s m args below meth c H locs 0 0 (QI G below args s r h' 0 0) (F0 m 59 ls [.int s0]) := by
  intro v0 v2 s0 h hf H locs ls M hl
  rw [f_X5_number_59] at hf
  refine lv_bipush (v := (10 : Int32)) X.1 X.2.1 dX5_number_59 (by decide) ?_
  refine lv_imul X.1 X.2.1 dX5_number_61 ?_
  refine lv_aload_n X.1 X.2.1 dX5_number_62 rfl (lv_at hl 0 rfl) ?_
  obtain ⟨t1, q2, hf⟩ := bnd hf
  refine x_getr fl_X5_11 X M q2 dX5_number_63 ?_
  refine lv_aload_n X.1 X.2.1 dX5_number_66 rfl (lv_at hl 0 rfl) ?_
  refine lv_dup X.1 X.2.1 dX5_number_67 rfl ?_
  obtain ⟨t3, q4, hf⟩ := bnd hf
  refine x_geti fl_X5_24 X M q4 dX5_number_68 ?_
  refine lv_dup_x1 X.1 X.2.1 dX5_number_71 rfl rfl ?_
  refine lv_iconst (v := (1 : Int32)) X.1 X.2.1 dX5_number_72 (by decide) ?_
  refine lv_iadd X.1 X.2.1 dX5_number_73 ?_
  obtain ⟨h5, q6, hf⟩ := bnd hf
  refine x_puti fl_X5_24 fp_X5_24.1 fp_X5_24.2 X M q6 dX5_number_74 (fun H locs M => ?_)
  obtain ⟨t7, q8, hf⟩ := bnd hf
  refine x_cald X M q8 dX5_number_77 ?_
  refine lv_iadd X.1 X.2.1 dX5_number_78 ?_
  refine lv_bipush (v := (48 : Int32)) X.1 X.2.1 dX5_number_79 (by decide) ?_
  refine lv_isub X.1 X.2.1 dX5_number_81 ?_
  refine lv_istore_n (lv' := [(1, .int (((s0 * (10 : Int32)) + t7) - (48 : Int32))), (0, .ref (gB G + v0)), (2, .int v2)]) X.1 X.2.1 dX5_number_82 rfl hl (by decide) rfl (fun ls hl => ?_)
  refine lv_iinc (v := (v2 + 1)) (lv' := [(2, .int (v2 + 1)), (1, .int (((s0 * (10 : Int32)) + t7) - (48 : Int32))), (0, .ref (gB G + v0))]) X.1 X.2.1 dX5_number_83 hl (k := 2) rfl (by first | rfl | decide) (by decide) rfl (fun ls hl => ?_)
  refine lv_goto (tgt := 4) X.1 X.2.1 dX5_number_86 (by decide) ?_
  exact K4 v0 (((s0 * (10 : Int32)) + t7) - (48 : Int32)) (v2 + 1) h5 hf _ _ _ M (lv_sub hl [2, 1, 0] rfl)
def f_X5_number_4 (N : Nat) (n : Nat) (v0 : Nat) (v1 : Int32) (v2 : Int32) (h : Mem) : Option (Int32 × Mem) := match n with
  | 0 => none
  | n + 1 =>
    if (3 : Int32) ≤ v2 then
      some (v1, h)
    else
      (gI h v0 5 2).bind fun t2 =>
      (gI h v0 5 1).bind fun t4 =>
      if t4 ≤ t2 then
        some (v1, h)
      else
        (gR h v0 5 0).bind fun t7 =>
        (gI h v0 5 2).bind fun t9 =>
        (lI 101 h t7 t9).bind fun t11 =>
        if t11 < (48 : Int32) then
          some (v1, h)
        else
          (gR h v0 5 0).bind fun t14 =>
          (gI h v0 5 2).bind fun t16 =>
          (lI 101 h t14 t16).bind fun t18 =>
          if t18 ≤ (57 : Int32) then
            if 0 ≤ v1 then
              f_X5_number_59 N v0 v2 v1 h (fun v0 v1 v2 h => f_X5_number_4 N n v0 v1 v2 h)
            else
              f_X5_number_59 N v0 v2 (0 : Int32) h (fun v0 v1 v2 h => f_X5_number_4 N n v0 v1 v2 h)
          else
            some (v1, h)
set_option maxRecDepth 100000 in
set_option maxHeartbeats 4000000 in
theorem w_X5_number_4 {p : Program} {l : Launch} {e : Env} {s : State} {m : MethodId} {args : Array Value} {below : List Frame} {meth : Method} {c : Code} {G : Gx} {r : Int32} {h' : Mem} (X : CX G p s m args c cX5_number 3 RX5) (hr : meth.sig.returnType = (Option.some Jvm.ClassFile.FieldType.int)) (hk : meth.locks = false) (N : Nat) : ∀ (n : Nat) (v0 : Nat) (v1 : Int32) (v2 : Int32) (h : Mem), f_X5_number_4 N n v0 v1 v2 h = some (r, h') → ∀ (H : Heap) (locs : List Loc) (ls : Array Slot), MS G s h H locs 0 → lv_has ls 3 [(0, .ref (gB G + v0)), (1, .int v1), (2, .int v2)] → W p l e (rm_X5_number) s m args below meth c H locs 0 0 (QI G below args s r h' 0 0) (F0 m 4 ls []) := by
  intro n
  induction n with
  | zero =>
    intro v0 v1 v2 h hf
    cases hf
  | succ n ih =>
    intro v0 v1 v2 h hf H locs ls M hl
    rw [f_X5_number_4] at hf
    refine lv_iload_n X.1 X.2.1 dX5_number_4 rfl (lv_at hl 2 rfl) ?_
    refine lv_iconst (v := (3 : Int32)) X.1 X.2.1 dX5_number_5 (by decide) ?_
    refine lv_icmp_ge (tgt := 89) X.1 X.2.1 dX5_number_6 (by decide) (fun c1 => ?_) (fun c1 => ?_)
    · have hf := ifp c1 hf
      refine lv_iload_n X.1 X.2.1 dX5_number_89 rfl (lv_at hl 1 rfl) ?_
      obtain ⟨rfl, rfl⟩ := rt2 hf
      exact x_iret X hr hk M dX5_number_90
    · have hf := ifn c1 hf
      refine lv_aload_n X.1 X.2.1 dX5_number_9 rfl (lv_at hl 0 rfl) ?_
      obtain ⟨t2, q3, hf⟩ := bnd hf
      refine x_geti fl_X5_24 X M q3 dX5_number_10 ?_
      refine lv_aload_n X.1 X.2.1 dX5_number_13 rfl (lv_at hl 0 rfl) ?_
      obtain ⟨t4, q5, hf⟩ := bnd hf
      refine x_geti fl_X5_15 X M q5 dX5_number_14 ?_
      refine lv_icmp_ge (tgt := 89) X.1 X.2.1 dX5_number_17 (by decide) (fun c6 => ?_) (fun c6 => ?_)
      · have hf := ifp c6 hf
        refine lv_iload_n X.1 X.2.1 dX5_number_89 rfl (lv_at hl 1 rfl) ?_
        obtain ⟨rfl, rfl⟩ := rt2 hf
        exact x_iret X hr hk M dX5_number_90
      · have hf := ifn c6 hf
        refine lv_aload_n X.1 X.2.1 dX5_number_20 rfl (lv_at hl 0 rfl) ?_
        obtain ⟨t7, q8, hf⟩ := bnd hf
        refine x_getr fl_X5_11 X M q8 dX5_number_21 ?_
        refine lv_aload_n X.1 X.2.1 dX5_number_24 rfl (lv_at hl 0 rfl) ?_
        obtain ⟨t9, q10, hf⟩ := bnd hf
        refine x_geti fl_X5_24 X M q10 dX5_number_25 ?_
        obtain ⟨t11, q12, hf⟩ := bnd hf
        refine x_cald X M q12 dX5_number_28 ?_
        refine lv_bipush (v := (48 : Int32)) X.1 X.2.1 dX5_number_29 (by decide) ?_
        refine lv_icmp_lt (tgt := 48) X.1 X.2.1 dX5_number_31 (by decide) (fun c13 => ?_) (fun c13 => ?_)
        · have hf := ifp c13 hf
          refine lv_iload_n X.1 X.2.1 dX5_number_48 rfl (lv_at hl 1 rfl) ?_
          obtain ⟨rfl, rfl⟩ := rt2 hf
          exact x_iret X hr hk M dX5_number_49
        · have hf := ifn c13 hf
          refine lv_aload_n X.1 X.2.1 dX5_number_34 rfl (lv_at hl 0 rfl) ?_
          obtain ⟨t14, q15, hf⟩ := bnd hf
          refine x_getr fl_X5_11 X M q15 dX5_number_35 ?_
          refine lv_aload_n X.1 X.2.1 dX5_number_38 rfl (lv_at hl 0 rfl) ?_
          obtain ⟨t16, q17, hf⟩ := bnd hf
          refine x_geti fl_X5_24 X M q17 dX5_number_39 ?_
          obtain ⟨t18, q19, hf⟩ := bnd hf
          refine x_cald X M q19 dX5_number_42 ?_
          refine lv_bipush (v := (57 : Int32)) X.1 X.2.1 dX5_number_43 (by decide) ?_
          refine lv_icmp_le (tgt := 50) X.1 X.2.1 dX5_number_45 (by decide) (fun c20 => ?_) (fun c20 => ?_)
          · have hf := ifp c20 hf
            refine lv_iload_n X.1 X.2.1 dX5_number_50 rfl (lv_at hl 1 rfl) ?_
            refine lv_if_ge (tgt := 58) X.1 X.2.1 dX5_number_51 (by decide) (fun c21 => ?_) (fun c21 => ?_)
            · have hf := ifp c21 hf
              refine lv_iload_n X.1 X.2.1 dX5_number_58 rfl (lv_at hl 1 rfl) ?_
              exact w_X5_number_59 X hr hk N _ (fun v0 v1 v2 h hf H locs ls M hl => ih v0 v1 v2 h hf H locs ls M hl) v0 v2 v1 h hf _ _ _ M (lv_sub hl [0, 2] rfl)
            · have hf := ifn c21 hf
              refine lv_iconst (v := (0 : Int32)) X.1 X.2.1 dX5_number_54 (by decide) ?_
              refine lv_goto (tgt := 59) X.1 X.2.1 dX5_number_55 (by decide) ?_
              exact w_X5_number_59 X hr hk N _ (fun v0 v1 v2 h hf H locs ls M hl => ih v0 v1 v2 h hf H locs ls M hl) v0 v2 (0 : Int32) h hf _ _ _ M (lv_sub hl [0, 2] rfl)
          · have hf := ifn c20 hf
            refine lv_iload_n X.1 X.2.1 dX5_number_48 rfl (lv_at hl 1 rfl) ?_
            obtain ⟨rfl, rfl⟩ := rt2 hf
            exact x_iret X hr hk M dX5_number_49
def f_X5_number (N : Nat) (v0 : Nat) (h : Mem) : Option (Int32 × Mem) :=
  f_X5_number_4 N N v0 (-1 : Int32) (0 : Int32) h
set_option maxRecDepth 100000 in
set_option maxHeartbeats 4000000 in
theorem w_X5_number {p : Program} {l : Launch} {e : Env} {s : State} {m : MethodId} {args : Array Value} {below : List Frame} {meth : Method} {c : Code} {G : Gx} {r : Int32} {h' : Mem} (X : CX G p s m args c cX5_number 3 RX5) (hr : meth.sig.returnType = (Option.some Jvm.ClassFile.FieldType.int)) (hk : meth.locks = false) (N : Nat) : ∀ (v0 : Nat) (h : Mem), f_X5_number N v0 h = some (r, h') → ∀ (H : Heap) (locs : List Loc) (ls : Array Slot), MS G s h H locs 0 → lv_has ls 3 [(0, .ref (gB G + v0))] → W p l e (rm_X5_number) s m args below meth c H locs 0 0 (QI G below args s r h' 0 0) (F0 m 0 ls []) := by
  intro v0 h hf H locs ls M hl
  rw [f_X5_number] at hf
  refine lv_iconst (v := (-1 : Int32)) X.1 X.2.1 dX5_number_0 (by decide) ?_
  refine lv_istore_n (lv' := [(1, .int (-1 : Int32)), (0, .ref (gB G + v0))]) X.1 X.2.1 dX5_number_1 rfl hl (by decide) rfl (fun ls hl => ?_)
  refine lv_iconst (v := (0 : Int32)) X.1 X.2.1 dX5_number_2 (by decide) ?_
  refine lv_istore_n (lv' := [(2, .int (0 : Int32)), (1, .int (-1 : Int32)), (0, .ref (gB G + v0))]) X.1 X.2.1 dX5_number_3 rfl hl (by decide) rfl (fun ls hl => ?_)
  exact w_X5_number_4 X hr hk N N v0 (-1 : Int32) (0 : Int32) h hf _ _ _ M (lv_sub hl [2, 1, 0] rfl)
theorem c_X5_number (l : Launch) (G : Gx) (N : Nat) (v0 : Nat) (h : Mem) (r : Int32) (h' : Mem) (hf : f_X5_number N v0 h = some (r, h')) : MetG l G yX5_number (.code yX5_number cX5_number 3 (Option.some Jvm.ClassFile.FieldType.int)) rm_X5_number [.ref (gB G + v0)] h (QcI G r h') 0 0 :=
  x_met (by decide) rfl (Nat.le_of_ble_eq_true rfl) (fun p e s m args below meth c ls X M hr hk hin hl => w_X5_number X hr hk N v0 h hf _ _ ls M hl)
abbrev rm_X5_pair : Room := { frames := 2, cells := 0, slots := 0, locals := 62 }
def f_X5_pair (N : Nat) (v0 : Nat) (v1 : Nat) (v2 : Int32) (h : Mem) : Option (Int32 × Mem) :=
  (ck h v0 5).bind fun _ =>
  b2 (f_X5_figure N v0 (3 : Int32) h) fun t4 h3 =>
  if t4 < 0 then
    some ((0 : Int32), h3)
  else
    (ck h3 v0 5).bind fun _ =>
    b2 (f_X5_met N v0 (32 : Int32) h3) fun t9 h8 =>
    if t9 = 0 then
      some ((0 : Int32), h8)
    else
      (ck h8 v0 5).bind fun _ =>
      b2 (f_X5_figure N v0 (v2 - (1 : Int32)) h8) fun t14 h13 =>
      if t14 < 0 then
        some ((0 : Int32), h13)
      else
        (ck h13 v0 5).bind fun _ =>
        b2 (f_X5_met N v0 (32 : Int32) h13) fun t19 h18 =>
        if t19 = 0 then
          some ((0 : Int32), h18)
        else
          (ck h18 v0 5).bind fun _ =>
          b2 (f_X5_number N v0 h18) fun t24 h23 =>
          if 0 ≤ t24 then
            (stI 100 h23 v1 ((t4 * v2) + t14) t24).bind fun h26 =>
            some ((1 : Int32), h26)
          else
            some ((0 : Int32), h23)
set_option maxRecDepth 100000 in
set_option maxHeartbeats 4000000 in
theorem w_X5_pair {p : Program} {l : Launch} {e : Env} {s : State} {m : MethodId} {args : Array Value} {below : List Frame} {meth : Method} {c : Code} {G : Gx} {r : Int32} {h' : Mem} (X : CX G p s m args c cX5_pair 6 RX5) (hr : meth.sig.returnType = (Option.some Jvm.ClassFile.FieldType.boolean)) (hk : meth.locks = false) (N : Nat) : ∀ (v0 : Nat) (v1 : Nat) (v2 : Int32) (h : Mem), f_X5_pair N v0 v1 v2 h = some (r, h') → ∀ (H : Heap) (locs : List Loc) (ls : Array Slot), MS G s h H locs 0 → lv_has ls 6 [(0, .ref (gB G + v0)), (1, .ref (gB G + v1)), (2, .int v2)] → W p l e (rm_X5_pair) s m args below meth c H locs 0 0 (QI G below args s r h' 0 0) (F0 m 0 ls []) := by
  intro v0 v1 v2 h hf H locs ls M hl
  rw [f_X5_pair] at hf
  refine lv_aload_n X.1 X.2.1 dX5_pair_0 rfl (lv_at hl 0 rfl) ?_
  refine lv_iconst (v := (3 : Int32)) X.1 X.2.1 dX5_pair_1 (by decide) ?_
  obtain ⟨⟨⟩, q1, hf⟩ := bnd hf
  obtain ⟨t4, h3, q2, hf⟩ := bnd2 hf
  refine x_callVi (As := [.int (3 : Int32)]) cf_X5_94 (c_X5_figure l G N v0 (3 : Int32) h _ _ q2) rfl ⟨rfl, rfl, Nat.le_of_ble_eq_true rfl, Nat.le_of_ble_eq_true rfl⟩ ⟨Nat.le_of_ble_eq_true rfl, Nat.le_of_ble_eq_true rfl⟩ X M (x_recv cls_X5 X M q1) rfl rfl hl.1 (Nat.le_of_ble_eq_true rfl) dX5_pair_2 (fun H locs M => ?_)
  refine lv_istore_n (lv' := [(3, .int t4), (0, .ref (gB G + v0)), (1, .ref (gB G + v1)), (2, .int v2)]) X.1 X.2.1 dX5_pair_5 rfl hl (by decide) rfl (fun ls hl => ?_)
  refine lv_iload_n X.1 X.2.1 dX5_pair_6 rfl (lv_at hl 0 rfl) ?_
  refine lv_if_lt (tgt := 19) X.1 X.2.1 dX5_pair_7 (by decide) (fun c5 => ?_) (fun c5 => ?_)
  · have hf := ifp c5 hf
    refine lv_iconst (v := (0 : Int32)) X.1 X.2.1 dX5_pair_19 (by decide) ?_
    obtain ⟨rfl, rfl⟩ := rt2 hf
    exact x_zret X hr hk rfl M dX5_pair_20
  · have hf := ifn c5 hf
    refine lv_aload_n X.1 X.2.1 dX5_pair_10 rfl (lv_at hl 1 rfl) ?_
    refine lv_bipush (v := (32 : Int32)) X.1 X.2.1 dX5_pair_11 (by decide) ?_
    obtain ⟨⟨⟩, q6, hf⟩ := bnd hf
    obtain ⟨t9, h8, q7, hf⟩ := bnd2 hf
    refine x_callVi (As := [.int (32 : Int32)]) cf_X5_31 (c_X5_met l G N v0 (32 : Int32) h3 _ _ q7) rfl ⟨rfl, rfl, Nat.le_of_ble_eq_true rfl, Nat.le_of_ble_eq_true rfl⟩ ⟨Nat.le_of_ble_eq_true rfl, Nat.le_of_ble_eq_true rfl⟩ X M (x_recv cls_X5 X M q6) rfl rfl hl.1 (Nat.le_of_ble_eq_true rfl) dX5_pair_13 (fun H locs M => ?_)
    refine lv_if_ne (tgt := 21) X.1 X.2.1 dX5_pair_16 (by decide) (fun c10 => ?_) (fun c10 => ?_)
    · have hf := ifn c10 hf
      refine lv_aload_n X.1 X.2.1 dX5_pair_21 rfl (lv_at hl 1 rfl) ?_
      refine lv_iload_n X.1 X.2.1 dX5_pair_22 rfl (lv_at hl 3 rfl) ?_
      refine lv_iconst (v := (1 : Int32)) X.1 X.2.1 dX5_pair_23 (by decide) ?_
      refine lv_isub X.1 X.2.1 dX5_pair_24 ?_
      obtain ⟨⟨⟩, q11, hf⟩ := bnd hf
      obtain ⟨t14, h13, q12, hf⟩ := bnd2 hf
      refine x_callVi (As := [.int (v2 - (1 : Int32))]) cf_X5_94 (c_X5_figure l G N v0 (v2 - (1 : Int32)) h8 _ _ q12) rfl ⟨rfl, rfl, Nat.le_of_ble_eq_true rfl, Nat.le_of_ble_eq_true rfl⟩ ⟨Nat.le_of_ble_eq_true rfl, Nat.le_of_ble_eq_true rfl⟩ X M (x_recv cls_X5 X M q11) rfl rfl hl.1 (Nat.le_of_ble_eq_true rfl) dX5_pair_25 (fun H locs M => ?_)
      refine lv_istore (lv' := [(4, .int t14), (3, .int t4), (0, .ref (gB G + v0)), (1, .ref (gB G + v1)), (2, .int v2)]) X.1 X.2.1 dX5_pair_28 hl (by decide) rfl (fun ls hl => ?_)
      refine lv_iload X.1 X.2.1 dX5_pair_30 (lv_at hl 0 rfl) ?_
      refine lv_if_lt (tgt := 44) X.1 X.2.1 dX5_pair_32 (by decide) (fun c15 => ?_) (fun c15 => ?_)
      · have hf := ifp c15 hf
        refine lv_iconst (v := (0 : Int32)) X.1 X.2.1 dX5_pair_44 (by decide) ?_
        obtain ⟨rfl, rfl⟩ := rt2 hf
        exact x_zret X hr hk rfl M dX5_pair_45
      · have hf := ifn c15 hf
        refine lv_aload_n X.1 X.2.1 dX5_pair_35 rfl (lv_at hl 2 rfl) ?_
        refine lv_bipush (v := (32 : Int32)) X.1 X.2.1 dX5_pair_36 (by decide) ?_
        obtain ⟨⟨⟩, q16, hf⟩ := bnd hf
        obtain ⟨t19, h18, q17, hf⟩ := bnd2 hf
        refine x_callVi (As := [.int (32 : Int32)]) cf_X5_31 (c_X5_met l G N v0 (32 : Int32) h13 _ _ q17) rfl ⟨rfl, rfl, Nat.le_of_ble_eq_true rfl, Nat.le_of_ble_eq_true rfl⟩ ⟨Nat.le_of_ble_eq_true rfl, Nat.le_of_ble_eq_true rfl⟩ X M (x_recv cls_X5 X M q16) rfl rfl hl.1 (Nat.le_of_ble_eq_true rfl) dX5_pair_38 (fun H locs M => ?_)
        refine lv_if_ne (tgt := 46) X.1 X.2.1 dX5_pair_41 (by decide) (fun c20 => ?_) (fun c20 => ?_)
        · have hf := ifn c20 hf
          refine lv_aload_n X.1 X.2.1 dX5_pair_46 rfl (lv_at hl 2 rfl) ?_
          obtain ⟨⟨⟩, q21, hf⟩ := bnd hf
          obtain ⟨t24, h23, q22, hf⟩ := bnd2 hf
          refine x_callVi (As := []) cf_X5_57 (c_X5_number l G N v0 h18 _ _ q22) rfl ⟨rfl, rfl, Nat.le_of_ble_eq_true rfl, Nat.le_of_ble_eq_true rfl⟩ ⟨Nat.le_of_ble_eq_true rfl, Nat.le_of_ble_eq_true rfl⟩ X M (x_recv cls_X5 X M q21) rfl rfl hl.1 (Nat.le_of_ble_eq_true rfl) dX5_pair_47 (fun H locs M => ?_)
          refine lv_istore (lv' := [(5, .int t24), (4, .int t14), (3, .int t4), (0, .ref (gB G + v0)), (1, .ref (gB G + v1)), (2, .int v2)]) X.1 X.2.1 dX5_pair_50 hl (by decide) rfl (fun ls hl => ?_)
          refine lv_iload X.1 X.2.1 dX5_pair_52 (lv_at hl 0 rfl) ?_
          refine lv_if_ge (tgt := 59) X.1 X.2.1 dX5_pair_54 (by decide) (fun c25 => ?_) (fun c25 => ?_)
          · have hf := ifp c25 hf
            refine lv_aload_n X.1 X.2.1 dX5_pair_59 rfl (lv_at hl 4 rfl) ?_
            refine lv_iload_n X.1 X.2.1 dX5_pair_60 rfl (lv_at hl 2 rfl) ?_
            refine lv_iload_n X.1 X.2.1 dX5_pair_61 rfl (lv_at hl 5 rfl) ?_
            refine lv_imul X.1 X.2.1 dX5_pair_62 ?_
            refine lv_iload X.1 X.2.1 dX5_pair_63 (lv_at hl 1 rfl) ?_
            refine lv_iadd X.1 X.2.1 dX5_pair_65 ?_
            refine lv_iload X.1 X.2.1 dX5_pair_66 (lv_at hl 0 rfl) ?_
            obtain ⟨h26, q27, hf⟩ := bnd hf
            refine x_iast X M q27 dX5_pair_68 (fun H locs M => ?_)
            refine lv_iconst (v := (1 : Int32)) X.1 X.2.1 dX5_pair_69 (by decide) ?_
            obtain ⟨rfl, rfl⟩ := rt2 hf
            exact x_zret X hr hk rfl M dX5_pair_70
          · have hf := ifn c25 hf
            refine lv_iconst (v := (0 : Int32)) X.1 X.2.1 dX5_pair_57 (by decide) ?_
            obtain ⟨rfl, rfl⟩ := rt2 hf
            exact x_zret X hr hk rfl M dX5_pair_58
        · have hf := ifp c20 hf
          refine lv_iconst (v := (0 : Int32)) X.1 X.2.1 dX5_pair_44 (by decide) ?_
          obtain ⟨rfl, rfl⟩ := rt2 hf
          exact x_zret X hr hk rfl M dX5_pair_45
    · have hf := ifp c10 hf
      refine lv_iconst (v := (0 : Int32)) X.1 X.2.1 dX5_pair_19 (by decide) ?_
      obtain ⟨rfl, rfl⟩ := rt2 hf
      exact x_zret X hr hk rfl M dX5_pair_20
theorem c_X5_pair (l : Launch) (G : Gx) (N : Nat) (v0 : Nat) (v1 : Nat) (v2 : Int32) (h : Mem) (r : Int32) (h' : Mem) (hf : f_X5_pair N v0 v1 v2 h = some (r, h')) : MetG l G yX5_pair (.code yX5_pair cX5_pair 6 (Option.some Jvm.ClassFile.FieldType.boolean)) rm_X5_pair [.ref (gB G + v0), .ref (gB G + v1), .int v2] h (QcI G r h') 0 0 :=
  x_met (by decide) rfl (Nat.le_of_ble_eq_true rfl) (fun p e s m args below meth c ls X M hr hk hin hl => w_X5_pair X hr hk N v0 v1 v2 h hf _ _ ls M hl)
abbrev rm_X5_single : Room := { frames := 2, cells := 0, slots := 0, locals := 62 }
def f_X5_single (N : Nat) (v0 : Nat) (v1 : Nat) (h : Mem) : Option (Int32 × Mem) :=
  (ck h v0 5).bind fun _ =>
  b2 (f_X5_figure N v0 (2 : Int32) h) fun t4 h3 =>
  if t4 < 0 then
    some ((0 : Int32), h3)
  else
    (ck h3 v0 5).bind fun _ =>
    b2 (f_X5_met N v0 (32 : Int32) h3) fun t9 h8 =>
    if t9 = 0 then
      some ((0 : Int32), h8)
    else
      (ck h8 v0 5).bind fun _ =>
      b2 (f_X5_number N v0 h8) fun t14 h13 =>
      if 0 ≤ t14 then
        (stI 100 h13 v1 t4 t14).bind fun h16 =>
        some ((1 : Int32), h16)
      else
        some ((0 : Int32), h13)
set_option maxRecDepth 100000 in
set_option maxHeartbeats 4000000 in
theorem w_X5_single {p : Program} {l : Launch} {e : Env} {s : State} {m : MethodId} {args : Array Value} {below : List Frame} {meth : Method} {c : Code} {G : Gx} {r : Int32} {h' : Mem} (X : CX G p s m args c cX5_single 4 RX5) (hr : meth.sig.returnType = (Option.some Jvm.ClassFile.FieldType.boolean)) (hk : meth.locks = false) (N : Nat) : ∀ (v0 : Nat) (v1 : Nat) (h : Mem), f_X5_single N v0 v1 h = some (r, h') → ∀ (H : Heap) (locs : List Loc) (ls : Array Slot), MS G s h H locs 0 → lv_has ls 4 [(0, .ref (gB G + v0)), (1, .ref (gB G + v1))] → W p l e (rm_X5_single) s m args below meth c H locs 0 0 (QI G below args s r h' 0 0) (F0 m 0 ls []) := by
  intro v0 v1 h hf H locs ls M hl
  rw [f_X5_single] at hf
  refine lv_aload_n X.1 X.2.1 dX5_single_0 rfl (lv_at hl 0 rfl) ?_
  refine lv_iconst (v := (2 : Int32)) X.1 X.2.1 dX5_single_1 (by decide) ?_
  obtain ⟨⟨⟩, q1, hf⟩ := bnd hf
  obtain ⟨t4, h3, q2, hf⟩ := bnd2 hf
  refine x_callVi (As := [.int (2 : Int32)]) cf_X5_94 (c_X5_figure l G N v0 (2 : Int32) h _ _ q2) rfl ⟨rfl, rfl, Nat.le_of_ble_eq_true rfl, Nat.le_of_ble_eq_true rfl⟩ ⟨Nat.le_of_ble_eq_true rfl, Nat.le_of_ble_eq_true rfl⟩ X M (x_recv cls_X5 X M q1) rfl rfl hl.1 (Nat.le_of_ble_eq_true rfl) dX5_single_2 (fun H locs M => ?_)
  refine lv_istore_n (lv' := [(2, .int t4), (0, .ref (gB G + v0)), (1, .ref (gB G + v1))]) X.1 X.2.1 dX5_single_5 rfl hl (by decide) rfl (fun ls hl => ?_)
  refine lv_iload_n X.1 X.2.1 dX5_single_6 rfl (lv_at hl 0 rfl) ?_
  refine lv_if_lt (tgt := 19) X.1 X.2.1 dX5_single_7 (by decide) (fun c5 => ?_) (fun c5 => ?_)
  · have hf := ifp c5 hf
    refine lv_iconst (v := (0 : Int32)) X.1 X.2.1 dX5_single_19 (by decide) ?_
    obtain ⟨rfl, rfl⟩ := rt2 hf
    exact x_zret X hr hk rfl M dX5_single_20
  · have hf := ifn c5 hf
    refine lv_aload_n X.1 X.2.1 dX5_single_10 rfl (lv_at hl 1 rfl) ?_
    refine lv_bipush (v := (32 : Int32)) X.1 X.2.1 dX5_single_11 (by decide) ?_
    obtain ⟨⟨⟩, q6, hf⟩ := bnd hf
    obtain ⟨t9, h8, q7, hf⟩ := bnd2 hf
    refine x_callVi (As := [.int (32 : Int32)]) cf_X5_31 (c_X5_met l G N v0 (32 : Int32) h3 _ _ q7) rfl ⟨rfl, rfl, Nat.le_of_ble_eq_true rfl, Nat.le_of_ble_eq_true rfl⟩ ⟨Nat.le_of_ble_eq_true rfl, Nat.le_of_ble_eq_true rfl⟩ X M (x_recv cls_X5 X M q6) rfl rfl hl.1 (Nat.le_of_ble_eq_true rfl) dX5_single_13 (fun H locs M => ?_)
    refine lv_if_ne (tgt := 21) X.1 X.2.1 dX5_single_16 (by decide) (fun c10 => ?_) (fun c10 => ?_)
    · have hf := ifn c10 hf
      refine lv_aload_n X.1 X.2.1 dX5_single_21 rfl (lv_at hl 1 rfl) ?_
      obtain ⟨⟨⟩, q11, hf⟩ := bnd hf
      obtain ⟨t14, h13, q12, hf⟩ := bnd2 hf
      refine x_callVi (As := []) cf_X5_57 (c_X5_number l G N v0 h8 _ _ q12) rfl ⟨rfl, rfl, Nat.le_of_ble_eq_true rfl, Nat.le_of_ble_eq_true rfl⟩ ⟨Nat.le_of_ble_eq_true rfl, Nat.le_of_ble_eq_true rfl⟩ X M (x_recv cls_X5 X M q11) rfl rfl hl.1 (Nat.le_of_ble_eq_true rfl) dX5_single_22 (fun H locs M => ?_)
      refine lv_istore_n (lv' := [(3, .int t14), (2, .int t4), (0, .ref (gB G + v0)), (1, .ref (gB G + v1))]) X.1 X.2.1 dX5_single_25 rfl hl (by decide) rfl (fun ls hl => ?_)
      refine lv_iload_n X.1 X.2.1 dX5_single_26 rfl (lv_at hl 0 rfl) ?_
      refine lv_if_ge (tgt := 32) X.1 X.2.1 dX5_single_27 (by decide) (fun c15 => ?_) (fun c15 => ?_)
      · have hf := ifp c15 hf
        refine lv_aload_n X.1 X.2.1 dX5_single_32 rfl (lv_at hl 3 rfl) ?_
        refine lv_iload_n X.1 X.2.1 dX5_single_33 rfl (lv_at hl 1 rfl) ?_
        refine lv_iload_n X.1 X.2.1 dX5_single_34 rfl (lv_at hl 0 rfl) ?_
        obtain ⟨h16, q17, hf⟩ := bnd hf
        refine x_iast X M q17 dX5_single_35 (fun H locs M => ?_)
        refine lv_iconst (v := (1 : Int32)) X.1 X.2.1 dX5_single_36 (by decide) ?_
        obtain ⟨rfl, rfl⟩ := rt2 hf
        exact x_zret X hr hk rfl M dX5_single_37
      · have hf := ifn c15 hf
        refine lv_iconst (v := (0 : Int32)) X.1 X.2.1 dX5_single_30 (by decide) ?_
        obtain ⟨rfl, rfl⟩ := rt2 hf
        exact x_zret X hr hk rfl M dX5_single_31
    · have hf := ifp c10 hf
      refine lv_iconst (v := (0 : Int32)) X.1 X.2.1 dX5_single_19 (by decide) ?_
      obtain ⟨rfl, rfl⟩ := rt2 hf
      exact x_zret X hr hk rfl M dX5_single_20
theorem c_X5_single (l : Launch) (G : Gx) (N : Nat) (v0 : Nat) (v1 : Nat) (h : Mem) (r : Int32) (h' : Mem) (hf : f_X5_single N v0 v1 h = some (r, h')) : MetG l G yX5_single (.code yX5_single cX5_single 4 (Option.some Jvm.ClassFile.FieldType.boolean)) rm_X5_single [.ref (gB G + v0), .ref (gB G + v1)] h (QcI G r h') 0 0 :=
  x_met (by decide) rfl (Nat.le_of_ble_eq_true rfl) (fun p e s m args below meth c ls X M hr hk hin hl => w_X5_single X hr hk N v0 v1 h hf _ _ ls M hl)
abbrev rm_X5_letter : Room := { frames := 5, cells := 0, slots := 0, locals := 131 }
def f_X5_letter_28 (N : Nat) (v0 : Nat) (s0 : Int32) (h : Mem) : Option (Int32 × Mem) :=
  if s0 < 0 then
    some (s0, h)
  else
    (gI h v0 5 2).bind fun t2 =>
    (sI h v0 5 2 (t2 + (1 : Int32))).bind fun h4 =>
    some (s0, h4)
set_option maxRecDepth 100000 in
set_option maxHeartbeats 4000000 in
theorem w_X5_letter_28 {p : Program} {l : Launch} {e : Env} {s : State} {m : MethodId} {args : Array Value} {below : List Frame} {meth : Method} {c : Code} {G : Gx} {r : Int32} {h' : Mem} (X : CX G p s m args c cX5_letter 3 RX5) (hr : meth.sig.returnType = (Option.some Jvm.ClassFile.FieldType.int)) (hk : meth.locks = false) (N : Nat) : ∀ (v0 : Nat) (s0 : Int32) (h : Mem), f_X5_letter_28 N v0 s0 h = some (r, h') → ∀ (H : Heap) (locs : List Loc) (ls : Array Slot), MS G s h H locs 0 → lv_has ls 3 [(0, .ref (gB G + v0))] → W p l e (rm_X5_letter) s m args below meth c H locs 0 0 (QI G below args s r h' 0 0) (F0 m 28 ls [.int s0]) := by
  intro v0 s0 h hf H locs ls M hl
  rw [f_X5_letter_28] at hf
  refine lv_istore_n (lv' := [(2, .int s0), (0, .ref (gB G + v0))]) X.1 X.2.1 dX5_letter_28 rfl hl (by decide) rfl (fun ls hl => ?_)
  refine lv_iload_n X.1 X.2.1 dX5_letter_29 rfl (lv_at hl 0 rfl) ?_
  refine lv_if_lt (tgt := 43) X.1 X.2.1 dX5_letter_30 (by decide) (fun c1 => ?_) (fun c1 => ?_)
  · have hf := ifp c1 hf
    refine lv_iload_n X.1 X.2.1 dX5_letter_43 rfl (lv_at hl 0 rfl) ?_
    obtain ⟨rfl, rfl⟩ := rt2 hf
    exact x_iret X hr hk M dX5_letter_44
  · have hf := ifn c1 hf
    refine lv_aload_n X.1 X.2.1 dX5_letter_33 rfl (lv_at hl 1 rfl) ?_
    refine lv_dup X.1 X.2.1 dX5_letter_34 rfl ?_
    obtain ⟨t2, q3, hf⟩ := bnd hf
    refine x_geti fl_X5_24 X M q3 dX5_letter_35 ?_
    refine lv_iconst (v := (1 : Int32)) X.1 X.2.1 dX5_letter_38 (by decide) ?_
    refine lv_iadd X.1 X.2.1 dX5_letter_39 ?_
    obtain ⟨h4, q5, hf⟩ := bnd hf
    refine x_puti fl_X5_24 fp_X5_24.1 fp_X5_24.2 X M q5 dX5_letter_40 (fun H locs M => ?_)
    refine lv_iload_n X.1 X.2.1 dX5_letter_43 rfl (lv_at hl 0 rfl) ?_
    obtain ⟨rfl, rfl⟩ := rt2 hf
    exact x_iret X hr hk M dX5_letter_44
def f_X5_letter (N : Nat) (v0 : Nat) (v1 : Nat) (h : Mem) : Option (Int32 × Mem) :=
  (gI h v0 5 2).bind fun t1 =>
  (gI h v0 5 1).bind fun t3 =>
  if t3 ≤ t1 then
    f_X5_letter_28 N v0 (-1 : Int32) h
  else
    (gR h v0 5 0).bind fun t6 =>
    (gI h v0 5 2).bind fun t8 =>
    (lI 101 h t6 t8).bind fun t10 =>
    (sV v1).bind fun t13 =>
    b2 (f_J0_indexOf_0f7a4 N v1 t10 h) fun t16 h15 =>
    f_X5_letter_28 N v0 t16 h15
set_option maxRecDepth 100000 in
set_option maxHeartbeats 4000000 in
theorem w_X5_letter {p : Program} {l : Launch} {e : Env} {s : State} {m : MethodId} {args : Array Value} {below : List Frame} {meth : Method} {c : Code} {G : Gx} {r : Int32} {h' : Mem} (X : CX G p s m args c cX5_letter 3 RX5) (hr : meth.sig.returnType = (Option.some Jvm.ClassFile.FieldType.int)) (hk : meth.locks = false) (N : Nat) : ∀ (v0 : Nat) (v1 : Nat) (h : Mem), f_X5_letter N v0 v1 h = some (r, h') → ∀ (H : Heap) (locs : List Loc) (ls : Array Slot), MS G s h H locs 0 → lv_has ls 3 [(0, .ref (gB G + v0)), (1, .ref (gK G v1))] → W p l e (rm_X5_letter) s m args below meth c H locs 0 0 (QI G below args s r h' 0 0) (F0 m 0 ls []) := by
  intro v0 v1 h hf H locs ls M hl
  rw [f_X5_letter] at hf
  refine lv_aload_n X.1 X.2.1 dX5_letter_0 rfl (lv_at hl 0 rfl) ?_
  obtain ⟨t1, q2, hf⟩ := bnd hf
  refine x_geti fl_X5_24 X M q2 dX5_letter_1 ?_
  refine lv_aload_n X.1 X.2.1 dX5_letter_4 rfl (lv_at hl 0 rfl) ?_
  obtain ⟨t3, q4, hf⟩ := bnd hf
  refine x_geti fl_X5_15 X M q4 dX5_letter_5 ?_
  refine lv_icmp_ge (tgt := 27) X.1 X.2.1 dX5_letter_8 (by decide) (fun c5 => ?_) (fun c5 => ?_)
  · have hf := ifp c5 hf
    refine lv_iconst (v := (-1 : Int32)) X.1 X.2.1 dX5_letter_27 (by decide) ?_
    exact w_X5_letter_28 X hr hk N v0 (-1 : Int32) h hf _ _ _ M (lv_sub hl [0] rfl)
  · have hf := ifn c5 hf
    refine lv_aload_n X.1 X.2.1 dX5_letter_11 rfl (lv_at hl 1 rfl) ?_
    refine lv_aload_n X.1 X.2.1 dX5_letter_12 rfl (lv_at hl 0 rfl) ?_
    obtain ⟨t6, q7, hf⟩ := bnd hf
    refine x_getr fl_X5_11 X M q7 dX5_letter_13 ?_
    refine lv_aload_n X.1 X.2.1 dX5_letter_16 rfl (lv_at hl 0 rfl) ?_
    obtain ⟨t8, q9, hf⟩ := bnd hf
    refine x_geti fl_X5_24 X M q9 dX5_letter_17 ?_
    obtain ⟨t10, q11, hf⟩ := bnd hf
    refine x_cald X M q11 dX5_letter_20 ?_
    obtain ⟨t13, q12, hf⟩ := bnd hf
    obtain ⟨t16, h15, q14, hf⟩ := bnd2 hf
    refine x_callVi (As := [.int t10]) cf_X5_112 (c_J0_indexOf_0f7a4 l G N v1 t10 h _ _ q14) rfl ⟨rfl, rfl, Nat.le_of_ble_eq_true rfl, Nat.le_of_ble_eq_true rfl⟩ ⟨Nat.le_of_ble_eq_true rfl, Nat.le_of_ble_eq_true rfl⟩ X M (x_recS X M q12) rfl rfl hl.1 (Nat.le_of_ble_eq_true rfl) dX5_letter_21 (fun H locs M => ?_)
    refine lv_goto (tgt := 28) X.1 X.2.1 dX5_letter_24 (by decide) ?_
    exact w_X5_letter_28 X hr hk N v0 t16 h15 hf _ _ _ M (lv_sub hl [0] rfl)
theorem c_X5_letter (l : Launch) (G : Gx) (N : Nat) (v0 : Nat) (v1 : Nat) (h : Mem) (r : Int32) (h' : Mem) (hf : f_X5_letter N v0 v1 h = some (r, h')) : MetG l G yX5_letter (.code yX5_letter cX5_letter 3 (Option.some Jvm.ClassFile.FieldType.int)) rm_X5_letter [.ref (gB G + v0), .ref (gK G v1)] h (QcI G r h') 0 0 :=
  x_met (by decide) rfl (Nat.le_of_ble_eq_true rfl) (fun p e s m args below meth c ls X M hr hk hin hl => w_X5_letter X hr hk N v0 v1 h hf _ _ ls M hl)
abbrev rm_X5_test : Room := { frames := 6, cells := 0, slots := 0, locals := 153 }
def f_X5_test (N : Nat) (v0 : Nat) (v1 : Nat) (h : Mem) : Option (Int32 × Mem) :=
  (ck h v0 5).bind fun _ =>
  b2 (f_X5_letter N v0 3 h) fun t4 h3 =>
  if 0 ≤ t4 then
    (ck h3 v0 5).bind fun _ =>
    b2 (f_X5_letter N v0 4 h3) fun t9 h8 =>
    if 0 ≤ t9 then
      (ck h8 v0 5).bind fun _ =>
      b2 (f_X5_number N v0 h8) fun t14 h13 =>
      if 0 ≤ t14 then
        (ck h13 v1 3).bind fun _ =>
        (f_X3_emit N v1 ((t4 * (3 : Int32)) + t9) t14 h13).bind fun h18 =>
        some ((1 : Int32), h18)
      else
        some ((0 : Int32), h13)
    else
      some ((0 : Int32), h8)
  else
    some ((0 : Int32), h3)
set_option maxRecDepth 100000 in
set_option maxHeartbeats 4000000 in
theorem w_X5_test {p : Program} {l : Launch} {e : Env} {s : State} {m : MethodId} {args : Array Value} {below : List Frame} {meth : Method} {c : Code} {G : Gx} {r : Int32} {h' : Mem} (X : CX G p s m args c cX5_test 5 RX5) (hr : meth.sig.returnType = (Option.some Jvm.ClassFile.FieldType.boolean)) (hk : meth.locks = false) (N : Nat) : ∀ (v0 : Nat) (v1 : Nat) (h : Mem), f_X5_test N v0 v1 h = some (r, h') → ∀ (H : Heap) (locs : List Loc) (ls : Array Slot), MS G s h H locs 0 → lv_has ls 5 [(0, .ref (gB G + v0)), (1, .ref (gB G + v1))] → W p l e (rm_X5_test) s m args below meth c H locs 0 0 (QI G below args s r h' 0 0) (F0 m 0 ls []) := by
  intro v0 v1 h hf H locs ls M hl
  rw [f_X5_test] at hf
  refine lv_aload_n X.1 X.2.1 dX5_test_0 rfl (lv_at hl 0 rfl) ?_
  refine x_ldcs (i := 3) rfl rfl X dX5_test_1 ?_
  obtain ⟨⟨⟩, q1, hf⟩ := bnd hf
  obtain ⟨t4, h3, q2, hf⟩ := bnd2 hf
  refine x_callVi (As := [.ref (gK G 3)]) cf_X5_65 (c_X5_letter l G N v0 3 h _ _ q2) rfl ⟨rfl, rfl, Nat.le_of_ble_eq_true rfl, Nat.le_of_ble_eq_true rfl⟩ ⟨Nat.le_of_ble_eq_true rfl, Nat.le_of_ble_eq_true rfl⟩ X M (x_recv cls_X5 X M q1) rfl rfl hl.1 (Nat.le_of_ble_eq_true rfl) dX5_test_3 (fun H locs M => ?_)
  refine lv_istore_n (lv' := [(2, .int t4), (0, .ref (gB G + v0)), (1, .ref (gB G + v1))]) X.1 X.2.1 dX5_test_6 rfl hl (by decide) rfl (fun ls hl => ?_)
  refine lv_iload_n X.1 X.2.1 dX5_test_7 rfl (lv_at hl 0 rfl) ?_
  refine lv_if_ge (tgt := 13) X.1 X.2.1 dX5_test_8 (by decide) (fun c5 => ?_) (fun c5 => ?_)
  · have hf := ifp c5 hf
    refine lv_aload_n X.1 X.2.1 dX5_test_13 rfl (lv_at hl 1 rfl) ?_
    refine x_ldcs (i := 4) rfl rfl X dX5_test_14 ?_
    obtain ⟨⟨⟩, q6, hf⟩ := bnd hf
    obtain ⟨t9, h8, q7, hf⟩ := bnd2 hf
    refine x_callVi (As := [.ref (gK G 4)]) cf_X5_65 (c_X5_letter l G N v0 4 h3 _ _ q7) rfl ⟨rfl, rfl, Nat.le_of_ble_eq_true rfl, Nat.le_of_ble_eq_true rfl⟩ ⟨Nat.le_of_ble_eq_true rfl, Nat.le_of_ble_eq_true rfl⟩ X M (x_recv cls_X5 X M q6) rfl rfl hl.1 (Nat.le_of_ble_eq_true rfl) dX5_test_16 (fun H locs M => ?_)
    refine lv_istore_n (lv' := [(3, .int t9), (2, .int t4), (0, .ref (gB G + v0)), (1, .ref (gB G + v1))]) X.1 X.2.1 dX5_test_19 rfl hl (by decide) rfl (fun ls hl => ?_)
    refine lv_iload_n X.1 X.2.1 dX5_test_20 rfl (lv_at hl 0 rfl) ?_
    refine lv_if_ge (tgt := 26) X.1 X.2.1 dX5_test_21 (by decide) (fun c10 => ?_) (fun c10 => ?_)
    · have hf := ifp c10 hf
      refine lv_aload_n X.1 X.2.1 dX5_test_26 rfl (lv_at hl 2 rfl) ?_
      obtain ⟨⟨⟩, q11, hf⟩ := bnd hf
      obtain ⟨t14, h13, q12, hf⟩ := bnd2 hf
      refine x_callVi (As := []) cf_X5_57 (c_X5_number l G N v0 h8 _ _ q12) rfl ⟨rfl, rfl, Nat.le_of_ble_eq_true rfl, Nat.le_of_ble_eq_true rfl⟩ ⟨Nat.le_of_ble_eq_true rfl, Nat.le_of_ble_eq_true rfl⟩ X M (x_recv cls_X5 X M q11) rfl rfl hl.1 (Nat.le_of_ble_eq_true rfl) dX5_test_27 (fun H locs M => ?_)
      refine lv_istore (lv' := [(4, .int t14), (3, .int t9), (2, .int t4), (0, .ref (gB G + v0)), (1, .ref (gB G + v1))]) X.1 X.2.1 dX5_test_30 hl (by decide) rfl (fun ls hl => ?_)
      refine lv_iload X.1 X.2.1 dX5_test_32 (lv_at hl 0 rfl) ?_
      refine lv_if_ge (tgt := 39) X.1 X.2.1 dX5_test_34 (by decide) (fun c15 => ?_) (fun c15 => ?_)
      · have hf := ifp c15 hf
        refine lv_aload_n X.1 X.2.1 dX5_test_39 rfl (lv_at hl 4 rfl) ?_
        refine lv_iload_n X.1 X.2.1 dX5_test_40 rfl (lv_at hl 2 rfl) ?_
        refine lv_iconst (v := (3 : Int32)) X.1 X.2.1 dX5_test_41 (by decide) ?_
        refine lv_imul X.1 X.2.1 dX5_test_42 ?_
        refine lv_iload_n X.1 X.2.1 dX5_test_43 rfl (lv_at hl 1 rfl) ?_
        refine lv_iadd X.1 X.2.1 dX5_test_44 ?_
        refine lv_iload X.1 X.2.1 dX5_test_45 (lv_at hl 0 rfl) ?_
        obtain ⟨⟨⟩, q16, hf⟩ := bnd hf
        obtain ⟨h18, q17, hf⟩ := bnd hf
        refine x_callVv (As := [.int ((t4 * (3 : Int32)) + t9), .int t14]) cf_X5_98 (c_X3_emit l G N v1 ((t4 * (3 : Int32)) + t9) t14 h13 _ q17) rfl ⟨rfl, rfl, Nat.le_of_ble_eq_true rfl, Nat.le_of_ble_eq_true rfl⟩ ⟨Nat.le_of_ble_eq_true rfl, Nat.le_of_ble_eq_true rfl⟩ X M (x_recv cls_X3 X M q16) rfl rfl hl.1 (Nat.le_of_ble_eq_true rfl) dX5_test_47 (fun H locs M => ?_)
        refine lv_iconst (v := (1 : Int32)) X.1 X.2.1 dX5_test_50 (by decide) ?_
        obtain ⟨rfl, rfl⟩ := rt2 hf
        exact x_zret X hr hk rfl M dX5_test_51
      · have hf := ifn c15 hf
        refine lv_iconst (v := (0 : Int32)) X.1 X.2.1 dX5_test_37 (by decide) ?_
        obtain ⟨rfl, rfl⟩ := rt2 hf
        exact x_zret X hr hk rfl M dX5_test_38
    · have hf := ifn c10 hf
      refine lv_iconst (v := (0 : Int32)) X.1 X.2.1 dX5_test_24 (by decide) ?_
      obtain ⟨rfl, rfl⟩ := rt2 hf
      exact x_zret X hr hk rfl M dX5_test_25
  · have hf := ifn c5 hf
    refine lv_iconst (v := (0 : Int32)) X.1 X.2.1 dX5_test_11 (by decide) ?_
    obtain ⟨rfl, rfl⟩ := rt2 hf
    exact x_zret X hr hk rfl M dX5_test_12
theorem c_X5_test (l : Launch) (G : Gx) (N : Nat) (v0 : Nat) (v1 : Nat) (h : Mem) (r : Int32) (h' : Mem) (hf : f_X5_test N v0 v1 h = some (r, h')) : MetG l G yX5_test (.code yX5_test cX5_test 5 (Option.some Jvm.ClassFile.FieldType.boolean)) rm_X5_test [.ref (gB G + v0), .ref (gB G + v1)] h (QcI G r h') 0 0 :=
  x_met (by decide) rfl (Nat.le_of_ble_eq_true rfl) (fun p e s m args below meth c ls X M hr hk hin hl => w_X5_test X hr hk N v0 v1 h hf _ _ ls M hl)
abbrev rmR_X5_factor (d : Nat) : Room := { frames := 2 * d + 7, cells := 0, slots := 0, locals := 64 * d + 177 }
abbrev rm_X5_either (d : Nat) : Room := { frames := 2 * d + 8, cells := 0, slots := 0, locals := 64 * d + 209 }
def f_X5_either_64 (rc : Nat → Nat → Int32 → Mem → Option (Int32 × Mem)) (N : Nat) (v0 : Nat) (v1 : Nat) (v2 : Int32) (v5 : Int32) (h : Mem) (k8 : Nat → Nat → Int32 → Int32 → Int32 → Int32 → Mem → Option (Int32 × Mem)) : Option (Int32 × Mem) :=
  (ck h v0 5).bind fun _ =>
  b2 (f_X5_met N v0 (124 : Int32) h) fun t4 h3 =>
  if t4 = 0 then
    some ((1 : Int32), h3)
  else
    k8 v0 v1 v2 (0 : Int32) (1 : Int32) (v5 + 1) h3
set_option maxRecDepth 100000 in
set_option maxHeartbeats 4000000 in
theorem w_X5_either_64 {p : Program} {l : Launch} {e : Env} {s : State} {m : MethodId} {args : Array Value} {below : List Frame} {meth : Method} {c : Code} {G : Gx} {r : Int32} {h' : Mem} (X : CX G p s m args c cX5_either 6 RX5) (hr : meth.sig.returnType = (Option.some Jvm.ClassFile.FieldType.boolean)) (hk : meth.locks = false) {d : Nat} (rc : Nat → Nat → Int32 → Mem → Option (Int32 × Mem)) (hrc : ∀ (a0 : Nat) (a1 : Nat) (a2 : Int32) (h : Mem) (r : Int32) (h' : Mem), rc a0 a1 a2 h = some (r, h') → MetG l G yX5_factor (.code yX5_factor cX5_factor 4 (Option.some Jvm.ClassFile.FieldType.boolean)) (rmR_X5_factor d) [.ref (gB G + a0), .ref (gB G + a1), .int a2] h (QcI G r h') 0 0) (N : Nat) (k8 : Nat → Nat → Int32 → Int32 → Int32 → Int32 → Mem → Option (Int32 × Mem)) (K8 : ∀ (v0 : Nat) (v1 : Nat) (v2 : Int32) (v3 : Int32) (v4 : Int32) (v5 : Int32) (h : Mem), k8 v0 v1 v2 v3 v4 v5 h = some (r, h') → ∀ (H : Heap) (locs : List Loc) (ls : Array Slot), MS G s h H locs 0 → lv_has ls 6 [(0, .ref (gB G + v0)), (1, .ref (gB G + v1)), (2, .int v2), (3, .int v3), (4, .int v4), (5, .int v5)] → W p l e (rm_X5_either d) s m args below meth c H locs 0 0 (QI G below args s r h' 0 0) (F0 m 8 ls [])) : ∀ (v0 : Nat) (v1 : Nat) (v2 : Int32) (v5 : Int32) (h : Mem), f_X5_either_64 rc N v0 v1 v2 v5 h k8 = some (r, h') → ∀ (H : Heap) (locs : List Loc) (ls : Array Slot), MS G s h H locs 0 → lv_has ls 6 [(0, .ref (gB G + v0)), (1, .ref (gB G + v1)), (2, .int v2), (5, .int v5)] → W p l e (rm_X5_either d) s m args below meth c H locs 0 0 (QI G below args s r h' 0 0) (F0 m 64 ls []) := by
  intro v0 v1 v2 v5 h hf H locs ls M hl
  rw [f_X5_either_64] at hf
  refine lv_iconst (v := (0 : Int32)) X.1 X.2.1 dX5_either_64 (by decide) ?_
  refine lv_istore_n (lv' := [(3, .int (0 : Int32)), (0, .ref (gB G + v0)), (1, .ref (gB G + v1)), (2, .int v2), (5, .int v5)]) X.1 X.2.1 dX5_either_65 rfl hl (by decide) rfl (fun ls hl => ?_)
  refine lv_iconst (v := (1 : Int32)) X.1 X.2.1 dX5_either_66 (by decide) ?_
  refine lv_istore (lv' := [(4, .int (1 : Int32)), (3, .int (0 : Int32)), (0, .ref (gB G + v0)), (1, .ref (gB G + v1)), (2, .int v2), (5, .int v5)]) X.1 X.2.1 dX5_either_67 hl (by decide) rfl (fun ls hl => ?_)
  refine lv_aload_n X.1 X.2.1 dX5_either_69 rfl (lv_at hl 2 rfl) ?_
  refine lv_bipush (v := (124 : Int32)) X.1 X.2.1 dX5_either_70 (by decide) ?_
  obtain ⟨⟨⟩, q1, hf⟩ := bnd hf
  obtain ⟨t4, h3, q2, hf⟩ := bnd2 hf
  refine x_callVi (As := [.int (124 : Int32)]) cf_X5_31 (c_X5_met l G N v0 (124 : Int32) h _ _ q2) rfl ⟨rfl, rfl, by simp only [rm_X5_either, rm_X5_met]; omega, by simp only [rm_X5_either, rm_X5_met]; omega⟩ ⟨Nat.le_of_ble_eq_true rfl, Nat.le_of_ble_eq_true rfl⟩ X M (x_recv cls_X5 X M q1) rfl rfl hl.1 (Nat.le_of_ble_eq_true rfl) dX5_either_72 (fun H locs M => ?_)
  refine lv_if_ne (tgt := 80) X.1 X.2.1 dX5_either_75 (by decide) (fun c5 => ?_) (fun c5 => ?_)
  · have hf := ifn c5 hf
    refine lv_iinc (v := (v5 + 1)) (lv' := [(5, .int (v5 + 1)), (4, .int (1 : Int32)), (3, .int (0 : Int32)), (0, .ref (gB G + v0)), (1, .ref (gB G + v1)), (2, .int v2)]) X.1 X.2.1 dX5_either_80 hl (k := 5) rfl (by first | rfl | decide) (by decide) rfl (fun ls hl => ?_)
    refine lv_goto (tgt := 8) X.1 X.2.1 dX5_either_83 (by decide) ?_
    exact K8 v0 v1 v2 (0 : Int32) (1 : Int32) (v5 + 1) h3 hf _ _ _ M (lv_sub hl [3, 4, 5, 2, 1, 0] rfl)
  · have hf := ifp c5 hf
    refine lv_iconst (v := (1 : Int32)) X.1 X.2.1 dX5_either_78 (by decide) ?_
    obtain ⟨rfl, rfl⟩ := rt2 hf
    exact x_zret X hr hk rfl M dX5_either_79
def f_X5_either_38 (rc : Nat → Nat → Int32 → Mem → Option (Int32 × Mem)) (N : Nat) (v0 : Nat) (v1 : Nat) (v2 : Int32) (v3 : Int32) (v5 : Int32) (h : Mem) (k8 : Nat → Nat → Int32 → Int32 → Int32 → Int32 → Mem → Option (Int32 × Mem)) : Option (Int32 × Mem) :=
  (ck h v0 5).bind fun _ =>
  b2 (f_X5_met N v0 (38 : Int32) h) fun t4 h3 =>
  if t4 = 0 then
    if v3 = 0 then
      (ck h3 v1 3).bind fun _ =>
      (f_X3_emit N v1 (14 : Int32) (0 : Int32) h3).bind fun h9 =>
      f_X5_either_64 rc N v0 v1 v2 v5 h9 k8
    else
      f_X5_either_64 rc N v0 v1 v2 v5 h3 k8
  else
    k8 v0 v1 v2 v3 (0 : Int32) (v5 + 1) h3
set_option maxRecDepth 100000 in
set_option maxHeartbeats 4000000 in
theorem w_X5_either_38 {p : Program} {l : Launch} {e : Env} {s : State} {m : MethodId} {args : Array Value} {below : List Frame} {meth : Method} {c : Code} {G : Gx} {r : Int32} {h' : Mem} (X : CX G p s m args c cX5_either 6 RX5) (hr : meth.sig.returnType = (Option.some Jvm.ClassFile.FieldType.boolean)) (hk : meth.locks = false) {d : Nat} (rc : Nat → Nat → Int32 → Mem → Option (Int32 × Mem)) (hrc : ∀ (a0 : Nat) (a1 : Nat) (a2 : Int32) (h : Mem) (r : Int32) (h' : Mem), rc a0 a1 a2 h = some (r, h') → MetG l G yX5_factor (.code yX5_factor cX5_factor 4 (Option.some Jvm.ClassFile.FieldType.boolean)) (rmR_X5_factor d) [.ref (gB G + a0), .ref (gB G + a1), .int a2] h (QcI G r h') 0 0) (N : Nat) (k8 : Nat → Nat → Int32 → Int32 → Int32 → Int32 → Mem → Option (Int32 × Mem)) (K8 : ∀ (v0 : Nat) (v1 : Nat) (v2 : Int32) (v3 : Int32) (v4 : Int32) (v5 : Int32) (h : Mem), k8 v0 v1 v2 v3 v4 v5 h = some (r, h') → ∀ (H : Heap) (locs : List Loc) (ls : Array Slot), MS G s h H locs 0 → lv_has ls 6 [(0, .ref (gB G + v0)), (1, .ref (gB G + v1)), (2, .int v2), (3, .int v3), (4, .int v4), (5, .int v5)] → W p l e (rm_X5_either d) s m args below meth c H locs 0 0 (QI G below args s r h' 0 0) (F0 m 8 ls [])) : ∀ (v0 : Nat) (v1 : Nat) (v2 : Int32) (v3 : Int32) (v5 : Int32) (h : Mem), f_X5_either_38 rc N v0 v1 v2 v3 v5 h k8 = some (r, h') → ∀ (H : Heap) (locs : List Loc) (ls : Array Slot), MS G s h H locs 0 → lv_has ls 6 [(0, .ref (gB G + v0)), (1, .ref (gB G + v1)), (2, .int v2), (3, .int v3), (5, .int v5)] → W p l e (rm_X5_either d) s m args below meth c H locs 0 0 (QI G below args s r h' 0 0) (F0 m 38 ls []) := by
  intro v0 v1 v2 v3 v5 h hf H locs ls M hl
  rw [f_X5_either_38] at hf
  refine lv_iconst (v := (0 : Int32)) X.1 X.2.1 dX5_either_38 (by decide) ?_
  refine lv_istore (lv' := [(4, .int (0 : Int32)), (0, .ref (gB G + v0)), (1, .ref (gB G + v1)), (2, .int v2), (3, .int v3), (5, .int v5)]) X.1 X.2.1 dX5_either_39 hl (by decide) rfl (fun ls hl => ?_)
  refine lv_aload_n X.1 X.2.1 dX5_either_41 rfl (lv_at hl 1 rfl) ?_
  refine lv_bipush (v := (38 : Int32)) X.1 X.2.1 dX5_either_42 (by decide) ?_
  obtain ⟨⟨⟩, q1, hf⟩ := bnd hf
  obtain ⟨t4, h3, q2, hf⟩ := bnd2 hf
  refine x_callVi (As := [.int (38 : Int32)]) cf_X5_31 (c_X5_met l G N v0 (38 : Int32) h _ _ q2) rfl ⟨rfl, rfl, by simp only [rm_X5_either, rm_X5_met]; omega, by simp only [rm_X5_either, rm_X5_met]; omega⟩ ⟨Nat.le_of_ble_eq_true rfl, Nat.le_of_ble_eq_true rfl⟩ X M (x_recv cls_X5 X M q1) rfl rfl hl.1 (Nat.le_of_ble_eq_true rfl) dX5_either_44 (fun H locs M => ?_)
  refine lv_if_eq (tgt := 53) X.1 X.2.1 dX5_either_47 (by decide) (fun c5 => ?_) (fun c5 => ?_)
  · have hf := ifp c5 hf
    refine lv_iload_n X.1 X.2.1 dX5_either_53 rfl (lv_at hl 4 rfl) ?_
    refine lv_if_ne (tgt := 64) X.1 X.2.1 dX5_either_54 (by decide) (fun c6 => ?_) (fun c6 => ?_)
    · have hf := ifn c6 hf
      exact w_X5_either_64 X hr hk rc hrc N _ K8 v0 v1 v2 v5 h3 hf _ _ _ M (lv_sub hl [1, 2, 3, 5] rfl)
    · have hf := ifp c6 hf
      refine lv_aload_n X.1 X.2.1 dX5_either_57 rfl (lv_at hl 2 rfl) ?_
      refine lv_bipush (v := (14 : Int32)) X.1 X.2.1 dX5_either_58 (by decide) ?_
      refine lv_iconst (v := (0 : Int32)) X.1 X.2.1 dX5_either_60 (by decide) ?_
      obtain ⟨⟨⟩, q7, hf⟩ := bnd hf
      obtain ⟨h9, q8, hf⟩ := bnd hf
      refine x_callVv (As := [.int (14 : Int32), .int (0 : Int32)]) cf_X5_98 (c_X3_emit l G N v1 (14 : Int32) (0 : Int32) h3 _ q8) rfl ⟨rfl, rfl, by simp only [rm_X5_either, rm_X3_emit]; omega, by simp only [rm_X5_either, rm_X3_emit]; omega⟩ ⟨Nat.le_of_ble_eq_true rfl, Nat.le_of_ble_eq_true rfl⟩ X M (x_recv cls_X3 X M q7) rfl rfl hl.1 (Nat.le_of_ble_eq_true rfl) dX5_either_61 (fun H locs M => ?_)
      exact w_X5_either_64 X hr hk rc hrc N _ K8 v0 v1 v2 v5 h9 hf _ _ _ M (lv_sub hl [1, 2, 3, 5] rfl)
  · have hf := ifn c5 hf
    refine lv_goto (tgt := 80) X.1 X.2.1 dX5_either_50 (by decide) ?_
    refine lv_iinc (v := (v5 + 1)) (lv' := [(5, .int (v5 + 1)), (4, .int (0 : Int32)), (0, .ref (gB G + v0)), (1, .ref (gB G + v1)), (2, .int v2), (3, .int v3)]) X.1 X.2.1 dX5_either_80 hl (k := 5) rfl (by first | rfl | decide) (by decide) rfl (fun ls hl => ?_)
    refine lv_goto (tgt := 8) X.1 X.2.1 dX5_either_83 (by decide) ?_
    exact K8 v0 v1 v2 v3 (0 : Int32) (v5 + 1) h3 hf _ _ _ M (lv_sub hl [2, 3, 4, 5, 1, 0] rfl)
def f_X5_either_8 (rc : Nat → Nat → Int32 → Mem → Option (Int32 × Mem)) (N : Nat) (n : Nat) (v0 : Nat) (v1 : Nat) (v2 : Int32) (v3 : Int32) (v4 : Int32) (v5 : Int32) (h : Mem) : Option (Int32 × Mem) := match n with
  | 0 => none
  | n + 1 =>
    if (120 : Int32) ≤ v5 then
      some ((0 : Int32), h)
    else
      (ck h v0 5).bind fun _ =>
      b2 (rc v0 v1 v2 h) fun t5 h4 =>
      if t5 = 0 then
        some ((0 : Int32), h4)
      else
        if v4 = 0 then
          (ck h4 v1 3).bind fun _ =>
          (f_X3_emit N v1 (13 : Int32) (0 : Int32) h4).bind fun h10 =>
          f_X5_either_38 rc N v0 v1 v2 v3 v5 h10 (fun v0 v1 v2 v3 v4 v5 h => f_X5_either_8 rc N n v0 v1 v2 v3 v4 v5 h)
        else
          f_X5_either_38 rc N v0 v1 v2 v3 v5 h4 (fun v0 v1 v2 v3 v4 v5 h => f_X5_either_8 rc N n v0 v1 v2 v3 v4 v5 h)
set_option maxRecDepth 100000 in
set_option maxHeartbeats 4000000 in
theorem w_X5_either_8 {p : Program} {l : Launch} {e : Env} {s : State} {m : MethodId} {args : Array Value} {below : List Frame} {meth : Method} {c : Code} {G : Gx} {r : Int32} {h' : Mem} (X : CX G p s m args c cX5_either 6 RX5) (hr : meth.sig.returnType = (Option.some Jvm.ClassFile.FieldType.boolean)) (hk : meth.locks = false) {d : Nat} (rc : Nat → Nat → Int32 → Mem → Option (Int32 × Mem)) (hrc : ∀ (a0 : Nat) (a1 : Nat) (a2 : Int32) (h : Mem) (r : Int32) (h' : Mem), rc a0 a1 a2 h = some (r, h') → MetG l G yX5_factor (.code yX5_factor cX5_factor 4 (Option.some Jvm.ClassFile.FieldType.boolean)) (rmR_X5_factor d) [.ref (gB G + a0), .ref (gB G + a1), .int a2] h (QcI G r h') 0 0) (N : Nat) : ∀ (n : Nat) (v0 : Nat) (v1 : Nat) (v2 : Int32) (v3 : Int32) (v4 : Int32) (v5 : Int32) (h : Mem), f_X5_either_8 rc N n v0 v1 v2 v3 v4 v5 h = some (r, h') → ∀ (H : Heap) (locs : List Loc) (ls : Array Slot), MS G s h H locs 0 → lv_has ls 6 [(0, .ref (gB G + v0)), (1, .ref (gB G + v1)), (2, .int v2), (3, .int v3), (4, .int v4), (5, .int v5)] → W p l e (rm_X5_either d) s m args below meth c H locs 0 0 (QI G below args s r h' 0 0) (F0 m 8 ls []) := by
  intro n
  induction n with
  | zero =>
    intro v0 v1 v2 v3 v4 v5 h hf
    cases hf
  | succ n ih =>
    intro v0 v1 v2 v3 v4 v5 h hf H locs ls M hl
    rw [f_X5_either_8] at hf
    refine lv_iload X.1 X.2.1 dX5_either_8 (lv_at hl 5 rfl) ?_
    refine lv_bipush (v := (120 : Int32)) X.1 X.2.1 dX5_either_10 (by decide) ?_
    refine lv_icmp_ge (tgt := 86) X.1 X.2.1 dX5_either_12 (by decide) (fun c1 => ?_) (fun c1 => ?_)
    · have hf := ifp c1 hf
      refine lv_iconst (v := (0 : Int32)) X.1 X.2.1 dX5_either_86 (by decide) ?_
      obtain ⟨rfl, rfl⟩ := rt2 hf
      exact x_zret X hr hk rfl M dX5_either_87
    · have hf := ifn c1 hf
      refine lv_aload_n X.1 X.2.1 dX5_either_15 rfl (lv_at hl 0 rfl) ?_
      refine lv_aload_n X.1 X.2.1 dX5_either_16 rfl (lv_at hl 1 rfl) ?_
      refine lv_iload_n X.1 X.2.1 dX5_either_17 rfl (lv_at hl 2 rfl) ?_
      obtain ⟨⟨⟩, q2, hf⟩ := bnd hf
      obtain ⟨t5, h4, q3, hf⟩ := bnd2 hf
      refine x_callVi (As := [.ref (gB G + v1), .int v2]) cf_X5_102 (hrc v0 v1 v2 h _ _ q3) rfl ⟨rfl, rfl, by simp only [rmR_X5_factor, rm_X5_either]; omega, by simp only [rmR_X5_factor, rm_X5_either]; omega⟩ ⟨Nat.le_of_ble_eq_true rfl, Nat.le_of_ble_eq_true rfl⟩ X M (x_recv cls_X5 X M q2) rfl rfl hl.1 (Nat.le_of_ble_eq_true rfl) dX5_either_18 (fun H locs M => ?_)
      refine lv_if_ne (tgt := 26) X.1 X.2.1 dX5_either_21 (by decide) (fun c6 => ?_) (fun c6 => ?_)
      · have hf := ifn c6 hf
        refine lv_iload X.1 X.2.1 dX5_either_26 (lv_at hl 4 rfl) ?_
        refine lv_if_ne (tgt := 38) X.1 X.2.1 dX5_either_28 (by decide) (fun c7 => ?_) (fun c7 => ?_)
        · have hf := ifn c7 hf
          exact w_X5_either_38 X hr hk rc hrc N _ (fun v0 v1 v2 v3 v4 v5 h hf H locs ls M hl => ih v0 v1 v2 v3 v4 v5 h hf H locs ls M hl) v0 v1 v2 v3 v5 h4 hf _ _ _ M (lv_sub hl [0, 1, 2, 3, 5] rfl)
        · have hf := ifp c7 hf
          refine lv_aload_n X.1 X.2.1 dX5_either_31 rfl (lv_at hl 1 rfl) ?_
          refine lv_bipush (v := (13 : Int32)) X.1 X.2.1 dX5_either_32 (by decide) ?_
          refine lv_iconst (v := (0 : Int32)) X.1 X.2.1 dX5_either_34 (by decide) ?_
          obtain ⟨⟨⟩, q8, hf⟩ := bnd hf
          obtain ⟨h10, q9, hf⟩ := bnd hf
          refine x_callVv (As := [.int (13 : Int32), .int (0 : Int32)]) cf_X5_98 (c_X3_emit l G N v1 (13 : Int32) (0 : Int32) h4 _ q9) rfl ⟨rfl, rfl, by simp only [rm_X5_either, rm_X3_emit]; omega, by simp only [rm_X5_either, rm_X3_emit]; omega⟩ ⟨Nat.le_of_ble_eq_true rfl, Nat.le_of_ble_eq_true rfl⟩ X M (x_recv cls_X3 X M q8) rfl rfl hl.1 (Nat.le_of_ble_eq_true rfl) dX5_either_35 (fun H locs M => ?_)
          exact w_X5_either_38 X hr hk rc hrc N _ (fun v0 v1 v2 v3 v4 v5 h hf H locs ls M hl => ih v0 v1 v2 v3 v4 v5 h hf H locs ls M hl) v0 v1 v2 v3 v5 h10 hf _ _ _ M (lv_sub hl [0, 1, 2, 3, 5] rfl)
      · have hf := ifp c6 hf
        refine lv_iconst (v := (0 : Int32)) X.1 X.2.1 dX5_either_24 (by decide) ?_
        obtain ⟨rfl, rfl⟩ := rt2 hf
        exact x_zret X hr hk rfl M dX5_either_25
def f_X5_either (rc : Nat → Nat → Int32 → Mem → Option (Int32 × Mem)) (N : Nat) (v0 : Nat) (v1 : Nat) (v2 : Int32) (h : Mem) : Option (Int32 × Mem) :=
  f_X5_either_8 rc N N v0 v1 v2 (1 : Int32) (1 : Int32) (0 : Int32) h
set_option maxRecDepth 100000 in
set_option maxHeartbeats 4000000 in
theorem w_X5_either {p : Program} {l : Launch} {e : Env} {s : State} {m : MethodId} {args : Array Value} {below : List Frame} {meth : Method} {c : Code} {G : Gx} {r : Int32} {h' : Mem} (X : CX G p s m args c cX5_either 6 RX5) (hr : meth.sig.returnType = (Option.some Jvm.ClassFile.FieldType.boolean)) (hk : meth.locks = false) {d : Nat} (rc : Nat → Nat → Int32 → Mem → Option (Int32 × Mem)) (hrc : ∀ (a0 : Nat) (a1 : Nat) (a2 : Int32) (h : Mem) (r : Int32) (h' : Mem), rc a0 a1 a2 h = some (r, h') → MetG l G yX5_factor (.code yX5_factor cX5_factor 4 (Option.some Jvm.ClassFile.FieldType.boolean)) (rmR_X5_factor d) [.ref (gB G + a0), .ref (gB G + a1), .int a2] h (QcI G r h') 0 0) (N : Nat) : ∀ (v0 : Nat) (v1 : Nat) (v2 : Int32) (h : Mem), f_X5_either rc N v0 v1 v2 h = some (r, h') → ∀ (H : Heap) (locs : List Loc) (ls : Array Slot), MS G s h H locs 0 → lv_has ls 6 [(0, .ref (gB G + v0)), (1, .ref (gB G + v1)), (2, .int v2)] → W p l e (rm_X5_either d) s m args below meth c H locs 0 0 (QI G below args s r h' 0 0) (F0 m 0 ls []) := by
  intro v0 v1 v2 h hf H locs ls M hl
  rw [f_X5_either] at hf
  refine lv_iconst (v := (1 : Int32)) X.1 X.2.1 dX5_either_0 (by decide) ?_
  refine lv_istore_n (lv' := [(3, .int (1 : Int32)), (0, .ref (gB G + v0)), (1, .ref (gB G + v1)), (2, .int v2)]) X.1 X.2.1 dX5_either_1 rfl hl (by decide) rfl (fun ls hl => ?_)
  refine lv_iconst (v := (1 : Int32)) X.1 X.2.1 dX5_either_2 (by decide) ?_
  refine lv_istore (lv' := [(4, .int (1 : Int32)), (3, .int (1 : Int32)), (0, .ref (gB G + v0)), (1, .ref (gB G + v1)), (2, .int v2)]) X.1 X.2.1 dX5_either_3 hl (by decide) rfl (fun ls hl => ?_)
  refine lv_iconst (v := (0 : Int32)) X.1 X.2.1 dX5_either_5 (by decide) ?_
  refine lv_istore (lv' := [(5, .int (0 : Int32)), (4, .int (1 : Int32)), (3, .int (1 : Int32)), (0, .ref (gB G + v0)), (1, .ref (gB G + v1)), (2, .int v2)]) X.1 X.2.1 dX5_either_6 hl (by decide) rfl (fun ls hl => ?_)
  exact w_X5_either_8 X hr hk rc hrc N N v0 v1 v2 (1 : Int32) (1 : Int32) (0 : Int32) h hf _ _ _ M (lv_sub hl [3, 4, 5, 2, 1, 0] rfl)
theorem c_X5_either (l : Launch) (G : Gx) {d : Nat} (rc : Nat → Nat → Int32 → Mem → Option (Int32 × Mem)) (hrc : ∀ (a0 : Nat) (a1 : Nat) (a2 : Int32) (h : Mem) (r : Int32) (h' : Mem), rc a0 a1 a2 h = some (r, h') → MetG l G yX5_factor (.code yX5_factor cX5_factor 4 (Option.some Jvm.ClassFile.FieldType.boolean)) (rmR_X5_factor d) [.ref (gB G + a0), .ref (gB G + a1), .int a2] h (QcI G r h') 0 0) (N : Nat) (v0 : Nat) (v1 : Nat) (v2 : Int32) (h : Mem) (r : Int32) (h' : Mem) (hf : f_X5_either rc N v0 v1 v2 h = some (r, h')) : MetG l G yX5_either (.code yX5_either cX5_either 6 (Option.some Jvm.ClassFile.FieldType.boolean)) (rm_X5_either d) [.ref (gB G + v0), .ref (gB G + v1), .int v2] h (QcI G r h') 0 0 :=
  x_met (by decide) rfl (Nat.le_of_ble_eq_true rfl) (fun p e s m args below meth c ls X M hr hk hin hl => w_X5_either X hr hk rc hrc N v0 v1 v2 h hf _ _ ls M hl)
abbrev rm_X5_factor (d : Nat) : Room := { frames := 2 * d + 9, cells := 0, slots := 0, locals := 64 * d + 241 }
def f_X5_factor_39 (rc : Nat → Nat → Int32 → Mem → Option (Int32 × Mem)) (N : Nat) (v0 : Nat) (v1 : Nat) (v2 : Int32) (h : Mem) (k44 : Nat → Nat → Int32 → Int32 → Mem → Option (Int32 × Mem)) : Option (Int32 × Mem) :=
  k44 v0 v1 v2 (1 : Int32) h
set_option maxRecDepth 100000 in
set_option maxHeartbeats 4000000 in
theorem w_X5_factor_39 {p : Program} {l : Launch} {e : Env} {s : State} {m : MethodId} {args : Array Value} {below : List Frame} {meth : Method} {c : Code} {G : Gx} {r : Int32} {h' : Mem} (X : CX G p s m args c cX5_factor 4 RX5) (hr : meth.sig.returnType = (Option.some Jvm.ClassFile.FieldType.boolean)) (hk : meth.locks = false) {d : Nat} (rc : Nat → Nat → Int32 → Mem → Option (Int32 × Mem)) (hrc : ∀ (a0 : Nat) (a1 : Nat) (a2 : Int32) (h : Mem) (r : Int32) (h' : Mem), rc a0 a1 a2 h = some (r, h') → MetG l G yX5_factor (.code yX5_factor cX5_factor 4 (Option.some Jvm.ClassFile.FieldType.boolean)) (rmR_X5_factor d) [.ref (gB G + a0), .ref (gB G + a1), .int a2] h (QcI G r h') 0 0) (N : Nat) (k44 : Nat → Nat → Int32 → Int32 → Mem → Option (Int32 × Mem)) (K44 : ∀ (v0 : Nat) (v1 : Nat) (v2 : Int32) (s0 : Int32) (h : Mem), k44 v0 v1 v2 s0 h = some (r, h') → ∀ (H : Heap) (locs : List Loc) (ls : Array Slot), MS G s h H locs 0 → lv_has ls 4 [(0, .ref (gB G + v0)), (1, .ref (gB G + v1)), (2, .int v2)] → W p l e (rm_X5_factor d) s m args below meth c H locs 0 0 (QI G below args s r h' 0 0) (F0 m 44 ls [.int s0])) : ∀ (v0 : Nat) (v1 : Nat) (v2 : Int32) (h : Mem), f_X5_factor_39 rc N v0 v1 v2 h k44 = some (r, h') → ∀ (H : Heap) (locs : List Loc) (ls : Array Slot), MS G s h H locs 0 → lv_has ls 4 [(0, .ref (gB G + v0)), (1, .ref (gB G + v1)), (2, .int v2)] → W p l e (rm_X5_factor d) s m args below meth c H locs 0 0 (QI G below args s r h' 0 0) (F0 m 39 ls []) := by
  intro v0 v1 v2 h hf H locs ls M hl
  rw [f_X5_factor_39] at hf
  refine lv_iconst (v := (1 : Int32)) X.1 X.2.1 dX5_factor_39 (by decide) ?_
  refine lv_goto (tgt := 44) X.1 X.2.1 dX5_factor_40 (by decide) ?_
  exact K44 v0 v1 v2 (1 : Int32) h hf _ _ _ M (lv_sub hl [0, 1, 2] rfl)
def f_X5_factor_43 (rc : Nat → Nat → Int32 → Mem → Option (Int32 × Mem)) (N : Nat) (v0 : Nat) (v1 : Nat) (v2 : Int32) (h : Mem) (k44 : Nat → Nat → Int32 → Int32 → Mem → Option (Int32 × Mem)) : Option (Int32 × Mem) :=
  k44 v0 v1 v2 (0 : Int32) h
set_option maxRecDepth 100000 in
set_option maxHeartbeats 4000000 in
theorem w_X5_factor_43 {p : Program} {l : Launch} {e : Env} {s : State} {m : MethodId} {args : Array Value} {below : List Frame} {meth : Method} {c : Code} {G : Gx} {r : Int32} {h' : Mem} (X : CX G p s m args c cX5_factor 4 RX5) (hr : meth.sig.returnType = (Option.some Jvm.ClassFile.FieldType.boolean)) (hk : meth.locks = false) {d : Nat} (rc : Nat → Nat → Int32 → Mem → Option (Int32 × Mem)) (hrc : ∀ (a0 : Nat) (a1 : Nat) (a2 : Int32) (h : Mem) (r : Int32) (h' : Mem), rc a0 a1 a2 h = some (r, h') → MetG l G yX5_factor (.code yX5_factor cX5_factor 4 (Option.some Jvm.ClassFile.FieldType.boolean)) (rmR_X5_factor d) [.ref (gB G + a0), .ref (gB G + a1), .int a2] h (QcI G r h') 0 0) (N : Nat) (k44 : Nat → Nat → Int32 → Int32 → Mem → Option (Int32 × Mem)) (K44 : ∀ (v0 : Nat) (v1 : Nat) (v2 : Int32) (s0 : Int32) (h : Mem), k44 v0 v1 v2 s0 h = some (r, h') → ∀ (H : Heap) (locs : List Loc) (ls : Array Slot), MS G s h H locs 0 → lv_has ls 4 [(0, .ref (gB G + v0)), (1, .ref (gB G + v1)), (2, .int v2)] → W p l e (rm_X5_factor d) s m args below meth c H locs 0 0 (QI G below args s r h' 0 0) (F0 m 44 ls [.int s0])) : ∀ (v0 : Nat) (v1 : Nat) (v2 : Int32) (h : Mem), f_X5_factor_43 rc N v0 v1 v2 h k44 = some (r, h') → ∀ (H : Heap) (locs : List Loc) (ls : Array Slot), MS G s h H locs 0 → lv_has ls 4 [(0, .ref (gB G + v0)), (1, .ref (gB G + v1)), (2, .int v2)] → W p l e (rm_X5_factor d) s m args below meth c H locs 0 0 (QI G below args s r h' 0 0) (F0 m 43 ls []) := by
  intro v0 v1 v2 h hf H locs ls M hl
  rw [f_X5_factor_43] at hf
  refine lv_iconst (v := (0 : Int32)) X.1 X.2.1 dX5_factor_43 (by decide) ?_
  exact K44 v0 v1 v2 (0 : Int32) h hf _ _ _ M (lv_sub hl [0, 1, 2] rfl)
def f_X5_factor_56 (rc : Nat → Nat → Int32 → Mem → Option (Int32 × Mem)) (N : Nat) (v0 : Nat) (v1 : Nat) (v2 : Int32) (h : Mem) : Option (Int32 × Mem) :=
  (ck h v0 5).bind fun _ =>
  b2 (f_X5_met N v0 (33 : Int32) h) fun t4 h3 =>
  if t4 = 0 then
    (ck h3 v0 5).bind fun _ =>
    b2 (f_X5_met N v0 (40 : Int32) h3) fun t9 h8 =>
    if t9 = 0 then
      (ck h8 v0 5).bind fun _ =>
      b2 (f_X5_test N v0 v1 h8) fun t14 h13 =>
      rz t14 h13
    else
      (ck h8 v0 5).bind fun _ =>
      b2 (f_X5_either rc N v0 v1 (v2 + (1 : Int32)) h8) fun t18 h17 =>
      if t18 = 0 then
        some ((0 : Int32), h17)
      else
        (ck h17 v0 5).bind fun _ =>
        b2 (f_X5_met N v0 (41 : Int32) h17) fun t23 h22 =>
        if t23 = 0 then
          some ((0 : Int32), h22)
        else
          some ((1 : Int32), h22)
  else
    (ck h3 v0 5).bind fun _ =>
    b2 (rc v0 v1 (v2 + (1 : Int32)) h3) fun t28 h27 =>
    if t28 = 0 then
      some ((0 : Int32), h27)
    else
      (ck h27 v1 3).bind fun _ =>
      (f_X3_emit N v1 (12 : Int32) (0 : Int32) h27).bind fun h32 =>
      some ((1 : Int32), h32)
set_option maxRecDepth 100000 in
set_option maxHeartbeats 4000000 in
theorem w_X5_factor_56 {p : Program} {l : Launch} {e : Env} {s : State} {m : MethodId} {args : Array Value} {below : List Frame} {meth : Method} {c : Code} {G : Gx} {r : Int32} {h' : Mem} (X : CX G p s m args c cX5_factor 4 RX5) (hr : meth.sig.returnType = (Option.some Jvm.ClassFile.FieldType.boolean)) (hk : meth.locks = false) {d : Nat} (rc : Nat → Nat → Int32 → Mem → Option (Int32 × Mem)) (hrc : ∀ (a0 : Nat) (a1 : Nat) (a2 : Int32) (h : Mem) (r : Int32) (h' : Mem), rc a0 a1 a2 h = some (r, h') → MetG l G yX5_factor (.code yX5_factor cX5_factor 4 (Option.some Jvm.ClassFile.FieldType.boolean)) (rmR_X5_factor d) [.ref (gB G + a0), .ref (gB G + a1), .int a2] h (QcI G r h') 0 0) (N : Nat) : ∀ (v0 : Nat) (v1 : Nat) (v2 : Int32) (h : Mem), f_X5_factor_56 rc N v0 v1 v2 h = some (r, h') → ∀ (H : Heap) (locs : List Loc) (ls : Array Slot), MS G s h H locs 0 → lv_has ls 4 [(0, .ref (gB G + v0)), (1, .ref (gB G + v1)), (2, .int v2)] → W p l e (rm_X5_factor d) s m args below meth c H locs 0 0 (QI G below args s r h' 0 0) (F0 m 56 ls []) := by
  intro v0 v1 v2 h hf H locs ls M hl
  rw [f_X5_factor_56] at hf
  refine lv_aload_n X.1 X.2.1 dX5_factor_56 rfl (lv_at hl 0 rfl) ?_
  refine lv_bipush (v := (33 : Int32)) X.1 X.2.1 dX5_factor_57 (by decide) ?_
  obtain ⟨⟨⟩, q1, hf⟩ := bnd hf
  obtain ⟨t4, h3, q2, hf⟩ := bnd2 hf
  refine x_callVi (As := [.int (33 : Int32)]) cf_X5_31 (c_X5_met l G N v0 (33 : Int32) h _ _ q2) rfl ⟨rfl, rfl, by simp only [rm_X5_factor, rm_X5_met]; omega, by simp only [rm_X5_factor, rm_X5_met]; omega⟩ ⟨Nat.le_of_ble_eq_true rfl, Nat.le_of_ble_eq_true rfl⟩ X M (x_recv cls_X5 X M q1) rfl rfl hl.1 (Nat.le_of_ble_eq_true rfl) dX5_factor_59 (fun H locs M => ?_)
  refine lv_if_eq (tgt := 87) X.1 X.2.1 dX5_factor_62 (by decide) (fun c5 => ?_) (fun c5 => ?_)
  · have hf := ifp c5 hf
    refine lv_aload_n X.1 X.2.1 dX5_factor_87 rfl (lv_at hl 0 rfl) ?_
    refine lv_bipush (v := (40 : Int32)) X.1 X.2.1 dX5_factor_88 (by decide) ?_
    obtain ⟨⟨⟩, q6, hf⟩ := bnd hf
    obtain ⟨t9, h8, q7, hf⟩ := bnd2 hf
    refine x_callVi (As := [.int (40 : Int32)]) cf_X5_31 (c_X5_met l G N v0 (40 : Int32) h3 _ _ q7) rfl ⟨rfl, rfl, by simp only [rm_X5_factor, rm_X5_met]; omega, by simp only [rm_X5_factor, rm_X5_met]; omega⟩ ⟨Nat.le_of_ble_eq_true rfl, Nat.le_of_ble_eq_true rfl⟩ X M (x_recv cls_X5 X M q6) rfl rfl hl.1 (Nat.le_of_ble_eq_true rfl) dX5_factor_90 (fun H locs M => ?_)
    refine lv_if_eq (tgt := 122) X.1 X.2.1 dX5_factor_93 (by decide) (fun c10 => ?_) (fun c10 => ?_)
    · have hf := ifp c10 hf
      refine lv_aload_n X.1 X.2.1 dX5_factor_122 rfl (lv_at hl 0 rfl) ?_
      refine lv_aload_n X.1 X.2.1 dX5_factor_123 rfl (lv_at hl 1 rfl) ?_
      obtain ⟨⟨⟩, q11, hf⟩ := bnd hf
      obtain ⟨t14, h13, q12, hf⟩ := bnd2 hf
      refine x_callVi (As := [.ref (gB G + v1)]) cf_X5_105 (c_X5_test l G N v0 v1 h8 _ _ q12) rfl ⟨rfl, rfl, by simp only [rm_X5_factor, rm_X5_test]; omega, by simp only [rm_X5_factor, rm_X5_test]; omega⟩ ⟨Nat.le_of_ble_eq_true rfl, Nat.le_of_ble_eq_true rfl⟩ X M (x_recv cls_X5 X M q11) rfl rfl hl.1 (Nat.le_of_ble_eq_true rfl) dX5_factor_124 (fun H locs M => ?_)
      obtain ⟨z, rfl, rfl⟩ := rz_spec hf
      exact x_zret X hr hk (nz z) M dX5_factor_127
    · have hf := ifn c10 hf
      refine lv_aload_n X.1 X.2.1 dX5_factor_96 rfl (lv_at hl 0 rfl) ?_
      refine lv_aload_n X.1 X.2.1 dX5_factor_97 rfl (lv_at hl 1 rfl) ?_
      refine lv_iload_n X.1 X.2.1 dX5_factor_98 rfl (lv_at hl 2 rfl) ?_
      refine lv_iconst (v := (1 : Int32)) X.1 X.2.1 dX5_factor_99 (by decide) ?_
      refine lv_iadd X.1 X.2.1 dX5_factor_100 ?_
      obtain ⟨⟨⟩, q15, hf⟩ := bnd hf
      obtain ⟨t18, h17, q16, hf⟩ := bnd2 hf
      refine x_callVi (As := [.ref (gB G + v1), .int (v2 + (1 : Int32))]) cf_X5_77 (c_X5_either l G rc hrc N v0 v1 (v2 + (1 : Int32)) h8 _ _ q16) rfl ⟨rfl, rfl, by simp only [rm_X5_factor, rm_X5_either]; omega, by simp only [rm_X5_factor, rm_X5_either]; omega⟩ ⟨Nat.le_of_ble_eq_true rfl, Nat.le_of_ble_eq_true rfl⟩ X M (x_recv cls_X5 X M q15) rfl rfl hl.1 (Nat.le_of_ble_eq_true rfl) dX5_factor_101 (fun H locs M => ?_)
      refine lv_if_eq (tgt := 120) X.1 X.2.1 dX5_factor_104 (by decide) (fun c19 => ?_) (fun c19 => ?_)
      · have hf := ifp c19 hf
        refine lv_iconst (v := (0 : Int32)) X.1 X.2.1 dX5_factor_120 (by decide) ?_
        obtain ⟨rfl, rfl⟩ := rt2 hf
        exact x_zret X hr hk rfl M dX5_factor_121
      · have hf := ifn c19 hf
        refine lv_aload_n X.1 X.2.1 dX5_factor_107 rfl (lv_at hl 0 rfl) ?_
        refine lv_bipush (v := (41 : Int32)) X.1 X.2.1 dX5_factor_108 (by decide) ?_
        obtain ⟨⟨⟩, q20, hf⟩ := bnd hf
        obtain ⟨t23, h22, q21, hf⟩ := bnd2 hf
        refine x_callVi (As := [.int (41 : Int32)]) cf_X5_31 (c_X5_met l G N v0 (41 : Int32) h17 _ _ q21) rfl ⟨rfl, rfl, by simp only [rm_X5_factor, rm_X5_met]; omega, by simp only [rm_X5_factor, rm_X5_met]; omega⟩ ⟨Nat.le_of_ble_eq_true rfl, Nat.le_of_ble_eq_true rfl⟩ X M (x_recv cls_X5 X M q20) rfl rfl hl.1 (Nat.le_of_ble_eq_true rfl) dX5_factor_110 (fun H locs M => ?_)
        refine lv_if_eq (tgt := 120) X.1 X.2.1 dX5_factor_113 (by decide) (fun c24 => ?_) (fun c24 => ?_)
        · have hf := ifp c24 hf
          refine lv_iconst (v := (0 : Int32)) X.1 X.2.1 dX5_factor_120 (by decide) ?_
          obtain ⟨rfl, rfl⟩ := rt2 hf
          exact x_zret X hr hk rfl M dX5_factor_121
        · have hf := ifn c24 hf
          refine lv_iconst (v := (1 : Int32)) X.1 X.2.1 dX5_factor_116 (by decide) ?_
          refine lv_goto (tgt := 121) X.1 X.2.1 dX5_factor_117 (by decide) ?_
          obtain ⟨rfl, rfl⟩ := rt2 hf
          exact x_zret X hr hk rfl M dX5_factor_121
  · have hf := ifn c5 hf
    refine lv_aload_n X.1 X.2.1 dX5_factor_65 rfl (lv_at hl 0 rfl) ?_
    refine lv_aload_n X.1 X.2.1 dX5_factor_66 rfl (lv_at hl 1 rfl) ?_
    refine lv_iload_n X.1 X.2.1 dX5_factor_67 rfl (lv_at hl 2 rfl) ?_
    refine lv_iconst (v := (1 : Int32)) X.1 X.2.1 dX5_factor_68 (by decide) ?_
    refine lv_iadd X.1 X.2.1 dX5_factor_69 ?_
    obtain ⟨⟨⟩, q25, hf⟩ := bnd hf
    obtain ⟨t28, h27, q26, hf⟩ := bnd2 hf
    refine x_callVi (As := [.ref (gB G + v1), .int (v2 + (1 : Int32))]) cf_X5_102 (hrc v0 v1 (v2 + (1 : Int32)) h3 _ _ q26) rfl ⟨rfl, rfl, by simp only [rmR_X5_factor, rm_X5_factor]; omega, by simp only [rmR_X5_factor, rm_X5_factor]; omega⟩ ⟨Nat.le_of_ble_eq_true rfl, Nat.le_of_ble_eq_true rfl⟩ X M (x_recv cls_X5 X M q25) rfl rfl hl.1 (Nat.le_of_ble_eq_true rfl) dX5_factor_70 (fun H locs M => ?_)
    refine lv_if_ne (tgt := 78) X.1 X.2.1 dX5_factor_73 (by decide) (fun c29 => ?_) (fun c29 => ?_)
    · have hf := ifn c29 hf
      refine lv_aload_n X.1 X.2.1 dX5_factor_78 rfl (lv_at hl 1 rfl) ?_
      refine lv_bipush (v := (12 : Int32)) X.1 X.2.1 dX5_factor_79 (by decide) ?_
      refine lv_iconst (v := (0 : Int32)) X.1 X.2.1 dX5_factor_81 (by decide) ?_
      obtain ⟨⟨⟩, q30, hf⟩ := bnd hf
      obtain ⟨h32, q31, hf⟩ := bnd hf
      refine x_callVv (As := [.int (12 : Int32), .int (0 : Int32)]) cf_X5_98 (c_X3_emit l G N v1 (12 : Int32) (0 : Int32) h27 _ q31) rfl ⟨rfl, rfl, by simp only [rm_X5_factor, rm_X3_emit]; omega, by simp only [rm_X5_factor, rm_X3_emit]; omega⟩ ⟨Nat.le_of_ble_eq_true rfl, Nat.le_of_ble_eq_true rfl⟩ X M (x_recv cls_X3 X M q30) rfl rfl hl.1 (Nat.le_of_ble_eq_true rfl) dX5_factor_82 (fun H locs M => ?_)
      refine lv_iconst (v := (1 : Int32)) X.1 X.2.1 dX5_factor_85 (by decide) ?_
      obtain ⟨rfl, rfl⟩ := rt2 hf
      exact x_zret X hr hk rfl M dX5_factor_86
    · have hf := ifp c29 hf
      refine lv_iconst (v := (0 : Int32)) X.1 X.2.1 dX5_factor_76 (by decide) ?_
      obtain ⟨rfl, rfl⟩ := rt2 hf
      exact x_zret X hr hk rfl M dX5_factor_77
def f_X5_factor_44 (rc : Nat → Nat → Int32 → Mem → Option (Int32 × Mem)) (N : Nat) (v0 : Nat) (v1 : Nat) (v2 : Int32) (s0 : Int32) (h : Mem) : Option (Int32 × Mem) :=
  if s0 = 0 then
    f_X5_factor_56 rc N v0 v1 v2 h
  else
    if v2 < (4 : Int32) then
      f_X5_factor_56 rc N v0 v1 v2 h
    else
      some ((0 : Int32), h)
set_option maxRecDepth 100000 in
set_option maxHeartbeats 4000000 in
theorem w_X5_factor_44 {p : Program} {l : Launch} {e : Env} {s : State} {m : MethodId} {args : Array Value} {below : List Frame} {meth : Method} {c : Code} {G : Gx} {r : Int32} {h' : Mem} (X : CX G p s m args c cX5_factor 4 RX5) (hr : meth.sig.returnType = (Option.some Jvm.ClassFile.FieldType.boolean)) (hk : meth.locks = false) {d : Nat} (rc : Nat → Nat → Int32 → Mem → Option (Int32 × Mem)) (hrc : ∀ (a0 : Nat) (a1 : Nat) (a2 : Int32) (h : Mem) (r : Int32) (h' : Mem), rc a0 a1 a2 h = some (r, h') → MetG l G yX5_factor (.code yX5_factor cX5_factor 4 (Option.some Jvm.ClassFile.FieldType.boolean)) (rmR_X5_factor d) [.ref (gB G + a0), .ref (gB G + a1), .int a2] h (QcI G r h') 0 0) (N : Nat) : ∀ (v0 : Nat) (v1 : Nat) (v2 : Int32) (s0 : Int32) (h : Mem), f_X5_factor_44 rc N v0 v1 v2 s0 h = some (r, h') → ∀ (H : Heap) (locs : List Loc) (ls : Array Slot), MS G s h H locs 0 → lv_has ls 4 [(0, .ref (gB G + v0)), (1, .ref (gB G + v1)), (2, .int v2)] → W p l e (rm_X5_factor d) s m args below meth c H locs 0 0 (QI G below args s r h' 0 0) (F0 m 44 ls [.int s0]) := by
  intro v0 v1 v2 s0 h hf H locs ls M hl
  rw [f_X5_factor_44] at hf
  refine lv_istore_n (lv' := [(3, .int s0), (0, .ref (gB G + v0)), (1, .ref (gB G + v1)), (2, .int v2)]) X.1 X.2.1 dX5_factor_44 rfl hl (by decide) rfl (fun ls hl => ?_)
  refine lv_iload_n X.1 X.2.1 dX5_factor_45 rfl (lv_at hl 0 rfl) ?_
  refine lv_if_eq (tgt := 56) X.1 X.2.1 dX5_factor_46 (by decide) (fun c1 => ?_) (fun c1 => ?_)
  · have hf := ifp c1 hf
    exact w_X5_factor_56 X hr hk rc hrc N v0 v1 v2 h hf _ _ _ M (lv_sub hl [1, 2, 3] rfl)
  · have hf := ifn c1 hf
    refine lv_iload_n X.1 X.2.1 dX5_factor_49 rfl (lv_at hl 3 rfl) ?_
    refine lv_iconst (v := (4 : Int32)) X.1 X.2.1 dX5_factor_50 (by decide) ?_
    refine lv_icmp_lt (tgt := 56) X.1 X.2.1 dX5_factor_51 (by decide) (fun c2 => ?_) (fun c2 => ?_)
    · have hf := ifp c2 hf
      exact w_X5_factor_56 X hr hk rc hrc N v0 v1 v2 h hf _ _ _ M (lv_sub hl [1, 2, 3] rfl)
    · have hf := ifn c2 hf
      refine lv_iconst (v := (0 : Int32)) X.1 X.2.1 dX5_factor_54 (by decide) ?_
      obtain ⟨rfl, rfl⟩ := rt2 hf
      exact x_zret X hr hk rfl M dX5_factor_55
def f_X5_factor (rc : Nat → Nat → Int32 → Mem → Option (Int32 × Mem)) (N : Nat) (v0 : Nat) (v1 : Nat) (v2 : Int32) (h : Mem) : Option (Int32 × Mem) :=
  (gI h v0 5 2).bind fun t1 =>
  (gI h v0 5 1).bind fun t3 =>
  if t3 ≤ t1 then
    f_X5_factor_43 rc N v0 v1 v2 h (fun v0 v1 v2 s0 h => f_X5_factor_44 rc N v0 v1 v2 s0 h)
  else
    (gR h v0 5 0).bind fun t6 =>
    (gI h v0 5 2).bind fun t8 =>
    (lI 101 h t6 t8).bind fun t10 =>
    if t10 = (33 : Int32) then
      f_X5_factor_39 rc N v0 v1 v2 h (fun v0 v1 v2 s0 h => f_X5_factor_44 rc N v0 v1 v2 s0 h)
    else
      (gR h v0 5 0).bind fun t13 =>
      (gI h v0 5 2).bind fun t15 =>
      (lI 101 h t13 t15).bind fun t17 =>
      if t17 = (40 : Int32) then
        f_X5_factor_39 rc N v0 v1 v2 h (fun v0 v1 v2 s0 h => f_X5_factor_44 rc N v0 v1 v2 s0 h)
      else
        f_X5_factor_43 rc N v0 v1 v2 h (fun v0 v1 v2 s0 h => f_X5_factor_44 rc N v0 v1 v2 s0 h)
set_option maxRecDepth 100000 in
set_option maxHeartbeats 4000000 in
theorem w_X5_factor {p : Program} {l : Launch} {e : Env} {s : State} {m : MethodId} {args : Array Value} {below : List Frame} {meth : Method} {c : Code} {G : Gx} {r : Int32} {h' : Mem} (X : CX G p s m args c cX5_factor 4 RX5) (hr : meth.sig.returnType = (Option.some Jvm.ClassFile.FieldType.boolean)) (hk : meth.locks = false) {d : Nat} (rc : Nat → Nat → Int32 → Mem → Option (Int32 × Mem)) (hrc : ∀ (a0 : Nat) (a1 : Nat) (a2 : Int32) (h : Mem) (r : Int32) (h' : Mem), rc a0 a1 a2 h = some (r, h') → MetG l G yX5_factor (.code yX5_factor cX5_factor 4 (Option.some Jvm.ClassFile.FieldType.boolean)) (rmR_X5_factor d) [.ref (gB G + a0), .ref (gB G + a1), .int a2] h (QcI G r h') 0 0) (N : Nat) : ∀ (v0 : Nat) (v1 : Nat) (v2 : Int32) (h : Mem), f_X5_factor rc N v0 v1 v2 h = some (r, h') → ∀ (H : Heap) (locs : List Loc) (ls : Array Slot), MS G s h H locs 0 → lv_has ls 4 [(0, .ref (gB G + v0)), (1, .ref (gB G + v1)), (2, .int v2)] → W p l e (rm_X5_factor d) s m args below meth c H locs 0 0 (QI G below args s r h' 0 0) (F0 m 0 ls []) := by
  intro v0 v1 v2 h hf H locs ls M hl
  rw [f_X5_factor] at hf
  refine lv_aload_n X.1 X.2.1 dX5_factor_0 rfl (lv_at hl 0 rfl) ?_
  obtain ⟨t1, q2, hf⟩ := bnd hf
  refine x_geti fl_X5_24 X M q2 dX5_factor_1 ?_
  refine lv_aload_n X.1 X.2.1 dX5_factor_4 rfl (lv_at hl 0 rfl) ?_
  obtain ⟨t3, q4, hf⟩ := bnd hf
  refine x_geti fl_X5_15 X M q4 dX5_factor_5 ?_
  refine lv_icmp_ge (tgt := 43) X.1 X.2.1 dX5_factor_8 (by decide) (fun c5 => ?_) (fun c5 => ?_)
  · have hf := ifp c5 hf
    exact w_X5_factor_43 X hr hk rc hrc N _ (fun v0 v1 v2 s0 h hf H locs ls M hl => w_X5_factor_44 X hr hk rc hrc N v0 v1 v2 s0 h hf H locs ls M hl) v0 v1 v2 h hf _ _ _ M (lv_sub hl [0, 1, 2] rfl)
  · have hf := ifn c5 hf
    refine lv_aload_n X.1 X.2.1 dX5_factor_11 rfl (lv_at hl 0 rfl) ?_
    obtain ⟨t6, q7, hf⟩ := bnd hf
    refine x_getr fl_X5_11 X M q7 dX5_factor_12 ?_
    refine lv_aload_n X.1 X.2.1 dX5_factor_15 rfl (lv_at hl 0 rfl) ?_
    obtain ⟨t8, q9, hf⟩ := bnd hf
    refine x_geti fl_X5_24 X M q9 dX5_factor_16 ?_
    obtain ⟨t10, q11, hf⟩ := bnd hf
    refine x_cald X M q11 dX5_factor_19 ?_
    refine lv_bipush (v := (33 : Int32)) X.1 X.2.1 dX5_factor_20 (by decide) ?_
    refine lv_icmp_eq (tgt := 39) X.1 X.2.1 dX5_factor_22 (by decide) (fun c12 => ?_) (fun c12 => ?_)
    · have hf := ifp c12 hf
      exact w_X5_factor_39 X hr hk rc hrc N _ (fun v0 v1 v2 s0 h hf H locs ls M hl => w_X5_factor_44 X hr hk rc hrc N v0 v1 v2 s0 h hf H locs ls M hl) v0 v1 v2 h hf _ _ _ M (lv_sub hl [0, 1, 2] rfl)
    · have hf := ifn c12 hf
      refine lv_aload_n X.1 X.2.1 dX5_factor_25 rfl (lv_at hl 0 rfl) ?_
      obtain ⟨t13, q14, hf⟩ := bnd hf
      refine x_getr fl_X5_11 X M q14 dX5_factor_26 ?_
      refine lv_aload_n X.1 X.2.1 dX5_factor_29 rfl (lv_at hl 0 rfl) ?_
      obtain ⟨t15, q16, hf⟩ := bnd hf
      refine x_geti fl_X5_24 X M q16 dX5_factor_30 ?_
      obtain ⟨t17, q18, hf⟩ := bnd hf
      refine x_cald X M q18 dX5_factor_33 ?_
      refine lv_bipush (v := (40 : Int32)) X.1 X.2.1 dX5_factor_34 (by decide) ?_
      refine lv_icmp_ne (tgt := 43) X.1 X.2.1 dX5_factor_36 (by decide) (fun c19 => ?_) (fun c19 => ?_)
      · have hf := ifn c19 hf
        exact w_X5_factor_43 X hr hk rc hrc N _ (fun v0 v1 v2 s0 h hf H locs ls M hl => w_X5_factor_44 X hr hk rc hrc N v0 v1 v2 s0 h hf H locs ls M hl) v0 v1 v2 h hf _ _ _ M (lv_sub hl [0, 1, 2] rfl)
      · have hf := ifp c19 hf
        exact w_X5_factor_39 X hr hk rc hrc N _ (fun v0 v1 v2 s0 h hf H locs ls M hl => w_X5_factor_44 X hr hk rc hrc N v0 v1 v2 s0 h hf H locs ls M hl) v0 v1 v2 h hf _ _ _ M (lv_sub hl [0, 1, 2] rfl)
theorem c_X5_factor (l : Launch) (G : Gx) {d : Nat} (rc : Nat → Nat → Int32 → Mem → Option (Int32 × Mem)) (hrc : ∀ (a0 : Nat) (a1 : Nat) (a2 : Int32) (h : Mem) (r : Int32) (h' : Mem), rc a0 a1 a2 h = some (r, h') → MetG l G yX5_factor (.code yX5_factor cX5_factor 4 (Option.some Jvm.ClassFile.FieldType.boolean)) (rmR_X5_factor d) [.ref (gB G + a0), .ref (gB G + a1), .int a2] h (QcI G r h') 0 0) (N : Nat) (v0 : Nat) (v1 : Nat) (v2 : Int32) (h : Mem) (r : Int32) (h' : Mem) (hf : f_X5_factor rc N v0 v1 v2 h = some (r, h')) : MetG l G yX5_factor (.code yX5_factor cX5_factor 4 (Option.some Jvm.ClassFile.FieldType.boolean)) (rm_X5_factor d) [.ref (gB G + v0), .ref (gB G + v1), .int v2] h (QcI G r h') 0 0 :=
  x_met (by decide) rfl (Nat.le_of_ble_eq_true rfl) (fun p e s m args below meth c ls X M hr hk hin hl => w_X5_factor X hr hk rc hrc N v0 v1 v2 h hf _ _ ls M hl)
def FD_X5_factor (N : Nat) : Nat → Nat → Nat → Int32 → Mem → Option (Int32 × Mem)
  | 0 => fun _ _ _ _ => none
  | d + 1 => fun v0 v1 v2 h => f_X5_factor (FD_X5_factor N d) N v0 v1 v2 h
theorem CD_X5_factor (l : Launch) (G : Gx) (N : Nat) : ∀ (d : Nat) (v0 : Nat) (v1 : Nat) (v2 : Int32) (h : Mem) (r : Int32) (h' : Mem), FD_X5_factor N d v0 v1 v2 h = some (r, h') → MetG l G yX5_factor (.code yX5_factor cX5_factor 4 (Option.some Jvm.ClassFile.FieldType.boolean)) (rmR_X5_factor d) [.ref (gB G + v0), .ref (gB G + v1), .int v2] h (QcI G r h') 0 0 := by
  intro d
  induction d with
  | zero => intro v0 v1 v2 h r h' hf; cases hf
  | succ d ih =>
    intro v0 v1 v2 h r h' hf
    have hh := c_X5_factor l G (d := d) (FD_X5_factor N d) ih N v0 v1 v2 h r h' hf
    have e : rm_X5_factor d = rmR_X5_factor (d + 1) := by simp only [rm_X5_factor, rmR_X5_factor]; congr 1; all_goals omega
    rw [← e]
    exact hh
def F_X5_either (N : Nat) (v0 : Nat) (v1 : Nat) (v2 : Int32) (h : Mem) : Option (Int32 × Mem) := f_X5_either (FD_X5_factor N 8) N v0 v1 v2 h
theorem C_X5_either (l : Launch) (G : Gx) (N : Nat) (v0 : Nat) (v1 : Nat) (v2 : Int32) (h : Mem) (r : Int32) (h' : Mem) (hf : F_X5_either N v0 v1 v2 h = some (r, h')) : MetG l G yX5_either (.code yX5_either cX5_either 6 (Option.some Jvm.ClassFile.FieldType.boolean)) (rm_X5_either 8) [.ref (gB G + v0), .ref (gB G + v1), .int v2] h (QcI G r h') 0 0 := c_X5_either l G (d := 8) (FD_X5_factor N 8) (CD_X5_factor l G N 8) N v0 v1 v2 h r h' hf
def F_X5_factor (N : Nat) (v0 : Nat) (v1 : Nat) (v2 : Int32) (h : Mem) : Option (Int32 × Mem) := f_X5_factor (FD_X5_factor N 8) N v0 v1 v2 h
theorem C_X5_factor (l : Launch) (G : Gx) (N : Nat) (v0 : Nat) (v1 : Nat) (v2 : Int32) (h : Mem) (r : Int32) (h' : Mem) (hf : F_X5_factor N v0 v1 v2 h = some (r, h')) : MetG l G yX5_factor (.code yX5_factor cX5_factor 4 (Option.some Jvm.ClassFile.FieldType.boolean)) (rm_X5_factor 8) [.ref (gB G + v0), .ref (gB G + v1), .int v2] h (QcI G r h') 0 0 := c_X5_factor l G (d := 8) (FD_X5_factor N 8) (CD_X5_factor l G N 8) N v0 v1 v2 h r h' hf
abbrev rm_X5_weight : Room := { frames := 2, cells := 0, slots := 0, locals := 62 }
def f_X5_weight (N : Nat) (v0 : Nat) (v1 : Nat) (h : Mem) : Option (Int32 × Mem) :=
  (ck h v0 5).bind fun _ =>
  b2 (f_X5_number N v0 h) fun t4 h3 =>
  if 0 ≤ t4 then
    (ck h3 v1 3).bind fun _ =>
    (f_X3_emit N v1 (15 : Int32) t4 h3).bind fun h8 =>
    some ((1 : Int32), h8)
  else
    some ((0 : Int32), h3)
set_option maxRecDepth 100000 in
set_option maxHeartbeats 4000000 in
theorem w_X5_weight {p : Program} {l : Launch} {e : Env} {s : State} {m : MethodId} {args : Array Value} {below : List Frame} {meth : Method} {c : Code} {G : Gx} {r : Int32} {h' : Mem} (X : CX G p s m args c cX5_weight 3 RX5) (hr : meth.sig.returnType = (Option.some Jvm.ClassFile.FieldType.boolean)) (hk : meth.locks = false) (N : Nat) : ∀ (v0 : Nat) (v1 : Nat) (h : Mem), f_X5_weight N v0 v1 h = some (r, h') → ∀ (H : Heap) (locs : List Loc) (ls : Array Slot), MS G s h H locs 0 → lv_has ls 3 [(0, .ref (gB G + v0)), (1, .ref (gB G + v1))] → W p l e (rm_X5_weight) s m args below meth c H locs 0 0 (QI G below args s r h' 0 0) (F0 m 0 ls []) := by
  intro v0 v1 h hf H locs ls M hl
  rw [f_X5_weight] at hf
  refine lv_aload_n X.1 X.2.1 dX5_weight_0 rfl (lv_at hl 0 rfl) ?_
  obtain ⟨⟨⟩, q1, hf⟩ := bnd hf
  obtain ⟨t4, h3, q2, hf⟩ := bnd2 hf
  refine x_callVi (As := []) cf_X5_57 (c_X5_number l G N v0 h _ _ q2) rfl ⟨rfl, rfl, Nat.le_of_ble_eq_true rfl, Nat.le_of_ble_eq_true rfl⟩ ⟨Nat.le_of_ble_eq_true rfl, Nat.le_of_ble_eq_true rfl⟩ X M (x_recv cls_X5 X M q1) rfl rfl hl.1 (Nat.le_of_ble_eq_true rfl) dX5_weight_1 (fun H locs M => ?_)
  refine lv_istore_n (lv' := [(2, .int t4), (0, .ref (gB G + v0)), (1, .ref (gB G + v1))]) X.1 X.2.1 dX5_weight_4 rfl hl (by decide) rfl (fun ls hl => ?_)
  refine lv_iload_n X.1 X.2.1 dX5_weight_5 rfl (lv_at hl 0 rfl) ?_
  refine lv_if_ge (tgt := 11) X.1 X.2.1 dX5_weight_6 (by decide) (fun c5 => ?_) (fun c5 => ?_)
  · have hf := ifp c5 hf
    refine lv_aload_n X.1 X.2.1 dX5_weight_11 rfl (lv_at hl 2 rfl) ?_
    refine lv_bipush (v := (15 : Int32)) X.1 X.2.1 dX5_weight_12 (by decide) ?_
    refine lv_iload_n X.1 X.2.1 dX5_weight_14 rfl (lv_at hl 0 rfl) ?_
    obtain ⟨⟨⟩, q6, hf⟩ := bnd hf
    obtain ⟨h8, q7, hf⟩ := bnd hf
    refine x_callVv (As := [.int (15 : Int32), .int t4]) cf_X5_98 (c_X3_emit l G N v1 (15 : Int32) t4 h3 _ q7) rfl ⟨rfl, rfl, Nat.le_of_ble_eq_true rfl, Nat.le_of_ble_eq_true rfl⟩ ⟨Nat.le_of_ble_eq_true rfl, Nat.le_of_ble_eq_true rfl⟩ X M (x_recv cls_X3 X M q6) rfl rfl hl.1 (Nat.le_of_ble_eq_true rfl) dX5_weight_15 (fun H locs M => ?_)
    refine lv_iconst (v := (1 : Int32)) X.1 X.2.1 dX5_weight_18 (by decide) ?_
    obtain ⟨rfl, rfl⟩ := rt2 hf
    exact x_zret X hr hk rfl M dX5_weight_19
  · have hf := ifn c5 hf
    refine lv_iconst (v := (0 : Int32)) X.1 X.2.1 dX5_weight_9 (by decide) ?_
    obtain ⟨rfl, rfl⟩ := rt2 hf
    exact x_zret X hr hk rfl M dX5_weight_10
theorem c_X5_weight (l : Launch) (G : Gx) (N : Nat) (v0 : Nat) (v1 : Nat) (h : Mem) (r : Int32) (h' : Mem) (hf : f_X5_weight N v0 v1 h = some (r, h')) : MetG l G yX5_weight (.code yX5_weight cX5_weight 3 (Option.some Jvm.ClassFile.FieldType.boolean)) rm_X5_weight [.ref (gB G + v0), .ref (gB G + v1)] h (QcI G r h') 0 0 :=
  x_met (by decide) rfl (Nat.le_of_ble_eq_true rfl) (fun p e s m args below meth c ls X M hr hk hin hl => w_X5_weight X hr hk N v0 v1 h hf _ _ ls M hl)
abbrev rm_X5_clause : Room := { frames := 25, cells := 0, slots := 0, locals := 746 }
def f_X5_clause (N : Nat) (v0 : Nat) (v1 : Nat) (h : Mem) : Option (Int32 × Mem) :=
  (ck h v0 5).bind fun _ =>
  b2 (f_X5_word N v0 h) fun t4 h3 =>
  if t4 < 0 then
    some ((0 : Int32), h3)
  else
    (ck h3 v0 5).bind fun _ =>
    b2 (f_X5_met N v0 (32 : Int32) h3) fun t9 h8 =>
    if t9 = 0 then
      some ((0 : Int32), h8)
    else
      if t4 = 0 then
        (gR h8 v1 3 0).bind fun t12 =>
        (ck h8 v0 5).bind fun _ =>
        b2 (f_X5_pair N v0 t12 (3 : Int32) h8) fun t17 h16 =>
        rz t17 h16
      else
      if t4 = 1 then
        (gR h8 v1 3 1).bind fun t19 =>
        (ck h8 v0 5).bind fun _ =>
        b2 (f_X5_pair N v0 t19 (4 : Int32) h8) fun t24 h23 =>
        rz t24 h23
      else
      if t4 = 2 then
        (gR h8 v1 3 2).bind fun t26 =>
        (ck h8 v0 5).bind fun _ =>
        b2 (f_X5_single N v0 t26 h8) fun t31 h30 =>
        rz t31 h30
      else
      if t4 = 3 then
        (ck h8 v0 5).bind fun _ =>
        b2 (f_X5_number N v0 h8) fun t36 h35 =>
        (sI h35 v1 3 3 t36).bind fun h37 =>
        (gI h37 v1 3 3).bind fun t39 =>
        if t39 < 0 then
          some ((0 : Int32), h37)
        else
          some ((1 : Int32), h37)
      else
      if t4 = 4 then
        (ck h8 v0 5).bind fun _ =>
        b2 (f_X5_letter N v0 1 h8) fun t46 h45 =>
        (sI h45 v1 3 4 t46).bind fun h47 =>
        (gI h47 v1 3 4).bind fun t49 =>
        if t49 < 0 then
          some ((0 : Int32), h47)
        else
          some ((1 : Int32), h47)
      else
      if t4 = 5 then
        (ck h8 v0 5).bind fun _ =>
        b2 (f_X5_letter N v0 2 h8) fun t56 h55 =>
        (sI h55 v1 3 5 t56).bind fun h57 =>
        (gI h57 v1 3 5).bind fun t59 =>
        if t59 < 0 then
          some ((0 : Int32), h57)
        else
          some ((1 : Int32), h57)
      else
      (ck h8 v0 5).bind fun _ =>
      b2 (F_X5_either N v0 v1 (0 : Int32) h8) fun t65 h64 =>
      if t65 = 0 then
        some ((0 : Int32), h64)
      else
        (ck h64 v0 5).bind fun _ =>
        b2 (f_X5_met N v0 (32 : Int32) h64) fun t70 h69 =>
        if t70 = 0 then
          some ((0 : Int32), h69)
        else
          (ck h69 v0 5).bind fun _ =>
          b2 (f_X5_weight N v0 v1 h69) fun t75 h74 =>
          if t75 = 0 then
            some ((0 : Int32), h74)
          else
            some ((1 : Int32), h74)
set_option maxRecDepth 100000 in
set_option maxHeartbeats 4000000 in
theorem w_X5_clause {p : Program} {l : Launch} {e : Env} {s : State} {m : MethodId} {args : Array Value} {below : List Frame} {meth : Method} {c : Code} {G : Gx} {r : Int32} {h' : Mem} (X : CX G p s m args c cX5_clause 3 RX5) (hr : meth.sig.returnType = (Option.some Jvm.ClassFile.FieldType.boolean)) (hk : meth.locks = false) (N : Nat) : ∀ (v0 : Nat) (v1 : Nat) (h : Mem), f_X5_clause N v0 v1 h = some (r, h') → ∀ (H : Heap) (locs : List Loc) (ls : Array Slot), MS G s h H locs 0 → lv_has ls 3 [(0, .ref (gB G + v0)), (1, .ref (gB G + v1))] → W p l e (rm_X5_clause) s m args below meth c H locs 0 0 (QI G below args s r h' 0 0) (F0 m 0 ls []) := by
  intro v0 v1 h hf H locs ls M hl
  rw [f_X5_clause] at hf
  refine lv_aload_n X.1 X.2.1 dX5_clause_0 rfl (lv_at hl 0 rfl) ?_
  obtain ⟨⟨⟩, q1, hf⟩ := bnd hf
  obtain ⟨t4, h3, q2, hf⟩ := bnd2 hf
  refine x_callVi (As := []) cf_X5_35 (c_X5_word l G N v0 h _ _ q2) rfl ⟨rfl, rfl, Nat.le_of_ble_eq_true rfl, Nat.le_of_ble_eq_true rfl⟩ ⟨Nat.le_of_ble_eq_true rfl, Nat.le_of_ble_eq_true rfl⟩ X M (x_recv cls_X5 X M q1) rfl rfl hl.1 (Nat.le_of_ble_eq_true rfl) dX5_clause_1 (fun H locs M => ?_)
  refine lv_istore_n (lv' := [(2, .int t4), (0, .ref (gB G + v0)), (1, .ref (gB G + v1))]) X.1 X.2.1 dX5_clause_4 rfl hl (by decide) rfl (fun ls hl => ?_)
  refine lv_iload_n X.1 X.2.1 dX5_clause_5 rfl (lv_at hl 0 rfl) ?_
  refine lv_if_lt (tgt := 18) X.1 X.2.1 dX5_clause_6 (by decide) (fun c5 => ?_) (fun c5 => ?_)
  · have hf := ifp c5 hf
    refine lv_iconst (v := (0 : Int32)) X.1 X.2.1 dX5_clause_18 (by decide) ?_
    obtain ⟨rfl, rfl⟩ := rt2 hf
    exact x_zret X hr hk rfl M dX5_clause_19
  · have hf := ifn c5 hf
    refine lv_aload_n X.1 X.2.1 dX5_clause_9 rfl (lv_at hl 1 rfl) ?_
    refine lv_bipush (v := (32 : Int32)) X.1 X.2.1 dX5_clause_10 (by decide) ?_
    obtain ⟨⟨⟩, q6, hf⟩ := bnd hf
    obtain ⟨t9, h8, q7, hf⟩ := bnd2 hf
    refine x_callVi (As := [.int (32 : Int32)]) cf_X5_31 (c_X5_met l G N v0 (32 : Int32) h3 _ _ q7) rfl ⟨rfl, rfl, Nat.le_of_ble_eq_true rfl, Nat.le_of_ble_eq_true rfl⟩ ⟨Nat.le_of_ble_eq_true rfl, Nat.le_of_ble_eq_true rfl⟩ X M (x_recv cls_X5 X M q6) rfl rfl hl.1 (Nat.le_of_ble_eq_true rfl) dX5_clause_12 (fun H locs M => ?_)
    refine lv_if_ne (tgt := 20) X.1 X.2.1 dX5_clause_15 (by decide) (fun c10 => ?_) (fun c10 => ?_)
    · have hf := ifn c10 hf
      refine lv_iload_n X.1 X.2.1 dX5_clause_20 rfl (lv_at hl 0 rfl) ?_
      by_cases c11 : t4 = 0
      · have hf := ifp c11 hf
        refine x_tin (z := 0) (tgt := 60) X rfl c11 dX5_clause_21 (by decide) (by decide) rfl (by decide) ?_
        refine lv_aload_n X.1 X.2.1 dX5_clause_60 rfl (lv_at hl 1 rfl) ?_
        refine lv_aload_n X.1 X.2.1 dX5_clause_61 rfl (lv_at hl 2 rfl) ?_
        obtain ⟨t12, q13, hf⟩ := bnd hf
        refine x_getr fl_X5_39 X M q13 dX5_clause_62 ?_
        refine lv_iconst (v := (3 : Int32)) X.1 X.2.1 dX5_clause_65 (by decide) ?_
        obtain ⟨⟨⟩, q14, hf⟩ := bnd hf
        obtain ⟨t17, h16, q15, hf⟩ := bnd2 hf
        refine x_callVi (As := [.ref (gB G + t12), .int (3 : Int32)]) cf_X5_43 (c_X5_pair l G N v0 t12 (3 : Int32) h8 _ _ q15) rfl ⟨rfl, rfl, Nat.le_of_ble_eq_true rfl, Nat.le_of_ble_eq_true rfl⟩ ⟨Nat.le_of_ble_eq_true rfl, Nat.le_of_ble_eq_true rfl⟩ X M (x_recv cls_X5 X M q14) rfl rfl hl.1 (Nat.le_of_ble_eq_true rfl) dX5_clause_66 (fun H locs M => ?_)
        obtain ⟨z, rfl, rfl⟩ := rz_spec hf
        exact x_zret X hr hk (nz z) M dX5_clause_69
      have hf := ifn c11 hf
      by_cases c18 : t4 = 1
      · have hf := ifp c18 hf
        refine x_tin (z := 1) (tgt := 70) X rfl c18 dX5_clause_21 (by decide) (by decide) rfl (by decide) ?_
        refine lv_aload_n X.1 X.2.1 dX5_clause_70 rfl (lv_at hl 1 rfl) ?_
        refine lv_aload_n X.1 X.2.1 dX5_clause_71 rfl (lv_at hl 2 rfl) ?_
        obtain ⟨t19, q20, hf⟩ := bnd hf
        refine x_getr fl_X5_47 X M q20 dX5_clause_72 ?_
        refine lv_iconst (v := (4 : Int32)) X.1 X.2.1 dX5_clause_75 (by decide) ?_
        obtain ⟨⟨⟩, q21, hf⟩ := bnd hf
        obtain ⟨t24, h23, q22, hf⟩ := bnd2 hf
        refine x_callVi (As := [.ref (gB G + t19), .int (4 : Int32)]) cf_X5_43 (c_X5_pair l G N v0 t19 (4 : Int32) h8 _ _ q22) rfl ⟨rfl, rfl, Nat.le_of_ble_eq_true rfl, Nat.le_of_ble_eq_true rfl⟩ ⟨Nat.le_of_ble_eq_true rfl, Nat.le_of_ble_eq_true rfl⟩ X M (x_recv cls_X5 X M q21) rfl rfl hl.1 (Nat.le_of_ble_eq_true rfl) dX5_clause_76 (fun H locs M => ?_)
        obtain ⟨z, rfl, rfl⟩ := rz_spec hf
        exact x_zret X hr hk (nz z) M dX5_clause_79
      have hf := ifn c18 hf
      by_cases c25 : t4 = 2
      · have hf := ifp c25 hf
        refine x_tin (z := 2) (tgt := 80) X rfl c25 dX5_clause_21 (by decide) (by decide) rfl (by decide) ?_
        refine lv_aload_n X.1 X.2.1 dX5_clause_80 rfl (lv_at hl 1 rfl) ?_
        refine lv_aload_n X.1 X.2.1 dX5_clause_81 rfl (lv_at hl 2 rfl) ?_
        obtain ⟨t26, q27, hf⟩ := bnd hf
        refine x_getr fl_X5_50 X M q27 dX5_clause_82 ?_
        obtain ⟨⟨⟩, q28, hf⟩ := bnd hf
        obtain ⟨t31, h30, q29, hf⟩ := bnd2 hf
        refine x_callVi (As := [.ref (gB G + t26)]) cf_X5_53 (c_X5_single l G N v0 t26 h8 _ _ q29) rfl ⟨rfl, rfl, Nat.le_of_ble_eq_true rfl, Nat.le_of_ble_eq_true rfl⟩ ⟨Nat.le_of_ble_eq_true rfl, Nat.le_of_ble_eq_true rfl⟩ X M (x_recv cls_X5 X M q28) rfl rfl hl.1 (Nat.le_of_ble_eq_true rfl) dX5_clause_85 (fun H locs M => ?_)
        obtain ⟨z, rfl, rfl⟩ := rz_spec hf
        exact x_zret X hr hk (nz z) M dX5_clause_88
      have hf := ifn c25 hf
      by_cases c32 : t4 = 3
      · have hf := ifp c32 hf
        refine x_tin (z := 3) (tgt := 89) X rfl c32 dX5_clause_21 (by decide) (by decide) rfl (by decide) ?_
        refine lv_aload_n X.1 X.2.1 dX5_clause_89 rfl (lv_at hl 2 rfl) ?_
        refine lv_aload_n X.1 X.2.1 dX5_clause_90 rfl (lv_at hl 1 rfl) ?_
        obtain ⟨⟨⟩, q33, hf⟩ := bnd hf
        obtain ⟨t36, h35, q34, hf⟩ := bnd2 hf
        refine x_callVi (As := []) cf_X5_57 (c_X5_number l G N v0 h8 _ _ q34) rfl ⟨rfl, rfl, Nat.le_of_ble_eq_true rfl, Nat.le_of_ble_eq_true rfl⟩ ⟨Nat.le_of_ble_eq_true rfl, Nat.le_of_ble_eq_true rfl⟩ X M (x_recv cls_X5 X M q33) rfl rfl hl.1 (Nat.le_of_ble_eq_true rfl) dX5_clause_91 (fun H locs M => ?_)
        obtain ⟨h37, q38, hf⟩ := bnd hf
        refine x_puti fl_X5_60 fp_X5_60.1 fp_X5_60.2 X M q38 dX5_clause_94 (fun H locs M => ?_)
        refine lv_aload_n X.1 X.2.1 dX5_clause_97 rfl (lv_at hl 2 rfl) ?_
        obtain ⟨t39, q40, hf⟩ := bnd hf
        refine x_geti fl_X5_60 X M q40 dX5_clause_98 ?_
        refine lv_if_lt (tgt := 108) X.1 X.2.1 dX5_clause_101 (by decide) (fun c41 => ?_) (fun c41 => ?_)
        · have hf := ifp c41 hf
          refine lv_iconst (v := (0 : Int32)) X.1 X.2.1 dX5_clause_108 (by decide) ?_
          obtain ⟨rfl, rfl⟩ := rt2 hf
          exact x_zret X hr hk rfl M dX5_clause_109
        · have hf := ifn c41 hf
          refine lv_iconst (v := (1 : Int32)) X.1 X.2.1 dX5_clause_104 (by decide) ?_
          refine lv_goto (tgt := 109) X.1 X.2.1 dX5_clause_105 (by decide) ?_
          obtain ⟨rfl, rfl⟩ := rt2 hf
          exact x_zret X hr hk rfl M dX5_clause_109
      have hf := ifn c32 hf
      by_cases c42 : t4 = 4
      · have hf := ifp c42 hf
        refine x_tin (z := 4) (tgt := 110) X rfl c42 dX5_clause_21 (by decide) (by decide) rfl (by decide) ?_
        refine lv_aload_n X.1 X.2.1 dX5_clause_110 rfl (lv_at hl 2 rfl) ?_
        refine lv_aload_n X.1 X.2.1 dX5_clause_111 rfl (lv_at hl 1 rfl) ?_
        refine x_ldcs (i := 1) rfl rfl X dX5_clause_112 ?_
        obtain ⟨⟨⟩, q43, hf⟩ := bnd hf
        obtain ⟨t46, h45, q44, hf⟩ := bnd2 hf
        refine x_callVi (As := [.ref (gK G 1)]) cf_X5_65 (c_X5_letter l G N v0 1 h8 _ _ q44) rfl ⟨rfl, rfl, Nat.le_of_ble_eq_true rfl, Nat.le_of_ble_eq_true rfl⟩ ⟨Nat.le_of_ble_eq_true rfl, Nat.le_of_ble_eq_true rfl⟩ X M (x_recv cls_X5 X M q43) rfl rfl hl.1 (Nat.le_of_ble_eq_true rfl) dX5_clause_114 (fun H locs M => ?_)
        obtain ⟨h47, q48, hf⟩ := bnd hf
        refine x_puti fl_X5_69 fp_X5_69.1 fp_X5_69.2 X M q48 dX5_clause_117 (fun H locs M => ?_)
        refine lv_aload_n X.1 X.2.1 dX5_clause_120 rfl (lv_at hl 2 rfl) ?_
        obtain ⟨t49, q50, hf⟩ := bnd hf
        refine x_geti fl_X5_69 X M q50 dX5_clause_121 ?_
        refine lv_if_lt (tgt := 131) X.1 X.2.1 dX5_clause_124 (by decide) (fun c51 => ?_) (fun c51 => ?_)
        · have hf := ifp c51 hf
          refine lv_iconst (v := (0 : Int32)) X.1 X.2.1 dX5_clause_131 (by decide) ?_
          obtain ⟨rfl, rfl⟩ := rt2 hf
          exact x_zret X hr hk rfl M dX5_clause_132
        · have hf := ifn c51 hf
          refine lv_iconst (v := (1 : Int32)) X.1 X.2.1 dX5_clause_127 (by decide) ?_
          refine lv_goto (tgt := 132) X.1 X.2.1 dX5_clause_128 (by decide) ?_
          obtain ⟨rfl, rfl⟩ := rt2 hf
          exact x_zret X hr hk rfl M dX5_clause_132
      have hf := ifn c42 hf
      by_cases c52 : t4 = 5
      · have hf := ifp c52 hf
        refine x_tin (z := 5) (tgt := 133) X rfl c52 dX5_clause_21 (by decide) (by decide) rfl (by decide) ?_
        refine lv_aload_n X.1 X.2.1 dX5_clause_133 rfl (lv_at hl 2 rfl) ?_
        refine lv_aload_n X.1 X.2.1 dX5_clause_134 rfl (lv_at hl 1 rfl) ?_
        refine x_ldcs (i := 2) rfl rfl X dX5_clause_135 ?_
        obtain ⟨⟨⟩, q53, hf⟩ := bnd hf
        obtain ⟨t56, h55, q54, hf⟩ := bnd2 hf
        refine x_callVi (As := [.ref (gK G 2)]) cf_X5_65 (c_X5_letter l G N v0 2 h8 _ _ q54) rfl ⟨rfl, rfl, Nat.le_of_ble_eq_true rfl, Nat.le_of_ble_eq_true rfl⟩ ⟨Nat.le_of_ble_eq_true rfl, Nat.le_of_ble_eq_true rfl⟩ X M (x_recv cls_X5 X M q53) rfl rfl hl.1 (Nat.le_of_ble_eq_true rfl) dX5_clause_137 (fun H locs M => ?_)
        obtain ⟨h57, q58, hf⟩ := bnd hf
        refine x_puti fl_X5_74 fp_X5_74.1 fp_X5_74.2 X M q58 dX5_clause_140 (fun H locs M => ?_)
        refine lv_aload_n X.1 X.2.1 dX5_clause_143 rfl (lv_at hl 2 rfl) ?_
        obtain ⟨t59, q60, hf⟩ := bnd hf
        refine x_geti fl_X5_74 X M q60 dX5_clause_144 ?_
        refine lv_if_lt (tgt := 154) X.1 X.2.1 dX5_clause_147 (by decide) (fun c61 => ?_) (fun c61 => ?_)
        · have hf := ifp c61 hf
          refine lv_iconst (v := (0 : Int32)) X.1 X.2.1 dX5_clause_154 (by decide) ?_
          obtain ⟨rfl, rfl⟩ := rt2 hf
          exact x_zret X hr hk rfl M dX5_clause_155
        · have hf := ifn c61 hf
          refine lv_iconst (v := (1 : Int32)) X.1 X.2.1 dX5_clause_150 (by decide) ?_
          refine lv_goto (tgt := 155) X.1 X.2.1 dX5_clause_151 (by decide) ?_
          obtain ⟨rfl, rfl⟩ := rt2 hf
          exact x_zret X hr hk rfl M dX5_clause_155
      have hf := ifn c52 hf
      have nc11 := lv_neT (a := 0) c11 rfl
      have nc18 := lv_neT (a := 1) c18 rfl
      have nc25 := lv_neT (a := 2) c25 rfl
      have nc32 := lv_neT (a := 3) c32 rfl
      have nc42 := lv_neT (a := 4) c42 rfl
      have nc52 := lv_neT (a := 5) c52 rfl
      refine lv_tableOut (tgt := 156) X.1 X.2.1 dX5_clause_21 (by omega) (by decide) ?_
      refine lv_aload_n X.1 X.2.1 dX5_clause_156 rfl (lv_at hl 1 rfl) ?_
      refine lv_aload_n X.1 X.2.1 dX5_clause_157 rfl (lv_at hl 2 rfl) ?_
      refine lv_iconst (v := (0 : Int32)) X.1 X.2.1 dX5_clause_158 (by decide) ?_
      obtain ⟨⟨⟩, q62, hf⟩ := bnd hf
      obtain ⟨t65, h64, q63, hf⟩ := bnd2 hf
      refine x_callVi (As := [.ref (gB G + v1), .int (0 : Int32)]) cf_X5_77 (C_X5_either l G N v0 v1 (0 : Int32) h8 _ _ q63) rfl ⟨rfl, rfl, Nat.le_of_ble_eq_true rfl, Nat.le_of_ble_eq_true rfl⟩ ⟨Nat.le_of_ble_eq_true rfl, Nat.le_of_ble_eq_true rfl⟩ X M (x_recv cls_X5 X M q62) rfl rfl hl.1 (Nat.le_of_ble_eq_true rfl) dX5_clause_159 (fun H locs M => ?_)
      refine lv_if_eq (tgt := 186) X.1 X.2.1 dX5_clause_162 (by decide) (fun c66 => ?_) (fun c66 => ?_)
      · have hf := ifp c66 hf
        refine lv_iconst (v := (0 : Int32)) X.1 X.2.1 dX5_clause_186 (by decide) ?_
        obtain ⟨rfl, rfl⟩ := rt2 hf
        exact x_zret X hr hk rfl M dX5_clause_187
      · have hf := ifn c66 hf
        refine lv_aload_n X.1 X.2.1 dX5_clause_165 rfl (lv_at hl 1 rfl) ?_
        refine lv_bipush (v := (32 : Int32)) X.1 X.2.1 dX5_clause_166 (by decide) ?_
        obtain ⟨⟨⟩, q67, hf⟩ := bnd hf
        obtain ⟨t70, h69, q68, hf⟩ := bnd2 hf
        refine x_callVi (As := [.int (32 : Int32)]) cf_X5_31 (c_X5_met l G N v0 (32 : Int32) h64 _ _ q68) rfl ⟨rfl, rfl, Nat.le_of_ble_eq_true rfl, Nat.le_of_ble_eq_true rfl⟩ ⟨Nat.le_of_ble_eq_true rfl, Nat.le_of_ble_eq_true rfl⟩ X M (x_recv cls_X5 X M q67) rfl rfl hl.1 (Nat.le_of_ble_eq_true rfl) dX5_clause_168 (fun H locs M => ?_)
        refine lv_if_eq (tgt := 186) X.1 X.2.1 dX5_clause_171 (by decide) (fun c71 => ?_) (fun c71 => ?_)
        · have hf := ifp c71 hf
          refine lv_iconst (v := (0 : Int32)) X.1 X.2.1 dX5_clause_186 (by decide) ?_
          obtain ⟨rfl, rfl⟩ := rt2 hf
          exact x_zret X hr hk rfl M dX5_clause_187
        · have hf := ifn c71 hf
          refine lv_aload_n X.1 X.2.1 dX5_clause_174 rfl (lv_at hl 1 rfl) ?_
          refine lv_aload_n X.1 X.2.1 dX5_clause_175 rfl (lv_at hl 2 rfl) ?_
          obtain ⟨⟨⟩, q72, hf⟩ := bnd hf
          obtain ⟨t75, h74, q73, hf⟩ := bnd2 hf
          refine x_callVi (As := [.ref (gB G + v1)]) cf_X5_81 (c_X5_weight l G N v0 v1 h69 _ _ q73) rfl ⟨rfl, rfl, Nat.le_of_ble_eq_true rfl, Nat.le_of_ble_eq_true rfl⟩ ⟨Nat.le_of_ble_eq_true rfl, Nat.le_of_ble_eq_true rfl⟩ X M (x_recv cls_X5 X M q72) rfl rfl hl.1 (Nat.le_of_ble_eq_true rfl) dX5_clause_176 (fun H locs M => ?_)
          refine lv_if_eq (tgt := 186) X.1 X.2.1 dX5_clause_179 (by decide) (fun c76 => ?_) (fun c76 => ?_)
          · have hf := ifp c76 hf
            refine lv_iconst (v := (0 : Int32)) X.1 X.2.1 dX5_clause_186 (by decide) ?_
            obtain ⟨rfl, rfl⟩ := rt2 hf
            exact x_zret X hr hk rfl M dX5_clause_187
          · have hf := ifn c76 hf
            refine lv_iconst (v := (1 : Int32)) X.1 X.2.1 dX5_clause_182 (by decide) ?_
            refine lv_goto (tgt := 187) X.1 X.2.1 dX5_clause_183 (by decide) ?_
            obtain ⟨rfl, rfl⟩ := rt2 hf
            exact x_zret X hr hk rfl M dX5_clause_187
    · have hf := ifp c10 hf
      refine lv_iconst (v := (0 : Int32)) X.1 X.2.1 dX5_clause_18 (by decide) ?_
      obtain ⟨rfl, rfl⟩ := rt2 hf
      exact x_zret X hr hk rfl M dX5_clause_19
theorem c_X5_clause (l : Launch) (G : Gx) (N : Nat) (v0 : Nat) (v1 : Nat) (h : Mem) (r : Int32) (h' : Mem) (hf : f_X5_clause N v0 v1 h = some (r, h')) : MetG l G yX5_clause (.code yX5_clause cX5_clause 3 (Option.some Jvm.ClassFile.FieldType.boolean)) rm_X5_clause [.ref (gB G + v0), .ref (gB G + v1)] h (QcI G r h') 0 0 :=
  x_met (by decide) rfl (Nat.le_of_ble_eq_true rfl) (fun p e s m args below meth c ls X M hr hk hin hl => w_X5_clause X hr hk N v0 v1 h hf _ _ ls M hl)
abbrev rm_X5_faultIn : Room := { frames := 26, cells := 0, slots := 0, locals := 768 }
def f_X5_faultIn_58 (N : Nat) (v0 : Nat) (h : Mem) : Option (Int32 × Mem) :=
  (gI h v0 5 2).bind fun t1 =>
  some (t1, h)
set_option maxRecDepth 100000 in
set_option maxHeartbeats 4000000 in
theorem w_X5_faultIn_58 {p : Program} {l : Launch} {e : Env} {s : State} {m : MethodId} {args : Array Value} {below : List Frame} {meth : Method} {c : Code} {G : Gx} {r : Int32} {h' : Mem} (X : CX G p s m args c cX5_faultIn 3 RX5) (hr : meth.sig.returnType = (Option.some Jvm.ClassFile.FieldType.int)) (hk : meth.locks = false) (N : Nat) : ∀ (v0 : Nat) (h : Mem), f_X5_faultIn_58 N v0 h = some (r, h') → ∀ (H : Heap) (locs : List Loc) (ls : Array Slot), MS G s h H locs 0 → lv_has ls 3 [(0, .ref (gB G + v0))] → W p l e (rm_X5_faultIn) s m args below meth c H locs 0 0 (QI G below args s r h' 0 0) (F0 m 58 ls []) := by
  intro v0 h hf H locs ls M hl
  rw [f_X5_faultIn_58] at hf
  refine lv_aload_n X.1 X.2.1 dX5_faultIn_58 rfl (lv_at hl 0 rfl) ?_
  obtain ⟨t1, q2, hf⟩ := bnd hf
  refine x_geti fl_X5_24 X M q2 dX5_faultIn_59 ?_
  obtain ⟨rfl, rfl⟩ := rt2 hf
  exact x_iret X hr hk M dX5_faultIn_62
def f_X5_faultIn_11 (N : Nat) (n : Nat) (v0 : Nat) (v1 : Nat) (v2 : Int32) (h : Mem) : Option (Int32 × Mem) := match n with
  | 0 => none
  | n + 1 =>
    if (10 : Int32) < v2 then
      (gI h v0 5 2).bind fun t2 =>
      some (t2, h)
    else
      (ck h v0 5).bind fun _ =>
      b2 (f_X5_clause N v0 v1 h) fun t7 h6 =>
      if t7 = 0 then
        (gI h6 v0 5 2).bind fun t20 =>
        some (t20, h6)
      else
        (gI h6 v0 5 2).bind fun t9 =>
        (gI h6 v0 5 1).bind fun t11 =>
        if t9 = t11 then
          some ((-1 : Int32), h6)
        else
          if v2 = (10 : Int32) then
            f_X5_faultIn_58 N v0 h6
          else
            (ck h6 v0 5).bind fun _ =>
            b2 (f_X5_met N v0 (59 : Int32) h6) fun t18 h17 =>
            if t18 = 0 then
              f_X5_faultIn_58 N v0 h17
            else
              f_X5_faultIn_11 N n v0 v1 (v2 + 1) h17
set_option maxRecDepth 100000 in
set_option maxHeartbeats 4000000 in
theorem w_X5_faultIn_11 {p : Program} {l : Launch} {e : Env} {s : State} {m : MethodId} {args : Array Value} {below : List Frame} {meth : Method} {c : Code} {G : Gx} {r : Int32} {h' : Mem} (X : CX G p s m args c cX5_faultIn 3 RX5) (hr : meth.sig.returnType = (Option.some Jvm.ClassFile.FieldType.int)) (hk : meth.locks = false) (N : Nat) : ∀ (n : Nat) (v0 : Nat) (v1 : Nat) (v2 : Int32) (h : Mem), f_X5_faultIn_11 N n v0 v1 v2 h = some (r, h') → ∀ (H : Heap) (locs : List Loc) (ls : Array Slot), MS G s h H locs 0 → lv_has ls 3 [(0, .ref (gB G + v0)), (1, .ref (gB G + v1)), (2, .int v2)] → W p l e (rm_X5_faultIn) s m args below meth c H locs 0 0 (QI G below args s r h' 0 0) (F0 m 11 ls []) := by
  intro n
  induction n with
  | zero =>
    intro v0 v1 v2 h hf
    cases hf
  | succ n ih =>
    intro v0 v1 v2 h hf H locs ls M hl
    rw [f_X5_faultIn_11] at hf
    refine lv_iload_n X.1 X.2.1 dX5_faultIn_11 rfl (lv_at hl 2 rfl) ?_
    refine lv_bipush (v := (10 : Int32)) X.1 X.2.1 dX5_faultIn_12 (by decide) ?_
    refine lv_icmp_gt (tgt := 69) X.1 X.2.1 dX5_faultIn_14 (by decide) (fun c1 => ?_) (fun c1 => ?_)
    · have hf := ifp c1 hf
      refine lv_aload_n X.1 X.2.1 dX5_faultIn_69 rfl (lv_at hl 0 rfl) ?_
      obtain ⟨t2, q3, hf⟩ := bnd hf
      refine x_geti fl_X5_24 X M q3 dX5_faultIn_70 ?_
      obtain ⟨rfl, rfl⟩ := rt2 hf
      exact x_iret X hr hk M dX5_faultIn_73
    · have hf := ifn c1 hf
      refine lv_aload_n X.1 X.2.1 dX5_faultIn_17 rfl (lv_at hl 0 rfl) ?_
      refine lv_aload_n X.1 X.2.1 dX5_faultIn_18 rfl (lv_at hl 1 rfl) ?_
      obtain ⟨⟨⟩, q4, hf⟩ := bnd hf
      obtain ⟨t7, h6, q5, hf⟩ := bnd2 hf
      refine x_callVi (As := [.ref (gB G + v1)]) cf_X5_27 (c_X5_clause l G N v0 v1 h _ _ q5) rfl ⟨rfl, rfl, Nat.le_of_ble_eq_true rfl, Nat.le_of_ble_eq_true rfl⟩ ⟨Nat.le_of_ble_eq_true rfl, Nat.le_of_ble_eq_true rfl⟩ X M (x_recv cls_X5 X M q4) rfl rfl hl.1 (Nat.le_of_ble_eq_true rfl) dX5_faultIn_19 (fun H locs M => ?_)
      refine lv_if_ne (tgt := 30) X.1 X.2.1 dX5_faultIn_22 (by decide) (fun c8 => ?_) (fun c8 => ?_)
      · have hf := ifn c8 hf
        refine lv_aload_n X.1 X.2.1 dX5_faultIn_30 rfl (lv_at hl 0 rfl) ?_
        obtain ⟨t9, q10, hf⟩ := bnd hf
        refine x_geti fl_X5_24 X M q10 dX5_faultIn_31 ?_
        refine lv_aload_n X.1 X.2.1 dX5_faultIn_34 rfl (lv_at hl 0 rfl) ?_
        obtain ⟨t11, q12, hf⟩ := bnd hf
        refine x_geti fl_X5_15 X M q12 dX5_faultIn_35 ?_
        refine lv_icmp_ne (tgt := 43) X.1 X.2.1 dX5_faultIn_38 (by decide) (fun c13 => ?_) (fun c13 => ?_)
        · have hf := ifn c13 hf
          refine lv_iload_n X.1 X.2.1 dX5_faultIn_43 rfl (lv_at hl 2 rfl) ?_
          refine lv_bipush (v := (10 : Int32)) X.1 X.2.1 dX5_faultIn_44 (by decide) ?_
          refine lv_icmp_eq (tgt := 58) X.1 X.2.1 dX5_faultIn_46 (by decide) (fun c14 => ?_) (fun c14 => ?_)
          · have hf := ifp c14 hf
            exact w_X5_faultIn_58 X hr hk N v0 h6 hf _ _ _ M (lv_sub hl [0] rfl)
          · have hf := ifn c14 hf
            refine lv_aload_n X.1 X.2.1 dX5_faultIn_49 rfl (lv_at hl 0 rfl) ?_
            refine lv_bipush (v := (59 : Int32)) X.1 X.2.1 dX5_faultIn_50 (by decide) ?_
            obtain ⟨⟨⟩, q15, hf⟩ := bnd hf
            obtain ⟨t18, h17, q16, hf⟩ := bnd2 hf
            refine x_callVi (As := [.int (59 : Int32)]) cf_X5_31 (c_X5_met l G N v0 (59 : Int32) h6 _ _ q16) rfl ⟨rfl, rfl, Nat.le_of_ble_eq_true rfl, Nat.le_of_ble_eq_true rfl⟩ ⟨Nat.le_of_ble_eq_true rfl, Nat.le_of_ble_eq_true rfl⟩ X M (x_recv cls_X5 X M q15) rfl rfl hl.1 (Nat.le_of_ble_eq_true rfl) dX5_faultIn_52 (fun H locs M => ?_)
            refine lv_if_ne (tgt := 63) X.1 X.2.1 dX5_faultIn_55 (by decide) (fun c19 => ?_) (fun c19 => ?_)
            · have hf := ifn c19 hf
              refine lv_iinc (v := (v2 + 1)) (lv' := [(2, .int (v2 + 1)), (0, .ref (gB G + v0)), (1, .ref (gB G + v1))]) X.1 X.2.1 dX5_faultIn_63 hl (k := 2) rfl (by first | rfl | decide) (by decide) rfl (fun ls hl => ?_)
              refine lv_goto (tgt := 11) X.1 X.2.1 dX5_faultIn_66 (by decide) ?_
              exact ih v0 v1 (v2 + 1) h17 hf _ _ _ M (lv_sub hl [1, 2, 0] rfl)
            · have hf := ifp c19 hf
              exact w_X5_faultIn_58 X hr hk N v0 h17 hf _ _ _ M (lv_sub hl [0] rfl)
        · have hf := ifp c13 hf
          refine lv_iconst (v := (-1 : Int32)) X.1 X.2.1 dX5_faultIn_41 (by decide) ?_
          obtain ⟨rfl, rfl⟩ := rt2 hf
          exact x_iret X hr hk M dX5_faultIn_42
      · have hf := ifp c8 hf
        refine lv_aload_n X.1 X.2.1 dX5_faultIn_25 rfl (lv_at hl 0 rfl) ?_
        obtain ⟨t20, q21, hf⟩ := bnd hf
        refine x_geti fl_X5_24 X M q21 dX5_faultIn_26 ?_
        obtain ⟨rfl, rfl⟩ := rt2 hf
        exact x_iret X hr hk M dX5_faultIn_29
def f_X5_faultIn (N : Nat) (v0 : Nat) (v1 : Nat) (h : Mem) : Option (Int32 × Mem) :=
  (ck h v1 3).bind fun _ =>
  (f_X3_forget N v1 h).bind fun h3 =>
  (sI h3 v0 5 2 (0 : Int32)).bind fun h4 =>
  f_X5_faultIn_11 N N v0 v1 (1 : Int32) h4
set_option maxRecDepth 100000 in
set_option maxHeartbeats 4000000 in
theorem w_X5_faultIn {p : Program} {l : Launch} {e : Env} {s : State} {m : MethodId} {args : Array Value} {below : List Frame} {meth : Method} {c : Code} {G : Gx} {r : Int32} {h' : Mem} (X : CX G p s m args c cX5_faultIn 3 RX5) (hr : meth.sig.returnType = (Option.some Jvm.ClassFile.FieldType.int)) (hk : meth.locks = false) (N : Nat) : ∀ (v0 : Nat) (v1 : Nat) (h : Mem), f_X5_faultIn N v0 v1 h = some (r, h') → ∀ (H : Heap) (locs : List Loc) (ls : Array Slot), MS G s h H locs 0 → lv_has ls 3 [(0, .ref (gB G + v0)), (1, .ref (gB G + v1))] → W p l e (rm_X5_faultIn) s m args below meth c H locs 0 0 (QI G below args s r h' 0 0) (F0 m 0 ls []) := by
  intro v0 v1 h hf H locs ls M hl
  rw [f_X5_faultIn] at hf
  refine lv_aload_n X.1 X.2.1 dX5_faultIn_0 rfl (lv_at hl 1 rfl) ?_
  obtain ⟨⟨⟩, q1, hf⟩ := bnd hf
  obtain ⟨h3, q2, hf⟩ := bnd hf
  refine x_callVv (As := []) cf_X5_19 (c_X3_forget l G N v1 h _ q2) rfl ⟨rfl, rfl, Nat.le_of_ble_eq_true rfl, Nat.le_of_ble_eq_true rfl⟩ ⟨Nat.le_of_ble_eq_true rfl, Nat.le_of_ble_eq_true rfl⟩ X M (x_recv cls_X3 X M q1) rfl rfl hl.1 (Nat.le_of_ble_eq_true rfl) dX5_faultIn_1 (fun H locs M => ?_)
  refine lv_aload_n X.1 X.2.1 dX5_faultIn_4 rfl (lv_at hl 0 rfl) ?_
  refine lv_iconst (v := (0 : Int32)) X.1 X.2.1 dX5_faultIn_5 (by decide) ?_
  obtain ⟨h4, q5, hf⟩ := bnd hf
  refine x_puti fl_X5_24 fp_X5_24.1 fp_X5_24.2 X M q5 dX5_faultIn_6 (fun H locs M => ?_)
  refine lv_iconst (v := (1 : Int32)) X.1 X.2.1 dX5_faultIn_9 (by decide) ?_
  refine lv_istore_n (lv' := [(2, .int (1 : Int32)), (0, .ref (gB G + v0)), (1, .ref (gB G + v1))]) X.1 X.2.1 dX5_faultIn_10 rfl hl (by decide) rfl (fun ls hl => ?_)
  exact w_X5_faultIn_11 X hr hk N N v0 v1 (1 : Int32) h4 hf _ _ _ M (lv_sub hl [1, 2, 0] rfl)
theorem c_X5_faultIn (l : Launch) (G : Gx) (N : Nat) (v0 : Nat) (v1 : Nat) (h : Mem) (r : Int32) (h' : Mem) (hf : f_X5_faultIn N v0 v1 h = some (r, h')) : MetG l G yX5_faultIn (.code yX5_faultIn cX5_faultIn 3 (Option.some Jvm.ClassFile.FieldType.int)) rm_X5_faultIn [.ref (gB G + v0), .ref (gB G + v1)] h (QcI G r h') 0 0 :=
  x_met (by decide) rfl (Nat.le_of_ble_eq_true rfl) (fun p e s m args below meth c ls X M hr hk hin hl => w_X5_faultIn X hr hk N v0 v1 h hf _ _ ls M hl)
