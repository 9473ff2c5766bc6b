abbrev rm_X3_init : Room := { frames := 1, cells := 4, slots := 151, locals := 40 }
def f_X3_init (N : Nat) (v0 : Nat) (h : Mem) : Option Mem :=
  (sR (al h (100, 12)) v0 3 0 h.1.length).bind fun h1 =>
  (sR (al h1 (100, 16)) v0 3 1 h1.1.length).bind fun h3 =>
  (stI 100 (al h3 (100, 3)) h3.1.length (0 : Int32) (10 : Int32)).bind fun h5 =>
  (stI 100 h5 h3.1.length (1 : Int32) (10 : Int32)).bind fun h7 =>
  (stI 100 h7 h3.1.length (2 : Int32) (10 : Int32)).bind fun h9 =>
  (sR h9 v0 3 2 h3.1.length).bind fun h11 =>
  (sR (al h11 (100, 120)) v0 3 6 h11.1.length).bind fun h13 =>
  some h13
set_option maxRecDepth 100000 in
set_option maxHeartbeats 4000000 in
theorem w_X3_init {p : Program} {l : Launch} {e : Env} {s : State} {m : MethodId} {args : Array Value} {below : List Frame} {meth : Method} {c : Code} {G : Gx} {h' : Mem} {L : Nat} (X : CX G p s m args c cX3_init 1 RX3) (hr : meth.sig.returnType = (Option.none : Option Jvm.ClassFile.FieldType)) (hk : meth.locks = false) (hL : s.heap.size + 4 = gB G + L) (hin : meth.name = "<init>") (N : Nat) : ∀ (v0 : Nat) (h : Mem), f_X3_init N v0 h = some h' → ∀ (H : Heap) (locs : List Loc) (ls : Array Slot), MS G s h H locs 0 → lv_has ls 1 [(0, .ref (gB G + v0))] → W p l e (rm_X3_init) s m args below meth c H locs 0 0 (QV G below args s h' L 4 151) (F0 m 0 ls []) := by
  intro v0 h hf H locs ls M hl
  rw [f_X3_init] at hf
  refine lv_aload_n X.1 X.2.1 dX3_init_0 rfl (lv_at hl 0 rfl) ?_
  refine x_obj k_36 k_27 k_28 X hl.1 dX3_init_1 (Nat.le_of_ble_eq_true rfl) (Nat.le_of_ble_eq_true rfl) ?_
  refine lv_aload_n X.1 X.2.1 dX3_init_4 rfl (lv_at hl 0 rfl) ?_
  refine lv_bipush (v := (12 : Int32)) X.1 X.2.1 dX3_init_5 (by decide) ?_
  refine x_newI (N := 12) k_75 (by decide) (by decide) (by decide) X M ⟨Nat.le_of_ble_eq_true rfl, Nat.le_of_ble_eq_true rfl⟩ dX3_init_7 (fun H locs M => ?_)
  obtain ⟨h1, q2, hf⟩ := bnd hf
  refine x_putrF fl_X3_9 fp_X3_9.1 hin rfl fp_X3_9.2 (fun _ => rfl) (fun _ => rfl) X M q2 dX3_init_9 (fun H locs M => ?_)
  refine lv_aload_n X.1 X.2.1 dX3_init_12 rfl (lv_at hl 0 rfl) ?_
  refine lv_bipush (v := (16 : Int32)) X.1 X.2.1 dX3_init_13 (by decide) ?_
  refine x_newI (N := 16) k_75 (by decide) (by decide) (by decide) X M ⟨Nat.le_of_ble_eq_true rfl, Nat.le_of_ble_eq_true rfl⟩ dX3_init_15 (fun H locs M => ?_)
  obtain ⟨h3, q4, hf⟩ := bnd hf
  refine x_putrF fl_X3_15 fp_X3_15.1 hin rfl fp_X3_15.2 (fun _ => rfl) (fun _ => rfl) X M q4 dX3_init_17 (fun H locs M => ?_)
  refine lv_aload_n X.1 X.2.1 dX3_init_20 rfl (lv_at hl 0 rfl) ?_
  refine lv_iconst (v := (3 : Int32)) X.1 X.2.1 dX3_init_21 (by decide) ?_
  refine x_newI (N := 3) k_75 (by decide) (by decide) (by decide) X M ⟨Nat.le_of_ble_eq_true rfl, Nat.le_of_ble_eq_true rfl⟩ dX3_init_22 (fun H locs M => ?_)
  refine lv_dup X.1 X.2.1 dX3_init_24 rfl ?_
  refine lv_iconst (v := (0 : Int32)) X.1 X.2.1 dX3_init_25 (by decide) ?_
  refine lv_bipush (v := (10 : Int32)) X.1 X.2.1 dX3_init_26 (by decide) ?_
  obtain ⟨h5, q6, hf⟩ := bnd hf
  refine x_iast X M q6 dX3_init_28 (fun H locs M => ?_)
  refine lv_dup X.1 X.2.1 dX3_init_29 rfl ?_
  refine lv_iconst (v := (1 : Int32)) X.1 X.2.1 dX3_init_30 (by decide) ?_
  refine lv_bipush (v := (10 : Int32)) X.1 X.2.1 dX3_init_31 (by decide) ?_
  obtain ⟨h7, q8, hf⟩ := bnd hf
  refine x_iast X M q8 dX3_init_33 (fun H locs M => ?_)
  refine lv_dup X.1 X.2.1 dX3_init_34 rfl ?_
  refine lv_iconst (v := (2 : Int32)) X.1 X.2.1 dX3_init_35 (by decide) ?_
  refine lv_bipush (v := (10 : Int32)) X.1 X.2.1 dX3_init_36 (by decide) ?_
  obtain ⟨h9, q10, hf⟩ := bnd hf
  refine x_iast X M q10 dX3_init_38 (fun H locs M => ?_)
  obtain ⟨h11, q12, hf⟩ := bnd hf
  refine x_putrF fl_X3_18 fp_X3_18.1 hin rfl fp_X3_18.2 (fun _ => rfl) (fun _ => rfl) X M q12 dX3_init_39 (fun H locs M => ?_)
  refine lv_aload_n X.1 X.2.1 dX3_init_42 rfl (lv_at hl 0 rfl) ?_
  refine lv_bipush (v := (120 : Int32)) X.1 X.2.1 dX3_init_43 (by decide) ?_
  refine x_newI (N := 120) k_75 (by decide) (by decide) (by decide) X M ⟨Nat.le_of_ble_eq_true rfl, Nat.le_of_ble_eq_true rfl⟩ dX3_init_45 (fun H locs M => ?_)
  obtain ⟨h13, q14, hf⟩ := bnd hf
  refine x_putrF fl_X3_23 fp_X3_23.1 hin rfl fp_X3_23.2 (fun _ => rfl) (fun _ => rfl) X M q14 dX3_init_47 (fun H locs M => ?_)
  obtain rfl := rt1 hf
  exact x_vret X hr hk M hL dX3_init_50
theorem c_X3_init (l : Launch) (G : Gx) (N : Nat) (v0 : Nat) (h : Mem) (h' : Mem) (hf : f_X3_init N v0 h = some h') : MetG l G yX3_init (.code yX3_init cX3_init 1 (Option.none : Option Jvm.ClassFile.FieldType)) rm_X3_init [.ref (gB G + v0)] h (QcV G h' (h.1.length + 4)) 4 151 :=
  x_met (by decide) rfl (Nat.le_of_ble_eq_true rfl) (fun p e s m args below meth c ls X M hr hk hin hl => w_X3_init X hr hk (by have := M.2.2; omega) hin N v0 h hf _ _ ls M hl)
abbrev rm_X7_init : Room := { frames := 1, cells := 1, slots := 60, locals := 40 }
def f_X7_init (N : Nat) (v0 : Nat) (h : Mem) : Option Mem :=
  (sR (al h (103, 60)) v0 7 0 h.1.length).bind fun h1 =>
  (sI h1 v0 7 1 (-1 : Int32)).bind fun h3 =>
  some h3
set_option maxRecDepth 100000 in
set_option maxHeartbeats 4000000 in
theorem w_X7_init {p : Program} {l : Launch} {e : Env} {s : State} {m : MethodId} {args : Array Value} {below : List Frame} {meth : Method} {c : Code} {G : Gx} {h' : Mem} {L : Nat} (X : CX G p s m args c cX7_init 1 RX7) (hr : meth.sig.returnType = (Option.none : Option Jvm.ClassFile.FieldType)) (hk : meth.locks = false) (hL : s.heap.size + 1 = gB G + L) (hin : meth.name = "<init>") (N : Nat) : ∀ (v0 : Nat) (h : Mem), f_X7_init N v0 h = some h' → ∀ (H : Heap) (locs : List Loc) (ls : Array Slot), MS G s h H locs 0 → lv_has ls 1 [(0, .ref (gB G + v0))] → W p l e (rm_X7_init) s m args below meth c H locs 0 0 (QV G below args s h' L 1 60) (F0 m 0 ls []) := by
  intro v0 h hf H locs ls M hl
  rw [f_X7_init] at hf
  refine lv_aload_n X.1 X.2.1 dX7_init_0 rfl (lv_at hl 0 rfl) ?_
  refine x_obj k_239 k_27 k_28 X hl.1 dX7_init_1 (Nat.le_of_ble_eq_true rfl) (Nat.le_of_ble_eq_true rfl) ?_
  refine lv_aload_n X.1 X.2.1 dX7_init_4 rfl (lv_at hl 0 rfl) ?_
  refine lv_bipush (v := (60 : Int32)) X.1 X.2.1 dX7_init_5 (by decide) ?_
  refine x_newJ (N := 60) k_193 (by decide) (by decide) (by decide) X M ⟨Nat.le_of_ble_eq_true rfl, Nat.le_of_ble_eq_true rfl⟩ dX7_init_7 (fun H locs M => ?_)
  obtain ⟨h1, q2, hf⟩ := bnd hf
  refine x_putrF fl_X7_9 fp_X7_9.1 hin rfl fp_X7_9.2 (fun _ => rfl) (fun _ => rfl) X M q2 dX7_init_9 (fun H locs M => ?_)
  refine lv_aload_n X.1 X.2.1 dX7_init_12 rfl (lv_at hl 0 rfl) ?_
  refine lv_iconst (v := (-1 : Int32)) X.1 X.2.1 dX7_init_13 (by decide) ?_
  obtain ⟨h3, q4, hf⟩ := bnd hf
  refine x_puti fl_X7_13 fp_X7_13.1 fp_X7_13.2 X M q4 dX7_init_14 (fun H locs M => ?_)
  obtain rfl := rt1 hf
  exact x_vret X hr hk M hL dX7_init_17
theorem c_X7_init (l : Launch) (G : Gx) (N : Nat) (v0 : Nat) (h : Mem) (h' : Mem) (hf : f_X7_init N v0 h = some h') : MetG l G yX7_init (.code yX7_init cX7_init 1 (Option.none : Option Jvm.ClassFile.FieldType)) rm_X7_init [.ref (gB G + v0)] h (QcV G h' (h.1.length + 1)) 1 60 :=
  x_met (by decide) rfl (Nat.le_of_ble_eq_true rfl) (fun p e s m args below meth c ls X M hr hk hin hl => w_X7_init X hr hk (by have := M.2.2; omega) hin N v0 h hf _ _ ls M hl)
abbrev rm_X3_holds : Room := { frames := 1, cells := 0, slots := 0, locals := 40 }
def f_X3_holds (N : Nat) (v0 : Int32) (v1 : Int32) (v2 : Int32) (h : Mem) : Option (Int32 × Mem) :=
  if v1 = 0 then
    if v2 ≤ v0 then
      some ((0 : Int32), h)
    else
      some ((1 : Int32), h)
  else
    if v1 = (1 : Int32) then
      if v0 = v2 then
        some ((1 : Int32), h)
      else
        some ((0 : Int32), h)
    else
      if v0 ≤ v2 then
        some ((0 : Int32), h)
      else
        some ((1 : Int32), h)
set_option maxRecDepth 100000 in
set_option maxHeartbeats 4000000 in
theorem w_X3_holds {p : Program} {l : Launch} {e : Env} {s : State} {m : MethodId} {args : Array Value} {below : List Frame} {meth : Method} {c : Code} {G : Gx} {r : Int32} {h' : Mem} (X : CX G p s m args c cX3_holds 3 RX3) (hr : meth.sig.returnType = (Option.some Jvm.ClassFile.FieldType.boolean)) (hk : meth.locks = false) (N : Nat) : ∀ (v0 : Int32) (v1 : Int32) (v2 : Int32) (h : Mem), f_X3_holds N v0 v1 v2 h = some (r, h') → ∀ (H : Heap) (locs : List Loc) (ls : Array Slot), MS G s h H locs 0 → lv_has ls 3 [(0, .int v0), (1, .int v1), (2, .int v2)] → W p l e (rm_X3_holds) s m args below meth c H locs 0 0 (QI G below args s r h' 0 0) (F0 m 0 ls []) := by
  intro v0 v1 v2 h hf H locs ls M hl
  rw [f_X3_holds] at hf
  refine lv_iload_n X.1 X.2.1 dX3_holds_0 rfl (lv_at hl 1 rfl) ?_
  refine lv_if_ne (tgt := 17) X.1 X.2.1 dX3_holds_1 (by decide) (fun c1 => ?_) (fun c1 => ?_)
  · have hf := ifn c1 hf
    refine lv_iload_n X.1 X.2.1 dX3_holds_17 rfl (lv_at hl 1 rfl) ?_
    refine lv_iconst (v := (1 : Int32)) X.1 X.2.1 dX3_holds_18 (by decide) ?_
    refine lv_icmp_ne (tgt := 35) X.1 X.2.1 dX3_holds_19 (by decide) (fun c2 => ?_) (fun c2 => ?_)
    · have hf := ifn c2 hf
      refine lv_iload_n X.1 X.2.1 dX3_holds_35 rfl (lv_at hl 0 rfl) ?_
      refine lv_iload_n X.1 X.2.1 dX3_holds_36 rfl (lv_at hl 2 rfl) ?_
      refine lv_icmp_le (tgt := 44) X.1 X.2.1 dX3_holds_37 (by decide) (fun c3 => ?_) (fun c3 => ?_)
      · have hf := ifp c3 hf
        refine lv_iconst (v := (0 : Int32)) X.1 X.2.1 dX3_holds_44 (by decide) ?_
        obtain ⟨rfl, rfl⟩ := rt2 hf
        exact x_zret X hr hk rfl M dX3_holds_45
      · have hf := ifn c3 hf
        refine lv_iconst (v := (1 : Int32)) X.1 X.2.1 dX3_holds_40 (by decide) ?_
        refine lv_goto (tgt := 45) X.1 X.2.1 dX3_holds_41 (by decide) ?_
        obtain ⟨rfl, rfl⟩ := rt2 hf
        exact x_zret X hr hk rfl M dX3_holds_45
    · have hf := ifp c2 hf
      refine lv_iload_n X.1 X.2.1 dX3_holds_22 rfl (lv_at hl 0 rfl) ?_
      refine lv_iload_n X.1 X.2.1 dX3_holds_23 rfl (lv_at hl 2 rfl) ?_
      refine lv_icmp_ne (tgt := 31) X.1 X.2.1 dX3_holds_24 (by decide) (fun c4 => ?_) (fun c4 => ?_)
      · have hf := ifn c4 hf
        refine lv_iconst (v := (0 : Int32)) X.1 X.2.1 dX3_holds_31 (by decide) ?_
        refine lv_goto (tgt := 45) X.1 X.2.1 dX3_holds_32 (by decide) ?_
        obtain ⟨rfl, rfl⟩ := rt2 hf
        exact x_zret X hr hk rfl M dX3_holds_45
      · have hf := ifp c4 hf
        refine lv_iconst (v := (1 : Int32)) X.1 X.2.1 dX3_holds_27 (by decide) ?_
        refine lv_goto (tgt := 45) X.1 X.2.1 dX3_holds_28 (by decide) ?_
        obtain ⟨rfl, rfl⟩ := rt2 hf
        exact x_zret X hr hk rfl M dX3_holds_45
  · have hf := ifp c1 hf
    refine lv_iload_n X.1 X.2.1 dX3_holds_4 rfl (lv_at hl 0 rfl) ?_
    refine lv_iload_n X.1 X.2.1 dX3_holds_5 rfl (lv_at hl 2 rfl) ?_
    refine lv_icmp_ge (tgt := 13) X.1 X.2.1 dX3_holds_6 (by decide) (fun c5 => ?_) (fun c5 => ?_)
    · have hf := ifp c5 hf
      refine lv_iconst (v := (0 : Int32)) X.1 X.2.1 dX3_holds_13 (by decide) ?_
      refine lv_goto (tgt := 45) X.1 X.2.1 dX3_holds_14 (by decide) ?_
      obtain ⟨rfl, rfl⟩ := rt2 hf
      exact x_zret X hr hk rfl M dX3_holds_45
    · have hf := ifn c5 hf
      refine lv_iconst (v := (1 : Int32)) X.1 X.2.1 dX3_holds_9 (by decide) ?_
      refine lv_goto (tgt := 45) X.1 X.2.1 dX3_holds_10 (by decide) ?_
      obtain ⟨rfl, rfl⟩ := rt2 hf
      exact x_zret X hr hk rfl M dX3_holds_45
theorem c_X3_holds (l : Launch) (G : Gx) (N : Nat) (v0 : Int32) (v1 : Int32) (v2 : Int32) (h : Mem) (r : Int32) (h' : Mem) (hf : f_X3_holds N v0 v1 v2 h = some (r, h')) : MetG l G yX3_holds (.code yX3_holds cX3_holds 3 (Option.some Jvm.ClassFile.FieldType.boolean)) rm_X3_holds [.int v0, .int v1, .int v2] h (QcI G r h') 0 0 :=
  x_met (by decide) rfl (Nat.le_of_ble_eq_true rfl) (fun p e s m args below meth c ls X M hr hk hin hl => w_X3_holds X hr hk N v0 v1 v2 h hf _ _ ls M hl)
abbrev rm_X3_shunned : Room := { frames := 2, cells := 0, slots := 0, locals := 62 }
def f_X3_shunned_190 (N : Nat) (v0 : Nat) (v1 : Int32) (v2 : Int32) (v3 : Int32) (v4 : Int32) (v5 : Int32) (v7 : Int32) (s0 : Int32) (s1 : Int32) (h : Mem) (k9 : Nat → Int32 → Int32 → Int32 → Int32 → Int32 → Int32 → Int32 → Mem → Option (Int32 × Mem)) : Option (Int32 × Mem) :=
  k9 v0 v1 v2 v3 v4 v5 (s0 ||| s1) (v7 + 1) h
set_option maxRecDepth 100000 in
set_option maxHeartbeats 4000000 in
theorem w_X3_shunned_190 {p : Program} {l : Launch} {e : Env} {s : State} {m : MethodId} {args : Array Value} {below : List Frame} {meth : Method} {c : Code} {G : Gx} {r : Int32} {h' : Mem} (X : CX G p s m args c cX3_shunned 12 RX3) (hr : meth.sig.returnType = (Option.some Jvm.ClassFile.FieldType.int)) (hk : meth.locks = false) (N : Nat) (k9 : Nat → Int32 → Int32 → Int32 → Int32 → Int32 → Int32 → Int32 → Mem → Option (Int32 × Mem)) (K9 : ∀ (v0 : Nat) (v1 : Int32) (v2 : Int32) (v3 : Int32) (v4 : Int32) (v5 : Int32) (v6 : Int32) (v7 : Int32) (h : Mem), k9 v0 v1 v2 v3 v4 v5 v6 v7 h = some (r, h') → ∀ (H : Heap) (locs : List Loc) (ls : Array Slot), MS G s h H locs 0 → lv_has ls 12 [(0, .ref (gB G + v0)), (1, .int v1), (2, .int v2), (3, .int v3), (4, .int v4), (5, .int v5), (6, .int v6), (7, .int v7)] → W p l e (rm_X3_shunned) s m args below meth c H locs 0 0 (QI G below args s r h' 0 0) (F0 m 9 ls [])) : ∀ (v0 : Nat) (v1 : Int32) (v2 : Int32) (v3 : Int32) (v4 : Int32) (v5 : Int32) (v7 : Int32) (s0 : Int32) (s1 : Int32) (h : Mem), f_X3_shunned_190 N v0 v1 v2 v3 v4 v5 v7 s0 s1 h k9 = some (r, h') → ∀ (H : Heap) (locs : List Loc) (ls : Array Slot), MS G s h H locs 0 → lv_has ls 12 [(0, .ref (gB G + v0)), (1, .int v1), (2, .int v2), (3, .int v3), (4, .int v4), (5, .int v5), (7, .int v7)] → W p l e (rm_X3_shunned) s m args below meth c H locs 0 0 (QI G below args s r h' 0 0) (F0 m 190 ls [.int s1, .int s0]) := by
  intro v0 v1 v2 v3 v4 v5 v7 s0 s1 h hf H locs ls M hl
  rw [f_X3_shunned_190] at hf
  refine lv_ior X.1 X.2.1 dX3_shunned_190 ?_
  refine lv_istore (lv' := [(6, .int (s0 ||| s1)), (0, .ref (gB G + v0)), (1, .int v1), (2, .int v2), (3, .int v3), (4, .int v4), (5, .int v5), (7, .int v7)]) X.1 X.2.1 dX3_shunned_191 hl (by decide) rfl (fun ls hl => ?_)
  refine lv_iinc (v := (v7 + 1)) (lv' := [(7, .int (v7 + 1)), (6, .int (s0 ||| s1)), (0, .ref (gB G + v0)), (1, .int v1), (2, .int v2), (3, .int v3), (4, .int v4), (5, .int v5)]) X.1 X.2.1 dX3_shunned_193 hl (k := 7) rfl (by first | rfl | decide) (by decide) rfl (fun ls hl => ?_)
  refine lv_goto (tgt := 9) X.1 X.2.1 dX3_shunned_196 (by decide) ?_
  exact K9 v0 v1 v2 v3 v4 v5 (s0 ||| s1) (v7 + 1) h hf _ _ _ M (lv_sub hl [2, 3, 4, 5, 6, 7, 1, 0] rfl)
def f_X3_shunned_165 (N : Nat) (v0 : Nat) (v1 : Int32) (v2 : Int32) (v3 : Int32) (v4 : Int32) (v5 : Int32) (v6 : Int32) (v7 : Int32) (v8 : Int32) (v9 : Int32) (s0 : Int32) (h : Mem) (k9 : Nat → Int32 → Int32 → Int32 → Int32 → Int32 → Int32 → Int32 → Mem → Option (Int32 × Mem)) : Option (Int32 × Mem) :=
  b2 (f_X3_holds N s0 (v8 - v8 / (3 : Int32) * (3 : Int32)) v9 h) fun t3 h2 =>
  if t3 = 0 then
    f_X3_shunned_190 N v0 v1 v2 v3 v4 v5 v7 (v6 <<< ((1 : Int32) &&& 31)) (0 : Int32) h2 k9
  else
    f_X3_shunned_190 N v0 v1 v2 v3 v4 v5 v7 (v6 <<< ((1 : Int32) &&& 31)) (1 : Int32) h2 k9
set_option maxRecDepth 100000 in
set_option maxHeartbeats 4000000 in
theorem w_X3_shunned_165 {p : Program} {l : Launch} {e : Env} {s : State} {m : MethodId} {args : Array Value} {below : List Frame} {meth : Method} {c : Code} {G : Gx} {r : Int32} {h' : Mem} (X : CX G p s m args c cX3_shunned 12 RX3) (hr : meth.sig.returnType = (Option.some Jvm.ClassFile.FieldType.int)) (hk : meth.locks = false) (N : Nat) (k9 : Nat → Int32 → Int32 → Int32 → Int32 → Int32 → Int32 → Int32 → Mem → Option (Int32 × Mem)) (K9 : ∀ (v0 : Nat) (v1 : Int32) (v2 : Int32) (v3 : Int32) (v4 : Int32) (v5 : Int32) (v6 : Int32) (v7 : Int32) (h : Mem), k9 v0 v1 v2 v3 v4 v5 v6 v7 h = some (r, h') → ∀ (H : Heap) (locs : List Loc) (ls : Array Slot), MS G s h H locs 0 → lv_has ls 12 [(0, .ref (gB G + v0)), (1, .int v1), (2, .int v2), (3, .int v3), (4, .int v4), (5, .int v5), (6, .int v6), (7, .int v7)] → W p l e (rm_X3_shunned) s m args below meth c H locs 0 0 (QI G below args s r h' 0 0) (F0 m 9 ls [])) : ∀ (v0 : Nat) (v1 : Int32) (v2 : Int32) (v3 : Int32) (v4 : Int32) (v5 : Int32) (v6 : Int32) (v7 : Int32) (v8 : Int32) (v9 : Int32) (s0 : Int32) (h : Mem), f_X3_shunned_165 N v0 v1 v2 v3 v4 v5 v6 v7 v8 v9 s0 h k9 = some (r, h') → ∀ (H : Heap) (locs : List Loc) (ls : Array Slot), MS G s h H locs 0 → lv_has ls 12 [(0, .ref (gB G + v0)), (1, .int v1), (2, .int v2), (3, .int v3), (4, .int v4), (5, .int v5), (6, .int v6), (7, .int v7), (8, .int v8), (9, .int v9)] → W p l e (rm_X3_shunned) s m args below meth c H locs 0 0 (QI G below args s r h' 0 0) (F0 m 165 ls [.int s0]) := by
  intro v0 v1 v2 v3 v4 v5 v6 v7 v8 v9 s0 h hf H locs ls M hl
  rw [f_X3_shunned_165] at hf
  refine lv_istore (lv' := [(11, .int s0), (0, .ref (gB G + v0)), (1, .int v1), (2, .int v2), (3, .int v3), (4, .int v4), (5, .int v5), (6, .int v6), (7, .int v7), (8, .int v8), (9, .int v9)]) X.1 X.2.1 dX3_shunned_165 hl (by decide) rfl (fun ls hl => ?_)
  refine lv_iload X.1 X.2.1 dX3_shunned_167 (lv_at hl 7 rfl) ?_
  refine lv_iconst (v := (1 : Int32)) X.1 X.2.1 dX3_shunned_169 (by decide) ?_
  refine lv_ishl X.1 X.2.1 dX3_shunned_170 ?_
  refine lv_iload X.1 X.2.1 dX3_shunned_171 (lv_at hl 0 rfl) ?_
  refine lv_iload X.1 X.2.1 dX3_shunned_173 (lv_at hl 9 rfl) ?_
  refine lv_iconst (v := (3 : Int32)) X.1 X.2.1 dX3_shunned_175 (by decide) ?_
  refine lv_irem X.1 X.2.1 dX3_shunned_176 (by decide) ?_
  refine lv_iload X.1 X.2.1 dX3_shunned_177 (lv_at hl 10 rfl) ?_
  obtain ⟨t3, h2, q1, hf⟩ := bnd2 hf
  refine x_callSi (As := [.int s0, .int (v8 - v8 / (3 : Int32) * (3 : Int32)), .int v9]) cf_X3_45 (c_X3_holds l G N s0 (v8 - v8 / (3 : Int32) * (3 : Int32)) v9 h _ _ q1) rfl ⟨rfl, rfl, Nat.le_of_ble_eq_true rfl, Nat.le_of_ble_eq_true rfl⟩ ⟨Nat.le_of_ble_eq_true rfl, Nat.le_of_ble_eq_true rfl⟩ X M rfl rfl hl.1 (Nat.le_of_ble_eq_true rfl) dX3_shunned_179 (fun H locs M => ?_)
  refine lv_if_eq (tgt := 189) X.1 X.2.1 dX3_shunned_182 (by decide) (fun c4 => ?_) (fun c4 => ?_)
  · have hf := ifp c4 hf
    refine lv_iconst (v := (0 : Int32)) X.1 X.2.1 dX3_shunned_189 (by decide) ?_
    exact w_X3_shunned_190 X hr hk N _ K9 v0 v1 v2 v3 v4 v5 v7 (v6 <<< ((1 : Int32) &&& 31)) (0 : Int32) h2 hf _ _ _ M (lv_sub hl [1, 2, 3, 4, 5, 6, 8] rfl)
  · have hf := ifn c4 hf
    refine lv_iconst (v := (1 : Int32)) X.1 X.2.1 dX3_shunned_185 (by decide) ?_
    refine lv_goto (tgt := 190) X.1 X.2.1 dX3_shunned_186 (by decide) ?_
    exact w_X3_shunned_190 X hr hk N _ K9 v0 v1 v2 v3 v4 v5 v7 (v6 <<< ((1 : Int32) &&& 31)) (1 : Int32) h2 hf _ _ _ M (lv_sub hl [1, 2, 3, 4, 5, 6, 8] rfl)
def f_X3_shunned_9 (N : Nat) (n : Nat) (v0 : Nat) (v1 : Int32) (v2 : Int32) (v3 : Int32) (v4 : Int32) (v5 : Int32) (v6 : Int32) (v7 : Int32) (h : Mem) : Option (Int32 × Mem) := match n with
  | 0 => none
  | n + 1 =>
    (gI h v0 3 7).bind fun t1 =>
    if t1 ≤ v7 then
      some (v5, h)
    else
      (gR h v0 3 6).bind fun t4 =>
      (lI 100 h t4 v7).bind fun t6 =>
      (gR h v0 3 6).bind fun t8 =>
      (lI 100 h t8 v7).bind fun t10 =>
      if (t6 &&& (15 : Int32)) = 12 then
        f_X3_shunned_9 N n v0 v1 v2 v3 v4 v5 (v6 ^^^ (1 : Int32)) (v7 + 1) h
      else
      if (t6 &&& (15 : Int32)) = 13 then
        f_X3_shunned_9 N n v0 v1 v2 v3 v4 v5 ((v6 >>> ((1 : Int32) &&& 31)) &&& (v6 ||| (-2 : Int32))) (v7 + 1) h
      else
      if (t6 &&& (15 : Int32)) = 14 then
        f_X3_shunned_9 N n v0 v1 v2 v3 v4 v5 ((v6 >>> ((1 : Int32) &&& 31)) ||| (v6 &&& (1 : Int32))) (v7 + 1) h
      else
      if (t6 &&& (15 : Int32)) = 15 then
        f_X3_shunned_9 N n v0 v1 v2 v3 v4 (v5 + ((v6 &&& (1 : Int32)) * (t10 >>> ((4 : Int32) &&& 31)))) (0 : Int32) (v7 + 1) h
      else
      if ((t6 &&& (15 : Int32)) / (3 : Int32)) = 0 then
        f_X3_shunned_165 N v0 v1 v2 v3 v4 v5 v6 v7 (t6 &&& (15 : Int32)) (t10 >>> ((4 : Int32) &&& 31)) v1 h (fun v0 v1 v2 v3 v4 v5 v6 v7 h => f_X3_shunned_9 N n v0 v1 v2 v3 v4 v5 v6 v7 h)
      else
        if ((t6 &&& (15 : Int32)) / (3 : Int32)) = (1 : Int32) then
          f_X3_shunned_165 N v0 v1 v2 v3 v4 v5 v6 v7 (t6 &&& (15 : Int32)) (t10 >>> ((4 : Int32) &&& 31)) v2 h (fun v0 v1 v2 v3 v4 v5 v6 v7 h => f_X3_shunned_9 N n v0 v1 v2 v3 v4 v5 v6 v7 h)
        else
          if ((t6 &&& (15 : Int32)) / (3 : Int32)) = (2 : Int32) then
            f_X3_shunned_165 N v0 v1 v2 v3 v4 v5 v6 v7 (t6 &&& (15 : Int32)) (t10 >>> ((4 : Int32) &&& 31)) v3 h (fun v0 v1 v2 v3 v4 v5 v6 v7 h => f_X3_shunned_9 N n v0 v1 v2 v3 v4 v5 v6 v7 h)
          else
            f_X3_shunned_165 N v0 v1 v2 v3 v4 v5 v6 v7 (t6 &&& (15 : Int32)) (t10 >>> ((4 : Int32) &&& 31)) v4 h (fun v0 v1 v2 v3 v4 v5 v6 v7 h => f_X3_shunned_9 N n v0 v1 v2 v3 v4 v5 v6 v7 h)
set_option maxRecDepth 100000 in
set_option maxHeartbeats 4000000 in
theorem w_X3_shunned_9 {p : Program} {l : Launch} {e : Env} {s : State} {m : MethodId} {args : Array Value} {below : List Frame} {meth : Method} {c : Code} {G : Gx} {r : Int32} {h' : Mem} (X : CX G p s m args c cX3_shunned 12 RX3) (hr : meth.sig.returnType = (Option.some Jvm.ClassFile.FieldType.int)) (hk : meth.locks = false) (N : Nat) : ∀ (n : Nat) (v0 : Nat) (v1 : Int32) (v2 : Int32) (v3 : Int32) (v4 : Int32) (v5 : Int32) (v6 : Int32) (v7 : Int32) (h : Mem), f_X3_shunned_9 N n v0 v1 v2 v3 v4 v5 v6 v7 h = some (r, h') → ∀ (H : Heap) (locs : List Loc) (ls : Array Slot), MS G s h H locs 0 → lv_has ls 12 [(0, .ref (gB G + v0)), (1, .int v1), (2, .int v2), (3, .int v3), (4, .int v4), (5, .int v5), (6, .int v6), (7, .int v7)] → W p l e (rm_X3_shunned) s m args below meth c H locs 0 0 (QI G below args s r h' 0 0) (F0 m 9 ls []) := by
  intro n
  induction n with
  | zero =>
    intro v0 v1 v2 v3 v4 v5 v6 v7 h hf
    cases hf
  | succ n ih =>
    intro v0 v1 v2 v3 v4 v5 v6 v7 h hf H locs ls M hl
    rw [f_X3_shunned_9] at hf
    refine lv_iload X.1 X.2.1 dX3_shunned_9 (lv_at hl 7 rfl) ?_
    refine lv_aload_n X.1 X.2.1 dX3_shunned_11 rfl (lv_at hl 0 rfl) ?_
    obtain ⟨t1, q2, hf⟩ := bnd hf
    refine x_geti fl_X3_42 X M q2 dX3_shunned_12 ?_
    refine lv_icmp_ge (tgt := 199) X.1 X.2.1 dX3_shunned_15 (by decide) (fun c3 => ?_) (fun c3 => ?_)
    · have hf := ifp c3 hf
      refine lv_iload X.1 X.2.1 dX3_shunned_199 (lv_at hl 5 rfl) ?_
      obtain ⟨rfl, rfl⟩ := rt2 hf
      exact x_iret X hr hk M dX3_shunned_201
    · have hf := ifn c3 hf
      refine lv_aload_n X.1 X.2.1 dX3_shunned_18 rfl (lv_at hl 0 rfl) ?_
      obtain ⟨t4, q5, hf⟩ := bnd hf
      refine x_getr fl_X3_23 X M q5 dX3_shunned_19 ?_
      refine lv_iload X.1 X.2.1 dX3_shunned_22 (lv_at hl 7 rfl) ?_
      obtain ⟨t6, q7, hf⟩ := bnd hf
      refine x_iald X M q7 dX3_shunned_24 ?_
      refine lv_bipush (v := (15 : Int32)) X.1 X.2.1 dX3_shunned_25 (by decide) ?_
      refine lv_iand X.1 X.2.1 dX3_shunned_27 ?_
      refine lv_istore (lv' := [(8, .int (t6 &&& (15 : Int32))), (0, .ref (gB G + v0)), (1, .int v1), (2, .int v2), (3, .int v3), (4, .int v4), (5, .int v5), (6, .int v6), (7, .int v7)]) X.1 X.2.1 dX3_shunned_28 hl (by decide) rfl (fun ls hl => ?_)
      refine lv_aload_n X.1 X.2.1 dX3_shunned_30 rfl (lv_at hl 1 rfl) ?_
      obtain ⟨t8, q9, hf⟩ := bnd hf
      refine x_getr fl_X3_23 X M q9 dX3_shunned_31 ?_
      refine lv_iload X.1 X.2.1 dX3_shunned_34 (lv_at hl 8 rfl) ?_
      obtain ⟨t10, q11, hf⟩ := bnd hf
      refine x_iald X M q11 dX3_shunned_36 ?_
      refine lv_iconst (v := (4 : Int32)) X.1 X.2.1 dX3_shunned_37 (by decide) ?_
      refine lv_ishr X.1 X.2.1 dX3_shunned_38 ?_
      refine lv_istore (lv' := [(9, .int (t10 >>> ((4 : Int32) &&& 31))), (8, .int (t6 &&& (15 : Int32))), (0, .ref (gB G + v0)), (1, .int v1), (2, .int v2), (3, .int v3), (4, .int v4), (5, .int v5), (6, .int v6), (7, .int v7)]) X.1 X.2.1 dX3_shunned_39 hl (by decide) rfl (fun ls hl => ?_)
      refine lv_iload X.1 X.2.1 dX3_shunned_41 (lv_at hl 1 rfl) ?_
      by_cases c12 : (t6 &&& (15 : Int32)) = 12
      · have hf := ifp c12 hf
        refine x_tin (z := 12) (tgt := 72) X rfl c12 dX3_shunned_43 (by decide) (by decide) rfl (by decide) ?_
        refine lv_iload X.1 X.2.1 dX3_shunned_72 (lv_at hl 8 rfl) ?_
        refine lv_iconst (v := (1 : Int32)) X.1 X.2.1 dX3_shunned_74 (by decide) ?_
        refine lv_ixor X.1 X.2.1 dX3_shunned_75 ?_
        refine lv_istore (lv' := [(6, .int (v6 ^^^ (1 : Int32))), (9, .int (t10 >>> ((4 : Int32) &&& 31))), (8, .int (t6 &&& (15 : Int32))), (0, .ref (gB G + v0)), (1, .int v1), (2, .int v2), (3, .int v3), (4, .int v4), (5, .int v5), (7, .int v7)]) X.1 X.2.1 dX3_shunned_76 hl (by decide) rfl (fun ls hl => ?_)
        refine lv_goto (tgt := 193) X.1 X.2.1 dX3_shunned_78 (by decide) ?_
        refine lv_iinc (v := (v7 + 1)) (lv' := [(7, .int (v7 + 1)), (6, .int (v6 ^^^ (1 : Int32))), (9, .int (t10 >>> ((4 : Int32) &&& 31))), (8, .int (t6 &&& (15 : Int32))), (0, .ref (gB G + v0)), (1, .int v1), (2, .int v2), (3, .int v3), (4, .int v4), (5, .int v5)]) X.1 X.2.1 dX3_shunned_193 hl (k := 9) rfl (by first | rfl | decide) (by decide) rfl (fun ls hl => ?_)
        refine lv_goto (tgt := 9) X.1 X.2.1 dX3_shunned_196 (by decide) ?_
        exact ih v0 v1 v2 v3 v4 v5 (v6 ^^^ (1 : Int32)) (v7 + 1) h hf _ _ _ M (lv_sub hl [4, 5, 6, 7, 8, 9, 1, 0] rfl)
      have hf := ifn c12 hf
      by_cases c13 : (t6 &&& (15 : Int32)) = 13
      · have hf := ifp c13 hf
        refine x_tin (z := 13) (tgt := 81) X rfl c13 dX3_shunned_43 (by decide) (by decide) rfl (by decide) ?_
        refine lv_iload X.1 X.2.1 dX3_shunned_81 (lv_at hl 8 rfl) ?_
        refine lv_iconst (v := (1 : Int32)) X.1 X.2.1 dX3_shunned_83 (by decide) ?_
        refine lv_ishr X.1 X.2.1 dX3_shunned_84 ?_
        refine lv_iload X.1 X.2.1 dX3_shunned_85 (lv_at hl 8 rfl) ?_
        refine lv_bipush (v := (-2 : Int32)) X.1 X.2.1 dX3_shunned_87 (by decide) ?_
        refine lv_ior X.1 X.2.1 dX3_shunned_89 ?_
        refine lv_iand X.1 X.2.1 dX3_shunned_90 ?_
        refine lv_istore (lv' := [(6, .int ((v6 >>> ((1 : Int32) &&& 31)) &&& (v6 ||| (-2 : Int32)))), (9, .int (t10 >>> ((4 : Int32) &&& 31))), (8, .int (t6 &&& (15 : Int32))), (0, .ref (gB G + v0)), (1, .int v1), (2, .int v2), (3, .int v3), (4, .int v4), (5, .int v5), (7, .int v7)]) X.1 X.2.1 dX3_shunned_91 hl (by decide) rfl (fun ls hl => ?_)
        refine lv_goto (tgt := 193) X.1 X.2.1 dX3_shunned_93 (by decide) ?_
        refine lv_iinc (v := (v7 + 1)) (lv' := [(7, .int (v7 + 1)), (6, .int ((v6 >>> ((1 : Int32) &&& 31)) &&& (v6 ||| (-2 : Int32)))), (9, .int (t10 >>> ((4 : Int32) &&& 31))), (8, .int (t6 &&& (15 : Int32))), (0, .ref (gB G + v0)), (1, .int v1), (2, .int v2), (3, .int v3), (4, .int v4), (5, .int v5)]) X.1 X.2.1 dX3_shunned_193 hl (k := 9) rfl (by first | rfl | decide) (by decide) rfl (fun ls hl => ?_)
        refine lv_goto (tgt := 9) X.1 X.2.1 dX3_shunned_196 (by decide) ?_
        exact ih v0 v1 v2 v3 v4 v5 ((v6 >>> ((1 : Int32) &&& 31)) &&& (v6 ||| (-2 : Int32))) (v7 + 1) h hf _ _ _ M (lv_sub hl [4, 5, 6, 7, 8, 9, 1, 0] rfl)
      have hf := ifn c13 hf
      by_cases c14 : (t6 &&& (15 : Int32)) = 14
      · have hf := ifp c14 hf
        refine x_tin (z := 14) (tgt := 96) X rfl c14 dX3_shunned_43 (by decide) (by decide) rfl (by decide) ?_
        refine lv_iload X.1 X.2.1 dX3_shunned_96 (lv_at hl 8 rfl) ?_
        refine lv_iconst (v := (1 : Int32)) X.1 X.2.1 dX3_shunned_98 (by decide) ?_
        refine lv_ishr X.1 X.2.1 dX3_shunned_99 ?_
        refine lv_iload X.1 X.2.1 dX3_shunned_100 (lv_at hl 8 rfl) ?_
        refine lv_iconst (v := (1 : Int32)) X.1 X.2.1 dX3_shunned_102 (by decide) ?_
        refine lv_iand X.1 X.2.1 dX3_shunned_103 ?_
        refine lv_ior X.1 X.2.1 dX3_shunned_104 ?_
        refine lv_istore (lv' := [(6, .int ((v6 >>> ((1 : Int32) &&& 31)) ||| (v6 &&& (1 : Int32)))), (9, .int (t10 >>> ((4 : Int32) &&& 31))), (8, .int (t6 &&& (15 : Int32))), (0, .ref (gB G + v0)), (1, .int v1), (2, .int v2), (3, .int v3), (4, .int v4), (5, .int v5), (7, .int v7)]) X.1 X.2.1 dX3_shunned_105 hl (by decide) rfl (fun ls hl => ?_)
        refine lv_goto (tgt := 193) X.1 X.2.1 dX3_shunned_107 (by decide) ?_
        refine lv_iinc (v := (v7 + 1)) (lv' := [(7, .int (v7 + 1)), (6, .int ((v6 >>> ((1 : Int32) &&& 31)) ||| (v6 &&& (1 : Int32)))), (9, .int (t10 >>> ((4 : Int32) &&& 31))), (8, .int (t6 &&& (15 : Int32))), (0, .ref (gB G + v0)), (1, .int v1), (2, .int v2), (3, .int v3), (4, .int v4), (5, .int v5)]) X.1 X.2.1 dX3_shunned_193 hl (k := 9) rfl (by first | rfl | decide) (by decide) rfl (fun ls hl => ?_)
        refine lv_goto (tgt := 9) X.1 X.2.1 dX3_shunned_196 (by decide) ?_
        exact ih v0 v1 v2 v3 v4 v5 ((v6 >>> ((1 : Int32) &&& 31)) ||| (v6 &&& (1 : Int32))) (v7 + 1) h hf _ _ _ M (lv_sub hl [4, 5, 6, 7, 8, 9, 1, 0] rfl)
      have hf := ifn c14 hf
      by_cases c15 : (t6 &&& (15 : Int32)) = 15
      · have hf := ifp c15 hf
        refine x_tin (z := 15) (tgt := 110) X rfl c15 dX3_shunned_43 (by decide) (by decide) rfl (by decide) ?_
        refine lv_iload X.1 X.2.1 dX3_shunned_110 (lv_at hl 7 rfl) ?_
        refine lv_iload X.1 X.2.1 dX3_shunned_112 (lv_at hl 8 rfl) ?_
        refine lv_iconst (v := (1 : Int32)) X.1 X.2.1 dX3_shunned_114 (by decide) ?_
        refine lv_iand X.1 X.2.1 dX3_shunned_115 ?_
        refine lv_iload X.1 X.2.1 dX3_shunned_116 (lv_at hl 0 rfl) ?_
        refine lv_imul X.1 X.2.1 dX3_shunned_118 ?_
        refine lv_iadd X.1 X.2.1 dX3_shunned_119 ?_
        refine lv_istore (lv' := [(5, .int (v5 + ((v6 &&& (1 : Int32)) * (t10 >>> ((4 : Int32) &&& 31))))), (9, .int (t10 >>> ((4 : Int32) &&& 31))), (8, .int (t6 &&& (15 : Int32))), (0, .ref (gB G + v0)), (1, .int v1), (2, .int v2), (3, .int v3), (4, .int v4), (6, .int v6), (7, .int v7)]) X.1 X.2.1 dX3_shunned_120 hl (by decide) rfl (fun ls hl => ?_)
        refine lv_iconst (v := (0 : Int32)) X.1 X.2.1 dX3_shunned_122 (by decide) ?_
        refine lv_istore (lv' := [(6, .int (0 : Int32)), (5, .int (v5 + ((v6 &&& (1 : Int32)) * (t10 >>> ((4 : Int32) &&& 31))))), (9, .int (t10 >>> ((4 : Int32) &&& 31))), (8, .int (t6 &&& (15 : Int32))), (0, .ref (gB G + v0)), (1, .int v1), (2, .int v2), (3, .int v3), (4, .int v4), (7, .int v7)]) X.1 X.2.1 dX3_shunned_123 hl (by decide) rfl (fun ls hl => ?_)
        refine lv_goto (tgt := 193) X.1 X.2.1 dX3_shunned_125 (by decide) ?_
        refine lv_iinc (v := (v7 + 1)) (lv' := [(7, .int (v7 + 1)), (6, .int (0 : Int32)), (5, .int (v5 + ((v6 &&& (1 : Int32)) * (t10 >>> ((4 : Int32) &&& 31))))), (9, .int (t10 >>> ((4 : Int32) &&& 31))), (8, .int (t6 &&& (15 : Int32))), (0, .ref (gB G + v0)), (1, .int v1), (2, .int v2), (3, .int v3), (4, .int v4)]) X.1 X.2.1 dX3_shunned_193 hl (k := 9) rfl (by first | rfl | decide) (by decide) rfl (fun ls hl => ?_)
        refine lv_goto (tgt := 9) X.1 X.2.1 dX3_shunned_196 (by decide) ?_
        exact ih v0 v1 v2 v3 v4 (v5 + ((v6 &&& (1 : Int32)) * (t10 >>> ((4 : Int32) &&& 31)))) (0 : Int32) (v7 + 1) h hf _ _ _ M (lv_sub hl [5, 6, 7, 8, 9, 2, 1, 0] rfl)
      have hf := ifn c15 hf
      have nc12 := lv_neT (a := 12) c12 rfl
      have nc13 := lv_neT (a := 13) c13 rfl
      have nc14 := lv_neT (a := 14) c14 rfl
      have nc15 := lv_neT (a := 15) c15 rfl
      refine lv_tableOut (tgt := 128) X.1 X.2.1 dX3_shunned_43 (by omega) (by decide) ?_
      refine lv_iload X.1 X.2.1 dX3_shunned_128 (lv_at hl 1 rfl) ?_
      refine lv_iconst (v := (3 : Int32)) X.1 X.2.1 dX3_shunned_130 (by decide) ?_
      refine lv_idiv X.1 X.2.1 dX3_shunned_131 (by decide) ?_
      refine lv_istore (lv' := [(10, .int ((t6 &&& (15 : Int32)) / (3 : Int32))), (9, .int (t10 >>> ((4 : Int32) &&& 31))), (8, .int (t6 &&& (15 : Int32))), (0, .ref (gB G + v0)), (1, .int v1), (2, .int v2), (3, .int v3), (4, .int v4), (5, .int v5), (6, .int v6), (7, .int v7)]) X.1 X.2.1 dX3_shunned_132 hl (by decide) rfl (fun ls hl => ?_)
      refine lv_iload X.1 X.2.1 dX3_shunned_134 (lv_at hl 0 rfl) ?_
      refine lv_if_ne (tgt := 143) X.1 X.2.1 dX3_shunned_136 (by decide) (fun c16 => ?_) (fun c16 => ?_)
      · have hf := ifn c16 hf
        refine lv_iload X.1 X.2.1 dX3_shunned_143 (lv_at hl 0 rfl) ?_
        refine lv_iconst (v := (1 : Int32)) X.1 X.2.1 dX3_shunned_145 (by decide) ?_
        refine lv_icmp_ne (tgt := 153) X.1 X.2.1 dX3_shunned_146 (by decide) (fun c17 => ?_) (fun c17 => ?_)
        · have hf := ifn c17 hf
          refine lv_iload X.1 X.2.1 dX3_shunned_153 (lv_at hl 0 rfl) ?_
          refine lv_iconst (v := (2 : Int32)) X.1 X.2.1 dX3_shunned_155 (by decide) ?_
          refine lv_icmp_ne (tgt := 163) X.1 X.2.1 dX3_shunned_156 (by decide) (fun c18 => ?_) (fun c18 => ?_)
          · have hf := ifn c18 hf
            refine lv_iload X.1 X.2.1 dX3_shunned_163 (lv_at hl 7 rfl) ?_
            exact w_X3_shunned_165 X hr hk N _ (fun v0 v1 v2 v3 v4 v5 v6 v7 h hf H locs ls M hl => ih v0 v1 v2 v3 v4 v5 v6 v7 h hf H locs ls M hl) v0 v1 v2 v3 v4 v5 v6 v7 (t6 &&& (15 : Int32)) (t10 >>> ((4 : Int32) &&& 31)) v4 h hf _ _ _ M (lv_sub hl [3, 4, 5, 6, 7, 8, 9, 10, 2, 1] rfl)
          · have hf := ifp c18 hf
            refine lv_iload_n X.1 X.2.1 dX3_shunned_159 rfl (lv_at hl 6 rfl) ?_
            refine lv_goto (tgt := 165) X.1 X.2.1 dX3_shunned_160 (by decide) ?_
            exact w_X3_shunned_165 X hr hk N _ (fun v0 v1 v2 v3 v4 v5 v6 v7 h hf H locs ls M hl => ih v0 v1 v2 v3 v4 v5 v6 v7 h hf H locs ls M hl) v0 v1 v2 v3 v4 v5 v6 v7 (t6 &&& (15 : Int32)) (t10 >>> ((4 : Int32) &&& 31)) v3 h hf _ _ _ M (lv_sub hl [3, 4, 5, 6, 7, 8, 9, 10, 2, 1] rfl)
        · have hf := ifp c17 hf
          refine lv_iload_n X.1 X.2.1 dX3_shunned_149 rfl (lv_at hl 5 rfl) ?_
          refine lv_goto (tgt := 165) X.1 X.2.1 dX3_shunned_150 (by decide) ?_
          exact w_X3_shunned_165 X hr hk N _ (fun v0 v1 v2 v3 v4 v5 v6 v7 h hf H locs ls M hl => ih v0 v1 v2 v3 v4 v5 v6 v7 h hf H locs ls M hl) v0 v1 v2 v3 v4 v5 v6 v7 (t6 &&& (15 : Int32)) (t10 >>> ((4 : Int32) &&& 31)) v2 h hf _ _ _ M (lv_sub hl [3, 4, 5, 6, 7, 8, 9, 10, 2, 1] rfl)
      · have hf := ifp c16 hf
        refine lv_iload_n X.1 X.2.1 dX3_shunned_139 rfl (lv_at hl 4 rfl) ?_
        refine lv_goto (tgt := 165) X.1 X.2.1 dX3_shunned_140 (by decide) ?_
        exact w_X3_shunned_165 X hr hk N _ (fun v0 v1 v2 v3 v4 v5 v6 v7 h hf H locs ls M hl => ih v0 v1 v2 v3 v4 v5 v6 v7 h hf H locs ls M hl) v0 v1 v2 v3 v4 v5 v6 v7 (t6 &&& (15 : Int32)) (t10 >>> ((4 : Int32) &&& 31)) v1 h hf _ _ _ M (lv_sub hl [3, 4, 5, 6, 7, 8, 9, 10, 2, 1] rfl)
def f_X3_shunned (N : Nat) (v0 : Nat) (v1 : Int32) (v2 : Int32) (v3 : Int32) (v4 : Int32) (h : Mem) : Option (Int32 × Mem) :=
  f_X3_shunned_9 N N v0 v1 v2 v3 v4 (0 : Int32) (0 : Int32) (0 : Int32) h
set_option maxRecDepth 100000 in
set_option maxHeartbeats 4000000 in
theorem w_X3_shunned {p : Program} {l : Launch} {e : Env} {s : State} {m : MethodId} {args : Array Value} {below : List Frame} {meth : Method} {c : Code} {G : Gx} {r : Int32} {h' : Mem} (X : CX G p s m args c cX3_shunned 12 RX3) (hr : meth.sig.returnType = (Option.some Jvm.ClassFile.FieldType.int)) (hk : meth.locks = false) (N : Nat) : ∀ (v0 : Nat) (v1 : Int32) (v2 : Int32) (v3 : Int32) (v4 : Int32) (h : Mem), f_X3_shunned N v0 v1 v2 v3 v4 h = some (r, h') → ∀ (H : Heap) (locs : List Loc) (ls : Array Slot), MS G s h H locs 0 → lv_has ls 12 [(0, .ref (gB G + v0)), (1, .int v1), (2, .int v2), (3, .int v3), (4, .int v4)] → W p l e (rm_X3_shunned) s m args below meth c H locs 0 0 (QI G below args s r h' 0 0) (F0 m 0 ls []) := by
  intro v0 v1 v2 v3 v4 h hf H locs ls M hl
  rw [f_X3_shunned] at hf
  refine lv_iconst (v := (0 : Int32)) X.1 X.2.1 dX3_shunned_0 (by decide) ?_
  refine lv_istore (lv' := [(5, .int (0 : Int32)), (0, .ref (gB G + v0)), (1, .int v1), (2, .int v2), (3, .int v3), (4, .int v4)]) X.1 X.2.1 dX3_shunned_1 hl (by decide) rfl (fun ls hl => ?_)
  refine lv_iconst (v := (0 : Int32)) X.1 X.2.1 dX3_shunned_3 (by decide) ?_
  refine lv_istore (lv' := [(6, .int (0 : Int32)), (5, .int (0 : Int32)), (0, .ref (gB G + v0)), (1, .int v1), (2, .int v2), (3, .int v3), (4, .int v4)]) X.1 X.2.1 dX3_shunned_4 hl (by decide) rfl (fun ls hl => ?_)
  refine lv_iconst (v := (0 : Int32)) X.1 X.2.1 dX3_shunned_6 (by decide) ?_
  refine lv_istore (lv' := [(7, .int (0 : Int32)), (6, .int (0 : Int32)), (5, .int (0 : Int32)), (0, .ref (gB G + v0)), (1, .int v1), (2, .int v2), (3, .int v3), (4, .int v4)]) X.1 X.2.1 dX3_shunned_7 hl (by decide) rfl (fun ls hl => ?_)
  exact w_X3_shunned_9 X hr hk N N v0 v1 v2 v3 v4 (0 : Int32) (0 : Int32) (0 : Int32) h hf _ _ _ M (lv_sub hl [3, 4, 5, 6, 7, 2, 1, 0] rfl)
theorem c_X3_shunned (l : Launch) (G : Gx) (N : Nat) (v0 : Nat) (v1 : Int32) (v2 : Int32) (v3 : Int32) (v4 : Int32) (h : Mem) (r : Int32) (h' : Mem) (hf : f_X3_shunned N v0 v1 v2 v3 v4 h = some (r, h')) : MetG l G yX3_shunned (.code yX3_shunned cX3_shunned 12 (Option.some Jvm.ClassFile.FieldType.int)) rm_X3_shunned [.ref (gB G + v0), .int v1, .int v2, .int v3, .int v4] h (QcI G r h') 0 0 :=
  x_met (by decide) rfl (Nat.le_of_ble_eq_true rfl) (fun p e s m args below meth c ls X M hr hk hin hl => w_X3_shunned X hr hk N v0 v1 v2 v3 v4 h hf _ _ ls M hl)
abbrev rm_X3_forget : Room := { frames := 2, cells := 0, slots := 0, locals := 63 }
def f_X3_forget (N : Nat) (v0 : Nat) (h : Mem) : Option Mem :=
  (gR h v0 3 0).bind fun t1 =>
  (f_J7_fill_53178 N t1 (0 : Int32) h).bind fun h4 =>
  (gR h4 v0 3 1).bind fun t5 =>
  (f_J7_fill_53178 N t5 (0 : Int32) h4).bind fun h8 =>
  (gR h8 v0 3 2).bind fun t9 =>
  (f_J7_fill_53178 N t9 (10 : Int32) h8).bind fun h12 =>
  (sI h12 v0 3 3 (0 : Int32)).bind fun h13 =>
  (sI h13 v0 3 4 (0 : Int32)).bind fun h15 =>
  (sI h15 v0 3 5 (0 : Int32)).bind fun h17 =>
  (sI h17 v0 3 7 (0 : Int32)).bind fun h19 =>
  some h19
set_option maxRecDepth 100000 in
set_option maxHeartbeats 4000000 in
theorem w_X3_forget {p : Program} {l : Launch} {e : Env} {s : State} {m : MethodId} {args : Array Value} {below : List Frame} {meth : Method} {c : Code} {G : Gx} {h' : Mem} {L : Nat} (X : CX G p s m args c cX3_forget 1 RX3) (hr : meth.sig.returnType = (Option.none : Option Jvm.ClassFile.FieldType)) (hk : meth.locks = false) (hL : s.heap.size + 0 = gB G + L) (N : Nat) : ∀ (v0 : Nat) (h : Mem), f_X3_forget N v0 h = some h' → ∀ (H : Heap) (locs : List Loc) (ls : Array Slot), MS G s h H locs 0 → lv_has ls 1 [(0, .ref (gB G + v0))] → W p l e (rm_X3_forget) s m args below meth c H locs 0 0 (QV G below args s h' L 0 0) (F0 m 0 ls []) := by
  intro v0 h hf H locs ls M hl
  rw [f_X3_forget] at hf
  refine lv_aload_n X.1 X.2.1 dX3_forget_0 rfl (lv_at hl 0 rfl) ?_
  obtain ⟨t1, q2, hf⟩ := bnd hf
  refine x_getr fl_X3_9 X M q2 dX3_forget_1 ?_
  refine lv_iconst (v := (0 : Int32)) X.1 X.2.1 dX3_forget_4 (by decide) ?_
  obtain ⟨h4, q3, hf⟩ := bnd hf
  refine x_callSv (As := [.ref (gB G + t1), .int (0 : Int32)]) cf_X3_26 (c_J7_fill_53178 l G N t1 (0 : Int32) h _ q3) rfl ⟨rfl, rfl, Nat.le_of_ble_eq_true rfl, Nat.le_of_ble_eq_true rfl⟩ ⟨Nat.le_of_ble_eq_true rfl, Nat.le_of_ble_eq_true rfl⟩ X M rfl rfl hl.1 (Nat.le_of_ble_eq_true rfl) dX3_forget_5 (fun H locs M => ?_)
  refine lv_aload_n X.1 X.2.1 dX3_forget_8 rfl (lv_at hl 0 rfl) ?_
  obtain ⟨t5, q6, hf⟩ := bnd hf
  refine x_getr fl_X3_15 X M q6 dX3_forget_9 ?_
  refine lv_iconst (v := (0 : Int32)) X.1 X.2.1 dX3_forget_12 (by decide) ?_
  obtain ⟨h8, q7, hf⟩ := bnd hf
  refine x_callSv (As := [.ref (gB G + t5), .int (0 : Int32)]) cf_X3_26 (c_J7_fill_53178 l G N t5 (0 : Int32) h4 _ q7) rfl ⟨rfl, rfl, Nat.le_of_ble_eq_true rfl, Nat.le_of_ble_eq_true rfl⟩ ⟨Nat.le_of_ble_eq_true rfl, Nat.le_of_ble_eq_true rfl⟩ X M rfl rfl hl.1 (Nat.le_of_ble_eq_true rfl) dX3_forget_13 (fun H locs M => ?_)
  refine lv_aload_n X.1 X.2.1 dX3_forget_16 rfl (lv_at hl 0 rfl) ?_
  obtain ⟨t9, q10, hf⟩ := bnd hf
  refine x_getr fl_X3_18 X M q10 dX3_forget_17 ?_
  refine lv_bipush (v := (10 : Int32)) X.1 X.2.1 dX3_forget_20 (by decide) ?_
  obtain ⟨h12, q11, hf⟩ := bnd hf
  refine x_callSv (As := [.ref (gB G + t9), .int (10 : Int32)]) cf_X3_26 (c_J7_fill_53178 l G N t9 (10 : Int32) h8 _ q11) rfl ⟨rfl, rfl, Nat.le_of_ble_eq_true rfl, Nat.le_of_ble_eq_true rfl⟩ ⟨Nat.le_of_ble_eq_true rfl, Nat.le_of_ble_eq_true rfl⟩ X M rfl rfl hl.1 (Nat.le_of_ble_eq_true rfl) dX3_forget_22 (fun H locs M => ?_)
  refine lv_aload_n X.1 X.2.1 dX3_forget_25 rfl (lv_at hl 0 rfl) ?_
  refine lv_iconst (v := (0 : Int32)) X.1 X.2.1 dX3_forget_26 (by decide) ?_
  obtain ⟨h13, q14, hf⟩ := bnd hf
  refine x_puti fl_X3_32 fp_X3_32.1 fp_X3_32.2 X M q14 dX3_forget_27 (fun H locs M => ?_)
  refine lv_aload_n X.1 X.2.1 dX3_forget_30 rfl (lv_at hl 0 rfl) ?_
  refine lv_iconst (v := (0 : Int32)) X.1 X.2.1 dX3_forget_31 (by decide) ?_
  obtain ⟨h15, q16, hf⟩ := bnd hf
  refine x_puti fl_X3_36 fp_X3_36.1 fp_X3_36.2 X M q16 dX3_forget_32 (fun H locs M => ?_)
  refine lv_aload_n X.1 X.2.1 dX3_forget_35 rfl (lv_at hl 0 rfl) ?_
  refine lv_iconst (v := (0 : Int32)) X.1 X.2.1 dX3_forget_36 (by decide) ?_
  obtain ⟨h17, q18, hf⟩ := bnd hf
  refine x_puti fl_X3_39 fp_X3_39.1 fp_X3_39.2 X M q18 dX3_forget_37 (fun H locs M => ?_)
  refine lv_aload_n X.1 X.2.1 dX3_forget_40 rfl (lv_at hl 0 rfl) ?_
  refine lv_iconst (v := (0 : Int32)) X.1 X.2.1 dX3_forget_41 (by decide) ?_
  obtain ⟨h19, q20, hf⟩ := bnd hf
  refine x_puti fl_X3_42 fp_X3_42.1 fp_X3_42.2 X M q20 dX3_forget_42 (fun H locs M => ?_)
  obtain rfl := rt1 hf
  exact x_vret X hr hk M hL dX3_forget_45
theorem c_X3_forget (l : Launch) (G : Gx) (N : Nat) (v0 : Nat) (h : Mem) (h' : Mem) (hf : f_X3_forget N v0 h = some h') : MetG l G yX3_forget (.code yX3_forget cX3_forget 1 (Option.none : Option Jvm.ClassFile.FieldType)) rm_X3_forget [.ref (gB G + v0)] h (QcV G h' (h.1.length + 0)) 0 0 :=
  x_met (by decide) rfl (Nat.le_of_ble_eq_true rfl) (fun p e s m args below meth c ls X M hr hk hin hl => w_X3_forget X hr hk (by have := M.2.2; omega) N v0 h hf _ _ ls M hl)
abbrev rm_X3_emit : Room := { frames := 1, cells := 0, slots := 0, locals := 40 }
def f_X3_emit (N : Nat) (v0 : Nat) (v1 : Int32) (v2 : Int32) (h : Mem) : Option Mem :=
  (gI h v0 3 7).bind fun t1 =>
  (gR h v0 3 6).bind fun t3 =>
  (alen 100 h t3).bind fun t5 =>
  if t5 ≤ t1 then
    some h
  else
    (gR h v0 3 6).bind fun t8 =>
    (gI h v0 3 7).bind fun t10 =>
    (sI h v0 3 7 (t10 + (1 : Int32))).bind fun h12 =>
    (stI 100 h12 t8 t10 ((v2 <<< ((4 : Int32) &&& 31)) ||| v1)).bind fun h14 =>
    some h14
set_option maxRecDepth 100000 in
set_option maxHeartbeats 4000000 in
theorem w_X3_emit {p : Program} {l : Launch} {e : Env} {s : State} {m : MethodId} {args : Array Value} {below : List Frame} {meth : Method} {c : Code} {G : Gx} {h' : Mem} {L : Nat} (X : CX G p s m args c cX3_emit 3 RX3) (hr : meth.sig.returnType = (Option.none : Option Jvm.ClassFile.FieldType)) (hk : meth.locks = false) (hL : s.heap.size + 0 = gB G + L) (N : Nat) : ∀ (v0 : Nat) (v1 : Int32) (v2 : Int32) (h : Mem), f_X3_emit N v0 v1 v2 h = some h' → ∀ (H : Heap) (locs : List Loc) (ls : Array Slot), MS G s h H locs 0 → lv_has ls 3 [(0, .ref (gB G + v0)), (1, .int v1), (2, .int v2)] → W p l e (rm_X3_emit) s m args below meth c H locs 0 0 (QV G below args s h' L 0 0) (F0 m 0 ls []) := by
  intro v0 v1 v2 h hf H locs ls M hl
  rw [f_X3_emit] at hf
  refine lv_aload_n X.1 X.2.1 dX3_emit_0 rfl (lv_at hl 0 rfl) ?_
  obtain ⟨t1, q2, hf⟩ := bnd hf
  refine x_geti fl_X3_42 X M q2 dX3_emit_1 ?_
  refine lv_aload_n X.1 X.2.1 dX3_emit_4 rfl (lv_at hl 0 rfl) ?_
  obtain ⟨t3, q4, hf⟩ := bnd hf
  refine x_getr fl_X3_23 X M q4 dX3_emit_5 ?_
  obtain ⟨t5, q6, hf⟩ := bnd hf
  refine x_alen (by decide) (fun _ => rfl) X M q6 dX3_emit_8 ?_
  refine lv_icmp_ge (tgt := 33) X.1 X.2.1 dX3_emit_9 (by decide) (fun c7 => ?_) (fun c7 => ?_)
  · have hf := ifp c7 hf
    obtain rfl := rt1 hf
    exact x_vret X hr hk M hL dX3_emit_33
  · have hf := ifn c7 hf
    refine lv_aload_n X.1 X.2.1 dX3_emit_12 rfl (lv_at hl 0 rfl) ?_
    obtain ⟨t8, q9, hf⟩ := bnd hf
    refine x_getr fl_X3_23 X M q9 dX3_emit_13 ?_
    refine lv_aload_n X.1 X.2.1 dX3_emit_16 rfl (lv_at hl 0 rfl) ?_
    refine lv_dup X.1 X.2.1 dX3_emit_17 rfl ?_
    obtain ⟨t10, q11, hf⟩ := bnd hf
    refine x_geti fl_X3_42 X M q11 dX3_emit_18 ?_
    refine lv_dup_x1 X.1 X.2.1 dX3_emit_21 rfl rfl ?_
    refine lv_iconst (v := (1 : Int32)) X.1 X.2.1 dX3_emit_22 (by decide) ?_
    refine lv_iadd X.1 X.2.1 dX3_emit_23 ?_
    obtain ⟨h12, q13, hf⟩ := bnd hf
    refine x_puti fl_X3_42 fp_X3_42.1 fp_X3_42.2 X M q13 dX3_emit_24 (fun H locs M => ?_)
    refine lv_iload_n X.1 X.2.1 dX3_emit_27 rfl (lv_at hl 2 rfl) ?_
    refine lv_iconst (v := (4 : Int32)) X.1 X.2.1 dX3_emit_28 (by decide) ?_
    refine lv_ishl X.1 X.2.1 dX3_emit_29 ?_
    refine lv_iload_n X.1 X.2.1 dX3_emit_30 rfl (lv_at hl 1 rfl) ?_
    refine lv_ior X.1 X.2.1 dX3_emit_31 ?_
    obtain ⟨h14, q15, hf⟩ := bnd hf
    refine x_iast X M q15 dX3_emit_32 (fun H locs M => ?_)
    obtain rfl := rt1 hf
    exact x_vret X hr hk M hL dX3_emit_33
theorem c_X3_emit (l : Launch) (G : Gx) (N : Nat) (v0 : Nat) (v1 : Int32) (v2 : Int32) (h : Mem) (h' : Mem) (hf : f_X3_emit N v0 v1 v2 h = some h') : MetG l G yX3_emit (.code yX3_emit cX3_emit 3 (Option.none : Option Jvm.ClassFile.FieldType)) rm_X3_emit [.ref (gB G + v0), .int v1, .int v2] h (QcV G h' (h.1.length + 0)) 0 0 :=
  x_met (by decide) rfl (Nat.le_of_ble_eq_true rfl) (fun p e s m args below meth c ls X M hr hk hin hl => w_X3_emit X hr hk (by have := M.2.2; omega) N v0 v1 v2 h hf _ _ ls M hl)
abbrev rm_X7_isNothing : Room := { frames := 1, cells := 0, slots := 0, locals := 40 }
def f_X7_isNothing (N : Nat) (v0 : Nat) (h : Mem) : Option (Int32 × Mem) :=
  (gI h v0 7 1).bind fun t1 =>
  if t1 = (-1 : Int32) then
    some ((1 : Int32), h)
  else
    some ((0 : Int32), h)
set_option maxRecDepth 100000 in
set_option maxHeartbeats 4000000 in
theorem w_X7_isNothing {p : Program} {l : Launch} {e : Env} {s : State} {m : MethodId} {args : Array Value} {below : List Frame} {meth : Method} {c : Code} {G : Gx} {r : Int32} {h' : Mem} (X : CX G p s m args c cX7_isNothing 1 RX7) (hr : meth.sig.returnType = (Option.some Jvm.ClassFile.FieldType.boolean)) (hk : meth.locks = false) (N : Nat) : ∀ (v0 : Nat) (h : Mem), f_X7_isNothing N v0 h = some (r, h') → ∀ (H : Heap) (locs : List Loc) (ls : Array Slot), MS G s h H locs 0 → lv_has ls 1 [(0, .ref (gB G + v0))] → W p l e (rm_X7_isNothing) s m args below meth c H locs 0 0 (QI G below args s r h' 0 0) (F0 m 0 ls []) := by
  intro v0 h hf H locs ls M hl
  rw [f_X7_isNothing] at hf
  refine lv_aload_n X.1 X.2.1 dX7_isNothing_0 rfl (lv_at hl 0 rfl) ?_
  obtain ⟨t1, q2, hf⟩ := bnd hf
  refine x_geti fl_X7_13 X M q2 dX7_isNothing_1 ?_
  refine lv_iconst (v := (-1 : Int32)) X.1 X.2.1 dX7_isNothing_4 (by decide) ?_
  refine lv_icmp_ne (tgt := 12) X.1 X.2.1 dX7_isNothing_5 (by decide) (fun c3 => ?_) (fun c3 => ?_)
  · have hf := ifn c3 hf
    refine lv_iconst (v := (0 : Int32)) X.1 X.2.1 dX7_isNothing_12 (by decide) ?_
    obtain ⟨rfl, rfl⟩ := rt2 hf
    exact x_zret X hr hk rfl M dX7_isNothing_13
  · have hf := ifp c3 hf
    refine lv_iconst (v := (1 : Int32)) X.1 X.2.1 dX7_isNothing_8 (by decide) ?_
    refine lv_goto (tgt := 13) X.1 X.2.1 dX7_isNothing_9 (by decide) ?_
    obtain ⟨rfl, rfl⟩ := rt2 hf
    exact x_zret X hr hk rfl M dX7_isNothing_13
theorem c_X7_isNothing (l : Launch) (G : Gx) (N : Nat) (v0 : Nat) (h : Mem) (r : Int32) (h' : Mem) (hf : f_X7_isNothing N v0 h = some (r, h')) : MetG l G yX7_isNothing (.code yX7_isNothing cX7_isNothing 1 (Option.some Jvm.ClassFile.FieldType.boolean)) rm_X7_isNothing [.ref (gB G + v0)] h (QcI G r h') 0 0 :=
  x_met (by decide) rfl (Nat.le_of_ble_eq_true rfl) (fun p e s m args below meth c ls X M hr hk hin hl => w_X7_isNothing X hr hk N v0 h hf _ _ ls M hl)
abbrev rm_X7_spans : Room := { frames := 1, cells := 0, slots := 0, locals := 40 }
def f_X7_spans (N : Nat) (v0 : Nat) (v1 : Int32) (v2 : Int32) (h : Mem) : Option (Int32 × Mem) :=
  if v1 < 0 then
    some ((0 : Int32), h)
  else
    if v2 < 0 then
      some ((0 : Int32), h)
    else
      (gI h v0 7 2).bind fun t3 =>
      if t3 < v2 then
        some ((0 : Int32), h)
      else
        (gI h v0 7 2).bind fun t6 =>
        if (t6 - v2) < v1 then
          some ((0 : Int32), h)
        else
          some ((1 : Int32), h)
set_option maxRecDepth 100000 in
set_option maxHeartbeats 4000000 in
theorem w_X7_spans {p : Program} {l : Launch} {e : Env} {s : State} {m : MethodId} {args : Array Value} {below : List Frame} {meth : Method} {c : Code} {G : Gx} {r : Int32} {h' : Mem} (X : CX G p s m args c cX7_spans 3 RX7) (hr : meth.sig.returnType = (Option.some Jvm.ClassFile.FieldType.boolean)) (hk : meth.locks = false) (N : Nat) : ∀ (v0 : Nat) (v1 : Int32) (v2 : Int32) (h : Mem), f_X7_spans N v0 v1 v2 h = some (r, h') → ∀ (H : Heap) (locs : List Loc) (ls : Array Slot), MS G s h H locs 0 → lv_has ls 3 [(0, .ref (gB G + v0)), (1, .int v1), (2, .int v2)] → W p l e (rm_X7_spans) s m args below meth c H locs 0 0 (QI G below args s r h' 0 0) (F0 m 0 ls []) := by
  intro v0 v1 v2 h hf H locs ls M hl
  rw [f_X7_spans] at hf
  refine lv_iload_n X.1 X.2.1 dX7_spans_0 rfl (lv_at hl 1 rfl) ?_
  refine lv_if_lt (tgt := 30) X.1 X.2.1 dX7_spans_1 (by decide) (fun c1 => ?_) (fun c1 => ?_)
  · have hf := ifp c1 hf
    refine lv_iconst (v := (0 : Int32)) X.1 X.2.1 dX7_spans_30 (by decide) ?_
    obtain ⟨rfl, rfl⟩ := rt2 hf
    exact x_zret X hr hk rfl M dX7_spans_31
  · have hf := ifn c1 hf
    refine lv_iload_n X.1 X.2.1 dX7_spans_4 rfl (lv_at hl 2 rfl) ?_
    refine lv_if_lt (tgt := 30) X.1 X.2.1 dX7_spans_5 (by decide) (fun c2 => ?_) (fun c2 => ?_)
    · have hf := ifp c2 hf
      refine lv_iconst (v := (0 : Int32)) X.1 X.2.1 dX7_spans_30 (by decide) ?_
      obtain ⟨rfl, rfl⟩ := rt2 hf
      exact x_zret X hr hk rfl M dX7_spans_31
    · have hf := ifn c2 hf
      refine lv_iload_n X.1 X.2.1 dX7_spans_8 rfl (lv_at hl 2 rfl) ?_
      refine lv_aload_n X.1 X.2.1 dX7_spans_9 rfl (lv_at hl 0 rfl) ?_
      obtain ⟨t3, q4, hf⟩ := bnd hf
      refine x_geti fl_X7_17 X M q4 dX7_spans_10 ?_
      refine lv_icmp_gt (tgt := 30) X.1 X.2.1 dX7_spans_13 (by decide) (fun c5 => ?_) (fun c5 => ?_)
      · have hf := ifp c5 hf
        refine lv_iconst (v := (0 : Int32)) X.1 X.2.1 dX7_spans_30 (by decide) ?_
        obtain ⟨rfl, rfl⟩ := rt2 hf
        exact x_zret X hr hk rfl M dX7_spans_31
      · have hf := ifn c5 hf
        refine lv_iload_n X.1 X.2.1 dX7_spans_16 rfl (lv_at hl 1 rfl) ?_
        refine lv_aload_n X.1 X.2.1 dX7_spans_17 rfl (lv_at hl 0 rfl) ?_
        obtain ⟨t6, q7, hf⟩ := bnd hf
        refine x_geti fl_X7_17 X M q7 dX7_spans_18 ?_
        refine lv_iload_n X.1 X.2.1 dX7_spans_21 rfl (lv_at hl 2 rfl) ?_
        refine lv_isub X.1 X.2.1 dX7_spans_22 ?_
        refine lv_icmp_gt (tgt := 30) X.1 X.2.1 dX7_spans_23 (by decide) (fun c8 => ?_) (fun c8 => ?_)
        · have hf := ifp c8 hf
          refine lv_iconst (v := (0 : Int32)) X.1 X.2.1 dX7_spans_30 (by decide) ?_
          obtain ⟨rfl, rfl⟩ := rt2 hf
          exact x_zret X hr hk rfl M dX7_spans_31
        · have hf := ifn c8 hf
          refine lv_iconst (v := (1 : Int32)) X.1 X.2.1 dX7_spans_26 (by decide) ?_
          refine lv_goto (tgt := 31) X.1 X.2.1 dX7_spans_27 (by decide) ?_
          obtain ⟨rfl, rfl⟩ := rt2 hf
          exact x_zret X hr hk rfl M dX7_spans_31
theorem c_X7_spans (l : Launch) (G : Gx) (N : Nat) (v0 : Nat) (v1 : Int32) (v2 : Int32) (h : Mem) (r : Int32) (h' : Mem) (hf : f_X7_spans N v0 v1 v2 h = some (r, h')) : MetG l G yX7_spans (.code yX7_spans cX7_spans 3 (Option.some Jvm.ClassFile.FieldType.boolean)) rm_X7_spans [.ref (gB G + v0), .int v1, .int v2] h (QcI G r h') 0 0 :=
  x_met (by decide) rfl (Nat.le_of_ble_eq_true rfl) (fun p e s m args below meth c ls X M hr hk hin hl => w_X7_spans X hr hk N v0 v1 v2 h hf _ _ ls M hl)
abbrev rm_X4_init : Room := { frames := 1, cells := 0, slots := 0, locals := 40 }
def f_X4_init (N : Nat) (v0 : Nat) (v1 : Int32) (v2 : Int32) (v3 : Int32) (v4 : Int32) (h : Mem) : Option Mem :=
  (sI h v0 4 0 v1).bind fun h1 =>
  (sI h1 v0 4 1 v2).bind fun h3 =>
  (sI h3 v0 4 2 v3).bind fun h5 =>
  (sI h5 v0 4 3 v4).bind fun h7 =>
  some h7
set_option maxRecDepth 100000 in
set_option maxHeartbeats 4000000 in
theorem w_X4_init {p : Program} {l : Launch} {e : Env} {s : State} {m : MethodId} {args : Array Value} {below : List Frame} {meth : Method} {c : Code} {G : Gx} {h' : Mem} {L : Nat} (X : CX G p s m args c cX4_init 5 RX4) (hr : meth.sig.returnType = (Option.none : Option Jvm.ClassFile.FieldType)) (hk : meth.locks = false) (hL : s.heap.size + 0 = gB G + L) (hin : meth.name = "<init>") (N : Nat) : ∀ (v0 : Nat) (v1 : Int32) (v2 : Int32) (v3 : Int32) (v4 : Int32) (h : Mem), f_X4_init N v0 v1 v2 v3 v4 h = some h' → ∀ (H : Heap) (locs : List Loc) (ls : Array Slot), MS G s h H locs 0 → lv_has ls 5 [(0, .ref (gB G + v0)), (1, .int v1), (2, .int v2), (3, .int v3), (4, .int v4)] → W p l e (rm_X4_init) s m args below meth c H locs 0 0 (QV G below args s h' L 0 0) (F0 m 0 ls []) := by
  intro v0 v1 v2 v3 v4 h hf H locs ls M hl
  rw [f_X4_init] at hf
  refine lv_aload_n X.1 X.2.1 dX4_init_0 rfl (lv_at hl 0 rfl) ?_
  refine x_obj k_811 k_27 k_28 X hl.1 dX4_init_1 (Nat.le_of_ble_eq_true rfl) (Nat.le_of_ble_eq_true rfl) ?_
  refine lv_aload_n X.1 X.2.1 dX4_init_4 rfl (lv_at hl 0 rfl) ?_
  refine lv_iload_n X.1 X.2.1 dX4_init_5 rfl (lv_at hl 1 rfl) ?_
  obtain ⟨h1, q2, hf⟩ := bnd hf
  refine x_putiF fl_X4_7 fp_X4_7.1 hin rfl fp_X4_7.2 X M q2 dX4_init_6 (fun H locs M => ?_)
  refine lv_aload_n X.1 X.2.1 dX4_init_9 rfl (lv_at hl 0 rfl) ?_
  refine lv_iload_n X.1 X.2.1 dX4_init_10 rfl (lv_at hl 2 rfl) ?_
  obtain ⟨h3, q4, hf⟩ := bnd hf
  refine x_putiF fl_X4_13 fp_X4_13.1 hin rfl fp_X4_13.2 X M q4 dX4_init_11 (fun H locs M => ?_)
  refine lv_aload_n X.1 X.2.1 dX4_init_14 rfl (lv_at hl 0 rfl) ?_
  refine lv_iload_n X.1 X.2.1 dX4_init_15 rfl (lv_at hl 3 rfl) ?_
  obtain ⟨h5, q6, hf⟩ := bnd hf
  refine x_putiF fl_X4_16 fp_X4_16.1 hin rfl fp_X4_16.2 X M q6 dX4_init_16 (fun H locs M => ?_)
  refine lv_aload_n X.1 X.2.1 dX4_init_19 rfl (lv_at hl 0 rfl) ?_
  refine lv_iload X.1 X.2.1 dX4_init_20 (lv_at hl 4 rfl) ?_
  obtain ⟨h7, q8, hf⟩ := bnd hf
  refine x_putiF fl_X4_19 fp_X4_19.1 hin rfl fp_X4_19.2 X M q8 dX4_init_22 (fun H locs M => ?_)
  obtain rfl := rt1 hf
  exact x_vret X hr hk M hL dX4_init_25
theorem c_X4_init (l : Launch) (G : Gx) (N : Nat) (v0 : Nat) (v1 : Int32) (v2 : Int32) (v3 : Int32) (v4 : Int32) (h : Mem) (h' : Mem) (hf : f_X4_init N v0 v1 v2 v3 v4 h = some h') : MetG l G yX4_init (.code yX4_init cX4_init 5 (Option.none : Option Jvm.ClassFile.FieldType)) rm_X4_init [.ref (gB G + v0), .int v1, .int v2, .int v3, .int v4] h (QcV G h' (h.1.length + 0)) 0 0 :=
  x_met (by decide) rfl (Nat.le_of_ble_eq_true rfl) (fun p e s m args below meth c ls X M hr hk hin hl => w_X4_init X hr hk (by have := M.2.2; omega) hin N v0 v1 v2 v3 v4 h hf _ _ ls M hl)
abbrev rm_X4_clashes : Room := { frames := 1, cells := 0, slots := 0, locals := 40 }
def f_X4_clashes (N : Nat) (v0 : Nat) (v1 : Nat) (h : Mem) : Option (Int32 × Mem) :=
  (gI h v0 4 0).bind fun t1 =>
  (gI h v1 4 0).bind fun t3 =>
  if t1 = t3 then
    (gI h v0 4 1).bind fun t6 =>
    (gI h v1 4 1).bind fun t8 =>
    if t6 = t8 then
      some ((1 : Int32), h)
    else
      some ((0 : Int32), h)
  else
    some ((0 : Int32), h)
set_option maxRecDepth 100000 in
set_option maxHeartbeats 4000000 in
theorem w_X4_clashes {p : Program} {l : Launch} {e : Env} {s : State} {m : MethodId} {args : Array Value} {below : List Frame} {meth : Method} {c : Code} {G : Gx} {r : Int32} {h' : Mem} (X : CX G p s m args c cX4_clashes 2 RX4) (hr : meth.sig.returnType = (Option.some Jvm.ClassFile.FieldType.boolean)) (hk : meth.locks = false) (N : Nat) : ∀ (v0 : Nat) (v1 : Nat) (h : Mem), f_X4_clashes N v0 v1 h = some (r, h') → ∀ (H : Heap) (locs : List Loc) (ls : Array Slot), MS G s h H locs 0 → lv_has ls 2 [(0, .ref (gB G + v0)), (1, .ref (gB G + v1))] → W p l e (rm_X4_clashes) s m args below meth c H locs 0 0 (QI G below args s r h' 0 0) (F0 m 0 ls []) := by
  intro v0 v1 h hf H locs ls M hl
  rw [f_X4_clashes] at hf
  refine lv_aload_n X.1 X.2.1 dX4_clashes_0 rfl (lv_at hl 0 rfl) ?_
  obtain ⟨t1, q2, hf⟩ := bnd hf
  refine x_geti fl_X4_7 X M q2 dX4_clashes_1 ?_
  refine lv_aload_n X.1 X.2.1 dX4_clashes_4 rfl (lv_at hl 1 rfl) ?_
  obtain ⟨t3, q4, hf⟩ := bnd hf
  refine x_geti fl_X4_7 X M q4 dX4_clashes_5 ?_
  refine lv_icmp_ne (tgt := 26) X.1 X.2.1 dX4_clashes_8 (by decide) (fun c5 => ?_) (fun c5 => ?_)
  · have hf := ifn c5 hf
    refine lv_iconst (v := (0 : Int32)) X.1 X.2.1 dX4_clashes_26 (by decide) ?_
    obtain ⟨rfl, rfl⟩ := rt2 hf
    exact x_zret X hr hk rfl M dX4_clashes_27
  · have hf := ifp c5 hf
    refine lv_aload_n X.1 X.2.1 dX4_clashes_11 rfl (lv_at hl 0 rfl) ?_
    obtain ⟨t6, q7, hf⟩ := bnd hf
    refine x_geti fl_X4_13 X M q7 dX4_clashes_12 ?_
    refine lv_aload_n X.1 X.2.1 dX4_clashes_15 rfl (lv_at hl 1 rfl) ?_
    obtain ⟨t8, q9, hf⟩ := bnd hf
    refine x_geti fl_X4_13 X M q9 dX4_clashes_16 ?_
    refine lv_icmp_ne (tgt := 26) X.1 X.2.1 dX4_clashes_19 (by decide) (fun c10 => ?_) (fun c10 => ?_)
    · have hf := ifn c10 hf
      refine lv_iconst (v := (0 : Int32)) X.1 X.2.1 dX4_clashes_26 (by decide) ?_
      obtain ⟨rfl, rfl⟩ := rt2 hf
      exact x_zret X hr hk rfl M dX4_clashes_27
    · have hf := ifp c10 hf
      refine lv_iconst (v := (1 : Int32)) X.1 X.2.1 dX4_clashes_22 (by decide) ?_
      refine lv_goto (tgt := 27) X.1 X.2.1 dX4_clashes_23 (by decide) ?_
      obtain ⟨rfl, rfl⟩ := rt2 hf
      exact x_zret X hr hk rfl M dX4_clashes_27
theorem c_X4_clashes (l : Launch) (G : Gx) (N : Nat) (v0 : Nat) (v1 : Nat) (h : Mem) (r : Int32) (h' : Mem) (hf : f_X4_clashes N v0 v1 h = some (r, h')) : MetG l G yX4_clashes (.code yX4_clashes cX4_clashes 2 (Option.some Jvm.ClassFile.FieldType.boolean)) rm_X4_clashes [.ref (gB G + v0), .ref (gB G + v1)] h (QcI G r h') 0 0 :=
  x_met (by decide) rfl (Nat.le_of_ble_eq_true rfl) (fun p e s m args below meth c ls X M hr hk hin hl => w_X4_clashes X hr hk N v0 v1 h hf _ _ ls M hl)
abbrev rm_X4_rule : Room := { frames := 1, cells := 0, slots := 0, locals := 40 }
def f_X4_rule_33 (N : Nat) (v0 : Nat) (s0 : Nat) (h : Mem) : Option Mem :=
  (gI h v0 4 1).bind fun t1 =>
  (gI h v0 4 2).bind fun t3 =>
  (stI 100 h s0 t1 t3).bind fun h5 =>
  some h5
set_option maxRecDepth 100000 in
set_option maxHeartbeats 4000000 in
theorem w_X4_rule_33 {p : Program} {l : Launch} {e : Env} {s : State} {m : MethodId} {args : Array Value} {below : List Frame} {meth : Method} {c : Code} {G : Gx} {h' : Mem} {L : Nat} (X : CX G p s m args c cX4_rule 3 RX4) (hr : meth.sig.returnType = (Option.none : Option Jvm.ClassFile.FieldType)) (hk : meth.locks = false) (hL : s.heap.size + 0 = gB G + L) (N : Nat) : ∀ (v0 : Nat) (s0 : Nat) (h : Mem), f_X4_rule_33 N v0 s0 h = some h' → ∀ (H : Heap) (locs : List Loc) (ls : Array Slot), MS G s h H locs 0 → lv_has ls 3 [(0, .ref (gB G + v0))] → W p l e (rm_X4_rule) s m args below meth c H locs 0 0 (QV G below args s h' L 0 0) (F0 m 33 ls [.ref (gB G + s0)]) := by
  intro v0 s0 h hf H locs ls M hl
  rw [f_X4_rule_33] at hf
  refine lv_astore_n (lv' := [(2, .ref (gB G + s0)), (0, .ref (gB G + v0))]) X.1 X.2.1 dX4_rule_33 rfl hl (by decide) rfl (fun ls hl => ?_)
  refine lv_aload_n X.1 X.2.1 dX4_rule_34 rfl (lv_at hl 0 rfl) ?_
  refine lv_aload_n X.1 X.2.1 dX4_rule_35 rfl (lv_at hl 1 rfl) ?_
  obtain ⟨t1, q2, hf⟩ := bnd hf
  refine x_geti fl_X4_13 X M q2 dX4_rule_36 ?_
  refine lv_aload_n X.1 X.2.1 dX4_rule_39 rfl (lv_at hl 1 rfl) ?_
  obtain ⟨t3, q4, hf⟩ := bnd hf
  refine x_geti fl_X4_16 X M q4 dX4_rule_40 ?_
  obtain ⟨h5, q6, hf⟩ := bnd hf
  refine x_iast X M q6 dX4_rule_43 (fun H locs M => ?_)
  obtain rfl := rt1 hf
  exact x_vret X hr hk M hL dX4_rule_44
def f_X4_rule (N : Nat) (v0 : Nat) (v1 : Nat) (h : Mem) : Option Mem :=
  (gI h v0 4 0).bind fun t1 =>
  if t1 = 0 then
    (gR h v1 1 6).bind fun t11 =>
    f_X4_rule_33 N v0 t11 h
  else
    (gI h v0 4 0).bind fun t4 =>
    if t4 = (1 : Int32) then
      (gR h v1 1 7).bind fun t9 =>
      f_X4_rule_33 N v0 t9 h
    else
      (gR h v1 1 5).bind fun t7 =>
      f_X4_rule_33 N v0 t7 h
set_option maxRecDepth 100000 in
set_option maxHeartbeats 4000000 in
theorem w_X4_rule {p : Program} {l : Launch} {e : Env} {s : State} {m : MethodId} {args : Array Value} {below : List Frame} {meth : Method} {c : Code} {G : Gx} {h' : Mem} {L : Nat} (X : CX G p s m args c cX4_rule 3 RX4) (hr : meth.sig.returnType = (Option.none : Option Jvm.ClassFile.FieldType)) (hk : meth.locks = false) (hL : s.heap.size + 0 = gB G + L) (N : Nat) : ∀ (v0 : Nat) (v1 : Nat) (h : Mem), f_X4_rule N v0 v1 h = some h' → ∀ (H : Heap) (locs : List Loc) (ls : Array Slot), MS G s h H locs 0 → lv_has ls 3 [(0, .ref (gB G + v0)), (1, .ref (gB G + v1))] → W p l e (rm_X4_rule) s m args below meth c H locs 0 0 (QV G below args s h' L 0 0) (F0 m 0 ls []) := by
  intro v0 v1 h hf H locs ls M hl
  rw [f_X4_rule] at hf
  refine lv_aload_n X.1 X.2.1 dX4_rule_0 rfl (lv_at hl 0 rfl) ?_
  obtain ⟨t1, q2, hf⟩ := bnd hf
  refine x_geti fl_X4_7 X M q2 dX4_rule_1 ?_
  refine lv_if_ne (tgt := 14) X.1 X.2.1 dX4_rule_4 (by decide) (fun c3 => ?_) (fun c3 => ?_)
  · have hf := ifn c3 hf
    refine lv_aload_n X.1 X.2.1 dX4_rule_14 rfl (lv_at hl 0 rfl) ?_
    obtain ⟨t4, q5, hf⟩ := bnd hf
    refine x_geti fl_X4_7 X M q5 dX4_rule_15 ?_
    refine lv_iconst (v := (1 : Int32)) X.1 X.2.1 dX4_rule_18 (by decide) ?_
    refine lv_icmp_ne (tgt := 29) X.1 X.2.1 dX4_rule_19 (by decide) (fun c6 => ?_) (fun c6 => ?_)
    · have hf := ifn c6 hf
      refine lv_aload_n X.1 X.2.1 dX4_rule_29 rfl (lv_at hl 1 rfl) ?_
      obtain ⟨t7, q8, hf⟩ := bnd hf
      refine x_getr fl_X4_31 X M q8 dX4_rule_30 ?_
      exact w_X4_rule_33 X hr hk hL N v0 t7 h hf _ _ _ M (lv_sub hl [0] rfl)
    · have hf := ifp c6 hf
      refine lv_aload_n X.1 X.2.1 dX4_rule_22 rfl (lv_at hl 1 rfl) ?_
      obtain ⟨t9, q10, hf⟩ := bnd hf
      refine x_getr fl_X4_28 X M q10 dX4_rule_23 ?_
      refine lv_goto (tgt := 33) X.1 X.2.1 dX4_rule_26 (by decide) ?_
      exact w_X4_rule_33 X hr hk hL N v0 t9 h hf _ _ _ M (lv_sub hl [0] rfl)
  · have hf := ifp c3 hf
    refine lv_aload_n X.1 X.2.1 dX4_rule_7 rfl (lv_at hl 1 rfl) ?_
    obtain ⟨t11, q12, hf⟩ := bnd hf
    refine x_getr fl_X4_22 X M q12 dX4_rule_8 ?_
    refine lv_goto (tgt := 33) X.1 X.2.1 dX4_rule_11 (by decide) ?_
    exact w_X4_rule_33 X hr hk hL N v0 t11 h hf _ _ _ M (lv_sub hl [0] rfl)
theorem c_X4_rule (l : Launch) (G : Gx) (N : Nat) (v0 : Nat) (v1 : Nat) (h : Mem) (h' : Mem) (hf : f_X4_rule N v0 v1 h = some h') : MetG l G yX4_rule (.code yX4_rule cX4_rule 3 (Option.none : Option Jvm.ClassFile.FieldType)) rm_X4_rule [.ref (gB G + v0), .ref (gB G + v1)] h (QcV G h' (h.1.length + 0)) 0 0 :=
  x_met (by decide) rfl (Nat.le_of_ble_eq_true rfl) (fun p e s m args below meth c ls X M hr hk hin hl => w_X4_rule X hr hk (by have := M.2.2; omega) N v0 v1 h hf _ _ ls M hl)
abbrev rm_X7_become : Room := { frames := 2, cells := 0, slots := 0, locals := 64 }
def f_X7_become (N : Nat) (v0 : Nat) (v1 : Int32) (v2 : Int32) (h : Mem) : Option Mem :=
  (sI h v0 7 1 v1).bind fun h1 =>
  (sI h1 v0 7 2 v2).bind fun h3 =>
  (gR h3 v0 7 0).bind fun t5 =>
  (f_J7_fill_d0a16 N t5 (0 : Int64) h3).bind fun h8 =>
  some h8
set_option maxRecDepth 100000 in
set_option maxHeartbeats 4000000 in
theorem w_X7_become {p : Program} {l : Launch} {e : Env} {s : State} {m : MethodId} {args : Array Value} {below : List Frame} {meth : Method} {c : Code} {G : Gx} {h' : Mem} {L : Nat} (X : CX G p s m args c cX7_become 3 RX7) (hr : meth.sig.returnType = (Option.none : Option Jvm.ClassFile.FieldType)) (hk : meth.locks = false) (hL : s.heap.size + 0 = gB G + L) (N : Nat) : ∀ (v0 : Nat) (v1 : Int32) (v2 : Int32) (h : Mem), f_X7_become N v0 v1 v2 h = some h' → ∀ (H : Heap) (locs : List Loc) (ls : Array Slot), MS G s h H locs 0 → lv_has ls 3 [(0, .ref (gB G + v0)), (1, .int v1), (2, .int v2)] → W p l e (rm_X7_become) s m args below meth c H locs 0 0 (QV G below args s h' L 0 0) (F0 m 0 ls []) := by
  intro v0 v1 v2 h hf H locs ls M hl
  rw [f_X7_become] at hf
  refine lv_aload_n X.1 X.2.1 dX7_become_0 rfl (lv_at hl 0 rfl) ?_
  refine lv_iload_n X.1 X.2.1 dX7_become_1 rfl (lv_at hl 1 rfl) ?_
  obtain ⟨h1, q2, hf⟩ := bnd hf
  refine x_puti fl_X7_13 fp_X7_13.1 fp_X7_13.2 X M q2 dX7_become_2 (fun H locs M => ?_)
  refine lv_aload_n X.1 X.2.1 dX7_become_5 rfl (lv_at hl 0 rfl) ?_
  refine lv_iload_n X.1 X.2.1 dX7_become_6 rfl (lv_at hl 2 rfl) ?_
  obtain ⟨h3, q4, hf⟩ := bnd hf
  refine x_puti fl_X7_17 fp_X7_17.1 fp_X7_17.2 X M q4 dX7_become_7 (fun H locs M => ?_)
  refine lv_aload_n X.1 X.2.1 dX7_become_10 rfl (lv_at hl 0 rfl) ?_
  obtain ⟨t5, q6, hf⟩ := bnd hf
  refine x_getr fl_X7_9 X M q6 dX7_become_11 ?_
  refine lv_lconst (v := 0) X.1 X.2.1 dX7_become_14 rfl ?_
  obtain ⟨h8, q7, hf⟩ := bnd hf
  refine x_callSv (As := [.ref (gB G + t5), .long (0 : Int64)]) cf_X7_20 (c_J7_fill_d0a16 l G N t5 (0 : Int64) h3 _ q7) rfl ⟨rfl, rfl, Nat.le_of_ble_eq_true rfl, Nat.le_of_ble_eq_true rfl⟩ ⟨Nat.le_of_ble_eq_true rfl, Nat.le_of_ble_eq_true rfl⟩ X M rfl rfl hl.1 (Nat.le_of_ble_eq_true rfl) dX7_become_15 (fun H locs M => ?_)
  obtain rfl := rt1 hf
  exact x_vret X hr hk M hL dX7_become_18
theorem c_X7_become (l : Launch) (G : Gx) (N : Nat) (v0 : Nat) (v1 : Int32) (v2 : Int32) (h : Mem) (h' : Mem) (hf : f_X7_become N v0 v1 v2 h = some h') : MetG l G yX7_become (.code yX7_become cX7_become 3 (Option.none : Option Jvm.ClassFile.FieldType)) rm_X7_become [.ref (gB G + v0), .int v1, .int v2] h (QcV G h' (h.1.length + 0)) 0 0 :=
  x_met (by decide) rfl (Nat.le_of_ble_eq_true rfl) (fun p e s m args below meth c ls X M hr hk hin hl => w_X7_become X hr hk (by have := M.2.2; omega) N v0 v1 v2 h hf _ _ ls M hl)
abbrev rm_X7_cut : Room := { frames := 1, cells := 0, slots := 0, locals := 40 }
def f_X7_cut (N : Nat) (v0 : Nat) (v1 : Int64) (h : Mem) : Option (Int64 × Mem) :=
  (gI h v0 7 1).bind fun t1 =>
  if t1 = 0 then
    some (((Int32.toInt64 ((Int32.toInt8 ((Int64.toInt32 v1))).toInt32))), h)
  else
  if t1 = 1 then
    some (((Int32.toInt64 ((Int32.toInt16 ((Int64.toInt32 v1))).toInt32))), h)
  else
  if t1 = 2 then
    some (((Int32.toInt64 ((Int64.toInt32 v1)))), h)
  else
  if t1 = 3 then
    some (v1, h)
  else
  if t1 = 4 then
    if (lg_cmp v1 (0 : Int64)) = 0 then
      some ((0 : Int64), h)
    else
      some ((1 : Int64), h)
  else
  some (v1, h)
set_option maxRecDepth 100000 in
set_option maxHeartbeats 4000000 in
theorem w_X7_cut {p : Program} {l : Launch} {e : Env} {s : State} {m : MethodId} {args : Array Value} {below : List Frame} {meth : Method} {c : Code} {G : Gx} {r : Int64} {h' : Mem} (X : CX G p s m args c cX7_cut 3 RX7) (hr : meth.sig.returnType = (Option.some Jvm.ClassFile.FieldType.long)) (hk : meth.locks = false) (N : Nat) : ∀ (v0 : Nat) (v1 : Int64) (h : Mem), f_X7_cut N v0 v1 h = some (r, h') → ∀ (H : Heap) (locs : List Loc) (ls : Array Slot), MS G s h H locs 0 → lv_has ls 3 [(0, .ref (gB G + v0)), (1, .long v1)] → W p l e (rm_X7_cut) s m args below meth c H locs 0 0 (QL G below args s r h' 0 0) (F0 m 0 ls []) := by
  intro v0 v1 h hf H locs ls M hl
  rw [f_X7_cut] at hf
  refine lv_aload_n X.1 X.2.1 dX7_cut_0 rfl (lv_at hl 0 rfl) ?_
  obtain ⟨t1, q2, hf⟩ := bnd hf
  refine x_geti fl_X7_13 X M q2 dX7_cut_1 ?_
  by_cases c3 : t1 = 0
  · have hf := ifp c3 hf
    refine x_tin (z := 0) (tgt := 40) X rfl c3 dX7_cut_4 (by decide) (by decide) rfl (by decide) ?_
    refine lv_lload_n X.1 X.2.1 dX7_cut_40 rfl (lv_at hl 1 rfl) ?_
    refine lv_l2i (v := ((Int64.toInt32 v1))) X.1 X.2.1 dX7_cut_41 rfl ?_
    refine lv_i2b (v := ((Int32.toInt8 ((Int64.toInt32 v1))).toInt32)) X.1 X.2.1 dX7_cut_42 rfl ?_
    refine lv_i2l (v := ((Int32.toInt64 ((Int32.toInt8 ((Int64.toInt32 v1))).toInt32)))) X.1 X.2.1 dX7_cut_43 rfl ?_
    obtain ⟨rfl, rfl⟩ := rt2 hf
    exact x_lret X hr hk M dX7_cut_44
  have hf := ifn c3 hf
  by_cases c4 : t1 = 1
  · have hf := ifp c4 hf
    refine x_tin (z := 1) (tgt := 45) X rfl c4 dX7_cut_4 (by decide) (by decide) rfl (by decide) ?_
    refine lv_lload_n X.1 X.2.1 dX7_cut_45 rfl (lv_at hl 1 rfl) ?_
    refine lv_l2i (v := ((Int64.toInt32 v1))) X.1 X.2.1 dX7_cut_46 rfl ?_
    refine lv_i2s (v := ((Int32.toInt16 ((Int64.toInt32 v1))).toInt32)) X.1 X.2.1 dX7_cut_47 rfl ?_
    refine lv_i2l (v := ((Int32.toInt64 ((Int32.toInt16 ((Int64.toInt32 v1))).toInt32)))) X.1 X.2.1 dX7_cut_48 rfl ?_
    obtain ⟨rfl, rfl⟩ := rt2 hf
    exact x_lret X hr hk M dX7_cut_49
  have hf := ifn c4 hf
  by_cases c5 : t1 = 2
  · have hf := ifp c5 hf
    refine x_tin (z := 2) (tgt := 50) X rfl c5 dX7_cut_4 (by decide) (by decide) rfl (by decide) ?_
    refine lv_lload_n X.1 X.2.1 dX7_cut_50 rfl (lv_at hl 1 rfl) ?_
    refine lv_l2i (v := ((Int64.toInt32 v1))) X.1 X.2.1 dX7_cut_51 rfl ?_
    refine lv_i2l (v := ((Int32.toInt64 ((Int64.toInt32 v1))))) X.1 X.2.1 dX7_cut_52 rfl ?_
    obtain ⟨rfl, rfl⟩ := rt2 hf
    exact x_lret X hr hk M dX7_cut_53
  have hf := ifn c5 hf
  by_cases c6 : t1 = 3
  · have hf := ifp c6 hf
    refine x_tin (z := 3) (tgt := 66) X rfl c6 dX7_cut_4 (by decide) (by decide) rfl (by decide) ?_
    refine lv_lload_n X.1 X.2.1 dX7_cut_66 rfl (lv_at hl 1 rfl) ?_
    obtain ⟨rfl, rfl⟩ := rt2 hf
    exact x_lret X hr hk M dX7_cut_67
  have hf := ifn c6 hf
  by_cases c7 : t1 = 4
  · have hf := ifp c7 hf
    refine x_tin (z := 4) (tgt := 54) X rfl c7 dX7_cut_4 (by decide) (by decide) rfl (by decide) ?_
    refine lv_lload_n X.1 X.2.1 dX7_cut_54 rfl (lv_at hl 1 rfl) ?_
    refine lv_lconst (v := 0) X.1 X.2.1 dX7_cut_55 rfl ?_
    refine W.lcmp X.1 X.2.1 dX7_cut_56 ?_
    refine lv_if_eq (tgt := 64) X.1 X.2.1 dX7_cut_57 (by decide) (fun c8 => ?_) (fun c8 => ?_)
    · have hf := ifp c8 hf
      refine lv_lconst (v := 0) X.1 X.2.1 dX7_cut_64 rfl ?_
      obtain ⟨rfl, rfl⟩ := rt2 hf
      exact x_lret X hr hk M dX7_cut_65
    · have hf := ifn c8 hf
      refine lv_lconst (v := 1) X.1 X.2.1 dX7_cut_60 rfl ?_
      refine lv_goto (tgt := 65) X.1 X.2.1 dX7_cut_61 (by decide) ?_
      obtain ⟨rfl, rfl⟩ := rt2 hf
      exact x_lret X hr hk M dX7_cut_65
  have hf := ifn c7 hf
  have nc3 := lv_neT (a := 0) c3 rfl
  have nc4 := lv_neT (a := 1) c4 rfl
  have nc5 := lv_neT (a := 2) c5 rfl
  have nc6 := lv_neT (a := 3) c6 rfl
  have nc7 := lv_neT (a := 4) c7 rfl
  refine lv_tableOut (tgt := 66) X.1 X.2.1 dX7_cut_4 (by omega) (by decide) ?_
  refine lv_lload_n X.1 X.2.1 dX7_cut_66 rfl (lv_at hl 1 rfl) ?_
  obtain ⟨rfl, rfl⟩ := rt2 hf
  exact x_lret X hr hk M dX7_cut_67
theorem c_X7_cut (l : Launch) (G : Gx) (N : Nat) (v0 : Nat) (v1 : Int64) (h : Mem) (r : Int64) (h' : Mem) (hf : f_X7_cut N v0 v1 h = some (r, h')) : MetG l G yX7_cut (.code yX7_cut cX7_cut 3 (Option.some Jvm.ClassFile.FieldType.long)) rm_X7_cut [.ref (gB G + v0), .long v1] h (QcL G r h') 0 0 :=
  x_met (by decide) rfl (Nat.le_of_ble_eq_true rfl) (fun p e s m args below meth c ls X M hr hk hin hl => w_X7_cut X hr hk N v0 v1 h hf _ _ ls M hl)
