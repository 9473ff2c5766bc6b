abbrev rm_X0_init : Room := { frames := 1, cells := 1, slots := 20, locals := 40 }
def f_X0_init (N : Nat) (v0 : Nat) (h : Mem) : Option Mem :=
  (sR (al h (100, 20)) v0 0 0 h.1.length).bind fun h1 =>
  some h1
set_option maxRecDepth 100000 in
set_option maxHeartbeats 4000000 in
theorem w_X0_init {p : Program} {l : Launch} {e : Env} {s : State} {m : MethodId} {args : Array Value} {below : List Frame} {meth : Method} {c : Code} {G : Gx} {h' : Mem} {L : Nat} (X : CX G p s m args c cX0_init 1 RX0) (hr : meth.sig.returnType = (Option.none : Option Jvm.ClassFile.FieldType)) (hk : meth.locks = false) (hL : s.heap.size + 1 = gB G + L) (hin : meth.name = "<init>") (N : Nat) : ∀ (v0 : Nat) (h : Mem), f_X0_init N v0 h = some h' → ∀ (H : Heap) (locs : List Loc) (ls : Array Slot), MS G s h H locs 0 → lv_has ls 1 [(0, .ref (gB G + v0))] → W p l e (rm_X0_init) s m args below meth c H locs 0 0 (QV G below args s h' L 1 20) (F0 m 0 ls []) := by
  intro v0 h hf H locs ls M hl
  rw [f_X0_init] at hf
  refine lv_aload_n X.1 X.2.1 dX0_init_0 rfl (lv_at hl 0 rfl) ?_
  refine x_obj k_212 k_27 k_28 X hl.1 dX0_init_1 (Nat.le_of_ble_eq_true rfl) (Nat.le_of_ble_eq_true rfl) ?_
  refine lv_aload_n X.1 X.2.1 dX0_init_4 rfl (lv_at hl 0 rfl) ?_
  refine lv_bipush (v := (20 : Int32)) X.1 X.2.1 dX0_init_5 (by decide) ?_
  refine x_newI (N := 20) k_75 (by decide) (by decide) (by decide) X M ⟨Nat.le_of_ble_eq_true rfl, Nat.le_of_ble_eq_true rfl⟩ dX0_init_7 (fun H locs M => ?_)
  obtain ⟨h1, q2, hf⟩ := bnd hf
  refine x_putrF fl_X0_11 fp_X0_11.1 hin rfl fp_X0_11.2 (fun _ => rfl) (fun _ => rfl) X M q2 dX0_init_9 (fun H locs M => ?_)
  obtain rfl := rt1 hf
  exact x_vret X hr hk M hL dX0_init_12
theorem c_X0_init (l : Launch) (G : Gx) (N : Nat) (v0 : Nat) (h : Mem) (h' : Mem) (hf : f_X0_init N v0 h = some h') : MetG l G yX0_init (.code yX0_init cX0_init 1 (Option.none : Option Jvm.ClassFile.FieldType)) rm_X0_init [.ref (gB G + v0)] h (QcV G h' (h.1.length + 1)) 1 20 :=
  x_met (by decide) rfl (Nat.le_of_ble_eq_true rfl) (fun p e s m args below meth c ls X M hr hk hin hl => w_X0_init X hr hk (by have := M.2.2; omega) hin N v0 h hf _ _ ls M hl)
abbrev rm_X0_forget : Room := { frames := 1, cells := 0, slots := 0, locals := 40 }
def f_X0_forget (N : Nat) (v0 : Nat) (v1 : Int32) (v2 : Int32) (h : Mem) : Option Mem :=
  (sI h v0 0 1 (0 : Int32)).bind fun h1 =>
  (sI h1 v0 0 3 v1).bind fun h3 =>
  (sI h3 v0 0 4 v2).bind fun h5 =>
  some h5
set_option maxRecDepth 100000 in
set_option maxHeartbeats 4000000 in
theorem w_X0_forget {p : Program} {l : Launch} {e : Env} {s : State} {m : MethodId} {args : Array Value} {below : List Frame} {meth : Method} {c : Code} {G : Gx} {h' : Mem} {L : Nat} (X : CX G p s m args c cX0_forget 3 RX0) (hr : meth.sig.returnType = (Option.none : Option Jvm.ClassFile.FieldType)) (hk : meth.locks = false) (hL : s.heap.size + 0 = gB G + L) (N : Nat) : ∀ (v0 : Nat) (v1 : Int32) (v2 : Int32) (h : Mem), f_X0_forget N v0 v1 v2 h = some h' → ∀ (H : Heap) (locs : List Loc) (ls : Array Slot), MS G s h H locs 0 → lv_has ls 3 [(0, .ref (gB G + v0)), (1, .int v1), (2, .int v2)] → W p l e (rm_X0_forget) s m args below meth c H locs 0 0 (QV G below args s h' L 0 0) (F0 m 0 ls []) := by
  intro v0 v1 v2 h hf H locs ls M hl
  rw [f_X0_forget] at hf
  refine lv_aload_n X.1 X.2.1 dX0_forget_0 rfl (lv_at hl 0 rfl) ?_
  refine lv_iconst (v := (0 : Int32)) X.1 X.2.1 dX0_forget_1 (by decide) ?_
  obtain ⟨h1, q2, hf⟩ := bnd hf
  refine x_puti fl_X0_15 fp_X0_15.1 fp_X0_15.2 X M q2 dX0_forget_2 (fun H locs M => ?_)
  refine lv_aload_n X.1 X.2.1 dX0_forget_5 rfl (lv_at hl 0 rfl) ?_
  refine lv_iload_n X.1 X.2.1 dX0_forget_6 rfl (lv_at hl 1 rfl) ?_
  obtain ⟨h3, q4, hf⟩ := bnd hf
  refine x_puti fl_X0_19 fp_X0_19.1 fp_X0_19.2 X M q4 dX0_forget_7 (fun H locs M => ?_)
  refine lv_aload_n X.1 X.2.1 dX0_forget_10 rfl (lv_at hl 0 rfl) ?_
  refine lv_iload_n X.1 X.2.1 dX0_forget_11 rfl (lv_at hl 2 rfl) ?_
  obtain ⟨h5, q6, hf⟩ := bnd hf
  refine x_puti fl_X0_22 fp_X0_22.1 fp_X0_22.2 X M q6 dX0_forget_12 (fun H locs M => ?_)
  obtain rfl := rt1 hf
  exact x_vret X hr hk M hL dX0_forget_15
theorem c_X0_forget (l : Launch) (G : Gx) (N : Nat) (v0 : Nat) (v1 : Int32) (v2 : Int32) (h : Mem) (h' : Mem) (hf : f_X0_forget N v0 v1 v2 h = some h') : MetG l G yX0_forget (.code yX0_forget cX0_forget 3 (Option.none : Option Jvm.ClassFile.FieldType)) rm_X0_forget [.ref (gB G + v0), .int v1, .int v2] h (QcV G h' (h.1.length + 0)) 0 0 :=
  x_met (by decide) rfl (Nat.le_of_ble_eq_true rfl) (fun p e s m args below meth c ls X M hr hk hin hl => w_X0_forget X hr hk (by have := M.2.2; omega) N v0 v1 v2 h hf _ _ ls M hl)
abbrev rmR_X0_run (d : Nat) : Room := { frames := 3 * d + 1, cells := 0, slots := 0, locals := 96 * d + 40 }
abbrev rm_X0_from (d : Nat) : Room := { frames := 3 * d + 2, cells := 0, slots := 0, locals := 96 * d + 72 }
def f_X0_from_91 (rc : Nat → Int32 → Int32 → Int32 → Mem → Option (Int32 × Mem)) (N : Nat) (v0 : Nat) (v3 : Int32) (v4 : Int32) (v6 : Int32) (h : Mem) : Option (Int32 × Mem) :=
  (gI h v0 0 1).bind fun t1 =>
  (sI h v0 0 1 (t1 + (1 : Int32))).bind fun h3 =>
  (ck h3 v0 0).bind fun _ =>
  b2 (rc v0 v6 v3 (v4 + (1 : Int32)) h3) fun t8 h7 =>
  some (t8, h7)
set_option maxRecDepth 100000 in
set_option maxHeartbeats 4000000 in
theorem w_X0_from_91 {p : Program} {l : Launch} {e : Env} {s : State} {m : MethodId} {args : Array Value} {below : List Frame} {meth : Method} {c : Code} {G : Gx} {r : Int32} {h' : Mem} (X : CX G p s m args c cX0_from 7 RX0) (hr : meth.sig.returnType = (Option.some Jvm.ClassFile.FieldType.int)) (hk : meth.locks = false) {d : Nat} (rc : Nat → Int32 → Int32 → Int32 → Mem → Option (Int32 × Mem)) (hrc : ∀ (a0 : Nat) (a1 : Int32) (a2 : Int32) (a3 : Int32) (h : Mem) (r : Int32) (h' : Mem), rc a0 a1 a2 a3 h = some (r, h') → MetG l G yX0_run (.code yX0_run cX0_run 4 (Option.some Jvm.ClassFile.FieldType.int)) (rmR_X0_run d) [.ref (gB G + a0), .int a1, .int a2, .int a3] h (QcI G r h') 0 0) (N : Nat) : ∀ (v0 : Nat) (v3 : Int32) (v4 : Int32) (v6 : Int32) (h : Mem), f_X0_from_91 rc N v0 v3 v4 v6 h = some (r, h') → ∀ (H : Heap) (locs : List Loc) (ls : Array Slot), MS G s h H locs 0 → lv_has ls 7 [(0, .ref (gB G + v0)), (3, .int v3), (4, .int v4), (6, .int v6)] → W p l e (rm_X0_from d) s m args below meth c H locs 0 0 (QI G below args s r h' 0 0) (F0 m 91 ls []) := by
  intro v0 v3 v4 v6 h hf H locs ls M hl
  rw [f_X0_from_91] at hf
  refine lv_aload_n X.1 X.2.1 dX0_from_91 rfl (lv_at hl 0 rfl) ?_
  refine lv_dup X.1 X.2.1 dX0_from_92 rfl ?_
  obtain ⟨t1, q2, hf⟩ := bnd hf
  refine x_geti fl_X0_15 X M q2 dX0_from_93 ?_
  refine lv_iconst (v := (1 : Int32)) X.1 X.2.1 dX0_from_96 (by decide) ?_
  refine lv_iadd X.1 X.2.1 dX0_from_97 ?_
  obtain ⟨h3, q4, hf⟩ := bnd hf
  refine x_puti fl_X0_15 fp_X0_15.1 fp_X0_15.2 X M q4 dX0_from_98 (fun H locs M => ?_)
  refine lv_aload_n X.1 X.2.1 dX0_from_101 rfl (lv_at hl 0 rfl) ?_
  refine lv_iload X.1 X.2.1 dX0_from_102 (lv_at hl 3 rfl) ?_
  refine lv_iload_n X.1 X.2.1 dX0_from_104 rfl (lv_at hl 1 rfl) ?_
  refine lv_iload X.1 X.2.1 dX0_from_105 (lv_at hl 2 rfl) ?_
  refine lv_iconst (v := (1 : Int32)) X.1 X.2.1 dX0_from_107 (by decide) ?_
  refine lv_iadd X.1 X.2.1 dX0_from_108 ?_
  obtain ⟨⟨⟩, q5, hf⟩ := bnd hf
  obtain ⟨t8, h7, q6, hf⟩ := bnd2 hf
  refine x_callVi (As := [.int v6, .int v3, .int (v4 + (1 : Int32))]) cf_X0_42 (hrc v0 v6 v3 (v4 + (1 : Int32)) h3 _ _ q6) rfl ⟨rfl, rfl, by simp only [rmR_X0_run, rm_X0_from]; omega, by simp only [rmR_X0_run, rm_X0_from]; omega⟩ ⟨Nat.le_of_ble_eq_true rfl, Nat.le_of_ble_eq_true rfl⟩ X M (x_recv cls_X0 X M q5) rfl rfl hl.1 (Nat.le_of_ble_eq_true rfl) dX0_from_109 (fun H locs M => ?_)
  obtain ⟨rfl, rfl⟩ := rt2 hf
  exact x_iret X hr hk M dX0_from_112
def f_X0_from_45 (rc : Nat → Int32 → Int32 → Int32 → Mem → Option (Int32 × Mem)) (N : Nat) (v0 : Nat) (v2 : Int32) (v3 : Int32) (v4 : Int32) (v5 : Int32) (h : Mem) : Option (Int32 × Mem) :=
  if v5 < 0 then
    some ((0 : Int32), h)
  else
    if v4 ≤ (40 : Int32) then
      (lT 1 ((v5 * (3 : Int32)) + v2)).bind fun t3 =>
      (gI h v0 0 1).bind fun t5 =>
      if (20 : Int32) ≤ t5 then
        f_X0_from_91 rc N v0 v3 v4 t3 h
      else
        (gR h v0 0 0).bind fun t8 =>
        (gI h v0 0 1).bind fun t10 =>
        (stI 100 h t8 t10 t3).bind fun h12 =>
        f_X0_from_91 rc N v0 v3 v4 t3 h12
    else
      some ((0 : Int32), h)
set_option maxRecDepth 100000 in
set_option maxHeartbeats 4000000 in
theorem w_X0_from_45 {p : Program} {l : Launch} {e : Env} {s : State} {m : MethodId} {args : Array Value} {below : List Frame} {meth : Method} {c : Code} {G : Gx} {r : Int32} {h' : Mem} (X : CX G p s m args c cX0_from 7 RX0) (hr : meth.sig.returnType = (Option.some Jvm.ClassFile.FieldType.int)) (hk : meth.locks = false) {d : Nat} (rc : Nat → Int32 → Int32 → Int32 → Mem → Option (Int32 × Mem)) (hrc : ∀ (a0 : Nat) (a1 : Int32) (a2 : Int32) (a3 : Int32) (h : Mem) (r : Int32) (h' : Mem), rc a0 a1 a2 a3 h = some (r, h') → MetG l G yX0_run (.code yX0_run cX0_run 4 (Option.some Jvm.ClassFile.FieldType.int)) (rmR_X0_run d) [.ref (gB G + a0), .int a1, .int a2, .int a3] h (QcI G r h') 0 0) (N : Nat) : ∀ (v0 : Nat) (v2 : Int32) (v3 : Int32) (v4 : Int32) (v5 : Int32) (h : Mem), f_X0_from_45 rc N v0 v2 v3 v4 v5 h = some (r, h') → ∀ (H : Heap) (locs : List Loc) (ls : Array Slot), MS G s h H locs 0 → lv_has ls 7 [(0, .ref (gB G + v0)), (2, .int v2), (3, .int v3), (4, .int v4), (5, .int v5)] → W p l e (rm_X0_from d) s m args below meth c H locs 0 0 (QI G below args s r h' 0 0) (F0 m 45 ls []) := by
  intro v0 v2 v3 v4 v5 h hf H locs ls M hl
  rw [f_X0_from_45] at hf
  refine lv_iload X.1 X.2.1 dX0_from_45 (lv_at hl 4 rfl) ?_
  refine lv_if_lt (tgt := 57) X.1 X.2.1 dX0_from_47 (by decide) (fun c1 => ?_) (fun c1 => ?_)
  · have hf := ifp c1 hf
    refine lv_iconst (v := (0 : Int32)) X.1 X.2.1 dX0_from_57 (by decide) ?_
    obtain ⟨rfl, rfl⟩ := rt2 hf
    exact x_iret X hr hk M dX0_from_58
  · have hf := ifn c1 hf
    refine lv_iload X.1 X.2.1 dX0_from_50 (lv_at hl 3 rfl) ?_
    refine lv_bipush (v := (40 : Int32)) X.1 X.2.1 dX0_from_52 (by decide) ?_
    refine lv_icmp_le (tgt := 59) X.1 X.2.1 dX0_from_54 (by decide) (fun c2 => ?_) (fun c2 => ?_)
    · have hf := ifp c2 hf
      refine x_bodies k_892 X M dX0_from_59 ?_
      refine lv_iload X.1 X.2.1 dX0_from_62 (lv_at hl 4 rfl) ?_
      refine lv_iconst (v := (3 : Int32)) X.1 X.2.1 dX0_from_64 (by decide) ?_
      refine lv_imul X.1 X.2.1 dX0_from_65 ?_
      refine lv_iload_n X.1 X.2.1 dX0_from_66 rfl (lv_at hl 1 rfl) ?_
      refine lv_iadd X.1 X.2.1 dX0_from_67 ?_
      obtain ⟨t3, q4, hf⟩ := bnd hf
      refine x_tald (by decide) X M q4 dX0_from_68 ?_
      refine lv_istore (lv' := [(6, .int t3), (0, .ref (gB G + v0)), (2, .int v2), (3, .int v3), (4, .int v4), (5, .int v5)]) X.1 X.2.1 dX0_from_69 hl (by decide) rfl (fun ls hl => ?_)
      refine lv_aload_n X.1 X.2.1 dX0_from_71 rfl (lv_at hl 1 rfl) ?_
      obtain ⟨t5, q6, hf⟩ := bnd hf
      refine x_geti fl_X0_15 X M q6 dX0_from_72 ?_
      refine lv_bipush (v := (20 : Int32)) X.1 X.2.1 dX0_from_75 (by decide) ?_
      refine lv_icmp_ge (tgt := 91) X.1 X.2.1 dX0_from_77 (by decide) (fun c7 => ?_) (fun c7 => ?_)
      · have hf := ifp c7 hf
        exact w_X0_from_91 X hr hk rc hrc N v0 v3 v4 t3 h hf _ _ _ M (lv_sub hl [1, 3, 4, 0] rfl)
      · have hf := ifn c7 hf
        refine lv_aload_n X.1 X.2.1 dX0_from_80 rfl (lv_at hl 1 rfl) ?_
        obtain ⟨t8, q9, hf⟩ := bnd hf
        refine x_getr fl_X0_11 X M q9 dX0_from_81 ?_
        refine lv_aload_n X.1 X.2.1 dX0_from_84 rfl (lv_at hl 1 rfl) ?_
        obtain ⟨t10, q11, hf⟩ := bnd hf
        refine x_geti fl_X0_15 X M q11 dX0_from_85 ?_
        refine lv_iload X.1 X.2.1 dX0_from_88 (lv_at hl 0 rfl) ?_
        obtain ⟨h12, q13, hf⟩ := bnd hf
        refine x_iast X M q13 dX0_from_90 (fun H locs M => ?_)
        exact w_X0_from_91 X hr hk rc hrc N v0 v3 v4 t3 h12 hf _ _ _ M (lv_sub hl [1, 3, 4, 0] rfl)
    · have hf := ifn c2 hf
      refine lv_iconst (v := (0 : Int32)) X.1 X.2.1 dX0_from_57 (by decide) ?_
      obtain ⟨rfl, rfl⟩ := rt2 hf
      exact x_iret X hr hk M dX0_from_58
def f_X0_from_6 (rc : Nat → Int32 → Int32 → Int32 → Mem → Option (Int32 × Mem)) (N : Nat) (n : Nat) (v0 : Nat) (v2 : Int32) (v3 : Int32) (v4 : Int32) (v5 : Int32) (v6 : Int32) (h : Mem) : Option (Int32 × Mem) := match n with
  | 0 => none
  | n + 1 =>
    if (6 : Int32) ≤ v6 then
      f_X0_from_45 rc N v0 v2 v3 v4 v5 h
    else
      if v5 ≤ 0 then
        f_X0_from_45 rc N v0 v2 v3 v4 v5 h
      else
        (lT 1 ((v5 * (3 : Int32)) + v2)).bind fun t3 =>
        if t3 = 0 then
          (lT 0 v5).bind fun t6 =>
          f_X0_from_6 rc N n v0 v2 v3 v4 t6 (v6 + 1) h
        else
          f_X0_from_45 rc N v0 v2 v3 v4 v5 h
set_option maxRecDepth 100000 in
set_option maxHeartbeats 4000000 in
theorem w_X0_from_6 {p : Program} {l : Launch} {e : Env} {s : State} {m : MethodId} {args : Array Value} {below : List Frame} {meth : Method} {c : Code} {G : Gx} {r : Int32} {h' : Mem} (X : CX G p s m args c cX0_from 7 RX0) (hr : meth.sig.returnType = (Option.some Jvm.ClassFile.FieldType.int)) (hk : meth.locks = false) {d : Nat} (rc : Nat → Int32 → Int32 → Int32 → Mem → Option (Int32 × Mem)) (hrc : ∀ (a0 : Nat) (a1 : Int32) (a2 : Int32) (a3 : Int32) (h : Mem) (r : Int32) (h' : Mem), rc a0 a1 a2 a3 h = some (r, h') → MetG l G yX0_run (.code yX0_run cX0_run 4 (Option.some Jvm.ClassFile.FieldType.int)) (rmR_X0_run d) [.ref (gB G + a0), .int a1, .int a2, .int a3] h (QcI G r h') 0 0) (N : Nat) : ∀ (n : Nat) (v0 : Nat) (v2 : Int32) (v3 : Int32) (v4 : Int32) (v5 : Int32) (v6 : Int32) (h : Mem), f_X0_from_6 rc N n v0 v2 v3 v4 v5 v6 h = some (r, h') → ∀ (H : Heap) (locs : List Loc) (ls : Array Slot), MS G s h H locs 0 → lv_has ls 7 [(0, .ref (gB G + v0)), (2, .int v2), (3, .int v3), (4, .int v4), (5, .int v5), (6, .int v6)] → W p l e (rm_X0_from d) s m args below meth c H locs 0 0 (QI G below args s r h' 0 0) (F0 m 6 ls []) := by
  intro n
  induction n with
  | zero =>
    intro v0 v2 v3 v4 v5 v6 h hf
    cases hf
  | succ n ih =>
    intro v0 v2 v3 v4 v5 v6 h hf H locs ls M hl
    rw [f_X0_from_6] at hf
    refine lv_iload X.1 X.2.1 dX0_from_6 (lv_at hl 5 rfl) ?_
    refine lv_bipush (v := (6 : Int32)) X.1 X.2.1 dX0_from_8 (by decide) ?_
    refine lv_icmp_ge (tgt := 45) X.1 X.2.1 dX0_from_10 (by decide) (fun c1 => ?_) (fun c1 => ?_)
    · have hf := ifp c1 hf
      exact w_X0_from_45 X hr hk rc hrc N v0 v2 v3 v4 v5 h hf _ _ _ M (lv_sub hl [0, 1, 2, 3, 4] rfl)
    · have hf := ifn c1 hf
      refine lv_iload X.1 X.2.1 dX0_from_13 (lv_at hl 4 rfl) ?_
      refine lv_if_le (tgt := 45) X.1 X.2.1 dX0_from_15 (by decide) (fun c2 => ?_) (fun c2 => ?_)
      · have hf := ifp c2 hf
        exact w_X0_from_45 X hr hk rc hrc N v0 v2 v3 v4 v5 h hf _ _ _ M (lv_sub hl [0, 1, 2, 3, 4] rfl)
      · have hf := ifn c2 hf
        refine x_bodies k_892 X M dX0_from_18 ?_
        refine lv_iload X.1 X.2.1 dX0_from_21 (lv_at hl 4 rfl) ?_
        refine lv_iconst (v := (3 : Int32)) X.1 X.2.1 dX0_from_23 (by decide) ?_
        refine lv_imul X.1 X.2.1 dX0_from_24 ?_
        refine lv_iload_n X.1 X.2.1 dX0_from_25 rfl (lv_at hl 1 rfl) ?_
        refine lv_iadd X.1 X.2.1 dX0_from_26 ?_
        obtain ⟨t3, q4, hf⟩ := bnd hf
        refine x_tald (by decide) X M q4 dX0_from_27 ?_
        refine lv_if_ne (tgt := 45) X.1 X.2.1 dX0_from_28 (by decide) (fun c5 => ?_) (fun c5 => ?_)
        · have hf := ifn c5 hf
          exact w_X0_from_45 X hr hk rc hrc N v0 v2 v3 v4 v5 h hf _ _ _ M (lv_sub hl [0, 1, 2, 3, 4] rfl)
        · have hf := ifp c5 hf
          refine x_above (by decide +kernel) X M dX0_from_31 ?_
          refine lv_iload X.1 X.2.1 dX0_from_34 (lv_at hl 4 rfl) ?_
          obtain ⟨t6, q7, hf⟩ := bnd hf
          refine x_tald (by decide) X M q7 dX0_from_36 ?_
          refine lv_istore (lv' := [(5, .int t6), (0, .ref (gB G + v0)), (2, .int v2), (3, .int v3), (4, .int v4), (6, .int v6)]) X.1 X.2.1 dX0_from_37 hl (by decide) rfl (fun ls hl => ?_)
          refine lv_iinc (v := (v6 + 1)) (lv' := [(6, .int (v6 + 1)), (5, .int t6), (0, .ref (gB G + v0)), (2, .int v2), (3, .int v3), (4, .int v4)]) X.1 X.2.1 dX0_from_39 hl (k := 5) rfl (by first | rfl | decide) (by decide) rfl (fun ls hl => ?_)
          refine lv_goto (tgt := 6) X.1 X.2.1 dX0_from_42 (by decide) ?_
          exact ih v0 v2 v3 v4 t6 (v6 + 1) h hf _ _ _ M (lv_sub hl [2, 3, 4, 5, 1, 0] rfl)
def f_X0_from (rc : Nat → Int32 → Int32 → Int32 → Mem → Option (Int32 × Mem)) (N : Nat) (v0 : Nat) (v1 : Int32) (v2 : Int32) (v3 : Int32) (v4 : Int32) (h : Mem) : Option (Int32 × Mem) :=
  f_X0_from_6 rc N N v0 v2 v3 v4 v1 (0 : Int32) h
set_option maxRecDepth 100000 in
set_option maxHeartbeats 4000000 in
theorem w_X0_from {p : Program} {l : Launch} {e : Env} {s : State} {m : MethodId} {args : Array Value} {below : List Frame} {meth : Method} {c : Code} {G : Gx} {r : Int32} {h' : Mem} (X : CX G p s m args c cX0_from 7 RX0) (hr : meth.sig.returnType = (Option.some Jvm.ClassFile.FieldType.int)) (hk : meth.locks = false) {d : Nat} (rc : Nat → Int32 → Int32 → Int32 → Mem → Option (Int32 × Mem)) (hrc : ∀ (a0 : Nat) (a1 : Int32) (a2 : Int32) (a3 : Int32) (h : Mem) (r : Int32) (h' : Mem), rc a0 a1 a2 a3 h = some (r, h') → MetG l G yX0_run (.code yX0_run cX0_run 4 (Option.some Jvm.ClassFile.FieldType.int)) (rmR_X0_run d) [.ref (gB G + a0), .int a1, .int a2, .int a3] h (QcI G r h') 0 0) (N : Nat) : ∀ (v0 : Nat) (v1 : Int32) (v2 : Int32) (v3 : Int32) (v4 : Int32) (h : Mem), f_X0_from rc N v0 v1 v2 v3 v4 h = some (r, h') → ∀ (H : Heap) (locs : List Loc) (ls : Array Slot), MS G s h H locs 0 → lv_has ls 7 [(0, .ref (gB G + v0)), (1, .int v1), (2, .int v2), (3, .int v3), (4, .int v4)] → W p l e (rm_X0_from d) s m args below meth c H locs 0 0 (QI G below args s r h' 0 0) (F0 m 0 ls []) := by
  intro v0 v1 v2 v3 v4 h hf H locs ls M hl
  rw [f_X0_from] at hf
  refine lv_iload_n X.1 X.2.1 dX0_from_0 rfl (lv_at hl 1 rfl) ?_
  refine lv_istore (lv' := [(5, .int v1), (0, .ref (gB G + v0)), (1, .int v1), (2, .int v2), (3, .int v3), (4, .int v4)]) X.1 X.2.1 dX0_from_1 hl (by decide) rfl (fun ls hl => ?_)
  refine lv_iconst (v := (0 : Int32)) X.1 X.2.1 dX0_from_3 (by decide) ?_
  refine lv_istore (lv' := [(6, .int (0 : Int32)), (5, .int v1), (0, .ref (gB G + v0)), (1, .int v1), (2, .int v2), (3, .int v3), (4, .int v4)]) X.1 X.2.1 dX0_from_4 hl (by decide) rfl (fun ls hl => ?_)
  exact w_X0_from_6 X hr hk rc hrc N N v0 v2 v3 v4 v1 (0 : Int32) h hf _ _ _ M (lv_sub hl [2, 4, 5, 6, 1, 0] rfl)
theorem c_X0_from (l : Launch) (G : Gx) {d : Nat} (rc : Nat → Int32 → Int32 → Int32 → Mem → Option (Int32 × Mem)) (hrc : ∀ (a0 : Nat) (a1 : Int32) (a2 : Int32) (a3 : Int32) (h : Mem) (r : Int32) (h' : Mem), rc a0 a1 a2 a3 h = some (r, h') → MetG l G yX0_run (.code yX0_run cX0_run 4 (Option.some Jvm.ClassFile.FieldType.int)) (rmR_X0_run d) [.ref (gB G + a0), .int a1, .int a2, .int a3] h (QcI G r h') 0 0) (N : Nat) (v0 : Nat) (v1 : Int32) (v2 : Int32) (v3 : Int32) (v4 : Int32) (h : Mem) (r : Int32) (h' : Mem) (hf : f_X0_from rc N v0 v1 v2 v3 v4 h = some (r, h')) : MetG l G yX0_from (.code yX0_from cX0_from 7 (Option.some Jvm.ClassFile.FieldType.int)) (rm_X0_from d) [.ref (gB G + v0), .int v1, .int v2, .int v3, .int v4] h (QcI G r h') 0 0 :=
  x_met (by decide) rfl (Nat.le_of_ble_eq_true rfl) (fun p e s m args below meth c ls X M hr hk hin hl => w_X0_from X hr hk rc hrc N v0 v1 v2 v3 v4 h hf _ _ ls M hl)
abbrev rm_X0_own (d : Nat) : Room := { frames := 3 * d + 3, cells := 0, slots := 0, locals := 96 * d + 104 }
def f_X0_own (rc : Nat → Int32 → Int32 → Int32 → Mem → Option (Int32 × Mem)) (N : Nat) (v0 : Nat) (v1 : Int32) (v2 : Int32) (v3 : Int32) (h : Mem) : Option (Int32 × Mem) :=
  (gI h v0 0 2).bind fun t1 =>
  (ck h v0 0).bind fun _ =>
  b2 (f_X0_from rc N v0 t1 v1 v2 v3 h) fun t6 h5 =>
  some (t6, h5)
set_option maxRecDepth 100000 in
set_option maxHeartbeats 4000000 in
theorem w_X0_own {p : Program} {l : Launch} {e : Env} {s : State} {m : MethodId} {args : Array Value} {below : List Frame} {meth : Method} {c : Code} {G : Gx} {r : Int32} {h' : Mem} (X : CX G p s m args c cX0_own 4 RX0) (hr : meth.sig.returnType = (Option.some Jvm.ClassFile.FieldType.int)) (hk : meth.locks = false) {d : Nat} (rc : Nat → Int32 → Int32 → Int32 → Mem → Option (Int32 × Mem)) (hrc : ∀ (a0 : Nat) (a1 : Int32) (a2 : Int32) (a3 : Int32) (h : Mem) (r : Int32) (h' : Mem), rc a0 a1 a2 a3 h = some (r, h') → MetG l G yX0_run (.code yX0_run cX0_run 4 (Option.some Jvm.ClassFile.FieldType.int)) (rmR_X0_run d) [.ref (gB G + a0), .int a1, .int a2, .int a3] h (QcI G r h') 0 0) (N : Nat) : ∀ (v0 : Nat) (v1 : Int32) (v2 : Int32) (v3 : Int32) (h : Mem), f_X0_own rc N v0 v1 v2 v3 h = some (r, h') → ∀ (H : Heap) (locs : List Loc) (ls : Array Slot), MS G s h H locs 0 → lv_has ls 4 [(0, .ref (gB G + v0)), (1, .int v1), (2, .int v2), (3, .int v3)] → W p l e (rm_X0_own d) s m args below meth c H locs 0 0 (QI G below args s r h' 0 0) (F0 m 0 ls []) := by
  intro v0 v1 v2 v3 h hf H locs ls M hl
  rw [f_X0_own] at hf
  refine lv_aload_n X.1 X.2.1 dX0_own_0 rfl (lv_at hl 0 rfl) ?_
  refine lv_aload_n X.1 X.2.1 dX0_own_1 rfl (lv_at hl 0 rfl) ?_
  obtain ⟨t1, q2, hf⟩ := bnd hf
  refine x_geti fl_X0_25 X M q2 dX0_own_2 ?_
  refine lv_iload_n X.1 X.2.1 dX0_own_5 rfl (lv_at hl 1 rfl) ?_
  refine lv_iload_n X.1 X.2.1 dX0_own_6 rfl (lv_at hl 2 rfl) ?_
  refine lv_iload_n X.1 X.2.1 dX0_own_7 rfl (lv_at hl 3 rfl) ?_
  obtain ⟨⟨⟩, q3, hf⟩ := bnd hf
  obtain ⟨t6, h5, q4, hf⟩ := bnd2 hf
  refine x_callVi (As := [.int t1, .int v1, .int v2, .int v3]) cf_X0_32 (c_X0_from l G rc hrc N v0 t1 v1 v2 v3 h _ _ q4) rfl ⟨rfl, rfl, by simp only [rm_X0_own, rm_X0_from]; omega, by simp only [rm_X0_own, rm_X0_from]; omega⟩ ⟨Nat.le_of_ble_eq_true rfl, Nat.le_of_ble_eq_true rfl⟩ X M (x_recv cls_X0 X M q3) rfl rfl hl.1 (Nat.le_of_ble_eq_true rfl) dX0_own_8 (fun H locs M => ?_)
  obtain ⟨rfl, rfl⟩ := rt2 hf
  exact x_iret X hr hk M dX0_own_11
theorem c_X0_own (l : Launch) (G : Gx) {d : Nat} (rc : Nat → Int32 → Int32 → Int32 → Mem → Option (Int32 × Mem)) (hrc : ∀ (a0 : Nat) (a1 : Int32) (a2 : Int32) (a3 : Int32) (h : Mem) (r : Int32) (h' : Mem), rc a0 a1 a2 a3 h = some (r, h') → MetG l G yX0_run (.code yX0_run cX0_run 4 (Option.some Jvm.ClassFile.FieldType.int)) (rmR_X0_run d) [.ref (gB G + a0), .int a1, .int a2, .int a3] h (QcI G r h') 0 0) (N : Nat) (v0 : Nat) (v1 : Int32) (v2 : Int32) (v3 : Int32) (h : Mem) (r : Int32) (h' : Mem) (hf : f_X0_own rc N v0 v1 v2 v3 h = some (r, h')) : MetG l G yX0_own (.code yX0_own cX0_own 4 (Option.some Jvm.ClassFile.FieldType.int)) (rm_X0_own d) [.ref (gB G + v0), .int v1, .int v2, .int v3] h (QcI G r h') 0 0 :=
  x_met (by decide) rfl (Nat.le_of_ble_eq_true rfl) (fun p e s m args below meth c ls X M hr hk hin hl => w_X0_own X hr hk rc hrc N v0 v1 v2 v3 h hf _ _ ls M hl)
abbrev rm_X0_above (d : Nat) : Room := { frames := 3 * d + 3, cells := 0, slots := 0, locals := 96 * d + 104 }
def f_X0_above (rc : Nat → Int32 → Int32 → Int32 → Mem → Option (Int32 × Mem)) (N : Nat) (v0 : Nat) (v1 : Int32) (v2 : Int32) (v3 : Int32) (v4 : Int32) (h : Mem) : Option (Int32 × Mem) :=
  (lT 0 v1).bind fun t1 =>
  (ck h v0 0).bind fun _ =>
  b2 (f_X0_from rc N v0 t1 v2 v3 v4 h) fun t6 h5 =>
  some (t6, h5)
set_option maxRecDepth 100000 in
set_option maxHeartbeats 4000000 in
theorem w_X0_above {p : Program} {l : Launch} {e : Env} {s : State} {m : MethodId} {args : Array Value} {below : List Frame} {meth : Method} {c : Code} {G : Gx} {r : Int32} {h' : Mem} (X : CX G p s m args c cX0_above 5 RX0) (hr : meth.sig.returnType = (Option.some Jvm.ClassFile.FieldType.int)) (hk : meth.locks = false) {d : Nat} (rc : Nat → Int32 → Int32 → Int32 → Mem → Option (Int32 × Mem)) (hrc : ∀ (a0 : Nat) (a1 : Int32) (a2 : Int32) (a3 : Int32) (h : Mem) (r : Int32) (h' : Mem), rc a0 a1 a2 a3 h = some (r, h') → MetG l G yX0_run (.code yX0_run cX0_run 4 (Option.some Jvm.ClassFile.FieldType.int)) (rmR_X0_run d) [.ref (gB G + a0), .int a1, .int a2, .int a3] h (QcI G r h') 0 0) (N : Nat) : ∀ (v0 : Nat) (v1 : Int32) (v2 : Int32) (v3 : Int32) (v4 : Int32) (h : Mem), f_X0_above rc N v0 v1 v2 v3 v4 h = some (r, h') → ∀ (H : Heap) (locs : List Loc) (ls : Array Slot), MS G s h H locs 0 → lv_has ls 5 [(0, .ref (gB G + v0)), (1, .int v1), (2, .int v2), (3, .int v3), (4, .int v4)] → W p l e (rm_X0_above d) s m args below meth c H locs 0 0 (QI G below args s r h' 0 0) (F0 m 0 ls []) := by
  intro v0 v1 v2 v3 v4 h hf H locs ls M hl
  rw [f_X0_above] at hf
  refine lv_aload_n X.1 X.2.1 dX0_above_0 rfl (lv_at hl 0 rfl) ?_
  refine x_above (by decide +kernel) X M dX0_above_1 ?_
  refine lv_iload_n X.1 X.2.1 dX0_above_4 rfl (lv_at hl 1 rfl) ?_
  obtain ⟨t1, q2, hf⟩ := bnd hf
  refine x_tald (by decide) X M q2 dX0_above_5 ?_
  refine lv_iload_n X.1 X.2.1 dX0_above_6 rfl (lv_at hl 2 rfl) ?_
  refine lv_iload_n X.1 X.2.1 dX0_above_7 rfl (lv_at hl 3 rfl) ?_
  refine lv_iload X.1 X.2.1 dX0_above_8 (lv_at hl 4 rfl) ?_
  obtain ⟨⟨⟩, q3, hf⟩ := bnd hf
  obtain ⟨t6, h5, q4, hf⟩ := bnd2 hf
  refine x_callVi (As := [.int t1, .int v2, .int v3, .int v4]) cf_X0_32 (c_X0_from l G rc hrc N v0 t1 v2 v3 v4 h _ _ q4) rfl ⟨rfl, rfl, by simp only [rm_X0_above, rm_X0_from]; omega, by simp only [rm_X0_above, rm_X0_from]; omega⟩ ⟨Nat.le_of_ble_eq_true rfl, Nat.le_of_ble_eq_true rfl⟩ X M (x_recv cls_X0 X M q3) rfl rfl hl.1 (Nat.le_of_ble_eq_true rfl) dX0_above_10 (fun H locs M => ?_)
  obtain ⟨rfl, rfl⟩ := rt2 hf
  exact x_iret X hr hk M dX0_above_13
theorem c_X0_above (l : Launch) (G : Gx) {d : Nat} (rc : Nat → Int32 → Int32 → Int32 → Mem → Option (Int32 × Mem)) (hrc : ∀ (a0 : Nat) (a1 : Int32) (a2 : Int32) (a3 : Int32) (h : Mem) (r : Int32) (h' : Mem), rc a0 a1 a2 a3 h = some (r, h') → MetG l G yX0_run (.code yX0_run cX0_run 4 (Option.some Jvm.ClassFile.FieldType.int)) (rmR_X0_run d) [.ref (gB G + a0), .int a1, .int a2, .int a3] h (QcI G r h') 0 0) (N : Nat) (v0 : Nat) (v1 : Int32) (v2 : Int32) (v3 : Int32) (v4 : Int32) (h : Mem) (r : Int32) (h' : Mem) (hf : f_X0_above rc N v0 v1 v2 v3 v4 h = some (r, h')) : MetG l G yX0_above (.code yX0_above cX0_above 5 (Option.some Jvm.ClassFile.FieldType.int)) (rm_X0_above d) [.ref (gB G + v0), .int v1, .int v2, .int v3, .int v4] h (QcI G r h') 0 0 :=
  x_met (by decide) rfl (Nat.le_of_ble_eq_true rfl) (fun p e s m args below meth c ls X M hr hk hin hl => w_X0_above X hr hk rc hrc N v0 v1 v2 v3 v4 h hf _ _ ls M hl)
abbrev rm_X0_run (d : Nat) : Room := { frames := 3 * d + 4, cells := 0, slots := 0, locals := 96 * d + 136 }
def f_X0_run (rc : Nat → Int32 → Int32 → Int32 → Mem → Option (Int32 × Mem)) (N : Nat) (v0 : Nat) (v1 : Int32) (v2 : Int32) (v3 : Int32) (h : Mem) : Option (Int32 × Mem) :=
  if v1 = 10 then
    (gI h v0 0 3).bind fun t2 =>
    some ((v2 + t2), h)
  else
  if v1 = 11 then
    (ck h v0 0).bind fun _ =>
    b2 (f_X0_own rc N v0 (0 : Int32) v2 v3 h) fun t8 h7 =>
    (gI h7 v0 0 4).bind fun t9 =>
    some ((t8 - t9), h7)
  else
  if v1 = 12 then
    (ck h v0 0).bind fun _ =>
    b2 (f_X0_own rc N v0 (1 : Int32) v2 v3 h) fun t15 h14 =>
    some ((t15 * (2 : Int32)), h14)
  else
  if v1 = 20 then
    (ck h v0 0).bind fun _ =>
    b2 (f_X0_above rc N v0 (1 : Int32) (1 : Int32) v2 v3 h) fun t20 h19 =>
    some ((t20 ^^^ (5 : Int32)), h19)
  else
  if v1 = 30 then
    (ck h v0 0).bind fun _ =>
    b2 (f_X0_above rc N v0 (2 : Int32) (0 : Int32) (v2 * (3 : Int32)) v3 h) fun t25 h24 =>
    some (t25, h24)
  else
  if v1 = 31 then
    (ck h v0 0).bind fun _ =>
    b2 (f_X0_above rc N v0 (2 : Int32) (2 : Int32) v2 v3 h) fun t30 h29 =>
    (ck h29 v0 0).bind fun _ =>
    b2 (f_X0_own rc N v0 (1 : Int32) (1 : Int32) v3 h29) fun t34 h33 =>
    some ((t30 + t34), h33)
  else
  if v1 = 40 then
    (ck h v0 0).bind fun _ =>
    b2 (f_X0_above rc N v0 (3 : Int32) (0 : Int32) v2 v3 h) fun t39 h38 =>
    some ((-t39), h38)
  else
  if v1 = 50 then
    (gI h v0 0 3).bind fun t41 =>
    (ck h v0 0).bind fun _ =>
    b2 (f_X0_above rc N v0 (4 : Int32) (2 : Int32) (v2 - t41) v3 h) fun t46 h45 =>
    some (t46, h45)
  else
  if v1 = 51 then
    (ck h v0 0).bind fun _ =>
    b2 (f_X0_above rc N v0 (4 : Int32) (1 : Int32) v2 v3 h) fun t51 h50 =>
    (ck h50 v0 0).bind fun _ =>
    b2 (f_X0_above rc N v0 (4 : Int32) (0 : Int32) (2 : Int32) v3 h50) fun t55 h54 =>
    some ((t51 + t55), h54)
  else
  if v1 = 60 then
    (gI h v0 0 4).bind fun t57 =>
    (ck h v0 0).bind fun _ =>
    b2 (f_X0_above rc N v0 (5 : Int32) (1 : Int32) (v2 + t57) v3 h) fun t62 h61 =>
    some (t62, h61)
  else
  if v1 = 61 then
    (ck h v0 0).bind fun _ =>
    b2 (f_X0_own rc N v0 (0 : Int32) v2 v3 h) fun t67 h66 =>
    (ck h66 v0 0).bind fun _ =>
    b2 (f_X0_above rc N v0 (5 : Int32) (2 : Int32) v2 v3 h66) fun t71 h70 =>
    some ((t67 - t71), h70)
  else
  some ((0 : Int32), h)
set_option maxRecDepth 100000 in
set_option maxHeartbeats 4000000 in
theorem w_X0_run {p : Program} {l : Launch} {e : Env} {s : State} {m : MethodId} {args : Array Value} {below : List Frame} {meth : Method} {c : Code} {G : Gx} {r : Int32} {h' : Mem} (X : CX G p s m args c cX0_run 4 RX0) (hr : meth.sig.returnType = (Option.some Jvm.ClassFile.FieldType.int)) (hk : meth.locks = false) {d : Nat} (rc : Nat → Int32 → Int32 → Int32 → Mem → Option (Int32 × Mem)) (hrc : ∀ (a0 : Nat) (a1 : Int32) (a2 : Int32) (a3 : Int32) (h : Mem) (r : Int32) (h' : Mem), rc a0 a1 a2 a3 h = some (r, h') → MetG l G yX0_run (.code yX0_run cX0_run 4 (Option.some Jvm.ClassFile.FieldType.int)) (rmR_X0_run d) [.ref (gB G + a0), .int a1, .int a2, .int a3] h (QcI G r h') 0 0) (N : Nat) : ∀ (v0 : Nat) (v1 : Int32) (v2 : Int32) (v3 : Int32) (h : Mem), f_X0_run rc N v0 v1 v2 v3 h = some (r, h') → ∀ (H : Heap) (locs : List Loc) (ls : Array Slot), MS G s h H locs 0 → lv_has ls 4 [(0, .ref (gB G + v0)), (1, .int v1), (2, .int v2), (3, .int v3)] → W p l e (rm_X0_run d) s m args below meth c H locs 0 0 (QI G below args s r h' 0 0) (F0 m 0 ls []) := by
  intro v0 v1 v2 v3 h hf H locs ls M hl
  rw [f_X0_run] at hf
  refine lv_iload_n X.1 X.2.1 dX0_run_0 rfl (lv_at hl 1 rfl) ?_
  by_cases c1 : v1 = 10
  · have hf := ifp c1 hf
    refine x_lin (off := 99) (tgt := 100) X c1 dX0_run_1 (by decide) (by decide) (by decide) ?_
    refine lv_iload_n X.1 X.2.1 dX0_run_100 rfl (lv_at hl 2 rfl) ?_
    refine lv_aload_n X.1 X.2.1 dX0_run_101 rfl (lv_at hl 0 rfl) ?_
    obtain ⟨t2, q3, hf⟩ := bnd hf
    refine x_geti fl_X0_19 X M q3 dX0_run_102 ?_
    refine lv_iadd X.1 X.2.1 dX0_run_105 ?_
    obtain ⟨rfl, rfl⟩ := rt2 hf
    exact x_iret X hr hk M dX0_run_106
  have hf := ifn c1 hf
  by_cases c4 : v1 = 11
  · have hf := ifp c4 hf
    refine x_lin (off := 106) (tgt := 107) X c4 dX0_run_1 (by decide) (by decide) (by decide) ?_
    refine lv_aload_n X.1 X.2.1 dX0_run_107 rfl (lv_at hl 0 rfl) ?_
    refine lv_iconst (v := (0 : Int32)) X.1 X.2.1 dX0_run_108 (by decide) ?_
    refine lv_iload_n X.1 X.2.1 dX0_run_109 rfl (lv_at hl 2 rfl) ?_
    refine lv_iload_n X.1 X.2.1 dX0_run_110 rfl (lv_at hl 3 rfl) ?_
    obtain ⟨⟨⟩, q5, hf⟩ := bnd hf
    obtain ⟨t8, h7, q6, hf⟩ := bnd2 hf
    refine x_callVi (As := [.int (0 : Int32), .int v2, .int v3]) cf_X0_28 (c_X0_own l G rc hrc N v0 (0 : Int32) v2 v3 h _ _ q6) rfl ⟨rfl, rfl, by simp only [rm_X0_run, rm_X0_own]; omega, by simp only [rm_X0_run, rm_X0_own]; omega⟩ ⟨Nat.le_of_ble_eq_true rfl, Nat.le_of_ble_eq_true rfl⟩ X M (x_recv cls_X0 X M q5) rfl rfl hl.1 (Nat.le_of_ble_eq_true rfl) dX0_run_111 (fun H locs M => ?_)
    refine lv_aload_n X.1 X.2.1 dX0_run_114 rfl (lv_at hl 0 rfl) ?_
    obtain ⟨t9, q10, hf⟩ := bnd hf
    refine x_geti fl_X0_22 X M q10 dX0_run_115 ?_
    refine lv_isub X.1 X.2.1 dX0_run_118 ?_
    obtain ⟨rfl, rfl⟩ := rt2 hf
    exact x_iret X hr hk M dX0_run_119
  have hf := ifn c4 hf
  by_cases c11 : v1 = 12
  · have hf := ifp c11 hf
    refine x_lin (off := 119) (tgt := 120) X c11 dX0_run_1 (by decide) (by decide) (by decide) ?_
    refine lv_aload_n X.1 X.2.1 dX0_run_120 rfl (lv_at hl 0 rfl) ?_
    refine lv_iconst (v := (1 : Int32)) X.1 X.2.1 dX0_run_121 (by decide) ?_
    refine lv_iload_n X.1 X.2.1 dX0_run_122 rfl (lv_at hl 2 rfl) ?_
    refine lv_iload_n X.1 X.2.1 dX0_run_123 rfl (lv_at hl 3 rfl) ?_
    obtain ⟨⟨⟩, q12, hf⟩ := bnd hf
    obtain ⟨t15, h14, q13, hf⟩ := bnd2 hf
    refine x_callVi (As := [.int (1 : Int32), .int v2, .int v3]) cf_X0_28 (c_X0_own l G rc hrc N v0 (1 : Int32) v2 v3 h _ _ q13) rfl ⟨rfl, rfl, by simp only [rm_X0_run, rm_X0_own]; omega, by simp only [rm_X0_run, rm_X0_own]; omega⟩ ⟨Nat.le_of_ble_eq_true rfl, Nat.le_of_ble_eq_true rfl⟩ X M (x_recv cls_X0 X M q12) rfl rfl hl.1 (Nat.le_of_ble_eq_true rfl) dX0_run_124 (fun H locs M => ?_)
    refine lv_iconst (v := (2 : Int32)) X.1 X.2.1 dX0_run_127 (by decide) ?_
    refine lv_imul X.1 X.2.1 dX0_run_128 ?_
    obtain ⟨rfl, rfl⟩ := rt2 hf
    exact x_iret X hr hk M dX0_run_129
  have hf := ifn c11 hf
  by_cases c16 : v1 = 20
  · have hf := ifp c16 hf
    refine x_lin (off := 129) (tgt := 130) X c16 dX0_run_1 (by decide) (by decide) (by decide) ?_
    refine lv_aload_n X.1 X.2.1 dX0_run_130 rfl (lv_at hl 0 rfl) ?_
    refine lv_iconst (v := (1 : Int32)) X.1 X.2.1 dX0_run_131 (by decide) ?_
    refine lv_iconst (v := (1 : Int32)) X.1 X.2.1 dX0_run_132 (by decide) ?_
    refine lv_iload_n X.1 X.2.1 dX0_run_133 rfl (lv_at hl 2 rfl) ?_
    refine lv_iload_n X.1 X.2.1 dX0_run_134 rfl (lv_at hl 3 rfl) ?_
    obtain ⟨⟨⟩, q17, hf⟩ := bnd hf
    obtain ⟨t20, h19, q18, hf⟩ := bnd2 hf
    refine x_callVi (As := [.int (1 : Int32), .int (1 : Int32), .int v2, .int v3]) cf_X0_45 (c_X0_above l G rc hrc N v0 (1 : Int32) (1 : Int32) v2 v3 h _ _ q18) rfl ⟨rfl, rfl, by simp only [rm_X0_run, rm_X0_above]; omega, by simp only [rm_X0_run, rm_X0_above]; omega⟩ ⟨Nat.le_of_ble_eq_true rfl, Nat.le_of_ble_eq_true rfl⟩ X M (x_recv cls_X0 X M q17) rfl rfl hl.1 (Nat.le_of_ble_eq_true rfl) dX0_run_135 (fun H locs M => ?_)
    refine lv_iconst (v := (5 : Int32)) X.1 X.2.1 dX0_run_138 (by decide) ?_
    refine lv_ixor X.1 X.2.1 dX0_run_139 ?_
    obtain ⟨rfl, rfl⟩ := rt2 hf
    exact x_iret X hr hk M dX0_run_140
  have hf := ifn c16 hf
  by_cases c21 : v1 = 30
  · have hf := ifp c21 hf
    refine x_lin (off := 140) (tgt := 141) X c21 dX0_run_1 (by decide) (by decide) (by decide) ?_
    refine lv_aload_n X.1 X.2.1 dX0_run_141 rfl (lv_at hl 0 rfl) ?_
    refine lv_iconst (v := (2 : Int32)) X.1 X.2.1 dX0_run_142 (by decide) ?_
    refine lv_iconst (v := (0 : Int32)) X.1 X.2.1 dX0_run_143 (by decide) ?_
    refine lv_iload_n X.1 X.2.1 dX0_run_144 rfl (lv_at hl 2 rfl) ?_
    refine lv_iconst (v := (3 : Int32)) X.1 X.2.1 dX0_run_145 (by decide) ?_
    refine lv_imul X.1 X.2.1 dX0_run_146 ?_
    refine lv_iload_n X.1 X.2.1 dX0_run_147 rfl (lv_at hl 3 rfl) ?_
    obtain ⟨⟨⟩, q22, hf⟩ := bnd hf
    obtain ⟨t25, h24, q23, hf⟩ := bnd2 hf
    refine x_callVi (As := [.int (2 : Int32), .int (0 : Int32), .int (v2 * (3 : Int32)), .int v3]) cf_X0_45 (c_X0_above l G rc hrc N v0 (2 : Int32) (0 : Int32) (v2 * (3 : Int32)) v3 h _ _ q23) rfl ⟨rfl, rfl, by simp only [rm_X0_run, rm_X0_above]; omega, by simp only [rm_X0_run, rm_X0_above]; omega⟩ ⟨Nat.le_of_ble_eq_true rfl, Nat.le_of_ble_eq_true rfl⟩ X M (x_recv cls_X0 X M q22) rfl rfl hl.1 (Nat.le_of_ble_eq_true rfl) dX0_run_148 (fun H locs M => ?_)
    obtain ⟨rfl, rfl⟩ := rt2 hf
    exact x_iret X hr hk M dX0_run_151
  have hf := ifn c21 hf
  by_cases c26 : v1 = 31
  · have hf := ifp c26 hf
    refine x_lin (off := 151) (tgt := 152) X c26 dX0_run_1 (by decide) (by decide) (by decide) ?_
    refine lv_aload_n X.1 X.2.1 dX0_run_152 rfl (lv_at hl 0 rfl) ?_
    refine lv_iconst (v := (2 : Int32)) X.1 X.2.1 dX0_run_153 (by decide) ?_
    refine lv_iconst (v := (2 : Int32)) X.1 X.2.1 dX0_run_154 (by decide) ?_
    refine lv_iload_n X.1 X.2.1 dX0_run_155 rfl (lv_at hl 2 rfl) ?_
    refine lv_iload_n X.1 X.2.1 dX0_run_156 rfl (lv_at hl 3 rfl) ?_
    obtain ⟨⟨⟩, q27, hf⟩ := bnd hf
    obtain ⟨t30, h29, q28, hf⟩ := bnd2 hf
    refine x_callVi (As := [.int (2 : Int32), .int (2 : Int32), .int v2, .int v3]) cf_X0_45 (c_X0_above l G rc hrc N v0 (2 : Int32) (2 : Int32) v2 v3 h _ _ q28) rfl ⟨rfl, rfl, by simp only [rm_X0_run, rm_X0_above]; omega, by simp only [rm_X0_run, rm_X0_above]; omega⟩ ⟨Nat.le_of_ble_eq_true rfl, Nat.le_of_ble_eq_true rfl⟩ X M (x_recv cls_X0 X M q27) rfl rfl hl.1 (Nat.le_of_ble_eq_true rfl) dX0_run_157 (fun H locs M => ?_)
    refine lv_aload_n X.1 X.2.1 dX0_run_160 rfl (lv_at hl 0 rfl) ?_
    refine lv_iconst (v := (1 : Int32)) X.1 X.2.1 dX0_run_161 (by decide) ?_
    refine lv_iconst (v := (1 : Int32)) X.1 X.2.1 dX0_run_162 (by decide) ?_
    refine lv_iload_n X.1 X.2.1 dX0_run_163 rfl (lv_at hl 3 rfl) ?_
    obtain ⟨⟨⟩, q31, hf⟩ := bnd hf
    obtain ⟨t34, h33, q32, hf⟩ := bnd2 hf
    refine x_callVi (As := [.int (1 : Int32), .int (1 : Int32), .int v3]) cf_X0_28 (c_X0_own l G rc hrc N v0 (1 : Int32) (1 : Int32) v3 h29 _ _ q32) rfl ⟨rfl, rfl, by simp only [rm_X0_run, rm_X0_own]; omega, by simp only [rm_X0_run, rm_X0_own]; omega⟩ ⟨Nat.le_of_ble_eq_true rfl, Nat.le_of_ble_eq_true rfl⟩ X M (x_recv cls_X0 X M q31) rfl rfl hl.1 (Nat.le_of_ble_eq_true rfl) dX0_run_164 (fun H locs M => ?_)
    refine lv_iadd X.1 X.2.1 dX0_run_167 ?_
    obtain ⟨rfl, rfl⟩ := rt2 hf
    exact x_iret X hr hk M dX0_run_168
  have hf := ifn c26 hf
  by_cases c35 : v1 = 40
  · have hf := ifp c35 hf
    refine x_lin (off := 168) (tgt := 169) X c35 dX0_run_1 (by decide) (by decide) (by decide) ?_
    refine lv_aload_n X.1 X.2.1 dX0_run_169 rfl (lv_at hl 0 rfl) ?_
    refine lv_iconst (v := (3 : Int32)) X.1 X.2.1 dX0_run_170 (by decide) ?_
    refine lv_iconst (v := (0 : Int32)) X.1 X.2.1 dX0_run_171 (by decide) ?_
    refine lv_iload_n X.1 X.2.1 dX0_run_172 rfl (lv_at hl 2 rfl) ?_
    refine lv_iload_n X.1 X.2.1 dX0_run_173 rfl (lv_at hl 3 rfl) ?_
    obtain ⟨⟨⟩, q36, hf⟩ := bnd hf
    obtain ⟨t39, h38, q37, hf⟩ := bnd2 hf
    refine x_callVi (As := [.int (3 : Int32), .int (0 : Int32), .int v2, .int v3]) cf_X0_45 (c_X0_above l G rc hrc N v0 (3 : Int32) (0 : Int32) v2 v3 h _ _ q37) rfl ⟨rfl, rfl, by simp only [rm_X0_run, rm_X0_above]; omega, by simp only [rm_X0_run, rm_X0_above]; omega⟩ ⟨Nat.le_of_ble_eq_true rfl, Nat.le_of_ble_eq_true rfl⟩ X M (x_recv cls_X0 X M q36) rfl rfl hl.1 (Nat.le_of_ble_eq_true rfl) dX0_run_174 (fun H locs M => ?_)
    refine lv_ineg X.1 X.2.1 dX0_run_177 ?_
    obtain ⟨rfl, rfl⟩ := rt2 hf
    exact x_iret X hr hk M dX0_run_178
  have hf := ifn c35 hf
  by_cases c40 : v1 = 50
  · have hf := ifp c40 hf
    refine x_lin (off := 178) (tgt := 179) X c40 dX0_run_1 (by decide) (by decide) (by decide) ?_
    refine lv_aload_n X.1 X.2.1 dX0_run_179 rfl (lv_at hl 0 rfl) ?_
    refine lv_iconst (v := (4 : Int32)) X.1 X.2.1 dX0_run_180 (by decide) ?_
    refine lv_iconst (v := (2 : Int32)) X.1 X.2.1 dX0_run_181 (by decide) ?_
    refine lv_iload_n X.1 X.2.1 dX0_run_182 rfl (lv_at hl 2 rfl) ?_
    refine lv_aload_n X.1 X.2.1 dX0_run_183 rfl (lv_at hl 0 rfl) ?_
    obtain ⟨t41, q42, hf⟩ := bnd hf
    refine x_geti fl_X0_19 X M q42 dX0_run_184 ?_
    refine lv_isub X.1 X.2.1 dX0_run_187 ?_
    refine lv_iload_n X.1 X.2.1 dX0_run_188 rfl (lv_at hl 3 rfl) ?_
    obtain ⟨⟨⟩, q43, hf⟩ := bnd hf
    obtain ⟨t46, h45, q44, hf⟩ := bnd2 hf
    refine x_callVi (As := [.int (4 : Int32), .int (2 : Int32), .int (v2 - t41), .int v3]) cf_X0_45 (c_X0_above l G rc hrc N v0 (4 : Int32) (2 : Int32) (v2 - t41) v3 h _ _ q44) rfl ⟨rfl, rfl, by simp only [rm_X0_run, rm_X0_above]; omega, by simp only [rm_X0_run, rm_X0_above]; omega⟩ ⟨Nat.le_of_ble_eq_true rfl, Nat.le_of_ble_eq_true rfl⟩ X M (x_recv cls_X0 X M q43) rfl rfl hl.1 (Nat.le_of_ble_eq_true rfl) dX0_run_189 (fun H locs M => ?_)
    obtain ⟨rfl, rfl⟩ := rt2 hf
    exact x_iret X hr hk M dX0_run_192
  have hf := ifn c40 hf
  by_cases c47 : v1 = 51
  · have hf := ifp c47 hf
    refine x_lin (off := 192) (tgt := 193) X c47 dX0_run_1 (by decide) (by decide) (by decide) ?_
    refine lv_aload_n X.1 X.2.1 dX0_run_193 rfl (lv_at hl 0 rfl) ?_
    refine lv_iconst (v := (4 : Int32)) X.1 X.2.1 dX0_run_194 (by decide) ?_
    refine lv_iconst (v := (1 : Int32)) X.1 X.2.1 dX0_run_195 (by decide) ?_
    refine lv_iload_n X.1 X.2.1 dX0_run_196 rfl (lv_at hl 2 rfl) ?_
    refine lv_iload_n X.1 X.2.1 dX0_run_197 rfl (lv_at hl 3 rfl) ?_
    obtain ⟨⟨⟩, q48, hf⟩ := bnd hf
    obtain ⟨t51, h50, q49, hf⟩ := bnd2 hf
    refine x_callVi (As := [.int (4 : Int32), .int (1 : Int32), .int v2, .int v3]) cf_X0_45 (c_X0_above l G rc hrc N v0 (4 : Int32) (1 : Int32) v2 v3 h _ _ q49) rfl ⟨rfl, rfl, by simp only [rm_X0_run, rm_X0_above]; omega, by simp only [rm_X0_run, rm_X0_above]; omega⟩ ⟨Nat.le_of_ble_eq_true rfl, Nat.le_of_ble_eq_true rfl⟩ X M (x_recv cls_X0 X M q48) rfl rfl hl.1 (Nat.le_of_ble_eq_true rfl) dX0_run_198 (fun H locs M => ?_)
    refine lv_aload_n X.1 X.2.1 dX0_run_201 rfl (lv_at hl 0 rfl) ?_
    refine lv_iconst (v := (4 : Int32)) X.1 X.2.1 dX0_run_202 (by decide) ?_
    refine lv_iconst (v := (0 : Int32)) X.1 X.2.1 dX0_run_203 (by decide) ?_
    refine lv_iconst (v := (2 : Int32)) X.1 X.2.1 dX0_run_204 (by decide) ?_
    refine lv_iload_n X.1 X.2.1 dX0_run_205 rfl (lv_at hl 3 rfl) ?_
    obtain ⟨⟨⟩, q52, hf⟩ := bnd hf
    obtain ⟨t55, h54, q53, hf⟩ := bnd2 hf
    refine x_callVi (As := [.int (4 : Int32), .int (0 : Int32), .int (2 : Int32), .int v3]) cf_X0_45 (c_X0_above l G rc hrc N v0 (4 : Int32) (0 : Int32) (2 : Int32) v3 h50 _ _ q53) rfl ⟨rfl, rfl, by simp only [rm_X0_run, rm_X0_above]; omega, by simp only [rm_X0_run, rm_X0_above]; omega⟩ ⟨Nat.le_of_ble_eq_true rfl, Nat.le_of_ble_eq_true rfl⟩ X M (x_recv cls_X0 X M q52) rfl rfl hl.1 (Nat.le_of_ble_eq_true rfl) dX0_run_206 (fun H locs M => ?_)
    refine lv_iadd X.1 X.2.1 dX0_run_209 ?_
    obtain ⟨rfl, rfl⟩ := rt2 hf
    exact x_iret X hr hk M dX0_run_210
  have hf := ifn c47 hf
  by_cases c56 : v1 = 60
  · have hf := ifp c56 hf
    refine x_lin (off := 210) (tgt := 211) X c56 dX0_run_1 (by decide) (by decide) (by decide) ?_
    refine lv_aload_n X.1 X.2.1 dX0_run_211 rfl (lv_at hl 0 rfl) ?_
    refine lv_iconst (v := (5 : Int32)) X.1 X.2.1 dX0_run_212 (by decide) ?_
    refine lv_iconst (v := (1 : Int32)) X.1 X.2.1 dX0_run_213 (by decide) ?_
    refine lv_iload_n X.1 X.2.1 dX0_run_214 rfl (lv_at hl 2 rfl) ?_
    refine lv_aload_n X.1 X.2.1 dX0_run_215 rfl (lv_at hl 0 rfl) ?_
    obtain ⟨t57, q58, hf⟩ := bnd hf
    refine x_geti fl_X0_22 X M q58 dX0_run_216 ?_
    refine lv_iadd X.1 X.2.1 dX0_run_219 ?_
    refine lv_iload_n X.1 X.2.1 dX0_run_220 rfl (lv_at hl 3 rfl) ?_
    obtain ⟨⟨⟩, q59, hf⟩ := bnd hf
    obtain ⟨t62, h61, q60, hf⟩ := bnd2 hf
    refine x_callVi (As := [.int (5 : Int32), .int (1 : Int32), .int (v2 + t57), .int v3]) cf_X0_45 (c_X0_above l G rc hrc N v0 (5 : Int32) (1 : Int32) (v2 + t57) v3 h _ _ q60) rfl ⟨rfl, rfl, by simp only [rm_X0_run, rm_X0_above]; omega, by simp only [rm_X0_run, rm_X0_above]; omega⟩ ⟨Nat.le_of_ble_eq_true rfl, Nat.le_of_ble_eq_true rfl⟩ X M (x_recv cls_X0 X M q59) rfl rfl hl.1 (Nat.le_of_ble_eq_true rfl) dX0_run_221 (fun H locs M => ?_)
    obtain ⟨rfl, rfl⟩ := rt2 hf
    exact x_iret X hr hk M dX0_run_224
  have hf := ifn c56 hf
  by_cases c63 : v1 = 61
  · have hf := ifp c63 hf
    refine x_lin (off := 224) (tgt := 225) X c63 dX0_run_1 (by decide) (by decide) (by decide) ?_
    refine lv_aload_n X.1 X.2.1 dX0_run_225 rfl (lv_at hl 0 rfl) ?_
    refine lv_iconst (v := (0 : Int32)) X.1 X.2.1 dX0_run_226 (by decide) ?_
    refine lv_iload_n X.1 X.2.1 dX0_run_227 rfl (lv_at hl 2 rfl) ?_
    refine lv_iload_n X.1 X.2.1 dX0_run_228 rfl (lv_at hl 3 rfl) ?_
    obtain ⟨⟨⟩, q64, hf⟩ := bnd hf
    obtain ⟨t67, h66, q65, hf⟩ := bnd2 hf
    refine x_callVi (As := [.int (0 : Int32), .int v2, .int v3]) cf_X0_28 (c_X0_own l G rc hrc N v0 (0 : Int32) v2 v3 h _ _ q65) rfl ⟨rfl, rfl, by simp only [rm_X0_run, rm_X0_own]; omega, by simp only [rm_X0_run, rm_X0_own]; omega⟩ ⟨Nat.le_of_ble_eq_true rfl, Nat.le_of_ble_eq_true rfl⟩ X M (x_recv cls_X0 X M q64) rfl rfl hl.1 (Nat.le_of_ble_eq_true rfl) dX0_run_229 (fun H locs M => ?_)
    refine lv_aload_n X.1 X.2.1 dX0_run_232 rfl (lv_at hl 0 rfl) ?_
    refine lv_iconst (v := (5 : Int32)) X.1 X.2.1 dX0_run_233 (by decide) ?_
    refine lv_iconst (v := (2 : Int32)) X.1 X.2.1 dX0_run_234 (by decide) ?_
    refine lv_iload_n X.1 X.2.1 dX0_run_235 rfl (lv_at hl 2 rfl) ?_
    refine lv_iload_n X.1 X.2.1 dX0_run_236 rfl (lv_at hl 3 rfl) ?_
    obtain ⟨⟨⟩, q68, hf⟩ := bnd hf
    obtain ⟨t71, h70, q69, hf⟩ := bnd2 hf
    refine x_callVi (As := [.int (5 : Int32), .int (2 : Int32), .int v2, .int v3]) cf_X0_45 (c_X0_above l G rc hrc N v0 (5 : Int32) (2 : Int32) v2 v3 h66 _ _ q69) rfl ⟨rfl, rfl, by simp only [rm_X0_run, rm_X0_above]; omega, by simp only [rm_X0_run, rm_X0_above]; omega⟩ ⟨Nat.le_of_ble_eq_true rfl, Nat.le_of_ble_eq_true rfl⟩ X M (x_recv cls_X0 X M q68) rfl rfl hl.1 (Nat.le_of_ble_eq_true rfl) dX0_run_237 (fun H locs M => ?_)
    refine lv_isub X.1 X.2.1 dX0_run_240 ?_
    obtain ⟨rfl, rfl⟩ := rt2 hf
    exact x_iret X hr hk M dX0_run_241
  have hf := ifn c63 hf
  refine lv_lookup (off := 241) (tgt := 242) X.1 X.2.1 dX0_run_1 (by decide) ((lv_osw c1 rfl).trans ((lv_osw c4 rfl).trans ((lv_osw c11 rfl).trans ((lv_osw c16 rfl).trans ((lv_osw c21 rfl).trans ((lv_osw c26 rfl).trans ((lv_osw c35 rfl).trans ((lv_osw c40 rfl).trans ((lv_osw c47 rfl).trans ((lv_osw c56 rfl).trans ((lv_osw c63 rfl).trans (rfl)))))))))))) (by decide) ?_
  refine lv_iconst (v := (0 : Int32)) X.1 X.2.1 dX0_run_242 (by decide) ?_
  obtain ⟨rfl, rfl⟩ := rt2 hf
  exact x_iret X hr hk M dX0_run_243
theorem c_X0_run (l : Launch) (G : Gx) {d : Nat} (rc : Nat → Int32 → Int32 → Int32 → Mem → Option (Int32 × Mem)) (hrc : ∀ (a0 : Nat) (a1 : Int32) (a2 : Int32) (a3 : Int32) (h : Mem) (r : Int32) (h' : Mem), rc a0 a1 a2 a3 h = some (r, h') → MetG l G yX0_run (.code yX0_run cX0_run 4 (Option.some Jvm.ClassFile.FieldType.int)) (rmR_X0_run d) [.ref (gB G + a0), .int a1, .int a2, .int a3] h (QcI G r h') 0 0) (N : Nat) (v0 : Nat) (v1 : Int32) (v2 : Int32) (v3 : Int32) (h : Mem) (r : Int32) (h' : Mem) (hf : f_X0_run rc N v0 v1 v2 v3 h = some (r, h')) : MetG l G yX0_run (.code yX0_run cX0_run 4 (Option.some Jvm.ClassFile.FieldType.int)) (rm_X0_run d) [.ref (gB G + v0), .int v1, .int v2, .int v3] h (QcI G r h') 0 0 :=
  x_met (by decide) rfl (Nat.le_of_ble_eq_true rfl) (fun p e s m args below meth c ls X M hr hk hin hl => w_X0_run X hr hk rc hrc N v0 v1 v2 v3 h hf _ _ ls M hl)
def FD_X0_run (N : Nat) : Nat → Nat → Int32 → Int32 → Int32 → Mem → Option (Int32 × Mem)
  | 0 => fun _ _ _ _ _ => none
  | d + 1 => fun v0 v1 v2 v3 h => f_X0_run (FD_X0_run N d) N v0 v1 v2 v3 h
theorem CD_X0_run (l : Launch) (G : Gx) (N : Nat) : ∀ (d : Nat) (v0 : Nat) (v1 : Int32) (v2 : Int32) (v3 : Int32) (h : Mem) (r : Int32) (h' : Mem), FD_X0_run N d v0 v1 v2 v3 h = some (r, h') → MetG l G yX0_run (.code yX0_run cX0_run 4 (Option.some Jvm.ClassFile.FieldType.int)) (rmR_X0_run d) [.ref (gB G + v0), .int v1, .int v2, .int v3] h (QcI G r h') 0 0 := by
  intro d
  induction d with
  | zero => intro v0 v1 v2 v3 h r h' hf; cases hf
  | succ d ih =>
    intro v0 v1 v2 v3 h r h' hf
    have hh := c_X0_run l G (d := d) (FD_X0_run N d) ih N v0 v1 v2 v3 h r h' hf
    have e : rm_X0_run d = rmR_X0_run (d + 1) := by simp only [rm_X0_run, rmR_X0_run]; congr 1; all_goals omega
    rw [← e]
    exact hh
def F_X0_from (N : Nat) (v0 : Nat) (v1 : Int32) (v2 : Int32) (v3 : Int32) (v4 : Int32) (h : Mem) : Option (Int32 × Mem) := f_X0_from (FD_X0_run N 20) N v0 v1 v2 v3 v4 h
theorem C_X0_from (l : Launch) (G : Gx) (N : Nat) (v0 : Nat) (v1 : Int32) (v2 : Int32) (v3 : Int32) (v4 : Int32) (h : Mem) (r : Int32) (h' : Mem) (hf : F_X0_from N v0 v1 v2 v3 v4 h = some (r, h')) : MetG l G yX0_from (.code yX0_from cX0_from 7 (Option.some Jvm.ClassFile.FieldType.int)) (rm_X0_from 20) [.ref (gB G + v0), .int v1, .int v2, .int v3, .int v4] h (QcI G r h') 0 0 := c_X0_from l G (d := 20) (FD_X0_run N 20) (CD_X0_run l G N 20) N v0 v1 v2 v3 v4 h r h' hf
def F_X0_own (N : Nat) (v0 : Nat) (v1 : Int32) (v2 : Int32) (v3 : Int32) (h : Mem) : Option (Int32 × Mem) := f_X0_own (FD_X0_run N 20) N v0 v1 v2 v3 h
theorem C_X0_own (l : Launch) (G : Gx) (N : Nat) (v0 : Nat) (v1 : Int32) (v2 : Int32) (v3 : Int32) (h : Mem) (r : Int32) (h' : Mem) (hf : F_X0_own N v0 v1 v2 v3 h = some (r, h')) : MetG l G yX0_own (.code yX0_own cX0_own 4 (Option.some Jvm.ClassFile.FieldType.int)) (rm_X0_own 20) [.ref (gB G + v0), .int v1, .int v2, .int v3] h (QcI G r h') 0 0 := c_X0_own l G (d := 20) (FD_X0_run N 20) (CD_X0_run l G N 20) N v0 v1 v2 v3 h r h' hf
def F_X0_above (N : Nat) (v0 : Nat) (v1 : Int32) (v2 : Int32) (v3 : Int32) (v4 : Int32) (h : Mem) : Option (Int32 × Mem) := f_X0_above (FD_X0_run N 20) N v0 v1 v2 v3 v4 h
theorem C_X0_above (l : Launch) (G : Gx) (N : Nat) (v0 : Nat) (v1 : Int32) (v2 : Int32) (v3 : Int32) (v4 : Int32) (h : Mem) (r : Int32) (h' : Mem) (hf : F_X0_above N v0 v1 v2 v3 v4 h = some (r, h')) : MetG l G yX0_above (.code yX0_above cX0_above 5 (Option.some Jvm.ClassFile.FieldType.int)) (rm_X0_above 20) [.ref (gB G + v0), .int v1, .int v2, .int v3, .int v4] h (QcI G r h') 0 0 := c_X0_above l G (d := 20) (FD_X0_run N 20) (CD_X0_run l G N 20) N v0 v1 v2 v3 v4 h r h' hf
def F_X0_run (N : Nat) (v0 : Nat) (v1 : Int32) (v2 : Int32) (v3 : Int32) (h : Mem) : Option (Int32 × Mem) := f_X0_run (FD_X0_run N 20) N v0 v1 v2 v3 h
theorem C_X0_run (l : Launch) (G : Gx) (N : Nat) (v0 : Nat) (v1 : Int32) (v2 : Int32) (v3 : Int32) (h : Mem) (r : Int32) (h' : Mem) (hf : F_X0_run N v0 v1 v2 v3 h = some (r, h')) : MetG l G yX0_run (.code yX0_run cX0_run 4 (Option.some Jvm.ClassFile.FieldType.int)) (rm_X0_run 20) [.ref (gB G + v0), .int v1, .int v2, .int v3] h (QcI G r h') 0 0 := c_X0_run l G (d := 20) (FD_X0_run N 20) (CD_X0_run l G N 20) N v0 v1 v2 v3 h r h' hf
abbrev rm_X0_done : Room := { frames := 64, cells := 0, slots := 0, locals := 2047 }
def f_X0_done (N : Nat) (v0 : Nat) (v1 : Int32) (v2 : Int32) (v3 : Int32) (h : Mem) : Option (Int32 × Mem) :=
  (sI h v0 0 2 v1).bind fun h1 =>
  (ck h1 v0 0).bind fun _ =>
  b2 (F_X0_own N v0 v2 v3 (0 : Int32) h1) fun t6 h5 =>
  some (t6, h5)
set_option maxRecDepth 100000 in
set_option maxHeartbeats 4000000 in
theorem w_X0_done {p : Program} {l : Launch} {e : Env} {s : State} {m : MethodId} {args : Array Value} {below : List Frame} {meth : Method} {c : Code} {G : Gx} {r : Int32} {h' : Mem} (X : CX G p s m args c cX0_done 4 RX0) (hr : meth.sig.returnType = (Option.some Jvm.ClassFile.FieldType.int)) (hk : meth.locks = false) (N : Nat) : ∀ (v0 : Nat) (v1 : Int32) (v2 : Int32) (v3 : Int32) (h : Mem), f_X0_done N v0 v1 v2 v3 h = some (r, h') → ∀ (H : Heap) (locs : List Loc) (ls : Array Slot), MS G s h H locs 0 → lv_has ls 4 [(0, .ref (gB G + v0)), (1, .int v1), (2, .int v2), (3, .int v3)] → W p l e (rm_X0_done) s m args below meth c H locs 0 0 (QI G below args s r h' 0 0) (F0 m 0 ls []) := by
  intro v0 v1 v2 v3 h hf H locs ls M hl
  rw [f_X0_done] at hf
  refine lv_aload_n X.1 X.2.1 dX0_done_0 rfl (lv_at hl 0 rfl) ?_
  refine lv_iload_n X.1 X.2.1 dX0_done_1 rfl (lv_at hl 1 rfl) ?_
  obtain ⟨h1, q2, hf⟩ := bnd hf
  refine x_puti fl_X0_25 fp_X0_25.1 fp_X0_25.2 X M q2 dX0_done_2 (fun H locs M => ?_)
  refine lv_aload_n X.1 X.2.1 dX0_done_5 rfl (lv_at hl 0 rfl) ?_
  refine lv_iload_n X.1 X.2.1 dX0_done_6 rfl (lv_at hl 2 rfl) ?_
  refine lv_iload_n X.1 X.2.1 dX0_done_7 rfl (lv_at hl 3 rfl) ?_
  refine lv_iconst (v := (0 : Int32)) X.1 X.2.1 dX0_done_8 (by decide) ?_
  obtain ⟨⟨⟩, q3, hf⟩ := bnd hf
  obtain ⟨t6, h5, q4, hf⟩ := bnd2 hf
  refine x_callVi (As := [.int v2, .int v3, .int (0 : Int32)]) cf_X0_28 (C_X0_own l G N v0 v2 v3 (0 : Int32) h1 _ _ q4) rfl ⟨rfl, rfl, Nat.le_of_ble_eq_true rfl, Nat.le_of_ble_eq_true rfl⟩ ⟨Nat.le_of_ble_eq_true rfl, Nat.le_of_ble_eq_true rfl⟩ X M (x_recv cls_X0 X M q3) rfl rfl hl.1 (Nat.le_of_ble_eq_true rfl) dX0_done_9 (fun H locs M => ?_)
  obtain ⟨rfl, rfl⟩ := rt2 hf
  exact x_iret X hr hk M dX0_done_12
theorem c_X0_done (l : Launch) (G : Gx) (N : Nat) (v0 : Nat) (v1 : Int32) (v2 : Int32) (v3 : Int32) (h : Mem) (r : Int32) (h' : Mem) (hf : f_X0_done N v0 v1 v2 v3 h = some (r, h')) : MetG l G yX0_done (.code yX0_done cX0_done 4 (Option.some Jvm.ClassFile.FieldType.int)) rm_X0_done [.ref (gB G + v0), .int v1, .int v2, .int v3] h (QcI G r h') 0 0 :=
  x_met (by decide) rfl (Nat.le_of_ble_eq_true rfl) (fun p e s m args below meth c ls X M hr hk hin hl => w_X0_done X hr hk N v0 v1 v2 v3 h hf _ _ ls M hl)
