abbrev rm_X10_taken : Room := { frames := 2, cells := 0, slots := 0, locals := 63 }
def f_X10_taken_45 (N : Nat) (v1 : Int32) (v2 : Int32) (h : Mem) (k55 : Int32 → Mem → Option (Int32 × Mem)) : Option (Int32 × Mem) :=
  if v2 = (2 : Int32) then
    if v1 = (4 : Int32) then
      k55 v1 h
    else
      some ((-12 : Int32), h)
  else
    some ((-12 : Int32), h)
set_option maxRecDepth 100000 in
set_option maxHeartbeats 4000000 in
theorem w_X10_taken_45 {p : Program} {l : Launch} {e : Env} {s : State} {m : MethodId} {args : Array Value} {below : List Frame} {meth : Method} {c : Code} {G : Gx} {r : Int32} {h' : Mem} (X : CX G p s m args c cX10_taken 3 RX10) (hr : meth.sig.returnType = (Option.some Jvm.ClassFile.FieldType.int)) (hk : meth.locks = false) (N : Nat) (k55 : Int32 → Mem → Option (Int32 × Mem)) (K55 : ∀ (v1 : Int32) (h : Mem), k55 v1 h = some (r, h') → ∀ (H : Heap) (locs : List Loc) (ls : Array Slot), MS G s h H locs 0 → lv_has ls 3 [(1, .int v1)] → W p l e (rm_X10_taken) s m args below meth c H locs 0 0 (QI G below args s r h' 0 0) (F0 m 55 ls [])) : ∀ (v1 : Int32) (v2 : Int32) (h : Mem), f_X10_taken_45 N v1 v2 h k55 = some (r, h') → ∀ (H : Heap) (locs : List Loc) (ls : Array Slot), MS G s h H locs 0 → lv_has ls 3 [(1, .int v1), (2, .int v2)] → W p l e (rm_X10_taken) s m args below meth c H locs 0 0 (QI G below args s r h' 0 0) (F0 m 45 ls []) := by
  intro v1 v2 h hf H locs ls M hl
  rw [f_X10_taken_45] at hf
  refine lv_iload_n X.1 X.2.1 dX10_taken_45 rfl (lv_at hl 1 rfl) ?_
  refine lv_iconst (v := (2 : Int32)) X.1 X.2.1 dX10_taken_46 (by decide) ?_
  refine lv_icmp_ne (tgt := 59) X.1 X.2.1 dX10_taken_47 (by decide) (fun c1 => ?_) (fun c1 => ?_)
  · have hf := ifn c1 hf
    refine lv_bipush (v := (-12 : Int32)) X.1 X.2.1 dX10_taken_59 (by decide) ?_
    obtain ⟨rfl, rfl⟩ := rt2 hf
    exact x_iret X hr hk M dX10_taken_61
  · have hf := ifp c1 hf
    refine lv_iload_n X.1 X.2.1 dX10_taken_50 rfl (lv_at hl 0 rfl) ?_
    refine lv_iconst (v := (4 : Int32)) X.1 X.2.1 dX10_taken_51 (by decide) ?_
    refine lv_icmp_ne (tgt := 59) X.1 X.2.1 dX10_taken_52 (by decide) (fun c2 => ?_) (fun c2 => ?_)
    · have hf := ifn c2 hf
      refine lv_bipush (v := (-12 : Int32)) X.1 X.2.1 dX10_taken_59 (by decide) ?_
      obtain ⟨rfl, rfl⟩ := rt2 hf
      exact x_iret X hr hk M dX10_taken_61
    · have hf := ifp c2 hf
      exact K55 v1 h hf _ _ _ M (lv_sub hl [0] rfl)
def f_X10_taken_55 (N : Nat) (v1 : Int32) (h : Mem) : Option (Int32 × Mem) :=
  some (v1, h)
set_option maxRecDepth 100000 in
set_option maxHeartbeats 4000000 in
theorem w_X10_taken_55 {p : Program} {l : Launch} {e : Env} {s : State} {m : MethodId} {args : Array Value} {below : List Frame} {meth : Method} {c : Code} {G : Gx} {r : Int32} {h' : Mem} (X : CX G p s m args c cX10_taken 3 RX10) (hr : meth.sig.returnType = (Option.some Jvm.ClassFile.FieldType.int)) (hk : meth.locks = false) (N : Nat) : ∀ (v1 : Int32) (h : Mem), f_X10_taken_55 N v1 h = some (r, h') → ∀ (H : Heap) (locs : List Loc) (ls : Array Slot), MS G s h H locs 0 → lv_has ls 3 [(1, .int v1)] → W p l e (rm_X10_taken) s m args below meth c H locs 0 0 (QI G below args s r h' 0 0) (F0 m 55 ls []) := by
  intro v1 h hf H locs ls M hl
  rw [f_X10_taken_55] at hf
  refine lv_iload_n X.1 X.2.1 dX10_taken_55 rfl (lv_at hl 0 rfl) ?_
  refine lv_goto (tgt := 61) X.1 X.2.1 dX10_taken_56 (by decide) ?_
  obtain ⟨rfl, rfl⟩ := rt2 hf
  exact x_iret X hr hk M dX10_taken_61
def f_X10_taken (N : Nat) (v0 : Nat) (v1 : Int32) (v2 : Int32) (h : Mem) : Option (Int32 × Mem) :=
  (ck h v0 10).bind fun _ =>
  b2 (f_X10_in N v0 v2 (0 : Int32) (5 : Int32) h) fun t4 h3 =>
  if t4 = 0 then
    some ((-2 : Int32), h3)
  else
    (ck h3 v0 10).bind fun _ =>
    b2 (f_X10_in N v0 v1 (0 : Int32) (5 : Int32) h3) fun t9 h8 =>
    if t9 = 0 then
      some ((-11 : Int32), h8)
    else
      if v2 = 0 then
        f_X10_taken_55 N v1 h8
      else
        if v1 = v2 then
          f_X10_taken_55 N v1 h8
        else
          if v2 = (1 : Int32) then
            if (1 : Int32) < v1 then
              f_X10_taken_55 N v1 h8
            else
              f_X10_taken_45 N v1 v2 h8 (fun v1 h => f_X10_taken_55 N v1 h)
          else
            f_X10_taken_45 N v1 v2 h8 (fun v1 h => f_X10_taken_55 N v1 h)
set_option maxRecDepth 100000 in
set_option maxHeartbeats 4000000 in
theorem w_X10_taken {p : Program} {l : Launch} {e : Env} {s : State} {m : MethodId} {args : Array Value} {below : List Frame} {meth : Method} {c : Code} {G : Gx} {r : Int32} {h' : Mem} (X : CX G p s m args c cX10_taken 3 RX10) (hr : meth.sig.returnType = (Option.some Jvm.ClassFile.FieldType.int)) (hk : meth.locks = false) (N : Nat) : ∀ (v0 : Nat) (v1 : Int32) (v2 : Int32) (h : Mem), f_X10_taken N v0 v1 v2 h = some (r, h') → ∀ (H : Heap) (locs : List Loc) (ls : Array Slot), MS G s h H locs 0 → lv_has ls 3 [(0, .ref (gB G + v0)), (1, .int v1), (2, .int v2)] → W p l e (rm_X10_taken) s m args below meth c H locs 0 0 (QI G below args s r h' 0 0) (F0 m 0 ls []) := by
  intro v0 v1 v2 h hf H locs ls M hl
  rw [f_X10_taken] at hf
  refine lv_aload_n X.1 X.2.1 dX10_taken_0 rfl (lv_at hl 0 rfl) ?_
  refine lv_iload_n X.1 X.2.1 dX10_taken_1 rfl (lv_at hl 2 rfl) ?_
  refine lv_iconst (v := (0 : Int32)) X.1 X.2.1 dX10_taken_2 (by decide) ?_
  refine lv_iconst (v := (5 : Int32)) X.1 X.2.1 dX10_taken_3 (by decide) ?_
  obtain ⟨⟨⟩, q1, hf⟩ := bnd hf
  obtain ⟨t4, h3, q2, hf⟩ := bnd2 hf
  refine x_callVi (As := [.int v2, .int (0 : Int32), .int (5 : Int32)]) cf_X10_197 (c_X10_in l G N v0 v2 (0 : Int32) (5 : Int32) h _ _ q2) rfl ⟨rfl, rfl, Nat.le_of_ble_eq_true rfl, Nat.le_of_ble_eq_true rfl⟩ ⟨Nat.le_of_ble_eq_true rfl, Nat.le_of_ble_eq_true rfl⟩ X M (x_recv cls_X10 X M q1) rfl rfl hl.1 (Nat.le_of_ble_eq_true rfl) dX10_taken_4 (fun H locs M => ?_)
  refine lv_if_ne (tgt := 13) X.1 X.2.1 dX10_taken_7 (by decide) (fun c5 => ?_) (fun c5 => ?_)
  · have hf := ifn c5 hf
    refine lv_aload_n X.1 X.2.1 dX10_taken_13 rfl (lv_at hl 0 rfl) ?_
    refine lv_iload_n X.1 X.2.1 dX10_taken_14 rfl (lv_at hl 1 rfl) ?_
    refine lv_iconst (v := (0 : Int32)) X.1 X.2.1 dX10_taken_15 (by decide) ?_
    refine lv_iconst (v := (5 : Int32)) X.1 X.2.1 dX10_taken_16 (by decide) ?_
    obtain ⟨⟨⟩, q6, hf⟩ := bnd hf
    obtain ⟨t9, h8, q7, hf⟩ := bnd2 hf
    refine x_callVi (As := [.int v1, .int (0 : Int32), .int (5 : Int32)]) cf_X10_197 (c_X10_in l G N v0 v1 (0 : Int32) (5 : Int32) h3 _ _ q7) rfl ⟨rfl, rfl, Nat.le_of_ble_eq_true rfl, Nat.le_of_ble_eq_true rfl⟩ ⟨Nat.le_of_ble_eq_true rfl, Nat.le_of_ble_eq_true rfl⟩ X M (x_recv cls_X10 X M q6) rfl rfl hl.1 (Nat.le_of_ble_eq_true rfl) dX10_taken_17 (fun H locs M => ?_)
    refine lv_if_ne (tgt := 26) X.1 X.2.1 dX10_taken_20 (by decide) (fun c10 => ?_) (fun c10 => ?_)
    · have hf := ifn c10 hf
      refine lv_iload_n X.1 X.2.1 dX10_taken_26 rfl (lv_at hl 2 rfl) ?_
      refine lv_if_eq (tgt := 55) X.1 X.2.1 dX10_taken_27 (by decide) (fun c11 => ?_) (fun c11 => ?_)
      · have hf := ifp c11 hf
        exact w_X10_taken_55 X hr hk N v1 h8 hf _ _ _ M (lv_sub hl [1] rfl)
      · have hf := ifn c11 hf
        refine lv_iload_n X.1 X.2.1 dX10_taken_30 rfl (lv_at hl 1 rfl) ?_
        refine lv_iload_n X.1 X.2.1 dX10_taken_31 rfl (lv_at hl 2 rfl) ?_
        refine lv_icmp_eq (tgt := 55) X.1 X.2.1 dX10_taken_32 (by decide) (fun c12 => ?_) (fun c12 => ?_)
        · have hf := ifp c12 hf
          exact w_X10_taken_55 X hr hk N v1 h8 hf _ _ _ M (lv_sub hl [1] rfl)
        · have hf := ifn c12 hf
          refine lv_iload_n X.1 X.2.1 dX10_taken_35 rfl (lv_at hl 2 rfl) ?_
          refine lv_iconst (v := (1 : Int32)) X.1 X.2.1 dX10_taken_36 (by decide) ?_
          refine lv_icmp_ne (tgt := 45) X.1 X.2.1 dX10_taken_37 (by decide) (fun c13 => ?_) (fun c13 => ?_)
          · have hf := ifn c13 hf
            exact w_X10_taken_45 X hr hk N _ (fun v1 h hf H locs ls M hl => w_X10_taken_55 X hr hk N v1 h hf H locs ls M hl) v1 v2 h8 hf _ _ _ M (lv_sub hl [1, 2] rfl)
          · have hf := ifp c13 hf
            refine lv_iload_n X.1 X.2.1 dX10_taken_40 rfl (lv_at hl 1 rfl) ?_
            refine lv_iconst (v := (1 : Int32)) X.1 X.2.1 dX10_taken_41 (by decide) ?_
            refine lv_icmp_gt (tgt := 55) X.1 X.2.1 dX10_taken_42 (by decide) (fun c14 => ?_) (fun c14 => ?_)
            · have hf := ifp c14 hf
              exact w_X10_taken_55 X hr hk N v1 h8 hf _ _ _ M (lv_sub hl [1] rfl)
            · have hf := ifn c14 hf
              exact w_X10_taken_45 X hr hk N _ (fun v1 h hf H locs ls M hl => w_X10_taken_55 X hr hk N v1 h hf H locs ls M hl) v1 v2 h8 hf _ _ _ M (lv_sub hl [1, 2] rfl)
    · have hf := ifp c10 hf
      refine lv_bipush (v := (-11 : Int32)) X.1 X.2.1 dX10_taken_23 (by decide) ?_
      obtain ⟨rfl, rfl⟩ := rt2 hf
      exact x_iret X hr hk M dX10_taken_25
  · have hf := ifp c5 hf
    refine lv_bipush (v := (-2 : Int32)) X.1 X.2.1 dX10_taken_10 (by decide) ?_
    obtain ⟨rfl, rfl⟩ := rt2 hf
    exact x_iret X hr hk M dX10_taken_12
theorem c_X10_taken (l : Launch) (G : Gx) (N : Nat) (v0 : Nat) (v1 : Int32) (v2 : Int32) (h : Mem) (r : Int32) (h' : Mem) (hf : f_X10_taken N v0 v1 v2 h = some (r, h')) : MetG l G yX10_taken (.code yX10_taken cX10_taken 3 (Option.some Jvm.ClassFile.FieldType.int)) rm_X10_taken [.ref (gB G + v0), .int v1, .int v2] h (QcI G r h') 0 0 :=
  x_met (by decide) rfl (Nat.le_of_ble_eq_true rfl) (fun p e s m args below meth c ls X M hr hk hin hl => w_X10_taken X hr hk N v0 v1 v2 h hf _ _ ls M hl)
abbrev rm_X10_count : Room := { frames := 1, cells := 0, slots := 0, locals := 40 }
def f_X10_count (N : Nat) (v0 : Nat) (v1 : Int32) (h : Mem) : Option (Int32 × Mem) :=
  if v1 = 0 then
    (gI h v0 10 0).bind fun t2 =>
    some (t2, h)
  else
  if v1 = 1 then
    (gI h v0 10 1).bind fun t5 =>
    some (t5, h)
  else
  if v1 = 2 then
    (gI h v0 10 12).bind fun t8 =>
    some (t8, h)
  else
  if v1 = 3 then
    (gI h v0 10 13).bind fun t11 =>
    some (t11, h)
  else
  if v1 = 4 then
    (gI h v0 10 50).bind fun t14 =>
    some (t14, h)
  else
  if v1 = 5 then
    (gI h v0 10 2).bind fun t17 =>
    some (t17, h)
  else
  if v1 = 6 then
    (gI h v0 10 55).bind fun t20 =>
    some (t20, h)
  else
  some ((-2 : Int32), h)
set_option maxRecDepth 100000 in
set_option maxHeartbeats 4000000 in
theorem w_X10_count {p : Program} {l : Launch} {e : Env} {s : State} {m : MethodId} {args : Array Value} {below : List Frame} {meth : Method} {c : Code} {G : Gx} {r : Int32} {h' : Mem} (X : CX G p s m args c cX10_count 2 RX10) (hr : meth.sig.returnType = (Option.some Jvm.ClassFile.FieldType.int)) (hk : meth.locks = false) (N : Nat) : ∀ (v0 : Nat) (v1 : Int32) (h : Mem), f_X10_count N v0 v1 h = some (r, h') → ∀ (H : Heap) (locs : List Loc) (ls : Array Slot), MS G s h H locs 0 → lv_has ls 2 [(0, .ref (gB G + v0)), (1, .int v1)] → W p l e (rm_X10_count) s m args below meth c H locs 0 0 (QI G below args s r h' 0 0) (F0 m 0 ls []) := by
  intro v0 v1 h hf H locs ls M hl
  rw [f_X10_count] at hf
  refine lv_iload_n X.1 X.2.1 dX10_count_0 rfl (lv_at hl 1 rfl) ?_
  by_cases c1 : v1 = 0
  · have hf := ifp c1 hf
    refine x_tin (z := 0) (tgt := 44) X rfl c1 dX10_count_1 (by decide) (by decide) rfl (by decide) ?_
    refine lv_aload_n X.1 X.2.1 dX10_count_44 rfl (lv_at hl 0 rfl) ?_
    obtain ⟨t2, q3, hf⟩ := bnd hf
    refine x_geti fl_X10_7 X M q3 dX10_count_45 ?_
    obtain ⟨rfl, rfl⟩ := rt2 hf
    exact x_iret X hr hk M dX10_count_48
  have hf := ifn c1 hf
  by_cases c4 : v1 = 1
  · have hf := ifp c4 hf
    refine x_tin (z := 1) (tgt := 49) X rfl c4 dX10_count_1 (by decide) (by decide) rfl (by decide) ?_
    refine lv_aload_n X.1 X.2.1 dX10_count_49 rfl (lv_at hl 0 rfl) ?_
    obtain ⟨t5, q6, hf⟩ := bnd hf
    refine x_geti fl_X10_13 X M q6 dX10_count_50 ?_
    obtain ⟨rfl, rfl⟩ := rt2 hf
    exact x_iret X hr hk M dX10_count_53
  have hf := ifn c4 hf
  by_cases c7 : v1 = 2
  · have hf := ifp c7 hf
    refine x_tin (z := 2) (tgt := 54) X rfl c7 dX10_count_1 (by decide) (by decide) rfl (by decide) ?_
    refine lv_aload_n X.1 X.2.1 dX10_count_54 rfl (lv_at hl 0 rfl) ?_
    obtain ⟨t8, q9, hf⟩ := bnd hf
    refine x_geti fl_X10_47 X M q9 dX10_count_55 ?_
    obtain ⟨rfl, rfl⟩ := rt2 hf
    exact x_iret X hr hk M dX10_count_58
  have hf := ifn c7 hf
  by_cases c10 : v1 = 3
  · have hf := ifp c10 hf
    refine x_tin (z := 3) (tgt := 59) X rfl c10 dX10_count_1 (by decide) (by decide) rfl (by decide) ?_
    refine lv_aload_n X.1 X.2.1 dX10_count_59 rfl (lv_at hl 0 rfl) ?_
    obtain ⟨t11, q12, hf⟩ := bnd hf
    refine x_geti fl_X10_50 X M q12 dX10_count_60 ?_
    obtain ⟨rfl, rfl⟩ := rt2 hf
    exact x_iret X hr hk M dX10_count_63
  have hf := ifn c10 hf
  by_cases c13 : v1 = 4
  · have hf := ifp c13 hf
    refine x_tin (z := 4) (tgt := 64) X rfl c13 dX10_count_1 (by decide) (by decide) rfl (by decide) ?_
    refine lv_aload_n X.1 X.2.1 dX10_count_64 rfl (lv_at hl 0 rfl) ?_
    obtain ⟨t14, q15, hf⟩ := bnd hf
    refine x_geti fl_X10_164 X M q15 dX10_count_65 ?_
    obtain ⟨rfl, rfl⟩ := rt2 hf
    exact x_iret X hr hk M dX10_count_68
  have hf := ifn c13 hf
  by_cases c16 : v1 = 5
  · have hf := ifp c16 hf
    refine x_tin (z := 5) (tgt := 69) X rfl c16 dX10_count_1 (by decide) (by decide) rfl (by decide) ?_
    refine lv_aload_n X.1 X.2.1 dX10_count_69 rfl (lv_at hl 0 rfl) ?_
    obtain ⟨t17, q18, hf⟩ := bnd hf
    refine x_geti fl_X10_16 X M q18 dX10_count_70 ?_
    obtain ⟨rfl, rfl⟩ := rt2 hf
    exact x_iret X hr hk M dX10_count_73
  have hf := ifn c16 hf
  by_cases c19 : v1 = 6
  · have hf := ifp c19 hf
    refine x_tin (z := 6) (tgt := 74) X rfl c19 dX10_count_1 (by decide) (by decide) rfl (by decide) ?_
    refine lv_aload_n X.1 X.2.1 dX10_count_74 rfl (lv_at hl 0 rfl) ?_
    obtain ⟨t20, q21, hf⟩ := bnd hf
    refine x_geti fl_X10_179 X M q21 dX10_count_75 ?_
    obtain ⟨rfl, rfl⟩ := rt2 hf
    exact x_iret X hr hk M dX10_count_78
  have hf := ifn c19 hf
  have nc1 := lv_neT (a := 0) c1 rfl
  have nc4 := lv_neT (a := 1) c4 rfl
  have nc7 := lv_neT (a := 2) c7 rfl
  have nc10 := lv_neT (a := 3) c10 rfl
  have nc13 := lv_neT (a := 4) c13 rfl
  have nc16 := lv_neT (a := 5) c16 rfl
  have nc19 := lv_neT (a := 6) c19 rfl
  refine lv_tableOut (tgt := 79) X.1 X.2.1 dX10_count_1 (by omega) (by decide) ?_
  refine lv_bipush (v := (-2 : Int32)) X.1 X.2.1 dX10_count_79 (by decide) ?_
  obtain ⟨rfl, rfl⟩ := rt2 hf
  exact x_iret X hr hk M dX10_count_81
theorem c_X10_count (l : Launch) (G : Gx) (N : Nat) (v0 : Nat) (v1 : Int32) (h : Mem) (r : Int32) (h' : Mem) (hf : f_X10_count N v0 v1 h = some (r, h')) : MetG l G yX10_count (.code yX10_count cX10_count 2 (Option.some Jvm.ClassFile.FieldType.int)) rm_X10_count [.ref (gB G + v0), .int v1] h (QcI G r h') 0 0 :=
  x_met (by decide) rfl (Nat.le_of_ble_eq_true rfl) (fun p e s m args below meth c ls X M hr hk hin hl => w_X10_count X hr hk N v0 v1 h hf _ _ ls M hl)
abbrev rm_X10_tape : Room := { frames := 3, cells := 0, slots := 0, locals := 84 }
def f_X10_tape_69 (N : Nat) (n : Nat) (v0 : Nat) (v1 : Int32) (v4 : Int32) (h : Mem) : Option (Int32 × Mem) := match n with
  | 0 => none
  | n + 1 =>
    if (60 : Int32) ≤ v4 then
      some ((1 : Int32), h)
    else
      (gR h v0 10 59).bind fun t2 =>
      (stJ h t2 (((60 : Int32) * v1) + v4) (0 : Int64)).bind fun h4 =>
      f_X10_tape_69 N n v0 v1 (v4 + 1) h4
set_option maxRecDepth 100000 in
set_option maxHeartbeats 4000000 in
theorem w_X10_tape_69 {p : Program} {l : Launch} {e : Env} {s : State} {m : MethodId} {args : Array Value} {below : List Frame} {meth : Method} {c : Code} {G : Gx} {r : Int32} {h' : Mem} (X : CX G p s m args c cX10_tape 5 RX10) (hr : meth.sig.returnType = (Option.some Jvm.ClassFile.FieldType.int)) (hk : meth.locks = false) (N : Nat) : ∀ (n : Nat) (v0 : Nat) (v1 : Int32) (v4 : Int32) (h : Mem), f_X10_tape_69 N n v0 v1 v4 h = some (r, h') → ∀ (H : Heap) (locs : List Loc) (ls : Array Slot), MS G s h H locs 0 → lv_has ls 5 [(0, .ref (gB G + v0)), (1, .int v1), (4, .int v4)] → W p l e (rm_X10_tape) s m args below meth c H locs 0 0 (QI G below args s r h' 0 0) (F0 m 69 ls []) := by
  intro n
  induction n with
  | zero =>
    intro v0 v1 v4 h hf
    cases hf
  | succ n ih =>
    intro v0 v1 v4 h hf H locs ls M hl
    rw [f_X10_tape_69] at hf
    refine lv_iload X.1 X.2.1 dX10_tape_69 (lv_at hl 2 rfl) ?_
    refine lv_bipush (v := (60 : Int32)) X.1 X.2.1 dX10_tape_71 (by decide) ?_
    refine lv_icmp_ge (tgt := 95) X.1 X.2.1 dX10_tape_73 (by decide) (fun c1 => ?_) (fun c1 => ?_)
    · have hf := ifp c1 hf
      refine lv_iconst (v := (1 : Int32)) X.1 X.2.1 dX10_tape_95 (by decide) ?_
      obtain ⟨rfl, rfl⟩ := rt2 hf
      exact x_iret X hr hk M dX10_tape_96
    · have hf := ifn c1 hf
      refine lv_aload_n X.1 X.2.1 dX10_tape_76 rfl (lv_at hl 0 rfl) ?_
      obtain ⟨t2, q3, hf⟩ := bnd hf
      refine x_getr fl_X10_191 X M q3 dX10_tape_77 ?_
      refine lv_bipush (v := (60 : Int32)) X.1 X.2.1 dX10_tape_80 (by decide) ?_
      refine lv_iload_n X.1 X.2.1 dX10_tape_82 rfl (lv_at hl 1 rfl) ?_
      refine lv_imul X.1 X.2.1 dX10_tape_83 ?_
      refine lv_iload X.1 X.2.1 dX10_tape_84 (lv_at hl 2 rfl) ?_
      refine lv_iadd X.1 X.2.1 dX10_tape_86 ?_
      refine lv_lconst (v := 0) X.1 X.2.1 dX10_tape_87 rfl ?_
      obtain ⟨h4, q5, hf⟩ := bnd hf
      refine x_last X M q5 dX10_tape_88 (fun H locs M => ?_)
      refine lv_iinc (v := (v4 + 1)) (lv' := [(4, .int (v4 + 1)), (0, .ref (gB G + v0)), (1, .int v1)]) X.1 X.2.1 dX10_tape_89 hl (k := 2) rfl (by first | rfl | decide) (by decide) rfl (fun ls hl => ?_)
      refine lv_goto (tgt := 69) X.1 X.2.1 dX10_tape_92 (by decide) ?_
      exact ih v0 v1 (v4 + 1) h4 hf _ _ _ M (lv_sub hl [1, 2, 0] rfl)
def f_X10_tape_65 (N : Nat) (v0 : Nat) (v1 : Int32) (s0 : Nat) (s1 : Int32) (s2 : Int32) (h : Mem) : Option (Int32 × Mem) :=
  (stI 100 h s0 s1 s2).bind fun h1 =>
  f_X10_tape_69 N N v0 v1 (0 : Int32) h1
set_option maxRecDepth 100000 in
set_option maxHeartbeats 4000000 in
theorem w_X10_tape_65 {p : Program} {l : Launch} {e : Env} {s : State} {m : MethodId} {args : Array Value} {below : List Frame} {meth : Method} {c : Code} {G : Gx} {r : Int32} {h' : Mem} (X : CX G p s m args c cX10_tape 5 RX10) (hr : meth.sig.returnType = (Option.some Jvm.ClassFile.FieldType.int)) (hk : meth.locks = false) (N : Nat) : ∀ (v0 : Nat) (v1 : Int32) (s0 : Nat) (s1 : Int32) (s2 : Int32) (h : Mem), f_X10_tape_65 N v0 v1 s0 s1 s2 h = some (r, h') → ∀ (H : Heap) (locs : List Loc) (ls : Array Slot), MS G s h H locs 0 → lv_has ls 5 [(0, .ref (gB G + v0)), (1, .int v1)] → W p l e (rm_X10_tape) s m args below meth c H locs 0 0 (QI G below args s r h' 0 0) (F0 m 65 ls [.int s2, .int s1, .ref (gB G + s0)]) := by
  intro v0 v1 s0 s1 s2 h hf H locs ls M hl
  rw [f_X10_tape_65] at hf
  obtain ⟨h1, q2, hf⟩ := bnd hf
  refine x_iast X M q2 dX10_tape_65 (fun H locs M => ?_)
  refine lv_iconst (v := (0 : Int32)) X.1 X.2.1 dX10_tape_66 (by decide) ?_
  refine lv_istore (lv' := [(4, .int (0 : Int32)), (0, .ref (gB G + v0)), (1, .int v1)]) X.1 X.2.1 dX10_tape_67 hl (by decide) rfl (fun ls hl => ?_)
  exact w_X10_tape_69 X hr hk N N v0 v1 (0 : Int32) h1 hf _ _ _ M (lv_sub hl [1, 2, 0] rfl)
def f_X10_tape_44 (N : Nat) (v0 : Nat) (v1 : Int32) (v2 : Int32) (v3 : Int32) (h : Mem) : Option (Int32 × Mem) :=
  (gR h v0 10 57).bind fun t1 =>
  (stI 100 h t1 v1 v2).bind fun h3 =>
  (gR h3 v0 10 58).bind fun t5 =>
  if 0 ≤ v2 then
    f_X10_tape_65 N v0 v1 t5 v1 v3 h3
  else
    f_X10_tape_65 N v0 v1 t5 v1 (0 : Int32) h3
set_option maxRecDepth 100000 in
set_option maxHeartbeats 4000000 in
theorem w_X10_tape_44 {p : Program} {l : Launch} {e : Env} {s : State} {m : MethodId} {args : Array Value} {below : List Frame} {meth : Method} {c : Code} {G : Gx} {r : Int32} {h' : Mem} (X : CX G p s m args c cX10_tape 5 RX10) (hr : meth.sig.returnType = (Option.some Jvm.ClassFile.FieldType.int)) (hk : meth.locks = false) (N : Nat) : ∀ (v0 : Nat) (v1 : Int32) (v2 : Int32) (v3 : Int32) (h : Mem), f_X10_tape_44 N v0 v1 v2 v3 h = some (r, h') → ∀ (H : Heap) (locs : List Loc) (ls : Array Slot), MS G s h H locs 0 → lv_has ls 5 [(0, .ref (gB G + v0)), (1, .int v1), (2, .int v2), (3, .int v3)] → W p l e (rm_X10_tape) s m args below meth c H locs 0 0 (QI G below args s r h' 0 0) (F0 m 44 ls []) := by
  intro v0 v1 v2 v3 h hf H locs ls M hl
  rw [f_X10_tape_44] at hf
  refine lv_aload_n X.1 X.2.1 dX10_tape_44 rfl (lv_at hl 0 rfl) ?_
  obtain ⟨t1, q2, hf⟩ := bnd hf
  refine x_getr fl_X10_185 X M q2 dX10_tape_45 ?_
  refine lv_iload_n X.1 X.2.1 dX10_tape_48 rfl (lv_at hl 1 rfl) ?_
  refine lv_iload_n X.1 X.2.1 dX10_tape_49 rfl (lv_at hl 2 rfl) ?_
  obtain ⟨h3, q4, hf⟩ := bnd hf
  refine x_iast X M q4 dX10_tape_50 (fun H locs M => ?_)
  refine lv_aload_n X.1 X.2.1 dX10_tape_51 rfl (lv_at hl 0 rfl) ?_
  obtain ⟨t5, q6, hf⟩ := bnd hf
  refine x_getr fl_X10_188 X M q6 dX10_tape_52 ?_
  refine lv_iload_n X.1 X.2.1 dX10_tape_55 rfl (lv_at hl 1 rfl) ?_
  refine lv_iload_n X.1 X.2.1 dX10_tape_56 rfl (lv_at hl 2 rfl) ?_
  refine lv_if_ge (tgt := 64) X.1 X.2.1 dX10_tape_57 (by decide) (fun c7 => ?_) (fun c7 => ?_)
  · have hf := ifp c7 hf
    refine lv_iload_n X.1 X.2.1 dX10_tape_64 rfl (lv_at hl 3 rfl) ?_
    exact w_X10_tape_65 X hr hk N v0 v1 t5 v1 v3 h3 hf _ _ _ M (lv_sub hl [0, 1] rfl)
  · have hf := ifn c7 hf
    refine lv_iconst (v := (0 : Int32)) X.1 X.2.1 dX10_tape_60 (by decide) ?_
    refine lv_goto (tgt := 65) X.1 X.2.1 dX10_tape_61 (by decide) ?_
    exact w_X10_tape_65 X hr hk N v0 v1 t5 v1 (0 : Int32) h3 hf _ _ _ M (lv_sub hl [0, 1] rfl)
def f_X10_tape_33 (N : Nat) (v0 : Nat) (v1 : Int32) (v2 : Int32) (v3 : Int32) (h : Mem) : Option (Int32 × Mem) :=
  if v2 < 0 then
    f_X10_tape_44 N v0 v1 v2 v3 h
  else
    if 0 ≤ v3 then
      f_X10_tape_44 N v0 v1 v2 v3 h
    else
      some ((-14 : Int32), h)
set_option maxRecDepth 100000 in
set_option maxHeartbeats 4000000 in
theorem w_X10_tape_33 {p : Program} {l : Launch} {e : Env} {s : State} {m : MethodId} {args : Array Value} {below : List Frame} {meth : Method} {c : Code} {G : Gx} {r : Int32} {h' : Mem} (X : CX G p s m args c cX10_tape 5 RX10) (hr : meth.sig.returnType = (Option.some Jvm.ClassFile.FieldType.int)) (hk : meth.locks = false) (N : Nat) : ∀ (v0 : Nat) (v1 : Int32) (v2 : Int32) (v3 : Int32) (h : Mem), f_X10_tape_33 N v0 v1 v2 v3 h = some (r, h') → ∀ (H : Heap) (locs : List Loc) (ls : Array Slot), MS G s h H locs 0 → lv_has ls 5 [(0, .ref (gB G + v0)), (1, .int v1), (2, .int v2), (3, .int v3)] → W p l e (rm_X10_tape) s m args below meth c H locs 0 0 (QI G below args s r h' 0 0) (F0 m 33 ls []) := by
  intro v0 v1 v2 v3 h hf H locs ls M hl
  rw [f_X10_tape_33] at hf
  refine lv_iload_n X.1 X.2.1 dX10_tape_33 rfl (lv_at hl 2 rfl) ?_
  refine lv_if_lt (tgt := 44) X.1 X.2.1 dX10_tape_34 (by decide) (fun c1 => ?_) (fun c1 => ?_)
  · have hf := ifp c1 hf
    exact w_X10_tape_44 X hr hk N v0 v1 v2 v3 h hf _ _ _ M (lv_sub hl [0, 1, 2, 3] rfl)
  · have hf := ifn c1 hf
    refine lv_iload_n X.1 X.2.1 dX10_tape_37 rfl (lv_at hl 3 rfl) ?_
    refine lv_if_ge (tgt := 44) X.1 X.2.1 dX10_tape_38 (by decide) (fun c2 => ?_) (fun c2 => ?_)
    · have hf := ifp c2 hf
      exact w_X10_tape_44 X hr hk N v0 v1 v2 v3 h hf _ _ _ M (lv_sub hl [0, 1, 2, 3] rfl)
    · have hf := ifn c2 hf
      refine lv_bipush (v := (-14 : Int32)) X.1 X.2.1 dX10_tape_41 (by decide) ?_
      obtain ⟨rfl, rfl⟩ := rt2 hf
      exact x_iret X hr hk M dX10_tape_43
def f_X10_tape (N : Nat) (v0 : Nat) (v1 : Int32) (v2 : Int32) (v3 : Int32) (h : Mem) : Option (Int32 × Mem) :=
  (ck h v0 10).bind fun _ =>
  b2 (f_X10_isTape N v0 v1 h) fun t4 h3 =>
  if t4 = 0 then
    some ((-1 : Int32), h3)
  else
    (ck h3 v0 10).bind fun _ =>
    b2 (f_X10_in N v0 v2 (-1 : Int32) (4 : Int32) h3) fun t9 h8 =>
    if t9 = 0 then
      some ((-2 : Int32), h8)
    else
      if v2 < 0 then
        f_X10_tape_33 N v0 v1 v2 v3 h8
      else
        if v3 ≤ (60 : Int32) then
          f_X10_tape_33 N v0 v1 v2 v3 h8
        else
          some ((-2 : Int32), h8)
set_option maxRecDepth 100000 in
set_option maxHeartbeats 4000000 in
theorem w_X10_tape {p : Program} {l : Launch} {e : Env} {s : State} {m : MethodId} {args : Array Value} {below : List Frame} {meth : Method} {c : Code} {G : Gx} {r : Int32} {h' : Mem} (X : CX G p s m args c cX10_tape 5 RX10) (hr : meth.sig.returnType = (Option.some Jvm.ClassFile.FieldType.int)) (hk : meth.locks = false) (N : Nat) : ∀ (v0 : Nat) (v1 : Int32) (v2 : Int32) (v3 : Int32) (h : Mem), f_X10_tape N v0 v1 v2 v3 h = some (r, h') → ∀ (H : Heap) (locs : List Loc) (ls : Array Slot), MS G s h H locs 0 → lv_has ls 5 [(0, .ref (gB G + v0)), (1, .int v1), (2, .int v2), (3, .int v3)] → W p l e (rm_X10_tape) s m args below meth c H locs 0 0 (QI G below args s r h' 0 0) (F0 m 0 ls []) := by
  intro v0 v1 v2 v3 h hf H locs ls M hl
  rw [f_X10_tape] at hf
  refine lv_aload_n X.1 X.2.1 dX10_tape_0 rfl (lv_at hl 0 rfl) ?_
  refine lv_iload_n X.1 X.2.1 dX10_tape_1 rfl (lv_at hl 1 rfl) ?_
  obtain ⟨⟨⟩, q1, hf⟩ := bnd hf
  obtain ⟨t4, h3, q2, hf⟩ := bnd2 hf
  refine x_callVi (As := [.int v1]) cf_X10_351 (c_X10_isTape l G N v0 v1 h _ _ q2) rfl ⟨rfl, rfl, Nat.le_of_ble_eq_true rfl, Nat.le_of_ble_eq_true rfl⟩ ⟨Nat.le_of_ble_eq_true rfl, Nat.le_of_ble_eq_true rfl⟩ X M (x_recv cls_X10 X M q1) rfl rfl hl.1 (Nat.le_of_ble_eq_true rfl) dX10_tape_2 (fun H locs M => ?_)
  refine lv_if_ne (tgt := 10) X.1 X.2.1 dX10_tape_5 (by decide) (fun c5 => ?_) (fun c5 => ?_)
  · have hf := ifn c5 hf
    refine lv_aload_n X.1 X.2.1 dX10_tape_10 rfl (lv_at hl 0 rfl) ?_
    refine lv_iload_n X.1 X.2.1 dX10_tape_11 rfl (lv_at hl 2 rfl) ?_
    refine lv_iconst (v := (-1 : Int32)) X.1 X.2.1 dX10_tape_12 (by decide) ?_
    refine lv_iconst (v := (4 : Int32)) X.1 X.2.1 dX10_tape_13 (by decide) ?_
    obtain ⟨⟨⟩, q6, hf⟩ := bnd hf
    obtain ⟨t9, h8, q7, hf⟩ := bnd2 hf
    refine x_callVi (As := [.int v2, .int (-1 : Int32), .int (4 : Int32)]) cf_X10_197 (c_X10_in l G N v0 v2 (-1 : Int32) (4 : Int32) h3 _ _ q7) rfl ⟨rfl, rfl, Nat.le_of_ble_eq_true rfl, Nat.le_of_ble_eq_true rfl⟩ ⟨Nat.le_of_ble_eq_true rfl, Nat.le_of_ble_eq_true rfl⟩ X M (x_recv cls_X10 X M q6) rfl rfl hl.1 (Nat.le_of_ble_eq_true rfl) dX10_tape_14 (fun H locs M => ?_)
    refine lv_if_eq (tgt := 30) X.1 X.2.1 dX10_tape_17 (by decide) (fun c10 => ?_) (fun c10 => ?_)
    · have hf := ifp c10 hf
      refine lv_bipush (v := (-2 : Int32)) X.1 X.2.1 dX10_tape_30 (by decide) ?_
      obtain ⟨rfl, rfl⟩ := rt2 hf
      exact x_iret X hr hk M dX10_tape_32
    · have hf := ifn c10 hf
      refine lv_iload_n X.1 X.2.1 dX10_tape_20 rfl (lv_at hl 2 rfl) ?_
      refine lv_if_lt (tgt := 33) X.1 X.2.1 dX10_tape_21 (by decide) (fun c11 => ?_) (fun c11 => ?_)
      · have hf := ifp c11 hf
        exact w_X10_tape_33 X hr hk N v0 v1 v2 v3 h8 hf _ _ _ M (lv_sub hl [0, 1, 2, 3] rfl)
      · have hf := ifn c11 hf
        refine lv_iload_n X.1 X.2.1 dX10_tape_24 rfl (lv_at hl 3 rfl) ?_
        refine lv_bipush (v := (60 : Int32)) X.1 X.2.1 dX10_tape_25 (by decide) ?_
        refine lv_icmp_le (tgt := 33) X.1 X.2.1 dX10_tape_27 (by decide) (fun c12 => ?_) (fun c12 => ?_)
        · have hf := ifp c12 hf
          exact w_X10_tape_33 X hr hk N v0 v1 v2 v3 h8 hf _ _ _ M (lv_sub hl [0, 1, 2, 3] rfl)
        · have hf := ifn c12 hf
          refine lv_bipush (v := (-2 : Int32)) X.1 X.2.1 dX10_tape_30 (by decide) ?_
          obtain ⟨rfl, rfl⟩ := rt2 hf
          exact x_iret X hr hk M dX10_tape_32
  · have hf := ifp c5 hf
    refine lv_iconst (v := (-1 : Int32)) X.1 X.2.1 dX10_tape_8 (by decide) ?_
    obtain ⟨rfl, rfl⟩ := rt2 hf
    exact x_iret X hr hk M dX10_tape_9
theorem c_X10_tape (l : Launch) (G : Gx) (N : Nat) (v0 : Nat) (v1 : Int32) (v2 : Int32) (v3 : Int32) (h : Mem) (r : Int32) (h' : Mem) (hf : f_X10_tape N v0 v1 v2 v3 h = some (r, h')) : MetG l G yX10_tape (.code yX10_tape cX10_tape 5 (Option.some Jvm.ClassFile.FieldType.int)) rm_X10_tape [.ref (gB G + v0), .int v1, .int v2, .int v3] h (QcI G r h') 0 0 :=
  x_met (by decide) rfl (Nat.le_of_ble_eq_true rfl) (fun p e s m args below meth c ls X M hr hk hin hl => w_X10_tape X hr hk N v0 v1 v2 v3 h hf _ _ ls M hl)
abbrev rm_X10_narrow : Room := { frames := 1, cells := 0, slots := 0, locals := 40 }
def f_X10_narrow (N : Nat) (v0 : Nat) (v1 : Int32) (v2 : Int64) (h : Mem) : Option (Int64 × Mem) :=
  if v1 = 0 then
    some (((Int32.toInt64 ((Int32.toInt8 ((Int64.toInt32 v2))).toInt32))), h)
  else
    if v1 = (1 : Int32) then
      some (((Int32.toInt64 ((Int32.toInt16 ((Int64.toInt32 v2))).toInt32))), h)
    else
      if v1 = (2 : Int32) then
        some (((Int32.toInt64 ((Int64.toInt32 v2)))), h)
      else
        if v1 = (4 : Int32) then
          if (lg_cmp v2 (0 : Int64)) = 0 then
            some ((0 : Int64), h)
          else
            some ((1 : Int64), h)
        else
          some (v2, h)
set_option maxRecDepth 100000 in
set_option maxHeartbeats 4000000 in
theorem w_X10_narrow {p : Program} {l : Launch} {e : Env} {s : State} {m : MethodId} {args : Array Value} {below : List Frame} {meth : Method} {c : Code} {G : Gx} {r : Int64} {h' : Mem} (X : CX G p s m args c cX10_narrow 4 RX10) (hr : meth.sig.returnType = (Option.some Jvm.ClassFile.FieldType.long)) (hk : meth.locks = false) (N : Nat) : ∀ (v0 : Nat) (v1 : Int32) (v2 : Int64) (h : Mem), f_X10_narrow N v0 v1 v2 h = some (r, h') → ∀ (H : Heap) (locs : List Loc) (ls : Array Slot), MS G s h H locs 0 → lv_has ls 4 [(0, .ref (gB G + v0)), (1, .int v1), (2, .long v2)] → W p l e (rm_X10_narrow) s m args below meth c H locs 0 0 (QL G below args s r h' 0 0) (F0 m 0 ls []) := by
  intro v0 v1 v2 h hf H locs ls M hl
  rw [f_X10_narrow] at hf
  refine lv_iload_n X.1 X.2.1 dX10_narrow_0 rfl (lv_at hl 1 rfl) ?_
  refine lv_if_ne (tgt := 11) X.1 X.2.1 dX10_narrow_1 (by decide) (fun c1 => ?_) (fun c1 => ?_)
  · have hf := ifn c1 hf
    refine lv_iload_n X.1 X.2.1 dX10_narrow_11 rfl (lv_at hl 1 rfl) ?_
    refine lv_iconst (v := (1 : Int32)) X.1 X.2.1 dX10_narrow_12 (by decide) ?_
    refine lv_icmp_ne (tgt := 23) X.1 X.2.1 dX10_narrow_13 (by decide) (fun c2 => ?_) (fun c2 => ?_)
    · have hf := ifn c2 hf
      refine lv_iload_n X.1 X.2.1 dX10_narrow_23 rfl (lv_at hl 1 rfl) ?_
      refine lv_iconst (v := (2 : Int32)) X.1 X.2.1 dX10_narrow_24 (by decide) ?_
      refine lv_icmp_ne (tgt := 34) X.1 X.2.1 dX10_narrow_25 (by decide) (fun c3 => ?_) (fun c3 => ?_)
      · have hf := ifn c3 hf
        refine lv_iload_n X.1 X.2.1 dX10_narrow_34 rfl (lv_at hl 1 rfl) ?_
        refine lv_iconst (v := (4 : Int32)) X.1 X.2.1 dX10_narrow_35 (by decide) ?_
        refine lv_icmp_ne (tgt := 53) X.1 X.2.1 dX10_narrow_36 (by decide) (fun c4 => ?_) (fun c4 => ?_)
        · have hf := ifn c4 hf
          refine lv_lload_n X.1 X.2.1 dX10_narrow_53 rfl (lv_at hl 2 rfl) ?_
          obtain ⟨rfl, rfl⟩ := rt2 hf
          exact x_lret X hr hk M dX10_narrow_54
        · have hf := ifp c4 hf
          refine lv_lload_n X.1 X.2.1 dX10_narrow_39 rfl (lv_at hl 2 rfl) ?_
          refine lv_lconst (v := 0) X.1 X.2.1 dX10_narrow_40 rfl ?_
          refine W.lcmp X.1 X.2.1 dX10_narrow_41 ?_
          refine lv_if_eq (tgt := 49) X.1 X.2.1 dX10_narrow_42 (by decide) (fun c5 => ?_) (fun c5 => ?_)
          · have hf := ifp c5 hf
            refine lv_lconst (v := 0) X.1 X.2.1 dX10_narrow_49 rfl ?_
            refine lv_goto (tgt := 54) X.1 X.2.1 dX10_narrow_50 (by decide) ?_
            obtain ⟨rfl, rfl⟩ := rt2 hf
            exact x_lret X hr hk M dX10_narrow_54
          · have hf := ifn c5 hf
            refine lv_lconst (v := 1) X.1 X.2.1 dX10_narrow_45 rfl ?_
            refine lv_goto (tgt := 54) X.1 X.2.1 dX10_narrow_46 (by decide) ?_
            obtain ⟨rfl, rfl⟩ := rt2 hf
            exact x_lret X hr hk M dX10_narrow_54
      · have hf := ifp c3 hf
        refine lv_lload_n X.1 X.2.1 dX10_narrow_28 rfl (lv_at hl 2 rfl) ?_
        refine lv_l2i (v := ((Int64.toInt32 v2))) X.1 X.2.1 dX10_narrow_29 rfl ?_
        refine lv_i2l (v := ((Int32.toInt64 ((Int64.toInt32 v2))))) X.1 X.2.1 dX10_narrow_30 rfl ?_
        refine lv_goto (tgt := 54) X.1 X.2.1 dX10_narrow_31 (by decide) ?_
        obtain ⟨rfl, rfl⟩ := rt2 hf
        exact x_lret X hr hk M dX10_narrow_54
    · have hf := ifp c2 hf
      refine lv_lload_n X.1 X.2.1 dX10_narrow_16 rfl (lv_at hl 2 rfl) ?_
      refine lv_l2i (v := ((Int64.toInt32 v2))) X.1 X.2.1 dX10_narrow_17 rfl ?_
      refine lv_i2s (v := ((Int32.toInt16 ((Int64.toInt32 v2))).toInt32)) X.1 X.2.1 dX10_narrow_18 rfl ?_
      refine lv_i2l (v := ((Int32.toInt64 ((Int32.toInt16 ((Int64.toInt32 v2))).toInt32)))) X.1 X.2.1 dX10_narrow_19 rfl ?_
      refine lv_goto (tgt := 54) X.1 X.2.1 dX10_narrow_20 (by decide) ?_
      obtain ⟨rfl, rfl⟩ := rt2 hf
      exact x_lret X hr hk M dX10_narrow_54
  · have hf := ifp c1 hf
    refine lv_lload_n X.1 X.2.1 dX10_narrow_4 rfl (lv_at hl 2 rfl) ?_
    refine lv_l2i (v := ((Int64.toInt32 v2))) X.1 X.2.1 dX10_narrow_5 rfl ?_
    refine lv_i2b (v := ((Int32.toInt8 ((Int64.toInt32 v2))).toInt32)) X.1 X.2.1 dX10_narrow_6 rfl ?_
    refine lv_i2l (v := ((Int32.toInt64 ((Int32.toInt8 ((Int64.toInt32 v2))).toInt32)))) X.1 X.2.1 dX10_narrow_7 rfl ?_
    refine lv_goto (tgt := 54) X.1 X.2.1 dX10_narrow_8 (by decide) ?_
    obtain ⟨rfl, rfl⟩ := rt2 hf
    exact x_lret X hr hk M dX10_narrow_54
theorem c_X10_narrow (l : Launch) (G : Gx) (N : Nat) (v0 : Nat) (v1 : Int32) (v2 : Int64) (h : Mem) (r : Int64) (h' : Mem) (hf : f_X10_narrow N v0 v1 v2 h = some (r, h')) : MetG l G yX10_narrow (.code yX10_narrow cX10_narrow 4 (Option.some Jvm.ClassFile.FieldType.long)) rm_X10_narrow [.ref (gB G + v0), .int v1, .long v2] h (QcL G r h') 0 0 :=
  x_met (by decide) rfl (Nat.le_of_ble_eq_true rfl) (fun p e s m args below meth c ls X M hr hk hin hl => w_X10_narrow X hr hk N v0 v1 v2 h hf _ _ ls M hl)
abbrev rm_X10_item : Room := { frames := 3, cells := 0, slots := 0, locals := 84 }
def f_X10_item (N : Nat) (v0 : Nat) (v1 : Int32) (v2 : Int32) (v3 : Int64) (h : Mem) : Option (Int32 × Mem) :=
  (ck h v0 10).bind fun _ =>
  b2 (f_X10_isTape N v0 v1 h) fun t4 h3 =>
  if t4 = 0 then
    some ((-1 : Int32), h3)
  else
    (gR h3 v0 10 57).bind fun t6 =>
    (lI 100 h3 t6 v1).bind fun t8 =>
    if 0 ≤ t8 then
      (gR h3 v0 10 58).bind fun t11 =>
      (lI 100 h3 t11 v1).bind fun t13 =>
      (ck h3 v0 10).bind fun _ =>
      b2 (f_X10_in N v0 v2 (0 : Int32) (t13 - (1 : Int32)) h3) fun t18 h17 =>
      if t18 = 0 then
        some ((-13 : Int32), h17)
      else
        (gR h17 v0 10 59).bind fun t20 =>
        (gR h17 v0 10 57).bind fun t22 =>
        (lI 100 h17 t22 v1).bind fun t24 =>
        (ck h17 v0 10).bind fun _ =>
        b2 (f_X10_narrow N v0 t24 v3 h17) fun t29 h28 =>
        (stJ h28 t20 (((60 : Int32) * v1) + v2) t29).bind fun h30 =>
        some ((1 : Int32), h30)
    else
      some ((-11 : Int32), h3)
set_option maxRecDepth 100000 in
set_option maxHeartbeats 4000000 in
theorem w_X10_item {p : Program} {l : Launch} {e : Env} {s : State} {m : MethodId} {args : Array Value} {below : List Frame} {meth : Method} {c : Code} {G : Gx} {r : Int32} {h' : Mem} (X : CX G p s m args c cX10_item 5 RX10) (hr : meth.sig.returnType = (Option.some Jvm.ClassFile.FieldType.int)) (hk : meth.locks = false) (N : Nat) : ∀ (v0 : Nat) (v1 : Int32) (v2 : Int32) (v3 : Int64) (h : Mem), f_X10_item N v0 v1 v2 v3 h = some (r, h') → ∀ (H : Heap) (locs : List Loc) (ls : Array Slot), MS G s h H locs 0 → lv_has ls 5 [(0, .ref (gB G + v0)), (1, .int v1), (2, .int v2), (3, .long v3)] → W p l e (rm_X10_item) s m args below meth c H locs 0 0 (QI G below args s r h' 0 0) (F0 m 0 ls []) := by
  intro v0 v1 v2 v3 h hf H locs ls M hl
  rw [f_X10_item] at hf
  refine lv_aload_n X.1 X.2.1 dX10_item_0 rfl (lv_at hl 0 rfl) ?_
  refine lv_iload_n X.1 X.2.1 dX10_item_1 rfl (lv_at hl 1 rfl) ?_
  obtain ⟨⟨⟩, q1, hf⟩ := bnd hf
  obtain ⟨t4, h3, q2, hf⟩ := bnd2 hf
  refine x_callVi (As := [.int v1]) cf_X10_351 (c_X10_isTape l G N v0 v1 h _ _ q2) rfl ⟨rfl, rfl, Nat.le_of_ble_eq_true rfl, Nat.le_of_ble_eq_true rfl⟩ ⟨Nat.le_of_ble_eq_true rfl, Nat.le_of_ble_eq_true rfl⟩ X M (x_recv cls_X10 X M q1) rfl rfl hl.1 (Nat.le_of_ble_eq_true rfl) dX10_item_2 (fun H locs M => ?_)
  refine lv_if_ne (tgt := 10) X.1 X.2.1 dX10_item_5 (by decide) (fun c5 => ?_) (fun c5 => ?_)
  · have hf := ifn c5 hf
    refine lv_aload_n X.1 X.2.1 dX10_item_10 rfl (lv_at hl 0 rfl) ?_
    obtain ⟨t6, q7, hf⟩ := bnd hf
    refine x_getr fl_X10_185 X M q7 dX10_item_11 ?_
    refine lv_iload_n X.1 X.2.1 dX10_item_14 rfl (lv_at hl 1 rfl) ?_
    obtain ⟨t8, q9, hf⟩ := bnd hf
    refine x_iald X M q9 dX10_item_15 ?_
    refine lv_if_ge (tgt := 22) X.1 X.2.1 dX10_item_16 (by decide) (fun c10 => ?_) (fun c10 => ?_)
    · have hf := ifp c10 hf
      refine lv_aload_n X.1 X.2.1 dX10_item_22 rfl (lv_at hl 0 rfl) ?_
      refine lv_iload_n X.1 X.2.1 dX10_item_23 rfl (lv_at hl 2 rfl) ?_
      refine lv_iconst (v := (0 : Int32)) X.1 X.2.1 dX10_item_24 (by decide) ?_
      refine lv_aload_n X.1 X.2.1 dX10_item_25 rfl (lv_at hl 0 rfl) ?_
      obtain ⟨t11, q12, hf⟩ := bnd hf
      refine x_getr fl_X10_188 X M q12 dX10_item_26 ?_
      refine lv_iload_n X.1 X.2.1 dX10_item_29 rfl (lv_at hl 1 rfl) ?_
      obtain ⟨t13, q14, hf⟩ := bnd hf
      refine x_iald X M q14 dX10_item_30 ?_
      refine lv_iconst (v := (1 : Int32)) X.1 X.2.1 dX10_item_31 (by decide) ?_
      refine lv_isub X.1 X.2.1 dX10_item_32 ?_
      obtain ⟨⟨⟩, q15, hf⟩ := bnd hf
      obtain ⟨t18, h17, q16, hf⟩ := bnd2 hf
      refine x_callVi (As := [.int v2, .int (0 : Int32), .int (t13 - (1 : Int32))]) cf_X10_197 (c_X10_in l G N v0 v2 (0 : Int32) (t13 - (1 : Int32)) h3 _ _ q16) rfl ⟨rfl, rfl, Nat.le_of_ble_eq_true rfl, Nat.le_of_ble_eq_true rfl⟩ ⟨Nat.le_of_ble_eq_true rfl, Nat.le_of_ble_eq_true rfl⟩ X M (x_recv cls_X10 X M q15) rfl rfl hl.1 (Nat.le_of_ble_eq_true rfl) dX10_item_33 (fun H locs M => ?_)
      refine lv_if_ne (tgt := 42) X.1 X.2.1 dX10_item_36 (by decide) (fun c19 => ?_) (fun c19 => ?_)
      · have hf := ifn c19 hf
        refine lv_aload_n X.1 X.2.1 dX10_item_42 rfl (lv_at hl 0 rfl) ?_
        obtain ⟨t20, q21, hf⟩ := bnd hf
        refine x_getr fl_X10_191 X M q21 dX10_item_43 ?_
        refine lv_bipush (v := (60 : Int32)) X.1 X.2.1 dX10_item_46 (by decide) ?_
        refine lv_iload_n X.1 X.2.1 dX10_item_48 rfl (lv_at hl 1 rfl) ?_
        refine lv_imul X.1 X.2.1 dX10_item_49 ?_
        refine lv_iload_n X.1 X.2.1 dX10_item_50 rfl (lv_at hl 2 rfl) ?_
        refine lv_iadd X.1 X.2.1 dX10_item_51 ?_
        refine lv_aload_n X.1 X.2.1 dX10_item_52 rfl (lv_at hl 0 rfl) ?_
        refine lv_aload_n X.1 X.2.1 dX10_item_53 rfl (lv_at hl 0 rfl) ?_
        obtain ⟨t22, q23, hf⟩ := bnd hf
        refine x_getr fl_X10_185 X M q23 dX10_item_54 ?_
        refine lv_iload_n X.1 X.2.1 dX10_item_57 rfl (lv_at hl 1 rfl) ?_
        obtain ⟨t24, q25, hf⟩ := bnd hf
        refine x_iald X M q25 dX10_item_58 ?_
        refine lv_lload_n X.1 X.2.1 dX10_item_59 rfl (lv_at hl 3 rfl) ?_
        obtain ⟨⟨⟩, q26, hf⟩ := bnd hf
        obtain ⟨t29, h28, q27, hf⟩ := bnd2 hf
        refine x_callVl (As := [.int t24, .long v3]) cf_X10_423 (c_X10_narrow l G N v0 t24 v3 h17 _ _ q27) rfl ⟨rfl, rfl, Nat.le_of_ble_eq_true rfl, Nat.le_of_ble_eq_true rfl⟩ ⟨Nat.le_of_ble_eq_true rfl, Nat.le_of_ble_eq_true rfl⟩ X M (x_recv cls_X10 X M q26) rfl rfl hl.1 (Nat.le_of_ble_eq_true rfl) dX10_item_60 (fun H locs M => ?_)
        obtain ⟨h30, q31, hf⟩ := bnd hf
        refine x_last X M q31 dX10_item_63 (fun H locs M => ?_)
        refine lv_iconst (v := (1 : Int32)) X.1 X.2.1 dX10_item_64 (by decide) ?_
        obtain ⟨rfl, rfl⟩ := rt2 hf
        exact x_iret X hr hk M dX10_item_65
      · have hf := ifp c19 hf
        refine lv_bipush (v := (-13 : Int32)) X.1 X.2.1 dX10_item_39 (by decide) ?_
        obtain ⟨rfl, rfl⟩ := rt2 hf
        exact x_iret X hr hk M dX10_item_41
    · have hf := ifn c10 hf
      refine lv_bipush (v := (-11 : Int32)) X.1 X.2.1 dX10_item_19 (by decide) ?_
      obtain ⟨rfl, rfl⟩ := rt2 hf
      exact x_iret X hr hk M dX10_item_21
  · have hf := ifp c5 hf
    refine lv_iconst (v := (-1 : Int32)) X.1 X.2.1 dX10_item_8 (by decide) ?_
    obtain ⟨rfl, rfl⟩ := rt2 hf
    exact x_iret X hr hk M dX10_item_9
theorem c_X10_item (l : Launch) (G : Gx) (N : Nat) (v0 : Nat) (v1 : Int32) (v2 : Int32) (v3 : Int64) (h : Mem) (r : Int32) (h' : Mem) (hf : f_X10_item N v0 v1 v2 v3 h = some (r, h')) : MetG l G yX10_item (.code yX10_item cX10_item 5 (Option.some Jvm.ClassFile.FieldType.int)) rm_X10_item [.ref (gB G + v0), .int v1, .int v2, .long v3] h (QcI G r h') 0 0 :=
  x_met (by decide) rfl (Nat.le_of_ble_eq_true rfl) (fun p e s m args below meth c ls X M hr hk hin hl => w_X10_item X hr hk N v0 v1 v2 v3 h hf _ _ ls M hl)
abbrev rm_X10_read : Room := { frames := 3, cells := 0, slots := 0, locals := 84 }
def f_X10_read_34 (N : Nat) (h : Mem) : Option (Int64 × Mem) :=
  some ((-9223372036854775808 : Int64), h)
set_option maxRecDepth 100000 in
set_option maxHeartbeats 4000000 in
theorem w_X10_read_34 {p : Program} {l : Launch} {e : Env} {s : State} {m : MethodId} {args : Array Value} {below : List Frame} {meth : Method} {c : Code} {G : Gx} {r : Int64} {h' : Mem} (X : CX G p s m args c cX10_read 3 RX10) (hr : meth.sig.returnType = (Option.some Jvm.ClassFile.FieldType.long)) (hk : meth.locks = false) (N : Nat) : ∀ (h : Mem), f_X10_read_34 N  h = some (r, h') → ∀ (H : Heap) (locs : List Loc) (ls : Array Slot), MS G s h H locs 0 → lv_has ls 3 [] → W p l e (rm_X10_read) s m args below meth c H locs 0 0 (QL G below args s r h' 0 0) (F0 m 34 ls []) := by
  intro  h hf H locs ls M hl
  rw [f_X10_read_34] at hf
  refine lv_ldc2 X.1 X.2.1 X.2.2.2.1 (X.2.2.2.2.1 _ k_1175) dX10_read_34 ?_
  refine lv_goto (tgt := 51) X.1 X.2.1 dX10_read_37 (by decide) ?_
  obtain ⟨rfl, rfl⟩ := rt2 hf
  exact x_lret X hr hk M dX10_read_51
def f_X10_read (N : Nat) (v0 : Nat) (v1 : Int32) (v2 : Int32) (h : Mem) : Option (Int64 × Mem) :=
  (ck h v0 10).bind fun _ =>
  b2 (f_X10_isTape N v0 v1 h) fun t4 h3 =>
  if t4 = 0 then
    f_X10_read_34 N h3
  else
    (gR h3 v0 10 57).bind fun t6 =>
    (lI 100 h3 t6 v1).bind fun t8 =>
    if t8 < 0 then
      f_X10_read_34 N h3
    else
      (gR h3 v0 10 58).bind fun t11 =>
      (lI 100 h3 t11 v1).bind fun t13 =>
      (ck h3 v0 10).bind fun _ =>
      b2 (f_X10_in N v0 v2 (0 : Int32) (t13 - (1 : Int32)) h3) fun t18 h17 =>
      if t18 = 0 then
        f_X10_read_34 N h17
      else
        (gR h17 v0 10 59).bind fun t20 =>
        (lJ h17 t20 (((60 : Int32) * v1) + v2)).bind fun t22 =>
        some (t22, h17)
set_option maxRecDepth 100000 in
set_option maxHeartbeats 4000000 in
theorem w_X10_read {p : Program} {l : Launch} {e : Env} {s : State} {m : MethodId} {args : Array Value} {below : List Frame} {meth : Method} {c : Code} {G : Gx} {r : Int64} {h' : Mem} (X : CX G p s m args c cX10_read 3 RX10) (hr : meth.sig.returnType = (Option.some Jvm.ClassFile.FieldType.long)) (hk : meth.locks = false) (N : Nat) : ∀ (v0 : Nat) (v1 : Int32) (v2 : Int32) (h : Mem), f_X10_read N v0 v1 v2 h = some (r, h') → ∀ (H : Heap) (locs : List Loc) (ls : Array Slot), MS G s h H locs 0 → lv_has ls 3 [(0, .ref (gB G + v0)), (1, .int v1), (2, .int v2)] → W p l e (rm_X10_read) s m args below meth c H locs 0 0 (QL G below args s r h' 0 0) (F0 m 0 ls []) := by
  intro v0 v1 v2 h hf H locs ls M hl
  rw [f_X10_read] at hf
  refine lv_aload_n X.1 X.2.1 dX10_read_0 rfl (lv_at hl 0 rfl) ?_
  refine lv_iload_n X.1 X.2.1 dX10_read_1 rfl (lv_at hl 1 rfl) ?_
  obtain ⟨⟨⟩, q1, hf⟩ := bnd hf
  obtain ⟨t4, h3, q2, hf⟩ := bnd2 hf
  refine x_callVi (As := [.int v1]) cf_X10_351 (c_X10_isTape l G N v0 v1 h _ _ q2) rfl ⟨rfl, rfl, Nat.le_of_ble_eq_true rfl, Nat.le_of_ble_eq_true rfl⟩ ⟨Nat.le_of_ble_eq_true rfl, Nat.le_of_ble_eq_true rfl⟩ X M (x_recv cls_X10 X M q1) rfl rfl hl.1 (Nat.le_of_ble_eq_true rfl) dX10_read_2 (fun H locs M => ?_)
  refine lv_if_eq (tgt := 34) X.1 X.2.1 dX10_read_5 (by decide) (fun c5 => ?_) (fun c5 => ?_)
  · have hf := ifp c5 hf
    exact w_X10_read_34 X hr hk N h3 hf _ _ _ M (lv_sub hl [] rfl)
  · have hf := ifn c5 hf
    refine lv_aload_n X.1 X.2.1 dX10_read_8 rfl (lv_at hl 0 rfl) ?_
    obtain ⟨t6, q7, hf⟩ := bnd hf
    refine x_getr fl_X10_185 X M q7 dX10_read_9 ?_
    refine lv_iload_n X.1 X.2.1 dX10_read_12 rfl (lv_at hl 1 rfl) ?_
    obtain ⟨t8, q9, hf⟩ := bnd hf
    refine x_iald X M q9 dX10_read_13 ?_
    refine lv_if_lt (tgt := 34) X.1 X.2.1 dX10_read_14 (by decide) (fun c10 => ?_) (fun c10 => ?_)
    · have hf := ifp c10 hf
      exact w_X10_read_34 X hr hk N h3 hf _ _ _ M (lv_sub hl [] rfl)
    · have hf := ifn c10 hf
      refine lv_aload_n X.1 X.2.1 dX10_read_17 rfl (lv_at hl 0 rfl) ?_
      refine lv_iload_n X.1 X.2.1 dX10_read_18 rfl (lv_at hl 2 rfl) ?_
      refine lv_iconst (v := (0 : Int32)) X.1 X.2.1 dX10_read_19 (by decide) ?_
      refine lv_aload_n X.1 X.2.1 dX10_read_20 rfl (lv_at hl 0 rfl) ?_
      obtain ⟨t11, q12, hf⟩ := bnd hf
      refine x_getr fl_X10_188 X M q12 dX10_read_21 ?_
      refine lv_iload_n X.1 X.2.1 dX10_read_24 rfl (lv_at hl 1 rfl) ?_
      obtain ⟨t13, q14, hf⟩ := bnd hf
      refine x_iald X M q14 dX10_read_25 ?_
      refine lv_iconst (v := (1 : Int32)) X.1 X.2.1 dX10_read_26 (by decide) ?_
      refine lv_isub X.1 X.2.1 dX10_read_27 ?_
      obtain ⟨⟨⟩, q15, hf⟩ := bnd hf
      obtain ⟨t18, h17, q16, hf⟩ := bnd2 hf
      refine x_callVi (As := [.int v2, .int (0 : Int32), .int (t13 - (1 : Int32))]) cf_X10_197 (c_X10_in l G N v0 v2 (0 : Int32) (t13 - (1 : Int32)) h3 _ _ q16) rfl ⟨rfl, rfl, Nat.le_of_ble_eq_true rfl, Nat.le_of_ble_eq_true rfl⟩ ⟨Nat.le_of_ble_eq_true rfl, Nat.le_of_ble_eq_true rfl⟩ X M (x_recv cls_X10 X M q15) rfl rfl hl.1 (Nat.le_of_ble_eq_true rfl) dX10_read_28 (fun H locs M => ?_)
      refine lv_if_ne (tgt := 40) X.1 X.2.1 dX10_read_31 (by decide) (fun c19 => ?_) (fun c19 => ?_)
      · have hf := ifn c19 hf
        refine lv_aload_n X.1 X.2.1 dX10_read_40 rfl (lv_at hl 0 rfl) ?_
        obtain ⟨t20, q21, hf⟩ := bnd hf
        refine x_getr fl_X10_191 X M q21 dX10_read_41 ?_
        refine lv_bipush (v := (60 : Int32)) X.1 X.2.1 dX10_read_44 (by decide) ?_
        refine lv_iload_n X.1 X.2.1 dX10_read_46 rfl (lv_at hl 1 rfl) ?_
        refine lv_imul X.1 X.2.1 dX10_read_47 ?_
        refine lv_iload_n X.1 X.2.1 dX10_read_48 rfl (lv_at hl 2 rfl) ?_
        refine lv_iadd X.1 X.2.1 dX10_read_49 ?_
        obtain ⟨t22, q23, hf⟩ := bnd hf
        refine x_lald X M q23 dX10_read_50 ?_
        obtain ⟨rfl, rfl⟩ := rt2 hf
        exact x_lret X hr hk M dX10_read_51
      · have hf := ifp c19 hf
        exact w_X10_read_34 X hr hk N h17 hf _ _ _ M (lv_sub hl [] rfl)
theorem c_X10_read (l : Launch) (G : Gx) (N : Nat) (v0 : Nat) (v1 : Int32) (v2 : Int32) (h : Mem) (r : Int64) (h' : Mem) (hf : f_X10_read N v0 v1 v2 h = some (r, h')) : MetG l G yX10_read (.code yX10_read cX10_read 3 (Option.some Jvm.ClassFile.FieldType.long)) rm_X10_read [.ref (gB G + v0), .int v1, .int v2] h (QcL G r h') 0 0 :=
  x_met (by decide) rfl (Nat.le_of_ble_eq_true rfl) (fun p e s m args below meth c ls X M hr hk hin hl => w_X10_read X hr hk N v0 v1 v2 h hf _ _ ls M hl)
abbrev rm_X10_shift : Room := { frames := 3, cells := 0, slots := 0, locals := 84 }
def f_X10_shift_141 (N : Nat) (n : Nat) (v0 : Nat) (v3 : Int32) (v4 : Int32) (v5 : Int32) (v6 : Int32) (h : Mem) : Option (Int32 × Mem) := match n with
  | 0 => none
  | n + 1 =>
    if v5 ≤ v6 then
      some (v5, h)
    else
      (gR h v0 10 59).bind fun t2 =>
      (gR h v0 10 60).bind fun t4 =>
      (lJ h t4 v6).bind fun t6 =>
      (stJ h t2 ((((60 : Int32) * v3) + v4) + v6) t6).bind fun h8 =>
      f_X10_shift_141 N n v0 v3 v4 v5 (v6 + 1) h8
set_option maxRecDepth 100000 in
set_option maxHeartbeats 4000000 in
theorem w_X10_shift_141 {p : Program} {l : Launch} {e : Env} {s : State} {m : MethodId} {args : Array Value} {below : List Frame} {meth : Method} {c : Code} {G : Gx} {r : Int32} {h' : Mem} (X : CX G p s m args c cX10_shift 7 RX10) (hr : meth.sig.returnType = (Option.some Jvm.ClassFile.FieldType.int)) (hk : meth.locks = false) (N : Nat) : ∀ (n : Nat) (v0 : Nat) (v3 : Int32) (v4 : Int32) (v5 : Int32) (v6 : Int32) (h : Mem), f_X10_shift_141 N n v0 v3 v4 v5 v6 h = some (r, h') → ∀ (H : Heap) (locs : List Loc) (ls : Array Slot), MS G s h H locs 0 → lv_has ls 7 [(0, .ref (gB G + v0)), (3, .int v3), (4, .int v4), (5, .int v5), (6, .int v6)] → W p l e (rm_X10_shift) s m args below meth c H locs 0 0 (QI G below args s r h' 0 0) (F0 m 141 ls []) := by
  intro n
  induction n with
  | zero =>
    intro v0 v3 v4 v5 v6 h hf
    cases hf
  | succ n ih =>
    intro v0 v3 v4 v5 v6 h hf H locs ls M hl
    rw [f_X10_shift_141] at hf
    refine lv_iload X.1 X.2.1 dX10_shift_141 (lv_at hl 4 rfl) ?_
    refine lv_iload X.1 X.2.1 dX10_shift_143 (lv_at hl 3 rfl) ?_
    refine lv_icmp_ge (tgt := 176) X.1 X.2.1 dX10_shift_145 (by decide) (fun c1 => ?_) (fun c1 => ?_)
    · have hf := ifp c1 hf
      refine lv_iload X.1 X.2.1 dX10_shift_176 (lv_at hl 3 rfl) ?_
      obtain ⟨rfl, rfl⟩ := rt2 hf
      exact x_iret X hr hk M dX10_shift_178
    · have hf := ifn c1 hf
      refine lv_aload_n X.1 X.2.1 dX10_shift_148 rfl (lv_at hl 0 rfl) ?_
      obtain ⟨t2, q3, hf⟩ := bnd hf
      refine x_getr fl_X10_191 X M q3 dX10_shift_149 ?_
      refine lv_bipush (v := (60 : Int32)) X.1 X.2.1 dX10_shift_152 (by decide) ?_
      refine lv_iload_n X.1 X.2.1 dX10_shift_154 rfl (lv_at hl 1 rfl) ?_
      refine lv_imul X.1 X.2.1 dX10_shift_155 ?_
      refine lv_iload X.1 X.2.1 dX10_shift_156 (lv_at hl 2 rfl) ?_
      refine lv_iadd X.1 X.2.1 dX10_shift_158 ?_
      refine lv_iload X.1 X.2.1 dX10_shift_159 (lv_at hl 4 rfl) ?_
      refine lv_iadd X.1 X.2.1 dX10_shift_161 ?_
      refine lv_aload_n X.1 X.2.1 dX10_shift_162 rfl (lv_at hl 0 rfl) ?_
      obtain ⟨t4, q5, hf⟩ := bnd hf
      refine x_getr fl_X10_194 X M q5 dX10_shift_163 ?_
      refine lv_iload X.1 X.2.1 dX10_shift_166 (lv_at hl 4 rfl) ?_
      obtain ⟨t6, q7, hf⟩ := bnd hf
      refine x_lald X M q7 dX10_shift_168 ?_
      obtain ⟨h8, q9, hf⟩ := bnd hf
      refine x_last X M q9 dX10_shift_169 (fun H locs M => ?_)
      refine lv_iinc (v := (v6 + 1)) (lv' := [(6, .int (v6 + 1)), (0, .ref (gB G + v0)), (3, .int v3), (4, .int v4), (5, .int v5)]) X.1 X.2.1 dX10_shift_170 hl (k := 4) rfl (by first | rfl | decide) (by decide) rfl (fun ls hl => ?_)
      refine lv_goto (tgt := 141) X.1 X.2.1 dX10_shift_173 (by decide) ?_
      exact ih v0 v3 v4 v5 (v6 + 1) h8 hf _ _ _ M (lv_sub hl [1, 2, 3, 4, 0] rfl)
def f_X10_shift_104 (N : Nat) (n : Nat) (v0 : Nat) (v1 : Int32) (v2 : Int32) (v3 : Int32) (v4 : Int32) (v5 : Int32) (v6 : Int32) (h : Mem) : Option (Int32 × Mem) := match n with
  | 0 => none
  | n + 1 =>
    if v5 ≤ v6 then
      f_X10_shift_141 N N v0 v3 v4 v5 (0 : Int32) h
    else
      (gR h v0 10 60).bind fun t2 =>
      (gR h v0 10 59).bind fun t4 =>
      (lJ h t4 ((((60 : Int32) * v1) + v2) + v6)).bind fun t6 =>
      (stJ h t2 v6 t6).bind fun h8 =>
      f_X10_shift_104 N n v0 v1 v2 v3 v4 v5 (v6 + 1) h8
set_option maxRecDepth 100000 in
set_option maxHeartbeats 4000000 in
theorem w_X10_shift_104 {p : Program} {l : Launch} {e : Env} {s : State} {m : MethodId} {args : Array Value} {below : List Frame} {meth : Method} {c : Code} {G : Gx} {r : Int32} {h' : Mem} (X : CX G p s m args c cX10_shift 7 RX10) (hr : meth.sig.returnType = (Option.some Jvm.ClassFile.FieldType.int)) (hk : meth.locks = false) (N : Nat) : ∀ (n : Nat) (v0 : Nat) (v1 : Int32) (v2 : Int32) (v3 : Int32) (v4 : Int32) (v5 : Int32) (v6 : Int32) (h : Mem), f_X10_shift_104 N n v0 v1 v2 v3 v4 v5 v6 h = some (r, h') → ∀ (H : Heap) (locs : List Loc) (ls : Array Slot), MS G s h H locs 0 → lv_has ls 7 [(0, .ref (gB G + v0)), (1, .int v1), (2, .int v2), (3, .int v3), (4, .int v4), (5, .int v5), (6, .int v6)] → W p l e (rm_X10_shift) s m args below meth c H locs 0 0 (QI G below args s r h' 0 0) (F0 m 104 ls []) := by
  intro n
  induction n with
  | zero =>
    intro v0 v1 v2 v3 v4 v5 v6 h hf
    cases hf
  | succ n ih =>
    intro v0 v1 v2 v3 v4 v5 v6 h hf H locs ls M hl
    rw [f_X10_shift_104] at hf
    refine lv_iload X.1 X.2.1 dX10_shift_104 (lv_at hl 6 rfl) ?_
    refine lv_iload X.1 X.2.1 dX10_shift_106 (lv_at hl 5 rfl) ?_
    refine lv_icmp_ge (tgt := 138) X.1 X.2.1 dX10_shift_108 (by decide) (fun c1 => ?_) (fun c1 => ?_)
    · have hf := ifp c1 hf
      refine lv_iconst (v := (0 : Int32)) X.1 X.2.1 dX10_shift_138 (by decide) ?_
      refine lv_istore (lv' := [(6, .int (0 : Int32)), (0, .ref (gB G + v0)), (1, .int v1), (2, .int v2), (3, .int v3), (4, .int v4), (5, .int v5)]) X.1 X.2.1 dX10_shift_139 hl (by decide) rfl (fun ls hl => ?_)
      exact w_X10_shift_141 X hr hk N N v0 v3 v4 v5 (0 : Int32) h hf _ _ _ M (lv_sub hl [1, 4, 5, 6, 0] rfl)
    · have hf := ifn c1 hf
      refine lv_aload_n X.1 X.2.1 dX10_shift_111 rfl (lv_at hl 0 rfl) ?_
      obtain ⟨t2, q3, hf⟩ := bnd hf
      refine x_getr fl_X10_194 X M q3 dX10_shift_112 ?_
      refine lv_iload X.1 X.2.1 dX10_shift_115 (lv_at hl 6 rfl) ?_
      refine lv_aload_n X.1 X.2.1 dX10_shift_117 rfl (lv_at hl 0 rfl) ?_
      obtain ⟨t4, q5, hf⟩ := bnd hf
      refine x_getr fl_X10_191 X M q5 dX10_shift_118 ?_
      refine lv_bipush (v := (60 : Int32)) X.1 X.2.1 dX10_shift_121 (by decide) ?_
      refine lv_iload_n X.1 X.2.1 dX10_shift_123 rfl (lv_at hl 1 rfl) ?_
      refine lv_imul X.1 X.2.1 dX10_shift_124 ?_
      refine lv_iload_n X.1 X.2.1 dX10_shift_125 rfl (lv_at hl 2 rfl) ?_
      refine lv_iadd X.1 X.2.1 dX10_shift_126 ?_
      refine lv_iload X.1 X.2.1 dX10_shift_127 (lv_at hl 6 rfl) ?_
      refine lv_iadd X.1 X.2.1 dX10_shift_129 ?_
      obtain ⟨t6, q7, hf⟩ := bnd hf
      refine x_lald X M q7 dX10_shift_130 ?_
      obtain ⟨h8, q9, hf⟩ := bnd hf
      refine x_last X M q9 dX10_shift_131 (fun H locs M => ?_)
      refine lv_iinc (v := (v6 + 1)) (lv' := [(6, .int (v6 + 1)), (0, .ref (gB G + v0)), (1, .int v1), (2, .int v2), (3, .int v3), (4, .int v4), (5, .int v5)]) X.1 X.2.1 dX10_shift_132 hl (k := 6) rfl (by first | rfl | decide) (by decide) rfl (fun ls hl => ?_)
      refine lv_goto (tgt := 104) X.1 X.2.1 dX10_shift_135 (by decide) ?_
      exact ih v0 v1 v2 v3 v4 v5 (v6 + 1) h8 hf _ _ _ M (lv_sub hl [1, 2, 3, 4, 5, 6, 0] rfl)
def f_X10_shift (N : Nat) (v0 : Nat) (v1 : Int32) (v2 : Int32) (v3 : Int32) (v4 : Int32) (v5 : Int32) (h : Mem) : Option (Int32 × Mem) :=
  (ck h v0 10).bind fun _ =>
  b2 (f_X10_isTape N v0 v1 h) fun t4 h3 =>
  if t4 = 0 then
    some ((-1 : Int32), h3)
  else
    (ck h3 v0 10).bind fun _ =>
    b2 (f_X10_isTape N v0 v3 h3) fun t9 h8 =>
    if t9 = 0 then
      some ((-1 : Int32), h8)
    else
      (gR h8 v0 10 57).bind fun t11 =>
      (lI 100 h8 t11 v1).bind fun t13 =>
      if t13 < 0 then
        some ((-11 : Int32), h8)
      else
        (gR h8 v0 10 57).bind fun t16 =>
        (lI 100 h8 t16 v3).bind fun t18 =>
        if 0 ≤ t18 then
          (gR h8 v0 10 57).bind fun t21 =>
          (lI 100 h8 t21 v1).bind fun t23 =>
          (gR h8 v0 10 57).bind fun t25 =>
          (lI 100 h8 t25 v3).bind fun t27 =>
          if t23 = t27 then
            if v5 < 0 then
              some ((-13 : Int32), h8)
            else
              if v2 < 0 then
                some ((-13 : Int32), h8)
              else
                if v4 < 0 then
                  some ((-13 : Int32), h8)
                else
                  (gR h8 v0 10 58).bind fun t33 =>
                  (lI 100 h8 t33 v1).bind fun t35 =>
                  if (t35 - v5) < v2 then
                    some ((-13 : Int32), h8)
                  else
                    (gR h8 v0 10 58).bind fun t38 =>
                    (lI 100 h8 t38 v3).bind fun t40 =>
                    if v4 ≤ (t40 - v5) then
                      f_X10_shift_104 N N v0 v1 v2 v3 v4 v5 (0 : Int32) h8
                    else
                      some ((-13 : Int32), h8)
          else
            some ((-12 : Int32), h8)
        else
          some ((-11 : Int32), h8)
set_option maxRecDepth 100000 in
set_option maxHeartbeats 4000000 in
theorem w_X10_shift {p : Program} {l : Launch} {e : Env} {s : State} {m : MethodId} {args : Array Value} {below : List Frame} {meth : Method} {c : Code} {G : Gx} {r : Int32} {h' : Mem} (X : CX G p s m args c cX10_shift 7 RX10) (hr : meth.sig.returnType = (Option.some Jvm.ClassFile.FieldType.int)) (hk : meth.locks = false) (N : Nat) : ∀ (v0 : Nat) (v1 : Int32) (v2 : Int32) (v3 : Int32) (v4 : Int32) (v5 : Int32) (h : Mem), f_X10_shift N v0 v1 v2 v3 v4 v5 h = some (r, h') → ∀ (H : Heap) (locs : List Loc) (ls : Array Slot), MS G s h H locs 0 → lv_has ls 7 [(0, .ref (gB G + v0)), (1, .int v1), (2, .int v2), (3, .int v3), (4, .int v4), (5, .int v5)] → W p l e (rm_X10_shift) s m args below meth c H locs 0 0 (QI G below args s r h' 0 0) (F0 m 0 ls []) := by
  intro v0 v1 v2 v3 v4 v5 h hf H locs ls M hl
  rw [f_X10_shift] at hf
  refine lv_aload_n X.1 X.2.1 dX10_shift_0 rfl (lv_at hl 0 rfl) ?_
  refine lv_iload_n X.1 X.2.1 dX10_shift_1 rfl (lv_at hl 1 rfl) ?_
  obtain ⟨⟨⟩, q1, hf⟩ := bnd hf
  obtain ⟨t4, h3, q2, hf⟩ := bnd2 hf
  refine x_callVi (As := [.int v1]) cf_X10_351 (c_X10_isTape l G N v0 v1 h _ _ q2) rfl ⟨rfl, rfl, Nat.le_of_ble_eq_true rfl, Nat.le_of_ble_eq_true rfl⟩ ⟨Nat.le_of_ble_eq_true rfl, Nat.le_of_ble_eq_true rfl⟩ X M (x_recv cls_X10 X M q1) rfl rfl hl.1 (Nat.le_of_ble_eq_true rfl) dX10_shift_2 (fun H locs M => ?_)
  refine lv_if_eq (tgt := 16) X.1 X.2.1 dX10_shift_5 (by decide) (fun c5 => ?_) (fun c5 => ?_)
  · have hf := ifp c5 hf
    refine lv_iconst (v := (-1 : Int32)) X.1 X.2.1 dX10_shift_16 (by decide) ?_
    obtain ⟨rfl, rfl⟩ := rt2 hf
    exact x_iret X hr hk M dX10_shift_17
  · have hf := ifn c5 hf
    refine lv_aload_n X.1 X.2.1 dX10_shift_8 rfl (lv_at hl 0 rfl) ?_
    refine lv_iload_n X.1 X.2.1 dX10_shift_9 rfl (lv_at hl 3 rfl) ?_
    obtain ⟨⟨⟩, q6, hf⟩ := bnd hf
    obtain ⟨t9, h8, q7, hf⟩ := bnd2 hf
    refine x_callVi (As := [.int v3]) cf_X10_351 (c_X10_isTape l G N v0 v3 h3 _ _ q7) rfl ⟨rfl, rfl, Nat.le_of_ble_eq_true rfl, Nat.le_of_ble_eq_true rfl⟩ ⟨Nat.le_of_ble_eq_true rfl, Nat.le_of_ble_eq_true rfl⟩ X M (x_recv cls_X10 X M q6) rfl rfl hl.1 (Nat.le_of_ble_eq_true rfl) dX10_shift_10 (fun H locs M => ?_)
    refine lv_if_ne (tgt := 18) X.1 X.2.1 dX10_shift_13 (by decide) (fun c10 => ?_) (fun c10 => ?_)
    · have hf := ifn c10 hf
      refine lv_aload_n X.1 X.2.1 dX10_shift_18 rfl (lv_at hl 0 rfl) ?_
      obtain ⟨t11, q12, hf⟩ := bnd hf
      refine x_getr fl_X10_185 X M q12 dX10_shift_19 ?_
      refine lv_iload_n X.1 X.2.1 dX10_shift_22 rfl (lv_at hl 1 rfl) ?_
      obtain ⟨t13, q14, hf⟩ := bnd hf
      refine x_iald X M q14 dX10_shift_23 ?_
      refine lv_if_lt (tgt := 36) X.1 X.2.1 dX10_shift_24 (by decide) (fun c15 => ?_) (fun c15 => ?_)
      · have hf := ifp c15 hf
        refine lv_bipush (v := (-11 : Int32)) X.1 X.2.1 dX10_shift_36 (by decide) ?_
        obtain ⟨rfl, rfl⟩ := rt2 hf
        exact x_iret X hr hk M dX10_shift_38
      · have hf := ifn c15 hf
        refine lv_aload_n X.1 X.2.1 dX10_shift_27 rfl (lv_at hl 0 rfl) ?_
        obtain ⟨t16, q17, hf⟩ := bnd hf
        refine x_getr fl_X10_185 X M q17 dX10_shift_28 ?_
        refine lv_iload_n X.1 X.2.1 dX10_shift_31 rfl (lv_at hl 3 rfl) ?_
        obtain ⟨t18, q19, hf⟩ := bnd hf
        refine x_iald X M q19 dX10_shift_32 ?_
        refine lv_if_ge (tgt := 39) X.1 X.2.1 dX10_shift_33 (by decide) (fun c20 => ?_) (fun c20 => ?_)
        · have hf := ifp c20 hf
          refine lv_aload_n X.1 X.2.1 dX10_shift_39 rfl (lv_at hl 0 rfl) ?_
          obtain ⟨t21, q22, hf⟩ := bnd hf
          refine x_getr fl_X10_185 X M q22 dX10_shift_40 ?_
          refine lv_iload_n X.1 X.2.1 dX10_shift_43 rfl (lv_at hl 1 rfl) ?_
          obtain ⟨t23, q24, hf⟩ := bnd hf
          refine x_iald X M q24 dX10_shift_44 ?_
          refine lv_aload_n X.1 X.2.1 dX10_shift_45 rfl (lv_at hl 0 rfl) ?_
          obtain ⟨t25, q26, hf⟩ := bnd hf
          refine x_getr fl_X10_185 X M q26 dX10_shift_46 ?_
          refine lv_iload_n X.1 X.2.1 dX10_shift_49 rfl (lv_at hl 3 rfl) ?_
          obtain ⟨t27, q28, hf⟩ := bnd hf
          refine x_iald X M q28 dX10_shift_50 ?_
          refine lv_icmp_eq (tgt := 57) X.1 X.2.1 dX10_shift_51 (by decide) (fun c29 => ?_) (fun c29 => ?_)
          · have hf := ifp c29 hf
            refine lv_iload X.1 X.2.1 dX10_shift_57 (lv_at hl 5 rfl) ?_
            refine lv_if_lt (tgt := 98) X.1 X.2.1 dX10_shift_59 (by decide) (fun c30 => ?_) (fun c30 => ?_)
            · have hf := ifp c30 hf
              refine lv_bipush (v := (-13 : Int32)) X.1 X.2.1 dX10_shift_98 (by decide) ?_
              obtain ⟨rfl, rfl⟩ := rt2 hf
              exact x_iret X hr hk M dX10_shift_100
            · have hf := ifn c30 hf
              refine lv_iload_n X.1 X.2.1 dX10_shift_62 rfl (lv_at hl 2 rfl) ?_
              refine lv_if_lt (tgt := 98) X.1 X.2.1 dX10_shift_63 (by decide) (fun c31 => ?_) (fun c31 => ?_)
              · have hf := ifp c31 hf
                refine lv_bipush (v := (-13 : Int32)) X.1 X.2.1 dX10_shift_98 (by decide) ?_
                obtain ⟨rfl, rfl⟩ := rt2 hf
                exact x_iret X hr hk M dX10_shift_100
              · have hf := ifn c31 hf
                refine lv_iload X.1 X.2.1 dX10_shift_66 (lv_at hl 4 rfl) ?_
                refine lv_if_lt (tgt := 98) X.1 X.2.1 dX10_shift_68 (by decide) (fun c32 => ?_) (fun c32 => ?_)
                · have hf := ifp c32 hf
                  refine lv_bipush (v := (-13 : Int32)) X.1 X.2.1 dX10_shift_98 (by decide) ?_
                  obtain ⟨rfl, rfl⟩ := rt2 hf
                  exact x_iret X hr hk M dX10_shift_100
                · have hf := ifn c32 hf
                  refine lv_iload_n X.1 X.2.1 dX10_shift_71 rfl (lv_at hl 2 rfl) ?_
                  refine lv_aload_n X.1 X.2.1 dX10_shift_72 rfl (lv_at hl 0 rfl) ?_
                  obtain ⟨t33, q34, hf⟩ := bnd hf
                  refine x_getr fl_X10_188 X M q34 dX10_shift_73 ?_
                  refine lv_iload_n X.1 X.2.1 dX10_shift_76 rfl (lv_at hl 1 rfl) ?_
                  obtain ⟨t35, q36, hf⟩ := bnd hf
                  refine x_iald X M q36 dX10_shift_77 ?_
                  refine lv_iload X.1 X.2.1 dX10_shift_78 (lv_at hl 5 rfl) ?_
                  refine lv_isub X.1 X.2.1 dX10_shift_80 ?_
                  refine lv_icmp_gt (tgt := 98) X.1 X.2.1 dX10_shift_81 (by decide) (fun c37 => ?_) (fun c37 => ?_)
                  · have hf := ifp c37 hf
                    refine lv_bipush (v := (-13 : Int32)) X.1 X.2.1 dX10_shift_98 (by decide) ?_
                    obtain ⟨rfl, rfl⟩ := rt2 hf
                    exact x_iret X hr hk M dX10_shift_100
                  · have hf := ifn c37 hf
                    refine lv_iload X.1 X.2.1 dX10_shift_84 (lv_at hl 4 rfl) ?_
                    refine lv_aload_n X.1 X.2.1 dX10_shift_86 rfl (lv_at hl 0 rfl) ?_
                    obtain ⟨t38, q39, hf⟩ := bnd hf
                    refine x_getr fl_X10_188 X M q39 dX10_shift_87 ?_
                    refine lv_iload_n X.1 X.2.1 dX10_shift_90 rfl (lv_at hl 3 rfl) ?_
                    obtain ⟨t40, q41, hf⟩ := bnd hf
                    refine x_iald X M q41 dX10_shift_91 ?_
                    refine lv_iload X.1 X.2.1 dX10_shift_92 (lv_at hl 5 rfl) ?_
                    refine lv_isub X.1 X.2.1 dX10_shift_94 ?_
                    refine lv_icmp_le (tgt := 101) X.1 X.2.1 dX10_shift_95 (by decide) (fun c42 => ?_) (fun c42 => ?_)
                    · have hf := ifp c42 hf
                      refine lv_iconst (v := (0 : Int32)) X.1 X.2.1 dX10_shift_101 (by decide) ?_
                      refine lv_istore (lv' := [(6, .int (0 : Int32)), (0, .ref (gB G + v0)), (1, .int v1), (2, .int v2), (3, .int v3), (4, .int v4), (5, .int v5)]) X.1 X.2.1 dX10_shift_102 hl (by decide) rfl (fun ls hl => ?_)
                      exact w_X10_shift_104 X hr hk N N v0 v1 v2 v3 v4 v5 (0 : Int32) h8 hf _ _ _ M (lv_sub hl [1, 2, 3, 4, 5, 6, 0] rfl)
                    · have hf := ifn c42 hf
                      refine lv_bipush (v := (-13 : Int32)) X.1 X.2.1 dX10_shift_98 (by decide) ?_
                      obtain ⟨rfl, rfl⟩ := rt2 hf
                      exact x_iret X hr hk M dX10_shift_100
          · have hf := ifn c29 hf
            refine lv_bipush (v := (-12 : Int32)) X.1 X.2.1 dX10_shift_54 (by decide) ?_
            obtain ⟨rfl, rfl⟩ := rt2 hf
            exact x_iret X hr hk M dX10_shift_56
        · have hf := ifn c20 hf
          refine lv_bipush (v := (-11 : Int32)) X.1 X.2.1 dX10_shift_36 (by decide) ?_
          obtain ⟨rfl, rfl⟩ := rt2 hf
          exact x_iret X hr hk M dX10_shift_38
    · have hf := ifp c10 hf
      refine lv_iconst (v := (-1 : Int32)) X.1 X.2.1 dX10_shift_16 (by decide) ?_
      obtain ⟨rfl, rfl⟩ := rt2 hf
      exact x_iret X hr hk M dX10_shift_17
theorem c_X10_shift (l : Launch) (G : Gx) (N : Nat) (v0 : Nat) (v1 : Int32) (v2 : Int32) (v3 : Int32) (v4 : Int32) (v5 : Int32) (h : Mem) (r : Int32) (h' : Mem) (hf : f_X10_shift N v0 v1 v2 v3 v4 v5 h = some (r, h')) : MetG l G yX10_shift (.code yX10_shift cX10_shift 7 (Option.some Jvm.ClassFile.FieldType.int)) rm_X10_shift [.ref (gB G + v0), .int v1, .int v2, .int v3, .int v4, .int v5] h (QcI G r h') 0 0 :=
  x_met (by decide) rfl (Nat.le_of_ble_eq_true rfl) (fun p e s m args below meth c ls X M hr hk hin hl => w_X10_shift X hr hk N v0 v1 v2 v3 v4 v5 h hf _ _ ls M hl)
