def f_L_law_602 (xs : Nat → Int32) (L : Nat) (N : Nat) (v1 : Nat) (v2 : Nat) (v3 : Int32) (s0 : Int32) (s1 : Nat) (s2 : Int32) (h : Mem) (k18 : Nat → Nat → Int32 → Mem → Option Unit) : Option Unit :=
  (ck h s1 10).bind fun _ =>
  b2 (f_X10_step N s1 s2 h) fun t4 h3 =>
  if s0 = t4 then
    k18 v1 v2 (v3 + 6) h3
  else
    none
set_option maxRecDepth 100000 in
set_option maxHeartbeats 8000000 in
theorem w_L_law_602 {p : Program} {l : Launch} {e : Env} {s : State} {m : MethodId} {below : List Frame} {meth : Method} {c : Code} {G : Gx} {b L : Nat} {xs : Nat → Int32} (X : CX G p s m #[Value.ref b] c code 4 RL) (hX : va_X b L xs s s.heap) (hbl : b < gB G ∧ gB G ≤ s.heap.size ∧ s.heap.size ≤ gB G ∧ b < s.heap.size) (hrl : meth.sig.returnType = ret) (hk : meth.locks = false) (N : Nat) {cells slots : Nat} (k18 : Nat → Nat → Int32 → Mem → Option Unit) (K18 : ∀ (v1 : Nat) (v2 : Nat) (v3 : Int32) (h : Mem), k18 v1 v2 v3 h = some () → ∀ (H : Heap) (locs : List Loc) (ls : Array Slot), WS G s h H locs → lv_has ls 4 [(0, .ref b), (1, .ref (gB G + v1)), (2, .ref (gB G + v2)), (3, .int v3)] → W p l e room_1 s m #[Value.ref b] below meth c H locs cells slots (lw_Z below #[Value.ref b] s) (F0 m 18 ls [])) (hc : cells ≤ 600000 ∧ slots ≤ 7302250) : ∀ (v1 : Nat) (v2 : Nat) (v3 : Int32) (s0 : Int32) (s1 : Nat) (s2 : Int32) (h : Mem), f_L_law_602 xs L N v1 v2 v3 s0 s1 s2 h k18 = some () → ∀ (H : Heap) (locs : List Loc) (ls : Array Slot), WS G s h H locs → lv_has ls 4 [(0, .ref b), (1, .ref (gB G + v1)), (2, .ref (gB G + v2)), (3, .int v3)] → W p l e room_1 s m #[Value.ref b] below meth c H locs cells slots (lw_Z below #[Value.ref b] s) (F0 m 602 ls [.int s2, .ref (gB G + s1), .int s0]) := by
  intro v1 v2 v3 s0 s1 s2 h hf H locs ls M hl
  rw [f_L_law_602] at hf
  obtain ⟨⟨⟩, q1, hf⟩ := bnd hf
  obtain ⟨t4, h3, q2, hf⟩ := bnd2 hf
  refine y_callVi (As := [.int s2]) cf_L_74 (c_X10_step l G N s1 s2 h _ _ q2) rfl ⟨rfl, rfl, Nat.le_of_ble_eq_true rfl, Nat.le_of_ble_eq_true rfl⟩ ⟨by show _ ≤ 600000; omega, by show _ ≤ 7302250; omega⟩ X M (y_recv cls_X10 X M q1) rfl rfl hl.1 (Nat.le_of_ble_eq_true rfl) dL_law_602 (fun H locs M => ?_)
  refine lv_icmp_eq (tgt := 1336) X.1 X.2.1 dL_law_605 (by decide) (fun c5 => ?_) (fun c5 => ?_)
  · have hf := ifp c5 hf
    refine lv_iinc (v := (v3 + 6)) (lv' := [(3, .int (v3 + 6)), (0, .ref b), (1, .ref (gB G + v1)), (2, .ref (gB G + v2))]) X.1 X.2.1 dL_law_1336 hl (k := 3) rfl (by first | rfl | decide) (by decide) rfl (fun ls hl => ?_)
    refine lv_goto (tgt := 18) X.1 X.2.1 dL_law_1339 (by decide) ?_
    exact K18 v1 v2 (v3 + 6) h3 hf _ _ _ M (lv_sub hl [1, 2, 3, 0] rfl)
  · have hf := ifn c5 hf
    refine lv_iconst (v := (0 : Int32)) X.1 X.2.1 dL_law_608 (by decide) ?_
    cases hf
def f_L_law_585 (xs : Nat → Int32) (L : Nat) (N : Nat) (v1 : Nat) (v2 : Nat) (v3 : Int32) (s0 : Nat) (s1 : Int32) (h : Mem) (k18 : Nat → Nat → Int32 → Mem → Option Unit) : Option Unit :=
  (ck h s0 9).bind fun _ =>
  b2 (f_X9_step N s0 s1 h) fun t4 h3 =>
  (lX xs L (v3 + (1 : Int32))).bind fun t5 =>
  if t5 = 0 then
    f_L_law_602 xs L N v1 v2 v3 t4 v2 (0 : Int32) h3 k18
  else
    f_L_law_602 xs L N v1 v2 v3 t4 v2 (1 : Int32) h3 k18
set_option maxRecDepth 100000 in
set_option maxHeartbeats 8000000 in
theorem w_L_law_585 {p : Program} {l : Launch} {e : Env} {s : State} {m : MethodId} {below : List Frame} {meth : Method} {c : Code} {G : Gx} {b L : Nat} {xs : Nat → Int32} (X : CX G p s m #[Value.ref b] c code 4 RL) (hX : va_X b L xs s s.heap) (hbl : b < gB G ∧ gB G ≤ s.heap.size ∧ s.heap.size ≤ gB G ∧ b < s.heap.size) (hrl : meth.sig.returnType = ret) (hk : meth.locks = false) (N : Nat) {cells slots : Nat} (k18 : Nat → Nat → Int32 → Mem → Option Unit) (K18 : ∀ (v1 : Nat) (v2 : Nat) (v3 : Int32) (h : Mem), k18 v1 v2 v3 h = some () → ∀ (H : Heap) (locs : List Loc) (ls : Array Slot), WS G s h H locs → lv_has ls 4 [(0, .ref b), (1, .ref (gB G + v1)), (2, .ref (gB G + v2)), (3, .int v3)] → W p l e room_1 s m #[Value.ref b] below meth c H locs cells slots (lw_Z below #[Value.ref b] s) (F0 m 18 ls [])) (hc : cells ≤ 600000 ∧ slots ≤ 7302250) : ∀ (v1 : Nat) (v2 : Nat) (v3 : Int32) (s0 : Nat) (s1 : Int32) (h : Mem), f_L_law_585 xs L N v1 v2 v3 s0 s1 h k18 = some () → ∀ (H : Heap) (locs : List Loc) (ls : Array Slot), WS G s h H locs → lv_has ls 4 [(0, .ref b), (1, .ref (gB G + v1)), (2, .ref (gB G + v2)), (3, .int v3)] → W p l e room_1 s m #[Value.ref b] below meth c H locs cells slots (lw_Z below #[Value.ref b] s) (F0 m 585 ls [.int s1, .ref (gB G + s0)]) := by
  intro v1 v2 v3 s0 s1 h hf H locs ls M hl
  rw [f_L_law_585] at hf
  obtain ⟨⟨⟩, q1, hf⟩ := bnd hf
  obtain ⟨t4, h3, q2, hf⟩ := bnd2 hf
  refine y_callVi (As := [.int s1]) cf_L_70 (c_X9_step l G N s0 s1 h _ _ q2) rfl ⟨rfl, rfl, Nat.le_of_ble_eq_true rfl, Nat.le_of_ble_eq_true rfl⟩ ⟨by show _ ≤ 600000; omega, by show _ ≤ 7302250; omega⟩ X M (y_recv cls_X9 X M q1) rfl rfl hl.1 (Nat.le_of_ble_eq_true rfl) dL_law_585 (fun H locs M => ?_)
  refine lv_aload_n X.1 X.2.1 dL_law_588 rfl (lv_at hl 2 rfl) ?_
  refine lv_aload_n X.1 X.2.1 dL_law_589 rfl (lv_at hl 0 rfl) ?_
  refine lv_iload_n X.1 X.2.1 dL_law_590 rfl (lv_at hl 3 rfl) ?_
  refine lv_iconst (v := (1 : Int32)) X.1 X.2.1 dL_law_591 (by decide) ?_
  refine lv_iadd X.1 X.2.1 dL_law_592 ?_
  obtain ⟨t5, q6, hf⟩ := bnd hf
  refine y_sld X M hX hbl q6 dL_law_593 ?_
  refine lv_if_eq (tgt := 601) X.1 X.2.1 dL_law_594 (by decide) (fun c7 => ?_) (fun c7 => ?_)
  · have hf := ifp c7 hf
    refine lv_iconst (v := (0 : Int32)) X.1 X.2.1 dL_law_601 (by decide) ?_
    exact w_L_law_602 X hX hbl hrl hk N _ K18 hc v1 v2 v3 t4 v2 (0 : Int32) h3 hf _ _ _ M (lv_sub hl [0, 1, 2, 3] rfl)
  · have hf := ifn c7 hf
    refine lv_iconst (v := (1 : Int32)) X.1 X.2.1 dL_law_597 (by decide) ?_
    refine lv_goto (tgt := 602) X.1 X.2.1 dL_law_598 (by decide) ?_
    exact w_L_law_602 X hX hbl hrl hk N _ K18 hc v1 v2 v3 t4 v2 (1 : Int32) h3 hf _ _ _ M (lv_sub hl [0, 1, 2, 3] rfl)
def f_L_law_641 (xs : Nat → Int32) (L : Nat) (N : Nat) (v1 : Nat) (v2 : Nat) (v3 : Int32) (s0 : Int32) (s1 : Nat) (s2 : Int32) (h : Mem) (k18 : Nat → Nat → Int32 → Mem → Option Unit) : Option Unit :=
  (ck h s1 10).bind fun _ =>
  b2 (f_X10_end N s1 s2 h) fun t4 h3 =>
  if s0 = t4 then
    k18 v1 v2 (v3 + 6) h3
  else
    none
set_option maxRecDepth 100000 in
set_option maxHeartbeats 8000000 in
theorem w_L_law_641 {p : Program} {l : Launch} {e : Env} {s : State} {m : MethodId} {below : List Frame} {meth : Method} {c : Code} {G : Gx} {b L : Nat} {xs : Nat → Int32} (X : CX G p s m #[Value.ref b] c code 4 RL) (hX : va_X b L xs s s.heap) (hbl : b < gB G ∧ gB G ≤ s.heap.size ∧ s.heap.size ≤ gB G ∧ b < s.heap.size) (hrl : meth.sig.returnType = ret) (hk : meth.locks = false) (N : Nat) {cells slots : Nat} (k18 : Nat → Nat → Int32 → Mem → Option Unit) (K18 : ∀ (v1 : Nat) (v2 : Nat) (v3 : Int32) (h : Mem), k18 v1 v2 v3 h = some () → ∀ (H : Heap) (locs : List Loc) (ls : Array Slot), WS G s h H locs → lv_has ls 4 [(0, .ref b), (1, .ref (gB G + v1)), (2, .ref (gB G + v2)), (3, .int v3)] → W p l e room_1 s m #[Value.ref b] below meth c H locs cells slots (lw_Z below #[Value.ref b] s) (F0 m 18 ls [])) (hc : cells ≤ 600000 ∧ slots ≤ 7302250) : ∀ (v1 : Nat) (v2 : Nat) (v3 : Int32) (s0 : Int32) (s1 : Nat) (s2 : Int32) (h : Mem), f_L_law_641 xs L N v1 v2 v3 s0 s1 s2 h k18 = some () → ∀ (H : Heap) (locs : List Loc) (ls : Array Slot), WS G s h H locs → lv_has ls 4 [(0, .ref b), (1, .ref (gB G + v1)), (2, .ref (gB G + v2)), (3, .int v3)] → W p l e room_1 s m #[Value.ref b] below meth c H locs cells slots (lw_Z below #[Value.ref b] s) (F0 m 641 ls [.int s2, .ref (gB G + s1), .int s0]) := by
  intro v1 v2 v3 s0 s1 s2 h hf H locs ls M hl
  rw [f_L_law_641] at hf
  obtain ⟨⟨⟩, q1, hf⟩ := bnd hf
  obtain ⟨t4, h3, q2, hf⟩ := bnd2 hf
  refine y_callVi (As := [.int s2]) cf_L_78 (c_X10_end l G N s1 s2 h _ _ q2) rfl ⟨rfl, rfl, Nat.le_of_ble_eq_true rfl, Nat.le_of_ble_eq_true rfl⟩ ⟨by show _ ≤ 600000; omega, by show _ ≤ 7302250; omega⟩ X M (y_recv cls_X10 X M q1) rfl rfl hl.1 (Nat.le_of_ble_eq_true rfl) dL_law_641 (fun H locs M => ?_)
  refine lv_icmp_eq (tgt := 1336) X.1 X.2.1 dL_law_644 (by decide) (fun c5 => ?_) (fun c5 => ?_)
  · have hf := ifp c5 hf
    refine lv_iinc (v := (v3 + 6)) (lv' := [(3, .int (v3 + 6)), (0, .ref b), (1, .ref (gB G + v1)), (2, .ref (gB G + v2))]) X.1 X.2.1 dL_law_1336 hl (k := 3) rfl (by first | rfl | decide) (by decide) rfl (fun ls hl => ?_)
    refine lv_goto (tgt := 18) X.1 X.2.1 dL_law_1339 (by decide) ?_
    exact K18 v1 v2 (v3 + 6) h3 hf _ _ _ M (lv_sub hl [1, 2, 3, 0] rfl)
  · have hf := ifn c5 hf
    refine lv_iconst (v := (0 : Int32)) X.1 X.2.1 dL_law_647 (by decide) ?_
    cases hf
def f_L_law_624 (xs : Nat → Int32) (L : Nat) (N : Nat) (v1 : Nat) (v2 : Nat) (v3 : Int32) (s0 : Nat) (s1 : Int32) (h : Mem) (k18 : Nat → Nat → Int32 → Mem → Option Unit) : Option Unit :=
  (ck h s0 9).bind fun _ =>
  b2 (f_X9_end N s0 s1 h) fun t4 h3 =>
  (lX xs L (v3 + (1 : Int32))).bind fun t5 =>
  if t5 = 0 then
    f_L_law_641 xs L N v1 v2 v3 t4 v2 (0 : Int32) h3 k18
  else
    f_L_law_641 xs L N v1 v2 v3 t4 v2 (1 : Int32) h3 k18
set_option maxRecDepth 100000 in
set_option maxHeartbeats 8000000 in
theorem w_L_law_624 {p : Program} {l : Launch} {e : Env} {s : State} {m : MethodId} {below : List Frame} {meth : Method} {c : Code} {G : Gx} {b L : Nat} {xs : Nat → Int32} (X : CX G p s m #[Value.ref b] c code 4 RL) (hX : va_X b L xs s s.heap) (hbl : b < gB G ∧ gB G ≤ s.heap.size ∧ s.heap.size ≤ gB G ∧ b < s.heap.size) (hrl : meth.sig.returnType = ret) (hk : meth.locks = false) (N : Nat) {cells slots : Nat} (k18 : Nat → Nat → Int32 → Mem → Option Unit) (K18 : ∀ (v1 : Nat) (v2 : Nat) (v3 : Int32) (h : Mem), k18 v1 v2 v3 h = some () → ∀ (H : Heap) (locs : List Loc) (ls : Array Slot), WS G s h H locs → lv_has ls 4 [(0, .ref b), (1, .ref (gB G + v1)), (2, .ref (gB G + v2)), (3, .int v3)] → W p l e room_1 s m #[Value.ref b] below meth c H locs cells slots (lw_Z below #[Value.ref b] s) (F0 m 18 ls [])) (hc : cells ≤ 600000 ∧ slots ≤ 7302250) : ∀ (v1 : Nat) (v2 : Nat) (v3 : Int32) (s0 : Nat) (s1 : Int32) (h : Mem), f_L_law_624 xs L N v1 v2 v3 s0 s1 h k18 = some () → ∀ (H : Heap) (locs : List Loc) (ls : Array Slot), WS G s h H locs → lv_has ls 4 [(0, .ref b), (1, .ref (gB G + v1)), (2, .ref (gB G + v2)), (3, .int v3)] → W p l e room_1 s m #[Value.ref b] below meth c H locs cells slots (lw_Z below #[Value.ref b] s) (F0 m 624 ls [.int s1, .ref (gB G + s0)]) := by
  intro v1 v2 v3 s0 s1 h hf H locs ls M hl
  rw [f_L_law_624] at hf
  obtain ⟨⟨⟩, q1, hf⟩ := bnd hf
  obtain ⟨t4, h3, q2, hf⟩ := bnd2 hf
  refine y_callVi (As := [.int s1]) cf_L_75 (c_X9_end l G N s0 s1 h _ _ q2) rfl ⟨rfl, rfl, Nat.le_of_ble_eq_true rfl, Nat.le_of_ble_eq_true rfl⟩ ⟨by show _ ≤ 600000; omega, by show _ ≤ 7302250; omega⟩ X M (y_recv cls_X9 X M q1) rfl rfl hl.1 (Nat.le_of_ble_eq_true rfl) dL_law_624 (fun H locs M => ?_)
  refine lv_aload_n X.1 X.2.1 dL_law_627 rfl (lv_at hl 2 rfl) ?_
  refine lv_aload_n X.1 X.2.1 dL_law_628 rfl (lv_at hl 0 rfl) ?_
  refine lv_iload_n X.1 X.2.1 dL_law_629 rfl (lv_at hl 3 rfl) ?_
  refine lv_iconst (v := (1 : Int32)) X.1 X.2.1 dL_law_630 (by decide) ?_
  refine lv_iadd X.1 X.2.1 dL_law_631 ?_
  obtain ⟨t5, q6, hf⟩ := bnd hf
  refine y_sld X M hX hbl q6 dL_law_632 ?_
  refine lv_if_eq (tgt := 640) X.1 X.2.1 dL_law_633 (by decide) (fun c7 => ?_) (fun c7 => ?_)
  · have hf := ifp c7 hf
    refine lv_iconst (v := (0 : Int32)) X.1 X.2.1 dL_law_640 (by decide) ?_
    exact w_L_law_641 X hX hbl hrl hk N _ K18 hc v1 v2 v3 t4 v2 (0 : Int32) h3 hf _ _ _ M (lv_sub hl [0, 1, 2, 3] rfl)
  · have hf := ifn c7 hf
    refine lv_iconst (v := (1 : Int32)) X.1 X.2.1 dL_law_636 (by decide) ?_
    refine lv_goto (tgt := 641) X.1 X.2.1 dL_law_637 (by decide) ?_
    exact w_L_law_641 X hX hbl hrl hk N _ K18 hc v1 v2 v3 t4 v2 (1 : Int32) h3 hf _ _ _ M (lv_sub hl [0, 1, 2, 3] rfl)
def f_L_law_825 (xs : Nat → Int32) (L : Nat) (N : Nat) (v1 : Nat) (v2 : Nat) (v3 : Int32) (s0 : Int32) (s1 : Nat) (s2 : Int32) (h : Mem) (k18 : Nat → Nat → Int32 → Mem → Option Unit) : Option Unit :=
  (ck h s1 10).bind fun _ =>
  b2 (f_X10_tip N s1 s2 h) fun t4 h3 =>
  if s0 = t4 then
    k18 v1 v2 (v3 + 6) h3
  else
    none
set_option maxRecDepth 100000 in
set_option maxHeartbeats 8000000 in
theorem w_L_law_825 {p : Program} {l : Launch} {e : Env} {s : State} {m : MethodId} {below : List Frame} {meth : Method} {c : Code} {G : Gx} {b L : Nat} {xs : Nat → Int32} (X : CX G p s m #[Value.ref b] c code 4 RL) (hX : va_X b L xs s s.heap) (hbl : b < gB G ∧ gB G ≤ s.heap.size ∧ s.heap.size ≤ gB G ∧ b < s.heap.size) (hrl : meth.sig.returnType = ret) (hk : meth.locks = false) (N : Nat) {cells slots : Nat} (k18 : Nat → Nat → Int32 → Mem → Option Unit) (K18 : ∀ (v1 : Nat) (v2 : Nat) (v3 : Int32) (h : Mem), k18 v1 v2 v3 h = some () → ∀ (H : Heap) (locs : List Loc) (ls : Array Slot), WS G s h H locs → lv_has ls 4 [(0, .ref b), (1, .ref (gB G + v1)), (2, .ref (gB G + v2)), (3, .int v3)] → W p l e room_1 s m #[Value.ref b] below meth c H locs cells slots (lw_Z below #[Value.ref b] s) (F0 m 18 ls [])) (hc : cells ≤ 600000 ∧ slots ≤ 7302250) : ∀ (v1 : Nat) (v2 : Nat) (v3 : Int32) (s0 : Int32) (s1 : Nat) (s2 : Int32) (h : Mem), f_L_law_825 xs L N v1 v2 v3 s0 s1 s2 h k18 = some () → ∀ (H : Heap) (locs : List Loc) (ls : Array Slot), WS G s h H locs → lv_has ls 4 [(0, .ref b), (1, .ref (gB G + v1)), (2, .ref (gB G + v2)), (3, .int v3)] → W p l e room_1 s m #[Value.ref b] below meth c H locs cells slots (lw_Z below #[Value.ref b] s) (F0 m 825 ls [.int s2, .ref (gB G + s1), .int s0]) := by
  intro v1 v2 v3 s0 s1 s2 h hf H locs ls M hl
  rw [f_L_law_825] at hf
  obtain ⟨⟨⟩, q1, hf⟩ := bnd hf
  obtain ⟨t4, h3, q2, hf⟩ := bnd2 hf
  refine y_callVi (As := [.int s2]) cf_L_102 (c_X10_tip l G N s1 s2 h _ _ q2) rfl ⟨rfl, rfl, Nat.le_of_ble_eq_true rfl, Nat.le_of_ble_eq_true rfl⟩ ⟨by show _ ≤ 600000; omega, by show _ ≤ 7302250; omega⟩ X M (y_recv cls_X10 X M q1) rfl rfl hl.1 (Nat.le_of_ble_eq_true rfl) dL_law_825 (fun H locs M => ?_)
  refine lv_icmp_eq (tgt := 1336) X.1 X.2.1 dL_law_828 (by decide) (fun c5 => ?_) (fun c5 => ?_)
  · have hf := ifp c5 hf
    refine lv_iinc (v := (v3 + 6)) (lv' := [(3, .int (v3 + 6)), (0, .ref b), (1, .ref (gB G + v1)), (2, .ref (gB G + v2))]) X.1 X.2.1 dL_law_1336 hl (k := 3) rfl (by first | rfl | decide) (by decide) rfl (fun ls hl => ?_)
    refine lv_goto (tgt := 18) X.1 X.2.1 dL_law_1339 (by decide) ?_
    exact K18 v1 v2 (v3 + 6) h3 hf _ _ _ M (lv_sub hl [1, 2, 3, 0] rfl)
  · have hf := ifn c5 hf
    refine lv_iconst (v := (0 : Int32)) X.1 X.2.1 dL_law_831 (by decide) ?_
    cases hf
def f_L_law_808 (xs : Nat → Int32) (L : Nat) (N : Nat) (v1 : Nat) (v2 : Nat) (v3 : Int32) (s0 : Nat) (s1 : Int32) (h : Mem) (k18 : Nat → Nat → Int32 → Mem → Option Unit) : Option Unit :=
  (ck h s0 9).bind fun _ =>
  b2 (f_X9_tip N s0 s1 h) fun t4 h3 =>
  (lX xs L (v3 + (1 : Int32))).bind fun t5 =>
  if t5 = 0 then
    f_L_law_825 xs L N v1 v2 v3 t4 v2 (0 : Int32) h3 k18
  else
    f_L_law_825 xs L N v1 v2 v3 t4 v2 (1 : Int32) h3 k18
set_option maxRecDepth 100000 in
set_option maxHeartbeats 8000000 in
theorem w_L_law_808 {p : Program} {l : Launch} {e : Env} {s : State} {m : MethodId} {below : List Frame} {meth : Method} {c : Code} {G : Gx} {b L : Nat} {xs : Nat → Int32} (X : CX G p s m #[Value.ref b] c code 4 RL) (hX : va_X b L xs s s.heap) (hbl : b < gB G ∧ gB G ≤ s.heap.size ∧ s.heap.size ≤ gB G ∧ b < s.heap.size) (hrl : meth.sig.returnType = ret) (hk : meth.locks = false) (N : Nat) {cells slots : Nat} (k18 : Nat → Nat → Int32 → Mem → Option Unit) (K18 : ∀ (v1 : Nat) (v2 : Nat) (v3 : Int32) (h : Mem), k18 v1 v2 v3 h = some () → ∀ (H : Heap) (locs : List Loc) (ls : Array Slot), WS G s h H locs → lv_has ls 4 [(0, .ref b), (1, .ref (gB G + v1)), (2, .ref (gB G + v2)), (3, .int v3)] → W p l e room_1 s m #[Value.ref b] below meth c H locs cells slots (lw_Z below #[Value.ref b] s) (F0 m 18 ls [])) (hc : cells ≤ 600000 ∧ slots ≤ 7302250) : ∀ (v1 : Nat) (v2 : Nat) (v3 : Int32) (s0 : Nat) (s1 : Int32) (h : Mem), f_L_law_808 xs L N v1 v2 v3 s0 s1 h k18 = some () → ∀ (H : Heap) (locs : List Loc) (ls : Array Slot), WS G s h H locs → lv_has ls 4 [(0, .ref b), (1, .ref (gB G + v1)), (2, .ref (gB G + v2)), (3, .int v3)] → W p l e room_1 s m #[Value.ref b] below meth c H locs cells slots (lw_Z below #[Value.ref b] s) (F0 m 808 ls [.int s1, .ref (gB G + s0)]) := by
  intro v1 v2 v3 s0 s1 h hf H locs ls M hl
  rw [f_L_law_808] at hf
  obtain ⟨⟨⟩, q1, hf⟩ := bnd hf
  obtain ⟨t4, h3, q2, hf⟩ := bnd2 hf
  refine y_callVi (As := [.int s1]) cf_L_99 (c_X9_tip l G N s0 s1 h _ _ q2) rfl ⟨rfl, rfl, Nat.le_of_ble_eq_true rfl, Nat.le_of_ble_eq_true rfl⟩ ⟨by show _ ≤ 600000; omega, by show _ ≤ 7302250; omega⟩ X M (y_recv cls_X9 X M q1) rfl rfl hl.1 (Nat.le_of_ble_eq_true rfl) dL_law_808 (fun H locs M => ?_)
  refine lv_aload_n X.1 X.2.1 dL_law_811 rfl (lv_at hl 2 rfl) ?_
  refine lv_aload_n X.1 X.2.1 dL_law_812 rfl (lv_at hl 0 rfl) ?_
  refine lv_iload_n X.1 X.2.1 dL_law_813 rfl (lv_at hl 3 rfl) ?_
  refine lv_iconst (v := (1 : Int32)) X.1 X.2.1 dL_law_814 (by decide) ?_
  refine lv_iadd X.1 X.2.1 dL_law_815 ?_
  obtain ⟨t5, q6, hf⟩ := bnd hf
  refine y_sld X M hX hbl q6 dL_law_816 ?_
  refine lv_if_eq (tgt := 824) X.1 X.2.1 dL_law_817 (by decide) (fun c7 => ?_) (fun c7 => ?_)
  · have hf := ifp c7 hf
    refine lv_iconst (v := (0 : Int32)) X.1 X.2.1 dL_law_824 (by decide) ?_
    exact w_L_law_825 X hX hbl hrl hk N _ K18 hc v1 v2 v3 t4 v2 (0 : Int32) h3 hf _ _ _ M (lv_sub hl [0, 1, 2, 3] rfl)
  · have hf := ifn c7 hf
    refine lv_iconst (v := (1 : Int32)) X.1 X.2.1 dL_law_820 (by decide) ?_
    refine lv_goto (tgt := 825) X.1 X.2.1 dL_law_821 (by decide) ?_
    exact w_L_law_825 X hX hbl hrl hk N _ K18 hc v1 v2 v3 t4 v2 (1 : Int32) h3 hf _ _ _ M (lv_sub hl [0, 1, 2, 3] rfl)
def f_L_law_927 (xs : Nat → Int32) (L : Nat) (N : Nat) (v1 : Nat) (v2 : Nat) (v3 : Int32) (s0 : Int32) (s1 : Nat) (s2 : Int32) (s3 : Int32) (h : Mem) (k18 : Nat → Nat → Int32 → Mem → Option Unit) : Option Unit :=
  (ck h s1 10).bind fun _ =>
  b2 (f_X10_mend N s1 s2 s3 h) fun t4 h3 =>
  if s0 = t4 then
    k18 v1 v2 (v3 + 6) h3
  else
    none
set_option maxRecDepth 100000 in
set_option maxHeartbeats 8000000 in
theorem w_L_law_927 {p : Program} {l : Launch} {e : Env} {s : State} {m : MethodId} {below : List Frame} {meth : Method} {c : Code} {G : Gx} {b L : Nat} {xs : Nat → Int32} (X : CX G p s m #[Value.ref b] c code 4 RL) (hX : va_X b L xs s s.heap) (hbl : b < gB G ∧ gB G ≤ s.heap.size ∧ s.heap.size ≤ gB G ∧ b < s.heap.size) (hrl : meth.sig.returnType = ret) (hk : meth.locks = false) (N : Nat) {cells slots : Nat} (k18 : Nat → Nat → Int32 → Mem → Option Unit) (K18 : ∀ (v1 : Nat) (v2 : Nat) (v3 : Int32) (h : Mem), k18 v1 v2 v3 h = some () → ∀ (H : Heap) (locs : List Loc) (ls : Array Slot), WS G s h H locs → lv_has ls 4 [(0, .ref b), (1, .ref (gB G + v1)), (2, .ref (gB G + v2)), (3, .int v3)] → W p l e room_1 s m #[Value.ref b] below meth c H locs cells slots (lw_Z below #[Value.ref b] s) (F0 m 18 ls [])) (hc : cells ≤ 600000 ∧ slots ≤ 7302250) : ∀ (v1 : Nat) (v2 : Nat) (v3 : Int32) (s0 : Int32) (s1 : Nat) (s2 : Int32) (s3 : Int32) (h : Mem), f_L_law_927 xs L N v1 v2 v3 s0 s1 s2 s3 h k18 = some () → ∀ (H : Heap) (locs : List Loc) (ls : Array Slot), WS G s h H locs → lv_has ls 4 [(0, .ref b), (1, .ref (gB G + v1)), (2, .ref (gB G + v2)), (3, .int v3)] → W p l e room_1 s m #[Value.ref b] below meth c H locs cells slots (lw_Z below #[Value.ref b] s) (F0 m 927 ls [.int s3, .int s2, .ref (gB G + s1), .int s0]) := by
  intro v1 v2 v3 s0 s1 s2 s3 h hf H locs ls M hl
  rw [f_L_law_927] at hf
  obtain ⟨⟨⟩, q1, hf⟩ := bnd hf
  obtain ⟨t4, h3, q2, hf⟩ := bnd2 hf
  refine y_callVi (As := [.int s2, .int s3]) cf_L_112 (c_X10_mend l G N s1 s2 s3 h _ _ q2) rfl ⟨rfl, rfl, Nat.le_of_ble_eq_true rfl, Nat.le_of_ble_eq_true rfl⟩ ⟨by show _ ≤ 600000; omega, by show _ ≤ 7302250; omega⟩ X M (y_recv cls_X10 X M q1) rfl rfl hl.1 (Nat.le_of_ble_eq_true rfl) dL_law_927 (fun H locs M => ?_)
  refine lv_icmp_eq (tgt := 1336) X.1 X.2.1 dL_law_930 (by decide) (fun c5 => ?_) (fun c5 => ?_)
  · have hf := ifp c5 hf
    refine lv_iinc (v := (v3 + 6)) (lv' := [(3, .int (v3 + 6)), (0, .ref b), (1, .ref (gB G + v1)), (2, .ref (gB G + v2))]) X.1 X.2.1 dL_law_1336 hl (k := 3) rfl (by first | rfl | decide) (by decide) rfl (fun ls hl => ?_)
    refine lv_goto (tgt := 18) X.1 X.2.1 dL_law_1339 (by decide) ?_
    exact K18 v1 v2 (v3 + 6) h3 hf _ _ _ M (lv_sub hl [1, 2, 3, 0] rfl)
  · have hf := ifn c5 hf
    refine lv_iconst (v := (0 : Int32)) X.1 X.2.1 dL_law_933 (by decide) ?_
    cases hf
def f_L_law_905 (xs : Nat → Int32) (L : Nat) (N : Nat) (v1 : Nat) (v2 : Nat) (v3 : Int32) (s0 : Nat) (s1 : Int32) (s2 : Int32) (h : Mem) (k18 : Nat → Nat → Int32 → Mem → Option Unit) : Option Unit :=
  (ck h s0 9).bind fun _ =>
  b2 (f_X9_mend N s0 s1 s2 h) fun t4 h3 =>
  (lX xs L (v3 + (1 : Int32))).bind fun t5 =>
  (lX xs L (v3 + (2 : Int32))).bind fun t7 =>
  if t7 = 0 then
    f_L_law_927 xs L N v1 v2 v3 t4 v2 t5 (0 : Int32) h3 k18
  else
    f_L_law_927 xs L N v1 v2 v3 t4 v2 t5 (1 : Int32) h3 k18
set_option maxRecDepth 100000 in
set_option maxHeartbeats 8000000 in
theorem w_L_law_905 {p : Program} {l : Launch} {e : Env} {s : State} {m : MethodId} {below : List Frame} {meth : Method} {c : Code} {G : Gx} {b L : Nat} {xs : Nat → Int32} (X : CX G p s m #[Value.ref b] c code 4 RL) (hX : va_X b L xs s s.heap) (hbl : b < gB G ∧ gB G ≤ s.heap.size ∧ s.heap.size ≤ gB G ∧ b < s.heap.size) (hrl : meth.sig.returnType = ret) (hk : meth.locks = false) (N : Nat) {cells slots : Nat} (k18 : Nat → Nat → Int32 → Mem → Option Unit) (K18 : ∀ (v1 : Nat) (v2 : Nat) (v3 : Int32) (h : Mem), k18 v1 v2 v3 h = some () → ∀ (H : Heap) (locs : List Loc) (ls : Array Slot), WS G s h H locs → lv_has ls 4 [(0, .ref b), (1, .ref (gB G + v1)), (2, .ref (gB G + v2)), (3, .int v3)] → W p l e room_1 s m #[Value.ref b] below meth c H locs cells slots (lw_Z below #[Value.ref b] s) (F0 m 18 ls [])) (hc : cells ≤ 600000 ∧ slots ≤ 7302250) : ∀ (v1 : Nat) (v2 : Nat) (v3 : Int32) (s0 : Nat) (s1 : Int32) (s2 : Int32) (h : Mem), f_L_law_905 xs L N v1 v2 v3 s0 s1 s2 h k18 = some () → ∀ (H : Heap) (locs : List Loc) (ls : Array Slot), WS G s h H locs → lv_has ls 4 [(0, .ref b), (1, .ref (gB G + v1)), (2, .ref (gB G + v2)), (3, .int v3)] → W p l e room_1 s m #[Value.ref b] below meth c H locs cells slots (lw_Z below #[Value.ref b] s) (F0 m 905 ls [.int s2, .int s1, .ref (gB G + s0)]) := by
  intro v1 v2 v3 s0 s1 s2 h hf H locs ls M hl
  rw [f_L_law_905] at hf
  obtain ⟨⟨⟩, q1, hf⟩ := bnd hf
  obtain ⟨t4, h3, q2, hf⟩ := bnd2 hf
  refine y_callVi (As := [.int s1, .int s2]) cf_L_108 (c_X9_mend l G N s0 s1 s2 h _ _ q2) rfl ⟨rfl, rfl, Nat.le_of_ble_eq_true rfl, Nat.le_of_ble_eq_true rfl⟩ ⟨by show _ ≤ 600000; omega, by show _ ≤ 7302250; omega⟩ X M (y_recv cls_X9 X M q1) rfl rfl hl.1 (Nat.le_of_ble_eq_true rfl) dL_law_905 (fun H locs M => ?_)
  refine lv_aload_n X.1 X.2.1 dL_law_908 rfl (lv_at hl 2 rfl) ?_
  refine lv_aload_n X.1 X.2.1 dL_law_909 rfl (lv_at hl 0 rfl) ?_
  refine lv_iload_n X.1 X.2.1 dL_law_910 rfl (lv_at hl 3 rfl) ?_
  refine lv_iconst (v := (1 : Int32)) X.1 X.2.1 dL_law_911 (by decide) ?_
  refine lv_iadd X.1 X.2.1 dL_law_912 ?_
  obtain ⟨t5, q6, hf⟩ := bnd hf
  refine y_sld X M hX hbl q6 dL_law_913 ?_
  refine lv_aload_n X.1 X.2.1 dL_law_914 rfl (lv_at hl 0 rfl) ?_
  refine lv_iload_n X.1 X.2.1 dL_law_915 rfl (lv_at hl 3 rfl) ?_
  refine lv_iconst (v := (2 : Int32)) X.1 X.2.1 dL_law_916 (by decide) ?_
  refine lv_iadd X.1 X.2.1 dL_law_917 ?_
  obtain ⟨t7, q8, hf⟩ := bnd hf
  refine y_sld X M hX hbl q8 dL_law_918 ?_
  refine lv_if_eq (tgt := 926) X.1 X.2.1 dL_law_919 (by decide) (fun c9 => ?_) (fun c9 => ?_)
  · have hf := ifp c9 hf
    refine lv_iconst (v := (0 : Int32)) X.1 X.2.1 dL_law_926 (by decide) ?_
    exact w_L_law_927 X hX hbl hrl hk N _ K18 hc v1 v2 v3 t4 v2 t5 (0 : Int32) h3 hf _ _ _ M (lv_sub hl [0, 1, 2, 3] rfl)
  · have hf := ifn c9 hf
    refine lv_iconst (v := (1 : Int32)) X.1 X.2.1 dL_law_922 (by decide) ?_
    refine lv_goto (tgt := 927) X.1 X.2.1 dL_law_923 (by decide) ?_
    exact w_L_law_927 X hX hbl hrl hk N _ K18 hc v1 v2 v3 t4 v2 t5 (1 : Int32) h3 hf _ _ _ M (lv_sub hl [0, 1, 2, 3] rfl)
def f_L_law_18 (xs : Nat → Int32) (L : Nat) (N : Nat) (n : Nat) (v1 : Nat) (v2 : Nat) (v3 : Int32) (h : Mem) : Option Unit := match n with
  | 0 => none
  | n + 1 =>
    if ((nI L) - (6 : Int32)) < v3 then
      some ()
    else
      (lX xs L v3).bind fun t4 =>
      if (t4 &&& (63 : Int32)) = 0 then
        (lX xs L (v3 + (1 : Int32))).bind fun t7 =>
        (ck h v1 9).bind fun _ =>
        b2 (f_X9_town N v1 t7 h) fun t12 h11 =>
        (lX xs L (v3 + (1 : Int32))).bind fun t13 =>
        (ck h11 v2 10).bind fun _ =>
        b2 (f_X10_town N v2 t13 h11) fun t18 h17 =>
        if t12 = t18 then
          f_L_law_18 xs L N n v1 v2 (v3 + 6) h17
        else
          none
      else
      if (t4 &&& (63 : Int32)) = 1 then
        (lX xs L (v3 + (1 : Int32))).bind fun t21 =>
        (lX xs L (v3 + (2 : Int32))).bind fun t23 =>
        (lX xs L (v3 + (3 : Int32))).bind fun t25 =>
        (ck h v1 9).bind fun _ =>
        b2 (f_X9_family N v1 t21 t23 t25 h) fun t30 h29 =>
        (lX xs L (v3 + (1 : Int32))).bind fun t31 =>
        (lX xs L (v3 + (2 : Int32))).bind fun t33 =>
        (lX xs L (v3 + (3 : Int32))).bind fun t35 =>
        (ck h29 v2 10).bind fun _ =>
        b2 (f_X10_family N v2 t31 t33 t35 h29) fun t40 h39 =>
        if t30 = t40 then
          f_L_law_18 xs L N n v1 v2 (v3 + 6) h39
        else
          none
      else
      if (t4 &&& (63 : Int32)) = 2 then
        (lX xs L (v3 + (1 : Int32))).bind fun t43 =>
        (lX xs L (v3 + (2 : Int32))).bind fun t45 =>
        (lX xs L (v3 + (3 : Int32))).bind fun t47 =>
        (ck h v1 9).bind fun _ =>
        b2 (f_X9_put N v1 t43 t45 t47 h) fun t52 h51 =>
        (lX xs L (v3 + (1 : Int32))).bind fun t53 =>
        (lX xs L (v3 + (2 : Int32))).bind fun t55 =>
        (lX xs L (v3 + (3 : Int32))).bind fun t57 =>
        (ck h51 v2 10).bind fun _ =>
        b2 (f_X10_put N v2 t53 t55 t57 h51) fun t62 h61 =>
        if t52 = t62 then
          f_L_law_18 xs L N n v1 v2 (v3 + 6) h61
        else
          none
      else
      if (t4 &&& (63 : Int32)) = 3 then
        (lX xs L (v3 + (1 : Int32))).bind fun t65 =>
        (lX xs L (v3 + (2 : Int32))).bind fun t67 =>
        (ck h v1 9).bind fun _ =>
        b2 (f_X9_of N v1 t65 t67 h) fun t72 h71 =>
        (lX xs L (v3 + (1 : Int32))).bind fun t73 =>
        (lX xs L (v3 + (2 : Int32))).bind fun t75 =>
        (ck h71 v2 10).bind fun _ =>
        b2 (f_X10_of N v2 t73 t75 h71) fun t80 h79 =>
        if (lg_cmp t72 t80) = 0 then
          f_L_law_18 xs L N n v1 v2 (v3 + 6) h79
        else
          none
      else
      if (t4 &&& (63 : Int32)) = 4 then
        (lX xs L (v3 + (1 : Int32))).bind fun t83 =>
        (lX xs L (v3 + (2 : Int32))).bind fun t85 =>
        (ck h v1 9).bind fun _ =>
        b2 (f_X9_has N v1 t83 t85 h) fun t90 h89 =>
        (lX xs L (v3 + (1 : Int32))).bind fun t91 =>
        (lX xs L (v3 + (2 : Int32))).bind fun t93 =>
        (ck h89 v2 10).bind fun _ =>
        b2 (f_X10_has N v2 t91 t93 h89) fun t98 h97 =>
        if t90 = t98 then
          f_L_law_18 xs L N n v1 v2 (v3 + 6) h97
        else
          none
      else
      if (t4 &&& (63 : Int32)) = 5 then
        (lX xs L (v3 + (1 : Int32))).bind fun t101 =>
        (lX xs L (v3 + (2 : Int32))).bind fun t103 =>
        (ck h v1 9).bind fun _ =>
        b2 (f_X9_feed N v1 t101 t103 h) fun t108 h107 =>
        (lX xs L (v3 + (1 : Int32))).bind fun t109 =>
        (lX xs L (v3 + (2 : Int32))).bind fun t111 =>
        (ck h107 v2 10).bind fun _ =>
        b2 (f_X10_feed N v2 t109 t111 h107) fun t116 h115 =>
        if t108 = t116 then
          f_L_law_18 xs L N n v1 v2 (v3 + 6) h115
        else
          none
      else
      if (t4 &&& (63 : Int32)) = 6 then
        (ck h v1 9).bind fun _ =>
        b2 (f_X9_land N v1 h) fun t122 h121 =>
        (ck h121 v2 10).bind fun _ =>
        b2 (f_X10_land N v2 h121) fun t126 h125 =>
        if t122 = t126 then
          f_L_law_18 xs L N n v1 v2 (v3 + 6) h125
        else
          none
      else
      if (t4 &&& (63 : Int32)) = 7 then
        (lX xs L (v3 + (1 : Int32))).bind fun t129 =>
        (lX xs L (v3 + (2 : Int32))).bind fun t131 =>
        (ck h v1 9).bind fun _ =>
        b2 (f_X9_worth N v1 t129 t131 h) fun t136 h135 =>
        (lX xs L (v3 + (1 : Int32))).bind fun t137 =>
        (lX xs L (v3 + (2 : Int32))).bind fun t139 =>
        (ck h135 v2 10).bind fun _ =>
        b2 (f_X10_worth N v2 t137 t139 h135) fun t144 h143 =>
        if (lg_cmp t136 t144) = 0 then
          f_L_law_18 xs L N n v1 v2 (v3 + 6) h143
        else
          none
      else
      if (t4 &&& (63 : Int32)) = 8 then
        (lX xs L (v3 + (1 : Int32))).bind fun t147 =>
        (lX xs L (v3 + (2 : Int32))).bind fun t149 =>
        (ck h v1 9).bind fun _ =>
        b2 (f_X9_choice N v1 t147 t149 h) fun t154 h153 =>
        (lX xs L (v3 + (1 : Int32))).bind fun t155 =>
        (lX xs L (v3 + (2 : Int32))).bind fun t157 =>
        (ck h153 v2 10).bind fun _ =>
        b2 (f_X10_choice N v2 t155 t157 h153) fun t162 h161 =>
        if t154 = t162 then
          f_L_law_18 xs L N n v1 v2 (v3 + 6) h161
        else
          none
      else
      if (t4 &&& (63 : Int32)) = 9 then
        (lX xs L (v3 + (1 : Int32))).bind fun t165 =>
        (ck h v1 9).bind fun _ =>
        b2 (f_X9_choose N v1 t165 h) fun t170 h169 =>
        (lX xs L (v3 + (1 : Int32))).bind fun t171 =>
        (ck h169 v2 10).bind fun _ =>
        b2 (f_X10_choose N v2 t171 h169) fun t176 h175 =>
        if t170 = t176 then
          f_L_law_18 xs L N n v1 v2 (v3 + 6) h175
        else
          none
      else
      if (t4 &&& (63 : Int32)) = 10 then
        (lX xs L (v3 + (1 : Int32))).bind fun t179 =>
        (ck h v1 9).bind fun _ =>
        b2 (f_X9_rest N v1 t179 h) fun t184 h183 =>
        (lX xs L (v3 + (1 : Int32))).bind fun t185 =>
        (ck h183 v2 10).bind fun _ =>
        b2 (f_X10_rest N v2 t185 h183) fun t190 h189 =>
        if t184 = t190 then
          f_L_law_18 xs L N n v1 v2 (v3 + 6) h189
        else
          none
      else
      if (t4 &&& (63 : Int32)) = 11 then
        (lX xs L (v3 + (1 : Int32))).bind fun t193 =>
        (ck h v1 9).bind fun _ =>
        b2 (f_X9_broken N v1 t193 h) fun t198 h197 =>
        (lX xs L (v3 + (1 : Int32))).bind fun t199 =>
        (ck h197 v2 10).bind fun _ =>
        b2 (f_X10_broken N v2 t199 h197) fun t204 h203 =>
        if t198 = t204 then
          f_L_law_18 xs L N n v1 v2 (v3 + 6) h203
        else
          none
      else
      if (t4 &&& (63 : Int32)) = 12 then
        (lX xs L (v3 + (1 : Int32))).bind fun t207 =>
        (lX xs L (v3 + (2 : Int32))).bind fun t209 =>
        (ck h v1 9).bind fun _ =>
        b2 (f_X9_go N v1 t207 t209 h) fun t214 h213 =>
        (lX xs L (v3 + (1 : Int32))).bind fun t215 =>
        (lX xs L (v3 + (2 : Int32))).bind fun t217 =>
        (ck h213 v2 10).bind fun _ =>
        b2 (f_X10_go N v2 t215 t217 h213) fun t222 h221 =>
        if t214 = t222 then
          f_L_law_18 xs L N n v1 v2 (v3 + 6) h221
        else
          none
      else
      if (t4 &&& (63 : Int32)) = 13 then
        (lX xs L (v3 + (1 : Int32))).bind fun t225 =>
        if t225 = 0 then
          f_L_law_585 xs L N v1 v2 v3 v1 (0 : Int32) h (fun v1 v2 v3 h => f_L_law_18 xs L N n v1 v2 v3 h)
        else
          f_L_law_585 xs L N v1 v2 v3 v1 (1 : Int32) h (fun v1 v2 v3 h => f_L_law_18 xs L N n v1 v2 v3 h)
      else
      if (t4 &&& (63 : Int32)) = 14 then
        (lX xs L (v3 + (1 : Int32))).bind fun t229 =>
        if t229 = 0 then
          f_L_law_624 xs L N v1 v2 v3 v1 (0 : Int32) h (fun v1 v2 v3 h => f_L_law_18 xs L N n v1 v2 v3 h)
        else
          f_L_law_624 xs L N v1 v2 v3 v1 (1 : Int32) h (fun v1 v2 v3 h => f_L_law_18 xs L N n v1 v2 v3 h)
      else
      if (t4 &&& (63 : Int32)) = 15 then
        (lX xs L (v3 + (1 : Int32))).bind fun t233 =>
        (lX xs L (v3 + (2 : Int32))).bind fun t235 =>
        (lX xs L (v3 + (3 : Int32))).bind fun t237 =>
        (ck h v1 9).bind fun _ =>
        b2 (f_X9_judge N v1 t233 t235 t237 h) fun t242 h241 =>
        (lX xs L (v3 + (1 : Int32))).bind fun t243 =>
        (lX xs L (v3 + (2 : Int32))).bind fun t245 =>
        (lX xs L (v3 + (3 : Int32))).bind fun t247 =>
        (ck h241 v2 10).bind fun _ =>
        b2 (f_X10_judge N v2 t243 t245 t247 h241) fun t252 h251 =>
        if t242 = t252 then
          f_L_law_18 xs L N n v1 v2 (v3 + 6) h251
        else
          none
      else
      if (t4 &&& (63 : Int32)) = 16 then
        (lX xs L (v3 + (1 : Int32))).bind fun t255 =>
        (lX xs L (v3 + (2 : Int32))).bind fun t257 =>
        (lX xs L (v3 + (3 : Int32))).bind fun t259 =>
        (ck h v1 9).bind fun _ =>
        b2 (f_X9_all N v1 t255 t257 t259 h) fun t264 h263 =>
        (lX xs L (v3 + (1 : Int32))).bind fun t265 =>
        (lX xs L (v3 + (2 : Int32))).bind fun t267 =>
        (lX xs L (v3 + (3 : Int32))).bind fun t269 =>
        (ck h263 v2 10).bind fun _ =>
        b2 (f_X10_all N v2 t265 t267 t269 h263) fun t274 h273 =>
        if t264 = t274 then
          f_L_law_18 xs L N n v1 v2 (v3 + 6) h273
        else
          none
      else
      if (t4 &&& (63 : Int32)) = 17 then
        (lX xs L (v3 + (1 : Int32))).bind fun t277 =>
        (ck h v1 9).bind fun _ =>
        b2 (f_X9_good N v1 t277 h) fun t282 h281 =>
        (lX xs L (v3 + (1 : Int32))).bind fun t283 =>
        (ck h281 v2 10).bind fun _ =>
        b2 (f_X10_good N v2 t283 h281) fun t288 h287 =>
        if t282 = t288 then
          f_L_law_18 xs L N n v1 v2 (v3 + 6) h287
        else
          none
      else
      if (t4 &&& (63 : Int32)) = 18 then
        (ck h v1 9).bind fun _ =>
        b2 (f_X9_rise N v1 h) fun t294 h293 =>
        (ck h293 v2 10).bind fun _ =>
        b2 (f_X10_rise N v2 h293) fun t298 h297 =>
        if t294 = t298 then
          f_L_law_18 xs L N n v1 v2 (v3 + 6) h297
        else
          none
      else
      if (t4 &&& (63 : Int32)) = 19 then
        (lX xs L (v3 + (1 : Int32))).bind fun t301 =>
        (ck h v1 9).bind fun _ =>
        b2 (f_X9_sorted N v1 t301 h) fun t306 h305 =>
        (lX xs L (v3 + (1 : Int32))).bind fun t307 =>
        (ck h305 v2 10).bind fun _ =>
        b2 (f_X10_sorted N v2 t307 h305) fun t312 h311 =>
        if t306 = t312 then
          f_L_law_18 xs L N n v1 v2 (v3 + 6) h311
        else
          none
      else
      if (t4 &&& (63 : Int32)) = 20 then
        (lX xs L (v3 + (1 : Int32))).bind fun t315 =>
        if t315 = 0 then
          f_L_law_808 xs L N v1 v2 v3 v1 (0 : Int32) h (fun v1 v2 v3 h => f_L_law_18 xs L N n v1 v2 v3 h)
        else
          f_L_law_808 xs L N v1 v2 v3 v1 (1 : Int32) h (fun v1 v2 v3 h => f_L_law_18 xs L N n v1 v2 v3 h)
      else
      if (t4 &&& (63 : Int32)) = 21 then
        (lX xs L (v3 + (1 : Int32))).bind fun t319 =>
        (lX xs L (v3 + (2 : Int32))).bind fun t321 =>
        (lX xs L (v3 + (3 : Int32))).bind fun t323 =>
        (lX xs L (v3 + (4 : Int32))).bind fun t325 =>
        (ck h v1 9).bind fun _ =>
        b2 (f_X9_law N v1 t319 t321 t323 t325 h) fun t330 h329 =>
        (lX xs L (v3 + (1 : Int32))).bind fun t331 =>
        (lX xs L (v3 + (2 : Int32))).bind fun t333 =>
        (lX xs L (v3 + (3 : Int32))).bind fun t335 =>
        (lX xs L (v3 + (4 : Int32))).bind fun t337 =>
        (ck h329 v2 10).bind fun _ =>
        b2 (f_X10_law N v2 t331 t333 t335 t337 h329) fun t342 h341 =>
        if t330 = t342 then
          f_L_law_18 xs L N n v1 v2 (v3 + 6) h341
        else
          none
      else
      if (t4 &&& (63 : Int32)) = 22 then
        (lX xs L (v3 + (1 : Int32))).bind fun t345 =>
        (lX xs L (v3 + (2 : Int32))).bind fun t347 =>
        if t347 = 0 then
          f_L_law_905 xs L N v1 v2 v3 v1 t345 (0 : Int32) h (fun v1 v2 v3 h => f_L_law_18 xs L N n v1 v2 v3 h)
        else
          f_L_law_905 xs L N v1 v2 v3 v1 t345 (1 : Int32) h (fun v1 v2 v3 h => f_L_law_18 xs L N n v1 v2 v3 h)
      else
      if (t4 &&& (63 : Int32)) = 23 then
        (lX xs L (v3 + (1 : Int32))).bind fun t351 =>
        (lX xs L (v3 + (2 : Int32))).bind fun t353 =>
        (lX xs L (v3 + (3 : Int32))).bind fun t355 =>
        (ck h v1 9).bind fun _ =>
        b2 (f_X9_edge N v1 t351 t353 t355 h) fun t360 h359 =>
        (lX xs L (v3 + (1 : Int32))).bind fun t361 =>
        (lX xs L (v3 + (2 : Int32))).bind fun t363 =>
        (lX xs L (v3 + (3 : Int32))).bind fun t365 =>
        (ck h359 v2 10).bind fun _ =>
        b2 (f_X10_edge N v2 t361 t363 t365 h359) fun t370 h369 =>
        if t360 = t370 then
          f_L_law_18 xs L N n v1 v2 (v3 + 6) h369
        else
          none
      else
      if (t4 &&& (63 : Int32)) = 24 then
        (lX xs L (v3 + (1 : Int32))).bind fun t373 =>
        (ck h v1 9).bind fun _ =>
        b2 (f_X9_year N v1 t373 h) fun t378 h377 =>
        (lX xs L (v3 + (1 : Int32))).bind fun t379 =>
        (ck h377 v2 10).bind fun _ =>
        b2 (f_X10_year N v2 t379 h377) fun t384 h383 =>
        if t378 = t384 then
          f_L_law_18 xs L N n v1 v2 (v3 + 6) h383
        else
          none
      else
      if (t4 &&& (63 : Int32)) = 25 then
        (lX xs L (v3 + (1 : Int32))).bind fun t387 =>
        (lX xs L (v3 + (2 : Int32))).bind fun t389 =>
        (lX xs L (v3 + (3 : Int32))).bind fun t391 =>
        (ck h v1 9).bind fun _ =>
        b2 (f_X9_act N v1 t387 t389 t391 h) fun t396 h395 =>
        (lX xs L (v3 + (1 : Int32))).bind fun t397 =>
        (lX xs L (v3 + (2 : Int32))).bind fun t399 =>
        (lX xs L (v3 + (3 : Int32))).bind fun t401 =>
        (ck h395 v2 10).bind fun _ =>
        b2 (f_X10_act N v2 t397 t399 t401 h395) fun t406 h405 =>
        if t396 = t406 then
          f_L_law_18 xs L N n v1 v2 (v3 + 6) h405
        else
          none
      else
      if (t4 &&& (63 : Int32)) = 26 then
        (lX xs L (v3 + (1 : Int32))).bind fun t409 =>
        (ck h v1 9).bind fun _ =>
        b2 (f_X9_trace N v1 t409 h) fun t414 h413 =>
        (lX xs L (v3 + (1 : Int32))).bind fun t415 =>
        (ck h413 v2 10).bind fun _ =>
        b2 (f_X10_trace N v2 t415 h413) fun t420 h419 =>
        if t414 = t420 then
          f_L_law_18 xs L N n v1 v2 (v3 + 6) h419
        else
          none
      else
      if (t4 &&& (63 : Int32)) = 27 then
        (lX xs L (v3 + (1 : Int32))).bind fun t423 =>
        (lX xs L (v3 + (2 : Int32))).bind fun t425 =>
        (ck h v1 9).bind fun _ =>
        b2 (f_X9_taken N v1 t423 t425 h) fun t430 h429 =>
        (lX xs L (v3 + (1 : Int32))).bind fun t431 =>
        (lX xs L (v3 + (2 : Int32))).bind fun t433 =>
        (ck h429 v2 10).bind fun _ =>
        b2 (f_X10_taken N v2 t431 t433 h429) fun t438 h437 =>
        if t430 = t438 then
          f_L_law_18 xs L N n v1 v2 (v3 + 6) h437
        else
          none
      else
      if (t4 &&& (63 : Int32)) = 28 then
        (lX xs L (v3 + (1 : Int32))).bind fun t441 =>
        (ck h v1 9).bind fun _ =>
        b2 (f_X9_count N v1 t441 h) fun t446 h445 =>
        (lX xs L (v3 + (1 : Int32))).bind fun t447 =>
        (ck h445 v2 10).bind fun _ =>
        b2 (f_X10_count N v2 t447 h445) fun t452 h451 =>
        if t446 = t452 then
          f_L_law_18 xs L N n v1 v2 (v3 + 6) h451
        else
          none
      else
      if (t4 &&& (63 : Int32)) = 29 then
        (lX xs L (v3 + (1 : Int32))).bind fun t455 =>
        (lX xs L (v3 + (2 : Int32))).bind fun t457 =>
        (lX xs L (v3 + (3 : Int32))).bind fun t459 =>
        (ck h v1 9).bind fun _ =>
        b2 (f_X9_tape N v1 t455 t457 t459 h) fun t464 h463 =>
        (lX xs L (v3 + (1 : Int32))).bind fun t465 =>
        (lX xs L (v3 + (2 : Int32))).bind fun t467 =>
        (lX xs L (v3 + (3 : Int32))).bind fun t469 =>
        (ck h463 v2 10).bind fun _ =>
        b2 (f_X10_tape N v2 t465 t467 t469 h463) fun t474 h473 =>
        if t464 = t474 then
          f_L_law_18 xs L N n v1 v2 (v3 + 6) h473
        else
          none
      else
      if (t4 &&& (63 : Int32)) = 30 then
        (lX xs L (v3 + (1 : Int32))).bind fun t477 =>
        (lX xs L (v3 + (2 : Int32))).bind fun t479 =>
        (lX xs L (v3 + (3 : Int32))).bind fun t481 =>
        (lX xs L (v3 + (4 : Int32))).bind fun t483 =>
        (ck h v1 9).bind fun _ =>
        b2 (f_X9_item N v1 t477 t479 ((((Int32.toInt64 t481)) <<< (Int32.toInt64 (32 : Int32) &&& 63)) ||| (((Int32.toInt64 t483)) &&& (4294967295 : Int64))) h) fun t488 h487 =>
        (lX xs L (v3 + (1 : Int32))).bind fun t489 =>
        (lX xs L (v3 + (2 : Int32))).bind fun t491 =>
        (lX xs L (v3 + (3 : Int32))).bind fun t493 =>
        (lX xs L (v3 + (4 : Int32))).bind fun t495 =>
        (ck h487 v2 10).bind fun _ =>
        b2 (f_X10_item N v2 t489 t491 ((((Int32.toInt64 t493)) <<< (Int32.toInt64 (32 : Int32) &&& 63)) ||| (((Int32.toInt64 t495)) &&& (4294967295 : Int64))) h487) fun t500 h499 =>
        if t488 = t500 then
          f_L_law_18 xs L N n v1 v2 (v3 + 6) h499
        else
          none
      else
      if (t4 &&& (63 : Int32)) = 31 then
        (lX xs L (v3 + (1 : Int32))).bind fun t503 =>
        (lX xs L (v3 + (2 : Int32))).bind fun t505 =>
        (ck h v1 9).bind fun _ =>
        b2 (f_X9_read N v1 t503 t505 h) fun t510 h509 =>
        (lX xs L (v3 + (1 : Int32))).bind fun t511 =>
        (lX xs L (v3 + (2 : Int32))).bind fun t513 =>
        (ck h509 v2 10).bind fun _ =>
        b2 (f_X10_read N v2 t511 t513 h509) fun t518 h517 =>
        if (lg_cmp t510 t518) = 0 then
          f_L_law_18 xs L N n v1 v2 (v3 + 6) h517
        else
          none
      else
      if (t4 &&& (63 : Int32)) = 32 then
        (lX xs L (v3 + (1 : Int32))).bind fun t521 =>
        (lX xs L (v3 + (2 : Int32))).bind fun t523 =>
        (lX xs L (v3 + (3 : Int32))).bind fun t525 =>
        (lX xs L (v3 + (4 : Int32))).bind fun t527 =>
        (lX xs L (v3 + (5 : Int32))).bind fun t529 =>
        (ck h v1 9).bind fun _ =>
        b2 (f_X9_shift N v1 t521 t523 t525 t527 t529 h) fun t534 h533 =>
        (lX xs L (v3 + (1 : Int32))).bind fun t535 =>
        (lX xs L (v3 + (2 : Int32))).bind fun t537 =>
        (lX xs L (v3 + (3 : Int32))).bind fun t539 =>
        (lX xs L (v3 + (4 : Int32))).bind fun t541 =>
        (lX xs L (v3 + (5 : Int32))).bind fun t543 =>
        (ck h533 v2 10).bind fun _ =>
        b2 (f_X10_shift N v2 t535 t537 t539 t541 t543 h533) fun t548 h547 =>
        if t534 = t548 then
          f_L_law_18 xs L N n v1 v2 (v3 + 6) h547
        else
          none
      else
      f_L_law_18 xs L N n v1 v2 (v3 + 6) h
set_option maxRecDepth 100000 in
set_option maxHeartbeats 8000000 in
theorem w_L_law_18 {p : Program} {l : Launch} {e : Env} {s : State} {m : MethodId} {below : List Frame} {meth : Method} {c : Code} {G : Gx} {b L : Nat} {xs : Nat → Int32} (X : CX G p s m #[Value.ref b] c code 4 RL) (hX : va_X b L xs s s.heap) (hbl : b < gB G ∧ gB G ≤ s.heap.size ∧ s.heap.size ≤ gB G ∧ b < s.heap.size) (hrl : meth.sig.returnType = ret) (hk : meth.locks = false) (N : Nat) : ∀ (n : Nat) (cells slots : Nat), cells + n ≤ 600000 → slots + 4 * n ≤ 7302250 → ∀ (v1 : Nat) (v2 : Nat) (v3 : Int32) (h : Mem), f_L_law_18 xs L N n v1 v2 v3 h = some () → ∀ (H : Heap) (locs : List Loc) (ls : Array Slot), WS G s h H locs → lv_has ls 4 [(0, .ref b), (1, .ref (gB G + v1)), (2, .ref (gB G + v2)), (3, .int v3)] → W p l e room_1 s m #[Value.ref b] below meth c H locs cells slots (lw_Z below #[Value.ref b] s) (F0 m 18 ls []) := by
  intro n
  induction n with
  | zero => intro _ _ _ _ v1 v2 v3 h hf; cases hf
  | succ n ih =>
    intro cells slots hc1 hc2 v1 v2 v3 h hf H locs ls M hl
    rw [f_L_law_18] at hf
    refine lv_iload_n X.1 X.2.1 dL_law_18 rfl (lv_at hl 3 rfl) ?_
    refine lv_aload_n X.1 X.2.1 dL_law_19 rfl (lv_at hl 0 rfl) ?_
    refine y_slen X M hX hbl dL_law_20 ?_
    refine lv_bipush (v := (6 : Int32)) X.1 X.2.1 dL_law_21 (by decide) ?_
    refine lv_isub X.1 X.2.1 dL_law_23 ?_
    refine lv_icmp_gt (tgt := 1342) X.1 X.2.1 dL_law_24 (by decide) (fun c3 => ?_) (fun c3 => ?_)
    · have hf := ifp c3 hf
      refine lv_iconst (v := (1 : Int32)) X.1 X.2.1 dL_law_1342 (by decide) ?_
      exact y_ret X hrl hk M ⟨by omega, by omega⟩ hbl.2.2.1 dL_law_1343
    · have hf := ifn c3 hf
      refine lv_aload_n X.1 X.2.1 dL_law_27 rfl (lv_at hl 0 rfl) ?_
      refine lv_iload_n X.1 X.2.1 dL_law_28 rfl (lv_at hl 3 rfl) ?_
      obtain ⟨t4, q5, hf⟩ := bnd hf
      refine y_sld X M hX hbl q5 dL_law_29 ?_
      refine lv_bipush (v := (63 : Int32)) X.1 X.2.1 dL_law_30 (by decide) ?_
      refine lv_iand X.1 X.2.1 dL_law_32 ?_
      by_cases c6 : (t4 &&& (63 : Int32)) = 0
      · have hf := ifp c6 hf
        refine x_tin (z := 0) (tgt := 180) X rfl c6 dL_law_33 (by decide) (by decide) rfl (by decide) ?_
        refine lv_aload_n X.1 X.2.1 dL_law_180 rfl (lv_at hl 1 rfl) ?_
        refine lv_aload_n X.1 X.2.1 dL_law_181 rfl (lv_at hl 0 rfl) ?_
        refine lv_iload_n X.1 X.2.1 dL_law_182 rfl (lv_at hl 3 rfl) ?_
        refine lv_iconst (v := (1 : Int32)) X.1 X.2.1 dL_law_183 (by decide) ?_
        refine lv_iadd X.1 X.2.1 dL_law_184 ?_
        obtain ⟨t7, q8, hf⟩ := bnd hf
        refine y_sld X M hX hbl q8 dL_law_185 ?_
        obtain ⟨⟨⟩, q9, hf⟩ := bnd hf
        obtain ⟨t12, h11, q10, hf⟩ := bnd2 hf
        refine y_callVi (As := [.int t7]) cf_L_13 (c_X9_town l G N v1 t7 h _ _ q10) rfl ⟨rfl, rfl, Nat.le_of_ble_eq_true rfl, Nat.le_of_ble_eq_true rfl⟩ ⟨by show _ ≤ 600000; omega, by show _ ≤ 7302250; omega⟩ X M (y_recv cls_X9 X M q9) rfl rfl hl.1 (Nat.le_of_ble_eq_true rfl) dL_law_186 (fun H locs M => ?_)
        refine lv_aload_n X.1 X.2.1 dL_law_189 rfl (lv_at hl 2 rfl) ?_
        refine lv_aload_n X.1 X.2.1 dL_law_190 rfl (lv_at hl 0 rfl) ?_
        refine lv_iload_n X.1 X.2.1 dL_law_191 rfl (lv_at hl 3 rfl) ?_
        refine lv_iconst (v := (1 : Int32)) X.1 X.2.1 dL_law_192 (by decide) ?_
        refine lv_iadd X.1 X.2.1 dL_law_193 ?_
        obtain ⟨t13, q14, hf⟩ := bnd hf
        refine y_sld X M hX hbl q14 dL_law_194 ?_
        obtain ⟨⟨⟩, q15, hf⟩ := bnd hf
        obtain ⟨t18, h17, q16, hf⟩ := bnd2 hf
        refine y_callVi (As := [.int t13]) cf_L_17 (c_X10_town l G N v2 t13 h11 _ _ q16) rfl ⟨rfl, rfl, Nat.le_of_ble_eq_true rfl, Nat.le_of_ble_eq_true rfl⟩ ⟨by show _ ≤ 600000; omega, by show _ ≤ 7302250; omega⟩ X M (y_recv cls_X10 X M q15) rfl rfl hl.1 (Nat.le_of_ble_eq_true rfl) dL_law_195 (fun H locs M => ?_)
        refine lv_icmp_eq (tgt := 1336) X.1 X.2.1 dL_law_198 (by decide) (fun c19 => ?_) (fun c19 => ?_)
        · have hf := ifp c19 hf
          refine lv_iinc (v := (v3 + 6)) (lv' := [(3, .int (v3 + 6)), (0, .ref b), (1, .ref (gB G + v1)), (2, .ref (gB G + v2))]) X.1 X.2.1 dL_law_1336 hl (k := 3) rfl (by first | rfl | decide) (by decide) rfl (fun ls hl => ?_)
          refine lv_goto (tgt := 18) X.1 X.2.1 dL_law_1339 (by decide) ?_
          exact ih _ _ (by omega) (by omega) v1 v2 (v3 + 6) h17 hf _ _ _ M (lv_sub hl [1, 2, 3, 0] rfl)
        · have hf := ifn c19 hf
          refine lv_iconst (v := (0 : Int32)) X.1 X.2.1 dL_law_201 (by decide) ?_
          cases hf
      have hf := ifn c6 hf
      by_cases c20 : (t4 &&& (63 : Int32)) = 1
      · have hf := ifp c20 hf
        refine x_tin (z := 1) (tgt := 203) X rfl c20 dL_law_33 (by decide) (by decide) rfl (by decide) ?_
        refine lv_aload_n X.1 X.2.1 dL_law_203 rfl (lv_at hl 1 rfl) ?_
        refine lv_aload_n X.1 X.2.1 dL_law_204 rfl (lv_at hl 0 rfl) ?_
        refine lv_iload_n X.1 X.2.1 dL_law_205 rfl (lv_at hl 3 rfl) ?_
        refine lv_iconst (v := (1 : Int32)) X.1 X.2.1 dL_law_206 (by decide) ?_
        refine lv_iadd X.1 X.2.1 dL_law_207 ?_
        obtain ⟨t21, q22, hf⟩ := bnd hf
        refine y_sld X M hX hbl q22 dL_law_208 ?_
        refine lv_aload_n X.1 X.2.1 dL_law_209 rfl (lv_at hl 0 rfl) ?_
        refine lv_iload_n X.1 X.2.1 dL_law_210 rfl (lv_at hl 3 rfl) ?_
        refine lv_iconst (v := (2 : Int32)) X.1 X.2.1 dL_law_211 (by decide) ?_
        refine lv_iadd X.1 X.2.1 dL_law_212 ?_
        obtain ⟨t23, q24, hf⟩ := bnd hf
        refine y_sld X M hX hbl q24 dL_law_213 ?_
        refine lv_aload_n X.1 X.2.1 dL_law_214 rfl (lv_at hl 0 rfl) ?_
        refine lv_iload_n X.1 X.2.1 dL_law_215 rfl (lv_at hl 3 rfl) ?_
        refine lv_iconst (v := (3 : Int32)) X.1 X.2.1 dL_law_216 (by decide) ?_
        refine lv_iadd X.1 X.2.1 dL_law_217 ?_
        obtain ⟨t25, q26, hf⟩ := bnd hf
        refine y_sld X M hX hbl q26 dL_law_218 ?_
        obtain ⟨⟨⟩, q27, hf⟩ := bnd hf
        obtain ⟨t30, h29, q28, hf⟩ := bnd2 hf
        refine y_callVi (As := [.int t21, .int t23, .int t25]) cf_L_18 (c_X9_family l G N v1 t21 t23 t25 h _ _ q28) rfl ⟨rfl, rfl, Nat.le_of_ble_eq_true rfl, Nat.le_of_ble_eq_true rfl⟩ ⟨by show _ ≤ 600000; omega, by show _ ≤ 7302250; omega⟩ X M (y_recv cls_X9 X M q27) rfl rfl hl.1 (Nat.le_of_ble_eq_true rfl) dL_law_219 (fun H locs M => ?_)
        refine lv_aload_n X.1 X.2.1 dL_law_222 rfl (lv_at hl 2 rfl) ?_
        refine lv_aload_n X.1 X.2.1 dL_law_223 rfl (lv_at hl 0 rfl) ?_
        refine lv_iload_n X.1 X.2.1 dL_law_224 rfl (lv_at hl 3 rfl) ?_
        refine lv_iconst (v := (1 : Int32)) X.1 X.2.1 dL_law_225 (by decide) ?_
        refine lv_iadd X.1 X.2.1 dL_law_226 ?_
        obtain ⟨t31, q32, hf⟩ := bnd hf
        refine y_sld X M hX hbl q32 dL_law_227 ?_
        refine lv_aload_n X.1 X.2.1 dL_law_228 rfl (lv_at hl 0 rfl) ?_
        refine lv_iload_n X.1 X.2.1 dL_law_229 rfl (lv_at hl 3 rfl) ?_
        refine lv_iconst (v := (2 : Int32)) X.1 X.2.1 dL_law_230 (by decide) ?_
        refine lv_iadd X.1 X.2.1 dL_law_231 ?_
        obtain ⟨t33, q34, hf⟩ := bnd hf
        refine y_sld X M hX hbl q34 dL_law_232 ?_
        refine lv_aload_n X.1 X.2.1 dL_law_233 rfl (lv_at hl 0 rfl) ?_
        refine lv_iload_n X.1 X.2.1 dL_law_234 rfl (lv_at hl 3 rfl) ?_
        refine lv_iconst (v := (3 : Int32)) X.1 X.2.1 dL_law_235 (by decide) ?_
        refine lv_iadd X.1 X.2.1 dL_law_236 ?_
        obtain ⟨t35, q36, hf⟩ := bnd hf
        refine y_sld X M hX hbl q36 dL_law_237 ?_
        obtain ⟨⟨⟩, q37, hf⟩ := bnd hf
        obtain ⟨t40, h39, q38, hf⟩ := bnd2 hf
        refine y_callVi (As := [.int t31, .int t33, .int t35]) cf_L_22 (c_X10_family l G N v2 t31 t33 t35 h29 _ _ q38) rfl ⟨rfl, rfl, Nat.le_of_ble_eq_true rfl, Nat.le_of_ble_eq_true rfl⟩ ⟨by show _ ≤ 600000; omega, by show _ ≤ 7302250; omega⟩ X M (y_recv cls_X10 X M q37) rfl rfl hl.1 (Nat.le_of_ble_eq_true rfl) dL_law_238 (fun H locs M => ?_)
        refine lv_icmp_eq (tgt := 1336) X.1 X.2.1 dL_law_241 (by decide) (fun c41 => ?_) (fun c41 => ?_)
        · have hf := ifp c41 hf
          refine lv_iinc (v := (v3 + 6)) (lv' := [(3, .int (v3 + 6)), (0, .ref b), (1, .ref (gB G + v1)), (2, .ref (gB G + v2))]) X.1 X.2.1 dL_law_1336 hl (k := 3) rfl (by first | rfl | decide) (by decide) rfl (fun ls hl => ?_)
          refine lv_goto (tgt := 18) X.1 X.2.1 dL_law_1339 (by decide) ?_
          exact ih _ _ (by omega) (by omega) v1 v2 (v3 + 6) h39 hf _ _ _ M (lv_sub hl [1, 2, 3, 0] rfl)
        · have hf := ifn c41 hf
          refine lv_iconst (v := (0 : Int32)) X.1 X.2.1 dL_law_244 (by decide) ?_
          cases hf
      have hf := ifn c20 hf
      by_cases c42 : (t4 &&& (63 : Int32)) = 2
      · have hf := ifp c42 hf
        refine x_tin (z := 2) (tgt := 246) X rfl c42 dL_law_33 (by decide) (by decide) rfl (by decide) ?_
        refine lv_aload_n X.1 X.2.1 dL_law_246 rfl (lv_at hl 1 rfl) ?_
        refine lv_aload_n X.1 X.2.1 dL_law_247 rfl (lv_at hl 0 rfl) ?_
        refine lv_iload_n X.1 X.2.1 dL_law_248 rfl (lv_at hl 3 rfl) ?_
        refine lv_iconst (v := (1 : Int32)) X.1 X.2.1 dL_law_249 (by decide) ?_
        refine lv_iadd X.1 X.2.1 dL_law_250 ?_
        obtain ⟨t43, q44, hf⟩ := bnd hf
        refine y_sld X M hX hbl q44 dL_law_251 ?_
        refine lv_aload_n X.1 X.2.1 dL_law_252 rfl (lv_at hl 0 rfl) ?_
        refine lv_iload_n X.1 X.2.1 dL_law_253 rfl (lv_at hl 3 rfl) ?_
        refine lv_iconst (v := (2 : Int32)) X.1 X.2.1 dL_law_254 (by decide) ?_
        refine lv_iadd X.1 X.2.1 dL_law_255 ?_
        obtain ⟨t45, q46, hf⟩ := bnd hf
        refine y_sld X M hX hbl q46 dL_law_256 ?_
        refine lv_aload_n X.1 X.2.1 dL_law_257 rfl (lv_at hl 0 rfl) ?_
        refine lv_iload_n X.1 X.2.1 dL_law_258 rfl (lv_at hl 3 rfl) ?_
        refine lv_iconst (v := (3 : Int32)) X.1 X.2.1 dL_law_259 (by decide) ?_
        refine lv_iadd X.1 X.2.1 dL_law_260 ?_
        obtain ⟨t47, q48, hf⟩ := bnd hf
        refine y_sld X M hX hbl q48 dL_law_261 ?_
        obtain ⟨⟨⟩, q49, hf⟩ := bnd hf
        obtain ⟨t52, h51, q50, hf⟩ := bnd2 hf
        refine y_callVi (As := [.int t43, .int t45, .int t47]) cf_L_23 (c_X9_put l G N v1 t43 t45 t47 h _ _ q50) rfl ⟨rfl, rfl, Nat.le_of_ble_eq_true rfl, Nat.le_of_ble_eq_true rfl⟩ ⟨by show _ ≤ 600000; omega, by show _ ≤ 7302250; omega⟩ X M (y_recv cls_X9 X M q49) rfl rfl hl.1 (Nat.le_of_ble_eq_true rfl) dL_law_262 (fun H locs M => ?_)
        refine lv_aload_n X.1 X.2.1 dL_law_265 rfl (lv_at hl 2 rfl) ?_
        refine lv_aload_n X.1 X.2.1 dL_law_266 rfl (lv_at hl 0 rfl) ?_
        refine lv_iload_n X.1 X.2.1 dL_law_267 rfl (lv_at hl 3 rfl) ?_
        refine lv_iconst (v := (1 : Int32)) X.1 X.2.1 dL_law_268 (by decide) ?_
        refine lv_iadd X.1 X.2.1 dL_law_269 ?_
        obtain ⟨t53, q54, hf⟩ := bnd hf
        refine y_sld X M hX hbl q54 dL_law_270 ?_
        refine lv_aload_n X.1 X.2.1 dL_law_271 rfl (lv_at hl 0 rfl) ?_
        refine lv_iload_n X.1 X.2.1 dL_law_272 rfl (lv_at hl 3 rfl) ?_
        refine lv_iconst (v := (2 : Int32)) X.1 X.2.1 dL_law_273 (by decide) ?_
        refine lv_iadd X.1 X.2.1 dL_law_274 ?_
        obtain ⟨t55, q56, hf⟩ := bnd hf
        refine y_sld X M hX hbl q56 dL_law_275 ?_
        refine lv_aload_n X.1 X.2.1 dL_law_276 rfl (lv_at hl 0 rfl) ?_
        refine lv_iload_n X.1 X.2.1 dL_law_277 rfl (lv_at hl 3 rfl) ?_
        refine lv_iconst (v := (3 : Int32)) X.1 X.2.1 dL_law_278 (by decide) ?_
        refine lv_iadd X.1 X.2.1 dL_law_279 ?_
        obtain ⟨t57, q58, hf⟩ := bnd hf
        refine y_sld X M hX hbl q58 dL_law_280 ?_
        obtain ⟨⟨⟩, q59, hf⟩ := bnd hf
        obtain ⟨t62, h61, q60, hf⟩ := bnd2 hf
        refine y_callVi (As := [.int t53, .int t55, .int t57]) cf_L_26 (c_X10_put l G N v2 t53 t55 t57 h51 _ _ q60) rfl ⟨rfl, rfl, Nat.le_of_ble_eq_true rfl, Nat.le_of_ble_eq_true rfl⟩ ⟨by show _ ≤ 600000; omega, by show _ ≤ 7302250; omega⟩ X M (y_recv cls_X10 X M q59) rfl rfl hl.1 (Nat.le_of_ble_eq_true rfl) dL_law_281 (fun H locs M => ?_)
        refine lv_icmp_eq (tgt := 1336) X.1 X.2.1 dL_law_284 (by decide) (fun c63 => ?_) (fun c63 => ?_)
        · have hf := ifp c63 hf
          refine lv_iinc (v := (v3 + 6)) (lv' := [(3, .int (v3 + 6)), (0, .ref b), (1, .ref (gB G + v1)), (2, .ref (gB G + v2))]) X.1 X.2.1 dL_law_1336 hl (k := 3) rfl (by first | rfl | decide) (by decide) rfl (fun ls hl => ?_)
          refine lv_goto (tgt := 18) X.1 X.2.1 dL_law_1339 (by decide) ?_
          exact ih _ _ (by omega) (by omega) v1 v2 (v3 + 6) h61 hf _ _ _ M (lv_sub hl [1, 2, 3, 0] rfl)
        · have hf := ifn c63 hf
          refine lv_iconst (v := (0 : Int32)) X.1 X.2.1 dL_law_287 (by decide) ?_
          cases hf
      have hf := ifn c42 hf
      by_cases c64 : (t4 &&& (63 : Int32)) = 3
      · have hf := ifp c64 hf
        refine x_tin (z := 3) (tgt := 289) X rfl c64 dL_law_33 (by decide) (by decide) rfl (by decide) ?_
        refine lv_aload_n X.1 X.2.1 dL_law_289 rfl (lv_at hl 1 rfl) ?_
        refine lv_aload_n X.1 X.2.1 dL_law_290 rfl (lv_at hl 0 rfl) ?_
        refine lv_iload_n X.1 X.2.1 dL_law_291 rfl (lv_at hl 3 rfl) ?_
        refine lv_iconst (v := (1 : Int32)) X.1 X.2.1 dL_law_292 (by decide) ?_
        refine lv_iadd X.1 X.2.1 dL_law_293 ?_
        obtain ⟨t65, q66, hf⟩ := bnd hf
        refine y_sld X M hX hbl q66 dL_law_294 ?_
        refine lv_aload_n X.1 X.2.1 dL_law_295 rfl (lv_at hl 0 rfl) ?_
        refine lv_iload_n X.1 X.2.1 dL_law_296 rfl (lv_at hl 3 rfl) ?_
        refine lv_iconst (v := (2 : Int32)) X.1 X.2.1 dL_law_297 (by decide) ?_
        refine lv_iadd X.1 X.2.1 dL_law_298 ?_
        obtain ⟨t67, q68, hf⟩ := bnd hf
        refine y_sld X M hX hbl q68 dL_law_299 ?_
        obtain ⟨⟨⟩, q69, hf⟩ := bnd hf
        obtain ⟨t72, h71, q70, hf⟩ := bnd2 hf
        refine y_callVl (As := [.int t65, .int t67]) cf_L_27 (c_X9_of l G N v1 t65 t67 h _ _ q70) rfl ⟨rfl, rfl, Nat.le_of_ble_eq_true rfl, Nat.le_of_ble_eq_true rfl⟩ ⟨by show _ ≤ 600000; omega, by show _ ≤ 7302250; omega⟩ X M (y_recv cls_X9 X M q69) rfl rfl hl.1 (Nat.le_of_ble_eq_true rfl) dL_law_300 (fun H locs M => ?_)
        refine lv_aload_n X.1 X.2.1 dL_law_303 rfl (lv_at hl 2 rfl) ?_
        refine lv_aload_n X.1 X.2.1 dL_law_304 rfl (lv_at hl 0 rfl) ?_
        refine lv_iload_n X.1 X.2.1 dL_law_305 rfl (lv_at hl 3 rfl) ?_
        refine lv_iconst (v := (1 : Int32)) X.1 X.2.1 dL_law_306 (by decide) ?_
        refine lv_iadd X.1 X.2.1 dL_law_307 ?_
        obtain ⟨t73, q74, hf⟩ := bnd hf
        refine y_sld X M hX hbl q74 dL_law_308 ?_
        refine lv_aload_n X.1 X.2.1 dL_law_309 rfl (lv_at hl 0 rfl) ?_
        refine lv_iload_n X.1 X.2.1 dL_law_310 rfl (lv_at hl 3 rfl) ?_
        refine lv_iconst (v := (2 : Int32)) X.1 X.2.1 dL_law_311 (by decide) ?_
        refine lv_iadd X.1 X.2.1 dL_law_312 ?_
        obtain ⟨t75, q76, hf⟩ := bnd hf
        refine y_sld X M hX hbl q76 dL_law_313 ?_
        obtain ⟨⟨⟩, q77, hf⟩ := bnd hf
        obtain ⟨t80, h79, q78, hf⟩ := bnd2 hf
        refine y_callVl (As := [.int t73, .int t75]) cf_L_31 (c_X10_of l G N v2 t73 t75 h71 _ _ q78) rfl ⟨rfl, rfl, Nat.le_of_ble_eq_true rfl, Nat.le_of_ble_eq_true rfl⟩ ⟨by show _ ≤ 600000; omega, by show _ ≤ 7302250; omega⟩ X M (y_recv cls_X10 X M q77) rfl rfl hl.1 (Nat.le_of_ble_eq_true rfl) dL_law_314 (fun H locs M => ?_)
        refine W.lcmp X.1 X.2.1 dL_law_317 ?_
        refine lv_if_eq (tgt := 1336) X.1 X.2.1 dL_law_318 (by decide) (fun c81 => ?_) (fun c81 => ?_)
        · have hf := ifp c81 hf
          refine lv_iinc (v := (v3 + 6)) (lv' := [(3, .int (v3 + 6)), (0, .ref b), (1, .ref (gB G + v1)), (2, .ref (gB G + v2))]) X.1 X.2.1 dL_law_1336 hl (k := 3) rfl (by first | rfl | decide) (by decide) rfl (fun ls hl => ?_)
          refine lv_goto (tgt := 18) X.1 X.2.1 dL_law_1339 (by decide) ?_
          exact ih _ _ (by omega) (by omega) v1 v2 (v3 + 6) h79 hf _ _ _ M (lv_sub hl [1, 2, 3, 0] rfl)
        · have hf := ifn c81 hf
          refine lv_iconst (v := (0 : Int32)) X.1 X.2.1 dL_law_321 (by decide) ?_
          cases hf
      have hf := ifn c64 hf
      by_cases c82 : (t4 &&& (63 : Int32)) = 4
      · have hf := ifp c82 hf
        refine x_tin (z := 4) (tgt := 323) X rfl c82 dL_law_33 (by decide) (by decide) rfl (by decide) ?_
        refine lv_aload_n X.1 X.2.1 dL_law_323 rfl (lv_at hl 1 rfl) ?_
        refine lv_aload_n X.1 X.2.1 dL_law_324 rfl (lv_at hl 0 rfl) ?_
        refine lv_iload_n X.1 X.2.1 dL_law_325 rfl (lv_at hl 3 rfl) ?_
        refine lv_iconst (v := (1 : Int32)) X.1 X.2.1 dL_law_326 (by decide) ?_
        refine lv_iadd X.1 X.2.1 dL_law_327 ?_
        obtain ⟨t83, q84, hf⟩ := bnd hf
        refine y_sld X M hX hbl q84 dL_law_328 ?_
        refine lv_aload_n X.1 X.2.1 dL_law_329 rfl (lv_at hl 0 rfl) ?_
        refine lv_iload_n X.1 X.2.1 dL_law_330 rfl (lv_at hl 3 rfl) ?_
        refine lv_iconst (v := (2 : Int32)) X.1 X.2.1 dL_law_331 (by decide) ?_
        refine lv_iadd X.1 X.2.1 dL_law_332 ?_
        obtain ⟨t85, q86, hf⟩ := bnd hf
        refine y_sld X M hX hbl q86 dL_law_333 ?_
        obtain ⟨⟨⟩, q87, hf⟩ := bnd hf
        obtain ⟨t90, h89, q88, hf⟩ := bnd2 hf
        refine y_callVi (As := [.int t83, .int t85]) cf_L_32 (c_X9_has l G N v1 t83 t85 h _ _ q88) rfl ⟨rfl, rfl, Nat.le_of_ble_eq_true rfl, Nat.le_of_ble_eq_true rfl⟩ ⟨by show _ ≤ 600000; omega, by show _ ≤ 7302250; omega⟩ X M (y_recv cls_X9 X M q87) rfl rfl hl.1 (Nat.le_of_ble_eq_true rfl) dL_law_334 (fun H locs M => ?_)
        refine lv_aload_n X.1 X.2.1 dL_law_337 rfl (lv_at hl 2 rfl) ?_
        refine lv_aload_n X.1 X.2.1 dL_law_338 rfl (lv_at hl 0 rfl) ?_
        refine lv_iload_n X.1 X.2.1 dL_law_339 rfl (lv_at hl 3 rfl) ?_
        refine lv_iconst (v := (1 : Int32)) X.1 X.2.1 dL_law_340 (by decide) ?_
        refine lv_iadd X.1 X.2.1 dL_law_341 ?_
        obtain ⟨t91, q92, hf⟩ := bnd hf
        refine y_sld X M hX hbl q92 dL_law_342 ?_
        refine lv_aload_n X.1 X.2.1 dL_law_343 rfl (lv_at hl 0 rfl) ?_
        refine lv_iload_n X.1 X.2.1 dL_law_344 rfl (lv_at hl 3 rfl) ?_
        refine lv_iconst (v := (2 : Int32)) X.1 X.2.1 dL_law_345 (by decide) ?_
        refine lv_iadd X.1 X.2.1 dL_law_346 ?_
        obtain ⟨t93, q94, hf⟩ := bnd hf
        refine y_sld X M hX hbl q94 dL_law_347 ?_
        obtain ⟨⟨⟩, q95, hf⟩ := bnd hf
        obtain ⟨t98, h97, q96, hf⟩ := bnd2 hf
        refine y_callVi (As := [.int t91, .int t93]) cf_L_36 (c_X10_has l G N v2 t91 t93 h89 _ _ q96) rfl ⟨rfl, rfl, Nat.le_of_ble_eq_true rfl, Nat.le_of_ble_eq_true rfl⟩ ⟨by show _ ≤ 600000; omega, by show _ ≤ 7302250; omega⟩ X M (y_recv cls_X10 X M q95) rfl rfl hl.1 (Nat.le_of_ble_eq_true rfl) dL_law_348 (fun H locs M => ?_)
        refine lv_icmp_eq (tgt := 1336) X.1 X.2.1 dL_law_351 (by decide) (fun c99 => ?_) (fun c99 => ?_)
        · have hf := ifp c99 hf
          refine lv_iinc (v := (v3 + 6)) (lv' := [(3, .int (v3 + 6)), (0, .ref b), (1, .ref (gB G + v1)), (2, .ref (gB G + v2))]) X.1 X.2.1 dL_law_1336 hl (k := 3) rfl (by first | rfl | decide) (by decide) rfl (fun ls hl => ?_)
          refine lv_goto (tgt := 18) X.1 X.2.1 dL_law_1339 (by decide) ?_
          exact ih _ _ (by omega) (by omega) v1 v2 (v3 + 6) h97 hf _ _ _ M (lv_sub hl [1, 2, 3, 0] rfl)
        · have hf := ifn c99 hf
          refine lv_iconst (v := (0 : Int32)) X.1 X.2.1 dL_law_354 (by decide) ?_
          cases hf
      have hf := ifn c82 hf
      by_cases c100 : (t4 &&& (63 : Int32)) = 5
      · have hf := ifp c100 hf
        refine x_tin (z := 5) (tgt := 356) X rfl c100 dL_law_33 (by decide) (by decide) rfl (by decide) ?_
        refine lv_aload_n X.1 X.2.1 dL_law_356 rfl (lv_at hl 1 rfl) ?_
        refine lv_aload_n X.1 X.2.1 dL_law_357 rfl (lv_at hl 0 rfl) ?_
        refine lv_iload_n X.1 X.2.1 dL_law_358 rfl (lv_at hl 3 rfl) ?_
        refine lv_iconst (v := (1 : Int32)) X.1 X.2.1 dL_law_359 (by decide) ?_
        refine lv_iadd X.1 X.2.1 dL_law_360 ?_
        obtain ⟨t101, q102, hf⟩ := bnd hf
        refine y_sld X M hX hbl q102 dL_law_361 ?_
        refine lv_aload_n X.1 X.2.1 dL_law_362 rfl (lv_at hl 0 rfl) ?_
        refine lv_iload_n X.1 X.2.1 dL_law_363 rfl (lv_at hl 3 rfl) ?_
        refine lv_iconst (v := (2 : Int32)) X.1 X.2.1 dL_law_364 (by decide) ?_
        refine lv_iadd X.1 X.2.1 dL_law_365 ?_
        obtain ⟨t103, q104, hf⟩ := bnd hf
        refine y_sld X M hX hbl q104 dL_law_366 ?_
        obtain ⟨⟨⟩, q105, hf⟩ := bnd hf
        obtain ⟨t108, h107, q106, hf⟩ := bnd2 hf
        refine y_callVi (As := [.int t101, .int t103]) cf_L_37 (c_X9_feed l G N v1 t101 t103 h _ _ q106) rfl ⟨rfl, rfl, Nat.le_of_ble_eq_true rfl, Nat.le_of_ble_eq_true rfl⟩ ⟨by show _ ≤ 600000; omega, by show _ ≤ 7302250; omega⟩ X M (y_recv cls_X9 X M q105) rfl rfl hl.1 (Nat.le_of_ble_eq_true rfl) dL_law_367 (fun H locs M => ?_)
        refine lv_aload_n X.1 X.2.1 dL_law_370 rfl (lv_at hl 2 rfl) ?_
        refine lv_aload_n X.1 X.2.1 dL_law_371 rfl (lv_at hl 0 rfl) ?_
        refine lv_iload_n X.1 X.2.1 dL_law_372 rfl (lv_at hl 3 rfl) ?_
        refine lv_iconst (v := (1 : Int32)) X.1 X.2.1 dL_law_373 (by decide) ?_
        refine lv_iadd X.1 X.2.1 dL_law_374 ?_
        obtain ⟨t109, q110, hf⟩ := bnd hf
        refine y_sld X M hX hbl q110 dL_law_375 ?_
        refine lv_aload_n X.1 X.2.1 dL_law_376 rfl (lv_at hl 0 rfl) ?_
        refine lv_iload_n X.1 X.2.1 dL_law_377 rfl (lv_at hl 3 rfl) ?_
        refine lv_iconst (v := (2 : Int32)) X.1 X.2.1 dL_law_378 (by decide) ?_
        refine lv_iadd X.1 X.2.1 dL_law_379 ?_
        obtain ⟨t111, q112, hf⟩ := bnd hf
        refine y_sld X M hX hbl q112 dL_law_380 ?_
        obtain ⟨⟨⟩, q113, hf⟩ := bnd hf
        obtain ⟨t116, h115, q114, hf⟩ := bnd2 hf
        refine y_callVi (As := [.int t109, .int t111]) cf_L_40 (c_X10_feed l G N v2 t109 t111 h107 _ _ q114) rfl ⟨rfl, rfl, Nat.le_of_ble_eq_true rfl, Nat.le_of_ble_eq_true rfl⟩ ⟨by show _ ≤ 600000; omega, by show _ ≤ 7302250; omega⟩ X M (y_recv cls_X10 X M q113) rfl rfl hl.1 (Nat.le_of_ble_eq_true rfl) dL_law_381 (fun H locs M => ?_)
        refine lv_icmp_eq (tgt := 1336) X.1 X.2.1 dL_law_384 (by decide) (fun c117 => ?_) (fun c117 => ?_)
        · have hf := ifp c117 hf
          refine lv_iinc (v := (v3 + 6)) (lv' := [(3, .int (v3 + 6)), (0, .ref b), (1, .ref (gB G + v1)), (2, .ref (gB G + v2))]) X.1 X.2.1 dL_law_1336 hl (k := 3) rfl (by first | rfl | decide) (by decide) rfl (fun ls hl => ?_)
          refine lv_goto (tgt := 18) X.1 X.2.1 dL_law_1339 (by decide) ?_
          exact ih _ _ (by omega) (by omega) v1 v2 (v3 + 6) h115 hf _ _ _ M (lv_sub hl [1, 2, 3, 0] rfl)
        · have hf := ifn c117 hf
          refine lv_iconst (v := (0 : Int32)) X.1 X.2.1 dL_law_387 (by decide) ?_
          cases hf
      have hf := ifn c100 hf
      by_cases c118 : (t4 &&& (63 : Int32)) = 6
      · have hf := ifp c118 hf
        refine x_tin (z := 6) (tgt := 389) X rfl c118 dL_law_33 (by decide) (by decide) rfl (by decide) ?_
        refine lv_aload_n X.1 X.2.1 dL_law_389 rfl (lv_at hl 1 rfl) ?_
        obtain ⟨⟨⟩, q119, hf⟩ := bnd hf
        obtain ⟨t122, h121, q120, hf⟩ := bnd2 hf
        refine y_callVi (As := []) cf_L_41 (c_X9_land l G N v1 h _ _ q120) rfl ⟨rfl, rfl, Nat.le_of_ble_eq_true rfl, Nat.le_of_ble_eq_true rfl⟩ ⟨by show _ ≤ 600000; omega, by show _ ≤ 7302250; omega⟩ X M (y_recv cls_X9 X M q119) rfl rfl hl.1 (Nat.le_of_ble_eq_true rfl) dL_law_390 (fun H locs M => ?_)
        refine lv_aload_n X.1 X.2.1 dL_law_393 rfl (lv_at hl 2 rfl) ?_
        obtain ⟨⟨⟩, q123, hf⟩ := bnd hf
        obtain ⟨t126, h125, q124, hf⟩ := bnd2 hf
        refine y_callVi (As := []) cf_L_45 (c_X10_land l G N v2 h121 _ _ q124) rfl ⟨rfl, rfl, Nat.le_of_ble_eq_true rfl, Nat.le_of_ble_eq_true rfl⟩ ⟨by show _ ≤ 600000; omega, by show _ ≤ 7302250; omega⟩ X M (y_recv cls_X10 X M q123) rfl rfl hl.1 (Nat.le_of_ble_eq_true rfl) dL_law_394 (fun H locs M => ?_)
        refine lv_icmp_eq (tgt := 1336) X.1 X.2.1 dL_law_397 (by decide) (fun c127 => ?_) (fun c127 => ?_)
        · have hf := ifp c127 hf
          refine lv_iinc (v := (v3 + 6)) (lv' := [(3, .int (v3 + 6)), (0, .ref b), (1, .ref (gB G + v1)), (2, .ref (gB G + v2))]) X.1 X.2.1 dL_law_1336 hl (k := 3) rfl (by first | rfl | decide) (by decide) rfl (fun ls hl => ?_)
          refine lv_goto (tgt := 18) X.1 X.2.1 dL_law_1339 (by decide) ?_
          exact ih _ _ (by omega) (by omega) v1 v2 (v3 + 6) h125 hf _ _ _ M (lv_sub hl [1, 2, 3, 0] rfl)
        · have hf := ifn c127 hf
          refine lv_iconst (v := (0 : Int32)) X.1 X.2.1 dL_law_400 (by decide) ?_
          cases hf
      have hf := ifn c118 hf
      by_cases c128 : (t4 &&& (63 : Int32)) = 7
      · have hf := ifp c128 hf
        refine x_tin (z := 7) (tgt := 402) X rfl c128 dL_law_33 (by decide) (by decide) rfl (by decide) ?_
        refine lv_aload_n X.1 X.2.1 dL_law_402 rfl (lv_at hl 1 rfl) ?_
        refine lv_aload_n X.1 X.2.1 dL_law_403 rfl (lv_at hl 0 rfl) ?_
        refine lv_iload_n X.1 X.2.1 dL_law_404 rfl (lv_at hl 3 rfl) ?_
        refine lv_iconst (v := (1 : Int32)) X.1 X.2.1 dL_law_405 (by decide) ?_
        refine lv_iadd X.1 X.2.1 dL_law_406 ?_
        obtain ⟨t129, q130, hf⟩ := bnd hf
        refine y_sld X M hX hbl q130 dL_law_407 ?_
        refine lv_aload_n X.1 X.2.1 dL_law_408 rfl (lv_at hl 0 rfl) ?_
        refine lv_iload_n X.1 X.2.1 dL_law_409 rfl (lv_at hl 3 rfl) ?_
        refine lv_iconst (v := (2 : Int32)) X.1 X.2.1 dL_law_410 (by decide) ?_
        refine lv_iadd X.1 X.2.1 dL_law_411 ?_
        obtain ⟨t131, q132, hf⟩ := bnd hf
        refine y_sld X M hX hbl q132 dL_law_412 ?_
        obtain ⟨⟨⟩, q133, hf⟩ := bnd hf
        obtain ⟨t136, h135, q134, hf⟩ := bnd2 hf
        refine y_callVl (As := [.int t129, .int t131]) cf_L_46 (c_X9_worth l G N v1 t129 t131 h _ _ q134) rfl ⟨rfl, rfl, Nat.le_of_ble_eq_true rfl, Nat.le_of_ble_eq_true rfl⟩ ⟨by show _ ≤ 600000; omega, by show _ ≤ 7302250; omega⟩ X M (y_recv cls_X9 X M q133) rfl rfl hl.1 (Nat.le_of_ble_eq_true rfl) dL_law_413 (fun H locs M => ?_)
        refine lv_aload_n X.1 X.2.1 dL_law_416 rfl (lv_at hl 2 rfl) ?_
        refine lv_aload_n X.1 X.2.1 dL_law_417 rfl (lv_at hl 0 rfl) ?_
        refine lv_iload_n X.1 X.2.1 dL_law_418 rfl (lv_at hl 3 rfl) ?_
        refine lv_iconst (v := (1 : Int32)) X.1 X.2.1 dL_law_419 (by decide) ?_
        refine lv_iadd X.1 X.2.1 dL_law_420 ?_
        obtain ⟨t137, q138, hf⟩ := bnd hf
        refine y_sld X M hX hbl q138 dL_law_421 ?_
        refine lv_aload_n X.1 X.2.1 dL_law_422 rfl (lv_at hl 0 rfl) ?_
        refine lv_iload_n X.1 X.2.1 dL_law_423 rfl (lv_at hl 3 rfl) ?_
        refine lv_iconst (v := (2 : Int32)) X.1 X.2.1 dL_law_424 (by decide) ?_
        refine lv_iadd X.1 X.2.1 dL_law_425 ?_
        obtain ⟨t139, q140, hf⟩ := bnd hf
        refine y_sld X M hX hbl q140 dL_law_426 ?_
        obtain ⟨⟨⟩, q141, hf⟩ := bnd hf
        obtain ⟨t144, h143, q142, hf⟩ := bnd2 hf
        refine y_callVl (As := [.int t137, .int t139]) cf_L_49 (c_X10_worth l G N v2 t137 t139 h135 _ _ q142) rfl ⟨rfl, rfl, Nat.le_of_ble_eq_true rfl, Nat.le_of_ble_eq_true rfl⟩ ⟨by show _ ≤ 600000; omega, by show _ ≤ 7302250; omega⟩ X M (y_recv cls_X10 X M q141) rfl rfl hl.1 (Nat.le_of_ble_eq_true rfl) dL_law_427 (fun H locs M => ?_)
        refine W.lcmp X.1 X.2.1 dL_law_430 ?_
        refine lv_if_eq (tgt := 1336) X.1 X.2.1 dL_law_431 (by decide) (fun c145 => ?_) (fun c145 => ?_)
        · have hf := ifp c145 hf
          refine lv_iinc (v := (v3 + 6)) (lv' := [(3, .int (v3 + 6)), (0, .ref b), (1, .ref (gB G + v1)), (2, .ref (gB G + v2))]) X.1 X.2.1 dL_law_1336 hl (k := 3) rfl (by first | rfl | decide) (by decide) rfl (fun ls hl => ?_)
          refine lv_goto (tgt := 18) X.1 X.2.1 dL_law_1339 (by decide) ?_
          exact ih _ _ (by omega) (by omega) v1 v2 (v3 + 6) h143 hf _ _ _ M (lv_sub hl [1, 2, 3, 0] rfl)
        · have hf := ifn c145 hf
          refine lv_iconst (v := (0 : Int32)) X.1 X.2.1 dL_law_434 (by decide) ?_
          cases hf
      have hf := ifn c128 hf
      by_cases c146 : (t4 &&& (63 : Int32)) = 8
      · have hf := ifp c146 hf
        refine x_tin (z := 8) (tgt := 436) X rfl c146 dL_law_33 (by decide) (by decide) rfl (by decide) ?_
        refine lv_aload_n X.1 X.2.1 dL_law_436 rfl (lv_at hl 1 rfl) ?_
        refine lv_aload_n X.1 X.2.1 dL_law_437 rfl (lv_at hl 0 rfl) ?_
        refine lv_iload_n X.1 X.2.1 dL_law_438 rfl (lv_at hl 3 rfl) ?_
        refine lv_iconst (v := (1 : Int32)) X.1 X.2.1 dL_law_439 (by decide) ?_
        refine lv_iadd X.1 X.2.1 dL_law_440 ?_
        obtain ⟨t147, q148, hf⟩ := bnd hf
        refine y_sld X M hX hbl q148 dL_law_441 ?_
        refine lv_aload_n X.1 X.2.1 dL_law_442 rfl (lv_at hl 0 rfl) ?_
        refine lv_iload_n X.1 X.2.1 dL_law_443 rfl (lv_at hl 3 rfl) ?_
        refine lv_iconst (v := (2 : Int32)) X.1 X.2.1 dL_law_444 (by decide) ?_
        refine lv_iadd X.1 X.2.1 dL_law_445 ?_
        obtain ⟨t149, q150, hf⟩ := bnd hf
        refine y_sld X M hX hbl q150 dL_law_446 ?_
        obtain ⟨⟨⟩, q151, hf⟩ := bnd hf
        obtain ⟨t154, h153, q152, hf⟩ := bnd2 hf
        refine y_callVi (As := [.int t147, .int t149]) cf_L_50 (c_X9_choice l G N v1 t147 t149 h _ _ q152) rfl ⟨rfl, rfl, Nat.le_of_ble_eq_true rfl, Nat.le_of_ble_eq_true rfl⟩ ⟨by show _ ≤ 600000; omega, by show _ ≤ 7302250; omega⟩ X M (y_recv cls_X9 X M q151) rfl rfl hl.1 (Nat.le_of_ble_eq_true rfl) dL_law_447 (fun H locs M => ?_)
        refine lv_aload_n X.1 X.2.1 dL_law_450 rfl (lv_at hl 2 rfl) ?_
        refine lv_aload_n X.1 X.2.1 dL_law_451 rfl (lv_at hl 0 rfl) ?_
        refine lv_iload_n X.1 X.2.1 dL_law_452 rfl (lv_at hl 3 rfl) ?_
        refine lv_iconst (v := (1 : Int32)) X.1 X.2.1 dL_law_453 (by decide) ?_
        refine lv_iadd X.1 X.2.1 dL_law_454 ?_
        obtain ⟨t155, q156, hf⟩ := bnd hf
        refine y_sld X M hX hbl q156 dL_law_455 ?_
        refine lv_aload_n X.1 X.2.1 dL_law_456 rfl (lv_at hl 0 rfl) ?_
        refine lv_iload_n X.1 X.2.1 dL_law_457 rfl (lv_at hl 3 rfl) ?_
        refine lv_iconst (v := (2 : Int32)) X.1 X.2.1 dL_law_458 (by decide) ?_
        refine lv_iadd X.1 X.2.1 dL_law_459 ?_
        obtain ⟨t157, q158, hf⟩ := bnd hf
        refine y_sld X M hX hbl q158 dL_law_460 ?_
        obtain ⟨⟨⟩, q159, hf⟩ := bnd hf
        obtain ⟨t162, h161, q160, hf⟩ := bnd2 hf
        refine y_callVi (As := [.int t155, .int t157]) cf_L_53 (c_X10_choice l G N v2 t155 t157 h153 _ _ q160) rfl ⟨rfl, rfl, Nat.le_of_ble_eq_true rfl, Nat.le_of_ble_eq_true rfl⟩ ⟨by show _ ≤ 600000; omega, by show _ ≤ 7302250; omega⟩ X M (y_recv cls_X10 X M q159) rfl rfl hl.1 (Nat.le_of_ble_eq_true rfl) dL_law_461 (fun H locs M => ?_)
        refine lv_icmp_eq (tgt := 1336) X.1 X.2.1 dL_law_464 (by decide) (fun c163 => ?_) (fun c163 => ?_)
        · have hf := ifp c163 hf
          refine lv_iinc (v := (v3 + 6)) (lv' := [(3, .int (v3 + 6)), (0, .ref b), (1, .ref (gB G + v1)), (2, .ref (gB G + v2))]) X.1 X.2.1 dL_law_1336 hl (k := 3) rfl (by first | rfl | decide) (by decide) rfl (fun ls hl => ?_)
          refine lv_goto (tgt := 18) X.1 X.2.1 dL_law_1339 (by decide) ?_
          exact ih _ _ (by omega) (by omega) v1 v2 (v3 + 6) h161 hf _ _ _ M (lv_sub hl [1, 2, 3, 0] rfl)
        · have hf := ifn c163 hf
          refine lv_iconst (v := (0 : Int32)) X.1 X.2.1 dL_law_467 (by decide) ?_
          cases hf
      have hf := ifn c146 hf
      by_cases c164 : (t4 &&& (63 : Int32)) = 9
      · have hf := ifp c164 hf
        refine x_tin (z := 9) (tgt := 469) X rfl c164 dL_law_33 (by decide) (by decide) rfl (by decide) ?_
        refine lv_aload_n X.1 X.2.1 dL_law_469 rfl (lv_at hl 1 rfl) ?_
        refine lv_aload_n X.1 X.2.1 dL_law_470 rfl (lv_at hl 0 rfl) ?_
        refine lv_iload_n X.1 X.2.1 dL_law_471 rfl (lv_at hl 3 rfl) ?_
        refine lv_iconst (v := (1 : Int32)) X.1 X.2.1 dL_law_472 (by decide) ?_
        refine lv_iadd X.1 X.2.1 dL_law_473 ?_
        obtain ⟨t165, q166, hf⟩ := bnd hf
        refine y_sld X M hX hbl q166 dL_law_474 ?_
        obtain ⟨⟨⟩, q167, hf⟩ := bnd hf
        obtain ⟨t170, h169, q168, hf⟩ := bnd2 hf
        refine y_callVi (As := [.int t165]) cf_L_54 (c_X9_choose l G N v1 t165 h _ _ q168) rfl ⟨rfl, rfl, Nat.le_of_ble_eq_true rfl, Nat.le_of_ble_eq_true rfl⟩ ⟨by show _ ≤ 600000; omega, by show _ ≤ 7302250; omega⟩ X M (y_recv cls_X9 X M q167) rfl rfl hl.1 (Nat.le_of_ble_eq_true rfl) dL_law_475 (fun H locs M => ?_)
        refine lv_aload_n X.1 X.2.1 dL_law_478 rfl (lv_at hl 2 rfl) ?_
        refine lv_aload_n X.1 X.2.1 dL_law_479 rfl (lv_at hl 0 rfl) ?_
        refine lv_iload_n X.1 X.2.1 dL_law_480 rfl (lv_at hl 3 rfl) ?_
        refine lv_iconst (v := (1 : Int32)) X.1 X.2.1 dL_law_481 (by decide) ?_
        refine lv_iadd X.1 X.2.1 dL_law_482 ?_
        obtain ⟨t171, q172, hf⟩ := bnd hf
        refine y_sld X M hX hbl q172 dL_law_483 ?_
        obtain ⟨⟨⟩, q173, hf⟩ := bnd hf
        obtain ⟨t176, h175, q174, hf⟩ := bnd2 hf
        refine y_callVi (As := [.int t171]) cf_L_57 (c_X10_choose l G N v2 t171 h169 _ _ q174) rfl ⟨rfl, rfl, Nat.le_of_ble_eq_true rfl, Nat.le_of_ble_eq_true rfl⟩ ⟨by show _ ≤ 600000; omega, by show _ ≤ 7302250; omega⟩ X M (y_recv cls_X10 X M q173) rfl rfl hl.1 (Nat.le_of_ble_eq_true rfl) dL_law_484 (fun H locs M => ?_)
        refine lv_icmp_eq (tgt := 1336) X.1 X.2.1 dL_law_487 (by decide) (fun c177 => ?_) (fun c177 => ?_)
        · have hf := ifp c177 hf
          refine lv_iinc (v := (v3 + 6)) (lv' := [(3, .int (v3 + 6)), (0, .ref b), (1, .ref (gB G + v1)), (2, .ref (gB G + v2))]) X.1 X.2.1 dL_law_1336 hl (k := 3) rfl (by first | rfl | decide) (by decide) rfl (fun ls hl => ?_)
          refine lv_goto (tgt := 18) X.1 X.2.1 dL_law_1339 (by decide) ?_
          exact ih _ _ (by omega) (by omega) v1 v2 (v3 + 6) h175 hf _ _ _ M (lv_sub hl [1, 2, 3, 0] rfl)
        · have hf := ifn c177 hf
          refine lv_iconst (v := (0 : Int32)) X.1 X.2.1 dL_law_490 (by decide) ?_
          cases hf
      have hf := ifn c164 hf
      by_cases c178 : (t4 &&& (63 : Int32)) = 10
      · have hf := ifp c178 hf
        refine x_tin (z := 10) (tgt := 492) X rfl c178 dL_law_33 (by decide) (by decide) rfl (by decide) ?_
        refine lv_aload_n X.1 X.2.1 dL_law_492 rfl (lv_at hl 1 rfl) ?_
        refine lv_aload_n X.1 X.2.1 dL_law_493 rfl (lv_at hl 0 rfl) ?_
        refine lv_iload_n X.1 X.2.1 dL_law_494 rfl (lv_at hl 3 rfl) ?_
        refine lv_iconst (v := (1 : Int32)) X.1 X.2.1 dL_law_495 (by decide) ?_
        refine lv_iadd X.1 X.2.1 dL_law_496 ?_
        obtain ⟨t179, q180, hf⟩ := bnd hf
        refine y_sld X M hX hbl q180 dL_law_497 ?_
        obtain ⟨⟨⟩, q181, hf⟩ := bnd hf
        obtain ⟨t184, h183, q182, hf⟩ := bnd2 hf
        refine y_callVi (As := [.int t179]) cf_L_58 (c_X9_rest l G N v1 t179 h _ _ q182) rfl ⟨rfl, rfl, Nat.le_of_ble_eq_true rfl, Nat.le_of_ble_eq_true rfl⟩ ⟨by show _ ≤ 600000; omega, by show _ ≤ 7302250; omega⟩ X M (y_recv cls_X9 X M q181) rfl rfl hl.1 (Nat.le_of_ble_eq_true rfl) dL_law_498 (fun H locs M => ?_)
        refine lv_aload_n X.1 X.2.1 dL_law_501 rfl (lv_at hl 2 rfl) ?_
        refine lv_aload_n X.1 X.2.1 dL_law_502 rfl (lv_at hl 0 rfl) ?_
        refine lv_iload_n X.1 X.2.1 dL_law_503 rfl (lv_at hl 3 rfl) ?_
        refine lv_iconst (v := (1 : Int32)) X.1 X.2.1 dL_law_504 (by decide) ?_
        refine lv_iadd X.1 X.2.1 dL_law_505 ?_
        obtain ⟨t185, q186, hf⟩ := bnd hf
        refine y_sld X M hX hbl q186 dL_law_506 ?_
        obtain ⟨⟨⟩, q187, hf⟩ := bnd hf
        obtain ⟨t190, h189, q188, hf⟩ := bnd2 hf
        refine y_callVi (As := [.int t185]) cf_L_61 (c_X10_rest l G N v2 t185 h183 _ _ q188) rfl ⟨rfl, rfl, Nat.le_of_ble_eq_true rfl, Nat.le_of_ble_eq_true rfl⟩ ⟨by show _ ≤ 600000; omega, by show _ ≤ 7302250; omega⟩ X M (y_recv cls_X10 X M q187) rfl rfl hl.1 (Nat.le_of_ble_eq_true rfl) dL_law_507 (fun H locs M => ?_)
        refine lv_icmp_eq (tgt := 1336) X.1 X.2.1 dL_law_510 (by decide) (fun c191 => ?_) (fun c191 => ?_)
        · have hf := ifp c191 hf
          refine lv_iinc (v := (v3 + 6)) (lv' := [(3, .int (v3 + 6)), (0, .ref b), (1, .ref (gB G + v1)), (2, .ref (gB G + v2))]) X.1 X.2.1 dL_law_1336 hl (k := 3) rfl (by first | rfl | decide) (by decide) rfl (fun ls hl => ?_)
          refine lv_goto (tgt := 18) X.1 X.2.1 dL_law_1339 (by decide) ?_
          exact ih _ _ (by omega) (by omega) v1 v2 (v3 + 6) h189 hf _ _ _ M (lv_sub hl [1, 2, 3, 0] rfl)
        · have hf := ifn c191 hf
          refine lv_iconst (v := (0 : Int32)) X.1 X.2.1 dL_law_513 (by decide) ?_
          cases hf
      have hf := ifn c178 hf
      by_cases c192 : (t4 &&& (63 : Int32)) = 11
      · have hf := ifp c192 hf
        refine x_tin (z := 11) (tgt := 515) X rfl c192 dL_law_33 (by decide) (by decide) rfl (by decide) ?_
        refine lv_aload_n X.1 X.2.1 dL_law_515 rfl (lv_at hl 1 rfl) ?_
        refine lv_aload_n X.1 X.2.1 dL_law_516 rfl (lv_at hl 0 rfl) ?_
        refine lv_iload_n X.1 X.2.1 dL_law_517 rfl (lv_at hl 3 rfl) ?_
        refine lv_iconst (v := (1 : Int32)) X.1 X.2.1 dL_law_518 (by decide) ?_
        refine lv_iadd X.1 X.2.1 dL_law_519 ?_
        obtain ⟨t193, q194, hf⟩ := bnd hf
        refine y_sld X M hX hbl q194 dL_law_520 ?_
        obtain ⟨⟨⟩, q195, hf⟩ := bnd hf
        obtain ⟨t198, h197, q196, hf⟩ := bnd2 hf
        refine y_callVi (As := [.int t193]) cf_L_62 (c_X9_broken l G N v1 t193 h _ _ q196) rfl ⟨rfl, rfl, Nat.le_of_ble_eq_true rfl, Nat.le_of_ble_eq_true rfl⟩ ⟨by show _ ≤ 600000; omega, by show _ ≤ 7302250; omega⟩ X M (y_recv cls_X9 X M q195) rfl rfl hl.1 (Nat.le_of_ble_eq_true rfl) dL_law_521 (fun H locs M => ?_)
        refine lv_aload_n X.1 X.2.1 dL_law_524 rfl (lv_at hl 2 rfl) ?_
        refine lv_aload_n X.1 X.2.1 dL_law_525 rfl (lv_at hl 0 rfl) ?_
        refine lv_iload_n X.1 X.2.1 dL_law_526 rfl (lv_at hl 3 rfl) ?_
        refine lv_iconst (v := (1 : Int32)) X.1 X.2.1 dL_law_527 (by decide) ?_
        refine lv_iadd X.1 X.2.1 dL_law_528 ?_
        obtain ⟨t199, q200, hf⟩ := bnd hf
        refine y_sld X M hX hbl q200 dL_law_529 ?_
        obtain ⟨⟨⟩, q201, hf⟩ := bnd hf
        obtain ⟨t204, h203, q202, hf⟩ := bnd2 hf
        refine y_callVi (As := [.int t199]) cf_L_65 (c_X10_broken l G N v2 t199 h197 _ _ q202) rfl ⟨rfl, rfl, Nat.le_of_ble_eq_true rfl, Nat.le_of_ble_eq_true rfl⟩ ⟨by show _ ≤ 600000; omega, by show _ ≤ 7302250; omega⟩ X M (y_recv cls_X10 X M q201) rfl rfl hl.1 (Nat.le_of_ble_eq_true rfl) dL_law_530 (fun H locs M => ?_)
        refine lv_icmp_eq (tgt := 1336) X.1 X.2.1 dL_law_533 (by decide) (fun c205 => ?_) (fun c205 => ?_)
        · have hf := ifp c205 hf
          refine lv_iinc (v := (v3 + 6)) (lv' := [(3, .int (v3 + 6)), (0, .ref b), (1, .ref (gB G + v1)), (2, .ref (gB G + v2))]) X.1 X.2.1 dL_law_1336 hl (k := 3) rfl (by first | rfl | decide) (by decide) rfl (fun ls hl => ?_)
          refine lv_goto (tgt := 18) X.1 X.2.1 dL_law_1339 (by decide) ?_
          exact ih _ _ (by omega) (by omega) v1 v2 (v3 + 6) h203 hf _ _ _ M (lv_sub hl [1, 2, 3, 0] rfl)
        · have hf := ifn c205 hf
          refine lv_iconst (v := (0 : Int32)) X.1 X.2.1 dL_law_536 (by decide) ?_
          cases hf
      have hf := ifn c192 hf
      by_cases c206 : (t4 &&& (63 : Int32)) = 12
      · have hf := ifp c206 hf
        refine x_tin (z := 12) (tgt := 538) X rfl c206 dL_law_33 (by decide) (by decide) rfl (by decide) ?_
        refine lv_aload_n X.1 X.2.1 dL_law_538 rfl (lv_at hl 1 rfl) ?_
        refine lv_aload_n X.1 X.2.1 dL_law_539 rfl (lv_at hl 0 rfl) ?_
        refine lv_iload_n X.1 X.2.1 dL_law_540 rfl (lv_at hl 3 rfl) ?_
        refine lv_iconst (v := (1 : Int32)) X.1 X.2.1 dL_law_541 (by decide) ?_
        refine lv_iadd X.1 X.2.1 dL_law_542 ?_
        obtain ⟨t207, q208, hf⟩ := bnd hf
        refine y_sld X M hX hbl q208 dL_law_543 ?_
        refine lv_aload_n X.1 X.2.1 dL_law_544 rfl (lv_at hl 0 rfl) ?_
        refine lv_iload_n X.1 X.2.1 dL_law_545 rfl (lv_at hl 3 rfl) ?_
        refine lv_iconst (v := (2 : Int32)) X.1 X.2.1 dL_law_546 (by decide) ?_
        refine lv_iadd X.1 X.2.1 dL_law_547 ?_
        obtain ⟨t209, q210, hf⟩ := bnd hf
        refine y_sld X M hX hbl q210 dL_law_548 ?_
        obtain ⟨⟨⟩, q211, hf⟩ := bnd hf
        obtain ⟨t214, h213, q212, hf⟩ := bnd2 hf
        refine y_callVi (As := [.int t207, .int t209]) cf_L_66 (c_X9_go l G N v1 t207 t209 h _ _ q212) rfl ⟨rfl, rfl, Nat.le_of_ble_eq_true rfl, Nat.le_of_ble_eq_true rfl⟩ ⟨by show _ ≤ 600000; omega, by show _ ≤ 7302250; omega⟩ X M (y_recv cls_X9 X M q211) rfl rfl hl.1 (Nat.le_of_ble_eq_true rfl) dL_law_549 (fun H locs M => ?_)
        refine lv_aload_n X.1 X.2.1 dL_law_552 rfl (lv_at hl 2 rfl) ?_
        refine lv_aload_n X.1 X.2.1 dL_law_553 rfl (lv_at hl 0 rfl) ?_
        refine lv_iload_n X.1 X.2.1 dL_law_554 rfl (lv_at hl 3 rfl) ?_
        refine lv_iconst (v := (1 : Int32)) X.1 X.2.1 dL_law_555 (by decide) ?_
        refine lv_iadd X.1 X.2.1 dL_law_556 ?_
        obtain ⟨t215, q216, hf⟩ := bnd hf
        refine y_sld X M hX hbl q216 dL_law_557 ?_
        refine lv_aload_n X.1 X.2.1 dL_law_558 rfl (lv_at hl 0 rfl) ?_
        refine lv_iload_n X.1 X.2.1 dL_law_559 rfl (lv_at hl 3 rfl) ?_
        refine lv_iconst (v := (2 : Int32)) X.1 X.2.1 dL_law_560 (by decide) ?_
        refine lv_iadd X.1 X.2.1 dL_law_561 ?_
        obtain ⟨t217, q218, hf⟩ := bnd hf
        refine y_sld X M hX hbl q218 dL_law_562 ?_
        obtain ⟨⟨⟩, q219, hf⟩ := bnd hf
        obtain ⟨t222, h221, q220, hf⟩ := bnd2 hf
        refine y_callVi (As := [.int t215, .int t217]) cf_L_69 (c_X10_go l G N v2 t215 t217 h213 _ _ q220) rfl ⟨rfl, rfl, Nat.le_of_ble_eq_true rfl, Nat.le_of_ble_eq_true rfl⟩ ⟨by show _ ≤ 600000; omega, by show _ ≤ 7302250; omega⟩ X M (y_recv cls_X10 X M q219) rfl rfl hl.1 (Nat.le_of_ble_eq_true rfl) dL_law_563 (fun H locs M => ?_)
        refine lv_icmp_eq (tgt := 1336) X.1 X.2.1 dL_law_566 (by decide) (fun c223 => ?_) (fun c223 => ?_)
        · have hf := ifp c223 hf
          refine lv_iinc (v := (v3 + 6)) (lv' := [(3, .int (v3 + 6)), (0, .ref b), (1, .ref (gB G + v1)), (2, .ref (gB G + v2))]) X.1 X.2.1 dL_law_1336 hl (k := 3) rfl (by first | rfl | decide) (by decide) rfl (fun ls hl => ?_)
          refine lv_goto (tgt := 18) X.1 X.2.1 dL_law_1339 (by decide) ?_
          exact ih _ _ (by omega) (by omega) v1 v2 (v3 + 6) h221 hf _ _ _ M (lv_sub hl [1, 2, 3, 0] rfl)
        · have hf := ifn c223 hf
          refine lv_iconst (v := (0 : Int32)) X.1 X.2.1 dL_law_569 (by decide) ?_
          cases hf
      have hf := ifn c206 hf
      by_cases c224 : (t4 &&& (63 : Int32)) = 13
      · have hf := ifp c224 hf
        refine x_tin (z := 13) (tgt := 571) X rfl c224 dL_law_33 (by decide) (by decide) rfl (by decide) ?_
        refine lv_aload_n X.1 X.2.1 dL_law_571 rfl (lv_at hl 1 rfl) ?_
        refine lv_aload_n X.1 X.2.1 dL_law_572 rfl (lv_at hl 0 rfl) ?_
        refine lv_iload_n X.1 X.2.1 dL_law_573 rfl (lv_at hl 3 rfl) ?_
        refine lv_iconst (v := (1 : Int32)) X.1 X.2.1 dL_law_574 (by decide) ?_
        refine lv_iadd X.1 X.2.1 dL_law_575 ?_
        obtain ⟨t225, q226, hf⟩ := bnd hf
        refine y_sld X M hX hbl q226 dL_law_576 ?_
        refine lv_if_eq (tgt := 584) X.1 X.2.1 dL_law_577 (by decide) (fun c227 => ?_) (fun c227 => ?_)
        · have hf := ifp c227 hf
          refine lv_iconst (v := (0 : Int32)) X.1 X.2.1 dL_law_584 (by decide) ?_
          exact w_L_law_585 X hX hbl hrl hk N _ (fun v1 v2 v3 h hf H locs ls M hl => ih _ _ (by omega) (by omega) v1 v2 v3 h hf H locs ls M hl) ⟨by omega, by omega⟩ v1 v2 v3 v1 (0 : Int32) h hf _ _ _ M (lv_sub hl [0, 1, 2, 3] rfl)
        · have hf := ifn c227 hf
          refine lv_iconst (v := (1 : Int32)) X.1 X.2.1 dL_law_580 (by decide) ?_
          refine lv_goto (tgt := 585) X.1 X.2.1 dL_law_581 (by decide) ?_
          exact w_L_law_585 X hX hbl hrl hk N _ (fun v1 v2 v3 h hf H locs ls M hl => ih _ _ (by omega) (by omega) v1 v2 v3 h hf H locs ls M hl) ⟨by omega, by omega⟩ v1 v2 v3 v1 (1 : Int32) h hf _ _ _ M (lv_sub hl [0, 1, 2, 3] rfl)
      have hf := ifn c224 hf
      by_cases c228 : (t4 &&& (63 : Int32)) = 14
      · have hf := ifp c228 hf
        refine x_tin (z := 14) (tgt := 610) X rfl c228 dL_law_33 (by decide) (by decide) rfl (by decide) ?_
        refine lv_aload_n X.1 X.2.1 dL_law_610 rfl (lv_at hl 1 rfl) ?_
        refine lv_aload_n X.1 X.2.1 dL_law_611 rfl (lv_at hl 0 rfl) ?_
        refine lv_iload_n X.1 X.2.1 dL_law_612 rfl (lv_at hl 3 rfl) ?_
        refine lv_iconst (v := (1 : Int32)) X.1 X.2.1 dL_law_613 (by decide) ?_
        refine lv_iadd X.1 X.2.1 dL_law_614 ?_
        obtain ⟨t229, q230, hf⟩ := bnd hf
        refine y_sld X M hX hbl q230 dL_law_615 ?_
        refine lv_if_eq (tgt := 623) X.1 X.2.1 dL_law_616 (by decide) (fun c231 => ?_) (fun c231 => ?_)
        · have hf := ifp c231 hf
          refine lv_iconst (v := (0 : Int32)) X.1 X.2.1 dL_law_623 (by decide) ?_
          exact w_L_law_624 X hX hbl hrl hk N _ (fun v1 v2 v3 h hf H locs ls M hl => ih _ _ (by omega) (by omega) v1 v2 v3 h hf H locs ls M hl) ⟨by omega, by omega⟩ v1 v2 v3 v1 (0 : Int32) h hf _ _ _ M (lv_sub hl [0, 1, 2, 3] rfl)
        · have hf := ifn c231 hf
          refine lv_iconst (v := (1 : Int32)) X.1 X.2.1 dL_law_619 (by decide) ?_
          refine lv_goto (tgt := 624) X.1 X.2.1 dL_law_620 (by decide) ?_
          exact w_L_law_624 X hX hbl hrl hk N _ (fun v1 v2 v3 h hf H locs ls M hl => ih _ _ (by omega) (by omega) v1 v2 v3 h hf H locs ls M hl) ⟨by omega, by omega⟩ v1 v2 v3 v1 (1 : Int32) h hf _ _ _ M (lv_sub hl [0, 1, 2, 3] rfl)
      have hf := ifn c228 hf
      by_cases c232 : (t4 &&& (63 : Int32)) = 15
      · have hf := ifp c232 hf
        refine x_tin (z := 15) (tgt := 649) X rfl c232 dL_law_33 (by decide) (by decide) rfl (by decide) ?_
        refine lv_aload_n X.1 X.2.1 dL_law_649 rfl (lv_at hl 1 rfl) ?_
        refine lv_aload_n X.1 X.2.1 dL_law_650 rfl (lv_at hl 0 rfl) ?_
        refine lv_iload_n X.1 X.2.1 dL_law_651 rfl (lv_at hl 3 rfl) ?_
        refine lv_iconst (v := (1 : Int32)) X.1 X.2.1 dL_law_652 (by decide) ?_
        refine lv_iadd X.1 X.2.1 dL_law_653 ?_
        obtain ⟨t233, q234, hf⟩ := bnd hf
        refine y_sld X M hX hbl q234 dL_law_654 ?_
        refine lv_aload_n X.1 X.2.1 dL_law_655 rfl (lv_at hl 0 rfl) ?_
        refine lv_iload_n X.1 X.2.1 dL_law_656 rfl (lv_at hl 3 rfl) ?_
        refine lv_iconst (v := (2 : Int32)) X.1 X.2.1 dL_law_657 (by decide) ?_
        refine lv_iadd X.1 X.2.1 dL_law_658 ?_
        obtain ⟨t235, q236, hf⟩ := bnd hf
        refine y_sld X M hX hbl q236 dL_law_659 ?_
        refine lv_aload_n X.1 X.2.1 dL_law_660 rfl (lv_at hl 0 rfl) ?_
        refine lv_iload_n X.1 X.2.1 dL_law_661 rfl (lv_at hl 3 rfl) ?_
        refine lv_iconst (v := (3 : Int32)) X.1 X.2.1 dL_law_662 (by decide) ?_
        refine lv_iadd X.1 X.2.1 dL_law_663 ?_
        obtain ⟨t237, q238, hf⟩ := bnd hf
        refine y_sld X M hX hbl q238 dL_law_664 ?_
        obtain ⟨⟨⟩, q239, hf⟩ := bnd hf
        obtain ⟨t242, h241, q240, hf⟩ := bnd2 hf
        refine y_callVi (As := [.int t233, .int t235, .int t237]) cf_L_79 (c_X9_judge l G N v1 t233 t235 t237 h _ _ q240) rfl ⟨rfl, rfl, Nat.le_of_ble_eq_true rfl, Nat.le_of_ble_eq_true rfl⟩ ⟨by show _ ≤ 600000; omega, by show _ ≤ 7302250; omega⟩ X M (y_recv cls_X9 X M q239) rfl rfl hl.1 (Nat.le_of_ble_eq_true rfl) dL_law_665 (fun H locs M => ?_)
        refine lv_aload_n X.1 X.2.1 dL_law_668 rfl (lv_at hl 2 rfl) ?_
        refine lv_aload_n X.1 X.2.1 dL_law_669 rfl (lv_at hl 0 rfl) ?_
        refine lv_iload_n X.1 X.2.1 dL_law_670 rfl (lv_at hl 3 rfl) ?_
        refine lv_iconst (v := (1 : Int32)) X.1 X.2.1 dL_law_671 (by decide) ?_
        refine lv_iadd X.1 X.2.1 dL_law_672 ?_
        obtain ⟨t243, q244, hf⟩ := bnd hf
        refine y_sld X M hX hbl q244 dL_law_673 ?_
        refine lv_aload_n X.1 X.2.1 dL_law_674 rfl (lv_at hl 0 rfl) ?_
        refine lv_iload_n X.1 X.2.1 dL_law_675 rfl (lv_at hl 3 rfl) ?_
        refine lv_iconst (v := (2 : Int32)) X.1 X.2.1 dL_law_676 (by decide) ?_
        refine lv_iadd X.1 X.2.1 dL_law_677 ?_
        obtain ⟨t245, q246, hf⟩ := bnd hf
        refine y_sld X M hX hbl q246 dL_law_678 ?_
        refine lv_aload_n X.1 X.2.1 dL_law_679 rfl (lv_at hl 0 rfl) ?_
        refine lv_iload_n X.1 X.2.1 dL_law_680 rfl (lv_at hl 3 rfl) ?_
        refine lv_iconst (v := (3 : Int32)) X.1 X.2.1 dL_law_681 (by decide) ?_
        refine lv_iadd X.1 X.2.1 dL_law_682 ?_
        obtain ⟨t247, q248, hf⟩ := bnd hf
        refine y_sld X M hX hbl q248 dL_law_683 ?_
        obtain ⟨⟨⟩, q249, hf⟩ := bnd hf
        obtain ⟨t252, h251, q250, hf⟩ := bnd2 hf
        refine y_callVi (As := [.int t243, .int t245, .int t247]) cf_L_82 (c_X10_judge l G N v2 t243 t245 t247 h241 _ _ q250) rfl ⟨rfl, rfl, Nat.le_of_ble_eq_true rfl, Nat.le_of_ble_eq_true rfl⟩ ⟨by show _ ≤ 600000; omega, by show _ ≤ 7302250; omega⟩ X M (y_recv cls_X10 X M q249) rfl rfl hl.1 (Nat.le_of_ble_eq_true rfl) dL_law_684 (fun H locs M => ?_)
        refine lv_icmp_eq (tgt := 1336) X.1 X.2.1 dL_law_687 (by decide) (fun c253 => ?_) (fun c253 => ?_)
        · have hf := ifp c253 hf
          refine lv_iinc (v := (v3 + 6)) (lv' := [(3, .int (v3 + 6)), (0, .ref b), (1, .ref (gB G + v1)), (2, .ref (gB G + v2))]) X.1 X.2.1 dL_law_1336 hl (k := 3) rfl (by first | rfl | decide) (by decide) rfl (fun ls hl => ?_)
          refine lv_goto (tgt := 18) X.1 X.2.1 dL_law_1339 (by decide) ?_
          exact ih _ _ (by omega) (by omega) v1 v2 (v3 + 6) h251 hf _ _ _ M (lv_sub hl [1, 2, 3, 0] rfl)
        · have hf := ifn c253 hf
          refine lv_iconst (v := (0 : Int32)) X.1 X.2.1 dL_law_690 (by decide) ?_
          cases hf
      have hf := ifn c232 hf
      by_cases c254 : (t4 &&& (63 : Int32)) = 16
      · have hf := ifp c254 hf
        refine x_tin (z := 16) (tgt := 692) X rfl c254 dL_law_33 (by decide) (by decide) rfl (by decide) ?_
        refine lv_aload_n X.1 X.2.1 dL_law_692 rfl (lv_at hl 1 rfl) ?_
        refine lv_aload_n X.1 X.2.1 dL_law_693 rfl (lv_at hl 0 rfl) ?_
        refine lv_iload_n X.1 X.2.1 dL_law_694 rfl (lv_at hl 3 rfl) ?_
        refine lv_iconst (v := (1 : Int32)) X.1 X.2.1 dL_law_695 (by decide) ?_
        refine lv_iadd X.1 X.2.1 dL_law_696 ?_
        obtain ⟨t255, q256, hf⟩ := bnd hf
        refine y_sld X M hX hbl q256 dL_law_697 ?_
        refine lv_aload_n X.1 X.2.1 dL_law_698 rfl (lv_at hl 0 rfl) ?_
        refine lv_iload_n X.1 X.2.1 dL_law_699 rfl (lv_at hl 3 rfl) ?_
        refine lv_iconst (v := (2 : Int32)) X.1 X.2.1 dL_law_700 (by decide) ?_
        refine lv_iadd X.1 X.2.1 dL_law_701 ?_
        obtain ⟨t257, q258, hf⟩ := bnd hf
        refine y_sld X M hX hbl q258 dL_law_702 ?_
        refine lv_aload_n X.1 X.2.1 dL_law_703 rfl (lv_at hl 0 rfl) ?_
        refine lv_iload_n X.1 X.2.1 dL_law_704 rfl (lv_at hl 3 rfl) ?_
        refine lv_iconst (v := (3 : Int32)) X.1 X.2.1 dL_law_705 (by decide) ?_
        refine lv_iadd X.1 X.2.1 dL_law_706 ?_
        obtain ⟨t259, q260, hf⟩ := bnd hf
        refine y_sld X M hX hbl q260 dL_law_707 ?_
        obtain ⟨⟨⟩, q261, hf⟩ := bnd hf
        obtain ⟨t264, h263, q262, hf⟩ := bnd2 hf
        refine y_callVi (As := [.int t255, .int t257, .int t259]) cf_L_83 (c_X9_all l G N v1 t255 t257 t259 h _ _ q262) rfl ⟨rfl, rfl, Nat.le_of_ble_eq_true rfl, Nat.le_of_ble_eq_true rfl⟩ ⟨by show _ ≤ 600000; omega, by show _ ≤ 7302250; omega⟩ X M (y_recv cls_X9 X M q261) rfl rfl hl.1 (Nat.le_of_ble_eq_true rfl) dL_law_708 (fun H locs M => ?_)
        refine lv_aload_n X.1 X.2.1 dL_law_711 rfl (lv_at hl 2 rfl) ?_
        refine lv_aload_n X.1 X.2.1 dL_law_712 rfl (lv_at hl 0 rfl) ?_
        refine lv_iload_n X.1 X.2.1 dL_law_713 rfl (lv_at hl 3 rfl) ?_
        refine lv_iconst (v := (1 : Int32)) X.1 X.2.1 dL_law_714 (by decide) ?_
        refine lv_iadd X.1 X.2.1 dL_law_715 ?_
        obtain ⟨t265, q266, hf⟩ := bnd hf
        refine y_sld X M hX hbl q266 dL_law_716 ?_
        refine lv_aload_n X.1 X.2.1 dL_law_717 rfl (lv_at hl 0 rfl) ?_
        refine lv_iload_n X.1 X.2.1 dL_law_718 rfl (lv_at hl 3 rfl) ?_
        refine lv_iconst (v := (2 : Int32)) X.1 X.2.1 dL_law_719 (by decide) ?_
        refine lv_iadd X.1 X.2.1 dL_law_720 ?_
        obtain ⟨t267, q268, hf⟩ := bnd hf
        refine y_sld X M hX hbl q268 dL_law_721 ?_
        refine lv_aload_n X.1 X.2.1 dL_law_722 rfl (lv_at hl 0 rfl) ?_
        refine lv_iload_n X.1 X.2.1 dL_law_723 rfl (lv_at hl 3 rfl) ?_
        refine lv_iconst (v := (3 : Int32)) X.1 X.2.1 dL_law_724 (by decide) ?_
        refine lv_iadd X.1 X.2.1 dL_law_725 ?_
        obtain ⟨t269, q270, hf⟩ := bnd hf
        refine y_sld X M hX hbl q270 dL_law_726 ?_
        obtain ⟨⟨⟩, q271, hf⟩ := bnd hf
        obtain ⟨t274, h273, q272, hf⟩ := bnd2 hf
        refine y_callVi (As := [.int t265, .int t267, .int t269]) cf_L_86 (c_X10_all l G N v2 t265 t267 t269 h263 _ _ q272) rfl ⟨rfl, rfl, Nat.le_of_ble_eq_true rfl, Nat.le_of_ble_eq_true rfl⟩ ⟨by show _ ≤ 600000; omega, by show _ ≤ 7302250; omega⟩ X M (y_recv cls_X10 X M q271) rfl rfl hl.1 (Nat.le_of_ble_eq_true rfl) dL_law_727 (fun H locs M => ?_)
        refine lv_icmp_eq (tgt := 1336) X.1 X.2.1 dL_law_730 (by decide) (fun c275 => ?_) (fun c275 => ?_)
        · have hf := ifp c275 hf
          refine lv_iinc (v := (v3 + 6)) (lv' := [(3, .int (v3 + 6)), (0, .ref b), (1, .ref (gB G + v1)), (2, .ref (gB G + v2))]) X.1 X.2.1 dL_law_1336 hl (k := 3) rfl (by first | rfl | decide) (by decide) rfl (fun ls hl => ?_)
          refine lv_goto (tgt := 18) X.1 X.2.1 dL_law_1339 (by decide) ?_
          exact ih _ _ (by omega) (by omega) v1 v2 (v3 + 6) h273 hf _ _ _ M (lv_sub hl [1, 2, 3, 0] rfl)
        · have hf := ifn c275 hf
          refine lv_iconst (v := (0 : Int32)) X.1 X.2.1 dL_law_733 (by decide) ?_
          cases hf
      have hf := ifn c254 hf
      by_cases c276 : (t4 &&& (63 : Int32)) = 17
      · have hf := ifp c276 hf
        refine x_tin (z := 17) (tgt := 735) X rfl c276 dL_law_33 (by decide) (by decide) rfl (by decide) ?_
        refine lv_aload_n X.1 X.2.1 dL_law_735 rfl (lv_at hl 1 rfl) ?_
        refine lv_aload_n X.1 X.2.1 dL_law_736 rfl (lv_at hl 0 rfl) ?_
        refine lv_iload_n X.1 X.2.1 dL_law_737 rfl (lv_at hl 3 rfl) ?_
        refine lv_iconst (v := (1 : Int32)) X.1 X.2.1 dL_law_738 (by decide) ?_
        refine lv_iadd X.1 X.2.1 dL_law_739 ?_
        obtain ⟨t277, q278, hf⟩ := bnd hf
        refine y_sld X M hX hbl q278 dL_law_740 ?_
        obtain ⟨⟨⟩, q279, hf⟩ := bnd hf
        obtain ⟨t282, h281, q280, hf⟩ := bnd2 hf
        refine y_callVi (As := [.int t277]) cf_L_87 (c_X9_good l G N v1 t277 h _ _ q280) rfl ⟨rfl, rfl, Nat.le_of_ble_eq_true rfl, Nat.le_of_ble_eq_true rfl⟩ ⟨by show _ ≤ 600000; omega, by show _ ≤ 7302250; omega⟩ X M (y_recv cls_X9 X M q279) rfl rfl hl.1 (Nat.le_of_ble_eq_true rfl) dL_law_741 (fun H locs M => ?_)
        refine lv_aload_n X.1 X.2.1 dL_law_744 rfl (lv_at hl 2 rfl) ?_
        refine lv_aload_n X.1 X.2.1 dL_law_745 rfl (lv_at hl 0 rfl) ?_
        refine lv_iload_n X.1 X.2.1 dL_law_746 rfl (lv_at hl 3 rfl) ?_
        refine lv_iconst (v := (1 : Int32)) X.1 X.2.1 dL_law_747 (by decide) ?_
        refine lv_iadd X.1 X.2.1 dL_law_748 ?_
        obtain ⟨t283, q284, hf⟩ := bnd hf
        refine y_sld X M hX hbl q284 dL_law_749 ?_
        obtain ⟨⟨⟩, q285, hf⟩ := bnd hf
        obtain ⟨t288, h287, q286, hf⟩ := bnd2 hf
        refine y_callVi (As := [.int t283]) cf_L_90 (c_X10_good l G N v2 t283 h281 _ _ q286) rfl ⟨rfl, rfl, Nat.le_of_ble_eq_true rfl, Nat.le_of_ble_eq_true rfl⟩ ⟨by show _ ≤ 600000; omega, by show _ ≤ 7302250; omega⟩ X M (y_recv cls_X10 X M q285) rfl rfl hl.1 (Nat.le_of_ble_eq_true rfl) dL_law_750 (fun H locs M => ?_)
        refine lv_icmp_eq (tgt := 1336) X.1 X.2.1 dL_law_753 (by decide) (fun c289 => ?_) (fun c289 => ?_)
        · have hf := ifp c289 hf
          refine lv_iinc (v := (v3 + 6)) (lv' := [(3, .int (v3 + 6)), (0, .ref b), (1, .ref (gB G + v1)), (2, .ref (gB G + v2))]) X.1 X.2.1 dL_law_1336 hl (k := 3) rfl (by first | rfl | decide) (by decide) rfl (fun ls hl => ?_)
          refine lv_goto (tgt := 18) X.1 X.2.1 dL_law_1339 (by decide) ?_
          exact ih _ _ (by omega) (by omega) v1 v2 (v3 + 6) h287 hf _ _ _ M (lv_sub hl [1, 2, 3, 0] rfl)
        · have hf := ifn c289 hf
          refine lv_iconst (v := (0 : Int32)) X.1 X.2.1 dL_law_756 (by decide) ?_
          cases hf
      have hf := ifn c276 hf
      by_cases c290 : (t4 &&& (63 : Int32)) = 18
      · have hf := ifp c290 hf
        refine x_tin (z := 18) (tgt := 758) X rfl c290 dL_law_33 (by decide) (by decide) rfl (by decide) ?_
        refine lv_aload_n X.1 X.2.1 dL_law_758 rfl (lv_at hl 1 rfl) ?_
        obtain ⟨⟨⟩, q291, hf⟩ := bnd hf
        obtain ⟨t294, h293, q292, hf⟩ := bnd2 hf
        refine y_callVi (As := []) cf_L_91 (c_X9_rise l G N v1 h _ _ q292) rfl ⟨rfl, rfl, Nat.le_of_ble_eq_true rfl, Nat.le_of_ble_eq_true rfl⟩ ⟨by show _ ≤ 600000; omega, by show _ ≤ 7302250; omega⟩ X M (y_recv cls_X9 X M q291) rfl rfl hl.1 (Nat.le_of_ble_eq_true rfl) dL_law_759 (fun H locs M => ?_)
        refine lv_aload_n X.1 X.2.1 dL_law_762 rfl (lv_at hl 2 rfl) ?_
        obtain ⟨⟨⟩, q295, hf⟩ := bnd hf
        obtain ⟨t298, h297, q296, hf⟩ := bnd2 hf
        refine y_callVi (As := []) cf_L_94 (c_X10_rise l G N v2 h293 _ _ q296) rfl ⟨rfl, rfl, Nat.le_of_ble_eq_true rfl, Nat.le_of_ble_eq_true rfl⟩ ⟨by show _ ≤ 600000; omega, by show _ ≤ 7302250; omega⟩ X M (y_recv cls_X10 X M q295) rfl rfl hl.1 (Nat.le_of_ble_eq_true rfl) dL_law_763 (fun H locs M => ?_)
        refine lv_icmp_eq (tgt := 1336) X.1 X.2.1 dL_law_766 (by decide) (fun c299 => ?_) (fun c299 => ?_)
        · have hf := ifp c299 hf
          refine lv_iinc (v := (v3 + 6)) (lv' := [(3, .int (v3 + 6)), (0, .ref b), (1, .ref (gB G + v1)), (2, .ref (gB G + v2))]) X.1 X.2.1 dL_law_1336 hl (k := 3) rfl (by first | rfl | decide) (by decide) rfl (fun ls hl => ?_)
          refine lv_goto (tgt := 18) X.1 X.2.1 dL_law_1339 (by decide) ?_
          exact ih _ _ (by omega) (by omega) v1 v2 (v3 + 6) h297 hf _ _ _ M (lv_sub hl [1, 2, 3, 0] rfl)
        · have hf := ifn c299 hf
          refine lv_iconst (v := (0 : Int32)) X.1 X.2.1 dL_law_769 (by decide) ?_
          cases hf
      have hf := ifn c290 hf
      by_cases c300 : (t4 &&& (63 : Int32)) = 19
      · have hf := ifp c300 hf
        refine x_tin (z := 19) (tgt := 771) X rfl c300 dL_law_33 (by decide) (by decide) rfl (by decide) ?_
        refine lv_aload_n X.1 X.2.1 dL_law_771 rfl (lv_at hl 1 rfl) ?_
        refine lv_aload_n X.1 X.2.1 dL_law_772 rfl (lv_at hl 0 rfl) ?_
        refine lv_iload_n X.1 X.2.1 dL_law_773 rfl (lv_at hl 3 rfl) ?_
        refine lv_iconst (v := (1 : Int32)) X.1 X.2.1 dL_law_774 (by decide) ?_
        refine lv_iadd X.1 X.2.1 dL_law_775 ?_
        obtain ⟨t301, q302, hf⟩ := bnd hf
        refine y_sld X M hX hbl q302 dL_law_776 ?_
        obtain ⟨⟨⟩, q303, hf⟩ := bnd hf
        obtain ⟨t306, h305, q304, hf⟩ := bnd2 hf
        refine y_callVi (As := [.int t301]) cf_L_95 (c_X9_sorted l G N v1 t301 h _ _ q304) rfl ⟨rfl, rfl, Nat.le_of_ble_eq_true rfl, Nat.le_of_ble_eq_true rfl⟩ ⟨by show _ ≤ 600000; omega, by show _ ≤ 7302250; omega⟩ X M (y_recv cls_X9 X M q303) rfl rfl hl.1 (Nat.le_of_ble_eq_true rfl) dL_law_777 (fun H locs M => ?_)
        refine lv_aload_n X.1 X.2.1 dL_law_780 rfl (lv_at hl 2 rfl) ?_
        refine lv_aload_n X.1 X.2.1 dL_law_781 rfl (lv_at hl 0 rfl) ?_
        refine lv_iload_n X.1 X.2.1 dL_law_782 rfl (lv_at hl 3 rfl) ?_
        refine lv_iconst (v := (1 : Int32)) X.1 X.2.1 dL_law_783 (by decide) ?_
        refine lv_iadd X.1 X.2.1 dL_law_784 ?_
        obtain ⟨t307, q308, hf⟩ := bnd hf
        refine y_sld X M hX hbl q308 dL_law_785 ?_
        obtain ⟨⟨⟩, q309, hf⟩ := bnd hf
        obtain ⟨t312, h311, q310, hf⟩ := bnd2 hf
        refine y_callVi (As := [.int t307]) cf_L_98 (c_X10_sorted l G N v2 t307 h305 _ _ q310) rfl ⟨rfl, rfl, Nat.le_of_ble_eq_true rfl, Nat.le_of_ble_eq_true rfl⟩ ⟨by show _ ≤ 600000; omega, by show _ ≤ 7302250; omega⟩ X M (y_recv cls_X10 X M q309) rfl rfl hl.1 (Nat.le_of_ble_eq_true rfl) dL_law_786 (fun H locs M => ?_)
        refine lv_icmp_eq (tgt := 1336) X.1 X.2.1 dL_law_789 (by decide) (fun c313 => ?_) (fun c313 => ?_)
        · have hf := ifp c313 hf
          refine lv_iinc (v := (v3 + 6)) (lv' := [(3, .int (v3 + 6)), (0, .ref b), (1, .ref (gB G + v1)), (2, .ref (gB G + v2))]) X.1 X.2.1 dL_law_1336 hl (k := 3) rfl (by first | rfl | decide) (by decide) rfl (fun ls hl => ?_)
          refine lv_goto (tgt := 18) X.1 X.2.1 dL_law_1339 (by decide) ?_
          exact ih _ _ (by omega) (by omega) v1 v2 (v3 + 6) h311 hf _ _ _ M (lv_sub hl [1, 2, 3, 0] rfl)
        · have hf := ifn c313 hf
          refine lv_iconst (v := (0 : Int32)) X.1 X.2.1 dL_law_792 (by decide) ?_
          cases hf
      have hf := ifn c300 hf
      by_cases c314 : (t4 &&& (63 : Int32)) = 20
      · have hf := ifp c314 hf
        refine x_tin (z := 20) (tgt := 794) X rfl c314 dL_law_33 (by decide) (by decide) rfl (by decide) ?_
        refine lv_aload_n X.1 X.2.1 dL_law_794 rfl (lv_at hl 1 rfl) ?_
        refine lv_aload_n X.1 X.2.1 dL_law_795 rfl (lv_at hl 0 rfl) ?_
        refine lv_iload_n X.1 X.2.1 dL_law_796 rfl (lv_at hl 3 rfl) ?_
        refine lv_iconst (v := (1 : Int32)) X.1 X.2.1 dL_law_797 (by decide) ?_
        refine lv_iadd X.1 X.2.1 dL_law_798 ?_
        obtain ⟨t315, q316, hf⟩ := bnd hf
        refine y_sld X M hX hbl q316 dL_law_799 ?_
        refine lv_if_eq (tgt := 807) X.1 X.2.1 dL_law_800 (by decide) (fun c317 => ?_) (fun c317 => ?_)
        · have hf := ifp c317 hf
          refine lv_iconst (v := (0 : Int32)) X.1 X.2.1 dL_law_807 (by decide) ?_
          exact w_L_law_808 X hX hbl hrl hk N _ (fun v1 v2 v3 h hf H locs ls M hl => ih _ _ (by omega) (by omega) v1 v2 v3 h hf H locs ls M hl) ⟨by omega, by omega⟩ v1 v2 v3 v1 (0 : Int32) h hf _ _ _ M (lv_sub hl [0, 1, 2, 3] rfl)
        · have hf := ifn c317 hf
          refine lv_iconst (v := (1 : Int32)) X.1 X.2.1 dL_law_803 (by decide) ?_
          refine lv_goto (tgt := 808) X.1 X.2.1 dL_law_804 (by decide) ?_
          exact w_L_law_808 X hX hbl hrl hk N _ (fun v1 v2 v3 h hf H locs ls M hl => ih _ _ (by omega) (by omega) v1 v2 v3 h hf H locs ls M hl) ⟨by omega, by omega⟩ v1 v2 v3 v1 (1 : Int32) h hf _ _ _ M (lv_sub hl [0, 1, 2, 3] rfl)
      have hf := ifn c314 hf
      by_cases c318 : (t4 &&& (63 : Int32)) = 21
      · have hf := ifp c318 hf
        refine x_tin (z := 21) (tgt := 833) X rfl c318 dL_law_33 (by decide) (by decide) rfl (by decide) ?_
        refine lv_aload_n X.1 X.2.1 dL_law_833 rfl (lv_at hl 1 rfl) ?_
        refine lv_aload_n X.1 X.2.1 dL_law_834 rfl (lv_at hl 0 rfl) ?_
        refine lv_iload_n X.1 X.2.1 dL_law_835 rfl (lv_at hl 3 rfl) ?_
        refine lv_iconst (v := (1 : Int32)) X.1 X.2.1 dL_law_836 (by decide) ?_
        refine lv_iadd X.1 X.2.1 dL_law_837 ?_
        obtain ⟨t319, q320, hf⟩ := bnd hf
        refine y_sld X M hX hbl q320 dL_law_838 ?_
        refine lv_aload_n X.1 X.2.1 dL_law_839 rfl (lv_at hl 0 rfl) ?_
        refine lv_iload_n X.1 X.2.1 dL_law_840 rfl (lv_at hl 3 rfl) ?_
        refine lv_iconst (v := (2 : Int32)) X.1 X.2.1 dL_law_841 (by decide) ?_
        refine lv_iadd X.1 X.2.1 dL_law_842 ?_
        obtain ⟨t321, q322, hf⟩ := bnd hf
        refine y_sld X M hX hbl q322 dL_law_843 ?_
        refine lv_aload_n X.1 X.2.1 dL_law_844 rfl (lv_at hl 0 rfl) ?_
        refine lv_iload_n X.1 X.2.1 dL_law_845 rfl (lv_at hl 3 rfl) ?_
        refine lv_iconst (v := (3 : Int32)) X.1 X.2.1 dL_law_846 (by decide) ?_
        refine lv_iadd X.1 X.2.1 dL_law_847 ?_
        obtain ⟨t323, q324, hf⟩ := bnd hf
        refine y_sld X M hX hbl q324 dL_law_848 ?_
        refine lv_aload_n X.1 X.2.1 dL_law_849 rfl (lv_at hl 0 rfl) ?_
        refine lv_iload_n X.1 X.2.1 dL_law_850 rfl (lv_at hl 3 rfl) ?_
        refine lv_iconst (v := (4 : Int32)) X.1 X.2.1 dL_law_851 (by decide) ?_
        refine lv_iadd X.1 X.2.1 dL_law_852 ?_
        obtain ⟨t325, q326, hf⟩ := bnd hf
        refine y_sld X M hX hbl q326 dL_law_853 ?_
        obtain ⟨⟨⟩, q327, hf⟩ := bnd hf
        obtain ⟨t330, h329, q328, hf⟩ := bnd2 hf
        refine y_callVi (As := [.int t319, .int t321, .int t323, .int t325]) cf_L_103 (c_X9_law l G N v1 t319 t321 t323 t325 h _ _ q328) rfl ⟨rfl, rfl, Nat.le_of_ble_eq_true rfl, Nat.le_of_ble_eq_true rfl⟩ ⟨by show _ ≤ 600000; omega, by show _ ≤ 7302250; omega⟩ X M (y_recv cls_X9 X M q327) rfl rfl hl.1 (Nat.le_of_ble_eq_true rfl) dL_law_854 (fun H locs M => ?_)
        refine lv_aload_n X.1 X.2.1 dL_law_857 rfl (lv_at hl 2 rfl) ?_
        refine lv_aload_n X.1 X.2.1 dL_law_858 rfl (lv_at hl 0 rfl) ?_
        refine lv_iload_n X.1 X.2.1 dL_law_859 rfl (lv_at hl 3 rfl) ?_
        refine lv_iconst (v := (1 : Int32)) X.1 X.2.1 dL_law_860 (by decide) ?_
        refine lv_iadd X.1 X.2.1 dL_law_861 ?_
        obtain ⟨t331, q332, hf⟩ := bnd hf
        refine y_sld X M hX hbl q332 dL_law_862 ?_
        refine lv_aload_n X.1 X.2.1 dL_law_863 rfl (lv_at hl 0 rfl) ?_
        refine lv_iload_n X.1 X.2.1 dL_law_864 rfl (lv_at hl 3 rfl) ?_
        refine lv_iconst (v := (2 : Int32)) X.1 X.2.1 dL_law_865 (by decide) ?_
        refine lv_iadd X.1 X.2.1 dL_law_866 ?_
        obtain ⟨t333, q334, hf⟩ := bnd hf
        refine y_sld X M hX hbl q334 dL_law_867 ?_
        refine lv_aload_n X.1 X.2.1 dL_law_868 rfl (lv_at hl 0 rfl) ?_
        refine lv_iload_n X.1 X.2.1 dL_law_869 rfl (lv_at hl 3 rfl) ?_
        refine lv_iconst (v := (3 : Int32)) X.1 X.2.1 dL_law_870 (by decide) ?_
        refine lv_iadd X.1 X.2.1 dL_law_871 ?_
        obtain ⟨t335, q336, hf⟩ := bnd hf
        refine y_sld X M hX hbl q336 dL_law_872 ?_
        refine lv_aload_n X.1 X.2.1 dL_law_873 rfl (lv_at hl 0 rfl) ?_
        refine lv_iload_n X.1 X.2.1 dL_law_874 rfl (lv_at hl 3 rfl) ?_
        refine lv_iconst (v := (4 : Int32)) X.1 X.2.1 dL_law_875 (by decide) ?_
        refine lv_iadd X.1 X.2.1 dL_law_876 ?_
        obtain ⟨t337, q338, hf⟩ := bnd hf
        refine y_sld X M hX hbl q338 dL_law_877 ?_
        obtain ⟨⟨⟩, q339, hf⟩ := bnd hf
        obtain ⟨t342, h341, q340, hf⟩ := bnd2 hf
        refine y_callVi (As := [.int t331, .int t333, .int t335, .int t337]) cf_L_107 (c_X10_law l G N v2 t331 t333 t335 t337 h329 _ _ q340) rfl ⟨rfl, rfl, Nat.le_of_ble_eq_true rfl, Nat.le_of_ble_eq_true rfl⟩ ⟨by show _ ≤ 600000; omega, by show _ ≤ 7302250; omega⟩ X M (y_recv cls_X10 X M q339) rfl rfl hl.1 (Nat.le_of_ble_eq_true rfl) dL_law_878 (fun H locs M => ?_)
        refine lv_icmp_eq (tgt := 1336) X.1 X.2.1 dL_law_881 (by decide) (fun c343 => ?_) (fun c343 => ?_)
        · have hf := ifp c343 hf
          refine lv_iinc (v := (v3 + 6)) (lv' := [(3, .int (v3 + 6)), (0, .ref b), (1, .ref (gB G + v1)), (2, .ref (gB G + v2))]) X.1 X.2.1 dL_law_1336 hl (k := 3) rfl (by first | rfl | decide) (by decide) rfl (fun ls hl => ?_)
          refine lv_goto (tgt := 18) X.1 X.2.1 dL_law_1339 (by decide) ?_
          exact ih _ _ (by omega) (by omega) v1 v2 (v3 + 6) h341 hf _ _ _ M (lv_sub hl [1, 2, 3, 0] rfl)
        · have hf := ifn c343 hf
          refine lv_iconst (v := (0 : Int32)) X.1 X.2.1 dL_law_884 (by decide) ?_
          cases hf
      have hf := ifn c318 hf
      by_cases c344 : (t4 &&& (63 : Int32)) = 22
      · have hf := ifp c344 hf
        refine x_tin (z := 22) (tgt := 886) X rfl c344 dL_law_33 (by decide) (by decide) rfl (by decide) ?_
        refine lv_aload_n X.1 X.2.1 dL_law_886 rfl (lv_at hl 1 rfl) ?_
        refine lv_aload_n X.1 X.2.1 dL_law_887 rfl (lv_at hl 0 rfl) ?_
        refine lv_iload_n X.1 X.2.1 dL_law_888 rfl (lv_at hl 3 rfl) ?_
        refine lv_iconst (v := (1 : Int32)) X.1 X.2.1 dL_law_889 (by decide) ?_
        refine lv_iadd X.1 X.2.1 dL_law_890 ?_
        obtain ⟨t345, q346, hf⟩ := bnd hf
        refine y_sld X M hX hbl q346 dL_law_891 ?_
        refine lv_aload_n X.1 X.2.1 dL_law_892 rfl (lv_at hl 0 rfl) ?_
        refine lv_iload_n X.1 X.2.1 dL_law_893 rfl (lv_at hl 3 rfl) ?_
        refine lv_iconst (v := (2 : Int32)) X.1 X.2.1 dL_law_894 (by decide) ?_
        refine lv_iadd X.1 X.2.1 dL_law_895 ?_
        obtain ⟨t347, q348, hf⟩ := bnd hf
        refine y_sld X M hX hbl q348 dL_law_896 ?_
        refine lv_if_eq (tgt := 904) X.1 X.2.1 dL_law_897 (by decide) (fun c349 => ?_) (fun c349 => ?_)
        · have hf := ifp c349 hf
          refine lv_iconst (v := (0 : Int32)) X.1 X.2.1 dL_law_904 (by decide) ?_
          exact w_L_law_905 X hX hbl hrl hk N _ (fun v1 v2 v3 h hf H locs ls M hl => ih _ _ (by omega) (by omega) v1 v2 v3 h hf H locs ls M hl) ⟨by omega, by omega⟩ v1 v2 v3 v1 t345 (0 : Int32) h hf _ _ _ M (lv_sub hl [0, 1, 2, 3] rfl)
        · have hf := ifn c349 hf
          refine lv_iconst (v := (1 : Int32)) X.1 X.2.1 dL_law_900 (by decide) ?_
          refine lv_goto (tgt := 905) X.1 X.2.1 dL_law_901 (by decide) ?_
          exact w_L_law_905 X hX hbl hrl hk N _ (fun v1 v2 v3 h hf H locs ls M hl => ih _ _ (by omega) (by omega) v1 v2 v3 h hf H locs ls M hl) ⟨by omega, by omega⟩ v1 v2 v3 v1 t345 (1 : Int32) h hf _ _ _ M (lv_sub hl [0, 1, 2, 3] rfl)
      have hf := ifn c344 hf
      by_cases c350 : (t4 &&& (63 : Int32)) = 23
      · have hf := ifp c350 hf
        refine x_tin (z := 23) (tgt := 935) X rfl c350 dL_law_33 (by decide) (by decide) rfl (by decide) ?_
        refine lv_aload_n X.1 X.2.1 dL_law_935 rfl (lv_at hl 1 rfl) ?_
        refine lv_aload_n X.1 X.2.1 dL_law_936 rfl (lv_at hl 0 rfl) ?_
        refine lv_iload_n X.1 X.2.1 dL_law_937 rfl (lv_at hl 3 rfl) ?_
        refine lv_iconst (v := (1 : Int32)) X.1 X.2.1 dL_law_938 (by decide) ?_
        refine lv_iadd X.1 X.2.1 dL_law_939 ?_
        obtain ⟨t351, q352, hf⟩ := bnd hf
        refine y_sld X M hX hbl q352 dL_law_940 ?_
        refine lv_aload_n X.1 X.2.1 dL_law_941 rfl (lv_at hl 0 rfl) ?_
        refine lv_iload_n X.1 X.2.1 dL_law_942 rfl (lv_at hl 3 rfl) ?_
        refine lv_iconst (v := (2 : Int32)) X.1 X.2.1 dL_law_943 (by decide) ?_
        refine lv_iadd X.1 X.2.1 dL_law_944 ?_
        obtain ⟨t353, q354, hf⟩ := bnd hf
        refine y_sld X M hX hbl q354 dL_law_945 ?_
        refine lv_aload_n X.1 X.2.1 dL_law_946 rfl (lv_at hl 0 rfl) ?_
        refine lv_iload_n X.1 X.2.1 dL_law_947 rfl (lv_at hl 3 rfl) ?_
        refine lv_iconst (v := (3 : Int32)) X.1 X.2.1 dL_law_948 (by decide) ?_
        refine lv_iadd X.1 X.2.1 dL_law_949 ?_
        obtain ⟨t355, q356, hf⟩ := bnd hf
        refine y_sld X M hX hbl q356 dL_law_950 ?_
        obtain ⟨⟨⟩, q357, hf⟩ := bnd hf
        obtain ⟨t360, h359, q358, hf⟩ := bnd2 hf
        refine y_callVi (As := [.int t351, .int t353, .int t355]) cf_L_113 (c_X9_edge l G N v1 t351 t353 t355 h _ _ q358) rfl ⟨rfl, rfl, Nat.le_of_ble_eq_true rfl, Nat.le_of_ble_eq_true rfl⟩ ⟨by show _ ≤ 600000; omega, by show _ ≤ 7302250; omega⟩ X M (y_recv cls_X9 X M q357) rfl rfl hl.1 (Nat.le_of_ble_eq_true rfl) dL_law_951 (fun H locs M => ?_)
        refine lv_aload_n X.1 X.2.1 dL_law_954 rfl (lv_at hl 2 rfl) ?_
        refine lv_aload_n X.1 X.2.1 dL_law_955 rfl (lv_at hl 0 rfl) ?_
        refine lv_iload_n X.1 X.2.1 dL_law_956 rfl (lv_at hl 3 rfl) ?_
        refine lv_iconst (v := (1 : Int32)) X.1 X.2.1 dL_law_957 (by decide) ?_
        refine lv_iadd X.1 X.2.1 dL_law_958 ?_
        obtain ⟨t361, q362, hf⟩ := bnd hf
        refine y_sld X M hX hbl q362 dL_law_959 ?_
        refine lv_aload_n X.1 X.2.1 dL_law_960 rfl (lv_at hl 0 rfl) ?_
        refine lv_iload_n X.1 X.2.1 dL_law_961 rfl (lv_at hl 3 rfl) ?_
        refine lv_iconst (v := (2 : Int32)) X.1 X.2.1 dL_law_962 (by decide) ?_
        refine lv_iadd X.1 X.2.1 dL_law_963 ?_
        obtain ⟨t363, q364, hf⟩ := bnd hf
        refine y_sld X M hX hbl q364 dL_law_964 ?_
        refine lv_aload_n X.1 X.2.1 dL_law_965 rfl (lv_at hl 0 rfl) ?_
        refine lv_iload_n X.1 X.2.1 dL_law_966 rfl (lv_at hl 3 rfl) ?_
        refine lv_iconst (v := (3 : Int32)) X.1 X.2.1 dL_law_967 (by decide) ?_
        refine lv_iadd X.1 X.2.1 dL_law_968 ?_
        obtain ⟨t365, q366, hf⟩ := bnd hf
        refine y_sld X M hX hbl q366 dL_law_969 ?_
        obtain ⟨⟨⟩, q367, hf⟩ := bnd hf
        obtain ⟨t370, h369, q368, hf⟩ := bnd2 hf
        refine y_callVi (As := [.int t361, .int t363, .int t365]) cf_L_116 (c_X10_edge l G N v2 t361 t363 t365 h359 _ _ q368) rfl ⟨rfl, rfl, Nat.le_of_ble_eq_true rfl, Nat.le_of_ble_eq_true rfl⟩ ⟨by show _ ≤ 600000; omega, by show _ ≤ 7302250; omega⟩ X M (y_recv cls_X10 X M q367) rfl rfl hl.1 (Nat.le_of_ble_eq_true rfl) dL_law_970 (fun H locs M => ?_)
        refine lv_icmp_eq (tgt := 1336) X.1 X.2.1 dL_law_973 (by decide) (fun c371 => ?_) (fun c371 => ?_)
        · have hf := ifp c371 hf
          refine lv_iinc (v := (v3 + 6)) (lv' := [(3, .int (v3 + 6)), (0, .ref b), (1, .ref (gB G + v1)), (2, .ref (gB G + v2))]) X.1 X.2.1 dL_law_1336 hl (k := 3) rfl (by first | rfl | decide) (by decide) rfl (fun ls hl => ?_)
          refine lv_goto (tgt := 18) X.1 X.2.1 dL_law_1339 (by decide) ?_
          exact ih _ _ (by omega) (by omega) v1 v2 (v3 + 6) h369 hf _ _ _ M (lv_sub hl [1, 2, 3, 0] rfl)
        · have hf := ifn c371 hf
          refine lv_iconst (v := (0 : Int32)) X.1 X.2.1 dL_law_976 (by decide) ?_
          cases hf
      have hf := ifn c350 hf
      by_cases c372 : (t4 &&& (63 : Int32)) = 24
      · have hf := ifp c372 hf
        refine x_tin (z := 24) (tgt := 978) X rfl c372 dL_law_33 (by decide) (by decide) rfl (by decide) ?_
        refine lv_aload_n X.1 X.2.1 dL_law_978 rfl (lv_at hl 1 rfl) ?_
        refine lv_aload_n X.1 X.2.1 dL_law_979 rfl (lv_at hl 0 rfl) ?_
        refine lv_iload_n X.1 X.2.1 dL_law_980 rfl (lv_at hl 3 rfl) ?_
        refine lv_iconst (v := (1 : Int32)) X.1 X.2.1 dL_law_981 (by decide) ?_
        refine lv_iadd X.1 X.2.1 dL_law_982 ?_
        obtain ⟨t373, q374, hf⟩ := bnd hf
        refine y_sld X M hX hbl q374 dL_law_983 ?_
        obtain ⟨⟨⟩, q375, hf⟩ := bnd hf
        obtain ⟨t378, h377, q376, hf⟩ := bnd2 hf
        refine y_callVi (As := [.int t373]) cf_L_117 (c_X9_year l G N v1 t373 h _ _ q376) rfl ⟨rfl, rfl, Nat.le_of_ble_eq_true rfl, Nat.le_of_ble_eq_true rfl⟩ ⟨by show _ ≤ 600000; omega, by show _ ≤ 7302250; omega⟩ X M (y_recv cls_X9 X M q375) rfl rfl hl.1 (Nat.le_of_ble_eq_true rfl) dL_law_984 (fun H locs M => ?_)
        refine lv_aload_n X.1 X.2.1 dL_law_987 rfl (lv_at hl 2 rfl) ?_
        refine lv_aload_n X.1 X.2.1 dL_law_988 rfl (lv_at hl 0 rfl) ?_
        refine lv_iload_n X.1 X.2.1 dL_law_989 rfl (lv_at hl 3 rfl) ?_
        refine lv_iconst (v := (1 : Int32)) X.1 X.2.1 dL_law_990 (by decide) ?_
        refine lv_iadd X.1 X.2.1 dL_law_991 ?_
        obtain ⟨t379, q380, hf⟩ := bnd hf
        refine y_sld X M hX hbl q380 dL_law_992 ?_
        obtain ⟨⟨⟩, q381, hf⟩ := bnd hf
        obtain ⟨t384, h383, q382, hf⟩ := bnd2 hf
        refine y_callVi (As := [.int t379]) cf_L_120 (c_X10_year l G N v2 t379 h377 _ _ q382) rfl ⟨rfl, rfl, Nat.le_of_ble_eq_true rfl, Nat.le_of_ble_eq_true rfl⟩ ⟨by show _ ≤ 600000; omega, by show _ ≤ 7302250; omega⟩ X M (y_recv cls_X10 X M q381) rfl rfl hl.1 (Nat.le_of_ble_eq_true rfl) dL_law_993 (fun H locs M => ?_)
        refine lv_icmp_eq (tgt := 1336) X.1 X.2.1 dL_law_996 (by decide) (fun c385 => ?_) (fun c385 => ?_)
        · have hf := ifp c385 hf
          refine lv_iinc (v := (v3 + 6)) (lv' := [(3, .int (v3 + 6)), (0, .ref b), (1, .ref (gB G + v1)), (2, .ref (gB G + v2))]) X.1 X.2.1 dL_law_1336 hl (k := 3) rfl (by first | rfl | decide) (by decide) rfl (fun ls hl => ?_)
          refine lv_goto (tgt := 18) X.1 X.2.1 dL_law_1339 (by decide) ?_
          exact ih _ _ (by omega) (by omega) v1 v2 (v3 + 6) h383 hf _ _ _ M (lv_sub hl [1, 2, 3, 0] rfl)
        · have hf := ifn c385 hf
          refine lv_iconst (v := (0 : Int32)) X.1 X.2.1 dL_law_999 (by decide) ?_
          cases hf
      have hf := ifn c372 hf
      by_cases c386 : (t4 &&& (63 : Int32)) = 25
      · have hf := ifp c386 hf
        refine x_tin (z := 25) (tgt := 1001) X rfl c386 dL_law_33 (by decide) (by decide) rfl (by decide) ?_
        refine lv_aload_n X.1 X.2.1 dL_law_1001 rfl (lv_at hl 1 rfl) ?_
        refine lv_aload_n X.1 X.2.1 dL_law_1002 rfl (lv_at hl 0 rfl) ?_
        refine lv_iload_n X.1 X.2.1 dL_law_1003 rfl (lv_at hl 3 rfl) ?_
        refine lv_iconst (v := (1 : Int32)) X.1 X.2.1 dL_law_1004 (by decide) ?_
        refine lv_iadd X.1 X.2.1 dL_law_1005 ?_
        obtain ⟨t387, q388, hf⟩ := bnd hf
        refine y_sld X M hX hbl q388 dL_law_1006 ?_
        refine lv_aload_n X.1 X.2.1 dL_law_1007 rfl (lv_at hl 0 rfl) ?_
        refine lv_iload_n X.1 X.2.1 dL_law_1008 rfl (lv_at hl 3 rfl) ?_
        refine lv_iconst (v := (2 : Int32)) X.1 X.2.1 dL_law_1009 (by decide) ?_
        refine lv_iadd X.1 X.2.1 dL_law_1010 ?_
        obtain ⟨t389, q390, hf⟩ := bnd hf
        refine y_sld X M hX hbl q390 dL_law_1011 ?_
        refine lv_aload_n X.1 X.2.1 dL_law_1012 rfl (lv_at hl 0 rfl) ?_
        refine lv_iload_n X.1 X.2.1 dL_law_1013 rfl (lv_at hl 3 rfl) ?_
        refine lv_iconst (v := (3 : Int32)) X.1 X.2.1 dL_law_1014 (by decide) ?_
        refine lv_iadd X.1 X.2.1 dL_law_1015 ?_
        obtain ⟨t391, q392, hf⟩ := bnd hf
        refine y_sld X M hX hbl q392 dL_law_1016 ?_
        obtain ⟨⟨⟩, q393, hf⟩ := bnd hf
        obtain ⟨t396, h395, q394, hf⟩ := bnd2 hf
        refine y_callVi (As := [.int t387, .int t389, .int t391]) cf_L_121 (c_X9_act l G N v1 t387 t389 t391 h _ _ q394) rfl ⟨rfl, rfl, Nat.le_of_ble_eq_true rfl, Nat.le_of_ble_eq_true rfl⟩ ⟨by show _ ≤ 600000; omega, by show _ ≤ 7302250; omega⟩ X M (y_recv cls_X9 X M q393) rfl rfl hl.1 (Nat.le_of_ble_eq_true rfl) dL_law_1017 (fun H locs M => ?_)
        refine lv_aload_n X.1 X.2.1 dL_law_1020 rfl (lv_at hl 2 rfl) ?_
        refine lv_aload_n X.1 X.2.1 dL_law_1021 rfl (lv_at hl 0 rfl) ?_
        refine lv_iload_n X.1 X.2.1 dL_law_1022 rfl (lv_at hl 3 rfl) ?_
        refine lv_iconst (v := (1 : Int32)) X.1 X.2.1 dL_law_1023 (by decide) ?_
        refine lv_iadd X.1 X.2.1 dL_law_1024 ?_
        obtain ⟨t397, q398, hf⟩ := bnd hf
        refine y_sld X M hX hbl q398 dL_law_1025 ?_
        refine lv_aload_n X.1 X.2.1 dL_law_1026 rfl (lv_at hl 0 rfl) ?_
        refine lv_iload_n X.1 X.2.1 dL_law_1027 rfl (lv_at hl 3 rfl) ?_
        refine lv_iconst (v := (2 : Int32)) X.1 X.2.1 dL_law_1028 (by decide) ?_
        refine lv_iadd X.1 X.2.1 dL_law_1029 ?_
        obtain ⟨t399, q400, hf⟩ := bnd hf
        refine y_sld X M hX hbl q400 dL_law_1030 ?_
        refine lv_aload_n X.1 X.2.1 dL_law_1031 rfl (lv_at hl 0 rfl) ?_
        refine lv_iload_n X.1 X.2.1 dL_law_1032 rfl (lv_at hl 3 rfl) ?_
        refine lv_iconst (v := (3 : Int32)) X.1 X.2.1 dL_law_1033 (by decide) ?_
        refine lv_iadd X.1 X.2.1 dL_law_1034 ?_
        obtain ⟨t401, q402, hf⟩ := bnd hf
        refine y_sld X M hX hbl q402 dL_law_1035 ?_
        obtain ⟨⟨⟩, q403, hf⟩ := bnd hf
        obtain ⟨t406, h405, q404, hf⟩ := bnd2 hf
        refine y_callVi (As := [.int t397, .int t399, .int t401]) cf_L_124 (c_X10_act l G N v2 t397 t399 t401 h395 _ _ q404) rfl ⟨rfl, rfl, Nat.le_of_ble_eq_true rfl, Nat.le_of_ble_eq_true rfl⟩ ⟨by show _ ≤ 600000; omega, by show _ ≤ 7302250; omega⟩ X M (y_recv cls_X10 X M q403) rfl rfl hl.1 (Nat.le_of_ble_eq_true rfl) dL_law_1036 (fun H locs M => ?_)
        refine lv_icmp_eq (tgt := 1336) X.1 X.2.1 dL_law_1039 (by decide) (fun c407 => ?_) (fun c407 => ?_)
        · have hf := ifp c407 hf
          refine lv_iinc (v := (v3 + 6)) (lv' := [(3, .int (v3 + 6)), (0, .ref b), (1, .ref (gB G + v1)), (2, .ref (gB G + v2))]) X.1 X.2.1 dL_law_1336 hl (k := 3) rfl (by first | rfl | decide) (by decide) rfl (fun ls hl => ?_)
          refine lv_goto (tgt := 18) X.1 X.2.1 dL_law_1339 (by decide) ?_
          exact ih _ _ (by omega) (by omega) v1 v2 (v3 + 6) h405 hf _ _ _ M (lv_sub hl [1, 2, 3, 0] rfl)
        · have hf := ifn c407 hf
          refine lv_iconst (v := (0 : Int32)) X.1 X.2.1 dL_law_1042 (by decide) ?_
          cases hf
      have hf := ifn c386 hf
      by_cases c408 : (t4 &&& (63 : Int32)) = 26
      · have hf := ifp c408 hf
        refine x_tin (z := 26) (tgt := 1044) X rfl c408 dL_law_33 (by decide) (by decide) rfl (by decide) ?_
        refine lv_aload_n X.1 X.2.1 dL_law_1044 rfl (lv_at hl 1 rfl) ?_
        refine lv_aload_n X.1 X.2.1 dL_law_1045 rfl (lv_at hl 0 rfl) ?_
        refine lv_iload_n X.1 X.2.1 dL_law_1046 rfl (lv_at hl 3 rfl) ?_
        refine lv_iconst (v := (1 : Int32)) X.1 X.2.1 dL_law_1047 (by decide) ?_
        refine lv_iadd X.1 X.2.1 dL_law_1048 ?_
        obtain ⟨t409, q410, hf⟩ := bnd hf
        refine y_sld X M hX hbl q410 dL_law_1049 ?_
        obtain ⟨⟨⟩, q411, hf⟩ := bnd hf
        obtain ⟨t414, h413, q412, hf⟩ := bnd2 hf
        refine y_callVi (As := [.int t409]) cf_L_125 (c_X9_trace l G N v1 t409 h _ _ q412) rfl ⟨rfl, rfl, Nat.le_of_ble_eq_true rfl, Nat.le_of_ble_eq_true rfl⟩ ⟨by show _ ≤ 600000; omega, by show _ ≤ 7302250; omega⟩ X M (y_recv cls_X9 X M q411) rfl rfl hl.1 (Nat.le_of_ble_eq_true rfl) dL_law_1050 (fun H locs M => ?_)
        refine lv_aload_n X.1 X.2.1 dL_law_1053 rfl (lv_at hl 2 rfl) ?_
        refine lv_aload_n X.1 X.2.1 dL_law_1054 rfl (lv_at hl 0 rfl) ?_
        refine lv_iload_n X.1 X.2.1 dL_law_1055 rfl (lv_at hl 3 rfl) ?_
        refine lv_iconst (v := (1 : Int32)) X.1 X.2.1 dL_law_1056 (by decide) ?_
        refine lv_iadd X.1 X.2.1 dL_law_1057 ?_
        obtain ⟨t415, q416, hf⟩ := bnd hf
        refine y_sld X M hX hbl q416 dL_law_1058 ?_
        obtain ⟨⟨⟩, q417, hf⟩ := bnd hf
        obtain ⟨t420, h419, q418, hf⟩ := bnd2 hf
        refine y_callVi (As := [.int t415]) cf_L_128 (c_X10_trace l G N v2 t415 h413 _ _ q418) rfl ⟨rfl, rfl, Nat.le_of_ble_eq_true rfl, Nat.le_of_ble_eq_true rfl⟩ ⟨by show _ ≤ 600000; omega, by show _ ≤ 7302250; omega⟩ X M (y_recv cls_X10 X M q417) rfl rfl hl.1 (Nat.le_of_ble_eq_true rfl) dL_law_1059 (fun H locs M => ?_)
        refine lv_icmp_eq (tgt := 1336) X.1 X.2.1 dL_law_1062 (by decide) (fun c421 => ?_) (fun c421 => ?_)
        · have hf := ifp c421 hf
          refine lv_iinc (v := (v3 + 6)) (lv' := [(3, .int (v3 + 6)), (0, .ref b), (1, .ref (gB G + v1)), (2, .ref (gB G + v2))]) X.1 X.2.1 dL_law_1336 hl (k := 3) rfl (by first | rfl | decide) (by decide) rfl (fun ls hl => ?_)
          refine lv_goto (tgt := 18) X.1 X.2.1 dL_law_1339 (by decide) ?_
          exact ih _ _ (by omega) (by omega) v1 v2 (v3 + 6) h419 hf _ _ _ M (lv_sub hl [1, 2, 3, 0] rfl)
        · have hf := ifn c421 hf
          refine lv_iconst (v := (0 : Int32)) X.1 X.2.1 dL_law_1065 (by decide) ?_
          cases hf
      have hf := ifn c408 hf
      by_cases c422 : (t4 &&& (63 : Int32)) = 27
      · have hf := ifp c422 hf
        refine x_tin (z := 27) (tgt := 1067) X rfl c422 dL_law_33 (by decide) (by decide) rfl (by decide) ?_
        refine lv_aload_n X.1 X.2.1 dL_law_1067 rfl (lv_at hl 1 rfl) ?_
        refine lv_aload_n X.1 X.2.1 dL_law_1068 rfl (lv_at hl 0 rfl) ?_
        refine lv_iload_n X.1 X.2.1 dL_law_1069 rfl (lv_at hl 3 rfl) ?_
        refine lv_iconst (v := (1 : Int32)) X.1 X.2.1 dL_law_1070 (by decide) ?_
        refine lv_iadd X.1 X.2.1 dL_law_1071 ?_
        obtain ⟨t423, q424, hf⟩ := bnd hf
        refine y_sld X M hX hbl q424 dL_law_1072 ?_
        refine lv_aload_n X.1 X.2.1 dL_law_1073 rfl (lv_at hl 0 rfl) ?_
        refine lv_iload_n X.1 X.2.1 dL_law_1074 rfl (lv_at hl 3 rfl) ?_
        refine lv_iconst (v := (2 : Int32)) X.1 X.2.1 dL_law_1075 (by decide) ?_
        refine lv_iadd X.1 X.2.1 dL_law_1076 ?_
        obtain ⟨t425, q426, hf⟩ := bnd hf
        refine y_sld X M hX hbl q426 dL_law_1077 ?_
        obtain ⟨⟨⟩, q427, hf⟩ := bnd hf
        obtain ⟨t430, h429, q428, hf⟩ := bnd2 hf
        refine y_callVi (As := [.int t423, .int t425]) cf_L_129 (c_X9_taken l G N v1 t423 t425 h _ _ q428) rfl ⟨rfl, rfl, Nat.le_of_ble_eq_true rfl, Nat.le_of_ble_eq_true rfl⟩ ⟨by show _ ≤ 600000; omega, by show _ ≤ 7302250; omega⟩ X M (y_recv cls_X9 X M q427) rfl rfl hl.1 (Nat.le_of_ble_eq_true rfl) dL_law_1078 (fun H locs M => ?_)
        refine lv_aload_n X.1 X.2.1 dL_law_1081 rfl (lv_at hl 2 rfl) ?_
        refine lv_aload_n X.1 X.2.1 dL_law_1082 rfl (lv_at hl 0 rfl) ?_
        refine lv_iload_n X.1 X.2.1 dL_law_1083 rfl (lv_at hl 3 rfl) ?_
        refine lv_iconst (v := (1 : Int32)) X.1 X.2.1 dL_law_1084 (by decide) ?_
        refine lv_iadd X.1 X.2.1 dL_law_1085 ?_
        obtain ⟨t431, q432, hf⟩ := bnd hf
        refine y_sld X M hX hbl q432 dL_law_1086 ?_
        refine lv_aload_n X.1 X.2.1 dL_law_1087 rfl (lv_at hl 0 rfl) ?_
        refine lv_iload_n X.1 X.2.1 dL_law_1088 rfl (lv_at hl 3 rfl) ?_
        refine lv_iconst (v := (2 : Int32)) X.1 X.2.1 dL_law_1089 (by decide) ?_
        refine lv_iadd X.1 X.2.1 dL_law_1090 ?_
        obtain ⟨t433, q434, hf⟩ := bnd hf
        refine y_sld X M hX hbl q434 dL_law_1091 ?_
        obtain ⟨⟨⟩, q435, hf⟩ := bnd hf
        obtain ⟨t438, h437, q436, hf⟩ := bnd2 hf
        refine y_callVi (As := [.int t431, .int t433]) cf_L_132 (c_X10_taken l G N v2 t431 t433 h429 _ _ q436) rfl ⟨rfl, rfl, Nat.le_of_ble_eq_true rfl, Nat.le_of_ble_eq_true rfl⟩ ⟨by show _ ≤ 600000; omega, by show _ ≤ 7302250; omega⟩ X M (y_recv cls_X10 X M q435) rfl rfl hl.1 (Nat.le_of_ble_eq_true rfl) dL_law_1092 (fun H locs M => ?_)
        refine lv_icmp_eq (tgt := 1336) X.1 X.2.1 dL_law_1095 (by decide) (fun c439 => ?_) (fun c439 => ?_)
        · have hf := ifp c439 hf
          refine lv_iinc (v := (v3 + 6)) (lv' := [(3, .int (v3 + 6)), (0, .ref b), (1, .ref (gB G + v1)), (2, .ref (gB G + v2))]) X.1 X.2.1 dL_law_1336 hl (k := 3) rfl (by first | rfl | decide) (by decide) rfl (fun ls hl => ?_)
          refine lv_goto (tgt := 18) X.1 X.2.1 dL_law_1339 (by decide) ?_
          exact ih _ _ (by omega) (by omega) v1 v2 (v3 + 6) h437 hf _ _ _ M (lv_sub hl [1, 2, 3, 0] rfl)
        · have hf := ifn c439 hf
          refine lv_iconst (v := (0 : Int32)) X.1 X.2.1 dL_law_1098 (by decide) ?_
          cases hf
      have hf := ifn c422 hf
      by_cases c440 : (t4 &&& (63 : Int32)) = 28
      · have hf := ifp c440 hf
        refine x_tin (z := 28) (tgt := 1100) X rfl c440 dL_law_33 (by decide) (by decide) rfl (by decide) ?_
        refine lv_aload_n X.1 X.2.1 dL_law_1100 rfl (lv_at hl 1 rfl) ?_
        refine lv_aload_n X.1 X.2.1 dL_law_1101 rfl (lv_at hl 0 rfl) ?_
        refine lv_iload_n X.1 X.2.1 dL_law_1102 rfl (lv_at hl 3 rfl) ?_
        refine lv_iconst (v := (1 : Int32)) X.1 X.2.1 dL_law_1103 (by decide) ?_
        refine lv_iadd X.1 X.2.1 dL_law_1104 ?_
        obtain ⟨t441, q442, hf⟩ := bnd hf
        refine y_sld X M hX hbl q442 dL_law_1105 ?_
        obtain ⟨⟨⟩, q443, hf⟩ := bnd hf
        obtain ⟨t446, h445, q444, hf⟩ := bnd2 hf
        refine y_callVi (As := [.int t441]) cf_L_133 (c_X9_count l G N v1 t441 h _ _ q444) rfl ⟨rfl, rfl, Nat.le_of_ble_eq_true rfl, Nat.le_of_ble_eq_true rfl⟩ ⟨by show _ ≤ 600000; omega, by show _ ≤ 7302250; omega⟩ X M (y_recv cls_X9 X M q443) rfl rfl hl.1 (Nat.le_of_ble_eq_true rfl) dL_law_1106 (fun H locs M => ?_)
        refine lv_aload_n X.1 X.2.1 dL_law_1109 rfl (lv_at hl 2 rfl) ?_
        refine lv_aload_n X.1 X.2.1 dL_law_1110 rfl (lv_at hl 0 rfl) ?_
        refine lv_iload_n X.1 X.2.1 dL_law_1111 rfl (lv_at hl 3 rfl) ?_
        refine lv_iconst (v := (1 : Int32)) X.1 X.2.1 dL_law_1112 (by decide) ?_
        refine lv_iadd X.1 X.2.1 dL_law_1113 ?_
        obtain ⟨t447, q448, hf⟩ := bnd hf
        refine y_sld X M hX hbl q448 dL_law_1114 ?_
        obtain ⟨⟨⟩, q449, hf⟩ := bnd hf
        obtain ⟨t452, h451, q450, hf⟩ := bnd2 hf
        refine y_callVi (As := [.int t447]) cf_L_136 (c_X10_count l G N v2 t447 h445 _ _ q450) rfl ⟨rfl, rfl, Nat.le_of_ble_eq_true rfl, Nat.le_of_ble_eq_true rfl⟩ ⟨by show _ ≤ 600000; omega, by show _ ≤ 7302250; omega⟩ X M (y_recv cls_X10 X M q449) rfl rfl hl.1 (Nat.le_of_ble_eq_true rfl) dL_law_1115 (fun H locs M => ?_)
        refine lv_icmp_eq (tgt := 1336) X.1 X.2.1 dL_law_1118 (by decide) (fun c453 => ?_) (fun c453 => ?_)
        · have hf := ifp c453 hf
          refine lv_iinc (v := (v3 + 6)) (lv' := [(3, .int (v3 + 6)), (0, .ref b), (1, .ref (gB G + v1)), (2, .ref (gB G + v2))]) X.1 X.2.1 dL_law_1336 hl (k := 3) rfl (by first | rfl | decide) (by decide) rfl (fun ls hl => ?_)
          refine lv_goto (tgt := 18) X.1 X.2.1 dL_law_1339 (by decide) ?_
          exact ih _ _ (by omega) (by omega) v1 v2 (v3 + 6) h451 hf _ _ _ M (lv_sub hl [1, 2, 3, 0] rfl)
        · have hf := ifn c453 hf
          refine lv_iconst (v := (0 : Int32)) X.1 X.2.1 dL_law_1121 (by decide) ?_
          cases hf
      have hf := ifn c440 hf
      by_cases c454 : (t4 &&& (63 : Int32)) = 29
      · have hf := ifp c454 hf
        refine x_tin (z := 29) (tgt := 1123) X rfl c454 dL_law_33 (by decide) (by decide) rfl (by decide) ?_
        refine lv_aload_n X.1 X.2.1 dL_law_1123 rfl (lv_at hl 1 rfl) ?_
        refine lv_aload_n X.1 X.2.1 dL_law_1124 rfl (lv_at hl 0 rfl) ?_
        refine lv_iload_n X.1 X.2.1 dL_law_1125 rfl (lv_at hl 3 rfl) ?_
        refine lv_iconst (v := (1 : Int32)) X.1 X.2.1 dL_law_1126 (by decide) ?_
        refine lv_iadd X.1 X.2.1 dL_law_1127 ?_
        obtain ⟨t455, q456, hf⟩ := bnd hf
        refine y_sld X M hX hbl q456 dL_law_1128 ?_
        refine lv_aload_n X.1 X.2.1 dL_law_1129 rfl (lv_at hl 0 rfl) ?_
        refine lv_iload_n X.1 X.2.1 dL_law_1130 rfl (lv_at hl 3 rfl) ?_
        refine lv_iconst (v := (2 : Int32)) X.1 X.2.1 dL_law_1131 (by decide) ?_
        refine lv_iadd X.1 X.2.1 dL_law_1132 ?_
        obtain ⟨t457, q458, hf⟩ := bnd hf
        refine y_sld X M hX hbl q458 dL_law_1133 ?_
        refine lv_aload_n X.1 X.2.1 dL_law_1134 rfl (lv_at hl 0 rfl) ?_
        refine lv_iload_n X.1 X.2.1 dL_law_1135 rfl (lv_at hl 3 rfl) ?_
        refine lv_iconst (v := (3 : Int32)) X.1 X.2.1 dL_law_1136 (by decide) ?_
        refine lv_iadd X.1 X.2.1 dL_law_1137 ?_
        obtain ⟨t459, q460, hf⟩ := bnd hf
        refine y_sld X M hX hbl q460 dL_law_1138 ?_
        obtain ⟨⟨⟩, q461, hf⟩ := bnd hf
        obtain ⟨t464, h463, q462, hf⟩ := bnd2 hf
        refine y_callVi (As := [.int t455, .int t457, .int t459]) cf_L_137 (c_X9_tape l G N v1 t455 t457 t459 h _ _ q462) rfl ⟨rfl, rfl, Nat.le_of_ble_eq_true rfl, Nat.le_of_ble_eq_true rfl⟩ ⟨by show _ ≤ 600000; omega, by show _ ≤ 7302250; omega⟩ X M (y_recv cls_X9 X M q461) rfl rfl hl.1 (Nat.le_of_ble_eq_true rfl) dL_law_1139 (fun H locs M => ?_)
        refine lv_aload_n X.1 X.2.1 dL_law_1142 rfl (lv_at hl 2 rfl) ?_
        refine lv_aload_n X.1 X.2.1 dL_law_1143 rfl (lv_at hl 0 rfl) ?_
        refine lv_iload_n X.1 X.2.1 dL_law_1144 rfl (lv_at hl 3 rfl) ?_
        refine lv_iconst (v := (1 : Int32)) X.1 X.2.1 dL_law_1145 (by decide) ?_
        refine lv_iadd X.1 X.2.1 dL_law_1146 ?_
        obtain ⟨t465, q466, hf⟩ := bnd hf
        refine y_sld X M hX hbl q466 dL_law_1147 ?_
        refine lv_aload_n X.1 X.2.1 dL_law_1148 rfl (lv_at hl 0 rfl) ?_
        refine lv_iload_n X.1 X.2.1 dL_law_1149 rfl (lv_at hl 3 rfl) ?_
        refine lv_iconst (v := (2 : Int32)) X.1 X.2.1 dL_law_1150 (by decide) ?_
        refine lv_iadd X.1 X.2.1 dL_law_1151 ?_
        obtain ⟨t467, q468, hf⟩ := bnd hf
        refine y_sld X M hX hbl q468 dL_law_1152 ?_
        refine lv_aload_n X.1 X.2.1 dL_law_1153 rfl (lv_at hl 0 rfl) ?_
        refine lv_iload_n X.1 X.2.1 dL_law_1154 rfl (lv_at hl 3 rfl) ?_
        refine lv_iconst (v := (3 : Int32)) X.1 X.2.1 dL_law_1155 (by decide) ?_
        refine lv_iadd X.1 X.2.1 dL_law_1156 ?_
        obtain ⟨t469, q470, hf⟩ := bnd hf
        refine y_sld X M hX hbl q470 dL_law_1157 ?_
        obtain ⟨⟨⟩, q471, hf⟩ := bnd hf
        obtain ⟨t474, h473, q472, hf⟩ := bnd2 hf
        refine y_callVi (As := [.int t465, .int t467, .int t469]) cf_L_140 (c_X10_tape l G N v2 t465 t467 t469 h463 _ _ q472) rfl ⟨rfl, rfl, Nat.le_of_ble_eq_true rfl, Nat.le_of_ble_eq_true rfl⟩ ⟨by show _ ≤ 600000; omega, by show _ ≤ 7302250; omega⟩ X M (y_recv cls_X10 X M q471) rfl rfl hl.1 (Nat.le_of_ble_eq_true rfl) dL_law_1158 (fun H locs M => ?_)
        refine lv_icmp_eq (tgt := 1336) X.1 X.2.1 dL_law_1161 (by decide) (fun c475 => ?_) (fun c475 => ?_)
        · have hf := ifp c475 hf
          refine lv_iinc (v := (v3 + 6)) (lv' := [(3, .int (v3 + 6)), (0, .ref b), (1, .ref (gB G + v1)), (2, .ref (gB G + v2))]) X.1 X.2.1 dL_law_1336 hl (k := 3) rfl (by first | rfl | decide) (by decide) rfl (fun ls hl => ?_)
          refine lv_goto (tgt := 18) X.1 X.2.1 dL_law_1339 (by decide) ?_
          exact ih _ _ (by omega) (by omega) v1 v2 (v3 + 6) h473 hf _ _ _ M (lv_sub hl [1, 2, 3, 0] rfl)
        · have hf := ifn c475 hf
          refine lv_iconst (v := (0 : Int32)) X.1 X.2.1 dL_law_1164 (by decide) ?_
          cases hf
      have hf := ifn c454 hf
      by_cases c476 : (t4 &&& (63 : Int32)) = 30
      · have hf := ifp c476 hf
        refine x_tin (z := 30) (tgt := 1166) X rfl c476 dL_law_33 (by decide) (by decide) rfl (by decide) ?_
        refine lv_aload_n X.1 X.2.1 dL_law_1166 rfl (lv_at hl 1 rfl) ?_
        refine lv_aload_n X.1 X.2.1 dL_law_1167 rfl (lv_at hl 0 rfl) ?_
        refine lv_iload_n X.1 X.2.1 dL_law_1168 rfl (lv_at hl 3 rfl) ?_
        refine lv_iconst (v := (1 : Int32)) X.1 X.2.1 dL_law_1169 (by decide) ?_
        refine lv_iadd X.1 X.2.1 dL_law_1170 ?_
        obtain ⟨t477, q478, hf⟩ := bnd hf
        refine y_sld X M hX hbl q478 dL_law_1171 ?_
        refine lv_aload_n X.1 X.2.1 dL_law_1172 rfl (lv_at hl 0 rfl) ?_
        refine lv_iload_n X.1 X.2.1 dL_law_1173 rfl (lv_at hl 3 rfl) ?_
        refine lv_iconst (v := (2 : Int32)) X.1 X.2.1 dL_law_1174 (by decide) ?_
        refine lv_iadd X.1 X.2.1 dL_law_1175 ?_
        obtain ⟨t479, q480, hf⟩ := bnd hf
        refine y_sld X M hX hbl q480 dL_law_1176 ?_
        refine lv_aload_n X.1 X.2.1 dL_law_1177 rfl (lv_at hl 0 rfl) ?_
        refine lv_iload_n X.1 X.2.1 dL_law_1178 rfl (lv_at hl 3 rfl) ?_
        refine lv_iconst (v := (3 : Int32)) X.1 X.2.1 dL_law_1179 (by decide) ?_
        refine lv_iadd X.1 X.2.1 dL_law_1180 ?_
        obtain ⟨t481, q482, hf⟩ := bnd hf
        refine y_sld X M hX hbl q482 dL_law_1181 ?_
        refine lv_i2l (v := ((Int32.toInt64 t481))) X.1 X.2.1 dL_law_1182 rfl ?_
        refine lv_bipush (v := (32 : Int32)) X.1 X.2.1 dL_law_1183 (by decide) ?_
        refine lv_lshl (v := (((Int32.toInt64 t481)) <<< (Int32.toInt64 (32 : Int32) &&& 63))) X.1 X.2.1 dL_law_1185 rfl ?_
        refine lv_aload_n X.1 X.2.1 dL_law_1186 rfl (lv_at hl 0 rfl) ?_
        refine lv_iload_n X.1 X.2.1 dL_law_1187 rfl (lv_at hl 3 rfl) ?_
        refine lv_iconst (v := (4 : Int32)) X.1 X.2.1 dL_law_1188 (by decide) ?_
        refine lv_iadd X.1 X.2.1 dL_law_1189 ?_
        obtain ⟨t483, q484, hf⟩ := bnd hf
        refine y_sld X M hX hbl q484 dL_law_1190 ?_
        refine lv_i2l (v := ((Int32.toInt64 t483))) X.1 X.2.1 dL_law_1191 rfl ?_
        refine lv_ldc2 X.1 X.2.1 X.2.2.2.1 (X.2.2.2.2.1 _ k_1548) dL_law_1192 ?_
        refine lv_land X.1 X.2.1 dL_law_1195 ?_
        refine lv_lor X.1 X.2.1 dL_law_1196 ?_
        obtain ⟨⟨⟩, q485, hf⟩ := bnd hf
        obtain ⟨t488, h487, q486, hf⟩ := bnd2 hf
        refine y_callVi (As := [.int t477, .int t479, .long ((((Int32.toInt64 t481)) <<< (Int32.toInt64 (32 : Int32) &&& 63)) ||| (((Int32.toInt64 t483)) &&& (4294967295 : Int64)))]) cf_L_143 (c_X9_item l G N v1 t477 t479 ((((Int32.toInt64 t481)) <<< (Int32.toInt64 (32 : Int32) &&& 63)) ||| (((Int32.toInt64 t483)) &&& (4294967295 : Int64))) h _ _ q486) rfl ⟨rfl, rfl, Nat.le_of_ble_eq_true rfl, Nat.le_of_ble_eq_true rfl⟩ ⟨by show _ ≤ 600000; omega, by show _ ≤ 7302250; omega⟩ X M (y_recv cls_X9 X M q485) rfl rfl hl.1 (Nat.le_of_ble_eq_true rfl) dL_law_1197 (fun H locs M => ?_)
        refine lv_aload_n X.1 X.2.1 dL_law_1200 rfl (lv_at hl 2 rfl) ?_
        refine lv_aload_n X.1 X.2.1 dL_law_1201 rfl (lv_at hl 0 rfl) ?_
        refine lv_iload_n X.1 X.2.1 dL_law_1202 rfl (lv_at hl 3 rfl) ?_
        refine lv_iconst (v := (1 : Int32)) X.1 X.2.1 dL_law_1203 (by decide) ?_
        refine lv_iadd X.1 X.2.1 dL_law_1204 ?_
        obtain ⟨t489, q490, hf⟩ := bnd hf
        refine y_sld X M hX hbl q490 dL_law_1205 ?_
        refine lv_aload_n X.1 X.2.1 dL_law_1206 rfl (lv_at hl 0 rfl) ?_
        refine lv_iload_n X.1 X.2.1 dL_law_1207 rfl (lv_at hl 3 rfl) ?_
        refine lv_iconst (v := (2 : Int32)) X.1 X.2.1 dL_law_1208 (by decide) ?_
        refine lv_iadd X.1 X.2.1 dL_law_1209 ?_
        obtain ⟨t491, q492, hf⟩ := bnd hf
        refine y_sld X M hX hbl q492 dL_law_1210 ?_
        refine lv_aload_n X.1 X.2.1 dL_law_1211 rfl (lv_at hl 0 rfl) ?_
        refine lv_iload_n X.1 X.2.1 dL_law_1212 rfl (lv_at hl 3 rfl) ?_
        refine lv_iconst (v := (3 : Int32)) X.1 X.2.1 dL_law_1213 (by decide) ?_
        refine lv_iadd X.1 X.2.1 dL_law_1214 ?_
        obtain ⟨t493, q494, hf⟩ := bnd hf
        refine y_sld X M hX hbl q494 dL_law_1215 ?_
        refine lv_i2l (v := ((Int32.toInt64 t493))) X.1 X.2.1 dL_law_1216 rfl ?_
        refine lv_bipush (v := (32 : Int32)) X.1 X.2.1 dL_law_1217 (by decide) ?_
        refine lv_lshl (v := (((Int32.toInt64 t493)) <<< (Int32.toInt64 (32 : Int32) &&& 63))) X.1 X.2.1 dL_law_1219 rfl ?_
        refine lv_aload_n X.1 X.2.1 dL_law_1220 rfl (lv_at hl 0 rfl) ?_
        refine lv_iload_n X.1 X.2.1 dL_law_1221 rfl (lv_at hl 3 rfl) ?_
        refine lv_iconst (v := (4 : Int32)) X.1 X.2.1 dL_law_1222 (by decide) ?_
        refine lv_iadd X.1 X.2.1 dL_law_1223 ?_
        obtain ⟨t495, q496, hf⟩ := bnd hf
        refine y_sld X M hX hbl q496 dL_law_1224 ?_
        refine lv_i2l (v := ((Int32.toInt64 t495))) X.1 X.2.1 dL_law_1225 rfl ?_
        refine lv_ldc2 X.1 X.2.1 X.2.2.2.1 (X.2.2.2.2.1 _ k_1548) dL_law_1226 ?_
        refine lv_land X.1 X.2.1 dL_law_1229 ?_
        refine lv_lor X.1 X.2.1 dL_law_1230 ?_
        obtain ⟨⟨⟩, q497, hf⟩ := bnd hf
        obtain ⟨t500, h499, q498, hf⟩ := bnd2 hf
        refine y_callVi (As := [.int t489, .int t491, .long ((((Int32.toInt64 t493)) <<< (Int32.toInt64 (32 : Int32) &&& 63)) ||| (((Int32.toInt64 t495)) &&& (4294967295 : Int64)))]) cf_L_147 (c_X10_item l G N v2 t489 t491 ((((Int32.toInt64 t493)) <<< (Int32.toInt64 (32 : Int32) &&& 63)) ||| (((Int32.toInt64 t495)) &&& (4294967295 : Int64))) h487 _ _ q498) rfl ⟨rfl, rfl, Nat.le_of_ble_eq_true rfl, Nat.le_of_ble_eq_true rfl⟩ ⟨by show _ ≤ 600000; omega, by show _ ≤ 7302250; omega⟩ X M (y_recv cls_X10 X M q497) rfl rfl hl.1 (Nat.le_of_ble_eq_true rfl) dL_law_1231 (fun H locs M => ?_)
        refine lv_icmp_eq (tgt := 1336) X.1 X.2.1 dL_law_1234 (by decide) (fun c501 => ?_) (fun c501 => ?_)
        · have hf := ifp c501 hf
          refine lv_iinc (v := (v3 + 6)) (lv' := [(3, .int (v3 + 6)), (0, .ref b), (1, .ref (gB G + v1)), (2, .ref (gB G + v2))]) X.1 X.2.1 dL_law_1336 hl (k := 3) rfl (by first | rfl | decide) (by decide) rfl (fun ls hl => ?_)
          refine lv_goto (tgt := 18) X.1 X.2.1 dL_law_1339 (by decide) ?_
          exact ih _ _ (by omega) (by omega) v1 v2 (v3 + 6) h499 hf _ _ _ M (lv_sub hl [1, 2, 3, 0] rfl)
        · have hf := ifn c501 hf
          refine lv_iconst (v := (0 : Int32)) X.1 X.2.1 dL_law_1237 (by decide) ?_
          cases hf
      have hf := ifn c476 hf
      by_cases c502 : (t4 &&& (63 : Int32)) = 31
      · have hf := ifp c502 hf
        refine x_tin (z := 31) (tgt := 1239) X rfl c502 dL_law_33 (by decide) (by decide) rfl (by decide) ?_
        refine lv_aload_n X.1 X.2.1 dL_law_1239 rfl (lv_at hl 1 rfl) ?_
        refine lv_aload_n X.1 X.2.1 dL_law_1240 rfl (lv_at hl 0 rfl) ?_
        refine lv_iload_n X.1 X.2.1 dL_law_1241 rfl (lv_at hl 3 rfl) ?_
        refine lv_iconst (v := (1 : Int32)) X.1 X.2.1 dL_law_1242 (by decide) ?_
        refine lv_iadd X.1 X.2.1 dL_law_1243 ?_
        obtain ⟨t503, q504, hf⟩ := bnd hf
        refine y_sld X M hX hbl q504 dL_law_1244 ?_
        refine lv_aload_n X.1 X.2.1 dL_law_1245 rfl (lv_at hl 0 rfl) ?_
        refine lv_iload_n X.1 X.2.1 dL_law_1246 rfl (lv_at hl 3 rfl) ?_
        refine lv_iconst (v := (2 : Int32)) X.1 X.2.1 dL_law_1247 (by decide) ?_
        refine lv_iadd X.1 X.2.1 dL_law_1248 ?_
        obtain ⟨t505, q506, hf⟩ := bnd hf
        refine y_sld X M hX hbl q506 dL_law_1249 ?_
        obtain ⟨⟨⟩, q507, hf⟩ := bnd hf
        obtain ⟨t510, h509, q508, hf⟩ := bnd2 hf
        refine y_callVl (As := [.int t503, .int t505]) cf_L_148 (c_X9_read l G N v1 t503 t505 h _ _ q508) rfl ⟨rfl, rfl, Nat.le_of_ble_eq_true rfl, Nat.le_of_ble_eq_true rfl⟩ ⟨by show _ ≤ 600000; omega, by show _ ≤ 7302250; omega⟩ X M (y_recv cls_X9 X M q507) rfl rfl hl.1 (Nat.le_of_ble_eq_true rfl) dL_law_1250 (fun H locs M => ?_)
        refine lv_aload_n X.1 X.2.1 dL_law_1253 rfl (lv_at hl 2 rfl) ?_
        refine lv_aload_n X.1 X.2.1 dL_law_1254 rfl (lv_at hl 0 rfl) ?_
        refine lv_iload_n X.1 X.2.1 dL_law_1255 rfl (lv_at hl 3 rfl) ?_
        refine lv_iconst (v := (1 : Int32)) X.1 X.2.1 dL_law_1256 (by decide) ?_
        refine lv_iadd X.1 X.2.1 dL_law_1257 ?_
        obtain ⟨t511, q512, hf⟩ := bnd hf
        refine y_sld X M hX hbl q512 dL_law_1258 ?_
        refine lv_aload_n X.1 X.2.1 dL_law_1259 rfl (lv_at hl 0 rfl) ?_
        refine lv_iload_n X.1 X.2.1 dL_law_1260 rfl (lv_at hl 3 rfl) ?_
        refine lv_iconst (v := (2 : Int32)) X.1 X.2.1 dL_law_1261 (by decide) ?_
        refine lv_iadd X.1 X.2.1 dL_law_1262 ?_
        obtain ⟨t513, q514, hf⟩ := bnd hf
        refine y_sld X M hX hbl q514 dL_law_1263 ?_
        obtain ⟨⟨⟩, q515, hf⟩ := bnd hf
        obtain ⟨t518, h517, q516, hf⟩ := bnd2 hf
        refine y_callVl (As := [.int t511, .int t513]) cf_L_151 (c_X10_read l G N v2 t511 t513 h509 _ _ q516) rfl ⟨rfl, rfl, Nat.le_of_ble_eq_true rfl, Nat.le_of_ble_eq_true rfl⟩ ⟨by show _ ≤ 600000; omega, by show _ ≤ 7302250; omega⟩ X M (y_recv cls_X10 X M q515) rfl rfl hl.1 (Nat.le_of_ble_eq_true rfl) dL_law_1264 (fun H locs M => ?_)
        refine W.lcmp X.1 X.2.1 dL_law_1267 ?_
        refine lv_if_eq (tgt := 1336) X.1 X.2.1 dL_law_1268 (by decide) (fun c519 => ?_) (fun c519 => ?_)
        · have hf := ifp c519 hf
          refine lv_iinc (v := (v3 + 6)) (lv' := [(3, .int (v3 + 6)), (0, .ref b), (1, .ref (gB G + v1)), (2, .ref (gB G + v2))]) X.1 X.2.1 dL_law_1336 hl (k := 3) rfl (by first | rfl | decide) (by decide) rfl (fun ls hl => ?_)
          refine lv_goto (tgt := 18) X.1 X.2.1 dL_law_1339 (by decide) ?_
          exact ih _ _ (by omega) (by omega) v1 v2 (v3 + 6) h517 hf _ _ _ M (lv_sub hl [1, 2, 3, 0] rfl)
        · have hf := ifn c519 hf
          refine lv_iconst (v := (0 : Int32)) X.1 X.2.1 dL_law_1271 (by decide) ?_
          cases hf
      have hf := ifn c502 hf
      by_cases c520 : (t4 &&& (63 : Int32)) = 32
      · have hf := ifp c520 hf
        refine x_tin (z := 32) (tgt := 1273) X rfl c520 dL_law_33 (by decide) (by decide) rfl (by decide) ?_
        refine lv_aload_n X.1 X.2.1 dL_law_1273 rfl (lv_at hl 1 rfl) ?_
        refine lv_aload_n X.1 X.2.1 dL_law_1274 rfl (lv_at hl 0 rfl) ?_
        refine lv_iload_n X.1 X.2.1 dL_law_1275 rfl (lv_at hl 3 rfl) ?_
        refine lv_iconst (v := (1 : Int32)) X.1 X.2.1 dL_law_1276 (by decide) ?_
        refine lv_iadd X.1 X.2.1 dL_law_1277 ?_
        obtain ⟨t521, q522, hf⟩ := bnd hf
        refine y_sld X M hX hbl q522 dL_law_1278 ?_
        refine lv_aload_n X.1 X.2.1 dL_law_1279 rfl (lv_at hl 0 rfl) ?_
        refine lv_iload_n X.1 X.2.1 dL_law_1280 rfl (lv_at hl 3 rfl) ?_
        refine lv_iconst (v := (2 : Int32)) X.1 X.2.1 dL_law_1281 (by decide) ?_
        refine lv_iadd X.1 X.2.1 dL_law_1282 ?_
        obtain ⟨t523, q524, hf⟩ := bnd hf
        refine y_sld X M hX hbl q524 dL_law_1283 ?_
        refine lv_aload_n X.1 X.2.1 dL_law_1284 rfl (lv_at hl 0 rfl) ?_
        refine lv_iload_n X.1 X.2.1 dL_law_1285 rfl (lv_at hl 3 rfl) ?_
        refine lv_iconst (v := (3 : Int32)) X.1 X.2.1 dL_law_1286 (by decide) ?_
        refine lv_iadd X.1 X.2.1 dL_law_1287 ?_
        obtain ⟨t525, q526, hf⟩ := bnd hf
        refine y_sld X M hX hbl q526 dL_law_1288 ?_
        refine lv_aload_n X.1 X.2.1 dL_law_1289 rfl (lv_at hl 0 rfl) ?_
        refine lv_iload_n X.1 X.2.1 dL_law_1290 rfl (lv_at hl 3 rfl) ?_
        refine lv_iconst (v := (4 : Int32)) X.1 X.2.1 dL_law_1291 (by decide) ?_
        refine lv_iadd X.1 X.2.1 dL_law_1292 ?_
        obtain ⟨t527, q528, hf⟩ := bnd hf
        refine y_sld X M hX hbl q528 dL_law_1293 ?_
        refine lv_aload_n X.1 X.2.1 dL_law_1294 rfl (lv_at hl 0 rfl) ?_
        refine lv_iload_n X.1 X.2.1 dL_law_1295 rfl (lv_at hl 3 rfl) ?_
        refine lv_iconst (v := (5 : Int32)) X.1 X.2.1 dL_law_1296 (by decide) ?_
        refine lv_iadd X.1 X.2.1 dL_law_1297 ?_
        obtain ⟨t529, q530, hf⟩ := bnd hf
        refine y_sld X M hX hbl q530 dL_law_1298 ?_
        obtain ⟨⟨⟩, q531, hf⟩ := bnd hf
        obtain ⟨t534, h533, q532, hf⟩ := bnd2 hf
        refine y_callVi (As := [.int t521, .int t523, .int t525, .int t527, .int t529]) cf_L_152 (c_X9_shift l G N v1 t521 t523 t525 t527 t529 h _ _ q532) rfl ⟨rfl, rfl, Nat.le_of_ble_eq_true rfl, Nat.le_of_ble_eq_true rfl⟩ ⟨by show _ ≤ 600000; omega, by show _ ≤ 7302250; omega⟩ X M (y_recv cls_X9 X M q531) rfl rfl hl.1 (Nat.le_of_ble_eq_true rfl) dL_law_1299 (fun H locs M => ?_)
        refine lv_aload_n X.1 X.2.1 dL_law_1302 rfl (lv_at hl 2 rfl) ?_
        refine lv_aload_n X.1 X.2.1 dL_law_1303 rfl (lv_at hl 0 rfl) ?_
        refine lv_iload_n X.1 X.2.1 dL_law_1304 rfl (lv_at hl 3 rfl) ?_
        refine lv_iconst (v := (1 : Int32)) X.1 X.2.1 dL_law_1305 (by decide) ?_
        refine lv_iadd X.1 X.2.1 dL_law_1306 ?_
        obtain ⟨t535, q536, hf⟩ := bnd hf
        refine y_sld X M hX hbl q536 dL_law_1307 ?_
        refine lv_aload_n X.1 X.2.1 dL_law_1308 rfl (lv_at hl 0 rfl) ?_
        refine lv_iload_n X.1 X.2.1 dL_law_1309 rfl (lv_at hl 3 rfl) ?_
        refine lv_iconst (v := (2 : Int32)) X.1 X.2.1 dL_law_1310 (by decide) ?_
        refine lv_iadd X.1 X.2.1 dL_law_1311 ?_
        obtain ⟨t537, q538, hf⟩ := bnd hf
        refine y_sld X M hX hbl q538 dL_law_1312 ?_
        refine lv_aload_n X.1 X.2.1 dL_law_1313 rfl (lv_at hl 0 rfl) ?_
        refine lv_iload_n X.1 X.2.1 dL_law_1314 rfl (lv_at hl 3 rfl) ?_
        refine lv_iconst (v := (3 : Int32)) X.1 X.2.1 dL_law_1315 (by decide) ?_
        refine lv_iadd X.1 X.2.1 dL_law_1316 ?_
        obtain ⟨t539, q540, hf⟩ := bnd hf
        refine y_sld X M hX hbl q540 dL_law_1317 ?_
        refine lv_aload_n X.1 X.2.1 dL_law_1318 rfl (lv_at hl 0 rfl) ?_
        refine lv_iload_n X.1 X.2.1 dL_law_1319 rfl (lv_at hl 3 rfl) ?_
        refine lv_iconst (v := (4 : Int32)) X.1 X.2.1 dL_law_1320 (by decide) ?_
        refine lv_iadd X.1 X.2.1 dL_law_1321 ?_
        obtain ⟨t541, q542, hf⟩ := bnd hf
        refine y_sld X M hX hbl q542 dL_law_1322 ?_
        refine lv_aload_n X.1 X.2.1 dL_law_1323 rfl (lv_at hl 0 rfl) ?_
        refine lv_iload_n X.1 X.2.1 dL_law_1324 rfl (lv_at hl 3 rfl) ?_
        refine lv_iconst (v := (5 : Int32)) X.1 X.2.1 dL_law_1325 (by decide) ?_
        refine lv_iadd X.1 X.2.1 dL_law_1326 ?_
        obtain ⟨t543, q544, hf⟩ := bnd hf
        refine y_sld X M hX hbl q544 dL_law_1327 ?_
        obtain ⟨⟨⟩, q545, hf⟩ := bnd hf
        obtain ⟨t548, h547, q546, hf⟩ := bnd2 hf
        refine y_callVi (As := [.int t535, .int t537, .int t539, .int t541, .int t543]) cf_L_156 (c_X10_shift l G N v2 t535 t537 t539 t541 t543 h533 _ _ q546) rfl ⟨rfl, rfl, Nat.le_of_ble_eq_true rfl, Nat.le_of_ble_eq_true rfl⟩ ⟨by show _ ≤ 600000; omega, by show _ ≤ 7302250; omega⟩ X M (y_recv cls_X10 X M q545) rfl rfl hl.1 (Nat.le_of_ble_eq_true rfl) dL_law_1328 (fun H locs M => ?_)
        refine lv_icmp_eq (tgt := 1336) X.1 X.2.1 dL_law_1331 (by decide) (fun c549 => ?_) (fun c549 => ?_)
        · have hf := ifp c549 hf
          refine lv_iinc (v := (v3 + 6)) (lv' := [(3, .int (v3 + 6)), (0, .ref b), (1, .ref (gB G + v1)), (2, .ref (gB G + v2))]) X.1 X.2.1 dL_law_1336 hl (k := 3) rfl (by first | rfl | decide) (by decide) rfl (fun ls hl => ?_)
          refine lv_goto (tgt := 18) X.1 X.2.1 dL_law_1339 (by decide) ?_
          exact ih _ _ (by omega) (by omega) v1 v2 (v3 + 6) h547 hf _ _ _ M (lv_sub hl [1, 2, 3, 0] rfl)
        · have hf := ifn c549 hf
          refine lv_iconst (v := (0 : Int32)) X.1 X.2.1 dL_law_1334 (by decide) ?_
          cases hf
      have hf := ifn c520 hf
      have nc6 := lv_neT (a := 0) c6 rfl
      have nc20 := lv_neT (a := 1) c20 rfl
      have nc42 := lv_neT (a := 2) c42 rfl
      have nc64 := lv_neT (a := 3) c64 rfl
      have nc82 := lv_neT (a := 4) c82 rfl
      have nc100 := lv_neT (a := 5) c100 rfl
      have nc118 := lv_neT (a := 6) c118 rfl
      have nc128 := lv_neT (a := 7) c128 rfl
      have nc146 := lv_neT (a := 8) c146 rfl
      have nc164 := lv_neT (a := 9) c164 rfl
      have nc178 := lv_neT (a := 10) c178 rfl
      have nc192 := lv_neT (a := 11) c192 rfl
      have nc206 := lv_neT (a := 12) c206 rfl
      have nc224 := lv_neT (a := 13) c224 rfl
      have nc228 := lv_neT (a := 14) c228 rfl
      have nc232 := lv_neT (a := 15) c232 rfl
      have nc254 := lv_neT (a := 16) c254 rfl
      have nc276 := lv_neT (a := 17) c276 rfl
      have nc290 := lv_neT (a := 18) c290 rfl
      have nc300 := lv_neT (a := 19) c300 rfl
      have nc314 := lv_neT (a := 20) c314 rfl
      have nc318 := lv_neT (a := 21) c318 rfl
      have nc344 := lv_neT (a := 22) c344 rfl
      have nc350 := lv_neT (a := 23) c350 rfl
      have nc372 := lv_neT (a := 24) c372 rfl
      have nc386 := lv_neT (a := 25) c386 rfl
      have nc408 := lv_neT (a := 26) c408 rfl
      have nc422 := lv_neT (a := 27) c422 rfl
      have nc440 := lv_neT (a := 28) c440 rfl
      have nc454 := lv_neT (a := 29) c454 rfl
      have nc476 := lv_neT (a := 30) c476 rfl
      have nc502 := lv_neT (a := 31) c502 rfl
      have nc520 := lv_neT (a := 32) c520 rfl
      refine lv_tableOut (tgt := 1336) X.1 X.2.1 dL_law_33 (by omega) (by decide) ?_
      refine lv_iinc (v := (v3 + 6)) (lv' := [(3, .int (v3 + 6)), (0, .ref b), (1, .ref (gB G + v1)), (2, .ref (gB G + v2))]) X.1 X.2.1 dL_law_1336 hl (k := 3) rfl (by first | rfl | decide) (by decide) rfl (fun ls hl => ?_)
      refine lv_goto (tgt := 18) X.1 X.2.1 dL_law_1339 (by decide) ?_
      exact ih _ _ (by omega) (by omega) v1 v2 (v3 + 6) h hf _ _ _ M (lv_sub hl [1, 2, 3, 0] rfl)
def f_L_law (xs : Nat → Int32) (L : Nat) (N : Nat) (h : Mem) : Option Unit :=
  (f_X9_init N h.1.length (al h (9, 0))).bind fun h2 =>
  (f_X10_init N h2.1.length (al h2 (10, 0))).bind fun h4 =>
  f_L_law_18 xs L N 600 h.1.length h2.1.length (0 : Int32) h4
set_option maxRecDepth 100000 in
set_option maxHeartbeats 8000000 in
theorem w_L_law {p : Program} {l : Launch} {e : Env} {s : State} {m : MethodId} {below : List Frame} {meth : Method} {c : Code} {G : Gx} {b L : Nat} {xs : Nat → Int32} (X : CX G p s m #[Value.ref b] c code 4 RL) (hX : va_X b L xs s s.heap) (hbl : b < gB G ∧ gB G ≤ s.heap.size ∧ s.heap.size ≤ gB G ∧ b < s.heap.size) (hrl : meth.sig.returnType = ret) (hk : meth.locks = false) (N : Nat) (h : Mem) (hf : f_L_law xs L N h = some ()) (ls : Array Slot) (M : MS G s h s.heap [] 0) (hl : lv_has ls 4 [(0, .ref b)]) : W p l e room_1 s m #[Value.ref b] below meth c s.heap [] 0 0 (lw_Z below #[Value.ref b] s) (F0 m 0 ls []) := by
  rw [f_L_law] at hf
  refine x_new cls_X9 k_21 k_22 k_1 X M ⟨Nat.le_of_ble_eq_true rfl, Nat.le_of_ble_eq_true rfl⟩ dL_law_0 (fun H locs M => ?_)
  refine lv_dup X.1 X.2.1 dL_law_3 rfl ?_
  obtain ⟨h2, q1, hf⟩ := bnd hf
  refine x_callI (As := []) cf_L_9 (c_X9_init l G N h.1.length (al h (9, 0)) _ q1) rfl ⟨rfl, rfl, Nat.le_of_ble_eq_true rfl, Nat.le_of_ble_eq_true rfl⟩ ⟨Nat.le_of_ble_eq_true rfl, Nat.le_of_ble_eq_true rfl⟩ X M rfl rfl hl.1 (Nat.le_of_ble_eq_true rfl) dL_law_4 (fun H locs M => ?_)
  refine lv_astore_n (lv' := [(1, .ref (gB G + h.1.length)), (0, .ref b)]) X.1 X.2.1 dL_law_7 rfl hl (by decide) rfl (fun ls hl => ?_)
  refine x_new cls_X10 k_944 k_945 k_10 X M ⟨Nat.le_of_ble_eq_true rfl, Nat.le_of_ble_eq_true rfl⟩ dL_law_8 (fun H locs M => ?_)
  refine lv_dup X.1 X.2.1 dL_law_11 rfl ?_
  obtain ⟨h4, q3, hf⟩ := bnd hf
  refine x_callI (As := []) cf_L_12 (c_X10_init l G N h2.1.length (al h2 (10, 0)) _ q3) rfl ⟨rfl, rfl, Nat.le_of_ble_eq_true rfl, Nat.le_of_ble_eq_true rfl⟩ ⟨Nat.le_of_ble_eq_true rfl, Nat.le_of_ble_eq_true rfl⟩ X M rfl rfl hl.1 (Nat.le_of_ble_eq_true rfl) dL_law_12 (fun H locs M => ?_)
  refine lv_astore_n (lv' := [(2, .ref (gB G + h2.1.length)), (1, .ref (gB G + h.1.length)), (0, .ref b)]) X.1 X.2.1 dL_law_15 rfl hl (by decide) rfl (fun ls hl => ?_)
  refine lv_iconst (v := (0 : Int32)) X.1 X.2.1 dL_law_16 (by decide) ?_
  refine lv_istore_n (lv' := [(3, .int (0 : Int32)), (2, .ref (gB G + h2.1.length)), (1, .ref (gB G + h.1.length)), (0, .ref b)]) X.1 X.2.1 dL_law_17 rfl hl (by decide) rfl (fun ls hl => ?_)
  exact w_L_law_18 X hX hbl hrl hk N 600 _ _ (by decide) (by decide) h.1.length h2.1.length (0 : Int32) h4 hf _ _ _ ⟨M.1, M.2.1⟩ (lv_sub hl [3, 2, 1, 0] rfl)

