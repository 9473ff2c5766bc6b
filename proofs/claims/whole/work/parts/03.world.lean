/-! the words that hold in every method, the memory, the world of all cells since the start, one row an instruction -/
def TB : List Cond := lw_tbl.filter goodWord
theorem tb_lw {w : Cond} (h : w ∈ lw_tbl) (hg : goodWord w = true) : w ∈ TB := List.mem_filter.mpr ⟨h, hg⟩
theorem tb_sub : ∀ w ∈ TB, w ∈ lw_tbl := fun _ h => (List.mem_filter.mp h).1
theorem tb_good : ∀ w ∈ TB, goodWord w = true := fun _ h => (List.mem_filter.mp h).2
theorem lw_sel {q : MethodName × Nat} (h : q ∈ lw_privs) : Cond.selects q.1.cls q.1 q.1 ∈ lw_tbl := List.mem_append_left _ (List.mem_map.mpr ⟨q, h, rfl⟩)
theorem tabs_lw {w : Cond} (h : w ∈ tables_1) : w ∈ lw_tbl := List.mem_append_right _ h
theorem lw_t1 {w : Cond} {i : Nat} (hi : tables_1_1[i]? = some w) : w ∈ lw_tbl := tabs_lw (have h : w ∈ tables_1_1 := List.mem_of_getElem? hi; List.mem_append_left _ h)
theorem lw_t2 {w : Cond} {i : Nat} (hi : tables_1_2[i]? = some w) : w ∈ lw_tbl := tabs_lw (have h : w ∈ tables_1_2 := List.mem_of_getElem? hi; List.mem_append_right _ (List.mem_append_left _ h))
theorem lw_t3 {w : Cond} {i : Nat} (hi : tables_1_3[i]? = some w) : w ∈ lw_tbl := tabs_lw (have h : w ∈ tables_1_3 := List.mem_of_getElem? hi; List.mem_append_right _ (List.mem_append_right _ (List.mem_append_left _ h)))
theorem lw_t4 {w : Cond} {i : Nat} (hi : tables_1_4[i]? = some w) : w ∈ lw_tbl := tabs_lw (have h : w ∈ tables_1_4 := List.mem_of_getElem? hi; List.mem_append_right _ (List.mem_append_right _ (List.mem_append_right _ (List.mem_append_left _ h))))
theorem lw_t5 {w : Cond} {i : Nat} (hi : tables_1_5[i]? = some w) : w ∈ lw_tbl := tabs_lw (have h : w ∈ tables_1_5 := List.mem_of_getElem? hi; List.mem_append_right _ (List.mem_append_right _ (List.mem_append_right _ (List.mem_append_right _ (List.mem_append_left _ h)))))
theorem lw_t6 {w : Cond} {i : Nat} (hi : tables_1_6[i]? = some w) : w ∈ lw_tbl := tabs_lw (have h : w ∈ tables_1_6 := List.mem_of_getElem? hi; List.mem_append_right _ (List.mem_append_right _ (List.mem_append_right _ (List.mem_append_right _ (List.mem_append_right _ (List.mem_append_left _ h))))))
theorem lw_t7 {w : Cond} {i : Nat} (hi : tables_1_7[i]? = some w) : w ∈ lw_tbl := tabs_lw (have h : w ∈ tables_1_7 := List.mem_of_getElem? hi; List.mem_append_right _ (List.mem_append_right _ (List.mem_append_right _ (List.mem_append_right _ (List.mem_append_right _ (List.mem_append_right _ (h)))))))
theorem goodTB {big : List Cond} {c : Cond} (hb : ∀ w ∈ TB, w ∈ big) (hc : c ∈ TB) : GoodIn big (c :: TB) := by
  intro w hw
  rcases List.mem_cons.mp hw with rfl | hw
  · exact ⟨hb _ hc, good_of_word (tb_good _ hc)⟩
  · exact ⟨hb _ hw, good_of_word (tb_good _ hw)⟩
def nestM : List (String × Nat × MethodName × String) := [("CrossroadsCarts", 13, ⟨"CrossroadsCarts$Land", "<init>", "()V"⟩, "CrossroadsCarts"), ("CrossroadsCarts", 38, ⟨"CrossroadsCarts$Reader", "<init>", "()V"⟩, "CrossroadsCarts"), ("CrossroadsCarts", 45, ⟨"CrossroadsCarts$Rests", "<init>", "()V"⟩, "CrossroadsCarts"), ("CrossroadsCarts", 52, ⟨"CrossroadsCarts$Walk", "<init>", "()V"⟩, "CrossroadsCarts"), ("CrossroadsCarts", 59, ⟨"CrossroadsCarts$Deals", "<init>", "()V"⟩, "CrossroadsCarts"), ("CrossroadsCarts", 66, ⟨"CrossroadsCarts$Acts", "<init>", "()V"⟩, "CrossroadsCarts"), ("CrossroadsCarts", 83, ⟨"CrossroadsCarts$Tape", "<init>", "()V"⟩, "CrossroadsCarts")]
def nestF : List (String × Nat × String × String × String × String) := [("CrossroadsCarts$Rests", 21, "CrossroadsCarts", "ABOVE", "[I", "CrossroadsCarts"), ("CrossroadsCarts$Acts", 36, "CrossroadsCarts", "ABOVE", "[I", "CrossroadsCarts")]
def rfT : List (List Bool) := [[true, false, false, false, false], [true, false, false, true, true, true, true, true, true, true, true, true, true], [true, true], [true, true, true, false, false, false, true, false], [false, false, false, false], [true, false, false], [true, true, true], [true, false, false], [true], [true, true, true, true, true, true, true, true, true, true, true, false, false, false], [false, false, false, true, true, true, true, true, true, true, true, true, false, false, true, true, true, false, false, false, false, false, true, true, true, false, false, false, true, false, true, true, false, false, false, true, true, true, false, false, false, true, true, true, true, true, true, true, true, true, false, true, true, true, true, false, true, true, true, true, true]]
def isR (ci k : Nat) : Bool := (rfT.getD ci []).getD k false
def nF (ci : Nat) : Nat := (rfT.getD ci []).length
/-- the memory: the cells' shapes (kind of object, or 100 and on the kind of array with its length), ints, longs, references by cells' numbers -/
abbrev Mem : Type := List (Nat × Nat) × (Nat → Nat → Int32) × (Nat → Nat → Int64) × (Nat → Nat → Option Nat)
def u2 {α : Type} (f : Nat → Nat → α) (a k : Nat) (v : α) : Nat → Nat → α := fun i => if i = a then (fun j => if j = k then v else f a j) else f i
def z2 {α : Type} (f : Nat → Nat → α) (a : Nat) (g : Nat → α) : Nat → Nat → α := fun i => if i = a then g else f i
abbrev Gx : Type := Nat × va_G × (Nat → ClassId) × (Nat → Nat) × (Nat → Nat) × (Nat → Nat)
abbrev gB (G : Gx) : Nat := G.1
abbrev gD (G : Gx) : va_G := G.2.1
abbrev gA (G : Gx) : Nat → ClassId := G.2.2.1
abbrev gT (G : Gx) : Nat → Nat := G.2.2.2.1
abbrev gK (G : Gx) : Nat → Nat := G.2.2.2.2.1
abbrev gV (G : Gx) : Nat → Nat := G.2.2.2.2.2
def fv (G : Gx) (h : Mem) (i ci k : Nat) : Value := if isR ci k = true then va_rf ((h.2.2.2 i k).map (gB G + ·)) else .int (h.2.1 i k)
def ce (G : Gx) (h : Mem) (i : Nat) (q : Nat × Nat) : va_E :=
  if q.1 < 100 then .inr (q.1, (List.range (nF q.1)).map (fv G h i q.1))
  else .inl (gA G (q.1 - 100), q.2, if q.1 < 103 then .inl (h.2.1 i) else if q.1 = 103 then .inr (.inl (h.2.2.1 i)) else .inr (.inr (.inr (.inr (fun j => (h.2.2.2 i j).map (gB G + ·))))))
def wsO (G : Gx) (h : Mem) : va_W := (List.range h.1.length).map (fun i => (gB G + i, ce G h i (h.1.getD i (0, 0))))
theorem wsO_get {G : Gx} {h : Mem} {i : Nat} {q : Nat × Nat} (hq : h.1[i]? = some q) : (wsO G h)[i]? = some (gB G + i, ce G h i q) := by
  have hl : i < h.1.length := (List.getElem?_eq_some_iff.mp hq).1
  unfold wsO
  rw [List.getElem?_map, List.getElem?_range hl]
  simp [List.getD_eq_getElem?_getD, hq]
theorem wsO_inv {G : Gx} {h : Mem} {i : Nat} {x : Nat × va_E} (hx : (wsO G h)[i]? = some x) : ∃ q, h.1[i]? = some q ∧ x = (gB G + i, ce G h i q) := by
  have hl : i < h.1.length := by
    have := (List.getElem?_eq_some_iff.mp hx).1
    simpa [wsO] using this
  refine ⟨h.1[i], List.getElem?_eq_getElem hl, ?_⟩
  rw [wsO_get (List.getElem?_eq_getElem hl)] at hx
  exact (Option.some.inj hx).symm
theorem wsO_len {G : Gx} {h : Mem} : (wsO G h).length = h.1.length := by simp [wsO]
theorem wsO_set {G : Gx} {h h' : Mem} {a : Nat} {q : Nat × Nat} (h1 : h'.1 = h.1) (hq : h.1[a]? = some q) (ho : ∀ i q, i ≠ a → ce G h' i q = ce G h i q) : wsO G h' = (wsO G h).set a (gB G + a, ce G h' a q) := by
  have hl : a < h.1.length := (List.getElem?_eq_some_iff.mp hq).1
  apply List.ext_getElem?
  intro i
  by_cases hi : i = a
  · subst hi
    rw [List.getElem?_set_self (by rw [wsO_len]; exact hl), wsO_get (by rw [h1]; exact hq)]
  · rw [List.getElem?_set_ne (Ne.symm hi)]
    by_cases hil : i < h.1.length
    · rw [wsO_get (h := h') (q := h.1[i]) (by rw [h1]; exact List.getElem?_eq_getElem hil), wsO_get (List.getElem?_eq_getElem hil), ho i _ hi]
    · rw [List.getElem?_eq_none (by rw [wsO_len, h1]; omega), List.getElem?_eq_none (by rw [wsO_len]; omega)]
theorem wsO_push {G : Gx} {h h' : Mem} {q : Nat × Nat} (h1 : h'.1 = h.1 ++ [q]) (ho : ∀ i q, i < h.1.length → ce G h' i q = ce G h i q) : wsO G h' = wsO G h ++ [(gB G + h.1.length, ce G h' h.1.length q)] := by
  apply List.ext_getElem?
  intro i
  by_cases hil : i < h.1.length
  · rw [List.getElem?_append_left (by rw [wsO_len]; exact hil), wsO_get (List.getElem?_eq_getElem hil), wsO_get (h := h') (q := h.1[i]) (by rw [h1, List.getElem?_append_left hil]; exact List.getElem?_eq_getElem hil), ho i _ hil]
  · by_cases he : i = h.1.length
    · subst he
      rw [List.getElem?_append_right (by rw [wsO_len]; exact Nat.le_refl _), wsO_len, Nat.sub_self, wsO_get (h := h') (q := q) (by rw [h1, List.getElem?_append_right (Nat.le_refl _), Nat.sub_self]; rfl)]
      rfl
    · rw [List.getElem?_eq_none (by rw [wsO_len, h1, List.length_append]; simp only [List.length_cons, List.length_nil]; omega), List.getElem?_eq_none (by rw [List.length_append, wsO_len]; simp only [List.length_cons, List.length_nil]; omega)]
theorem wsO_D {G : Gx} {h : Mem} : va_D (gB G ≤ ·) (wsO G h) := by
  refine ⟨fun i j p q hi hj e => ?_, fun k q hk => ?_⟩
  · obtain ⟨_, -, rfl⟩ := wsO_inv hi
    obtain ⟨_, -, rfl⟩ := wsO_inv hj
    exact Nat.add_left_cancel e
  · obtain ⟨_, -, rfl⟩ := wsO_inv hk
    exact Nat.le_add_right _ _
def tysO (G : Gx) : List (ClassId × FieldType) := [(gA G 0, .int), (gA G 1, .char), (gA G 2, .boolean), (gA G 3, .long), (gA G 4, .object "CrossroadsCarts$Law"), (gA G 5, .object "CrossroadsCarts$Tape")]
def xT : Nat → Nat → Int32
  | 0 => fun j => [-1, 0, 1, 1, 2, 1].getD j 0
  | _ => fun j => [10, 11, 12, 0, 20, 0, 30, 0, 31, 40, 0, 0, 0, 51, 50, 0, 60, 61].getD j 0
def nT : Nat → Nat
  | 0 => 6
  | _ => 18
def stx : List (Nat × String) := [(84, "likenearcostmileduespickshun"), (63, "hie"), (72, "mdo"), (108, "sitf"), (110, "<=>")]
def bytS : List (List Int32) := [[108, 105, 107, 101, 110, 101, 97, 114, 99, 111, 115, 116, 109, 105, 108, 101, 100, 117, 101, 115, 112, 105, 99, 107, 115, 104, 117, 110], [104, 105, 101], [109, 100, 111], [115, 105, 116, 102], [60, 61, 62]]
def lenS : List Nat := [28, 3, 3, 4, 3]
/-- what no method of ours changes -/
def EX (G : Gx) (U : State) : Prop :=
  va_K (gD G) vwCl (tysO G) U ∧ gB G ≤ U.heap.size ∧
  va_Z "CrossroadsCarts" "ABOVE" "[I" (.ref (gT G 0)) (gB G ≤ ·) U U.heap ∧ va_T .int (gT G 0) 6 (fun j => .int (xT 0 j)) (gB G ≤ ·) U U.heap ∧
  va_Z "CrossroadsCarts$Acts" "BODIES" "[I" (.ref (gT G 1)) (gB G ≤ ·) U U.heap ∧ va_T .int (gT G 1) 18 (fun j => .int (xT 1 j)) (gB G ≤ ·) U U.heap ∧
  va_Z "java/lang/String" "COMPACT_STRINGS" "Z" (.int 1) (gB G ≤ ·) U U.heap ∧ va_Zq "jdk/internal/util/Preconditions" "SIOOBE_FORMATTER" "Ljava/util/function/BiFunction;" (gB G ≤ ·) U U.heap ∧
  vk_S 5 lenS bytS (gK G) (gV G) (gB G ≤ ·) U U.heap ∧ (∀ i q, stx[i]? = some q → vk_R "CrossroadsCarts$Reader" q.1 q.2 (gK G i) U) ∧
  va_AO "CrossroadsCarts$Law" U ∧ va_AO "CrossroadsCarts$Tape" U ∧
  (∀ q ∈ nestM, va_Nw (.methodLinkNest q.1 q.2.1 q.2.2.1 q.2.2.2) U) ∧ (∀ q ∈ nestF, va_Nw (.fieldLinkNest q.1 q.2.1 q.2.2.1 q.2.2.2.1 q.2.2.2.2.1 q.2.2.2.2.2) U)
theorem EX.moved {G : Gx} {s U : State} {H : Heap} {locs : List Loc} (h : EX G s) (hS : va_S (gB G ≤ ·) s.heap H locs) (hU : U.heap = H) (hW : s.WarmedH U.vm) : EX G U := by
  obtain ⟨h1, h2, h3, h4, h5, h6, h7, h8, h9, h10, h11, h12, h13, h14⟩ := h
  subst hU
  have hA := hW.alike
  exact ⟨va_K.moved hA h1, Nat.le_trans h2 hS.1, (h3.moved hA).kept hS.2.1, (h4.moved hA).kept hS.2.1, (h5.moved hA).kept hS.2.1, (h6.moved hA).kept hS.2.1, (h7.moved hA).kept hS.2.1, (h8.moved hA).kept hS.2.1, (h9.moved hA).kept hS.2.1, fun i q hq => vk_R.warm hW (h10 i q hq), h11.moved hA, h12.moved hA, fun q hq => va_Nw.warmM hW (h13 q hq), fun q hq => va_Nw.warmF hW (h14 q hq)⟩
theorem EX.calling {G : Gx} {U : State} (g : JFrame) (mk : MethodId) (a : Array Value) (h : EX G U) : EX G (U.calling g mk a) := by
  obtain ⟨h1, h2, h3, h4, h5, h6, h7, h8, h9, h10, h11, h12, h13, h14⟩ := h
  have hA : U.vm.Alike (U.calling g mk a).vm := Vm.Alike.refl U.vm
  exact ⟨va_K.moved hA h1, h2, h3.moved hA, h4.moved hA, h5.moved hA, h6.moved hA, h7.moved hA, h8.moved hA, h9.moved hA, fun i q hq => vk_R.same (u := U) rfl (h10 i q hq), h11.moved hA, h12.moved hA, fun q hq => va_Nw.same (u := U) rfl rfl (h13 q hq), fun q hq => va_Nw.same (u := U) rfl rfl (h14 q hq)⟩
def WP (G : Gx) (h : Mem) (H : Heap) : Prop := va_P (gD G) vwCl (wsO G h) H ∧ H.size = gB G + h.1.length
abbrev MS (G : Gx) (s : State) (h : Mem) (H : Heap) (locs : List Loc) (cells : Nat) : Prop := WP G h H ∧ va_S (gB G ≤ ·) s.heap H locs ∧ s.heap.size + cells = gB G + h.1.length
abbrev CX (G : Gx) (p : Program) (s : State) (m : MethodId) (args : Array Value) (c : Code) (cc : ByteArray) (nL : Nat) (own : String) : Prop := p.tables.exec = Jvm.exec ∧ c.code = cc ∧ c.maxLocals = nL ∧ s.vm.findClass own = some m.cls ∧ (∀ w ∈ TB, w.before args s = true) ∧ EX G s
def PreM (G : Gx) (h : Mem) : State → Prop := fun U => WP G h U.heap ∧ EX G U
abbrev QcI (G : Gx) (r : Int32) (h' : Mem) : Array Value → State → Outcome → State → Prop := va_Qi (fun (r0 : Int32) (_ : Unit) => r0 = r) (fun _ t => WP G h' t.heap) (gB G ≤ ·)
abbrev QcL (G : Gx) (r : Int64) (h' : Mem) : Array Value → State → Outcome → State → Prop := va_Ql (fun (r0 : Int64) (_ : Unit) => r0 = r) (fun _ t => WP G h' t.heap) (gB G ≤ ·)
abbrev QcV (G : Gx) (h' : Mem) (L : Nat) : Array Value → State → Outcome → State → Prop := va_Qv (fun (_ : Unit) => h'.1.length = L) (fun _ t => WP G h' t.heap) (gB G ≤ ·)
abbrev MetG (l : Launch) (G : Gx) (y : MethodName) (cw : Cond) (rm : Room) (av : List Value) (h : Mem) (Qc : Array Value → State → Outcome → State → Prop) (mc ms : Nat) : Prop := Met l y (cw :: TB) rm (va_Pc av (PreM G h)) Qc mc ms (gB G ≤ ·)
-- the functions' own words
def gI (h : Mem) (a ci k : Nat) : Option Int32 := if h.1[a]? = some (ci, 0) then some (h.2.1 a k) else none
def gR (h : Mem) (a ci k : Nat) : Option Nat := if h.1[a]? = some (ci, 0) then h.2.2.2 a k else none
def sI (h : Mem) (a ci k : Nat) (v : Int32) : Option Mem := if h.1[a]? = some (ci, 0) then some (h.1, u2 h.2.1 a k v, h.2.2.1, h.2.2.2) else none
def sZ (h : Mem) (a ci k : Nat) (v : Int32) : Option Mem := if v = 0 ∨ v = 1 then sI h a ci k v else none
def sR (h : Mem) (a ci k : Nat) (v : Nat) : Option Mem := if h.1[a]? = some (ci, 0) then some (h.1, h.2.1, h.2.2.1, u2 h.2.2.2 a k (some v)) else none
def ck (h : Mem) (a ci : Nat) : Option Unit := if h.1[a]? = some (ci, 0) then some () else none
def aN (h : Mem) (t a : Nat) : Option Nat := match h.1[a]? with
  | some q => if q.1 = t then some q.2 else none
  | none => none
def oob (n : Nat) (i : Int32) : Prop := i < 0 ∨ n ≤ i.toNatClampNeg
def lI (t : Nat) (h : Mem) (a : Nat) (i : Int32) : Option Int32 := (aN h t a).bind fun n => if i < 0 ∨ n ≤ i.toNatClampNeg then none else some (h.2.1 a i.toNatClampNeg)
def lJ (h : Mem) (a : Nat) (i : Int32) : Option Int64 := (aN h 103 a).bind fun n => if i < 0 ∨ n ≤ i.toNatClampNeg then none else some (h.2.2.1 a i.toNatClampNeg)
def lQ (t : Nat) (h : Mem) (a : Nat) (i : Int32) : Option Nat := (aN h t a).bind fun n => if i < 0 ∨ n ≤ i.toNatClampNeg then none else h.2.2.2 a i.toNatClampNeg
def stI (t : Nat) (h : Mem) (a : Nat) (i v : Int32) : Option Mem := (aN h t a).bind fun n => if i < 0 ∨ n ≤ i.toNatClampNeg then none else some (h.1, u2 h.2.1 a i.toNatClampNeg v, h.2.2.1, h.2.2.2)
def stJ (h : Mem) (a : Nat) (i : Int32) (v : Int64) : Option Mem := (aN h 103 a).bind fun n => if i < 0 ∨ n ≤ i.toNatClampNeg then none else some (h.1, h.2.1, u2 h.2.2.1 a i.toNatClampNeg v, h.2.2.2)
def stQ (t ci : Nat) (h : Mem) (a : Nat) (i : Int32) (v : Nat) : Option Mem := (aN h t a).bind fun n => if i < 0 ∨ n ≤ i.toNatClampNeg then none else if h.1[v]? = some (ci, 0) then some (h.1, h.2.1, h.2.2.1, u2 h.2.2.2 a i.toNatClampNeg (some v)) else none
def lT (k : Nat) (i : Int32) : Option Int32 := if i < 0 ∨ nT k ≤ i.toNatClampNeg then none else some (xT k i.toNatClampNeg)
def alen (t : Nat) (h : Mem) (a : Nat) : Option Int32 := (aN h t a).bind fun n => some (Int32.ofNat n)
def al (h : Mem) (q : Nat × Nat) : Mem := (h.1 ++ [q], z2 h.2.1 h.1.length (fun _ => 0), z2 h.2.2.1 h.1.length (fun _ => 0), z2 h.2.2.2 h.1.length (fun _ => none))
def cpI (t : Nat) (h : Mem) (a : Nat) (sp : Int32) (b : Nat) (dp n : Int32) : Option Mem := (aN h t a).bind fun n0 => (aN h t b).bind fun n1 =>
  if sp < 0 ∨ dp < 0 ∨ n < 0 ∨ n0 < sp.toNatClampNeg + n.toNatClampNeg ∨ n1 < dp.toNatClampNeg + n.toNatClampNeg then none
  else some (h.1, z2 h.2.1 b (va_cpy (h.2.1 a) (h.2.1 b) sp.toNatClampNeg dp.toNatClampNeg n.toNatClampNeg), h.2.2.1, h.2.2.2)
def cpJ (h : Mem) (a : Nat) (sp : Int32) (b : Nat) (dp n : Int32) : Option Mem := (aN h 103 a).bind fun n0 => (aN h 103 b).bind fun n1 =>
  if sp < 0 ∨ dp < 0 ∨ n < 0 ∨ n0 < sp.toNatClampNeg + n.toNatClampNeg ∨ n1 < dp.toNatClampNeg + n.toNatClampNeg then none
  else some (h.1, h.2.1, z2 h.2.2.1 b (va_cpy (h.2.2.1 a) (h.2.2.1 b) sp.toNatClampNeg dp.toNatClampNeg n.toNatClampNeg), h.2.2.2)
def sV (i : Nat) : Option Nat := if i < 5 then some i else none
def lB (i : Nat) (j : Int32) : Option Int32 := if i < 5 ∧ ¬ (j < 0 ∨ lenS.getD i 0 ≤ j.toNatClampNeg) then some ((bytS.getD i []).getD j.toNatClampNeg 0) else none
def bN (i : Nat) : Option Int32 := if i < 5 then some (Int32.ofNat (lenS.getD i 0)) else none
def rz {α : Type} (r : Int32) (h : α) : Option (Int32 × α) := if r = 0 ∨ r = 1 then some (r, h) else none
def rc {α : Type} (r : Int32) (h : α) : Option (Int32 × α) := if vp_nar .char r = r then some (r, h) else none
def rb {α : Type} (r : Int32) (h : α) : Option (Int32 × α) := if vp_nar .byte r = r then some (r, h) else none
theorem bnd {α β : Type} {x : Option α} {f : α → Option β} {r : β} (h : x.bind f = some r) : ∃ v, x = some v ∧ f v = some r := by
  cases x with
  | none => simp at h
  | some v => exact ⟨v, rfl, h⟩
theorem ifp {c : Prop} [Decidable c] {α : Type} {a b : α} {r : α} (h : c) (hf : ite c a b = r) : a = r := by rw [if_pos h] at hf; exact hf
theorem ifn {c : Prop} [Decidable c] {α : Type} {a b : α} {r : α} (h : ¬ c) (hf : ite c a b = r) : b = r := by rw [if_neg h] at hf; exact hf
def CLS (ci : Nat) (C : String) (T : u_T) (N : Nat) : Prop := vwCl[ci]? = some (C, T, N) ∧ (∀ w ∈ u_ws C T N, w ∈ TB) ∧ (∃ ty0 : Nat → FieldType, ∀ k, k < N → parseFieldDescriptor (T k).2.2.1 = some (ty0 k) ∧ (if isR ci k = true then defaultValue (ty0 k) = .null else defaultValue (ty0 k) = .int 0)) ∧ (∀ a, a < N → ∀ b, b < N → a ≠ b → (T a).2.1 ≠ (T b).2.1) ∧ nF ci = N ∧ ci < 100
def FLK (own : String) (idx ci k : Nat) (r : Bool) (C : String) (T : u_T) (N : Nat) : Prop := CLS ci C T N ∧ k < N ∧ Cond.fieldLink own idx (T k).1 (T k).2.1 (T k).2.2.1 ∈ TB ∧ isR ci k = r

