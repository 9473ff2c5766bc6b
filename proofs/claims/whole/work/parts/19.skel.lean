/-! THE CLAIM OUT OF ONE WALK OF THE LAW'S BODY. Your part is whole_start (and what it stands on); all else here is the same for every law, but numbers. -/
def R_law : String := "CrossroadsCartsLaw"
def lw_P (b : Addr) (xs : List Int32) (args : Array Value) (s : State) : Prop := args = #[.ref b] ∧ s.IntsAt b xs ∧ xs.length ≤ 3072 ∧ (Jvm.Cond.and given_1 narrow_1).before args s = true
def lw_Q (_ : Array Value) (s : State) (o : Outcome) (t : State) : Prop := o = .returned (some (.int 1)) ∧ Framed s o t [] 600000 7302250
def lw_Z (below : List Frame) (a : Array Value) (s : State) : State → Prop := fun t => ∃ o, t.status = .running ∧ Ended t below o ∧ lw_Q a s o t
/-- the law's own end, with 1 on the stack, nothing written that was there before, its room as the claim has it -/
theorem lw_ret {p : Program} {l : Launch} {e : Env} {s : State} {m : MethodId} {below : List Frame} {meth : Method} {c : Code} {b : Nat} (hx : p.tables.exec = Jvm.exec) (hb : c.code = code) (hr : meth.sig.returnType = ret) (hlocks : meth.locks = false) {pc : Nat} {H : Heap} {ls : Array Slot} (hdg : decode code pc = .ok (.ireturn, 1)) : W p l e room_1 s m #[Value.ref b] below meth c H [] 600000 7302250 (lw_Z below #[Value.ref b] s) (F0 m pc ls [.int 1]) := by
  intro T hT X
  obtain ⟨fs, hret, hrun, hended, hW, hframe⟩ := X.leave (v := some (.int 1)) (hlocks := hlocks) (fun h => by rw [hr] at h; cases h)
  have hmeth' : T.vm.method? m = some meth := X.method'
  refine ⟨T.setFrames fs, ?_, .returned (some (.int 1)), hrun, hended, rfl, ⟨_, rfl⟩, hW, hframe⟩
  jvm_step X.here [X.here.top, hx, hb, hdg, hmeth', hr, ret, narrow_b1]
  (try refine ⟨rfl, ?_⟩); (try refine ⟨rfl, ?_⟩)
  first | (intro acts; rw [hret _ acts rfl rfl rfl]) | rw [hret _ _ rfl rfl rfl]
  exact Steps.refl _
/-- what holds at the law's entry: the machine, the code, the tables' words (any of lw_tbl by 'hts w (by decide +kernel)'), the script of L ints xs at the cell b, what the Statement gives of the start (any of its parts by flat_of_before) -/
def lw_At (p : Program) (s : State) (m : MethodId) (meth : Method) (c : Code) (b L : Nat) (xs : Nat → Int32) : Prop :=
  p.tables.exec = Jvm.exec ∧ c.code = code ∧ meth.sig.returnType = ret ∧ c.maxLocals = 4 ∧ s.vm.findClass R_law = some m.cls ∧ (∀ w ∈ lw_tbl, w.before #[Value.ref b] s = true) ∧ va_X b L xs s s.heap ∧ b < s.heap.size ∧ meth.locks = false ∧ (Jvm.Cond.and given_1 narrow_1).before #[Value.ref b] s = true
def lX (xs : Nat → Int32) (L : Nat) (i : Int32) : Option Int32 := if i < 0 ∨ L ≤ i.toNatClampNeg then none else some (xs i.toNatClampNeg)
abbrev WS (G : Gx) (s : State) (h : Mem) (H : Heap) (locs : List Loc) : Prop := WP G h H ∧ va_S (gB G ≤ ·) s.heap H locs
section YR
variable {p : Program} {l : Launch} {e : Env} {R : Room} {s : State} {m : MethodId} {args : Array Value} {below : List Frame} {meth : Method} {c : Code} {H : Heap} {locs : List Loc} {cells slots : Nat} {Q : State → Prop}
variable {cc : ByteArray} {nL pc : Nat} {ls : Array Slot} {rest : List Value} {own : String} {G : Gx} {h h' : Mem}
theorem y_sld {b L : Nat} {xs : Nat → Int32} {i v : Int32} (X : CX G p s m args c cc nL own) (M : WS G s h H locs) (hX : va_X b L xs s s.heap) (hbl : b < gB G ∧ gB G ≤ s.heap.size ∧ s.heap.size ≤ gB G ∧ b < s.heap.size) (hv : lX xs L i = some v) (hdg : decode cc pc = .ok (.iaload, 1))
    (kk : W p l e R s m args below meth c H locs cells slots Q (F0 m (pc + 1) ls (.int v :: rest))) : W p l e R s m args below meth c H locs cells slots Q (F0 m pc ls (.int i :: .ref b :: rest)) := by
  unfold lX at hv
  split at hv
  · cases hv
  · rename_i hn
    cases hv
    exact va_sld X.1 X.2.1 hX hbl.2.2.2 (Nat.not_le.mpr hbl.1) M.2 hn hdg kk
theorem y_slen {b L : Nat} {xs : Nat → Int32} (X : CX G p s m args c cc nL own) (M : WS G s h H locs) (hX : va_X b L xs s s.heap) (hbl : b < gB G ∧ gB G ≤ s.heap.size ∧ s.heap.size ≤ gB G ∧ b < s.heap.size) (hdg : decode cc pc = .ok (.arraylength, 1))
    (kk : W p l e R s m args below meth c H locs cells slots Q (F0 m (pc + 1) ls (.int (nI L) :: rest))) : W p l e R s m args below meth c H locs cells slots Q (F0 m pc ls (.ref b :: rest)) := va_slen X.1 X.2.1 hX hbl.2.2.2 (Nat.not_le.mpr hbl.1) M.2 hdg kk
theorem y_recv {ci a N : Nat} {C0 : String} {T : u_T} (F : CLS ci C0 T N) (X : CX G p s m args c cc nL own) (M : WS G s h H locs) (hq : ck h a ci = some ()) : ∃ cell : Cell, H[gB G + a]? = some cell ∧ cell.vm.isStatics = false ∧ s.vm.findClass C0 = some cell.cls := by
  unfold ck at hq
  split at hq
  · rename_i h0
    exact va_recv (q := (C0, T, N)) X.2.2.2.2.2.1 M.1.1 F.1 (by rw [wsO_get h0, ce_obj F.2.2.2.2.2])
  · cases hq
theorem y_pre {av : List Value} (X : CX G p s m args c cc nL own) (M : WS G s h H locs) (U : State) (hU : U.heap = H) (hW : s.WarmedH U.vm) : va_Pc av (PreM G h) av.toArray U := ⟨rfl, by rw [hU]; exact M.1, X.2.2.2.2.2.moved M.2 hU hW⟩
variable {y : MethodName} {bytes : ByteArray} {maxL n idx mc ms b : Nat} {ret0 : Option FieldType} {rm : Room} {As st : List Value}
theorem y_callVi {r : Int32} {cw : Cond} (K : KV own idx y cw n) (hM : MetG l G y cw rm (.ref b :: As) h (QcI G r h') mc ms) (hcw : cw = .code y bytes maxL ret0) (hrm : fitsR rm R maxL mc ms) (hcap : cells + mc ≤ R.cells ∧ slots + ms ≤ R.slots) (X : CX G p s m args c cc nL own) (M : WS G s h H locs) (hrec : ∃ cell : Cell, H[b]? = some cell ∧ cell.vm.isStatics = false ∧ s.vm.findClass y.cls = some cell.cls) (hst : st = As.reverse ++ .ref b :: rest) (hn : As.length = n) (hsz : ls.size = nL) (hW : (rest.map fun v => v.category).sum ≤ 8) (hdg : decode cc pc = .ok (.invokevirtual idx, 3))
    (kk : ∀ (H : Heap) (locs : List Loc), WS G s h' H locs → W p l e R s m args below meth c H locs (cells + mc) (slots + ms) Q (F0 m (pc + 3) ls (.int r :: rest))) : W p l e R s m args below meth c H locs cells slots Q (F0 m pc ls st) := by
  refine va_calli (va_runV (As := As) (rest := rest) ⟨X.1, X.2.1, X.2.2.1, X.2.2.2.1, X.2.2.2.2.1⟩ hM (x_cwV hcw K X hrm) ⟨pre_blind, hrec, fun U hU hW => y_pre X M U hU hW⟩ rfl hn hsz hst (lv_room hW) hdg hcap) M.2 (fun q _ h => h) (fun q h => h) fun r0 u t H1 locs1 ht hvm hr hB hz hk hS => ?_
  subst hr
  rw [ht] at hB
  exact kk H1 locs1 ⟨hB, hS⟩
theorem y_callVl {r : Int64} {cw : Cond} (K : KV own idx y cw n) (hM : MetG l G y cw rm (.ref b :: As) h (QcL G r h') mc ms) (hcw : cw = .code y bytes maxL ret0) (hrm : fitsR rm R maxL mc ms) (hcap : cells + mc ≤ R.cells ∧ slots + ms ≤ R.slots) (X : CX G p s m args c cc nL own) (M : WS G s h H locs) (hrec : ∃ cell : Cell, H[b]? = some cell ∧ cell.vm.isStatics = false ∧ s.vm.findClass y.cls = some cell.cls) (hst : st = As.reverse ++ .ref b :: rest) (hn : As.length = n) (hsz : ls.size = nL) (hW : (rest.map fun v => v.category).sum ≤ 8) (hdg : decode cc pc = .ok (.invokevirtual idx, 3))
    (kk : ∀ (H : Heap) (locs : List Loc), WS G s h' H locs → W p l e R s m args below meth c H locs (cells + mc) (slots + ms) Q (F0 m (pc + 3) ls (.long r :: rest))) : W p l e R s m args below meth c H locs cells slots Q (F0 m pc ls st) := by
  refine va_calll (va_runV (As := As) (rest := rest) ⟨X.1, X.2.1, X.2.2.1, X.2.2.2.1, X.2.2.2.2.1⟩ hM (x_cwV hcw K X hrm) ⟨pre_blind, hrec, fun U hU hW => y_pre X M U hU hW⟩ rfl hn hsz hst (lv_room hW) hdg hcap) M.2 (fun q _ h => h) (fun q h => h) fun r0 u t H1 locs1 ht hvm hr hB hz hk hS => ?_
  subst hr
  rw [ht] at hB
  exact kk H1 locs1 ⟨hB, hS⟩
theorem y_ret {b1 : Nat} (X : CX G p s m #[Value.ref b1] c code 4 RL) (hr : meth.sig.returnType = ret) (hk : meth.locks = false) (M : WS G s h H locs) (hcap : cells ≤ 600000 ∧ slots ≤ 7302250) (hg : s.heap.size ≤ gB G) (hdg : decode code pc = .ok (.ireturn, 1)) : W p l e room_1 s m #[Value.ref b1] below meth c H locs cells slots (lw_Z below #[Value.ref b1] s) (F0 m pc ls [.int 1]) := by
  refine va_forget (fun q hq => Nat.le_trans hg (M.2.2.2 q hq)) ?_
  refine W.widen (k := 600000) (n := 7302250) hcap.1 hcap.2 ?_
  exact lw_ret X.1 X.2.1 hr hk hdg
end YR
