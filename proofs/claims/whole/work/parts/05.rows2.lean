section XR2
variable {p : Program} {l : Launch} {e : Env} {R : Room} {s : State} {m : MethodId} {args : Array Value} {below : List Frame} {meth : Method} {c : Code} {H : Heap} {locs : List Loc} {cells slots : Nat} {Q : State → Prop}
variable {cc : ByteArray} {nL pc : Nat} {ls : Array Slot} {rest : List Value} {own : String} {G : Gx} {h h' : Mem}
theorem x_q {q : Nat} {en : va_E} (M : MS G s h H locs cells) {H1 : Heap} (hP : va_P (gD G) vwCl (wsO G h ++ [(q, en)]) H1) (hD : va_D (gB G ≤ ·) (wsO G h ++ [(q, en)])) (hz : H1.size ≤ s.heap.size + (cells + 1)) : q = gB G + h.1.length := by
  have h0 : (wsO G h ++ [(q, en)])[h.1.length]? = some (q, en) := by rw [List.getElem?_append_right (by rw [wsO_len]; exact Nat.le_refl _), wsO_len, Nat.sub_self]; rfl
  have h1 : q < H1.size := (hP _ _ h0).lt
  have h2 : gB G ≤ q := hD.2 _ _ h0
  have h3 := M.2.2
  by_cases hq : q < gB G + h.1.length
  · have hi : q - gB G < h.1.length := by omega
    have h4 : (wsO G h ++ [(q, en)])[q - gB G]? = some (gB G + (q - gB G), ce G h (q - gB G) h.1[q - gB G]) := by rw [List.getElem?_append_left (by rw [wsO_len]; exact hi), wsO_get (List.getElem?_eq_getElem hi)]
    have h5 := hD.1 _ _ _ _ h4 h0 (by dsimp only; omega)
    omega
  · omega
theorem x_new {idx ci N : Nat} {C0 : String} {T : u_T} (F : CLS ci C0 T N) (hcl : Cond.classLink own idx C0 ∈ TB) (hins : Cond.instantiable C0 N ∈ TB) (hini : Cond.initialized C0 ∈ TB) (X : CX G p s m args c cc nL own) (M : MS G s h H locs cells) (hcap : cells + 1 ≤ R.cells ∧ slots + N ≤ R.slots) (hdg : decode cc pc = .ok (.new idx, 3))
    (kk : ∀ (H : Heap) (locs : List Loc), MS G s (al h (ci, 0)) H locs (cells + 1) → W p l e R s m args below meth c H locs (cells + 1) (slots + N) Q (F0 m (pc + 3) ls (.ref (gB G + h.1.length) :: rest))) : W p l e R s m args below meth c H locs cells slots Q (F0 m pc ls rest) := by
  obtain ⟨hc, hin, ⟨ty0, hty⟩, hnm, hN, hci⟩ := F
  obtain ⟨hx, hb, hml, hown, hts, hE⟩ := X
  refine va_new (ci := ci) (fs := (List.range (nF ci)).map (fv G (al h (ci, 0)) h.1.length ci)) hx hb hts hin ty0 (fun k hk => (hty k hk).1) hown (hts _ hcl) (hts _ hins) (hts _ hini) hE.1 M.1.1 wsO_D M.2.1 (fun q hq => Nat.le_trans hE.2.1 hq) hc ?_ hcap.1 hcap.2 hdg fun q H1 hP hD hS => x_sz fun hz => ?_
  · intro j hj
    have h1 := (hty j hj).2
    have h2 : vp_V ((List.range (nF ci)).map (fv G (al h (ci, 0)) h.1.length ci)) j = fv G (al h (ci, 0)) h.1.length ci j := by
      unfold vp_V
      rw [List.getD_eq_getElem?_getD, fs_get (by omega)]
      rfl
    rw [h2]
    unfold fv
    by_cases hr : isR ci j = true
    · rw [if_pos hr] at h1 ⊢
      rw [h1]
      simp [al, z2_eq, va_rf]
    · rw [if_neg hr] at h1 ⊢
      rw [h1]
      simp [al, z2_eq]
  · have hq := x_q M hP hD hz
    subst hq
    have e : wsO G (al h (ci, 0)) = wsO G h ++ [(gB G + h.1.length, .inr (ci, (List.range (nF ci)).map (fv G (al h (ci, 0)) h.1.length ci)))] := by
      rw [wsO_push (h := h) (q := (ci, 0)) rfl (fun i x hi => al_same i x hi), ce_obj hci]
    rw [← e] at hP
    exact kk H1 locs (ms_al M hE hP hS hz)
theorem x_newA {atype : ArrayType} {ty : FieldType} {n : Int32} {N t : Nat} {a0 : vp_A} (hty : newarray.typeOf atype = ty) (harr : Cond.arrayClass (newarray.typeOf atype) ∈ TB) (hra : ∀ (U : State) (cA : ClassId), va_RA U cA ty = (U.vm.findClass ("[" ++ ty.toString) = some cA)) (htt : ∀ G : Gx, (tysO G)[t - 100]? = some (gA G (t - 100), ty)) (hce : ∀ (G : Gx) (h : Mem), ce G (al h (t, N)) h.1.length (t, N) = .inl (gA G (t - 100), a0))
    (ha : ∀ cA : ClassId, vp_cell cA a0 = arrV cA N (fun _ => defaultValue ty)) (hn : ¬ n < 0) (hN : n.toNatClampNeg = N) (hbytes : N * componentBytes ty ≤ 536870912) (X : CX G p s m args c cc nL own) (M : MS G s h H locs cells) (hcap : cells + 1 ≤ R.cells ∧ slots + N ≤ R.slots) (hdg : decode cc pc = .ok (.newarray atype, 2))
    (kk : ∀ (H : Heap) (locs : List Loc), MS G s (al h (t, N)) H locs (cells + 1) → W p l e R s m args below meth c H locs (cells + 1) (slots + N) Q (F0 m (pc + 2) ls (.ref (gB G + h.1.length) :: rest))) : W p l e R s m args below meth c H locs cells slots Q (F0 m pc ls (.int n :: rest)) := by
  obtain ⟨hx, hb, hml, hown, hts, hE⟩ := X
  refine va_newa hx hb (hts _ harr) hty hE.1 M.1.1 wsO_D M.2.1 (fun q hq => Nat.le_trans hE.2.1 hq) ha hn hN hbytes hcap.1 hcap.2 hdg fun q cA H1 hK hP hD hS => x_sz fun hz => ?_
  have hq := x_q M hP hD hz
  subst hq
  have h1 : va_RA s cA ty := (hK.2 _ _ (by rw [List.getElem?_append_right (Nat.le_refl _), Nat.sub_self]; rfl)).2
  have h2 : va_RA s (gA G (t - 100)) ty := (hE.1.2 _ _ (htt G)).2
  rw [hra] at h1 h2
  cases h1.symm.trans h2
  have e : wsO G (al h (t, N)) = wsO G h ++ [(gB G + h.1.length, .inl (gA G (t - 100), a0))] := by
    rw [wsO_push (h := h) (q := (t, N)) rfl (fun i x hi => al_same i x hi), hce]
  rw [← e] at hP
  exact kk H1 locs (ms_al M hE hP hS hz)
theorem x_newI {n : Int32} {N : Nat} (harr : Cond.arrayClass .int ∈ TB) (hn : ¬ n < 0) (hN : n.toNatClampNeg = N) (hbytes : N * componentBytes .int ≤ 536870912) (X : CX G p s m args c cc nL own) (M : MS G s h H locs cells) (hcap : cells + 1 ≤ R.cells ∧ slots + N ≤ R.slots) (hdg : decode cc pc = .ok (.newarray .int, 2))
    (kk : ∀ (H : Heap) (locs : List Loc), MS G s (al h (100, N)) H locs (cells + 1) → W p l e R s m args below meth c H locs (cells + 1) (slots + N) Q (F0 m (pc + 2) ls (.ref (gB G + h.1.length) :: rest))) : W p l e R s m args below meth c H locs cells slots Q (F0 m pc ls (.int n :: rest)) :=
  x_newA (atype := .int) (ty := .int) (a0 := (N, .inl (fun _ => 0))) rfl harr (fun _ _ => rfl) (fun _ => rfl) (fun G h => by rw [ce_int (by decide) (by decide)]; simp [al, z2_eq]) (fun _ => rfl) hn hN hbytes X M hcap hdg kk
theorem x_newC {n : Int32} {N : Nat} (harr : Cond.arrayClass .char ∈ TB) (hn : ¬ n < 0) (hN : n.toNatClampNeg = N) (hbytes : N * componentBytes .char ≤ 536870912) (X : CX G p s m args c cc nL own) (M : MS G s h H locs cells) (hcap : cells + 1 ≤ R.cells ∧ slots + N ≤ R.slots) (hdg : decode cc pc = .ok (.newarray .char, 2))
    (kk : ∀ (H : Heap) (locs : List Loc), MS G s (al h (101, N)) H locs (cells + 1) → W p l e R s m args below meth c H locs (cells + 1) (slots + N) Q (F0 m (pc + 2) ls (.ref (gB G + h.1.length) :: rest))) : W p l e R s m args below meth c H locs cells slots Q (F0 m pc ls (.int n :: rest)) :=
  x_newA (atype := .char) (ty := .char) (a0 := (N, .inl (fun _ => 0))) rfl harr (fun _ _ => rfl) (fun _ => rfl) (fun G h => by rw [ce_int (by decide) (by decide)]; simp [al, z2_eq]) (fun _ => rfl) hn hN hbytes X M hcap hdg kk
theorem x_newZ {n : Int32} {N : Nat} (harr : Cond.arrayClass .boolean ∈ TB) (hn : ¬ n < 0) (hN : n.toNatClampNeg = N) (hbytes : N * componentBytes .boolean ≤ 536870912) (X : CX G p s m args c cc nL own) (M : MS G s h H locs cells) (hcap : cells + 1 ≤ R.cells ∧ slots + N ≤ R.slots) (hdg : decode cc pc = .ok (.newarray .boolean, 2))
    (kk : ∀ (H : Heap) (locs : List Loc), MS G s (al h (102, N)) H locs (cells + 1) → W p l e R s m args below meth c H locs (cells + 1) (slots + N) Q (F0 m (pc + 2) ls (.ref (gB G + h.1.length) :: rest))) : W p l e R s m args below meth c H locs cells slots Q (F0 m pc ls (.int n :: rest)) :=
  x_newA (atype := .boolean) (ty := .boolean) (a0 := (N, .inl (fun _ => 0))) rfl harr (fun _ _ => rfl) (fun _ => rfl) (fun G h => by rw [ce_int (by decide) (by decide)]; simp [al, z2_eq]) (fun _ => rfl) hn hN hbytes X M hcap hdg kk
theorem x_newJ {n : Int32} {N : Nat} (harr : Cond.arrayClass .long ∈ TB) (hn : ¬ n < 0) (hN : n.toNatClampNeg = N) (hbytes : N * componentBytes .long ≤ 536870912) (X : CX G p s m args c cc nL own) (M : MS G s h H locs cells) (hcap : cells + 1 ≤ R.cells ∧ slots + N ≤ R.slots) (hdg : decode cc pc = .ok (.newarray .long, 2))
    (kk : ∀ (H : Heap) (locs : List Loc), MS G s (al h (103, N)) H locs (cells + 1) → W p l e R s m args below meth c H locs (cells + 1) (slots + N) Q (F0 m (pc + 2) ls (.ref (gB G + h.1.length) :: rest))) : W p l e R s m args below meth c H locs cells slots Q (F0 m pc ls (.int n :: rest)) :=
  x_newA (atype := .long) (ty := .long) (a0 := (N, .inr (.inl (fun _ => 0)))) rfl harr (fun _ _ => rfl) (fun _ => rfl) (fun G h => by rw [ce_long]; simp [al, z2_eq]) (fun _ => rfl) hn hN hbytes X M hcap hdg kk
theorem x_newQ {idx t N : Nat} {C0 : String} {n : Int32} (ht : 104 ≤ t) (htt : ∀ G : Gx, (tysO G)[t - 100]? = some (gA G (t - 100), .object C0)) (hcl : Cond.classLink own idx C0 ∈ TB) (hao : EX G s → va_AO C0 s) (hn : ¬ n < 0) (hN : n.toNatClampNeg = N) (hbytes : N * 4 ≤ 536870912) (X : CX G p s m args c cc nL own) (M : MS G s h H locs cells) (hcap : cells + 1 ≤ R.cells ∧ slots + N ≤ R.slots) (hdg : decode cc pc = .ok (.anewarray idx, 3))
    (kk : ∀ (H : Heap) (locs : List Loc), MS G s (al h (t, N)) H locs (cells + 1) → W p l e R s m args below meth c H locs (cells + 1) (slots + N) Q (F0 m (pc + 3) ls (.ref (gB G + h.1.length) :: rest))) : W p l e R s m args below meth c H locs cells slots Q (F0 m pc ls (.int n :: rest)) := by
  obtain ⟨hx, hb, hml, hown, hts, hE⟩ := X
  refine va_newq hx hb hown (hts _ hcl) (hao hE) hE.1 M.1.1 wsO_D M.2.1 (fun q hq => Nat.le_trans hE.2.1 hq) hn hN hbytes hcap.1 hcap.2 hdg fun q cA H1 hK hP hD hS => x_sz fun hz => ?_
  have hq := x_q M hP hD hz
  subst hq
  obtain ⟨_, _, _, _, _, h1⟩ := (hK.2 _ _ (by rw [List.getElem?_append_right (Nat.le_refl _), Nat.sub_self]; rfl)).2
  obtain ⟨_, _, _, _, _, h2⟩ := (hE.1.2 _ _ (htt G)).2
  cases h1.symm.trans h2
  have e : wsO G (al h (t, N)) = wsO G h ++ [(gB G + h.1.length, .inl (gA G (t - 100), N, .inr (.inr (.inr (.inr (fun _ => none))))))] := by
    rw [wsO_push (h := h) (q := (t, N)) rfl (fun i x hi => al_same i x hi), ce_ref ht]
    simp [al, z2_eq]
  rw [← e] at hP
  exact kk H1 locs (ms_al M hE hP hS hz)
-- statics, tables, texts
theorem x_bodies {idx : Nat} (hl : Cond.fieldLink own idx "CrossroadsCarts$Acts" "BODIES" "[I" ∈ TB) (X : CX G p s m args c cc nL own) (M : MS G s h H locs cells) (hdg : decode cc pc = .ok (.getstatic idx, 3))
    (kk : W p l e R s m args below meth c H locs cells slots Q (F0 m (pc + 3) ls (.ref (gT G 1) :: rest))) : W p l e R s m args below meth c H locs cells slots Q (F0 m pc ls rest) :=
  va_gets X.1 X.2.1 X.2.2.2.2.2.2.2.2.2.1 M.2.1 X.2.2.2.1 (X.2.2.2.2.1 _ hl) (fun _ h9 => h9) hdg kk
theorem x_above {idx : Nat} (hl : (own, idx, "CrossroadsCarts", "ABOVE", "[I", "CrossroadsCarts") ∈ nestF) (X : CX G p s m args c cc nL own) (M : MS G s h H locs cells) (hdg : decode cc pc = .ok (.getstatic idx, 3))
    (kk : W p l e R s m args below meth c H locs cells slots Q (F0 m (pc + 3) ls (.ref (gT G 0) :: rest))) : W p l e R s m args below meth c H locs cells slots Q (F0 m pc ls rest) :=
  va_getsN X.1 X.2.1 X.2.2.2.2.2.2.2.1 M.2.1 X.2.2.2.1 (va_Nw.use rfl (X.2.2.2.2.2.2.2.2.2.2.2.2.2.2.2.2.2.2 _ hl)) (fun _ h9 => h9) hdg kk
theorem x_compact {idx : Nat} (hl : Cond.fieldLink own idx "java/lang/String" "COMPACT_STRINGS" "Z" ∈ TB) (X : CX G p s m args c cc nL own) (M : MS G s h H locs cells) (hdg : decode cc pc = .ok (.getstatic idx, 3))
    (kk : W p l e R s m args below meth c H locs cells slots Q (F0 m (pc + 3) ls (.int 1 :: rest))) : W p l e R s m args below meth c H locs cells slots Q (F0 m pc ls rest) :=
  va_gets X.1 X.2.1 X.2.2.2.2.2.2.2.2.2.2.2.1 M.2.1 X.2.2.2.1 (X.2.2.2.2.1 _ hl) (fun _ h9 => h9) hdg kk
theorem x_formatter {idx : Nat} (hl : Cond.fieldLink own idx "jdk/internal/util/Preconditions" "SIOOBE_FORMATTER" "Ljava/util/function/BiFunction;" ∈ TB) (X : CX G p s m args c cc nL own) (M : MS G s h H locs cells) (hdg : decode cc pc = .ok (.getstatic idx, 3))
    (k1 : ∀ z : Nat, W p l e R s m args below meth c H locs cells slots Q (F0 m (pc + 3) ls (.ref z :: rest))) (k2 : W p l e R s m args below meth c H locs cells slots Q (F0 m (pc + 3) ls (.null :: rest))) : W p l e R s m args below meth c H locs cells slots Q (F0 m pc ls rest) := by
  rcases X.2.2.2.2.2.2.2.2.2.2.2.2.1 with hZ | ⟨z, hZ⟩
  · exact va_gets X.1 X.2.1 hZ M.2.1 X.2.2.2.1 (X.2.2.2.2.1 _ hl) (fun _ h9 => h9) hdg k2
  · exact va_gets X.1 X.2.1 hZ M.2.1 X.2.2.2.1 (X.2.2.2.2.1 _ hl) (fun _ h9 => h9) hdg (k1 z)
theorem x_tald {k : Nat} {i v : Int32} (hk : k = 0 ∨ k = 1) (X : CX G p s m args c cc nL own) (M : MS G s h H locs cells) (hv : lT k i = some v) (hdg : decode cc pc = .ok (.iaload, 1))
    (kk : W p l e R s m args below meth c H locs cells slots Q (F0 m (pc + 1) ls (.int v :: rest))) : W p l e R s m args below meth c H locs cells slots Q (F0 m pc ls (.int i :: .ref (gT G k) :: rest)) := by
  unfold lT at hv
  split at hv
  · cases hv
  · rename_i hn
    cases hv
    obtain ⟨hx, hb, hml, hown, hts, hE⟩ := X
    rcases hk with rfl | rfl
    · exact va_ti hx hb hE.2.2.2.1 M.2.1 hn rfl hdg kk
    · exact va_ti hx hb hE.2.2.2.2.2.1 M.2.1 hn rfl hdg kk
theorem x_ldcs {i idx : Nat} {tx : String} (hi : stx[i]? = some (idx, tx)) (hw : own = "CrossroadsCarts$Reader") (X : CX G p s m args c cc nL own) (hdg : decode cc pc = .ok (.ldc idx, 2))
    (kk : W p l e R s m args below meth c H locs cells slots Q (F0 m (pc + 2) ls (.ref (gK G i) :: rest))) : W p l e R s m args below meth c H locs cells slots Q (F0 m pc ls rest) := by
  subst hw
  exact va_ldcS X.1 X.2.1 X.2.2.2.1 (X.2.2.2.2.2.2.2.2.2.2.2.2.2.2.1 i _ hi) hdg kk
theorem x_sval {i j idx : Nat} (hl : Cond.fieldLink own idx "java/lang/String" "value" "[B" ∈ TB) (X : CX G p s m args c cc nL own) (M : MS G s h H locs cells) (hv : sV i = some j) (hdg : decode cc pc = .ok (.getfield idx, 3))
    (kk : W p l e R s m args below meth c H locs cells slots Q (F0 m (pc + 3) ls (.ref (gV G j) :: rest))) : W p l e R s m args below meth c H locs cells slots Q (F0 m pc ls (.ref (gK G i) :: rest)) := by
  unfold sV at hv
  split at hv
  · rename_i hi
    cases hv
    exact vk_getf X.1 X.2.1 (X.2.2.2.2.2.2.2.2.2.2.2.2.2.1.1 i hi).2.2.1 M.2.1 X.2.2.2.1 (X.2.2.2.2.1 _ hl) (fun _ h9 => h9) hdg kk
  · cases hv
theorem x_scod {i j idx : Nat} (hl : Cond.fieldLink own idx "java/lang/String" "coder" "B" ∈ TB) (X : CX G p s m args c cc nL own) (M : MS G s h H locs cells) (hv : sV i = some j) (hdg : decode cc pc = .ok (.getfield idx, 3))
    (kk : W p l e R s m args below meth c H locs cells slots Q (F0 m (pc + 3) ls (.int 0 :: rest))) : W p l e R s m args below meth c H locs cells slots Q (F0 m pc ls (.ref (gK G i) :: rest)) := by
  unfold sV at hv
  split at hv
  · rename_i hi
    cases hv
    exact vk_getf X.1 X.2.1 (X.2.2.2.2.2.2.2.2.2.2.2.2.2.1.1 i hi).2.1 M.2.1 X.2.2.2.1 (X.2.2.2.2.1 _ hl) (fun _ h9 => h9) hdg kk
  · cases hv
theorem x_blen {i : Nat} {v : Int32} (X : CX G p s m args c cc nL own) (M : MS G s h H locs cells) (hv : bN i = some v) (hdg : decode cc pc = .ok (.arraylength, 1))
    (kk : W p l e R s m args below meth c H locs cells slots Q (F0 m (pc + 1) ls (.int v :: rest))) : W p l e R s m args below meth c H locs cells slots Q (F0 m pc ls (.ref (gV G i) :: rest)) := by
  unfold bN at hv
  split at hv
  · rename_i hi
    exact va_tlen X.1 X.2.1 (X.2.2.2.2.2.2.2.2.2.2.2.2.2.1.1 i hi).2.2.2 M.2.1 (Option.some.inj hv) hdg kk
  · cases hv
theorem x_bald {i : Nat} {j v : Int32} (X : CX G p s m args c cc nL own) (M : MS G s h H locs cells) (hv : lB i j = some v) (hdg : decode cc pc = .ok (.baload, 1))
    (kk : W p l e R s m args below meth c H locs cells slots Q (F0 m (pc + 1) ls (.int v :: rest))) : W p l e R s m args below meth c H locs cells slots Q (F0 m pc ls (.int j :: .ref (gV G i) :: rest)) := by
  unfold lB at hv
  split at hv
  · rename_i hi
    exact va_tb X.1 X.2.1 (X.2.2.2.2.2.2.2.2.2.2.2.2.2.1.1 i hi.1).2.2.2 M.2.1 hi.2 (by rw [Option.some.inj hv]) hdg kk
  · cases hv
theorem x_recv {ci a N : Nat} {C0 : String} {T : u_T} (F : CLS ci C0 T N) (X : CX G p s m args c cc nL own) (M : MS G s h H locs cells) (hq : ck h a ci = some ()) : ∃ cell : Cell, H[gB G + a]? = some cell ∧ cell.vm.isStatics = false ∧ s.vm.findClass C0 = some cell.cls := by
  unfold ck at hq
  split at hq
  · rename_i h0
    exact va_recv (q := (C0, T, N)) X.2.2.2.2.2.1 M.1.1 F.1 (by rw [wsO_get h0, ce_obj F.2.2.2.2.2])
  · cases hq
theorem x_recS {i j : Nat} (X : CX G p s m args c cc nL own) (M : MS G s h H locs cells) (hq : sV i = some j) : ∃ cell : Cell, H[gK G i]? = some cell ∧ cell.vm.isStatics = false ∧ s.vm.findClass "java/lang/String" = some cell.cls := by
  unfold sV at hq
  split at hq
  · rename_i hi
    exact vk_recv X.2.2.2.2.2.2.2.2.2.2.2.2.2.1 hi M.2.1
  · cases hq
-- calls
abbrev okY (y : MethodName) (n : Nat) : Prop := y.cls ≠ "java/lang/invoke/MethodHandle" ∧ y.cls ≠ "java/lang/invoke/VarHandle" ∧ (parseMethodDescriptor y.desc).map (fun d => d.parameters.length) = some n
abbrev KV (own : String) (idx : Nat) (y : MethodName) (cw : Cond) (n : Nat) : Prop := Cond.methodLink own idx y ∈ TB ∧ Cond.instanceMethod y ∈ TB ∧ Cond.selects y.cls y y ∈ TB ∧ Cond.initialized y.cls ∈ TB ∧ cw ∈ TB ∧ okY y n
abbrev KS (own : String) (idx : Nat) (y : MethodName) (cw : Cond) (n : Nat) : Prop := Cond.methodLink own idx y ∈ TB ∧ Cond.static y ∈ TB ∧ Cond.initialized y.cls ∈ TB ∧ cw ∈ TB ∧ okY y n
abbrev KI (own : String) (idx : Nat) (y : MethodName) (cw : Cond) (n : Nat) : Prop := Cond.methodLink own idx y ∈ TB ∧ Cond.instanceMethod y ∈ TB ∧ y.name = "<init>" ∧ Cond.initialized y.cls ∈ TB ∧ cw ∈ TB ∧ okY y n
abbrev KN (own : String) (idx : Nat) (y : MethodName) (cw : Cond) (n : Nat) : Prop := (own, idx, y, "CrossroadsCarts") ∈ nestM ∧ Cond.instanceMethod y ∈ TB ∧ y.name = "<init>" ∧ Cond.initialized y.cls ∈ TB ∧ cw ∈ TB ∧ okY y n
abbrev fitsR (rm R : Room) (maxL mc ms : Nat) : Prop := rm.cells = mc ∧ rm.slots = ms ∧ rm.frames + 1 ≤ R.frames ∧ 8 + (maxL + 11) + rm.locals ≤ R.locals
theorem pre_blind {av : List Value} : FrameBlind (va_Pc av (PreM G h)) := fun a U g mk q => ⟨q.1, q.2.1, q.2.2.calling g mk a⟩
theorem pre_at {av : List Value} (X : CX G p s m args c cc nL own) (M : MS G s h H locs cells) (U : State) (hU : U.heap = H) (hW : s.WarmedH U.vm) : va_Pc av (PreM G h) av.toArray U := ⟨rfl, by rw [hU]; exact M.1, X.2.2.2.2.2.moved M.2.1 hU hW⟩
theorem ms_call (M : MS G s h H locs cells) {H1 : Heap} {locs1 : List Loc} (hB : WP G h' H1) (hle : H.size ≤ H1.size) (hS : va_S (gB G ≤ ·) s.heap H1 locs1) (hz : H1.size ≤ s.heap.size + cells) : MS G s h' H1 locs1 cells := by
  have h1 := M.1.2
  have h2 := M.2.2
  have h3 := hB.2
  exact ⟨hB, hS, by omega⟩
variable {y : MethodName} {bytes : ByteArray} {maxL n idx mc ms b : Nat} {ret : Option FieldType} {rm : Room} {As st : List Value}
theorem x_cwV {cw : Cond} (hcw : cw = .code y bytes maxL ret) (K : KV own idx y cw n) (X : CX G p s m args c cc nL own) (hrm : fitsR rm R maxL mc ms) : CallW R s args own y.cls idx y bytes maxL ret (cw :: TB) rm mc ms n :=
  ⟨callB_of n X.2.2.2.2.1 (goodTB (fun _ h => h) K.2.2.2.2.1) (by rw [hcw]) hrm.1 hrm.2.1 (X.2.2.2.2.1 _ K.2.2.2.1) (X.2.2.2.2.1 _ K.1) K.2.2.2.2.2 hrm.2.2, X.2.2.2.2.1 _ K.2.1, X.2.2.2.2.1 _ K.2.2.1⟩
theorem x_cwS {cw : Cond} (hcw : cw = .code y bytes maxL ret) (K : KS own idx y cw n) (X : CX G p s m args c cc nL own) (hrm : fitsR rm R maxL mc ms) : CallB R s args own idx y bytes maxL ret (cw :: TB) rm mc ms n ∧ (Cond.static y).before args s = true :=
  ⟨callB_of n X.2.2.2.2.1 (goodTB (fun _ h => h) K.2.2.2.1) (by rw [hcw]) hrm.1 hrm.2.1 (X.2.2.2.2.1 _ K.2.2.1) (X.2.2.2.2.1 _ K.1) K.2.2.2.2 hrm.2.2, X.2.2.2.2.1 _ K.2.1⟩
theorem x_callVi {r : Int32} {cw : Cond} (K : KV own idx y cw n) (hM : MetG l G y cw rm (.ref b :: As) h (QcI G r h') 0 0) (hcw : cw = .code y bytes maxL ret) (hrm : fitsR rm R maxL 0 0) (hcap : cells ≤ R.cells ∧ slots ≤ R.slots) (X : CX G p s m args c cc nL own) (M : MS G s h H locs cells) (hrec : ∃ cell : Cell, H[b]? = some cell ∧ cell.vm.isStatics = false ∧ s.vm.findClass y.cls = some cell.cls) (hst : st = As.reverse ++ .ref b :: rest) (hn : As.length = n) (hsz : ls.size = nL) (hW : (rest.map fun v => v.category).sum ≤ 8) (hdg : decode cc pc = .ok (.invokevirtual idx, 3))
    (kk : ∀ (H : Heap) (locs : List Loc), MS G s h' H locs cells → W p l e R s m args below meth c H locs cells slots Q (F0 m (pc + 3) ls (.int r :: rest))) : W p l e R s m args below meth c H locs cells slots Q (F0 m pc ls st) := by
  refine va_calli (va_runV (As := As) (rest := rest) ⟨X.1, X.2.1, X.2.2.1, X.2.2.2.1, X.2.2.2.2.1⟩ hM (x_cwV hcw K X hrm) ⟨pre_blind, hrec, fun U hU hW => pre_at X M U hU hW⟩ rfl hn hsz hst (lv_room hW) hdg hcap) M.2.1 (fun q _ h => h) (fun q h => h) fun r0 u t H1 locs1 ht hvm hr hB hz hk hS => x_sz fun hz2 => ?_
  subst hr
  rw [ht] at hB
  exact kk H1 locs1 (ms_call M hB hz hS hz2)
theorem x_callVl {r : Int64} {cw : Cond} (K : KV own idx y cw n) (hM : MetG l G y cw rm (.ref b :: As) h (QcL G r h') 0 0) (hcw : cw = .code y bytes maxL ret) (hrm : fitsR rm R maxL 0 0) (hcap : cells ≤ R.cells ∧ slots ≤ R.slots) (X : CX G p s m args c cc nL own) (M : MS G s h H locs cells) (hrec : ∃ cell : Cell, H[b]? = some cell ∧ cell.vm.isStatics = false ∧ s.vm.findClass y.cls = some cell.cls) (hst : st = As.reverse ++ .ref b :: rest) (hn : As.length = n) (hsz : ls.size = nL) (hW : (rest.map fun v => v.category).sum ≤ 8) (hdg : decode cc pc = .ok (.invokevirtual idx, 3))
    (kk : ∀ (H : Heap) (locs : List Loc), MS G s h' H locs cells → W p l e R s m args below meth c H locs cells slots Q (F0 m (pc + 3) ls (.long r :: rest))) : W p l e R s m args below meth c H locs cells slots Q (F0 m pc ls st) := by
  refine va_calll (va_runV (As := As) (rest := rest) ⟨X.1, X.2.1, X.2.2.1, X.2.2.2.1, X.2.2.2.2.1⟩ hM (x_cwV hcw K X hrm) ⟨pre_blind, hrec, fun U hU hW => pre_at X M U hU hW⟩ rfl hn hsz hst (lv_room hW) hdg hcap) M.2.1 (fun q _ h => h) (fun q h => h) fun r0 u t H1 locs1 ht hvm hr hB hz hk hS => x_sz fun hz2 => ?_
  subst hr
  rw [ht] at hB
  exact kk H1 locs1 (ms_call M hB hz hS hz2)
theorem x_callVv {cw : Cond} {L : Nat} (K : KV own idx y cw n) (hM : MetG l G y cw rm (.ref b :: As) h (QcV G h' L) 0 0) (hcw : cw = .code y bytes maxL ret) (hrm : fitsR rm R maxL 0 0) (hcap : cells ≤ R.cells ∧ slots ≤ R.slots) (X : CX G p s m args c cc nL own) (M : MS G s h H locs cells) (hrec : ∃ cell : Cell, H[b]? = some cell ∧ cell.vm.isStatics = false ∧ s.vm.findClass y.cls = some cell.cls) (hst : st = As.reverse ++ .ref b :: rest) (hn : As.length = n) (hsz : ls.size = nL) (hW : (rest.map fun v => v.category).sum ≤ 8) (hdg : decode cc pc = .ok (.invokevirtual idx, 3))
    (kk : ∀ (H : Heap) (locs : List Loc), MS G s h' H locs cells → W p l e R s m args below meth c H locs cells slots Q (F0 m (pc + 3) ls rest)) : W p l e R s m args below meth c H locs cells slots Q (F0 m pc ls st) := by
  refine va_callv (va_runV (As := As) (rest := rest) ⟨X.1, X.2.1, X.2.2.1, X.2.2.2.1, X.2.2.2.2.1⟩ hM (x_cwV hcw K X hrm) ⟨pre_blind, hrec, fun U hU hW => pre_at X M U hU hW⟩ rfl hn hsz hst (lv_room hW) hdg hcap) M.2.1 (fun q _ h => h) (fun q h => h) fun u t H1 locs1 ht hvm hr hB hz hk hS => x_sz fun hz2 => ?_
  rw [ht] at hB
  exact kk H1 locs1 (ms_call M hB hz hS hz2)
theorem x_callSi {r : Int32} {cw : Cond} (K : KS own idx y cw n) (hM : MetG l G y cw rm As h (QcI G r h') 0 0) (hcw : cw = .code y bytes maxL ret) (hrm : fitsR rm R maxL 0 0) (hcap : cells ≤ R.cells ∧ slots ≤ R.slots) (X : CX G p s m args c cc nL own) (M : MS G s h H locs cells) (hst : st = As.reverse ++ rest) (hn : As.length = n) (hsz : ls.size = nL) (hW : (rest.map fun v => v.category).sum ≤ 8) (hdg : decode cc pc = .ok (.invokestatic idx, 3))
    (kk : ∀ (H : Heap) (locs : List Loc), MS G s h' H locs cells → W p l e R s m args below meth c H locs cells slots Q (F0 m (pc + 3) ls (.int r :: rest))) : W p l e R s m args below meth c H locs cells slots Q (F0 m pc ls st) := by
  refine va_calli (va_runS (As := As) (rest := rest) ⟨X.1, X.2.1, X.2.2.1, X.2.2.2.1, X.2.2.2.2.1⟩ hM (x_cwS hcw K X hrm) ⟨pre_blind, fun U hU hW => pre_at X M U hU hW⟩ rfl hn hsz hst (lv_room hW) hdg hcap) M.2.1 (fun q _ h => h) (fun q h => h) fun r0 u t H1 locs1 ht hvm hr hB hz hk hS => x_sz fun hz2 => ?_
  subst hr
  rw [ht] at hB
  exact kk H1 locs1 (ms_call M hB hz hS hz2)
theorem x_callSl {r : Int64} {cw : Cond} (K : KS own idx y cw n) (hM : MetG l G y cw rm As h (QcL G r h') 0 0) (hcw : cw = .code y bytes maxL ret) (hrm : fitsR rm R maxL 0 0) (hcap : cells ≤ R.cells ∧ slots ≤ R.slots) (X : CX G p s m args c cc nL own) (M : MS G s h H locs cells) (hst : st = As.reverse ++ rest) (hn : As.length = n) (hsz : ls.size = nL) (hW : (rest.map fun v => v.category).sum ≤ 8) (hdg : decode cc pc = .ok (.invokestatic idx, 3))
    (kk : ∀ (H : Heap) (locs : List Loc), MS G s h' H locs cells → W p l e R s m args below meth c H locs cells slots Q (F0 m (pc + 3) ls (.long r :: rest))) : W p l e R s m args below meth c H locs cells slots Q (F0 m pc ls st) := by
  refine va_calll (va_runS (As := As) (rest := rest) ⟨X.1, X.2.1, X.2.2.1, X.2.2.2.1, X.2.2.2.2.1⟩ hM (x_cwS hcw K X hrm) ⟨pre_blind, fun U hU hW => pre_at X M U hU hW⟩ rfl hn hsz hst (lv_room hW) hdg hcap) M.2.1 (fun q _ h => h) (fun q h => h) fun r0 u t H1 locs1 ht hvm hr hB hz hk hS => x_sz fun hz2 => ?_
  subst hr
  rw [ht] at hB
  exact kk H1 locs1 (ms_call M hB hz hS hz2)
theorem x_callSv {cw : Cond} {L : Nat} (K : KS own idx y cw n) (hM : MetG l G y cw rm As h (QcV G h' L) 0 0) (hcw : cw = .code y bytes maxL ret) (hrm : fitsR rm R maxL 0 0) (hcap : cells ≤ R.cells ∧ slots ≤ R.slots) (X : CX G p s m args c cc nL own) (M : MS G s h H locs cells) (hst : st = As.reverse ++ rest) (hn : As.length = n) (hsz : ls.size = nL) (hW : (rest.map fun v => v.category).sum ≤ 8) (hdg : decode cc pc = .ok (.invokestatic idx, 3))
    (kk : ∀ (H : Heap) (locs : List Loc), MS G s h' H locs cells → W p l e R s m args below meth c H locs cells slots Q (F0 m (pc + 3) ls rest)) : W p l e R s m args below meth c H locs cells slots Q (F0 m pc ls st) := by
  refine va_callv (va_runS (As := As) (rest := rest) ⟨X.1, X.2.1, X.2.2.1, X.2.2.2.1, X.2.2.2.2.1⟩ hM (x_cwS hcw K X hrm) ⟨pre_blind, fun U hU hW => pre_at X M U hU hW⟩ rfl hn hsz hst (lv_room hW) hdg hcap) M.2.1 (fun q _ h => h) (fun q h => h) fun u t H1 locs1 ht hvm hr hB hz hk hS => x_sz fun hz2 => ?_
  rw [ht] at hB
  exact kk H1 locs1 (ms_call M hB hz hS hz2)
theorem x_callI {cw : Cond} (K : KI own idx y cw n) (hM : MetG l G y cw rm (.ref b :: As) h (QcV G h' (h.1.length + mc)) mc ms) (hcw : cw = .code y bytes maxL none) (hrm : fitsR rm R maxL mc ms) (hcap : cells + mc ≤ R.cells ∧ slots + ms ≤ R.slots) (X : CX G p s m args c cc nL own) (M : MS G s h H locs cells) (hst : st = As.reverse ++ .ref b :: rest) (hn : As.length = n) (hsz : ls.size = nL) (hW : (rest.map fun v => v.category).sum ≤ 8) (hdg : decode cc pc = .ok (.invokespecial idx, 3))
    (kk : ∀ (H : Heap) (locs : List Loc), MS G s h' H locs (cells + mc) → W p l e R s m args below meth c H locs (cells + mc) (slots + ms) Q (F0 m (pc + 3) ls rest)) : W p l e R s m args below meth c H locs cells slots Q (F0 m pc ls st) := by
  refine va_callv (va_runI (As := As) (rest := rest) ⟨X.1, X.2.1, X.2.2.1, X.2.2.2.1, X.2.2.2.2.1⟩ hM ⟨callB_of n X.2.2.2.2.1 (goodTB (fun _ h => h) K.2.2.2.2.1) (by rw [hcw]) hrm.1 hrm.2.1 (X.2.2.2.2.1 _ K.2.2.2.1) (X.2.2.2.2.1 _ K.1) K.2.2.2.2.2 hrm.2.2, K.2.2.1, X.2.2.2.2.1 _ K.2.1⟩ ⟨pre_blind, fun U hU hW => pre_at X M U hU hW⟩ rfl hn hsz hst (lv_room hW) hdg hcap) M.2.1 (fun q _ h => h) (fun q h => h) fun u t H1 locs1 ht hvm hr hB hz hk hS => ?_
  rw [ht] at hB
  exact kk H1 locs1 ⟨hB, hS, by have h1 := M.2.2; omega⟩
theorem x_callIN {cw : Cond} (K : KN own idx y cw n) (hM : MetG l G y cw rm (.ref b :: As) h (QcV G h' (h.1.length + mc)) mc ms) (hcw : cw = .code y bytes maxL none) (hrm : fitsR rm R maxL mc ms) (hcap : cells + mc ≤ R.cells ∧ slots + ms ≤ R.slots) (X : CX G p s m args c cc nL own) (M : MS G s h H locs cells) (hst : st = As.reverse ++ .ref b :: rest) (hn : As.length = n) (hsz : ls.size = nL) (hW : (rest.map fun v => v.category).sum ≤ 8) (hdg : decode cc pc = .ok (.invokespecial idx, 3))
    (kk : ∀ (H : Heap) (locs : List Loc), MS G s h' H locs (cells + mc) → W p l e R s m args below meth c H locs (cells + mc) (slots + ms) Q (F0 m (pc + 3) ls rest)) : W p l e R s m args below meth c H locs cells slots Q (F0 m pc ls st) := by
  refine va_callv (va_runIN (As := As) (rest := rest) ⟨X.1, X.2.1, X.2.2.1, X.2.2.2.1, X.2.2.2.2.1⟩ hM ⟨va_cnB n X.2.2.2.2.1 (goodTB (fun _ h => h) K.2.2.2.2.1) (by rw [hcw]) hrm.1 hrm.2.1 (X.2.2.2.2.2.2.2.2.2.2.2.2.2.2.2.2.2.1 _ K.1) (X.2.2.2.2.1 _ K.2.2.2.1) K.2.2.2.2.2 hrm.2.2, K.2.2.1, X.2.2.2.2.1 _ K.2.1⟩ ⟨pre_blind, fun U hU hW => pre_at X M U hU hW⟩ rfl hn hsz hst (lv_room hW) hdg hcap) M.2.1 (fun q _ h => h) (fun q h => h) fun u t H1 locs1 ht hvm hr hB hz hk hS => ?_
  rw [ht] at hB
  exact kk H1 locs1 ⟨hB, hS, by have h1 := M.2.2; omega⟩
theorem x_obj {idx : Nat} (hl : Cond.methodLink own idx Lib.objectInit ∈ TB) (hi : Cond.instanceMethod Lib.objectInit ∈ TB) (hcd : Cond.code Lib.objectInit ⟨#[0xb1]⟩ 1 none ∈ TB) (X : CX G p s m args c cc nL own) (hsz : ls.size = nL) (hdg : decode cc pc = .ok (.invokespecial idx, 3)) (hf : 1 ≤ R.frames) (hlo : (rest.map fun v => v.category).sum + 12 ≤ R.locals)
    (kk : W p l e R s m args below meth c H locs cells slots Q (F0 m (pc + 3) ls rest)) : W p l e R s m args below meth c H locs cells slots Q (F0 m pc ls (.ref b :: rest)) := by
  obtain ⟨hx, hb, hml, hown, hts, hE⟩ := X
  exact W.objInit hx hb hown (hts _ hl) (hts _ hi) (hts _ hcd) rfl (by show ls.size = _; rw [hml]; exact hsz) rfl hdg hf (by show 2 * 0 + _ + 12 ≤ _; omega) kk
theorem x_cpI {t a b0 : Nat} {sp dp n0 : Int32} {ty : FieldType} (ht : 100 ≤ t) (ht2 : t < 103) (htt : ∀ G : Gx, (tysO G)[t - 100]? = some (gA G (t - 100), ty)) (hfit : ∀ z : Int32, fits ty (.int z) = true) (hprim : refKind ty = false) (hl : Cond.methodLink own idx arraycopyName ∈ TB) (hnat : Cond.native arraycopyName ∈ TB) (hstat : Cond.static arraycopyName ∈ TB) (hini : Cond.initialized "java/lang/System" ∈ TB)
    (X : CX G p s m args c cc nL own) (M : MS G s h H locs cells) (hv : cpI t h a sp b0 dp n0 = some h') (hsz : ls.size = nL) (hf : 1 ≤ R.frames) (hlo : (rest.map fun v => v.category).sum + (nativeFrameWords "java/lang/System" "arraycopy" 5 + 11) ≤ R.locals) (hdg : decode cc pc = .ok (.invokestatic idx, 3))
    (kk : ∀ (H : Heap) (locs : List Loc), MS G s h' H locs cells → W p l e R s m args below meth c H locs cells slots Q (F0 m (pc + 3) ls rest)) : W p l e R s m args below meth c H locs cells slots Q (F0 m pc ls (.int n0 :: .int dp :: .ref (gB G + b0) :: .int sp :: .ref (gB G + a) :: rest)) := by
  obtain ⟨N0, e0, hv⟩ := bnd hv
  obtain ⟨N1, e1, hv⟩ := bnd hv
  split at hv
  · cases hv
  · rename_i hc
    cases hv
    have q0 := aN_spec e0
    have q1 := aN_spec e1
    obtain ⟨hx, hb, hml, hown, hts, hE⟩ := X
    refine va_copyi hx hb (hml.trans hsz.symm) hown (hts _ hl) (hts _ hnat) (hts _ hstat) (hts _ hini) hE.1 M.1.1 wsO_D M.2.1 a b0 (t - 100) (t - 100) (by rw [wsO_get q0, ce_int ht ht2]) (by rw [wsO_get q1, ce_int ht ht2]) (htt G) (htt G) hprim (fun q => hc (Or.inl q)) (fun q => hc (Or.inr (Or.inl q))) (fun q => hc (Or.inr (Or.inr (Or.inl q)))) (Nat.not_lt.mp fun q => hc (Or.inr (Or.inr (Or.inr (Or.inl q))))) (Nat.not_lt.mp fun q => hc (Or.inr (Or.inr (Or.inr (Or.inr q))))) (fun i hi => hfit _) hf hlo hdg fun H1 locs1 hP hD hS => x_sz fun hz => kk H1 locs1 (ms_of M hE rfl ?_ hS hz)
    rw [wsO_setI q1 (fun i hi => z2_ne hi), ce_int ht ht2]
    simp only [z2_eq]
    exact hP
theorem x_cpJ {a b0 : Nat} {sp dp n0 : Int32} (hl : Cond.methodLink own idx arraycopyName ∈ TB) (hnat : Cond.native arraycopyName ∈ TB) (hstat : Cond.static arraycopyName ∈ TB) (hini : Cond.initialized "java/lang/System" ∈ TB)
    (X : CX G p s m args c cc nL own) (M : MS G s h H locs cells) (hv : cpJ h a sp b0 dp n0 = some h') (hsz : ls.size = nL) (hf : 1 ≤ R.frames) (hlo : (rest.map fun v => v.category).sum + (nativeFrameWords "java/lang/System" "arraycopy" 5 + 11) ≤ R.locals) (hdg : decode cc pc = .ok (.invokestatic idx, 3))
    (kk : ∀ (H : Heap) (locs : List Loc), MS G s h' H locs cells → W p l e R s m args below meth c H locs cells slots Q (F0 m (pc + 3) ls rest)) : W p l e R s m args below meth c H locs cells slots Q (F0 m pc ls (.int n0 :: .int dp :: .ref (gB G + b0) :: .int sp :: .ref (gB G + a) :: rest)) := by
  obtain ⟨N0, e0, hv⟩ := bnd hv
  obtain ⟨N1, e1, hv⟩ := bnd hv
  split at hv
  · cases hv
  · rename_i hc
    cases hv
    have q0 := aN_spec e0
    have q1 := aN_spec e1
    obtain ⟨hx, hb, hml, hown, hts, hE⟩ := X
    refine va_copyl hx hb (hml.trans hsz.symm) hown (hts _ hl) (hts _ hnat) (hts _ hstat) (hts _ hini) hE.1 M.1.1 wsO_D M.2.1 a b0 3 3 (by rw [wsO_get q0, ce_long]) (by rw [wsO_get q1, ce_long]) rfl rfl rfl (fun q => hc (Or.inl q)) (fun q => hc (Or.inr (Or.inl q))) (fun q => hc (Or.inr (Or.inr (Or.inl q)))) (Nat.not_lt.mp fun q => hc (Or.inr (Or.inr (Or.inr (Or.inl q))))) (Nat.not_lt.mp fun q => hc (Or.inr (Or.inr (Or.inr (Or.inr q))))) (fun i hi => rfl) hf hlo hdg fun H1 locs1 hP hD hS => x_sz fun hz => kk H1 locs1 (ms_of M hE rfl ?_ hS hz)
    rw [wsO_setJ q1 (fun i hi => z2_ne hi), ce_long]
    simp only [z2_eq]
    exact hP
-- ends
abbrev QI (G : Gx) (below : List Frame) (args : Array Value) (s : State) (r : Int32) (h' : Mem) (mc ms : Nat) : State → Prop := MQ below (QcI G r h') args s mc ms (gB G ≤ ·)
abbrev QL (G : Gx) (below : List Frame) (args : Array Value) (s : State) (r : Int64) (h' : Mem) (mc ms : Nat) : State → Prop := MQ below (QcL G r h') args s mc ms (gB G ≤ ·)
abbrev QV (G : Gx) (below : List Frame) (args : Array Value) (s : State) (h' : Mem) (L mc ms : Nat) : State → Prop := MQ below (QcV G h' L) args s mc ms (gB G ≤ ·)
theorem x_iret {r : Int32} (X : CX G p s m args c cc nL own) (hr : meth.sig.returnType = some .int) (hk : meth.locks = false) (M : MS G s h H locs cells) (hdg : decode cc pc = .ok (.ireturn, 1)) : W p l e R s m args below meth c H locs cells slots (QI G below args s r h cells slots) (F0 m pc ls [.int r]) :=
  W.iret (v := r) X.1 X.2.1 hr (fun t ht hW => ⟨⟨r, (), rfl, rfl, by show WP G h t.heap; rw [ht]; exact M.1⟩, M.2.1.F ht⟩) M.2.1.2.2 hdg
theorem x_zret {r : Int32} {ty : FieldType} (X : CX G p s m args c cc nL own) (hr : meth.sig.returnType = some ty) (hk : meth.locks = false) (hn : narrow ty (.int r) = .int r) (M : MS G s h H locs cells) (hdg : decode cc pc = .ok (.ireturn, 1)) : W p l e R s m args below meth c H locs cells slots (QI G below args s r h cells slots) (F0 m pc ls [.int r]) :=
  W.zret (v := r) X.1 X.2.1 hr hn (fun t ht hW => ⟨⟨r, (), rfl, rfl, by show WP G h t.heap; rw [ht]; exact M.1⟩, M.2.1.F ht⟩) M.2.1.2.2 hdg
theorem x_lret {r : Int64} (X : CX G p s m args c cc nL own) (hr : meth.sig.returnType = some .long) (hk : meth.locks = false) (M : MS G s h H locs cells) (hdg : decode cc pc = .ok (.lreturn, 1)) : W p l e R s m args below meth c H locs cells slots (QL G below args s r h cells slots) (F0 m pc ls [.long r]) :=
  W.lret (v := r) X.1 X.2.1 hr (fun t ht hW => ⟨⟨r, (), rfl, rfl, by show WP G h t.heap; rw [ht]; exact M.1⟩, M.2.1.F ht⟩) M.2.1.2.2 hdg
theorem x_vret {L : Nat} (X : CX G p s m args c cc nL own) (hr : meth.sig.returnType = none) (hk : meth.locks = false) (M : MS G s h H locs cells) (hL : s.heap.size + cells = gB G + L) (hdg : decode cc pc = .ok (.return_, 1)) : W p l e R s m args below meth c H locs cells slots (QV G below args s h L cells slots) (F0 m pc ls []) :=
  W.vret X.1 X.2.1 hr (fun t ht hW => ⟨⟨(), rfl, by have := M.2.2; omega, by show WP G h t.heap; rw [ht]; exact M.1⟩, M.2.1.F ht⟩) M.2.1.2.2 hdg
theorem rz_spec {r v : Int32} {h0 : Mem} (hv : rz v h0 = some (r, h')) : (v = 0 ∨ v = 1) ∧ v = r ∧ h0 = h' := by
  unfold rz at hv
  split at hv
  · rename_i hq
    cases hv
    exact ⟨hq, rfl, rfl⟩
  · cases hv
theorem rc_spec {r v : Int32} {h0 : Mem} (hv : rc v h0 = some (r, h')) : vp_nar .char v = v ∧ v = r ∧ h0 = h' := by
  unfold rc at hv
  split at hv
  · rename_i hq
    cases hv
    exact ⟨hq, rfl, rfl⟩
  · cases hv
theorem rb_spec {r v : Int32} {h0 : Mem} (hv : rb v h0 = some (r, h')) : vp_nar .byte v = v ∧ v = r ∧ h0 = h' := by
  unfold rb at hv
  split at hv
  · rename_i hq
    cases hv
    exact ⟨hq, rfl, rfl⟩
  · cases hv
theorem nz {v : Int32} (h : v = 0 ∨ v = 1) : narrow .boolean (.int v) = .int v := by rcases h with rfl | rfl <;> rfl
theorem nc {v : Int32} (h : vp_nar .char v = v) : narrow .char (.int v) = .int v := by
  have e : narrow .char (.int v) = .int (vp_nar .char v) := rfl
  rw [e, h]
theorem nb {v : Int32} (h : vp_nar .byte v = v) : narrow .byte (.int v) = .int v := by
  have e : narrow .byte (.int v) = .int (vp_nar .byte v) := rfl
  rw [e, h]
theorem x_met {cw : Cond} {mc2 ms2 : Nat} {av : List Value} {Qc : Array Value → State → Outcome → State → Prop} (hy : plainName y.cls = true) (hcw : cw = .code y bytes maxL ret) (hsl : (lg_sl av).length ≤ maxL)
    (body : ∀ (p : Program) (e : Env) (s : State) (m : MethodId) (args : Array Value) (below : List Frame) (meth : Method) (c : Code) (ls : Array Slot), CX G p s m args c bytes maxL y.cls → MS G s h s.heap [] 0 → meth.sig.returnType = ret → meth.locks = false → meth.name = y.name → lv_has ls maxL (lv_args 0 av) →
      W p l e rm s m args below meth c s.heap [] 0 0 (MQ below Qc args s mc2 ms2 (gB G ≤ ·)) (F0 m 0 ls [])) : MetG l G y cw rm av h Qc mc2 ms2 := by
  refine Met.ofW (cc := bytes) (maxL := maxL) (ret := ret) hy (by rw [hcw]) ?_
  intro p e s m args below meth c s₁ B hml hv
  obtain ⟨rfl, hw, hE⟩ := hv
  have hts : ∀ w ∈ TB, w.before av.toArray s = true := fun w hw => atoms_spec (ws := cw :: TB) B.pre w (List.mem_cons_of_mem _ hw)
  rw [lg_entry_eq]
  exact body p e s m av.toArray below meth c _ ⟨B.exec, B.bytes, hml, findClass_of_methodNamed B.named, hts, hE⟩ ⟨hw, va_S.rf, hw.2⟩ B.returns B.notSynchronized (name_of_methodNamed B.named B.method).1 (lv_entry av hsl)
end XR2
