section XR
variable {p : Program} {l : Launch} {e : Env} {R : Room} {s : State} {m : MethodId} {args : Array Value} {below : List Frame} {meth : Method} {c : Code} {H : Heap} {locs : List Loc} {cells slots : Nat} {Q : State → Prop}
variable {cc : ByteArray} {nL pc : Nat} {ls : Array Slot} {rest : List Value} {own : String} {G : Gx} {h h' : Mem}
theorem x_sz {g : JFrame} (k : H.size ≤ s.heap.size + cells → W p l e R s m args below meth c H locs cells slots Q g) : W p l e R s m args below meth c H locs cells slots Q g := fun T hT X => k (by rw [← hT]; exact X.same.2.2.1) T hT X
theorem wp_lo (hP : va_P (gD G) vwCl (wsO G h) H) (hb : gB G ≤ H.size) : gB G + h.1.length ≤ H.size := by
  by_cases h0 : h.1.length = 0
  · omega
  · have hl : h.1.length - 1 < h.1.length := by omega
    have h1 := (hP _ _ (wsO_get (List.getElem?_eq_getElem hl))).lt
    dsimp only at h1
    omega
theorem ms_of (M : MS G s h H locs cells) (E : EX G s) {H1 : Heap} {locs1 : List Loc} (hl : h'.1.length = h.1.length) (hP : va_P (gD G) vwCl (wsO G h') H1) (hS : va_S (gB G ≤ ·) s.heap H1 locs1) (hz : H1.size ≤ s.heap.size + cells) : MS G s h' H1 locs1 cells := by
  have h1 := wp_lo hP (Nat.le_trans E.2.1 hS.1)
  have h2 := M.2.2
  exact ⟨⟨hP, by omega⟩, hS, by omega⟩
theorem ce_obj {a ci : Nat} (hc : ci < 100) : ce G h a (ci, 0) = .inr (ci, (List.range (nF ci)).map (fv G h a ci)) := by unfold ce; rw [if_pos hc]
theorem ce_int {a t n : Nat} (h1 : 100 ≤ t) (h2 : t < 103) : ce G h a (t, n) = .inl (gA G (t - 100), n, .inl (h.2.1 a)) := by unfold ce; rw [if_neg (by dsimp only; omega), if_pos h2]
theorem ce_long {a n : Nat} : ce G h a (103, n) = .inl (gA G 3, n, .inr (.inl (h.2.2.1 a))) := rfl
theorem ce_ref {a t n : Nat} (h1 : 104 ≤ t) : ce G h a (t, n) = .inl (gA G (t - 100), n, .inr (.inr (.inr (.inr (fun j => (h.2.2.2 a j).map (gB G + ·)))))) := by unfold ce; rw [if_neg (by dsimp only; omega), if_neg (by dsimp only; omega), if_neg (by dsimp only; omega)]
theorem ce_same {i : Nat} {q : Nat × Nat} (h1 : h'.2.1 i = h.2.1 i) (h2 : h'.2.2.1 i = h.2.2.1 i) (h3 : h'.2.2.2 i = h.2.2.2 i) : ce G h' i q = ce G h i q := by
  have e : fv G h' i q.1 = fv G h i q.1 := by funext k; simp only [fv, h1, h3]
  simp only [ce, e, h1, h2, h3]
theorem wsO_setI {a : Nat} {q : Nat × Nat} {F : Nat → Nat → Int32} (hq : h.1[a]? = some q) (hF : ∀ i, i ≠ a → F i = h.2.1 i) : wsO G (h.1, F, h.2.2.1, h.2.2.2) = (wsO G h).set a (gB G + a, ce G (h.1, F, h.2.2.1, h.2.2.2) a q) :=
  wsO_set (h := h) (h' := (h.1, F, h.2.2.1, h.2.2.2)) rfl hq fun i q hi => ce_same (h := h) (h' := (h.1, F, h.2.2.1, h.2.2.2)) (hF i hi) rfl rfl
theorem wsO_setJ {a : Nat} {q : Nat × Nat} {F : Nat → Nat → Int64} (hq : h.1[a]? = some q) (hF : ∀ i, i ≠ a → F i = h.2.2.1 i) : wsO G (h.1, h.2.1, F, h.2.2.2) = (wsO G h).set a (gB G + a, ce G (h.1, h.2.1, F, h.2.2.2) a q) :=
  wsO_set (h := h) (h' := (h.1, h.2.1, F, h.2.2.2)) rfl hq fun i q hi => ce_same (h := h) (h' := (h.1, h.2.1, F, h.2.2.2)) rfl (hF i hi) rfl
theorem wsO_setP {a : Nat} {q : Nat × Nat} {F : Nat → Nat → Option Nat} (hq : h.1[a]? = some q) (hF : ∀ i, i ≠ a → F i = h.2.2.2 i) : wsO G (h.1, h.2.1, h.2.2.1, F) = (wsO G h).set a (gB G + a, ce G (h.1, h.2.1, h.2.2.1, F) a q) :=
  wsO_set (h := h) (h' := (h.1, h.2.1, h.2.2.1, F)) rfl hq fun i q hi => ce_same (h := h) (h' := (h.1, h.2.1, h.2.2.1, F)) rfl rfl (hF i hi)
theorem fs_len {i ci : Nat} : ((List.range (nF ci)).map (fv G h i ci)).length = nF ci := by simp
theorem fs_get {i ci k : Nat} (hk : k < nF ci) : ((List.range (nF ci)).map (fv G h i ci))[k]? = some (fv G h i ci k) := by rw [List.getElem?_map, List.getElem?_range hk]; rfl
theorem wsO_put {a ci k : Nat} {v : Value} (h1 : h'.1 = h.1) (hq : h.1[a]? = some (ci, 0)) (hci : ci < 100) (ho : ∀ i, i ≠ a → h'.2.1 i = h.2.1 i ∧ h'.2.2.1 i = h.2.2.1 i ∧ h'.2.2.2 i = h.2.2.2 i) (hk : k < nF ci)
    (hf : ∀ j, j < nF ci → fv G h' a ci j = if j = k then v else fv G h a ci j) : wsO G h' = (wsO G h).set a (gB G + a, .inr (ci, ((List.range (nF ci)).map (fv G h a ci)).set k v)) := by
  rw [wsO_set h1 hq (fun i q hi => ce_same (ho i hi).1 (ho i hi).2.1 (ho i hi).2.2), ce_obj hci]
  congr 4
  apply List.ext_getElem?
  intro j
  by_cases hj : j < nF ci
  · rw [fs_get hj, hf j hj]
    by_cases hjk : j = k
    · subst hjk
      rw [if_pos rfl, List.getElem?_set_self (by rw [fs_len]; exact hj)]
    · rw [if_neg hjk, List.getElem?_set_ne (Ne.symm hjk), fs_get hj]
  · rw [List.getElem?_eq_none (by rw [fs_len]; omega), List.getElem?_eq_none (by rw [List.length_set, fs_len]; omega)]
theorem x_geti {idx ci k a : Nat} {v : Int32} {C0 : String} {T : u_T} {N : Nat} (F : FLK own idx ci k false C0 T N) (X : CX G p s m args c cc nL own) (M : MS G s h H locs cells) (hv : gI h a ci k = some v) (hdg : decode cc pc = .ok (.getfield idx, 3))
    (kk : W p l e R s m args below meth c H locs cells slots Q (F0 m (pc + 3) ls (.int v :: rest))) : W p l e R s m args below meth c H locs cells slots Q (F0 m pc ls (.ref (gB G + a) :: rest)) := by
  obtain ⟨⟨hc, hin, hty, hnm, hN, hci⟩, hk, hl, hr⟩ := F
  obtain ⟨hx, hb, hml, hown, hts, hE⟩ := X
  unfold gI at hv
  split at hv
  · rename_i hq
    cases hv
    exact va_get (D := gD G) (ws := wsO G h) (fs := (List.range (nF ci)).map (fv G h a ci)) hx hb hts hin hown hE.1 M.1.1 a (by rw [wsO_get hq, ce_obj hci]) hc k hk (hts _ hl) (fun _ h9 => h9) (v := .int (h.2.1 a k)) (by rw [fs_get (by omega)]; simp [fv, hr]) hdg kk
  · cases hv
theorem x_getr {idx ci k a b : Nat} {C0 : String} {T : u_T} {N : Nat} (F : FLK own idx ci k true C0 T N) (X : CX G p s m args c cc nL own) (M : MS G s h H locs cells) (hv : gR h a ci k = some b) (hdg : decode cc pc = .ok (.getfield idx, 3))
    (kk : W p l e R s m args below meth c H locs cells slots Q (F0 m (pc + 3) ls (.ref (gB G + b) :: rest))) : W p l e R s m args below meth c H locs cells slots Q (F0 m pc ls (.ref (gB G + a) :: rest)) := by
  obtain ⟨⟨hc, hin, hty, hnm, hN, hci⟩, hk, hl, hr⟩ := F
  obtain ⟨hx, hb, hml, hown, hts, hE⟩ := X
  unfold gR at hv
  split at hv
  · rename_i hq
    exact va_get (D := gD G) (ws := wsO G h) (fs := (List.range (nF ci)).map (fv G h a ci)) hx hb hts hin hown hE.1 M.1.1 a (by rw [wsO_get hq, ce_obj hci]) hc k hk (hts _ hl) (fun _ h9 => h9) (v := .ref (gB G + b)) (by rw [fs_get (by omega)]; simp [fv, hr, hv, va_rf]) hdg kk
  · cases hv
theorem x_putA {idx ci k a : Nat} {v : Value} {ty : FieldType} {r : Bool} {C0 : String} {T : u_T} {N : Nat} (F : FLK own idx ci k r C0 T N) (hfin : (T k).2.2.2 = false) (hd : parseFieldDescriptor (T k).2.2.1 = some ty) (hn : narrow ty v = v) (hfit : fits ty v = true) (X : CX G p s m args c cc nL own) (M : MS G s h H locs cells)
    (hq : h.1[a]? = some (ci, 0)) (h1 : h'.1 = h.1) (ho : ∀ i, i ≠ a → h'.2.1 i = h.2.1 i ∧ h'.2.2.1 i = h.2.2.1 i ∧ h'.2.2.2 i = h.2.2.2 i) (hf : ∀ j, j < nF ci → fv G h' a ci j = if j = k then v else fv G h a ci j) (hdg : decode cc pc = .ok (.putfield idx, 3))
    (kk : ∀ (H : Heap) (locs : List Loc), MS G s h' H locs cells → W p l e R s m args below meth c H locs cells slots Q (F0 m (pc + 3) ls rest)) : W p l e R s m args below meth c H locs cells slots Q (F0 m pc ls (v :: .ref (gB G + a) :: rest)) := by
  obtain ⟨⟨hc, hin, ⟨ty0, hty⟩, hnm, hN, hci⟩, hk, hl, hr⟩ := F
  obtain ⟨hx, hb, hml, hown, hts, hE⟩ := X
  refine va_put (D := gD G) (ws := wsO G h) (fs := (List.range (nF ci)).map (fv G h a ci)) hx hb hts hin ty0 (fun k hk => (hty k hk).1) hnm hown hE.1 M.1.1 wsO_D M.2.1 a (by rw [wsO_get hq, ce_obj hci]) hc k hk (hts _ hl) (fun _ h9 => h9) hfin hd hn hfit (by rw [fs_len]; omega) hdg fun H1 locs1 hP hD hS => x_sz fun hz => ?_
  rw [← wsO_put h1 hq hci ho (by omega) hf] at hP
  exact kk H1 locs1 (ms_of M hE (by rw [h1]) hP hS hz)
theorem x_putB {idx ci k a : Nat} {v : Value} {ty : FieldType} {r : Bool} {C0 : String} {T : u_T} {N : Nat} (F : FLK own idx ci k r C0 T N) (hfin : (T k).2.2.2 = true) (hin2 : meth.name = "<init>") (hdecl : (T k).1 = own) (hd : parseFieldDescriptor (T k).2.2.1 = some ty) (hn : narrow ty v = v) (hfit : fits ty v = true) (X : CX G p s m args c cc nL own) (M : MS G s h H locs cells)
    (hq : h.1[a]? = some (ci, 0)) (h1 : h'.1 = h.1) (ho : ∀ i, i ≠ a → h'.2.1 i = h.2.1 i ∧ h'.2.2.1 i = h.2.2.1 i ∧ h'.2.2.2 i = h.2.2.2 i) (hf : ∀ j, j < nF ci → fv G h' a ci j = if j = k then v else fv G h a ci j) (hdg : decode cc pc = .ok (.putfield idx, 3))
    (kk : ∀ (H : Heap) (locs : List Loc), MS G s h' H locs cells → W p l e R s m args below meth c H locs cells slots Q (F0 m (pc + 3) ls rest)) : W p l e R s m args below meth c H locs cells slots Q (F0 m pc ls (v :: .ref (gB G + a) :: rest)) := by
  obtain ⟨⟨hc, hin, ⟨ty0, hty⟩, hnm, hN, hci⟩, hk, hl, hr⟩ := F
  obtain ⟨hx, hb, hml, hown, hts, hE⟩ := X
  refine va_putF (D := gD G) (ws := wsO G h) (fs := (List.range (nF ci)).map (fv G h a ci)) hx hb hts hin ty0 (fun k hk => (hty k hk).1) hnm hown hE.1 M.1.1 wsO_D M.2.1 a (by rw [wsO_get hq, ce_obj hci]) hc k hk (hts _ hl) (fun _ h9 => h9) hfin hin2 hdecl hd hn hfit (by rw [fs_len]; omega) hdg fun H1 locs1 hP hD hS => x_sz fun hz => ?_
  rw [← wsO_put h1 hq hci ho (by omega) hf] at hP
  exact kk H1 locs1 (ms_of M hE (by rw [h1]) hP hS hz)
theorem sI_spec {a ci k : Nat} {v : Int32} (hv : sI h a ci k v = some h') : h.1[a]? = some (ci, 0) ∧ h' = (h.1, u2 h.2.1 a k v, h.2.2.1, h.2.2.2) := by
  unfold sI at hv
  split at hv
  · rename_i hq
    cases hv
    exact ⟨hq, rfl⟩
  · cases hv
theorem u2_ne {α : Type} {f : Nat → Nat → α} {a k i : Nat} {v : α} (hi : i ≠ a) : u2 f a k v i = f i := by unfold u2; rw [if_neg hi]
theorem u2_eq {α : Type} {f : Nat → Nat → α} {a k : Nat} {v : α} : u2 f a k v a = fun j => if j = k then v else f a j := by unfold u2; rw [if_pos rfl]
theorem z2_ne {α : Type} {f : Nat → Nat → α} {a i : Nat} {g : Nat → α} (hi : i ≠ a) : z2 f a g i = f i := by unfold z2; rw [if_neg hi]
theorem z2_eq {α : Type} {f : Nat → Nat → α} {a : Nat} {g : Nat → α} : z2 f a g a = g := by unfold z2; rw [if_pos rfl]
theorem sI_fv {a ci k j : Nat} {v : Int32} (hr : isR ci k = false) : fv G (h.1, u2 h.2.1 a k v, h.2.2.1, h.2.2.2) a ci j = if j = k then .int v else fv G h a ci j := by
  by_cases hj : j = k
  · subst hj; simp [fv, hr, u2_eq]
  · simp only [fv, u2_eq, if_neg hj]
theorem x_puti {idx ci k a : Nat} {v : Int32} {C0 : String} {T : u_T} {N : Nat} (F : FLK own idx ci k false C0 T N) (hfin : (T k).2.2.2 = false) (hd : parseFieldDescriptor (T k).2.2.1 = some .int) (X : CX G p s m args c cc nL own) (M : MS G s h H locs cells) (hv : sI h a ci k v = some h') (hdg : decode cc pc = .ok (.putfield idx, 3))
    (kk : ∀ (H : Heap) (locs : List Loc), MS G s h' H locs cells → W p l e R s m args below meth c H locs cells slots Q (F0 m (pc + 3) ls rest)) : W p l e R s m args below meth c H locs cells slots Q (F0 m pc ls (.int v :: .ref (gB G + a) :: rest)) := by
  obtain ⟨hq, rfl⟩ := sI_spec hv
  exact x_putA (h' := (h.1, u2 h.2.1 a k v, h.2.2.1, h.2.2.2)) F hfin hd rfl rfl X M hq rfl (fun i hi => ⟨u2_ne hi, rfl, rfl⟩) (fun j _ => sI_fv F.2.2.2) hdg kk
theorem x_putiF {idx ci k a : Nat} {v : Int32} {C0 : String} {T : u_T} {N : Nat} (F : FLK own idx ci k false C0 T N) (hfin : (T k).2.2.2 = true) (hin2 : meth.name = "<init>") (hdecl : (T k).1 = own) (hd : parseFieldDescriptor (T k).2.2.1 = some .int) (X : CX G p s m args c cc nL own) (M : MS G s h H locs cells) (hv : sI h a ci k v = some h') (hdg : decode cc pc = .ok (.putfield idx, 3))
    (kk : ∀ (H : Heap) (locs : List Loc), MS G s h' H locs cells → W p l e R s m args below meth c H locs cells slots Q (F0 m (pc + 3) ls rest)) : W p l e R s m args below meth c H locs cells slots Q (F0 m pc ls (.int v :: .ref (gB G + a) :: rest)) := by
  obtain ⟨hq, rfl⟩ := sI_spec hv
  exact x_putB (h' := (h.1, u2 h.2.1 a k v, h.2.2.1, h.2.2.2)) F hfin hin2 hdecl hd rfl rfl X M hq rfl (fun i hi => ⟨u2_ne hi, rfl, rfl⟩) (fun j _ => sI_fv F.2.2.2) hdg kk
theorem x_putz {idx ci k a : Nat} {v : Int32} {C0 : String} {T : u_T} {N : Nat} (F : FLK own idx ci k false C0 T N) (hfin : (T k).2.2.2 = false) (hd : parseFieldDescriptor (T k).2.2.1 = some .boolean) (X : CX G p s m args c cc nL own) (M : MS G s h H locs cells) (hv : sZ h a ci k v = some h') (hdg : decode cc pc = .ok (.putfield idx, 3))
    (kk : ∀ (H : Heap) (locs : List Loc), MS G s h' H locs cells → W p l e R s m args below meth c H locs cells slots Q (F0 m (pc + 3) ls rest)) : W p l e R s m args below meth c H locs cells slots Q (F0 m pc ls (.int v :: .ref (gB G + a) :: rest)) := by
  unfold sZ at hv
  split at hv
  · rename_i h01
    obtain ⟨hq, rfl⟩ := sI_spec hv
    exact x_putA (h' := (h.1, u2 h.2.1 a k v, h.2.2.1, h.2.2.2)) F hfin hd (by rcases h01 with rfl | rfl <;> rfl) (by rcases h01 with rfl | rfl <;> rfl) X M hq rfl (fun i hi => ⟨u2_ne hi, rfl, rfl⟩) (fun j _ => sI_fv F.2.2.2) hdg kk
  · cases hv
theorem sR_spec {a ci k b : Nat} (hv : sR h a ci k b = some h') : h.1[a]? = some (ci, 0) ∧ h' = (h.1, h.2.1, h.2.2.1, u2 h.2.2.2 a k (some b)) := by
  unfold sR at hv
  split at hv
  · rename_i hq
    cases hv
    exact ⟨hq, rfl⟩
  · cases hv
theorem sR_fv {a ci k j b : Nat} (hr : isR ci k = true) : fv G (h.1, h.2.1, h.2.2.1, u2 h.2.2.2 a k (some b)) a ci j = if j = k then .ref (gB G + b) else fv G h a ci j := by
  by_cases hj : j = k
  · subst hj; simp [fv, hr, u2_eq, va_rf]
  · simp only [fv, u2_eq, if_neg hj]
theorem x_putr {idx ci k a b : Nat} {ty : FieldType} {C0 : String} {T : u_T} {N : Nat} (F : FLK own idx ci k true C0 T N) (hfin : (T k).2.2.2 = false) (hd : parseFieldDescriptor (T k).2.2.1 = some ty) (hn : ∀ z, narrow ty (.ref z) = .ref z) (hfit : ∀ z, fits ty (.ref z) = true) (X : CX G p s m args c cc nL own) (M : MS G s h H locs cells) (hv : sR h a ci k b = some h') (hdg : decode cc pc = .ok (.putfield idx, 3))
    (kk : ∀ (H : Heap) (locs : List Loc), MS G s h' H locs cells → W p l e R s m args below meth c H locs cells slots Q (F0 m (pc + 3) ls rest)) : W p l e R s m args below meth c H locs cells slots Q (F0 m pc ls (.ref (gB G + b) :: .ref (gB G + a) :: rest)) := by
  obtain ⟨hq, rfl⟩ := sR_spec hv
  exact x_putA (h' := (h.1, h.2.1, h.2.2.1, u2 h.2.2.2 a k (some b))) F hfin hd (hn _) (hfit _) X M hq rfl (fun i hi => ⟨rfl, rfl, u2_ne hi⟩) (fun j _ => sR_fv F.2.2.2) hdg kk
theorem x_putrF {idx ci k a b : Nat} {ty : FieldType} {C0 : String} {T : u_T} {N : Nat} (F : FLK own idx ci k true C0 T N) (hfin : (T k).2.2.2 = true) (hin2 : meth.name = "<init>") (hdecl : (T k).1 = own) (hd : parseFieldDescriptor (T k).2.2.1 = some ty) (hn : ∀ z, narrow ty (.ref z) = .ref z) (hfit : ∀ z, fits ty (.ref z) = true) (X : CX G p s m args c cc nL own) (M : MS G s h H locs cells) (hv : sR h a ci k b = some h') (hdg : decode cc pc = .ok (.putfield idx, 3))
    (kk : ∀ (H : Heap) (locs : List Loc), MS G s h' H locs cells → W p l e R s m args below meth c H locs cells slots Q (F0 m (pc + 3) ls rest)) : W p l e R s m args below meth c H locs cells slots Q (F0 m pc ls (.ref (gB G + b) :: .ref (gB G + a) :: rest)) := by
  obtain ⟨hq, rfl⟩ := sR_spec hv
  exact x_putB (h' := (h.1, h.2.1, h.2.2.1, u2 h.2.2.2 a k (some b))) F hfin hin2 hdecl hd (hn _) (hfit _) X M hq rfl (fun i hi => ⟨rfl, rfl, u2_ne hi⟩) (fun j _ => sR_fv F.2.2.2) hdg kk
theorem aN_spec {t a n : Nat} (hv : aN h t a = some n) : h.1[a]? = some (t, n) := by
  unfold aN at hv
  split at hv
  · rename_i q hq
    split at hv
    · rename_i ht
      cases hv
      rw [hq, ← ht]
    · cases hv
  · cases hv
theorem lI_spec {t a : Nat} {i v : Int32} (hv : lI t h a i = some v) : ∃ n, h.1[a]? = some (t, n) ∧ vp_in i n ∧ v = h.2.1 a i.toNatClampNeg := by
  obtain ⟨n, h1, h2⟩ := bnd hv
  split at h2
  · cases h2
  · rename_i hn
    cases h2
    exact ⟨n, aN_spec h1, hn, rfl⟩
theorem x_iald {a : Nat} {i v : Int32} (X : CX G p s m args c cc nL own) (M : MS G s h H locs cells) (hv : lI 100 h a i = some v) (hdg : decode cc pc = .ok (.iaload, 1))
    (kk : W p l e R s m args below meth c H locs cells slots Q (F0 m (pc + 1) ls (.int v :: rest))) : W p l e R s m args below meth c H locs cells slots Q (F0 m pc ls (.int i :: .ref (gB G + a) :: rest)) := by
  obtain ⟨n, hq, hin, rfl⟩ := lI_spec hv
  obtain ⟨hx, hb, hml, hown, hts, hE⟩ := X
  exact va_iald hx hb hE.1 M.1.1 a 0 (by rw [wsO_get hq, ce_int (by decide) (by decide)]) rfl hin hdg kk
theorem x_cald {a : Nat} {i v : Int32} (X : CX G p s m args c cc nL own) (M : MS G s h H locs cells) (hv : lI 101 h a i = some v) (hdg : decode cc pc = .ok (.caload, 1))
    (kk : W p l e R s m args below meth c H locs cells slots Q (F0 m (pc + 1) ls (.int v :: rest))) : W p l e R s m args below meth c H locs cells slots Q (F0 m pc ls (.int i :: .ref (gB G + a) :: rest)) := by
  obtain ⟨n, hq, hin, rfl⟩ := lI_spec hv
  obtain ⟨hx, hb, hml, hown, hts, hE⟩ := X
  exact va_cald hx hb hE.1 M.1.1 a 1 (by rw [wsO_get hq, ce_int (by decide) (by decide)]) rfl hin hdg kk
theorem x_zald {a : Nat} {i v : Int32} (X : CX G p s m args c cc nL own) (M : MS G s h H locs cells) (hv : lI 102 h a i = some v) (hdg : decode cc pc = .ok (.baload, 1))
    (kk : W p l e R s m args below meth c H locs cells slots Q (F0 m (pc + 1) ls (.int v :: rest))) : W p l e R s m args below meth c H locs cells slots Q (F0 m pc ls (.int i :: .ref (gB G + a) :: rest)) := by
  obtain ⟨n, hq, hin, rfl⟩ := lI_spec hv
  obtain ⟨hx, hb, hml, hown, hts, hE⟩ := X
  exact va_zald hx hb hE.1 M.1.1 a 2 (by rw [wsO_get hq, ce_int (by decide) (by decide)]) rfl hin hdg kk
theorem x_lald {a : Nat} {i : Int32} {v : Int64} (X : CX G p s m args c cc nL own) (M : MS G s h H locs cells) (hv : lJ h a i = some v) (hdg : decode cc pc = .ok (.laload, 1))
    (kk : W p l e R s m args below meth c H locs cells slots Q (F0 m (pc + 1) ls (.long v :: rest))) : W p l e R s m args below meth c H locs cells slots Q (F0 m pc ls (.int i :: .ref (gB G + a) :: rest)) := by
  obtain ⟨n, h1, h2⟩ := bnd hv
  split at h2
  · cases h2
  · rename_i hn
    cases h2
    obtain ⟨hx, hb, hml, hown, hts, hE⟩ := X
    exact va_lald hx hb hE.1 M.1.1 a 3 (by rw [wsO_get (aN_spec h1), ce_long]) rfl hn hdg kk
theorem x_aald {a b t : Nat} {C0 : String} {i : Int32} (ht : 104 ≤ t) (htt : ∀ G : Gx, (tysO G)[t - 100]? = some (gA G (t - 100), .object C0)) (X : CX G p s m args c cc nL own) (M : MS G s h H locs cells) (hv : lQ t h a i = some b) (hdg : decode cc pc = .ok (.aaload, 1))
    (kk : W p l e R s m args below meth c H locs cells slots Q (F0 m (pc + 1) ls (.ref (gB G + b) :: rest))) : W p l e R s m args below meth c H locs cells slots Q (F0 m pc ls (.int i :: .ref (gB G + a) :: rest)) := by
  obtain ⟨n, h1, h2⟩ := bnd hv
  split at h2
  · cases h2
  · rename_i hn
    obtain ⟨hx, hb, hml, hown, hts, hE⟩ := X
    refine va_aldq hx hb hE.1 M.1.1 a (t - 100) (by rw [wsO_get (aN_spec h1), ce_ref ht]) (htt G) hn hdg ?_
    rw [h2]
    exact kk
theorem x_alen {t a : Nat} {ty : FieldType} {v : Int32} (ht : 100 ≤ t) (htt : ∀ G : Gx, (tysO G)[t - 100]? = some (gA G (t - 100), ty)) (X : CX G p s m args c cc nL own) (M : MS G s h H locs cells) (hv : alen t h a = some v) (hdg : decode cc pc = .ok (.arraylength, 1))
    (kk : W p l e R s m args below meth c H locs cells slots Q (F0 m (pc + 1) ls (.int v :: rest))) : W p l e R s m args below meth c H locs cells slots Q (F0 m pc ls (.ref (gB G + a) :: rest)) := by
  obtain ⟨n, h1, h2⟩ := bnd hv
  cases h2
  obtain ⟨hx, hb, hml, hown, hts, hE⟩ := X
  refine va_alen (x := (n, if t < 103 then .inl (h.2.1 a) else if t = 103 then .inr (.inl (h.2.2.1 a)) else .inr (.inr (.inr (.inr (fun j => (h.2.2.2 a j).map (gB G + ·))))))) hx hb hE.1 M.1.1 a (t - 100) ?_ (htt G) rfl hdg kk
  rw [wsO_get (aN_spec h1)]
  unfold ce
  rw [if_neg (by dsimp only; omega)]
theorem stI_spec {t a : Nat} {i v : Int32} (hv : stI t h a i v = some h') : ∃ n, h.1[a]? = some (t, n) ∧ vp_in i n ∧ h' = (h.1, u2 h.2.1 a i.toNatClampNeg v, h.2.2.1, h.2.2.2) := by
  obtain ⟨n, h1, h2⟩ := bnd hv
  split at h2
  · cases h2
  · rename_i hn
    cases h2
    exact ⟨n, aN_spec h1, hn, rfl⟩
theorem x_iast {a : Nat} {i v : Int32} (X : CX G p s m args c cc nL own) (M : MS G s h H locs cells) (hv : stI 100 h a i v = some h') (hdg : decode cc pc = .ok (.iastore, 1))
    (kk : ∀ (H : Heap) (locs : List Loc), MS G s h' H locs cells → W p l e R s m args below meth c H locs cells slots Q (F0 m (pc + 1) ls rest)) : W p l e R s m args below meth c H locs cells slots Q (F0 m pc ls (.int v :: .int i :: .ref (gB G + a) :: rest)) := by
  obtain ⟨n, hq, hin, rfl⟩ := stI_spec hv
  obtain ⟨hx, hb, hml, hown, hts, hE⟩ := X
  refine va_iast hx hb hE.1 M.1.1 wsO_D M.2.1 a 0 (by rw [wsO_get hq, ce_int (by decide) (by decide)]) rfl hin hdg fun H1 locs1 hP hD hS => x_sz fun hz => kk H1 locs1 (ms_of M hE rfl ?_ hS hz)
  rw [wsO_setI hq (fun i hi => u2_ne hi), ce_int (by decide) (by decide)]
  simp only [u2_eq]
  exact hP
theorem x_cast {a : Nat} {i v : Int32} (X : CX G p s m args c cc nL own) (M : MS G s h H locs cells) (hv : stI 101 h a i (vp_nar .char v) = some h') (hdg : decode cc pc = .ok (.castore, 1))
    (kk : ∀ (H : Heap) (locs : List Loc), MS G s h' H locs cells → W p l e R s m args below meth c H locs cells slots Q (F0 m (pc + 1) ls rest)) : W p l e R s m args below meth c H locs cells slots Q (F0 m pc ls (.int v :: .int i :: .ref (gB G + a) :: rest)) := by
  obtain ⟨n, hq, hin, rfl⟩ := stI_spec hv
  obtain ⟨hx, hb, hml, hown, hts, hE⟩ := X
  refine va_cast hx hb hE.1 M.1.1 wsO_D M.2.1 a 1 (by rw [wsO_get hq, ce_int (by decide) (by decide)]) rfl hin hdg fun H1 locs1 hP hD hS => x_sz fun hz => kk H1 locs1 (ms_of M hE rfl ?_ hS hz)
  rw [wsO_setI hq (fun i hi => u2_ne hi), ce_int (by decide) (by decide)]
  simp only [u2_eq]
  exact hP
theorem x_zast {a : Nat} {i v : Int32} (X : CX G p s m args c cc nL own) (M : MS G s h H locs cells) (hv : stI 102 h a i (vp_nar .boolean v) = some h') (hdg : decode cc pc = .ok (.bastore, 1))
    (kk : ∀ (H : Heap) (locs : List Loc), MS G s h' H locs cells → W p l e R s m args below meth c H locs cells slots Q (F0 m (pc + 1) ls rest)) : W p l e R s m args below meth c H locs cells slots Q (F0 m pc ls (.int v :: .int i :: .ref (gB G + a) :: rest)) := by
  obtain ⟨n, hq, hin, rfl⟩ := stI_spec hv
  obtain ⟨hx, hb, hml, hown, hts, hE⟩ := X
  refine va_zast hx hb hE.1 M.1.1 wsO_D M.2.1 a 2 (by rw [wsO_get hq, ce_int (by decide) (by decide)]) rfl hin hdg fun H1 locs1 hP hD hS => x_sz fun hz => kk H1 locs1 (ms_of M hE rfl ?_ hS hz)
  rw [wsO_setI hq (fun i hi => u2_ne hi), ce_int (by decide) (by decide)]
  simp only [u2_eq]
  exact hP
theorem x_last {a : Nat} {i : Int32} {v : Int64} (X : CX G p s m args c cc nL own) (M : MS G s h H locs cells) (hv : stJ h a i v = some h') (hdg : decode cc pc = .ok (.lastore, 1))
    (kk : ∀ (H : Heap) (locs : List Loc), MS G s h' H locs cells → W p l e R s m args below meth c H locs cells slots Q (F0 m (pc + 1) ls rest)) : W p l e R s m args below meth c H locs cells slots Q (F0 m pc ls (.long v :: .int i :: .ref (gB G + a) :: rest)) := by
  obtain ⟨n, h1, h2⟩ := bnd hv
  split at h2
  · cases h2
  · rename_i hn
    cases h2
    have hq := aN_spec h1
    obtain ⟨hx, hb, hml, hown, hts, hE⟩ := X
    refine va_last hx hb hE.1 M.1.1 wsO_D M.2.1 a 3 (by rw [wsO_get hq, ce_long]) rfl hn hdg fun H1 locs1 hP hD hS => x_sz fun hz => kk H1 locs1 (ms_of M hE rfl ?_ hS hz)
    rw [wsO_setJ hq (fun i hi => u2_ne hi), ce_long]
    simp only [u2_eq]
    exact hP
theorem x_aast {a b t ci : Nat} {r : vw_C} {i : Int32} (ht : 104 ≤ t) (htt : ∀ G : Gx, (tysO G)[t - 100]? = some (gA G (t - 100), .object r.1)) (hci : ci < 100) (hcl : vwCl[ci]? = some r) (X : CX G p s m args c cc nL own) (M : MS G s h H locs cells) (hv : stQ t ci h a i b = some h') (hdg : decode cc pc = .ok (.aastore, 1))
    (kk : ∀ (H : Heap) (locs : List Loc), MS G s h' H locs cells → W p l e R s m args below meth c H locs cells slots Q (F0 m (pc + 1) ls rest)) : W p l e R s m args below meth c H locs cells slots Q (F0 m pc ls (.ref (gB G + b) :: .int i :: .ref (gB G + a) :: rest)) := by
  obtain ⟨n, h1, h2⟩ := bnd hv
  split at h2
  · cases h2
  · rename_i hn
    split at h2
    · rename_i hb2
      cases h2
      have hq := aN_spec h1
      obtain ⟨hx, hb, hml, hown, hts, hE⟩ := X
      refine va_astq hx hb hE.1 M.1.1 wsO_D M.2.1 a (t - 100) b ci (by rw [wsO_get hq, ce_ref ht]) (htt G) (by rw [wsO_get hb2, ce_obj hci]) hcl hn hdg fun H1 locs1 hP hD hS => x_sz fun hz => kk H1 locs1 (ms_of M hE rfl ?_ hS hz)
      rw [wsO_setP hq (fun i hi => u2_ne hi), ce_ref ht]
      have e : (fun j => (u2 h.2.2.2 a i.toNatClampNeg (some b) a j).map (gB G + ·)) = va_up (fun j => (h.2.2.2 a j).map (gB G + ·)) i.toNatClampNeg (some (gB G + b)) := by
        funext j
        rw [u2_eq]
        unfold va_up
        by_cases hj : j = i.toNatClampNeg
        · simp [hj]
        · simp [hj]
      rw [e]
      exact hP
    · cases h2
theorem ms_al (M : MS G s h H locs cells) (E : EX G s) {q : Nat × Nat} {H1 : Heap} {locs1 : List Loc} (hP : va_P (gD G) vwCl (wsO G (al h q)) H1) (hS : va_S (gB G ≤ ·) s.heap H1 locs1) (hz : H1.size ≤ s.heap.size + (cells + 1)) : MS G s (al h q) H1 locs1 (cells + 1) := by
  have h1 := wp_lo hP (Nat.le_trans E.2.1 hS.1)
  have h2 := M.2.2
  have h3 : (al h q).1.length = h.1.length + 1 := by simp [al]
  exact ⟨⟨hP, by omega⟩, hS, by omega⟩
theorem al_same {q : Nat × Nat} (i : Nat) (x : Nat × Nat) (hi : i < h.1.length) : ce G (al h q) i x = ce G h i x := ce_same (z2_ne (by omega)) (z2_ne (by omega)) (z2_ne (by omega))
end XR
