def b2 {α β : Type} (x : Option (α × Mem)) (k : α → Mem → Option β) : Option β := x.bind fun q => k q.1 q.2
theorem bnd2 {α β : Type} {x : Option (α × Mem)} {k : α → Mem → Option β} {r : β} (h : b2 x k = some r) : ∃ v h1, x = some (v, h1) ∧ k v h1 = some r := by
  obtain ⟨q, h1, h2⟩ := bnd h
  exact ⟨q.1, q.2, h1, h2⟩
theorem rt2 {α : Type} {a b : α} {x y : Mem} (h : some (a, x) = some (b, y)) : a = b ∧ x = y := ⟨congrArg Prod.fst (Option.some.inj h), congrArg Prod.snd (Option.some.inj h)⟩
theorem rt1 {x y : Mem} (h : some x = some y) : x = y := Option.some.inj h
section XR3
variable {p : Program} {l : Launch} {e : Env} {R : Room} {s : State} {m : MethodId} {args : Array Value} {below : List Frame} {meth : Method} {c : Code} {H : Heap} {locs : List Loc} {cells slots : Nat} {Q : State → Prop}
variable {cc : ByteArray} {nL pc : Nat} {ls : Array Slot} {rest : List Value} {own : String} {G : Gx} {h h' : Mem}
theorem x_tin {dflt lo hi z : Int} {offs : Array Int} {len : Nat} {x k : Int32} {off : Int} {tgt : Nat} (X : CX G p s m args c cc nL own) (hz : k.toInt = z) (hc : x = k) (hdg : decode cc pc = .ok (.tableswitch dflt lo hi offs, len)) (h1 : ¬ z < lo) (h2 : ¬ hi < z) (ho : offs[(z - lo).toNat]? = some off) (ht : (pc : Int) + off = (tgt : Int))
    (kk : W p l e R s m args below meth c H locs cells slots Q (F0 m tgt ls rest)) : W p l e R s m args below meth c H locs cells slots Q (F0 m pc ls (.int x :: rest)) := by
  subst hc; subst hz
  exact lv_tableIn X.1 X.2.1 hdg h1 h2 ho ht kk
theorem x_lin {dflt : Int} {ps : Array (Int × Int)} {len : Nat} {x k : Int32} {off : Int} {tgt : Nat} (X : CX G p s m args c cc nL own) (hc : x = k) (hdg : decode cc pc = .ok (.lookupswitch dflt ps, len)) (hp : (ps.toList.zip (ps.toList.drop 1)).all (fun (a, next) => a.1 < next.1) = true) (ho : Op.lookupswitch.offset ps.toList dflt k.toInt = off) (ht : (pc : Int) + off = (tgt : Int))
    (kk : W p l e R s m args below meth c H locs cells slots Q (F0 m tgt ls rest)) : W p l e R s m args below meth c H locs cells slots Q (F0 m pc ls (.int x :: rest)) := by
  subst hc
  exact lv_lookup X.1 X.2.1 hdg hp ho ht kk
theorem x_iretW {r : Int32} {c0 : Nat} (X : CX G p s m args c cc nL own) (hr : meth.sig.returnType = some .int) (hk : meth.locks = false) (M : MS G s h H locs c0) (hdg : decode cc pc = .ok (.ireturn, 1)) : W p l e R s m args below meth c H locs cells slots (QI G below args s r h cells slots) (F0 m pc ls [.int r]) :=
  W.iret (v := r) X.1 X.2.1 hr (fun t ht hW => ⟨⟨r, (), rfl, rfl, by show WP G h t.heap; rw [ht]; exact M.1⟩, M.2.1.F ht⟩) M.2.1.2.2 hdg
end XR3
