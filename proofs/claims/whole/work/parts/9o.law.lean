/-- what stays where a law is made -/
def GRW (h h' : Mem) : Prop := (∀ (i : Nat) (q : Nat × Nat), h.1[i]? = some q → h'.1[i]? = some q) ∧ (∀ i, i ≤ 110 → i ≠ 57 → h'.2.2.2 i = h.2.2.2 i) ∧ (∀ i, (1 ≤ i ∧ i ≤ 70) ∨ (72 ≤ i ∧ i ≤ 101) ∨ (106 ≤ i ∧ i ≤ 110) → h'.2.1 i = h.2.1 i) ∧ (∀ j, j ≠ 11 → h'.2.1 0 j = h.2.1 0 j) ∧ (∀ j, j ≠ 50 → h'.2.1 71 j = h.2.1 71 j) ∧ ∀ i, i ≤ 110 → h'.2.2.1 i = h.2.2.1 i
theorem CT.grw {h h' : Mem} {c : Nat} (t : CT h c) (q : CC c) (e : GRW h h') : CT h' c := by
  have hc : c ≤ 38 := by rcases q with rfl | rfl | rfl <;> decide
  exact ⟨e.1 _ _ t.1, fun k hk => ⟨by rw [e.2.1 c (by omega) (by omega)]; exact (t.2 k hk).1, e.1 _ _ (t.2 k hk).2⟩⟩
theorem RepC.grw {h h' : Mem} {V : Vw} {c p : Nat} (R : RepC h c p V) (q : CP c p) (e : GRW h h') : RepC h' c p V := by
  obtain ⟨a1, a2, a3, a4, a5, b0, ⟨b1, b1'⟩, ⟨b2, b2'⟩, ⟨b3, b3'⟩, ⟨b4, b4'⟩, b5, b6, b7, b8, b9, b10, b11⟩ := R
  have hc : 1 ≤ c ∧ c ≤ 38 := by rcases q.1 with rfl | rfl | rfl <;> decide
  have hp := q.2
  have rp : h'.2.2.2 p = h.2.2.2 p := e.2.1 p (by omega) (by omega)
  have ii : ∀ i, 1 ≤ i → i ≤ 43 → h'.2.1 i = h.2.1 i := fun i x y => e.2.2.1 i (by omega)
  refine ⟨a1.grw q.1 e, by rw [ii c (by omega) (by omega)]; exact a2, by rw [ii c (by omega) (by omega)]; exact a3, fun k hk j hj => by rw [ii _ (ar_lt q.1 (by omega)).1 (by have := ar_lt (k := k) q.1 (by omega); omega)]; exact a4 k hk j hj, by rw [e.2.1 c (by omega) (by omega)]; exact a5, e.1 _ _ b0, ⟨by rw [rp]; exact b1, e.1 _ _ b1'⟩, ⟨by rw [rp]; exact b2, e.1 _ _ b2'⟩, ⟨by rw [rp]; exact b3, e.1 _ _ b3'⟩, ⟨by rw [rp]; exact b4, e.1 _ _ b4'⟩, fun j hj => by rw [ii (p + 1) (by omega) (by omega)]; exact b5 j hj, fun j hj => by rw [ii (p + 2) (by omega) (by omega)]; exact b6 j hj, fun j hj => by rw [ii (p + 3) (by omega) (by omega)]; exact b7 j hj, by rw [ii p (by omega) (by omega)]; exact b8, by rw [ii p (by omega) (by omega)]; exact b9, by rw [ii p (by omega) (by omega)]; exact b10, by rw [ii p (by omega) (by omega), ii (p + 4) (by omega) (by omega)]; exact b11⟩
theorem MSh.grw {h h' : Mem} (s : MSh h) (e : GRW h h') : MSh h' := ⟨e.1 _ _ s.1, fun q hq => ⟨by rw [e.2.1 71 (by omega) (by omega)]; exact (s.2 q hq).1, e.1 _ _ (s.2 q hq).2⟩⟩
theorem RepM.grw {h h' : Mem} {V : Vw} (R : RepM h V) (e : GRW h h') : RepM h' V := by
  obtain ⟨r1, ⟨r2, r2'⟩, r3, r4, r5, r6, ⟨r7, r8, r9⟩, r10, r11⟩ := R
  have f : ∀ j, j ≠ 50 → h'.2.1 71 j = h.2.1 71 j := e.2.2.2.2.1
  refine ⟨r1.grw e, ⟨by rw [f _ (by decide)]; exact r2, by rw [f _ (by decide)]; exact r2'⟩, fun k hk j hj => by rw [e.2.2.1 (72 + k) (by omega)]; exact r3 k hk j hj, fun j hj => by rw [e.2.2.1 84 (by omega)]; exact r4 j hj, fun j hj => by rw [e.2.2.1 85 (by omega)]; exact r5 j hj, fun j hj => by rw [e.2.2.1 86 (by omega)]; exact r6 j hj, ⟨by rw [f _ (by decide)]; exact r7, by rw [f _ (by decide)]; exact r8, by rw [f _ (by decide)]; exact r9⟩, ?_, ?_⟩
  · unfold GOES at *; rw [e.2.2.1 81 (by omega), e.2.2.1 82 (by omega), f 12 (by decide)]; exact r10
  · unfold cacheOK at *; rw [f 29 (by decide), e.2.2.1 87 (by omega)]; exact r11
theorem TPS.grw {h h' : Mem} (t : TPS h) (e : GRW h h') : TPS h' := by
  refine ⟨e.1 _ _ t.1, fun k hk => ?_⟩
  obtain ⟨w1, w2, w3, w4, s, n, w5, w6, w7, w8, w12, w13⟩ := t.2 k hk
  refine ⟨by rw [e.2.1 58 (by omega) (by omega)]; exact w1, e.1 _ _ w2, by rw [e.2.1 (59 + 2 * k) (by omega) (by omega)]; exact w3, e.1 _ _ w4, s, n, w5, w6, w7, ?_, fun j hj => ?_, fun q j hj => ?_⟩
  · rw [e.2.2.1 (59 + 2 * k) (by omega), e.2.2.1 107 (by omega), e.2.2.1 108 (by omega)]; exact w8
  · rw [e.2.2.2.2.2 (60 + 2 * k) (by omega), e.2.2.2.2.2 109 (by omega)]; exact w12 j hj
  · rw [e.2.2.2.2.2 (60 + 2 * k) (by omega)]; exact w13 q j hj
theorem REL.grw {h h' : Mem} {V : Vw} {p pd b : Nat} (r : REL h V p pd b) (e : GRW h h') (lw : LWS h') : REL h' V p pd b := by
  have cp := r.cp
  have pd' := r.pd
  obtain ⟨r1, r2, r3, r4, r5, r6, ⟨l0, ⟨l1, l1'⟩, ⟨l2, l2'⟩, ⟨l3, l3'⟩, ⟨l4, l4'⟩⟩, ⟨⟨x1, x2⟩, ⟨c1, c2⟩, ⟨⟨s1, ⟨s2, s2'⟩, ⟨s3, s3'⟩, ⟨s4, s4'⟩⟩, ⟨k1, k2, k3⟩, ⟨d1, ⟨d2, d2'⟩, ⟨d3, d3'⟩⟩⟩, ⟨a1, a2, a3, ran, a4, a5, a6, a7⟩, ⟨x, L, ⟨t1, t2, t3, t4, t5, t6, t7⟩, t8, t9⟩, ⟨y, y1, y2, y3⟩, ⟨la, la1, la2, la3⟩, _, tp⟩⟩ := r
  have f : ∀ i, i ≤ 110 → i ≠ 57 → h'.2.2.2 i = h.2.2.2 i := e.2.1
  have ii : ∀ i, (1 ≤ i ∧ i ≤ 70) ∨ (72 ≤ i ∧ i ≤ 101) ∨ (106 ≤ i ∧ i ≤ 110) → h'.2.1 i = h.2.1 i := e.2.2.1
  refine ⟨r1, r2.grw cp e, r3.grw e, r4, r5, by rw [f 0 (by omega) (by omega)]; exact r6, ⟨e.1 _ _ l0, ⟨by rw [f pd (by omega) (by omega)]; exact l1, e.1 _ _ l1'⟩, ⟨by rw [f pd (by omega) (by omega)]; exact l2, e.1 _ _ l2'⟩, ⟨by rw [f pd (by omega) (by omega)]; exact l3, e.1 _ _ l3'⟩, ⟨by rw [f pd (by omega) (by omega)]; exact l4, e.1 _ _ l4'⟩⟩, ⟨e.1 _ _ x1, by rw [f 0 (by omega) (by omega)]; exact x2⟩, ⟨c1.grw c17 e, c2.grw c28 e⟩, ⟨⟨e.1 _ _ s1, ⟨by rw [f 46 (by omega) (by omega)]; exact s2, e.1 _ _ s2'⟩, ⟨by rw [f 46 (by omega) (by omega)]; exact s3, e.1 _ _ s3'⟩, ⟨by rw [f 46 (by omega) (by omega)]; exact s4, e.1 _ _ s4'⟩⟩, ⟨e.1 _ _ k1, by rw [f 50 (by omega) (by omega)]; exact k2, e.1 _ _ k3⟩, ⟨e.1 _ _ d1, ⟨by rw [f 52 (by omega) (by omega)]; exact d2, e.1 _ _ d2'⟩, ⟨by rw [f 52 (by omega) (by omega)]; exact d3, e.1 _ _ d3'⟩⟩⟩, ⟨e.1 _ _ a1, by rw [f 55 (by omega) (by omega)]; exact a2, e.1 _ _ a3, ran, by rw [ii 55 (by omega)]; exact a4, by rw [e.2.2.2.2.1 55 (by decide)]; exact a5, a6, fun j hj hr => by rw [ii 56 (by omega), ii 106 (by omega)]; exact a7 j hj hr⟩, ⟨x, L, ⟨e.1 _ _ t1, by rw [f 44 (by omega) (by omega)]; exact t2, e.1 _ _ t3, by rw [ii 44 (by omega)]; exact t4, fun j hj => by rw [ii 45 (by omega)]; exact t5 j hj, t6, t7⟩, by rw [e.2.2.2.2.1 13 (by decide)]; exact t8, fun j hj => by rw [ii 81 (by omega)]; exact t9 j hj⟩, ⟨y, y1, by rw [e.2.2.2.1 13 (by decide)]; exact y2, by rw [e.2.2.2.2.1 2 (by decide)]; exact y3⟩, ⟨la, la1, by rw [e.2.2.2.1 12 (by decide)]; exact la2, by rw [e.2.2.2.2.1 12 (by decide)]; exact la3⟩, lw, tp.grw e⟩
def NEW (h h1 : Mem) (w t n pr : Int) (nl : Nat) : Prop := h1.1 = h.1 ++ [(4, 0)] ∧ (∀ i, i ≠ 111 + nl → i ≠ 0 → h1.2.1 i = h.2.1 i) ∧ (∀ j, j ≠ 11 → h1.2.1 0 j = h.2.1 0 j) ∧ h1.2.1 0 11 = iz ((nl : Int) + 1) ∧ (h1.2.1 (111 + nl) 0 = iz w ∧ h1.2.1 (111 + nl) 1 = iz t ∧ h1.2.1 (111 + nl) 2 = iz n ∧ h1.2.1 (111 + nl) 3 = iz pr) ∧ (∀ i, i ≠ 111 + nl → h1.2.2.1 i = h.2.2.1 i) ∧ (∀ i k, i ≠ 111 + nl → (i ≠ 57 ∨ k ≠ nl) → h1.2.2.2 i k = h.2.2.2 i k) ∧ h1.2.2.2 57 nl = some (111 + nl)
section
variable {h : Mem} {V : Vw} {p pd b N : Nat}
theorem l_X4 {c : Nat} {h : Mem} (hc : h.1[c]? = some (4, 0)) {v1 v2 v3 v4 : Int32} : f_X4_init N c v1 v2 v3 v4 h = some (h.1, u2 (u2 (u2 (u2 h.2.1 c 0 v1) c 1 v2) c 2 v3) c 3 v4, h.2.2.1, h.2.2.2) := by
  unfold f_X4_init
  rw [sI_c hc, sI_c (h := ((h.1, u2 h.2.1 c 0 v1, h.2.2.1, h.2.2.2) : Mem)) hc, sI_c (h := ((h.1, u2 (u2 h.2.1 c 0 v1) c 1 v2, h.2.2.1, h.2.2.2) : Mem)) hc, sI_c (h := ((h.1, u2 (u2 (u2 h.2.1 c 0 v1) c 1 v2) c 2 v3, h.2.2.1, h.2.2.2) : Mem)) hc]
theorem l_law31 (S : X9S h) {w t n pr most : Int} {nl : Nat} (hnl : nl < 4) (e1 : h.2.1 0 11 = iz (nl : Int)) (e2 : h.1[57]? = some (104, 4)) (e3 : h.1.length = 111 + nl) (n1 : -2147483648 ≤ n) (n2 : n < 2147483648) (p1 : -2147483648 ≤ pr) (p2 : pr < 2147483648) (hm : 0 ≤ most ∧ most ≤ 1000) (g1 : 0 ≤ n ∧ n ≤ most) (g2 : 0 ≤ pr ∧ pr ≤ 99) : ∃ h1, f_X9_law_31 N 0 (iz w) (iz t) (iz n) (iz pr) (iz most) h = some (iz (nl : Int), h1) ∧ NEW h h1 w t n pr nl := by
  have a1 := l_within (N := N) (h := h) (a := n) (b := 0) (c := most) (by omega) (by omega) n1 n2
  have a2 := l_within (N := N) (h := h) (a := pr) (b := 0) (c := 99) (by omega) (by omega) p1 p2
  rw [decide_eq_true g1] at a1
  rw [decide_eq_true g2] at a2
  have hc : (al h (4, 0)).1[111 + nl]? = some (4, 0) := by
    show (h.1 ++ [(4, 0)])[111 + nl]? = _
    rw [← e3, List.getElem?_append_right (Nat.le_refl _), Nat.sub_self]
    rfl
  have h57 : (al h (4, 0)).1[57]? = some (104, 4) := by
    show (h.1 ++ [(4, 0)])[57]? = _
    rw [List.getElem?_append_left (by omega)]
    exact e2
  have h0 : (al h (4, 0)).1[0]? = some (9, 0) := by
    show (h.1 ++ [(4, 0)])[0]? = _
    rw [List.getElem?_append_left (by omega)]
    exact S.1
  have ex := l_X4 (N := N) (h := al h (4, 0)) hc (v1 := iz w) (v2 := iz t) (v3 := iz n) (v4 := iz pr)
  generalize hh : (((al h (4, 0)).1, u2 (u2 (u2 (u2 (al h (4, 0)).2.1 (111 + nl) 0 (iz w)) (111 + nl) 1 (iz t)) (111 + nl) 2 (iz n)) (111 + nl) 3 (iz pr), (al h (4, 0)).2.2.1, (al h (4, 0)).2.2.2) : Mem) = h17 at ex
  have s17 : h17.1 = (al h (4, 0)).1 := by rw [← hh]
  have es : stQ 104 4 h17 57 (iz (nl : Int)) (111 + nl) = some (h17.1, h17.2.1, h17.2.2.1, u2 h17.2.2.2 57 nl (some (111 + nl))) := by
    unfold stQ
    rw [aN_q (by rw [s17]; exact h57), Option.bind_some, iz_nat (by omega) (by omega), toN]
    refine (if_neg (fun z => ?_)).trans (if_pos (by rw [s17]; exact hc))
    rcases z with z | z
    · rw [il0, iz_lt (by omega) (by omega) (by omega) (by omega)] at z; omega
    · omega
  refine ⟨(h17.1, u2 h17.2.1 0 11 (iz ((nl : Int) + 1)), h17.2.2.1, u2 h17.2.2.2 57 nl (some (111 + nl))), ?_, ?_, ?_, ?_, ?_, ?_, ?_, ?_, ?_⟩
  · unfold f_X9_law_31
    rw [bq (show f_X9_within N (iz n) (0 : Int32) (iz most) h = _ from a1)]
    refine (if_neg (by decide)).trans ?_
    rw [bq (show f_X9_within N (iz pr) (0 : Int32) (99 : Int32) h = _ from a2)]
    refine (if_neg (by decide)).trans ?_
    rw [knI S, e1]
    refine (if_pos (by rw [show (4 : Int32) = iz 4 from rfl, iz_lt (by omega) (by omega) (by omega) (by omega)]; omega)).trans ?_
    rw [kn9 S, knI S, e1, e3, bo ex, bo es]
    have q0 : ((h17.1, h17.2.1, h17.2.2.1, u2 h17.2.2.2 57 nl (some (111 + nl))) : Mem).1[0]? = some (9, 0) := by
      show h17.1[0]? = _
      rw [s17]; exact h0
    have v11 : h17.2.1 0 11 = iz (nl : Int) := by
      rw [← hh]
      show u2 (u2 (u2 (u2 (z2 h.2.1 h.1.length (fun _ => 0)) (111 + nl) 0 (iz w)) (111 + nl) 1 (iz t)) (111 + nl) 2 (iz n)) (111 + nl) 3 (iz pr) 0 11 = _
      rw [u2_ne (by omega), u2_ne (by omega), u2_ne (by omega), u2_ne (by omega), z2_ne (by omega)]
      exact e1
    rw [bo (gI_q q0), sI_c q0]
    show some (h17.2.1 0 11, _) = _
    rw [v11, show (1 : Int32) = iz 1 from rfl, iz_add]
  · rw [← hh]; rfl
  · intro i hi hi0
    rw [← hh]
    show u2 (u2 (u2 (u2 (u2 (z2 h.2.1 h.1.length (fun _ => 0)) (111 + nl) 0 (iz w)) (111 + nl) 1 (iz t)) (111 + nl) 2 (iz n)) (111 + nl) 3 (iz pr)) 0 11 (iz ((nl : Int) + 1)) i = _
    rw [u2_ne hi0, u2_ne hi, u2_ne hi, u2_ne hi, u2_ne hi, z2_ne (by omega)]
  · intro j hj
    rw [← hh]
    show u2 (u2 (u2 (u2 (u2 (z2 h.2.1 h.1.length (fun _ => 0)) (111 + nl) 0 (iz w)) (111 + nl) 1 (iz t)) (111 + nl) 2 (iz n)) (111 + nl) 3 (iz pr)) 0 11 (iz ((nl : Int) + 1)) 0 j = _
    rw [u2_at, if_neg hj, u2_ne (by omega), u2_ne (by omega), u2_ne (by omega), u2_ne (by omega), z2_ne (by omega)]
  · show u2 h17.2.1 0 11 (iz ((nl : Int) + 1)) 0 11 = _
    rw [u2_at, if_pos rfl]
  · have q : ∀ j, u2 h17.2.1 0 11 (iz ((nl : Int) + 1)) (111 + nl) j = (if j = 3 then iz pr else if j = 2 then iz n else if j = 1 then iz t else if j = 0 then iz w else 0) := by
      intro j
      rw [u2_ne (by omega), ← hh]
      show u2 (u2 (u2 (u2 (z2 h.2.1 h.1.length (fun _ => 0)) (111 + nl) 0 (iz w)) (111 + nl) 1 (iz t)) (111 + nl) 2 (iz n)) (111 + nl) 3 (iz pr) (111 + nl) j = _
      rw [u2_at, u2_at, u2_at, u2_at, ← e3, z2_eq]
    exact ⟨q 0, q 1, q 2, q 3⟩
  · intro i hi
    rw [← hh]
    show z2 h.2.2.1 h.1.length (fun _ => 0) i = _
    rw [z2_ne (by omega)]
  · intro i k hi hk
    rw [← hh]
    show u2 (z2 h.2.2.2 h.1.length (fun _ => none)) 57 nl (some (111 + nl)) i k = _
    by_cases z : i = 57
    · subst z
      rw [u2_at, if_neg (by omega), z2_ne (by omega)]
    · rw [u2_ne z, z2_ne (by omega)]
  · show u2 h17.2.2.2 57 nl (some (111 + nl)) 57 nl = _
    rw [u2_at, if_pos rfl]
end
