/-- what a land leaves on both sides -/
def FRL (h h' : Mem) : Prop := h'.1 = h.1 ∧ h'.2.2.1 = h.2.2.1 ∧ (∀ i, 44 < i → (i ≤ 70 ∨ 102 ≤ i) → h'.2.1 i = h.2.1 i) ∧ (∀ j, j ≠ 12 → h'.2.1 0 j = h.2.1 0 j) ∧ (∀ i k, (i ≠ 1 ∨ k ≠ 0) → (i ≠ 0 ∨ k ≠ 3) → h'.2.2.2 i k = h.2.2.2 i k) ∧ h'.2.1 44 1 = iz 0 ∧ (∀ j, j = 2 ∨ j = 50 ∨ j = 55 → h'.2.1 71 j = h.2.1 71 j) ∧ h'.2.1 71 13 = iz 0
theorem OTH.frl {h h' : Mem} {b b' : Nat} (o : OTH h b) (e : FRL h h') (ld : LDS h' b') : OTH h' b' := by
  obtain ⟨⟨x1, x2⟩, ⟨c1', c2'⟩, ⟨⟨s1, ⟨s2, s2'⟩, ⟨s3, s3'⟩, ⟨s4, s4'⟩⟩, ⟨k1, k2, k3⟩, ⟨d1, ⟨d2, d2'⟩, ⟨d3, d3'⟩⟩⟩, ⟨a1, a2, a3, ran, a4, a5, a6, a7⟩, ⟨x, L, ⟨t1, t2, t3, t4, t5, t6, t7⟩, t8, t9⟩, ⟨y, y1, y2, y3⟩, _, ⟨nl, n1, n2, n3, n4, n5, n6⟩, p1, p2⟩ := o
  obtain ⟨e1, e2, g, g0, rf, e44, f, e13⟩ := e
  have R : ∀ i k, 2 ≤ i → h'.2.2.2 i k = h.2.2.2 i k := fun i k hi => rf i k (Or.inl (by omega)) (Or.inl (by omega))
  have R0 : ∀ k, k ≠ 3 → h'.2.2.2 0 k = h.2.2.2 0 k := fun k hk => rf 0 k (Or.inl (by decide)) (Or.inr hk)
  refine ⟨⟨by rw [e1]; exact x1, ?_⟩, ⟨⟨by rw [e1]; exact c1'.1, fun k hk => ⟨by rw [R 17 _ (by decide)]; exact (c1'.2 k hk).1, by rw [e1]; exact (c1'.2 k hk).2⟩⟩, ⟨by rw [e1]; exact c2'.1, fun k hk => ⟨by rw [R 28 _ (by decide)]; exact (c2'.2 k hk).1, by rw [e1]; exact (c2'.2 k hk).2⟩⟩⟩, ⟨⟨by rw [e1]; exact s1, ⟨by rw [R 46 _ (by decide)]; exact s2, by rw [e1]; exact s2'⟩, ⟨by rw [R 46 _ (by decide)]; exact s3, by rw [e1]; exact s3'⟩, ⟨by rw [R 46 _ (by decide)]; exact s4, by rw [e1]; exact s4'⟩⟩, ⟨by rw [e1]; exact k1, by rw [R 50 _ (by decide)]; exact k2, by rw [e1]; exact k3⟩, ⟨by rw [e1]; exact d1, ⟨by rw [R 52 _ (by decide)]; exact d2, by rw [e1]; exact d2'⟩, ⟨by rw [R 52 _ (by decide)]; exact d3, by rw [e1]; exact d3'⟩⟩⟩, ⟨by rw [e1]; exact a1, by rw [R 55 _ (by decide)]; exact a2, by rw [e1]; exact a3, ran, by rw [g 55 (by omega) (by omega)]; exact a4, by rw [f 55 (by omega)]; exact a5, a6, fun j hj hr => by rw [g 56 (by omega) (by omega), g 106 (by omega) (by omega)]; exact a7 j hj hr⟩, ⟨x, 0, ⟨by rw [e1]; exact t1, by rw [R 44 _ (by decide)]; exact t2, by rw [e1]; exact t3, e44, fun j hj => by omega, by omega, t7⟩, e13, fun j hj => by omega⟩, ⟨y, y1, by rw [g0 13 (by decide)]; exact y2, by rw [f 2 (by omega)]; exact y3⟩, ld, ⟨nl, n1, by rw [g0 11 (by decide)]; exact n2, by rw [f 50 (by omega)]; exact n3, by rw [e1]; exact n4, by rw [e1]; exact n5, fun k hk => ?_⟩, by rw [e1]; exact p1, fun k hk => ?_⟩
  · rw [R0 0 (by decide), R0 1 (by decide), R0 2 (by decide), R0 4 (by decide), R0 5 (by decide), R0 6 (by decide), R0 7 (by decide), R0 8 (by decide), R0 9 (by decide), R0 10 (by decide)]; exact x2
  · obtain ⟨w, t', n, pr, q1, q2, q3, q4, q5, q6, q7, q8⟩ := n6 k hk
    refine ⟨w, t', n, pr, q1, q2, q3, q4, by rw [R 57 _ (by decide)]; exact q5, by rw [e1]; exact q6, by rw [g (111 + k) (by omega) (by omega)]; exact q7, ?_⟩
    rw [g 102 (by omega) (by omega), g 103 (by omega) (by omega), g 104 (by omega) (by omega), g 105 (by omega) (by omega)]; exact q8
  · obtain ⟨w1, w2, w3, w4, s, n, w5, w6, w7, w8, w12, w13⟩ := p2 k hk
    refine ⟨by rw [R 58 _ (by decide)]; exact w1, by rw [e1]; exact w2, by rw [R (59 + 2 * k) _ (by omega)]; exact w3, by rw [e1]; exact w4, s, n, w5, w6, w7, ?_, fun j hj => by rw [e2]; exact w12 j hj, fun q j hj => by rw [e2]; exact w13 q j hj⟩
    rw [g (59 + 2 * k) (by omega) (by omega), g 107 (by omega) (by omega), g 108 (by omega) (by omega)]; exact w8
section
variable {h : Mem} {V : Vw} {p pd b N : Nat}
theorem p_land (hN : 300 ≤ N) (hb : b ≤ 900) (r : REL h V p pd b) : CAL (f_X9_land N 0 h) (f_X10_land N 71) (b + 1) := by
  obtain ⟨x, L, t0, t1, t2⟩ := r.2.2.2.2.2.2.2.2.2.2.2.1
  obtain ⟨la, l1, l2, l3⟩ := r.2.2.2.2.2.2.2.2.2.2.2.2.2.1
  have hL := t0.2.2.2.2.2.1
  have hx := t0.2.2.2.2.2.2
  have ff := fault_facts (L := L) hx
  have M := r.2.2.1
  have hpd := r.pd
  have hpp := r.1
  have w := r.2.2.2.1
  have o := r.2.2.2.2.2.2.2
  obtain ⟨h1, e1, ⟨f1, f2, f3, f4, f5, f6, f7, f8, f9⟩, ldt⟩ := l_land (N := N) hN r t0 l2
  have r71 : h1.2.1 71 = h.2.1 71 := f3 71 (by decide) (by decide) (by omega)
  have S1 : MSh h1 := ⟨by rw [f1]; exact M.1.1, fun q hq => ⟨by rw [f7 71 _ (Or.inl (by decide)) (Or.inl (by decide))]; exact (M.1.2 q hq).1, by rw [f1]; exact (M.1.2 q hq).2⟩⟩
  have x81 : h1.2.1 81 = h.2.1 81 := f3 81 (by decide) (by decide) (by omega)
  obtain ⟨h2, e2, ⟨k1, k2, k3, k4, k5, k6⟩, cF, cT⟩ := m_land (N := N) (x := x) (L := L) hN S1 (by rw [r71]; exact t1) (fun j hj => by rw [x81]; exact t2 j hj) hL hx
  have sgl : ∀ i, i ∈ sgQ → 83 ≤ i ∧ i ≤ 92 := by decide
  have lxl : ∀ i, i ∈ LX → 71 ≤ i ∧ i ≤ 86 := by decide
  have ii : ∀ i, i ≠ 0 → i ≠ 44 → (i < pd ∨ pd + 4 < i) → i ∉ LX → i ∉ sgQ → h2.2.1 i = h.2.1 i := fun i a c d q s => (k3 i q s).trans (f3 i a c d)
  have sm : h2.1 = h.1 := k1.trans f1
  have fld : ∀ j, j ≠ 13 → j ∉ sgPF → j ∉ LNs → h2.2.1 71 j = h.2.1 71 j := fun j a c d => by rw [k6 j a c d, r71]
  have rfs : ∀ i k, h2.2.2.2 i k = h1.2.2.2 i k := fun i k => by rw [k2]
  have fr : FRL h h2 := by
    refine ⟨sm, by rw [k2, f2], fun i a c => ii i (by omega) (by omega) (by omega) (fun z => by have := lxl i z; omega) (fun z => by have := sgl i z; omega), fun j hj => by rw [k3 0 (by decide) (by decide)]; exact f5 j hj, fun i k a c => by rw [rfs]; exact f7 i k a c, by rw [k3 44 (by decide) (by decide)]; exact f4, fun j hj => ?_, k5⟩
    rcases hj with rfl | rfl | rfl <;> exact fld _ (by decide) (by decide) (by decide)
  have v012 : h2.2.1 0 12 = h1.2.1 0 12 := by rw [k3 0 (by decide) (by decide)]
  obtain ⟨R1, R2, R3, R4, R5, R6⟩ := r.2.1
  by_cases hf : (faultS x L).1 = -1
  · rw [hf] at f6 f8 f9
    rw [if_pos rfl] at f6 f8 f9
    obtain ⟨d1, d2, d3⟩ := ff.2 hf
    obtain ⟨g1, g2, g3, g4, g5, g6, g7, g8, g9, g10⟩ := cT hf
    rw [r71, l3, il1, iz_add] at g10
    have hr : ∀ s i t n : Int, ib s → ib i → ib t → ib n → ∃ sm : Int, run s i t n (faultS x L).2.2 (0, 0) = some (sm, 0) ∧ 0 ≤ sm ∧ sm ≤ 9990 := fun s i t n b1 b2 b3 b4 => run_all (N := N) (by omega) M.1 t2 hL hx hf b1 b2 b3 b4
    have ld2 : LDT h2 pd (faultS x L).2.1 (faultS x L).2.2 := ldt.eq_ hpd k1 (fun k => rfs pd k) (fun i a c => k3 i (fun z => by have := lxl i z; omega) (fun z => by have := sgl i z; omega))
    obtain ⟨⟨u1, u2', u3, u4, u5⟩, u6, u7, u8, u9, u10, u11, u12, u13, u14⟩ := ld2
    have lo : ∀ i, 1 ≤ i → i ≤ 38 → (i < pd ∨ pd + 4 < i) → h2.2.1 i = h.2.1 i := fun i a c d => ii i (by omega) (by omega) d (fun z => by have := lxl i z; omega) (fun z => by have := sgl i z; omega)
    have a1 : ∀ k, k < 9 → 7 ≤ ar 1 k ∧ ar 1 k ≤ 16 := by decide
    have LSp : Lsh h2 p := by
      obtain ⟨z0, z1, z2, z3, z4, _⟩ := R6
      have zp : p ≠ 1 ∧ p ≠ 0 := by rcases hpp with ⟨q, _⟩ | ⟨q, _⟩ <;> omega
      have rp : ∀ k, h2.2.2.2 p k = h.2.2.2 p k := fun k => by rw [rfs]; exact f7 p k (Or.inl zp.1) (Or.inl zp.2)
      unfold Lsh
      rw [sm, rp, rp, rp, rp]
      exact ⟨z0, z1, z2, z3, z4⟩
    have M2 : RepM h2 (vland V (faultS x L).2.1 (faultS x L).2.2) := by
      obtain ⟨m1, ⟨m2, m2'⟩, m3, _⟩ := M
      refine ⟨S1.eq k1 (by rw [k2]), ⟨by rw [fld 0 (by decide) (by decide) (by decide)]; exact m2, by rw [fld 1 (by decide) (by decide) (by decide)]; exact m2'⟩, fun k hk j hj => ?_, fun j hj => by rw [vland_hi (by decide)]; exact g3 j hj, fun j hj => by rw [vland_hi (by decide)]; exact g4 j hj, fun j hj => by rw [vland_hi (by decide)]; exact g5 j hj, ⟨by rw [vland_hi (by decide)]; exact g6, by rw [vland_hi (by decide)]; exact g7, by rw [vland_hi (by decide)]; exact g8⟩, ⟨x, L, la + 1, g1, g2, hL, hx, g10, by omega, Or.inr ⟨by omega, hf, fun s i t n p1 p2 q1 q2 r1 r2 s1 s2 => shT_run hr p1 p2 q1 q2 r1 r2 s1 s2⟩⟩, Or.inl g9⟩
      rw [vland_lo hk, ii (72 + k) (by omega) (by omega) (by omega) (fun z => by
        have : ∀ k, k < 9 → 72 + k ∉ LX := by decide
        exact this k hk z) (fun z => by have := sgl _ z; omega)]
      exact m3 k hk j hj
    have C2 : RepC h2 1 pd (vland V (faultS x L).2.1 (faultS x L).2.2) := by
      refine ⟨⟨by rw [sm]; exact R1.1, fun k hk => ⟨by rw [rfs, f7 1 _ (Or.inr (by omega)) (Or.inl (by decide))]; exact (R1.2 k hk).1, by rw [sm]; exact (R1.2 k hk).2⟩⟩, by rw [lo 1 (by omega) (by omega) (by omega)]; exact R2, by rw [lo 1 (by omega) (by omega) (by omega)]; exact R3, fun k hk j hj => ?_, by rw [rfs]; exact f8, u1, u6, u7, u8, ⟨u2', u3⟩, fun j hj => by rw [vland_hi (by decide)]; exact u9 j hj, fun j hj => by rw [vland_hi (by decide)]; exact u10 j hj, fun j hj => by rw [vland_hi (by decide)]; exact u11 j hj, by rw [vland_hi (by decide)]; exact u12, by rw [vland_hi (by decide)]; exact u13, by rw [vland_hi (by decide)]; exact u14, ?_⟩
      · have := a1 k hk
        rw [vland_lo hk, lo _ (by omega) (by omega) (by omega)]
        exact R4 k hk j hj
      · rw [u4]
        exact shOK_of (by omega) (fun j hj => d2 _ (by rw [List.getD_eq_getElem?_getD, List.getElem?_eq_getElem hj]; exact List.getElem_mem hj)) u5 (fun s i t n p1 p2 q1 q2 r1 r2 s1 s2 => shT_run hr p1 p2 q1 q2 r1 r2 s1 s2)
    refine ⟨_, h1, h2, _, pd, p, e1, ?_, (by rcases hpp with ⟨q, q'⟩ | ⟨q, q'⟩; exact Or.inr ⟨q', q⟩; exact Or.inl ⟨q', q⟩), C2, M2, wf_land w d1 (shT_bd hr), ?_, by rw [rfs]; exact f9, LSp, o.frl fr ⟨la + 1, by omega, by rw [v012, f6]; rfl, g10⟩⟩
    · rw [e2, if_pos hf, if_pos hf, r71, l3, il1, iz_add]
    · intro j p1 p2
      rw [vland_hi (by decide)]
      exact d1.1 9 (Or.inl rfl) j
  · rw [if_neg hf] at f6 f8 f9
    obtain ⟨g1, g2, g3⟩ := cF hf
    have f7' : ∀ i k, h2.2.2.2 i k = h.2.2.2 i k := fun i k => by
      rw [rfs]
      by_cases z : i = 1 ∧ k = 0
      · rw [z.1, z.2, f8]; exact R5.symm
      · by_cases z2 : i = 0 ∧ k = 3
        · rw [z2.1, z2.2, f9]; exact r.2.2.2.2.2.1.symm
        · exact f7 i k (by omega) (by omega)
    have rf : h2.2.2.2 = h.2.2.2 := funext fun i => funext fun k => f7' i k
    have lo : ∀ i, 1 ≤ i → i ≤ 43 → (i < pd ∨ pd + 4 < i) → h2.2.1 i = h.2.1 i := fun i a c d => ii i (by omega) (by omega) d (fun z => by have := lxl i z; omega) (fun z => by have := sgl i z; omega)
    have a1 : ∀ k, k < 9 → 7 ≤ ar 1 k ∧ ar 1 k ≤ 16 := by decide
    have d4 : ∀ j, j ∈ dpF → h2.2.1 71 j = h.2.1 71 j := fun j hj => by
      by_cases z : j ∈ LNs
      · rw [g3 j z, r71]
      · refine fld j ?_ ?_ z
        · rintro rfl; exact absurd hj (by decide)
        · intro z2
          have : ∀ j, j ∈ dpF → j ∈ sgPF → j ∈ LNs := by decide
          exact z (this j hj z2)
    refine ⟨_, h1, h2, V, p, pd, e1, ?_, hpp, rep_frame r.2.1 sm (lo 1 (by omega) (by omega) (by omega)) (fun k hk => lo _ (by have := a1 k hk; omega) (by have := a1 k hk; omega) (by have := a1 k hk; omega)) (fun i hi => lo _ (by rcases hpp with ⟨q, q'⟩ | ⟨q, q'⟩ <;> omega) (by rcases hpp with ⟨q, q'⟩ | ⟨q, q'⟩ <;> omega) (by rcases hpp with ⟨q, q'⟩ | ⟨q, q'⟩ <;> omega)) (by rw [rf]) (by rw [rf]), M.pt sm rf (fun i hi => ?_) (fun j hj => by rw [g1 81 (by omega), x81]) (by rw [g2, f3 82 (by decide) (by decide) (by omega)]) d4, w, r.2.2.2.2.1, by rw [rf]; exact r.2.2.2.2.2.1, by unfold Lsh; rw [sm, rf]; exact r.2.2.2.2.2.2.1, o.frl fr ⟨la, by omega, by rw [v012, f6], by rw [d4 12 (by decide)]; exact l3⟩⟩
    · rw [e2, if_neg hf, if_neg hf]
    · by_cases z : i = 84 ∨ i = 85 ∨ i = 86
      · rw [g1 i (by omega), f3 i (by omega) (by omega) (by omega)]
      · by_cases z7 : i = 87
        · subst z7; rw [k4, f3 87 (by decide) (by decide) (by omega)]
        · refine ii i (by omega) (by omega) (by omega) (fun q => ?_) (fun q => ?_)
          · have : ∀ i, i ∈ LX → i = 71 ∨ i = 81 ∨ i = 82 ∨ i = 84 ∨ i = 85 ∨ i = 86 := by decide
            have := this i q
            omega
          · have : ∀ i, i ∈ sgQ → i = 83 ∨ 87 ≤ i := by decide
            have := this i q
            omega
end
