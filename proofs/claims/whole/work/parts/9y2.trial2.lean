/-! what work on the trial and the rival leaves -/
def TF (h h' : Mem) : Prop := h'.1 = h.1 ∧ (∀ i, i ≠ 17 → i ≠ 28 → h'.2.2.2 i = h.2.2.2 i) ∧ (∀ i, i ≠ 51 → h'.2.2.1 i = h.2.2.1 i) ∧ ∀ i, (i ≤ 16 ∨ (39 ≤ i ∧ i ≤ 46) ∨ 50 ≤ i) → h'.2.1 i = h.2.1 i
theorem TF.rf {h : Mem} : TF h h := ⟨rfl, fun _ _ _ => rfl, fun _ _ => rfl, fun _ _ => rfl⟩
theorem TF.tr {h h1 h2 : Mem} (a : TF h h1) (b : TF h1 h2) : TF h h2 := ⟨b.1.trans a.1, fun i x y => (b.2.1 i x y).trans (a.2.1 i x y), fun i q => (b.2.2.1 i q).trans (a.2.2.1 i q), fun i q => (b.2.2.2 i q).trans (a.2.2.2 i q)⟩
theorem ar_tr {c k : Nat} (q : c = 17 ∨ c = 28) (hk : k < 10) : 18 ≤ ar c k ∧ ar c k ≤ 38 := by
  rcases q with rfl | rfl <;> unfold ar <;> split <;> omega
theorem KC.tf {c : Nat} {h h' : Mem} (q : c = 17 ∨ c = 28) (k : KC c h h') : TF h h' := by
  have a1 := ar_tr (k := 1) q (by decide)
  have a7 := ar_tr (k := 7) q (by decide)
  have a9 := ar_tr (k := 9) q (by decide)
  exact ⟨k.1, fun i _ _ => by rw [k.2.1], k.2.2.1, fun i hi => k.2.2.2 i (by omega) (by omega) (by omega) (by omega) (by omega) (by omega)⟩
theorem KU.tf {c : Nat} {h h' : Mem} (q : c = 17 ∨ c = 28) (k : KU c h h') : TF h h' := by
  have a1 := ar_tr (k := 1) q (by decide)
  have a7 := ar_tr (k := 7) q (by decide)
  have a9 := ar_tr (k := 9) q (by decide)
  exact ⟨k.1, fun i _ _ => by rw [k.2.1], fun i _ => by rw [k.2.2.1], fun i hi => k.2.2.2 i (by omega) (by omega) (by omega)⟩
theorem BF.tf {c : Nat} {h h' : Mem} (q : c = 17 ∨ c = 28) (k : BF c h h') : TF h h' := by
  have a : ∀ j, j < 9 → 18 ≤ ar c j ∧ ar c j ≤ 38 := fun j hj => ar_tr q (by omega)
  exact ⟨k.1, fun i x y => k.2.2.2 i (by omega), fun i _ => by rw [k.2.1], fun i hi => k.2.2.1 i (by omega) (fun j hj => by have := a j hj; omega)⟩
theorem REL.tf {h h' : Mem} {V : Vw} {p pd b : Nat} (r : REL h V p pd b) (e : TF h h') (t17 : CT h' 17) (t28 : CT h' 28) : REL h' V p pd b := by
  have cp := r.cp
  have pd' := r.pd
  obtain ⟨r1, r2, r3, r4, r5, r6, r7, ⟨x1, x2⟩, _, ⟨s1, k1, d1⟩, ⟨a1, a2, a3, ran, a4, a5, a6, a7⟩, ⟨x, L, t0, t1, t2⟩, ⟨y, y1, y2, y3⟩, ⟨la, la1, la2, la3⟩, ⟨nl, n1, n2, n3, n4, n5, n6⟩, p1, p2⟩ := r
  obtain ⟨e1, rf, e2, g⟩ := e
  have hp := cp.2
  have rp : h'.2.2.2 p = h.2.2.2 p := rf p (by omega) (by omega)
  have a16 : ∀ k, k < 9 → ar 1 k ≤ 16 := by decide
  refine ⟨r1, rep_frame r2 e1 (g 1 (by omega)) (fun j hj => g _ (by have := a16 j hj; omega)) (fun i hi => g _ (by omega)) (rf 1 (by decide) (by decide)) rp, r3.lo e1 (rf 71 (by decide) (by decide)) (fun i hi => g i (by omega)), r4, r5, by rw [rf 0 (by decide) (by decide)]; exact r6, by unfold Lsh at *; rw [e1, rf pd (by omega) (by omega)]; exact r7, ⟨by rw [e1]; exact x1, by rw [rf 0 (by decide) (by decide)]; exact x2⟩, ⟨t17, t28⟩, ⟨by unfold RS at *; rw [e1, rf 46 (by decide) (by decide)]; exact s1, by unfold WK at *; rw [e1, rf 50 (by decide) (by decide)]; exact k1, by unfold DS at *; rw [e1, rf 52 (by decide) (by decide)]; exact d1⟩, ⟨by rw [e1]; exact a1, by rw [rf 55 (by decide) (by decide)]; exact a2, by rw [e1]; exact a3, ran, by rw [g 55 (by omega)]; exact a4, by rw [g 71 (by omega)]; exact a5, a6, fun j hj hr => by rw [g 56 (by omega), g 106 (by omega)]; exact a7 j hj hr⟩, ⟨x, L, by unfold RD0 at *; rw [e1, rf 44 (by decide) (by decide), g 44 (by omega), g 45 (by omega)]; exact t0, by rw [g 71 (by omega)]; exact t1, fun j hj => by rw [g 81 (by omega)]; exact t2 j hj⟩, ⟨y, y1, by rw [g 0 (by omega)]; exact y2, by rw [g 71 (by omega)]; exact y3⟩, ⟨la, la1, by rw [g 0 (by omega)]; exact la2, by rw [g 71 (by omega)]; exact la3⟩, ⟨nl, n1, by rw [g 0 (by omega)]; exact n2, by rw [g 71 (by omega)]; exact n3, by rw [e1]; exact n4, by rw [e1]; exact n5, fun k hk => ?_⟩, by rw [e1]; exact p1, fun k hk => ?_⟩
  · obtain ⟨w, t', n, pr, q1, q2, q3, q4, q5, q6, q7, q8⟩ := n6 k hk
    refine ⟨w, t', n, pr, q1, q2, q3, q4, by rw [rf 57 (by decide) (by decide)]; exact q5, by rw [e1]; exact q6, by rw [g (111 + k) (by omega)]; exact q7, ?_⟩
    rw [g 102 (by omega), g 103 (by omega), g 104 (by omega), g 105 (by omega)]; exact q8
  · obtain ⟨w1, w2, w3, w4, s, n, w5, w6, w7, w8, w12, w13⟩ := p2 k hk
    refine ⟨by rw [rf 58 (by decide) (by decide)]; exact w1, by rw [e1]; exact w2, by rw [rf (59 + 2 * k) (by omega) (by omega)]; exact w3, by rw [e1]; exact w4, s, n, w5, w6, w7, ?_, fun j hj => by rw [e2 _ (by omega), e2 _ (by omega)]; exact w12 j hj, fun q j hj => by rw [e2 _ (by omega)]; exact w13 q j hj⟩
    rw [g (59 + 2 * k) (by omega), g 107 (by omega), g 108 (by omega)]; exact w8
theorem CT.tf {h h' : Mem} {c : Nat} (t : CT h c) (e1 : h'.1 = h.1) (e2 : h'.2.2.2 c = h.2.2.2 c) : CT h' c := by
  unfold CT at *
  rw [e1, e2]
  exact t
/-- the trial becomes the land in force -/
theorem become17 {h : Mem} {V : Vw} {p pd b N : Nat} (r : REL h V p pd b) : ∃ h', f_X1_become N 17 1 h = some h' ∧ RepC h' 17 p V ∧ REL h' V p pd b ∧ TF h h' := by
  have c := r.2.2.2.2.2.2.2.2.1
  obtain ⟨h', e, R1, R2, B⟩ := l_become (N := N) r.2.1 c1 c17 (by decide) r.cp.2 c.1
  have t := B.tf (Or.inl rfl)
  exact ⟨h', e, R2, r.tf t R2.1 (c.2.tf B.1 (B.2.2.2 28 (by decide))), t⟩
theorem become28 {h : Mem} {V : Vw} {p pd b N : Nat} (r : REL h V p pd b) : ∃ h', f_X1_become N 28 1 h = some h' ∧ RepC h' 28 p V ∧ REL h' V p pd b ∧ TF h h' := by
  have c := r.2.2.2.2.2.2.2.2.1
  obtain ⟨h', e, R1, R2, B⟩ := l_become (N := N) r.2.1 c1 c28 (by decide) r.cp.2 c.2
  have t := B.tf (Or.inr rfl)
  exact ⟨h', e, R2, r.tf t (c.1.tf B.1 (B.2.2.2 17 (by decide))) R2.1, t⟩
