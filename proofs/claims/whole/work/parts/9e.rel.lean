/-! the two sides' relation -/
def X9S (h : Mem) : Prop := h.1[0]? = some (9, 0) ∧ h.2.2.2 0 0 = some 1 ∧ h.2.2.2 0 1 = some 17 ∧ h.2.2.2 0 2 = some 28 ∧ h.2.2.2 0 4 = some 44 ∧ h.2.2.2 0 5 = some 46 ∧ h.2.2.2 0 6 = some 50 ∧ h.2.2.2 0 7 = some 52 ∧ h.2.2.2 0 8 = some 55 ∧ h.2.2.2 0 9 = some 57 ∧ h.2.2.2 0 10 = some 58
def ACT (h : Mem) : Prop := h.1[55]? = some (0, 0) ∧ h.2.2.2 55 0 = some 56 ∧ h.1[56]? = some (100, 20) ∧ ∃ ran : Nat, h.2.1 55 1 = iz (ran : Int) ∧ h.2.1 71 55 = iz (ran : Int) ∧ ran ≤ 100 ∧ ∀ j : Nat, j < 20 → j < ran → h.2.1 56 j = h.2.1 106 j
def TXT (h : Mem) : Prop := ∃ (x : Nat → Int) (L : Nat), RD0 h x L ∧ h.2.1 71 13 = iz (L : Int) ∧ ∀ j : Nat, j < L → h.2.1 81 (120 + j) = iz (sb (x j))
def YRS (h : Mem) : Prop := ∃ y : Nat, y ≤ 99 ∧ h.2.1 0 13 = iz (y : Int) ∧ h.2.1 71 2 = iz (y : Int)
def LDS (h : Mem) (b : Nat) : Prop := ∃ la : Nat, la ≤ b ∧ h.2.1 0 12 = iz (la : Int) ∧ h.2.1 71 12 = iz (la : Int)
def LWk (h : Mem) (k : Nat) : Prop := ∃ w t n pr : Int, (0 ≤ w ∧ w ≤ 2) ∧ (0 ≤ t ∧ t < 4) ∧ (0 ≤ n ∧ n ≤ (if w = 0 then 99 else 999)) ∧ (0 ≤ pr ∧ pr ≤ 99) ∧ h.2.2.2 57 k = some (111 + k) ∧ h.1[111 + k]? = some (4, 0) ∧ (h.2.1 (111 + k) 0 = iz w ∧ h.2.1 (111 + k) 1 = iz t ∧ h.2.1 (111 + k) 2 = iz n ∧ h.2.1 (111 + k) 3 = iz pr) ∧ (h.2.1 102 k = iz w ∧ h.2.1 103 k = iz t ∧ h.2.1 104 k = iz n ∧ h.2.1 105 k = iz pr)
def LWS (h : Mem) : Prop := ∃ nl : Nat, nl ≤ 4 ∧ h.2.1 0 11 = iz (nl : Int) ∧ h.2.1 71 50 = iz (nl : Int) ∧ h.1[57]? = some (104, 4) ∧ h.1.length = 111 + nl ∧ ∀ k : Nat, k < nl → LWk h k
def TPk (h : Mem) (k : Nat) : Prop := h.2.2.2 58 k = some (59 + 2 * k) ∧ h.1[59 + 2 * k]? = some (7, 0) ∧ h.2.2.2 (59 + 2 * k) 0 = some (60 + 2 * k) ∧ h.1[60 + 2 * k]? = some (103, 60) ∧ ∃ s n : Int, (-1 ≤ s ∧ s ≤ 4) ∧ (0 ≤ n ∧ n ≤ 60) ∧ (s = -1 → n = 0) ∧ (h.2.1 (59 + 2 * k) 1 = iz s ∧ h.2.1 (59 + 2 * k) 2 = iz n ∧ h.2.1 107 k = iz s ∧ h.2.1 108 k = iz n) ∧ (∀ j : Nat, j < 60 → h.2.2.1 (60 + 2 * k) j = h.2.2.1 109 (60 * k + j)) ∧ (s = 1 → ∀ j : Nat, j < 60 → ∃ z : Int, (-32768 ≤ z ∧ z ≤ 32767) ∧ h.2.2.1 (60 + 2 * k) j = lz z)
def TPS (h : Mem) : Prop := h.1[58]? = some (105, 6) ∧ ∀ k : Nat, k < 6 → TPk h k
def OTH (h : Mem) (b : Nat) : Prop := X9S h ∧ (CT h 17 ∧ CT h 28) ∧ (RS h ∧ WK h ∧ DS h) ∧ ACT h ∧ TXT h ∧ YRS h ∧ LDS h b ∧ LWS h ∧ TPS h
/-- what is the same -/
def EQS (h h' : Mem) : Prop := h'.1 = h.1 ∧ (∀ i k, (k ≠ 0 ∨ (i ≠ 17 ∧ i ≠ 28)) → h'.2.2.2 i k = h.2.2.2 i k) ∧ (∀ i, (i = 0 ∨ i = 45 ∨ (55 ≤ i ∧ i ≤ 70) ∨ i = 81 ∨ 102 ≤ i) → h'.2.1 i = h.2.1 i) ∧ h'.2.1 44 1 = h.2.1 44 1 ∧ (∀ j, j ∈ [2, 12, 13, 50, 55] → h'.2.1 71 j = h.2.1 71 j) ∧ ∀ i, ((55 ≤ i ∧ i ≤ 70) ∨ i = 109) → h'.2.2.1 i = h.2.2.1 i
theorem EQS.rf {h : Mem} : EQS h h := ⟨rfl, fun _ _ _ => rfl, fun _ _ => rfl, rfl, fun _ _ => rfl, fun _ _ => rfl⟩
theorem EQS.tr {h h1 h2 : Mem} (a : EQS h h1) (b : EQS h1 h2) : EQS h h2 := ⟨b.1.trans a.1, fun i k q => (b.2.1 i k q).trans (a.2.1 i k q), fun i q => (b.2.2.1 i q).trans (a.2.2.1 i q), b.2.2.2.1.trans a.2.2.2.1, fun j q => (b.2.2.2.2.1 j q).trans (a.2.2.2.2.1 j q), fun i q => (b.2.2.2.2.2 i q).trans (a.2.2.2.2.2 i q)⟩
theorem CT.eqs {h h' : Mem} {c : Nat} (t : CT h c) (e : EQS h h') : CT h' c := ⟨by rw [e.1]; exact t.1, fun k hk => ⟨by rw [e.2.1 c (k + 3) (Or.inl (by omega))]; exact (t.2 k hk).1, by rw [e.1]; exact (t.2 k hk).2⟩⟩
theorem TPk.eqs {h h' : Mem} {k : Nat} (hk : k < 6) (t : TPk h k) (e : EQS h h') : TPk h' k := by
  obtain ⟨t1, t2, t3, t4, s, n, t5, t6, t7, t8, t9, t10⟩ := t
  refine ⟨by rw [e.2.1 58 k (Or.inr (by decide))]; exact t1, by rw [e.1]; exact t2, by rw [e.2.1 (59 + 2 * k) 0 (Or.inr (by omega))]; exact t3, by rw [e.1]; exact t4, s, n, t5, t6, t7, ?_, fun j hj => ?_, fun hs j hj => ?_⟩
  · rw [e.2.2.1 (59 + 2 * k) (by omega), e.2.2.1 107 (by omega), e.2.2.1 108 (by omega)]; exact t8
  · rw [e.2.2.2.2.2 (60 + 2 * k) (by omega), e.2.2.2.2.2 109 (by omega)]; exact t9 j hj
  · rw [e.2.2.2.2.2 (60 + 2 * k) (by omega)]; exact t10 hs j hj
theorem LWk.eqs {h h' : Mem} {k : Nat} (t : LWk h k) (e : EQS h h') : LWk h' k := by
  obtain ⟨w, t', n, pr, a1, a2, a3, a4, a5, a6, a7, a8⟩ := t
  refine ⟨w, t', n, pr, a1, a2, a3, a4, by rw [e.2.1 57 k (Or.inr (by decide))]; exact a5, by rw [e.1]; exact a6, by rw [e.2.2.1 (111 + k) (by omega)]; exact a7, ?_⟩
  rw [e.2.2.1 102 (by omega), e.2.2.1 103 (by omega), e.2.2.1 104 (by omega), e.2.2.1 105 (by omega)]; exact a8
theorem OTH.eqs {h h' : Mem} {b : Nat} (o : OTH h b) (e : EQS h h') : OTH h' b := by
  obtain ⟨⟨x1, x2⟩, ⟨c1, c2⟩, ⟨r1, r2, r3⟩, ⟨a1, a2, a3, ran, a4, a5, a6, a7⟩, ⟨x, L, t1, t2, t3⟩, ⟨y, y1, y2, y3⟩, ⟨la, l1, l2, l3⟩, ⟨nl, n1, n2, n3, n4, n5, n6⟩, p1, p2⟩ := o
  have f0 : ∀ k, h'.2.2.2 0 k = h.2.2.2 0 k := fun k => e.2.1 0 k (Or.inr (by decide))
  refine ⟨⟨by rw [e.1]; exact x1, ?_⟩, ⟨c1.eqs e, c2.eqs e⟩, ⟨?_, ?_, ?_⟩, ⟨by rw [e.1]; exact a1, by rw [e.2.1 55 0 (Or.inr (by decide))]; exact a2, by rw [e.1]; exact a3, ran, by rw [e.2.2.1 55 (by omega)]; exact a4, by rw [e.2.2.2.2.1 55 (by decide)]; exact a5, a6, fun j hj hr => by rw [e.2.2.1 56 (by omega), e.2.2.1 106 (by omega)]; exact a7 j hj hr⟩, ⟨x, L, ?_, by rw [e.2.2.2.2.1 13 (by decide)]; exact t2, fun j hj => by rw [e.2.2.1 81 (by omega)]; exact t3 j hj⟩, ⟨y, y1, by rw [e.2.2.1 0 (by omega)]; exact y2, by rw [e.2.2.2.2.1 2 (by decide)]; exact y3⟩, ⟨la, l1, by rw [e.2.2.1 0 (by omega)]; exact l2, by rw [e.2.2.2.2.1 12 (by decide)]; exact l3⟩, ⟨nl, n1, by rw [e.2.2.1 0 (by omega)]; exact n2, by rw [e.2.2.2.2.1 50 (by decide)]; exact n3, by rw [e.1]; exact n4, by rw [e.1]; exact n5, fun k hk => (n6 k hk).eqs e⟩, ⟨by rw [e.1]; exact p1, fun k hk => (p2 k hk).eqs hk e⟩⟩
  · rw [f0, f0, f0, f0, f0, f0, f0, f0, f0, f0]; exact x2
  · unfold RS at *
    rw [e.1, e.2.1 46 0 (Or.inr (by decide)), e.2.1 46 1 (Or.inr (by decide)), e.2.1 46 2 (Or.inr (by decide))]; exact r1
  · unfold WK at *
    rw [e.1, e.2.1 50 0 (Or.inr (by decide))]; exact r2
  · unfold DS at *
    rw [e.1, e.2.1 52 0 (Or.inr (by decide)), e.2.1 52 1 (Or.inr (by decide))]; exact r3
  · unfold RD0 at *
    rw [e.1, e.2.1 44 0 (Or.inr (by decide)), e.2.2.1 45 (by omega), e.2.2.2.1]; exact t1
def LK (V : Vw) : Prop := ∀ j : Int, 0 ≤ j → j < 12 → 0 ≤ va V 9 j ∧ va V 9 j ≤ 999
def PP (p pd : Nat) : Prop := (p = 2 ∧ pd = 39) ∨ (p = 39 ∧ pd = 2)
def REL (h : Mem) (V : Vw) (p pd b : Nat) : Prop := PP p pd ∧ RepC h 1 p V ∧ RepM h V ∧ WF V ∧ LK V ∧ h.2.2.2 0 3 = some pd ∧ Lsh h pd ∧ OTH h b
theorem Lsh.eqs {h h' : Mem} {p : Nat} (hp : p = 2 ∨ p = 39) (l : Lsh h p) (e : EQS h h') : Lsh h' p := by
  unfold Lsh at *
  rw [e.1, e.2.1 p 0 (Or.inr (by omega)), e.2.1 p 1 (Or.inr (by omega)), e.2.1 p 2 (Or.inr (by omega)), e.2.1 p 6 (Or.inr (by omega))]; exact l
-- frames give it
theorem ar_lt {c k : Nat} (q : CC c) (hk : k < 10) : 1 ≤ ar c k ∧ ar c k ≤ 38 := by
  rcases q with rfl | rfl | rfl <;> unfold ar <;> split <;> omega
theorem KC.eqs {c : Nat} {h h' : Mem} (q : CC c) (k : KC c h h') : EQS h h' := by
  have a1 := ar_lt (k := 1) q (by decide)
  have a7 := ar_lt (k := 7) q (by decide)
  have a9 := ar_lt (k := 9) q (by decide)
  exact ⟨k.1, fun i j _ => by rw [k.2.1], fun i hi => k.2.2.2 i (by omega) (by omega) (by omega) (by omega) (by omega) (by omega), by rw [k.2.2.2 44 (by omega) (by omega) (by omega) (by omega) (by omega) (by omega)], fun j _ => by rw [k.2.2.2 71 (by omega) (by omega) (by omega) (by omega) (by omega) (by omega)], fun i hi => k.2.2.1 i (by omega)⟩
theorem BF.eqs {c : Nat} {h h' : Mem} (q : c = 17 ∨ c = 28) (k : BF c h h') (t : CT h' c) (t0 : CT h c) (h3 : ∀ j, 1 ≤ j → h'.2.2.2 c j = h.2.2.2 c j) : EQS h h' := by
  have qc : CC c := by rcases q with rfl | rfl; exact Or.inr (Or.inl rfl); exact Or.inr (Or.inr rfl)
  have a : ∀ k, k < 9 → 1 ≤ ar c k ∧ ar c k ≤ 38 := fun k hk => ar_lt qc (by omega)
  have ni : ∀ i, (i = 0 ∨ 44 ≤ i) → h'.2.1 i = h.2.1 i := fun i hi => k.2.2.1 i (by omega) (fun j hj => by have := a j hj; omega)
  refine ⟨k.1, fun i j hij => ?_, fun i hi => ni i (by omega), by rw [ni 44 (by omega)], fun j _ => by rw [ni 71 (by omega)], fun i _ => by rw [k.2.1]⟩
  by_cases hc : i = c
  · subst hc
    exact h3 j (by omega)
  · rw [k.2.2.2 i hc]
def SX : List Nat := [83, 87, 88, 89, 90, 91, 92, 73, 93, 79, 94, 95, 96, 97, 74, 75, 76, 98, 99, 100, 101, 77, 84]
theorem SK_SX : ∀ i, i ∈ SK → i ∈ SX := by decide
theorem SR_SX : ∀ i, i ∈ SR → i ∈ SX := by decide
theorem SE_SX : ∀ i, i ∈ SE → i ∈ SX := by decide
theorem SV_SX : ∀ i, i ∈ SV → i ∈ SX := by decide
theorem SP_SX : ∀ i, i ∈ SP → i ∈ SX := by decide
theorem SX_bd : ∀ i, i ∈ SX → 73 ≤ i ∧ i ≤ 101 ∧ i ≠ 81 := by decide
theorem pf_no : ∀ j, j ∈ [2, 12, 13, 50, 55] → j ∉ pfM := by decide
theorem FM.eqs {h h' : Mem} (k : FM SX h h') : EQS h h' := by
  refine ⟨k.1, fun i j _ => by rw [k.2.1], fun i hi => k.2.2.2.1 i (by omega) (fun z => by have := SX_bd i z; omega), ?_, fun j hj => k.2.2.2.2 j (pf_no j hj), fun i hi => k.2.2.1 i (fun z => by have := SX_bd i z; omega)⟩
  rw [k.2.2.2.1 44 (by decide) (by decide)]
/-- the model's own work leaves the class's country -/
theorem FM.repC {h h' : Mem} {c p : Nat} {V : Vw} (k : FM SX h h') (q : CP c p) (R : RepC h c p V) : RepC h' c p V := by
  have n : ∀ i, i ≤ 70 → h'.2.1 i = h.2.1 i := fun i hi => k.2.2.2.1 i (by omega) (fun z => by have := SX_bd i z; omega)
  have hc : CC c := q.1
  have hp := q.2
  refine rep_frame R k.1 (n c (by rcases hc with rfl | rfl | rfl <;> decide)) (fun j hj => n _ (by have := ar_lt (k := j) hc (by omega); omega)) (fun i hi => n _ (by omega)) (by rw [k.2.1]) (by rw [k.2.1])
/-- and the class's leaves the model -/
theorem RepM.lo {h h' : Mem} {V : Vw} (R : RepM h V) (e1 : h'.1 = h.1) (e2 : h'.2.2.2 71 = h.2.2.2 71) (e3 : ∀ i, 71 ≤ i → h'.2.1 i = h.2.1 i) : RepM h' V := by
  have S : MSh h' := by
    obtain ⟨s1, s2⟩ := R.1
    exact ⟨by rw [e1]; exact s1, fun q hq => ⟨by rw [e2]; exact (s2 q hq).1, by rw [e1]; exact (s2 q hq).2⟩⟩
  obtain ⟨r1, r2, r3, r4, r5, r6, r7, r8, r9⟩ := R
  refine ⟨S, by rw [e3 71 (by omega)]; exact r2, fun k hk j hj => by rw [e3 (72 + k) (by omega)]; exact r3 k hk j hj, fun j hj => by rw [e3 84 (by omega)]; exact r4 j hj, fun j hj => by rw [e3 85 (by omega)]; exact r5 j hj, fun j hj => by rw [e3 86 (by omega)]; exact r6 j hj, by rw [e3 71 (by omega)]; exact r7, ?_, ?_⟩
  · unfold GOES at *; rw [e3 81 (by omega), e3 82 (by omega), e3 71 (by omega)]; exact r8
  · unfold cacheOK at *; rw [e3 71 (by omega), e3 87 (by omega)]; exact r9
theorem KC.repM {c : Nat} {h h' : Mem} {V : Vw} (q : CC c) (k : KC c h h') (R : RepM h V) : RepM h' V := by
  have a1 := ar_lt (k := 1) q (by decide)
  have a7 := ar_lt (k := 7) q (by decide)
  have a9 := ar_lt (k := 9) q (by decide)
  exact R.lo k.1 (by rw [k.2.1]) (fun i hi => k.2.2.2 i (by omega) (by omega) (by omega) (by omega) (by omega) (by omega))
section
variable {h : Mem} {γ : Type}
theorem kn0 (S : X9S h) {k : Nat → Option γ} : (gR h 0 9 0).bind k = k 1 := bo (gR_q S.1 S.2.1)
theorem kn1 (S : X9S h) {k : Nat → Option γ} : (gR h 0 9 1).bind k = k 17 := bo (gR_q S.1 S.2.2.1)
theorem kn2 (S : X9S h) {k : Nat → Option γ} : (gR h 0 9 2).bind k = k 28 := bo (gR_q S.1 S.2.2.2.1)
theorem kn4 (S : X9S h) {k : Nat → Option γ} : (gR h 0 9 4).bind k = k 44 := bo (gR_q S.1 S.2.2.2.2.1)
theorem kn5 (S : X9S h) {k : Nat → Option γ} : (gR h 0 9 5).bind k = k 46 := bo (gR_q S.1 S.2.2.2.2.2.1)
theorem kn6 (S : X9S h) {k : Nat → Option γ} : (gR h 0 9 6).bind k = k 50 := bo (gR_q S.1 S.2.2.2.2.2.2.1)
theorem kn7 (S : X9S h) {k : Nat → Option γ} : (gR h 0 9 7).bind k = k 52 := bo (gR_q S.1 S.2.2.2.2.2.2.2.1)
theorem kn8 (S : X9S h) {k : Nat → Option γ} : (gR h 0 9 8).bind k = k 55 := bo (gR_q S.1 S.2.2.2.2.2.2.2.2.1)
theorem kn9 (S : X9S h) {k : Nat → Option γ} : (gR h 0 9 9).bind k = k 57 := bo (gR_q S.1 S.2.2.2.2.2.2.2.2.2.1)
theorem kn10 (S : X9S h) {k : Nat → Option γ} : (gR h 0 9 10).bind k = k 58 := bo (gR_q S.1 S.2.2.2.2.2.2.2.2.2.2)
theorem knC (S : X9S h) {k : Unit → Option γ} : (ck h 0 9).bind k = k () := bo (ck_q S.1)
theorem knI (S : X9S h) {j : Nat} {k : Int32 → Option γ} : (gI h 0 9 j).bind k = k (h.2.1 0 j) := bo (gI_q S.1)
end
theorem REL.cp {h : Mem} {V : Vw} {p pd b : Nat} (r : REL h V p pd b) : CP 1 p := ⟨Or.inl rfl, by rcases r.1 with ⟨q, _⟩ | ⟨q, _⟩ <;> omega⟩
theorem REL.pd {h : Mem} {V : Vw} {p pd b : Nat} (r : REL h V p pd b) : pd = 2 ∨ pd = 39 := by rcases r.1 with ⟨_, q⟩ | ⟨_, q⟩ <;> omega
theorem c1 : CC 1 := Or.inl rfl
theorem c17 : CC 17 := Or.inr (Or.inl rfl)
theorem c28 : CC 28 := Or.inr (Or.inr rfl)
/-- a class's call that leaves the view -/
theorem REL.kc {h h' : Mem} {V V' : Vw} {p pd b : Nat} (r : REL h V p pd b) (k : KC 1 h h') (R : RepC h' 1 p V') (w : WF V') (lk : va V' 9 = va V 9) : PP p pd ∧ RepC h' 1 p V' ∧ RepM h' V ∧ WF V' ∧ LK V' ∧ h'.2.2.2 0 3 = some pd ∧ Lsh h' pd ∧ OTH h' b := by
  have e := k.eqs c1
  exact ⟨r.1, R, k.repM c1 r.2.2.1, w, by unfold LK; rw [lk]; exact r.2.2.2.2.1, by rw [k.2.1]; exact r.2.2.2.2.2.1, r.2.2.2.2.2.2.1.eqs r.pd e, r.2.2.2.2.2.2.2.eqs e⟩
/-- then the model's -/
theorem REL.fm {h h' : Mem} {V V' : Vw} {p pd b : Nat} (r : PP p pd ∧ RepC h 1 p V' ∧ RepM h V ∧ WF V' ∧ LK V' ∧ h.2.2.2 0 3 = some pd ∧ Lsh h pd ∧ OTH h b) (k : FM SX h h') (R : RepM h' V') : REL h' V' p pd b := by
  obtain ⟨r1, r2, r3, r4, r5, r6, r7, r8⟩ := r
  have cp : CP 1 p := ⟨Or.inl rfl, by rcases r1 with ⟨q, _⟩ | ⟨q, _⟩ <;> omega⟩
  have pd' : pd = 2 ∨ pd = 39 := by rcases r1 with ⟨_, q⟩ | ⟨_, q⟩ <;> omega
  exact ⟨r1, k.repC cp r2, R, r4, r5, by rw [k.2.1]; exact r6, r7.eqs pd' k.eqs, r8.eqs k.eqs⟩
