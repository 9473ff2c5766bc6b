def EQT (h h' : Mem) : Prop := h'.1 = h.1 ∧ h'.2.2.2 = h.2.2.2 ∧ (∀ i, (i ≤ 58 ∨ (71 ≤ i ∧ i ≤ 106) ∨ 111 ≤ i) → h'.2.1 i = h.2.1 i) ∧ ∀ i, (i ≤ 58) → h'.2.2.1 i = h.2.2.1 i
theorem EQT.tr {h h1 h2 : Mem} (a : EQT h h1) (b : EQT h1 h2) : EQT h h2 := ⟨b.1.trans a.1, b.2.1.trans a.2.1, fun i q => (b.2.2.1 i q).trans (a.2.2.1 i q), fun i q => (b.2.2.2 i q).trans (a.2.2.2 i q)⟩
theorem OTH.eqt {h h' : Mem} {b : Nat} (o : OTH h b) (e : EQT h h') (tp : TPS h') : OTH h' b := by
  obtain ⟨⟨x1, x2⟩, ⟨c1, c2⟩, ⟨r1, r2, r3⟩, ⟨a1, a2, a3, ran, a4, a5, a6, a7⟩, ⟨x, L, t1, t2, t3⟩, ⟨y, y1, y2, y3⟩, ⟨la, l1, l2, l3⟩, ⟨nl, n1, n2, n3, n4, n5, n6⟩, p1, p2⟩ := o
  have ct : ∀ c, CT h c → CT h' c := fun c t => by unfold CT at *; rw [e.1, e.2.1]; exact t
  refine ⟨⟨by rw [e.1]; exact x1, by rw [e.2.1]; exact x2⟩, ⟨ct _ c1, ct _ c2⟩, ⟨?_, ?_, ?_⟩, ⟨by rw [e.1]; exact a1, by rw [e.2.1]; exact a2, by rw [e.1]; exact a3, ran, by rw [e.2.2.1 55 (by omega)]; exact a4, by rw [e.2.2.1 71 (by omega)]; exact a5, a6, fun j hj hr => by rw [e.2.2.1 56 (by omega), e.2.2.1 106 (by omega)]; exact a7 j hj hr⟩, ⟨x, L, ?_, by rw [e.2.2.1 71 (by omega)]; exact t2, fun j hj => by rw [e.2.2.1 81 (by omega)]; exact t3 j hj⟩, ⟨y, y1, by rw [e.2.2.1 0 (by omega)]; exact y2, by rw [e.2.2.1 71 (by omega)]; exact y3⟩, ⟨la, l1, by rw [e.2.2.1 0 (by omega)]; exact l2, by rw [e.2.2.1 71 (by omega)]; exact l3⟩, ⟨nl, n1, by rw [e.2.2.1 0 (by omega)]; exact n2, by rw [e.2.2.1 71 (by omega)]; exact n3, by rw [e.1]; exact n4, by rw [e.1]; exact n5, fun k hk => ?_⟩, tp⟩
  · unfold RS at *; rw [e.1, e.2.1]; exact r1
  · unfold WK at *; rw [e.1, e.2.1]; exact r2
  · unfold DS at *; rw [e.1, e.2.1]; exact r3
  · unfold RD0 at *; rw [e.1, e.2.1, e.2.2.1 45 (by omega), e.2.2.1 44 (by omega)]; exact t1
  · obtain ⟨w, t', n, pr, q1, q2, q3, q4, q5, q6, q7, q8⟩ := n6 k hk
    refine ⟨w, t', n, pr, q1, q2, q3, q4, by rw [e.2.1]; exact q5, by rw [e.1]; exact q6, by rw [e.2.2.1 (111 + k) (by omega)]; exact q7, ?_⟩
    rw [e.2.2.1 102 (by omega), e.2.2.1 103 (by omega), e.2.2.1 104 (by omega), e.2.2.1 105 (by omega)]; exact q8
theorem REL.eqt {h h' : Mem} {V : Vw} {p pd b : Nat} (r : REL h V p pd b) (e : EQT h h') (tp : TPS h') : REL h' V p pd b := by
  obtain ⟨r1, r2, r3, r4, r5, r6, r7, r8⟩ := r
  have cp : CP 1 p := ⟨Or.inl rfl, by rcases r1 with ⟨q, _⟩ | ⟨q, _⟩ <;> omega⟩
  have hp := cp.2
  refine ⟨r1, ?_, ?_, r4, r5, by rw [e.2.1]; exact r6, by unfold Lsh at *; rw [e.1, e.2.1]; exact r7, r8.eqt e tp⟩
  · exact rep_frame r2 e.1 (e.2.2.1 1 (by omega)) (fun j hj => e.2.2.1 _ (by have := ar_lt (k := j) c1 (by omega); omega)) (fun i hi => e.2.2.1 _ (by omega)) (by rw [e.2.1]) (by rw [e.2.1])
  · exact r3.congr e.1 e.2.1 (fun i hi => e.2.2.1 i (by
      have : ∀ i, i ∈ dpM → 71 ≤ i ∧ i ≤ 106 := by decide
      have := this i hi; omega)) (fun j _ => by rw [e.2.2.1 71 (by omega)])
theorem REL.kmid {h h' : Mem} {V : Vw} {p pd b : Nat} (r : REL h V p pd b) (e : EQT h h') : RepM h' V := by
  exact r.2.2.1.congr e.1 e.2.1 (fun i hi => e.2.2.1 i (by
      have : ∀ i, i ∈ dpM → 71 ≤ i ∧ i ≤ 106 := by decide
      have := this i hi; omega)) (fun j _ => by rw [e.2.2.1 71 (by omega)])
section
variable {h : Mem} {V : Vw} {p pd b N : Nat}
theorem l_isTape {k : Int} (h1 : -2147483648 ≤ k) (h2 : k < 2147483648) : f_X9_isTape N (iz k) h = some (iz (bi (decide (0 ≤ k ∧ k ≤ 5))), h) := by
  have e := l_within (N := N) (h := h) (a := k) (b := 0) (c := 5) (by omega) (by omega) h1 h2
  unfold f_X9_isTape
  simp (disch := omega) only [il0, il1, il2, il3, il4, il5, il6, il7, il8, il9, il10, il11, il12, il13, il14, il15, il16, il17, il18, il19, il20, il21, il22, il23, il24, il25, il26, il27, il28, il29, il30, il31, il32, il33, il36, il38, il39, il40, il41, il48, il50, il51, il57, il59, il60, il61, il62, il63, il70, il96, il99, il100, il101, il102, il103, il104, il105, il106, il107, il108, il109, il110, il111, il112, il115, il116, il120, il121, il124, il200, il240, il255, il288, il360, il420, il999, il1000, il114292, il152755, il402789, il435589, il463922, il533611, il631470, ↓bq e]
  exact rz_bi
theorem m_isTape (S : MSh h) {k : Int} (h1 : -2147483648 ≤ k) (h2 : k < 2147483648) : f_X10_isTape N 71 (iz k) h = some (iz (bi (decide (0 ≤ k ∧ k ≤ 5))), h) := by
  have e := m_inB (N := N) (h := h) (a := k) (b := 0) (c := 5) (by omega) (by omega) h1 h2
  unfold f_X10_isTape
  simp (disch := omega) only [il0, il1, il2, il3, il4, il5, il6, il7, il8, il9, il10, il11, il12, il13, il14, il15, il16, il17, il18, il19, il20, il21, il22, il23, il24, il25, il26, il27, il28, il29, il30, il31, il32, il33, il36, il38, il39, il40, il41, il48, il50, il51, il57, il59, il60, il61, il62, il63, il70, il96, il99, il100, il101, il102, il103, il104, il105, il106, il107, il108, il109, il110, il111, il112, il115, il116, il120, il121, il124, il200, il240, il255, il288, il360, il420, il999, il1000, il114292, il152755, il402789, il435589, il463922, il533611, il631470, ↓kmC S, ↓bq e]
  exact rz_bi
theorem under_e {n : Nat} {k q : Int} (hk : 0 ≤ k ∧ k ≤ 5) (hq : 0 ≤ q ∧ q ≤ 5) : f_X6_isUnder (n + 7) (iz k) (iz q) h = some (iz (bi (decide (q = 0 ∨ k = q ∨ (q = 1 ∧ 1 < k) ∨ (q = 2 ∧ k = 4)))), h) := by
  rcases (show k = 0 ∨ k = 1 ∨ k = 2 ∨ k = 3 ∨ k = 4 ∨ k = 5 by omega) with rfl | rfl | rfl | rfl | rfl | rfl <;> rcases (show q = 0 ∨ q = 1 ∨ q = 2 ∨ q = 3 ∨ q = 4 ∨ q = 5 by omega) with rfl | rfl | rfl | rfl | rfl | rfl <;> rfl
theorem m_taken_e {k q : Int} (hk : 0 ≤ k ∧ k ≤ 5) (hq : 0 ≤ q ∧ q ≤ 5) : (if iz q = (0 : Int32) then f_X10_taken_55 N (iz k) h else if iz k = iz q then f_X10_taken_55 N (iz k) h else if iz q = (1 : Int32) then (if (1 : Int32) < iz k then f_X10_taken_55 N (iz k) h else f_X10_taken_45 N (iz k) (iz q) h (fun v1 h => f_X10_taken_55 N v1 h)) else f_X10_taken_45 N (iz k) (iz q) h (fun v1 h => f_X10_taken_55 N v1 h)) = some (if q = 0 ∨ k = q ∨ (q = 1 ∧ 1 < k) ∨ (q = 2 ∧ k = 4) then iz k else iz (-12), h) := by
  rcases (show k = 0 ∨ k = 1 ∨ k = 2 ∨ k = 3 ∨ k = 4 ∨ k = 5 by omega) with rfl | rfl | rfl | rfl | rfl | rfl <;> rcases (show q = 0 ∨ q = 1 ∨ q = 2 ∨ q = 3 ∨ q = 4 ∨ q = 5 by omega) with rfl | rfl | rfl | rfl | rfl | rfl <;> rfl
theorem t_taken (hN : 300 ≤ N) (r : REL h V p pd b) (v1 v2 : Int32) : CAL (f_X9_taken N 0 v1 v2 h) (f_X10_taken N 71 v1 v2) b := by
  obtain ⟨k, rfl, k1, k2⟩ := int_iz v1
  obtain ⟨q, rfl, q1, q2⟩ := int_iz v2
  have M := r.2.2.1
  have a1 := l_within (N := N) (h := h) (a := q) (b := 0) (c := 5) (by omega) (by omega) q1 q2
  have a2 := l_within (N := N) (h := h) (a := k) (b := 0) (c := 5) (by omega) (by omega) k1 k2
  have b1 := m_inB (N := N) (h := h) (a := q) (b := 0) (c := 5) (by omega) (by omega) q1 q2
  have b2' := m_inB (N := N) (h := h) (a := k) (b := 0) (c := 5) (by omega) (by omega) k1 k2
  by_cases hq : 0 ≤ q ∧ q ≤ 5
  · rw [decide_eq_true hq] at a1 b1
    by_cases hk : 0 ≤ k ∧ k ≤ 5
    · rw [decide_eq_true hk] at a2 b2'
      obtain ⟨n, hn⟩ : ∃ n, N = n + 7 := ⟨N - 7, by omega⟩
      have eu := under_e (n := n) (h := h) hk hq
      rw [← hn] at eu
      refine r.same_ (z := if q = 0 ∨ k = q ∨ (q = 1 ∧ 1 < k) ∨ (q = 2 ∧ k = 4) then iz k else iz (-12)) ?_ ?_
      · unfold f_X9_taken
        rw [bq (show f_X9_within N (iz q) (0 : Int32) (5 : Int32) h = _ from a1)]
        refine (if_neg (by decide)).trans ?_
        rw [bq (show f_X9_within N (iz k) (0 : Int32) (5 : Int32) h = _ from a2)]
        refine (if_neg (by decide)).trans ?_
        rw [bq eu]
        by_cases c : q = 0 ∨ k = q ∨ (q = 1 ∧ 1 < k) ∨ (q = 2 ∧ k = 4)
        · rw [decide_eq_true c, if_pos c]; exact if_neg (by decide)
        · rw [decide_eq_false c, if_neg c]; exact if_pos (by decide)
      · unfold f_X10_taken
        rw [kmC M.1, bq (show f_X10_in N 71 (iz q) (0 : Int32) (5 : Int32) h = _ from b1)]
        refine (if_neg (by decide)).trans ?_
        rw [kmC M.1, bq (show f_X10_in N 71 (iz k) (0 : Int32) (5 : Int32) h = _ from b2')]
        refine (if_neg (by decide)).trans ?_
        exact m_taken_e hk hq
    · rw [decide_eq_false hk] at a2 b2'
      refine r.same_ (z := (-11 : Int32)) ?_ ?_
      · unfold f_X9_taken
        rw [bq (show f_X9_within N (iz q) (0 : Int32) (5 : Int32) h = _ from a1)]
        refine (if_neg (by decide)).trans ?_
        rw [bq (show f_X9_within N (iz k) (0 : Int32) (5 : Int32) h = _ from a2)]
        exact if_pos (by decide)
      · unfold f_X10_taken
        rw [kmC M.1, bq (show f_X10_in N 71 (iz q) (0 : Int32) (5 : Int32) h = _ from b1)]
        refine (if_neg (by decide)).trans ?_
        rw [kmC M.1, bq (show f_X10_in N 71 (iz k) (0 : Int32) (5 : Int32) h = _ from b2')]
        exact if_pos (by decide)
  · rw [decide_eq_false hq] at a1 b1
    refine r.same_ (z := (-2 : Int32)) ?_ ?_
    · unfold f_X9_taken
      rw [bq (show f_X9_within N (iz q) (0 : Int32) (5 : Int32) h = _ from a1)]
      exact if_pos (by decide)
    · unfold f_X10_taken
      rw [kmC M.1, bq (show f_X10_in N 71 (iz q) (0 : Int32) (5 : Int32) h = _ from b1)]
      exact if_pos (by decide)
-- one tape
theorem kt58 (t : TPS h) {k : Nat} (hk : k < 6) {γ : Type} {K : Nat → Option γ} : (lQ 105 h 58 (iz (k : Int))).bind K = K (59 + 2 * k) := bo (lQ_q t.1 (by omega) (by omega) (by decide) (by rw [toN]; exact (t.2 k hk).1))
theorem l_spans {c : Nat} (hc : h.1[c]? = some (7, 0)) {i n len : Int} (hl : h.2.1 c 2 = iz len) (h0 : 0 ≤ len ∧ len ≤ 60) (i1 : -2147483648 ≤ i) (i2 : i < 2147483648) (n1 : -2147483648 ≤ n) (n2 : n < 2147483648) : f_X7_spans N c (iz i) (iz n) h = some (iz (bi (decide (0 ≤ i ∧ 0 ≤ n ∧ n ≤ len ∧ i ≤ len - n))), h) := by
  unfold f_X7_spans
  by_cases c1 : i < 0
  · rw [decide_eq_false (by omega)]
    simp (disch := omega) only [il0, il1, il2, il3, il4, il5, il6, il7, il8, il9, il10, il11, il12, il13, il14, il15, il16, il17, il18, il19, il20, il21, il22, il23, il24, il25, il26, il27, il28, il29, il30, il31, il32, il33, il36, il38, il39, il40, il41, il48, il50, il51, il57, il59, il60, il61, il62, il63, il70, il96, il99, il100, il101, il102, il103, il104, il105, il106, il107, il108, il109, il110, il111, il112, il115, il116, il120, il121, il124, il200, il240, il255, il288, il360, il420, il999, il1000, il114292, il152755, il402789, il435589, il463922, il533611, il631470, iz_lt, c1, ↓reduceIte, bi_f]
  · by_cases c2 : n < 0
    · rw [decide_eq_false (by omega)]
      simp (disch := omega) only [il0, il1, il2, il3, il4, il5, il6, il7, il8, il9, il10, il11, il12, il13, il14, il15, il16, il17, il18, il19, il20, il21, il22, il23, il24, il25, il26, il27, il28, il29, il30, il31, il32, il33, il36, il38, il39, il40, il41, il48, il50, il51, il57, il59, il60, il61, il62, il63, il70, il96, il99, il100, il101, il102, il103, il104, il105, il106, il107, il108, il109, il110, il111, il112, il115, il116, il120, il121, il124, il200, il240, il255, il288, il360, il420, il999, il1000, il114292, il152755, il402789, il435589, il463922, il533611, il631470, iz_lt, c1, c2, ↓reduceIte, bi_f]
    · by_cases c3 : len < n
      · rw [decide_eq_false (by omega)]
        simp (disch := omega) only [il0, il1, il2, il3, il4, il5, il6, il7, il8, il9, il10, il11, il12, il13, il14, il15, il16, il17, il18, il19, il20, il21, il22, il23, il24, il25, il26, il27, il28, il29, il30, il31, il32, il33, il36, il38, il39, il40, il41, il48, il50, il51, il57, il59, il60, il61, il62, il63, il70, il96, il99, il100, il101, il102, il103, il104, il105, il106, il107, il108, il109, il110, il111, il112, il115, il116, il120, il121, il124, il200, il240, il255, il288, il360, il420, il999, il1000, il114292, il152755, il402789, il435589, il463922, il533611, il631470, iz_lt, c1, c2, ↓reduceIte, ↓bo (gI_q hc), hl, c3, bi_f]
      · by_cases c4 : len - n < i
        · rw [decide_eq_false (by omega)]
          simp (disch := omega) only [il0, il1, il2, il3, il4, il5, il6, il7, il8, il9, il10, il11, il12, il13, il14, il15, il16, il17, il18, il19, il20, il21, il22, il23, il24, il25, il26, il27, il28, il29, il30, il31, il32, il33, il36, il38, il39, il40, il41, il48, il50, il51, il57, il59, il60, il61, il62, il63, il70, il96, il99, il100, il101, il102, il103, il104, il105, il106, il107, il108, il109, il110, il111, il112, il115, il116, il120, il121, il124, il200, il240, il255, il288, il360, il420, il999, il1000, il114292, il152755, il402789, il435589, il463922, il533611, il631470, iz_lt, c1, c2, ↓reduceIte, ↓bo (gI_q hc), hl, c3, iz_sub, c4, bi_f]
        · rw [decide_eq_true (by omega)]
          simp (disch := omega) only [il0, il1, il2, il3, il4, il5, il6, il7, il8, il9, il10, il11, il12, il13, il14, il15, il16, il17, il18, il19, il20, il21, il22, il23, il24, il25, il26, il27, il28, il29, il30, il31, il32, il33, il36, il38, il39, il40, il41, il48, il50, il51, il57, il59, il60, il61, il62, il63, il70, il96, il99, il100, il101, il102, il103, il104, il105, il106, il107, il108, il109, il110, il111, il112, il115, il116, il120, il121, il124, il200, il240, il255, il288, il360, il420, il999, il1000, il114292, il152755, il402789, il435589, il463922, il533611, il631470, iz_lt, c1, c2, ↓reduceIte, ↓bo (gI_q hc), hl, c3, iz_sub, c4, bi_t]
theorem l_isNothing {c : Nat} (hc : h.1[c]? = some (7, 0)) {s : Int} (hl : h.2.1 c 1 = iz s) (hs : -1 ≤ s ∧ s ≤ 4) : f_X7_isNothing N c h = some (iz (bi (decide (s = -1))), h) := by
  unfold f_X7_isNothing
  by_cases c1 : s = -1
  · rw [decide_eq_true c1]
    simp (disch := omega) only [il0, il1, il2, il3, il4, il5, il6, il7, il8, il9, il10, il11, il12, il13, il14, il15, il16, il17, il18, il19, il20, il21, il22, il23, il24, il25, il26, il27, il28, il29, il30, il31, il32, il33, il36, il38, il39, il40, il41, il48, il50, il51, il57, il59, il60, il61, il62, il63, il70, il96, il99, il100, il101, il102, il103, il104, il105, il106, il107, il108, il109, il110, il111, il112, il115, il116, il120, il121, il124, il200, il240, il255, il288, il360, il420, il999, il1000, il114292, il152755, il402789, il435589, il463922, il533611, il631470, iz_neg, ↓bo (gI_q hc), hl, iz_eq, c1, ↓reduceIte, bi_t]
  · rw [decide_eq_false c1]
    simp (disch := omega) only [il0, il1, il2, il3, il4, il5, il6, il7, il8, il9, il10, il11, il12, il13, il14, il15, il16, il17, il18, il19, il20, il21, il22, il23, il24, il25, il26, il27, il28, il29, il30, il31, il32, il33, il36, il38, il39, il40, il41, il48, il50, il51, il57, il59, il60, il61, il62, il63, il70, il96, il99, il100, il101, il102, il103, il104, il105, il106, il107, il108, il109, il110, il111, il112, il115, il116, il120, il121, il124, il200, il240, il255, il288, il360, il420, il999, il1000, il114292, il152755, il402789, il435589, il463922, il533611, il631470, iz_neg, ↓bo (gI_q hc), hl, iz_eq, c1, ↓reduceIte, bi_f]
theorem t_read (hN : 300 ≤ N) (r : REL h V p pd b) (v1 v2 : Int32) : CAL (f_X9_read N 0 v1 v2 h) (f_X10_read N 71 v1 v2) b := by
  obtain ⟨t, rfl, t1, t2⟩ := int_iz v1
  obtain ⟨i, rfl, i1, i2⟩ := int_iz v2
  have M := r.2.2.1
  have S := r.2.2.2.2.2.2.2.1
  have tp := r.2.2.2.2.2.2.2.2.2.2.2.2.2.2.2
  have a1 := l_isTape (N := N) (h := h) t1 t2
  have b1 := m_isTape (N := N) M.1 t1 t2
  by_cases ht : 0 ≤ t ∧ t ≤ 5
  · rw [decide_eq_true ht] at a1 b1
    obtain ⟨k, rfl⟩ := Int.eq_ofNat_of_zero_le ht.1
    have hk : k < 6 := by omega
    obtain ⟨_, p2, p3, p4, s, n, p5, p6, p7, ⟨p8, p9, p10, p11⟩, p12, p13⟩ := tp.2 k hk
    have a2 := l_spans (N := N) (i := i) (n := 1) p2 p9 p6 i1 i2 (by omega) (by omega)
    have b2' := m_inB (N := N) (h := h) (a := i) (b := 0) (c := n - 1) (by omega) (by omega) i1 i2
    by_cases hi : 0 ≤ i ∧ 0 ≤ (1 : Int) ∧ 1 ≤ n ∧ i ≤ n - 1
    · rw [decide_eq_true hi] at a2
      rw [decide_eq_true (show 0 ≤ i ∧ i ≤ n - 1 by omega)] at b2'
      have hs : ¬ (s < 0) := fun z => by have := p7 (by omega); omega
      refine r.same_ (z := h.2.2.1 (60 + 2 * k) i.toNat) ?_ ?_
      · unfold f_X9_read
        rw [bq a1]
        refine (if_neg (by decide)).trans ?_
        rw [kn10 S, kt58 tp hk, bo (ck_q p2), bq (show f_X7_spans N (59 + 2 * k) (iz i) (1 : Int32) h = _ from a2)]
        refine (if_neg (by decide)).trans ?_
        rw [kn10 S, kt58 tp hk, bo (gR_q p2 p3), bo (lJ_q p4 (by omega) (by omega) (by decide))]
      · unfold f_X10_read
        rw [kmC M.1, bq b1]
        refine (if_neg (by decide)).trans ?_
        rw [kr107 M.1, kl107 M.1 (by omega) (by omega), toN, p10]
        refine (if_neg (by rw [il0, iz_lt (by omega) (by omega) (by omega) (by omega)]; exact hs)).trans ?_
        rw [kr108 M.1, kl108 M.1 (by omega) (by omega), toN, p11, kmC M.1, il1, iz_sub, bq (show f_X10_in N 71 (iz i) (0 : Int32) (iz (n - 1)) h = _ from b2')]
        refine (if_neg (by decide)).trans ?_
        rw [kr109 M.1, il60, iz_mul, iz_add, kl109 M.1 (by omega) (by omega), show ((60 : Int) * (k : Int) + i).toNat = 60 * k + i.toNat by omega, p12 i.toNat (by omega)]
    · rw [decide_eq_false hi] at a2
      refine r.same_ (z := (-9223372036854775808 : Int64)) ?_ ?_
      · unfold f_X9_read
        rw [bq a1]
        refine (if_neg (by decide)).trans ?_
        rw [kn10 S, kt58 tp hk, bo (ck_q p2), bq (show f_X7_spans N (59 + 2 * k) (iz i) (1 : Int32) h = _ from a2)]
        exact if_pos (by decide)
      · unfold f_X10_read f_X10_read_34
        rw [kmC M.1, bq b1]
        refine (if_neg (by decide)).trans ?_
        rw [kr107 M.1, kl107 M.1 (by omega) (by omega), toN, p10]
        by_cases hs : s < 0
        · exact if_pos (by rw [il0, iz_lt (by omega) (by omega) (by omega) (by omega)]; exact hs)
        · refine (if_neg (by rw [il0, iz_lt (by omega) (by omega) (by omega) (by omega)]; exact hs)).trans ?_
          rw [decide_eq_false (show ¬ (0 ≤ i ∧ i ≤ n - 1) by omega)] at b2'
          rw [kr108 M.1, kl108 M.1 (by omega) (by omega), toN, p11, kmC M.1, il1, iz_sub, bq (show f_X10_in N 71 (iz i) (0 : Int32) (iz (n - 1)) h = _ from b2')]
          exact if_pos (by decide)
  · rw [decide_eq_false ht] at a1 b1
    refine r.same_ (z := (-9223372036854775808 : Int64)) ?_ ?_
    · unfold f_X9_read; rw [bq a1]; exact if_pos (by decide)
    · unfold f_X10_read f_X10_read_34; rw [kmC M.1, bq b1]; exact if_pos (by decide)
end
