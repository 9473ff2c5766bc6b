theorem vj5 {V : Vw} {s i t j : Int} : va (vjoin V s i t) 5 j = if j = vF V then s else va V 5 j := by
  rw [vj_at]
  simp
theorem vj6 {V : Vw} {s i t j : Int} : va (vjoin V s i t) 6 j = if j = vF V then i else va V 6 j := by
  rw [vj_at]
  simp
theorem vj7 {V : Vw} {s i t j : Int} : va (vjoin V s i t) 7 j = if j = vF V then t else va V 7 j := by
  rw [vj_at]
  simp
theorem vj8 {V : Vw} {s i t j : Int} : va (vjoin V s i t) 8 j = if j = vF V then t else va V 8 j := by
  rw [vj_at]
  simp
section
variable {h : Mem} {V : Vw} {p pd b N : Nat}
/-- the model's new family -/
theorem m_add (R : RepM h V) (w : WF V) (hF8 : vF V < 8) {s i t : Int} : ∃ h', f_X10_add N 71 (iz s) (iz i) (iz t) h = some h' ∧ RepM h' (vjoin V s i t) ∧ HI h h' ∧ EQS h h' := by
  have e1 := R.2.1.2
  have z : ∀ (g : Mem), g.2.1 71 = h.2.1 71 → g.2.1 71 1 = iz (vF V) := fun g hg => by rw [hg]; exact e1
  have S := R.1
  obtain ⟨h4, hh4⟩ : ∃ h4, h4 = wr (wr (wr (wr h 77 (upd (h.2.1 77) (vF V) (iz s))) 78 (upd (h.2.1 78) (vF V) (iz i))) 79 (upd (h.2.1 79) (vF V) (iz t))) 80 (upd (h.2.1 80) (vF V) (iz t)) := ⟨_, rfl⟩
  have n4 : ∀ k, k ≠ 77 → k ≠ 78 → k ≠ 79 → k ≠ 80 → h4.2.1 k = h.2.1 k := fun k q1 q2 q3 q4 => by rw [hh4, wr_ne q4, wr_ne q3, wr_ne q2, wr_ne q1]
  have r77 : h4.2.1 77 = upd (h.2.1 77) (vF V) (iz s) := by rw [hh4, wr_ne (by decide), wr_ne (by decide), wr_ne (by decide), wr_eq]
  have r78 : h4.2.1 78 = upd (h.2.1 78) (vF V) (iz i) := by rw [hh4, wr_ne (by decide), wr_ne (by decide), wr_eq]
  have r79 : h4.2.1 79 = upd (h.2.1 79) (vF V) (iz t) := by rw [hh4, wr_ne (by decide), wr_eq]
  have r80 : h4.2.1 80 = upd (h.2.1 80) (vF V) (iz t) := by rw [hh4, wr_eq]
  have g1 : h4.1 = h.1 := by rw [hh4]; rfl
  have g2 : h4.2.2 = h.2.2 := by rw [hh4]; rfl
  have hi4 : HI h h4 := ⟨g1, g2, fun k hk => n4 k (by omega) (by omega) (by omega) (by omega)⟩
  have S4 : MSh h4 := S.eq g1 (by rw [g2])
  have l8 : ln 5 = 8 ∧ ln 6 = 8 ∧ ln 7 = 8 ∧ ln 8 = 8 := ⟨rfl, rfl, rfl, rfl⟩
  refine ⟨fd (fd h4 1 (iz ((vF V + 1 : Nat) : Int))) 29 (iz 0), ?_, ?_, (hi4.tr HI.fd_).tr HI.fd_, ?_⟩
  · unfold f_X10_add
    have q0 : (vF V : Int) < 8 := by omega
    have w1 := S.wr_ (a := 77) (row := upd (h.2.1 77) (vF V) (iz s))
    have w2 := w1.wr_ (a := 78) (row := upd (h.2.1 78) (vF V) (iz i))
    have w3 := w2.wr_ (a := 79) (row := upd (h.2.1 79) (vF V) (iz t))
    have v1 := z (wr h 77 (upd (h.2.1 77) (vF V) (iz s))) (wr_ne (by decide))
    have v2 := z (wr (wr h 77 (upd (h.2.1 77) (vF V) (iz s))) 78 (upd (h.2.1 78) (vF V) (iz i))) (by rw [wr_ne (by decide), wr_ne (by decide)])
    have v3 := z (wr (wr (wr h 77 (upd (h.2.1 77) (vF V) (iz s))) 78 (upd (h.2.1 78) (vF V) (iz i))) 79 (upd (h.2.1 79) (vF V) (iz t))) (by rw [wr_ne (by decide), wr_ne (by decide), wr_ne (by decide)])
    have v4 := z h4 (n4 71 (by decide) (by decide) (by decide) (by decide))
    rw [kr77 S, kmI S, e1, ks77 S (by omega) q0, toN, kr78 w1, kmI w1, v1, ks78 w1 (by omega) q0, toN, wr_ne (show 78 ≠ 77 by decide), kr79 w2, kmI w2, v2, ks79 w2 (by omega) q0, toN, wr_ne (show 79 ≠ 78 by decide), wr_ne (show 79 ≠ 77 by decide), kr80 w3, kmI w3, v3, ks80 w3 (by omega) q0, toN, wr_ne (show 80 ≠ 79 by decide), wr_ne (show 80 ≠ 78 by decide), wr_ne (show 80 ≠ 77 by decide), ← hh4, kmI S4, v4, il1, iz_add, ksI S4, ksZ0 S4.fd_]
    rfl
  · refine R.gen g1 (by show h4.2.2.2 = _; rw [g2]) ?_ ?_ (fun k hk j hj => ?_) (fun k hk => ?_) (fun k hk => vj_ne (by omega)) rfl (fun j hj => ?_) (Or.inl ?_)
    · rw [fd_at, if_neg (by decide), fd_at, if_neg (by decide), n4 71 (by decide) (by decide) (by decide) (by decide)]; exact R.2.1.1
    · rw [fd_at, if_neg (by decide), fd_at, if_pos rfl]; rfl
    · rw [fd_ne (by omega), fd_ne (by omega)]
      have old := R.2.2.1 k hk j hj
      by_cases k5 : k = 5
      · subst k5
        rw [r77, upd_at, vj5]
        by_cases q : j = vF V
        · rw [if_pos q, if_pos (show (j : Int) = vF V by omega)]
        · rw [if_neg q, if_neg (show ¬ ((j : Int) = vF V) by omega)]; exact old
      · have tr := trivial
        by_cases k6 : k = 6
        · subst k6
          rw [r78, upd_at, vj6]
          by_cases q : j = vF V
          · rw [if_pos q, if_pos (show (j : Int) = vF V by omega)]
          · rw [if_neg q, if_neg (show ¬ ((j : Int) = vF V) by omega)]; exact old
        · have tr := trivial
          by_cases k7 : k = 7
          · subst k7
            rw [r79, upd_at, vj7]
            by_cases q : j = vF V
            · rw [if_pos q, if_pos (show (j : Int) = vF V by omega)]
            · rw [if_neg q, if_neg (show ¬ ((j : Int) = vF V) by omega)]; exact old
          · have tr := trivial
            by_cases k8 : k = 8
            · subst k8
              rw [r80, upd_at, vj8]
              by_cases q : j = vF V
              · rw [if_pos q, if_pos (show (j : Int) = vF V by omega)]
              · rw [if_neg q, if_neg (show ¬ ((j : Int) = vF V) by omega)]; exact old
            · rw [n4 (72 + k) (by omega) (by omega) (by omega) (by omega), vj_ne ⟨k5, k6, k7, k8⟩]; exact old
    · have : ∀ k, k ∈ [81, 82, 84, 85, 86] → k ≠ 71 ∧ k ≠ 77 ∧ k ≠ 78 ∧ k ≠ 79 ∧ k ≠ 80 := by decide
      have q := this k hk
      rw [fd_ne q.1, fd_ne q.1, n4 k q.2.1 q.2.2.1 q.2.2.2.1 q.2.2.2.2]
    · have : ∀ j, j ∈ [12, 25, 26, 27] → j ≠ 29 ∧ j ≠ 1 := by decide
      have q := this j hj
      rw [fd_at, if_neg q.1, fd_at, if_neg q.2, n4 71 (by decide) (by decide) (by decide) (by decide)]
    · rw [fd_at, if_pos rfl]
  · refine ⟨g1, fun a k _ => by show h4.2.2.2 a k = _; rw [g2], fun k hk => by rw [fd_ne (by omega), fd_ne (by omega), n4 k (by omega) (by omega) (by omega) (by omega)], by rw [fd_ne (by decide), fd_ne (by decide), n4 44 (by decide) (by decide) (by decide) (by decide)], fun j hj => ?_, fun k _ => by show h4.2.2.1 k = _; rw [g2]⟩
    have : ∀ j, j ∈ [2, 12, 13, 50, 55] → j ≠ 29 ∧ j ≠ 1 := by decide
    have q := this j hj
    rw [fd_at, if_neg q.1, fd_at, if_neg q.2, n4 71 (by decide) (by decide) (by decide) (by decide)]
theorem KG.lo {h h' : Mem} (k : KG 1 h h') : LO h h' := ⟨k.1, k.2.1, fun i hi => k.2.2 i (by omega) (fun j hj => by have := ar_lt (k := j) c1 (by omega); omega)⟩
theorem l_joinFull (R : RepC h 1 p V) (hF : vF V ≤ 8) (h8 : ¬ vF V < 8) {x y z : Int32} : f_X1_join N 1 x y z h = some (-iz 4, h) := by
  unfold f_X1_join
  rw [kF R, if_neg (by rw [show (8 : Int32) = iz 8 from rfl, iz_lt (by omega) (by omega) (by omega) (by omega)]; omega)]
  rfl
theorem t_family (hN : 300 ≤ N) (r : REL h V p pd b) (v1 v2 v3 : Int32) : CAL (f_X9_family N 0 v1 v2 v3 h) (f_X10_family N 71 v1 v2 v3) b := by
  obtain ⟨s, rfl, s1, s2⟩ := int_iz v1
  obtain ⟨i, rfl, i1, i2⟩ := int_iz v2
  obtain ⟨t, rfl, t1, t2⟩ := int_iz v3
  have R := r.2.1
  have M := r.2.2.1
  have w := r.2.2.2.1
  have S := r.2.2.2.2.2.2.2.1
  have hT := w.T
  have hF := w.F
  have h3 : ¬ ((1 : Int) = 0) := by decide
  have a1 := l_isTown (N := N) S R w t1 t2
  have a2 := l_within (N := N) (h := h) (a := s) (b := 0) (c := 3) (by omega) (by omega) s1 s2
  have a3 := l_within (N := N) (h := h) (a := i) (b := 1) (c := 99) (by omega) (by omega) i1 i2
  have b1 := m_isTown (N := N) M w t1 t2
  have b2' := m_inB (N := N) (h := h) (a := s) (b := 0) (c := 3) (by omega) (by omega) s1 s2
  have b3 := m_inB (N := N) (h := h) (a := i) (b := 1) (c := 99) (by omega) (by omega) i1 i2
  cases ht : tB V t with
  | false =>
    rw [ht] at a1 b1
    refine r.same_ (z := (-iz 1 : Int32)) ?_ ?_
    · unfold f_X9_family
      simp (disch := omega) only [↓knC S, ↓kn0 S, ↓kn1 S, ↓kn2 S, ↓kn4 S, ↓kn5 S, ↓kn6 S, ↓kn7 S, ↓kn8 S, ↓kn9 S, ↓kn10 S, il0, il1, il2, il3, il4, il5, il6, il7, il8, il9, il10, il11, il12, il13, il14, il15, il16, il17, il18, il19, il20, il21, il22, il23, il24, il25, il26, il27, il28, il29, il30, il31, il32, il33, il36, il38, il39, il40, il41, il48, il50, il51, il57, il59, il60, il61, il62, il63, il70, il96, il99, il100, il101, il102, il103, il104, il105, il106, il107, il108, il109, il110, il111, il112, il115, il116, il120, il121, il124, il200, il240, il255, il288, il360, il420, il999, il1000, il114292, il152755, il402789, il435589, il463922, il533611, il631470, ↓bq a1, bi_f, ↓reduceIte]
    · unfold f_X10_family
      simp (disch := omega) only [il0, il1, il2, il3, il4, il5, il6, il7, il8, il9, il10, il11, il12, il13, il14, il15, il16, il17, il18, il19, il20, il21, il22, il23, il24, il25, il26, il27, il28, il29, il30, il31, il32, il33, il36, il38, il39, il40, il41, il48, il50, il51, il57, il59, il60, il61, il62, il63, il70, il96, il99, il100, il101, il102, il103, il104, il105, il106, il107, il108, il109, il110, il111, il112, il115, il116, il120, il121, il124, il200, il240, il255, il288, il360, il420, il999, il1000, il114292, il152755, il402789, il435589, il463922, il533611, il631470, ↓kmC M.1, ↓bq b1, bi_f, ↓reduceIte]
  | true =>
    rw [ht] at a1 b1
    have tt := tB_t ht
    by_cases hs : 0 ≤ s ∧ s ≤ 3
    · rw [decide_eq_true hs] at a2 b2'
      by_cases hi : 1 ≤ i ∧ i ≤ 99
      · rw [decide_eq_true hi] at a3 b3
        have a4 := l_hasRoom R w (N := N) (by omega) (t := t) (by omega)
        have b4 := m_free (N := N) M w (by omega) (t := t) (by omega)
        by_cases hr : cnt V t < va V 0 t
        · rw [if_pos hr] at a4 b4
          by_cases h8 : vF V < 8
          · have z8 : (vF V : Int) < 8 := by omega
            obtain ⟨h1, e1, R1, K1⟩ := l_join R r.cp (N := N) hF (s := s) (i := i) (t := t)
            rw [if_pos h8] at e1 R1
            have md := r.lo_ K1.lo R1 (wf_join w h8 hs hi tt) (vj_ne (k := 9) (by decide))
            obtain ⟨h2, e2, R2, hi2, eq2⟩ := m_add (N := N) md.2.2.1 w h8 (s := s) (i := i) (t := t)
            refine ⟨iz (vF V), h1, h2, _, p, pd, ?_, ?_, md.hi_ hi2 eq2 R2⟩
            · unfold f_X9_family
              simp (disch := omega) only [↓knC S, ↓kn0 S, ↓kn1 S, ↓kn2 S, ↓kn4 S, ↓kn5 S, ↓kn6 S, ↓kn7 S, ↓kn8 S, ↓kn9 S, ↓kn10 S, il0, il1, il2, il3, il4, il5, il6, il7, il8, il9, il10, il11, il12, il13, il14, il15, il16, il17, il18, il19, il20, il21, il22, il23, il24, il25, il26, il27, il28, il29, il30, il31, il32, il33, il36, il38, il39, il40, il41, il48, il50, il51, il57, il59, il60, il61, il62, il63, il70, il96, il99, il100, il101, il102, il103, il104, il105, il106, il107, il108, il109, il110, il111, il112, il115, il116, il120, il121, il124, il200, il240, il255, il288, il360, il420, il999, il1000, il114292, il152755, il402789, il435589, il463922, il533611, il631470, ↓bq a1, bi_t, iz_eq, h3, ↓reduceIte, ↓bq a2, ↓bq a3, ↓kC R, ↓bq a4, ↓kF R, iz_lt, z8, ↓bq e1]
            · have M1 := md.2.2.1
              have b1 := m_isTown (N := N) M1 w t1 t2
              have b2' := m_inB (N := N) (h := h1) (a := s) (b := 0) (c := 3) (by omega) (by omega) s1 s2
              have b3 := m_inB (N := N) (h := h1) (a := i) (b := 1) (c := 99) (by omega) (by omega) i1 i2
              have b4 := m_free (N := N) M1 w (by omega) (t := t) (by omega)
              rw [ht] at b1
              rw [decide_eq_true hs] at b2'
              rw [decide_eq_true hi] at b3
              rw [if_pos hr] at b4
              have z8' : ¬ ((vF V : Int) = 8) := by omega
              have eF : h2.2.1 71 1 = iz ((vF V + 1 : Nat) : Int) := R2.2.1.2
              unfold f_X10_family
              simp (disch := omega) only [il0, il1, il2, il3, il4, il5, il6, il7, il8, il9, il10, il11, il12, il13, il14, il15, il16, il17, il18, il19, il20, il21, il22, il23, il24, il25, il26, il27, il28, il29, il30, il31, il32, il33, il36, il38, il39, il40, il41, il48, il50, il51, il57, il59, il60, il61, il62, il63, il70, il96, il99, il100, il101, il102, il103, il104, il105, il106, il107, il108, il109, il110, il111, il112, il115, il116, il120, il121, il124, il200, il240, il255, il288, il360, il420, il999, il1000, il114292, il152755, il402789, il435589, il463922, il533611, il631470, ↓kmC M1.1, ↓bq b1, bi_t, iz_eq, h3, ↓reduceIte, ↓bq b2', ↓bq b3, ↓bq b4, ↓kmF M1, z8', ↓bo e2, ↓kmI R2.1, eF, iz_sub]
              rw [show (((vF V + 1 : Nat) : Int)) - 1 = vF V by omega]
          · have z8 : ¬ ((vF V : Int) < 8) := by omega
            have z8' : (vF V : Int) = 8 := by omega
            refine r.same_ (z := (-iz 4 : Int32)) ?_ ?_
            · have e1 : f_X1_join N 1 (iz s) (iz i) (iz t) h = some (-iz 4, h) := l_joinFull R hF h8
              unfold f_X9_family
              simp (disch := omega) only [↓knC S, ↓kn0 S, ↓kn1 S, ↓kn2 S, ↓kn4 S, ↓kn5 S, ↓kn6 S, ↓kn7 S, ↓kn8 S, ↓kn9 S, ↓kn10 S, il0, il1, il2, il3, il4, il5, il6, il7, il8, il9, il10, il11, il12, il13, il14, il15, il16, il17, il18, il19, il20, il21, il22, il23, il24, il25, il26, il27, il28, il29, il30, il31, il32, il33, il36, il38, il39, il40, il41, il48, il50, il51, il57, il59, il60, il61, il62, il63, il70, il96, il99, il100, il101, il102, il103, il104, il105, il106, il107, il108, il109, il110, il111, il112, il115, il116, il120, il121, il124, il200, il240, il255, il288, il360, il420, il999, il1000, il114292, il152755, il402789, il435589, il463922, il533611, il631470, ↓bq a1, bi_t, iz_eq, h3, ↓reduceIte, ↓bq a2, ↓bq a3, ↓kC R, ↓bq a4, ↓bq e1]
            · unfold f_X10_family
              simp (disch := omega) only [il0, il1, il2, il3, il4, il5, il6, il7, il8, il9, il10, il11, il12, il13, il14, il15, il16, il17, il18, il19, il20, il21, il22, il23, il24, il25, il26, il27, il28, il29, il30, il31, il32, il33, il36, il38, il39, il40, il41, il48, il50, il51, il57, il59, il60, il61, il62, il63, il70, il96, il99, il100, il101, il102, il103, il104, il105, il106, il107, il108, il109, il110, il111, il112, il115, il116, il120, il121, il124, il200, il240, il255, il288, il360, il420, il999, il1000, il114292, il152755, il402789, il435589, il463922, il533611, il631470, ↓kmC M.1, ↓bq b1, bi_t, iz_eq, h3, ↓reduceIte, ↓bq b2', ↓bq b3, ↓bq b4, ↓kmF M, z8']
        · rw [if_neg hr] at a4 b4
          refine r.same_ (z := (-iz 3 : Int32)) ?_ ?_
          · unfold f_X9_family
            simp (disch := omega) only [↓knC S, ↓kn0 S, ↓kn1 S, ↓kn2 S, ↓kn4 S, ↓kn5 S, ↓kn6 S, ↓kn7 S, ↓kn8 S, ↓kn9 S, ↓kn10 S, il0, il1, il2, il3, il4, il5, il6, il7, il8, il9, il10, il11, il12, il13, il14, il15, il16, il17, il18, il19, il20, il21, il22, il23, il24, il25, il26, il27, il28, il29, il30, il31, il32, il33, il36, il38, il39, il40, il41, il48, il50, il51, il57, il59, il60, il61, il62, il63, il70, il96, il99, il100, il101, il102, il103, il104, il105, il106, il107, il108, il109, il110, il111, il112, il115, il116, il120, il121, il124, il200, il240, il255, il288, il360, il420, il999, il1000, il114292, il152755, il402789, il435589, il463922, il533611, il631470, ↓bq a1, bi_t, iz_eq, h3, ↓reduceIte, ↓bq a2, ↓bq a3, ↓kC R, ↓bq a4]
          · unfold f_X10_family
            simp (disch := omega) only [il0, il1, il2, il3, il4, il5, il6, il7, il8, il9, il10, il11, il12, il13, il14, il15, il16, il17, il18, il19, il20, il21, il22, il23, il24, il25, il26, il27, il28, il29, il30, il31, il32, il33, il36, il38, il39, il40, il41, il48, il50, il51, il57, il59, il60, il61, il62, il63, il70, il96, il99, il100, il101, il102, il103, il104, il105, il106, il107, il108, il109, il110, il111, il112, il115, il116, il120, il121, il124, il200, il240, il255, il288, il360, il420, il999, il1000, il114292, il152755, il402789, il435589, il463922, il533611, il631470, ↓kmC M.1, ↓bq b1, bi_t, iz_eq, h3, ↓reduceIte, ↓bq b2', ↓bq b3, ↓bq b4]
      · rw [decide_eq_false hi] at a3 b3
        refine r.same_ (z := (-iz 2 : Int32)) ?_ ?_
        · unfold f_X9_family
          simp (disch := omega) only [↓knC S, ↓kn0 S, ↓kn1 S, ↓kn2 S, ↓kn4 S, ↓kn5 S, ↓kn6 S, ↓kn7 S, ↓kn8 S, ↓kn9 S, ↓kn10 S, il0, il1, il2, il3, il4, il5, il6, il7, il8, il9, il10, il11, il12, il13, il14, il15, il16, il17, il18, il19, il20, il21, il22, il23, il24, il25, il26, il27, il28, il29, il30, il31, il32, il33, il36, il38, il39, il40, il41, il48, il50, il51, il57, il59, il60, il61, il62, il63, il70, il96, il99, il100, il101, il102, il103, il104, il105, il106, il107, il108, il109, il110, il111, il112, il115, il116, il120, il121, il124, il200, il240, il255, il288, il360, il420, il999, il1000, il114292, il152755, il402789, il435589, il463922, il533611, il631470, ↓bq a1, bi_t, bi_f, iz_eq, h3, ↓reduceIte, ↓bq a2, ↓bq a3]
        · unfold f_X10_family
          simp (disch := omega) only [il0, il1, il2, il3, il4, il5, il6, il7, il8, il9, il10, il11, il12, il13, il14, il15, il16, il17, il18, il19, il20, il21, il22, il23, il24, il25, il26, il27, il28, il29, il30, il31, il32, il33, il36, il38, il39, il40, il41, il48, il50, il51, il57, il59, il60, il61, il62, il63, il70, il96, il99, il100, il101, il102, il103, il104, il105, il106, il107, il108, il109, il110, il111, il112, il115, il116, il120, il121, il124, il200, il240, il255, il288, il360, il420, il999, il1000, il114292, il152755, il402789, il435589, il463922, il533611, il631470, ↓kmC M.1, ↓bq b1, bi_t, bi_f, iz_eq, h3, ↓reduceIte, ↓bq b2', ↓bq b3]
    · rw [decide_eq_false hs] at a2 b2'
      refine r.same_ (z := (-iz 2 : Int32)) ?_ ?_
      · unfold f_X9_family
        simp (disch := omega) only [↓knC S, ↓kn0 S, ↓kn1 S, ↓kn2 S, ↓kn4 S, ↓kn5 S, ↓kn6 S, ↓kn7 S, ↓kn8 S, ↓kn9 S, ↓kn10 S, il0, il1, il2, il3, il4, il5, il6, il7, il8, il9, il10, il11, il12, il13, il14, il15, il16, il17, il18, il19, il20, il21, il22, il23, il24, il25, il26, il27, il28, il29, il30, il31, il32, il33, il36, il38, il39, il40, il41, il48, il50, il51, il57, il59, il60, il61, il62, il63, il70, il96, il99, il100, il101, il102, il103, il104, il105, il106, il107, il108, il109, il110, il111, il112, il115, il116, il120, il121, il124, il200, il240, il255, il288, il360, il420, il999, il1000, il114292, il152755, il402789, il435589, il463922, il533611, il631470, ↓bq a1, bi_t, bi_f, iz_eq, h3, ↓reduceIte, ↓bq a2]
      · unfold f_X10_family
        simp (disch := omega) only [il0, il1, il2, il3, il4, il5, il6, il7, il8, il9, il10, il11, il12, il13, il14, il15, il16, il17, il18, il19, il20, il21, il22, il23, il24, il25, il26, il27, il28, il29, il30, il31, il32, il33, il36, il38, il39, il40, il41, il48, il50, il51, il57, il59, il60, il61, il62, il63, il70, il96, il99, il100, il101, il102, il103, il104, il105, il106, il107, il108, il109, il110, il111, il112, il115, il116, il120, il121, il124, il200, il240, il255, il288, il360, il420, il999, il1000, il114292, il152755, il402789, il435589, il463922, il533611, il631470, ↓kmC M.1, ↓bq b1, bi_t, bi_f, iz_eq, h3, ↓reduceIte, ↓bq b2']
end
