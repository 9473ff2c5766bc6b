theorem iz_ne {a b : Int} (h1 : -2147483648 ≤ a) (h2 : a < 2147483648) (h3 : -2147483648 ≤ b) (h4 : b < 2147483648) (h : a ≠ b) : ¬ (iz a = iz b) := by rw [iz_eq h1 h2 h3 h4]; exact h
section
variable {h : Mem} {V : Vw} {p pd b N : Nat}
theorem lo_wr1 {h : Mem} {k : Nat} {row : Nat → Int32} (hk : k < 10) : LO h (wr h (ar 1 k) row) := ⟨rfl, rfl, fun i hi => wr_ne (by have := ar_lt (k := k) c1 hk; omega)⟩
theorem eqs_wr {h : Mem} {a : Nat} {row : Nat → Int32} (ha : 72 ≤ a ∧ a ≤ 101 ∧ a ≠ 81) : EQS h (wr h a row) := ⟨rfl, fun _ _ _ => rfl, fun i hi => wr_ne (by omega), by rw [wr_ne (by omega)], fun j _ => by rw [wr_ne (by omega)], fun _ _ => rfl⟩
theorem t_go (hN : 300 ≤ N) (r : REL h V p pd b) (v1 v2 : Int32) : CAL (f_X9_go N 0 v1 v2 h) (f_X10_go N 71 v1 v2) b := by
  obtain ⟨f, rfl, f1, f2⟩ := int_iz v1
  obtain ⟨t, rfl, t1, t2⟩ := int_iz v2
  have R := r.2.1
  have M := r.2.2.1
  have w := r.2.2.2.1
  have S := r.2.2.2.2.2.2.2.1
  have hF := w.F
  have hT := w.T
  have a1 := l_isFamily (N := N) S R w f1 f2
  have a2 := l_isTown (N := N) S R w t1 t2
  have b1 := m_isFamily (N := N) M w f1 f2
  have b2' := m_isTown (N := N) M w t1 t2
  have h3 : ¬ ((1 : Int) = 0) := by decide
  cases hf : fB V f with
  | false =>
    rw [hf] at a1 b1
    refine r.same_ (z := (-iz 1 : Int32)) ?_ ?_
    · unfold f_X9_go
      simp (disch := omega) only [↓knC S, ↓kn0 S, ↓kn1 S, ↓kn2 S, ↓kn4 S, ↓kn5 S, ↓kn6 S, ↓kn7 S, ↓kn8 S, ↓kn9 S, ↓kn10 S, ↓bq a1, bi_f, il0, il1, il2, il3, il4, il5, il6, il7, il8, il9, il10, il11, il12, il13, il14, il15, il16, il17, il18, il19, il20, il21, il22, il23, il24, il25, il26, il27, il28, il29, il30, il31, il32, il33, il36, il38, il39, il40, il41, il48, il50, il51, il57, il59, il60, il61, il62, il63, il70, il96, il99, il100, il101, il102, il103, il104, il105, il106, il107, il108, il109, il110, il111, il112, il115, il116, il120, il121, il124, il200, il240, il255, il288, il360, il420, il999, il1000, il114292, il152755, il402789, il435589, il463922, il533611, il631470, ↓reduceIte]
    · unfold f_X10_go
      simp (disch := omega) only [↓kmC M.1, ↓bq b1, bi_f, il0, il1, il2, il3, il4, il5, il6, il7, il8, il9, il10, il11, il12, il13, il14, il15, il16, il17, il18, il19, il20, il21, il22, il23, il24, il25, il26, il27, il28, il29, il30, il31, il32, il33, il36, il38, il39, il40, il41, il48, il50, il51, il57, il59, il60, il61, il62, il63, il70, il96, il99, il100, il101, il102, il103, il104, il105, il106, il107, il108, il109, il110, il111, il112, il115, il116, il120, il121, il124, il200, il240, il255, il288, il360, il420, il999, il1000, il114292, il152755, il402789, il435589, il463922, il533611, il631470, ↓reduceIte]
  | true =>
    rw [hf] at a1 b1
    have ff := fB_t hf
    cases ht : tB V t with
    | false =>
      rw [ht] at a2 b2'
      refine r.same_ (z := (-iz 1 : Int32)) ?_ ?_
      · unfold f_X9_go
        simp (disch := omega) only [↓knC S, ↓kn0 S, ↓kn1 S, ↓kn2 S, ↓kn4 S, ↓kn5 S, ↓kn6 S, ↓kn7 S, ↓kn8 S, ↓kn9 S, ↓kn10 S, ↓bq a1, bi_t, bi_f, il0, il1, il2, il3, il4, il5, il6, il7, il8, il9, il10, il11, il12, il13, il14, il15, il16, il17, il18, il19, il20, il21, il22, il23, il24, il25, il26, il27, il28, il29, il30, il31, il32, il33, il36, il38, il39, il40, il41, il48, il50, il51, il57, il59, il60, il61, il62, il63, il70, il96, il99, il100, il101, il102, il103, il104, il105, il106, il107, il108, il109, il110, il111, il112, il115, il116, il120, il121, il124, il200, il240, il255, il288, il360, il420, il999, il1000, il114292, il152755, il402789, il435589, il463922, il533611, il631470, iz_eq, h3, ↓reduceIte, ↓bq a2]
      · unfold f_X10_go
        simp (disch := omega) only [↓kmC M.1, ↓bq b1, bi_t, bi_f, il0, il1, il2, il3, il4, il5, il6, il7, il8, il9, il10, il11, il12, il13, il14, il15, il16, il17, il18, il19, il20, il21, il22, il23, il24, il25, il26, il27, il28, il29, il30, il31, il32, il33, il36, il38, il39, il40, il41, il48, il50, il51, il57, il59, il60, il61, il62, il63, il70, il96, il99, il100, il101, il102, il103, il104, il105, il106, il107, il108, il109, il110, il111, il112, il115, il116, il120, il121, il124, il200, il240, il255, il288, il360, il420, il999, il1000, il114292, il152755, il402789, il435589, il463922, il533611, il631470, iz_eq, h3, ↓reduceIte, ↓bq b2']
    | true =>
      rw [ht] at a2 b2'
      have tt := tB_t ht
      have hwf := w.f (j := f) (by omega) (by omega)
      have a3 := l_canGoB R w (N := N) (by omega) (f := f) (t := t) (by omega) (by omega)
      have b3 := m_can (N := N) M w (by omega) (f := f) (t := t) (by omega) (by omega)
      cases hc : canGoB V f t with
      | false =>
        rw [hc] at a3 b3
        refine r.same_ (z := (-iz 3 : Int32)) ?_ ?_
        · unfold f_X9_go
          simp (disch := omega) only [↓knC S, ↓kn0 S, ↓kn1 S, ↓kn2 S, ↓kn4 S, ↓kn5 S, ↓kn6 S, ↓kn7 S, ↓kn8 S, ↓kn9 S, ↓kn10 S, ↓bq a1, bi_t, bi_f, il0, il1, il2, il3, il4, il5, il6, il7, il8, il9, il10, il11, il12, il13, il14, il15, il16, il17, il18, il19, il20, il21, il22, il23, il24, il25, il26, il27, il28, il29, il30, il31, il32, il33, il36, il38, il39, il40, il41, il48, il50, il51, il57, il59, il60, il61, il62, il63, il70, il96, il99, il100, il101, il102, il103, il104, il105, il106, il107, il108, il109, il110, il111, il112, il115, il116, il120, il121, il124, il200, il240, il255, il288, il360, il420, il999, il1000, il114292, il152755, il402789, il435589, il463922, il533611, il631470, iz_eq, h3, ↓reduceIte, ↓bq a2, ↓kC R, ↓bq a3]
        · unfold f_X10_go
          simp (disch := omega) only [↓kmC M.1, ↓bq b1, bi_t, bi_f, il0, il1, il2, il3, il4, il5, il6, il7, il8, il9, il10, il11, il12, il13, il14, il15, il16, il17, il18, il19, il20, il21, il22, il23, il24, il25, il26, il27, il28, il29, il30, il31, il32, il33, il36, il38, il39, il40, il41, il48, il50, il51, il57, il59, il60, il61, il62, il63, il70, il96, il99, il100, il101, il102, il103, il104, il105, il106, il107, il108, il109, il110, il111, il112, il115, il116, il120, il121, il124, il200, il240, il255, il288, il360, il420, il999, il1000, il114292, il152755, il402789, il435589, il463922, il533611, il631470, iz_eq, h3, ↓reduceIte, ↓bq b2', ↓bq b3]
      | true =>
        rw [hc] at a3 b3
        have R1 := rep_set R r.cp (k := 7) (j := f) (x := t) (by decide) (by omega) (by show f < (8 : Int); omega)
        have w1 := wf_at w (j := f) (x := t) (by omega)
        have md := r.lo_ (lo_wr1 (by decide)) R1 w1 (vset_ne (k' := 9) (by decide))
        have M1 := md.2.2.1
        have M2 := M1.set (k := 7) (j := f) (x := t) (by omega) (by omega)
        refine ⟨iz (va V 7 f), wr h (ar 1 7) (upd (h.2.1 (ar 1 7)) f.toNat (iz t)), _, _, p, pd, ?_, ?_, md.hi_ (HI.wr_ (by decide)) (eqs_wr (by decide)) M2⟩
        · unfold f_X9_go f_X9_replace
          simp (disch := omega) only [↓knC S, ↓kn0 S, ↓kn1 S, ↓kn2 S, ↓kn4 S, ↓kn5 S, ↓kn6 S, ↓kn7 S, ↓kn8 S, ↓kn9 S, ↓kn10 S, ↓bq a1, bi_t, il0, il1, il2, il3, il4, il5, il6, il7, il8, il9, il10, il11, il12, il13, il14, il15, il16, il17, il18, il19, il20, il21, il22, il23, il24, il25, il26, il27, il28, il29, il30, il31, il32, il33, il36, il38, il39, il40, il41, il48, il50, il51, il57, il59, il60, il61, il62, il63, il70, il96, il99, il100, il101, il102, il103, il104, il105, il106, il107, il108, il109, il110, il111, il112, il115, il116, il120, il121, il124, il200, il240, il255, il288, il360, il420, il999, il1000, il114292, il152755, il402789, il435589, il463922, il533611, il631470, iz_eq, h3, ↓reduceIte, ↓bq a2, ↓kC R, ↓bq a3, ↓kA7 R, ↓kX7 R, ↓kS7 R, b2_some]
        · have b1 := m_isFamily (N := N) M1 w f1 f2
          have b2' := m_isTown (N := N) M1 w t1 t2
          have b3 := m_can (N := N) M1 w (by omega) (f := f) (t := t) (by omega) (by omega)
          rw [hf] at b1
          rw [ht] at b2'
          rw [hc] at b3
          unfold f_X10_go
          simp (disch := omega) only [↓kmC M1.1, ↓kmT M1, ↓kmF M1, ↓kmM M1, ↓kmD M1, ↓kmP M1, ↓kr72 M1.1, ↓kr73 M1.1, ↓kr74 M1.1, ↓kr75 M1.1, ↓kr76 M1.1, ↓kr77 M1.1, ↓kr78 M1.1, ↓kr79 M1.1, ↓kr80 M1.1, ↓kr81 M1.1, ↓kr82 M1.1, ↓kr83 M1.1, ↓kr84 M1.1, ↓kr85 M1.1, ↓kr86 M1.1, ↓kr87 M1.1, ↓kr88 M1.1, ↓kr89 M1.1, ↓kr90 M1.1, ↓kr91 M1.1, ↓kr92 M1.1, ↓kr93 M1.1, ↓kr94 M1.1, ↓kr95 M1.1, ↓kr96 M1.1, ↓kr97 M1.1, ↓kr98 M1.1, ↓kr99 M1.1, ↓kr100 M1.1, ↓kr101 M1.1, ↓kr102 M1.1, ↓kr103 M1.1, ↓kr104 M1.1, ↓kr105 M1.1, ↓kr106 M1.1, ↓kr107 M1.1, ↓kr108 M1.1, ↓kr109 M1.1, ↓kr110 M1.1, ↓kx0 M1, ↓kx1 M1, ↓kx2 M1, ↓kx3 M1, ↓kx4 M1, ↓kx5 M1, ↓kx6 M1, ↓kx7 M1, ↓kx8 M1, ↓kx9 M1, ↓kx10 M1, ↓kx11 M1, ↓kx1m M1, ↓kx9m M1, ↓kx10m M1, ↓reduceIte, ↓bq b1, bi_t, il0, il1, il2, il3, il4, il5, il6, il7, il8, il9, il10, il11, il12, il13, il14, il15, il16, il17, il18, il19, il20, il21, il22, il23, il24, il25, il26, il27, il28, il29, il30, il31, il32, il33, il36, il38, il39, il40, il41, il48, il50, il51, il57, il59, il60, il61, il62, il63, il70, il96, il99, il100, il101, il102, il103, il104, il105, il106, il107, il108, il109, il110, il111, il112, il115, il116, il120, il121, il124, il200, il240, il255, il288, il360, il420, il999, il1000, il114292, il152755, il402789, il435589, il463922, il533611, il631470, iz_eq, h3, ↓reduceIte, ↓bq b2', ↓bq b3, ↓ks79 M1.1]
theorem t_of (hN : 300 ≤ N) (r : REL h V p pd b) (v1 v2 : Int32) : CAL (f_X9_of N 0 v1 v2 h) (f_X10_of N 71 v1 v2) b := by
  obtain ⟨f, rfl, f1, f2⟩ := int_iz v1
  obtain ⟨q, rfl, q1, q2⟩ := int_iz v2
  have R := r.2.1
  have M := r.2.2.1
  have w := r.2.2.2.1
  have S := r.2.2.2.2.2.2.2.1
  have hF := w.F
  have a1 := l_isFamily (N := N) S R w f1 f2
  have b1 := m_isFamily (N := N) M w f1 f2
  have h3 : ¬ ((1 : Int) = 0) := by decide
  cases hf : fB V f with
  | false =>
    rw [hf] at a1 b1
    refine r.same_ (z := (-9223372036854775808 : Int64)) ?_ ?_
    · unfold f_X9_of
      simp (disch := omega) only [↓knC S, ↓kn0 S, ↓kn1 S, ↓kn2 S, ↓kn4 S, ↓kn5 S, ↓kn6 S, ↓kn7 S, ↓kn8 S, ↓kn9 S, ↓kn10 S, ↓bq a1, bi_f, il0, ↓reduceIte]
    · unfold f_X10_of
      simp (disch := omega) only [↓kmC M.1, ↓bq b1, bi_f, il0, ↓reduceIte]
  | true =>
    rw [hf] at a1 b1
    have ff := fB_t hf
    have hwf := w.f (j := f) (by omega) (by omega)
    have hwi := w.i (j := f) (by omega) (by omega)
    obtain ⟨f, rfl⟩ := Int.eq_ofNat_of_zero_le ff.1
    have d1 := l_dues R w (N := N) (by omega) (f := f) (t := va V 7 f) (by omega) (by omega)
    have d2 := m_dues (N := N) M w (by omega) (f := f) (t := va V 7 f) (by omega) (by omega)
    have e1 := l_worth R w (N := N) (by omega) (f := f) (t := va V 7 f) (by omega) (by omega)
    obtain ⟨h2, e2, R2, F2⟩ := m_worth M w (N := N) (by omega) (f := f) (t := va V 7 f) (by omega) (by omega)
    have hb := worth_bd w (f := f) (t := va V 7 f) (by omega) (by omega)
    have g1 : ∀ z, z = q → f_X9_of N 0 (iz (f : Int)) (iz z) h = (if z = 0 then some ((iz (va V 5 f)).toInt64, h) else if z = 1 then some ((iz (va V 6 f)).toInt64, h) else if z = 2 then some ((iz (va V 7 f)).toInt64, h) else if z = 3 then some ((iz (va V 8 f)).toInt64, h) else if z = 4 then some ((iz (dues V f (va V 7 f))).toInt64, h) else if z = 5 then some ((iz (worth V f (va V 7 f))).toInt64, h) else some ((-9223372036854775808 : Int64), h)) := by
      intro z hz
      subst hz
      unfold f_X9_of
      simp (disch := omega) only [↓knC S, ↓kn0 S, ↓kn1 S, ↓kn2 S, ↓kn4 S, ↓kn5 S, ↓kn6 S, ↓kn7 S, ↓kn8 S, ↓kn9 S, ↓kn10 S, ↓bq a1, bi_t, il0, il1, il2, il3, il4, il5, il6, il7, il8, il9, il10, il11, il12, il13, il14, il15, il16, il17, il18, il19, il20, il21, il22, il23, il24, il25, il26, il27, il28, il29, il30, il31, il32, il33, il36, il38, il39, il40, il41, il48, il50, il51, il57, il59, il60, il61, il62, il63, il70, il96, il99, il100, il101, il102, il103, il104, il105, il106, il107, il108, il109, il110, il111, il112, il115, il116, il120, il121, il124, il200, il240, il255, il288, il360, il420, il999, il1000, il114292, il152755, il402789, il435589, il463922, il533611, il631470, iz_eq, h3, ↓reduceIte, ↓kA7 R, ↓kX7 R, ↓kA5 R, ↓kX5 R, ↓kA6 R, ↓kX6 R, ↓kA8 R, ↓kX8 R, ↓kC R, ↓bq d1, ↓bq e1]
    have g2 : ∀ z, z = q → f_X10_of N 71 (iz (f : Int)) (iz z) h = (if z = 0 then some ((iz (va V 5 f)).toInt64, h) else if z = 1 then some ((iz (va V 6 f)).toInt64, h) else if z = 2 then some ((iz (va V 7 f)).toInt64, h) else if z = 3 then some ((iz (va V 8 f)).toInt64, h) else if z = 4 then some ((iz (dues V f (va V 7 f))).toInt64, h) else if z = 5 then some (lz (worth V f (va V 7 f)), h2) else some ((-9223372036854775808 : Int64), h)) := by
      intro z hz
      subst hz
      unfold f_X10_of
      simp (disch := omega) only [↓kmC M.1, ↓kmT M, ↓kmF M, ↓kmM M, ↓kmD M, ↓kmP M, ↓kr72 M.1, ↓kr73 M.1, ↓kr74 M.1, ↓kr75 M.1, ↓kr76 M.1, ↓kr77 M.1, ↓kr78 M.1, ↓kr79 M.1, ↓kr80 M.1, ↓kr81 M.1, ↓kr82 M.1, ↓kr83 M.1, ↓kr84 M.1, ↓kr85 M.1, ↓kr86 M.1, ↓kr87 M.1, ↓kr88 M.1, ↓kr89 M.1, ↓kr90 M.1, ↓kr91 M.1, ↓kr92 M.1, ↓kr93 M.1, ↓kr94 M.1, ↓kr95 M.1, ↓kr96 M.1, ↓kr97 M.1, ↓kr98 M.1, ↓kr99 M.1, ↓kr100 M.1, ↓kr101 M.1, ↓kr102 M.1, ↓kr103 M.1, ↓kr104 M.1, ↓kr105 M.1, ↓kr106 M.1, ↓kr107 M.1, ↓kr108 M.1, ↓kr109 M.1, ↓kr110 M.1, ↓kx0 M, ↓kx1 M, ↓kx2 M, ↓kx3 M, ↓kx4 M, ↓kx5 M, ↓kx6 M, ↓kx7 M, ↓kx8 M, ↓kx9 M, ↓kx10 M, ↓kx11 M, ↓kx1m M, ↓kx9m M, ↓kx10m M, ↓reduceIte, ↓bq b1, bi_t, il0, il1, il2, il3, il4, il5, il6, il7, il8, il9, il10, il11, il12, il13, il14, il15, il16, il17, il18, il19, il20, il21, il22, il23, il24, il25, il26, il27, il28, il29, il30, il31, il32, il33, il36, il38, il39, il40, il41, il48, il50, il51, il57, il59, il60, il61, il62, il63, il70, il96, il99, il100, il101, il102, il103, il104, il105, il106, il107, il108, il109, il110, il111, il112, il115, il116, il120, il121, il124, il200, il240, il255, il288, il360, il420, il999, il1000, il114292, il152755, il402789, il435589, il463922, il533611, il631470, iz_eq, h3, ↓reduceIte, ↓bq d2, ↓bq e2]
    by_cases q5 : q = 5
    · refine ⟨lz (worth V f (va V 7 f)), h, h2, V, p, pd, ?_, ?_, REL.fm r.mid (F2.mono SP_SX) R2⟩
      · rw [g1 q rfl, q5]
        show some ((iz (worth V f (va V 7 f))).toInt64, h) = _
        rw [iz_long (by omega) (by omega)]
      · rw [g2 q rfl, q5]; rfl
    · by_cases q0' : q = 0
      · exact ⟨(iz (va V 5 f)).toInt64, h, h, V, p, pd, by rw [g1 q rfl, if_pos q0'], by rw [g2 q rfl, if_pos q0'], r⟩
      · by_cases q1' : q = 1
        · exact ⟨(iz (va V 6 f)).toInt64, h, h, V, p, pd, by rw [g1 q rfl, if_neg (show ¬ (q = 0) by omega), if_pos q1'], by rw [g2 q rfl, if_neg (show ¬ (q = 0) by omega), if_pos q1'], r⟩
        · by_cases q2' : q = 2
          · exact ⟨(iz (va V 7 f)).toInt64, h, h, V, p, pd, by rw [g1 q rfl, if_neg (show ¬ (q = 0) by omega), if_neg (show ¬ (q = 1) by omega), if_pos q2'], by rw [g2 q rfl, if_neg (show ¬ (q = 0) by omega), if_neg (show ¬ (q = 1) by omega), if_pos q2'], r⟩
          · by_cases q3' : q = 3
            · exact ⟨(iz (va V 8 f)).toInt64, h, h, V, p, pd, by rw [g1 q rfl, if_neg (show ¬ (q = 0) by omega), if_neg (show ¬ (q = 1) by omega), if_neg (show ¬ (q = 2) by omega), if_pos q3'], by rw [g2 q rfl, if_neg (show ¬ (q = 0) by omega), if_neg (show ¬ (q = 1) by omega), if_neg (show ¬ (q = 2) by omega), if_pos q3'], r⟩
            · by_cases q4' : q = 4
              · exact ⟨(iz (dues V f (va V 7 f))).toInt64, h, h, V, p, pd, by rw [g1 q rfl, if_neg (show ¬ (q = 0) by omega), if_neg (show ¬ (q = 1) by omega), if_neg (show ¬ (q = 2) by omega), if_neg (show ¬ (q = 3) by omega), if_pos q4'], by rw [g2 q rfl, if_neg (show ¬ (q = 0) by omega), if_neg (show ¬ (q = 1) by omega), if_neg (show ¬ (q = 2) by omega), if_neg (show ¬ (q = 3) by omega), if_pos q4'], r⟩
              · exact ⟨(-9223372036854775808 : Int64), h, h, V, p, pd, by rw [g1 q rfl, if_neg (show ¬ (q = 0) by omega), if_neg (show ¬ (q = 1) by omega), if_neg (show ¬ (q = 2) by omega), if_neg (show ¬ (q = 3) by omega), if_neg (show ¬ (q = 4) by omega), if_neg q5], by rw [g2 q rfl, if_neg (show ¬ (q = 0) by omega), if_neg (show ¬ (q = 1) by omega), if_neg (show ¬ (q = 2) by omega), if_neg (show ¬ (q = 3) by omega), if_neg (show ¬ (q = 4) by omega), if_neg q5], r⟩
theorem t_has (hN : 300 ≤ N) (r : REL h V p pd b) (v1 v2 : Int32) : CAL (f_X9_has N 0 v1 v2 h) (f_X10_has N 71 v1 v2) b := by
  obtain ⟨t, rfl, t1, t2⟩ := int_iz v1
  obtain ⟨q, rfl, q1, q2⟩ := int_iz v2
  have R := r.2.1
  have M := r.2.2.1
  have w := r.2.2.2.1
  have S := r.2.2.2.2.2.2.2.1
  have hT := w.T
  have a1 := l_isTown (N := N) S R w t1 t2
  have b1 := m_isTown (N := N) M w t1 t2
  have b2' := m_inB (N := N) (h := h) (a := q) (b := 0) (c := 8) (by omega) (by omega) q1 q2
  have h3 : ¬ ((1 : Int) = 0) := by decide
  cases hf : tB V t with
  | false =>
    rw [hf] at a1 b1
    refine r.same_ (z := (-iz 1 : Int32)) ?_ ?_
    · unfold f_X9_has
      simp (disch := omega) only [↓knC S, ↓kn0 S, ↓kn1 S, ↓kn2 S, ↓kn4 S, ↓kn5 S, ↓kn6 S, ↓kn7 S, ↓kn8 S, ↓kn9 S, ↓kn10 S, ↓bq a1, bi_f, il0, il1, il2, il3, il4, il5, il6, il7, il8, il9, il10, il11, il12, il13, il14, il15, il16, il17, il18, il19, il20, il21, il22, il23, il24, il25, il26, il27, il28, il29, il30, il31, il32, il33, il36, il38, il39, il40, il41, il48, il50, il51, il57, il59, il60, il61, il62, il63, il70, il96, il99, il100, il101, il102, il103, il104, il105, il106, il107, il108, il109, il110, il111, il112, il115, il116, il120, il121, il124, il200, il240, il255, il288, il360, il420, il999, il1000, il114292, il152755, il402789, il435589, il463922, il533611, il631470, ↓reduceIte]
    · unfold f_X10_has
      simp (disch := omega) only [↓kmC M.1, ↓bq b1, bi_f, il0, il1, il2, il3, il4, il5, il6, il7, il8, il9, il10, il11, il12, il13, il14, il15, il16, il17, il18, il19, il20, il21, il22, il23, il24, il25, il26, il27, il28, il29, il30, il31, il32, il33, il36, il38, il39, il40, il41, il48, il50, il51, il57, il59, il60, il61, il62, il63, il70, il96, il99, il100, il101, il102, il103, il104, il105, il106, il107, il108, il109, il110, il111, il112, il115, il116, il120, il121, il124, il200, il240, il255, il288, il360, il420, il999, il1000, il114292, il152755, il402789, il435589, il463922, il533611, il631470, ↓reduceIte]
  | true =>
    rw [hf] at a1 b1
    have tt := tB_t hf
    have d1 := l_crowd R w (N := N) (by omega) (t := t) (by omega)
    have d2 := m_many (N := N) M w (by omega) (t := t) (by omega)
    have e1 := l_cost R w (N := N) (by omega) (t := t) (by omega)
    have e2 := m_cost (N := N) M w (by omega) (t := t) (by omega)
    have c88 : (3 ≤ q ∧ q ≤ 5) → f_X9_has_88 N 0 (iz t) (iz q) h = some (iz (va V 1 (t * 3 + q - 3)), h) := by
      intro hq3
      unfold f_X9_has_88
      rw [kn0 S, kA1 R, il3, iz_mul, iz_add, iz_sub, kX1 R (by omega) (by omega)]
    have c112 : (3 ≤ q ∧ q ≤ 5) → f_X10_has_112 N 71 (iz t) (iz q) h = some (iz (va V 1 (t * 3 + q - 3)), h) := by
      intro hq3
      unfold f_X10_has_112
      rw [kr73 M.1, il3, iz_mul, iz_add, iz_sub, kx1 M (by omega) (by omega), show 3 * t + q - 3 = t * 3 + q - 3 by omega]
    by_cases hq : 0 ≤ q ∧ q ≤ 8
    · rw [decide_eq_true hq] at b2'
      rcases (show q = 0 ∨ q = 1 ∨ q = 2 ∨ q = 3 ∨ q = 4 ∨ q = 5 ∨ q = 6 ∨ q = 7 ∨ q = 8 by omega) with rfl | rfl | rfl | rfl | rfl | rfl | rfl | rfl | rfl
      · refine ⟨iz (va V 0 t), h, h, V, p, pd, ?_, ?_, r⟩
        · unfold f_X9_has; rw [knC S, bq a1]; refine (if_neg (by decide)).trans <| (if_pos (by decide)).trans ?_; rw [kn0 S, kA0 R, kX0 R (by omega) (by omega)]
        · unfold f_X10_has; rw [kmC M.1, bq b1]; refine (if_neg (by decide)).trans ?_; rw [kmC M.1, bq (show f_X10_in N 71 (iz 0) (0 : Int32) (8 : Int32) h = _ from b2')]; refine (if_neg (by decide)).trans <| (if_pos (by decide)).trans ?_; rw [kr72 M.1, kx0 M (by omega) (by omega)]
      · refine ⟨iz (cnt V t), h, h, V, p, pd, ?_, ?_, r⟩
        · unfold f_X9_has; rw [knC S, bq a1]; refine (if_neg (by decide)).trans <| (if_neg (by decide)).trans <| (if_pos (by decide)).trans ?_; rw [kn0 S, kC R, bq d1]
        · unfold f_X10_has; rw [kmC M.1, bq b1]; refine (if_neg (by decide)).trans ?_; rw [kmC M.1, bq (show f_X10_in N 71 (iz 1) (0 : Int32) (8 : Int32) h = _ from b2')]; refine (if_neg (by decide)).trans <| (if_neg (by decide)).trans <| (if_pos (by decide)).trans ?_; rw [kmC M.1, bq d2]
      · refine ⟨iz (cost V t), h, h, V, p, pd, ?_, ?_, r⟩
        · unfold f_X9_has; rw [knC S, bq a1]; refine (if_neg (by decide)).trans <| (if_neg (by decide)).trans <| (if_neg (by decide)).trans <| (if_pos (by decide)).trans ?_; rw [kn0 S, kC R, bq e1]
        · unfold f_X10_has; rw [kmC M.1, bq b1]; refine (if_neg (by decide)).trans ?_; rw [kmC M.1, bq (show f_X10_in N 71 (iz 2) (0 : Int32) (8 : Int32) h = _ from b2')]; refine (if_neg (by decide)).trans <| (if_neg (by decide)).trans <| (if_neg (by decide)).trans <| (if_pos (by decide)).trans ?_; rw [kmC M.1, bq e2]
      · refine ⟨iz (va V 1 (t * 3 + 3 - 3)), h, h, V, p, pd, ?_, ?_, r⟩
        · unfold f_X9_has; rw [knC S, bq a1]; refine (if_neg (by decide)).trans <| (if_neg (by decide)).trans <| (if_neg (by decide)).trans <| (if_neg (by decide)).trans <| (if_pos (by decide)).trans ?_; exact c88 (by decide)
        · unfold f_X10_has; rw [kmC M.1, bq b1]; refine (if_neg (by decide)).trans ?_; rw [kmC M.1, bq (show f_X10_in N 71 (iz 3) (0 : Int32) (8 : Int32) h = _ from b2')]; refine (if_neg (by decide)).trans <| (if_neg (by decide)).trans <| (if_neg (by decide)).trans <| (if_neg (by decide)).trans <| (if_pos (by decide)).trans ?_; exact c112 (by decide)
      · refine ⟨iz (va V 1 (t * 3 + 4 - 3)), h, h, V, p, pd, ?_, ?_, r⟩
        · unfold f_X9_has; rw [knC S, bq a1]; refine (if_neg (by decide)).trans <| (if_neg (by decide)).trans <| (if_neg (by decide)).trans <| (if_neg (by decide)).trans <| (if_neg (by decide)).trans <| (if_pos (by decide)).trans ?_; exact c88 (by decide)
        · unfold f_X10_has; rw [kmC M.1, bq b1]; refine (if_neg (by decide)).trans ?_; rw [kmC M.1, bq (show f_X10_in N 71 (iz 4) (0 : Int32) (8 : Int32) h = _ from b2')]; refine (if_neg (by decide)).trans <| (if_neg (by decide)).trans <| (if_neg (by decide)).trans <| (if_neg (by decide)).trans <| (if_neg (by decide)).trans <| (if_pos (by decide)).trans ?_; exact c112 (by decide)
      · refine ⟨iz (va V 1 (t * 3 + 5 - 3)), h, h, V, p, pd, ?_, ?_, r⟩
        · unfold f_X9_has; rw [knC S, bq a1]; refine (if_neg (by decide)).trans <| (if_neg (by decide)).trans <| (if_neg (by decide)).trans <| (if_neg (by decide)).trans <| (if_neg (by decide)).trans <| (if_neg (by decide)).trans <| (if_pos (by decide)).trans ?_; exact c88 (by decide)
        · unfold f_X10_has; rw [kmC M.1, bq b1]; refine (if_neg (by decide)).trans ?_; rw [kmC M.1, bq (show f_X10_in N 71 (iz 5) (0 : Int32) (8 : Int32) h = _ from b2')]; refine (if_neg (by decide)).trans <| (if_neg (by decide)).trans <| (if_neg (by decide)).trans <| (if_neg (by decide)).trans <| (if_neg (by decide)).trans <| (if_neg (by decide)).trans <| (if_pos (by decide)).trans ?_; exact c112 (by decide)
      · refine ⟨iz (va V 2 t), h, h, V, p, pd, ?_, ?_, r⟩
        · unfold f_X9_has; rw [knC S, bq a1]; refine (if_neg (by decide)).trans <| (if_neg (by decide)).trans <| (if_neg (by decide)).trans <| (if_neg (by decide)).trans <| (if_neg (by decide)).trans <| (if_neg (by decide)).trans <| (if_neg (by decide)).trans <| (if_pos (by decide)).trans ?_; rw [kn0 S, kA2 R, kX2 R (by omega) (by omega)]
        · unfold f_X10_has; rw [kmC M.1, bq b1]; refine (if_neg (by decide)).trans ?_; rw [kmC M.1, bq (show f_X10_in N 71 (iz 6) (0 : Int32) (8 : Int32) h = _ from b2')]; refine (if_neg (by decide)).trans <| (if_neg (by decide)).trans <| (if_neg (by decide)).trans <| (if_neg (by decide)).trans <| (if_neg (by decide)).trans <| (if_neg (by decide)).trans <| (if_neg (by decide)).trans <| (if_pos (by decide)).trans ?_; rw [kr74 M.1, kx2 M (by omega) (by omega)]
      · refine ⟨iz (va V 3 t), h, h, V, p, pd, ?_, ?_, r⟩
        · unfold f_X9_has; rw [knC S, bq a1]; refine (if_neg (by decide)).trans <| (if_neg (by decide)).trans <| (if_neg (by decide)).trans <| (if_neg (by decide)).trans <| (if_neg (by decide)).trans <| (if_neg (by decide)).trans <| (if_neg (by decide)).trans <| (if_neg (by decide)).trans <| (if_pos (by decide)).trans ?_; rw [kn0 S, kA3 R, kX3 R (by omega) (by omega)]
        · unfold f_X10_has; rw [kmC M.1, bq b1]; refine (if_neg (by decide)).trans ?_; rw [kmC M.1, bq (show f_X10_in N 71 (iz 7) (0 : Int32) (8 : Int32) h = _ from b2')]; refine (if_neg (by decide)).trans <| (if_neg (by decide)).trans <| (if_neg (by decide)).trans <| (if_neg (by decide)).trans <| (if_neg (by decide)).trans <| (if_neg (by decide)).trans <| (if_neg (by decide)).trans <| (if_neg (by decide)).trans <| (if_pos (by decide)).trans ?_; rw [kr75 M.1, kx3 M (by omega) (by omega)]
      · refine ⟨iz (va V 4 t), h, h, V, p, pd, ?_, ?_, r⟩
        · unfold f_X9_has; rw [knC S, bq a1]; refine (if_neg (by decide)).trans <| (if_neg (by decide)).trans <| (if_neg (by decide)).trans <| (if_neg (by decide)).trans <| (if_neg (by decide)).trans <| (if_neg (by decide)).trans <| (if_neg (by decide)).trans <| (if_neg (by decide)).trans <| (if_neg (by decide)).trans <| (if_pos (by decide)).trans ?_; rw [kn0 S, kA4 R, kX4 R (by omega) (by omega)]
        · unfold f_X10_has; rw [kmC M.1, bq b1]; refine (if_neg (by decide)).trans ?_; rw [kmC M.1, bq (show f_X10_in N 71 (iz 8) (0 : Int32) (8 : Int32) h = _ from b2')]; refine (if_neg (by decide)).trans <| (if_neg (by decide)).trans <| (if_neg (by decide)).trans <| (if_neg (by decide)).trans <| (if_neg (by decide)).trans <| (if_neg (by decide)).trans <| (if_neg (by decide)).trans <| (if_neg (by decide)).trans <| (if_neg (by decide)).trans <| (if_pos (by decide)).trans ?_; rw [kr76 M.1, kx4 M (by omega) (by omega)]
    · rw [decide_eq_false hq] at b2'
      refine r.same_ (z := (-iz 1 : Int32)) ?_ ?_
      · unfold f_X9_has; rw [knC S, bq a1]; refine (if_neg (by decide)).trans <| (if_neg (iz_ne (b := 0) q1 q2 (by decide) (by decide) (by omega))).trans <| (if_neg (iz_ne (b := 1) q1 q2 (by decide) (by decide) (by omega))).trans <| (if_neg (iz_ne (b := 2) q1 q2 (by decide) (by decide) (by omega))).trans <| (if_neg (iz_ne (b := 3) q1 q2 (by decide) (by decide) (by omega))).trans <| (if_neg (iz_ne (b := 4) q1 q2 (by decide) (by decide) (by omega))).trans <| (if_neg (iz_ne (b := 5) q1 q2 (by decide) (by decide) (by omega))).trans <| (if_neg (iz_ne (b := 6) q1 q2 (by decide) (by decide) (by omega))).trans <| (if_neg (iz_ne (b := 7) q1 q2 (by decide) (by decide) (by omega))).trans <| (if_neg (iz_ne (b := 8) q1 q2 (by decide) (by decide) (by omega))).trans ?_; rfl
      · unfold f_X10_has; rw [kmC M.1, bq b1]; refine (if_neg (by decide)).trans ?_; rw [kmC M.1, bq (show f_X10_in N 71 (iz q) (0 : Int32) (8 : Int32) h = _ from b2')]; exact if_pos (by decide)
end
