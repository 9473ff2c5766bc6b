def CAL {α : Type} (o : Option (α × Mem)) (m : Mem → Option (α × Mem)) (b : Nat) : Prop := ∃ (r : α) (h1 h2 : Mem) (V : Vw) (p pd : Nat), o = some (r, h1) ∧ m h1 = some (r, h2) ∧ REL h2 V p pd b
theorem int_iz (v : Int32) : ∃ z : Int, v = iz z ∧ -2147483648 ≤ z ∧ z < 2147483648 := ⟨v.toInt, by unfold iz; rw [Int32.ofInt_toInt], by have := Int32.le_toInt v; omega, by have := Int32.toInt_lt v; omega⟩
def LO (h h' : Mem) : Prop := h'.1 = h.1 ∧ h'.2.2 = h.2.2 ∧ ∀ i, (i = 0 ∨ 44 ≤ i) → h'.2.1 i = h.2.1 i
theorem LO.eqs {h h' : Mem} (l : LO h h') : EQS h h' := ⟨l.1, fun i j _ => by rw [l.2.1], fun i hi => l.2.2 i (by omega), by rw [l.2.2 44 (by omega)], fun j _ => by rw [l.2.2 71 (by omega)], fun i _ => by rw [l.2.1]⟩
theorem LO.repM {h h' : Mem} {V : Vw} (l : LO h h') (R : RepM h V) : RepM h' V := R.lo l.1 (by rw [l.2.1]) (fun i hi => l.2.2 i (by omega))
def HI (h h' : Mem) : Prop := h'.1 = h.1 ∧ h'.2.2 = h.2.2 ∧ ∀ i, i ≤ 70 → h'.2.1 i = h.2.1 i
theorem HI.rf {h : Mem} : HI h h := ⟨rfl, rfl, fun _ _ => rfl⟩
theorem HI.tr {h h1 h2 : Mem} (a : HI h h1) (b : HI h1 h2) : HI h h2 := ⟨b.1.trans a.1, b.2.1.trans a.2.1, fun i q => (b.2.2 i q).trans (a.2.2 i q)⟩
theorem HI.wr_ {h : Mem} {a : Nat} {row : Nat → Int32} (ha : 71 ≤ a) : HI h (wr h a row) := ⟨rfl, rfl, fun i hi => wr_ne (by omega)⟩
theorem HI.fd_ {h : Mem} {j : Nat} {v : Int32} : HI h (fd h j v) := ⟨rfl, rfl, fun i hi => fd_ne (by omega)⟩
theorem HI.repC {h h' : Mem} {c p : Nat} {V : Vw} (k : HI h h') (q : CP c p) (R : RepC h c p V) : RepC h' c p V := by
  have hc : CC c := q.1
  have hp := q.2
  refine rep_frame R k.1 (k.2.2 c (by rcases hc with rfl | rfl | rfl <;> decide)) (fun j hj => k.2.2 _ (by have := ar_lt (k := j) hc (by omega); omega)) (fun i hi => k.2.2 _ (by omega)) (by rw [k.2.1]) (by rw [k.2.1])
abbrev MID (h : Mem) (V V' : Vw) (p pd b : Nat) : Prop := PP p pd ∧ RepC h 1 p V' ∧ RepM h V ∧ WF V' ∧ LK V' ∧ h.2.2.2 0 3 = some pd ∧ Lsh h pd ∧ OTH h b
theorem REL.mid {h : Mem} {V : Vw} {p pd b : Nat} (r : REL h V p pd b) : MID h V V p pd b := r
theorem REL.lo_ {h h' : Mem} {V V' : Vw} {p pd b : Nat} (r : REL h V p pd b) (k : LO h h') (R : RepC h' 1 p V') (w : WF V') (lk : va V' 9 = va V 9) : MID h' V V' p pd b :=
  ⟨r.1, R, k.repM r.2.2.1, w, by unfold LK; rw [lk]; exact r.2.2.2.2.1, by rw [k.2.1]; exact r.2.2.2.2.2.1, r.2.2.2.2.2.2.1.eqs r.pd k.eqs, r.2.2.2.2.2.2.2.eqs k.eqs⟩
theorem MID.hi_ {h h' : Mem} {V V' : Vw} {p pd b : Nat} (r : MID h V V' p pd b) (k : HI h h') (e : EQS h h') (R : RepM h' V') : REL h' V' p pd b := by
  obtain ⟨r1, r2, r3, r4, r5, r6, r7, r8⟩ := r
  have cp : CP 1 p := ⟨Or.inl rfl, by rcases r1 with ⟨q, _⟩ | ⟨q, _⟩ <;> omega⟩
  have pd' : pd = 2 ∨ pd = 39 := by rcases r1 with ⟨_, q⟩ | ⟨_, q⟩ <;> omega
  exact ⟨r1, k.repC cp r2, R, r4, r5, by rw [k.2.1]; exact r6, r7.eqs pd' e, r8.eqs e⟩
section
variable {h : Mem} {V : Vw} {p pd b N : Nat}
theorem l_within {a b c : Int} (hb : -100000 ≤ b ∧ b ≤ 100000) (hc : -100000 ≤ c ∧ c ≤ 100000) (h1 : -2147483648 ≤ a) (h2 : a < 2147483648) : f_X9_within N (iz a) (iz b) (iz c) h = some (iz (bi (decide (b ≤ a ∧ a ≤ c))), h) := by
  unfold f_X9_within
  by_cases c1 : a < b
  · rw [decide_eq_false (show ¬ (b ≤ a ∧ a ≤ c) by omega)]
    simp (disch := omega) only [if_true, if_false, Option.bind_some, b2_some, il0, il1, il2, il3, il4, il5, il6, il7, il8, il9, il10, il11, il12, il13, il14, il15, il16, il17, il18, il19, il20, il21, il22, il23, il24, il25, il26, il27, il28, il29, il30, il31, il32, il33, il36, il38, il39, il40, il41, il48, il50, il51, il57, il59, il60, il61, il62, il63, il70, il96, il99, il100, il101, il102, il103, il104, il105, il106, il107, il108, il109, il110, il111, il112, il115, il116, il120, il121, il124, il200, il240, il255, il288, il360, il420, il999, il1000, il114292, il152755, il402789, il435589, il463922, il533611, il631470, iz_add, iz_sub, iz_mul, iz_neg, iz_le, iz_lt, iz_eq, c1, ↓reduceIte, bi_f]
  · by_cases c3 : c < a
    · rw [decide_eq_false (show ¬ (b ≤ a ∧ a ≤ c) by omega)]
      simp (disch := omega) only [if_true, if_false, Option.bind_some, b2_some, il0, il1, il2, il3, il4, il5, il6, il7, il8, il9, il10, il11, il12, il13, il14, il15, il16, il17, il18, il19, il20, il21, il22, il23, il24, il25, il26, il27, il28, il29, il30, il31, il32, il33, il36, il38, il39, il40, il41, il48, il50, il51, il57, il59, il60, il61, il62, il63, il70, il96, il99, il100, il101, il102, il103, il104, il105, il106, il107, il108, il109, il110, il111, il112, il115, il116, il120, il121, il124, il200, il240, il255, il288, il360, il420, il999, il1000, il114292, il152755, il402789, il435589, il463922, il533611, il631470, iz_add, iz_sub, iz_mul, iz_neg, iz_le, iz_lt, iz_eq, c1, c3, ↓reduceIte, bi_f]
    · rw [decide_eq_true (show b ≤ a ∧ a ≤ c by omega)]
      simp (disch := omega) only [if_true, if_false, Option.bind_some, b2_some, il0, il1, il2, il3, il4, il5, il6, il7, il8, il9, il10, il11, il12, il13, il14, il15, il16, il17, il18, il19, il20, il21, il22, il23, il24, il25, il26, il27, il28, il29, il30, il31, il32, il33, il36, il38, il39, il40, il41, il48, il50, il51, il57, il59, il60, il61, il62, il63, il70, il96, il99, il100, il101, il102, il103, il104, il105, il106, il107, il108, il109, il110, il111, il112, il115, il116, il120, il121, il124, il200, il240, il255, il288, il360, il420, il999, il1000, il114292, il152755, il402789, il435589, il463922, il533611, il631470, iz_add, iz_sub, iz_mul, iz_neg, iz_le, iz_lt, iz_eq, c1, c3, ↓reduceIte, bi_t]
theorem m_inB {a b c : Int} (hb : -100000 ≤ b ∧ b ≤ 100000) (hc : -100000 ≤ c ∧ c ≤ 100000) (h1 : -2147483648 ≤ a) (h2 : a < 2147483648) : f_X10_in N 71 (iz a) (iz b) (iz c) h = some (iz (bi (decide (b ≤ a ∧ a ≤ c))), h) := by
  rw [m_in hb hc h1 h2]
  congr 3
  by_cases q : b ≤ a ∧ a ≤ c
  · rw [if_pos q, decide_eq_true q]; rfl
  · rw [if_neg q, decide_eq_false q]; rfl
def tB (V : Vw) (t : Int) : Bool := decide (0 ≤ t ∧ t ≤ (vT V : Int) - 1)
def fB (V : Vw) (f : Int) : Bool := decide (0 ≤ f ∧ f ≤ (vF V : Int) - 1)
theorem l_isTown (S : X9S h) (R : RepC h 1 p V) (w : WF V) {t : Int} (h1 : -2147483648 ≤ t) (h2 : t < 2147483648) : f_X9_isTown N 0 (iz t) h = some (iz (bi (tB V t)), h) := by
  have hT := w.T
  have e := l_within (N := N) (h := h) (a := t) (b := 0) (c := (vT V : Int) - 1) (by omega) (by omega) h1 h2
  unfold f_X9_isTown
  simp (disch := omega) only [↓knC S, ↓kn0 S, ↓kn1 S, ↓kn2 S, ↓kn4 S, ↓kn5 S, ↓kn6 S, ↓kn7 S, ↓kn8 S, ↓kn9 S, ↓kn10 S, ↓kT R, il0, il1, il2, il3, il4, il5, il6, il7, il8, il9, il10, il11, il12, il13, il14, il15, il16, il17, il18, il19, il20, il21, il22, il23, il24, il25, il26, il27, il28, il29, il30, il31, il32, il33, il36, il38, il39, il40, il41, il48, il50, il51, il57, il59, il60, il61, il62, il63, il70, il96, il99, il100, il101, il102, il103, il104, il105, il106, il107, il108, il109, il110, il111, il112, il115, il116, il120, il121, il124, il200, il240, il255, il288, il360, il420, il999, il1000, il114292, il152755, il402789, il435589, il463922, il533611, il631470, iz_sub, ↓bq e]
  exact rz_bi
theorem l_isFamily (S : X9S h) (R : RepC h 1 p V) (w : WF V) {t : Int} (h1 : -2147483648 ≤ t) (h2 : t < 2147483648) : f_X9_isFamily N 0 (iz t) h = some (iz (bi (fB V t)), h) := by
  have hF := w.F
  have e := l_within (N := N) (h := h) (a := t) (b := 0) (c := (vF V : Int) - 1) (by omega) (by omega) h1 h2
  unfold f_X9_isFamily
  simp (disch := omega) only [↓knC S, ↓kn0 S, ↓kn1 S, ↓kn2 S, ↓kn4 S, ↓kn5 S, ↓kn6 S, ↓kn7 S, ↓kn8 S, ↓kn9 S, ↓kn10 S, ↓kF R, il0, il1, il2, il3, il4, il5, il6, il7, il8, il9, il10, il11, il12, il13, il14, il15, il16, il17, il18, il19, il20, il21, il22, il23, il24, il25, il26, il27, il28, il29, il30, il31, il32, il33, il36, il38, il39, il40, il41, il48, il50, il51, il57, il59, il60, il61, il62, il63, il70, il96, il99, il100, il101, il102, il103, il104, il105, il106, il107, il108, il109, il110, il111, il112, il115, il116, il120, il121, il124, il200, il240, il255, il288, il360, il420, il999, il1000, il114292, il152755, il402789, il435589, il463922, il533611, il631470, iz_sub, ↓bq e]
  exact rz_bi
theorem m_isTown (R : RepM h V) (w : WF V) {t : Int} (h1 : -2147483648 ≤ t) (h2 : t < 2147483648) : f_X10_isTown N 71 (iz t) h = some (iz (bi (tB V t)), h) := by
  have hT := w.T
  have e := m_inB (N := N) (h := h) (a := t) (b := 0) (c := (vT V : Int) - 1) (by omega) (by omega) h1 h2
  unfold f_X10_isTown
  simp (disch := omega) only [↓kmT R, ↓kmC R.1, il0, il1, il2, il3, il4, il5, il6, il7, il8, il9, il10, il11, il12, il13, il14, il15, il16, il17, il18, il19, il20, il21, il22, il23, il24, il25, il26, il27, il28, il29, il30, il31, il32, il33, il36, il38, il39, il40, il41, il48, il50, il51, il57, il59, il60, il61, il62, il63, il70, il96, il99, il100, il101, il102, il103, il104, il105, il106, il107, il108, il109, il110, il111, il112, il115, il116, il120, il121, il124, il200, il240, il255, il288, il360, il420, il999, il1000, il114292, il152755, il402789, il435589, il463922, il533611, il631470, iz_sub, ↓bq e]
  exact rz_bi
theorem m_isFamily (R : RepM h V) (w : WF V) {t : Int} (h1 : -2147483648 ≤ t) (h2 : t < 2147483648) : f_X10_isFamily N 71 (iz t) h = some (iz (bi (fB V t)), h) := by
  have hF := w.F
  have e := m_inB (N := N) (h := h) (a := t) (b := 0) (c := (vF V : Int) - 1) (by omega) (by omega) h1 h2
  unfold f_X10_isFamily
  simp (disch := omega) only [↓kmF R, ↓kmC R.1, il0, il1, il2, il3, il4, il5, il6, il7, il8, il9, il10, il11, il12, il13, il14, il15, il16, il17, il18, il19, il20, il21, il22, il23, il24, il25, il26, il27, il28, il29, il30, il31, il32, il33, il36, il38, il39, il40, il41, il48, il50, il51, il57, il59, il60, il61, il62, il63, il70, il96, il99, il100, il101, il102, il103, il104, il105, il106, il107, il108, il109, il110, il111, il112, il115, il116, il120, il121, il124, il200, il240, il255, il288, il360, il420, il999, il1000, il114292, il152755, il402789, il435589, il463922, il533611, il631470, iz_sub, ↓bq e]
  exact rz_bi
theorem l_isRest {k : Int} (h1 : -2147483648 ≤ k) (h2 : k < 2147483648) : f_X9_isRest N (iz k) h = some (iz (bi (decide (1 ≤ k ∧ k ≤ 5))), h) := by
  have e := l_within (N := N) (h := h) (a := k) (b := 1) (c := 5) (by omega) (by omega) h1 h2
  unfold f_X9_isRest
  simp (disch := omega) only [il0, il1, il2, il3, il4, il5, il6, il7, il8, il9, il10, il11, il12, il13, il14, il15, il16, il17, il18, il19, il20, il21, il22, il23, il24, il25, il26, il27, il28, il29, il30, il31, il32, il33, il36, il38, il39, il40, il41, il48, il50, il51, il57, il59, il60, il61, il62, il63, il70, il96, il99, il100, il101, il102, il103, il104, il105, il106, il107, il108, il109, il110, il111, il112, il115, il116, il120, il121, il124, il200, il240, il255, il288, il360, il420, il999, il1000, il114292, il152755, il402789, il435589, il463922, il533611, il631470, ↓bq e]
  exact rz_bi
theorem tB_t {t : Int} (e : tB V t = true) : 0 ≤ t ∧ t < vT V := by have := of_decide_eq_true e; omega
theorem fB_t {t : Int} (e : fB V t = true) : 0 ≤ t ∧ t < vF V := by have := of_decide_eq_true e; omega
/-- nothing done on either side -/
theorem REL.same_ (r : REL h V p pd b) {α : Type} {z : α} {o : Option (α × Mem)} {m : Mem → Option (α × Mem)} (e1 : o = some (z, h)) (e2 : m h = some (z, h)) : CAL o m b := ⟨z, h, h, V, p, pd, e1, e2, r⟩
theorem t_worth (hN : 300 ≤ N) (r : REL h V p pd b) (v1 v2 : Int32) : CAL (f_X9_worth N 0 v1 v2 h) (f_X10_worth N 71 v1 v2) b := by
  obtain ⟨f, rfl, f1, f2⟩ := int_iz v1
  obtain ⟨t, rfl, t1, t2⟩ := int_iz v2
  have R := r.2.1
  have M := r.2.2.1
  have w := r.2.2.2.1
  have S := r.2.2.2.2.2.2.2.1
  have hF := w.F
  have hT := w.T
  have a1 := l_isFamily (N := N) S R w f1 f2
  have a2 := l_isTown (N := N) S R w t1 t2
  have b1 := m_isFamily (N := N) M w f1 f2
  have b2' := m_isTown (N := N) M w t1 t2
  have h3 : ¬ ((1 : Int) = 0) := by decide
  cases hf : fB V f with
  | false =>
    rw [hf] at a1 b1
    refine r.same_ (z := (-9223372036854775808 : Int64)) ?_ ?_
    · unfold f_X9_worth
      simp (disch := omega) only [↓knC S, ↓kn0 S, ↓kn1 S, ↓kn2 S, ↓kn4 S, ↓kn5 S, ↓kn6 S, ↓kn7 S, ↓kn8 S, ↓kn9 S, ↓kn10 S, ↓bq a1, bi_f, il0, ↓reduceIte]
    · unfold f_X10_worth
      simp (disch := omega) only [↓kmC M.1, ↓bq b1, bi_f, il0, ↓reduceIte]
  | true =>
    rw [hf] at a1 b1
    have ff := fB_t hf
    cases ht : tB V t with
    | false =>
      rw [ht] at a2 b2'
      refine r.same_ (z := (-9223372036854775808 : Int64)) ?_ ?_
      · unfold f_X9_worth
        simp (disch := omega) only [↓knC S, ↓kn0 S, ↓kn1 S, ↓kn2 S, ↓kn4 S, ↓kn5 S, ↓kn6 S, ↓kn7 S, ↓kn8 S, ↓kn9 S, ↓kn10 S, ↓bq a1, bi_t, bi_f, il0, iz_eq, h3, ↓reduceIte, ↓bq a2]
      · unfold f_X10_worth
        simp (disch := omega) only [↓kmC M.1, ↓bq b1, bi_t, bi_f, il0, iz_eq, h3, ↓reduceIte, ↓bq b2']
    | true =>
      rw [ht] at a2 b2'
      have tt := tB_t ht
      obtain ⟨f, rfl⟩ := Int.eq_ofNat_of_zero_le ff.1
      have e1 := l_worth R w (N := N) (by omega) (f := f) (t := t) (by omega) (by omega)
      obtain ⟨h2, e2, R2, F2⟩ := m_worth M w (N := N) (by omega) (f := f) (t := t) (by omega) (by omega)
      have hb := worth_bd w (f := f) (t := t) (by omega) (by omega)
      refine ⟨lz (worth V f t), h, h2, V, p, pd, ?_, ?_, REL.fm r.mid (F2.mono SP_SX) R2⟩
      · unfold f_X9_worth
        simp (disch := omega) only [↓knC S, ↓kn0 S, ↓kn1 S, ↓kn2 S, ↓kn4 S, ↓kn5 S, ↓kn6 S, ↓kn7 S, ↓kn8 S, ↓kn9 S, ↓kn10 S, ↓bq a1, bi_t, il0, iz_eq, h3, ↓reduceIte, ↓bq a2, ↓kC R, ↓bq e1, iz_long]
      · unfold f_X10_worth
        simp (disch := omega) only [↓kmC M.1, ↓bq b1, bi_t, il0, iz_eq, h3, ↓reduceIte, ↓bq b2', ↓bq e2]
theorem t_choice (hN : 300 ≤ N) (r : REL h V p pd b) (v1 v2 : Int32) : CAL (f_X9_choice N 0 v1 v2 h) (f_X10_choice N 71 v1 v2) b := by
  obtain ⟨t, rfl, t1, t2⟩ := int_iz v1
  obtain ⟨g, rfl, g1, g2⟩ := int_iz v2
  have R := r.2.1
  have M := r.2.2.1
  have w := r.2.2.2.1
  have S := r.2.2.2.2.2.2.2.1
  have hT := w.T
  have a1 := l_isTown (N := N) S R w t1 t2
  have a2 := l_within (N := N) (h := h) (a := g) (b := 0) (c := 2) (by omega) (by omega) g1 g2
  have b1 := m_isTown (N := N) M w t1 t2
  have b2' := m_inB (N := N) (h := h) (a := g) (b := 0) (c := 2) (by omega) (by omega) g1 g2
  have h3 : ¬ ((1 : Int) = 0) := by decide
  cases hf : tB V t with
  | false =>
    rw [hf] at a1 b1
    refine r.same_ (z := (-iz 1 : Int32)) ?_ ?_
    · unfold f_X9_choice
      simp (disch := omega) only [↓knC S, ↓kn0 S, ↓kn1 S, ↓kn2 S, ↓kn4 S, ↓kn5 S, ↓kn6 S, ↓kn7 S, ↓kn8 S, ↓kn9 S, ↓kn10 S, ↓bq a1, bi_f, il0, il1, il2, il3, il4, il5, il6, il7, il8, il9, il10, il11, il12, il13, il14, il15, il16, il17, il18, il19, il20, il21, il22, il23, il24, il25, il26, il27, il28, il29, il30, il31, il32, il33, il36, il38, il39, il40, il41, il48, il50, il51, il57, il59, il60, il61, il62, il63, il70, il96, il99, il100, il101, il102, il103, il104, il105, il106, il107, il108, il109, il110, il111, il112, il115, il116, il120, il121, il124, il200, il240, il255, il288, il360, il420, il999, il1000, il114292, il152755, il402789, il435589, il463922, il533611, il631470, ↓reduceIte]
    · unfold f_X10_choice
      simp (disch := omega) only [↓kmC M.1, ↓bq b1, bi_f, il0, il1, il2, il3, il4, il5, il6, il7, il8, il9, il10, il11, il12, il13, il14, il15, il16, il17, il18, il19, il20, il21, il22, il23, il24, il25, il26, il27, il28, il29, il30, il31, il32, il33, il36, il38, il39, il40, il41, il48, il50, il51, il57, il59, il60, il61, il62, il63, il70, il96, il99, il100, il101, il102, il103, il104, il105, il106, il107, il108, il109, il110, il111, il112, il115, il116, il120, il121, il124, il200, il240, il255, il288, il360, il420, il999, il1000, il114292, il152755, il402789, il435589, il463922, il533611, il631470, ↓reduceIte]
  | true =>
    rw [hf] at a1 b1
    have tt := tB_t hf
    by_cases hg : 0 ≤ g ∧ g ≤ 2
    · rw [decide_eq_true hg] at a2 b2'
      obtain ⟨row, e1⟩ := l_chosen R w r.cp (N := N) (by omega) (t := t) (g := g) (by omega) (by omega)
      have k1 : KC 1 h (wr h (ar 1 9) row) := (KU.wr (by simp)).kc
      have R1 := rep_want (row := row) R r.cp
      have md := r.kc k1 R1 w rfl
      obtain ⟨h2, e2, R2, F2⟩ := m_choice md.2.2.1 w (N := N) (by omega) (t := t) (g := g) (by omega) (by omega)
      have b1 := m_isTown (N := N) md.2.2.1 w t1 t2
      rw [hf] at b1
      have b2' := m_inB (N := N) (h := wr h (ar 1 9) row) (a := g) (b := 0) (c := 2) (by omega) (by omega) g1 g2
      rw [decide_eq_true hg] at b2'
      refine ⟨iz (choice V t g), wr h (ar 1 9) row, h2, V, p, pd, ?_, ?_, REL.fm md (F2.mono SV_SX) R2⟩
      · unfold f_X9_choice
        simp (disch := omega) only [↓knC S, ↓kn0 S, ↓kn1 S, ↓kn2 S, ↓kn4 S, ↓kn5 S, ↓kn6 S, ↓kn7 S, ↓kn8 S, ↓kn9 S, ↓kn10 S, ↓bq a1, bi_t, il0, il1, il2, il3, il4, il5, il6, il7, il8, il9, il10, il11, il12, il13, il14, il15, il16, il17, il18, il19, il20, il21, il22, il23, il24, il25, il26, il27, il28, il29, il30, il31, il32, il33, il36, il38, il39, il40, il41, il48, il50, il51, il57, il59, il60, il61, il62, il63, il70, il96, il99, il100, il101, il102, il103, il104, il105, il106, il107, il108, il109, il110, il111, il112, il115, il116, il120, il121, il124, il200, il240, il255, il288, il360, il420, il999, il1000, il114292, il152755, il402789, il435589, il463922, il533611, il631470, iz_eq, h3, ↓reduceIte, ↓bq a2, ↓kC R, ↓bq e1]
      · unfold f_X10_choice
        simp (disch := omega) only [↓kmC md.2.2.1.1, ↓bq b1, bi_t, il0, il1, il2, il3, il4, il5, il6, il7, il8, il9, il10, il11, il12, il13, il14, il15, il16, il17, il18, il19, il20, il21, il22, il23, il24, il25, il26, il27, il28, il29, il30, il31, il32, il33, il36, il38, il39, il40, il41, il48, il50, il51, il57, il59, il60, il61, il62, il63, il70, il96, il99, il100, il101, il102, il103, il104, il105, il106, il107, il108, il109, il110, il111, il112, il115, il116, il120, il121, il124, il200, il240, il255, il288, il360, il420, il999, il1000, il114292, il152755, il402789, il435589, il463922, il533611, il631470, iz_eq, h3, ↓reduceIte, ↓bq b2', ↓bq e2]
    · rw [decide_eq_false hg] at a2 b2'
      refine r.same_ (z := (-iz 1 : Int32)) ?_ ?_
      · unfold f_X9_choice
        simp (disch := omega) only [↓knC S, ↓kn0 S, ↓kn1 S, ↓kn2 S, ↓kn4 S, ↓kn5 S, ↓kn6 S, ↓kn7 S, ↓kn8 S, ↓kn9 S, ↓kn10 S, ↓bq a1, bi_t, bi_f, il0, il1, il2, il3, il4, il5, il6, il7, il8, il9, il10, il11, il12, il13, il14, il15, il16, il17, il18, il19, il20, il21, il22, il23, il24, il25, il26, il27, il28, il29, il30, il31, il32, il33, il36, il38, il39, il40, il41, il48, il50, il51, il57, il59, il60, il61, il62, il63, il70, il96, il99, il100, il101, il102, il103, il104, il105, il106, il107, il108, il109, il110, il111, il112, il115, il116, il120, il121, il124, il200, il240, il255, il288, il360, il420, il999, il1000, il114292, il152755, il402789, il435589, il463922, il533611, il631470, iz_eq, h3, ↓reduceIte, ↓bq a2]
      · unfold f_X10_choice
        simp (disch := omega) only [↓kmC M.1, ↓bq b1, bi_t, bi_f, il0, il1, il2, il3, il4, il5, il6, il7, il8, il9, il10, il11, il12, il13, il14, il15, il16, il17, il18, il19, il20, il21, il22, il23, il24, il25, il26, il27, il28, il29, il30, il31, il32, il33, il36, il38, il39, il40, il41, il48, il50, il51, il57, il59, il60, il61, il62, il63, il70, il96, il99, il100, il101, il102, il103, il104, il105, il106, il107, il108, il109, il110, il111, il112, il115, il116, il120, il121, il124, il200, il240, il255, il288, il360, il420, il999, il1000, il114292, il152755, il402789, il435589, il463922, il533611, il631470, iz_eq, h3, ↓reduceIte, ↓bq b2']
theorem t_choose (hN : 300 ≤ N) (r : REL h V p pd b) (v1 : Int32) : CAL (f_X9_choose N 0 v1 h) (f_X10_choose N 71 v1) b := by
  obtain ⟨t, rfl, t1, t2⟩ := int_iz v1
  have R := r.2.1
  have M := r.2.2.1
  have w := r.2.2.2.1
  have S := r.2.2.2.2.2.2.2.1
  have hT := w.T
  have a1 := l_isTown (N := N) S R w t1 t2
  have h3 : ¬ ((1 : Int) = 0) := by decide
  cases hf : tB V t with
  | false =>
    have b1 := m_isTown (N := N) M w t1 t2
    rw [hf] at a1 b1
    refine r.same_ (z := (-iz 1 : Int32)) ?_ ?_
    · unfold f_X9_choose
      simp (disch := omega) only [↓knC S, ↓kn0 S, ↓kn1 S, ↓kn2 S, ↓kn4 S, ↓kn5 S, ↓kn6 S, ↓kn7 S, ↓kn8 S, ↓kn9 S, ↓kn10 S, ↓bq a1, bi_f, il0, il1, il2, il3, il4, il5, il6, il7, il8, il9, il10, il11, il12, il13, il14, il15, il16, il17, il18, il19, il20, il21, il22, il23, il24, il25, il26, il27, il28, il29, il30, il31, il32, il33, il36, il38, il39, il40, il41, il48, il50, il51, il57, il59, il60, il61, il62, il63, il70, il96, il99, il100, il101, il102, il103, il104, il105, il106, il107, il108, il109, il110, il111, il112, il115, il116, il120, il121, il124, il200, il240, il255, il288, il360, il420, il999, il1000, il114292, il152755, il402789, il435589, il463922, il533611, il631470, ↓reduceIte]
    · unfold f_X10_choose
      simp (disch := omega) only [↓kmC M.1, ↓bq b1, bi_f, il0, il1, il2, il3, il4, il5, il6, il7, il8, il9, il10, il11, il12, il13, il14, il15, il16, il17, il18, il19, il20, il21, il22, il23, il24, il25, il26, il27, il28, il29, il30, il31, il32, il33, il36, il38, il39, il40, il41, il48, il50, il51, il57, il59, il60, il61, il62, il63, il70, il96, il99, il100, il101, il102, il103, il104, il105, il106, il107, il108, il109, il110, il111, il112, il115, il116, il120, il121, il124, il200, il240, il255, il288, il360, il420, il999, il1000, il114292, il152755, il402789, il435589, il463922, il533611, il631470, ↓reduceIte]
  | true =>
    rw [hf] at a1
    have tt := tB_t hf
    obtain ⟨h1, e1, R1, K1⟩ := l_vote R w r.cp (N := N) (by omega) (t := t) (by omega)
    have tf := vote_TF (V := V) t 3
    have md := r.kc K1.kc R1 (vote_wf w t 3) (tf.2.2.2 9 (by decide))
    obtain ⟨h2, e2, R2, F2⟩ := m_chooses md.2.2.1 w (N := N) (by omega) (t := t) (by omega)
    have b1 := m_isTown (N := N) md.2.2.1 w t1 t2
    rw [hf] at b1
    refine ⟨iz (voteN V t 3), h1, h2, voteV V t 3, p, pd, ?_, ?_, REL.fm md (F2.mono SV_SX) R2⟩
    · unfold f_X9_choose
      simp (disch := omega) only [↓knC S, ↓kn0 S, ↓kn1 S, ↓kn2 S, ↓kn4 S, ↓kn5 S, ↓kn6 S, ↓kn7 S, ↓kn8 S, ↓kn9 S, ↓kn10 S, ↓bq a1, bi_t, il0, il1, il2, il3, il4, il5, il6, il7, il8, il9, il10, il11, il12, il13, il14, il15, il16, il17, il18, il19, il20, il21, il22, il23, il24, il25, il26, il27, il28, il29, il30, il31, il32, il33, il36, il38, il39, il40, il41, il48, il50, il51, il57, il59, il60, il61, il62, il63, il70, il96, il99, il100, il101, il102, il103, il104, il105, il106, il107, il108, il109, il110, il111, il112, il115, il116, il120, il121, il124, il200, il240, il255, il288, il360, il420, il999, il1000, il114292, il152755, il402789, il435589, il463922, il533611, il631470, iz_eq, h3, ↓reduceIte, ↓kC R, ↓bq e1]
    · unfold f_X10_choose
      simp (disch := omega) only [↓kmC md.2.2.1.1, ↓bq b1, bi_t, il0, il1, il2, il3, il4, il5, il6, il7, il8, il9, il10, il11, il12, il13, il14, il15, il16, il17, il18, il19, il20, il21, il22, il23, il24, il25, il26, il27, il28, il29, il30, il31, il32, il33, il36, il38, il39, il40, il41, il48, il50, il51, il57, il59, il60, il61, il62, il63, il70, il96, il99, il100, il101, il102, il103, il104, il105, il106, il107, il108, il109, il110, il111, il112, il115, il116, il120, il121, il124, il200, il240, il255, il288, il360, il420, il999, il1000, il114292, il152755, il402789, il435589, il463922, il533611, il631470, iz_eq, h3, ↓reduceIte, ↓bq e2]
theorem breach_bd (w : WF V) (hN : 300 ≤ N) {k : Int} (hk : 1 ≤ k ∧ k ≤ 5) (R : RepC h 1 p V) (q : CP 1 p) (S : RS h) : ∃ h1, f_X6_breach N 46 1 (iz k) h = some (iz (breachS V k), h1) ∧ RepC h1 1 p V ∧ KC 1 h h1 := l_breach R w q S hN hk
theorem fs2_b {P : Nat → Nat → Bool} {m : Nat} (hm : m ≤ 4) (n : Nat) (hn : n ≤ 8) : -5 ≤ fs2 P (fun i => i) m 0 n ∧ fs2 P (fun i => i) m 0 n ≤ 804 := fs2_bd hm _ _ (fun j _ h => by omega)
theorem clubT_bd : ∀ d s, s + d ≤ 256 → -5 ≤ clubT V s d ∧ (vT V ≤ 4 → clubT V s d ≤ 1000) := by
  intro d
  induction d with
  | zero => intro s _; exact ⟨by show (-5 : Int) ≤ -5; omega, fun _ => by show (-5 : Int) ≤ 1000; omega⟩
  | succ d ih =>
    intro s hs
    have hh := ih (s + 1) (by omega)
    rw [clubT]
    split
    · rename_i h2
      have hs0 : 0 < s := by
        rcases Nat.eq_zero_or_pos s with z | z
        · subst z; exact absurd h2 (by decide)
        · exact z
      have hl := lo_le s (by omega) hs0
      cases hf : fs (clubP V s) 0 (vT V) with
      | none => exact hh
      | some t =>
        have := fs_lt _ _ _ hf
        refine ⟨by dsimp only; omega, fun _ => by dsimp only; omega⟩
    · exact hh
theorem breachS_bd (w : WF V) {k : Int} : -5 ≤ breachS V k ∧ breachS V k ≤ 2000 := by
  have hF := w.F
  have hT := w.T
  have h1 := stayS_bd w
  have h2 := voteS_bd w
  have h3 : -5 ≤ rentS V ∧ rentS V ≤ 2000 := by
    unfold rentS
    have := fs2_b (P := rentP V) (m := vT V) (by omega) (vF V) hF
    split
    · cases hf : fs (rentQ V) 0 (vT V) with
      | none => dsimp only; omega
      | some t => have := fs_lt _ _ _ hf; dsimp only; omega
    · omega
  have h4 : -5 ≤ seerS V ∧ seerS V ≤ 804 := fs2_b (by omega) (vF V) hF
  have h5 : -5 ≤ clubS V ∧ clubS V ≤ 1000 := by
    have := clubT_bd (V := V) (2 ^ vF V) 0 (by have := two_le (vF V) hF; omega)
    exact ⟨this.1, this.2 hT⟩
  have hq : ∀ x, -5 ≤ x ∧ x ≤ 2000 → -5 ≤ breachQ V k x ∧ breachQ V k x ≤ 2000 := by
    intro x hx
    unfold breachQ
    split
    · split
      · exact h3
      · split
        · omega
        · split
          · omega
          · omega
    · exact hx
  unfold breachS
  split
  · split
    · exact hq _ (by omega)
    · exact hq _ (by omega)
  · omega
theorem t_broken (hN : 300 ≤ N) (r : REL h V p pd b) (v1 : Int32) : CAL (f_X9_broken N 0 v1 h) (f_X10_broken N 71 v1) b := by
  obtain ⟨k, rfl, k1, k2⟩ := int_iz v1
  have R := r.2.1
  have M := r.2.2.1
  have w := r.2.2.2.1
  have S := r.2.2.2.2.2.2.2.1
  have RSh := r.2.2.2.2.2.2.2.2.2.1.1
  have a1 := l_isRest (N := N) (h := h) k1 k2
  have h3 : ¬ ((1 : Int) = 0) := by decide
  by_cases hk : 1 ≤ k ∧ k ≤ 5
  · rw [decide_eq_true hk] at a1
    obtain ⟨h1, e1, R1, K1⟩ := l_breach R w r.cp RSh hN hk
    have md := r.kc K1 R1 w rfl
    obtain ⟨h2, e2, R2, F2⟩ := m_breakOf md.2.2.1 w hN hk
    have b1 := m_inB (N := N) (h := h1) (a := k) (b := 1) (c := 5) (by omega) (by omega) k1 k2
    rw [decide_eq_true hk] at b1
    refine ⟨iz (breachS V k), h1, h2, V, p, pd, ?_, ?_, REL.fm md (F2.mono SR_SX) R2⟩
    · unfold f_X9_broken
      simp (disch := omega) only [↓knC S, ↓kn0 S, ↓kn1 S, ↓kn2 S, ↓kn4 S, ↓kn5 S, ↓kn6 S, ↓kn7 S, ↓kn8 S, ↓kn9 S, ↓kn10 S, ↓bq a1, bi_t, il0, il1, il2, il3, il4, il5, il6, il7, il8, il9, il10, il11, il12, il13, il14, il15, il16, il17, il18, il19, il20, il21, il22, il23, il24, il25, il26, il27, il28, il29, il30, il31, il32, il33, il36, il38, il39, il40, il41, il48, il50, il51, il57, il59, il60, il61, il62, il63, il70, il96, il99, il100, il101, il102, il103, il104, il105, il106, il107, il108, il109, il110, il111, il112, il115, il116, il120, il121, il124, il200, il240, il255, il288, il360, il420, il999, il1000, il114292, il152755, il402789, il435589, il463922, il533611, il631470, iz_eq, h3, ↓reduceIte, ↓k46 RSh, ↓bq e1]
    · unfold f_X10_broken
      simp (disch := omega) only [↓kmC md.2.2.1.1, ↓bq b1, bi_t, il0, il1, il2, il3, il4, il5, il6, il7, il8, il9, il10, il11, il12, il13, il14, il15, il16, il17, il18, il19, il20, il21, il22, il23, il24, il25, il26, il27, il28, il29, il30, il31, il32, il33, il36, il38, il39, il40, il41, il48, il50, il51, il57, il59, il60, il61, il62, il63, il70, il96, il99, il100, il101, il102, il103, il104, il105, il106, il107, il108, il109, il110, il111, il112, il115, il116, il120, il121, il124, il200, il240, il255, il288, il360, il420, il999, il1000, il114292, il152755, il402789, il435589, il463922, il533611, il631470, iz_eq, h3, ↓reduceIte, ↓bq e2]
  · have b1 := m_inB (N := N) (h := h) (a := k) (b := 1) (c := 5) (by omega) (by omega) k1 k2
    rw [decide_eq_false hk] at a1 b1
    refine r.same_ (z := (-iz 1 : Int32)) ?_ ?_
    · unfold f_X9_broken
      simp (disch := omega) only [↓bq a1, bi_f, il0, il1, il2, il3, il4, il5, il6, il7, il8, il9, il10, il11, il12, il13, il14, il15, il16, il17, il18, il19, il20, il21, il22, il23, il24, il25, il26, il27, il28, il29, il30, il31, il32, il33, il36, il38, il39, il40, il41, il48, il50, il51, il57, il59, il60, il61, il62, il63, il70, il96, il99, il100, il101, il102, il103, il104, il105, il106, il107, il108, il109, il110, il111, il112, il115, il116, il120, il121, il124, il200, il240, il255, il288, il360, il420, il999, il1000, il114292, il152755, il402789, il435589, il463922, il533611, il631470, ↓reduceIte]
    · unfold f_X10_broken
      simp (disch := omega) only [↓kmC M.1, ↓bq b1, bi_f, il0, il1, il2, il3, il4, il5, il6, il7, il8, il9, il10, il11, il12, il13, il14, il15, il16, il17, il18, il19, il20, il21, il22, il23, il24, il25, il26, il27, il28, il29, il30, il31, il32, il33, il36, il38, il39, il40, il41, il48, il50, il51, il57, il59, il60, il61, il62, il63, il70, il96, il99, il100, il101, il102, il103, il104, il105, il106, il107, il108, il109, il110, il111, il112, il115, il116, il120, il121, il124, il200, il240, il255, il288, il360, il420, il999, il1000, il114292, il152755, il402789, il435589, il463922, il533611, il631470, ↓reduceIte]
theorem t_rest (hN : 300 ≤ N) (r : REL h V p pd b) (v1 : Int32) : CAL (f_X9_rest N 0 v1 h) (f_X10_rest N 71 v1) b := by
  obtain ⟨k, rfl, k1, k2⟩ := int_iz v1
  have R := r.2.1
  have M := r.2.2.1
  have w := r.2.2.2.1
  have S := r.2.2.2.2.2.2.2.1
  have RSh := r.2.2.2.2.2.2.2.2.2.1.1
  have a1 := l_isRest (N := N) (h := h) k1 k2
  have h3 : ¬ ((1 : Int) = 0) := by decide
  have bb := breachS_bd w (k := k)
  by_cases hk : 1 ≤ k ∧ k ≤ 5
  · rw [decide_eq_true hk] at a1
    obtain ⟨h1, e1, R1, K1⟩ := l_breach R w r.cp RSh hN hk
    have md := r.kc K1 R1 w rfl
    obtain ⟨h2, e2, R2, F2⟩ := m_isRest md.2.2.1 w hN hk (by omega)
    have b1 := m_inB (N := N) (h := h1) (a := k) (b := 1) (c := 5) (by omega) (by omega) k1 k2
    rw [decide_eq_true hk] at b1
    refine ⟨iz (bi (decide (breachS V k = -5))), h1, h2, V, p, pd, ?_, ?_, REL.fm md (F2.mono SR_SX) R2⟩
    · unfold f_X9_rest
      simp (disch := omega) only [↓knC S, ↓kn0 S, ↓kn1 S, ↓kn2 S, ↓kn4 S, ↓kn5 S, ↓kn6 S, ↓kn7 S, ↓kn8 S, ↓kn9 S, ↓kn10 S, ↓bq a1, bi_t, il0, il1, il2, il3, il4, il5, il6, il7, il8, il9, il10, il11, il12, il13, il14, il15, il16, il17, il18, il19, il20, il21, il22, il23, il24, il25, il26, il27, il28, il29, il30, il31, il32, il33, il36, il38, il39, il40, il41, il48, il50, il51, il57, il59, il60, il61, il62, il63, il70, il96, il99, il100, il101, il102, il103, il104, il105, il106, il107, il108, il109, il110, il111, il112, il115, il116, il120, il121, il124, il200, il240, il255, il288, il360, il420, il999, il1000, il114292, il152755, il402789, il435589, il463922, il533611, il631470, iz_neg, iz_eq, h3, ↓reduceIte, ↓k46 RSh, ↓bq e1]
      by_cases c : breachS V k = -5
      · rw [if_pos c, decide_eq_true c]; rfl
      · rw [if_neg c, decide_eq_false c]; rfl
    · unfold f_X10_rest
      simp (disch := omega) only [↓kmC md.2.2.1.1, ↓bq b1, bi_t, il0, il1, il2, il3, il4, il5, il6, il7, il8, il9, il10, il11, il12, il13, il14, il15, il16, il17, il18, il19, il20, il21, il22, il23, il24, il25, il26, il27, il28, il29, il30, il31, il32, il33, il36, il38, il39, il40, il41, il48, il50, il51, il57, il59, il60, il61, il62, il63, il70, il96, il99, il100, il101, il102, il103, il104, il105, il106, il107, il108, il109, il110, il111, il112, il115, il116, il120, il121, il124, il200, il240, il255, il288, il360, il420, il999, il1000, il114292, il152755, il402789, il435589, il463922, il533611, il631470, iz_eq, h3, ↓reduceIte, ↓bq e2]
      by_cases c : breachS V k = -5
      · rw [decide_eq_true c]; rfl
      · rw [decide_eq_false c]; rfl
  · have b1 := m_inB (N := N) (h := h) (a := k) (b := 1) (c := 5) (by omega) (by omega) k1 k2
    rw [decide_eq_false hk] at a1 b1
    refine r.same_ (z := (-iz 1 : Int32)) ?_ ?_
    · unfold f_X9_rest
      simp (disch := omega) only [↓bq a1, bi_f, il0, il1, il2, il3, il4, il5, il6, il7, il8, il9, il10, il11, il12, il13, il14, il15, il16, il17, il18, il19, il20, il21, il22, il23, il24, il25, il26, il27, il28, il29, il30, il31, il32, il33, il36, il38, il39, il40, il41, il48, il50, il51, il57, il59, il60, il61, il62, il63, il70, il96, il99, il100, il101, il102, il103, il104, il105, il106, il107, il108, il109, il110, il111, il112, il115, il116, il120, il121, il124, il200, il240, il255, il288, il360, il420, il999, il1000, il114292, il152755, il402789, il435589, il463922, il533611, il631470, ↓reduceIte]
    · unfold f_X10_rest
      simp (disch := omega) only [↓kmC M.1, ↓bq b1, bi_f, il0, il1, il2, il3, il4, il5, il6, il7, il8, il9, il10, il11, il12, il13, il14, il15, il16, il17, il18, il19, il20, il21, il22, il23, il24, il25, il26, il27, il28, il29, il30, il31, il32, il33, il36, il38, il39, il40, il41, il48, il50, il51, il57, il59, il60, il61, il62, il63, il70, il96, il99, il100, il101, il102, il103, il104, il105, il106, il107, il108, il109, il110, il111, il112, il115, il116, il120, il121, il124, il200, il240, il255, il288, il360, il420, il999, il1000, il114292, il152755, il402789, il435589, il463922, il533611, il631470, ↓reduceIte]
theorem t_step (hN : 300 ≤ N) (r : REL h V p pd b) {v : Int} (hv : v = 0 ∨ v = 1) : CAL (f_X9_step N 0 (iz v) h) (f_X10_step N 71 (iz v)) b := by
  have R := r.2.1
  have w := r.2.2.2.1
  have S := r.2.2.2.2.2.2.2.1
  have W := r.2.2.2.2.2.2.2.2.2.1.2.1
  obtain ⟨h1, e1, R1, K1⟩ := l_stride R w r.cp (N := N) (by omega) hv (v0 := 50)
  have md := r.kc K1.kc R1 (strideV_wf w v) ((strideV_TF v).2.2.2 9 (by decide) (by decide))
  obtain ⟨h2, e2, R2, F2⟩ := m_step md.2.2.1 w (N := N) (by omega) hv
  refine ⟨iz (strideR V v), h1, h2, strideV V v, p, pd, ?_, ?_, REL.fm md (F2.mono SR_SX) R2⟩
  · unfold f_X9_step
    simp (disch := omega) only [↓knC S, ↓kn0 S, ↓kn1 S, ↓kn2 S, ↓kn4 S, ↓kn5 S, ↓kn6 S, ↓kn7 S, ↓kn8 S, ↓kn9 S, ↓kn10 S, ↓k50c W, ↓bq e1]
  · unfold f_X10_step
    simp (disch := omega) only [↓kmC md.2.2.1.1, ↓bq e2]
theorem t_end (hN : 300 ≤ N) (r : REL h V p pd b) {v : Int} (hv : v = 0 ∨ v = 1) : CAL (f_X9_end N 0 (iz v) h) (f_X10_end N 71 (iz v)) b := by
  have R := r.2.1
  have w := r.2.2.2.1
  have S := r.2.2.2.2.2.2.2.1
  have W := r.2.2.2.2.2.2.2.2.2.1.2.1
  obtain ⟨h1, e1, R1, K1⟩ := l_strideOn R w r.cp W (N := N) (by omega) hv
  have md := r.kc K1 R1 (ste_wf w v _) ((ste_TF v _).2.2.2 9 (by decide) (by decide))
  obtain ⟨h2, e2, R2, F2⟩ := m_endAll md.2.2.1 w (N := N) (by omega) hv
  refine ⟨iz (endS V v), h1, h2, endV V v, p, pd, ?_, ?_, REL.fm md (F2.mono SE_SX) R2⟩
  · unfold f_X9_end
    simp (disch := omega) only [↓knC S, ↓kn0 S, ↓kn1 S, ↓kn2 S, ↓kn4 S, ↓kn5 S, ↓kn6 S, ↓kn7 S, ↓kn8 S, ↓kn9 S, ↓kn10 S, ↓k50c W, ↓bq e1]
  · unfold f_X10_end
    simp (disch := omega) only [↓kmC md.2.2.1.1, ↓bq e2]
end
