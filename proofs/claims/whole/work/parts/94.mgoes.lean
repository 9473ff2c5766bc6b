theorem nc1 : ((1 : Nat) : Int) = 1 := rfl
theorem nc2 : ((2 : Nat) : Int) = 2 := rfl
theorem nc3 : ((3 : Nat) : Int) = 3 := rfl
theorem nc4 : ((4 : Nat) : Int) = 4 := rfl
theorem nc5 : ((5 : Nat) : Int) = 5 := rfl
theorem nc6 : ((6 : Nat) : Int) = 6 := rfl
theorem nc7 : ((7 : Nat) : Int) = 7 := rfl
theorem nc8 : ((8 : Nat) : Int) = 8 := rfl
theorem nc9 : ((9 : Nat) : Int) = 9 := rfl
theorem nc12 : ((12 : Nat) : Int) = 12 := rfl
theorem nc16 : ((16 : Nat) : Int) = 16 := rfl
theorem nc20 : ((20 : Nat) : Int) = 20 := rfl
theorem nc21 : ((21 : Nat) : Int) = 21 := rfl
theorem nc40 : ((40 : Nat) : Int) = 40 := rfl
theorem nc60 : ((60 : Nat) : Int) = 60 := rfl
theorem nc120 : ((120 : Nat) : Int) = 120 := rfl
theorem nc200 : ((200 : Nat) : Int) = 200 := rfl
def sgPF : List Nat := [17, 18, 19, 20, 21, 32, 33, 34, 38, 39, 40]
def sgQ : List Nat := [83, 87, 88, 89, 90, 91, 92]
/-- what reading a text leaves -/
def FQ (h h' : Mem) : Prop := h'.1 = h.1 ∧ h'.2.2 = h.2.2 ∧ (∀ i, i ≠ 71 → i ∉ sgQ → h'.2.1 i = h.2.1 i) ∧ ∀ j, j ∉ sgPF → h'.2.1 71 j = h.2.1 71 j
theorem FQ.rf {h : Mem} : FQ h h := ⟨rfl, rfl, fun _ _ _ => rfl, fun _ _ => rfl⟩
theorem FQ.tr {h h1 h2 : Mem} (a : FQ h h1) (b : FQ h1 h2) : FQ h h2 := ⟨b.1.trans a.1, b.2.1.trans a.2.1, fun i q1 q2 => (b.2.2.1 i q1 q2).trans (a.2.2.1 i q1 q2), fun j q => (b.2.2.2 j q).trans (a.2.2.2 j q)⟩
theorem sgC_Q : ∀ i, i ∈ sgC → i ∈ sgQ := by decide
theorem sgCF_PF : ∀ i, i ∈ sgCF → i ∈ sgPF := by decide
theorem sgPF_pf : ∀ i, i ∈ sgPF → i ∈ pfM := by decide
theorem sgQ_SP : ∀ i, i ∈ sgQ → i ∈ SP := by decide
theorem FC.fq {h h' : Mem} (a : FC h h') : FQ h h' := ⟨a.1, a.2.1, fun i q1 q2 => a.2.2.1 i q1 (fun z => q2 (sgC_Q i z)), fun j q => a.2.2.2 j (fun z => q (sgCF_PF j z))⟩
theorem FQ.wr_ {h : Mem} {a : Nat} {row : Nat → Int32} (ha : a ∈ sgQ) : FQ h (wr h a row) := ⟨rfl, rfl, fun i _ q2 => wr_ne (by rintro rfl; exact q2 ha), fun j _ => by rw [wr_ne (by rintro rfl; exact absurd ha (by decide))]⟩
theorem FQ.fd_ {h : Mem} {j : Nat} {v : Int32} (hj : j ∈ sgPF) : FQ h (fd h j v) := ⟨rfl, rfl, fun i q1 _ => fd_ne q1, fun i hi => by rw [fd_at, if_neg (by rintro rfl; exact hi hj)]⟩
theorem FQ.fm {h h' : Mem} (a : FQ h h') : FM SP h h' := ⟨a.1, by rw [a.2.1], fun i _ => by rw [a.2.1], fun i q1 q2 => a.2.2.1 i q1 (fun z => q2 (sgQ_SP i z)), fun j q => a.2.2.2 j (fun z => q (sgPF_pf j z))⟩
section
variable {h0 h : Mem} {x : Nat → Int} {L b P N : Nat} {s i t n sm : Int} {D : Dv} {T : List Int}
theorem m_goes_110 (hN : 200 ≤ N) : ∀ (d c m P : Nat) (D : Dv) (T : List Int) (sm : Int) (h : Mem), c + d = 10 → 1 ≤ d → d < m → PS h x L b h P → TO s i t n h D T sm → FA h s i t n → ∃ h', f_X10_goes_110 N m 71 (iz (c : Int)) h = some (iz (bi (decide ((flS x L d P D T).1 = -1))), h') ∧ FC h h' ∧ ((flS x L d P D T).1 = -1 → ∃ sm', TO s i t n h' (flS x L d P D T).2.1 (flS x L d P D T).2.2 sm' ∧ sm ≤ sm' ∧ sm' ≤ sm + 999 * d) ∧ ((flS x L d P D T).1 ≠ -1 → h'.2.1 71 19 = iz (flS x L d P D T).1) := by
  intro d
  induction d with
  | zero => intro c m P D T sm h _ h1; omega
  | succ d ih =>
    intro c m P D T sm h hc _ hm p k fa
    obtain ⟨m, rfl⟩ : ∃ q, m = q + 1 := ⟨m - 1, by omega⟩
    obtain ⟨C1, C2⟩ := m_clause hN fa p k
    have h3 : ¬ ((1 : Int) = 0) := by decide
    rw [f_X10_goes_110, flS]
    have pl : ∀ q : Nat, ¬ ((q : Int) = -1) := fun q => by omega
    cases hr : (clS x L P D T).1 with
    | false =>
      obtain ⟨h1, e1, p1, f1⟩ := C2 hr
      rw [if_neg (show ¬ (false = true) by decide)]
      refine ⟨h1, ?_, f1, fun z => absurd z (pl _), fun _ => p1.2.1.2.2⟩
      rw [decide_eq_false (pl _), kmC p.1, bq e1]
      rfl
    | true =>
      obtain ⟨h1, sm1, e1, p1, k1, f1, l1, l2⟩ := C1 hr
      have hP1 := p1.2.2.1
      rw [if_pos rfl]
      by_cases hL : (clS x L P D T).2.1 = L
      · rw [if_pos hL]
        refine ⟨h1, ?_, f1, fun _ => ⟨sm1, k1, l1, by omega⟩, fun z => absurd rfl z⟩
        rw [hL] at p1
        simp (disch := omega) only [il0, il1, il2, il3, il4, il5, il6, il7, il8, il9, il10, il11, il12, il13, il14, il15, il16, il17, il18, il19, il20, il21, il22, il23, il24, il25, il26, il27, il28, il29, il30, il31, il32, il33, il36, il38, il39, il40, il41, il48, il50, il51, il57, il59, il60, il61, il62, il63, il70, il96, il99, il100, il101, il102, il103, il104, il105, il106, il107, il108, il109, il110, il111, il112, il115, il116, il120, il121, il124, il200, il240, il255, il288, il360, il420, il999, il1000, il114292, il152755, il402789, il435589, il463922, il533611, il631470, ↓kmC p.1, ↓bq e1, iz_eq, h3, ↓reduceIte, ↓kpP p1, ↓kpL p1, decide_true, bi_t]
      · rw [if_neg hL]
        have hL' : ¬ (((clS x L P D T).2.1 : Int) = (L : Int)) := by omega
        by_cases hd : d = 0
        · rw [if_pos hd]
          refine ⟨h1, ?_, f1, fun z => absurd z (pl _), fun _ => p1.2.1.2.2⟩
          have c10 : (c : Int) + 1 = 10 := by omega
          rw [decide_eq_false (pl _)]
          simp (disch := omega) only [il0, il1, il2, il3, il4, il5, il6, il7, il8, il9, il10, il11, il12, il13, il14, il15, il16, il17, il18, il19, il20, il21, il22, il23, il24, il25, il26, il27, il28, il29, il30, il31, il32, il33, il36, il38, il39, il40, il41, il48, il50, il51, il57, il59, il60, il61, il62, il63, il70, il96, il99, il100, il101, il102, il103, il104, il105, il106, il107, il108, il109, il110, il111, il112, il115, il116, il120, il121, il124, il200, il240, il255, il288, il360, il420, il999, il1000, il114292, il152755, il402789, il435589, il463922, il533611, il631470, ↓kmC p.1, ↓bq e1, iz_eq, h3, ↓reduceIte, ↓kpP p1, ↓kpL p1, hL', iz_add, c10, bi_f]
        · rw [if_neg hd]
          have c10 : ¬ ((c : Int) + 1 = 10) := by omega
          have e2 := m_takes (N := N) p1 (c := 59) (by omega)
          by_cases h59 : isAt x L (clS x L P D T).2.1 59 = true
          · have la := isAt_lt h59
            rw [if_pos h59, h59] at e2
            rw [if_pos h59]
            have p2 := p1.at_ (P' := (clS x L P D T).2.1 + 1) (by omega)
            obtain ⟨h', e3, f3, i1, i2⟩ := ih (c + 1) m ((clS x L P D T).2.1 + 1) _ _ sm1 _ (by omega) (by omega) (by omega) p2.self (k1.pr p2.pr) ((fa.fc f1).fc p2.pr.fc)
            refine ⟨h', ?_, (f1.tr p2.pr.fc).tr f3, fun z => ?_, i2⟩
            · simp (disch := omega) only [il0, il1, il2, il3, il4, il5, il6, il7, il8, il9, il10, il11, il12, il13, il14, il15, il16, il17, il18, il19, il20, il21, il22, il23, il24, il25, il26, il27, il28, il29, il30, il31, il32, il33, il36, il38, il39, il40, il41, il48, il50, il51, il57, il59, il60, il61, il62, il63, il70, il96, il99, il100, il101, il102, il103, il104, il105, il106, il107, il108, il109, il110, il111, il112, il115, il116, il120, il121, il124, il200, il240, il255, il288, il360, il420, il999, il1000, il114292, il152755, il402789, il435589, il463922, il533611, il631470, ↓kmC p.1, ↓bq e1, iz_eq, h3, ↓reduceIte, ↓kpP p1, ↓kpL p1, hL', iz_add, c10, ↓kmC p1.1, ↓bq e2, bi_t]
              exact e3
            · obtain ⟨sm', g1, g2, g3⟩ := i1 z
              exact ⟨sm', g1, by omega, by omega⟩
          · rw [if_neg h59]
            rw [Bool.not_eq_true] at h59
            rw [if_neg (by rw [h59]; decide), h59] at e2
            refine ⟨h1, ?_, f1, fun z => absurd z (pl _), fun _ => p1.2.1.2.2⟩
            rw [decide_eq_false (pl _)]
            simp (disch := omega) only [il0, il1, il2, il3, il4, il5, il6, il7, il8, il9, il10, il11, il12, il13, il14, il15, il16, il17, il18, il19, il20, il21, il22, il23, il24, il25, il26, il27, il28, il29, il30, il31, il32, il33, il36, il38, il39, il40, il41, il48, il50, il51, il57, il59, il60, il61, il62, il63, il70, il96, il99, il100, il101, il102, il103, il104, il105, il106, il107, il108, il109, il110, il111, il112, il115, il116, il120, il121, il124, il200, il240, il255, il288, il360, il420, il999, il1000, il114292, il152755, il402789, il435589, il463922, il533611, il631470, ↓kmC p.1, ↓bq e1, iz_eq, h3, ↓reduceIte, ↓kpP p1, ↓kpL p1, hL', iz_add, c10, ↓kmC p1.1, ↓bq e2, bi_f]
theorem m_goes_32 : ∀ (d i m : Nat) (h : Mem), i + d = 12 → d < m → MSh h → (∀ j : Nat, j < i → h.2.1 90 j = iz 0) → ∃ row, f_X10_goes_32 N m 71 (iz 0) (iz (i : Int)) h = f_X10_goes_53 N N 71 (iz 0) (iz 0) (wr h 90 row) ∧ ∀ j : Nat, j < 12 → row j = iz 0 := by
  intro d
  induction d with
  | zero =>
    intro i n h hi hn S hr
    obtain ⟨n, rfl⟩ : ∃ k, n = k + 1 := ⟨n - 1, by omega⟩
    rw [f_X10_goes_32]
    obtain rfl : i = 12 := by omega
    refine ⟨h.2.1 90, ?_, hr⟩
    rw [wr_id rfl]
    simp (disch := omega) only [il0, il1, il2, il3, il4, il5, il6, il7, il8, il9, il10, il11, il12, il13, il14, il15, il16, il17, il18, il19, il20, il21, il22, il23, il24, il25, il26, il27, il28, il29, il30, il31, il32, il33, il36, il38, il39, il40, il41, il48, il50, il51, il57, il59, il60, il61, il62, il63, il70, il96, il99, il100, il101, il102, il103, il104, il105, il106, il107, il108, il109, il110, il111, il112, il115, il116, il120, il121, il124, il200, il240, il255, il288, il360, il420, il999, il1000, il114292, il152755, il402789, il435589, il463922, il533611, il631470, iz_le, nc1, nc2, nc3, nc4, nc5, nc6, nc7, nc8, nc9, nc12, nc16, nc20, nc21, nc40, nc60, nc120, nc200, Int.le_refl, ↓reduceIte]
  | succ d ih =>
    intro i n h hi hn S hr
    obtain ⟨n, rfl⟩ : ∃ k, n = k + 1 := ⟨n - 1, by omega⟩
    rw [f_X10_goes_32]
    have hc : ¬ ((12 : Int) ≤ i) := by omega
    obtain ⟨row, e, hrow⟩ := ih (i + 1) n (wr h 90 (upd (h.2.1 90) i (iz 0))) (by omega) (by omega) S.wr_ (fun j hj => by
      rw [wr_eq, upd_at]
      split
      · rfl
      · exact hr j (by omega))
    rw [wr_wr] at e
    refine ⟨row, ?_, hrow⟩
    rw [← e]
    simp (disch := omega) only [il0, il1, il2, il3, il4, il5, il6, il7, il8, il9, il10, il11, il12, il13, il14, il15, il16, il17, il18, il19, il20, il21, il22, il23, il24, il25, il26, il27, il28, il29, il30, il31, il32, il33, il36, il38, il39, il40, il41, il48, il50, il51, il57, il59, il60, il61, il62, il63, il70, il96, il99, il100, il101, il102, il103, il104, il105, il106, il107, il108, il109, il110, il111, il112, il115, il116, il120, il121, il124, il200, il240, il255, il288, il360, il420, il999, il1000, il114292, il152755, il402789, il435589, il463922, il533611, il631470, iz_le, hc, ↓reduceIte, ↓kr90 S, ↓ks90 S, toN, iz_add]
    rfl
theorem m_goes_53 : ∀ (d i m : Nat) (h : Mem), i + d = 16 → d < m → MSh h → (∀ j : Nat, j < i → h.2.1 91 j = iz 0) → ∃ row, f_X10_goes_53 N m 71 (iz 0) (iz (i : Int)) h = f_X10_goes_74 N N 71 (iz 0) (iz 0) (wr h 91 row) ∧ ∀ j : Nat, j < 16 → row j = iz 0 := by
  intro d
  induction d with
  | zero =>
    intro i n h hi hn S hr
    obtain ⟨n, rfl⟩ : ∃ k, n = k + 1 := ⟨n - 1, by omega⟩
    rw [f_X10_goes_53]
    obtain rfl : i = 16 := by omega
    refine ⟨h.2.1 91, ?_, hr⟩
    rw [wr_id rfl]
    simp (disch := omega) only [il0, il1, il2, il3, il4, il5, il6, il7, il8, il9, il10, il11, il12, il13, il14, il15, il16, il17, il18, il19, il20, il21, il22, il23, il24, il25, il26, il27, il28, il29, il30, il31, il32, il33, il36, il38, il39, il40, il41, il48, il50, il51, il57, il59, il60, il61, il62, il63, il70, il96, il99, il100, il101, il102, il103, il104, il105, il106, il107, il108, il109, il110, il111, il112, il115, il116, il120, il121, il124, il200, il240, il255, il288, il360, il420, il999, il1000, il114292, il152755, il402789, il435589, il463922, il533611, il631470, iz_le, nc1, nc2, nc3, nc4, nc5, nc6, nc7, nc8, nc9, nc12, nc16, nc20, nc21, nc40, nc60, nc120, nc200, Int.le_refl, ↓reduceIte]
  | succ d ih =>
    intro i n h hi hn S hr
    obtain ⟨n, rfl⟩ : ∃ k, n = k + 1 := ⟨n - 1, by omega⟩
    rw [f_X10_goes_53]
    have hc : ¬ ((16 : Int) ≤ i) := by omega
    obtain ⟨row, e, hrow⟩ := ih (i + 1) n (wr h 91 (upd (h.2.1 91) i (iz 0))) (by omega) (by omega) S.wr_ (fun j hj => by
      rw [wr_eq, upd_at]
      split
      · rfl
      · exact hr j (by omega))
    rw [wr_wr] at e
    refine ⟨row, ?_, hrow⟩
    rw [← e]
    simp (disch := omega) only [il0, il1, il2, il3, il4, il5, il6, il7, il8, il9, il10, il11, il12, il13, il14, il15, il16, il17, il18, il19, il20, il21, il22, il23, il24, il25, il26, il27, il28, il29, il30, il31, il32, il33, il36, il38, il39, il40, il41, il48, il50, il51, il57, il59, il60, il61, il62, il63, il70, il96, il99, il100, il101, il102, il103, il104, il105, il106, il107, il108, il109, il110, il111, il112, il115, il116, il120, il121, il124, il200, il240, il255, il288, il360, il420, il999, il1000, il114292, il152755, il402789, il435589, il463922, il533611, il631470, iz_le, hc, ↓reduceIte, ↓kr91 S, ↓ks91 S, toN, iz_add]
    rfl
theorem m_goes_74 : ∀ (d i m : Nat) (h : Mem), i + d = 3 → d < m → MSh h → (∀ j : Nat, j < i → h.2.1 92 j = iz 10) → ∃ row, f_X10_goes_74 N m 71 (iz 0) (iz (i : Int)) h = f_X10_goes_110 N N 71 (iz 0) (fd (fd (fd (wr h 92 row) 38 (iz 0)) 39 (iz 104)) 40 (iz 109)) ∧ ∀ j : Nat, j < 3 → row j = iz 10 := by
  intro d
  induction d with
  | zero =>
    intro i n h hi hn S hr
    obtain ⟨n, rfl⟩ : ∃ k, n = k + 1 := ⟨n - 1, by omega⟩
    rw [f_X10_goes_74]
    obtain rfl : i = 3 := by omega
    refine ⟨h.2.1 92, ?_, hr⟩
    rw [wr_id rfl]
    have S1 := S.fd_ (j := 38) (v := iz 0)
    have S2 := S1.fd_ (j := 39) (v := iz 104)
    simp (disch := omega) only [il0, il1, il2, il3, il4, il5, il6, il7, il8, il9, il10, il11, il12, il13, il14, il15, il16, il17, il18, il19, il20, il21, il22, il23, il24, il25, il26, il27, il28, il29, il30, il31, il32, il33, il36, il38, il39, il40, il41, il48, il50, il51, il57, il59, il60, il61, il62, il63, il70, il96, il99, il100, il101, il102, il103, il104, il105, il106, il107, il108, il109, il110, il111, il112, il115, il116, il120, il121, il124, il200, il240, il255, il288, il360, il420, il999, il1000, il114292, il152755, il402789, il435589, il463922, il533611, il631470, iz_le, nc1, nc2, nc3, nc4, nc5, nc6, nc7, nc8, nc9, nc12, nc16, nc20, nc21, nc40, nc60, nc120, nc200, Int.le_refl, ↓reduceIte, ↓ksI S, ↓ksI S1, ↓ksI S2]
  | succ d ih =>
    intro i n h hi hn S hr
    obtain ⟨n, rfl⟩ : ∃ k, n = k + 1 := ⟨n - 1, by omega⟩
    rw [f_X10_goes_74]
    have hc : ¬ ((3 : Int) ≤ i) := by omega
    obtain ⟨row, e, hrow⟩ := ih (i + 1) n (wr h 92 (upd (h.2.1 92) i (iz 10))) (by omega) (by omega) S.wr_ (fun j hj => by
      rw [wr_eq, upd_at]
      split
      · rfl
      · exact hr j (by omega))
    rw [wr_wr] at e
    refine ⟨row, ?_, hrow⟩
    rw [← e]
    simp (disch := omega) only [il0, il1, il2, il3, il4, il5, il6, il7, il8, il9, il10, il11, il12, il13, il14, il15, il16, il17, il18, il19, il20, il21, il22, il23, il24, il25, il26, il27, il28, il29, il30, il31, il32, il33, il36, il38, il39, il40, il41, il48, il50, il51, il57, il59, il60, il61, il62, il63, il70, il96, il99, il100, il101, il102, il103, il104, il105, il106, il107, il108, il109, il110, il111, il112, il115, il116, il120, il121, il124, il200, il240, il255, il288, il360, il420, il999, il1000, il114292, il152755, il402789, il435589, il463922, il533611, il631470, iz_le, hc, ↓reduceIte, ↓kr92 S, ↓ks92 S, toN, iz_add]
    rfl
/-- reading a whole text -/
theorem m_goes (hN : 200 ≤ N) {w : Nat} (hw : w < 2) (S : MSh h) (ht : ∀ j : Nat, j < L → h.2.1 81 (120 * w + j) = iz (sb (x j))) (hs : h.2.1 82 w = iz (L : Int)) (hL : L ≤ 120) (hx : ∀ j : Nat, 0 ≤ x j ∧ x j ≤ 255) (fa : FA h s i t n) : ∃ h', f_X10_goes N 71 (iz (w : Int)) h = some (iz (bi (decide ((faultS x L).1 = -1))), h') ∧ FQ h h' ∧ ((faultS x L).1 = -1 → ∃ sm', TO s i t n h' (faultS x L).2.1 (faultS x L).2.2 sm' ∧ 0 ≤ sm' ∧ sm' ≤ 9990) ∧ ((faultS x L).1 ≠ -1 → h'.2.1 71 19 = iz (faultS x L).1) ∧ h'.2.1 87 = h.2.1 87 := by
  have S1 := S.fd_ (j := 17) (v := iz ((120 * w : Nat) : Int))
  have S2 := S1.fd_ (j := 18) (v := iz (L : Int))
  have S3 := S2.fd_ (j := 19) (v := iz 0)
  have S4 := S3.fd_ (j := 21) (v := iz 0)
  have u83 : (fd (fd (fd (fd h 17 (iz ((120 * w : Nat) : Int))) 18 (iz (L : Int))) 19 (iz 0)) 21 (iz 0)).2.1 83 = h.2.1 83 := by rw [fd_ne (by decide), fd_ne (by decide), fd_ne (by decide), fd_ne (by decide)]
  have u87 : (fd (fd (fd (fd h 17 (iz ((120 * w : Nat) : Int))) 18 (iz (L : Int))) 19 (iz 0)) 21 (iz 0)).2.1 87 = h.2.1 87 := by rw [fd_ne (by decide), fd_ne (by decide), fd_ne (by decide), fd_ne (by decide)]
  have F4 : FQ h (fd (fd (fd (fd h 17 (iz ((120 * w : Nat) : Int))) 18 (iz (L : Int))) 19 (iz 0)) 21 (iz 0)) := (((FQ.fd_ (by decide)).tr (FQ.fd_ (by decide))).tr (FQ.fd_ (by decide))).tr (FQ.fd_ (by decide))
  have v17 : (fd (fd (fd (fd h 17 (iz ((120 * w : Nat) : Int))) 18 (iz (L : Int))) 19 (iz 0)) 21 (iz 0)).2.1 71 17 = iz ((120 * w : Nat) : Int) := by rw [fd_at, if_neg (by decide), fd_at, if_neg (by decide), fd_at, if_neg (by decide), fd_at, if_pos rfl]
  have v18 : (fd (fd (fd (fd h 17 (iz ((120 * w : Nat) : Int))) 18 (iz (L : Int))) 19 (iz 0)) 21 (iz 0)).2.1 71 18 = iz (L : Int) := by rw [fd_at, if_neg (by decide), fd_at, if_neg (by decide), fd_at, if_pos rfl]
  have v19 : (fd (fd (fd (fd h 17 (iz ((120 * w : Nat) : Int))) 18 (iz (L : Int))) 19 (iz 0)) 21 (iz 0)).2.1 71 19 = iz 0 := by rw [fd_at, if_neg (by decide), fd_at, if_pos rfl]
  have v21 : (fd (fd (fd (fd h 17 (iz ((120 * w : Nat) : Int))) 18 (iz (L : Int))) 19 (iz 0)) 21 (iz 0)).2.1 71 21 = iz 0 := by rw [fd_at, if_pos rfl]
  have e0 : f_X10_goes N 71 (iz (w : Int)) h = f_X10_goes_32 N N 71 (iz 0) (iz ((0 : Nat) : Int)) (fd (fd (fd (fd h 17 (iz ((120 * w : Nat) : Int))) 18 (iz (L : Int))) 19 (iz 0)) 21 (iz 0)) := by
    unfold f_X10_goes
    have ew : (120 : Int) * (w : Int) = ((120 * w : Nat) : Int) := by omega
    have v82 : (fd h 17 (iz ((120 * w : Nat) : Int))).2.1 82 w = iz (L : Int) := by rw [fd_ne (by decide)]; exact hs
    simp (disch := omega) only [il0, il1, il2, il3, il4, il5, il6, il7, il8, il9, il10, il11, il12, il13, il14, il15, il16, il17, il18, il19, il20, il21, il22, il23, il24, il25, il26, il27, il28, il29, il30, il31, il32, il33, il36, il38, il39, il40, il41, il48, il50, il51, il57, il59, il60, il61, il62, il63, il70, il96, il99, il100, il101, il102, il103, il104, il105, il106, il107, il108, il109, il110, il111, il112, il115, il116, il120, il121, il124, il200, il240, il255, il288, il360, il420, il999, il1000, il114292, il152755, il402789, il435589, il463922, il533611, il631470, iz_mul, ew, ↓ksI S, ↓kr82 S1, ↓kl82 S1, toN, v82, ↓ksI S1, ↓ksI S2, ↓ksI S3]
    rfl
  generalize fd (fd (fd (fd h 17 (iz ((120 * w : Nat) : Int))) 18 (iz (L : Int))) 19 (iz 0)) 21 (iz 0) = h4 at *
  obtain ⟨r1, e1, hr1⟩ := m_goes_32 (N := N) 12 0 N h4 (by omega) (by omega) S4 (fun j hj => by omega)
  obtain ⟨r2, e2, hr2⟩ := m_goes_53 (N := N) 16 0 N (wr h4 90 r1) (by omega) (by omega) S4.wr_ (fun j hj => by omega)
  obtain ⟨r3, e3, hr3⟩ := m_goes_74 (N := N) 3 0 N (wr (wr h4 90 r1) 91 r2) (by omega) (by omega) S4.wr_.wr_ (fun j hj => by omega)
  have e0' : f_X10_goes N 71 (iz (w : Int)) h = f_X10_goes_110 N N 71 (iz 0) (fd (fd (fd (wr (wr (wr h4 90 r1) 91 r2) 92 r3) 38 (iz 0)) 39 (iz 104)) 40 (iz 109)) := by
    rw [e0, e1]
    refine Eq.trans ?_ e3
    exact e2
  have F5 : FQ h4 (fd (fd (fd (wr (wr (wr h4 90 r1) 91 r2) 92 r3) 38 (iz 0)) 39 (iz 104)) 40 (iz 109)) := (((((FQ.wr_ (by decide)).tr (FQ.wr_ (by decide))).tr (FQ.wr_ (by decide))).tr (FQ.fd_ (by decide))).tr (FQ.fd_ (by decide))).tr (FQ.fd_ (by decide))
  have hz : ∀ j, j ∈ [17, 18, 19, 21] → (fd (fd (fd (wr (wr (wr h4 90 r1) 91 r2) 92 r3) 38 (iz 0)) 39 (iz 104)) 40 (iz 109)).2.1 71 j = h4.2.1 71 j := fun j hj => by
    have : j ≠ 38 ∧ j ≠ 39 ∧ j ≠ 40 := by revert hj; revert j; decide
    rw [fd_at, if_neg this.2.2, fd_at, if_neg this.2.1, fd_at, if_neg this.1, wr_ne (by decide), wr_ne (by decide), wr_ne (by decide)]
  have v38 : (fd (fd (fd (wr (wr (wr h4 90 r1) 91 r2) 92 r3) 38 (iz 0)) 39 (iz 104)) 40 (iz 109)).2.1 71 38 = iz 0 := by rw [fd_at, if_neg (by decide), fd_at, if_neg (by decide), fd_at, if_pos rfl]
  have v39 : (fd (fd (fd (wr (wr (wr h4 90 r1) 91 r2) 92 r3) 38 (iz 0)) 39 (iz 104)) 40 (iz 109)).2.1 71 39 = iz 104 := by rw [fd_at, if_neg (by decide), fd_at, if_pos rfl]
  have v40 : (fd (fd (fd (wr (wr (wr h4 90 r1) 91 r2) 92 r3) 38 (iz 0)) 39 (iz 104)) 40 (iz 109)).2.1 71 40 = iz 109 := by rw [fd_at, if_pos rfl]
  have w90 : (fd (fd (fd (wr (wr (wr h4 90 r1) 91 r2) 92 r3) 38 (iz 0)) 39 (iz 104)) 40 (iz 109)).2.1 90 = r1 := by rw [fd_ne (by decide), fd_ne (by decide), fd_ne (by decide), wr_ne (by decide), wr_ne (by decide), wr_eq]
  have w91 : (fd (fd (fd (wr (wr (wr h4 90 r1) 91 r2) 92 r3) 38 (iz 0)) 39 (iz 104)) 40 (iz 109)).2.1 91 = r2 := by rw [fd_ne (by decide), fd_ne (by decide), fd_ne (by decide), wr_ne (by decide), wr_eq]
  have w92 : (fd (fd (fd (wr (wr (wr h4 90 r1) 91 r2) 92 r3) 38 (iz 0)) 39 (iz 104)) 40 (iz 109)).2.1 92 = r3 := by rw [fd_ne (by decide), fd_ne (by decide), fd_ne (by decide), wr_eq]
  have w83 : (fd (fd (fd (wr (wr (wr h4 90 r1) 91 r2) 92 r3) 38 (iz 0)) 39 (iz 104)) 40 (iz 109)).2.1 83 = h4.2.1 83 := by rw [fd_ne (by decide), fd_ne (by decide), fd_ne (by decide), wr_ne (by decide), wr_ne (by decide), wr_ne (by decide)]
  have w87 : (fd (fd (fd (wr (wr (wr h4 90 r1) 91 r2) 92 r3) 38 (iz 0)) 39 (iz 104)) 40 (iz 109)).2.1 87 = h4.2.1 87 := by rw [fd_ne (by decide), fd_ne (by decide), fd_ne (by decide), wr_ne (by decide), wr_ne (by decide), wr_ne (by decide)]
  generalize fd (fd (fd (wr (wr (wr h4 90 r1) 91 r2) 92 r3) 38 (iz 0)) 39 (iz 104)) 40 (iz 109) = h5 at *
  have F45 := F4.tr F5
  have S5 : MSh h5 := S.eq F45.1 (by rw [F45.2.1])
  have p5 : PS h5 x L (120 * w) h5 0 := ⟨S5, ⟨by rw [hz 17 (by decide), v17], by rw [hz 18 (by decide), v18], by rw [hz 19 (by decide), v19]; rfl⟩, ⟨Nat.zero_le _, hL, by omega⟩, fun j hj => by rw [F45.2.2.1 81 (by decide) (by decide)]; exact ht j hj, hx, PR0.rf⟩
  have k5 : TO s i t n h5 D0 [] 0 := ⟨fun j hj => by rw [w90, hr1 j hj]; rfl, fun j hj => by rw [w91, hr2 j hj]; rfl, fun j hj => by rw [w92, hr3 j hj]; rfl, v38, v39, v40, by rw [hz 21 (by decide), v21], rfl⟩
  have fa5 : FA h5 s i t n := by
    have : h5.2.1 83 = h.2.1 83 := by rw [w83, u83]
    unfold FA at *
    rw [this]
    exact fa
  obtain ⟨h', e6, f6, i1, i2⟩ := m_goes_110 (N := N) hN 10 0 N 0 D0 [] 0 h5 (by omega) (by omega) (by omega) p5 k5 fa5
  refine ⟨h', ?_, F45.tr f6.fq, fun z => ?_, i2, by rw [f6.2.2.1 87 (by decide) (by decide), w87, u87]⟩
  · rw [e0']; exact e6
  · obtain ⟨sm', g1, g2, g3⟩ := i1 z
    exact ⟨sm', g1, g2, by omega⟩
end
