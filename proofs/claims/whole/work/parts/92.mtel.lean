section
variable {h0 h : Mem} {x : Nat → Int} {L b P N : Nat} {s i t n sm : Int} {D : Dv} {T : List Int}
theorem m_mile (hN : 200 ≤ N) (p : PS h x L b h P) (k : TO s i t n h D T sm) : Cok s i t n h x L b (b2 (f_X10_takesNumber N 71 h) fun t58 h57 => if t58 = 0 then some ((0 : Int32), h57) else (gI h57 71 10 20).bind fun t60 => (sI h57 71 10 38 t60).bind fun h62 => some ((1 : Int32), h62)) sm (decide (0 ≤ (numR x L P).1), (numR x L P).2, dset D 12 0 (numR x L P).1, T) := by
  have hP := p.2.2.1
  have hx := p.2.2.2.2.1
  have h3 : ¬ ((1 : Int) = 0) := by decide
  obtain ⟨d, e5, hd⟩ := m_number (N := N) hN p
  have nb := numR_bd (L := L) hx (P := P) (by omega)
  have p5 := p.at2_ (d := d) (P' := (numR x L P).2) (by omega)
  have d5 := at2_20 (h := h) (d := d) (P := (numR x L P).2)
  generalize at2 h d (numR x L P).2 = h5 at *
  by_cases f5 : 0 ≤ (numR x L P).1
  · rw [decide_eq_true f5] at e5 ⊢
    have hd' := hd f5
    subst hd'
    have k5 := (k.pr p5.pr).fld (j := 0) (v := (numR x L P).1) (w := (numR x L P).1) (by decide) (by rw [if_pos rfl])
    refine ⟨fun _ => ⟨_, sm, ?_, p5.self.fld (j := 38) (by omega), k5, p5.pr.fc.tr (FC.fd_ (by decide)), Int.le_refl _, by omega⟩, fun z => tt_ff z⟩
    simp (disch := omega) only [il0, il1, il2, il3, il4, il5, il6, il7, il8, il9, il10, il11, il12, il13, il14, il15, il16, il17, il18, il19, il20, il21, il22, il23, il24, il25, il26, il27, il28, il29, il30, il31, il32, il33, il36, il38, il39, il40, il41, il48, il50, il51, il57, il59, il60, il61, il62, il63, il70, il96, il99, il100, il101, il102, il103, il104, il105, il106, il107, il108, il109, il110, il111, il112, il115, il116, il120, il121, il124, il200, il240, il255, il288, il360, il420, il999, il1000, il114292, il152755, il402789, il435589, il463922, il533611, il631470, ↓bq e5, bi_t, iz_eq, h3, ↓reduceIte, ↓kmI p5.1, d5, ↓ksI p5.1]
  · rw [decide_eq_false f5] at e5 ⊢
    refine ⟨fun z => ff_tt z, fun _ => ⟨h5, ?_, p5.self, p5.pr.fc⟩⟩
    simp (disch := omega) only [il0, il1, il2, il3, il4, il5, il6, il7, il8, il9, il10, il11, il12, il13, il14, il15, il16, il17, il18, il19, il20, il21, il22, il23, il24, il25, il26, il27, il28, il29, il30, il31, il32, il33, il36, il38, il39, il40, il41, il48, il50, il51, il57, il59, il60, il61, il62, il63, il70, il96, il99, il100, il101, il102, il103, il104, il105, il106, il107, il108, il109, il110, il111, il112, il115, il116, il120, il121, il124, il200, il240, il255, il288, il360, il420, il999, il1000, il114292, il152755, il402789, il435589, il463922, il533611, il631470, ↓bq e5, bi_f, ↓reduceIte]
theorem letS_1 (P : Nat) : letS x L P 1 = if isAt x L P 104 = true then 0 else if isAt x L P 105 = true then 1 else if isAt x L P 101 = true then 2 else -1 := by
  unfold letS isAt
  by_cases h1 : P < L
  · rw [if_pos h1]
    simp only [h1, decide_true, Bool.true_and, decide_eq_true_eq]
    have e : ∀ (c : Int), fs (fun j => decide (strB 1 j = c)) 0 (strL 1) = if c = 104 then some 0 else if c = 105 then some 1 else if c = 101 then some 2 else none := by
      intro c
      show fs _ 0 3 = _
      simp only [fs, strB]
      have g : ∀ (a b : Int), (decide (a = b) = true) = (b = a) := fun a b => by rw [decide_eq_true_eq]; exact propext eq_comm
      simp only [List.getD_cons_zero, List.getD_cons_succ, g]
    rw [e]
    by_cases c0 : x P = 104
    · rw [if_pos c0, if_pos c0]; rfl
    · rw [if_neg c0, if_neg c0]
      by_cases c1 : x P = 105
      · rw [if_pos c1, if_pos c1]; rfl
      · rw [if_neg c1, if_neg c1]
        by_cases c2 : x P = 101
        · rw [if_pos c2, if_pos c2]; rfl
        · rw [if_neg c2, if_neg c2]
  · rw [if_neg h1]
    simp [h1]
theorem letS_2 (P : Nat) : letS x L P 2 = if isAt x L P 109 = true then 0 else if isAt x L P 100 = true then 1 else if isAt x L P 111 = true then 2 else -1 := by
  unfold letS isAt
  by_cases h1 : P < L
  · rw [if_pos h1]
    simp only [h1, decide_true, Bool.true_and, decide_eq_true_eq]
    have e : ∀ (c : Int), fs (fun j => decide (strB 2 j = c)) 0 (strL 2) = if c = 109 then some 0 else if c = 100 then some 1 else if c = 111 then some 2 else none := by
      intro c
      show fs _ 0 3 = _
      simp only [fs, strB]
      have g : ∀ (a b : Int), (decide (a = b) = true) = (b = a) := fun a b => by rw [decide_eq_true_eq]; exact propext eq_comm
      simp only [List.getD_cons_zero, List.getD_cons_succ, g]
    rw [e]
    by_cases c0 : x P = 109
    · rw [if_pos c0, if_pos c0]; rfl
    · rw [if_neg c0, if_neg c0]
      by_cases c1 : x P = 100
      · rw [if_pos c1, if_pos c1]; rfl
      · rw [if_neg c1, if_neg c1]
        by_cases c2 : x P = 111
        · rw [if_pos c2, if_pos c2]; rfl
        · rw [if_neg c2, if_neg c2]
  · rw [if_neg h1]
    simp [h1]
theorem m_due (p : PS h x L b h P) (k : TO s i t n h D T sm) : Cok s i t n h x L b (b2 (f_X10_next N 71 h) fun t19 h18 => if t19 = (104 : Int32) then f_X10_takesClause_201 N 71 h18 else (ck h18 71 10).bind fun _ => b2 (f_X10_next N 71 h18) fun t24 h23 => if t24 = (105 : Int32) then f_X10_takesClause_201 N 71 h23 else (ck h23 71 10).bind fun _ => b2 (f_X10_next N 71 h23) fun t29 h28 => if t29 = (101 : Int32) then f_X10_takesClause_201 N 71 h28 else some ((0 : Int32), h28)) sm (decide (0 ≤ letS x L P 1), (if 0 ≤ letS x L P 1 then P + 1 else P), dset D 12 1 (letS x L P 1), T) := by
  have hP := p.2.2.1
  have hx := p.2.2.2.2.1
  have en := m_next (N := N) p
  have hb := nx_bd (L := L) (P := P) hx
  have g1 := nx_at (L := L) (P := P) hx (c := 104) (by omega)
  have g2 := nx_at (L := L) (P := P) hx (c := 105) (by omega)
  have g3 := nx_at (L := L) (P := P) hx (c := 101) (by omega)
  have fin : ∀ q : Int, q = letS x L P 1 → 0 ≤ q → nxS x L P = duC q → P < L → f_X10_takesClause_201 N 71 h = some (iz 1, fd (fd h 39 (iz (duC q))) 19 (iz ((P + 1 : Nat) : Int))) ∧ PS (fd (fd h 39 (iz (duC q))) 19 (iz ((P + 1 : Nat) : Int))) x L b (fd (fd h 39 (iz (duC q))) 19 (iz ((P + 1 : Nat) : Int))) (P + 1) ∧ TO s i t n (fd (fd h 39 (iz (duC q))) 19 (iz ((P + 1 : Nat) : Int))) (dset D 12 1 q) T sm ∧ FC h (fd (fd h 39 (iz (duC q))) 19 (iz ((P + 1 : Nat) : Int))) := by
    intro q hq h0 hn hl
    have p1 := p.fld (j := 39) (v := iz (duC q)) (by omega)
    have k1 := k.fld (j := 1) (v := q) (w := duC q) (by decide) (by simp)
    have p2 := p1.at_ (P' := P + 1) (by omega)
    refine ⟨?_, p2.self, k1.pr p2.pr, (FC.fd_ (by decide)).tr p2.pr.fc⟩
    rw [hn] at en
    unfold f_X10_takesClause_201
    simp (disch := omega) only [il0, il1, il2, il3, il4, il5, il6, il7, il8, il9, il10, il11, il12, il13, il14, il15, il16, il17, il18, il19, il20, il21, il22, il23, il24, il25, il26, il27, il28, il29, il30, il31, il32, il33, il36, il38, il39, il40, il41, il48, il50, il51, il57, il59, il60, il61, il62, il63, il70, il96, il99, il100, il101, il102, il103, il104, il105, il106, il107, il108, il109, il110, il111, il112, il115, il116, il120, il121, il124, il200, il240, il255, il288, il360, il420, il999, il1000, il114292, il152755, il402789, il435589, il463922, il533611, il631470, ↓kmC p.1, ↓bq en, ↓ksI p.1, ↓kpP p1, iz_add, ↓ksI p1.1]
    rfl
  have hz : letS x L P 1 = if isAt x L P 104 = true then 0 else if isAt x L P 105 = true then 1 else if isAt x L P 101 = true then 2 else -1 := letS_1 P
  by_cases c1 : isAt x L P 104 = true
  · rw [if_pos c1] at hz
    have la := isAt_lt c1
    obtain ⟨f1, f2, f3, f4⟩ := fin 0 hz.symm (by omega) (by show nxS x L P = 104; rw [g1]; exact c1) la.1
    rw [hz]
    refine ⟨fun _ => ⟨_, sm, ?_, f2, f3, f4, Int.le_refl _, by omega⟩, fun z => tt_ff z⟩
    simp (disch := omega) only [il0, il1, il2, il3, il4, il5, il6, il7, il8, il9, il10, il11, il12, il13, il14, il15, il16, il17, il18, il19, il20, il21, il22, il23, il24, il25, il26, il27, il28, il29, il30, il31, il32, il33, il36, il38, il39, il40, il41, il48, il50, il51, il57, il59, il60, il61, il62, il63, il70, il96, il99, il100, il101, il102, il103, il104, il105, il106, il107, il108, il109, il110, il111, il112, il115, il116, il120, il121, il124, il200, il240, il255, il288, il360, il420, il999, il1000, il114292, il152755, il402789, il435589, il463922, il533611, il631470, ↓bq en, iz_eq, g1, c1, ↓reduceIte]
    exact f1
  · rw [if_neg c1] at hz
    by_cases c2 : isAt x L P 105 = true
    · rw [if_pos c2] at hz
      have la := isAt_lt c2
      obtain ⟨f1, f2, f3, f4⟩ := fin 1 hz.symm (by omega) (by show nxS x L P = 105; rw [g2]; exact c2) la.1
      rw [hz]
      refine ⟨fun _ => ⟨_, sm, ?_, f2, f3, f4, Int.le_refl _, by omega⟩, fun z => tt_ff z⟩
      simp (disch := omega) only [il0, il1, il2, il3, il4, il5, il6, il7, il8, il9, il10, il11, il12, il13, il14, il15, il16, il17, il18, il19, il20, il21, il22, il23, il24, il25, il26, il27, il28, il29, il30, il31, il32, il33, il36, il38, il39, il40, il41, il48, il50, il51, il57, il59, il60, il61, il62, il63, il70, il96, il99, il100, il101, il102, il103, il104, il105, il106, il107, il108, il109, il110, il111, il112, il115, il116, il120, il121, il124, il200, il240, il255, il288, il360, il420, il999, il1000, il114292, il152755, il402789, il435589, il463922, il533611, il631470, ↓bq en, iz_eq, g1, c1, g2, c2, ↓reduceIte, ↓kmC p.1]
      exact f1
    · rw [if_neg c2] at hz
      by_cases c3 : isAt x L P 101 = true
      · rw [if_pos c3] at hz
        have la := isAt_lt c3
        obtain ⟨f1, f2, f3, f4⟩ := fin 2 hz.symm (by omega) (by show nxS x L P = 101; rw [g3]; exact c3) la.1
        rw [hz]
        refine ⟨fun _ => ⟨_, sm, ?_, f2, f3, f4, Int.le_refl _, by omega⟩, fun z => tt_ff z⟩
        simp (disch := omega) only [il0, il1, il2, il3, il4, il5, il6, il7, il8, il9, il10, il11, il12, il13, il14, il15, il16, il17, il18, il19, il20, il21, il22, il23, il24, il25, il26, il27, il28, il29, il30, il31, il32, il33, il36, il38, il39, il40, il41, il48, il50, il51, il57, il59, il60, il61, il62, il63, il70, il96, il99, il100, il101, il102, il103, il104, il105, il106, il107, il108, il109, il110, il111, il112, il115, il116, il120, il121, il124, il200, il240, il255, il288, il360, il420, il999, il1000, il114292, il152755, il402789, il435589, il463922, il533611, il631470, ↓bq en, iz_eq, g1, c1, g2, c2, g3, c3, ↓reduceIte, ↓kmC p.1, Bool.false_eq_true]
        exact f1
      · rw [if_neg c3] at hz
        rw [hz]
        refine ⟨fun z => ff_tt z, fun _ => ⟨h, ?_, p, FC.rf⟩⟩
        simp (disch := omega) only [il0, il1, il2, il3, il4, il5, il6, il7, il8, il9, il10, il11, il12, il13, il14, il15, il16, il17, il18, il19, il20, il21, il22, il23, il24, il25, il26, il27, il28, il29, il30, il31, il32, il33, il36, il38, il39, il40, il41, il48, il50, il51, il57, il59, il60, il61, il62, il63, il70, il96, il99, il100, il101, il102, il103, il104, il105, il106, il107, il108, il109, il110, il111, il112, il115, il116, il120, il121, il124, il200, il240, il255, il288, il360, il420, il999, il1000, il114292, il152755, il402789, il435589, il463922, il533611, il631470, ↓bq en, iz_eq, g1, c1, g2, c2, g3, c3, ↓reduceIte, ↓kmC p.1, Bool.false_eq_true]
theorem m_pic (p : PS h x L b h P) (k : TO s i t n h D T sm) : Cok s i t n h x L b (b2 (f_X10_next N 71 h) fun t19 h18 => if t19 = (109 : Int32) then f_X10_takesClause_261 N 71 h18 else (ck h18 71 10).bind fun _ => b2 (f_X10_next N 71 h18) fun t24 h23 => if t24 = (100 : Int32) then f_X10_takesClause_261 N 71 h23 else (ck h23 71 10).bind fun _ => b2 (f_X10_next N 71 h23) fun t29 h28 => if t29 = (111 : Int32) then f_X10_takesClause_261 N 71 h28 else some ((0 : Int32), h28)) sm (decide (0 ≤ letS x L P 2), (if 0 ≤ letS x L P 2 then P + 1 else P), dset D 12 2 (letS x L P 2), T) := by
  have hP := p.2.2.1
  have hx := p.2.2.2.2.1
  have en := m_next (N := N) p
  have hb := nx_bd (L := L) (P := P) hx
  have g1 := nx_at (L := L) (P := P) hx (c := 109) (by omega)
  have g2 := nx_at (L := L) (P := P) hx (c := 100) (by omega)
  have g3 := nx_at (L := L) (P := P) hx (c := 111) (by omega)
  have fin : ∀ q : Int, q = letS x L P 2 → 0 ≤ q → nxS x L P = piC q → P < L → f_X10_takesClause_261 N 71 h = some (iz 1, fd (fd h 40 (iz (piC q))) 19 (iz ((P + 1 : Nat) : Int))) ∧ PS (fd (fd h 40 (iz (piC q))) 19 (iz ((P + 1 : Nat) : Int))) x L b (fd (fd h 40 (iz (piC q))) 19 (iz ((P + 1 : Nat) : Int))) (P + 1) ∧ TO s i t n (fd (fd h 40 (iz (piC q))) 19 (iz ((P + 1 : Nat) : Int))) (dset D 12 2 q) T sm ∧ FC h (fd (fd h 40 (iz (piC q))) 19 (iz ((P + 1 : Nat) : Int))) := by
    intro q hq h0 hn hl
    have p1 := p.fld (j := 40) (v := iz (piC q)) (by omega)
    have k1 := k.fld (j := 2) (v := q) (w := piC q) (by decide) (by simp)
    have p2 := p1.at_ (P' := P + 1) (by omega)
    refine ⟨?_, p2.self, k1.pr p2.pr, (FC.fd_ (by decide)).tr p2.pr.fc⟩
    rw [hn] at en
    unfold f_X10_takesClause_261
    simp (disch := omega) only [il0, il1, il2, il3, il4, il5, il6, il7, il8, il9, il10, il11, il12, il13, il14, il15, il16, il17, il18, il19, il20, il21, il22, il23, il24, il25, il26, il27, il28, il29, il30, il31, il32, il33, il36, il38, il39, il40, il41, il48, il50, il51, il57, il59, il60, il61, il62, il63, il70, il96, il99, il100, il101, il102, il103, il104, il105, il106, il107, il108, il109, il110, il111, il112, il115, il116, il120, il121, il124, il200, il240, il255, il288, il360, il420, il999, il1000, il114292, il152755, il402789, il435589, il463922, il533611, il631470, ↓kmC p.1, ↓bq en, ↓ksI p.1, ↓kpP p1, iz_add, ↓ksI p1.1]
    rfl
  have hz : letS x L P 2 = if isAt x L P 109 = true then 0 else if isAt x L P 100 = true then 1 else if isAt x L P 111 = true then 2 else -1 := letS_2 P
  by_cases c1 : isAt x L P 109 = true
  · rw [if_pos c1] at hz
    have la := isAt_lt c1
    obtain ⟨f1, f2, f3, f4⟩ := fin 0 hz.symm (by omega) (by show nxS x L P = 109; rw [g1]; exact c1) la.1
    rw [hz]
    refine ⟨fun _ => ⟨_, sm, ?_, f2, f3, f4, Int.le_refl _, by omega⟩, fun z => tt_ff z⟩
    simp (disch := omega) only [il0, il1, il2, il3, il4, il5, il6, il7, il8, il9, il10, il11, il12, il13, il14, il15, il16, il17, il18, il19, il20, il21, il22, il23, il24, il25, il26, il27, il28, il29, il30, il31, il32, il33, il36, il38, il39, il40, il41, il48, il50, il51, il57, il59, il60, il61, il62, il63, il70, il96, il99, il100, il101, il102, il103, il104, il105, il106, il107, il108, il109, il110, il111, il112, il115, il116, il120, il121, il124, il200, il240, il255, il288, il360, il420, il999, il1000, il114292, il152755, il402789, il435589, il463922, il533611, il631470, ↓bq en, iz_eq, g1, c1, ↓reduceIte]
    exact f1
  · rw [if_neg c1] at hz
    by_cases c2 : isAt x L P 100 = true
    · rw [if_pos c2] at hz
      have la := isAt_lt c2
      obtain ⟨f1, f2, f3, f4⟩ := fin 1 hz.symm (by omega) (by show nxS x L P = 100; rw [g2]; exact c2) la.1
      rw [hz]
      refine ⟨fun _ => ⟨_, sm, ?_, f2, f3, f4, Int.le_refl _, by omega⟩, fun z => tt_ff z⟩
      simp (disch := omega) only [il0, il1, il2, il3, il4, il5, il6, il7, il8, il9, il10, il11, il12, il13, il14, il15, il16, il17, il18, il19, il20, il21, il22, il23, il24, il25, il26, il27, il28, il29, il30, il31, il32, il33, il36, il38, il39, il40, il41, il48, il50, il51, il57, il59, il60, il61, il62, il63, il70, il96, il99, il100, il101, il102, il103, il104, il105, il106, il107, il108, il109, il110, il111, il112, il115, il116, il120, il121, il124, il200, il240, il255, il288, il360, il420, il999, il1000, il114292, il152755, il402789, il435589, il463922, il533611, il631470, ↓bq en, iz_eq, g1, c1, g2, c2, ↓reduceIte, ↓kmC p.1]
      exact f1
    · rw [if_neg c2] at hz
      by_cases c3 : isAt x L P 111 = true
      · rw [if_pos c3] at hz
        have la := isAt_lt c3
        obtain ⟨f1, f2, f3, f4⟩ := fin 2 hz.symm (by omega) (by show nxS x L P = 111; rw [g3]; exact c3) la.1
        rw [hz]
        refine ⟨fun _ => ⟨_, sm, ?_, f2, f3, f4, Int.le_refl _, by omega⟩, fun z => tt_ff z⟩
        simp (disch := omega) only [il0, il1, il2, il3, il4, il5, il6, il7, il8, il9, il10, il11, il12, il13, il14, il15, il16, il17, il18, il19, il20, il21, il22, il23, il24, il25, il26, il27, il28, il29, il30, il31, il32, il33, il36, il38, il39, il40, il41, il48, il50, il51, il57, il59, il60, il61, il62, il63, il70, il96, il99, il100, il101, il102, il103, il104, il105, il106, il107, il108, il109, il110, il111, il112, il115, il116, il120, il121, il124, il200, il240, il255, il288, il360, il420, il999, il1000, il114292, il152755, il402789, il435589, il463922, il533611, il631470, ↓bq en, iz_eq, g1, c1, g2, c2, g3, c3, ↓reduceIte, ↓kmC p.1, Bool.false_eq_true]
        exact f1
      · rw [if_neg c3] at hz
        rw [hz]
        refine ⟨fun z => ff_tt z, fun _ => ⟨h, ?_, p, FC.rf⟩⟩
        simp (disch := omega) only [il0, il1, il2, il3, il4, il5, il6, il7, il8, il9, il10, il11, il12, il13, il14, il15, il16, il17, il18, il19, il20, il21, il22, il23, il24, il25, il26, il27, il28, il29, il30, il31, il32, il33, il36, il38, il39, il40, il41, il48, il50, il51, il57, il59, il60, il61, il62, il63, il70, il96, il99, il100, il101, il102, il103, il104, il105, il106, il107, il108, il109, il110, il111, il112, il115, il116, il120, il121, il124, il200, il240, il255, il288, il360, il420, il999, il1000, il114292, il152755, il402789, il435589, il463922, il533611, il631470, ↓bq en, iz_eq, g1, c1, g2, c2, g3, c3, ↓reduceIte, ↓kmC p.1, Bool.false_eq_true]
theorem run_shun {v : Nat} {u sm : Int} (hv : v ≤ 1) (hu : 0 ≤ u) : run s i t n [u * 16 + 15] (sm, v) = some (sm + v * u, 0) := by
  show (sgn s i t n (u * 16 + 15) (sm, v)).bind (run s i t n []) = _
  unfold sgn
  dsimp only
  rw [if_neg (by omega), if_neg (by omega), if_neg (by omega), if_neg (by omega), if_pos (by omega), show v % 2 = v by omega, show (u * 16 + 15) / 16 = u by omega]
  rfl
theorem m_shun (hN : 200 ≤ N) (hP1 : 1 ≤ P) (fa : FA h s i t n) (p : PS h x L b h P) (k : TO s i t n h D T sm) : Cok s i t n h x L b (b2 (f_X10_takesE N 71 h) fun t9 h8 => if t9 = 0 then some ((0 : Int32), h8) else (ck h8 71 10).bind fun _ => b2 (f_X10_takes N 71 (32 : Int32) h8) fun t14 h13 => if t14 = 0 then some ((0 : Int32), h13) else (ck h13 71 10).bind fun _ => b2 (f_X10_takesNumber N 71 h13) fun t19 h18 => if t19 = 0 then some ((0 : Int32), h18) else (gR h18 71 10 31).bind fun t21 => (lI 102 h18 t21 (0 : Int32)).bind fun t23 => if t23 = 0 then some ((1 : Int32), h18) else (gI h18 71 10 21).bind fun t26 => (gI h18 71 10 20).bind fun t28 => (sI h18 71 10 21 (t26 + t28)).bind fun h30 => some ((1 : Int32), h30)) sm ((shunS x L P T).1, (shunS x L P T).2.1, D, (shunS x L P T).2.2) := by
  have hP := p.2.2.1
  have hx := p.2.2.2.2.1
  have h3 : ¬ ((1 : Int) = 0) := by decide
  obtain ⟨E1, E2⟩ := m_E hN fa hP1 p
  unfold shunS
  by_cases f1 : (pE x L P).1 = true
  · rw [if_pos f1]
    obtain ⟨v, hv, hr, h1, e1, p1, u1, l1⟩ := E1 f1
    have e2 := m_takes (N := N) p1 (c := 32) (by omega)
    by_cases f2 : isAt x L (pE x L P).2.1 32 = true
    · have l2 := isAt_lt f2
      rw [if_pos f2, f2] at e2
      rw [if_pos f2]
      have p4 := p1.at_ (P' := (pE x L P).2.1 + 1) (by omega)
      obtain ⟨d, e5, hd⟩ := m_number (N := N) hN p4
      have u4 : (fd h1 19 (iz (((pE x L P).2.1 + 1 : Nat) : Int))).2.1 89 0 = iz (v : Int) := by rw [fd_ne (by decide)]; exact u1
      generalize fd h1 19 (iz (((pE x L P).2.1 + 1 : Nat) : Int)) = h4 at *
      have nb := numR_bd (L := L) hx (P := (pE x L P).2.1 + 1) (by omega)
      have p5 := p4.at2_ (d := d) (P' := (numR x L ((pE x L P).2.1 + 1)).2) (by omega)
      have d5 := at2_20 (h := h4) (d := d) (P := (numR x L ((pE x L P).2.1 + 1)).2)
      have u5 : (at2 h4 d (numR x L ((pE x L P).2.1 + 1)).2).2.1 89 0 = iz (v : Int) := by unfold at2; rw [fd_ne (by decide), fd_ne (by decide)]; exact u4
      generalize at2 h4 d (numR x L ((pE x L P).2.1 + 1)).2 = h5 at *
      by_cases f5 : 0 ≤ (numR x L ((pE x L P).2.1 + 1)).1
      · rw [if_pos f5]
        rw [decide_eq_true f5] at e5
        have hd' := hd f5
        subst hd'
        have k5 := k.pr p5.pr
        have hrun : run s i t n (T ++ (pE x L P).2.2 ++ [(numR x L ((pE x L P).2.1 + 1)).1 * 16 + 15]) (0, 0) = some (sm + v * (numR x L ((pE x L P).2.1 + 1)).1, 0) := by
          rw [run_app, run_app, k.2.2.2.2.2.2.2, Option.bind_some, hr sm, Option.bind_some]
          exact run_shun hv f5
        have e21 : h5.2.1 71 21 = iz sm := k5.2.2.2.2.2.2.1
        have hl89 : ∀ kk : Int32 → Option (Int32 × Mem), (lI 102 h5 89 (iz 0)).bind kk = kk (iz (v : Int)) := fun kk => by rw [kl89 p5.1 (by omega) (by omega)]; show kk (h5.2.1 89 0) = _; rw [u5]
        rcases (show v = 0 ∨ v = 1 by omega) with v0 | v1
        · rw [v0, show sm + ((0 : Nat) : Int) * (numR x L ((pE x L P).2.1 + 1)).1 = sm by rw [show (((0 : Nat) : Int)) = 0 from rfl, Int.zero_mul, Int.add_zero]] at hrun
          refine ⟨fun _ => ⟨h5, sm, ?_, p5.self, ⟨k5.1, k5.2.1, k5.2.2.1, k5.2.2.2.1, k5.2.2.2.2.1, k5.2.2.2.2.2.1, k5.2.2.2.2.2.2.1, hrun⟩, p5.pr.fc, Int.le_refl _, by omega⟩, fun z => tt_ff z⟩
          rw [v0] at hl89
          have z0 : (((0 : Nat) : Int)) = 0 := rfl
          simp (disch := omega) only [il0, il1, il2, il3, il4, il5, il6, il7, il8, il9, il10, il11, il12, il13, il14, il15, il16, il17, il18, il19, il20, il21, il22, il23, il24, il25, il26, il27, il28, il29, il30, il31, il32, il33, il36, il38, il39, il40, il41, il48, il50, il51, il57, il59, il60, il61, il62, il63, il70, il96, il99, il100, il101, il102, il103, il104, il105, il106, il107, il108, il109, il110, il111, il112, il115, il116, il120, il121, il124, il200, il240, il255, il288, il360, il420, il999, il1000, il114292, il152755, il402789, il435589, il463922, il533611, il631470, ↓bq e1, bi_t, iz_eq, h3, ↓reduceIte, ↓kmC p1.1, ↓bq e2, ↓kmC p4.1, ↓bq e5, ↓kr89 p5.1, ↓hl89, z0]
        · rw [v1, show sm + ((1 : Nat) : Int) * (numR x L ((pE x L P).2.1 + 1)).1 = sm + (numR x L ((pE x L P).2.1 + 1)).1 by rw [show (((1 : Nat) : Int)) = 1 from rfl, Int.one_mul]] at hrun
          refine ⟨fun _ => ⟨_, sm + (numR x L ((pE x L P).2.1 + 1)).1, ?_, p5.self.fld (j := 21) (by omega), k5.shn hrun, p5.pr.fc.tr (FC.fd_ (by decide)), by omega, by omega⟩, fun z => tt_ff z⟩
          rw [v1] at hl89
          have z0 : (((1 : Nat) : Int)) = 1 := rfl
          simp (disch := omega) only [il0, il1, il2, il3, il4, il5, il6, il7, il8, il9, il10, il11, il12, il13, il14, il15, il16, il17, il18, il19, il20, il21, il22, il23, il24, il25, il26, il27, il28, il29, il30, il31, il32, il33, il36, il38, il39, il40, il41, il48, il50, il51, il57, il59, il60, il61, il62, il63, il70, il96, il99, il100, il101, il102, il103, il104, il105, il106, il107, il108, il109, il110, il111, il112, il115, il116, il120, il121, il124, il200, il240, il255, il288, il360, il420, il999, il1000, il114292, il152755, il402789, il435589, il463922, il533611, il631470, ↓bq e1, bi_t, iz_eq, h3, ↓reduceIte, ↓kmC p1.1, ↓bq e2, ↓kmC p4.1, ↓bq e5, ↓kr89 p5.1, ↓hl89, z0, ↓kmI p5.1, e21, d5, iz_add, ↓ksI p5.1]
      · rw [if_neg f5]
        rw [decide_eq_false f5] at e5
        refine ⟨fun z => ff_tt z, fun _ => ⟨h5, ?_, p5.self, p5.pr.fc⟩⟩
        simp (disch := omega) only [il0, il1, il2, il3, il4, il5, il6, il7, il8, il9, il10, il11, il12, il13, il14, il15, il16, il17, il18, il19, il20, il21, il22, il23, il24, il25, il26, il27, il28, il29, il30, il31, il32, il33, il36, il38, il39, il40, il41, il48, il50, il51, il57, il59, il60, il61, il62, il63, il70, il96, il99, il100, il101, il102, il103, il104, il105, il106, il107, il108, il109, il110, il111, il112, il115, il116, il120, il121, il124, il200, il240, il255, il288, il360, il420, il999, il1000, il114292, il152755, il402789, il435589, il463922, il533611, il631470, ↓bq e1, bi_t, bi_f, iz_eq, h3, ↓reduceIte, ↓kmC p1.1, ↓bq e2, ↓kmC p4.1, ↓bq e5]
    · rw [if_neg f2]
      rw [Bool.not_eq_true] at f2
      rw [if_neg (by rw [f2]; decide), f2] at e2
      refine ⟨fun z => ff_tt z, fun _ => ⟨h1, ?_, p1.self, p1.pr.fc⟩⟩
      simp (disch := omega) only [il0, il1, il2, il3, il4, il5, il6, il7, il8, il9, il10, il11, il12, il13, il14, il15, il16, il17, il18, il19, il20, il21, il22, il23, il24, il25, il26, il27, il28, il29, il30, il31, il32, il33, il36, il38, il39, il40, il41, il48, il50, il51, il57, il59, il60, il61, il62, il63, il70, il96, il99, il100, il101, il102, il103, il104, il105, il106, il107, il108, il109, il110, il111, il112, il115, il116, il120, il121, il124, il200, il240, il255, il288, il360, il420, il999, il1000, il114292, il152755, il402789, il435589, il463922, il533611, il631470, ↓bq e1, bi_t, bi_f, iz_eq, h3, ↓reduceIte, ↓kmC p1.1, ↓bq e2]
  · rw [if_neg f1]
    rw [Bool.not_eq_true] at f1
    obtain ⟨h1, e1, p1⟩ := E2 f1
    refine ⟨fun z => ff_tt z, fun _ => ⟨h1, ?_, p1.self, p1.pr.fc⟩⟩
    simp (disch := omega) only [il0, il1, il2, il3, il4, il5, il6, il7, il8, il9, il10, il11, il12, il13, il14, il15, il16, il17, il18, il19, il20, il21, il22, il23, il24, il25, il26, il27, il28, il29, il30, il31, il32, il33, il36, il38, il39, il40, il41, il48, il50, il51, il57, il59, il60, il61, il62, il63, il70, il96, il99, il100, il101, il102, il103, il104, il105, il106, il107, il108, il109, il110, il111, il112, il115, il116, il120, il121, il124, il200, il240, il255, il288, il360, il420, il999, il1000, il114292, il152755, il402789, il435589, il463922, il533611, il631470, ↓bq e1, ↓reduceIte]
end
