section
variable {h0 h : Mem} {x : Nat → Int} {L b P N : Nat} {s i t n sm : Int} {D : Dv} {T : List Int}
theorem m_two0 (hN : 200 ≤ N) (p : PS h x L b h P) (k : TO s i t n h D T sm) : Cok s i t n h x L b (f_X10_takesTwo N 71 (iz 0) h) sm ((pairS x L 9 3 D P).1, (pairS x L 9 3 D P).2.1, (pairS x L 9 3 D P).2.2, T) := by
  have hP := p.2.2.1
  have hx := p.2.2.2.2.1
  have h3 : ¬ ((1 : Int) = 0) := by decide
  have e1 := m_figure (N := N) p (m := 3) (by omega)
  unfold f_X10_takesTwo f_X10_takesTwo_34 pairS
  rw [show (3 : Int) - 1 = 2 by decide]
  by_cases f1 : figS x L P 3 = true
  · have l1 := figS_lt f1
    rw [if_pos f1, f1] at e1
    rw [if_pos f1]
    have p1 := p.at2_ (d := x P - 48) (P' := P + 1) (by omega)
    have d1 := at2_20 (h := h) (d := x P - 48) (P := P + 1)
    have e2 := m_takes (N := N) p1 (c := 32) (by omega)
    generalize at2 h (x P - 48) (P + 1) = h1 at *
    by_cases f2 : isAt x L (P + 1) 32 = true
    · have l2 := isAt_lt f2
      rw [if_pos f2, f2] at e2
      rw [if_pos f2]
      have p2 := p1.at_ (P' := P + 1 + 1) (by omega)
      have e3 := m_figure (N := N) p2 (m := 2) (by omega)
      generalize fd h1 19 (iz ((P + 1 + 1 : Nat) : Int)) = h2 at *
      rw [show P + 2 = P + 1 + 1 by omega]
      by_cases f3 : figS x L (P + 1 + 1) 2 = true
      · have l3 := figS_lt f3
        rw [if_pos f3, f3] at e3
        rw [if_pos f3]
        have p3 := p2.at2_ (d := x (P + 1 + 1) - 48) (P' := P + 1 + 1 + 1) (by omega)
        have d3 := at2_20 (h := h2) (d := x (P + 1 + 1) - 48) (P := P + 1 + 1 + 1)
        have e4 := m_takes (N := N) p3 (c := 32) (by omega)
        generalize at2 h2 (x (P + 1 + 1) - 48) (P + 1 + 1 + 1) = h3' at *
        rw [show P + 3 = P + 1 + 1 + 1 by omega]
        by_cases f4 : isAt x L (P + 1 + 1 + 1) 32 = true
        · have l4 := isAt_lt f4
          rw [if_pos f4, f4] at e4
          rw [if_pos f4]
          have p4 := p3.at_ (P' := P + 1 + 1 + 1 + 1) (by omega)
          obtain ⟨d, e5, hd⟩ := m_number (N := N) hN p4
          generalize fd h3' 19 (iz ((P + 1 + 1 + 1 + 1 : Nat) : Int)) = h4 at *
          rw [show P + 4 = P + 1 + 1 + 1 + 1 by omega]
          have nb := numR_bd (L := L) hx (P := P + 1 + 1 + 1 + 1) (by omega)
          have p5 := p4.at2_ (d := d) (P' := (numR x L (P + 1 + 1 + 1 + 1)).2) (by omega)
          have d5 := at2_20 (h := h4) (d := d) (P := (numR x L (P + 1 + 1 + 1 + 1)).2)
          generalize at2 h4 d (numR x L (P + 1 + 1 + 1 + 1)).2 = h5 at *
          by_cases f5 : 0 ≤ (numR x L (P + 1 + 1 + 1 + 1)).1
          · rw [if_pos f5]
            rw [decide_eq_true f5] at e5
            have hd' := hd f5
            subst hd'
            have k5 := (k.pr p5.pr).row (k0 := 9) (j := (3 * (x P - 48) + (x (P + 1 + 1) - 48)).toNat) (v := (numR x L (P + 1 + 1 + 1 + 1)).1) (by omega)
            have ej : (((3 * (x P - 48) + (x (P + 1 + 1) - 48)).toNat : Nat) : Int) = (x P - 48) * 3 + (x (P + 1 + 1) - 48) := by omega
            rw [ej] at k5
            refine ⟨fun _ => ⟨_, sm, ?_, p5.self.row (a := 90) (by omega), k5, p5.pr.fc.tr (FC.wr_ (by decide)), Int.le_refl _, by omega⟩, fun z => tt_ff z⟩
            simp (disch := omega) only [il0, il1, il2, il3, il4, il5, il6, il7, il8, il9, il10, il11, il12, il13, il14, il15, il16, il17, il18, il19, il20, il21, il22, il23, il24, il25, il26, il27, il28, il29, il30, il31, il32, il33, il36, il38, il39, il40, il41, il48, il50, il51, il57, il59, il60, il61, il62, il63, il70, il96, il99, il100, il101, il102, il103, il104, il105, il106, il107, il108, il109, il110, il111, il112, il115, il116, il120, il121, il124, il200, il240, il255, il288, il360, il420, il999, il1000, il114292, il152755, il402789, il435589, il463922, il533611, il631470, ↓kmC p.1, ↓bq e1, bi_t, iz_eq, h3, ↓reduceIte, ↓kmI p1.1, d1, ↓kmC p1.1, ↓bq e2, ↓kmC p2.1, ↓bq e3, ↓kmI p3.1, d3, ↓kmC p3.1, ↓bq e4, ↓kmC p4.1, ↓bq e5, ↓kr90 p5.1, ↓kmI p5.1, d5, iz_mul, iz_add, ↓ks90 p5.1]
          · rw [if_neg f5]
            rw [decide_eq_false f5] at e5
            refine ⟨fun z => ff_tt z, fun _ => ⟨h5, ?_, p5.self, p5.pr.fc⟩⟩
            simp (disch := omega) only [il0, il1, il2, il3, il4, il5, il6, il7, il8, il9, il10, il11, il12, il13, il14, il15, il16, il17, il18, il19, il20, il21, il22, il23, il24, il25, il26, il27, il28, il29, il30, il31, il32, il33, il36, il38, il39, il40, il41, il48, il50, il51, il57, il59, il60, il61, il62, il63, il70, il96, il99, il100, il101, il102, il103, il104, il105, il106, il107, il108, il109, il110, il111, il112, il115, il116, il120, il121, il124, il200, il240, il255, il288, il360, il420, il999, il1000, il114292, il152755, il402789, il435589, il463922, il533611, il631470, ↓kmC p.1, ↓bq e1, bi_t, bi_f, iz_eq, h3, ↓reduceIte, ↓kmI p1.1, d1, ↓kmC p1.1, ↓bq e2, ↓kmC p2.1, ↓bq e3, ↓kmI p3.1, d3, ↓kmC p3.1, ↓bq e4, ↓kmC p4.1, ↓bq e5]
        · rw [if_neg f4]
          rw [Bool.not_eq_true] at f4
          rw [if_neg (by rw [f4]; decide), f4] at e4
          refine ⟨fun z => ff_tt z, fun _ => ⟨h3', ?_, p3.self, p3.pr.fc⟩⟩
          simp (disch := omega) only [il0, il1, il2, il3, il4, il5, il6, il7, il8, il9, il10, il11, il12, il13, il14, il15, il16, il17, il18, il19, il20, il21, il22, il23, il24, il25, il26, il27, il28, il29, il30, il31, il32, il33, il36, il38, il39, il40, il41, il48, il50, il51, il57, il59, il60, il61, il62, il63, il70, il96, il99, il100, il101, il102, il103, il104, il105, il106, il107, il108, il109, il110, il111, il112, il115, il116, il120, il121, il124, il200, il240, il255, il288, il360, il420, il999, il1000, il114292, il152755, il402789, il435589, il463922, il533611, il631470, ↓kmC p.1, ↓bq e1, bi_t, bi_f, iz_eq, h3, ↓reduceIte, ↓kmI p1.1, d1, ↓kmC p1.1, ↓bq e2, ↓kmC p2.1, ↓bq e3, ↓kmI p3.1, d3, ↓kmC p3.1, ↓bq e4]
      · rw [if_neg f3]
        rw [Bool.not_eq_true] at f3
        rw [if_neg (by rw [f3]; decide), f3] at e3
        refine ⟨fun z => ff_tt z, fun _ => ⟨h2, ?_, p2.self, p2.pr.fc⟩⟩
        simp (disch := omega) only [il0, il1, il2, il3, il4, il5, il6, il7, il8, il9, il10, il11, il12, il13, il14, il15, il16, il17, il18, il19, il20, il21, il22, il23, il24, il25, il26, il27, il28, il29, il30, il31, il32, il33, il36, il38, il39, il40, il41, il48, il50, il51, il57, il59, il60, il61, il62, il63, il70, il96, il99, il100, il101, il102, il103, il104, il105, il106, il107, il108, il109, il110, il111, il112, il115, il116, il120, il121, il124, il200, il240, il255, il288, il360, il420, il999, il1000, il114292, il152755, il402789, il435589, il463922, il533611, il631470, ↓kmC p.1, ↓bq e1, bi_t, bi_f, iz_eq, h3, ↓reduceIte, ↓kmI p1.1, d1, ↓kmC p1.1, ↓bq e2, ↓kmC p2.1, ↓bq e3]
    · rw [if_neg f2]
      rw [Bool.not_eq_true] at f2
      rw [if_neg (by rw [f2]; decide), f2] at e2
      refine ⟨fun z => ff_tt z, fun _ => ⟨h1, ?_, p1.self, p1.pr.fc⟩⟩
      simp (disch := omega) only [il0, il1, il2, il3, il4, il5, il6, il7, il8, il9, il10, il11, il12, il13, il14, il15, il16, il17, il18, il19, il20, il21, il22, il23, il24, il25, il26, il27, il28, il29, il30, il31, il32, il33, il36, il38, il39, il40, il41, il48, il50, il51, il57, il59, il60, il61, il62, il63, il70, il96, il99, il100, il101, il102, il103, il104, il105, il106, il107, il108, il109, il110, il111, il112, il115, il116, il120, il121, il124, il200, il240, il255, il288, il360, il420, il999, il1000, il114292, il152755, il402789, il435589, il463922, il533611, il631470, ↓kmC p.1, ↓bq e1, bi_t, bi_f, iz_eq, h3, ↓reduceIte, ↓kmI p1.1, d1, ↓kmC p1.1, ↓bq e2]
  · rw [if_neg f1]
    rw [Bool.not_eq_true] at f1
    rw [if_neg (by rw [f1]; decide), f1] at e1
    refine ⟨fun z => ff_tt z, fun _ => ⟨h, ?_, p, FC.rf⟩⟩
    simp (disch := omega) only [il0, il1, il2, il3, il4, il5, il6, il7, il8, il9, il10, il11, il12, il13, il14, il15, il16, il17, il18, il19, il20, il21, il22, il23, il24, il25, il26, il27, il28, il29, il30, il31, il32, il33, il36, il38, il39, il40, il41, il48, il50, il51, il57, il59, il60, il61, il62, il63, il70, il96, il99, il100, il101, il102, il103, il104, il105, il106, il107, il108, il109, il110, il111, il112, il115, il116, il120, il121, il124, il200, il240, il255, il288, il360, il420, il999, il1000, il114292, il152755, il402789, il435589, il463922, il533611, il631470, ↓kmC p.1, ↓bq e1, bi_f, ↓reduceIte]
theorem m_two1 (hN : 200 ≤ N) (p : PS h x L b h P) (k : TO s i t n h D T sm) : Cok s i t n h x L b (f_X10_takesTwo N 71 (iz 1) h) sm ((pairS x L 10 4 D P).1, (pairS x L 10 4 D P).2.1, (pairS x L 10 4 D P).2.2, T) := by
  have hP := p.2.2.1
  have hx := p.2.2.2.2.1
  have h3 : ¬ ((1 : Int) = 0) := by decide
  have e1 := m_figure (N := N) p (m := 3) (by omega)
  unfold f_X10_takesTwo f_X10_takesTwo_34 pairS
  rw [show (4 : Int) - 1 = 3 by decide]
  by_cases f1 : figS x L P 3 = true
  · have l1 := figS_lt f1
    rw [if_pos f1, f1] at e1
    rw [if_pos f1]
    have p1 := p.at2_ (d := x P - 48) (P' := P + 1) (by omega)
    have d1 := at2_20 (h := h) (d := x P - 48) (P := P + 1)
    have e2 := m_takes (N := N) p1 (c := 32) (by omega)
    generalize at2 h (x P - 48) (P + 1) = h1 at *
    by_cases f2 : isAt x L (P + 1) 32 = true
    · have l2 := isAt_lt f2
      rw [if_pos f2, f2] at e2
      rw [if_pos f2]
      have p2 := p1.at_ (P' := P + 1 + 1) (by omega)
      have e3 := m_figure (N := N) p2 (m := 3) (by omega)
      generalize fd h1 19 (iz ((P + 1 + 1 : Nat) : Int)) = h2 at *
      rw [show P + 2 = P + 1 + 1 by omega]
      by_cases f3 : figS x L (P + 1 + 1) 3 = true
      · have l3 := figS_lt f3
        rw [if_pos f3, f3] at e3
        rw [if_pos f3]
        have p3 := p2.at2_ (d := x (P + 1 + 1) - 48) (P' := P + 1 + 1 + 1) (by omega)
        have d3 := at2_20 (h := h2) (d := x (P + 1 + 1) - 48) (P := P + 1 + 1 + 1)
        have e4 := m_takes (N := N) p3 (c := 32) (by omega)
        generalize at2 h2 (x (P + 1 + 1) - 48) (P + 1 + 1 + 1) = h3' at *
        rw [show P + 3 = P + 1 + 1 + 1 by omega]
        by_cases f4 : isAt x L (P + 1 + 1 + 1) 32 = true
        · have l4 := isAt_lt f4
          rw [if_pos f4, f4] at e4
          rw [if_pos f4]
          have p4 := p3.at_ (P' := P + 1 + 1 + 1 + 1) (by omega)
          obtain ⟨d, e5, hd⟩ := m_number (N := N) hN p4
          generalize fd h3' 19 (iz ((P + 1 + 1 + 1 + 1 : Nat) : Int)) = h4 at *
          rw [show P + 4 = P + 1 + 1 + 1 + 1 by omega]
          have nb := numR_bd (L := L) hx (P := P + 1 + 1 + 1 + 1) (by omega)
          have p5 := p4.at2_ (d := d) (P' := (numR x L (P + 1 + 1 + 1 + 1)).2) (by omega)
          have d5 := at2_20 (h := h4) (d := d) (P := (numR x L (P + 1 + 1 + 1 + 1)).2)
          generalize at2 h4 d (numR x L (P + 1 + 1 + 1 + 1)).2 = h5 at *
          by_cases f5 : 0 ≤ (numR x L (P + 1 + 1 + 1 + 1)).1
          · rw [if_pos f5]
            rw [decide_eq_true f5] at e5
            have hd' := hd f5
            subst hd'
            have k5 := (k.pr p5.pr).row (k0 := 10) (j := (4 * (x P - 48) + (x (P + 1 + 1) - 48)).toNat) (v := (numR x L (P + 1 + 1 + 1 + 1)).1) (by omega)
            have ej : (((4 * (x P - 48) + (x (P + 1 + 1) - 48)).toNat : Nat) : Int) = (x P - 48) * 4 + (x (P + 1 + 1) - 48) := by omega
            rw [ej] at k5
            refine ⟨fun _ => ⟨_, sm, ?_, p5.self.row (a := 91) (by omega), k5, p5.pr.fc.tr (FC.wr_ (by decide)), Int.le_refl _, by omega⟩, fun z => tt_ff z⟩
            simp (disch := omega) only [il0, il1, il2, il3, il4, il5, il6, il7, il8, il9, il10, il11, il12, il13, il14, il15, il16, il17, il18, il19, il20, il21, il22, il23, il24, il25, il26, il27, il28, il29, il30, il31, il32, il33, il36, il38, il39, il40, il41, il48, il50, il51, il57, il59, il60, il61, il62, il63, il70, il96, il99, il100, il101, il102, il103, il104, il105, il106, il107, il108, il109, il110, il111, il112, il115, il116, il120, il121, il124, il200, il240, il255, il288, il360, il420, il999, il1000, il114292, il152755, il402789, il435589, il463922, il533611, il631470, ↓kmC p.1, ↓bq e1, bi_t, iz_eq, h3, ↓reduceIte, ↓kmI p1.1, d1, ↓kmC p1.1, ↓bq e2, ↓kmC p2.1, ↓bq e3, ↓kmI p3.1, d3, ↓kmC p3.1, ↓bq e4, ↓kmC p4.1, ↓bq e5, ↓kr91 p5.1, ↓kmI p5.1, d5, iz_mul, iz_add, ↓ks91 p5.1]
          · rw [if_neg f5]
            rw [decide_eq_false f5] at e5
            refine ⟨fun z => ff_tt z, fun _ => ⟨h5, ?_, p5.self, p5.pr.fc⟩⟩
            simp (disch := omega) only [il0, il1, il2, il3, il4, il5, il6, il7, il8, il9, il10, il11, il12, il13, il14, il15, il16, il17, il18, il19, il20, il21, il22, il23, il24, il25, il26, il27, il28, il29, il30, il31, il32, il33, il36, il38, il39, il40, il41, il48, il50, il51, il57, il59, il60, il61, il62, il63, il70, il96, il99, il100, il101, il102, il103, il104, il105, il106, il107, il108, il109, il110, il111, il112, il115, il116, il120, il121, il124, il200, il240, il255, il288, il360, il420, il999, il1000, il114292, il152755, il402789, il435589, il463922, il533611, il631470, ↓kmC p.1, ↓bq e1, bi_t, bi_f, iz_eq, h3, ↓reduceIte, ↓kmI p1.1, d1, ↓kmC p1.1, ↓bq e2, ↓kmC p2.1, ↓bq e3, ↓kmI p3.1, d3, ↓kmC p3.1, ↓bq e4, ↓kmC p4.1, ↓bq e5]
        · rw [if_neg f4]
          rw [Bool.not_eq_true] at f4
          rw [if_neg (by rw [f4]; decide), f4] at e4
          refine ⟨fun z => ff_tt z, fun _ => ⟨h3', ?_, p3.self, p3.pr.fc⟩⟩
          simp (disch := omega) only [il0, il1, il2, il3, il4, il5, il6, il7, il8, il9, il10, il11, il12, il13, il14, il15, il16, il17, il18, il19, il20, il21, il22, il23, il24, il25, il26, il27, il28, il29, il30, il31, il32, il33, il36, il38, il39, il40, il41, il48, il50, il51, il57, il59, il60, il61, il62, il63, il70, il96, il99, il100, il101, il102, il103, il104, il105, il106, il107, il108, il109, il110, il111, il112, il115, il116, il120, il121, il124, il200, il240, il255, il288, il360, il420, il999, il1000, il114292, il152755, il402789, il435589, il463922, il533611, il631470, ↓kmC p.1, ↓bq e1, bi_t, bi_f, iz_eq, h3, ↓reduceIte, ↓kmI p1.1, d1, ↓kmC p1.1, ↓bq e2, ↓kmC p2.1, ↓bq e3, ↓kmI p3.1, d3, ↓kmC p3.1, ↓bq e4]
      · rw [if_neg f3]
        rw [Bool.not_eq_true] at f3
        rw [if_neg (by rw [f3]; decide), f3] at e3
        refine ⟨fun z => ff_tt z, fun _ => ⟨h2, ?_, p2.self, p2.pr.fc⟩⟩
        simp (disch := omega) only [il0, il1, il2, il3, il4, il5, il6, il7, il8, il9, il10, il11, il12, il13, il14, il15, il16, il17, il18, il19, il20, il21, il22, il23, il24, il25, il26, il27, il28, il29, il30, il31, il32, il33, il36, il38, il39, il40, il41, il48, il50, il51, il57, il59, il60, il61, il62, il63, il70, il96, il99, il100, il101, il102, il103, il104, il105, il106, il107, il108, il109, il110, il111, il112, il115, il116, il120, il121, il124, il200, il240, il255, il288, il360, il420, il999, il1000, il114292, il152755, il402789, il435589, il463922, il533611, il631470, ↓kmC p.1, ↓bq e1, bi_t, bi_f, iz_eq, h3, ↓reduceIte, ↓kmI p1.1, d1, ↓kmC p1.1, ↓bq e2, ↓kmC p2.1, ↓bq e3]
    · rw [if_neg f2]
      rw [Bool.not_eq_true] at f2
      rw [if_neg (by rw [f2]; decide), f2] at e2
      refine ⟨fun z => ff_tt z, fun _ => ⟨h1, ?_, p1.self, p1.pr.fc⟩⟩
      simp (disch := omega) only [il0, il1, il2, il3, il4, il5, il6, il7, il8, il9, il10, il11, il12, il13, il14, il15, il16, il17, il18, il19, il20, il21, il22, il23, il24, il25, il26, il27, il28, il29, il30, il31, il32, il33, il36, il38, il39, il40, il41, il48, il50, il51, il57, il59, il60, il61, il62, il63, il70, il96, il99, il100, il101, il102, il103, il104, il105, il106, il107, il108, il109, il110, il111, il112, il115, il116, il120, il121, il124, il200, il240, il255, il288, il360, il420, il999, il1000, il114292, il152755, il402789, il435589, il463922, il533611, il631470, ↓kmC p.1, ↓bq e1, bi_t, bi_f, iz_eq, h3, ↓reduceIte, ↓kmI p1.1, d1, ↓kmC p1.1, ↓bq e2]
  · rw [if_neg f1]
    rw [Bool.not_eq_true] at f1
    rw [if_neg (by rw [f1]; decide), f1] at e1
    refine ⟨fun z => ff_tt z, fun _ => ⟨h, ?_, p, FC.rf⟩⟩
    simp (disch := omega) only [il0, il1, il2, il3, il4, il5, il6, il7, il8, il9, il10, il11, il12, il13, il14, il15, il16, il17, il18, il19, il20, il21, il22, il23, il24, il25, il26, il27, il28, il29, il30, il31, il32, il33, il36, il38, il39, il40, il41, il48, il50, il51, il57, il59, il60, il61, il62, il63, il70, il96, il99, il100, il101, il102, il103, il104, il105, il106, il107, il108, il109, il110, il111, il112, il115, il116, il120, il121, il124, il200, il240, il255, il288, il360, il420, il999, il1000, il114292, il152755, il402789, il435589, il463922, il533611, il631470, ↓kmC p.1, ↓bq e1, bi_f, ↓reduceIte]
theorem m_sing (hN : 200 ≤ N) (p : PS h x L b h P) (k : TO s i t n h D T sm) : Cok s i t n h x L b (b2 (f_X10_takesFigure N 71 (2 : Int32) h) fun t9 h8 => if t9 = 0 then some ((0 : Int32), h8) else (gI h8 71 10 20).bind fun t11 => (ck h8 71 10).bind fun _ => b2 (f_X10_takes N 71 (32 : Int32) h8) fun t16 h15 => if t16 = 0 then some ((0 : Int32), h15) else (ck h15 71 10).bind fun _ => b2 (f_X10_takesNumber N 71 h15) fun t21 h20 => if t21 = 0 then some ((0 : Int32), h20) else (gR h20 71 10 37).bind fun t23 => (gI h20 71 10 20).bind fun t25 => (stI 100 h20 t23 t11 t25).bind fun h27 => some ((1 : Int32), h27)) sm ((singS x L D P).1, (singS x L D P).2.1, (singS x L D P).2.2, T) := by
  have hP := p.2.2.1
  have hx := p.2.2.2.2.1
  have h3 : ¬ ((1 : Int) = 0) := by decide
  have e1 := m_figure (N := N) p (m := 2) (by omega)
  unfold singS
  by_cases f1 : figS x L P 2 = true
  · have l1 := figS_lt f1
    rw [if_pos f1, f1] at e1
    rw [if_pos f1]
    have p1 := p.at2_ (d := x P - 48) (P' := P + 1) (by omega)
    have d1 := at2_20 (h := h) (d := x P - 48) (P := P + 1)
    have e2 := m_takes (N := N) p1 (c := 32) (by omega)
    generalize at2 h (x P - 48) (P + 1) = h1 at *
    by_cases f2 : isAt x L (P + 1) 32 = true
    · have l2 := isAt_lt f2
      rw [if_pos f2, f2] at e2
      rw [if_pos f2]
      have p4 := p1.at_ (P' := P + 1 + 1) (by omega)
      obtain ⟨d, e5, hd⟩ := m_number (N := N) hN p4
      generalize fd h1 19 (iz ((P + 1 + 1 : Nat) : Int)) = h4 at *
      rw [show P + 2 = P + 1 + 1 by omega]
      have nb := numR_bd (L := L) hx (P := P + 1 + 1) (by omega)
      have p5 := p4.at2_ (d := d) (P' := (numR x L (P + 1 + 1)).2) (by omega)
      have d5 := at2_20 (h := h4) (d := d) (P := (numR x L (P + 1 + 1)).2)
      generalize at2 h4 d (numR x L (P + 1 + 1)).2 = h5 at *
      by_cases f5 : 0 ≤ (numR x L (P + 1 + 1)).1
      · rw [if_pos f5]
        rw [decide_eq_true f5] at e5
        have hd' := hd f5
        subst hd'
        have k5 := (k.pr p5.pr).row (k0 := 11) (j := (x P - 48).toNat) (v := (numR x L (P + 1 + 1)).1) (by omega)
        have ej : (((x P - 48).toNat : Nat) : Int) = x P - 48 := by omega
        rw [ej] at k5
        refine ⟨fun _ => ⟨_, sm, ?_, p5.self.row (a := 92) (by omega), k5, p5.pr.fc.tr (FC.wr_ (by decide)), Int.le_refl _, by omega⟩, fun z => tt_ff z⟩
        simp (disch := omega) only [il0, il1, il2, il3, il4, il5, il6, il7, il8, il9, il10, il11, il12, il13, il14, il15, il16, il17, il18, il19, il20, il21, il22, il23, il24, il25, il26, il27, il28, il29, il30, il31, il32, il33, il36, il38, il39, il40, il41, il48, il50, il51, il57, il59, il60, il61, il62, il63, il70, il96, il99, il100, il101, il102, il103, il104, il105, il106, il107, il108, il109, il110, il111, il112, il115, il116, il120, il121, il124, il200, il240, il255, il288, il360, il420, il999, il1000, il114292, il152755, il402789, il435589, il463922, il533611, il631470, ↓bq e1, bi_t, iz_eq, h3, ↓reduceIte, ↓kmI p1.1, d1, ↓kmC p1.1, ↓bq e2, ↓kmC p4.1, ↓bq e5, ↓kr92 p5.1, ↓kmI p5.1, d5, ↓ks92 p5.1]
      · rw [if_neg f5]
        rw [decide_eq_false f5] at e5
        refine ⟨fun z => ff_tt z, fun _ => ⟨h5, ?_, p5.self, p5.pr.fc⟩⟩
        simp (disch := omega) only [il0, il1, il2, il3, il4, il5, il6, il7, il8, il9, il10, il11, il12, il13, il14, il15, il16, il17, il18, il19, il20, il21, il22, il23, il24, il25, il26, il27, il28, il29, il30, il31, il32, il33, il36, il38, il39, il40, il41, il48, il50, il51, il57, il59, il60, il61, il62, il63, il70, il96, il99, il100, il101, il102, il103, il104, il105, il106, il107, il108, il109, il110, il111, il112, il115, il116, il120, il121, il124, il200, il240, il255, il288, il360, il420, il999, il1000, il114292, il152755, il402789, il435589, il463922, il533611, il631470, ↓bq e1, bi_t, bi_f, iz_eq, h3, ↓reduceIte, ↓kmI p1.1, d1, ↓kmC p1.1, ↓bq e2, ↓kmC p4.1, ↓bq e5]
    · rw [if_neg f2]
      rw [Bool.not_eq_true] at f2
      rw [if_neg (by rw [f2]; decide), f2] at e2
      refine ⟨fun z => ff_tt z, fun _ => ⟨h1, ?_, p1.self, p1.pr.fc⟩⟩
      simp (disch := omega) only [il0, il1, il2, il3, il4, il5, il6, il7, il8, il9, il10, il11, il12, il13, il14, il15, il16, il17, il18, il19, il20, il21, il22, il23, il24, il25, il26, il27, il28, il29, il30, il31, il32, il33, il36, il38, il39, il40, il41, il48, il50, il51, il57, il59, il60, il61, il62, il63, il70, il96, il99, il100, il101, il102, il103, il104, il105, il106, il107, il108, il109, il110, il111, il112, il115, il116, il120, il121, il124, il200, il240, il255, il288, il360, il420, il999, il1000, il114292, il152755, il402789, il435589, il463922, il533611, il631470, ↓bq e1, bi_t, bi_f, iz_eq, h3, ↓reduceIte, ↓kmI p1.1, d1, ↓kmC p1.1, ↓bq e2]
  · rw [if_neg f1]
    rw [Bool.not_eq_true] at f1
    rw [if_neg (by rw [f1]; decide), f1] at e1
    refine ⟨fun z => ff_tt z, fun _ => ⟨h, ?_, p, FC.rf⟩⟩
    simp (disch := omega) only [il0, il1, il2, il3, il4, il5, il6, il7, il8, il9, il10, il11, il12, il13, il14, il15, il16, il17, il18, il19, il20, il21, il22, il23, il24, il25, il26, il27, il28, il29, il30, il31, il32, il33, il36, il38, il39, il40, il41, il48, il50, il51, il57, il59, il60, il61, il62, il63, il70, il96, il99, il100, il101, il102, il103, il104, il105, il106, il107, il108, il109, il110, il111, il112, il115, il116, il120, il121, il124, il200, il240, il255, il288, il360, il420, il999, il1000, il114292, il152755, il402789, il435589, il463922, il533611, il631470, ↓bq e1, bi_f, ↓reduceIte]
end
