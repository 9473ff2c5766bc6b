section
variable {h : Mem} {x : Nat → Int} {L p P N : Nat} {D : Dv} {T : List Int}
theorem l_pair (q : Lq p) (hN : 200 ≤ N) (c : CL h x L p P D T) {k : Nat} {m : Int} {len : Nat} (hk : k = 9 ∧ m = 3 ∧ len = 12 ∨ k = 10 ∧ m = 4 ∧ len = 16) (ha : h.1[p + (k - 8)]? = some (100, len)) : ∃ h', f_X5_pair N 44 (p + (k - 8)) (iz m) h = some (iz (bi (pairS x L k m D P).1), h') ∧ CL h' x L p (pairS x L k m D P).2.1 (pairS x L k m D P).2.2 T ∧ FL p h h' := by
  have r := c.1
  have hx := r.2.2.2.2.2.2.2.2
  have hL := r.2.2.2.2.2.2.1
  have e1 := l_figure (N := N) r (m := 3) (by omega)
  have h3 : ¬ ((1 : Int) = 0) := by decide
  have hm1 : (-1 : Int) < 0 := by decide
  unfold f_X5_pair pairS
  by_cases a1 : figS x L P 3 = true
  · have l1 := figS_lt a1
    have c1 := c.pm q (P' := P + 1) (by omega)
    have e2 := l_met (N := N) c1.1 (c := 32) (by omega)
    have x1 : ¬ (x P - 48 < 0) := by omega
    rw [if_pos a1] at e1 ⊢
    rw [if_pos a1] at e1
    by_cases a2 : isAt x L (P + 1) 32 = true
    · have l2 := isAt_lt a2
      have c2 := c1.pm q (P' := P + 2) (by omega)
      have e3 := l_figure (N := N) c2.1 (m := m - 1) (by omega)
      rw [if_pos a2] at e2 ⊢
      rw [a2] at e2
      rw [pm_pm] at e2 c2
      rw [pm_pm] at e3
      by_cases a3 : figS x L (P + 2) (m - 1) = true
      · have l3 := figS_lt a3
        have c3 := c2.pm q (P' := P + 3) (by omega)
        have e4 := l_met (N := N) c3.1 (c := 32) (by omega)
        have x2 : ¬ (x (P + 2) - 48 < 0) := by omega
        rw [if_pos a3] at e3 ⊢
        rw [if_pos a3, pm_pm] at e3
        rw [pm_pm] at e4 c3
        by_cases a4 : isAt x L (P + 3) 32 = true
        · have l4 := isAt_lt a4
          have c4 := c3.pm q (P' := P + 4) (by omega)
          rw [if_pos a4] at e4 ⊢
          rw [a4, pm_pm] at e4
          rw [pm_pm] at c4
          have e5 := l_number c4.1 hN
          have b5 := numR_bd (L := L) hx (P := P + 4) (by omega)
          have c5 := c4.pm q (P' := (numR x L (P + 4)).2) (by omega)
          rw [pm_pm] at e5 c5
          by_cases a5 : 0 ≤ (numR x L (P + 4)).1
          · rw [if_pos a5]
            have idx : (x P - 48) * m + (x (P + 2) - 48) < len ∧ 0 ≤ (x P - 48) * m + (x (P + 2) - 48) := by
              rcases hk with ⟨_, rfl, rfl⟩ | ⟨_, rfl, rfl⟩ <;> omega
            have hst := st_wr (h := pm h (numR x L (P + 4)).2) (v := iz (numR x L (P + 4)).1) ha idx.2 idx.1 (by omega)
            have c6 := c5.row q (k := k) (by omega) (j := ((x P - 48) * m + (x (P + 2) - 48)).toNat) (v := (numR x L (P + 4)).1)
            rw [show ((((x P - 48) * m + (x (P + 2) - 48)).toNat : Nat) : Int) = (x P - 48) * m + (x (P + 2) - 48) by omega] at c6
            refine ⟨_, ?_, c6, (FL.pm q).tr (FL.row q (by omega))⟩
            simp (disch := omega) only [↓k44 r, il0, il1, il2, il3, il4, il5, il6, il7, il8, il9, il10, il11, il12, il13, il14, il15, il16, il17, il18, il19, il20, il21, il22, il23, il24, il25, il26, il27, il28, il29, il30, il31, il32, il33, il36, il38, il39, il40, il41, il48, il50, il51, il57, il59, il60, il61, il62, il63, il70, il96, il99, il100, il101, il102, il103, il104, il105, il106, il107, il108, il109, il110, il111, il112, il115, il116, il120, il121, il124, il200, il240, il255, il288, il360, il420, il999, il1000, il114292, il152755, il402789, il435589, il463922, il533611, il631470, ↓bq e1, iz_lt, x1, ↓reduceIte, ↓k44 c1.1, ↓bq e2, bi_t, iz_eq, h3, iz_sub, ↓k44 c2.1, ↓bq e3, x2, ↓k44 c3.1, ↓bq e4, ↓k44 c4.1, ↓bq e5, iz_le, a5, iz_mul, iz_add, ↓bo hst]
          · rw [if_neg a5]
            refine ⟨_, ?_, c5, FL.pm q⟩
            simp (disch := omega) only [↓k44 r, il0, il1, il2, il3, il4, il5, il6, il7, il8, il9, il10, il11, il12, il13, il14, il15, il16, il17, il18, il19, il20, il21, il22, il23, il24, il25, il26, il27, il28, il29, il30, il31, il32, il33, il36, il38, il39, il40, il41, il48, il50, il51, il57, il59, il60, il61, il62, il63, il70, il96, il99, il100, il101, il102, il103, il104, il105, il106, il107, il108, il109, il110, il111, il112, il115, il116, il120, il121, il124, il200, il240, il255, il288, il360, il420, il999, il1000, il114292, il152755, il402789, il435589, il463922, il533611, il631470, ↓bq e1, iz_lt, x1, ↓reduceIte, ↓k44 c1.1, ↓bq e2, bi_t, bi_f, iz_eq, h3, iz_sub, ↓k44 c2.1, ↓bq e3, x2, ↓k44 c3.1, ↓bq e4, ↓k44 c4.1, ↓bq e5, iz_le, a5]
        · rw [if_neg a4] at e4 ⊢
          rw [Bool.not_eq_true] at a4
          rw [a4] at e4
          refine ⟨_, ?_, c3, FL.pm q⟩
          simp (disch := omega) only [↓k44 r, il0, il1, il2, il3, il4, il5, il6, il7, il8, il9, il10, il11, il12, il13, il14, il15, il16, il17, il18, il19, il20, il21, il22, il23, il24, il25, il26, il27, il28, il29, il30, il31, il32, il33, il36, il38, il39, il40, il41, il48, il50, il51, il57, il59, il60, il61, il62, il63, il70, il96, il99, il100, il101, il102, il103, il104, il105, il106, il107, il108, il109, il110, il111, il112, il115, il116, il120, il121, il124, il200, il240, il255, il288, il360, il420, il999, il1000, il114292, il152755, il402789, il435589, il463922, il533611, il631470, ↓bq e1, iz_lt, x1, ↓reduceIte, ↓k44 c1.1, ↓bq e2, bi_t, bi_f, iz_eq, h3, iz_sub, ↓k44 c2.1, ↓bq e3, x2, ↓k44 c3.1, ↓bq e4]
      · rw [if_neg a3] at e3 ⊢
        rw [if_neg a3] at e3
        refine ⟨_, ?_, c2, FL.pm q⟩
        simp (disch := omega) only [↓k44 r, il0, il1, il2, il3, il4, il5, il6, il7, il8, il9, il10, il11, il12, il13, il14, il15, il16, il17, il18, il19, il20, il21, il22, il23, il24, il25, il26, il27, il28, il29, il30, il31, il32, il33, il36, il38, il39, il40, il41, il48, il50, il51, il57, il59, il60, il61, il62, il63, il70, il96, il99, il100, il101, il102, il103, il104, il105, il106, il107, il108, il109, il110, il111, il112, il115, il116, il120, il121, il124, il200, il240, il255, il288, il360, il420, il999, il1000, il114292, il152755, il402789, il435589, il463922, il533611, il631470, ↓bq e1, iz_lt, x1, ↓reduceIte, ↓k44 c1.1, ↓bq e2, bi_t, bi_f, iz_eq, h3, iz_sub, ↓k44 c2.1, ↓bq e3, hm1]
    · rw [if_neg a2] at e2 ⊢
      rw [Bool.not_eq_true] at a2
      rw [a2] at e2
      refine ⟨_, ?_, c1, FL.pm q⟩
      simp (disch := omega) only [↓k44 r, il0, il1, il2, il3, il4, il5, il6, il7, il8, il9, il10, il11, il12, il13, il14, il15, il16, il17, il18, il19, il20, il21, il22, il23, il24, il25, il26, il27, il28, il29, il30, il31, il32, il33, il36, il38, il39, il40, il41, il48, il50, il51, il57, il59, il60, il61, il62, il63, il70, il96, il99, il100, il101, il102, il103, il104, il105, il106, il107, il108, il109, il110, il111, il112, il115, il116, il120, il121, il124, il200, il240, il255, il288, il360, il420, il999, il1000, il114292, il152755, il402789, il435589, il463922, il533611, il631470, ↓bq e1, iz_lt, x1, ↓reduceIte, ↓k44 c1.1, ↓bq e2, bi_f]
  · rw [if_neg a1] at e1 ⊢
    rw [if_neg a1] at e1
    refine ⟨_, ?_, c, FL.rf⟩
    simp (disch := omega) only [↓k44 r, il0, il1, il2, il3, il4, il5, il6, il7, il8, il9, il10, il11, il12, il13, il14, il15, il16, il17, il18, il19, il20, il21, il22, il23, il24, il25, il26, il27, il28, il29, il30, il31, il32, il33, il36, il38, il39, il40, il41, il48, il50, il51, il57, il59, il60, il61, il62, il63, il70, il96, il99, il100, il101, il102, il103, il104, il105, il106, il107, il108, il109, il110, il111, il112, il115, il116, il120, il121, il124, il200, il240, il255, il288, il360, il420, il999, il1000, il114292, il152755, il402789, il435589, il463922, il533611, il631470, ↓bq e1, iz_lt, ↓reduceIte, bi_f, hm1]
theorem l_single (q : Lq p) (hN : 200 ≤ N) (c : CL h x L p P D T) : ∃ h', f_X5_single N 44 (p + 3) h = some (iz (bi (singS x L D P).1), h') ∧ CL h' x L p (singS x L D P).2.1 (singS x L D P).2.2 T ∧ FL p h h' := by
  have r := c.1
  have hx := r.2.2.2.2.2.2.2.2
  have hL := r.2.2.2.2.2.2.1
  have ha := c.2.2.2.2.1.2
  have e1 := l_figure (N := N) r (m := 2) (by omega)
  have h3 : ¬ ((1 : Int) = 0) := by decide
  have hm1 : (-1 : Int) < 0 := by decide
  unfold f_X5_single singS
  by_cases a1 : figS x L P 2 = true
  · have l1 := figS_lt a1
    have c1 := c.pm q (P' := P + 1) (by omega)
    have e2 := l_met (N := N) c1.1 (c := 32) (by omega)
    have x1 : ¬ (x P - 48 < 0) := by omega
    rw [if_pos a1] at e1 ⊢
    rw [if_pos a1] at e1
    by_cases a2 : isAt x L (P + 1) 32 = true
    · have l2 := isAt_lt a2
      have c4 := c1.pm q (P' := P + 2) (by omega)
      rw [if_pos a2] at e2 ⊢
      rw [a2, pm_pm] at e2
      rw [pm_pm] at c4
      have e5 := l_number c4.1 hN
      have b5 := numR_bd (L := L) hx (P := P + 2) (by omega)
      have c5 := c4.pm q (P' := (numR x L (P + 2)).2) (by omega)
      rw [pm_pm] at e5 c5
      by_cases a5 : 0 ≤ (numR x L (P + 2)).1
      · rw [if_pos a5]
        have hst := st_wr (h := pm h (numR x L (P + 2)).2) (v := iz (numR x L (P + 2)).1) ha (show 0 ≤ x P - 48 by omega) (show x P - 48 < ((3 : Nat) : Int) by omega) (by omega)
        have c6 := c5.row q (k := 11) (by omega) (j := (x P - 48).toNat) (v := (numR x L (P + 2)).1)
        rw [show (((x P - 48).toNat : Nat) : Int) = x P - 48 by omega] at c6
        refine ⟨_, ?_, c6, (FL.pm q).tr (FL.row q (by omega))⟩
        simp (disch := omega) only [↓k44 r, il0, il1, il2, il3, il4, il5, il6, il7, il8, il9, il10, il11, il12, il13, il14, il15, il16, il17, il18, il19, il20, il21, il22, il23, il24, il25, il26, il27, il28, il29, il30, il31, il32, il33, il36, il38, il39, il40, il41, il48, il50, il51, il57, il59, il60, il61, il62, il63, il70, il96, il99, il100, il101, il102, il103, il104, il105, il106, il107, il108, il109, il110, il111, il112, il115, il116, il120, il121, il124, il200, il240, il255, il288, il360, il420, il999, il1000, il114292, il152755, il402789, il435589, il463922, il533611, il631470, ↓bq e1, iz_lt, x1, ↓reduceIte, ↓k44 c1.1, ↓bq e2, bi_t, iz_eq, h3, ↓k44 c4.1, ↓bq e5, iz_le, a5, ↓bo hst]
      · rw [if_neg a5]
        refine ⟨_, ?_, c5, FL.pm q⟩
        simp (disch := omega) only [↓k44 r, il0, il1, il2, il3, il4, il5, il6, il7, il8, il9, il10, il11, il12, il13, il14, il15, il16, il17, il18, il19, il20, il21, il22, il23, il24, il25, il26, il27, il28, il29, il30, il31, il32, il33, il36, il38, il39, il40, il41, il48, il50, il51, il57, il59, il60, il61, il62, il63, il70, il96, il99, il100, il101, il102, il103, il104, il105, il106, il107, il108, il109, il110, il111, il112, il115, il116, il120, il121, il124, il200, il240, il255, il288, il360, il420, il999, il1000, il114292, il152755, il402789, il435589, il463922, il533611, il631470, ↓bq e1, iz_lt, x1, ↓reduceIte, ↓k44 c1.1, ↓bq e2, bi_t, bi_f, iz_eq, h3, ↓k44 c4.1, ↓bq e5, iz_le, a5]
    · rw [if_neg a2] at e2 ⊢
      rw [Bool.not_eq_true] at a2
      rw [a2] at e2
      refine ⟨_, ?_, c1, FL.pm q⟩
      simp (disch := omega) only [↓k44 r, il0, il1, il2, il3, il4, il5, il6, il7, il8, il9, il10, il11, il12, il13, il14, il15, il16, il17, il18, il19, il20, il21, il22, il23, il24, il25, il26, il27, il28, il29, il30, il31, il32, il33, il36, il38, il39, il40, il41, il48, il50, il51, il57, il59, il60, il61, il62, il63, il70, il96, il99, il100, il101, il102, il103, il104, il105, il106, il107, il108, il109, il110, il111, il112, il115, il116, il120, il121, il124, il200, il240, il255, il288, il360, il420, il999, il1000, il114292, il152755, il402789, il435589, il463922, il533611, il631470, ↓bq e1, iz_lt, x1, ↓reduceIte, ↓k44 c1.1, ↓bq e2, bi_f]
  · rw [if_neg a1] at e1 ⊢
    rw [if_neg a1] at e1
    refine ⟨_, ?_, c, FL.rf⟩
    simp (disch := omega) only [↓k44 r, il0, il1, il2, il3, il4, il5, il6, il7, il8, il9, il10, il11, il12, il13, il14, il15, il16, il17, il18, il19, il20, il21, il22, il23, il24, il25, il26, il27, il28, il29, il30, il31, il32, il33, il36, il38, il39, il40, il41, il48, il50, il51, il57, il59, il60, il61, il62, il63, il70, il96, il99, il100, il101, il102, il103, il104, il105, il106, il107, il108, il109, il110, il111, il112, il115, il116, il120, il121, il124, il200, il240, il255, il288, il360, il420, il999, il1000, il114292, il152755, il402789, il435589, il463922, il533611, il631470, ↓bq e1, iz_lt, ↓reduceIte, bi_f, hm1]
end
