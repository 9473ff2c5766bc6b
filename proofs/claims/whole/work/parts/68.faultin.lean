section
variable {h : Mem} {x : Nat → Int} {L p P N : Nat} {D : Dv} {T : List Int}
theorem pair_bd (hx : ∀ j : Nat, 0 ≤ x j ∧ x j ≤ 255) {k : Nat} {m : Int} : P ≤ (pairS x L k m D P).2.1 := by
  unfold pairS
  split
  · split
    · rename_i _ a
      split
      · split
        · rename_i _ a4
          have la := isAt_lt a4
          have := numR_bd (L := L) hx (P := P + 4) (by omega)
          split <;> (dsimp only; omega)
        · dsimp only; omega
      · dsimp only; omega
    · dsimp only; omega
  · dsimp only; omega
theorem sing_bd (hx : ∀ j : Nat, 0 ≤ x j ∧ x j ≤ 255) : P ≤ (singS x L D P).2.1 := by
  unfold singS
  split
  · split
    · rename_i _ a4
      have la := isAt_lt a4
      have := numR_bd (L := L) hx (P := P + 2) (by omega)
      split <;> (dsimp only; omega)
    · dsimp only; omega
  · dsimp only; omega
theorem shun_bd (hx : ∀ j : Nat, 0 ≤ x j ∧ x j ≤ 255) (hP : P ≤ L) (hT : T.length ≤ P) : (shunS x L P T).2.2.length ≤ (shunS x L P T).2.1 := by
  have ok := pE_ok (L := L) hx hP
  unfold Ok at ok
  unfold shunS
  split
  · split
    · rename_i _ a
      have la := isAt_lt a
      have := numR_bd (L := L) hx (P := (pE x L P).2.1 + 1) (by omega)
      split
      · dsimp only
        rw [List.length_append, List.length_append]
        show T.length + (pE x L P).2.2.length + 1 ≤ _
        omega
      · dsimp only
        rw [List.length_append]
        omega
    · dsimp only
      rw [List.length_append]
      omega
  · dsimp only
    rw [List.length_append]
    omega
theorem tel_bd (hx : ∀ j : Nat, 0 ≤ x j ∧ x j ≤ 255) (hP : P ≤ L) (hT : T.length ≤ P) (w : Nat) : (telS x L P w D T).2.2.2.length ≤ (telS x L P w D T).2.1 := by
  have p1 := pair_bd (L := L) (P := P) (D := D) hx (k := 9) (m := 3)
  have p2 := pair_bd (L := L) (P := P) (D := D) hx (k := 10) (m := 4)
  have p3 := sing_bd (L := L) (P := P) (D := D) hx
  have p4 := numR_bd (L := L) hx hP
  have p5 := shun_bd (L := L) hx hP hT
  unfold telS
  split
  · dsimp only; omega
  · split
    · dsimp only; omega
    · split
      · dsimp only; omega
      · split
        · dsimp only; omega
        · split
          · dsimp only; split <;> omega
          · split
            · dsimp only; split <;> omega
            · exact p5
theorem cl_bd (hx : ∀ j : Nat, 0 ≤ x j ∧ x j ≤ 255) (hP : P ≤ L) (hT : T.length ≤ P) : (clS x L P D T).2.2.2.length ≤ (clS x L P D T).2.1 := by
  have w1 := word_bd (x := x) hP
  unfold clS
  split
  · dsimp only; omega
  · split
    · rename_i _ a
      have la := isAt_lt a
      exact tel_bd hx (by omega) (by omega) _
    · dsimp only; omega
/-- all clauses: the fault's place or -1, what they tell, the program -/
def flS (x : Nat → Int) (L : Nat) : Nat → Nat → Dv → List Int → Int × Dv × List Int
  | 0, P, D, T => (P, D, T)
  | d + 1, P, D, T =>
    if (clS x L P D T).1 = true then
      if (clS x L P D T).2.1 = L then (-1, (clS x L P D T).2.2.1, (clS x L P D T).2.2.2)
      else if d = 0 then ((clS x L P D T).2.1, (clS x L P D T).2.2.1, (clS x L P D T).2.2.2)
      else if isAt x L (clS x L P D T).2.1 59 = true then flS x L d ((clS x L P D T).2.1 + 1) (clS x L P D T).2.2.1 (clS x L P D T).2.2.2
      else ((clS x L P D T).2.1, (clS x L P D T).2.2.1, (clS x L P D T).2.2.2)
    else ((clS x L P D T).2.1, (clS x L P D T).2.2.1, (clS x L P D T).2.2.2)
def CLx (h : Mem) (x : Nat → Int) (L p : Nat) (D : Dv) (T : List Int) : Prop := ∃ P, CL h x L p P D T
theorem l_faultIn_11 (q : Lq p) (hN : 200 ≤ N) (h0 : Mem) : ∀ (d i n : Nat) (h : Mem) (P : Nat) (D : Dv) (T : List Int), i + d = 11 → 1 ≤ d → d < n → CL h x L p P D T → T.length ≤ P → FL p h0 h → ∃ h', f_X5_faultIn_11 N n 44 p (iz i) h = some (iz (flS x L d P D T).1, h') ∧ CLx h' x L p (flS x L d P D T).2.1 (flS x L d P D T).2.2 ∧ FL p h0 h' := by
  intro d
  induction d with
  | zero => intro i n h P D T _ h1; omega
  | succ d ih =>
    intro i n h P D T hi _ hn c hT F
    obtain ⟨n, rfl⟩ : ∃ k, n = k + 1 := ⟨n - 1, by omega⟩
    rw [f_X5_faultIn_11, flS]
    have r := c.1
    have hx := r.2.2.2.2.2.2.2.2
    have hL := r.2.2.2.2.2.2.1
    have hP := r.2.2.2.2.2.2.2.1
    have hc : ¬ ((10 : Int) < i) := by omega
    have h3 : ¬ ((1 : Int) = 0) := by decide
    obtain ⟨h1, e1, c1, F1⟩ := l_clause q hN c hT
    have bT := cl_bd (L := L) (D := D) hx hP hT
    have r1 := c1.1
    have hP1 := r1.2.2.2.2.2.2.2.1
    have em := l_met (N := N) r1 (c := 59) (by omega)
    generalize clS x L P D T = w at *
    cases hw : w.1 with
    | false =>
      rw [hw] at e1
      rw [if_neg (show ¬ (false = true) by decide)]
      refine ⟨h1, ?_, ⟨_, c1⟩, F.tr F1⟩
      simp (disch := omega) only [if_true, if_false, Option.bind_some, b2_some, il0, il1, il2, il3, il4, il5, il6, il7, il8, il9, il10, il11, il12, il13, il14, il15, il16, il17, il18, il19, il20, il21, il22, il23, il24, il25, il26, il27, il28, il29, il30, il31, il32, il33, il36, il38, il39, il40, il41, il48, il50, il51, il57, il59, il60, il61, il62, il63, il70, il96, il99, il100, il101, il102, il103, il104, il105, il106, il107, il108, il109, il110, il111, il112, il115, il116, il120, il121, il124, il200, il240, il255, il288, il360, il420, il999, il1000, il114292, il152755, il402789, il435589, il463922, il533611, il631470, iz_add, iz_sub, iz_mul, iz_neg, iz_le, iz_lt, iz_eq, hc, ↓k44 r, ↓bq e1, bi_f, ↓reduceIte, ↓kP r1]
    | true =>
      rw [hw] at e1
      rw [if_pos (rfl : true = true)]
      by_cases hl : w.2.1 = L
      · have hl' : (w.2.1 : Int) = L := by omega
        rw [if_pos hl]
        refine ⟨h1, ?_, ⟨_, c1⟩, F.tr F1⟩
        simp (disch := omega) only [if_true, if_false, Option.bind_some, b2_some, il0, il1, il2, il3, il4, il5, il6, il7, il8, il9, il10, il11, il12, il13, il14, il15, il16, il17, il18, il19, il20, il21, il22, il23, il24, il25, il26, il27, il28, il29, il30, il31, il32, il33, il36, il38, il39, il40, il41, il48, il50, il51, il57, il59, il60, il61, il62, il63, il70, il96, il99, il100, il101, il102, il103, il104, il105, il106, il107, il108, il109, il110, il111, il112, il115, il116, il120, il121, il124, il200, il240, il255, il288, il360, il420, il999, il1000, il114292, il152755, il402789, il435589, il463922, il533611, il631470, iz_add, iz_sub, iz_mul, iz_neg, iz_le, iz_lt, iz_eq, hc, ↓k44 r, ↓bq e1, bi_t, h3, ↓reduceIte, ↓kP r1, ↓kLn r1, hl']
      · have hl' : ¬ ((w.2.1 : Int) = L) := by omega
        rw [if_neg hl]
        by_cases hd : d = 0
        · have hi10 : ((i : Int) = 10) = True := eq_true (by omega)
          rw [if_pos hd]
          refine ⟨h1, ?_, ⟨_, c1⟩, F.tr F1⟩
          have h58 : f_X5_faultIn_58 N 44 h1 = some (iz w.2.1, h1) := by unfold f_X5_faultIn_58; rw [kP r1]
          simp (disch := omega) only [if_true, if_false, Option.bind_some, b2_some, il0, il1, il2, il3, il4, il5, il6, il7, il8, il9, il10, il11, il12, il13, il14, il15, il16, il17, il18, il19, il20, il21, il22, il23, il24, il25, il26, il27, il28, il29, il30, il31, il32, il33, il36, il38, il39, il40, il41, il48, il50, il51, il57, il59, il60, il61, il62, il63, il70, il96, il99, il100, il101, il102, il103, il104, il105, il106, il107, il108, il109, il110, il111, il112, il115, il116, il120, il121, il124, il200, il240, il255, il288, il360, il420, il999, il1000, il114292, il152755, il402789, il435589, il463922, il533611, il631470, iz_add, iz_sub, iz_mul, iz_neg, iz_le, iz_lt, iz_eq, hc, ↓k44 r, ↓bq e1, bi_t, h3, ↓reduceIte, ↓kP r1, ↓kLn r1, hl', hi10, h58]
        · have hi10 : ¬ ((i : Int) = 10) := by omega
          rw [if_neg hd]
          by_cases ha : isAt x L w.2.1 59 = true
          · have la := isAt_lt ha
            rw [if_pos ha]
            rw [if_pos ha, ha] at em
            have c2 := c1.pm q (P' := w.2.1 + 1) (by omega)
            obtain ⟨h', e', c', F'⟩ := ih (i + 1) n _ _ _ _ (by omega) (by omega) (by omega) c2 (by omega) (F.tr (F1.tr (FL.pm q)))
            refine ⟨h', ?_, c', F'⟩
            simp (disch := omega) only [if_true, if_false, Option.bind_some, b2_some, il0, il1, il2, il3, il4, il5, il6, il7, il8, il9, il10, il11, il12, il13, il14, il15, il16, il17, il18, il19, il20, il21, il22, il23, il24, il25, il26, il27, il28, il29, il30, il31, il32, il33, il36, il38, il39, il40, il41, il48, il50, il51, il57, il59, il60, il61, il62, il63, il70, il96, il99, il100, il101, il102, il103, il104, il105, il106, il107, il108, il109, il110, il111, il112, il115, il116, il120, il121, il124, il200, il240, il255, il288, il360, il420, il999, il1000, il114292, il152755, il402789, il435589, il463922, il533611, il631470, iz_add, iz_sub, iz_mul, iz_neg, iz_le, iz_lt, iz_eq, hc, ↓k44 r, ↓bq e1, bi_t, h3, ↓reduceIte, ↓kP r1, ↓kLn r1, hl', hi10, ↓k44 r1, ↓bq em]
            exact e'
          · rw [if_neg ha]
            rw [Bool.not_eq_true] at ha
            rw [ha, if_neg (by decide)] at em
            have h58 : f_X5_faultIn_58 N 44 h1 = some (iz w.2.1, h1) := by unfold f_X5_faultIn_58; rw [kP r1]
            refine ⟨h1, ?_, ⟨_, c1⟩, F.tr F1⟩
            simp (disch := omega) only [if_true, if_false, Option.bind_some, b2_some, il0, il1, il2, il3, il4, il5, il6, il7, il8, il9, il10, il11, il12, il13, il14, il15, il16, il17, il18, il19, il20, il21, il22, il23, il24, il25, il26, il27, il28, il29, il30, il31, il32, il33, il36, il38, il39, il40, il41, il48, il50, il51, il57, il59, il60, il61, il62, il63, il70, il96, il99, il100, il101, il102, il103, il104, il105, il106, il107, il108, il109, il110, il111, il112, il115, il116, il120, il121, il124, il200, il240, il255, il288, il360, il420, il999, il1000, il114292, il152755, il402789, il435589, il463922, il533611, il631470, iz_add, iz_sub, iz_mul, iz_neg, iz_le, iz_lt, iz_eq, hc, ↓k44 r, ↓bq e1, bi_t, bi_f, h3, ↓reduceIte, ↓kP r1, ↓kLn r1, hl', hi10, ↓k44 r1, ↓bq em, h58]
end
