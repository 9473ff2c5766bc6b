/-- a clause: whether it stands there, the place behind, what it tells, the program -/
def shunS (x : Nat → Int) (L P : Nat) (T : List Int) : Bool × Nat × List Int :=
  if (pE x L P).1 = true then
    if isAt x L (pE x L P).2.1 32 = true then
      if 0 ≤ (numR x L ((pE x L P).2.1 + 1)).1 then (true, (numR x L ((pE x L P).2.1 + 1)).2, T ++ (pE x L P).2.2 ++ [(numR x L ((pE x L P).2.1 + 1)).1 * 16 + 15])
      else (false, (numR x L ((pE x L P).2.1 + 1)).2, T ++ (pE x L P).2.2)
    else (false, (pE x L P).2.1, T ++ (pE x L P).2.2)
  else (false, (pE x L P).2.1, T ++ (pE x L P).2.2)
def telS (x : Nat → Int) (L P w : Nat) (D : Dv) (T : List Int) : Bool × Nat × Dv × List Int :=
  if w = 0 then ((pairS x L 9 3 D P).1, (pairS x L 9 3 D P).2.1, (pairS x L 9 3 D P).2.2, T)
  else if w = 1 then ((pairS x L 10 4 D P).1, (pairS x L 10 4 D P).2.1, (pairS x L 10 4 D P).2.2, T)
  else if w = 2 then ((singS x L D P).1, (singS x L D P).2.1, (singS x L D P).2.2, T)
  else if w = 3 then (decide (0 ≤ (numR x L P).1), (numR x L P).2, dset D 12 0 (numR x L P).1, T)
  else if w = 4 then (decide (0 ≤ letS x L P 1), (if 0 ≤ letS x L P 1 then P + 1 else P), dset D 12 1 (letS x L P 1), T)
  else if w = 5 then (decide (0 ≤ letS x L P 2), (if 0 ≤ letS x L P 2 then P + 1 else P), dset D 12 2 (letS x L P 2), T)
  else ((shunS x L P T).1, (shunS x L P T).2.1, D, (shunS x L P T).2.2)
def clS (x : Nat → Int) (L P : Nat) (D : Dv) (T : List Int) : Bool × Nat × Dv × List Int :=
  if (wordS x L P).1 < 0 then (false, (wordS x L P).2, D, T)
  else if isAt x L (wordS x L P).2 32 = true then telS x L ((wordS x L P).2 + 1) (wordS x L P).1.toNat D T
  else (false, (wordS x L P).2, D, T)
section
variable {h : Mem} {x : Nat → Int} {L p P N : Nat} {D : Dv} {T : List Int}
theorem rst_bd {w : Nat} : ∀ (d j P : Nat), P ≤ L → ((rstS x L w d j P).1 = w ∨ (rstS x L w d j P).1 = -1) ∧ P ≤ (rstS x L w d j P).2 ∧ (rstS x L w d j P).2 ≤ L := by
  intro d
  induction d with
  | zero => intro j P hP; exact ⟨Or.inl rfl, Nat.le_refl _, hP⟩
  | succ d ih =>
    intro j P hP
    unfold rstS
    split
    · rename_i ha
      have la := isAt_lt ha
      have := ih (j + 1) (P + 1) (by omega)
      exact ⟨this.1, by omega, this.2.2⟩
    · exact ⟨Or.inr rfl, Nat.le_refl _, hP⟩
theorem word_bd (hP : P ≤ L) : -1 ≤ (wordS x L P).1 ∧ (wordS x L P).1 ≤ 6 ∧ P ≤ (wordS x L P).2 ∧ (wordS x L P).2 ≤ L := by
  unfold wordS
  cases hf : fs (fun w => isAt x L P (wb (w * 4))) 0 7 with
  | none => exact ⟨by show (-1 : Int) ≤ -1; omega, by show (-1 : Int) ≤ 6; omega, Nat.le_refl _, hP⟩
  | some w =>
    have h1 := fs_lt _ _ _ hf
    have la := isAt_lt h1.2.2
    have := rst_bd (x := x) (w := w) 3 1 (P + 1) (show P + 1 ≤ L by omega)
    dsimp only
    omega
theorem l_weight (q : Lq p) (hN : 200 ≤ N) (c : CL h x L p P D T) (hT : T.length < P) : ∃ h', f_X5_weight N 44 p h = some (iz (if 0 ≤ (numR x L P).1 then 1 else 0), h') ∧ CL h' x L p (numR x L P).2 D (if 0 ≤ (numR x L P).1 then T ++ [(numR x L P).1 * 16 + 15] else T) ∧ FL p h h' := by
  have r := c.1
  have hx := r.2.2.2.2.2.2.2.2
  have hL := r.2.2.2.2.2.2.1
  have hP := r.2.2.2.2.2.2.2.1
  have e5 := l_number r hN
  have b5 := numR_bd (L := L) hx hP
  have c1 := c.pm q (P' := (numR x L P).2) (by omega)
  unfold f_X5_weight
  by_cases a5 : 0 ≤ (numR x L P).1
  · obtain ⟨h', e, s⟩ := l_emit (N := N) q c1.st (by omega) (g := 15) (n := (numR x L P).1) (by omega) (by omega)
    rw [if_pos a5, if_pos a5]
    refine ⟨h', ?_, c1.of q s, (FL.pm q).tr s.2.2.fl⟩
    simp (disch := omega) only [↓k44 r, if_true, if_false, Option.bind_some, b2_some, il0, il1, il2, il3, il4, il5, il6, il7, il8, il9, il10, il11, il12, il13, il14, il15, il16, il17, il18, il19, il20, il21, il22, il23, il24, il25, il26, il27, il28, il29, il30, il31, il32, il33, il36, il38, il39, il40, il41, il48, il50, il51, il57, il59, il60, il61, il62, il63, il70, il96, il99, il100, il101, il102, il103, il104, il105, il106, il107, il108, il109, il110, il111, il112, il115, il116, il120, il121, il124, il200, il240, il255, il288, il360, il420, il999, il1000, il114292, il152755, il402789, il435589, il463922, il533611, il631470, iz_add, iz_sub, iz_mul, iz_neg, iz_le, iz_lt, iz_eq, ↓bq e5, a5, ↓reduceIte, ↓kPc c1.st, ↓bo e]
  · rw [if_neg a5, if_neg a5]
    refine ⟨_, ?_, c1, FL.pm q⟩
    simp (disch := omega) only [↓k44 r, if_true, if_false, Option.bind_some, b2_some, il0, il1, il2, il3, il4, il5, il6, il7, il8, il9, il10, il11, il12, il13, il14, il15, il16, il17, il18, il19, il20, il21, il22, il23, il24, il25, il26, il27, il28, il29, il30, il31, il32, il33, il36, il38, il39, il40, il41, il48, il50, il51, il57, il59, il60, il61, il62, il63, il70, il96, il99, il100, il101, il102, il103, il104, il105, il106, il107, il108, il109, il110, il111, il112, il115, il116, il120, il121, il124, il200, il240, il255, il288, il360, il420, il999, il1000, il114292, il152755, il402789, il435589, il463922, il533611, il631470, iz_add, iz_sub, iz_mul, iz_neg, iz_le, iz_lt, iz_eq, ↓bq e5, a5, ↓reduceIte]
/-- what a telling's method leaves, as the clause's end wants it -/
def TelOk (p : Nat) (x : Nat → Int) (L : Nat) (h : Mem) (o : Option (Int32 × Mem)) (s : Bool × Nat × Dv × List Int) : Prop := ∃ h', o = some (iz (bi s.1), h') ∧ CL h' x L p s.2.1 s.2.2.1 s.2.2.2 ∧ FL p h h'
theorem l_shun (q : Lq p) (hN : 200 ≤ N) (c : CL h x L p P D T) (hT : T.length ≤ P) : TelOk p x L h (b2 (F_X5_either N 44 p (0 : Int32) h) fun t65 h64 => if t65 = 0 then some ((0 : Int32), h64) else (ck h64 44 5).bind fun _ => b2 (f_X5_met N 44 (32 : Int32) h64) fun t70 h69 => if t70 = 0 then some ((0 : Int32), h69) else (ck h69 44 5).bind fun _ => b2 (f_X5_weight N 44 p h69) fun t75 h74 => if t75 = 0 then some ((0 : Int32), h74) else some ((1 : Int32), h74)) ((shunS x L P T).1, (shunS x L P T).2.1, D, (shunS x L P T).2.2) := by
  have r := c.1
  have hx := r.2.2.2.2.2.2.2.2
  have hL := r.2.2.2.2.2.2.1
  have hP := r.2.2.2.2.2.2.2.1
  have h3 : ¬ ((1 : Int) = 0) := by decide
  obtain ⟨h1, e1, s1⟩ := l_either (N := N) q hN c.st hT
  have c1 := c.of q s1
  have ok := pE_ok (L := L) hx hP
  unfold Ok at ok
  unfold TelOk shunS
  by_cases a1 : (pE x L P).1 = true
  · rw [if_pos a1]
    rw [a1] at e1
    have e2 := l_met (N := N) c1.1 (c := 32) (by omega)
    by_cases a2 : isAt x L (pE x L P).2.1 32 = true
    · have l2 := isAt_lt a2
      rw [if_pos a2] at e2 ⊢
      rw [a2] at e2
      have c2 := c1.pm q (P' := (pE x L P).2.1 + 1) (by omega)
      obtain ⟨h3', e3, c3, f3⟩ := l_weight q hN c2 (by rw [List.length_append]; omega)
      by_cases a3 : 0 ≤ (numR x L ((pE x L P).2.1 + 1)).1
      · rw [if_pos a3] at e3 c3 ⊢
        refine ⟨h3', ?_, c3, s1.2.2.fl.tr ((FL.pm q).tr f3)⟩
        simp (disch := omega) only [if_true, if_false, Option.bind_some, b2_some, il0, il1, il2, il3, il4, il5, il6, il7, il8, il9, il10, il11, il12, il13, il14, il15, il16, il17, il18, il19, il20, il21, il22, il23, il24, il25, il26, il27, il28, il29, il30, il31, il32, il33, il36, il38, il39, il40, il41, il48, il50, il51, il57, il59, il60, il61, il62, il63, il70, il96, il99, il100, il101, il102, il103, il104, il105, il106, il107, il108, il109, il110, il111, il112, il115, il116, il120, il121, il124, il200, il240, il255, il288, il360, il420, il999, il1000, il114292, il152755, il402789, il435589, il463922, il533611, il631470, iz_add, iz_sub, iz_mul, iz_neg, iz_le, iz_lt, iz_eq, ↓bq e1, bi_t, h3, ↓reduceIte, ↓k44 c1.1, ↓bq e2, ↓k44 c2.1, ↓bq e3]
      · rw [if_neg a3] at e3 c3 ⊢
        refine ⟨h3', ?_, c3, s1.2.2.fl.tr ((FL.pm q).tr f3)⟩
        simp (disch := omega) only [if_true, if_false, Option.bind_some, b2_some, il0, il1, il2, il3, il4, il5, il6, il7, il8, il9, il10, il11, il12, il13, il14, il15, il16, il17, il18, il19, il20, il21, il22, il23, il24, il25, il26, il27, il28, il29, il30, il31, il32, il33, il36, il38, il39, il40, il41, il48, il50, il51, il57, il59, il60, il61, il62, il63, il70, il96, il99, il100, il101, il102, il103, il104, il105, il106, il107, il108, il109, il110, il111, il112, il115, il116, il120, il121, il124, il200, il240, il255, il288, il360, il420, il999, il1000, il114292, il152755, il402789, il435589, il463922, il533611, il631470, iz_add, iz_sub, iz_mul, iz_neg, iz_le, iz_lt, iz_eq, ↓bq e1, bi_t, bi_f, h3, ↓reduceIte, ↓k44 c1.1, ↓bq e2, ↓k44 c2.1, ↓bq e3]
    · rw [if_neg a2] at e2 ⊢
      rw [Bool.not_eq_true] at a2
      rw [a2] at e2
      refine ⟨h1, ?_, c1, s1.2.2.fl⟩
      simp (disch := omega) only [if_true, if_false, Option.bind_some, b2_some, il0, il1, il2, il3, il4, il5, il6, il7, il8, il9, il10, il11, il12, il13, il14, il15, il16, il17, il18, il19, il20, il21, il22, il23, il24, il25, il26, il27, il28, il29, il30, il31, il32, il33, il36, il38, il39, il40, il41, il48, il50, il51, il57, il59, il60, il61, il62, il63, il70, il96, il99, il100, il101, il102, il103, il104, il105, il106, il107, il108, il109, il110, il111, il112, il115, il116, il120, il121, il124, il200, il240, il255, il288, il360, il420, il999, il1000, il114292, il152755, il402789, il435589, il463922, il533611, il631470, iz_add, iz_sub, iz_mul, iz_neg, iz_le, iz_lt, iz_eq, ↓bq e1, bi_t, bi_f, h3, ↓reduceIte, ↓k44 c1.1, ↓bq e2]
  · rw [if_neg a1]
    rw [Bool.not_eq_true] at a1
    rw [a1] at e1
    refine ⟨h1, ?_, c1, s1.2.2.fl⟩
    simp (disch := omega) only [if_true, if_false, Option.bind_some, b2_some, il0, il1, il2, il3, il4, il5, il6, il7, il8, il9, il10, il11, il12, il13, il14, il15, il16, il17, il18, il19, il20, il21, il22, il23, il24, il25, il26, il27, il28, il29, il30, il31, il32, il33, il36, il38, il39, il40, il41, il48, il50, il51, il57, il59, il60, il61, il62, il63, il70, il96, il99, il100, il101, il102, il103, il104, il105, il106, il107, il108, il109, il110, il111, il112, il115, il116, il120, il121, il124, il200, il240, il255, il288, il360, il420, il999, il1000, il114292, il152755, il402789, il435589, il463922, il533611, il631470, iz_add, iz_sub, iz_mul, iz_neg, iz_le, iz_lt, iz_eq, ↓bq e1, bi_f, ↓reduceIte]
end
