section
variable {h0 : Mem} {x : Nat → Int} {L p N : Nat}
theorem numR_bd (hx : ∀ j : Nat, 0 ≤ x j ∧ x j ≤ 255) {P : Nat} (hP : P ≤ L) : -1 ≤ (numR x L P).1 ∧ (numR x L P).1 < 1000 ∧ P ≤ (numR x L P).2 ∧ (numR x L P).2 ≤ L := numS_bd hx 3 P (-1) 0 (by omega) (by omega) hP
theorem l_test {h : Mem} {P : Nat} {T : List Int} (q : Lq p) (s : ST h0 x L p h P T) (hT : T.length ≤ P) (hN : 200 ≤ N) : ∃ h', f_X5_test N 44 p h = some (iz (bi (pT x L P).1), h') ∧ ST h0 x L p h' (pT x L P).2.1 (T ++ (pT x L P).2.2) := by
  have r := s.1
  have hx := r.2.2.2.2.2.2.2.2
  have hL := r.2.2.2.2.2.2.1
  have e1 := l_letter r (k := 3) (by omega) hN
  have b1 := letS_bd (x := x) (L := L) (P := P) 3
  unfold f_X5_test pT
  by_cases h1 : 0 ≤ letS x L P 3
  · have l1 := letS_lt h1
    rw [if_pos h1] at e1
    rw [if_pos h1]
    have s1 := s.pm q (P' := P + 1) (by omega)
    have r1 := s1.1
    have e2 := l_letter r1 (k := 4) (by omega) hN
    have b2' := letS_bd (x := x) (L := L) (P := P + 1) 4
    by_cases h2 : 0 ≤ letS x L (P + 1) 4
    · have l2 := letS_lt h2
      rw [if_pos h2] at e2
      rw [if_pos h2]
      have s2 := s1.pm q (P' := P + 2) (by omega)
      have r2 := s2.1
      have e3 := l_number r2 hN
      have b3 := numR_bd (L := L) hx (P := P + 2) (by omega)
      have s3 := s2.pm q (P' := (numR x L (P + 2)).2) (by omega)
      by_cases h3 : 0 ≤ (numR x L (P + 2)).1
      · rw [if_pos h3]
        obtain ⟨h', e4, s4⟩ := l_emit (N := N) q s3 (by omega) (g := letS x L P 3 * 3 + letS x L (P + 1) 4) (n := (numR x L (P + 2)).1) (by
          have : letS x L (P + 1) 4 ≤ 2 := by
            unfold letS
            split
            · split
              · rename_i j hj
                have := fs_lt _ _ _ hj
                have : strL 4 = 3 := rfl
                omega
              · omega
            · omega
          omega) (by omega)
        refine ⟨h', ?_, s4⟩
        simp (disch := omega) only [↓k44 r, ↓bq e1, if_true, if_false, Option.bind_some, b2_some, il0, il1, il2, il3, il4, il5, il6, il7, il8, il9, il10, il11, il12, il13, il14, il15, il16, il17, il18, il19, il20, il21, il22, il23, il24, il25, il26, il27, il28, il29, il30, il31, il32, il33, il36, il38, il39, il40, il41, il48, il50, il51, il57, il59, il60, il61, il62, il63, il70, il96, il99, il100, il101, il102, il103, il104, il105, il106, il107, il108, il109, il110, il111, il112, il115, il116, il120, il121, il124, il200, il240, il255, il288, il360, il420, il999, il1000, il114292, il152755, il402789, il435589, il463922, il533611, il631470, iz_add, iz_sub, iz_mul, iz_neg, iz_le, iz_lt, iz_eq, h1, ↓reduceIte, ↓k44 r1, ↓bq e2, h2, ↓k44 r2, ↓bq e3, h3, ↓kPc s3, ↓bo e4, bi_t]
      · rw [if_neg h3]
        refine ⟨_, ?_, by rw [List.append_nil]; exact s3⟩
        simp (disch := omega) only [↓k44 r, ↓bq e1, if_true, if_false, Option.bind_some, b2_some, il0, il1, il2, il3, il4, il5, il6, il7, il8, il9, il10, il11, il12, il13, il14, il15, il16, il17, il18, il19, il20, il21, il22, il23, il24, il25, il26, il27, il28, il29, il30, il31, il32, il33, il36, il38, il39, il40, il41, il48, il50, il51, il57, il59, il60, il61, il62, il63, il70, il96, il99, il100, il101, il102, il103, il104, il105, il106, il107, il108, il109, il110, il111, il112, il115, il116, il120, il121, il124, il200, il240, il255, il288, il360, il420, il999, il1000, il114292, il152755, il402789, il435589, il463922, il533611, il631470, iz_add, iz_sub, iz_mul, iz_neg, iz_le, iz_lt, iz_eq, h1, ↓reduceIte, ↓k44 r1, ↓bq e2, h2, ↓k44 r2, ↓bq e3, h3, bi_f]
    · rw [if_neg h2] at e2
      rw [if_neg h2]
      refine ⟨_, ?_, by rw [List.append_nil]; exact s1⟩
      simp (disch := omega) only [↓k44 r, ↓bq e1, if_true, if_false, Option.bind_some, b2_some, il0, il1, il2, il3, il4, il5, il6, il7, il8, il9, il10, il11, il12, il13, il14, il15, il16, il17, il18, il19, il20, il21, il22, il23, il24, il25, il26, il27, il28, il29, il30, il31, il32, il33, il36, il38, il39, il40, il41, il48, il50, il51, il57, il59, il60, il61, il62, il63, il70, il96, il99, il100, il101, il102, il103, il104, il105, il106, il107, il108, il109, il110, il111, il112, il115, il116, il120, il121, il124, il200, il240, il255, il288, il360, il420, il999, il1000, il114292, il152755, il402789, il435589, il463922, il533611, il631470, iz_add, iz_sub, iz_mul, iz_neg, iz_le, iz_lt, iz_eq, h1, ↓reduceIte, ↓k44 r1, ↓bq e2, h2, bi_f]
  · rw [if_neg h1] at e1
    rw [if_neg h1]
    refine ⟨_, ?_, by rw [List.append_nil]; exact s⟩
    simp (disch := omega) only [↓k44 r, ↓bq e1, if_true, if_false, Option.bind_some, b2_some, il0, il1, il2, il3, il4, il5, il6, il7, il8, il9, il10, il11, il12, il13, il14, il15, il16, il17, il18, il19, il20, il21, il22, il23, il24, il25, il26, il27, il28, il29, il30, il31, il32, il33, il36, il38, il39, il40, il41, il48, il50, il51, il57, il59, il60, il61, il62, il63, il70, il96, il99, il100, il101, il102, il103, il104, il105, il106, il107, il108, il109, il110, il111, il112, il115, il116, il120, il121, il124, il200, il240, il255, il288, il360, il420, il999, il1000, il114292, il152755, il402789, il435589, il463922, il533611, il631470, iz_add, iz_sub, iz_mul, iz_neg, iz_le, iz_lt, iz_eq, h1, ↓reduceIte, bi_f]
/-- what a factor's method must do, for the loop of terms -/
def FacOk (h0 : Mem) (x : Nat → Int) (L p : Nat) (rc : Nat → Nat → Int32 → Mem → Option (Int32 × Mem)) (e : Nat) (fac : Nat → Rs) : Prop := ∀ (h : Mem) (P : Nat) (T : List Int), ST h0 x L p h P T → T.length ≤ P → ∃ h', rc 44 p (iz (e : Int)) h = some (iz (bi (fac P).1), h') ∧ ST h0 x L p h' (fac P).2.1 (T ++ (fac P).2.2)
theorem l_either_64 {h : Mem} {P : Nat} {T : List Int} (q : Lq p) (s : ST h0 x L p h P T) {rc : Nat → Nat → Int32 → Mem → Option (Int32 × Mem)} {v2 v5 : Int32} {k8 : Nat → Nat → Int32 → Int32 → Int32 → Int32 → Mem → Option (Int32 × Mem)} : f_X5_either_64 rc N 44 p v2 v5 h k8 = if isAt x L P 124 = true then k8 44 p v2 (iz 0) (iz 1) (v5 + iz 1) (pm h (P + 1)) else some (iz 1, h) := by
  have r := s.1
  have e1 := l_met (N := N) r (c := 124) (by omega)
  unfold f_X5_either_64
  have h3 : ¬ ((1 : Int) = 0) := by decide
  cases ha : isAt x L P 124 with
  | true =>
    rw [ha] at e1
    simp (disch := omega) only [↓k44 r, il0, il1, il2, il3, il4, il5, il6, il7, il8, il9, il10, il11, il12, il13, il14, il15, il16, il17, il18, il19, il20, il21, il22, il23, il24, il25, il26, il27, il28, il29, il30, il31, il32, il33, il36, il38, il39, il40, il41, il48, il50, il51, il57, il59, il60, il61, il62, il63, il70, il96, il99, il100, il101, il102, il103, il104, il105, il106, il107, il108, il109, il110, il111, il112, il115, il116, il120, il121, il124, il200, il240, il255, il288, il360, il420, il999, il1000, il114292, il152755, il402789, il435589, il463922, il533611, il631470, ↓bq e1, bi_t, iz_eq, h3, ↓reduceIte]
  | false =>
    rw [ha] at e1
    simp (disch := omega) only [↓k44 r, il0, il1, il2, il3, il4, il5, il6, il7, il8, il9, il10, il11, il12, il13, il14, il15, il16, il17, il18, il19, il20, il21, il22, il23, il24, il25, il26, il27, il28, il29, il30, il31, il32, il33, il36, il38, il39, il40, il41, il48, il50, il51, il57, il59, il60, il61, il62, il63, il70, il96, il99, il100, il101, il102, il103, il104, il105, il106, il107, il108, il109, il110, il111, il112, il115, il116, il120, il121, il124, il200, il240, il255, il288, il360, il420, il999, il1000, il114292, il152755, il402789, il435589, il463922, il533611, il631470, ↓bq e1, bi_f, ↓reduceIte, Bool.false_eq_true]
theorem l_either_8 (q : Lq p) {rc : Nat → Nat → Int32 → Mem → Option (Int32 × Mem)} {e : Nat} {fac : Nat → Rs} (hf : FacOk h0 x L p rc e fac) (hok : ∀ P, P ≤ L → Ok L P 0 (fac P)) : ∀ (d i n : Nat) (ft ff : Bool) (h : Mem) (P : Nat) (T : List Int), i + d = 120 → d < n → ST h0 x L p h P T → T.length + cr ft + cr ff ≤ P → ∃ h', f_X5_either_8 rc N n 44 p (iz e) (iz (bi ft)) (iz (bi ff)) (iz i) h = some (iz (bi (pL fac x L d ft ff P).1), h') ∧ ST h0 x L p h' (pL fac x L d ft ff P).2.1 (T ++ (pL fac x L d ft ff P).2.2) := by
  intro d
  induction d with
  | zero =>
    intro i n ft ff h P T hi hn s hT
    obtain ⟨n, rfl⟩ : ∃ k, n = k + 1 := ⟨n - 1, by omega⟩
    rw [f_X5_either_8]
    obtain rfl : i = 120 := by omega
    refine ⟨h, ?_, by show ST h0 x L p h P (T ++ []); rw [List.append_nil]; exact s⟩
    simp (disch := omega) only [if_true, if_false, Option.bind_some, b2_some, il0, il1, il2, il3, il4, il5, il6, il7, il8, il9, il10, il11, il12, il13, il14, il15, il16, il17, il18, il19, il20, il21, il22, il23, il24, il25, il26, il27, il28, il29, il30, il31, il32, il33, il36, il38, il39, il40, il41, il48, il50, il51, il57, il59, il60, il61, il62, il63, il70, il96, il99, il100, il101, il102, il103, il104, il105, il106, il107, il108, il109, il110, il111, il112, il115, il116, il120, il121, il124, il200, il240, il255, il288, il360, il420, il999, il1000, il114292, il152755, il402789, il435589, il463922, il533611, il631470, iz_add, iz_sub, iz_mul, iz_neg, iz_le, iz_lt, iz_eq]
    rfl
  | succ d ih =>
    intro i n ft ff h P T hi hn s hT
    obtain ⟨n, rfl⟩ : ∃ k, n = k + 1 := ⟨n - 1, by omega⟩
    have hc : ¬ ((120 : Int) ≤ i) := by omega
    have h3 : ¬ ((1 : Int) = 0) := by decide
    have r := s.1
    have hL := r.2.2.2.2.2.2.1
    have hP := r.2.2.2.2.2.2.2.1
    obtain ⟨h1, e1, s1⟩ := hf h P T s (by omega)
    have ok := hok P hP
    unfold Ok at ok
    have c1 : cr true = 0 := rfl
    have c2 : cr false = 1 := rfl
    rw [f_X5_either_8, pL]
    dsimp only
    by_cases hr : (fac P).1 = true
    · rw [hr] at e1
      rw [if_pos hr]
      -- the AND, if one waits
      have st2 : ∃ h2, ST h0 x L p h2 (fac P).2.1 (T ++ (fac P).2.2 ++ (if ff = true then [] else [13])) ∧ ∀ k8, (if iz (bi ff) = (0 : Int32) then (ck h1 p 3).bind fun _ => (f_X3_emit N p (13 : Int32) (0 : Int32) h1).bind fun h10 => f_X5_either_38 rc N 44 p (iz e) (iz (bi ft)) (iz i) h10 k8 else f_X5_either_38 rc N 44 p (iz e) (iz (bi ft)) (iz i) h1 k8) = f_X5_either_38 rc N 44 p (iz e) (iz (bi ft)) (iz i) h2 k8 := by
        cases ff with
        | true =>
          refine ⟨h1, by rw [if_pos rfl, List.append_nil]; exact s1, fun k8 => ?_⟩
          simp (disch := omega) only [bi_t, il0, il1, il2, il3, il4, il5, il6, il7, il8, il9, il10, il11, il12, il13, il14, il15, il16, il17, il18, il19, il20, il21, il22, il23, il24, il25, il26, il27, il28, il29, il30, il31, il32, il33, il36, il38, il39, il40, il41, il48, il50, il51, il57, il59, il60, il61, il62, il63, il70, il96, il99, il100, il101, il102, il103, il104, il105, il106, il107, il108, il109, il110, il111, il112, il115, il116, il120, il121, il124, il200, il240, il255, il288, il360, il420, il999, il1000, il114292, il152755, il402789, il435589, il463922, il533611, il631470, iz_eq, h3, ↓reduceIte]
        | false =>
          obtain ⟨h2, e2, s2⟩ := l_emit (N := N) q s1 (by rw [List.length_append]; omega) (g := 13) (n := 0) (by omega) (by omega)
          refine ⟨h2, by rw [if_neg (by decide)]; exact s2, fun k8 => ?_⟩
          simp (disch := omega) only [bi_f, il0, il1, il2, il3, il4, il5, il6, il7, il8, il9, il10, il11, il12, il13, il14, il15, il16, il17, il18, il19, il20, il21, il22, il23, il24, il25, il26, il27, il28, il29, il30, il31, il32, il33, il36, il38, il39, il40, il41, il48, il50, il51, il57, il59, il60, il61, il62, il63, il70, il96, il99, il100, il101, il102, il103, il104, il105, il106, il107, il108, il109, il110, il111, il112, il115, il116, il120, il121, il124, il200, il240, il255, il288, il360, il420, il999, il1000, il114292, il152755, il402789, il435589, il463922, il533611, il631470, ↓reduceIte, ↓kPc s1, ↓bo e2]
      obtain ⟨h2, s2, e2⟩ := st2
      have l1 : (if ff = true then ([] : List Int) else [13]).length = cr ff := by unfold cr; split <;> rfl
      have l2 : (if ft = true then ([] : List Int) else [14]).length = cr ft := by unfold cr; split <;> rfl
      have r2 := s2.1
      have e38 := l_met (N := N) r2 (c := 38) (by omega)
      by_cases ha : isAt x L (fac P).2.1 38 = true
      · have la := isAt_lt ha
        rw [if_pos ha]
        dsimp only
        rw [ha] at e38
        have s3 := s2.pm q (P' := (fac P).2.1 + 1) (by omega)
        obtain ⟨h', e', s'⟩ := ih (i + 1) n ft false _ _ _ (by omega) (by omega) s3 (by rw [List.length_append, List.length_append, l1]; omega)
        refine ⟨h', ?_, by rw [← List.append_assoc, ← List.append_assoc]; exact s'⟩
        have main : f_X5_either_38 rc N 44 p (iz e) (iz (bi ft)) (iz i) h2 (fun v0 v1 v2 v3 v4 v5 h => f_X5_either_8 rc N n v0 v1 v2 v3 v4 v5 h) = some (iz (bi (pL fac x L d ft false ((fac P).2.1 + 1)).1), h') := by
          unfold f_X5_either_38
          simp (disch := omega) only [↓k44 r2, il0, il1, il2, il3, il4, il5, il6, il7, il8, il9, il10, il11, il12, il13, il14, il15, il16, il17, il18, il19, il20, il21, il22, il23, il24, il25, il26, il27, il28, il29, il30, il31, il32, il33, il36, il38, il39, il40, il41, il48, il50, il51, il57, il59, il60, il61, il62, il63, il70, il96, il99, il100, il101, il102, il103, il104, il105, il106, il107, il108, il109, il110, il111, il112, il115, il116, il120, il121, il124, il200, il240, il255, il288, il360, il420, il999, il1000, il114292, il152755, il402789, il435589, il463922, il533611, il631470, ↓bq e38, bi_t, iz_eq, h3, ↓reduceIte, iz_add]
          exact e'
        simp (disch := omega) only [il0, il1, il2, il3, il4, il5, il6, il7, il8, il9, il10, il11, il12, il13, il14, il15, il16, il17, il18, il19, il20, il21, il22, il23, il24, il25, il26, il27, il28, il29, il30, il31, il32, il33, il36, il38, il39, il40, il41, il48, il50, il51, il57, il59, il60, il61, il62, il63, il70, il96, il99, il100, il101, il102, il103, il104, il105, il106, il107, il108, il109, il110, il111, il112, il115, il116, il120, il121, il124, il200, il240, il255, il288, il360, il420, il999, il1000, il114292, il152755, il402789, il435589, il463922, il533611, il631470, iz_le, hc, ↓k44 r, ↓bq e1, bi_t, iz_eq, h3, ↓reduceIte]
        rw [← main, ← e2]
        simp (disch := omega) only [il0, il1, il2, il3, il4, il5, il6, il7, il8, il9, il10, il11, il12, il13, il14, il15, il16, il17, il18, il19, il20, il21, il22, il23, il24, il25, il26, il27, il28, il29, il30, il31, il32, il33, il36, il38, il39, il40, il41, il48, il50, il51, il57, il59, il60, il61, il62, il63, il70, il96, il99, il100, il101, il102, il103, il104, il105, il106, il107, il108, il109, il110, il111, il112, il115, il116, il120, il121, il124, il200, il240, il255, il288, il360, il420, il999, il1000, il114292, il152755, il402789, il435589, il463922, il533611, il631470]
      · rw [if_neg ha]
        rw [Bool.not_eq_true] at ha
        rw [ha] at e38
        -- the OR, if one waits
        have st3 : ∃ h3, ST h0 x L p h3 (fac P).2.1 (T ++ (fac P).2.2 ++ (if ff = true then [] else [13]) ++ (if ft = true then [] else [14])) ∧ ∀ k8, f_X5_either_38 rc N 44 p (iz e) (iz (bi ft)) (iz i) h2 k8 = f_X5_either_64 rc N 44 p (iz e) (iz i) h3 k8 := by
          cases ft with
          | true =>
            refine ⟨h2, by rw [if_pos (rfl : true = true), List.append_nil]; exact s2, fun k8 => ?_⟩
            unfold f_X5_either_38
            simp (disch := omega) only [↓k44 r2, il0, il1, il2, il3, il4, il5, il6, il7, il8, il9, il10, il11, il12, il13, il14, il15, il16, il17, il18, il19, il20, il21, il22, il23, il24, il25, il26, il27, il28, il29, il30, il31, il32, il33, il36, il38, il39, il40, il41, il48, il50, il51, il57, il59, il60, il61, il62, il63, il70, il96, il99, il100, il101, il102, il103, il104, il105, il106, il107, il108, il109, il110, il111, il112, il115, il116, il120, il121, il124, il200, il240, il255, il288, il360, il420, il999, il1000, il114292, il152755, il402789, il435589, il463922, il533611, il631470, ↓bq e38, bi_t, bi_f, iz_eq, h3, ↓reduceIte, Bool.false_eq_true]
          | false =>
            obtain ⟨h3, e3, s3⟩ := l_emit (N := N) q s2 (by rw [List.length_append, List.length_append, l1]; omega) (g := 14) (n := 0) (by omega) (by omega)
            refine ⟨h3, by rw [if_neg (by decide : ¬ (false = true))]; exact s3, fun k8 => ?_⟩
            unfold f_X5_either_38
            simp (disch := omega) only [↓k44 r2, il0, il1, il2, il3, il4, il5, il6, il7, il8, il9, il10, il11, il12, il13, il14, il15, il16, il17, il18, il19, il20, il21, il22, il23, il24, il25, il26, il27, il28, il29, il30, il31, il32, il33, il36, il38, il39, il40, il41, il48, il50, il51, il57, il59, il60, il61, il62, il63, il70, il96, il99, il100, il101, il102, il103, il104, il105, il106, il107, il108, il109, il110, il111, il112, il115, il116, il120, il121, il124, il200, il240, il255, il288, il360, il420, il999, il1000, il114292, il152755, il402789, il435589, il463922, il533611, il631470, ↓bq e38, bi_f, ↓reduceIte, ↓kPc s2, ↓bo e3, Bool.false_eq_true]
        obtain ⟨h3', s3, e3⟩ := st3
        have e64 := fun (v2 v5 : Int32) (k8 : Nat → Nat → Int32 → Int32 → Int32 → Int32 → Mem → Option (Int32 × Mem)) => l_either_64 (N := N) (rc := rc) (v2 := v2) (v5 := v5) (k8 := k8) q s3
        by_cases hb : isAt x L (fac P).2.1 124 = true
        · have la := isAt_lt hb
          rw [if_pos hb]
          dsimp only
          have s4 := s3.pm q (P' := (fac P).2.1 + 1) (by omega)
          obtain ⟨h', e', s'⟩ := ih (i + 1) n false true _ _ _ (by omega) (by omega) s4 (by rw [List.length_append, List.length_append, List.length_append, l1, l2]; omega)
          refine ⟨h', ?_, by rw [← List.append_assoc, ← List.append_assoc, ← List.append_assoc]; exact s'⟩
          have main : f_X5_either_38 rc N 44 p (iz e) (iz (bi ft)) (iz i) h2 (fun v0 v1 v2 v3 v4 v5 h => f_X5_either_8 rc N n v0 v1 v2 v3 v4 v5 h) = some (iz (bi (pL fac x L d false true ((fac P).2.1 + 1)).1), h') := by
            rw [e3, e64, if_pos hb, iz_add]
            exact e'
          simp (disch := omega) only [il0, il1, il2, il3, il4, il5, il6, il7, il8, il9, il10, il11, il12, il13, il14, il15, il16, il17, il18, il19, il20, il21, il22, il23, il24, il25, il26, il27, il28, il29, il30, il31, il32, il33, il36, il38, il39, il40, il41, il48, il50, il51, il57, il59, il60, il61, il62, il63, il70, il96, il99, il100, il101, il102, il103, il104, il105, il106, il107, il108, il109, il110, il111, il112, il115, il116, il120, il121, il124, il200, il240, il255, il288, il360, il420, il999, il1000, il114292, il152755, il402789, il435589, il463922, il533611, il631470, iz_le, hc, ↓k44 r, ↓bq e1, bi_t, iz_eq, h3, ↓reduceIte]
          rw [← main, ← e2]
          simp (disch := omega) only [il0, il1, il2, il3, il4, il5, il6, il7, il8, il9, il10, il11, il12, il13, il14, il15, il16, il17, il18, il19, il20, il21, il22, il23, il24, il25, il26, il27, il28, il29, il30, il31, il32, il33, il36, il38, il39, il40, il41, il48, il50, il51, il57, il59, il60, il61, il62, il63, il70, il96, il99, il100, il101, il102, il103, il104, il105, il106, il107, il108, il109, il110, il111, il112, il115, il116, il120, il121, il124, il200, il240, il255, il288, il360, il420, il999, il1000, il114292, il152755, il402789, il435589, il463922, il533611, il631470]
        · rw [if_neg hb]
          dsimp only
          refine ⟨h3', ?_, by rw [← List.append_assoc, ← List.append_assoc]; exact s3⟩
          have main : f_X5_either_38 rc N 44 p (iz e) (iz (bi ft)) (iz i) h2 (fun v0 v1 v2 v3 v4 v5 h => f_X5_either_8 rc N n v0 v1 v2 v3 v4 v5 h) = some (iz (bi true), h3') := by
            rw [e3, e64, if_neg hb]
            rfl
          simp (disch := omega) only [il0, il1, il2, il3, il4, il5, il6, il7, il8, il9, il10, il11, il12, il13, il14, il15, il16, il17, il18, il19, il20, il21, il22, il23, il24, il25, il26, il27, il28, il29, il30, il31, il32, il33, il36, il38, il39, il40, il41, il48, il50, il51, il57, il59, il60, il61, il62, il63, il70, il96, il99, il100, il101, il102, il103, il104, il105, il106, il107, il108, il109, il110, il111, il112, il115, il116, il120, il121, il124, il200, il240, il255, il288, il360, il420, il999, il1000, il114292, il152755, il402789, il435589, il463922, il533611, il631470, iz_le, hc, ↓k44 r, ↓bq e1, bi_t, iz_eq, h3, ↓reduceIte]
          rw [show iz 1 = iz (bi true) from rfl, ← main, ← e2]
          simp (disch := omega) only [il0, il1, il2, il3, il4, il5, il6, il7, il8, il9, il10, il11, il12, il13, il14, il15, il16, il17, il18, il19, il20, il21, il22, il23, il24, il25, il26, il27, il28, il29, il30, il31, il32, il33, il36, il38, il39, il40, il41, il48, il50, il51, il57, il59, il60, il61, il62, il63, il70, il96, il99, il100, il101, il102, il103, il104, il105, il106, il107, il108, il109, il110, il111, il112, il115, il116, il120, il121, il124, il200, il240, il255, il288, il360, il420, il999, il1000, il114292, il152755, il402789, il435589, il463922, il533611, il631470]
    · rw [if_neg hr]
      rw [Bool.not_eq_true] at hr
      rw [hr] at e1
      refine ⟨h1, ?_, s1⟩
      simp (disch := omega) only [if_true, if_false, Option.bind_some, b2_some, il0, il1, il2, il3, il4, il5, il6, il7, il8, il9, il10, il11, il12, il13, il14, il15, il16, il17, il18, il19, il20, il21, il22, il23, il24, il25, il26, il27, il28, il29, il30, il31, il32, il33, il36, il38, il39, il40, il41, il48, il50, il51, il57, il59, il60, il61, il62, il63, il70, il96, il99, il100, il101, il102, il103, il104, il105, il106, il107, il108, il109, il110, il111, il112, il115, il116, il120, il121, il124, il200, il240, il255, il288, il360, il420, il999, il1000, il114292, il152755, il402789, il435589, il463922, il533611, il631470, iz_add, iz_sub, iz_mul, iz_neg, iz_le, iz_lt, iz_eq, hc, ↓k44 r, ↓bq e1, bi_f, ↓reduceIte]
end
