theorem near_succ {V : Vw} {f t : Int} (n : Nat) : nearsum V f t (n + 1) = nearsum V f t n + (if (n : Int) = f then 0 else if va V 7 n = t then va V 10 (va V 5 f * 4 + va V 5 n) else 0) := rfl
theorem heads_succ {V : Vw} {f t : Int} (n : Nat) : heads V f t (n + 1) = heads V f t n + (if (n : Int) = f then 0 else if va V 7 n = t then 1 else 0) := by unfold heads; rw [sm_succ]; omega
theorem like_succ {V : Vw} {f t : Int} (n : Nat) : likesum V f t (n + 1) = likesum V f t n + va V 1 (t * 3 + n) * va V 9 (va V 5 f * 3 + n) := rfl
theorem cnt_bd {V : Vw} (t : Int) : 0 ≤ cnt V t ∧ cnt V t ≤ vF V := by
  have h := sm_bd (g := fun f => if va V 7 f = t then 1 else 0) (a := 0) (b := 1) (vF V) (fun i hi => by split <;> omega)
  unfold cnt
  omega
section
variable {h : Mem} {c p : Nat} {V : Vw} {N : Nat}
theorem l_shunned (R : RepC h c p V) (hN : 200 ≤ N) {s i t n : Int} (hs : 0 ≤ s ∧ s ≤ 3) (hi : 0 ≤ i ∧ i ≤ 99) (ht : 0 ≤ t ∧ t ≤ 3) (hn : 0 ≤ n ∧ n ≤ 8) : f_X3_shunned N p (iz s) (iz i) (iz t) (iz n) h = some (iz (vs V s i t n), h) := by
  obtain ⟨-, -, -, -, -, q0, -, -, -, q4, -, -, -, -, -, -, hsh⟩ := R
  exact hsh N h p hN q0 q4.2 q4.1 rfl (fun _ _ => rfl) s i t n hs.1 hs.2 hi.1 hi.2 ht.1 ht.2 hn.1 hn.2
theorem l_worth_70 (R : RepC h c p V) (w : WF V) (hN : 200 ≤ N) {f : Nat} {t : Int} (hf : f < vF V) (ht : 0 ≤ t ∧ t < 4) : ∀ (d i n : Nat), i + d = vF V → d < n → f_X1_worthOf_70 N n c (iz f) (iz t) (iz (-dues V f t - va V 2 t + likesum V f t 3 + nearsum V f t i)) (iz (heads V f t i)) (iz i) h = some (iz (worth V f t), h) := by
  intro d
  have hF := w.F
  have h5 := w.f (j := f) (by omega) (by omega)
  induction d with
  | zero =>
    intro i n hi hn
    obtain ⟨n, rfl⟩ : ∃ k, n = k + 1 := ⟨n - 1, by omega⟩
    rw [f_X1_worthOf_70]
    have hi : i = vF V := by omega
    subst hi
    have hh := heads_bd (V := V) (f := f) (t := t) (vF V)
    have hh2 := heads_le (V := V) (f := f) (t := t) (vF V) hf
    simp (disch := omega) only [rF R, rL R, rL3 R, rLk R, rA5 R, rX5 R, rA6 R, rX6 R, rA8 R, rX8 R, l_shunned R hN, if_true, if_false, Option.bind_some, b2_some, il0, il1, il2, il3, il4, il5, il6, il7, il8, il9, il10, il11, il12, il13, il14, il15, il16, il17, il18, il19, il20, il21, il22, il23, il24, il25, il26, il27, il28, il29, il30, il31, il32, il33, il36, il38, il39, il40, il41, il48, il50, il51, il57, il59, il60, il61, il62, il63, il70, il96, il99, il100, il101, il102, il103, il104, il105, il106, il107, il108, il109, il110, il111, il112, il115, il116, il120, il121, il124, il200, il240, il255, il288, il360, il420, il999, il1000, il114292, il152755, il402789, il435589, il463922, il533611, il631470, iz_add, iz_sub, iz_mul, iz_neg, iz_le, iz_lt, iz_eq, if_pos]
    unfold worth dist
    split <;> simp only [if_true, if_false, Option.bind_some, b2_some, il0, il1, il2, il3, il4, il5, il6, il7, il8, il9, il10, il11, il12, il13, il14, il15, il16, il17, il18, il19, il20, il21, il22, il23, il24, il25, il26, il27, il28, il29, il30, il31, il32, il33, il36, il38, il39, il40, il41, il48, il50, il51, il57, il59, il60, il61, il62, il63, il70, il96, il99, il100, il101, il102, il103, il104, il105, il106, il107, il108, il109, il110, il111, il112, il115, il116, il120, il121, il124, il200, il240, il255, il288, il360, il420, il999, il1000, il114292, il152755, il402789, il435589, il463922, il533611, il631470, iz_add, iz_sub, iz_mul, iz_neg, iz_le, iz_lt, iz_eq]
  | succ d ih =>
    intro i n hi hn
    obtain ⟨n, rfl⟩ : ∃ k, n = k + 1 := ⟨n - 1, by omega⟩
    rw [f_X1_worthOf_70]
    have h7 := w.f (j := i) (by omega) (by omega)
    have hc : ¬ ((vF V : Int) ≤ i) := by omega
    have e := ih (i + 1) n (by omega) (by omega)
    rw [near_succ, heads_succ] at e
    by_cases h1 : (i : Int) = f
    · obtain rfl : i = f := by omega
      simp only [if_true, Int.add_zero] at e
      simp (disch := omega) only [↓kC R, ↓kT R, ↓kF R, ↓kL R, ↓kLk R, ↓kL0 R, ↓kL1 R, ↓kL2 R, ↓kL3 R, ↓kL4 R, ↓kL5 R, ↓kA0 R, ↓kA1 R, ↓kA2 R, ↓kA3 R, ↓kA4 R, ↓kA5 R, ↓kA6 R, ↓kA7 R, ↓kA8 R, ↓kA9 R, ↓kX0 R, ↓kX1 R, ↓kX2 R, ↓kX3 R, ↓kX4 R, ↓kX5 R, ↓kX6 R, ↓kX7 R, ↓kX8 R, ↓kX1m R, ↓kY0 R, ↓kY1 R, ↓kY2 R, ↓kY0m R, ↓kY1m R, ↓reduceIte, if_true, if_false, Option.bind_some, b2_some, il0, il1, il2, il3, il4, il5, il6, il7, il8, il9, il10, il11, il12, il13, il14, il15, il16, il17, il18, il19, il20, il21, il22, il23, il24, il25, il26, il27, il28, il29, il30, il31, il32, il33, il36, il38, il39, il40, il41, il48, il50, il51, il57, il59, il60, il61, il62, il63, il70, il96, il99, il100, il101, il102, il103, il104, il105, il106, il107, il108, il109, il110, il111, il112, il115, il116, il120, il121, il124, il200, il240, il255, il288, il360, il420, il999, il1000, il114292, il152755, il402789, il435589, il463922, il533611, il631470, iz_add, iz_sub, iz_mul, iz_neg, iz_le, iz_lt, iz_eq, hc]
      exact e
    · by_cases h2 : va V 7 i = t
      · simp only [if_neg h1, if_pos h2] at e
        simp (disch := omega) only [↓kC R, ↓kT R, ↓kF R, ↓kL R, ↓kLk R, ↓kL0 R, ↓kL1 R, ↓kL2 R, ↓kL3 R, ↓kL4 R, ↓kL5 R, ↓kA0 R, ↓kA1 R, ↓kA2 R, ↓kA3 R, ↓kA4 R, ↓kA5 R, ↓kA6 R, ↓kA7 R, ↓kA8 R, ↓kA9 R, ↓kX0 R, ↓kX1 R, ↓kX2 R, ↓kX3 R, ↓kX4 R, ↓kX5 R, ↓kX6 R, ↓kX7 R, ↓kX8 R, ↓kX1m R, ↓kY0 R, ↓kY1 R, ↓kY2 R, ↓kY0m R, ↓kY1m R, ↓reduceIte, if_true, if_false, Option.bind_some, b2_some, il0, il1, il2, il3, il4, il5, il6, il7, il8, il9, il10, il11, il12, il13, il14, il15, il16, il17, il18, il19, il20, il21, il22, il23, il24, il25, il26, il27, il28, il29, il30, il31, il32, il33, il36, il38, il39, il40, il41, il48, il50, il51, il57, il59, il60, il61, il62, il63, il70, il96, il99, il100, il101, il102, il103, il104, il105, il106, il107, il108, il109, il110, il111, il112, il115, il116, il120, il121, il124, il200, il240, il255, il288, il360, il420, il999, il1000, il114292, il152755, il402789, il435589, il463922, il533611, il631470, iz_add, iz_sub, iz_mul, iz_neg, iz_le, iz_lt, iz_eq, hc, h1, h2]
        rw [Int.add_assoc]
        exact e
      · simp only [if_neg h1, if_neg h2, Int.add_zero] at e
        simp (disch := omega) only [↓kC R, ↓kT R, ↓kF R, ↓kL R, ↓kLk R, ↓kL0 R, ↓kL1 R, ↓kL2 R, ↓kL3 R, ↓kL4 R, ↓kL5 R, ↓kA0 R, ↓kA1 R, ↓kA2 R, ↓kA3 R, ↓kA4 R, ↓kA5 R, ↓kA6 R, ↓kA7 R, ↓kA8 R, ↓kA9 R, ↓kX0 R, ↓kX1 R, ↓kX2 R, ↓kX3 R, ↓kX4 R, ↓kX5 R, ↓kX6 R, ↓kX7 R, ↓kX8 R, ↓kX1m R, ↓kY0 R, ↓kY1 R, ↓kY2 R, ↓kY0m R, ↓kY1m R, ↓reduceIte, if_true, if_false, Option.bind_some, b2_some, il0, il1, il2, il3, il4, il5, il6, il7, il8, il9, il10, il11, il12, il13, il14, il15, il16, il17, il18, il19, il20, il21, il22, il23, il24, il25, il26, il27, il28, il29, il30, il31, il32, il33, il36, il38, il39, il40, il41, il48, il50, il51, il57, il59, il60, il61, il62, il63, il70, il96, il99, il100, il101, il102, il103, il104, il105, il106, il107, il108, il109, il110, il111, il112, il115, il116, il120, il121, il124, il200, il240, il255, il288, il360, il420, il999, il1000, il114292, il152755, il402789, il435589, il463922, il533611, il631470, iz_add, iz_sub, iz_mul, iz_neg, iz_le, iz_lt, iz_eq, hc, h1, h2]
        exact e
theorem l_worth_18 (R : RepC h c p V) (w : WF V) (hN : 200 ≤ N) {f : Nat} {t : Int} (hf : f < vF V) (ht : 0 ≤ t ∧ t < 4) : ∀ (d i n : Nat), i + d = 3 → d < n → f_X1_worthOf_18 N n c (iz f) (iz t) (iz (-dues V f t - va V 2 t + likesum V f t i)) (iz i) h = some (iz (worth V f t), h) := by
  intro d
  have hF := w.F
  have h5 := w.f (j := f) (by omega) (by omega)
  induction d with
  | zero =>
    intro i n hi hn
    obtain ⟨n, rfl⟩ : ∃ k, n = k + 1 := ⟨n - 1, by omega⟩
    rw [f_X1_worthOf_18]
    have hi : i = 3 := by omega
    subst hi
    have e := l_worth_70 R w hN hf ht (vF V) 0 N (by omega) (by omega)
    simp only [nearsum, heads, sm, Int.add_zero] at e
    simp (disch := omega) only [if_true, if_false, Option.bind_some, b2_some, il0, il1, il2, il3, il4, il5, il6, il7, il8, il9, il10, il11, il12, il13, il14, il15, il16, il17, il18, il19, il20, il21, il22, il23, il24, il25, il26, il27, il28, il29, il30, il31, il32, il33, il36, il38, il39, il40, il41, il48, il50, il51, il57, il59, il60, il61, il62, il63, il70, il96, il99, il100, il101, il102, il103, il104, il105, il106, il107, il108, il109, il110, il111, il112, il115, il116, il120, il121, il124, il200, il240, il255, il288, il360, il420, il999, il1000, il114292, il152755, il402789, il435589, il463922, il533611, il631470, iz_add, iz_sub, iz_mul, iz_neg, iz_le, iz_lt, iz_eq, if_pos]
    exact e
  | succ d ih =>
    intro i n hi hn
    obtain ⟨n, rfl⟩ : ∃ k, n = k + 1 := ⟨n - 1, by omega⟩
    rw [f_X1_worthOf_18]
    have hc : ¬ ((3 : Int) ≤ i) := by omega
    have e := ih (i + 1) n (by omega) (by omega)
    rw [like_succ] at e
    simp (disch := omega) only [rL R, rL0 R, rY0 R, rA1 R, rX1 R, rA5 R, rX5 R, if_true, if_false, Option.bind_some, b2_some, il0, il1, il2, il3, il4, il5, il6, il7, il8, il9, il10, il11, il12, il13, il14, il15, il16, il17, il18, il19, il20, il21, il22, il23, il24, il25, il26, il27, il28, il29, il30, il31, il32, il33, il36, il38, il39, il40, il41, il48, il50, il51, il57, il59, il60, il61, il62, il63, il70, il96, il99, il100, il101, il102, il103, il104, il105, il106, il107, il108, il109, il110, il111, il112, il115, il116, il120, il121, il124, il200, il240, il255, il288, il360, il420, il999, il1000, il114292, il152755, il402789, il435589, il463922, il533611, il631470, iz_add, iz_sub, iz_mul, iz_neg, iz_le, iz_lt, iz_eq, if_neg hc]
    rw [Int.add_assoc]
    exact e
theorem l_worth (R : RepC h c p V) (w : WF V) (hN : 200 ≤ N) {f : Nat} {t : Int} (hf : f < vF V) (ht : 0 ≤ t ∧ t < 4) : f_X1_worthOf N c (iz f) (iz t) h = some (iz (worth V f t), h) := by
  have hF := w.F
  rw [f_X1_worthOf]
  simp (disch := omega) only [rC R, l_dues R w hN, rA2 R, rX2 R, if_true, if_false, Option.bind_some, b2_some, il0, il1, il2, il3, il4, il5, il6, il7, il8, il9, il10, il11, il12, il13, il14, il15, il16, il17, il18, il19, il20, il21, il22, il23, il24, il25, il26, il27, il28, il29, il30, il31, il32, il33, il36, il38, il39, il40, il41, il48, il50, il51, il57, il59, il60, il61, il62, il63, il70, il96, il99, il100, il101, il102, il103, il104, il105, il106, il107, il108, il109, il110, il111, il112, il115, il116, il120, il121, il124, il200, il240, il255, il288, il360, il420, il999, il1000, il114292, il152755, il402789, il435589, il463922, il533611, il631470, iz_add, iz_sub, iz_mul, iz_neg, iz_le, iz_lt, iz_eq]
  have e := l_worth_18 R w hN hf ht 3 0 N (by omega) (by omega)
  simp only [likesum, sm, Int.add_zero] at e
  exact e
theorem l_hasRoom (R : RepC h c p V) (w : WF V) (hN : 200 ≤ N) {t : Int} (ht : 0 ≤ t ∧ t < 4) : f_X1_hasRoom N c (iz t) h = some (iz (if cnt V t < va V 0 t then 1 else 0), h) := by
  have hF := w.F
  have h0 := w.t ht.1 ht.2
  have hb := cnt_bd (V := V) t
  rw [f_X1_hasRoom]
  simp (disch := omega) only [rC R, l_crowd R w hN ht, rA0 R, rX0 R, if_true, if_false, Option.bind_some, b2_some, il0, il1, il2, il3, il4, il5, il6, il7, il8, il9, il10, il11, il12, il13, il14, il15, il16, il17, il18, il19, il20, il21, il22, il23, il24, il25, il26, il27, il28, il29, il30, il31, il32, il33, il36, il38, il39, il40, il41, il48, il50, il51, il57, il59, il60, il61, il62, il63, il70, il96, il99, il100, il101, il102, il103, il104, il105, il106, il107, il108, il109, il110, il111, il112, il115, il116, il120, il121, il124, il200, il240, il255, il288, il360, il420, il999, il1000, il114292, il152755, il402789, il435589, il463922, il533611, il631470, iz_add, iz_sub, iz_mul, iz_neg, iz_le, iz_lt, iz_eq]
  by_cases h1 : va V 0 t ≤ cnt V t
  · simp only [if_pos h1, if_neg (Int.not_lt.mpr h1)]
  · simp only [if_neg h1, if_pos (Int.not_le.mp h1)]
theorem l_canGo (R : RepC h c p V) (w : WF V) (hN : 200 ≤ N) {f t : Int} (hf : 0 ≤ f ∧ f < 8) (ht : 0 ≤ t ∧ t < 4) : (canGo V f t → f_X1_canGo N c (iz f) (iz t) h = some (iz 1, h)) ∧ (¬ canGo V f t → f_X1_canGo N c (iz f) (iz t) h = some (iz 0, h)) := by
  have h0 := w.t ht.1 ht.2
  have h6 := w.f hf.1 hf.2
  rw [f_X1_canGo]
  simp (disch := omega) only [rA7 R, rX7 R, rA6 R, rX6 R, rA3 R, rX3 R, rC R, l_hasRoom R w hN ht, if_true, if_false, Option.bind_some, b2_some, il0, il1, il2, il3, il4, il5, il6, il7, il8, il9, il10, il11, il12, il13, il14, il15, il16, il17, il18, il19, il20, il21, il22, il23, il24, il25, il26, il27, il28, il29, il30, il31, il32, il33, il36, il38, il39, il40, il41, il48, il50, il51, il57, il59, il60, il61, il62, il63, il70, il96, il99, il100, il101, il102, il103, il104, il105, il106, il107, il108, il109, il110, il111, il112, il115, il116, il120, il121, il124, il200, il240, il255, il288, il360, il420, il999, il1000, il114292, il152755, il402789, il435589, il463922, il533611, il631470, iz_add, iz_sub, iz_mul, iz_neg, iz_le, iz_lt, iz_eq]
  unfold canGo
  constructor
  · intro hc
    simp (disch := omega) only [if_neg hc.1, if_neg (Int.not_lt.mpr hc.2.1), if_pos hc.2.2, if_true, if_false, Option.bind_some, b2_some, il0, il1, il2, il3, il4, il5, il6, il7, il8, il9, il10, il11, il12, il13, il14, il15, il16, il17, il18, il19, il20, il21, il22, il23, il24, il25, il26, il27, il28, il29, il30, il31, il32, il33, il36, il38, il39, il40, il41, il48, il50, il51, il57, il59, il60, il61, il62, il63, il70, il96, il99, il100, il101, il102, il103, il104, il105, il106, il107, il108, il109, il110, il111, il112, il115, il116, il120, il121, il124, il200, il240, il255, il288, il360, il420, il999, il1000, il114292, il152755, il402789, il435589, il463922, il533611, il631470, iz_add, iz_sub, iz_mul, iz_neg, iz_le, iz_lt, iz_eq, if_neg]
  · intro hc
    by_cases h1 : va V 7 f = t
    · simp only [if_pos h1]
    · by_cases h2 : va V 6 f < va V 3 t
      · simp only [if_neg h1, if_pos h2]
      · by_cases h3 : cnt V t < va V 0 t
        · exact absurd ⟨h1, Int.not_lt.mp h2, h3⟩ hc
        · simp (disch := omega) only [if_neg h1, if_neg h2, if_neg h3, if_true, if_false, Option.bind_some, b2_some, il0, il1, il2, il3, il4, il5, il6, il7, il8, il9, il10, il11, il12, il13, il14, il15, il16, il17, il18, il19, il20, il21, il22, il23, il24, il25, il26, il27, il28, il29, il30, il31, il32, il33, il36, il38, il39, il40, il41, il48, il50, il51, il57, il59, il60, il61, il62, il63, il70, il96, il99, il100, il101, il102, il103, il104, il105, il106, il107, il108, il109, il110, il111, il112, il115, il116, il120, il121, il124, il200, il240, il255, il288, il360, il420, il999, il1000, il114292, il152755, il402789, il435589, il463922, il533611, il631470, iz_add, iz_sub, iz_mul, iz_neg, iz_le, iz_lt, iz_eq, if_pos]
end
