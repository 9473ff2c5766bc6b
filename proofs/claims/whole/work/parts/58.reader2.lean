/-! letters and words -/
def i8 (c : Int) : Int := if c < 128 then c else c - 256
theorem i8_dec : ∀ c : Nat, c < 256 → (Int32.toInt8 (iz c)).toInt32 = iz (i8 c) := by decide +kernel
def strB (k j : Nat) : Int := match k with
  | 1 => [104, 105, 101].getD j 0
  | 2 => [109, 100, 111].getD j 0
  | 3 => [115, 105, 116, 102].getD j 0
  | _ => [60, 61, 62].getD j 0
def strL (k : Nat) : Nat := if k = 3 then 4 else 3
/-- which of a string's letters stands at P -/
def letS (x : Nat → Int) (L P k : Nat) : Int := if P < L then (match fs (fun j => decide (strB k j = x P)) 0 (strL k) with
  | some j => j
  | none => -1) else -1
theorem lB_dec : ∀ k : Nat, k < 5 → 1 ≤ k → ∀ j : Nat, j < strL k → lB k (iz j) = some (iz (strB k j)) := by decide +kernel
theorem bN_dec : ∀ k : Nat, k < 5 → 1 ≤ k → bN k = some (iz (strL k)) := by decide +kernel
theorem strB_bd : ∀ k : Nat, k < 5 → 1 ≤ k → ∀ j : Nat, j < 4 → 0 ≤ strB k j ∧ strB k j ≤ 127 := by decide +kernel
theorem strL_bd (k : Nat) : strL k ≤ 4 ∧ 1 ≤ strL k := by unfold strL; split <;> omega
section
variable {h : Mem} {x : Nat → Int} {L P N : Nat}
theorem l_indexOfChar {k : Nat} (hk : 1 ≤ k ∧ k < 5) {c : Int} (hc : 0 ≤ c ∧ c ≤ 255) : ∀ (d i n : Nat), i + d = strL k → d < n → f_J1_indexOfChar_4cfef_7 N n k (iz (strL k)) (iz (i8 c)) (iz i) h = some (iz (match fs (fun j => decide (strB k j = c)) i d with
    | some j => j
    | none => -1), h) := by
  intro d
  have hl := strL_bd k
  induction d with
  | zero =>
    intro i n hi hn
    obtain ⟨n, rfl⟩ : ∃ k, n = k + 1 := ⟨n - 1, by omega⟩
    rw [f_J1_indexOfChar_4cfef_7]
    obtain rfl : i = strL k := by omega
    simp (disch := omega) only [if_true, if_false, Option.bind_some, b2_some, il0, il1, il2, il3, il4, il5, il6, il7, il8, il9, il10, il11, il12, il13, il14, il15, il16, il17, il18, il19, il20, il21, il22, il23, il24, il25, il26, il27, il28, il29, il30, il31, il32, il33, il36, il38, il39, il40, il41, il48, il50, il51, il57, il59, il60, il61, il62, il63, il70, il96, il99, il100, il101, il102, il103, il104, il105, il106, il107, il108, il109, il110, il111, il112, il115, il116, il120, il121, il124, il200, il240, il255, il288, il360, il420, il999, il1000, il114292, il152755, il402789, il435589, il463922, il533611, il631470, iz_add, iz_sub, iz_mul, iz_neg, iz_le, iz_lt, iz_eq, Int.le_refl, ↓reduceIte]
    rfl
  | succ d ih =>
    intro i n hi hn
    obtain ⟨n, rfl⟩ : ∃ k, n = k + 1 := ⟨n - 1, by omega⟩
    rw [f_J1_indexOfChar_4cfef_7]
    have hc : ¬ ((strL k : Int) ≤ i) := by omega
    have e := ih (i + 1) n (by omega) (by omega)
    have e1 := lB_dec k hk.2 hk.1 i (by omega)
    have b1 := strB_bd k hk.2 hk.1 i (by omega)
    have hi8 : -128 ≤ i8 c ∧ i8 c ≤ 127 := by unfold i8; split <;> omega
    rw [fs]
    by_cases h1 : strB k i = c
    · have h2 : strB k i = i8 c := by unfold i8; rw [if_pos (by omega)]; exact h1
      rw [if_pos (show decide (strB k i = c) = true by simp [h1])]
      simp (disch := omega) only [il0, il1, il2, il3, il4, il5, il6, il7, il8, il9, il10, il11, il12, il13, il14, il15, il16, il17, il18, il19, il20, il21, il22, il23, il24, il25, il26, il27, il28, il29, il30, il31, il32, il33, il36, il38, il39, il40, il41, il48, il50, il51, il57, il59, il60, il61, il62, il63, il70, il96, il99, il100, il101, il102, il103, il104, il105, il106, il107, il108, il109, il110, il111, il112, il115, il116, il120, il121, il124, il200, il240, il255, il288, il360, il420, il999, il1000, il114292, il152755, il402789, il435589, il463922, il533611, il631470, iz_le, hc, ↓bo e1, iz_eq, h2, ↓reduceIte]
    · have h2 : ¬ (strB k i = i8 c) := by unfold i8; split <;> omega
      rw [if_neg (show ¬ (decide (strB k i = c) = true) by simp [h1])]
      simp (disch := omega) only [il0, il1, il2, il3, il4, il5, il6, il7, il8, il9, il10, il11, il12, il13, il14, il15, il16, il17, il18, il19, il20, il21, il22, il23, il24, il25, il26, il27, il28, il29, il30, il31, il32, il33, il36, il38, il39, il40, il41, il48, il50, il51, il57, il59, il60, il61, il62, il63, il70, il96, il99, il100, il101, il102, il103, il104, il105, il106, il107, il108, il109, il110, il111, il112, il115, il116, il120, il121, il124, il200, il240, il255, il288, il360, il420, il999, il1000, il114292, il152755, il402789, il435589, il463922, il533611, il631470, iz_le, hc, ↓bo e1, iz_eq, h2, ↓reduceIte, iz_add]
      simpa using e
theorem l_indexOf {k : Nat} (hk : 1 ≤ k ∧ k < 5) {c : Int} (hc : 0 ≤ c ∧ c ≤ 255) (hN : 200 ≤ N) : f_J0_indexOf_0f7a4 N k (iz c) h = some (iz (match fs (fun j => decide (strB k j = c)) 0 (strL k) with
    | some j => j
    | none => -1), h) := by
  have hl := strL_bd k
  have e := l_indexOfChar (N := N) (h := h) hk hc (strL k) 0 N (by omega) (by omega)
  have e8 : (Int32.toInt8 (iz c)).toInt32 = iz (i8 c) := by
    have := i8_dec c.toNat (by omega)
    rw [show ((c.toNat : Nat) : Int) = c by omega] at this
    exact this
  have s1 : sV k = some k := if_pos hk.2
  have s2 := bN_dec k hk.2 hk.1
  have l1 : f_J0_isLatin1_aae02 N k h = some (iz 1, h) := by unfold f_J0_isLatin1_aae02; rw [s1]; rfl
  have l2 : f_J0_coder_7d493 N k h = some (iz 0, h) := by unfold f_J0_coder_7d493; rw [s1]; rfl
  have sh0 : ∀ q : Nat, q ≤ 4 → iz q >>> (iz 0 &&& iz 31) = iz q := by decide +kernel
  have l3 : f_J0_length_8abf5 N k h = some (iz (strL k), h) := by
    unfold f_J0_length_8abf5
    simp only [↓bo s1, ↓bo s2, ↓bq l2, il0, il1, il2, il3, il4, il5, il6, il7, il8, il9, il10, il11, il12, il13, il14, il15, il16, il17, il18, il19, il20, il21, il22, il23, il24, il25, il26, il27, il28, il29, il30, il31, il32, il33, il36, il38, il39, il40, il41, il48, il50, il51, il57, il59, il60, il61, il62, il63, il70, il96, il99, il100, il101, il102, il103, il104, il105, il106, il107, il108, il109, il110, il111, il112, il115, il116, il120, il121, il124, il200, il240, il255, il288, il360, il420, il999, il1000, il114292, il152755, il402789, il435589, il463922, il533611, il631470, sh0 (strL k) hl.1]
  have c1 : f_J1_canEncode_9a6ad N (iz c) h = some (iz 1, h) := by
    unfold f_J1_canEncode_9a6ad
    have h1 : ¬ (c < 0) := by omega
    have h2 : ¬ (255 < c) := by omega
    simp (disch := omega) only [il0, il1, il2, il3, il4, il5, il6, il7, il8, il9, il10, il11, il12, il13, il14, il15, il16, il17, il18, il19, il20, il21, il22, il23, il24, il25, il26, il27, il28, il29, il30, il31, il32, il33, il36, il38, il39, il40, il41, il48, il50, il51, il57, il59, il60, il61, il62, il63, il70, il96, il99, il100, il101, il102, il103, il104, il105, il106, il107, il108, il109, il110, il111, il112, il115, il116, il120, il121, il124, il200, il240, il255, il288, il360, il420, il999, il1000, il114292, il152755, il402789, il435589, il463922, il533611, il631470, iz_lt, h1, h2, ↓reduceIte]
  have h3 : ¬ ((1 : Int) = 0) := by decide
  have h4 : ¬ ((strL k : Int) < strL k) := by omega
  have h5 : ¬ ((0 : Int) < 0) := by decide
  have h6 : (0 : Int) < strL k := by omega
  unfold f_J0_indexOf_0f7a4 f_J0_indexOf_7cf53 f_J1_indexOf_4cfef f_J1_indexOfChar_4cfef
  simp (disch := omega) only [↓bo s1, ↓bq l1, ↓bq l3, ↓bq c1, ↓bo s2, il0, il1, il2, il3, il4, il5, il6, il7, il8, il9, il10, il11, il12, il13, il14, il15, il16, il17, il18, il19, il20, il21, il22, il23, il24, il25, il26, il27, il28, il29, il30, il31, il32, il33, il36, il38, il39, il40, il41, il48, il50, il51, il57, il59, il60, il61, il62, il63, il70, il96, il99, il100, il101, il102, il103, il104, il105, il106, il107, il108, il109, il110, il111, il112, il115, il116, il120, il121, il124, il200, il240, il255, il288, il360, il420, il999, il1000, il114292, il152755, il402789, il435589, il463922, il533611, il631470, iz_eq, iz_lt, h3, h4, h5, h6, ↓reduceIte, e8]
  rw [show f_J1_indexOfChar_4cfef_7 N N k (iz (strL k)) (iz (i8 c)) (iz 0) h = _ from e]
  rfl
theorem letS_bd (k : Nat) : -1 ≤ letS x L P k ∧ letS x L P k ≤ 3 := by
  have hl := strL_bd k
  unfold letS
  split
  · split
    · rename_i j hj
      have := fs_lt _ _ _ hj
      omega
    · omega
  · omega
theorem l_letter (r : RD h x L P) {k : Nat} (hk : 1 ≤ k ∧ k < 5) (hN : 200 ≤ N) : f_X5_letter N 44 k h = some (iz (letS x L P k), if 0 ≤ letS x L P k then pm h (P + 1) else h) := by
  have hL := r.2.2.2.2.2.2.1
  have hP := r.2.2.2.2.2.2.2.1
  have hx := r.2.2.2.2.2.2.2.2 P
  have hb := letS_bd (x := x) (L := L) (P := P) k
  have e28 : ∀ s : Int, -1 ≤ s → s ≤ 3 → f_X5_letter_28 N 44 (iz s) h = some (iz s, if 0 ≤ s then pm h (P + 1) else h) := by
    intro s h1 h2
    unfold f_X5_letter_28
    by_cases h3 : s < 0
    · have h4 : ¬ (0 ≤ s) := by omega
      simp (disch := omega) only [if_true, if_false, Option.bind_some, b2_some, il0, il1, il2, il3, il4, il5, il6, il7, il8, il9, il10, il11, il12, il13, il14, il15, il16, il17, il18, il19, il20, il21, il22, il23, il24, il25, il26, il27, il28, il29, il30, il31, il32, il33, il36, il38, il39, il40, il41, il48, il50, il51, il57, il59, il60, il61, il62, il63, il70, il96, il99, il100, il101, il102, il103, il104, il105, il106, il107, il108, il109, il110, il111, il112, il115, il116, il120, il121, il124, il200, il240, il255, il288, il360, il420, il999, il1000, il114292, il152755, il402789, il435589, il463922, il533611, il631470, iz_add, iz_sub, iz_mul, iz_neg, iz_le, iz_lt, iz_eq, h3, h4, ↓reduceIte]
    · have h4 : 0 ≤ s := by omega
      simp (disch := omega) only [↓kP r, if_true, if_false, Option.bind_some, b2_some, il0, il1, il2, il3, il4, il5, il6, il7, il8, il9, il10, il11, il12, il13, il14, il15, il16, il17, il18, il19, il20, il21, il22, il23, il24, il25, il26, il27, il28, il29, il30, il31, il32, il33, il36, il38, il39, il40, il41, il48, il50, il51, il57, il59, il60, il61, il62, il63, il70, il96, il99, il100, il101, il102, il103, il104, il105, il106, il107, il108, il109, il110, il111, il112, il115, il116, il120, il121, il124, il200, il240, il255, il288, il360, il420, il999, il1000, il114292, il152755, il402789, il435589, il463922, il533611, il631470, iz_add, iz_sub, iz_mul, iz_neg, iz_le, iz_lt, iz_eq, h3, h4, ↓reduceIte]
      rw [show (P : Int) + 1 = ((P + 1 : Nat) : Int) by omega, kSP r]
  unfold f_X5_letter
  by_cases h1 : P < L
  · have h2 : ¬ ((L : Int) ≤ P) := by omega
    have e := l_indexOf (N := N) (h := h) hk hx hN
    have s1 : sV k = some k := if_pos hk.2
    have e2 : letS x L P k = (match fs (fun j => decide (strB k j = x P)) 0 (strL k) with
      | some j => (j : Int)
      | none => -1) := if_pos h1
    rw [← e2] at e
    simp (disch := omega) only [↓kP r, ↓kLn r, ↓k45 r, ↓kTx r, ↓reduceIte, if_true, if_false, Option.bind_some, b2_some, il0, il1, il2, il3, il4, il5, il6, il7, il8, il9, il10, il11, il12, il13, il14, il15, il16, il17, il18, il19, il20, il21, il22, il23, il24, il25, il26, il27, il28, il29, il30, il31, il32, il33, il36, il38, il39, il40, il41, il48, il50, il51, il57, il59, il60, il61, il62, il63, il70, il96, il99, il100, il101, il102, il103, il104, il105, il106, il107, il108, il109, il110, il111, il112, il115, il116, il120, il121, il124, il200, il240, il255, il288, il360, il420, il999, il1000, il114292, il152755, il402789, il435589, il463922, il533611, il631470, iz_add, iz_sub, iz_mul, iz_neg, iz_le, iz_lt, iz_eq, h2, ↓bo s1, ↓bq e]
    exact e28 _ hb.1 hb.2
  · have h2 : (L : Int) ≤ P := by omega
    have e2 : letS x L P k = -1 := if_neg h1
    rw [e2]
    simp (disch := omega) only [↓kP r, ↓kLn r, ↓reduceIte, if_true, if_false, Option.bind_some, b2_some, il0, il1, il2, il3, il4, il5, il6, il7, il8, il9, il10, il11, il12, il13, il14, il15, il16, il17, il18, il19, il20, il21, il22, il23, il24, il25, il26, il27, il28, il29, il30, il31, il32, il33, il36, il38, il39, il40, il41, il48, il50, il51, il57, il59, il60, il61, il62, il63, il70, il96, il99, il100, il101, il102, il103, il104, il105, il106, il107, il108, il109, il110, il111, il112, il115, il116, il120, il121, il124, il200, il240, il255, il288, il360, il420, il999, il1000, il114292, il152755, il402789, il435589, il463922, il533611, il631470, iz_add, iz_sub, iz_mul, iz_neg, iz_le, iz_lt, iz_eq, h2]
    exact e28 (-1) (by omega) (by omega)
end
