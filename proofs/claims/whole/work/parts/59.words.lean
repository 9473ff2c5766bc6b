def wb (q : Nat) : Int := [108, 105, 107, 101, 110, 101, 97, 114, 99, 111, 115, 116, 109, 105, 108, 101, 100, 117, 101, 115, 112, 105, 99, 107, 115, 104, 117, 110].getD q 0
/-- the letters of word w from its j-th on -/
def rstS (x : Nat → Int) (L w : Nat) : Nat → Nat → Nat → Int × Nat
  | 0, _, P => (w, P)
  | d + 1, j, P => if isAt x L P (wb (w * 4 + j)) = true then rstS x L w d (j + 1) (P + 1) else (-1, P)
def wordS (x : Nat → Int) (L P : Nat) : Int × Nat := match fs (fun w => isAt x L P (wb (w * 4))) 0 7 with
  | some w => rstS x L w 3 1 (P + 1)
  | none => (-1, P)
theorem wb_dec : ∀ q : Nat, q < 28 → lB 0 (iz q) = some (iz (wb q)) ∧ 97 ≤ wb q ∧ wb q ≤ 122 := by decide +kernel
theorem ch_dec : ∀ b : Nat, b < 128 → (Int32.toUInt32 (iz b &&& iz 255) % 65536).toInt32 = iz b ∧ vp_nar .char (iz b) = iz b := by decide +kernel
section
variable {h : Mem} {x : Nat → Int} {L P N : Nat}
theorem rc_ch {b : Int} (hb : 0 ≤ b ∧ b < 128) : rc (iz b) h = some (iz b, h) := by
  have := ch_dec b.toNat (by omega)
  rw [show ((b.toNat : Nat) : Int) = b by omega] at this
  unfold rc
  rw [if_pos this.2]
theorem l_charAt {q : Nat} (hq : q < 28) : f_J0_charAt_5068e N 0 (iz q) h = some (iz (wb q), h) := by
  have s1 : sV 0 = some 0 := rfl
  have l1 : f_J0_isLatin1_aae02 N 0 h = some (iz 1, h) := by unfold f_J0_isLatin1_aae02; rw [s1]; rfl
  have s2 : bN 0 = some (iz 28) := by decide
  have s3 := wb_dec q hq
  have h1 : ¬ ((q : Int) < 0) := by omega
  have h2 : (q : Int) < 28 := by omega
  have h3 : ¬ ((1 : Int) = 0) := by decide
  have c1 : f_J0_checkIndex_df160 N (iz q) (iz 28) h = some h := by
    unfold f_J0_checkIndex_df160 f_J3_checkIndex_8e157
    simp (disch := omega) only [il0, il1, il2, il3, il4, il5, il6, il7, il8, il9, il10, il11, il12, il13, il14, il15, il16, il17, il18, il19, il20, il21, il22, il23, il24, il25, il26, il27, il28, il29, il30, il31, il32, il33, il36, il38, il39, il40, il41, il48, il50, il51, il57, il59, il60, il61, il62, il63, il70, il96, il99, il100, il101, il102, il103, il104, il105, il106, il107, il108, il109, il110, il111, il112, il115, il116, il120, il121, il124, il200, il240, il255, il288, il360, il420, il999, il1000, il114292, il152755, il402789, il435589, il463922, il533611, il631470, iz_lt, h1, h2, ↓reduceIte, b2_some]
  have c2 : (Int32.toUInt32 (iz (wb q) &&& iz 255) % 65536).toInt32 = iz (wb q) := by
    have := ch_dec (wb q).toNat (by omega)
    rw [show (((wb q).toNat : Nat) : Int) = wb q by omega] at this
    exact this.1
  have c3 := rc_ch (h := h) (b := wb q) (by omega)
  unfold f_J0_charAt_5068e f_J1_charAt_3b067
  simp (disch := omega) only [↓bo s1, ↓bq l1, il0, il1, il2, il3, il4, il5, il6, il7, il8, il9, il10, il11, il12, il13, il14, il15, il16, il17, il18, il19, il20, il21, il22, il23, il24, il25, il26, il27, il28, il29, il30, il31, il32, il33, il36, il38, il39, il40, il41, il48, il50, il51, il57, il59, il60, il61, il62, il63, il70, il96, il99, il100, il101, il102, il103, il104, il105, il106, il107, il108, il109, il110, il111, il112, il115, il116, il120, il121, il124, il200, il240, il255, il288, il360, il420, il999, il1000, il114292, il152755, il402789, il435589, il463922, il533611, il631470, iz_eq, h3, ↓reduceIte, ↓bo s2, ↓bo c1, ↓bo s3.1, c2, c3, b2_some]
theorem l_length0 : f_J0_length_8abf5 N 0 h = some (iz 28, h) := by
  have s1 : sV 0 = some 0 := rfl
  have s2 : bN 0 = some (iz 28) := by decide
  have l2 : f_J0_coder_7d493 N 0 h = some (iz 0, h) := by unfold f_J0_coder_7d493; rw [s1]; rfl
  have sh : iz 28 >>> (iz 0 &&& iz 31) = iz 28 := by decide
  unfold f_J0_length_8abf5
  simp only [↓bo s1, ↓bo s2, ↓bq l2, il0, il1, il2, il3, il4, il5, il6, il7, il8, il9, il10, il11, il12, il13, il14, il15, il16, il17, il18, il19, il20, il21, il22, il23, il24, il25, il26, il27, il28, il29, il30, il31, il32, il33, il36, il38, il39, il40, il41, il48, il50, il51, il57, il59, il60, il61, il62, il63, il70, il96, il99, il100, il101, il102, il103, il104, il105, il106, il107, il108, il109, il110, il111, il112, il115, il116, il120, il121, il124, il200, il240, il255, il288, il360, il420, il999, il1000, il114292, il152755, il402789, il435589, il463922, il533611, il631470, sh]
theorem l_word_33 (h0 : Mem) {w : Nat} (hw : w < 7) : ∀ (d j n P : Nat), j + d = 4 → d < n → RD (pm h0 P) x L P → f_X5_word_33 N n 44 (iz w) (iz j) (pm h0 P) = some (iz (rstS x L w d j P).1, pm h0 (rstS x L w d j P).2) := by
  intro d
  induction d with
  | zero =>
    intro j n P hj hn r
    obtain ⟨n, rfl⟩ : ∃ k, n = k + 1 := ⟨n - 1, by omega⟩
    rw [f_X5_word_33]
    obtain rfl : j = 4 := by omega
    simp (disch := omega) only [if_true, if_false, Option.bind_some, b2_some, il0, il1, il2, il3, il4, il5, il6, il7, il8, il9, il10, il11, il12, il13, il14, il15, il16, il17, il18, il19, il20, il21, il22, il23, il24, il25, il26, il27, il28, il29, il30, il31, il32, il33, il36, il38, il39, il40, il41, il48, il50, il51, il57, il59, il60, il61, il62, il63, il70, il96, il99, il100, il101, il102, il103, il104, il105, il106, il107, il108, il109, il110, il111, il112, il115, il116, il120, il121, il124, il200, il240, il255, il288, il360, il420, il999, il1000, il114292, il152755, il402789, il435589, il463922, il533611, il631470, iz_add, iz_sub, iz_mul, iz_neg, iz_le, iz_lt, iz_eq]
    rfl
  | succ d ih =>
    intro j n P hj hn r
    obtain ⟨n, rfl⟩ : ∃ k, n = k + 1 := ⟨n - 1, by omega⟩
    rw [f_X5_word_33]
    have hc : ¬ ((4 : Int) ≤ j) := by omega
    have s1 : sV 0 = some 0 := rfl
    have hq := wb_dec (w * 4 + j) (by omega)
    have e1 := l_charAt (N := N) (h := pm h0 P) (q := w * 4 + j) (by omega)
    rw [show ((w * 4 + j : Nat) : Int) = (w : Int) * 4 + j by omega] at e1
    have e2 := l_met (N := N) r (c := wb (w * 4 + j)) (by omega)
    have hL := r.2.2.2.2.2.2.1
    have h3 : ¬ ((1 : Int) = 0) := by decide
    rw [rstS]
    cases ha : isAt x L P (wb (w * 4 + j)) with
    | true =>
      rw [ha] at e2
      have hP : P < L := by
        have : P < L ∧ x P = wb (w * 4 + j) := by simpa [isAt] using ha
        exact this.1
      have r1 := pm_rd r (P' := P + 1) (by omega)
      rw [pm_pm] at r1
      have e := ih (j + 1) n (P + 1) (by omega) (by omega) r1
      simp (disch := omega) only [if_true, if_false, Option.bind_some, b2_some, il0, il1, il2, il3, il4, il5, il6, il7, il8, il9, il10, il11, il12, il13, il14, il15, il16, il17, il18, il19, il20, il21, il22, il23, il24, il25, il26, il27, il28, il29, il30, il31, il32, il33, il36, il38, il39, il40, il41, il48, il50, il51, il57, il59, il60, il61, il62, il63, il70, il96, il99, il100, il101, il102, il103, il104, il105, il106, il107, il108, il109, il110, il111, il112, il115, il116, il120, il121, il124, il200, il240, il255, il288, il360, il420, il999, il1000, il114292, il152755, il402789, il435589, il463922, il533611, il631470, iz_add, iz_sub, iz_mul, iz_neg, iz_le, iz_lt, iz_eq, hc, ↓bo s1, ↓bq e1, ↓k44 r, ↓bq e2, bi_t, h3, ↓reduceIte, pm_pm]
      exact e
    | false =>
      rw [ha] at e2
      simp (disch := omega) only [if_true, if_false, Option.bind_some, b2_some, il0, il1, il2, il3, il4, il5, il6, il7, il8, il9, il10, il11, il12, il13, il14, il15, il16, il17, il18, il19, il20, il21, il22, il23, il24, il25, il26, il27, il28, il29, il30, il31, il32, il33, il36, il38, il39, il40, il41, il48, il50, il51, il57, il59, il60, il61, il62, il63, il70, il96, il99, il100, il101, il102, il103, il104, il105, il106, il107, il108, il109, il110, il111, il112, il115, il116, il120, il121, il124, il200, il240, il255, il288, il360, il420, il999, il1000, il114292, il152755, il402789, il435589, il463922, il533611, il631470, iz_add, iz_sub, iz_mul, iz_neg, iz_le, iz_lt, iz_eq, hc, ↓bo s1, ↓bq e1, ↓k44 r, ↓bq e2, bi_f, ↓reduceIte, Bool.false_eq_true]
theorem l_word_2 (r : RD h x L P) (hN : 200 ≤ N) : ∀ (d i n : Nat), i + d = 7 → d < n → f_X5_word_2 N n 44 (iz i) h = some (iz (match fs (fun w => isAt x L P (wb (w * 4))) i d with
  | some w => rstS x L w 3 1 (P + 1)
  | none => (-1, P)).1, pm h (match fs (fun w => isAt x L P (wb (w * 4))) i d with
  | some w => rstS x L w 3 1 (P + 1)
  | none => (-1, P)).2) := by
  intro d
  have s1 : sV 0 = some 0 := rfl
  have e0 := l_length0 (N := N) (h := h)
  induction d with
  | zero =>
    intro i n hi hn
    obtain ⟨n, rfl⟩ : ∃ k, n = k + 1 := ⟨n - 1, by omega⟩
    rw [f_X5_word_2]
    obtain rfl : i = 7 := by omega
    have h1 : (28 : Int) ≤ 7 * 4 := by decide
    simp (disch := omega) only [if_true, if_false, Option.bind_some, b2_some, il0, il1, il2, il3, il4, il5, il6, il7, il8, il9, il10, il11, il12, il13, il14, il15, il16, il17, il18, il19, il20, il21, il22, il23, il24, il25, il26, il27, il28, il29, il30, il31, il32, il33, il36, il38, il39, il40, il41, il48, il50, il51, il57, il59, il60, il61, il62, il63, il70, il96, il99, il100, il101, il102, il103, il104, il105, il106, il107, il108, il109, il110, il111, il112, il115, il116, il120, il121, il124, il200, il240, il255, il288, il360, il420, il999, il1000, il114292, il152755, il402789, il435589, il463922, il533611, il631470, iz_add, iz_sub, iz_mul, iz_neg, iz_le, iz_lt, iz_eq, ↓bo s1, ↓bq e0, ↓reduceIte]
    show _ = some (iz (-1), pm h P)
    rw [pm_id r]
    rfl
  | succ d ih =>
    intro i n hi hn
    obtain ⟨n, rfl⟩ : ∃ k, n = k + 1 := ⟨n - 1, by omega⟩
    rw [f_X5_word_2]
    have hc : ¬ ((7 : Int) ≤ i) := by omega
    have hc2 : ¬ ((28 : Int) ≤ i * 4) := by omega
    have e := ih (i + 1) n (by omega) (by omega)
    have hq := wb_dec (i * 4) (by omega)
    have e1 := l_charAt (N := N) (h := h) (q := i * 4) (by omega)
    rw [show ((i * 4 : Nat) : Int) = (i : Int) * 4 by omega] at e1
    have e2 := l_met (N := N) r (c := wb (i * 4)) (by omega)
    have hL := r.2.2.2.2.2.2.1
    have h3 : ¬ ((1 : Int) = 0) := by decide
    rw [fs]
    cases ha : isAt x L P (wb (i * 4)) with
    | true =>
      rw [ha] at e2
      have hP : P < L := by
        have : P < L ∧ x P = wb (i * 4) := by simpa [isAt] using ha
        exact this.1
      have r1 := pm_rd r (P' := P + 1) (by omega)
      have e3 := l_word_33 (N := N) (x := x) (L := L) h (w := i) (by omega) 3 1 N (P + 1) (by omega) (by omega) r1
      simp (disch := omega) only [if_true, if_false, Option.bind_some, b2_some, il0, il1, il2, il3, il4, il5, il6, il7, il8, il9, il10, il11, il12, il13, il14, il15, il16, il17, il18, il19, il20, il21, il22, il23, il24, il25, il26, il27, il28, il29, il30, il31, il32, il33, il36, il38, il39, il40, il41, il48, il50, il51, il57, il59, il60, il61, il62, il63, il70, il96, il99, il100, il101, il102, il103, il104, il105, il106, il107, il108, il109, il110, il111, il112, il115, il116, il120, il121, il124, il200, il240, il255, il288, il360, il420, il999, il1000, il114292, il152755, il402789, il435589, il463922, il533611, il631470, iz_add, iz_sub, iz_mul, iz_neg, iz_le, iz_lt, iz_eq, hc2, ↓bo s1, ↓bq e0, ↓bq e1, ↓k44 r, ↓bq e2, bi_t, h3, ↓reduceIte]
      exact e3
    | false =>
      rw [ha] at e2
      simp (disch := omega) only [if_true, if_false, Option.bind_some, b2_some, il0, il1, il2, il3, il4, il5, il6, il7, il8, il9, il10, il11, il12, il13, il14, il15, il16, il17, il18, il19, il20, il21, il22, il23, il24, il25, il26, il27, il28, il29, il30, il31, il32, il33, il36, il38, il39, il40, il41, il48, il50, il51, il57, il59, il60, il61, il62, il63, il70, il96, il99, il100, il101, il102, il103, il104, il105, il106, il107, il108, il109, il110, il111, il112, il115, il116, il120, il121, il124, il200, il240, il255, il288, il360, il420, il999, il1000, il114292, il152755, il402789, il435589, il463922, il533611, il631470, iz_add, iz_sub, iz_mul, iz_neg, iz_le, iz_lt, iz_eq, hc2, ↓bo s1, ↓bq e0, ↓bq e1, ↓k44 r, ↓bq e2, bi_f, ↓reduceIte, Bool.false_eq_true]
      exact e
theorem l_word (r : RD h x L P) (hN : 200 ≤ N) : f_X5_word N 44 h = some (iz (wordS x L P).1, pm h (wordS x L P).2) := l_word_2 r hN 7 0 N (by omega) (by omega)
end
