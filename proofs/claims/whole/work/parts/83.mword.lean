def mw (w : Nat) : Int := [402789, 463922, 114292, 435589, 152755, 533611, 631470].getD w 0
def wdS (x : Nat → Int) (L w : Nat) : Nat → Nat → Nat → Bool × Nat
  | 0, _, P => (isAt x L P 32, if isAt x L P 32 = true then P + 1 else P)
  | d + 1, j, P => if isAt x L P (wb (w * 4 + j)) = true then wdS x L w d (j + 1) (P + 1) else (false, P)
theorem mw_dec : ∀ w : Nat, w < 7 → ∀ j : Nat, j < 4 → iz 96 + ((iz (mw w) >>> ((iz 5 * iz (3 - (j : Int))) &&& iz 31)) &&& iz 31) = iz (wb (w * 4 + j)) := by decide +kernel
theorem fd_19 {h0 h : Mem} {x : Nat → Int} {L b P : Nat} (s : PS h0 x L b h P) : fd h 19 (iz (P : Int)) = h := fd_id s.2.1.2.2.symm
theorem at2_id {h0 h : Mem} {x : Nat → Int} {L b P : Nat} {v : Int} (s : PS h0 x L b h P) (e : h.2.1 71 20 = iz v) : at2 h v P = h := by
  unfold at2
  rw [fd_id (j := 20) e.symm, fd_19 s]
section
variable {h0 : Mem} {x : Nat → Int} {L b N : Nat}
theorem m_num_16 : ∀ (d i n P : Nat) (v : Int) (h : Mem), i + d = 3 → d < n → PS h0 x L b h P → 0 ≤ v → h.2.1 71 20 = iz v → f_X10_takesNumber_16 N n 71 (iz (i : Int)) h = some (iz 1, at2 h (numS x L d P v).1 (numS x L d P v).2) := by
  intro d
  induction d with
  | zero =>
    intro i n P v h hi hn s hv e
    obtain ⟨n, rfl⟩ : ∃ k, n = k + 1 := ⟨n - 1, by omega⟩
    rw [f_X10_takesNumber_16]
    obtain rfl : i = 3 := by omega
    simp (disch := omega) only [if_true, if_false, Option.bind_some, b2_some, il0, il1, il2, il3, il4, il5, il6, il7, il8, il9, il10, il11, il12, il13, il14, il15, il16, il17, il18, il19, il20, il21, il22, il23, il24, il25, il26, il27, il28, il29, il30, il31, il32, il33, il36, il38, il39, il40, il41, il48, il50, il51, il57, il59, il60, il61, il62, il63, il70, il96, il99, il100, il101, il102, il103, il104, il105, il106, il107, il108, il109, il110, il111, il112, il115, il116, il120, il121, il124, il200, il240, il255, il288, il360, il420, il999, il1000, il114292, il152755, il402789, il435589, il463922, il533611, il631470, iz_add, iz_sub, iz_mul, iz_neg, iz_le, iz_lt, iz_eq, ↓reduceIte, Int.le_refl]
    show some (iz 1, h) = some (iz 1, at2 h v P)
    rw [at2_id s e]
  | succ d ih =>
    intro i n P v h hi hn s hv e
    obtain ⟨n, rfl⟩ : ∃ k, n = k + 1 := ⟨n - 1, by omega⟩
    rw [f_X10_takesNumber_16]
    have hc : ¬ ((3 : Int) ≤ i) := by omega
    have ed := m_isDigit (N := N) s
    have h3 : ¬ ((1 : Int) = 0) := by decide
    rw [numS]
    cases hz : figS x L P 9 with
    | true =>
      have hl := figS_lt hz
      rw [hz] at ed
      have en := m_next (N := N) s
      have ev := nx_fv s.2.2.2.2.1 (m := 9) (by omega) hz
      have s1 := s.fd_ (j := 20) (v := iz (10 * v + x P - 48)) (by decide)
      have s2 := s.at2_ (d := 10 * v + x P - 48) (P' := P + 1) (by omega)
      have e' := ih (i + 1) n (P + 1) (10 * v + x P - 48) _ (by omega) (by omega) s2 (by omega) at2_20
      rw [at2_at2] at e'
      rw [if_pos (show true = true from rfl), if_neg (show ¬ (v < 0) by omega), show v * 10 + x P - 48 = 10 * v + x P - 48 by omega, ← e']
      simp (disch := omega) only [if_true, if_false, Option.bind_some, b2_some, il0, il1, il2, il3, il4, il5, il6, il7, il8, il9, il10, il11, il12, il13, il14, il15, il16, il17, il18, il19, il20, il21, il22, il23, il24, il25, il26, il27, il28, il29, il30, il31, il32, il33, il36, il38, il39, il40, il41, il48, il50, il51, il57, il59, il60, il61, il62, il63, il70, il96, il99, il100, il101, il102, il103, il104, il105, il106, il107, il108, il109, il110, il111, il112, il115, il116, il120, il121, il124, il200, il240, il255, il288, il360, il420, il999, il1000, il114292, il152755, il402789, il435589, il463922, il533611, il631470, iz_add, iz_sub, iz_mul, iz_neg, iz_le, iz_lt, iz_eq, hc, ↓reduceIte, ↓kmC s.1, ↓bq ed, bi_t, h3, ↓bq en, ev, ↓kmI s.1, e, ↓ksI s.1, ↓kpP s1, ↓ksI s1.1]
      rfl
    | false =>
      rw [hz] at ed
      simp (disch := omega) only [if_true, if_false, Option.bind_some, b2_some, il0, il1, il2, il3, il4, il5, il6, il7, il8, il9, il10, il11, il12, il13, il14, il15, il16, il17, il18, il19, il20, il21, il22, il23, il24, il25, il26, il27, il28, il29, il30, il31, il32, il33, il36, il38, il39, il40, il41, il48, il50, il51, il57, il59, il60, il61, il62, il63, il70, il96, il99, il100, il101, il102, il103, il104, il105, il106, il107, il108, il109, il110, il111, il112, il115, il116, il120, il121, il124, il200, il240, il255, il288, il360, il420, il999, il1000, il114292, il152755, il402789, il435589, il463922, il533611, il631470, iz_add, iz_sub, iz_mul, iz_neg, iz_le, iz_lt, iz_eq, hc, ↓reduceIte, ↓kmC s.1, ↓bq ed, bi_f, Bool.false_eq_true]
      rw [at2_id s e]
/-- a number: whether one stands there; then its value, and the place behind -/
theorem m_number (hN : 200 ≤ N) {h : Mem} {P : Nat} (s : PS h0 x L b h P) : ∃ d, f_X10_takesNumber N 71 h = some (iz (bi (decide (0 ≤ (numR x L P).1))), at2 h d (numR x L P).2) ∧ (0 ≤ (numR x L P).1 → d = (numR x L P).1) := by
  have ed := m_isDigit (N := N) s
  have h3 : ¬ ((1 : Int) = 0) := by decide
  have hx := s.2.2.2.2.1
  unfold f_X10_takesNumber
  cases hz : figS x L P 9 with
  | true =>
    have hl := figS_lt hz
    rw [hz] at ed
    have en : numR x L P = numS x L 3 P 0 := by
      unfold numR
      have e3 : ∀ v, numS x L 3 P v = if figS x L P 9 = true then numS x L 2 (P + 1) ((if v < 0 then 0 else v) * 10 + x P - 48) else (v, P) := fun v => rfl
      rw [e3, e3, if_pos (show (-1 : Int) < 0 by decide), if_neg (show ¬ ((0 : Int) < 0) by decide)]
      rw [hz]
      rfl
    have s1 := s.fd_ (j := 20) (v := iz 0) (by decide)
    have e' := m_num_16 (N := N) 3 0 N P 0 _ (by omega) (by omega) s1 (Int.le_refl 0) (by rw [fd_at, if_pos rfl])
    have eat : ∀ d' P', at2 (fd h 20 (iz 0)) d' P' = at2 h d' P' := fun d' P' => by unfold at2; rw [fd_fd]
    rw [eat] at e'
    have hnn : ∀ d P v, 0 ≤ v → 0 ≤ (numS x L d P v).1 := by
      intro d
      induction d with
      | zero => intro P v hv; exact hv
      | succ d ih =>
        intro P v hv
        rw [numS]
        split
        · rename_i hf
          have := figS_lt hf
          exact ih _ _ (by rw [if_neg (by omega)]; omega)
        · exact hv
    have hn0 := hnn 3 P 0 (by omega)
    refine ⟨(numS x L 3 P 0).1, ?_, fun _ => by rw [en]⟩
    rw [en, decide_eq_true hn0, ← show f_X10_takesNumber_16 N N 71 (iz 0) (fd h 20 (iz 0)) = some (iz (bi true), at2 h (numS x L 3 P 0).1 (numS x L 3 P 0).2) from e']
    simp (disch := omega) only [if_true, if_false, Option.bind_some, b2_some, il0, il1, il2, il3, il4, il5, il6, il7, il8, il9, il10, il11, il12, il13, il14, il15, il16, il17, il18, il19, il20, il21, il22, il23, il24, il25, il26, il27, il28, il29, il30, il31, il32, il33, il36, il38, il39, il40, il41, il48, il50, il51, il57, il59, il60, il61, il62, il63, il70, il96, il99, il100, il101, il102, il103, il104, il105, il106, il107, il108, il109, il110, il111, il112, il115, il116, il120, il121, il124, il200, il240, il255, il288, il360, il420, il999, il1000, il114292, il152755, il402789, il435589, il463922, il533611, il631470, iz_add, iz_sub, iz_mul, iz_neg, iz_le, iz_lt, iz_eq, ↓reduceIte, ↓kmC s.1, ↓bq ed, bi_t, h3, ↓ksI s.1]
  | false =>
    rw [hz] at ed
    have en : numR x L P = (-1, P) := by
      unfold numR
      rw [numS, hz]
      rfl
    refine ⟨(h.2.1 71 20).toInt, ?_, fun z => absurd z (by rw [en]; show ¬ ((0 : Int) ≤ -1); decide)⟩
    rw [en]
    have e20 : h.2.1 71 20 = iz (h.2.1 71 20).toInt := by unfold iz; rw [Int32.ofInt_toInt]
    show _ = some (iz (bi (decide ((0 : Int) ≤ -1))), at2 h (h.2.1 71 20).toInt P)
    rw [at2_id s e20]
    simp (disch := omega) only [if_true, if_false, Option.bind_some, b2_some, il0, il1, il2, il3, il4, il5, il6, il7, il8, il9, il10, il11, il12, il13, il14, il15, il16, il17, il18, il19, il20, il21, il22, il23, il24, il25, il26, il27, il28, il29, il30, il31, il32, il33, il36, il38, il39, il40, il41, il48, il50, il51, il57, il59, il60, il61, il62, il63, il70, il96, il99, il100, il101, il102, il103, il104, il105, il106, il107, il108, il109, il110, il111, il112, il115, il116, il120, il121, il124, il200, il240, il255, il288, il360, il420, il999, il1000, il114292, il152755, il402789, il435589, il463922, il533611, il631470, iz_add, iz_sub, iz_mul, iz_neg, iz_le, iz_lt, iz_eq, ↓reduceIte, ↓kmC s.1, ↓bq ed, bi_f]
    rfl
theorem m_word_4 {w : Nat} (hw : w < 7) : ∀ (d j n P : Nat) (h : Mem), j + d = 4 → d < n → PS h0 x L b h P → f_X10_takesWord_4 N n 71 (iz (mw w)) (iz (3 - (j : Int))) h = some (iz (bi (wdS x L w d j P).1), fd h 19 (iz ((wdS x L w d j P).2 : Int))) := by
  intro d
  induction d with
  | zero =>
    intro j n P h hj hn s
    obtain ⟨n, rfl⟩ : ∃ k, n = k + 1 := ⟨n - 1, by omega⟩
    obtain rfl : j = 4 := by omega
    have et := m_takes (N := N) s (c := 32) (by omega)
    have hc : ((3 : Int) - ((4 : Nat) : Int)) < 0 := by decide
    rw [f_X10_takesWord_4, wdS]
    dsimp only
    simp (disch := omega) only [if_true, if_false, Option.bind_some, b2_some, il0, il1, il2, il3, il4, il5, il6, il7, il8, il9, il10, il11, il12, il13, il14, il15, il16, il17, il18, il19, il20, il21, il22, il23, il24, il25, il26, il27, il28, il29, il30, il31, il32, il33, il36, il38, il39, il40, il41, il48, il50, il51, il57, il59, il60, il61, il62, il63, il70, il96, il99, il100, il101, il102, il103, il104, il105, il106, il107, il108, il109, il110, il111, il112, il115, il116, il120, il121, il124, il200, il240, il255, il288, il360, il420, il999, il1000, il114292, il152755, il402789, il435589, il463922, il533611, il631470, iz_add, iz_sub, iz_mul, iz_neg, iz_le, iz_lt, iz_eq, hc, ↓reduceIte, ↓kmC s.1, ↓bq et, rz_bi]
    cases hz : isAt x L P 32 with
    | true => rw [if_pos (show true = true from rfl), if_pos (show true = true from rfl)]
    | false => rw [if_neg (show ¬ (false = true) by decide), if_neg (show ¬ (false = true) by decide), fd_19 s]
  | succ d ih =>
    intro j n P h hj hn s
    obtain ⟨n, rfl⟩ : ∃ k, n = k + 1 := ⟨n - 1, by omega⟩
    have hb := wb_dec (w * 4 + j) (by omega)
    have et := m_takes (N := N) s (c := wb (w * 4 + j)) (by omega)
    have hc : ¬ ((3 : Int) - (j : Int) < 0) := by omega
    have h3 : ¬ ((1 : Int) = 0) := by decide
    have em := mw_dec w hw j (by omega)
    rw [f_X10_takesWord_4, wdS]
    simp (disch := omega) only [il0, il1, il2, il3, il4, il5, il6, il7, il8, il9, il10, il11, il12, il13, il14, il15, il16, il17, il18, il19, il20, il21, il22, il23, il24, il25, il26, il27, il28, il29, il30, il31, il32, il33, il36, il38, il39, il40, il41, il48, il50, il51, il57, il59, il60, il61, il62, il63, il70, il96, il99, il100, il101, il102, il103, il104, il105, il106, il107, il108, il109, il110, il111, il112, il115, il116, il120, il121, il124, il200, il240, il255, il288, il360, il420, il999, il1000, il114292, il152755, il402789, il435589, il463922, il533611, il631470, iz_lt, hc, ↓reduceIte, ↓kmC s.1, em]
    rw [bq et]
    cases hz : isAt x L P (wb (w * 4 + j)) with
    | true =>
      have hl := isAt_lt hz
      have s1 := s.at_ (P' := P + 1) (by omega)
      have e' := ih (j + 1) n (P + 1) _ (by omega) (by omega) s1
      rw [fd_fd] at e'
      simp (disch := omega) only [bi_t, iz_eq, h3, ↓reduceIte, iz_neg, iz_add]
      rw [show (3 : Int) - (j : Int) + -1 = 3 - ((j + 1 : Nat) : Int) by omega]
      exact e'
    | false =>
      simp (disch := omega) only [bi_f, ↓reduceIte, Bool.false_eq_true]
      show some (iz 0, h) = some (iz (bi false), fd h 19 (iz (P : Int)))
      rw [fd_19 s]; rfl
theorem m_word {w : Nat} (hw : w < 7) (hN : 200 ≤ N) {P : Nat} {h : Mem} (s : PS h0 x L b h P) : f_X10_takesWord N 71 (iz (mw w)) (iz 4) h = some (iz (bi (wdS x L w 4 0 P).1), fd h 19 (iz ((wdS x L w 4 0 P).2 : Int))) := by
  have := m_word_4 (N := N) hw 4 0 N P h (by omega) (by omega) s
  exact this
theorem wd_bd {w : Nat} : ∀ (d j P : Nat), P ≤ L → P ≤ (wdS x L w d j P).2 ∧ (wdS x L w d j P).2 ≤ L := by
  intro d
  induction d with
  | zero =>
    intro j P hP
    rw [wdS]
    dsimp only
    split
    · rename_i hz
      have := isAt_lt hz
      omega
    · omega
  | succ d ih =>
    intro j P hP
    rw [wdS]
    split
    · rename_i hz
      have := isAt_lt hz
      have := ih (j + 1) (P + 1) (by omega)
      omega
    · dsimp only; omega
end
