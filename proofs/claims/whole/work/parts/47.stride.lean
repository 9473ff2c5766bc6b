/-- the town a family goes to, of the first n -/
def bet (V : Vw) (f : Int) : Nat → Int
  | 0 => -1
  | n + 1 => if canGoB V f n = true ∧ worth V f (if bet V f n = -1 then va V 7 f else bet V f n) < worth V f n then n else bet V f n
theorem bet_bd {V : Vw} {f : Int} : ∀ n, -1 ≤ bet V f n ∧ bet V f n < n := by
  intro n
  induction n with
  | zero => show (-1 : Int) ≤ -1 ∧ (-1 : Int) < 0; omega
  | succ n ih => unfold bet; split <;> omega
/-- the first family that goes, of the first n, and where to -/
def goer (V : Vw) (i : Nat) : Nat → Option Nat := fs (fun f => decide (0 ≤ bet V f (vT V))) i
def goV (V : Vw) : Vw := match goer V 0 (vF V) with
  | some f => vset V 7 f (bet V f (vT V))
  | none => V
def votesV (V : Vw) : Nat → Vw
  | 0 => V
  | n + 1 => voteV (votesV V n) n 3
def votesN (V : Vw) : Nat → Int
  | 0 => 0
  | n + 1 => votesN V n + voteN (votesV V n) n 3
def strideV (V : Vw) (v : Int) : Vw := if v = 0 then goV V else votesV (goV V) (vT V)
def strideR (V : Vw) (v : Int) : Int := match goer V 0 (vF V) with
  | some f => f
  | none => if v = 0 then -6 else if votesN V (vT V) = 0 then -6 else -5
theorem votes_TF {V : Vw} : ∀ n, vT (votesV V n) = vT V ∧ vF (votesV V n) = vF V ∧ vs (votesV V n) = vs V ∧ ∀ k, k ≠ 1 → va (votesV V n) k = va V k := by
  intro n
  induction n with
  | zero => exact ⟨rfl, rfl, rfl, fun _ _ => rfl⟩
  | succ n ih =>
    have e := vote_TF (V := votesV V n) n 3
    exact ⟨e.1.trans ih.1, e.2.1.trans ih.2.1, e.2.2.1.trans ih.2.2.1, fun k hk => (e.2.2.2 k hk).trans (ih.2.2.2 k hk)⟩
theorem votes_wf {V : Vw} (w : WF V) : ∀ n, WF (votesV V n) := by
  intro n
  induction n with
  | zero => exact w
  | succ n ih => exact vote_wf ih n 3
theorem votesN_bd {V : Vw} : ∀ n : Nat, 0 ≤ votesN V n ∧ votesN V n ≤ 3 * n := by
  intro n
  induction n with
  | zero => show (0 : Int) ≤ 0 ∧ (0 : Int) ≤ 3 * 0; omega
  | succ n ih =>
    have := voteN_bd (V := votesV V n) n 3
    unfold votesN
    omega
section
variable {h : Mem} {c p : Nat} {V : Vw} {N : Nat}
theorem l_better_17 (R : RepC h c p V) (w : WF V) (hN : 200 ≤ N) {f : Nat} (hf : f < vF V) : ∀ (d i n : Nat), i + d = vT V → d < n → f_X1_betterTown_17 N n c (iz f) (iz (bet V f i)) (iz (worth V f (if bet V f i = -1 then va V 7 f else bet V f i))) (iz i) h = some (iz (bet V f (vT V)), h) := by
  intro d
  have hF := w.F
  have hT := w.T
  have hwf := w.f (j := f) (by omega) (by omega)
  have hwi := w.i (j := f) (by omega) (by omega)
  induction d with
  | zero =>
    intro i n hi hn
    obtain ⟨n, rfl⟩ : ∃ k, n = k + 1 := ⟨n - 1, by omega⟩
    rw [f_X1_betterTown_17]
    obtain rfl : i = vT V := by omega
    simp (disch := omega) only [↓kC R, ↓kT R, ↓kF R, ↓kL R, ↓kLk R, ↓kL0 R, ↓kL1 R, ↓kL2 R, ↓kL3 R, ↓kL4 R, ↓kL5 R, ↓kA0 R, ↓kA1 R, ↓kA2 R, ↓kA3 R, ↓kA4 R, ↓kA5 R, ↓kA6 R, ↓kA7 R, ↓kA8 R, ↓kA9 R, ↓kX0 R, ↓kX1 R, ↓kX2 R, ↓kX3 R, ↓kX4 R, ↓kX5 R, ↓kX6 R, ↓kX7 R, ↓kX8 R, ↓kX1m R, ↓kY0 R, ↓kY1 R, ↓kY2 R, ↓kY0m R, ↓kY1m R, ↓reduceIte, if_true, if_false, Option.bind_some, b2_some, il0, il1, il2, il3, il4, il5, il6, il7, il8, il9, il10, il11, il12, il13, il14, il15, il16, il17, il18, il19, il20, il21, il22, il23, il24, il25, il26, il27, il28, il29, il30, il31, il32, il33, il36, il38, il39, il40, il41, il48, il50, il51, il57, il59, il60, il61, il62, il63, il70, il96, il99, il100, il101, il102, il103, il104, il105, il106, il107, il108, il109, il110, il111, il112, il115, il116, il120, il121, il124, il200, il240, il255, il288, il360, il420, il999, il1000, il114292, il152755, il402789, il435589, il463922, il533611, il631470, iz_add, iz_sub, iz_mul, iz_neg, iz_le, iz_lt, iz_eq, Int.le_refl]
  | succ d ih =>
    intro i n hi hn
    obtain ⟨n, rfl⟩ : ∃ k, n = k + 1 := ⟨n - 1, by omega⟩
    rw [f_X1_betterTown_17]
    have hc : ¬ ((vT V : Int) ≤ i) := by omega
    have e := ih (i + 1) n (by omega) (by omega)
    have hb := bet_bd (V := V) (f := f) i
    have hw1 := worth_bd w (f := f) (t := i) (by omega) (by omega)
    have hw0 := worth_bd w (f := f) (t := if bet V f i = -1 then va V 7 f else bet V f i) (by omega) (by split <;> omega)
    have hg := l_canGoB R w hN (f := f) (t := i) (by omega) (by omega)
    have hwo := l_worth R w hN (f := f) (t := i) hf (by omega)
    have h3 : ¬ ((1 : Int) = 0) := by decide
    cases hb : canGoB V f i with
    | false =>
      rw [hb] at hg
      have e1 : bet V f (i + 1) = bet V f i := by rw [bet, if_neg (by rw [hb]; simp)]
      rw [e1] at e
      simp (disch := omega) only [↓kC R, ↓kT R, ↓kF R, ↓kL R, ↓kLk R, ↓kL0 R, ↓kL1 R, ↓kL2 R, ↓kL3 R, ↓kL4 R, ↓kL5 R, ↓kA0 R, ↓kA1 R, ↓kA2 R, ↓kA3 R, ↓kA4 R, ↓kA5 R, ↓kA6 R, ↓kA7 R, ↓kA8 R, ↓kA9 R, ↓kX0 R, ↓kX1 R, ↓kX2 R, ↓kX3 R, ↓kX4 R, ↓kX5 R, ↓kX6 R, ↓kX7 R, ↓kX8 R, ↓kX1m R, ↓kY0 R, ↓kY1 R, ↓kY2 R, ↓kY0m R, ↓kY1m R, ↓reduceIte, ↓bq hg, bi_f, if_true, if_false, Option.bind_some, b2_some, il0, il1, il2, il3, il4, il5, il6, il7, il8, il9, il10, il11, il12, il13, il14, il15, il16, il17, il18, il19, il20, il21, il22, il23, il24, il25, il26, il27, il28, il29, il30, il31, il32, il33, il36, il38, il39, il40, il41, il48, il50, il51, il57, il59, il60, il61, il62, il63, il70, il96, il99, il100, il101, il102, il103, il104, il105, il106, il107, il108, il109, il110, il111, il112, il115, il116, il120, il121, il124, il200, il240, il255, il288, il360, il420, il999, il1000, il114292, il152755, il402789, il435589, il463922, il533611, il631470, iz_add, iz_sub, iz_mul, iz_neg, iz_le, iz_lt, iz_eq, hc]
      simpa using e
    | true =>
      rw [hb] at hg
      by_cases h1 : worth V f (if bet V f i = -1 then va V 7 f else bet V f i) < worth V f i
      · have e1 : bet V f (i + 1) = i := by rw [bet, if_pos ⟨hb, h1⟩]
        have h2 : ¬ (worth V f i ≤ worth V f (if bet V f i = -1 then va V 7 f else bet V f i)) := by omega
        rw [e1, if_neg (by omega)] at e
        simp (disch := omega) only [↓kC R, ↓kT R, ↓kF R, ↓kL R, ↓kLk R, ↓kL0 R, ↓kL1 R, ↓kL2 R, ↓kL3 R, ↓kL4 R, ↓kL5 R, ↓kA0 R, ↓kA1 R, ↓kA2 R, ↓kA3 R, ↓kA4 R, ↓kA5 R, ↓kA6 R, ↓kA7 R, ↓kA8 R, ↓kA9 R, ↓kX0 R, ↓kX1 R, ↓kX2 R, ↓kX3 R, ↓kX4 R, ↓kX5 R, ↓kX6 R, ↓kX7 R, ↓kX8 R, ↓kX1m R, ↓kY0 R, ↓kY1 R, ↓kY2 R, ↓kY0m R, ↓kY1m R, ↓reduceIte, ↓bq hg, bi_t, ↓bq hwo, h3, if_true, if_false, Option.bind_some, b2_some, il0, il1, il2, il3, il4, il5, il6, il7, il8, il9, il10, il11, il12, il13, il14, il15, il16, il17, il18, il19, il20, il21, il22, il23, il24, il25, il26, il27, il28, il29, il30, il31, il32, il33, il36, il38, il39, il40, il41, il48, il50, il51, il57, il59, il60, il61, il62, il63, il70, il96, il99, il100, il101, il102, il103, il104, il105, il106, il107, il108, il109, il110, il111, il112, il115, il116, il120, il121, il124, il200, il240, il255, il288, il360, il420, il999, il1000, il114292, il152755, il402789, il435589, il463922, il533611, il631470, iz_add, iz_sub, iz_mul, iz_neg, iz_le, iz_lt, iz_eq, hc, h2]
        simpa using e
      · have e1 : bet V f (i + 1) = bet V f i := by rw [bet, if_neg (fun z => h1 z.2)]
        have h2 : worth V f i ≤ worth V f (if bet V f i = -1 then va V 7 f else bet V f i) := by omega
        rw [e1] at e
        simp (disch := omega) only [↓kC R, ↓kT R, ↓kF R, ↓kL R, ↓kLk R, ↓kL0 R, ↓kL1 R, ↓kL2 R, ↓kL3 R, ↓kL4 R, ↓kL5 R, ↓kA0 R, ↓kA1 R, ↓kA2 R, ↓kA3 R, ↓kA4 R, ↓kA5 R, ↓kA6 R, ↓kA7 R, ↓kA8 R, ↓kA9 R, ↓kX0 R, ↓kX1 R, ↓kX2 R, ↓kX3 R, ↓kX4 R, ↓kX5 R, ↓kX6 R, ↓kX7 R, ↓kX8 R, ↓kX1m R, ↓kY0 R, ↓kY1 R, ↓kY2 R, ↓kY0m R, ↓kY1m R, ↓reduceIte, ↓bq hg, bi_t, ↓bq hwo, h3, if_true, if_false, Option.bind_some, b2_some, il0, il1, il2, il3, il4, il5, il6, il7, il8, il9, il10, il11, il12, il13, il14, il15, il16, il17, il18, il19, il20, il21, il22, il23, il24, il25, il26, il27, il28, il29, il30, il31, il32, il33, il36, il38, il39, il40, il41, il48, il50, il51, il57, il59, il60, il61, il62, il63, il70, il96, il99, il100, il101, il102, il103, il104, il105, il106, il107, il108, il109, il110, il111, il112, il115, il116, il120, il121, il124, il200, il240, il255, il288, il360, il420, il999, il1000, il114292, il152755, il402789, il435589, il463922, il533611, il631470, iz_add, iz_sub, iz_mul, iz_neg, iz_le, iz_lt, iz_eq, hc, h2]
        simpa using e
theorem l_better (R : RepC h c p V) (w : WF V) (hN : 200 ≤ N) {f : Nat} (hf : f < vF V) : f_X1_betterTown N c (iz f) h = some (iz (bet V f (vT V)), h) := by
  have hF := w.F
  have hT := w.T
  have hwf := w.f (j := f) (by omega) (by omega)
  have hwi := w.i (j := f) (by omega) (by omega)
  have hwo := l_worth R w hN (f := f) (t := va V 7 f) hf (by omega)
  have e := l_better_17 R w hN hf (vT V) 0 N (by omega) (by omega)
  unfold f_X1_betterTown
  simp (disch := omega) only [↓kC R, ↓kT R, ↓kF R, ↓kL R, ↓kLk R, ↓kL0 R, ↓kL1 R, ↓kL2 R, ↓kL3 R, ↓kL4 R, ↓kL5 R, ↓kA0 R, ↓kA1 R, ↓kA2 R, ↓kA3 R, ↓kA4 R, ↓kA5 R, ↓kA6 R, ↓kA7 R, ↓kA8 R, ↓kA9 R, ↓kX0 R, ↓kX1 R, ↓kX2 R, ↓kX3 R, ↓kX4 R, ↓kX5 R, ↓kX6 R, ↓kX7 R, ↓kX8 R, ↓kX1m R, ↓kY0 R, ↓kY1 R, ↓kY2 R, ↓kY0m R, ↓kY1m R, ↓reduceIte, ↓bq hwo, if_true, if_false, Option.bind_some, b2_some, il0, il1, il2, il3, il4, il5, il6, il7, il8, il9, il10, il11, il12, il13, il14, il15, il16, il17, il18, il19, il20, il21, il22, il23, il24, il25, il26, il27, il28, il29, il30, il31, il32, il33, il36, il38, il39, il40, il41, il48, il50, il51, il57, il59, il60, il61, il62, il63, il70, il96, il99, il100, il101, il102, il103, il104, il105, il106, il107, il108, il109, il110, il111, il112, il115, il116, il120, il121, il124, il200, il240, il255, il288, il360, il420, il999, il1000, il114292, il152755, il402789, il435589, il463922, il533611, il631470, iz_add, iz_sub, iz_mul, iz_neg, iz_le, iz_lt, iz_eq]
  exact e
end
section
variable {c p : Nat} {V : Vw} {N : Nat}
theorem l_stride_88 {r n : Int} {h : Mem} (hr : -5 ≤ r ∧ r ≤ 8) (hn : 0 ≤ n ∧ n ≤ 12) : f_X8_stride_88 N (iz r) (iz n) h = some (iz (if r = -5 then (if n = 0 then -6 else -5) else r), h) := by
  unfold f_X8_stride_88
  by_cases h1 : r = -5
  · by_cases h2 : n = 0
    · simp (disch := omega) only [if_true, if_false, Option.bind_some, b2_some, il0, il1, il2, il3, il4, il5, il6, il7, il8, il9, il10, il11, il12, il13, il14, il15, il16, il17, il18, il19, il20, il21, il22, il23, il24, il25, il26, il27, il28, il29, il30, il31, il32, il33, il36, il38, il39, il40, il41, il48, il50, il51, il57, il59, il60, il61, il62, il63, il70, il96, il99, il100, il101, il102, il103, il104, il105, il106, il107, il108, il109, il110, il111, il112, il115, il116, il120, il121, il124, il200, il240, il255, il288, il360, il420, il999, il1000, il114292, il152755, il402789, il435589, il463922, il533611, il631470, iz_add, iz_sub, iz_mul, iz_neg, iz_le, iz_lt, iz_eq, h1, h2]
    · simp (disch := omega) only [if_true, if_false, Option.bind_some, b2_some, il0, il1, il2, il3, il4, il5, il6, il7, il8, il9, il10, il11, il12, il13, il14, il15, il16, il17, il18, il19, il20, il21, il22, il23, il24, il25, il26, il27, il28, il29, il30, il31, il32, il33, il36, il38, il39, il40, il41, il48, il50, il51, il57, il59, il60, il61, il62, il63, il70, il96, il99, il100, il101, il102, il103, il104, il105, il106, il107, il108, il109, il110, il111, il112, il115, il116, il120, il121, il124, il200, il240, il255, il288, il360, il420, il999, il1000, il114292, il152755, il402789, il435589, il463922, il533611, il631470, iz_add, iz_sub, iz_mul, iz_neg, iz_le, iz_lt, iz_eq, h1, h2]
  · simp (disch := omega) only [if_true, if_false, Option.bind_some, b2_some, il0, il1, il2, il3, il4, il5, il6, il7, il8, il9, il10, il11, il12, il13, il14, il15, il16, il17, il18, il19, il20, il21, il22, il23, il24, il25, il26, il27, il28, il29, il30, il31, il32, il33, il36, il38, il39, il40, il41, il48, il50, il51, il57, il59, il60, il61, il62, il63, il70, il96, il99, il100, il101, il102, il103, il104, il105, il106, il107, il108, il109, il110, il111, il112, il115, il116, il120, il121, il124, il200, il240, il255, il288, il360, il420, il999, il1000, il114292, il152755, il402789, il435589, il463922, il533611, il631470, iz_add, iz_sub, iz_mul, iz_neg, iz_le, iz_lt, iz_eq, h1]
theorem l_stride_58 {h0 : Mem} (w : WF V) (q : CP c p) (hN : 200 ≤ N) {v r : Int} (hv : v = 0 ∨ v = 1) (hr : -5 ≤ r ∧ r ≤ 8) : ∀ (d i n : Nat) (h : Mem), i + d = vT V → d < n → RepC h c p (if v = 0 then V else votesV V i) → KU c h0 h → ∃ h', f_X8_stride_58 N n c (iz v) (iz r) (iz (if v = 0 then 0 else votesN V i)) (iz i) h = some (iz (if r = -5 then (if (if v = 0 then 0 else votesN V (vT V)) = 0 then -6 else -5) else r), h') ∧ RepC h' c p (if v = 0 then V else votesV V (vT V)) ∧ KU c h0 h' := by
  intro d
  have hF := w.F
  have hT := w.T
  have hbT := votesN_bd (V := V) (vT V)
  induction d with
  | zero =>
    intro i n h hi hn R K
    obtain ⟨n, rfl⟩ : ∃ k, n = k + 1 := ⟨n - 1, by omega⟩
    rw [f_X8_stride_58]
    obtain rfl : i = vT V := by omega
    refine ⟨h, ?_, R, K⟩
    have e1 : (gI h c 1 1) = some (iz (vT V)) := by
      rw [rT R]
      split
      · rfl
      · rw [(votes_TF _).1]
    have e := l_stride_88 (N := N) (h := h) hr (n := if v = 0 then 0 else votesN V (vT V)) (by split <;> omega)
    simp (disch := omega) only [↓bo e1, if_true, if_false, Option.bind_some, b2_some, il0, il1, il2, il3, il4, il5, il6, il7, il8, il9, il10, il11, il12, il13, il14, il15, il16, il17, il18, il19, il20, il21, il22, il23, il24, il25, il26, il27, il28, il29, il30, il31, il32, il33, il36, il38, il39, il40, il41, il48, il50, il51, il57, il59, il60, il61, il62, il63, il70, il96, il99, il100, il101, il102, il103, il104, il105, il106, il107, il108, il109, il110, il111, il112, il115, il116, il120, il121, il124, il200, il240, il255, il288, il360, il420, il999, il1000, il114292, il152755, il402789, il435589, il463922, il533611, il631470, iz_add, iz_sub, iz_mul, iz_neg, iz_le, iz_lt, iz_eq, Int.le_refl]
    exact e
  | succ d ih =>
    intro i n h hi hn R K
    obtain ⟨n, rfl⟩ : ∃ k, n = k + 1 := ⟨n - 1, by omega⟩
    rw [f_X8_stride_58]
    have hc : ¬ ((vT V : Int) ≤ i) := by omega
    rcases hv with hv | hv
    · subst hv
      refine ⟨h, ?_, R, K⟩
      have e1 : (gI h c 1 1) = some (iz (vT V)) := rT R
      have e := l_stride_88 (N := N) (h := h) hr (n := 0) (by omega)
      simp (disch := omega) only [↓bo e1, if_true, if_false, Option.bind_some, b2_some, il0, il1, il2, il3, il4, il5, il6, il7, il8, il9, il10, il11, il12, il13, il14, il15, il16, il17, il18, il19, il20, il21, il22, il23, il24, il25, il26, il27, il28, il29, il30, il31, il32, il33, il36, il38, il39, il40, il41, il48, il50, il51, il57, il59, il60, il61, il62, il63, il70, il96, il99, il100, il101, il102, il103, il104, il105, il106, il107, il108, il109, il110, il111, il112, il115, il116, il120, il121, il124, il200, il240, il255, il288, il360, il420, il999, il1000, il114292, il152755, il402789, il435589, il463922, il533611, il631470, iz_add, iz_sub, iz_mul, iz_neg, iz_le, iz_lt, iz_eq, hc]
      exact e
    · subst hv
      have hb := votesN_bd (V := V) i
      rw [if_neg (by decide)] at R ⊢
      have tf := votes_TF (V := V) i
      obtain ⟨h1, e1, R1, K1⟩ := l_vote R (votes_wf w i) q hN (t := i) (by omega)
      have hb3 := voteN_bd (V := votesV V i) i 3
      obtain ⟨h', e, r⟩ := ih (i + 1) n h1 (by omega) (by omega) (by rw [if_neg (by decide)]; exact R1) (K.tr K1)
      refine ⟨h', ?_, r⟩
      have h3 : ¬ ((1 : Int) = 0) := by decide
      rw [if_neg h3] at e
      simp (disch := omega) only [↓kC R, ↓kT R, ↓kF R, ↓kL R, ↓kLk R, ↓kL0 R, ↓kL1 R, ↓kL2 R, ↓kL3 R, ↓kL4 R, ↓kL5 R, ↓kA0 R, ↓kA1 R, ↓kA2 R, ↓kA3 R, ↓kA4 R, ↓kA5 R, ↓kA6 R, ↓kA7 R, ↓kA8 R, ↓kA9 R, ↓kX0 R, ↓kX1 R, ↓kX2 R, ↓kX3 R, ↓kX4 R, ↓kX5 R, ↓kX6 R, ↓kX7 R, ↓kX8 R, ↓kX1m R, ↓kY0 R, ↓kY1 R, ↓kY2 R, ↓kY0m R, ↓kY1m R, ↓reduceIte, tf.1, ↓bq e1, if_true, if_false, Option.bind_some, b2_some, il0, il1, il2, il3, il4, il5, il6, il7, il8, il9, il10, il11, il12, il13, il14, il15, il16, il17, il18, il19, il20, il21, il22, il23, il24, il25, il26, il27, il28, il29, il30, il31, il32, il33, il36, il38, il39, il40, il41, il48, il50, il51, il57, il59, il60, il61, il62, il63, il70, il96, il99, il100, il101, il102, il103, il104, il105, il106, il107, il108, il109, il110, il111, il112, il115, il116, il120, il121, il124, il200, il240, il255, il288, il360, il420, il999, il1000, il114292, il152755, il402789, il435589, il463922, il533611, il631470, iz_add, iz_sub, iz_mul, iz_neg, iz_le, iz_lt, iz_eq, hc, h3]
      simpa [votesN] using e
end
