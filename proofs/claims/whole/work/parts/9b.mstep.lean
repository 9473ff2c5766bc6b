section
variable {V : Vw} {N : Nat}
theorem m_better (w : WF V) (hN : 200 ≤ N) {f : Nat} (hf : f < vF V) {v1 v2 : Int32} (k5 : Nat → Int32 → Int32 → Int32 → Mem → Option (Int32 × Mem)) : ∀ (d i n : Nat) (h : Mem), i + d = vT V → d < n → RepM h V → ∃ h', f_X10_stepOnce_36 N n 71 v1 v2 (iz f) (lz (worth V f (if bet V f i = -1 then va V 7 f else bet V f i))) (iz (bet V f i)) (iz (i : Int)) h k5 = (if 0 ≤ bet V f (vT V) then k5 71 v1 (iz f) (iz ((f + 1 : Nat) : Int)) (wr h' 79 (upd (h'.2.1 79) f (iz (bet V f (vT V))))) else k5 71 v1 v2 (iz ((f + 1 : Nat) : Int)) h') ∧ RepM h' V ∧ FM SP h h' := by
  intro d
  have hF := w.F
  have hT := w.T
  have hwf := w.f (j := f) (by omega) (by omega)
  have hwi := w.i (j := f) (by omega) (by omega)
  have h3 : ¬ ((1 : Int) = 0) := by decide
  induction d with
  | zero =>
    intro i n h hi hn R
    obtain ⟨n, rfl⟩ : ∃ k, n = k + 1 := ⟨n - 1, by omega⟩
    rw [f_X10_stepOnce_36]
    obtain rfl : i = vT V := by omega
    have hb := bet_bd (V := V) (f := f) (vT V)
    refine ⟨h, ?_, R, FM.rf⟩
    by_cases c : 0 ≤ bet V f (vT V)
    · rw [if_pos c]
      simp (disch := omega) only [↓kmC R.1, ↓kmT R, ↓kmF R, ↓kmM R, ↓kmD R, ↓kmP R, ↓kr72 R.1, ↓kr73 R.1, ↓kr74 R.1, ↓kr75 R.1, ↓kr76 R.1, ↓kr77 R.1, ↓kr78 R.1, ↓kr79 R.1, ↓kr80 R.1, ↓kr81 R.1, ↓kr82 R.1, ↓kr83 R.1, ↓kr84 R.1, ↓kr85 R.1, ↓kr86 R.1, ↓kr87 R.1, ↓kr88 R.1, ↓kr89 R.1, ↓kr90 R.1, ↓kr91 R.1, ↓kr92 R.1, ↓kr93 R.1, ↓kr94 R.1, ↓kr95 R.1, ↓kr96 R.1, ↓kr97 R.1, ↓kr98 R.1, ↓kr99 R.1, ↓kr100 R.1, ↓kr101 R.1, ↓kr102 R.1, ↓kr103 R.1, ↓kr104 R.1, ↓kr105 R.1, ↓kr106 R.1, ↓kr107 R.1, ↓kr108 R.1, ↓kr109 R.1, ↓kr110 R.1, ↓kx0 R, ↓kx1 R, ↓kx2 R, ↓kx3 R, ↓kx4 R, ↓kx5 R, ↓kx6 R, ↓kx7 R, ↓kx8 R, ↓kx9 R, ↓kx10 R, ↓kx11 R, ↓kx1m R, ↓kx9m R, ↓kx10m R, ↓reduceIte, if_true, if_false, Option.bind_some, b2_some, il0, il1, il2, il3, il4, il5, il6, il7, il8, il9, il10, il11, il12, il13, il14, il15, il16, il17, il18, il19, il20, il21, il22, il23, il24, il25, il26, il27, il28, il29, il30, il31, il32, il33, il36, il38, il39, il40, il41, il48, il50, il51, il57, il59, il60, il61, il62, il63, il70, il96, il99, il100, il101, il102, il103, il104, il105, il106, il107, il108, il109, il110, il111, il112, il115, il116, il120, il121, il124, il200, il240, il255, il288, il360, il420, il999, il1000, il114292, il152755, il402789, il435589, il463922, il533611, il631470, iz_add, iz_sub, iz_mul, iz_neg, iz_le, iz_lt, iz_eq, Int.le_refl, c, ↓ks79 R.1, toN]
      rfl
    · rw [if_neg c]
      simp (disch := omega) only [↓kmC R.1, ↓kmT R, ↓kmF R, ↓kmM R, ↓kmD R, ↓kmP R, ↓kr72 R.1, ↓kr73 R.1, ↓kr74 R.1, ↓kr75 R.1, ↓kr76 R.1, ↓kr77 R.1, ↓kr78 R.1, ↓kr79 R.1, ↓kr80 R.1, ↓kr81 R.1, ↓kr82 R.1, ↓kr83 R.1, ↓kr84 R.1, ↓kr85 R.1, ↓kr86 R.1, ↓kr87 R.1, ↓kr88 R.1, ↓kr89 R.1, ↓kr90 R.1, ↓kr91 R.1, ↓kr92 R.1, ↓kr93 R.1, ↓kr94 R.1, ↓kr95 R.1, ↓kr96 R.1, ↓kr97 R.1, ↓kr98 R.1, ↓kr99 R.1, ↓kr100 R.1, ↓kr101 R.1, ↓kr102 R.1, ↓kr103 R.1, ↓kr104 R.1, ↓kr105 R.1, ↓kr106 R.1, ↓kr107 R.1, ↓kr108 R.1, ↓kr109 R.1, ↓kr110 R.1, ↓kx0 R, ↓kx1 R, ↓kx2 R, ↓kx3 R, ↓kx4 R, ↓kx5 R, ↓kx6 R, ↓kx7 R, ↓kx8 R, ↓kx9 R, ↓kx10 R, ↓kx11 R, ↓kx1m R, ↓kx9m R, ↓kx10m R, ↓reduceIte, if_true, if_false, Option.bind_some, b2_some, il0, il1, il2, il3, il4, il5, il6, il7, il8, il9, il10, il11, il12, il13, il14, il15, il16, il17, il18, il19, il20, il21, il22, il23, il24, il25, il26, il27, il28, il29, il30, il31, il32, il33, il36, il38, il39, il40, il41, il48, il50, il51, il57, il59, il60, il61, il62, il63, il70, il96, il99, il100, il101, il102, il103, il104, il105, il106, il107, il108, il109, il110, il111, il112, il115, il116, il120, il121, il124, il200, il240, il255, il288, il360, il420, il999, il1000, il114292, il152755, il402789, il435589, il463922, il533611, il631470, iz_add, iz_sub, iz_mul, iz_neg, iz_le, iz_lt, iz_eq, Int.le_refl, c]
      rfl
  | succ d ih =>
    intro i n h hi hn R
    obtain ⟨n, rfl⟩ : ∃ k, n = k + 1 := ⟨n - 1, by omega⟩
    rw [f_X10_stepOnce_36]
    have hc : ¬ ((vT V : Int) ≤ i) := by omega
    have hb := bet_bd (V := V) (f := f) i
    have hw1 := worth_bd w (f := f) (t := i) (by omega) (by omega)
    have hw0 := worth_bd w (f := f) (t := if bet V f i = -1 then va V 7 f else bet V f i) (by omega) (by split <;> omega)
    have hg := m_can R w hN (f := f) (t := i) (by omega) (by omega)
    cases hbc : canGoB V f i with
    | false =>
      rw [hbc] at hg
      have e1 : bet V f (i + 1) = bet V f i := by rw [bet, if_neg (by rw [hbc]; simp)]
      obtain ⟨h', e', r⟩ := ih (i + 1) n h (by omega) (by omega) R
      rw [e1] at e'
      refine ⟨h', ?_, r⟩
      simp (disch := omega) only [↓kmC R.1, ↓kmT R, ↓kmF R, ↓kmM R, ↓kmD R, ↓kmP R, ↓kr72 R.1, ↓kr73 R.1, ↓kr74 R.1, ↓kr75 R.1, ↓kr76 R.1, ↓kr77 R.1, ↓kr78 R.1, ↓kr79 R.1, ↓kr80 R.1, ↓kr81 R.1, ↓kr82 R.1, ↓kr83 R.1, ↓kr84 R.1, ↓kr85 R.1, ↓kr86 R.1, ↓kr87 R.1, ↓kr88 R.1, ↓kr89 R.1, ↓kr90 R.1, ↓kr91 R.1, ↓kr92 R.1, ↓kr93 R.1, ↓kr94 R.1, ↓kr95 R.1, ↓kr96 R.1, ↓kr97 R.1, ↓kr98 R.1, ↓kr99 R.1, ↓kr100 R.1, ↓kr101 R.1, ↓kr102 R.1, ↓kr103 R.1, ↓kr104 R.1, ↓kr105 R.1, ↓kr106 R.1, ↓kr107 R.1, ↓kr108 R.1, ↓kr109 R.1, ↓kr110 R.1, ↓kx0 R, ↓kx1 R, ↓kx2 R, ↓kx3 R, ↓kx4 R, ↓kx5 R, ↓kx6 R, ↓kx7 R, ↓kx8 R, ↓kx9 R, ↓kx10 R, ↓kx11 R, ↓kx1m R, ↓kx9m R, ↓kx10m R, ↓reduceIte, if_true, if_false, Option.bind_some, b2_some, il0, il1, il2, il3, il4, il5, il6, il7, il8, il9, il10, il11, il12, il13, il14, il15, il16, il17, il18, il19, il20, il21, il22, il23, il24, il25, il26, il27, il28, il29, il30, il31, il32, il33, il36, il38, il39, il40, il41, il48, il50, il51, il57, il59, il60, il61, il62, il63, il70, il96, il99, il100, il101, il102, il103, il104, il105, il106, il107, il108, il109, il110, il111, il112, il115, il116, il120, il121, il124, il200, il240, il255, il288, il360, il420, il999, il1000, il114292, il152755, il402789, il435589, il463922, il533611, il631470, iz_add, iz_sub, iz_mul, iz_neg, iz_le, iz_lt, iz_eq, hc, ↓bq hg, bi_f]
      exact e'
    | true =>
      rw [hbc] at hg
      obtain ⟨h1, ee, R1, F1⟩ := m_worth R w hN (f := f) (t := i) hf (by omega)
      by_cases c : worth V f (if bet V f i = -1 then va V 7 f else bet V f i) < worth V f i
      · have e1 : bet V f (i + 1) = i := by rw [bet, if_pos ⟨hbc, c⟩]
        obtain ⟨h2, ee2, R2, F2⟩ := m_worth R1 w hN (f := f) (t := i) hf (by omega)
        obtain ⟨h', e', R', F'⟩ := ih (i + 1) n h2 (by omega) (by omega) R2
        rw [e1, if_neg (show ¬ ((i : Int) = -1) by omega)] at e'
        refine ⟨h', ?_, R', (F1.tr F2).tr F'⟩
        simp (disch := omega) only [↓kmC R.1, ↓kmT R, ↓kmF R, ↓kmM R, ↓kmD R, ↓kmP R, ↓kr72 R.1, ↓kr73 R.1, ↓kr74 R.1, ↓kr75 R.1, ↓kr76 R.1, ↓kr77 R.1, ↓kr78 R.1, ↓kr79 R.1, ↓kr80 R.1, ↓kr81 R.1, ↓kr82 R.1, ↓kr83 R.1, ↓kr84 R.1, ↓kr85 R.1, ↓kr86 R.1, ↓kr87 R.1, ↓kr88 R.1, ↓kr89 R.1, ↓kr90 R.1, ↓kr91 R.1, ↓kr92 R.1, ↓kr93 R.1, ↓kr94 R.1, ↓kr95 R.1, ↓kr96 R.1, ↓kr97 R.1, ↓kr98 R.1, ↓kr99 R.1, ↓kr100 R.1, ↓kr101 R.1, ↓kr102 R.1, ↓kr103 R.1, ↓kr104 R.1, ↓kr105 R.1, ↓kr106 R.1, ↓kr107 R.1, ↓kr108 R.1, ↓kr109 R.1, ↓kr110 R.1, ↓kx0 R, ↓kx1 R, ↓kx2 R, ↓kx3 R, ↓kx4 R, ↓kx5 R, ↓kx6 R, ↓kx7 R, ↓kx8 R, ↓kx9 R, ↓kx10 R, ↓kx11 R, ↓kx1m R, ↓kx9m R, ↓kx10m R, ↓reduceIte, if_true, if_false, Option.bind_some, b2_some, il0, il1, il2, il3, il4, il5, il6, il7, il8, il9, il10, il11, il12, il13, il14, il15, il16, il17, il18, il19, il20, il21, il22, il23, il24, il25, il26, il27, il28, il29, il30, il31, il32, il33, il36, il38, il39, il40, il41, il48, il50, il51, il57, il59, il60, il61, il62, il63, il70, il96, il99, il100, il101, il102, il103, il104, il105, il106, il107, il108, il109, il110, il111, il112, il115, il116, il120, il121, il124, il200, il240, il255, il288, il360, il420, il999, il1000, il114292, il152755, il402789, il435589, il463922, il533611, il631470, iz_add, iz_sub, iz_mul, iz_neg, iz_le, iz_lt, iz_eq, hc, ↓bq hg, bi_t, h3, ↓bq ee, lcmp_lt, c, ↓kmC R1.1, ↓bq ee2]
        exact e'
      · have e1 : bet V f (i + 1) = bet V f i := by rw [bet, if_neg (fun z => c z.2)]
        obtain ⟨h', e', R', F'⟩ := ih (i + 1) n h1 (by omega) (by omega) R1
        rw [e1] at e'
        refine ⟨h', ?_, R', F1.tr F'⟩
        simp (disch := omega) only [↓kmC R.1, ↓kmT R, ↓kmF R, ↓kmM R, ↓kmD R, ↓kmP R, ↓kr72 R.1, ↓kr73 R.1, ↓kr74 R.1, ↓kr75 R.1, ↓kr76 R.1, ↓kr77 R.1, ↓kr78 R.1, ↓kr79 R.1, ↓kr80 R.1, ↓kr81 R.1, ↓kr82 R.1, ↓kr83 R.1, ↓kr84 R.1, ↓kr85 R.1, ↓kr86 R.1, ↓kr87 R.1, ↓kr88 R.1, ↓kr89 R.1, ↓kr90 R.1, ↓kr91 R.1, ↓kr92 R.1, ↓kr93 R.1, ↓kr94 R.1, ↓kr95 R.1, ↓kr96 R.1, ↓kr97 R.1, ↓kr98 R.1, ↓kr99 R.1, ↓kr100 R.1, ↓kr101 R.1, ↓kr102 R.1, ↓kr103 R.1, ↓kr104 R.1, ↓kr105 R.1, ↓kr106 R.1, ↓kr107 R.1, ↓kr108 R.1, ↓kr109 R.1, ↓kr110 R.1, ↓kx0 R, ↓kx1 R, ↓kx2 R, ↓kx3 R, ↓kx4 R, ↓kx5 R, ↓kx6 R, ↓kx7 R, ↓kx8 R, ↓kx9 R, ↓kx10 R, ↓kx11 R, ↓kx1m R, ↓kx9m R, ↓kx10m R, ↓reduceIte, if_true, if_false, Option.bind_some, b2_some, il0, il1, il2, il3, il4, il5, il6, il7, il8, il9, il10, il11, il12, il13, il14, il15, il16, il17, il18, il19, il20, il21, il22, il23, il24, il25, il26, il27, il28, il29, il30, il31, il32, il33, il36, il38, il39, il40, il41, il48, il50, il51, il57, il59, il60, il61, il62, il63, il70, il96, il99, il100, il101, il102, il103, il104, il105, il106, il107, il108, il109, il110, il111, il112, il115, il116, il120, il121, il124, il200, il240, il255, il288, il360, il420, il999, il1000, il114292, il152755, il402789, il435589, il463922, il533611, il631470, iz_add, iz_sub, iz_mul, iz_neg, iz_le, iz_lt, iz_eq, hc, ↓bq hg, bi_t, h3, ↓bq ee, lcmp_lt, c]
        exact e'
def gR_ (V : Vw) : Int := match goer V 0 (vF V) with
  | some f => f
  | none => -5
theorem m_step_5 (w : WF V) (hN : 200 ≤ N) {v1 : Int32} : ∀ (d i n : Nat) (h : Mem), i + d = vF V → d < n → RepM h V → goer V 0 (vF V) = goer V i d → ∃ h', f_X10_stepOnce_5 N n 71 v1 (iz (-5)) (iz (i : Int)) h = f_X10_stepOnce_114 N 71 v1 (iz (gR_ V)) h' ∧ RepM h' (goV V) ∧ FM SR h h' := by
  intro d
  have hF := w.F
  have hT := w.T
  have hm5 : ¬ ((0 : Int) ≤ -5) := by decide
  induction d with
  | zero =>
    intro i n h hi hn R hg
    obtain ⟨n, rfl⟩ : ∃ k, n = k + 1 := ⟨n - 1, by omega⟩
    rw [f_X10_stepOnce_5]
    obtain rfl : i = vF V := by omega
    have hg' : goer V 0 (vF V) = none := hg
    refine ⟨h, ?_, by unfold goV; rw [hg']; exact R, FM.rf⟩
    unfold gR_
    rw [hg']
    simp (disch := omega) only [↓kmC R.1, ↓kmT R, ↓kmF R, ↓kmM R, ↓kmD R, ↓kmP R, ↓kr72 R.1, ↓kr73 R.1, ↓kr74 R.1, ↓kr75 R.1, ↓kr76 R.1, ↓kr77 R.1, ↓kr78 R.1, ↓kr79 R.1, ↓kr80 R.1, ↓kr81 R.1, ↓kr82 R.1, ↓kr83 R.1, ↓kr84 R.1, ↓kr85 R.1, ↓kr86 R.1, ↓kr87 R.1, ↓kr88 R.1, ↓kr89 R.1, ↓kr90 R.1, ↓kr91 R.1, ↓kr92 R.1, ↓kr93 R.1, ↓kr94 R.1, ↓kr95 R.1, ↓kr96 R.1, ↓kr97 R.1, ↓kr98 R.1, ↓kr99 R.1, ↓kr100 R.1, ↓kr101 R.1, ↓kr102 R.1, ↓kr103 R.1, ↓kr104 R.1, ↓kr105 R.1, ↓kr106 R.1, ↓kr107 R.1, ↓kr108 R.1, ↓kr109 R.1, ↓kr110 R.1, ↓kx0 R, ↓kx1 R, ↓kx2 R, ↓kx3 R, ↓kx4 R, ↓kx5 R, ↓kx6 R, ↓kx7 R, ↓kx8 R, ↓kx9 R, ↓kx10 R, ↓kx11 R, ↓kx1m R, ↓kx9m R, ↓kx10m R, ↓reduceIte, if_true, if_false, Option.bind_some, b2_some, il0, il1, il2, il3, il4, il5, il6, il7, il8, il9, il10, il11, il12, il13, il14, il15, il16, il17, il18, il19, il20, il21, il22, il23, il24, il25, il26, il27, il28, il29, il30, il31, il32, il33, il36, il38, il39, il40, il41, il48, il50, il51, il57, il59, il60, il61, il62, il63, il70, il96, il99, il100, il101, il102, il103, il104, il105, il106, il107, il108, il109, il110, il111, il112, il115, il116, il120, il121, il124, il200, il240, il255, il288, il360, il420, il999, il1000, il114292, il152755, il402789, il435589, il463922, il533611, il631470, iz_add, iz_sub, iz_mul, iz_neg, iz_le, iz_lt, iz_eq, Int.le_refl]
  | succ d ih =>
    intro i n h hi hn R hg
    obtain ⟨n, rfl⟩ : ∃ k, n = k + 1 := ⟨n - 1, by omega⟩
    rw [f_X10_stepOnce_5]
    have hc : ¬ ((vF V : Int) ≤ i) := by omega
    have hwf := w.f (j := i) (by omega) (by omega)
    have hwi := w.i (j := i) (by omega) (by omega)
    have hb := bet_bd (V := V) (f := i) (vT V)
    obtain ⟨h1, e1, R1, F1⟩ := m_worth R w hN (f := i) (t := va V 7 i) (by omega) (by omega)
    obtain ⟨h2, e2, R2, F2⟩ := m_better (N := N) w hN (f := i) (by omega) (v1 := v1) (v2 := iz (-5)) (fun v0 v1 v2 v3 h => f_X10_stepOnce_5 N n v0 v1 v2 v3 h) (vT V) 0 N h1 (by omega) (by omega) R1
    have F12 := (F1.tr F2).mono SP_SR
    by_cases hz : 0 ≤ bet V i (vT V)
    · have hg' : goer V 0 (vF V) = some i := by
        rw [hg]
        unfold goer
        rw [fs, if_pos (by simpa using hz)]
      rw [if_pos hz] at e2
      have R3 : RepM (wr h2 79 (upd (h2.2.1 79) i (iz (bet V i (vT V))))) (vset V 7 i (bet V i (vT V))) := R2.set (k := 7) (j := i) (x := bet V i (vT V)) (by omega) (by omega)
      refine ⟨_, ?_, by unfold goV; rw [hg']; exact R3, F12.tr (FM.wr_ (by decide) (by decide))⟩
      unfold gR_
      rw [hg']
      dsimp only
      simp (disch := omega) only [↓kmC R.1, ↓kmT R, ↓kmF R, ↓kmM R, ↓kmD R, ↓kmP R, ↓kr72 R.1, ↓kr73 R.1, ↓kr74 R.1, ↓kr75 R.1, ↓kr76 R.1, ↓kr77 R.1, ↓kr78 R.1, ↓kr79 R.1, ↓kr80 R.1, ↓kr81 R.1, ↓kr82 R.1, ↓kr83 R.1, ↓kr84 R.1, ↓kr85 R.1, ↓kr86 R.1, ↓kr87 R.1, ↓kr88 R.1, ↓kr89 R.1, ↓kr90 R.1, ↓kr91 R.1, ↓kr92 R.1, ↓kr93 R.1, ↓kr94 R.1, ↓kr95 R.1, ↓kr96 R.1, ↓kr97 R.1, ↓kr98 R.1, ↓kr99 R.1, ↓kr100 R.1, ↓kr101 R.1, ↓kr102 R.1, ↓kr103 R.1, ↓kr104 R.1, ↓kr105 R.1, ↓kr106 R.1, ↓kr107 R.1, ↓kr108 R.1, ↓kr109 R.1, ↓kr110 R.1, ↓kx0 R, ↓kx1 R, ↓kx2 R, ↓kx3 R, ↓kx4 R, ↓kx5 R, ↓kx6 R, ↓kx7 R, ↓kx8 R, ↓kx9 R, ↓kx10 R, ↓kx11 R, ↓kx1m R, ↓kx9m R, ↓kx10m R, ↓reduceIte, if_true, if_false, Option.bind_some, b2_some, il0, il1, il2, il3, il4, il5, il6, il7, il8, il9, il10, il11, il12, il13, il14, il15, il16, il17, il18, il19, il20, il21, il22, il23, il24, il25, il26, il27, il28, il29, il30, il31, il32, il33, il36, il38, il39, il40, il41, il48, il50, il51, il57, il59, il60, il61, il62, il63, il70, il96, il99, il100, il101, il102, il103, il104, il105, il106, il107, il108, il109, il110, il111, il112, il115, il116, il120, il121, il124, il200, il240, il255, il288, il360, il420, il999, il1000, il114292, il152755, il402789, il435589, il463922, il533611, il631470, iz_add, iz_sub, iz_mul, iz_neg, iz_le, iz_lt, iz_eq, hc, hm5, ↓bq e1]
      refine e2.trans ?_
      obtain ⟨n, rfl⟩ : ∃ k, n = k + 1 := ⟨n - 1, by omega⟩
      rw [f_X10_stepOnce_5]
      have hi0 : (0 : Int) ≤ i := by omega
      by_cases h4 : (vF V : Int) ≤ ((i + 1 : Nat) : Int)
      · simp (disch := omega) only [↓kmF R3, if_true, if_false, Option.bind_some, b2_some, il0, il1, il2, il3, il4, il5, il6, il7, il8, il9, il10, il11, il12, il13, il14, il15, il16, il17, il18, il19, il20, il21, il22, il23, il24, il25, il26, il27, il28, il29, il30, il31, il32, il33, il36, il38, il39, il40, il41, il48, il50, il51, il57, il59, il60, il61, il62, il63, il70, il96, il99, il100, il101, il102, il103, il104, il105, il106, il107, il108, il109, il110, il111, il112, il115, il116, il120, il121, il124, il200, il240, il255, il288, il360, il420, il999, il1000, il114292, il152755, il402789, il435589, il463922, il533611, il631470, iz_add, iz_sub, iz_mul, iz_neg, iz_le, iz_lt, iz_eq, h4, vset_F, ↓reduceIte]
      · simp (disch := omega) only [↓kmF R3, if_true, if_false, Option.bind_some, b2_some, il0, il1, il2, il3, il4, il5, il6, il7, il8, il9, il10, il11, il12, il13, il14, il15, il16, il17, il18, il19, il20, il21, il22, il23, il24, il25, il26, il27, il28, il29, il30, il31, il32, il33, il36, il38, il39, il40, il41, il48, il50, il51, il57, il59, il60, il61, il62, il63, il70, il96, il99, il100, il101, il102, il103, il104, il105, il106, il107, il108, il109, il110, il111, il112, il115, il116, il120, il121, il124, il200, il240, il255, il288, il360, il420, il999, il1000, il114292, il152755, il402789, il435589, il463922, il533611, il631470, iz_add, iz_sub, iz_mul, iz_neg, iz_le, iz_lt, iz_eq, h4, vset_F, ↓reduceIte, hi0]
    · rw [if_neg hz] at e2
      obtain ⟨h', e', R', F'⟩ := ih (i + 1) n h2 (by omega) (by omega) R2 (by
        rw [hg]
        unfold goer
        rw [fs, if_neg (by simpa using hz)])
      refine ⟨h', ?_, R', F12.tr F'⟩
      simp (disch := omega) only [↓kmC R.1, ↓kmT R, ↓kmF R, ↓kmM R, ↓kmD R, ↓kmP R, ↓kr72 R.1, ↓kr73 R.1, ↓kr74 R.1, ↓kr75 R.1, ↓kr76 R.1, ↓kr77 R.1, ↓kr78 R.1, ↓kr79 R.1, ↓kr80 R.1, ↓kr81 R.1, ↓kr82 R.1, ↓kr83 R.1, ↓kr84 R.1, ↓kr85 R.1, ↓kr86 R.1, ↓kr87 R.1, ↓kr88 R.1, ↓kr89 R.1, ↓kr90 R.1, ↓kr91 R.1, ↓kr92 R.1, ↓kr93 R.1, ↓kr94 R.1, ↓kr95 R.1, ↓kr96 R.1, ↓kr97 R.1, ↓kr98 R.1, ↓kr99 R.1, ↓kr100 R.1, ↓kr101 R.1, ↓kr102 R.1, ↓kr103 R.1, ↓kr104 R.1, ↓kr105 R.1, ↓kr106 R.1, ↓kr107 R.1, ↓kr108 R.1, ↓kr109 R.1, ↓kr110 R.1, ↓kx0 R, ↓kx1 R, ↓kx2 R, ↓kx3 R, ↓kx4 R, ↓kx5 R, ↓kx6 R, ↓kx7 R, ↓kx8 R, ↓kx9 R, ↓kx10 R, ↓kx11 R, ↓kx1m R, ↓kx9m R, ↓kx10m R, ↓reduceIte, if_true, if_false, Option.bind_some, b2_some, il0, il1, il2, il3, il4, il5, il6, il7, il8, il9, il10, il11, il12, il13, il14, il15, il16, il17, il18, il19, il20, il21, il22, il23, il24, il25, il26, il27, il28, il29, il30, il31, il32, il33, il36, il38, il39, il40, il41, il48, il50, il51, il57, il59, il60, il61, il62, il63, il70, il96, il99, il100, il101, il102, il103, il104, il105, il106, il107, il108, il109, il110, il111, il112, il115, il116, il120, il121, il124, il200, il240, il255, il288, il360, il420, il999, il1000, il114292, il152755, il402789, il435589, il463922, il533611, il631470, iz_add, iz_sub, iz_mul, iz_neg, iz_le, iz_lt, iz_eq, hc, hm5, ↓bq e1]
      exact e2.trans e'
theorem m_step_147 {r n : Int} {h : Mem} (hr : -5 ≤ r ∧ r ≤ 8) (hr2 : r < 0 → r = -5) (hn : 0 ≤ n ∧ n ≤ 12) : f_X10_stepOnce_147 N (iz r) (iz n) h = some (iz (if r = -5 then (if n = 0 then -6 else -5) else r), h) := by
  unfold f_X10_stepOnce_147 f_X10_stepOnce_155
  by_cases h1 : r = -5
  · have q : ¬ (0 ≤ r) := by omega
    by_cases h2 : n = 0
    · have q2 : n ≤ 0 := by omega
      rw [if_pos h1, if_pos h2]
      simp (disch := omega) only [if_true, if_false, Option.bind_some, b2_some, il0, il1, il2, il3, il4, il5, il6, il7, il8, il9, il10, il11, il12, il13, il14, il15, il16, il17, il18, il19, il20, il21, il22, il23, il24, il25, il26, il27, il28, il29, il30, il31, il32, il33, il36, il38, il39, il40, il41, il48, il50, il51, il57, il59, il60, il61, il62, il63, il70, il96, il99, il100, il101, il102, il103, il104, il105, il106, il107, il108, il109, il110, il111, il112, il115, il116, il120, il121, il124, il200, il240, il255, il288, il360, il420, il999, il1000, il114292, il152755, il402789, il435589, il463922, il533611, il631470, iz_add, iz_sub, iz_mul, iz_neg, iz_le, iz_lt, iz_eq, q, q2, ↓reduceIte]
    · have q2 : ¬ (n ≤ 0) := by omega
      rw [if_pos h1, if_neg h2, h1]
      have q3 : ¬ ((0 : Int) ≤ -5) := by decide
      simp (disch := omega) only [if_true, if_false, Option.bind_some, b2_some, il0, il1, il2, il3, il4, il5, il6, il7, il8, il9, il10, il11, il12, il13, il14, il15, il16, il17, il18, il19, il20, il21, il22, il23, il24, il25, il26, il27, il28, il29, il30, il31, il32, il33, il36, il38, il39, il40, il41, il48, il50, il51, il57, il59, il60, il61, il62, il63, il70, il96, il99, il100, il101, il102, il103, il104, il105, il106, il107, il108, il109, il110, il111, il112, il115, il116, il120, il121, il124, il200, il240, il255, il288, il360, il420, il999, il1000, il114292, il152755, il402789, il435589, il463922, il533611, il631470, iz_add, iz_sub, iz_mul, iz_neg, iz_le, iz_lt, iz_eq, q3, q2, ↓reduceIte]
  · have q : 0 ≤ r := by omega
    rw [if_neg h1]
    simp (disch := omega) only [if_true, if_false, Option.bind_some, b2_some, il0, il1, il2, il3, il4, il5, il6, il7, il8, il9, il10, il11, il12, il13, il14, il15, il16, il17, il18, il19, il20, il21, il22, il23, il24, il25, il26, il27, il28, il29, il30, il31, il32, il33, il36, il38, il39, il40, il41, il48, il50, il51, il57, il59, il60, il61, il62, il63, il70, il96, il99, il100, il101, il102, il103, il104, il105, il106, il107, il108, il109, il110, il111, il112, il115, il116, il120, il121, il124, il200, il240, il255, il288, il360, il420, il999, il1000, il114292, il152755, il402789, il435589, il463922, il533611, il631470, iz_add, iz_sub, iz_mul, iz_neg, iz_le, iz_lt, iz_eq, q, ↓reduceIte]
theorem m_step_119 (w : WF V) (hN : 200 ≤ N) {r : Int} (hr : -5 ≤ r ∧ r ≤ 8) (hr2 : r < 0 → r = -5) : ∀ (d i n : Nat) (h : Mem), i + d = vT V → d < n → RepM h (votesV V i) → ∃ h', f_X10_stepOnce_119 N n 71 (iz 1) (iz r) (iz (votesN V i)) (iz (i : Int)) h = some (iz (if r = -5 then (if votesN V (vT V) = 0 then -6 else -5) else r), h') ∧ RepM h' (votesV V (vT V)) ∧ FM SV h h' := by
  intro d
  have hT := w.T
  have h3 : ¬ ((1 : Int) = 0) := by decide
  induction d with
  | zero =>
    intro i n h hi hn R
    obtain ⟨n, rfl⟩ : ∃ k, n = k + 1 := ⟨n - 1, by omega⟩
    obtain rfl : i = vT V := by omega
    have tf := votes_TF (V := V) (vT V)
    have hb := votesN_bd (V := V) (vT V)
    refine ⟨h, ?_, R, FM.rf⟩
    have e := m_step_147 (N := N) (h := h) hr hr2 (n := votesN V (vT V)) (by omega)
    rw [f_X10_stepOnce_119]
    simp (disch := omega) only [↓kmT R, tf.1, if_true, if_false, Option.bind_some, b2_some, il0, il1, il2, il3, il4, il5, il6, il7, il8, il9, il10, il11, il12, il13, il14, il15, il16, il17, il18, il19, il20, il21, il22, il23, il24, il25, il26, il27, il28, il29, il30, il31, il32, il33, il36, il38, il39, il40, il41, il48, il50, il51, il57, il59, il60, il61, il62, il63, il70, il96, il99, il100, il101, il102, il103, il104, il105, il106, il107, il108, il109, il110, il111, il112, il115, il116, il120, il121, il124, il200, il240, il255, il288, il360, il420, il999, il1000, il114292, il152755, il402789, il435589, il463922, il533611, il631470, iz_add, iz_sub, iz_mul, iz_neg, iz_le, iz_lt, iz_eq, Int.le_refl, ↓reduceIte]
    exact e
  | succ d ih =>
    intro i n h hi hn R
    obtain ⟨n, rfl⟩ : ∃ k, n = k + 1 := ⟨n - 1, by omega⟩
    have hc : ¬ ((vT V : Int) ≤ i) := by omega
    have tf := votes_TF (V := V) i
    obtain ⟨h1, e1, R1, F1⟩ := m_chooses (N := N) R (votes_wf w i) hN (t := i) (by omega)
    obtain ⟨h', e', R', F'⟩ := ih (i + 1) n h1 (by omega) (by omega) R1
    refine ⟨h', ?_, R', F1.tr F'⟩
    rw [f_X10_stepOnce_119]
    simp (disch := omega) only [↓kmT R, tf.1, if_true, if_false, Option.bind_some, b2_some, il0, il1, il2, il3, il4, il5, il6, il7, il8, il9, il10, il11, il12, il13, il14, il15, il16, il17, il18, il19, il20, il21, il22, il23, il24, il25, il26, il27, il28, il29, il30, il31, il32, il33, il36, il38, il39, il40, il41, il48, il50, il51, il57, il59, il60, il61, il62, il63, il70, il96, il99, il100, il101, il102, il103, il104, il105, il106, il107, il108, il109, il110, il111, il112, il115, il116, il120, il121, il124, il200, il240, il255, il288, il360, il420, il999, il1000, il114292, il152755, il402789, il435589, il463922, il533611, il631470, iz_add, iz_sub, iz_mul, iz_neg, iz_le, iz_lt, iz_eq, hc, h3, ↓reduceIte, ↓kmC R.1, ↓bq e1]
    exact e'
theorem gR_bd (w : WF V) : -5 ≤ gR_ V ∧ gR_ V ≤ 8 ∧ (gR_ V < 0 → gR_ V = -5) := by
  have hF := w.F
  unfold gR_
  cases hg : goer V 0 (vF V) with
  | none => dsimp only; omega
  | some f =>
    have := goer_lt hg
    dsimp only
    omega
theorem goV_none (hg : goer V 0 (vF V) = none) : goV V = V := by unfold goV; rw [hg]
theorem m_step {h : Mem} (R : RepM h V) (w : WF V) (hN : 200 ≤ N) {v : Int} (hv : v = 0 ∨ v = 1) : ∃ h', f_X10_stepOnce N 71 (iz v) h = some (iz (strideR V v), h') ∧ RepM h' (strideV V v) ∧ FM SR h h' := by
  have hF := w.F
  have hT := w.T
  obtain ⟨h1, e1, R1, F1⟩ := m_step_5 (N := N) w hN (v1 := iz v) (vF V) 0 N h (by omega) (by omega) R rfl
  have gb := gR_bd w
  have wg := goV_wf w
  have tg := goV_TF (V := V)
  have e0 : f_X10_stepOnce N 71 (iz v) h = f_X10_stepOnce_119 N N 71 (iz v) (iz (gR_ V)) (iz 0) (iz 0) h1 := e1
  rcases hv with rfl | rfl
  · refine ⟨h1, ?_, by unfold strideV; rw [if_pos rfl]; exact R1, F1⟩
    rw [e0]
    obtain ⟨N0, hN0⟩ : ∃ k, N = k + 1 := ⟨N - 1, by omega⟩
    have e := m_step_147 (N := N) (h := h1) ⟨gb.1, gb.2.1⟩ gb.2.2 (n := 0) (by omega)
    have er : strideR V 0 = (if gR_ V = -5 then (if (0 : Int) = 0 then -6 else -5) else gR_ V) := by
      unfold strideR gR_
      cases hg : goer V 0 (vF V) with
      | none => rfl
      | some f =>
        dsimp only
        rw [if_neg (by omega)]
    rw [er, ← e]
    have : ∀ m, f_X10_stepOnce_119 N (m + 1) 71 (iz 0) (iz (gR_ V)) (iz 0) (iz 0) h1 = f_X10_stepOnce_147 N (iz (gR_ V)) (iz 0) h1 := by
      intro m
      rw [f_X10_stepOnce_119, kmT R1]
      split
      · rfl
      · exact if_pos (by decide)
    rw [show f_X10_stepOnce_119 N N = f_X10_stepOnce_119 N (N0 + 1) by rw [← hN0]]
    exact this N0
  · obtain ⟨h', e', R', F'⟩ := m_step_119 (N := N) wg hN (r := gR_ V) ⟨gb.1, gb.2.1⟩ gb.2.2 (vT (goV V)) 0 N h1 (by omega) (by rw [tg.1]; omega) R1
    refine ⟨h', ?_, ?_, F1.tr (F'.mono SV_SR)⟩
    · rw [e0]
      refine e'.trans ?_
      congr 2
      apply iz_inj
      rw [tg.1]
      unfold strideR gR_
      cases hg : goer V 0 (vF V) with
      | none =>
        rw [goV_none hg]
        rfl
      | some f =>
        dsimp only
        rw [if_neg (by omega)]
    · unfold strideV
      rw [if_neg (by decide)]
      rw [tg.1] at R'
      exact R'
end
