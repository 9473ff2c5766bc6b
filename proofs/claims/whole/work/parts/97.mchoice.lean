theorem sm_add {g g' : Nat → Int} : ∀ n, sm (fun v => g v + g' v) n = sm g n + sm g' n := by
  intro n
  induction n with
  | zero => rfl
  | succ n ih => rw [sm_succ, sm_succ, sm_succ, ih]; omega
theorem sm_zero : ∀ n, sm (fun _ => 0) n = 0 := by
  intro n
  induction n with
  | zero => rfl
  | succ n ih => rw [sm_succ, ih]; rfl
theorem sm_ind {a : Int} : ∀ n : Nat, sm (fun v => if a = (v : Int) then 1 else 0) n = if 0 ≤ a ∧ a < n then 1 else 0 := by
  intro n
  induction n with
  | zero => rw [if_neg (by omega)]; rfl
  | succ n ih =>
    rw [sm_succ, ih]
    by_cases h1 : a = (n : Int)
    · rw [if_pos h1, if_neg (by omega), if_pos (by omega)]; rfl
    · rw [if_neg h1]
      by_cases h2 : 0 ≤ a ∧ a < n
      · rw [if_pos h2, if_pos (by omega)]; rfl
      · rw [if_neg h2, if_neg (by omega)]; rfl
theorem tally_voters {V : Vw} {t g : Int} {old : Bool} : ∀ n, sm (tally V t g old n) 6 = voters V t old n := by
  intro n
  induction n with
  | zero => rfl
  | succ n ih =>
    have e : sm (tally V t g old (n + 1)) 6 = sm (fun v => tally V t g old n v + (if (va V 7 n = t ∧ (old = false ∨ va V 8 n = t)) ∧ want V n t g = v then 1 else 0)) 6 := sm_congr 6 (fun v _ => tally_succ)
    rw [e, sm_add, ih, voters_succ]
    congr 1
    by_cases c : va V 7 n = t ∧ (old = false ∨ va V 8 n = t)
    · rw [if_pos c]
      have hw := want_bd (V := V) (f := n) (t := t) (g := g)
      have e2 := sm_ind (a := want V n t g) 6
      rw [if_pos (by omega)] at e2
      refine Eq.trans (sm_congr 6 (fun v _ => ?_)) e2
      · show _ = if want V n t g = (v : Int) then (1 : Int) else 0
        by_cases d : want V n t g = v
        · rw [if_pos ⟨c, d⟩, if_pos d]
        · rw [if_neg (fun z => d z.2), if_neg d]
    · rw [if_neg c]
      refine (sm_congr 6 (fun v _ => ?_)).trans (sm_zero 6)
      rw [if_neg (fun z => c z.1)]
section
variable {V : Vw} {N : Nat}
theorem piC_cs {p : Int} (hp : 0 ≤ p ∧ p ≤ 2) : (p = 0 ∧ piC p = 109) ∨ (p = 1 ∧ piC p = 100) ∨ (p = 2 ∧ piC p = 111) := by
  rcases (show p = 0 ∨ p = 1 ∨ p = 2 by omega) with rfl | rfl | rfl
  · exact Or.inl ⟨rfl, rfl⟩
  · exact Or.inr (Or.inl ⟨rfl, rfl⟩)
  · exact Or.inr (Or.inr ⟨rfl, rfl⟩)
def chX (V : Vw) (t g : Int) (old : Bool) : Int := if va V 12 2 = 1 then midf (tally V t g old (vF V)) (voters V t old (vF V)) 0 6 else wbest (tally V t g old (vF V)) 6
theorem sm_mono {g : Nat → Int} (hg : ∀ v, 0 ≤ g v) : ∀ n, 0 ≤ sm g n := fun n => sm_nn n (fun i _ => hg i)
theorem m_mid {h : Mem} (R : RepM h V) {ta : Nat → Int} {vo : Int} (hvo : 1 ≤ vo ∧ vo ≤ 8) (hs : sm ta 6 = vo) (hta : ∀ v : Nat, v < 6 → h.2.1 93 v = iz (ta v)) (hb : ∀ v : Nat, 0 ≤ ta v ∧ ta v ≤ 8) : ∀ (d i n : Nat), i + d = 6 → d < n → sm ta i ≤ (vo - 1) / 2 → f_X10_choiceOf_184 N n 71 (iz vo) (iz (i : Int)) (iz ((vo - 1) / 2 - sm ta i)) h = some (iz (midf ta vo i d), h) := by
  intro d
  induction d with
  | zero =>
    intro i n hi hn hl
    obtain rfl : i = 6 := by omega
    omega
  | succ d ih =>
    intro i n hi hn hl
    obtain ⟨n, rfl⟩ : ∃ k, n = k + 1 := ⟨n - 1, by omega⟩
    have hbi := hb i
    have hsi := sm_mono (fun v => (hb v).1) i
    have hc : ¬ (vo ≤ 0) := by omega
    have et := hta i (by omega)
    rw [f_X10_choiceOf_184, midf, sm_succ]
    by_cases c : (vo - 1) / 2 - sm ta i < ta i
    · rw [if_neg (show ¬ (2 * (sm ta i + ta i) < vo) by omega)]
      simp (disch := omega) only [il0, il1, il2, il3, il4, il5, il6, il7, il8, il9, il10, il11, il12, il13, il14, il15, il16, il17, il18, il19, il20, il21, il22, il23, il24, il25, il26, il27, il28, il29, il30, il31, il32, il33, il36, il38, il39, il40, il41, il48, il50, il51, il57, il59, il60, il61, il62, il63, il70, il96, il99, il100, il101, il102, il103, il104, il105, il106, il107, il108, il109, il110, il111, il112, il115, il116, il120, il121, il124, il200, il240, il255, il288, il360, il420, il999, il1000, il114292, il152755, il402789, il435589, il463922, il533611, il631470, iz_le, hc, ↓reduceIte, ↓kr93 R.1, ↓kl93 R.1, toN, et, iz_lt, c]
    · rw [if_pos (show 2 * (sm ta i + ta i) < vo by omega)]
      have e := ih (i + 1) n (by omega) (by omega) (by rw [sm_succ]; omega)
      rw [sm_succ] at e
      simp (disch := omega) only [il0, il1, il2, il3, il4, il5, il6, il7, il8, il9, il10, il11, il12, il13, il14, il15, il16, il17, il18, il19, il20, il21, il22, il23, il24, il25, il26, il27, il28, il29, il30, il31, il32, il33, il36, il38, il39, il40, il41, il48, il50, il51, il57, il59, il60, il61, il62, il63, il70, il96, il99, il100, il101, il102, il103, il104, il105, il106, il107, il108, il109, il110, il111, il112, il115, il116, il120, il121, il124, il200, il240, il255, il288, il360, il420, il999, il1000, il114292, il152755, il402789, il435589, il463922, il533611, il631470, iz_le, hc, ↓reduceIte, ↓kr93 R.1, ↓kl93 R.1, toN, et, iz_lt, c, iz_sub, iz_add]
      rw [show (vo - 1) / 2 - sm ta i - ta i = (vo - 1) / 2 - (sm ta i + ta i) by omega]
      exact e
theorem m_common {h : Mem} (R : RepM h V) {ta : Nat → Int} (hta : ∀ v : Nat, v < 6 → h.2.1 93 v = iz (ta v)) (hb : ∀ v : Nat, 0 ≤ ta v ∧ ta v ≤ 8) : ∀ (d i n : Nat), 1 ≤ i → i + d = 6 → d < n → f_X10_choiceOf_225 N n 71 (iz (wbest ta i : Int)) (iz (i : Int)) h = some (iz (wbest ta 6), h) := by
  intro d
  induction d with
  | zero =>
    intro i n h1 hi hn
    obtain ⟨n, rfl⟩ : ∃ k, n = k + 1 := ⟨n - 1, by omega⟩
    obtain rfl : i = 6 := by omega
    rw [f_X10_choiceOf_225]
    simp (disch := omega) only [il0, il1, il2, il3, il4, il5, il6, il7, il8, il9, il10, il11, il12, il13, il14, il15, il16, il17, il18, il19, il20, il21, il22, il23, il24, il25, il26, il27, il28, il29, il30, il31, il32, il33, il36, il38, il39, il40, il41, il48, il50, il51, il57, il59, il60, il61, il62, il63, il70, il96, il99, il100, il101, il102, il103, il104, il105, il106, il107, il108, il109, il110, il111, il112, il115, il116, il120, il121, il124, il200, il240, il255, il288, il360, il420, il999, il1000, il114292, il152755, il402789, il435589, il463922, il533611, il631470, nc1, nc2, nc3, nc4, nc5, nc6, nc7, nc8, nc9, nc12, nc16, nc20, nc21, nc40, nc60, nc120, nc200, Int.le_refl, iz_le, ↓reduceIte]
  | succ d ih =>
    intro i n h1 hi hn
    obtain ⟨n, rfl⟩ : ∃ k, n = k + 1 := ⟨n - 1, by omega⟩
    have hc : ¬ ((6 : Int) ≤ i) := by omega
    have hw := wbest_lt ta i (by omega)
    have e1 := hta i (by omega)
    have e2 := hta (wbest ta i) (by omega)
    have b1 := hb i
    have b2' := hb (wbest ta i)
    have e := ih (i + 1) n (by omega) (by omega) (by omega)
    rw [f_X10_choiceOf_225]
    by_cases c : ta (wbest ta i) < ta i
    · have c' : ¬ (ta i ≤ ta (wbest ta i)) := by omega
      rw [wbest, if_pos c] at e
      simp (disch := omega) only [il0, il1, il2, il3, il4, il5, il6, il7, il8, il9, il10, il11, il12, il13, il14, il15, il16, il17, il18, il19, il20, il21, il22, il23, il24, il25, il26, il27, il28, il29, il30, il31, il32, il33, il36, il38, il39, il40, il41, il48, il50, il51, il57, il59, il60, il61, il62, il63, il70, il96, il99, il100, il101, il102, il103, il104, il105, il106, il107, il108, il109, il110, il111, il112, il115, il116, il120, il121, il124, il200, il240, il255, il288, il360, il420, il999, il1000, il114292, il152755, il402789, il435589, il463922, il533611, il631470, iz_le, hc, ↓reduceIte, ↓kr93 R.1, ↓kl93 R.1, toN, e1, e2, c', iz_add]
      exact e
    · have c' : ta i ≤ ta (wbest ta i) := by omega
      rw [wbest, if_neg c] at e
      simp (disch := omega) only [il0, il1, il2, il3, il4, il5, il6, il7, il8, il9, il10, il11, il12, il13, il14, il15, il16, il17, il18, il19, il20, il21, il22, il23, il24, il25, il26, il27, il28, il29, il30, il31, il32, il33, il36, il38, il39, il40, il41, il48, il50, il51, il57, il59, il60, il61, il62, il63, il70, il96, il99, il100, il101, il102, il103, il104, il105, il106, il107, il108, il109, il110, il111, il112, il115, il116, il120, il121, il124, il200, il240, il255, il288, il360, il420, il999, il1000, il114292, il152755, il402789, il435589, il463922, il533611, il631470, iz_le, hc, ↓reduceIte, ↓kr93 R.1, ↓kl93 R.1, toN, e1, e2, c', iz_add]
      exact e
theorem m_ch_91 (w : WF V) (hN : 200 ≤ N) {t g : Int} (ht : 0 ≤ t ∧ t < 4) (hg : 0 ≤ g ∧ g < 3) (old : Bool) : ∀ (d i n : Nat) (h : Mem), i + d = vF V → d < n → RepM h V → (∀ v : Nat, v < 6 → h.2.1 93 v = iz (tally V t g old i v)) → ∃ h', f_X10_choiceOf_91 N n 71 (iz t) (iz g) (iz (bi old)) (iz (voters V t old i)) (iz (i : Int)) h = some (iz (chX V t g old), h') ∧ RepM h' V ∧ FM SV h h' := by
  intro d
  have hF := w.F
  have hp := w.p
  induction d with
  | zero =>
    intro i n h hi hn R hr
    obtain ⟨n, rfl⟩ : ∃ k, n = k + 1 := ⟨n - 1, by omega⟩
    rw [f_X10_choiceOf_91]
    obtain rfl : i = vF V := by omega
    refine ⟨h, ?_, R, FM.rf⟩
    have hvb := voters_bd (V := V) (t := t) (old := old) (vF V)
    have htb : ∀ v : Nat, 0 ≤ tally V t g old (vF V) v ∧ tally V t g old (vF V) v ≤ 8 := fun v => by
      have := tally_bd (V := V) (t := t) (g := g) (old := old) (vF V) v
      omega
    unfold chX
    by_cases h1 : va V 12 2 = 1
    · rw [if_pos h1]
      have ep : piC (va V 12 2) = 100 := by rw [h1]; rfl
      unfold f_X10_choiceOf_182
      by_cases hv : voters V t old (vF V) = 0
      · have em : midf (tally V t g old (vF V)) 0 0 6 = 0 := by
          rw [midf, if_neg]
          have := (htb 0).1
          show ¬ (2 * (0 + tally V t g old (vF V) 0) < 0)
          omega
        rw [hv, em]
        obtain ⟨n0, rfl⟩ : ∃ k, N = k + 1 := ⟨N - 1, by omega⟩
        simp (disch := omega) only [↓kmC R.1, ↓kmT R, ↓kmF R, ↓kmM R, ↓kmD R, ↓kmP R, ↓kr72 R.1, ↓kr73 R.1, ↓kr74 R.1, ↓kr75 R.1, ↓kr76 R.1, ↓kr77 R.1, ↓kr78 R.1, ↓kr79 R.1, ↓kr80 R.1, ↓kr81 R.1, ↓kr82 R.1, ↓kr83 R.1, ↓kr84 R.1, ↓kr85 R.1, ↓kr86 R.1, ↓kr87 R.1, ↓kr88 R.1, ↓kr89 R.1, ↓kr90 R.1, ↓kr91 R.1, ↓kr92 R.1, ↓kr93 R.1, ↓kr94 R.1, ↓kr95 R.1, ↓kr96 R.1, ↓kr97 R.1, ↓kr98 R.1, ↓kr99 R.1, ↓kr100 R.1, ↓kr101 R.1, ↓kr102 R.1, ↓kr103 R.1, ↓kr104 R.1, ↓kr105 R.1, ↓kr106 R.1, ↓kr107 R.1, ↓kr108 R.1, ↓kr109 R.1, ↓kr110 R.1, ↓kx0 R, ↓kx1 R, ↓kx2 R, ↓kx3 R, ↓kx4 R, ↓kx5 R, ↓kx6 R, ↓kx7 R, ↓kx8 R, ↓kx9 R, ↓kx10 R, ↓kx11 R, ↓kx1m R, ↓kx9m R, ↓kx10m R, ↓reduceIte, il0, il1, il2, il3, il4, il5, il6, il7, il8, il9, il10, il11, il12, il13, il14, il15, il16, il17, il18, il19, il20, il21, il22, il23, il24, il25, il26, il27, il28, il29, il30, il31, il32, il33, il36, il38, il39, il40, il41, il48, il50, il51, il57, il59, il60, il61, il62, il63, il70, il96, il99, il100, il101, il102, il103, il104, il105, il106, il107, il108, il109, il110, il111, il112, il115, il116, il120, il121, il124, il200, il240, il255, il288, il360, il420, il999, il1000, il114292, il152755, il402789, il435589, il463922, il533611, il631470, Int.le_refl, ep, iz_le, iz_eq]
        rw [f_X10_choiceOf_184]
        exact if_pos (by decide)
      · have e := m_mid (N := N) R (vo := voters V t old (vF V)) (by omega) (tally_voters _) hr htb 6 0 N (by omega) (by omega) (by show (0 : Int) ≤ _; omega)
        have e2 : iz (voters V t old (vF V) - 1) / iz 2 = iz ((voters V t old (vF V) - 1) / 2 - sm (tally V t g old (vF V)) 0) := by
          rw [iz_div (by omega) (by omega) (by omega) (by omega), Int.tdiv_eq_ediv_of_nonneg (by omega)]
          congr 1
          show _ = _ - 0
          omega
        simp (disch := omega) only [↓kmC R.1, ↓kmT R, ↓kmF R, ↓kmM R, ↓kmD R, ↓kmP R, ↓kr72 R.1, ↓kr73 R.1, ↓kr74 R.1, ↓kr75 R.1, ↓kr76 R.1, ↓kr77 R.1, ↓kr78 R.1, ↓kr79 R.1, ↓kr80 R.1, ↓kr81 R.1, ↓kr82 R.1, ↓kr83 R.1, ↓kr84 R.1, ↓kr85 R.1, ↓kr86 R.1, ↓kr87 R.1, ↓kr88 R.1, ↓kr89 R.1, ↓kr90 R.1, ↓kr91 R.1, ↓kr92 R.1, ↓kr93 R.1, ↓kr94 R.1, ↓kr95 R.1, ↓kr96 R.1, ↓kr97 R.1, ↓kr98 R.1, ↓kr99 R.1, ↓kr100 R.1, ↓kr101 R.1, ↓kr102 R.1, ↓kr103 R.1, ↓kr104 R.1, ↓kr105 R.1, ↓kr106 R.1, ↓kr107 R.1, ↓kr108 R.1, ↓kr109 R.1, ↓kr110 R.1, ↓kx0 R, ↓kx1 R, ↓kx2 R, ↓kx3 R, ↓kx4 R, ↓kx5 R, ↓kx6 R, ↓kx7 R, ↓kx8 R, ↓kx9 R, ↓kx10 R, ↓kx11 R, ↓kx1m R, ↓kx9m R, ↓kx10m R, ↓reduceIte, il0, il1, il2, il3, il4, il5, il6, il7, il8, il9, il10, il11, il12, il13, il14, il15, il16, il17, il18, il19, il20, il21, il22, il23, il24, il25, il26, il27, il28, il29, il30, il31, il32, il33, il36, il38, il39, il40, il41, il48, il50, il51, il57, il59, il60, il61, il62, il63, il70, il96, il99, il100, il101, il102, il103, il104, il105, il106, il107, il108, il109, il110, il111, il112, il115, il116, il120, il121, il124, il200, il240, il255, il288, il360, il420, il999, il1000, il114292, il152755, il402789, il435589, il463922, il533611, il631470, Int.le_refl, ep, iz_le, iz_eq, hv, iz_sub, e2]
        exact e
    · rw [if_neg h1]
      have epc := piC_cs hp
      have ep : ¬ (piC (va V 12 2) = 100) := by omega
      have epb : 0 ≤ piC (va V 12 2) ∧ piC (va V 12 2) ≤ 200 := by omega
      have e := m_common (N := N) R hr htb 5 1 N (by omega) (by omega) (by omega)
      rw [wbest_1] at e
      simp (disch := omega) only [↓kmC R.1, ↓kmT R, ↓kmF R, ↓kmM R, ↓kmD R, ↓kmP R, ↓kr72 R.1, ↓kr73 R.1, ↓kr74 R.1, ↓kr75 R.1, ↓kr76 R.1, ↓kr77 R.1, ↓kr78 R.1, ↓kr79 R.1, ↓kr80 R.1, ↓kr81 R.1, ↓kr82 R.1, ↓kr83 R.1, ↓kr84 R.1, ↓kr85 R.1, ↓kr86 R.1, ↓kr87 R.1, ↓kr88 R.1, ↓kr89 R.1, ↓kr90 R.1, ↓kr91 R.1, ↓kr92 R.1, ↓kr93 R.1, ↓kr94 R.1, ↓kr95 R.1, ↓kr96 R.1, ↓kr97 R.1, ↓kr98 R.1, ↓kr99 R.1, ↓kr100 R.1, ↓kr101 R.1, ↓kr102 R.1, ↓kr103 R.1, ↓kr104 R.1, ↓kr105 R.1, ↓kr106 R.1, ↓kr107 R.1, ↓kr108 R.1, ↓kr109 R.1, ↓kr110 R.1, ↓kx0 R, ↓kx1 R, ↓kx2 R, ↓kx3 R, ↓kx4 R, ↓kx5 R, ↓kx6 R, ↓kx7 R, ↓kx8 R, ↓kx9 R, ↓kx10 R, ↓kx11 R, ↓kx1m R, ↓kx9m R, ↓kx10m R, ↓reduceIte, il0, il1, il2, il3, il4, il5, il6, il7, il8, il9, il10, il11, il12, il13, il14, il15, il16, il17, il18, il19, il20, il21, il22, il23, il24, il25, il26, il27, il28, il29, il30, il31, il32, il33, il36, il38, il39, il40, il41, il48, il50, il51, il57, il59, il60, il61, il62, il63, il70, il96, il99, il100, il101, il102, il103, il104, il105, il106, il107, il108, il109, il110, il111, il112, il115, il116, il120, il121, il124, il200, il240, il255, il288, il360, il420, il999, il1000, il114292, il152755, il402789, il435589, il463922, il533611, il631470, Int.le_refl, ep, iz_le, iz_eq]
      exact e
  | succ d ih =>
    intro i n h hi hn R hr
    obtain ⟨n, rfl⟩ : ∃ k, n = k + 1 := ⟨n - 1, by omega⟩
    rw [f_X10_choiceOf_91]
    have hc : ¬ ((vF V : Int) ≤ i) := by omega
    have h7 := w.f (j := i) (by omega) (by omega)
    have skip : (va V 7 i = t ∧ (old = false ∨ va V 8 i = t)) → False ∨ True := fun _ => Or.inr trivial
    by_cases c : va V 7 i = t ∧ (old = false ∨ va V 8 i = t)
    · obtain ⟨h2, e2, R2, F2⟩ := m_want R w hN (f := i) (t := t) (g := g) (by omega) ht hg
      have hw := want_bd (V := V) (f := i) (t := t) (g := g)
      have h93 : h2.2.1 93 = h.2.1 93 := F2.2.2.2.1 93 (by decide) (by decide)
      have ev := hr (want V i t g).toNat (by omega)
      have R3 := R2.wr_ (a := 93) (row := upd (h2.2.1 93) (want V i t g).toNat (iz (tally V t g old i (want V i t g).toNat + 1))) ⟨by decide, by decide⟩
      obtain ⟨h', e', R', F'⟩ := ih (i + 1) n _ (by omega) (by omega) R3 (fun v hv => by
        rw [wr_eq, upd_at, tally_succ]
        by_cases d : v = (want V i t g).toNat
        · rw [if_pos d, if_pos ⟨c, by omega⟩, d]
        · rw [if_neg d, if_neg (fun z => d (by omega)), h93, hr v hv, Int.add_zero])
      refine ⟨h', ?_, R', ((F2.mono SL_SV).tr (FM.wr_ (by decide) (by decide))).tr F'⟩
      rw [voters_succ, if_pos c] at e'
      have e129 : f_X10_choiceOf_129 N 71 (iz t) (iz g) (iz (bi old)) (iz (voters V t old i)) (iz (i : Int)) h (fun v0 v1 v2 v3 v4 v5 h => f_X10_choiceOf_91 N n v0 v1 v2 v3 v4 v5 h) = some (iz (chX V t g old), h') := by
        unfold f_X10_choiceOf_129
        rw [kr93 R.1, kmC R.1, bq e2, kl93 R2.1 hw.1 (by omega), h93, ev, il1, iz_add, ks93 R2.1 hw.1 (by omega), iz_add, iz_add]
        exact e'
      cases ho : old with
      | false =>
        rw [ho] at e129
        simp (disch := omega) only [↓kmC R.1, ↓kmT R, ↓kmF R, ↓kmM R, ↓kmD R, ↓kmP R, ↓kr72 R.1, ↓kr73 R.1, ↓kr74 R.1, ↓kr75 R.1, ↓kr76 R.1, ↓kr77 R.1, ↓kr78 R.1, ↓kr79 R.1, ↓kr80 R.1, ↓kr81 R.1, ↓kr82 R.1, ↓kr83 R.1, ↓kr84 R.1, ↓kr85 R.1, ↓kr86 R.1, ↓kr87 R.1, ↓kr88 R.1, ↓kr89 R.1, ↓kr90 R.1, ↓kr91 R.1, ↓kr92 R.1, ↓kr93 R.1, ↓kr94 R.1, ↓kr95 R.1, ↓kr96 R.1, ↓kr97 R.1, ↓kr98 R.1, ↓kr99 R.1, ↓kr100 R.1, ↓kr101 R.1, ↓kr102 R.1, ↓kr103 R.1, ↓kr104 R.1, ↓kr105 R.1, ↓kr106 R.1, ↓kr107 R.1, ↓kr108 R.1, ↓kr109 R.1, ↓kr110 R.1, ↓kx0 R, ↓kx1 R, ↓kx2 R, ↓kx3 R, ↓kx4 R, ↓kx5 R, ↓kx6 R, ↓kx7 R, ↓kx8 R, ↓kx9 R, ↓kx10 R, ↓kx11 R, ↓kx1m R, ↓kx9m R, ↓kx10m R, ↓reduceIte, il0, il1, il2, il3, il4, il5, il6, il7, il8, il9, il10, il11, il12, il13, il14, il15, il16, il17, il18, il19, il20, il21, il22, il23, il24, il25, il26, il27, il28, il29, il30, il31, il32, il33, il36, il38, il39, il40, il41, il48, il50, il51, il57, il59, il60, il61, il62, il63, il70, il96, il99, il100, il101, il102, il103, il104, il105, il106, il107, il108, il109, il110, il111, il112, il115, il116, il120, il121, il124, il200, il240, il255, il288, il360, il420, il999, il1000, il114292, il152755, il402789, il435589, il463922, il533611, il631470, iz_le, hc, iz_eq, c.1, bi_f]
        exact e129
      | true =>
        have c8 : va V 8 i = t := by
          rcases c.2 with z | z
          · rw [ho] at z; cases z
          · exact z
        rw [ho] at e129
        simp (disch := omega) only [↓kmC R.1, ↓kmT R, ↓kmF R, ↓kmM R, ↓kmD R, ↓kmP R, ↓kr72 R.1, ↓kr73 R.1, ↓kr74 R.1, ↓kr75 R.1, ↓kr76 R.1, ↓kr77 R.1, ↓kr78 R.1, ↓kr79 R.1, ↓kr80 R.1, ↓kr81 R.1, ↓kr82 R.1, ↓kr83 R.1, ↓kr84 R.1, ↓kr85 R.1, ↓kr86 R.1, ↓kr87 R.1, ↓kr88 R.1, ↓kr89 R.1, ↓kr90 R.1, ↓kr91 R.1, ↓kr92 R.1, ↓kr93 R.1, ↓kr94 R.1, ↓kr95 R.1, ↓kr96 R.1, ↓kr97 R.1, ↓kr98 R.1, ↓kr99 R.1, ↓kr100 R.1, ↓kr101 R.1, ↓kr102 R.1, ↓kr103 R.1, ↓kr104 R.1, ↓kr105 R.1, ↓kr106 R.1, ↓kr107 R.1, ↓kr108 R.1, ↓kr109 R.1, ↓kr110 R.1, ↓kx0 R, ↓kx1 R, ↓kx2 R, ↓kx3 R, ↓kx4 R, ↓kx5 R, ↓kx6 R, ↓kx7 R, ↓kx8 R, ↓kx9 R, ↓kx10 R, ↓kx11 R, ↓kx1m R, ↓kx9m R, ↓kx10m R, ↓reduceIte, il0, il1, il2, il3, il4, il5, il6, il7, il8, il9, il10, il11, il12, il13, il14, il15, il16, il17, il18, il19, il20, il21, il22, il23, il24, il25, il26, il27, il28, il29, il30, il31, il32, il33, il36, il38, il39, il40, il41, il48, il50, il51, il57, il59, il60, il61, il62, il63, il70, il96, il99, il100, il101, il102, il103, il104, il105, il106, il107, il108, il109, il110, il111, il112, il115, il116, il120, il121, il124, il200, il240, il255, il288, il360, il420, il999, il1000, il114292, il152755, il402789, il435589, il463922, il533611, il631470, iz_le, hc, iz_eq, c.1, bi_t, c8, show ¬ ((1 : Int) = 0) by decide]
        exact e129
    · obtain ⟨h', e', R', F'⟩ := ih (i + 1) n h (by omega) (by omega) R (fun v hv => by
        rw [tally_succ, if_neg (fun z => c z.1), hr v hv, Int.add_zero])
      refine ⟨h', ?_, R', F'⟩
      rw [voters_succ, if_neg c, Int.add_zero] at e'
      by_cases c7 : va V 7 i = t
      · have ho : old = true := by
          cases old with
          | true => rfl
          | false => exact absurd ⟨c7, Or.inl rfl⟩ c
        have c8 : ¬ (va V 8 i = t) := fun z => c ⟨c7, Or.inr z⟩
        rw [ho] at e' ⊢
        simp (disch := omega) only [↓kmC R.1, ↓kmT R, ↓kmF R, ↓kmM R, ↓kmD R, ↓kmP R, ↓kr72 R.1, ↓kr73 R.1, ↓kr74 R.1, ↓kr75 R.1, ↓kr76 R.1, ↓kr77 R.1, ↓kr78 R.1, ↓kr79 R.1, ↓kr80 R.1, ↓kr81 R.1, ↓kr82 R.1, ↓kr83 R.1, ↓kr84 R.1, ↓kr85 R.1, ↓kr86 R.1, ↓kr87 R.1, ↓kr88 R.1, ↓kr89 R.1, ↓kr90 R.1, ↓kr91 R.1, ↓kr92 R.1, ↓kr93 R.1, ↓kr94 R.1, ↓kr95 R.1, ↓kr96 R.1, ↓kr97 R.1, ↓kr98 R.1, ↓kr99 R.1, ↓kr100 R.1, ↓kr101 R.1, ↓kr102 R.1, ↓kr103 R.1, ↓kr104 R.1, ↓kr105 R.1, ↓kr106 R.1, ↓kr107 R.1, ↓kr108 R.1, ↓kr109 R.1, ↓kr110 R.1, ↓kx0 R, ↓kx1 R, ↓kx2 R, ↓kx3 R, ↓kx4 R, ↓kx5 R, ↓kx6 R, ↓kx7 R, ↓kx8 R, ↓kx9 R, ↓kx10 R, ↓kx11 R, ↓kx1m R, ↓kx9m R, ↓kx10m R, ↓reduceIte, il0, il1, il2, il3, il4, il5, il6, il7, il8, il9, il10, il11, il12, il13, il14, il15, il16, il17, il18, il19, il20, il21, il22, il23, il24, il25, il26, il27, il28, il29, il30, il31, il32, il33, il36, il38, il39, il40, il41, il48, il50, il51, il57, il59, il60, il61, il62, il63, il70, il96, il99, il100, il101, il102, il103, il104, il105, il106, il107, il108, il109, il110, il111, il112, il115, il116, il120, il121, il124, il200, il240, il255, il288, il360, il420, il999, il1000, il114292, il152755, il402789, il435589, il463922, il533611, il631470, iz_le, hc, iz_eq, c7, bi_t, c8, show ¬ ((1 : Int) = 0) by decide, iz_add]
        exact e'
      · simp (disch := omega) only [↓kmC R.1, ↓kmT R, ↓kmF R, ↓kmM R, ↓kmD R, ↓kmP R, ↓kr72 R.1, ↓kr73 R.1, ↓kr74 R.1, ↓kr75 R.1, ↓kr76 R.1, ↓kr77 R.1, ↓kr78 R.1, ↓kr79 R.1, ↓kr80 R.1, ↓kr81 R.1, ↓kr82 R.1, ↓kr83 R.1, ↓kr84 R.1, ↓kr85 R.1, ↓kr86 R.1, ↓kr87 R.1, ↓kr88 R.1, ↓kr89 R.1, ↓kr90 R.1, ↓kr91 R.1, ↓kr92 R.1, ↓kr93 R.1, ↓kr94 R.1, ↓kr95 R.1, ↓kr96 R.1, ↓kr97 R.1, ↓kr98 R.1, ↓kr99 R.1, ↓kr100 R.1, ↓kr101 R.1, ↓kr102 R.1, ↓kr103 R.1, ↓kr104 R.1, ↓kr105 R.1, ↓kr106 R.1, ↓kr107 R.1, ↓kr108 R.1, ↓kr109 R.1, ↓kr110 R.1, ↓kx0 R, ↓kx1 R, ↓kx2 R, ↓kx3 R, ↓kx4 R, ↓kx5 R, ↓kx6 R, ↓kx7 R, ↓kx8 R, ↓kx9 R, ↓kx10 R, ↓kx11 R, ↓kx1m R, ↓kx9m R, ↓kx10m R, ↓reduceIte, il0, il1, il2, il3, il4, il5, il6, il7, il8, il9, il10, il11, il12, il13, il14, il15, il16, il17, il18, il19, il20, il21, il22, il23, il24, il25, il26, il27, il28, il29, il30, il31, il32, il33, il36, il38, il39, il40, il41, il48, il50, il51, il57, il59, il60, il61, il62, il63, il70, il96, il99, il100, il101, il102, il103, il104, il105, il106, il107, il108, il109, il110, il111, il112, il115, il116, il120, il121, il124, il200, il240, il255, il288, il360, il420, il999, il1000, il114292, il152755, il402789, il435589, il463922, il533611, il631470, iz_le, hc, iz_eq, c7, iz_add]
        exact e'
theorem m_ch_64 {t g : Int} {v3 : Int32} : ∀ (d i m : Nat) (h : Mem), i + d = 6 → d < m → MSh h → (∀ j : Nat, j < i → h.2.1 93 j = iz 0) → ∃ row, f_X10_choiceOf_64 N m 71 (iz t) (iz g) v3 (iz (i : Int)) h = f_X10_choiceOf_91 N N 71 (iz t) (iz g) v3 (iz 0) (iz 0) (wr h 93 row) ∧ ∀ j : Nat, j < 6 → row j = iz 0 := by
  intro d
  induction d with
  | zero =>
    intro i n h hi hn S hr
    obtain ⟨n, rfl⟩ : ∃ k, n = k + 1 := ⟨n - 1, by omega⟩
    rw [f_X10_choiceOf_64]
    obtain rfl : i = 6 := by omega
    refine ⟨h.2.1 93, ?_, hr⟩
    rw [wr_id rfl]
    simp (disch := omega) only [il0, il1, il2, il3, il4, il5, il6, il7, il8, il9, il10, il11, il12, il13, il14, il15, il16, il17, il18, il19, il20, il21, il22, il23, il24, il25, il26, il27, il28, il29, il30, il31, il32, il33, il36, il38, il39, il40, il41, il48, il50, il51, il57, il59, il60, il61, il62, il63, il70, il96, il99, il100, il101, il102, il103, il104, il105, il106, il107, il108, il109, il110, il111, il112, il115, il116, il120, il121, il124, il200, il240, il255, il288, il360, il420, il999, il1000, il114292, il152755, il402789, il435589, il463922, il533611, il631470, iz_le, nc1, nc2, nc3, nc4, nc5, nc6, nc7, nc8, nc9, nc12, nc16, nc20, nc21, nc40, nc60, nc120, nc200, Int.le_refl, ↓reduceIte]
  | succ d ih =>
    intro i n h hi hn S hr
    obtain ⟨n, rfl⟩ : ∃ k, n = k + 1 := ⟨n - 1, by omega⟩
    rw [f_X10_choiceOf_64]
    have hc : ¬ ((6 : Int) ≤ i) := by omega
    obtain ⟨row, e, hrow⟩ := ih (i + 1) n (wr h 93 (upd (h.2.1 93) i (iz 0))) (by omega) (by omega) S.wr_ (fun j hj => by
      rw [wr_eq, upd_at]
      split
      · rfl
      · exact hr j (by omega))
    rw [wr_wr] at e
    refine ⟨row, ?_, hrow⟩
    rw [← e]
    simp (disch := omega) only [il0, il1, il2, il3, il4, il5, il6, il7, il8, il9, il10, il11, il12, il13, il14, il15, il16, il17, il18, il19, il20, il21, il22, il23, il24, il25, il26, il27, il28, il29, il30, il31, il32, il33, il36, il38, il39, il40, il41, il48, il50, il51, il57, il59, il60, il61, il62, il63, il70, il96, il99, il100, il101, il102, il103, il104, il105, il106, il107, il108, il109, il110, il111, il112, il115, il116, il120, il121, il124, il200, il240, il255, il288, il360, il420, il999, il1000, il114292, il152755, il402789, il435589, il463922, il533611, il631470, iz_le, hc, ↓reduceIte, ↓kr93 S, ↓ks93 S, toN, iz_add]
    rfl
theorem m_ch_5 {h : Mem} (R : RepM h V) (w : WF V) {t g : Int} (ht : 0 ≤ t ∧ t < 4) : ∀ (d i n : Nat), i + d = vF V → d < n → f_X10_choiceOf_5 N n 71 (iz t) (iz g) (iz (bi (decide (va V 12 2 = 2) && oldB V t i))) (iz (i : Int)) h = f_X10_choiceOf_64 N N 71 (iz t) (iz g) (iz (bi (olds V t))) (iz 0) h := by
  intro d
  have hF := w.F
  have hp := w.p
  induction d with
  | zero =>
    intro i n hi hn
    obtain ⟨n, rfl⟩ : ∃ k, n = k + 1 := ⟨n - 1, by omega⟩
    rw [f_X10_choiceOf_5]
    obtain rfl : i = vF V := by omega
    simp (disch := omega) only [↓kmC R.1, ↓kmT R, ↓kmF R, ↓kmM R, ↓kmD R, ↓kmP R, ↓kr72 R.1, ↓kr73 R.1, ↓kr74 R.1, ↓kr75 R.1, ↓kr76 R.1, ↓kr77 R.1, ↓kr78 R.1, ↓kr79 R.1, ↓kr80 R.1, ↓kr81 R.1, ↓kr82 R.1, ↓kr83 R.1, ↓kr84 R.1, ↓kr85 R.1, ↓kr86 R.1, ↓kr87 R.1, ↓kr88 R.1, ↓kr89 R.1, ↓kr90 R.1, ↓kr91 R.1, ↓kr92 R.1, ↓kr93 R.1, ↓kr94 R.1, ↓kr95 R.1, ↓kr96 R.1, ↓kr97 R.1, ↓kr98 R.1, ↓kr99 R.1, ↓kr100 R.1, ↓kr101 R.1, ↓kr102 R.1, ↓kr103 R.1, ↓kr104 R.1, ↓kr105 R.1, ↓kr106 R.1, ↓kr107 R.1, ↓kr108 R.1, ↓kr109 R.1, ↓kr110 R.1, ↓kx0 R, ↓kx1 R, ↓kx2 R, ↓kx3 R, ↓kx4 R, ↓kx5 R, ↓kx6 R, ↓kx7 R, ↓kx8 R, ↓kx9 R, ↓kx10 R, ↓kx11 R, ↓kx1m R, ↓kx9m R, ↓kx10m R, ↓reduceIte, if_true, if_false, Option.bind_some, b2_some, il0, il1, il2, il3, il4, il5, il6, il7, il8, il9, il10, il11, il12, il13, il14, il15, il16, il17, il18, il19, il20, il21, il22, il23, il24, il25, il26, il27, il28, il29, il30, il31, il32, il33, il36, il38, il39, il40, il41, il48, il50, il51, il57, il59, il60, il61, il62, il63, il70, il96, il99, il100, il101, il102, il103, il104, il105, il106, il107, il108, il109, il110, il111, il112, il115, il116, il120, il121, il124, il200, il240, il255, il288, il360, il420, il999, il1000, il114292, il152755, il402789, il435589, il463922, il533611, il631470, iz_add, iz_sub, iz_mul, iz_neg, iz_le, iz_lt, iz_eq, Int.le_refl]
    rfl
  | succ d ih =>
    intro i n hi hn
    obtain ⟨n, rfl⟩ : ∃ k, n = k + 1 := ⟨n - 1, by omega⟩
    rw [f_X10_choiceOf_5]
    have hc : ¬ ((vF V : Int) ≤ i) := by omega
    have h7 := w.f (j := i) (by omega) (by omega)
    have e := ih (i + 1) n (by omega) (by omega)
    have h3 : ¬ ((1 : Int) = 0) := by decide
    unfold f_X10_choiceOf_49 f_X10_choiceOf_53 f_X10_choiceOf_54
    by_cases hp2 : va V 12 2 = 2
    · have ep : piC (va V 12 2) = 111 := by rw [hp2]; rfl
      rw [decide_eq_true hp2] at e ⊢
      rw [Bool.true_and, oldB] at e
      rw [Bool.true_and]
      cases ho : oldB V t i with
      | true =>
        rw [ho, Bool.true_or] at e
        simp (disch := omega) only [↓kmC R.1, ↓kmT R, ↓kmF R, ↓kmM R, ↓kmD R, ↓kmP R, ↓kr72 R.1, ↓kr73 R.1, ↓kr74 R.1, ↓kr75 R.1, ↓kr76 R.1, ↓kr77 R.1, ↓kr78 R.1, ↓kr79 R.1, ↓kr80 R.1, ↓kr81 R.1, ↓kr82 R.1, ↓kr83 R.1, ↓kr84 R.1, ↓kr85 R.1, ↓kr86 R.1, ↓kr87 R.1, ↓kr88 R.1, ↓kr89 R.1, ↓kr90 R.1, ↓kr91 R.1, ↓kr92 R.1, ↓kr93 R.1, ↓kr94 R.1, ↓kr95 R.1, ↓kr96 R.1, ↓kr97 R.1, ↓kr98 R.1, ↓kr99 R.1, ↓kr100 R.1, ↓kr101 R.1, ↓kr102 R.1, ↓kr103 R.1, ↓kr104 R.1, ↓kr105 R.1, ↓kr106 R.1, ↓kr107 R.1, ↓kr108 R.1, ↓kr109 R.1, ↓kr110 R.1, ↓kx0 R, ↓kx1 R, ↓kx2 R, ↓kx3 R, ↓kx4 R, ↓kx5 R, ↓kx6 R, ↓kx7 R, ↓kx8 R, ↓kx9 R, ↓kx10 R, ↓kx11 R, ↓kx1m R, ↓kx9m R, ↓kx10m R, ↓reduceIte, il0, il1, il2, il3, il4, il5, il6, il7, il8, il9, il10, il11, il12, il13, il14, il15, il16, il17, il18, il19, il20, il21, il22, il23, il24, il25, il26, il27, il28, il29, il30, il31, il32, il33, il36, il38, il39, il40, il41, il48, il50, il51, il57, il59, il60, il61, il62, il63, il70, il96, il99, il100, il101, il102, il103, il104, il105, il106, il107, il108, il109, il110, il111, il112, il115, il116, il120, il121, il124, il200, il240, il255, il288, il360, il420, il999, il1000, il114292, il152755, il402789, il435589, il463922, il533611, il631470, iz_le, hc, bi_t, iz_eq, h3, iz_add]
        exact e
      | false =>
        rw [ho, Bool.false_or] at e
        by_cases c7 : va V 7 i = t
        · by_cases c8 : va V 8 i = t
          · rw [decide_eq_true c7, decide_eq_true c8] at e
            simp (disch := omega) only [↓kmC R.1, ↓kmT R, ↓kmF R, ↓kmM R, ↓kmD R, ↓kmP R, ↓kr72 R.1, ↓kr73 R.1, ↓kr74 R.1, ↓kr75 R.1, ↓kr76 R.1, ↓kr77 R.1, ↓kr78 R.1, ↓kr79 R.1, ↓kr80 R.1, ↓kr81 R.1, ↓kr82 R.1, ↓kr83 R.1, ↓kr84 R.1, ↓kr85 R.1, ↓kr86 R.1, ↓kr87 R.1, ↓kr88 R.1, ↓kr89 R.1, ↓kr90 R.1, ↓kr91 R.1, ↓kr92 R.1, ↓kr93 R.1, ↓kr94 R.1, ↓kr95 R.1, ↓kr96 R.1, ↓kr97 R.1, ↓kr98 R.1, ↓kr99 R.1, ↓kr100 R.1, ↓kr101 R.1, ↓kr102 R.1, ↓kr103 R.1, ↓kr104 R.1, ↓kr105 R.1, ↓kr106 R.1, ↓kr107 R.1, ↓kr108 R.1, ↓kr109 R.1, ↓kr110 R.1, ↓kx0 R, ↓kx1 R, ↓kx2 R, ↓kx3 R, ↓kx4 R, ↓kx5 R, ↓kx6 R, ↓kx7 R, ↓kx8 R, ↓kx9 R, ↓kx10 R, ↓kx11 R, ↓kx1m R, ↓kx9m R, ↓kx10m R, ↓reduceIte, il0, il1, il2, il3, il4, il5, il6, il7, il8, il9, il10, il11, il12, il13, il14, il15, il16, il17, il18, il19, il20, il21, il22, il23, il24, il25, il26, il27, il28, il29, il30, il31, il32, il33, il36, il38, il39, il40, il41, il48, il50, il51, il57, il59, il60, il61, il62, il63, il70, il96, il99, il100, il101, il102, il103, il104, il105, il106, il107, il108, il109, il110, il111, il112, il115, il116, il120, il121, il124, il200, il240, il255, il288, il360, il420, il999, il1000, il114292, il152755, il402789, il435589, il463922, il533611, il631470, iz_le, hc, bi_f, iz_eq, ep, c7, c8, iz_add]
            exact e
          · rw [decide_eq_true c7, decide_eq_false c8] at e
            simp (disch := omega) only [↓kmC R.1, ↓kmT R, ↓kmF R, ↓kmM R, ↓kmD R, ↓kmP R, ↓kr72 R.1, ↓kr73 R.1, ↓kr74 R.1, ↓kr75 R.1, ↓kr76 R.1, ↓kr77 R.1, ↓kr78 R.1, ↓kr79 R.1, ↓kr80 R.1, ↓kr81 R.1, ↓kr82 R.1, ↓kr83 R.1, ↓kr84 R.1, ↓kr85 R.1, ↓kr86 R.1, ↓kr87 R.1, ↓kr88 R.1, ↓kr89 R.1, ↓kr90 R.1, ↓kr91 R.1, ↓kr92 R.1, ↓kr93 R.1, ↓kr94 R.1, ↓kr95 R.1, ↓kr96 R.1, ↓kr97 R.1, ↓kr98 R.1, ↓kr99 R.1, ↓kr100 R.1, ↓kr101 R.1, ↓kr102 R.1, ↓kr103 R.1, ↓kr104 R.1, ↓kr105 R.1, ↓kr106 R.1, ↓kr107 R.1, ↓kr108 R.1, ↓kr109 R.1, ↓kr110 R.1, ↓kx0 R, ↓kx1 R, ↓kx2 R, ↓kx3 R, ↓kx4 R, ↓kx5 R, ↓kx6 R, ↓kx7 R, ↓kx8 R, ↓kx9 R, ↓kx10 R, ↓kx11 R, ↓kx1m R, ↓kx9m R, ↓kx10m R, ↓reduceIte, il0, il1, il2, il3, il4, il5, il6, il7, il8, il9, il10, il11, il12, il13, il14, il15, il16, il17, il18, il19, il20, il21, il22, il23, il24, il25, il26, il27, il28, il29, il30, il31, il32, il33, il36, il38, il39, il40, il41, il48, il50, il51, il57, il59, il60, il61, il62, il63, il70, il96, il99, il100, il101, il102, il103, il104, il105, il106, il107, il108, il109, il110, il111, il112, il115, il116, il120, il121, il124, il200, il240, il255, il288, il360, il420, il999, il1000, il114292, il152755, il402789, il435589, il463922, il533611, il631470, iz_le, hc, bi_f, iz_eq, ep, c7, c8, iz_add]
            exact e
        · rw [decide_eq_false c7] at e
          simp (disch := omega) only [↓kmC R.1, ↓kmT R, ↓kmF R, ↓kmM R, ↓kmD R, ↓kmP R, ↓kr72 R.1, ↓kr73 R.1, ↓kr74 R.1, ↓kr75 R.1, ↓kr76 R.1, ↓kr77 R.1, ↓kr78 R.1, ↓kr79 R.1, ↓kr80 R.1, ↓kr81 R.1, ↓kr82 R.1, ↓kr83 R.1, ↓kr84 R.1, ↓kr85 R.1, ↓kr86 R.1, ↓kr87 R.1, ↓kr88 R.1, ↓kr89 R.1, ↓kr90 R.1, ↓kr91 R.1, ↓kr92 R.1, ↓kr93 R.1, ↓kr94 R.1, ↓kr95 R.1, ↓kr96 R.1, ↓kr97 R.1, ↓kr98 R.1, ↓kr99 R.1, ↓kr100 R.1, ↓kr101 R.1, ↓kr102 R.1, ↓kr103 R.1, ↓kr104 R.1, ↓kr105 R.1, ↓kr106 R.1, ↓kr107 R.1, ↓kr108 R.1, ↓kr109 R.1, ↓kr110 R.1, ↓kx0 R, ↓kx1 R, ↓kx2 R, ↓kx3 R, ↓kx4 R, ↓kx5 R, ↓kx6 R, ↓kx7 R, ↓kx8 R, ↓kx9 R, ↓kx10 R, ↓kx11 R, ↓kx1m R, ↓kx9m R, ↓kx10m R, ↓reduceIte, il0, il1, il2, il3, il4, il5, il6, il7, il8, il9, il10, il11, il12, il13, il14, il15, il16, il17, il18, il19, il20, il21, il22, il23, il24, il25, il26, il27, il28, il29, il30, il31, il32, il33, il36, il38, il39, il40, il41, il48, il50, il51, il57, il59, il60, il61, il62, il63, il70, il96, il99, il100, il101, il102, il103, il104, il105, il106, il107, il108, il109, il110, il111, il112, il115, il116, il120, il121, il124, il200, il240, il255, il288, il360, il420, il999, il1000, il114292, il152755, il402789, il435589, il463922, il533611, il631470, iz_le, hc, bi_f, iz_eq, ep, c7, iz_add]
          exact e
    · have epc := piC_cs hp
      have ep : ¬ (piC (va V 12 2) = 111) := by omega
      have epb : 0 ≤ piC (va V 12 2) ∧ piC (va V 12 2) ≤ 200 := by omega
      rw [decide_eq_false hp2] at e ⊢
      rw [Bool.false_and] at e ⊢
      simp (disch := omega) only [↓kmC R.1, ↓kmT R, ↓kmF R, ↓kmM R, ↓kmD R, ↓kmP R, ↓kr72 R.1, ↓kr73 R.1, ↓kr74 R.1, ↓kr75 R.1, ↓kr76 R.1, ↓kr77 R.1, ↓kr78 R.1, ↓kr79 R.1, ↓kr80 R.1, ↓kr81 R.1, ↓kr82 R.1, ↓kr83 R.1, ↓kr84 R.1, ↓kr85 R.1, ↓kr86 R.1, ↓kr87 R.1, ↓kr88 R.1, ↓kr89 R.1, ↓kr90 R.1, ↓kr91 R.1, ↓kr92 R.1, ↓kr93 R.1, ↓kr94 R.1, ↓kr95 R.1, ↓kr96 R.1, ↓kr97 R.1, ↓kr98 R.1, ↓kr99 R.1, ↓kr100 R.1, ↓kr101 R.1, ↓kr102 R.1, ↓kr103 R.1, ↓kr104 R.1, ↓kr105 R.1, ↓kr106 R.1, ↓kr107 R.1, ↓kr108 R.1, ↓kr109 R.1, ↓kr110 R.1, ↓kx0 R, ↓kx1 R, ↓kx2 R, ↓kx3 R, ↓kx4 R, ↓kx5 R, ↓kx6 R, ↓kx7 R, ↓kx8 R, ↓kx9 R, ↓kx10 R, ↓kx11 R, ↓kx1m R, ↓kx9m R, ↓kx10m R, ↓reduceIte, il0, il1, il2, il3, il4, il5, il6, il7, il8, il9, il10, il11, il12, il13, il14, il15, il16, il17, il18, il19, il20, il21, il22, il23, il24, il25, il26, il27, il28, il29, il30, il31, il32, il33, il36, il38, il39, il40, il41, il48, il50, il51, il57, il59, il60, il61, il62, il63, il70, il96, il99, il100, il101, il102, il103, il104, il105, il106, il107, il108, il109, il110, il111, il112, il115, il116, il120, il121, il124, il200, il240, il255, il288, il360, il420, il999, il1000, il114292, il152755, il402789, il435589, il463922, il533611, il631470, iz_le, hc, bi_f, iz_eq, ep, iz_add]
      exact e
theorem m_choice {h : Mem} (R : RepM h V) (w : WF V) (hN : 200 ≤ N) {t g : Int} (ht : 0 ≤ t ∧ t < 4) (hg : 0 ≤ g ∧ g < 3) : ∃ h', f_X10_choiceOf N 71 (iz t) (iz g) h = some (iz (choice V t g), h') ∧ RepM h' V ∧ FM SV h h' := by
  have hF := w.F
  have e1 := m_ch_5 (N := N) (g := g) R w ht (vF V) 0 N (by omega) (by omega)
  obtain ⟨row, e2, hrow⟩ := m_ch_64 (N := N) (t := t) (g := g) (v3 := iz (bi (olds V t))) 6 0 N h (by omega) (by omega) R.1 (fun j hj => by omega)
  obtain ⟨h', e3, R', F'⟩ := m_ch_91 (N := N) w hN ht hg (olds V t) (vF V) 0 N (wr h 93 row) (by omega) (by omega) (R.wr_ ⟨by decide, by decide⟩) (fun v hv => by rw [wr_eq, hrow v hv]; rfl)
  refine ⟨h', ?_, R', (FM.wr_ (by decide) (by decide)).tr F'⟩
  unfold f_X10_choiceOf
  have e1' : f_X10_choiceOf_5 N N 71 (iz t) (iz g) (0 : Int32) (0 : Int32) h = f_X10_choiceOf_64 N N 71 (iz t) (iz g) (iz (bi (olds V t))) (iz 0) h := by
    rw [← e1, show oldB V t 0 = false from rfl, Bool.and_false]
    rfl
  rw [e1']
  exact e2.trans e3
end
