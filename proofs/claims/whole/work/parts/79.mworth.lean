section
variable {h : Mem} {V : Vw} {N : Nat}
theorem m_dues_40 (R : RepM h V) (w : WF V) {i : Nat} {f t a b mo : Int} (hi : i < 8) (hm : 0 ≤ mo ∧ mo ≤ 99) {k11 : Nat → Int32 → Int32 → Int32 → Int32 → Int32 → Int32 → Mem → Option (Int32 × Mem)} : f_X10_dues_40 N 71 (iz f) (iz t) (iz a) (iz b) (iz mo) (iz i) h k11 = k11 71 (iz f) (iz t) (iz (a + 1)) (iz (b + va V 6 i)) (iz (if mo < va V 6 i then va V 6 i else mo)) (iz (i + 1)) h := by
  have h6 := w.f (j := i) (by omega) (by omega)
  unfold f_X10_dues_40 f_X10_dues_79
  by_cases c : mo < va V 6 i
  · have c' : ¬ (va V 6 i ≤ mo) := by omega
    simp (disch := omega) only [↓kmC R.1, ↓kmT R, ↓kmF R, ↓kmM R, ↓kmD R, ↓kmP R, ↓kr72 R.1, ↓kr73 R.1, ↓kr74 R.1, ↓kr75 R.1, ↓kr76 R.1, ↓kr77 R.1, ↓kr78 R.1, ↓kr79 R.1, ↓kr80 R.1, ↓kr81 R.1, ↓kr82 R.1, ↓kr83 R.1, ↓kr84 R.1, ↓kr85 R.1, ↓kr86 R.1, ↓kr87 R.1, ↓kr88 R.1, ↓kr89 R.1, ↓kr90 R.1, ↓kr91 R.1, ↓kr92 R.1, ↓kr93 R.1, ↓kr94 R.1, ↓kr95 R.1, ↓kr96 R.1, ↓kr97 R.1, ↓kr98 R.1, ↓kr99 R.1, ↓kr100 R.1, ↓kr101 R.1, ↓kr102 R.1, ↓kr103 R.1, ↓kr104 R.1, ↓kr105 R.1, ↓kr106 R.1, ↓kr107 R.1, ↓kr108 R.1, ↓kr109 R.1, ↓kr110 R.1, ↓kx0 R, ↓kx1 R, ↓kx2 R, ↓kx3 R, ↓kx4 R, ↓kx5 R, ↓kx6 R, ↓kx7 R, ↓kx8 R, ↓kx9 R, ↓kx10 R, ↓kx11 R, ↓kx1m R, ↓kx9m R, ↓kx10m R, ↓reduceIte, if_true, if_false, Option.bind_some, b2_some, il0, il1, il2, il3, il4, il5, il6, il7, il8, il9, il10, il11, il12, il13, il14, il15, il16, il17, il18, il19, il20, il21, il22, il23, il24, il25, il26, il27, il28, il29, il30, il31, il32, il33, il36, il38, il39, il40, il41, il48, il50, il51, il57, il59, il60, il61, il62, il63, il70, il96, il99, il100, il101, il102, il103, il104, il105, il106, il107, il108, il109, il110, il111, il112, il115, il116, il120, il121, il124, il200, il240, il255, il288, il360, il420, il999, il1000, il114292, il152755, il402789, il435589, il463922, il533611, il631470, iz_add, iz_sub, iz_mul, iz_neg, iz_le, iz_lt, iz_eq, c, c']
  · have c' : va V 6 i ≤ mo := by omega
    simp (disch := omega) only [↓kmC R.1, ↓kmT R, ↓kmF R, ↓kmM R, ↓kmD R, ↓kmP R, ↓kr72 R.1, ↓kr73 R.1, ↓kr74 R.1, ↓kr75 R.1, ↓kr76 R.1, ↓kr77 R.1, ↓kr78 R.1, ↓kr79 R.1, ↓kr80 R.1, ↓kr81 R.1, ↓kr82 R.1, ↓kr83 R.1, ↓kr84 R.1, ↓kr85 R.1, ↓kr86 R.1, ↓kr87 R.1, ↓kr88 R.1, ↓kr89 R.1, ↓kr90 R.1, ↓kr91 R.1, ↓kr92 R.1, ↓kr93 R.1, ↓kr94 R.1, ↓kr95 R.1, ↓kr96 R.1, ↓kr97 R.1, ↓kr98 R.1, ↓kr99 R.1, ↓kr100 R.1, ↓kr101 R.1, ↓kr102 R.1, ↓kr103 R.1, ↓kr104 R.1, ↓kr105 R.1, ↓kr106 R.1, ↓kr107 R.1, ↓kr108 R.1, ↓kr109 R.1, ↓kr110 R.1, ↓kx0 R, ↓kx1 R, ↓kx2 R, ↓kx3 R, ↓kx4 R, ↓kx5 R, ↓kx6 R, ↓kx7 R, ↓kx8 R, ↓kx9 R, ↓kx10 R, ↓kx11 R, ↓kx1m R, ↓kx9m R, ↓kx10m R, ↓reduceIte, if_true, if_false, Option.bind_some, b2_some, il0, il1, il2, il3, il4, il5, il6, il7, il8, il9, il10, il11, il12, il13, il14, il15, il16, il17, il18, il19, il20, il21, il22, il23, il24, il25, il26, il27, il28, il29, il30, il31, il32, il33, il36, il38, il39, il40, il41, il48, il50, il51, il57, il59, il60, il61, il62, il63, il70, il96, il99, il100, il101, il102, il103, il104, il105, il106, il107, il108, il109, il110, il111, il112, il115, il116, il120, il121, il124, il200, il240, il255, il288, il360, il420, il999, il1000, il114292, il152755, il402789, il435589, il463922, il533611, il631470, iz_add, iz_sub, iz_mul, iz_neg, iz_le, iz_lt, iz_eq, c, c']
theorem duC_0 : duC 0 = 104 := rfl
theorem duC_1 : duC 1 = 105 := rfl
theorem duC_2 : duC 2 = 101 := rfl
theorem m_dues_11 (R : RepM h V) (w : WF V) (hN : 200 ≤ N) {f : Nat} {t : Int} (hf : f < vF V) (ht : 0 ≤ t ∧ t < 4) : ∀ (d i n : Nat), i + d = vF V → d < n → f_X10_dues_11 N n 71 (iz f) (iz t) (iz (cin V t f i)) (iz (ain V t f i)) (iz (grt V t f i)) (iz i) h = some (iz (dues V f t), h) := by
  intro d
  have hF := w.F
  have h6 := w.f (j := f) (by omega) (by omega)
  have hi6 := w.i (j := f) (by omega) (by omega)
  have hc0 := cost_bd w ht
  have hd := w.d
  induction d with
  | zero =>
    intro i n hi hn
    obtain ⟨n, rfl⟩ : ∃ k, n = k + 1 := ⟨n - 1, by omega⟩
    rw [f_X10_dues_11]
    obtain rfl : i = vF V := by omega
    have ec := m_cost R w hN ht
    have hg := grt_bd w (t := t) (g := f) (vF V) hF
    have hci := cin_bd (V := V) (t := t) (f := f) (vF V)
    have hai := ain_bd w (t := t) (f := f) (vF V) hF
    have hc1 : 1 ≤ cin V t f (vF V) := sm_pos (f := f) (by rw [if_pos (Or.inr rfl)]; omega) _ hf (fun i _ => by split <;> omega)
    have ha1 : 1 ≤ ain V t f (vF V) := sm_pos (f := f) (by rw [if_pos (Or.inr rfl)]; omega) _ hf (fun i _ => by have := w.f (j := i) (by omega) (by omega); split <;> omega)
    unfold dues
    rcases (show va V 12 1 = 0 ∨ va V 12 1 = 1 ∨ va V 12 1 = 2 by omega) with d0 | d1 | d2
    · have es : share V f (grt V t f (vF V)) = 1 := by unfold share; rw [if_pos d0]
      have c0 : ¬ (cin V t f (vF V) = 0) := by omega
      rw [es, shares_0 _ d0]
      unfold part
      simp (disch := omega) only [↓kmC R.1, ↓kmT R, ↓kmF R, ↓kmM R, ↓kmD R, ↓kmP R, ↓kr72 R.1, ↓kr73 R.1, ↓kr74 R.1, ↓kr75 R.1, ↓kr76 R.1, ↓kr77 R.1, ↓kr78 R.1, ↓kr79 R.1, ↓kr80 R.1, ↓kr81 R.1, ↓kr82 R.1, ↓kr83 R.1, ↓kr84 R.1, ↓kr85 R.1, ↓kr86 R.1, ↓kr87 R.1, ↓kr88 R.1, ↓kr89 R.1, ↓kr90 R.1, ↓kr91 R.1, ↓kr92 R.1, ↓kr93 R.1, ↓kr94 R.1, ↓kr95 R.1, ↓kr96 R.1, ↓kr97 R.1, ↓kr98 R.1, ↓kr99 R.1, ↓kr100 R.1, ↓kr101 R.1, ↓kr102 R.1, ↓kr103 R.1, ↓kr104 R.1, ↓kr105 R.1, ↓kr106 R.1, ↓kr107 R.1, ↓kr108 R.1, ↓kr109 R.1, ↓kr110 R.1, ↓kx0 R, ↓kx1 R, ↓kx2 R, ↓kx3 R, ↓kx4 R, ↓kx5 R, ↓kx6 R, ↓kx7 R, ↓kx8 R, ↓kx9 R, ↓kx10 R, ↓kx11 R, ↓kx1m R, ↓kx9m R, ↓kx10m R, ↓reduceIte, d0, duC_0, ↓bq ec, if_true, if_false, Option.bind_some, b2_some, il0, il1, il2, il3, il4, il5, il6, il7, il8, il9, il10, il11, il12, il13, il14, il15, il16, il17, il18, il19, il20, il21, il22, il23, il24, il25, il26, il27, il28, il29, il30, il31, il32, il33, il36, il38, il39, il40, il41, il48, il50, il51, il57, il59, il60, il61, il62, il63, il70, il96, il99, il100, il101, il102, il103, il104, il105, il106, il107, il108, il109, il110, il111, il112, il115, il116, il120, il121, il124, il200, il240, il255, il288, il360, il420, il999, il1000, il114292, il152755, il402789, il435589, il463922, il533611, il631470, iz_add, iz_sub, iz_mul, iz_neg, iz_le, iz_lt, iz_eq, Int.le_refl, c0, Int.mul_one, iz_div]
    · have es : share V f (grt V t f (vF V)) = va V 6 f := by unfold share; rw [if_neg (by omega), if_pos d1]
      have c0 : ¬ (ain V t f (vF V) = 0) := by omega
      have cm := mul_bd hc0 h6.2.1
      rw [es, shares_1 _ d1]
      unfold part
      simp (disch := omega) only [↓kmC R.1, ↓kmT R, ↓kmF R, ↓kmM R, ↓kmD R, ↓kmP R, ↓kr72 R.1, ↓kr73 R.1, ↓kr74 R.1, ↓kr75 R.1, ↓kr76 R.1, ↓kr77 R.1, ↓kr78 R.1, ↓kr79 R.1, ↓kr80 R.1, ↓kr81 R.1, ↓kr82 R.1, ↓kr83 R.1, ↓kr84 R.1, ↓kr85 R.1, ↓kr86 R.1, ↓kr87 R.1, ↓kr88 R.1, ↓kr89 R.1, ↓kr90 R.1, ↓kr91 R.1, ↓kr92 R.1, ↓kr93 R.1, ↓kr94 R.1, ↓kr95 R.1, ↓kr96 R.1, ↓kr97 R.1, ↓kr98 R.1, ↓kr99 R.1, ↓kr100 R.1, ↓kr101 R.1, ↓kr102 R.1, ↓kr103 R.1, ↓kr104 R.1, ↓kr105 R.1, ↓kr106 R.1, ↓kr107 R.1, ↓kr108 R.1, ↓kr109 R.1, ↓kr110 R.1, ↓kx0 R, ↓kx1 R, ↓kx2 R, ↓kx3 R, ↓kx4 R, ↓kx5 R, ↓kx6 R, ↓kx7 R, ↓kx8 R, ↓kx9 R, ↓kx10 R, ↓kx11 R, ↓kx1m R, ↓kx9m R, ↓kx10m R, ↓reduceIte, d1, duC_1, ↓bq ec, if_true, if_false, Option.bind_some, b2_some, il0, il1, il2, il3, il4, il5, il6, il7, il8, il9, il10, il11, il12, il13, il14, il15, il16, il17, il18, il19, il20, il21, il22, il23, il24, il25, il26, il27, il28, il29, il30, il31, il32, il33, il36, il38, il39, il40, il41, il48, il50, il51, il57, il59, il60, il61, il62, il63, il70, il96, il99, il100, il101, il102, il103, il104, il105, il106, il107, il108, il109, il110, il111, il112, il115, il116, il120, il121, il124, il200, il240, il255, il288, il360, il420, il999, il1000, il114292, il152755, il402789, il435589, il463922, il533611, il631470, iz_add, iz_sub, iz_mul, iz_neg, iz_le, iz_lt, iz_eq, Int.le_refl, c0, iz_div, show ¬ ((105 : Int) = 104) by decide]
    · have hp : 2 * va V 6 f < grt V t f (vF V) ∨ 1 ≤ shares V t f (grt V t f (vF V)) (vF V) := by
        by_cases c : 2 * va V 6 f < grt V t f (vF V)
        · exact Or.inl c
        · refine Or.inr (sm_pos (f := f) ?_ _ hf (fun i hi => ?_))
          · rw [if_pos (Or.inr rfl)]
            unfold share
            rw [if_neg (by omega), if_neg (by omega), if_neg c]
            omega
          · have := share_bd w (o := i) (gr := grt V t f (vF V)) (by omega)
            split <;> omega
      have e := m_rich R w hN d2 (f := f) (by omega) ht hg hp (vF V) 0 N (by omega) (by omega)
      simp (disch := omega) only [↓kmC R.1, ↓kmT R, ↓kmF R, ↓kmM R, ↓kmD R, ↓kmP R, ↓kr72 R.1, ↓kr73 R.1, ↓kr74 R.1, ↓kr75 R.1, ↓kr76 R.1, ↓kr77 R.1, ↓kr78 R.1, ↓kr79 R.1, ↓kr80 R.1, ↓kr81 R.1, ↓kr82 R.1, ↓kr83 R.1, ↓kr84 R.1, ↓kr85 R.1, ↓kr86 R.1, ↓kr87 R.1, ↓kr88 R.1, ↓kr89 R.1, ↓kr90 R.1, ↓kr91 R.1, ↓kr92 R.1, ↓kr93 R.1, ↓kr94 R.1, ↓kr95 R.1, ↓kr96 R.1, ↓kr97 R.1, ↓kr98 R.1, ↓kr99 R.1, ↓kr100 R.1, ↓kr101 R.1, ↓kr102 R.1, ↓kr103 R.1, ↓kr104 R.1, ↓kr105 R.1, ↓kr106 R.1, ↓kr107 R.1, ↓kr108 R.1, ↓kr109 R.1, ↓kr110 R.1, ↓kx0 R, ↓kx1 R, ↓kx2 R, ↓kx3 R, ↓kx4 R, ↓kx5 R, ↓kx6 R, ↓kx7 R, ↓kx8 R, ↓kx9 R, ↓kx10 R, ↓kx11 R, ↓kx1m R, ↓kx9m R, ↓kx10m R, ↓reduceIte, d2, duC_2, if_true, if_false, Option.bind_some, b2_some, il0, il1, il2, il3, il4, il5, il6, il7, il8, il9, il10, il11, il12, il13, il14, il15, il16, il17, il18, il19, il20, il21, il22, il23, il24, il25, il26, il27, il28, il29, il30, il31, il32, il33, il36, il38, il39, il40, il41, il48, il50, il51, il57, il59, il60, il61, il62, il63, il70, il96, il99, il100, il101, il102, il103, il104, il105, il106, il107, il108, il109, il110, il111, il112, il115, il116, il120, il121, il124, il200, il240, il255, il288, il360, il420, il999, il1000, il114292, il152755, il402789, il435589, il463922, il533611, il631470, iz_add, iz_sub, iz_mul, iz_neg, iz_le, iz_lt, iz_eq, Int.le_refl, show ¬ ((101 : Int) = 104) by decide, show ¬ ((101 : Int) = 105) by decide]
      exact e
  | succ d ih =>
    intro i n hi hn
    obtain ⟨n, rfl⟩ : ∃ k, n = k + 1 := ⟨n - 1, by omega⟩
    rw [f_X10_dues_11]
    have hc : ¬ ((vF V : Int) ≤ i) := by omega
    have e := ih (i + 1) n (by omega) (by omega)
    have h7 := w.f (j := i) (by omega) (by omega)
    have hg := grt_bd w (t := t) (g := f) i (by omega)
    rw [cin_succ, ain_succ, grt_succ] at e
    have e40 := fun k11 => m_dues_40 (N := N) R w (i := i) (f := f) (t := t) (a := cin V t f i) (b := ain V t f i) (mo := grt V t f i) (k11 := k11) (by omega) hg
    by_cases h1 : va V 7 i = t
    · simp (disch := omega) only [↓kmC R.1, ↓kmT R, ↓kmF R, ↓kmM R, ↓kmD R, ↓kmP R, ↓kr72 R.1, ↓kr73 R.1, ↓kr74 R.1, ↓kr75 R.1, ↓kr76 R.1, ↓kr77 R.1, ↓kr78 R.1, ↓kr79 R.1, ↓kr80 R.1, ↓kr81 R.1, ↓kr82 R.1, ↓kr83 R.1, ↓kr84 R.1, ↓kr85 R.1, ↓kr86 R.1, ↓kr87 R.1, ↓kr88 R.1, ↓kr89 R.1, ↓kr90 R.1, ↓kr91 R.1, ↓kr92 R.1, ↓kr93 R.1, ↓kr94 R.1, ↓kr95 R.1, ↓kr96 R.1, ↓kr97 R.1, ↓kr98 R.1, ↓kr99 R.1, ↓kr100 R.1, ↓kr101 R.1, ↓kr102 R.1, ↓kr103 R.1, ↓kr104 R.1, ↓kr105 R.1, ↓kr106 R.1, ↓kr107 R.1, ↓kr108 R.1, ↓kr109 R.1, ↓kr110 R.1, ↓kx0 R, ↓kx1 R, ↓kx2 R, ↓kx3 R, ↓kx4 R, ↓kx5 R, ↓kx6 R, ↓kx7 R, ↓kx8 R, ↓kx9 R, ↓kx10 R, ↓kx11 R, ↓kx1m R, ↓kx9m R, ↓kx10m R, ↓reduceIte, if_true, if_false, Option.bind_some, b2_some, il0, il1, il2, il3, il4, il5, il6, il7, il8, il9, il10, il11, il12, il13, il14, il15, il16, il17, il18, il19, il20, il21, il22, il23, il24, il25, il26, il27, il28, il29, il30, il31, il32, il33, il36, il38, il39, il40, il41, il48, il50, il51, il57, il59, il60, il61, il62, il63, il70, il96, il99, il100, il101, il102, il103, il104, il105, il106, il107, il108, il109, il110, il111, il112, il115, il116, il120, il121, il124, il200, il240, il255, il288, il360, il420, il999, il1000, il114292, il152755, il402789, il435589, il463922, il533611, il631470, iz_add, iz_sub, iz_mul, iz_neg, iz_le, iz_lt, iz_eq, hc, h1]
      rw [e40]
      rw [if_pos (Or.inl h1), if_pos (Or.inl h1)] at e
      rw [← e]
      congr 2
      by_cases h2 : grt V t f i < va V 6 i
      · rw [if_pos h2, if_pos ⟨Or.inl h1, h2⟩]
      · rw [if_neg h2, if_neg (fun z => h2 z.2)]
    · by_cases h3 : (i : Int) = f
      · simp (disch := omega) only [↓kmC R.1, ↓kmT R, ↓kmF R, ↓kmM R, ↓kmD R, ↓kmP R, ↓kr72 R.1, ↓kr73 R.1, ↓kr74 R.1, ↓kr75 R.1, ↓kr76 R.1, ↓kr77 R.1, ↓kr78 R.1, ↓kr79 R.1, ↓kr80 R.1, ↓kr81 R.1, ↓kr82 R.1, ↓kr83 R.1, ↓kr84 R.1, ↓kr85 R.1, ↓kr86 R.1, ↓kr87 R.1, ↓kr88 R.1, ↓kr89 R.1, ↓kr90 R.1, ↓kr91 R.1, ↓kr92 R.1, ↓kr93 R.1, ↓kr94 R.1, ↓kr95 R.1, ↓kr96 R.1, ↓kr97 R.1, ↓kr98 R.1, ↓kr99 R.1, ↓kr100 R.1, ↓kr101 R.1, ↓kr102 R.1, ↓kr103 R.1, ↓kr104 R.1, ↓kr105 R.1, ↓kr106 R.1, ↓kr107 R.1, ↓kr108 R.1, ↓kr109 R.1, ↓kr110 R.1, ↓kx0 R, ↓kx1 R, ↓kx2 R, ↓kx3 R, ↓kx4 R, ↓kx5 R, ↓kx6 R, ↓kx7 R, ↓kx8 R, ↓kx9 R, ↓kx10 R, ↓kx11 R, ↓kx1m R, ↓kx9m R, ↓kx10m R, ↓reduceIte, if_true, if_false, Option.bind_some, b2_some, il0, il1, il2, il3, il4, il5, il6, il7, il8, il9, il10, il11, il12, il13, il14, il15, il16, il17, il18, il19, il20, il21, il22, il23, il24, il25, il26, il27, il28, il29, il30, il31, il32, il33, il36, il38, il39, il40, il41, il48, il50, il51, il57, il59, il60, il61, il62, il63, il70, il96, il99, il100, il101, il102, il103, il104, il105, il106, il107, il108, il109, il110, il111, il112, il115, il116, il120, il121, il124, il200, il240, il255, il288, il360, il420, il999, il1000, il114292, il152755, il402789, il435589, il463922, il533611, il631470, iz_add, iz_sub, iz_mul, iz_neg, iz_le, iz_lt, iz_eq, hc, h1, if_pos h3]
        rw [e40]
        rw [if_pos (Or.inr h3), if_pos (Or.inr h3)] at e
        rw [← e]
        congr 2
        by_cases h2 : grt V t f i < va V 6 i
        · rw [if_pos h2, if_pos ⟨Or.inr h3, h2⟩]
        · rw [if_neg h2, if_neg (fun z => h2 z.2)]
      · simp (disch := omega) only [↓kmC R.1, ↓kmT R, ↓kmF R, ↓kmM R, ↓kmD R, ↓kmP R, ↓kr72 R.1, ↓kr73 R.1, ↓kr74 R.1, ↓kr75 R.1, ↓kr76 R.1, ↓kr77 R.1, ↓kr78 R.1, ↓kr79 R.1, ↓kr80 R.1, ↓kr81 R.1, ↓kr82 R.1, ↓kr83 R.1, ↓kr84 R.1, ↓kr85 R.1, ↓kr86 R.1, ↓kr87 R.1, ↓kr88 R.1, ↓kr89 R.1, ↓kr90 R.1, ↓kr91 R.1, ↓kr92 R.1, ↓kr93 R.1, ↓kr94 R.1, ↓kr95 R.1, ↓kr96 R.1, ↓kr97 R.1, ↓kr98 R.1, ↓kr99 R.1, ↓kr100 R.1, ↓kr101 R.1, ↓kr102 R.1, ↓kr103 R.1, ↓kr104 R.1, ↓kr105 R.1, ↓kr106 R.1, ↓kr107 R.1, ↓kr108 R.1, ↓kr109 R.1, ↓kr110 R.1, ↓kx0 R, ↓kx1 R, ↓kx2 R, ↓kx3 R, ↓kx4 R, ↓kx5 R, ↓kx6 R, ↓kx7 R, ↓kx8 R, ↓kx9 R, ↓kx10 R, ↓kx11 R, ↓kx1m R, ↓kx9m R, ↓kx10m R, ↓reduceIte, if_true, if_false, Option.bind_some, b2_some, il0, il1, il2, il3, il4, il5, il6, il7, il8, il9, il10, il11, il12, il13, il14, il15, il16, il17, il18, il19, il20, il21, il22, il23, il24, il25, il26, il27, il28, il29, il30, il31, il32, il33, il36, il38, il39, il40, il41, il48, il50, il51, il57, il59, il60, il61, il62, il63, il70, il96, il99, il100, il101, il102, il103, il104, il105, il106, il107, il108, il109, il110, il111, il112, il115, il116, il120, il121, il124, il200, il240, il255, il288, il360, il420, il999, il1000, il114292, il152755, il402789, il435589, il463922, il533611, il631470, iz_add, iz_sub, iz_mul, iz_neg, iz_le, iz_lt, iz_eq, hc, h1, h3]
        simpa [h1, h3] using e
theorem m_dues (R : RepM h V) (w : WF V) (hN : 200 ≤ N) {f : Nat} {t : Int} (hf : f < vF V) (ht : 0 ≤ t ∧ t < 4) : f_X10_dues N 71 (iz f) (iz t) h = some (iz (dues V f t), h) := by
  have hF := w.F
  exact m_dues_11 R w hN hf ht (vF V) 0 N (by omega) (by omega)
theorem kx87 (R : RepM h V) (w : WF V) (ca : cacheOK h V) {f : Nat} {t n : Int} {γ : Type} {k : Int32 → Option γ} (hf : f < vF V) (ht : 0 ≤ t ∧ t < 4) (hn : 1 ≤ n ∧ n < 9) : (lI 100 h 87 (((36 : Int32) * iz f + (9 : Int32) * iz t) + iz n)).bind k = k (iz (vs V (va V 5 f) (va V 6 f) t n)) := by
  have hF := w.F
  have c := ca f t.toNat n.toNat hf (by omega) (by omega) (by omega)
  rw [il36, il9, iz_mul, iz_mul, iz_add, iz_add, kl87 R.1 (by omega) (by omega)]
  rw [show (36 * (f : Int) + 9 * t + n).toNat = 36 * f + 9 * t.toNat + n.toNat by omega, c]
  rw [Int.toNat_of_nonneg ht.1, Int.toNat_of_nonneg (by omega)]
theorem m_abs {a b : Int} (ha : 0 ≤ a ∧ a ≤ 3) (hb : 0 ≤ b ∧ b ≤ 3) : f_X10_abs N 71 (iz a - iz b) h = some (iz (dist a b), h) := by
  unfold f_X10_abs dist
  by_cases c : 0 ≤ a - b
  · simp (disch := omega) only [if_true, if_false, Option.bind_some, b2_some, il0, il1, il2, il3, il4, il5, il6, il7, il8, il9, il10, il11, il12, il13, il14, il15, il16, il17, il18, il19, il20, il21, il22, il23, il24, il25, il26, il27, il28, il29, il30, il31, il32, il33, il36, il38, il39, il40, il41, il48, il50, il51, il57, il59, il60, il61, il62, il63, il70, il96, il99, il100, il101, il102, il103, il104, il105, il106, il107, il108, il109, il110, il111, il112, il115, il116, il120, il121, il124, il200, il240, il255, il288, il360, il420, il999, il1000, il114292, il152755, il402789, il435589, il463922, il533611, il631470, iz_add, iz_sub, iz_mul, iz_neg, iz_le, iz_lt, iz_eq, c, ↓reduceIte]
  · simp (disch := omega) only [if_true, if_false, Option.bind_some, b2_some, il0, il1, il2, il3, il4, il5, il6, il7, il8, il9, il10, il11, il12, il13, il14, il15, il16, il17, il18, il19, il20, il21, il22, il23, il24, il25, il26, il27, il28, il29, il30, il31, il32, il33, il36, il38, il39, il40, il41, il48, il50, il51, il57, il59, il60, il61, il62, il63, il70, il96, il99, il100, il101, il102, il103, il104, il105, il106, il107, il108, il109, il110, il111, il112, il115, il116, il120, il121, il124, il200, il240, il255, il288, il360, il420, il999, il1000, il114292, il152755, il402789, il435589, il463922, il533611, il631470, iz_add, iz_sub, iz_mul, iz_neg, iz_le, iz_lt, iz_eq, c, ↓reduceIte]
    congr 2
    apply iz_inj
    omega
theorem m_worth_66 (R : RepM h V) (w : WF V) (ca : cacheOK h V) (hN : 200 ≤ N) {f : Nat} {t : Int} (hf : f < vF V) (ht : 0 ≤ t ∧ t < 4) : ∀ (d i n : Nat), i + d = vF V → d < n → f_X10_worthOf_66 N n 71 (iz f) (iz t) (lz (likesum V f t 3 + nearsum V f t i)) (iz (heads V f t i)) (iz i) h = some (lz (worth V f t), h) := by
  intro d
  have hF := w.F
  have hb := like_bd w (f := f) (t := t) (by omega) ht 3 (by omega)
  have h5 := w.f (j := f) (by omega) (by omega)
  induction d with
  | zero =>
    intro i n hi hn
    obtain ⟨n, rfl⟩ : ∃ k, n = k + 1 := ⟨n - 1, by omega⟩
    rw [f_X10_worthOf_66]
    obtain rfl : i = vF V := by omega
    have hd := dues_bd w (f := f) (t := t) (by omega) ht
    have ed := m_dues R w hN hf ht
    have hh := heads_bd (V := V) (f := f) (t := t) (vF V)
    have hl := heads_le (V := V) (f := f) (t := t) (vF V) hf
    have hn := near_bd w (f := f) (t := t) (by omega) (vF V) hF
    have hr := (w.t ht.1 ht.2).2.1
    have hs := w.s (va V 5 f) (va V 6 f) t (heads V f t (vF V))
    have hm := mile_bd w (f := f) (t := t) (by omega) ht
    have ea := m_abs (N := N) (h := h) h5.2.2.2 (b := t) (by omega)
    have ex := fun (k : Int32 → Option (Int64 × Mem)) => kx87 (k := k) R w ca hf ht (n := heads V f t (vF V)) (by omega)
    simp (disch := omega) only [↓kmC R.1, ↓kmT R, ↓kmF R, ↓kmM R, ↓kmD R, ↓kmP R, ↓kr72 R.1, ↓kr73 R.1, ↓kr74 R.1, ↓kr75 R.1, ↓kr76 R.1, ↓kr77 R.1, ↓kr78 R.1, ↓kr79 R.1, ↓kr80 R.1, ↓kr81 R.1, ↓kr82 R.1, ↓kr83 R.1, ↓kr84 R.1, ↓kr85 R.1, ↓kr86 R.1, ↓kr87 R.1, ↓kr88 R.1, ↓kr89 R.1, ↓kr90 R.1, ↓kr91 R.1, ↓kr92 R.1, ↓kr93 R.1, ↓kr94 R.1, ↓kr95 R.1, ↓kr96 R.1, ↓kr97 R.1, ↓kr98 R.1, ↓kr99 R.1, ↓kr100 R.1, ↓kr101 R.1, ↓kr102 R.1, ↓kr103 R.1, ↓kr104 R.1, ↓kr105 R.1, ↓kr106 R.1, ↓kr107 R.1, ↓kr108 R.1, ↓kr109 R.1, ↓kr110 R.1, ↓kx0 R, ↓kx1 R, ↓kx2 R, ↓kx3 R, ↓kx4 R, ↓kx5 R, ↓kx6 R, ↓kx7 R, ↓kx8 R, ↓kx9 R, ↓kx10 R, ↓kx11 R, ↓kx1m R, ↓kx9m R, ↓kx10m R, ↓reduceIte, ↓bq ed, ↓ex, ↓bq ea, if_true, if_false, Option.bind_some, b2_some, il0, il1, il2, il3, il4, il5, il6, il7, il8, il9, il10, il11, il12, il13, il14, il15, il16, il17, il18, il19, il20, il21, il22, il23, il24, il25, il26, il27, il28, il29, il30, il31, il32, il33, il36, il38, il39, il40, il41, il48, il50, il51, il57, il59, il60, il61, il62, il63, il70, il96, il99, il100, il101, il102, il103, il104, il105, il106, il107, il108, il109, il110, il111, il112, il115, il116, il120, il121, il124, il200, il240, il255, il288, il360, il420, il999, il1000, il114292, il152755, il402789, il435589, il463922, il533611, il631470, iz_add, iz_sub, iz_mul, iz_neg, iz_le, iz_lt, iz_eq, Int.le_refl, iz_long, lz_sub]
    congr 2
    show lz _ = lz _
    congr 1
    unfold worth
    omega
  | succ d ih =>
    intro i n hi hn
    obtain ⟨n, rfl⟩ : ∃ k, n = k + 1 := ⟨n - 1, by omega⟩
    rw [f_X10_worthOf_66]
    have hc : ¬ ((vF V : Int) ≤ i) := by omega
    have e := ih (i + 1) n (by omega) (by omega)
    have h7 := w.f (j := i) (by omega) (by omega)
    have hn := near_bd w (f := f) (t := t) (by omega) i (by omega)
    have h10 := w.n (j := va V 5 f * 4 + va V 5 i) (by omega) (by omega)
    rw [near_succ, heads_succ] at e
    by_cases h3 : (i : Int) = f
    · rw [if_pos h3, if_pos h3] at e
      simp (disch := omega) only [↓kmC R.1, ↓kmT R, ↓kmF R, ↓kmM R, ↓kmD R, ↓kmP R, ↓kr72 R.1, ↓kr73 R.1, ↓kr74 R.1, ↓kr75 R.1, ↓kr76 R.1, ↓kr77 R.1, ↓kr78 R.1, ↓kr79 R.1, ↓kr80 R.1, ↓kr81 R.1, ↓kr82 R.1, ↓kr83 R.1, ↓kr84 R.1, ↓kr85 R.1, ↓kr86 R.1, ↓kr87 R.1, ↓kr88 R.1, ↓kr89 R.1, ↓kr90 R.1, ↓kr91 R.1, ↓kr92 R.1, ↓kr93 R.1, ↓kr94 R.1, ↓kr95 R.1, ↓kr96 R.1, ↓kr97 R.1, ↓kr98 R.1, ↓kr99 R.1, ↓kr100 R.1, ↓kr101 R.1, ↓kr102 R.1, ↓kr103 R.1, ↓kr104 R.1, ↓kr105 R.1, ↓kr106 R.1, ↓kr107 R.1, ↓kr108 R.1, ↓kr109 R.1, ↓kr110 R.1, ↓kx0 R, ↓kx1 R, ↓kx2 R, ↓kx3 R, ↓kx4 R, ↓kx5 R, ↓kx6 R, ↓kx7 R, ↓kx8 R, ↓kx9 R, ↓kx10 R, ↓kx11 R, ↓kx1m R, ↓kx9m R, ↓kx10m R, ↓reduceIte, if_true, if_false, Option.bind_some, b2_some, il0, il1, il2, il3, il4, il5, il6, il7, il8, il9, il10, il11, il12, il13, il14, il15, il16, il17, il18, il19, il20, il21, il22, il23, il24, il25, il26, il27, il28, il29, il30, il31, il32, il33, il36, il38, il39, il40, il41, il48, il50, il51, il57, il59, il60, il61, il62, il63, il70, il96, il99, il100, il101, il102, il103, il104, il105, il106, il107, il108, il109, il110, il111, il112, il115, il116, il120, il121, il124, il200, il240, il255, il288, il360, il420, il999, il1000, il114292, il152755, il402789, il435589, il463922, il533611, il631470, iz_add, iz_sub, iz_mul, iz_neg, iz_le, iz_lt, iz_eq, hc, if_pos h3]
      simpa using e
    · rw [if_neg h3, if_neg h3] at e
      by_cases h1 : va V 7 i = t
      · rw [if_pos h1, if_pos h1] at e
        simp (disch := omega) only [↓kmC R.1, ↓kmT R, ↓kmF R, ↓kmM R, ↓kmD R, ↓kmP R, ↓kr72 R.1, ↓kr73 R.1, ↓kr74 R.1, ↓kr75 R.1, ↓kr76 R.1, ↓kr77 R.1, ↓kr78 R.1, ↓kr79 R.1, ↓kr80 R.1, ↓kr81 R.1, ↓kr82 R.1, ↓kr83 R.1, ↓kr84 R.1, ↓kr85 R.1, ↓kr86 R.1, ↓kr87 R.1, ↓kr88 R.1, ↓kr89 R.1, ↓kr90 R.1, ↓kr91 R.1, ↓kr92 R.1, ↓kr93 R.1, ↓kr94 R.1, ↓kr95 R.1, ↓kr96 R.1, ↓kr97 R.1, ↓kr98 R.1, ↓kr99 R.1, ↓kr100 R.1, ↓kr101 R.1, ↓kr102 R.1, ↓kr103 R.1, ↓kr104 R.1, ↓kr105 R.1, ↓kr106 R.1, ↓kr107 R.1, ↓kr108 R.1, ↓kr109 R.1, ↓kr110 R.1, ↓kx0 R, ↓kx1 R, ↓kx2 R, ↓kx3 R, ↓kx4 R, ↓kx5 R, ↓kx6 R, ↓kx7 R, ↓kx8 R, ↓kx9 R, ↓kx10 R, ↓kx11 R, ↓kx1m R, ↓kx9m R, ↓kx10m R, ↓reduceIte, if_true, if_false, Option.bind_some, b2_some, il0, il1, il2, il3, il4, il5, il6, il7, il8, il9, il10, il11, il12, il13, il14, il15, il16, il17, il18, il19, il20, il21, il22, il23, il24, il25, il26, il27, il28, il29, il30, il31, il32, il33, il36, il38, il39, il40, il41, il48, il50, il51, il57, il59, il60, il61, il62, il63, il70, il96, il99, il100, il101, il102, il103, il104, il105, il106, il107, il108, il109, il110, il111, il112, il115, il116, il120, il121, il124, il200, il240, il255, il288, il360, il420, il999, il1000, il114292, il152755, il402789, il435589, il463922, il533611, il631470, iz_add, iz_sub, iz_mul, iz_neg, iz_le, iz_lt, iz_eq, hc, h3, h1, iz_long, lz_add]
        rw [← Int.add_assoc] at e
        exact e
      · rw [if_neg h1, if_neg h1] at e
        simp (disch := omega) only [↓kmC R.1, ↓kmT R, ↓kmF R, ↓kmM R, ↓kmD R, ↓kmP R, ↓kr72 R.1, ↓kr73 R.1, ↓kr74 R.1, ↓kr75 R.1, ↓kr76 R.1, ↓kr77 R.1, ↓kr78 R.1, ↓kr79 R.1, ↓kr80 R.1, ↓kr81 R.1, ↓kr82 R.1, ↓kr83 R.1, ↓kr84 R.1, ↓kr85 R.1, ↓kr86 R.1, ↓kr87 R.1, ↓kr88 R.1, ↓kr89 R.1, ↓kr90 R.1, ↓kr91 R.1, ↓kr92 R.1, ↓kr93 R.1, ↓kr94 R.1, ↓kr95 R.1, ↓kr96 R.1, ↓kr97 R.1, ↓kr98 R.1, ↓kr99 R.1, ↓kr100 R.1, ↓kr101 R.1, ↓kr102 R.1, ↓kr103 R.1, ↓kr104 R.1, ↓kr105 R.1, ↓kr106 R.1, ↓kr107 R.1, ↓kr108 R.1, ↓kr109 R.1, ↓kr110 R.1, ↓kx0 R, ↓kx1 R, ↓kx2 R, ↓kx3 R, ↓kx4 R, ↓kx5 R, ↓kx6 R, ↓kx7 R, ↓kx8 R, ↓kx9 R, ↓kx10 R, ↓kx11 R, ↓kx1m R, ↓kx9m R, ↓kx10m R, ↓reduceIte, if_true, if_false, Option.bind_some, b2_some, il0, il1, il2, il3, il4, il5, il6, il7, il8, il9, il10, il11, il12, il13, il14, il15, il16, il17, il18, il19, il20, il21, il22, il23, il24, il25, il26, il27, il28, il29, il30, il31, il32, il33, il36, il38, il39, il40, il41, il48, il50, il51, il57, il59, il60, il61, il62, il63, il70, il96, il99, il100, il101, il102, il103, il104, il105, il106, il107, il108, il109, il110, il111, il112, il115, il116, il120, il121, il124, il200, il240, il255, il288, il360, il420, il999, il1000, il114292, il152755, il402789, il435589, il463922, il533611, il631470, iz_add, iz_sub, iz_mul, iz_neg, iz_le, iz_lt, iz_eq, hc, h3, h1]
        simpa using e
theorem m_worth_16 (R : RepM h V) (w : WF V) (ca : cacheOK h V) (hN : 200 ≤ N) {f : Nat} {t : Int} (hf : f < vF V) (ht : 0 ≤ t ∧ t < 4) : ∀ (d i n : Nat), i + d = 3 → d < n → f_X10_worthOf_16 N n 71 (iz f) (iz t) (lz (likesum V f t i)) (iz i) h = some (lz (worth V f t), h) := by
  intro d
  have hF := w.F
  have h5 := w.f (j := f) (by omega) (by omega)
  induction d with
  | zero =>
    intro i n hi hn
    obtain ⟨n, rfl⟩ : ∃ k, n = k + 1 := ⟨n - 1, by omega⟩
    rw [f_X10_worthOf_16]
    obtain rfl : i = 3 := by omega
    have e := m_worth_66 R w ca hN hf ht (vF V) 0 N (by omega) (by omega)
    simp (disch := omega) only [if_true, if_false, Option.bind_some, b2_some, il0, il1, il2, il3, il4, il5, il6, il7, il8, il9, il10, il11, il12, il13, il14, il15, il16, il17, il18, il19, il20, il21, il22, il23, il24, il25, il26, il27, il28, il29, il30, il31, il32, il33, il36, il38, il39, il40, il41, il48, il50, il51, il57, il59, il60, il61, il62, il63, il70, il96, il99, il100, il101, il102, il103, il104, il105, il106, il107, il108, il109, il110, il111, il112, il115, il116, il120, il121, il124, il200, il240, il255, il288, il360, il420, il999, il1000, il114292, il152755, il402789, il435589, il463922, il533611, il631470, iz_add, iz_sub, iz_mul, iz_neg, iz_le, iz_lt, iz_eq, ↓reduceIte, Int.le_refl]
    simpa [nearsum, heads, sm] using e
  | succ d ih =>
    intro i n hi hn
    obtain ⟨n, rfl⟩ : ∃ k, n = k + 1 := ⟨n - 1, by omega⟩
    rw [f_X10_worthOf_16]
    have hc : ¬ ((3 : Int) ≤ i) := by omega
    have e := ih (i + 1) n (by omega) (by omega)
    have h1 := w.l (j := t * 3 + i) (by omega) (by omega)
    have h2 := w.l (j := va V 5 f * 3 + i) (by omega) (by omega)
    have h3 := mul_bd2 (C := 20) h1.1 h2.2 (by omega) (by omega)
    have hm : va V 9 (va V 5 f * 3 + i) * va V 1 (t * 3 + i) = va V 1 (t * 3 + i) * va V 9 (va V 5 f * 3 + i) := Int.mul_comm _ _
    rw [like_succ] at e
    simp (disch := omega) only [↓kmC R.1, ↓kmT R, ↓kmF R, ↓kmM R, ↓kmD R, ↓kmP R, ↓kr72 R.1, ↓kr73 R.1, ↓kr74 R.1, ↓kr75 R.1, ↓kr76 R.1, ↓kr77 R.1, ↓kr78 R.1, ↓kr79 R.1, ↓kr80 R.1, ↓kr81 R.1, ↓kr82 R.1, ↓kr83 R.1, ↓kr84 R.1, ↓kr85 R.1, ↓kr86 R.1, ↓kr87 R.1, ↓kr88 R.1, ↓kr89 R.1, ↓kr90 R.1, ↓kr91 R.1, ↓kr92 R.1, ↓kr93 R.1, ↓kr94 R.1, ↓kr95 R.1, ↓kr96 R.1, ↓kr97 R.1, ↓kr98 R.1, ↓kr99 R.1, ↓kr100 R.1, ↓kr101 R.1, ↓kr102 R.1, ↓kr103 R.1, ↓kr104 R.1, ↓kr105 R.1, ↓kr106 R.1, ↓kr107 R.1, ↓kr108 R.1, ↓kr109 R.1, ↓kr110 R.1, ↓kx0 R, ↓kx1 R, ↓kx2 R, ↓kx3 R, ↓kx4 R, ↓kx5 R, ↓kx6 R, ↓kx7 R, ↓kx8 R, ↓kx9 R, ↓kx10 R, ↓kx11 R, ↓kx1m R, ↓kx9m R, ↓kx10m R, ↓reduceIte, if_true, if_false, Option.bind_some, b2_some, il0, il1, il2, il3, il4, il5, il6, il7, il8, il9, il10, il11, il12, il13, il14, il15, il16, il17, il18, il19, il20, il21, il22, il23, il24, il25, il26, il27, il28, il29, il30, il31, il32, il33, il36, il38, il39, il40, il41, il48, il50, il51, il57, il59, il60, il61, il62, il63, il70, il96, il99, il100, il101, il102, il103, il104, il105, il106, il107, il108, il109, il110, il111, il112, il115, il116, il120, il121, il124, il200, il240, il255, il288, il360, il420, il999, il1000, il114292, il152755, il402789, il435589, il463922, il533611, il631470, iz_add, iz_sub, iz_mul, iz_neg, iz_le, iz_lt, iz_eq, hc, hm, iz_long, lz_add]
    exact e
end
