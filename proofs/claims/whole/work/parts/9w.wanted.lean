section
variable {h : Mem} {V : Vw} {N : Nat}
def wtd (V : Vw) (t : Int) (n : Nat) : Int := sm (fun f => if va V 7 f = t then 1 else 0) n + wishers V t n
theorem wtd_s {t : Int} (n : Nat) : wtd V t (n + 1) = wtd V t n + (if va V 7 n = t then 1 else if va V 3 t ≤ va V 6 n ∧ worth V n (va V 7 n) < worth V n t then 1 else 0) := by
  unfold wtd wishers
  rw [show sm (fun f => if va V 7 f = t then 1 else 0) (n + 1) = sm (fun f => if va V 7 f = t then 1 else 0) n + (if va V 7 n = t then 1 else 0) from rfl, show sm (fun f => if va V 7 f ≠ t ∧ va V 3 t ≤ va V 6 f ∧ worth V f (va V 7 f) < worth V f t then 1 else 0) (n + 1) = sm (fun f => if va V 7 f ≠ t ∧ va V 3 t ≤ va V 6 f ∧ worth V f (va V 7 f) < worth V f t then 1 else 0) n + (if va V 7 n ≠ t ∧ va V 3 t ≤ va V 6 n ∧ worth V n (va V 7 n) < worth V n t then 1 else 0) from rfl]
  by_cases c : va V 7 n = t
  · rw [if_pos c, if_pos c, if_neg (fun z => z.1 c)]; omega
  · rw [if_neg c, if_neg c]
    by_cases c2 : va V 3 t ≤ va V 6 n ∧ worth V n (va V 7 n) < worth V n t
    · rw [if_pos c2, if_pos ⟨c, c2⟩]; omega
    · rw [if_neg c2, if_neg (fun z => c2 z.2)]; omega
theorem wtd_bd {t : Int} : ∀ n : Nat, 0 ≤ wtd V t n ∧ wtd V t n ≤ n := by
  intro n
  induction n with
  | zero => exact ⟨Int.le_refl _, Int.le_refl _⟩
  | succ n ih =>
    rw [wtd_s]
    split
    · omega
    · split <;> omega
theorem m_isWanted_4 (w : WF V) (hN : 200 ≤ N) {t : Int} (ht : 0 ≤ t ∧ t < 4) : ∀ (d i n : Nat) (h : Mem), i + d = vF V → d < n → RepM h V → ∃ h', f_X10_isWanted_4 N n 71 (iz t) (iz (wtd V t i)) (iz (i : Int)) h = some (iz (bi (decide (va V 0 t < wtd V t (vF V)))), h') ∧ RepM h' V ∧ FM SP h h' := by
  intro d
  have hF := w.F
  have h0 := w.t ht.1 ht.2
  induction d with
  | zero =>
    intro i n h hi hn R
    obtain ⟨n, rfl⟩ : ∃ k, n = k + 1 := ⟨n - 1, by omega⟩
    obtain rfl : i = vF V := by omega
    have wb := wtd_bd (V := V) (t := t) (vF V)
    refine ⟨h, ?_, R, FM.rf⟩
    rw [f_X10_isWanted_4, kmF R]
    refine (if_pos (Int32.le_refl _)).trans ?_
    by_cases c : va V 0 t < wtd V t (vF V)
    · rw [decide_eq_true c]
      have c' : ¬ (wtd V t (vF V) ≤ va V 0 t) := by omega
      simp (disch := omega) only [↓kmC R.1, ↓kmT R, ↓kmF R, ↓kmM R, ↓kmD R, ↓kmP R, ↓kr72 R.1, ↓kr73 R.1, ↓kr74 R.1, ↓kr75 R.1, ↓kr76 R.1, ↓kr77 R.1, ↓kr78 R.1, ↓kr79 R.1, ↓kr80 R.1, ↓kr81 R.1, ↓kr82 R.1, ↓kr83 R.1, ↓kr84 R.1, ↓kr85 R.1, ↓kr86 R.1, ↓kr87 R.1, ↓kr88 R.1, ↓kr89 R.1, ↓kr90 R.1, ↓kr91 R.1, ↓kr92 R.1, ↓kr93 R.1, ↓kr94 R.1, ↓kr95 R.1, ↓kr96 R.1, ↓kr97 R.1, ↓kr98 R.1, ↓kr99 R.1, ↓kr100 R.1, ↓kr101 R.1, ↓kr102 R.1, ↓kr103 R.1, ↓kr104 R.1, ↓kr105 R.1, ↓kr106 R.1, ↓kr107 R.1, ↓kr108 R.1, ↓kr109 R.1, ↓kr110 R.1, ↓kx0 R, ↓kx1 R, ↓kx2 R, ↓kx3 R, ↓kx4 R, ↓kx5 R, ↓kx6 R, ↓kx7 R, ↓kx8 R, ↓kx9 R, ↓kx10 R, ↓kx11 R, ↓kx1m R, ↓kx9m R, ↓kx10m R, ↓reduceIte, if_true, if_false, Option.bind_some, b2_some, il0, il1, il2, il3, il4, il5, il6, il7, il8, il9, il10, il11, il12, il13, il14, il15, il16, il17, il18, il19, il20, il21, il22, il23, il24, il25, il26, il27, il28, il29, il30, il31, il32, il33, il36, il38, il39, il40, il41, il48, il50, il51, il57, il59, il60, il61, il62, il63, il70, il96, il99, il100, il101, il102, il103, il104, il105, il106, il107, il108, il109, il110, il111, il112, il115, il116, il120, il121, il124, il200, il240, il255, il288, il360, il420, il999, il1000, il114292, il152755, il402789, il435589, il463922, il533611, il631470, iz_add, iz_sub, iz_mul, iz_neg, iz_le, iz_lt, iz_eq, c', bi_t]
    · rw [decide_eq_false c]
      have c' : wtd V t (vF V) ≤ va V 0 t := by omega
      simp (disch := omega) only [↓kmC R.1, ↓kmT R, ↓kmF R, ↓kmM R, ↓kmD R, ↓kmP R, ↓kr72 R.1, ↓kr73 R.1, ↓kr74 R.1, ↓kr75 R.1, ↓kr76 R.1, ↓kr77 R.1, ↓kr78 R.1, ↓kr79 R.1, ↓kr80 R.1, ↓kr81 R.1, ↓kr82 R.1, ↓kr83 R.1, ↓kr84 R.1, ↓kr85 R.1, ↓kr86 R.1, ↓kr87 R.1, ↓kr88 R.1, ↓kr89 R.1, ↓kr90 R.1, ↓kr91 R.1, ↓kr92 R.1, ↓kr93 R.1, ↓kr94 R.1, ↓kr95 R.1, ↓kr96 R.1, ↓kr97 R.1, ↓kr98 R.1, ↓kr99 R.1, ↓kr100 R.1, ↓kr101 R.1, ↓kr102 R.1, ↓kr103 R.1, ↓kr104 R.1, ↓kr105 R.1, ↓kr106 R.1, ↓kr107 R.1, ↓kr108 R.1, ↓kr109 R.1, ↓kr110 R.1, ↓kx0 R, ↓kx1 R, ↓kx2 R, ↓kx3 R, ↓kx4 R, ↓kx5 R, ↓kx6 R, ↓kx7 R, ↓kx8 R, ↓kx9 R, ↓kx10 R, ↓kx11 R, ↓kx1m R, ↓kx9m R, ↓kx10m R, ↓reduceIte, if_true, if_false, Option.bind_some, b2_some, il0, il1, il2, il3, il4, il5, il6, il7, il8, il9, il10, il11, il12, il13, il14, il15, il16, il17, il18, il19, il20, il21, il22, il23, il24, il25, il26, il27, il28, il29, il30, il31, il32, il33, il36, il38, il39, il40, il41, il48, il50, il51, il57, il59, il60, il61, il62, il63, il70, il96, il99, il100, il101, il102, il103, il104, il105, il106, il107, il108, il109, il110, il111, il112, il115, il116, il120, il121, il124, il200, il240, il255, il288, il360, il420, il999, il1000, il114292, il152755, il402789, il435589, il463922, il533611, il631470, iz_add, iz_sub, iz_mul, iz_neg, iz_le, iz_lt, iz_eq, c', bi_f]
  | succ d ih =>
    intro i n h hi hn R
    obtain ⟨n, rfl⟩ : ∃ k, n = k + 1 := ⟨n - 1, by omega⟩
    have wb := wtd_bd (V := V) (t := t) i
    have hwf := w.f (j := i) (by omega) (by omega)
    have hc : ¬ (iz (vF V : Int) ≤ iz (i : Int)) := by rw [iz_le (by omega) (by omega) (by omega) (by omega)]; omega
    have go : ∀ h1 : Mem, ∀ v : Int, RepM h1 V → FM SP h h1 → wtd V t (i + 1) = wtd V t i + v → ∃ h', f_X10_isWanted_58 N 71 (iz t) (iz (i : Int)) (iz (wtd V t i)) (iz v) h1 (fun v0 v1 v2 v3 h => f_X10_isWanted_4 N n v0 v1 v2 v3 h) = some (iz (bi (decide (va V 0 t < wtd V t (vF V)))), h') ∧ RepM h' V ∧ FM SP h h' := by
      intro h1 v R1 F1 ev
      obtain ⟨h2, e2, R2, F2⟩ := ih (i + 1) n h1 (by omega) (by omega) R1
      refine ⟨h2, ?_, R2, F1.tr F2⟩
      unfold f_X10_isWanted_58
      rw [iz_add, ← ev, il1, iz_add]
      exact e2
    rw [f_X10_isWanted_4, kmF R, if_neg hc]
    have ew := wtd_s (V := V) (t := t) i
    have e7 : h.2.1 79 i = iz (va V 7 i) := R.2.2.1 7 (by decide) i (by show i < 8; omega)
    rw [kr79 R.1, kl79 R.1 (by omega) (by omega), toN, e7]
    by_cases c7 : va V 7 i = t
    · rw [if_pos c7] at ew
      obtain ⟨h2, e2, R2, F2⟩ := go h 1 R FM.rf ew
      exact ⟨h2, (if_pos (by rw [c7])).trans e2, R2, F2⟩
    · rw [if_neg c7] at ew
      rw [if_neg (iz_ne (by omega) (by omega) (by omega) (by omega) c7), kmC R.1]
      have eh := m_hind (N := N) R w (f := (i : Int)) (t := t) (by omega) ht
      rw [bq eh]
      by_cases c3 : va V 3 t ≤ va V 6 i
      · rw [decide_eq_true c3]
        obtain ⟨h1, e1, R1, F1⟩ := m_worth (N := N) R w hN (f := i) (t := t) (by omega) ht
        obtain ⟨h2, e2, R2, F2⟩ := m_worth (N := N) R1 w hN (f := i) (t := va V 7 i) (by omega) ⟨hwf.2.2.1.1, by omega⟩
        have e7' : h1.2.1 79 i = iz (va V 7 i) := R1.2.2.1 7 (by decide) i (by show i < 8; omega)
        have b1 := worth_bd w (f := i) (t := t) (by omega) ht
        have b2' := worth_bd w (f := i) (t := va V 7 i) (by omega) ⟨hwf.2.2.1.1, by omega⟩
        by_cases c4 : worth V i (va V 7 i) < worth V i t
        · rw [if_pos ⟨c3, c4⟩] at ew
          obtain ⟨h3, e3, R3, F3⟩ := go h2 1 R2 (F1.tr F2) ew
          refine ⟨h3, ?_, R3, F3⟩
          refine (if_pos (by decide)).trans ?_
          rw [kmC R.1, bq e1, kr79 R1.1, kl79 R1.1 (by omega) (by omega), toN, e7', kmC R1.1, bq e2]
          refine (if_neg ?_).trans e3
          rw [il0, lcmp_le (by omega) (by omega) (by omega) (by omega)]; omega
        · rw [if_neg (fun z => c4 z.2)] at ew
          obtain ⟨h3, e3, R3, F3⟩ := go h2 0 R2 (F1.tr F2) ew
          refine ⟨h3, ?_, R3, F3⟩
          refine (if_pos (by decide)).trans ?_
          rw [kmC R.1, bq e1, kr79 R1.1, kl79 R1.1 (by omega) (by omega), toN, e7', kmC R1.1, bq e2]
          refine (if_pos ?_).trans e3
          rw [il0, lcmp_le (by omega) (by omega) (by omega) (by omega)]; omega
      · rw [decide_eq_false c3]
        rw [if_neg (fun z => c3 z.1)] at ew
        obtain ⟨h3, e3, R3, F3⟩ := go h 0 R FM.rf ew
        exact ⟨h3, (if_neg (by decide)).trans e3, R3, F3⟩
theorem m_isWanted {h : Mem} (R : RepM h V) (w : WF V) (hN : 200 ≤ N) {t : Nat} (ht : t < 4) : ∃ h', f_X10_isWanted N 71 (iz (t : Int)) h = some (iz (bi (soughtP V t)), h') ∧ RepM h' V ∧ FM SP h h' := by
  have hF := w.F
  exact m_isWanted_4 w hN (t := (t : Int)) (by omega) (vF V) 0 N h (by omega) (by omega) R
end
