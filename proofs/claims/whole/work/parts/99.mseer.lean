section
variable {V : Vw} {N : Nat}
theorem m_vote_12 (w : WF V) (hN : 200 ≤ N) {t : Nat} (ht : t < 4) (k2 : Nat → Int32 → Mem → Option (Int32 × Mem)) : ∀ (d i n : Nat) (h : Mem), i + d = 3 → d < n → RepM h V → ∃ h', (f_X10_voteBreak_12 N n 71 (iz t) (iz (i : Int)) h k2 = match fs (voteP V t) i d with
    | some g => some (iz (100 * t + g), h')
    | none => k2 71 (iz (t + 1)) h') ∧ RepM h' V ∧ FM SV h h' := by
  intro d
  induction d with
  | zero =>
    intro i n h hi hn R
    obtain ⟨n, rfl⟩ : ∃ k, n = k + 1 := ⟨n - 1, by omega⟩
    rw [f_X10_voteBreak_12]
    obtain rfl : i = 3 := by omega
    refine ⟨h, ?_, R, FM.rf⟩
    simp (disch := omega) only [il0, il1, il2, il3, il4, il5, il6, il7, il8, il9, il10, il11, il12, il13, il14, il15, il16, il17, il18, il19, il20, il21, il22, il23, il24, il25, il26, il27, il28, il29, il30, il31, il32, il33, il36, il38, il39, il40, il41, il48, il50, il51, il57, il59, il60, il61, il62, il63, il70, il96, il99, il100, il101, il102, il103, il104, il105, il106, il107, il108, il109, il110, il111, il112, il115, il116, il120, il121, il124, il200, il240, il255, il288, il360, il420, il999, il1000, il114292, il152755, il402789, il435589, il463922, il533611, il631470, nc1, nc2, nc3, nc4, nc5, nc6, nc7, nc8, nc9, nc12, nc16, nc20, nc21, nc40, nc60, nc120, nc200, Int.le_refl, iz_le, ↓reduceIte, iz_add]
    rfl
  | succ d ih =>
    intro i n h hi hn R
    obtain ⟨n, rfl⟩ : ∃ k, n = k + 1 := ⟨n - 1, by omega⟩
    rw [f_X10_voteBreak_12]
    have hc : ¬ ((3 : Int) ≤ i) := by omega
    obtain ⟨h1, e1, R1, F1⟩ := m_choice R w hN (t := t) (g := i) (by omega) (by omega)
    have hcb := choice_bd (V := V) (t := t) (g := i)
    have hl := w.l (j := t * 3 + i) (by omega) (by omega)
    rw [fs]
    by_cases c : choice V t i = va V 1 (t * 3 + i)
    · have hs : ¬ (voteP V t i = true) := by unfold voteP; rw [decide_eq_false (fun z => z c)]; simp
      obtain ⟨h', e', R', F'⟩ := ih (i + 1) n h1 (by omega) (by omega) R1
      refine ⟨h', ?_, R', F1.tr F'⟩
      rw [if_neg hs]
      simp (disch := omega) only [il3, iz_le, hc, ↓reduceIte, ↓kmC R.1, ↓bq e1, ↓kr73 R1.1]
      rw [show iz 3 = (3 : Int32) from rfl, kx1m R1 (by omega) (by omega)]
      refine (if_pos (by rw [c])).trans ?_
      rw [il1, iz_add]
      exact e'
    · have hs : voteP V t i = true := by unfold voteP; rw [decide_eq_true c]
      refine ⟨h1, ?_, R1, F1⟩
      rw [if_pos hs]
      simp (disch := omega) only [il3, iz_le, hc, ↓reduceIte, ↓kmC R.1, ↓bq e1, ↓kr73 R1.1]
      rw [show iz 3 = (3 : Int32) from rfl, kx1m R1 (by omega) (by omega)]
      refine (if_neg (by rw [iz_eq (by omega) (by omega) (by omega) (by omega)]; exact c)).trans ?_
      rw [il100, iz_mul, iz_add]
theorem m_vote_2 (w : WF V) (hN : 200 ≤ N) : ∀ (d i n : Nat) (h : Mem), i + d = vT V → d < n → RepM h V → ∃ h', f_X10_voteBreak_2 N n 71 (iz (i : Int)) h = some (iz (fs2 (voteP V) (fun i => i) 3 i d), h') ∧ RepM h' V ∧ FM SV h h' := by
  intro d
  have hT := w.T
  induction d with
  | zero =>
    intro i n h hi hn R
    obtain ⟨n, rfl⟩ : ∃ k, n = k + 1 := ⟨n - 1, by omega⟩
    rw [f_X10_voteBreak_2]
    obtain rfl : i = vT V := by omega
    refine ⟨h, ?_, R, FM.rf⟩
    simp (disch := omega) only [↓kmC R.1, ↓kmT R, ↓kmF R, ↓kmM R, ↓kmD R, ↓kmP R, ↓kr72 R.1, ↓kr73 R.1, ↓kr74 R.1, ↓kr75 R.1, ↓kr76 R.1, ↓kr77 R.1, ↓kr78 R.1, ↓kr79 R.1, ↓kr80 R.1, ↓kr81 R.1, ↓kr82 R.1, ↓kr83 R.1, ↓kr84 R.1, ↓kr85 R.1, ↓kr86 R.1, ↓kr87 R.1, ↓kr88 R.1, ↓kr89 R.1, ↓kr90 R.1, ↓kr91 R.1, ↓kr92 R.1, ↓kr93 R.1, ↓kr94 R.1, ↓kr95 R.1, ↓kr96 R.1, ↓kr97 R.1, ↓kr98 R.1, ↓kr99 R.1, ↓kr100 R.1, ↓kr101 R.1, ↓kr102 R.1, ↓kr103 R.1, ↓kr104 R.1, ↓kr105 R.1, ↓kr106 R.1, ↓kr107 R.1, ↓kr108 R.1, ↓kr109 R.1, ↓kr110 R.1, ↓kx0 R, ↓kx1 R, ↓kx2 R, ↓kx3 R, ↓kx4 R, ↓kx5 R, ↓kx6 R, ↓kx7 R, ↓kx8 R, ↓kx9 R, ↓kx10 R, ↓kx11 R, ↓kx1m R, ↓kx9m R, ↓kx10m R, ↓reduceIte, if_true, if_false, Option.bind_some, b2_some, il0, il1, il2, il3, il4, il5, il6, il7, il8, il9, il10, il11, il12, il13, il14, il15, il16, il17, il18, il19, il20, il21, il22, il23, il24, il25, il26, il27, il28, il29, il30, il31, il32, il33, il36, il38, il39, il40, il41, il48, il50, il51, il57, il59, il60, il61, il62, il63, il70, il96, il99, il100, il101, il102, il103, il104, il105, il106, il107, il108, il109, il110, il111, il112, il115, il116, il120, il121, il124, il200, il240, il255, il288, il360, il420, il999, il1000, il114292, il152755, il402789, il435589, il463922, il533611, il631470, iz_add, iz_sub, iz_mul, iz_neg, iz_le, iz_lt, iz_eq, Int.le_refl]
    rfl
  | succ d ih =>
    intro i n h hi hn R
    obtain ⟨n, rfl⟩ : ∃ k, n = k + 1 := ⟨n - 1, by omega⟩
    rw [f_X10_voteBreak_2]
    have hc : ¬ ((vT V : Int) ≤ i) := by omega
    obtain ⟨h2, e2, R2, F2⟩ := m_vote_12 (N := N) w hN (t := i) (by omega) (fun v0 v1 h => f_X10_voteBreak_2 N n v0 v1 h) 3 0 N h (by omega) (by omega) R
    rw [fs2]
    cases hfs : fs (voteP V i) 0 3 with
    | some t =>
      rw [hfs] at e2
      refine ⟨h2, ?_, R2, F2⟩
      simp (disch := omega) only [↓kmC R.1, ↓kmT R, ↓kmF R, ↓kmM R, ↓kmD R, ↓kmP R, ↓kr72 R.1, ↓kr73 R.1, ↓kr74 R.1, ↓kr75 R.1, ↓kr76 R.1, ↓kr77 R.1, ↓kr78 R.1, ↓kr79 R.1, ↓kr80 R.1, ↓kr81 R.1, ↓kr82 R.1, ↓kr83 R.1, ↓kr84 R.1, ↓kr85 R.1, ↓kr86 R.1, ↓kr87 R.1, ↓kr88 R.1, ↓kr89 R.1, ↓kr90 R.1, ↓kr91 R.1, ↓kr92 R.1, ↓kr93 R.1, ↓kr94 R.1, ↓kr95 R.1, ↓kr96 R.1, ↓kr97 R.1, ↓kr98 R.1, ↓kr99 R.1, ↓kr100 R.1, ↓kr101 R.1, ↓kr102 R.1, ↓kr103 R.1, ↓kr104 R.1, ↓kr105 R.1, ↓kr106 R.1, ↓kr107 R.1, ↓kr108 R.1, ↓kr109 R.1, ↓kr110 R.1, ↓kx0 R, ↓kx1 R, ↓kx2 R, ↓kx3 R, ↓kx4 R, ↓kx5 R, ↓kx6 R, ↓kx7 R, ↓kx8 R, ↓kx9 R, ↓kx10 R, ↓kx11 R, ↓kx1m R, ↓kx9m R, ↓kx10m R, ↓reduceIte, if_true, if_false, Option.bind_some, b2_some, il0, il1, il2, il3, il4, il5, il6, il7, il8, il9, il10, il11, il12, il13, il14, il15, il16, il17, il18, il19, il20, il21, il22, il23, il24, il25, il26, il27, il28, il29, il30, il31, il32, il33, il36, il38, il39, il40, il41, il48, il50, il51, il57, il59, il60, il61, il62, il63, il70, il96, il99, il100, il101, il102, il103, il104, il105, il106, il107, il108, il109, il110, il111, il112, il115, il116, il120, il121, il124, il200, il240, il255, il288, il360, il420, il999, il1000, il114292, il152755, il402789, il435589, il463922, il533611, il631470, iz_add, iz_sub, iz_mul, iz_neg, iz_le, iz_lt, iz_eq, hc]
      exact e2
    | none =>
      rw [hfs] at e2
      obtain ⟨h', e', R', F'⟩ := ih (i + 1) n h2 (by omega) (by omega) R2
      refine ⟨h', ?_, R', F2.tr F'⟩
      simp (disch := omega) only [↓kmC R.1, ↓kmT R, ↓kmF R, ↓kmM R, ↓kmD R, ↓kmP R, ↓kr72 R.1, ↓kr73 R.1, ↓kr74 R.1, ↓kr75 R.1, ↓kr76 R.1, ↓kr77 R.1, ↓kr78 R.1, ↓kr79 R.1, ↓kr80 R.1, ↓kr81 R.1, ↓kr82 R.1, ↓kr83 R.1, ↓kr84 R.1, ↓kr85 R.1, ↓kr86 R.1, ↓kr87 R.1, ↓kr88 R.1, ↓kr89 R.1, ↓kr90 R.1, ↓kr91 R.1, ↓kr92 R.1, ↓kr93 R.1, ↓kr94 R.1, ↓kr95 R.1, ↓kr96 R.1, ↓kr97 R.1, ↓kr98 R.1, ↓kr99 R.1, ↓kr100 R.1, ↓kr101 R.1, ↓kr102 R.1, ↓kr103 R.1, ↓kr104 R.1, ↓kr105 R.1, ↓kr106 R.1, ↓kr107 R.1, ↓kr108 R.1, ↓kr109 R.1, ↓kr110 R.1, ↓kx0 R, ↓kx1 R, ↓kx2 R, ↓kx3 R, ↓kx4 R, ↓kx5 R, ↓kx6 R, ↓kx7 R, ↓kx8 R, ↓kx9 R, ↓kx10 R, ↓kx11 R, ↓kx1m R, ↓kx9m R, ↓kx10m R, ↓reduceIte, if_true, if_false, Option.bind_some, b2_some, il0, il1, il2, il3, il4, il5, il6, il7, il8, il9, il10, il11, il12, il13, il14, il15, il16, il17, il18, il19, il20, il21, il22, il23, il24, il25, il26, il27, il28, il29, il30, il31, il32, il33, il36, il38, il39, il40, il41, il48, il50, il51, il57, il59, il60, il61, il62, il63, il70, il96, il99, il100, il101, il102, il103, il104, il105, il106, il107, il108, il109, il110, il111, il112, il115, il116, il120, il121, il124, il200, il240, il255, il288, il360, il420, il999, il1000, il114292, il152755, il402789, il435589, il463922, il533611, il631470, iz_add, iz_sub, iz_mul, iz_neg, iz_le, iz_lt, iz_eq, hc]
      exact e2.trans e'
theorem m_vote {h : Mem} (R : RepM h V) (w : WF V) (hN : 200 ≤ N) : ∃ h', f_X10_voteBreak N 71 h = some (iz (voteS V), h') ∧ RepM h' V ∧ FM SV h h' := by
  have hT := w.T
  exact m_vote_2 w hN (vT V) 0 N h (by omega) (by omega) R
/-- the levels kept of a town -/
theorem m_kept {f t : Int} {W : Vw} (w : WF W) (ht : 0 ≤ t ∧ t < 4) {lw : Int64} {v4 v6 : Int32} (k33 : Nat → Int32 → Int64 → Int32 → Int32 → Mem → Option (Int32 × Mem)) : ∀ (d i n : Nat) (h : Mem), i + d = 3 → d < n → RepM h W → (∀ j : Nat, j < i → h.2.1 94 j = iz (va W 1 (t * 3 + j))) → ∃ row, f_X10_seerBreak_58 N n 71 (iz f) lw v4 (iz t) (iz (i : Int)) h k33 = f_X10_seerBreak_58 N (n - d) 71 (iz f) lw v4 (iz t) (iz ((3 : Nat) : Int)) (wr h 94 row) k33 ∧ ∀ j : Nat, j < 3 → row j = iz (va W 1 (t * 3 + j)) := by
  intro d
  induction d with
  | zero =>
    intro i n h hi hn R hr
    obtain rfl : i = 3 := by omega
    exact ⟨h.2.1 94, by rw [wr_id rfl]; rfl, hr⟩
  | succ d ih =>
    intro i n h hi hn R hr
    obtain ⟨n, rfl⟩ : ∃ k, n = k + 1 := ⟨n - 1, by omega⟩
    have hc : ¬ ((3 : Int) ≤ i) := by omega
    obtain ⟨row, e, hrow⟩ := ih (i + 1) n (wr h 94 (upd (h.2.1 94) i (iz (va W 1 (t * 3 + i))))) (by omega) (by omega) (R.wr_ ⟨by decide, by decide⟩) (fun j hj => by
      rw [wr_eq, upd_at]
      split
      · rename_i q; rw [q]
      · exact hr j (by omega))
    rw [wr_wr] at e
    refine ⟨row, ?_, hrow⟩
    rw [show n + 1 - (d + 1) = n - d by omega, ← e, f_X10_seerBreak_58]
    simp (disch := omega) only [il3, iz_le, hc, ↓reduceIte, ↓kr94 R.1, ↓kr73 R.1]
    rw [show iz 3 = (3 : Int32) from rfl, kx1m R (by omega) (by omega), ks94 R.1 (by omega) (by omega), toN, il1, iz_add]
    rfl
/-- and put back -/
theorem m_back {f t : Int} {W W' : Vw} (ht : 0 ≤ t ∧ t < 4) {lw : Int64} {v4 v6 v7 : Int32} (hW : vT W = vT W' ∧ vF W = vF W' ∧ vs W = vs W' ∧ (∀ k, k ≠ 1 → va W k = va W' k)) (ho : ∀ j : Int, ¬ (t * 3 ≤ j ∧ j < t * 3 + 3) → va W 1 j = va W' 1 j) (k33 : Nat → Int32 → Int64 → Int32 → Int32 → Mem → Option (Int32 × Mem)) : ∀ (d i n : Nat) (h : Mem) (U : Vw), i + d = 3 → d < n → RepM h U → vT U = vT W' ∧ vF U = vF W' ∧ vs U = vs W' ∧ (∀ k, k ≠ 1 → va U k = va W' k) → (∀ j : Int, ¬ (t * 3 + i ≤ j ∧ j < t * 3 + 3) → va U 1 j = va W' 1 j) → (∀ j : Nat, j < 3 → h.2.1 94 j = iz (va W' 1 (t * 3 + j))) → ∃ h', f_X10_seerBreak_135 N n 71 (iz f) lw v4 (iz t) v6 v7 (iz (i : Int)) h k33 = f_X10_seerBreak_135 N (n - d) 71 (iz f) lw v4 (iz t) v6 v7 (iz ((3 : Nat) : Int)) h' k33 ∧ RepM h' W' ∧ FM SV h h' := by
  intro d
  induction d with
  | zero =>
    intro i n h U hi hn R hU hj hr
    obtain rfl : i = 3 := by omega
    have eU : U = W' := by
      obtain ⟨u1, u2, u3, u4⟩ := U
      obtain ⟨w1, w2, w3, w4⟩ := W'
      obtain ⟨a1, a2, a3, a4⟩ := hU
      have e3 : u3 = w3 := by
        funext k
        by_cases hk : k = 1
        · subst hk
          funext j
          exact hj j (by omega)
        · exact a4 k hk
      have e1 : u1 = w1 := a1
      have e2 : u2 = w2 := a2
      have e4 : u4 = w4 := a3
      rw [e1, e2, e3, e4]
    rw [eU] at R
    exact ⟨h, rfl, R, FM.rf⟩
  | succ d ih =>
    intro i n h U hi hn R hU hj hr
    obtain ⟨n, rfl⟩ : ∃ k, n = k + 1 := ⟨n - 1, by omega⟩
    have hc : ¬ ((3 : Int) ≤ i) := by omega
    have R1 := R.set (k := 1) (j := t * 3 + i) (x := va W' 1 (t * 3 + i)) (by omega) (by omega)
    obtain ⟨h', e, R', F'⟩ := ih (i + 1) n _ _ (by omega) (by omega) R1 ⟨hU.1, hU.2.1, hU.2.2.1, fun k hk => by rw [vset_ne hk]; exact hU.2.2.2 k hk⟩ (fun j hj' => by
      rw [vset_at]
      split
      · rename_i q; rw [q.2]
      · rename_i q
        exact hj j (by omega)) (fun j hj' => by rw [wr_ne (by decide)]; exact hr j hj')
    refine ⟨h', ?_, R', (FM.wr_ (by decide) (by decide)).tr F'⟩
    rw [show n + 1 - (d + 1) = n - d by omega, ← e, f_X10_seerBreak_135]
    have hri := hr i (by omega)
    simp (disch := omega) only [il3, iz_le, hc, ↓reduceIte, ↓kr94 R.1, ↓kr73 R.1, ↓kl94 R.1, toN, hri]
    rw [show iz 3 = (3 : Int32) from rfl, ks73m R (by omega) (by omega), il1, iz_add]
    rfl
theorem m_seer_33 (w : WF V) (hN : 200 ≤ N) {f : Nat} (hf : f < vF V) (k2 : Nat → Int32 → Mem → Option (Int32 × Mem)) : ∀ (d i n : Nat) (h : Mem), i + d = vT V → d < n → RepM h V → ∃ h', (f_X10_seerBreak_33 N n 71 (iz f) (lz (worth V f (va V 7 f))) (iz (va V 7 f)) (iz (i : Int)) h k2 = match fs (seerP V f) i d with
    | some t => some (iz (100 * f + t), h')
    | none => k2 71 (iz (f + 1)) h') ∧ RepM h' V ∧ FM SR h h' := by
  intro d
  have hF := w.F
  have hT := w.T
  have hwf := w.f (j := f) (by omega) (by omega)
  have hwi := w.i (j := f) (by omega) (by omega)
  have hw0 := worth_bd w (f := f) (t := va V 7 f) (by omega) (by omega)
  have h3 : ¬ ((1 : Int) = 0) := by decide
  induction d with
  | zero =>
    intro i n h hi hn R
    obtain ⟨n, rfl⟩ : ∃ k, n = k + 1 := ⟨n - 1, by omega⟩
    rw [f_X10_seerBreak_33]
    obtain rfl : i = vT V := by omega
    refine ⟨h, ?_, R, FM.rf⟩
    simp (disch := omega) only [↓kmC R.1, ↓kmT R, ↓kmF R, ↓kmM R, ↓kmD R, ↓kmP R, ↓kr72 R.1, ↓kr73 R.1, ↓kr74 R.1, ↓kr75 R.1, ↓kr76 R.1, ↓kr77 R.1, ↓kr78 R.1, ↓kr79 R.1, ↓kr80 R.1, ↓kr81 R.1, ↓kr82 R.1, ↓kr83 R.1, ↓kr84 R.1, ↓kr85 R.1, ↓kr86 R.1, ↓kr87 R.1, ↓kr88 R.1, ↓kr89 R.1, ↓kr90 R.1, ↓kr91 R.1, ↓kr92 R.1, ↓kr93 R.1, ↓kr94 R.1, ↓kr95 R.1, ↓kr96 R.1, ↓kr97 R.1, ↓kr98 R.1, ↓kr99 R.1, ↓kr100 R.1, ↓kr101 R.1, ↓kr102 R.1, ↓kr103 R.1, ↓kr104 R.1, ↓kr105 R.1, ↓kr106 R.1, ↓kr107 R.1, ↓kr108 R.1, ↓kr109 R.1, ↓kr110 R.1, ↓kx0 R, ↓kx1 R, ↓kx2 R, ↓kx3 R, ↓kx4 R, ↓kx5 R, ↓kx6 R, ↓kx7 R, ↓kx8 R, ↓kx9 R, ↓kx10 R, ↓kx11 R, ↓kx1m R, ↓kx9m R, ↓kx10m R, ↓reduceIte, if_true, if_false, Option.bind_some, b2_some, il0, il1, il2, il3, il4, il5, il6, il7, il8, il9, il10, il11, il12, il13, il14, il15, il16, il17, il18, il19, il20, il21, il22, il23, il24, il25, il26, il27, il28, il29, il30, il31, il32, il33, il36, il38, il39, il40, il41, il48, il50, il51, il57, il59, il60, il61, il62, il63, il70, il96, il99, il100, il101, il102, il103, il104, il105, il106, il107, il108, il109, il110, il111, il112, il115, il116, il120, il121, il124, il200, il240, il255, il288, il360, il420, il999, il1000, il114292, il152755, il402789, il435589, il463922, il533611, il631470, iz_add, iz_sub, iz_mul, iz_neg, iz_le, iz_lt, iz_eq, Int.le_refl]
    rfl
  | succ d ih =>
    intro i n h hi hn R
    obtain ⟨n, rfl⟩ : ∃ k, n = k + 1 := ⟨n - 1, by omega⟩
    rw [f_X10_seerBreak_33]
    have hc : ¬ ((vT V : Int) ≤ i) := by omega
    have hg := m_can R w hN (f := f) (t := i) (by omega) (by omega)
    rw [fs]
    cases hb : canGoB V f i with
    | false =>
      rw [hb] at hg
      have hs : ¬ (seerP V f i = true) := by unfold seerP; rw [hb]; simp
      obtain ⟨h', e', R', F'⟩ := ih (i + 1) n h (by omega) (by omega) R
      refine ⟨h', ?_, R', F'⟩
      rw [if_neg hs]
      simp (disch := omega) only [↓kmC R.1, ↓kmT R, ↓kmF R, ↓kmM R, ↓kmD R, ↓kmP R, ↓kr72 R.1, ↓kr73 R.1, ↓kr74 R.1, ↓kr75 R.1, ↓kr76 R.1, ↓kr77 R.1, ↓kr78 R.1, ↓kr79 R.1, ↓kr80 R.1, ↓kr81 R.1, ↓kr82 R.1, ↓kr83 R.1, ↓kr84 R.1, ↓kr85 R.1, ↓kr86 R.1, ↓kr87 R.1, ↓kr88 R.1, ↓kr89 R.1, ↓kr90 R.1, ↓kr91 R.1, ↓kr92 R.1, ↓kr93 R.1, ↓kr94 R.1, ↓kr95 R.1, ↓kr96 R.1, ↓kr97 R.1, ↓kr98 R.1, ↓kr99 R.1, ↓kr100 R.1, ↓kr101 R.1, ↓kr102 R.1, ↓kr103 R.1, ↓kr104 R.1, ↓kr105 R.1, ↓kr106 R.1, ↓kr107 R.1, ↓kr108 R.1, ↓kr109 R.1, ↓kr110 R.1, ↓kx0 R, ↓kx1 R, ↓kx2 R, ↓kx3 R, ↓kx4 R, ↓kx5 R, ↓kx6 R, ↓kx7 R, ↓kx8 R, ↓kx9 R, ↓kx10 R, ↓kx11 R, ↓kx1m R, ↓kx9m R, ↓kx10m R, ↓reduceIte, if_true, if_false, Option.bind_some, b2_some, il0, il1, il2, il3, il4, il5, il6, il7, il8, il9, il10, il11, il12, il13, il14, il15, il16, il17, il18, il19, il20, il21, il22, il23, il24, il25, il26, il27, il28, il29, il30, il31, il32, il33, il36, il38, il39, il40, il41, il48, il50, il51, il57, il59, il60, il61, il62, il63, il70, il96, il99, il100, il101, il102, il103, il104, il105, il106, il107, il108, il109, il110, il111, il112, il115, il116, il120, il121, il124, il200, il240, il255, il288, il360, il420, il999, il1000, il114292, il152755, il402789, il435589, il463922, il533611, il631470, iz_add, iz_sub, iz_mul, iz_neg, iz_le, iz_lt, iz_eq, hc, ↓bq hg, bi_f]
      exact e'
    | true =>
      rw [hb] at hg
      -- keep, go, choose, see
      obtain ⟨row, ek, hrow⟩ := m_kept (N := N) (f := f) (t := i) (lw := lz (worth V f (va V 7 f))) (v4 := iz (va V 7 f)) (v6 := 0) w (by omega) (fun v0 v1 v2 v4 v5 h => f_X10_seerBreak_33 N n v0 v1 v2 v4 v5 h k2) 3 0 N h (by omega) (by omega) R (fun j hj => by omega)
      have R1 : RepM (wr h 94 row) V := R.wr_ ⟨by decide, by decide⟩
      have R2 : RepM (wr (wr h 94 row) 79 (upd ((wr h 94 row).2.1 79) f (iz (i : Int)))) (vset V 7 f i) := R1.set (k := 7) (j := f) (x := i) (by omega) (by omega)
      have w2 := wf_at w (j := f) (x := i) (by omega)
      obtain ⟨h3', e3, R3, F3⟩ := m_chooses (N := N) R2 w2 hN (t := i) (by omega)
      have w3 := vote_wf w2 i 3
      have tf := vote_TF (V := vset V 7 f i) i 3
      have hlv := vote_lv (V := vset V 7 f i) i 3
      obtain ⟨h4, e4, R4, F4⟩ := m_worth R3 w3 hN (f := f) (t := i) (by rw [tf.2.1]; exact hf) (by omega)
      have hw1 := worth_bd w3 (f := f) (t := i) (by omega) (by omega)
      have hvn := voteN_bd (V := vset V 7 f i) i 3
      have R5 : RepM (wr h4 79 (upd (h4.2.1 79) f (iz (va V 7 f)))) (vset (voteV (vset V 7 f i) i 3) 7 f (va V 7 f)) := R4.set (k := 7) (j := f) (x := va V 7 f) (by omega) (by omega)
      have F1 : FM SR h (wr h 94 row) := FM.wr_ (by decide) (by decide)
      have F2 : FM SR (wr h 94 row) (wr (wr h 94 row) 79 (upd ((wr h 94 row).2.1 79) f (iz (i : Int)))) := FM.wr_ (by decide) (by decide)
      have F5 : FM SR h4 (wr h4 79 (upd (h4.2.1 79) f (iz (va V 7 f)))) := FM.wr_ (by decide) (by decide)
      have F15 : FM SR h (wr h4 79 (upd (h4.2.1 79) f (iz (va V 7 f)))) := (((F1.tr F2).tr (F3.mono SV_SR)).tr (F4.mono SP_SR)).tr F5
      have i94 : ∀ j : Nat, j < 3 → (wr h4 79 (upd (h4.2.1 79) f (iz (va V 7 f)))).2.1 94 j = iz (va V 1 (i * 3 + j)) := fun j hj => by
        rw [wr_ne (by decide), F4.2.2.2.1 94 (by decide) (by decide), F3.2.2.2.1 94 (by decide) (by decide), wr_ne (by decide), wr_eq]
        exact hrow j hj
      have eqU : vT (vset (voteV (vset V 7 f i) i 3) 7 f (va V 7 f)) = vT V ∧ vF (vset (voteV (vset V 7 f i) i 3) 7 f (va V 7 f)) = vF V ∧ vs (vset (voteV (vset V 7 f i) i 3) 7 f (va V 7 f)) = vs V ∧ (∀ k, k ≠ 1 → va (vset (voteV (vset V 7 f i) i 3) 7 f (va V 7 f)) k = va V k) := by
        refine ⟨by rw [vset_T, tf.1]; rfl, by rw [vset_F, tf.2.1]; rfl, by rw [vset_s, tf.2.2.1]; rfl, fun k hk => ?_⟩
        funext j
        rw [vset_at, tf.2.2.2 k hk, vset_at]
        by_cases hk7 : k = 7
        · by_cases hj : j = f
          · rw [if_pos ⟨hk7, hj⟩, hk7, hj]
          · rw [if_neg (fun z => hj z.2), if_neg (fun z => hj z.2)]
        · rw [if_neg (fun z => hk7 z.1), if_neg (fun z => hk7 z.1)]
      have eqL : ∀ j : Int, ¬ ((i : Int) * 3 + ((0 : Nat) : Int) ≤ j ∧ j < (i : Int) * 3 + 3) → va (vset (voteV (vset V 7 f i) i 3) 7 f (va V 7 f)) 1 j = va V 1 j := fun j hj => by
        rw [vset_ne (by decide), hlv j (by omega), vset_ne (by decide)]
      have pre : ∀ r : Int32, f_X10_seerBreak_33 N (n + 1) 71 (iz f) (lz (worth V f (va V 7 f))) (iz (va V 7 f)) (iz (i : Int)) h k2 = (if lg_cmp (lz (worth (voteV (vset V 7 f i) i 3) f i)) (lz (worth V f (va V 7 f))) ≤ iz 0 then f_X10_seerBreak_122 N 71 (iz f) (lz (worth V f (va V 7 f))) (iz (va V 7 f)) (iz (i : Int)) (iz (voteN (vset V 7 f i) i 3)) (iz 0) h4 (fun v0 v1 v2 v4 v5 h => f_X10_seerBreak_33 N n v0 v1 v2 v4 v5 h k2) else f_X10_seerBreak_122 N 71 (iz f) (lz (worth V f (va V 7 f))) (iz (va V 7 f)) (iz (i : Int)) (iz (voteN (vset V 7 f i) i 3)) (iz 1) h4 (fun v0 v1 v2 v4 v5 h => f_X10_seerBreak_33 N n v0 v1 v2 v4 v5 h k2)) := by
        intro _
        rw [f_X10_seerBreak_33]
        simp (disch := omega) only [↓kmC R.1, ↓kmT R, ↓kmF R, ↓kmM R, ↓kmD R, ↓kmP R, ↓kr72 R.1, ↓kr73 R.1, ↓kr74 R.1, ↓kr75 R.1, ↓kr76 R.1, ↓kr77 R.1, ↓kr78 R.1, ↓kr79 R.1, ↓kr80 R.1, ↓kr81 R.1, ↓kr82 R.1, ↓kr83 R.1, ↓kr84 R.1, ↓kr85 R.1, ↓kr86 R.1, ↓kr87 R.1, ↓kr88 R.1, ↓kr89 R.1, ↓kr90 R.1, ↓kr91 R.1, ↓kr92 R.1, ↓kr93 R.1, ↓kr94 R.1, ↓kr95 R.1, ↓kr96 R.1, ↓kr97 R.1, ↓kr98 R.1, ↓kr99 R.1, ↓kr100 R.1, ↓kr101 R.1, ↓kr102 R.1, ↓kr103 R.1, ↓kr104 R.1, ↓kr105 R.1, ↓kr106 R.1, ↓kr107 R.1, ↓kr108 R.1, ↓kr109 R.1, ↓kr110 R.1, ↓kx0 R, ↓kx1 R, ↓kx2 R, ↓kx3 R, ↓kx4 R, ↓kx5 R, ↓kx6 R, ↓kx7 R, ↓kx8 R, ↓kx9 R, ↓kx10 R, ↓kx11 R, ↓kx1m R, ↓kx9m R, ↓kx10m R, ↓reduceIte, if_true, if_false, Option.bind_some, b2_some, il0, il1, il2, il3, il4, il5, il6, il7, il8, il9, il10, il11, il12, il13, il14, il15, il16, il17, il18, il19, il20, il21, il22, il23, il24, il25, il26, il27, il28, il29, il30, il31, il32, il33, il36, il38, il39, il40, il41, il48, il50, il51, il57, il59, il60, il61, il62, il63, il70, il96, il99, il100, il101, il102, il103, il104, il105, il106, il107, il108, il109, il110, il111, il112, il115, il116, il120, il121, il124, il200, il240, il255, il288, il360, il420, il999, il1000, il114292, il152755, il402789, il435589, il463922, il533611, il631470, iz_add, iz_sub, iz_mul, iz_neg, iz_le, iz_lt, iz_eq, hc, ↓bq hg, bi_t, h3]
        refine ek.trans ?_
        obtain ⟨m0, hm0⟩ : ∃ k, N - 3 = k + 1 := ⟨N - 4, by omega⟩
        rw [hm0, f_X10_seerBreak_58]
        refine (if_pos (by decide)).trans ?_
        rw [kr79 R1.1, ks79 R1.1 (by omega) (by omega), toN, kmC R2.1, bq e3, kmC R3.1, bq e4]
        rfl
      have b122 : ∀ q : Int, (q = 0 ∨ q = 1) → ∃ h', f_X10_seerBreak_122 N 71 (iz f) (lz (worth V f (va V 7 f))) (iz (va V 7 f)) (iz (i : Int)) (iz (voteN (vset V 7 f i) i 3)) (iz q) h4 (fun v0 v1 v2 v4 v5 h => f_X10_seerBreak_33 N n v0 v1 v2 v4 v5 h k2) = (if q = 0 then f_X10_seerBreak_33 N n 71 (iz f) (lz (worth V f (va V 7 f))) (iz (va V 7 f)) (iz ((i + 1 : Nat) : Int)) h' k2 else some (iz (100 * f + i), h')) ∧ RepM h' V ∧ FM SR h h' := by
        intro q hq
        obtain ⟨h', eb, R', F'⟩ := m_back (N := N) (f := f) (t := i) (lw := lz (worth V f (va V 7 f))) (v4 := iz (va V 7 f)) (v6 := iz (voteN (vset V 7 f i) i 3)) (v7 := iz q) (by omega) (W := V) (W' := V) ⟨rfl, rfl, rfl, fun _ _ => rfl⟩ (fun _ _ => rfl) (fun v0 v1 v2 v4 v5 h => f_X10_seerBreak_33 N n v0 v1 v2 v4 v5 h k2) 3 0 N _ _ (by omega) (by omega) R5 eqU eqL i94
        refine ⟨h', ?_, R', F15.tr (F'.mono SV_SR)⟩
        unfold f_X10_seerBreak_122
        rw [kr79 R4.1, ks79 R4.1 (by omega) (by omega), toN]
        refine eb.trans ?_
        obtain ⟨m0, hm0⟩ : ∃ k, N - 3 = k + 1 := ⟨N - 4, by omega⟩
        rw [hm0, f_X10_seerBreak_135]
        refine (if_pos (by decide)).trans ?_
        have c6 : ¬ (voteN (vset V 7 f i) i 3 < 0) := by omega
        rcases hq with rfl | rfl
        · simp (disch := omega) only [il0, il1, il2, il3, il4, il5, il6, il7, il8, il9, il10, il11, il12, il13, il14, il15, il16, il17, il18, il19, il20, il21, il22, il23, il24, il25, il26, il27, il28, il29, il30, il31, il32, il33, il36, il38, il39, il40, il41, il48, il50, il51, il57, il59, il60, il61, il62, il63, il70, il96, il99, il100, il101, il102, il103, il104, il105, il106, il107, il108, il109, il110, il111, il112, il115, il116, il120, il121, il124, il200, il240, il255, il288, il360, il420, il999, il1000, il114292, il152755, il402789, il435589, il463922, il533611, il631470, ↓reduceIte, iz_add]
          rfl
        · simp (disch := omega) only [il0, il1, il2, il3, il4, il5, il6, il7, il8, il9, il10, il11, il12, il13, il14, il15, il16, il17, il18, il19, il20, il21, il22, il23, il24, il25, il26, il27, il28, il29, il30, il31, il32, il33, il36, il38, il39, il40, il41, il48, il50, il51, il57, il59, il60, il61, il62, il63, il70, il96, il99, il100, il101, il102, il103, il104, il105, il106, il107, il108, il109, il110, il111, il112, il115, il116, il120, il121, il124, il200, il240, il255, il288, il360, il420, il999, il1000, il114292, il152755, il402789, il435589, il463922, il533611, il631470, iz_eq, h3, ↓reduceIte, iz_lt, c6, iz_mul, iz_add]
      by_cases c : worth (voteV (vset V 7 f i) i 3) f i ≤ worth V f (va V 7 f)
      · have hs : ¬ (seerP V f i = true) := by unfold seerP; rw [decide_eq_false (show ¬ (worth V f (va V 7 f) < worth (voteV (vset V 7 f i) i 3) f i) by omega)]; simp
        obtain ⟨h5, e5, R5', F5'⟩ := b122 0 (Or.inl rfl)
        obtain ⟨h', e', R', F'⟩ := ih (i + 1) n h5 (by omega) (by omega) R5'
        refine ⟨h', ?_, R', F5'.tr F'⟩
        rw [if_neg hs, ← f_X10_seerBreak_33, pre 0]
        refine (if_pos (by rw [lcmp_le (by omega) (by omega) (by omega) (by omega)]; exact c)).trans ?_
        rw [e5]
        exact e'
      · have hs : seerP V f i = true := by unfold seerP; rw [hb, decide_eq_true (show worth V f (va V 7 f) < worth (voteV (vset V 7 f i) i 3) f i by omega)]; rfl
        obtain ⟨h5, e5, R5', F5'⟩ := b122 1 (Or.inr rfl)
        refine ⟨h5, ?_, R5', F5'⟩
        rw [if_pos hs, ← f_X10_seerBreak_33, pre 0]
        refine (if_neg (by rw [lcmp_le (by omega) (by omega) (by omega) (by omega)]; exact c)).trans ?_
        rw [e5]
        exact if_neg (by decide)
theorem m_seer_2 (w : WF V) (hN : 200 ≤ N) : ∀ (d i n : Nat) (h : Mem), i + d = vF V → d < n → RepM h V → ∃ h', f_X10_seerBreak_2 N n 71 (iz (i : Int)) h = some (iz (fs2 (seerP V) (fun i => i) (vT V) i d), h') ∧ RepM h' V ∧ FM SR h h' := by
  intro d
  have hF := w.F
  have hT := w.T
  induction d with
  | zero =>
    intro i n h hi hn R
    obtain ⟨n, rfl⟩ : ∃ k, n = k + 1 := ⟨n - 1, by omega⟩
    rw [f_X10_seerBreak_2]
    obtain rfl : i = vF V := by omega
    refine ⟨h, ?_, R, FM.rf⟩
    simp (disch := omega) only [↓kmC R.1, ↓kmT R, ↓kmF R, ↓kmM R, ↓kmD R, ↓kmP R, ↓kr72 R.1, ↓kr73 R.1, ↓kr74 R.1, ↓kr75 R.1, ↓kr76 R.1, ↓kr77 R.1, ↓kr78 R.1, ↓kr79 R.1, ↓kr80 R.1, ↓kr81 R.1, ↓kr82 R.1, ↓kr83 R.1, ↓kr84 R.1, ↓kr85 R.1, ↓kr86 R.1, ↓kr87 R.1, ↓kr88 R.1, ↓kr89 R.1, ↓kr90 R.1, ↓kr91 R.1, ↓kr92 R.1, ↓kr93 R.1, ↓kr94 R.1, ↓kr95 R.1, ↓kr96 R.1, ↓kr97 R.1, ↓kr98 R.1, ↓kr99 R.1, ↓kr100 R.1, ↓kr101 R.1, ↓kr102 R.1, ↓kr103 R.1, ↓kr104 R.1, ↓kr105 R.1, ↓kr106 R.1, ↓kr107 R.1, ↓kr108 R.1, ↓kr109 R.1, ↓kr110 R.1, ↓kx0 R, ↓kx1 R, ↓kx2 R, ↓kx3 R, ↓kx4 R, ↓kx5 R, ↓kx6 R, ↓kx7 R, ↓kx8 R, ↓kx9 R, ↓kx10 R, ↓kx11 R, ↓kx1m R, ↓kx9m R, ↓kx10m R, ↓reduceIte, if_true, if_false, Option.bind_some, b2_some, il0, il1, il2, il3, il4, il5, il6, il7, il8, il9, il10, il11, il12, il13, il14, il15, il16, il17, il18, il19, il20, il21, il22, il23, il24, il25, il26, il27, il28, il29, il30, il31, il32, il33, il36, il38, il39, il40, il41, il48, il50, il51, il57, il59, il60, il61, il62, il63, il70, il96, il99, il100, il101, il102, il103, il104, il105, il106, il107, il108, il109, il110, il111, il112, il115, il116, il120, il121, il124, il200, il240, il255, il288, il360, il420, il999, il1000, il114292, il152755, il402789, il435589, il463922, il533611, il631470, iz_add, iz_sub, iz_mul, iz_neg, iz_le, iz_lt, iz_eq, Int.le_refl]
    rfl
  | succ d ih =>
    intro i n h hi hn R
    obtain ⟨n, rfl⟩ : ∃ k, n = k + 1 := ⟨n - 1, by omega⟩
    rw [f_X10_seerBreak_2]
    have hc : ¬ ((vF V : Int) ≤ i) := by omega
    have hwf := w.f (j := i) (by omega) (by omega)
    have hwi := w.i (j := i) (by omega) (by omega)
    obtain ⟨h1, e1, R1, F1⟩ := m_worth R w hN (f := i) (t := va V 7 i) (by omega) (by omega)
    obtain ⟨h2, e2, R2, F2⟩ := m_seer_33 (N := N) w hN (f := i) (by omega) (fun v0 v1 h => f_X10_seerBreak_2 N n v0 v1 h) (vT V) 0 N h1 (by omega) (by omega) R1
    rw [fs2]
    have F12 := (F1.mono SP_SR).tr F2
    cases hfs : fs (seerP V i) 0 (vT V) with
    | some t =>
      rw [hfs] at e2
      refine ⟨h2, ?_, R2, F12⟩
      simp (disch := omega) only [↓kmC R.1, ↓kmT R, ↓kmF R, ↓kmM R, ↓kmD R, ↓kmP R, ↓kr72 R.1, ↓kr73 R.1, ↓kr74 R.1, ↓kr75 R.1, ↓kr76 R.1, ↓kr77 R.1, ↓kr78 R.1, ↓kr79 R.1, ↓kr80 R.1, ↓kr81 R.1, ↓kr82 R.1, ↓kr83 R.1, ↓kr84 R.1, ↓kr85 R.1, ↓kr86 R.1, ↓kr87 R.1, ↓kr88 R.1, ↓kr89 R.1, ↓kr90 R.1, ↓kr91 R.1, ↓kr92 R.1, ↓kr93 R.1, ↓kr94 R.1, ↓kr95 R.1, ↓kr96 R.1, ↓kr97 R.1, ↓kr98 R.1, ↓kr99 R.1, ↓kr100 R.1, ↓kr101 R.1, ↓kr102 R.1, ↓kr103 R.1, ↓kr104 R.1, ↓kr105 R.1, ↓kr106 R.1, ↓kr107 R.1, ↓kr108 R.1, ↓kr109 R.1, ↓kr110 R.1, ↓kx0 R, ↓kx1 R, ↓kx2 R, ↓kx3 R, ↓kx4 R, ↓kx5 R, ↓kx6 R, ↓kx7 R, ↓kx8 R, ↓kx9 R, ↓kx10 R, ↓kx11 R, ↓kx1m R, ↓kx9m R, ↓kx10m R, ↓reduceIte, if_true, if_false, Option.bind_some, b2_some, il0, il1, il2, il3, il4, il5, il6, il7, il8, il9, il10, il11, il12, il13, il14, il15, il16, il17, il18, il19, il20, il21, il22, il23, il24, il25, il26, il27, il28, il29, il30, il31, il32, il33, il36, il38, il39, il40, il41, il48, il50, il51, il57, il59, il60, il61, il62, il63, il70, il96, il99, il100, il101, il102, il103, il104, il105, il106, il107, il108, il109, il110, il111, il112, il115, il116, il120, il121, il124, il200, il240, il255, il288, il360, il420, il999, il1000, il114292, il152755, il402789, il435589, il463922, il533611, il631470, iz_add, iz_sub, iz_mul, iz_neg, iz_le, iz_lt, iz_eq, hc, ↓bq e1, ↓kmC R1.1, ↓kmT R1, ↓kmF R1, ↓kmM R1, ↓kmD R1, ↓kmP R1, ↓kr72 R1.1, ↓kr73 R1.1, ↓kr74 R1.1, ↓kr75 R1.1, ↓kr76 R1.1, ↓kr77 R1.1, ↓kr78 R1.1, ↓kr79 R1.1, ↓kr80 R1.1, ↓kr81 R1.1, ↓kr82 R1.1, ↓kr83 R1.1, ↓kr84 R1.1, ↓kr85 R1.1, ↓kr86 R1.1, ↓kr87 R1.1, ↓kr88 R1.1, ↓kr89 R1.1, ↓kr90 R1.1, ↓kr91 R1.1, ↓kr92 R1.1, ↓kr93 R1.1, ↓kr94 R1.1, ↓kr95 R1.1, ↓kr96 R1.1, ↓kr97 R1.1, ↓kr98 R1.1, ↓kr99 R1.1, ↓kr100 R1.1, ↓kr101 R1.1, ↓kr102 R1.1, ↓kr103 R1.1, ↓kr104 R1.1, ↓kr105 R1.1, ↓kr106 R1.1, ↓kr107 R1.1, ↓kr108 R1.1, ↓kr109 R1.1, ↓kr110 R1.1, ↓kx0 R1, ↓kx1 R1, ↓kx2 R1, ↓kx3 R1, ↓kx4 R1, ↓kx5 R1, ↓kx6 R1, ↓kx7 R1, ↓kx8 R1, ↓kx9 R1, ↓kx10 R1, ↓kx11 R1, ↓kx1m R1, ↓kx9m R1, ↓kx10m R1, ↓reduceIte]
      exact e2
    | none =>
      rw [hfs] at e2
      obtain ⟨h', e', R', F'⟩ := ih (i + 1) n h2 (by omega) (by omega) R2
      refine ⟨h', ?_, R', F12.tr F'⟩
      simp (disch := omega) only [↓kmC R.1, ↓kmT R, ↓kmF R, ↓kmM R, ↓kmD R, ↓kmP R, ↓kr72 R.1, ↓kr73 R.1, ↓kr74 R.1, ↓kr75 R.1, ↓kr76 R.1, ↓kr77 R.1, ↓kr78 R.1, ↓kr79 R.1, ↓kr80 R.1, ↓kr81 R.1, ↓kr82 R.1, ↓kr83 R.1, ↓kr84 R.1, ↓kr85 R.1, ↓kr86 R.1, ↓kr87 R.1, ↓kr88 R.1, ↓kr89 R.1, ↓kr90 R.1, ↓kr91 R.1, ↓kr92 R.1, ↓kr93 R.1, ↓kr94 R.1, ↓kr95 R.1, ↓kr96 R.1, ↓kr97 R.1, ↓kr98 R.1, ↓kr99 R.1, ↓kr100 R.1, ↓kr101 R.1, ↓kr102 R.1, ↓kr103 R.1, ↓kr104 R.1, ↓kr105 R.1, ↓kr106 R.1, ↓kr107 R.1, ↓kr108 R.1, ↓kr109 R.1, ↓kr110 R.1, ↓kx0 R, ↓kx1 R, ↓kx2 R, ↓kx3 R, ↓kx4 R, ↓kx5 R, ↓kx6 R, ↓kx7 R, ↓kx8 R, ↓kx9 R, ↓kx10 R, ↓kx11 R, ↓kx1m R, ↓kx9m R, ↓kx10m R, ↓reduceIte, if_true, if_false, Option.bind_some, b2_some, il0, il1, il2, il3, il4, il5, il6, il7, il8, il9, il10, il11, il12, il13, il14, il15, il16, il17, il18, il19, il20, il21, il22, il23, il24, il25, il26, il27, il28, il29, il30, il31, il32, il33, il36, il38, il39, il40, il41, il48, il50, il51, il57, il59, il60, il61, il62, il63, il70, il96, il99, il100, il101, il102, il103, il104, il105, il106, il107, il108, il109, il110, il111, il112, il115, il116, il120, il121, il124, il200, il240, il255, il288, il360, il420, il999, il1000, il114292, il152755, il402789, il435589, il463922, il533611, il631470, iz_add, iz_sub, iz_mul, iz_neg, iz_le, iz_lt, iz_eq, hc, ↓bq e1, ↓kmC R1.1, ↓kmT R1, ↓kmF R1, ↓kmM R1, ↓kmD R1, ↓kmP R1, ↓kr72 R1.1, ↓kr73 R1.1, ↓kr74 R1.1, ↓kr75 R1.1, ↓kr76 R1.1, ↓kr77 R1.1, ↓kr78 R1.1, ↓kr79 R1.1, ↓kr80 R1.1, ↓kr81 R1.1, ↓kr82 R1.1, ↓kr83 R1.1, ↓kr84 R1.1, ↓kr85 R1.1, ↓kr86 R1.1, ↓kr87 R1.1, ↓kr88 R1.1, ↓kr89 R1.1, ↓kr90 R1.1, ↓kr91 R1.1, ↓kr92 R1.1, ↓kr93 R1.1, ↓kr94 R1.1, ↓kr95 R1.1, ↓kr96 R1.1, ↓kr97 R1.1, ↓kr98 R1.1, ↓kr99 R1.1, ↓kr100 R1.1, ↓kr101 R1.1, ↓kr102 R1.1, ↓kr103 R1.1, ↓kr104 R1.1, ↓kr105 R1.1, ↓kr106 R1.1, ↓kr107 R1.1, ↓kr108 R1.1, ↓kr109 R1.1, ↓kr110 R1.1, ↓kx0 R1, ↓kx1 R1, ↓kx2 R1, ↓kx3 R1, ↓kx4 R1, ↓kx5 R1, ↓kx6 R1, ↓kx7 R1, ↓kx8 R1, ↓kx9 R1, ↓kx10 R1, ↓kx11 R1, ↓kx1m R1, ↓kx9m R1, ↓kx10m R1, ↓reduceIte]
      exact e2.trans e'
theorem m_seer {h : Mem} (R : RepM h V) (w : WF V) (hN : 200 ≤ N) : ∃ h', f_X10_seerBreak N 71 h = some (iz (seerS V), h') ∧ RepM h' V ∧ FM SR h h' := by
  have hF := w.F
  exact m_seer_2 w hN (vF V) 0 N h (by omega) (by omega) R
end
