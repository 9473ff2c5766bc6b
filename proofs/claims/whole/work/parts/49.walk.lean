theorem pk2 : lz 2 &&& (63 : Int64) = lz (2 : Nat) := by decide
theorem pk3 : lz 3 &&& (63 : Int64) = lz (3 : Nat) := by decide
section
variable {h : Mem} {c p : Nat} {V : Vw} {N : Nat}
theorem l_imprint_32 (R : RepC h c p V) (w : WF V) : ∀ (d i n : Nat), i + d = 12 → d < n → f_X1_imprint_32 N n c (lz (impL V i)) (iz i) h = some (lz (imp V), h) := by
  intro d
  induction d with
  | zero =>
    intro i n hi hn
    obtain ⟨n, rfl⟩ : ∃ k, n = k + 1 := ⟨n - 1, by omega⟩
    rw [f_X1_imprint_32]
    obtain rfl : i = 12 := by omega
    simp (disch := omega) only [↓kC R, ↓kT R, ↓kF R, ↓kL R, ↓kLk R, ↓kL0 R, ↓kL1 R, ↓kL2 R, ↓kL3 R, ↓kL4 R, ↓kL5 R, ↓kA0 R, ↓kA1 R, ↓kA2 R, ↓kA3 R, ↓kA4 R, ↓kA5 R, ↓kA6 R, ↓kA7 R, ↓kA8 R, ↓kA9 R, ↓kX0 R, ↓kX1 R, ↓kX2 R, ↓kX3 R, ↓kX4 R, ↓kX5 R, ↓kX6 R, ↓kX7 R, ↓kX8 R, ↓kX1m R, ↓kY0 R, ↓kY1 R, ↓kY2 R, ↓kY0m R, ↓kY1m R, ↓reduceIte, if_true, if_false, Option.bind_some, b2_some, il0, il1, il2, il3, il4, il5, il6, il7, il8, il9, il10, il11, il12, il13, il14, il15, il16, il17, il18, il19, il20, il21, il22, il23, il24, il25, il26, il27, il28, il29, il30, il31, il32, il33, il36, il38, il39, il40, il41, il48, il50, il51, il57, il59, il60, il61, il62, il63, il70, il96, il99, il100, il101, il102, il103, il104, il105, il106, il107, il108, il109, il110, il111, il112, il115, il116, il120, il121, il124, il200, il240, il255, il288, il360, il420, il999, il1000, il114292, il152755, il402789, il435589, il463922, il533611, il631470, iz_add, iz_sub, iz_mul, iz_neg, iz_le, iz_lt, iz_eq]
    rfl
  | succ d ih =>
    intro i n hi hn
    obtain ⟨n, rfl⟩ : ∃ k, n = k + 1 := ⟨n - 1, by omega⟩
    rw [f_X1_imprint_32]
    have hc : ¬ ((12 : Int) ≤ i) := by omega
    have e := ih (i + 1) n (by omega) (by omega)
    have hl := w.l (j := i) (by omega) (by omega)
    have hb := impL_bd w i (by omega)
    have hb2 : (65536 : Int) * 8 ^ i ≤ 65536 * 8589934592 := by
      have : ∀ i : Nat, i < 12 → (65536 : Int) * 8 ^ i ≤ 65536 * 8589934592 := by decide
      exact this i (by omega)
    simp (disch := omega) only [↓kC R, ↓kT R, ↓kF R, ↓kL R, ↓kLk R, ↓kL0 R, ↓kL1 R, ↓kL2 R, ↓kL3 R, ↓kL4 R, ↓kL5 R, ↓kA0 R, ↓kA1 R, ↓kA2 R, ↓kA3 R, ↓kA4 R, ↓kA5 R, ↓kA6 R, ↓kA7 R, ↓kA8 R, ↓kA9 R, ↓kX0 R, ↓kX1 R, ↓kX2 R, ↓kX3 R, ↓kX4 R, ↓kX5 R, ↓kX6 R, ↓kX7 R, ↓kX8 R, ↓kX1m R, ↓kY0 R, ↓kY1 R, ↓kY2 R, ↓kY0m R, ↓kY1m R, ↓reduceIte, if_true, if_false, Option.bind_some, b2_some, il0, il1, il2, il3, il4, il5, il6, il7, il8, il9, il10, il11, il12, il13, il14, il15, il16, il17, il18, il19, il20, il21, il22, il23, il24, il25, il26, il27, il28, il29, il30, il31, il32, il33, il36, il38, il39, il40, il41, il48, il50, il51, il57, il59, il60, il61, il62, il63, il70, il96, il99, il100, il101, il102, il103, il104, il105, il106, il107, il108, il109, il110, il111, il112, il115, il116, il120, il121, il124, il200, il240, il255, il288, il360, il420, il999, il1000, il114292, il152755, il402789, il435589, il463922, il533611, il631470, iz_add, iz_sub, iz_mul, iz_neg, iz_le, iz_lt, iz_eq, hc, iz_long, pk3, lz_pack (k := 3)]
    exact e
theorem l_imprint_4 (R : RepC h c p V) (w : WF V) (hN : 200 ≤ N) : ∀ (d i n : Nat), i + d = vF V → d < n → f_X1_imprint_4 N n c (lz (impA V i)) (iz i) h = some (lz (imp V), h) := by
  intro d
  have hF := w.F
  induction d with
  | zero =>
    intro i n hi hn
    obtain ⟨n, rfl⟩ : ∃ k, n = k + 1 := ⟨n - 1, by omega⟩
    rw [f_X1_imprint_4]
    obtain rfl : i = vF V := by omega
    have e := l_imprint_32 R w (N := N) 12 0 N (by omega) (by omega)
    simp (disch := omega) only [↓kC R, ↓kT R, ↓kF R, ↓kL R, ↓kLk R, ↓kL0 R, ↓kL1 R, ↓kL2 R, ↓kL3 R, ↓kL4 R, ↓kL5 R, ↓kA0 R, ↓kA1 R, ↓kA2 R, ↓kA3 R, ↓kA4 R, ↓kA5 R, ↓kA6 R, ↓kA7 R, ↓kA8 R, ↓kA9 R, ↓kX0 R, ↓kX1 R, ↓kX2 R, ↓kX3 R, ↓kX4 R, ↓kX5 R, ↓kX6 R, ↓kX7 R, ↓kX8 R, ↓kX1m R, ↓kY0 R, ↓kY1 R, ↓kY2 R, ↓kY0m R, ↓kY1m R, ↓reduceIte, if_true, if_false, Option.bind_some, b2_some, il0, il1, il2, il3, il4, il5, il6, il7, il8, il9, il10, il11, il12, il13, il14, il15, il16, il17, il18, il19, il20, il21, il22, il23, il24, il25, il26, il27, il28, il29, il30, il31, il32, il33, il36, il38, il39, il40, il41, il48, il50, il51, il57, il59, il60, il61, il62, il63, il70, il96, il99, il100, il101, il102, il103, il104, il105, il106, il107, il108, il109, il110, il111, il112, il115, il116, il120, il121, il124, il200, il240, il255, il288, il360, il420, il999, il1000, il114292, il152755, il402789, il435589, il463922, il533611, il631470, iz_add, iz_sub, iz_mul, iz_neg, iz_le, iz_lt, iz_eq, Int.le_refl]
    exact e
  | succ d ih =>
    intro i n hi hn
    obtain ⟨n, rfl⟩ : ∃ k, n = k + 1 := ⟨n - 1, by omega⟩
    rw [f_X1_imprint_4]
    have hc : ¬ ((vF V : Int) ≤ i) := by omega
    have e := ih (i + 1) n (by omega) (by omega)
    have hl := w.f (j := i) (by omega) (by omega)
    have hb := impA_bd w i (by omega)
    have hb2 : (4 : Int) ^ i ≤ 65536 := by
      have : ∀ i : Nat, i < 9 → (4 : Int) ^ i ≤ 65536 := by decide
      exact this i (by omega)
    simp (disch := omega) only [↓kC R, ↓kT R, ↓kF R, ↓kL R, ↓kLk R, ↓kL0 R, ↓kL1 R, ↓kL2 R, ↓kL3 R, ↓kL4 R, ↓kL5 R, ↓kA0 R, ↓kA1 R, ↓kA2 R, ↓kA3 R, ↓kA4 R, ↓kA5 R, ↓kA6 R, ↓kA7 R, ↓kA8 R, ↓kA9 R, ↓kX0 R, ↓kX1 R, ↓kX2 R, ↓kX3 R, ↓kX4 R, ↓kX5 R, ↓kX6 R, ↓kX7 R, ↓kX8 R, ↓kX1m R, ↓kY0 R, ↓kY1 R, ↓kY2 R, ↓kY0m R, ↓kY1m R, ↓reduceIte, if_true, if_false, Option.bind_some, b2_some, il0, il1, il2, il3, il4, il5, il6, il7, il8, il9, il10, il11, il12, il13, il14, il15, il16, il17, il18, il19, il20, il21, il22, il23, il24, il25, il26, il27, il28, il29, il30, il31, il32, il33, il36, il38, il39, il40, il41, il48, il50, il51, il57, il59, il60, il61, il62, il63, il70, il96, il99, il100, il101, il102, il103, il104, il105, il106, il107, il108, il109, il110, il111, il112, il115, il116, il120, il121, il124, il200, il240, il255, il288, il360, il420, il999, il1000, il114292, il152755, il402789, il435589, il463922, il533611, il631470, iz_add, iz_sub, iz_mul, iz_neg, iz_le, iz_lt, iz_eq, hc, iz_long, pk2, lz_pack (k := 2)]
    exact e
theorem l_imprint (R : RepC h c p V) (w : WF V) (hN : 200 ≤ N) : f_X1_imprint N c h = some (lz (imp V), h) := by
  have hF := w.F
  exact l_imprint_4 R w hN (vF V) 0 N (by omega) (by omega)
end
section
variable {c p : Nat} {V : Vw} {N : Nat}
theorem goer_lt {d i f : Nat} (h : goer V i d = some f) : i ≤ f ∧ f < i + d ∧ 0 ≤ bet V f (vT V) := by
  have := fs_lt d i f h
  exact ⟨this.1, this.2.1, by simpa using this.2.2⟩
theorem strideR_bd (w : WF V) (v : Int) : -6 ≤ strideR V v ∧ strideR V v ≤ 8 := by
  have hF := w.F
  unfold strideR
  split
  · rename_i f hf
    have := goer_lt hf
    omega
  · split
    · omega
    · split <;> omega
/-- the frame of a walk: the imprints' cell too -/
theorem KU.st {h h' : Mem} (k : KU c h h') : h'.1 = h.1 := k.1
theorem l_stride_6 {h : Mem} (R : RepC h c p V) (w : WF V) (q : CP c p) (hN : 200 ≤ N) {v : Int} (hv : v = 0 ∨ v = 1) : ∀ (d i n : Nat), i + d = vF V → d < n → goer V 0 (vF V) = goer V i d → ∃ h', f_X8_stride_6 N n c (iz v) (iz (-5)) (iz i) h = some (iz (strideR V v), h') ∧ RepC h' c p (strideV V v) ∧ KU c h h' := by
  intro d
  have hF := w.F
  have hT := w.T
  induction d with
  | zero =>
    intro i n hi hn hg
    obtain ⟨n, rfl⟩ : ∃ k, n = k + 1 := ⟨n - 1, by omega⟩
    rw [f_X8_stride_6]
    obtain rfl : i = vF V := by omega
    have hg' : goer V 0 (vF V) = none := hg
    obtain ⟨h', e, R', K'⟩ := l_stride_58 (h0 := h) w q hN hv (r := -5) (by omega) (vT V) 0 N h (by omega) (by omega) (by rcases hv with rfl | rfl <;> exact R) KU.rf
    refine ⟨h', ?_, ?_, K'⟩
    · simp (disch := omega) only [↓kC R, ↓kT R, ↓kF R, ↓kL R, ↓kLk R, ↓kL0 R, ↓kL1 R, ↓kL2 R, ↓kL3 R, ↓kL4 R, ↓kL5 R, ↓kA0 R, ↓kA1 R, ↓kA2 R, ↓kA3 R, ↓kA4 R, ↓kA5 R, ↓kA6 R, ↓kA7 R, ↓kA8 R, ↓kA9 R, ↓kX0 R, ↓kX1 R, ↓kX2 R, ↓kX3 R, ↓kX4 R, ↓kX5 R, ↓kX6 R, ↓kX7 R, ↓kX8 R, ↓kX1m R, ↓kY0 R, ↓kY1 R, ↓kY2 R, ↓kY0m R, ↓kY1m R, ↓reduceIte, if_true, if_false, Option.bind_some, b2_some, il0, il1, il2, il3, il4, il5, il6, il7, il8, il9, il10, il11, il12, il13, il14, il15, il16, il17, il18, il19, il20, il21, il22, il23, il24, il25, il26, il27, il28, il29, il30, il31, il32, il33, il36, il38, il39, il40, il41, il48, il50, il51, il57, il59, il60, il61, il62, il63, il70, il96, il99, il100, il101, il102, il103, il104, il105, il106, il107, il108, il109, il110, il111, il112, il115, il116, il120, il121, il124, il200, il240, il255, il288, il360, il420, il999, il1000, il114292, il152755, il402789, il435589, il463922, il533611, il631470, iz_add, iz_sub, iz_mul, iz_neg, iz_le, iz_lt, iz_eq, Int.le_refl]
      rw [f_X8_stride_52]
      have e1 : (if v = 0 then (0 : Int) else votesN V 0) = 0 := by split <;> rfl
      rw [e1] at e
      refine e.trans ?_
      unfold strideR
      rw [hg']
      rcases hv with rfl | rfl <;> rfl
    · unfold strideV goV
      rw [hg']
      exact R'
  | succ d ih =>
    intro i n hi hn hg
    obtain ⟨n, rfl⟩ : ∃ k, n = k + 1 := ⟨n - 1, by omega⟩
    rw [f_X8_stride_6]
    have hc : ¬ ((vF V : Int) ≤ i) := by omega
    have hb := bet_bd (V := V) (f := i) (vT V)
    have eb := l_better R w hN (f := i) (by omega)
    by_cases h1 : 0 ≤ bet V i (vT V)
    · have hg' : goer V 0 (vF V) = some i := by
        rw [hg]
        unfold goer
        rw [fs, if_pos (by simpa using h1)]
      have w1 := wf_at w (j := i) (x := bet V i (vT V)) (by omega)
      have R1 := rep_set R q (k := 7) (j := i) (x := bet V i (vT V)) (by decide) (by omega) (by show (i : Int) < (8 : Int); omega)
      have K1 : KU c h (wr h (ar c 7) (upd (h.2.1 (ar c 7)) (Int.toNat i) (iz (bet V i (vT V))))) := KU.wr (by simp)
      obtain ⟨h', e, R', K'⟩ := l_stride_58 (h0 := h) w1 q hN hv (r := i) (by omega) (vT V) 0 N _ (by show 0 + vT V = vT V; omega) (by omega) (by rcases hv with rfl | rfl <;> exact R1) K1
      refine ⟨h', ?_, ?_, K'⟩
      · have h2 : ¬ (bet V i (vT V) < 0) := by omega
        have h3 : ¬ ((i : Int) = -5) := by omega
        simp (disch := omega) only [↓kC R, ↓kT R, ↓kF R, ↓kL R, ↓kLk R, ↓kL0 R, ↓kL1 R, ↓kL2 R, ↓kL3 R, ↓kL4 R, ↓kL5 R, ↓kA0 R, ↓kA1 R, ↓kA2 R, ↓kA3 R, ↓kA4 R, ↓kA5 R, ↓kA6 R, ↓kA7 R, ↓kA8 R, ↓kA9 R, ↓kX0 R, ↓kX1 R, ↓kX2 R, ↓kX3 R, ↓kX4 R, ↓kX5 R, ↓kX6 R, ↓kX7 R, ↓kX8 R, ↓kX1m R, ↓kY0 R, ↓kY1 R, ↓kY2 R, ↓kY0m R, ↓kY1m R, ↓reduceIte, ↓bq eb, ↓kS7 R, if_true, if_false, Option.bind_some, b2_some, il0, il1, il2, il3, il4, il5, il6, il7, il8, il9, il10, il11, il12, il13, il14, il15, il16, il17, il18, il19, il20, il21, il22, il23, il24, il25, il26, il27, il28, il29, il30, il31, il32, il33, il36, il38, il39, il40, il41, il48, il50, il51, il57, il59, il60, il61, il62, il63, il70, il96, il99, il100, il101, il102, il103, il104, il105, il106, il107, il108, il109, il110, il111, il112, il115, il116, il120, il121, il124, il200, il240, il255, il288, il360, il420, il999, il1000, il114292, il152755, il402789, il435589, il463922, il533611, il631470, iz_add, iz_sub, iz_mul, iz_neg, iz_le, iz_lt, iz_eq, hc, h2]
        have e1 : (if v = 0 then (0 : Int) else votesN (vset V 7 i (bet V i (vT V))) 0) = 0 := by split <;> rfl
        rw [e1, if_neg h3] at e
        obtain ⟨n, rfl⟩ : ∃ k, n = k + 1 := ⟨n - 1, by omega⟩
        rw [f_X8_stride_6]
        have e2 : strideR V v = i := by unfold strideR; rw [hg']
        rw [e2]
        by_cases h4 : (vF V : Int) ≤ i + 1
        · simp (disch := omega) only [↓kF R1, if_true, if_false, Option.bind_some, b2_some, il0, il1, il2, il3, il4, il5, il6, il7, il8, il9, il10, il11, il12, il13, il14, il15, il16, il17, il18, il19, il20, il21, il22, il23, il24, il25, il26, il27, il28, il29, il30, il31, il32, il33, il36, il38, il39, il40, il41, il48, il50, il51, il57, il59, il60, il61, il62, il63, il70, il96, il99, il100, il101, il102, il103, il104, il105, il106, il107, il108, il109, il110, il111, il112, il115, il116, il120, il121, il124, il200, il240, il255, il288, il360, il420, il999, il1000, il114292, il152755, il402789, il435589, il463922, il533611, il631470, iz_add, iz_sub, iz_mul, iz_neg, iz_le, iz_lt, iz_eq, h4, vset_F]
          exact e
        · simp (disch := omega) only [↓kF R1, if_true, if_false, Option.bind_some, b2_some, il0, il1, il2, il3, il4, il5, il6, il7, il8, il9, il10, il11, il12, il13, il14, il15, il16, il17, il18, il19, il20, il21, il22, il23, il24, il25, il26, il27, il28, il29, il30, il31, il32, il33, il36, il38, il39, il40, il41, il48, il50, il51, il57, il59, il60, il61, il62, il63, il70, il96, il99, il100, il101, il102, il103, il104, il105, il106, il107, il108, il109, il110, il111, il112, il115, il116, il120, il121, il124, il200, il240, il255, il288, il360, il420, il999, il1000, il114292, il152755, il402789, il435589, il463922, il533611, il631470, iz_add, iz_sub, iz_mul, iz_neg, iz_le, iz_lt, iz_eq, h4, h3, vset_F]
          exact e
      · unfold strideV goV
        rw [hg']
        exact R'
    · have h2 : bet V i (vT V) < 0 := by omega
      obtain ⟨h', e, r⟩ := ih (i + 1) n (by omega) (by omega) (by
        rw [hg]
        unfold goer
        rw [fs, if_neg (by simpa using h2)])
      refine ⟨h', ?_, r⟩
      simp (disch := omega) only [↓kC R, ↓kT R, ↓kF R, ↓kL R, ↓kLk R, ↓kL0 R, ↓kL1 R, ↓kL2 R, ↓kL3 R, ↓kL4 R, ↓kL5 R, ↓kA0 R, ↓kA1 R, ↓kA2 R, ↓kA3 R, ↓kA4 R, ↓kA5 R, ↓kA6 R, ↓kA7 R, ↓kA8 R, ↓kA9 R, ↓kX0 R, ↓kX1 R, ↓kX2 R, ↓kX3 R, ↓kX4 R, ↓kX5 R, ↓kX6 R, ↓kX7 R, ↓kX8 R, ↓kX1m R, ↓kY0 R, ↓kY1 R, ↓kY2 R, ↓kY0m R, ↓kY1m R, ↓reduceIte, ↓bq eb, if_true, if_false, Option.bind_some, b2_some, il0, il1, il2, il3, il4, il5, il6, il7, il8, il9, il10, il11, il12, il13, il14, il15, il16, il17, il18, il19, il20, il21, il22, il23, il24, il25, il26, il27, il28, il29, il30, il31, il32, il33, il36, il38, il39, il40, il41, il48, il50, il51, il57, il59, il60, il61, il62, il63, il70, il96, il99, il100, il101, il102, il103, il104, il105, il106, il107, il108, il109, il110, il111, il112, il115, il116, il120, il121, il124, il200, il240, il255, il288, il360, il420, il999, il1000, il114292, il152755, il402789, il435589, il463922, il533611, il631470, iz_add, iz_sub, iz_mul, iz_neg, iz_le, iz_lt, iz_eq, hc, h2]
      exact e
theorem l_stride {h : Mem} (R : RepC h c p V) (w : WF V) (q : CP c p) (hN : 200 ≤ N) {v : Int} (hv : v = 0 ∨ v = 1) {v0 : Nat} : ∃ h', f_X8_stride N v0 c (iz v) h = some (iz (strideR V v), h') ∧ RepC h' c p (strideV V v) ∧ KU c h h' := by
  have hF := w.F
  have e := l_stride_6 R w q hN hv (vF V) 0 N (by omega) (by omega) rfl
  exact e
end
