section
variable {c p : Nat} {V : Vw} {N : Nat}
theorem l_seer_2 {h0 : Mem} (w : WF V) (q : CP c p) (S0 : RS h0) (hN : 200 ≤ N) : ∀ (d i n : Nat) (h : Mem), i + d = vF V → d < n → RepC h c p V → KC c h0 h → ∃ h', f_X6_seer_2 N n 46 c (iz i) h = some (iz (fs2 (seerP V) (fun i => i) (vT V) i d), h') ∧ RepC h' c p V ∧ KC c h0 h' := by
  intro d
  have hF := w.F
  have hT := w.T
  induction d with
  | zero =>
    intro i n h hi hn R K
    obtain ⟨n, rfl⟩ : ∃ k, n = k + 1 := ⟨n - 1, by omega⟩
    rw [f_X6_seer_2]
    obtain rfl : i = vF V := by omega
    refine ⟨h, ?_, R, K⟩
    simp (disch := omega) only [↓kC R, ↓kT R, ↓kF R, ↓kL R, ↓kLk R, ↓kL0 R, ↓kL1 R, ↓kL2 R, ↓kL3 R, ↓kL4 R, ↓kL5 R, ↓kA0 R, ↓kA1 R, ↓kA2 R, ↓kA3 R, ↓kA4 R, ↓kA5 R, ↓kA6 R, ↓kA7 R, ↓kA8 R, ↓kA9 R, ↓kX0 R, ↓kX1 R, ↓kX2 R, ↓kX3 R, ↓kX4 R, ↓kX5 R, ↓kX6 R, ↓kX7 R, ↓kX8 R, ↓kX1m R, ↓kY0 R, ↓kY1 R, ↓kY2 R, ↓kY0m R, ↓kY1m R, ↓reduceIte, if_true, if_false, Option.bind_some, b2_some, il0, il1, il2, il3, il4, il5, il6, il7, il8, il9, il10, il11, il12, il13, il14, il15, il16, il17, il18, il19, il20, il21, il22, il23, il24, il25, il26, il27, il28, il29, il30, il31, il32, il33, il36, il38, il39, il40, il41, il48, il50, il51, il57, il59, il60, il61, il62, il63, il70, il96, il99, il100, il101, il102, il103, il104, il105, il106, il107, il108, il109, il110, il111, il112, il115, il116, il120, il121, il124, il200, il240, il255, il288, il360, il420, il999, il1000, il114292, il152755, il402789, il435589, il463922, il533611, il631470, iz_add, iz_sub, iz_mul, iz_neg, iz_le, iz_lt, iz_eq, Int.le_refl]
    rfl
  | succ d ih =>
    intro i n h hi hn R K
    obtain ⟨n, rfl⟩ : ∃ k, n = k + 1 := ⟨n - 1, by omega⟩
    rw [f_X6_seer_2]
    have hc : ¬ ((vF V : Int) ≤ i) := by omega
    have hwi := w.i (j := i) (by omega) (by omega)
    have hwf := w.f (j := i) (by omega) (by omega)
    have hwo := l_worth R w hN (f := i) (t := va V 7 i) (by omega) (by omega)
    obtain ⟨h', e, R', K'⟩ := l_seer_28 w q hN (f := i) (by omega) (fun v0 v1 v2 h => f_X6_seer_2 N n v0 v1 v2 h) (vT V) 0 N h (by omega) (by omega) R (S0.kc K) K
    rw [fs2]
    cases hfs : fs (seerP V i) 0 (vT V) with
    | some t =>
      rw [hfs] at e
      refine ⟨h', ?_, R', K'⟩
      simp (disch := omega) only [↓kC R, ↓kT R, ↓kF R, ↓kL R, ↓kLk R, ↓kL0 R, ↓kL1 R, ↓kL2 R, ↓kL3 R, ↓kL4 R, ↓kL5 R, ↓kA0 R, ↓kA1 R, ↓kA2 R, ↓kA3 R, ↓kA4 R, ↓kA5 R, ↓kA6 R, ↓kA7 R, ↓kA8 R, ↓kA9 R, ↓kX0 R, ↓kX1 R, ↓kX2 R, ↓kX3 R, ↓kX4 R, ↓kX5 R, ↓kX6 R, ↓kX7 R, ↓kX8 R, ↓kX1m R, ↓kY0 R, ↓kY1 R, ↓kY2 R, ↓kY0m R, ↓kY1m R, ↓reduceIte, ↓bq hwo, if_true, if_false, Option.bind_some, b2_some, il0, il1, il2, il3, il4, il5, il6, il7, il8, il9, il10, il11, il12, il13, il14, il15, il16, il17, il18, il19, il20, il21, il22, il23, il24, il25, il26, il27, il28, il29, il30, il31, il32, il33, il36, il38, il39, il40, il41, il48, il50, il51, il57, il59, il60, il61, il62, il63, il70, il96, il99, il100, il101, il102, il103, il104, il105, il106, il107, il108, il109, il110, il111, il112, il115, il116, il120, il121, il124, il200, il240, il255, il288, il360, il420, il999, il1000, il114292, il152755, il402789, il435589, il463922, il533611, il631470, iz_add, iz_sub, iz_mul, iz_neg, iz_le, iz_lt, iz_eq, hc]
      simpa using e
    | none =>
      rw [hfs] at e
      obtain ⟨h'', e2, r⟩ := ih (i + 1) n h' (by omega) (by omega) R' K'
      refine ⟨h'', ?_, r⟩
      simp (disch := omega) only [↓kC R, ↓kT R, ↓kF R, ↓kL R, ↓kLk R, ↓kL0 R, ↓kL1 R, ↓kL2 R, ↓kL3 R, ↓kL4 R, ↓kL5 R, ↓kA0 R, ↓kA1 R, ↓kA2 R, ↓kA3 R, ↓kA4 R, ↓kA5 R, ↓kA6 R, ↓kA7 R, ↓kA8 R, ↓kA9 R, ↓kX0 R, ↓kX1 R, ↓kX2 R, ↓kX3 R, ↓kX4 R, ↓kX5 R, ↓kX6 R, ↓kX7 R, ↓kX8 R, ↓kX1m R, ↓kY0 R, ↓kY1 R, ↓kY2 R, ↓kY0m R, ↓kY1m R, ↓reduceIte, ↓bq hwo, if_true, if_false, Option.bind_some, b2_some, il0, il1, il2, il3, il4, il5, il6, il7, il8, il9, il10, il11, il12, il13, il14, il15, il16, il17, il18, il19, il20, il21, il22, il23, il24, il25, il26, il27, il28, il29, il30, il31, il32, il33, il36, il38, il39, il40, il41, il48, il50, il51, il57, il59, il60, il61, il62, il63, il70, il96, il99, il100, il101, il102, il103, il104, il105, il106, il107, il108, il109, il110, il111, il112, il115, il116, il120, il121, il124, il200, il240, il255, il288, il360, il420, il999, il1000, il114292, il152755, il402789, il435589, il463922, il533611, il631470, iz_add, iz_sub, iz_mul, iz_neg, iz_le, iz_lt, iz_eq, hc]
      refine Eq.trans ?_ e2
      simpa using e
theorem l_seer {h : Mem} (R : RepC h c p V) (w : WF V) (q : CP c p) (S : RS h) (hN : 200 ≤ N) : ∃ h', f_X6_seer N 46 c h = some (iz (seerS V), h') ∧ RepC h' c p V ∧ KC c h h' := by
  have hF := w.F
  exact l_seer_2 w q S hN (vF V) 0 N h (by omega) (by omega) R KC.rf
end
/-! sets of families as numbers -/
def bt (s f : Nat) : Bool := decide (s / 2 ^ f % 2 = 1)
def pc (s : Nat) : Nat := (List.range 8).foldl (fun a f => a + if bt s f then 1 else 0) 0
def lo (s : Nat) : Nat := ((List.range 8).find? (bt s)).getD 8
theorem bt_dec : ∀ s : Nat, s < 256 → ∀ f : Nat, f < 8 → iz s >>> (iz f &&& iz 31) &&& iz 1 = iz (bi (bt s f)) := by decide +kernel
theorem pc_dec : ∀ s : Nat, s < 256 → (f_J6_bitCount_0f7a4 0 (iz s) mem0).map (fun q => q.1) = some (iz (pc s)) := by decide +kernel
theorem lo_dec : ∀ s : Nat, s < 256 → 0 < s → (f_X6_leastOf 0 (iz s) mem0).map (fun q => q.1) = some (iz (lo s)) := by decide +kernel
theorem sh_dec : ∀ F : Nat, F ≤ 8 → iz 1 <<< (iz F &&& iz 31) = iz ((2 ^ F : Nat) : Int) := by decide +kernel
theorem l_bitCount {N s : Nat} {h : Mem} (hs : s < 256) : f_J6_bitCount_0f7a4 N (iz s) h = some (iz (pc s), h) := by
  have e := pc_dec s hs
  unfold f_J6_bitCount_0f7a4 at e ⊢
  simp only [Option.map_some, Option.some.injEq] at e
  rw [e]
theorem l_leastOf {N s : Nat} {h : Mem} (hs : s < 256) (h0 : 0 < s) : f_X6_leastOf N (iz s) h = some (iz (lo s), h) := by
  have e := lo_dec s hs h0
  unfold f_X6_leastOf f_J6_bitCount_0f7a4 at e ⊢
  simp only [b2_some, Option.map_some, Option.some.injEq] at e ⊢
  rw [e]
