def breachQ (V : Vw) (k b : Int) : Int := if b = -5 then (if k = 3 then rentS V else if k = 4 then seerS V else if k = 5 then clubS V else -5) else b
def breachS (V : Vw) (k : Int) : Int := if stayS V = -5 then (if k = 2 ∨ k = 4 then breachQ V k (voteS V) else breachQ V k (-5)) else stayS V
section
variable {c p : Nat} {V : Vw} {N : Nat}
theorem stayS_bd (w : WF V) : -5 ≤ stayS V ∧ stayS V ≤ 804 := fs2_bd w.T _ _ (fun j _ h => by have := w.F; omega)
theorem voteS_bd (w : WF V) : -5 ≤ voteS V ∧ voteS V ≤ 804 := fs2_bd (by decide) _ _ (fun j _ h => by have := w.T; omega)
theorem breachQ_n {k b : Int} (hb : b ≠ -5) : breachQ V k b = b := if_neg hb
theorem l_breach_26 {h : Mem} (R : RepC h c p V) (w : WF V) (q : CP c p) (S : RS h) (hN : 300 ≤ N) {k b : Int} (hk : 1 ≤ k ∧ k ≤ 5) (hb : -5 ≤ b ∧ b ≤ 804) : ∃ h', f_X6_breach_26 N 46 c (iz k) (iz b) h = some (iz (breachQ V k b), h') ∧ RepC h' c p V ∧ KC c h h' := by
  unfold f_X6_breach_26 breachQ
  by_cases h5 : b = -5
  · by_cases k3 : k = 3
    · refine ⟨h, ?_, R, KC.rf⟩
      have e := l_rented R w (N := N) (by omega) (v0 := 46)
      subst k3
      simp (disch := omega) only [if_true, if_false, Option.bind_some, b2_some, il0, il1, il2, il3, il4, il5, il6, il7, il8, il9, il10, il11, il12, il13, il14, il15, il16, il17, il18, il19, il20, il21, il22, il23, il24, il25, il26, il27, il28, il29, il30, il31, il32, il33, il36, il38, il39, il40, il41, il48, il50, il51, il57, il59, il60, il61, il62, il63, il70, il96, il99, il100, il101, il102, il103, il104, il105, il106, il107, il108, il109, il110, il111, il112, il115, il116, il120, il121, il124, il200, il240, il255, il288, il360, il420, il999, il1000, il114292, il152755, il402789, il435589, il463922, il533611, il631470, iz_add, iz_sub, iz_mul, iz_neg, iz_le, iz_lt, iz_eq, h5, ↓k46 S, ↓bq e]
    · by_cases k4 : k = 4
      · obtain ⟨h', e, r⟩ := l_seer R w q S (N := N) (by omega)
        refine ⟨h', ?_, r⟩
        subst k4
        simp (disch := omega) only [if_true, if_false, Option.bind_some, b2_some, il0, il1, il2, il3, il4, il5, il6, il7, il8, il9, il10, il11, il12, il13, il14, il15, il16, il17, il18, il19, il20, il21, il22, il23, il24, il25, il26, il27, il28, il29, il30, il31, il32, il33, il36, il38, il39, il40, il41, il48, il50, il51, il57, il59, il60, il61, il62, il63, il70, il96, il99, il100, il101, il102, il103, il104, il105, il106, il107, il108, il109, il110, il111, il112, il115, il116, il120, il121, il124, il200, il240, il255, il288, il360, il420, il999, il1000, il114292, il152755, il402789, il435589, il463922, il533611, il631470, iz_add, iz_sub, iz_mul, iz_neg, iz_le, iz_lt, iz_eq, h5, k3, ↓k46 S, ↓bq e]
      · by_cases k5 : k = 5
        · obtain ⟨h', e, r⟩ := l_club R w q S (N := N) (by omega)
          refine ⟨h', ?_, r⟩
          subst k5
          simp (disch := omega) only [if_true, if_false, Option.bind_some, b2_some, il0, il1, il2, il3, il4, il5, il6, il7, il8, il9, il10, il11, il12, il13, il14, il15, il16, il17, il18, il19, il20, il21, il22, il23, il24, il25, il26, il27, il28, il29, il30, il31, il32, il33, il36, il38, il39, il40, il41, il48, il50, il51, il57, il59, il60, il61, il62, il63, il70, il96, il99, il100, il101, il102, il103, il104, il105, il106, il107, il108, il109, il110, il111, il112, il115, il116, il120, il121, il124, il200, il240, il255, il288, il360, il420, il999, il1000, il114292, il152755, il402789, il435589, il463922, il533611, il631470, iz_add, iz_sub, iz_mul, iz_neg, iz_le, iz_lt, iz_eq, h5, k3, k4, ↓k46 S, ↓bq e]
        · refine ⟨h, ?_, R, KC.rf⟩
          simp (disch := omega) only [if_true, if_false, Option.bind_some, b2_some, il0, il1, il2, il3, il4, il5, il6, il7, il8, il9, il10, il11, il12, il13, il14, il15, il16, il17, il18, il19, il20, il21, il22, il23, il24, il25, il26, il27, il28, il29, il30, il31, il32, il33, il36, il38, il39, il40, il41, il48, il50, il51, il57, il59, il60, il61, il62, il63, il70, il96, il99, il100, il101, il102, il103, il104, il105, il106, il107, il108, il109, il110, il111, il112, il115, il116, il120, il121, il124, il200, il240, il255, il288, il360, il420, il999, il1000, il114292, il152755, il402789, il435589, il463922, il533611, il631470, iz_add, iz_sub, iz_mul, iz_neg, iz_le, iz_lt, iz_eq, h5, k3, k4, k5]
  · refine ⟨h, ?_, R, KC.rf⟩
    simp (disch := omega) only [if_true, if_false, Option.bind_some, b2_some, il0, il1, il2, il3, il4, il5, il6, il7, il8, il9, il10, il11, il12, il13, il14, il15, il16, il17, il18, il19, il20, il21, il22, il23, il24, il25, il26, il27, il28, il29, il30, il31, il32, il33, il36, il38, il39, il40, il41, il48, il50, il51, il57, il59, il60, il61, il62, il63, il70, il96, il99, il100, il101, il102, il103, il104, il105, il106, il107, il108, il109, il110, il111, il112, il115, il116, il120, il121, il124, il200, il240, il255, il288, il360, il420, il999, il1000, il114292, il152755, il402789, il435589, il463922, il533611, il631470, iz_add, iz_sub, iz_mul, iz_neg, iz_le, iz_lt, iz_eq, h5]
theorem l_breach {h : Mem} (R : RepC h c p V) (w : WF V) (q : CP c p) (S : RS h) (hN : 300 ≤ N) {k : Int} (hk : 1 ≤ k ∧ k ≤ 5) : ∃ h', f_X6_breach N 46 c (iz k) h = some (iz (breachS V k), h') ∧ RepC h' c p V ∧ KC c h h' := by
  have hs := stayS_bd w
  have hv := voteS_bd w
  have es := l_stay R w (N := N) (by omega) (v0 := 46)
  have eu := l_isUnder (N := N) (h := h) (by omega) hk
  unfold f_X6_breach breachS
  by_cases h5 : stayS V = -5
  · by_cases h2 : k = 2 ∨ k = 4
    · obtain ⟨row, ev⟩ := l_voted R w q (N := N) (by omega) (v0 := 46)
      obtain ⟨h', e, R', K'⟩ := l_breach_26 (rep_want (row := row) R q) w q (S.eq rfl rfl) hN hk hv
      refine ⟨h', ?_, R', (KC.wr (by simp)).tr K'⟩
      rw [if_pos h2] at eu
      have h3 : ¬ ((1 : Int) = 0) := by decide
      simp (disch := omega) only [il0, il1, il2, il3, il4, il5, il6, il7, il8, il9, il10, il11, il12, il13, il14, il15, il16, il17, il18, il19, il20, il21, il22, il23, il24, il25, il26, il27, il28, il29, il30, il31, il32, il33, il36, il38, il39, il40, il41, il48, il50, il51, il57, il59, il60, il61, il62, il63, il70, il96, il99, il100, il101, il102, il103, il104, il105, il106, il107, il108, il109, il110, il111, il112, il115, il116, il120, il121, il124, il200, il240, il255, il288, il360, il420, il999, il1000, il114292, il152755, il402789, il435589, il463922, il533611, il631470, iz_neg, ↓k46 S, ↓bq es, iz_eq, h5, h2, if_true, ↓reduceIte]
      rw [il2] at eu
      simp (disch := omega) only [↓bq eu, iz_eq, h3, if_false, ↓k46 S, ↓bq ev]
      exact e
    · obtain ⟨h', e, R', K'⟩ := l_breach_26 R w q S hN hk (b := -5) (by omega)
      refine ⟨h', ?_, R', K'⟩
      rw [if_neg h2] at eu
      simp (disch := omega) only [il0, il1, il2, il3, il4, il5, il6, il7, il8, il9, il10, il11, il12, il13, il14, il15, il16, il17, il18, il19, il20, il21, il22, il23, il24, il25, il26, il27, il28, il29, il30, il31, il32, il33, il36, il38, il39, il40, il41, il48, il50, il51, il57, il59, il60, il61, il62, il63, il70, il96, il99, il100, il101, il102, il103, il104, il105, il106, il107, il108, il109, il110, il111, il112, il115, il116, il120, il121, il124, il200, il240, il255, il288, il360, il420, il999, il1000, il114292, il152755, il402789, il435589, il463922, il533611, il631470, iz_neg, ↓k46 S, ↓bq es, iz_eq, h5, h2, if_true, if_false, ↓reduceIte]
      rw [il2] at eu
      simp (disch := omega) only [↓bq eu, if_true, ↓reduceIte]
      exact e
  · obtain ⟨h', e, R', K'⟩ := l_breach_26 R w q S hN hk hs
    refine ⟨h', ?_, R', K'⟩
    rw [breachQ_n h5] at e
    simp (disch := omega) only [il0, il1, il2, il3, il4, il5, il6, il7, il8, il9, il10, il11, il12, il13, il14, il15, il16, il17, il18, il19, il20, il21, il22, il23, il24, il25, il26, il27, il28, il29, il30, il31, il32, il33, il36, il38, il39, il40, il41, il48, il50, il51, il57, il59, il60, il61, il62, il63, il70, il96, il99, il100, il101, il102, il103, il104, il105, il106, il107, il108, il109, il110, il111, il112, il115, il116, il120, il121, il124, il200, il240, il255, il288, il360, il420, il999, il1000, il114292, il152755, il402789, il435589, il463922, il533611, il631470, iz_neg, ↓k46 S, ↓bq es, iz_eq, h5, if_false, ↓reduceIte]
    exact e
end
