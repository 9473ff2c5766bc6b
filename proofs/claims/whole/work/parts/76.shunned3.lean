section
variable {h : Mem} {p N : Nat} {T : List Int}
theorem d16i {k : Nat} (hk : k < 16000) : iz (k : Int) &&& iz 15 = iz ((k % 16 : Nat) : Int) := d16 k hk
theorem sgn_f {s i t n k : Int} {q q' : Int × Nat} (e : sgn s i t n k q = some q') : q.2 < 134217728 := by
  unfold sgn at e
  by_cases c : 134217728 ≤ q.2
  · rw [if_pos c] at e; cases e
  · omega
theorem l_shunned_9 {s i t n : Int} (E : EL h p T) (hT : T.length ≤ 120) (hb : ∀ j, j < T.length → 0 ≤ T.getD j 0 ∧ T.getD j 0 < 16000) (hs : -1000 ≤ s ∧ s ≤ 1000) (hi : -1000 ≤ i ∧ i ≤ 1000) (ht : -1000 ≤ t ∧ t ≤ 1000) (hn : -1000 ≤ n ∧ n ≤ 1000) : ∀ (d j m : Nat) (a : Int) (f : Nat) (q' : Int × Nat), j + d = T.length → d < m → run s i t n (T.drop j) (a, f) = some q' → f_X3_shunned_9 N m p (iz s) (iz i) (iz t) (iz n) (iz a) (iz (f : Int)) (iz (j : Int)) h = some (iz q'.1, h) := by
  obtain ⟨a1, a2, a3, a4, a5⟩ := E
  intro d
  induction d with
  | zero =>
    intro j m a f q' hj hm hr
    obtain ⟨m, rfl⟩ : ∃ k, m = k + 1 := ⟨m - 1, by omega⟩
    rw [List.drop_of_length_le (by omega)] at hr
    cases hr
    rw [f_X3_shunned_9, bo (gI_q a1), a4, if_pos (by rw [iz_le (by omega) (by omega) (by omega) (by omega)]; omega)]
  | succ d ih =>
    intro j m a f q' hj hm hr
    obtain ⟨m, rfl⟩ : ∃ k, m = k + 1 := ⟨m - 1, by omega⟩
    have hj' : j < T.length := by omega
    have hd : T.drop j = T.getD j 0 :: T.drop (j + 1) := by
      rw [List.drop_eq_getElem_cons hj', List.getD_eq_getElem?_getD, List.getElem?_eq_getElem hj']
      rfl
    rw [hd] at hr
    have hk := hb j hj'
    have e5 := a5 j hj'
    generalize T.getD j 0 = k0 at hr hk e5
    obtain ⟨k, rfl⟩ := Int.eq_ofNat_of_zero_le hk.1
    have hk' : k < 16000 := by omega
    obtain ⟨q1, hq1, hr⟩ : ∃ q1, sgn s i t n (k : Int) (a, f) = some q1 ∧ run s i t n (T.drop (j + 1)) q1 = some q' := by
      cases hz : sgn s i t n (k : Int) (a, f) with
      | none => rw [run, hz] at hr; cases hr
      | some q1 => rw [run, hz] at hr; exact ⟨q1, rfl, hr⟩
    have hf := sgn_f hq1
    dsimp only at hf
    have e6 : lI 100 h (p + 4) (iz (j : Int)) = some (iz (k : Int)) := by rw [lI_q a3 (by omega) (by omega) (by decide), toN, e5]
    have nx := fun (b : Int) (g : Nat) (z : (b, g) = q1) => ih (j + 1) m b g q' (by omega) (by omega) (by rw [z]; exact hr)
    have ej : iz (j : Int) + iz 1 = iz ((j + 1 : Nat) : Int) := by rw [iz_add]; rfl
    have hf1 : f = 2 * (f / 2) + f % 2 := by omega
    have hm2 : f % 2 ≤ 1 := by omega
    have hf4 : f = 2 * (2 * (f / 4) + f / 2 % 2) + f % 2 := by omega
    have e3 : iz ((k % 16 : Nat) : Int) / iz 3 = iz ((k % 16 / 3 : Nat) : Int) := by
      rw [iz_div (by omega) (by omega) (by omega) (by omega)]
      congr 1
    have e15 := d16i hk'
    have es := iz_shr4 (x := k) (by omega)
    have hc : ¬ ((T.length : Int) ≤ (j : Int)) := by omega
    have hmod : ((k : Int) % 16) = ((k % 16 : Nat) : Int) := by omega
    have e7 : gI h p 3 7 = some (iz (T.length : Int)) := by rw [gI_q a1, a4]
    rw [f_X3_shunned_9, bo e7, if_neg (by rw [iz_le (by omega) (by omega) (by omega) (by omega)]; exact hc), bo (gR_q a1 a2), bo e6, bo (gR_q a1 a2), bo e6]
    simp only [il0, il1, il2, il3, il4, il5, il6, il7, il8, il9, il10, il11, il12, il13, il14, il15, il16, il17, il18, il19, il20, il21, il22, il23, il24, il25, il26, il27, il28, il29, il30, il31, il32, il33, il36, il38, il39, il40, il41, il48, il50, il51, il57, il59, il60, il61, il62, il63, il70, il96, il99, il100, il101, il102, il103, il104, il105, il106, il107, il108, il109, il110, il111, il112, il115, il116, il120, il121, il124, il200, il240, il255, il288, il360, il420, il999, il1000, il114292, il152755, il402789, il435589, il463922, il533611, il631470, e15, ej, e3, es]
    unfold sgn at hq1
    dsimp only at hq1
    rw [if_neg (by omega)] at hq1
    by_cases c12 : (k : Int) % 16 = 12
    · rw [if_pos c12] at hq1
      rw [if_pos (by rw [iz_eq (by omega) (by omega) (by omega) (by omega)]; omega)]
      have := iz_not2 (f := f / 2) (v := f % 2) (by omega) hm2
      rw [← hf1] at this
      rw [this]
      exact nx _ _ (Option.some.inj hq1)
    · rw [if_neg c12] at hq1
      rw [if_neg (by rw [iz_eq (by omega) (by omega) (by omega) (by omega)]; omega)]
      by_cases c13 : (k : Int) % 16 = 13
      · rw [if_pos c13] at hq1
        rw [if_pos (by rw [iz_eq (by omega) (by omega) (by omega) (by omega)]; omega)]
        have := iz_and2 (f := f / 4) (a := f / 2 % 2) (b := f % 2) (by omega) (by omega) hm2
        rw [← hf4] at this
        rw [iz_neg, this]
        exact nx _ _ (Option.some.inj hq1)
      · rw [if_neg c13] at hq1
        rw [if_neg (by rw [iz_eq (by omega) (by omega) (by omega) (by omega)]; omega)]
        by_cases c14 : (k : Int) % 16 = 14
        · rw [if_pos c14] at hq1
          rw [if_pos (by rw [iz_eq (by omega) (by omega) (by omega) (by omega)]; omega)]
          have := iz_or2 (f := f / 4) (a := f / 2 % 2) (b := f % 2) (by omega) (by omega) hm2
          rw [← hf4] at this
          rw [this]
          exact nx _ _ (Option.some.inj hq1)
        · rw [if_neg c14] at hq1
          rw [if_neg (by rw [iz_eq (by omega) (by omega) (by omega) (by omega)]; omega)]
          by_cases c15 : (k : Int) % 16 = 15
          · rw [if_pos c15] at hq1
            rw [if_pos (by rw [iz_eq (by omega) (by omega) (by omega) (by omega)]; omega)]
            have := iz_low (f := f / 2) (v := f % 2) (by omega) hm2
            rw [← hf1] at this
            rw [this, iz_mul, iz_add]
            exact nx _ _ (by rw [← Option.some.inj hq1]; rfl)
          · rw [if_neg c15] at hq1
            rw [if_neg (by rw [iz_eq (by omega) (by omega) (by omega) (by omega)]; omega)]
            by_cases cf : 524288 ≤ f
            · rw [if_pos cf] at hq1; cases hq1
            · rw [if_neg cf] at hq1
              have fin : ∀ a0 : Int, a0 = lef s i t n ((k : Int) % 16) → f_X3_shunned_165 N p (iz s) (iz i) (iz t) (iz n) (iz a) (iz (f : Int)) (iz (j : Int)) (iz ((k % 16 : Nat) : Int)) (iz ((k / 16 : Nat) : Int)) (iz a0) h (fun v0 v1 v2 v3 v4 v5 v6 v7 h => f_X3_shunned_9 N m v0 v1 v2 v3 v4 v5 v6 v7 h) = some (iz q'.1, h) := by
                intro a0 ha0
                rw [l_shunned_165 hk' (by omega) (by omega) (by rw [ha0]; unfold lef; split; exact hs; split; exact hi; split; exact ht; exact hn)]
                rw [ej]
                exact nx _ _ (by rw [← Option.some.inj hq1, ha0])
              by_cases g0 : (k : Int) % 16 / 3 = 0
              · rw [if_pos (by rw [iz_eq (by omega) (by omega) (by omega) (by omega)]; omega)]
                exact fin s (by unfold lef; rw [if_pos g0])
              · rw [if_neg (by rw [iz_eq (by omega) (by omega) (by omega) (by omega)]; omega)]
                by_cases g1 : (k : Int) % 16 / 3 = 1
                · rw [if_pos (by rw [iz_eq (by omega) (by omega) (by omega) (by omega)]; omega)]
                  exact fin i (by unfold lef; rw [if_neg g0, if_pos g1])
                · rw [if_neg (by rw [iz_eq (by omega) (by omega) (by omega) (by omega)]; omega)]
                  by_cases g2 : (k : Int) % 16 / 3 = 2
                  · rw [if_pos (by rw [iz_eq (by omega) (by omega) (by omega) (by omega)]; omega)]
                    exact fin t (by unfold lef; rw [if_neg g0, if_neg g1, if_pos g2])
                  · rw [if_neg (by rw [iz_eq (by omega) (by omega) (by omega) (by omega)]; omega)]
                    exact fin n (by unfold lef; rw [if_neg g0, if_neg g1, if_neg g2])
/-- the program's sum is what is shunned -/
theorem shOK_of {row : Nat → Int32} {T : List Int} {sh : Int → Int → Int → Int → Int} (hT : T.length ≤ 120) (hb : ∀ j, j < T.length → 0 ≤ T.getD j 0 ∧ T.getD j 0 < 16000) (hrow : ∀ j, j < T.length → row j = iz (T.getD j 0)) (hr : ∀ s i t n : Int, 0 ≤ s → s ≤ 3 → 0 ≤ i → i ≤ 99 → 0 ≤ t → t ≤ 3 → 0 ≤ n → n ≤ 8 → ∃ g, run s i t n T (0, 0) = some (sh s i t n, g)) : shOK row (iz (T.length : Int)) sh := by
  intro N h p hN h1 h2 h3 h4 h5 s i t n a1 a2 b1 b2 c1 c2 d1 d2
  obtain ⟨g, hg⟩ := hr s i t n a1 a2 b1 b2 c1 c2 d1 d2
  have := l_shunned_9 (N := N) (h := h) (p := p) (T := T) (s := s) (i := i) (t := t) (n := n) ⟨h1, h3, h2, h4, fun j hj => by rw [h5 j (by omega), hrow j hj]⟩ hT hb (by omega) (by omega) (by omega) (by omega) T.length 0 N 0 0 _ (by omega) (by omega) (by rw [List.drop_zero]; exact hg)
  exact this
end
