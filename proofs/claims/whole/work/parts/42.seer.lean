theorem cp_wr {t a b n0 n1 : Nat} {h : Mem} {sp dp n : Int} (hq0 : h.1[a]? = some (t, n0)) (hq1 : h.1[b]? = some (t, n1)) (h0 : 0 ≤ sp) (h1 : 0 ≤ dp) (h2 : 0 ≤ n) (h3 : sp + n ≤ n0) (h4 : dp + n ≤ n1) (h5 : n0 < 1000) (h6 : n1 < 1000) : cpI t h a (iz sp) b (iz dp) (iz n) = some (wr h b (va_cpy (h.2.1 a) (h.2.1 b) sp.toNat dp.toNat n.toNat)) := by
  unfold cpI
  rw [aN_q hq0, Option.bind_some, aN_q hq1, Option.bind_some, if_neg]
  · rw [iz_nat h0 (by omega), iz_nat h1 (by omega), iz_nat h2 (by omega)]
    rfl
  · rw [iz_nat h0 (by omega), iz_nat h1 (by omega), iz_nat h2 (by omega), il0, iz_lt (by omega) (by omega) (by omega) (by omega), iz_lt (by omega) (by omega) (by omega) (by omega), iz_lt (by omega) (by omega) (by omega) (by omega)]
    omega
def RS (h : Mem) : Prop := h.1[46]? = some (6, 0) ∧ (h.2.2.2 46 0 = some 47 ∧ h.1[47]? = some (100, 3)) ∧ (h.2.2.2 46 1 = some 48 ∧ h.1[48]? = some (100, 8)) ∧ (h.2.2.2 46 2 = some 49 ∧ h.1[49]? = some (100, 8))
theorem RS.eq {h h' : Mem} (r : RS h) (e1 : h'.1 = h.1) (e2 : h'.2.2.2 = h.2.2.2) : RS h' := by unfold RS at *; rw [e1, e2]; exact r
theorem RS.kc {c : Nat} {h h' : Mem} (r : RS h) (k : KC c h h') : RS h' := r.eq k.1 k.2.1
theorem ar_46 {c p k i : Nat} (q : CP c p) (hk : k < 10) (hi : 44 ≤ i) : i ≠ ar c k := by
  obtain ⟨h1 | h1 | h1, h2 | h2⟩ := q <;> subst h1 <;> unfold ar <;> split <;> omega
theorem lt_46 {c p i : Nat} (q : CP c p) (hi : 44 ≤ i) : c ≠ i ∧ ∀ k, k < 5 → p + k ≠ i := by
  obtain ⟨h1 | h1 | h1, h2 | h2⟩ := q <;> subst h1 <;> subst h2 <;> exact ⟨by omega, fun k hk => by omega⟩
/-- rows that are no country's and no land's don't matter for a country -/
theorem rep_oth {h : Mem} {c p a : Nat} {V : Vw} {row : Nat → Int32} (R : RepC h c p V) (q : CP c p) (ha : 44 ≤ a) : RepC (wr h a row) c p V := by
  obtain ⟨a1, a2, a3, a4, a5, b0, b1, b2, b3, b4, b5, b6, b7, b8, b9, b10, b11⟩ := R
  have nc : (wr h a row).2.1 c = h.2.1 c := wr_ne (lt_46 q ha).1
  have n0 : ∀ i, i < 5 → (wr h a row).2.1 (p + i) = h.2.1 (p + i) := fun i hi => wr_ne ((lt_46 q ha).2 i hi)
  have np : (wr h a row).2.1 p = h.2.1 p := n0 0 (by decide)
  refine ⟨a1, by rw [nc, a2], by rw [nc, a3], fun k0 hk0 j hj => ?_, a5, b0, b1, b2, b3, b4, fun j hj => ?_, fun j hj => ?_, fun j hj => ?_, ?_, ?_, ?_, ?_⟩
  · rw [wr_ne (ar_46 q (by omega) ha).symm, a4 k0 hk0 j hj]
  · rw [n0 1 (by decide), b5 j hj]
  · rw [n0 2 (by decide), b6 j hj]
  · rw [n0 3 (by decide), b7 j hj]
  · rw [np, b8]
  · rw [np, b9]
  · rw [np, b10]
  · rw [n0 4 (by decide), np]
    exact b11
theorem wf_at {V : Vw} (w : WF V) {j x : Int} (hx : 0 ≤ x ∧ x < vT V) : WF (vset V 7 j x) := by
  obtain ⟨a1, a2, a3, a4, a5, a6, a7, a8, a9, a10, a11, a12⟩ := w
  refine ⟨a1, a2, a3, a4, fun j' h0 h1 => ⟨(a5 j' h0 h1).1, (a5 j' h0 h1).2.1, ?_, (a5 j' h0 h1).2.2.2⟩, a6, a7, a8, a9, a10, fun j' h0 h1 => ⟨(a11 j' h0 h1).1, ?_⟩, a12⟩
  · rw [vset_at]
    split
    · show 0 ≤ x ∧ x ≤ 3
      have : vT V ≤ 4 := a1
      omega
    · exact (a5 j' h0 h1).2.2.1
  · rw [vset_at]
    split
    · exact hx.2
    · exact (a11 j' h0 h1).2
def seerP (V : Vw) (f t : Nat) : Bool := canGoB V f t && decide (worth V f (va V 7 f) < worth (voteV (vset V 7 f t) t 3) f t)
def seerS (V : Vw) : Int := fs2 (seerP V) (fun i => i) (vT V) 0 (vF V)
section
variable {c p : Nat} {V : Vw} {N : Nat}
theorem l_seer_28 {h0 : Mem} (w : WF V) (q : CP c p) (hN : 200 ≤ N) {f : Nat} (hf : f < vF V) (k2 : Nat → Nat → Int32 → Mem → Option (Int32 × Mem)) : ∀ (d i n : Nat) (h : Mem), i + d = vT V → d < n → RepC h c p V → RS h → KC c h0 h → ∃ h', (f_X6_seer_28 N n 46 c (iz f) (iz (va V 7 f)) (iz (worth V f (va V 7 f))) (iz i) h k2 = match fs (seerP V f) i d with
    | some t => some (iz (100 * f + t), h')
    | none => k2 46 c (iz (f + 1)) h') ∧ RepC h' c p V ∧ KC c h0 h' := by
  intro d
  have hF := w.F
  have hT := w.T
  have hwf := w.f (j := f) (by omega) (by omega)
  have hwi := w.i (j := f) (by omega) (by omega)
  have hw0 := worth_bd w (f := f) (t := va V 7 f) (by omega) (by omega)
  induction d with
  | zero =>
    intro i n h hi hn R S K
    obtain ⟨n, rfl⟩ : ∃ k, n = k + 1 := ⟨n - 1, by omega⟩
    rw [f_X6_seer_28]
    obtain rfl : i = vT V := by omega
    refine ⟨h, ?_, R, K⟩
    simp (disch := omega) only [↓kC R, ↓kT R, ↓kF R, ↓kL R, ↓kLk R, ↓kL0 R, ↓kL1 R, ↓kL2 R, ↓kL3 R, ↓kL4 R, ↓kL5 R, ↓kA0 R, ↓kA1 R, ↓kA2 R, ↓kA3 R, ↓kA4 R, ↓kA5 R, ↓kA6 R, ↓kA7 R, ↓kA8 R, ↓kA9 R, ↓kX0 R, ↓kX1 R, ↓kX2 R, ↓kX3 R, ↓kX4 R, ↓kX5 R, ↓kX6 R, ↓kX7 R, ↓kX8 R, ↓kX1m R, ↓kY0 R, ↓kY1 R, ↓kY2 R, ↓kY0m R, ↓kY1m R, ↓reduceIte, if_true, if_false, Option.bind_some, b2_some, il0, il1, il2, il3, il4, il5, il6, il7, il8, il9, il10, il11, il12, il13, il14, il15, il16, il17, il18, il19, il20, il21, il22, il23, il24, il25, il26, il27, il28, il29, il30, il31, il32, il33, il36, il38, il39, il40, il41, il48, il50, il51, il57, il59, il60, il61, il62, il63, il70, il96, il99, il100, il101, il102, il103, il104, il105, il106, il107, il108, il109, il110, il111, il112, il115, il116, il120, il121, il124, il200, il240, il255, il288, il360, il420, il999, il1000, il114292, il152755, il402789, il435589, il463922, il533611, il631470, iz_add, iz_sub, iz_mul, iz_neg, iz_le, iz_lt, iz_eq, Int.le_refl]
    rfl
  | succ d ih =>
    intro i n h hi hn R S K
    obtain ⟨n, rfl⟩ : ∃ k, n = k + 1 := ⟨n - 1, by omega⟩
    rw [f_X6_seer_28]
    have hc : ¬ ((vT V : Int) ≤ i) := by omega
    have hg := l_canGoB R w hN (f := f) (t := i) (by omega) (by omega)
    rw [fs]
    cases hb : canGoB V f i with
    | false =>
      have hp : seerP V f i = false := by simp [seerP, hb]
      have hb0 : bi (canGoB V f i) = 0 := by rw [hb]; rfl
      rw [hb0] at hg
      obtain ⟨h', e, r⟩ := ih (i + 1) n h (by omega) (by omega) R S K
      refine ⟨h', ?_, r⟩
      simp (disch := omega) only [↓kC R, ↓kT R, ↓kF R, ↓kL R, ↓kLk R, ↓kL0 R, ↓kL1 R, ↓kL2 R, ↓kL3 R, ↓kL4 R, ↓kL5 R, ↓kA0 R, ↓kA1 R, ↓kA2 R, ↓kA3 R, ↓kA4 R, ↓kA5 R, ↓kA6 R, ↓kA7 R, ↓kA8 R, ↓kA9 R, ↓kX0 R, ↓kX1 R, ↓kX2 R, ↓kX3 R, ↓kX4 R, ↓kX5 R, ↓kX6 R, ↓kX7 R, ↓kX8 R, ↓kX1m R, ↓kY0 R, ↓kY1 R, ↓kY2 R, ↓kY0m R, ↓kY1m R, ↓reduceIte, ↓bq hg, if_true, if_false, Option.bind_some, b2_some, il0, il1, il2, il3, il4, il5, il6, il7, il8, il9, il10, il11, il12, il13, il14, il15, il16, il17, il18, il19, il20, il21, il22, il23, il24, il25, il26, il27, il28, il29, il30, il31, il32, il33, il36, il38, il39, il40, il41, il48, il50, il51, il57, il59, il60, il61, il62, il63, il70, il96, il99, il100, il101, il102, il103, il104, il105, il106, il107, il108, il109, il110, il111, il112, il115, il116, il120, il121, il124, il200, il240, il255, il288, il360, il420, il999, il1000, il114292, il152755, il402789, il435589, il463922, il533611, il631470, iz_add, iz_sub, iz_mul, iz_neg, iz_le, iz_lt, iz_eq, hc, hp]
      simpa using e
    | true =>
      have hb1 : bi (canGoB V f i) = 1 := by rw [hb]; rfl
      rw [hb1] at hg
      have h3 : ¬ ((1 : Int) = 0) := by decide
      -- kept levels
      have hS := S
      obtain ⟨s0, ⟨s1, s2⟩, ⟨s3, s4⟩, s5, s6⟩ := S
      have R1 := rep_oth (a := 47) (row := va_cpy (h.2.1 (ar c 1)) (h.2.1 47) (Int.toNat (i * 3)) 0 3) R q (by decide)
      have R2 := rep_set R1 q (k := 7) (j := f) (x := i) (by decide) (by omega) (by show (f : Int) < (8 : Int); omega)
      have w2 := wf_at w (j := f) (x := i) (by omega)
      obtain ⟨h21, e21, R21, K21⟩ := l_vote R2 w2 q hN (t := i) (by omega)
      have w21 := vote_wf w2 i 3
      have tf := vote_TF (V := vset V 7 f i) i 3
      have hwo := l_worth R21 w21 hN (f := f) (t := i) (by rw [tf.2.1]; exact hf) (by omega)
      have hw1 := worth_bd w21 (f := f) (t := i) (by omega) (by omega)
      have R29 := rep_set R21 q (k := 7) (j := f) (x := va V 7 f) (by decide) (by omega) (by show (f : Int) < (8 : Int); omega)
      have i47 : h21.2.1 47 = va_cpy (h.2.1 (ar c 1)) (h.2.1 47) (Int.toNat (i * 3)) 0 3 := by
        rw [K21.2.2.2 47 (ar_46 q (by decide) (by decide)) (ar_46 q (by decide) (by decide)) (ar_46 q (by decide) (by decide)), wr_ne (ar_46 q (by decide) (by decide)), wr_eq]
      have hcp1 : cpI 100 h (ar c 1) (iz ((i : Int) * 3)) 47 (iz 0) (iz 3) = some (wr h 47 (va_cpy (h.2.1 (ar c 1)) (h.2.1 47) (Int.toNat (i * 3)) 0 3)) := by
        exact cp_wr (R.1.2 1 (by decide)).2 s2 (by omega) (by omega) (by omega) (by show (i : Int) * 3 + 3 ≤ (12 : Int); omega) (by decide) (by decide) (by decide)
      have e1 : (wr h21 (ar c 7) (upd (h21.2.1 (ar c 7)) (Int.toNat f) (iz (va V 7 f)))).1 = h.1 := K21.1
      have e2 : (wr h21 (ar c 7) (upd (h21.2.1 (ar c 7)) (Int.toNat f) (iz (va V 7 f)))).2.2.2 = h.2.2.2 := K21.2.1
      have g31 : gR (wr h21 (ar c 7) (upd (h21.2.1 (ar c 7)) (Int.toNat f) (iz (va V 7 f)))) 46 6 0 = some 47 := gR_q (by rw [e1]; exact s0) (by rw [e2]; exact s1)
      have hcp2 : cpI 100 (wr h21 (ar c 7) (upd (h21.2.1 (ar c 7)) (Int.toNat f) (iz (va V 7 f)))) 47 (iz 0) (ar c 1) (iz ((i : Int) * 3)) (iz 3) = some (wr (wr h21 (ar c 7) (upd (h21.2.1 (ar c 7)) (Int.toNat f) (iz (va V 7 f)))) (ar c 1) (va_cpy (h21.2.1 47) (h21.2.1 (ar c 1)) 0 (Int.toNat (i * 3)) 3)) := by
        refine (cp_wr (by rw [e1]; exact s2) (R29.1.2 1 (by decide)).2 (by omega) (by omega) (by omega) (by decide) (by show (i : Int) * 3 + 3 ≤ (12 : Int); omega) (by decide) (by decide)).trans ?_
        rw [wr_ne (ar_46 q (by decide) (by decide)), wr_ne (ar_ne (by decide))]
        rfl
      have R35 : RepC (wr (wr h21 (ar c 7) (upd (h21.2.1 (ar c 7)) (Int.toNat f) (iz (va V 7 f)))) (ar c 1) (va_cpy (h21.2.1 47) (h21.2.1 (ar c 1)) 0 (Int.toNat (i * 3)) 3)) c p V := by
        refine rep_wr R29 q (by decide) (by rw [vset_T, tf.1]; rfl) (by rw [vset_F, tf.2.1]; rfl) (by rw [vset_s, tf.2.2.1]; rfl) (fun k' hk' => ?_) (fun _ j hj => ?_)
        · by_cases h7 : k' = 7
          · subst h7
            funext j'
            rw [vset_at]
            split
            · rename_i hj; rw [hj.2]
            · rename_i hj
              rw [tf.2.2.2 7 (by decide), vset_at, if_neg hj]
          · rw [vset_ne h7, tf.2.2.2 k' (by omega), vset_ne h7]
        · have hj12 : j < 12 := hj
          unfold va_cpy
          by_cases hj2 : (i * 3 : Int).toNat ≤ j ∧ j < (i * 3 : Int).toNat + 3
          · rw [if_pos hj2, i47]
            unfold va_cpy
            rw [if_pos (by omega)]
            rw [R.2.2.2.1 1 (by decide) _ (by show _ < 12; omega)]
            congr 2
            omega
          · rw [if_neg hj2, R21.2.2.2.1 1 (by decide) j hj, vote_lv _ _ _ (by omega), vset_ne (by decide)]
      have K35 : KC c h0 (wr (wr h21 (ar c 7) (upd (h21.2.1 (ar c 7)) (Int.toNat f) (iz (va V 7 f)))) (ar c 1) (va_cpy (h21.2.1 47) (h21.2.1 (ar c 1)) 0 (Int.toNat (i * 3)) 3)) :=
        K.tr ((KC.wr (by simp)).tr ((KC.wr (by simp)).tr (K21.kc.tr ((KC.wr (by simp)).tr (KC.wr (by simp))))))
      have S35 : RS (wr (wr h21 (ar c 7) (upd (h21.2.1 (ar c 7)) (Int.toNat f) (iz (va V 7 f)))) (ar c 1) (va_cpy (h21.2.1 47) (h21.2.1 (ar c 1)) 0 (Int.toNat (i * 3)) 3)) := hS.eq K21.1 K21.2.1
      by_cases h1 : worth V f (va V 7 f) < worth (voteV (vset V 7 f i) i 3) f i
      · have hp : seerP V f i = true := by simp [seerP, hb, h1]
        have h2 : ¬ (worth (voteV (vset V 7 f i) i 3) f i ≤ worth V f (va V 7 f)) := by omega
        refine ⟨_, ?_, R35, K35⟩
        simp (disch := omega) only [↓kC R, ↓kT R, ↓kF R, ↓kL R, ↓kLk R, ↓kL0 R, ↓kL1 R, ↓kL2 R, ↓kL3 R, ↓kL4 R, ↓kL5 R, ↓kA0 R, ↓kA1 R, ↓kA2 R, ↓kA3 R, ↓kA4 R, ↓kA5 R, ↓kA6 R, ↓kA7 R, ↓kA8 R, ↓kA9 R, ↓kX0 R, ↓kX1 R, ↓kX2 R, ↓kX3 R, ↓kX4 R, ↓kX5 R, ↓kX6 R, ↓kX7 R, ↓kX8 R, ↓kX1m R, ↓kY0 R, ↓kY1 R, ↓kY2 R, ↓kY0m R, ↓kY1m R, ↓reduceIte, ↓bq hg, h3, if_true, if_false, Option.bind_some, b2_some, il0, il1, il2, il3, il4, il5, il6, il7, il8, il9, il10, il11, il12, il13, il14, il15, il16, il17, il18, il19, il20, il21, il22, il23, il24, il25, il26, il27, il28, il29, il30, il31, il32, il33, il36, il38, il39, il40, il41, il48, il50, il51, il57, il59, il60, il61, il62, il63, il70, il96, il99, il100, il101, il102, il103, il104, il105, il106, il107, il108, il109, il110, il111, il112, il115, il116, il120, il121, il124, il200, il240, il255, il288, il360, il420, il999, il1000, il114292, il152755, il402789, il435589, il463922, il533611, il631470, iz_add, iz_sub, iz_mul, iz_neg, iz_le, iz_lt, iz_eq, hc, hp]
        simp (disch := omega) only [↓bo (gR_q s0 s1), ↓bo hcp1, ↓kA7 R1, ↓kS7 R1, ↓kC R2, ↓bq e21, ↓kC R21, ↓bq hwo, ↓kA7 R21, ↓kS7 R21, ↓bo g31, ↓kA1 R29, ↓bo hcp2, ↓reduceIte, if_true, if_false, Option.bind_some, b2_some, il0, il1, il2, il3, il4, il5, il6, il7, il8, il9, il10, il11, il12, il13, il14, il15, il16, il17, il18, il19, il20, il21, il22, il23, il24, il25, il26, il27, il28, il29, il30, il31, il32, il33, il36, il38, il39, il40, il41, il48, il50, il51, il57, il59, il60, il61, il62, il63, il70, il96, il99, il100, il101, il102, il103, il104, il105, il106, il107, il108, il109, il110, il111, il112, il115, il116, il120, il121, il124, il200, il240, il255, il288, il360, il420, il999, il1000, il114292, il152755, il402789, il435589, il463922, il533611, il631470, iz_add, iz_sub, iz_mul, iz_neg, iz_le, iz_lt, iz_eq, h2]
      · have hp : seerP V f i = false := by simp [seerP, h1]
        have h2 : worth (voteV (vset V 7 f i) i 3) f i ≤ worth V f (va V 7 f) := by omega
        obtain ⟨h', e, r⟩ := ih (i + 1) n _ (by omega) (by omega) R35 S35 K35
        refine ⟨h', ?_, r⟩
        simp (disch := omega) only [↓kC R, ↓kT R, ↓kF R, ↓kL R, ↓kLk R, ↓kL0 R, ↓kL1 R, ↓kL2 R, ↓kL3 R, ↓kL4 R, ↓kL5 R, ↓kA0 R, ↓kA1 R, ↓kA2 R, ↓kA3 R, ↓kA4 R, ↓kA5 R, ↓kA6 R, ↓kA7 R, ↓kA8 R, ↓kA9 R, ↓kX0 R, ↓kX1 R, ↓kX2 R, ↓kX3 R, ↓kX4 R, ↓kX5 R, ↓kX6 R, ↓kX7 R, ↓kX8 R, ↓kX1m R, ↓kY0 R, ↓kY1 R, ↓kY2 R, ↓kY0m R, ↓kY1m R, ↓reduceIte, ↓bq hg, h3, if_true, if_false, Option.bind_some, b2_some, il0, il1, il2, il3, il4, il5, il6, il7, il8, il9, il10, il11, il12, il13, il14, il15, il16, il17, il18, il19, il20, il21, il22, il23, il24, il25, il26, il27, il28, il29, il30, il31, il32, il33, il36, il38, il39, il40, il41, il48, il50, il51, il57, il59, il60, il61, il62, il63, il70, il96, il99, il100, il101, il102, il103, il104, il105, il106, il107, il108, il109, il110, il111, il112, il115, il116, il120, il121, il124, il200, il240, il255, il288, il360, il420, il999, il1000, il114292, il152755, il402789, il435589, il463922, il533611, il631470, iz_add, iz_sub, iz_mul, iz_neg, iz_le, iz_lt, iz_eq, hc, hp]
        simp (disch := omega) only [↓bo (gR_q s0 s1), ↓bo hcp1, ↓kA7 R1, ↓kS7 R1, ↓kC R2, ↓bq e21, ↓kC R21, ↓bq hwo, ↓kA7 R21, ↓kS7 R21, ↓bo g31, ↓kA1 R29, ↓bo hcp2, ↓reduceIte, if_true, if_false, Option.bind_some, b2_some, il0, il1, il2, il3, il4, il5, il6, il7, il8, il9, il10, il11, il12, il13, il14, il15, il16, il17, il18, il19, il20, il21, il22, il23, il24, il25, il26, il27, il28, il29, il30, il31, il32, il33, il36, il38, il39, il40, il41, il48, il50, il51, il57, il59, il60, il61, il62, il63, il70, il96, il99, il100, il101, il102, il103, il104, il105, il106, il107, il108, il109, il110, il111, il112, il115, il116, il120, il121, il124, il200, il240, il255, il288, il360, il420, il999, il1000, il114292, il152755, il402789, il435589, il463922, il533611, il631470, iz_add, iz_sub, iz_mul, iz_neg, iz_le, iz_lt, iz_eq, h2]
        simpa using e
end
