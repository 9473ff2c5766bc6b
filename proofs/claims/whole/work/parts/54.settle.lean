theorem rep_F {h : Mem} {c p F : Nat} {V : Vw} (R : RepC h c p V) (q : CP c p) : RepC (h.1, u2 h.2.1 c 2 (iz (F : Int)), h.2.2.1, h.2.2.2) c p (V.1, F, V.2.2) := by
  have hcp : ∀ i, i < 5 → p + i ≠ c := fun i hi => by
    obtain ⟨h1 | h1 | h1, h2 | h2⟩ := q <;> subst h1 <;> subst h2 <;> omega
  have np : ∀ i, i < 5 → u2 h.2.1 c 2 (iz (F : Int)) (p + i) = h.2.1 (p + i) := fun i hi => u2_ne (hcp i hi)
  have np0 : u2 h.2.1 c 2 (iz (F : Int)) p = h.2.1 p := np 0 (by decide)
  obtain ⟨a1, a2, a3, a4, a5, b0, b1, b2, b3, b4, b5, b6, b7, b8, b9, b10, b11⟩ := R
  refine ⟨a1, ?_, ?_, fun k hk j hj => ?_, a5, b0, b1, b2, b3, b4, fun j hj => ?_, fun j hj => ?_, fun j hj => ?_, ?_, ?_, ?_, ?_⟩
  · show u2 h.2.1 c 2 (iz (F : Int)) c 1 = _
    rw [u2_at, if_neg (by decide)]; exact a2
  · show u2 h.2.1 c 2 (iz (F : Int)) c 2 = _
    rw [u2_at, if_pos rfl]
  · show u2 h.2.1 c 2 (iz (F : Int)) (ar c k) j = _
    rw [u2_ne (ar_land (i := 0) q (by omega) (by decide)).2.symm]
    exact a4 k hk j hj
  · show u2 h.2.1 c 2 (iz (F : Int)) (p + 1) j = _
    rw [np 1 (by decide)]; exact b5 j hj
  · show u2 h.2.1 c 2 (iz (F : Int)) (p + 2) j = _
    rw [np 2 (by decide)]; exact b6 j hj
  · show u2 h.2.1 c 2 (iz (F : Int)) (p + 3) j = _
    rw [np 3 (by decide)]; exact b7 j hj
  · show u2 h.2.1 c 2 (iz (F : Int)) p 3 = _
    rw [np0]; exact b8
  · show u2 h.2.1 c 2 (iz (F : Int)) p 4 = _
    rw [np0]; exact b9
  · show u2 h.2.1 c 2 (iz (F : Int)) p 5 = _
    rw [np0]; exact b10
  · show shOK (u2 h.2.1 c 2 (iz (F : Int)) (p + 4)) (u2 h.2.1 c 2 (iz (F : Int)) p 7) _
    rw [np 4 (by decide), np0]; exact b11
theorem rep_T {h : Mem} {c p T : Nat} {V : Vw} (R : RepC h c p V) (q : CP c p) : RepC (h.1, u2 h.2.1 c 1 (iz (T : Int)), h.2.2.1, h.2.2.2) c p (T, V.2) := by
  have hcp : ∀ i, i < 5 → p + i ≠ c := fun i hi => by
    obtain ⟨h1 | h1 | h1, h2 | h2⟩ := q <;> subst h1 <;> subst h2 <;> omega
  have np : ∀ i, i < 5 → u2 h.2.1 c 1 (iz (T : Int)) (p + i) = h.2.1 (p + i) := fun i hi => u2_ne (hcp i hi)
  have np0 : u2 h.2.1 c 1 (iz (T : Int)) p = h.2.1 p := np 0 (by decide)
  obtain ⟨a1, a2, a3, a4, a5, b0, b1, b2, b3, b4, b5, b6, b7, b8, b9, b10, b11⟩ := R
  refine ⟨a1, ?_, ?_, fun k hk j hj => ?_, a5, b0, b1, b2, b3, b4, fun j hj => ?_, fun j hj => ?_, fun j hj => ?_, ?_, ?_, ?_, ?_⟩
  · show u2 h.2.1 c 1 (iz (T : Int)) c 1 = _
    rw [u2_at, if_pos rfl]
  · show u2 h.2.1 c 1 (iz (T : Int)) c 2 = _
    rw [u2_at, if_neg (by decide)]; exact a3
  · show u2 h.2.1 c 1 (iz (T : Int)) (ar c k) j = _
    rw [u2_ne (ar_land (i := 0) q (by omega) (by decide)).2.symm]
    exact a4 k hk j hj
  · show u2 h.2.1 c 1 (iz (T : Int)) (p + 1) j = _
    rw [np 1 (by decide)]; exact b5 j hj
  · show u2 h.2.1 c 1 (iz (T : Int)) (p + 2) j = _
    rw [np 2 (by decide)]; exact b6 j hj
  · show u2 h.2.1 c 1 (iz (T : Int)) (p + 3) j = _
    rw [np 3 (by decide)]; exact b7 j hj
  · show u2 h.2.1 c 1 (iz (T : Int)) p 3 = _
    rw [np0]; exact b8
  · show u2 h.2.1 c 1 (iz (T : Int)) p 4 = _
    rw [np0]; exact b9
  · show u2 h.2.1 c 1 (iz (T : Int)) p 5 = _
    rw [np0]; exact b10
  · show shOK (u2 h.2.1 c 1 (iz (T : Int)) (p + 4)) (u2 h.2.1 c 1 (iz (T : Int)) p 7) _
    rw [np 4 (by decide), np0]; exact b11
def vjoin (V : Vw) (s i t : Int) : Vw :=
  let W := vset (vset (vset (vset V 5 (vF V) s) 6 (vF V) i) 7 (vF V) t) 8 (vF V) t
  (W.1, vF V + 1, W.2.2)
theorem stl_TF {V : Vw} {r : Nat} : ∀ n, vT (stl V r n) = vT V ∧ vF (stl V r n) = vF V ∧ vs (stl V r n) = vs V ∧ ∀ k, k ≠ 7 → va (stl V r n) k = va V k := by
  intro n
  induction n with
  | zero => exact ⟨rfl, rfl, rfl, fun _ _ => rfl⟩
  | succ n ih => exact ⟨ih.1, ih.2.1, ih.2.2.1, fun k hk => (vset_ne hk).trans (ih.2.2.2 k hk)⟩
theorem stl_wf {V : Vw} (w : WF V) (hT : 0 < vT V) {r : Nat} : ∀ n, WF (stl V r n) := by
  intro n
  induction n with
  | zero => exact w
  | succ n ih =>
    have hm := Nat.mod_lt (r / vT V ^ n) hT
    exact wf_at ih (by rw [(stl_TF (V := V) n).1]; omega)
section
variable {c p : Nat} {V : Vw} {N : Nat}
theorem kSn {γ : Type} {h : Mem} (R : RepC h c p V) (k0 : Nat) (hk : k0 < 10) {z : Int} {v : Int32} {k : Mem → Option γ} (h0 : 0 ≤ z) (h1 : z < ln k0) : (stI 100 h (ar c k0) (iz z) v).bind k = k (wr h (ar c k0) (upd (h.2.1 (ar c k0)) z.toNat v)) := bo (st_wr (R.1.2 k0 hk).2 h0 h1 (by
  have : ∀ k, k < 10 → ln k < 1000 := by decide
  have := this k0 hk
  omega))
/-- what a country's own growth leaves -/
def KG (c : Nat) (h h' : Mem) : Prop := h'.1 = h.1 ∧ h'.2.2 = h.2.2 ∧ ∀ i, i ≠ c → (∀ k, k < 9 → i ≠ ar c k) → h'.2.1 i = h.2.1 i
theorem l_join {h : Mem} (R : RepC h c p V) (q : CP c p) (hF : vF V ≤ 8) {s i t : Int} : ∃ h', f_X1_join N c (iz s) (iz i) (iz t) h = some (iz (if vF V < 8 then (vF V : Int) else -4), h') ∧ RepC h' c p (if vF V < 8 then vjoin V s i t else V) ∧ KG c h h' := by
  unfold f_X1_join
  by_cases h8 : vF V < 8
  · have z8 : ((vF V : Int) < 8) := by omega
    have R1 := rep_set R q (k := 5) (j := vF V) (x := s) (by decide) (by omega) (by show (vF V : Int) < (8 : Int); omega)
    have R2 := rep_set R1 q (k := 6) (j := vF V) (x := i) (by decide) (by omega) (by show (vF V : Int) < (8 : Int); omega)
    have R3 := rep_set R2 q (k := 7) (j := vF V) (x := t) (by decide) (by omega) (by show (vF V : Int) < (8 : Int); omega)
    have R4 := rep_set R3 q (k := 8) (j := vF V) (x := t) (by decide) (by omega) (by show (vF V : Int) < (8 : Int); omega)
    have R5 := rep_F R4 q (F := vF V + 1)
    rw [if_pos h8, if_pos h8]
    refine ⟨_, ?_, R5, rfl, rfl, fun j hj hk => ?_⟩
    · simp (disch := omega) only [↓kF R, ↓kA5 R, if_true, if_false, Option.bind_some, b2_some, il0, il1, il2, il3, il4, il5, il6, il7, il8, il9, il10, il11, il12, il13, il14, il15, il16, il17, il18, il19, il20, il21, il22, il23, il24, il25, il26, il27, il28, il29, il30, il31, il32, il33, il36, il38, il39, il40, il41, il48, il50, il51, il57, il59, il60, il61, il62, il63, il70, il96, il99, il100, il101, il102, il103, il104, il105, il106, il107, il108, il109, il110, il111, il112, il115, il116, il120, il121, il124, il200, il240, il255, il288, il360, il420, il999, il1000, il114292, il152755, il402789, il435589, il463922, il533611, il631470, iz_add, iz_sub, iz_mul, iz_neg, iz_le, iz_lt, iz_eq, z8, ↓bo (st_wr (R.1.2 5 (by decide)).2 (show (0 : Int) ≤ vF V by omega) z8 (by decide))]
      simp (disch := omega) only [↓kF R1, ↓kA6 R1, vset_F, ↓bo (st_wr (R1.1.2 6 (by decide)).2 (show (0 : Int) ≤ vF V by omega) z8 (by decide))]
      simp (disch := omega) only [↓kF R2, ↓kA7 R2, vset_F, ↓bo (st_wr (R2.1.2 7 (by decide)).2 (show (0 : Int) ≤ vF V by omega) z8 (by decide))]
      simp (disch := omega) only [↓kF R3, ↓kA8 R3, vset_F, ↓bo (st_wr (R3.1.2 8 (by decide)).2 (show (0 : Int) ≤ vF V by omega) z8 (by decide))]
      simp (disch := omega) only [↓kF R4, vset_F, iz_add]
      rw [bo (sI_q R4.1.1)]
      rfl
    · show u2 _ c 2 _ j = _
      rw [u2_ne hj, wr_ne (hk 8 (by decide)), wr_ne (hk 7 (by decide)), wr_ne (hk 6 (by decide)), wr_ne (hk 5 (by decide))]
  · have z8 : ¬ ((vF V : Int) < 8) := by omega
    rw [if_neg h8, if_neg h8]
    refine ⟨h, ?_, R, rfl, rfl, fun _ _ _ => rfl⟩
    simp (disch := omega) only [↓kC R, ↓kT R, ↓kF R, ↓kL R, ↓kLk R, ↓kL0 R, ↓kL1 R, ↓kL2 R, ↓kL3 R, ↓kL4 R, ↓kL5 R, ↓kA0 R, ↓kA1 R, ↓kA2 R, ↓kA3 R, ↓kA4 R, ↓kA5 R, ↓kA6 R, ↓kA7 R, ↓kA8 R, ↓kA9 R, ↓kX0 R, ↓kX1 R, ↓kX2 R, ↓kX3 R, ↓kX4 R, ↓kX5 R, ↓kX6 R, ↓kX7 R, ↓kX8 R, ↓kX1m R, ↓kY0 R, ↓kY1 R, ↓kY2 R, ↓kY0m R, ↓kY1m R, ↓reduceIte, if_true, if_false, Option.bind_some, b2_some, il0, il1, il2, il3, il4, il5, il6, il7, il8, il9, il10, il11, il12, il13, il14, il15, il16, il17, il18, il19, il20, il21, il22, il23, il24, il25, il26, il27, il28, il29, il30, il31, il32, il33, il36, il38, il39, il40, il41, il48, il50, il51, il57, il59, il60, il61, il62, il63, il70, il96, il99, il100, il101, il102, il103, il104, il105, il106, il107, il108, il109, il110, il111, il112, il115, il116, il120, il121, il124, il200, il240, il255, il288, il360, il420, il999, il1000, il114292, il152755, il402789, il435589, il463922, il533611, il631470, iz_add, iz_sub, iz_mul, iz_neg, iz_le, iz_lt, iz_eq, z8]
theorem dig {q T : Nat} : (q : Int) - ((q / T : Nat) : Int) * (T : Int) = ((q % T : Nat) : Int) := by
  have h1 := Nat.div_add_mod q T
  have h2 : ((T * (q / T) + q % T : Nat) : Int) = (q : Int) := by rw [h1]
  rw [Int.natCast_add, Int.natCast_mul, Int.mul_comm] at h2
  omega
theorem l_settle_29 {h0 : Mem} (w : WF V) (q : CP c p) (hN : 200 ≤ N) {r : Nat} (hr : r ≤ 65536) (hT0 : 0 < vT V) : ∀ (d i n : Nat) (h : Mem), i + d = vF V → d < n → RepC h c p (stl V r i) → KU c h0 h → ∃ h', f_X1_settle_29 N n c (iz ((r / vT V ^ i : Nat) : Int)) (iz ((vF V : Int) - 1 - i)) h = some (iz (fitsI (stl V r (vF V))), h') ∧ RepC h' c p (stl V r (vF V)) ∧ KU c h0 h' := by
  intro d
  have hF := w.F
  have hT := w.T
  induction d with
  | zero =>
    intro i n h hi hn R K
    obtain ⟨n, rfl⟩ : ∃ k, n = k + 1 := ⟨n - 1, by omega⟩
    rw [f_X1_settle_29]
    obtain rfl : i = vF V := by omega
    have h2 : (vF V : Int) - 1 - vF V < 0 := by omega
    have e := l_fits R (stl_wf w hT0 _) hN
    refine ⟨h, ?_, R, K⟩
    have hrz : rz (iz (fitsI (stl V r (vF V)))) h = some (iz (fitsI (stl V r (vF V))), h) := by
      unfold fitsI
      split <;> rfl
    simp (disch := omega) only [↓kC R, ↓kT R, ↓kF R, ↓kL R, ↓kLk R, ↓kL0 R, ↓kL1 R, ↓kL2 R, ↓kL3 R, ↓kL4 R, ↓kL5 R, ↓kA0 R, ↓kA1 R, ↓kA2 R, ↓kA3 R, ↓kA4 R, ↓kA5 R, ↓kA6 R, ↓kA7 R, ↓kA8 R, ↓kA9 R, ↓kX0 R, ↓kX1 R, ↓kX2 R, ↓kX3 R, ↓kX4 R, ↓kX5 R, ↓kX6 R, ↓kX7 R, ↓kX8 R, ↓kX1m R, ↓kY0 R, ↓kY1 R, ↓kY2 R, ↓kY0m R, ↓kY1m R, ↓reduceIte, if_true, if_false, Option.bind_some, b2_some, il0, il1, il2, il3, il4, il5, il6, il7, il8, il9, il10, il11, il12, il13, il14, il15, il16, il17, il18, il19, il20, il21, il22, il23, il24, il25, il26, il27, il28, il29, il30, il31, il32, il33, il36, il38, il39, il40, il41, il48, il50, il51, il57, il59, il60, il61, il62, il63, il70, il96, il99, il100, il101, il102, il103, il104, il105, il106, il107, il108, il109, il110, il111, il112, il115, il116, il120, il121, il124, il200, il240, il255, il288, il360, il420, il999, il1000, il114292, il152755, il402789, il435589, il463922, il533611, il631470, iz_add, iz_sub, iz_mul, iz_neg, iz_le, iz_lt, iz_eq, h2, ↓bq e, hrz]
  | succ d ih =>
    intro i n h hi hn R K
    obtain ⟨n, rfl⟩ : ∃ k, n = k + 1 := ⟨n - 1, by omega⟩
    rw [f_X1_settle_29]
    have h2 : ¬ ((vF V : Int) - 1 - i < 0) := by omega
    have tf := stl_TF (V := V) (r := r) i
    have R1 := rep_set R q (k := 7) (j := (vF V : Int) - 1 - i) (x := ((r / vT V ^ i % vT V : Nat) : Int)) (by decide) (by omega) (by show (vF V : Int) - 1 - i < (8 : Int); omega)
    obtain ⟨h', e, rr⟩ := ih (i + 1) n _ (by omega) (by omega) R1 (K.tr (KU.wr (by simp)))
    refine ⟨h', ?_, rr⟩
    have hq : r / vT V ^ i ≤ 65536 := Nat.le_trans (Nat.div_le_self _ _) hr
    have h3 : ¬ ((vT V : Int) = 0) := by omega
    generalize hqq : r / vT V ^ i = qq at *
    have e5 : r / vT V ^ (i + 1) = qq / vT V := by rw [Nat.pow_succ, ← Nat.div_div_eq_div_mul, hqq]
    rw [e5] at e
    have hz : ((qq : Int)).tdiv (vT V : Int) = ((qq / vT V : Nat) : Int) := (Int.ofNat_tdiv qq (vT V)).symm
    simp (disch := omega) only [↓kC R, ↓kT R, ↓kF R, ↓kL R, ↓kLk R, ↓kL0 R, ↓kL1 R, ↓kL2 R, ↓kL3 R, ↓kL4 R, ↓kL5 R, ↓kA0 R, ↓kA1 R, ↓kA2 R, ↓kA3 R, ↓kA4 R, ↓kA5 R, ↓kA6 R, ↓kA7 R, ↓kA8 R, ↓kA9 R, ↓kX0 R, ↓kX1 R, ↓kX2 R, ↓kX3 R, ↓kX4 R, ↓kX5 R, ↓kX6 R, ↓kX7 R, ↓kX8 R, ↓kX1m R, ↓kY0 R, ↓kY1 R, ↓kY2 R, ↓kY0m R, ↓kY1m R, ↓reduceIte, tf.1, if_true, if_false, Option.bind_some, b2_some, il0, il1, il2, il3, il4, il5, il6, il7, il8, il9, il10, il11, il12, il13, il14, il15, il16, il17, il18, il19, il20, il21, il22, il23, il24, il25, il26, il27, il28, il29, il30, il31, il32, il33, il36, il38, il39, il40, il41, il48, il50, il51, il57, il59, il60, il61, il62, il63, il70, il96, il99, il100, il101, il102, il103, il104, il105, il106, il107, il108, il109, il110, il111, il112, il115, il116, il120, il121, il124, il200, il240, il255, il288, il360, il420, il999, il1000, il114292, il152755, il402789, il435589, il463922, il533611, il631470, iz_add, iz_sub, iz_mul, iz_neg, iz_le, iz_lt, iz_eq, h2, h3, iz_div, hz, dig, ↓bo (st_wr (R.1.2 7 (by decide)).2 (show (0 : Int) ≤ (vF V : Int) - 1 - i by omega) (show (vF V : Int) - 1 - i < ((8 : Nat) : Int) by omega) (by decide)), ↓kT R1, vset_T]
    rw [show (vF V : Int) - 1 - (i : Int) + (-1) = (vF V : Int) - 1 - ((i + 1 : Nat) : Int) by omega]
    exact e
theorem l_settle {h : Mem} (R : RepC h c p V) (w : WF V) (q : CP c p) (hN : 200 ≤ N) {r : Nat} (hr : r ≤ 65536) : ∃ h', f_X1_settle N c (iz (r : Int)) h = some (iz (fitsI (stl V r (vF V))), h') ∧ RepC h' c p (stl V r (vF V)) ∧ KU c h h' := by
  have hF := w.F
  have hT := w.T
  unfold f_X1_settle
  by_cases h0 : vT V = 0
  · have hF0 : vF V = 0 := by
      rcases Nat.eq_zero_or_pos (vF V) with z | z
      · exact z
      · have := w.i (j := 0) (by omega) (by omega)
        have := w.f (j := 0) (by omega) (by omega)
        omega
    have z1 : (vT V : Int) = 0 := by omega
    have z2 : (vF V : Int) = 0 := by omega
    refine ⟨h, ?_, ?_, KU.rf⟩
    · have : fitsI (stl V r (vF V)) = 1 := by
        rw [hF0]
        show fitsI V = 1
        unfold fitsI
        rw [h0]
        rfl
      rw [this]
      simp (disch := omega) only [↓kC R, ↓kT R, ↓kF R, ↓kL R, ↓kLk R, ↓kL0 R, ↓kL1 R, ↓kL2 R, ↓kL3 R, ↓kL4 R, ↓kL5 R, ↓kA0 R, ↓kA1 R, ↓kA2 R, ↓kA3 R, ↓kA4 R, ↓kA5 R, ↓kA6 R, ↓kA7 R, ↓kA8 R, ↓kA9 R, ↓kX0 R, ↓kX1 R, ↓kX2 R, ↓kX3 R, ↓kX4 R, ↓kX5 R, ↓kX6 R, ↓kX7 R, ↓kX8 R, ↓kX1m R, ↓kY0 R, ↓kY1 R, ↓kY2 R, ↓kY0m R, ↓kY1m R, ↓reduceIte, if_true, if_false, Option.bind_some, b2_some, il0, il1, il2, il3, il4, il5, il6, il7, il8, il9, il10, il11, il12, il13, il14, il15, il16, il17, il18, il19, il20, il21, il22, il23, il24, il25, il26, il27, il28, il29, il30, il31, il32, il33, il36, il38, il39, il40, il41, il48, il50, il51, il57, il59, il60, il61, il62, il63, il70, il96, il99, il100, il101, il102, il103, il104, il105, il106, il107, il108, il109, il110, il111, il112, il115, il116, il120, il121, il124, il200, il240, il255, il288, il360, il420, il999, il1000, il114292, il152755, il402789, il435589, il463922, il533611, il631470, iz_add, iz_sub, iz_mul, iz_neg, iz_le, iz_lt, iz_eq, z1, z2]
    · rw [hF0]; exact R
  · have z1 : ¬ ((vT V : Int) = 0) := by omega
    obtain ⟨h', e, rr⟩ := l_settle_29 (h0 := h) w q hN hr (by omega) (vF V) 0 N h (by omega) (by omega) R KU.rf
    refine ⟨h', ?_, rr⟩
    simp (disch := omega) only [↓kC R, ↓kT R, ↓kF R, ↓kL R, ↓kLk R, ↓kL0 R, ↓kL1 R, ↓kL2 R, ↓kL3 R, ↓kL4 R, ↓kL5 R, ↓kA0 R, ↓kA1 R, ↓kA2 R, ↓kA3 R, ↓kA4 R, ↓kA5 R, ↓kA6 R, ↓kA7 R, ↓kA8 R, ↓kA9 R, ↓kX0 R, ↓kX1 R, ↓kX2 R, ↓kX3 R, ↓kX4 R, ↓kX5 R, ↓kX6 R, ↓kX7 R, ↓kX8 R, ↓kX1m R, ↓kY0 R, ↓kY1 R, ↓kY2 R, ↓kY0m R, ↓kY1m R, ↓reduceIte, if_true, if_false, Option.bind_some, b2_some, il0, il1, il2, il3, il4, il5, il6, il7, il8, il9, il10, il11, il12, il13, il14, il15, il16, il17, il18, il19, il20, il21, il22, il23, il24, il25, il26, il27, il28, il29, il30, il31, il32, il33, il36, il38, il39, il40, il41, il48, il50, il51, il57, il59, il60, il61, il62, il63, il70, il96, il99, il100, il101, il102, il103, il104, il105, il106, il107, il108, il109, il110, il111, il112, il115, il116, il120, il121, il124, il200, il240, il255, il288, il360, il420, il999, il1000, il114292, il152755, il402789, il435589, il463922, il533611, il631470, iz_add, iz_sub, iz_mul, iz_neg, iz_le, iz_lt, iz_eq, z1]
    rw [Nat.pow_zero, Nat.div_one, show (vF V : Int) - 1 - ((0 : Nat) : Int) = (vF V : Int) - 1 by omega] at e
    exact e
end
