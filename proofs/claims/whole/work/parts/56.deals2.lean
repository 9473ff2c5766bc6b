def fct : Nat → Nat
  | 0 => 1
  | n + 1 => fct n * (n + 1)
def leftS (V : Vw) (n j : Nat) : Int := sm (fun f => if va V 5 f = (j : Int) then 1 else 0) n
def asSortedI (V : Vw) : Int := gw V (vF V) 0 (leftS V (vF V)) (fun _ => 0) (pairsI V (vF V))
/-- only the two rows of the deals differ -/
def KD (h h' : Mem) : Prop := h'.1 = h.1 ∧ h'.2.2 = h.2.2 ∧ ∀ i, i ≠ 53 → i ≠ 54 → h'.2.1 i = h.2.1 i
theorem KD.tr {h h1 h2 : Mem} (a : KD h h1) (b : KD h1 h2) : KD h h2 := ⟨b.1.trans a.1, b.2.1.trans a.2.1, fun i q1 q2 => (b.2.2 i q1 q2).trans (a.2.2 i q1 q2)⟩
theorem KD.wr {h : Mem} {a : Nat} {row : Nat → Int32} (ha : a = 53 ∨ a = 54) : KD h (wr h a row) := ⟨rfl, rfl, fun i q1 q2 => wr_ne (by rintro rfl; rcases ha with z | z <;> first | exact q1 z | exact q2 z)⟩
theorem leftS_bd {V : Vw} (n j : Nat) : 0 * (n : Int) ≤ leftS V n j ∧ leftS V n j ≤ 1 * n := sm_bd n (fun i _ => by split <;> omega)
section
variable {c p : Nat} {V : Vw} {N : Nat}
theorem l_ofAll_4 {h : Mem} (R : RepC h c p V) (hF : vF V ≤ 8) : ∀ (d i n : Nat), i + d = vF V + 1 → 1 ≤ i → d < n → f_X2_ofAll_4 N n c (iz (fct (i - 1) : Int)) (iz i) h = some (iz (fct (vF V + d - d) : Int), h) := by
  intro d
  induction d with
  | zero =>
    intro i n hi h1 hn
    obtain ⟨n, rfl⟩ : ∃ k, n = k + 1 := ⟨n - 1, by omega⟩
    rw [f_X2_ofAll_4]
    obtain rfl : i = vF V + 1 := by omega
    have h2 : (vF V : Int) < ((vF V + 1 : Nat) : Int) := by omega
    simp (disch := omega) only [↓kC R, ↓kT R, ↓kF R, ↓kL R, ↓kLk R, ↓kL0 R, ↓kL1 R, ↓kL2 R, ↓kL3 R, ↓kL4 R, ↓kL5 R, ↓kA0 R, ↓kA1 R, ↓kA2 R, ↓kA3 R, ↓kA4 R, ↓kA5 R, ↓kA6 R, ↓kA7 R, ↓kA8 R, ↓kA9 R, ↓kX0 R, ↓kX1 R, ↓kX2 R, ↓kX3 R, ↓kX4 R, ↓kX5 R, ↓kX6 R, ↓kX7 R, ↓kX8 R, ↓kX1m R, ↓kY0 R, ↓kY1 R, ↓kY2 R, ↓kY0m R, ↓kY1m R, ↓reduceIte, if_true, if_false, Option.bind_some, b2_some, il0, il1, il2, il3, il4, il5, il6, il7, il8, il9, il10, il11, il12, il13, il14, il15, il16, il17, il18, il19, il20, il21, il22, il23, il24, il25, il26, il27, il28, il29, il30, il31, il32, il33, il36, il38, il39, il40, il41, il48, il50, il51, il57, il59, il60, il61, il62, il63, il70, il96, il99, il100, il101, il102, il103, il104, il105, il106, il107, il108, il109, il110, il111, il112, il115, il116, il120, il121, il124, il200, il240, il255, il288, il360, il420, il999, il1000, il114292, il152755, il402789, il435589, il463922, il533611, il631470, iz_add, iz_sub, iz_mul, iz_neg, iz_le, iz_lt, iz_eq, h2]
    rfl
  | succ d ih =>
    intro i n hi h1 hn
    obtain ⟨n, rfl⟩ : ∃ k, n = k + 1 := ⟨n - 1, by omega⟩
    rw [f_X2_ofAll_4]
    have h2 : ¬ ((vF V : Int) < (i : Int)) := by omega
    have e := ih (i + 1) n (by omega) (by omega) (by omega)
    obtain ⟨j, rfl⟩ : ∃ j, i = j + 1 := ⟨i - 1, by omega⟩
    simp (disch := omega) only [↓kC R, ↓kT R, ↓kF R, ↓kL R, ↓kLk R, ↓kL0 R, ↓kL1 R, ↓kL2 R, ↓kL3 R, ↓kL4 R, ↓kL5 R, ↓kA0 R, ↓kA1 R, ↓kA2 R, ↓kA3 R, ↓kA4 R, ↓kA5 R, ↓kA6 R, ↓kA7 R, ↓kA8 R, ↓kA9 R, ↓kX0 R, ↓kX1 R, ↓kX2 R, ↓kX3 R, ↓kX4 R, ↓kX5 R, ↓kX6 R, ↓kX7 R, ↓kX8 R, ↓kX1m R, ↓kY0 R, ↓kY1 R, ↓kY2 R, ↓kY0m R, ↓kY1m R, ↓reduceIte, if_true, if_false, Option.bind_some, b2_some, il0, il1, il2, il3, il4, il5, il6, il7, il8, il9, il10, il11, il12, il13, il14, il15, il16, il17, il18, il19, il20, il21, il22, il23, il24, il25, il26, il27, il28, il29, il30, il31, il32, il33, il36, il38, il39, il40, il41, il48, il50, il51, il57, il59, il60, il61, il62, il63, il70, il96, il99, il100, il101, il102, il103, il104, il105, il106, il107, il108, il109, il110, il111, il112, il115, il116, il120, il121, il124, il200, il240, il255, il288, il360, il420, il999, il1000, il114292, il152755, il402789, il435589, il463922, il533611, il631470, iz_add, iz_sub, iz_mul, iz_neg, iz_le, iz_lt, iz_eq, h2]
    rw [show j + 1 + 1 - 1 = j + 1 by omega, fct, Int.natCast_mul] at e
    rw [show j + 1 - 1 = j by omega, show vF V + (d + 1) - (d + 1) = vF V + d - d by omega]
    exact e
theorem l_ofAll {h : Mem} (R : RepC h c p V) (hF : vF V ≤ 8) (hN : 200 ≤ N) (h1 : 1 ≤ vF V) {v0 : Nat} : f_X2_ofAll N v0 c h = some (iz (fct (vF V) : Int), h) := by
  have e := l_ofAll_4 (N := N) R hF (vF V - 1) 2 N (by omega) (by omega) (by omega)
  rw [show vF V + (vF V - 1) - (vF V - 1) = vF V by omega] at e
  exact e
theorem l_ofAll0 {h : Mem} (R : RepC h c p V) (hN : 200 ≤ N) (h1 : vF V = 0) {v0 : Nat} : f_X2_ofAll N v0 c h = some (iz (fct (vF V) : Int), h) := by
  unfold f_X2_ofAll
  obtain ⟨n, rfl⟩ : ∃ k, N = k + 1 := ⟨N - 1, by omega⟩
  rw [f_X2_ofAll_4]
  have h2 : (vF V : Int) < 2 := by omega
  simp (disch := omega) only [↓kC R, ↓kT R, ↓kF R, ↓kL R, ↓kLk R, ↓kL0 R, ↓kL1 R, ↓kL2 R, ↓kL3 R, ↓kL4 R, ↓kL5 R, ↓kA0 R, ↓kA1 R, ↓kA2 R, ↓kA3 R, ↓kA4 R, ↓kA5 R, ↓kA6 R, ↓kA7 R, ↓kA8 R, ↓kA9 R, ↓kX0 R, ↓kX1 R, ↓kX2 R, ↓kX3 R, ↓kX4 R, ↓kX5 R, ↓kX6 R, ↓kX7 R, ↓kX8 R, ↓kX1m R, ↓kY0 R, ↓kY1 R, ↓kY2 R, ↓kY0m R, ↓kY1m R, ↓reduceIte, if_true, if_false, Option.bind_some, b2_some, il0, il1, il2, il3, il4, il5, il6, il7, il8, il9, il10, il11, il12, il13, il14, il15, il16, il17, il18, il19, il20, il21, il22, il23, il24, il25, il26, il27, il28, il29, il30, il31, il32, il33, il36, il38, il39, il40, il41, il48, il50, il51, il57, il59, il60, il61, il62, il63, il70, il96, il99, il100, il101, il102, il103, il104, il105, il106, il107, il108, il109, il110, il111, il112, il115, il116, il120, il121, il124, il200, il240, il255, il288, il360, il420, il999, il1000, il114292, il152755, il402789, il435589, il463922, il533611, il631470, iz_add, iz_sub, iz_mul, iz_neg, iz_le, iz_lt, iz_eq, h2]
  rw [h1]
  rfl
theorem l_asSorted_18 {h0 : Mem} (w : WF V) (q : CP c p) (hN : 200 ≤ N) : ∀ (d i n : Nat) (h : Mem), i + d = vF V → d < n → RepC h c p V → DS h → (∀ j, j < 4 → h.2.1 53 j = iz (leftS V i j)) → (∀ j, j < 16 → h.2.1 54 j = iz 0) → KD h0 h → ∃ h', f_X2_asSorted_18 N n 52 c (iz i) h = some (iz (asSortedI V), h') ∧ RepC h' c p V ∧ KD h0 h' := by
  intro d
  have hF := w.F
  induction d with
  | zero =>
    intro i n h hi hn R S r1 r2 K
    obtain ⟨n, rfl⟩ : ∃ k, n = k + 1 := ⟨n - 1, by omega⟩
    rw [f_X2_asSorted_18]
    obtain rfl : i = vF V := by omega
    have hb := pairsI_bd (V := V) (vF V) hF
    have e := l_gw w q hN (vF V) 0 10 (leftS V (vF V)) (fun _ => 0) (pairsI V (vF V)) h (by omega) (by omega) R S r1 r2 (fun j => by have := leftS_bd (V := V) (vF V) j; omega) (fun j => by omega) (by omega)
    have e2 : F_X2_ways N 52 c (iz (0 : Nat)) (iz (pairsI V (vF V))) h = some (iz (asSortedI V), h) := e
    have e3 := l_pairs R w hN
    refine ⟨h, ?_, R, K⟩
    simp (disch := omega) only [↓kC R, ↓kT R, ↓kF R, ↓kL R, ↓kLk R, ↓kL0 R, ↓kL1 R, ↓kL2 R, ↓kL3 R, ↓kL4 R, ↓kL5 R, ↓kA0 R, ↓kA1 R, ↓kA2 R, ↓kA3 R, ↓kA4 R, ↓kA5 R, ↓kA6 R, ↓kA7 R, ↓kA8 R, ↓kA9 R, ↓kX0 R, ↓kX1 R, ↓kX2 R, ↓kX3 R, ↓kX4 R, ↓kX5 R, ↓kX6 R, ↓kX7 R, ↓kX8 R, ↓kX1m R, ↓kY0 R, ↓kY1 R, ↓kY2 R, ↓kY0m R, ↓kY1m R, ↓reduceIte, ↓bq e3, ↓k52c S, if_true, if_false, Option.bind_some, b2_some, il0, il1, il2, il3, il4, il5, il6, il7, il8, il9, il10, il11, il12, il13, il14, il15, il16, il17, il18, il19, il20, il21, il22, il23, il24, il25, il26, il27, il28, il29, il30, il31, il32, il33, il36, il38, il39, il40, il41, il48, il50, il51, il57, il59, il60, il61, il62, il63, il70, il96, il99, il100, il101, il102, il103, il104, il105, il106, il107, il108, il109, il110, il111, il112, il115, il116, il120, il121, il124, il200, il240, il255, il288, il360, il420, il999, il1000, il114292, il152755, il402789, il435589, il463922, il533611, il631470, iz_add, iz_sub, iz_mul, iz_neg, iz_le, iz_lt, iz_eq, Int.le_refl]
    exact bq e2
  | succ d ih =>
    intro i n h hi hn R S r1 r2 K
    obtain ⟨n, rfl⟩ : ∃ k, n = k + 1 := ⟨n - 1, by omega⟩
    rw [f_X2_asSorted_18]
    have hc : ¬ ((vF V : Int) ≤ i) := by omega
    have hf := w.f (j := i) (by omega) (by omega)
    obtain ⟨h', e, r⟩ := ih (i + 1) n (wr h 53 (upd (h.2.1 53) (va V 5 i).toNat (iz (leftS V i (va V 5 i).toNat + 1)))) (by omega) (by omega) (rep_oth R q (by decide)) S (fun j hj => by
      rw [wr_eq, upd_at]
      by_cases hji : j = (va V 5 i).toNat
      · rw [if_pos hji]
        have e1 : leftS V (i + 1) j = leftS V i j + 1 := by
          show sm _ (i + 1) = _
          rw [sm_succ, if_pos (by omega)]
          rfl
        rw [e1, hji]
      · rw [if_neg hji, r1 j hj]
        have e1 : leftS V (i + 1) j = leftS V i j := by
          show sm _ (i + 1) = _
          rw [sm_succ, if_neg (by omega)]
          exact Int.add_zero _
        rw [e1]) (fun j hj => by rw [wr_ne (by decide)]; exact r2 j hj) (K.tr (KD.wr (by simp)))
    refine ⟨h', ?_, r⟩
    have l1 : h.2.1 53 (va V 5 i).toNat = _ := r1 (va V 5 i).toNat (by omega)
    simp (disch := omega) only [↓kC R, ↓kT R, ↓kF R, ↓kL R, ↓kLk R, ↓kL0 R, ↓kL1 R, ↓kL2 R, ↓kL3 R, ↓kL4 R, ↓kL5 R, ↓kA0 R, ↓kA1 R, ↓kA2 R, ↓kA3 R, ↓kA4 R, ↓kA5 R, ↓kA6 R, ↓kA7 R, ↓kA8 R, ↓kA9 R, ↓kX0 R, ↓kX1 R, ↓kX2 R, ↓kX3 R, ↓kX4 R, ↓kX5 R, ↓kX6 R, ↓kX7 R, ↓kX8 R, ↓kX1m R, ↓kY0 R, ↓kY1 R, ↓kY2 R, ↓kY0m R, ↓kY1m R, ↓reduceIte, ↓k53 S, ↓kL53 S, ↓kS53 S, if_true, if_false, Option.bind_some, b2_some, il0, il1, il2, il3, il4, il5, il6, il7, il8, il9, il10, il11, il12, il13, il14, il15, il16, il17, il18, il19, il20, il21, il22, il23, il24, il25, il26, il27, il28, il29, il30, il31, il32, il33, il36, il38, il39, il40, il41, il48, il50, il51, il57, il59, il60, il61, il62, il63, il70, il96, il99, il100, il101, il102, il103, il104, il105, il106, il107, il108, il109, il110, il111, il112, il115, il116, il120, il121, il124, il200, il240, il255, il288, il360, il420, il999, il1000, il114292, il152755, il402789, il435589, il463922, il533611, il631470, iz_add, iz_sub, iz_mul, iz_neg, iz_le, iz_lt, iz_eq, hc, l1]
    exact e
theorem l_asSorted {h : Mem} (R : RepC h c p V) (w : WF V) (q : CP c p) (S : DS h) (hN : 200 ≤ N) : ∃ h', f_X2_asSorted N 52 c h = some (iz (asSortedI V), h') ∧ RepC h' c p V ∧ KD h h' := by
  have hF := w.F
  let h1 := wr h 53 (fun j => if j < 4 then (0 : Int32) else h.2.1 53 j)
  let h2 := wr h1 54 (fun j => if j < 16 then (0 : Int32) else h1.2.1 54 j)
  have S1 : DS h1 := S
  have S2 : DS h2 := S
  have e1 : f_J7_fill_53178 N 53 (0 : Int32) h = some h1 := l_fill (N := N) (v := 0) hN S.2.1.2 (by decide)
  have e2 : f_J7_fill_53178 N 54 (0 : Int32) h1 = some h2 := l_fill (N := N) (v := 0) hN S1.2.2.2 (by decide)
  obtain ⟨h', e, r⟩ := l_asSorted_18 (h0 := h) w q hN (vF V) 0 N h2 (by omega) (by omega) (rep_oth (rep_oth R q (by decide)) q (by decide)) S2 (fun j hj => by
    show (wr h1 54 _).2.1 53 j = _
    rw [wr_ne (by decide)]
    show (wr h 53 _).2.1 53 j = _
    rw [wr_eq, if_pos hj]; rfl) (fun j hj => by
    show (wr h1 54 _).2.1 54 j = _
    rw [wr_eq, if_pos hj]; rfl) ((KD.wr (by simp)).tr (KD.wr (by simp)))
  refine ⟨h', ?_, r⟩
  unfold f_X2_asSorted
  simp only [↓k53 S, ↓bo e1, ↓k54 S1, ↓bo e2]
  exact e
end
