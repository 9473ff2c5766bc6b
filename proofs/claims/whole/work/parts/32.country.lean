section
variable {h : Mem} {c p : Nat} {V : Vw} {N : Nat}
theorem rC (R : RepC h c p V) : ck h c 1 = some () := ck_q R.1.1
theorem rT (R : RepC h c p V) : gI h c 1 1 = some (iz (vT V)) := by rw [gI_q R.1.1, R.2.1]
theorem rF (R : RepC h c p V) : gI h c 1 2 = some (iz (vF V)) := by rw [gI_q R.1.1, R.2.2.1]
theorem rA (R : RepC h c p V) (k : Nat) (hk : k < 10) : gR h c 1 (k + 3) = some (ar c k) := gR_q R.1.1 (R.1.2 k hk).1
theorem rA0 (R : RepC h c p V) : gR h c 1 3 = some (ar c 0) := rA R 0 (by decide)
theorem rA1 (R : RepC h c p V) : gR h c 1 4 = some (ar c 1) := rA R 1 (by decide)
theorem rA2 (R : RepC h c p V) : gR h c 1 5 = some (ar c 2) := rA R 2 (by decide)
theorem rA3 (R : RepC h c p V) : gR h c 1 6 = some (ar c 3) := rA R 3 (by decide)
theorem rA4 (R : RepC h c p V) : gR h c 1 7 = some (ar c 4) := rA R 4 (by decide)
theorem rA5 (R : RepC h c p V) : gR h c 1 8 = some (ar c 5) := rA R 5 (by decide)
theorem rA6 (R : RepC h c p V) : gR h c 1 9 = some (ar c 6) := rA R 6 (by decide)
theorem rA7 (R : RepC h c p V) : gR h c 1 10 = some (ar c 7) := rA R 7 (by decide)
theorem rA8 (R : RepC h c p V) : gR h c 1 11 = some (ar c 8) := rA R 8 (by decide)
theorem rA9 (R : RepC h c p V) : gR h c 1 12 = some (ar c 9) := rA R 9 (by decide)
theorem rL (R : RepC h c p V) : gR h c 1 0 = some p := gR_q R.1.1 R.2.2.2.2.1
theorem rLk (R : RepC h c p V) : ck h p 3 = some () := ck_q R.2.2.2.2.2.1
theorem rL0 (R : RepC h c p V) : gR h p 3 0 = some (p + 1) := gR_q R.2.2.2.2.2.1 R.2.2.2.2.2.2.1.1
theorem rL1 (R : RepC h c p V) : gR h p 3 1 = some (p + 2) := gR_q R.2.2.2.2.2.1 R.2.2.2.2.2.2.2.1.1
theorem rL2 (R : RepC h c p V) : gR h p 3 2 = some (p + 3) := gR_q R.2.2.2.2.2.1 R.2.2.2.2.2.2.2.2.1.1
theorem rL3 (R : RepC h c p V) : gI h p 3 3 = some (iz (va V 12 0)) := by rw [gI_q R.2.2.2.2.2.1, R.2.2.2.2.2.2.2.2.2.2.2.2.2.1]
theorem rL4 (R : RepC h c p V) : gI h p 3 4 = some (iz (va V 12 1)) := by rw [gI_q R.2.2.2.2.2.1, R.2.2.2.2.2.2.2.2.2.2.2.2.2.2.1]
theorem rL5 (R : RepC h c p V) : gI h p 3 5 = some (iz (va V 12 2)) := by rw [gI_q R.2.2.2.2.2.1, R.2.2.2.2.2.2.2.2.2.2.2.2.2.2.2.1]
theorem rX (R : RepC h c p V) {k : Nat} (hk : k < 9) {z : Int} (h0 : 0 ≤ z) (h1 : z < ln k) : lI 100 h (ar c k) (iz z) = some (iz (va V k z)) := by
  have hl : ln k ≤ 12 := by
    have : ∀ k, k < 9 → ln k ≤ 12 := by decide
    exact this k hk
  rw [lI_q (R.1.2 k (by omega)).2 h0 h1 (by omega), R.2.2.2.1 k hk z.toNat (by omega), Int.toNat_of_nonneg h0]
theorem rX0 (R : RepC h c p V) {z : Int} (h0 : 0 ≤ z) (h1 : z < 4) : lI 100 h (ar c 0) (iz z) = some (iz (va V 0 z)) := rX R (by decide) h0 h1
theorem rX1 (R : RepC h c p V) {z : Int} (h0 : 0 ≤ z) (h1 : z < 12) : lI 100 h (ar c 1) (iz z) = some (iz (va V 1 z)) := rX R (by decide) h0 h1
theorem rX2 (R : RepC h c p V) {z : Int} (h0 : 0 ≤ z) (h1 : z < 4) : lI 100 h (ar c 2) (iz z) = some (iz (va V 2 z)) := rX R (by decide) h0 h1
theorem rX3 (R : RepC h c p V) {z : Int} (h0 : 0 ≤ z) (h1 : z < 4) : lI 100 h (ar c 3) (iz z) = some (iz (va V 3 z)) := rX R (by decide) h0 h1
theorem rX4 (R : RepC h c p V) {z : Int} (h0 : 0 ≤ z) (h1 : z < 4) : lI 100 h (ar c 4) (iz z) = some (iz (va V 4 z)) := rX R (by decide) h0 h1
theorem rX5 (R : RepC h c p V) {z : Int} (h0 : 0 ≤ z) (h1 : z < 8) : lI 100 h (ar c 5) (iz z) = some (iz (va V 5 z)) := rX R (by decide) h0 h1
theorem rX6 (R : RepC h c p V) {z : Int} (h0 : 0 ≤ z) (h1 : z < 8) : lI 100 h (ar c 6) (iz z) = some (iz (va V 6 z)) := rX R (by decide) h0 h1
theorem rX7 (R : RepC h c p V) {z : Int} (h0 : 0 ≤ z) (h1 : z < 8) : lI 100 h (ar c 7) (iz z) = some (iz (va V 7 z)) := rX R (by decide) h0 h1
theorem rX8 (R : RepC h c p V) {z : Int} (h0 : 0 ≤ z) (h1 : z < 8) : lI 100 h (ar c 8) (iz z) = some (iz (va V 8 z)) := rX R (by decide) h0 h1
theorem rY0 (R : RepC h c p V) {z : Int} (h0 : 0 ≤ z) (h1 : z < 12) : lI 100 h (p + 1) (iz z) = some (iz (va V 9 z)) := by
  rw [lI_q R.2.2.2.2.2.2.1.2 h0 h1 (by decide), R.2.2.2.2.2.2.2.2.2.2.1 z.toNat (by omega), Int.toNat_of_nonneg h0]
theorem rY1 (R : RepC h c p V) {z : Int} (h0 : 0 ≤ z) (h1 : z < 16) : lI 100 h (p + 2) (iz z) = some (iz (va V 10 z)) := by
  rw [lI_q R.2.2.2.2.2.2.2.1.2 h0 h1 (by decide), R.2.2.2.2.2.2.2.2.2.2.2.1 z.toNat (by omega), Int.toNat_of_nonneg h0]
theorem rY2 (R : RepC h c p V) {z : Int} (h0 : 0 ≤ z) (h1 : z < 3) : lI 100 h (p + 3) (iz z) = some (iz (va V 11 z)) := by
  rw [lI_q R.2.2.2.2.2.2.2.2.1.2 h0 h1 (by decide), R.2.2.2.2.2.2.2.2.2.2.2.2.1 z.toNat (by omega), Int.toNat_of_nonneg h0]
theorem l_isAsIfIn (R : RepC h c p V) (w : WF V) {t o g : Int} (ht : 0 ≤ t ∧ t < 4) (ho : 0 ≤ o ∧ o < 8) (hg : 0 ≤ g ∧ g < 8) : f_X1_isAsIfIn N c (iz t) (iz o) (iz g) h = some (iz (if va V 7 o = t ∨ o = g then 1 else 0), h) := by
  have h7 := w.f ho.1 ho.2
  rw [f_X1_isAsIfIn]
  simp (disch := omega) only [rA7 R, rX7 R, f_X1_isAsIfIn_15, if_true, if_false, Option.bind_some, b2_some, il0, il1, il2, il3, il4, il5, il6, il7, il8, il9, il10, il11, il12, il13, il14, il15, il16, il17, il18, il19, il20, il21, il22, il23, il24, il25, il26, il27, il28, il29, il30, il31, il32, il33, il36, il38, il39, il40, il41, il48, il50, il51, il57, il59, il60, il61, il62, il63, il70, il96, il99, il100, il101, il102, il103, il104, il105, il106, il107, il108, il109, il110, il111, il112, il115, il116, il120, il121, il124, il200, il240, il255, il288, il360, il420, il999, il1000, il114292, il152755, il402789, il435589, il463922, il533611, il631470, iz_add, iz_sub, iz_mul, iz_neg, iz_le, iz_lt, iz_eq]
  by_cases h1 : va V 7 o = t
  · simp [h1]
  · by_cases h2 : o = g
    · simp [h1, h2]
    · simp [h1, h2]
theorem l_crowd_4 (R : RepC h c p V) (w : WF V) {t : Int} (ht : 0 ≤ t ∧ t < 4) : ∀ (d i n : Nat), i + d = vF V → d < n → f_X1_crowd_4 N n c (iz t) (iz (sm (fun f => if va V 7 f = t then 1 else 0) i)) (iz i) h = some (iz (cnt V t), h) := by
  intro d
  have hF := w.F
  induction d with
  | zero =>
    intro i n hi hn
    obtain ⟨n, rfl⟩ : ∃ k, n = k + 1 := ⟨n - 1, by omega⟩
    rw [f_X1_crowd_4]
    have hi : i = vF V := by omega
    subst hi
    simp (disch := omega) only [rF R, if_true, if_false, Option.bind_some, b2_some, il0, il1, il2, il3, il4, il5, il6, il7, il8, il9, il10, il11, il12, il13, il14, il15, il16, il17, il18, il19, il20, il21, il22, il23, il24, il25, il26, il27, il28, il29, il30, il31, il32, il33, il36, il38, il39, il40, il41, il48, il50, il51, il57, il59, il60, il61, il62, il63, il70, il96, il99, il100, il101, il102, il103, il104, il105, il106, il107, il108, il109, il110, il111, il112, il115, il116, il120, il121, il124, il200, il240, il255, il288, il360, il420, il999, il1000, il114292, il152755, il402789, il435589, il463922, il533611, il631470, iz_add, iz_sub, iz_mul, iz_neg, iz_le, iz_lt, iz_eq, if_pos]
    rfl
  | succ d ih =>
    intro i n hi hn
    obtain ⟨n, rfl⟩ : ∃ k, n = k + 1 := ⟨n - 1, by omega⟩
    rw [f_X1_crowd_4]
    have h7 := w.f (j := i) (by omega) (by omega)
    have hc : ¬ ((vF V : Int) ≤ i) := by omega
    have e := ih (i + 1) n (by omega) (by omega)
    simp (disch := omega) only [rF R, rA7 R, rX7 R, if_true, if_false, Option.bind_some, b2_some, il0, il1, il2, il3, il4, il5, il6, il7, il8, il9, il10, il11, il12, il13, il14, il15, il16, il17, il18, il19, il20, il21, il22, il23, il24, il25, il26, il27, il28, il29, il30, il31, il32, il33, il36, il38, il39, il40, il41, il48, il50, il51, il57, il59, il60, il61, il62, il63, il70, il96, il99, il100, il101, il102, il103, il104, il105, il106, il107, il108, il109, il110, il111, il112, il115, il116, il120, il121, il124, il200, il240, il255, il288, il360, il420, il999, il1000, il114292, il152755, il402789, il435589, il463922, il533611, il631470, iz_add, iz_sub, iz_mul, iz_neg, iz_le, iz_lt, iz_eq, if_neg hc]
    by_cases h1 : va V 7 i = t
    · simp only [h1, if_true]
      simpa [sm_succ, h1] using e
    · simp only [h1, if_false]
      simpa [sm_succ, h1] using e
theorem l_crowd (R : RepC h c p V) (w : WF V) (hN : 200 ≤ N) {t : Int} (ht : 0 ≤ t ∧ t < 4) : f_X1_crowd N c (iz t) h = some (iz (cnt V t), h) := by
  have hF := w.F
  exact l_crowd_4 R w ht (vF V) 0 N (by omega) (by omega)
end
