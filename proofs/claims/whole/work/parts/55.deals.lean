/-! deals of sorts -/
def up {α : Type} (L : Nat → α) (s : Nat) (x : α) : Nat → α := fun j => if j = s then x else L j
def pl (V : Vw) (f s : Nat) : Nat := (va V 7 f * 4 + s).toNat
def gw (V : Vw) : Nat → Nat → (Nat → Int) → (Nat → Int) → Int → Int
  | 0, _, _, _, need => if 0 < need then 0 else 1
  | d + 1, f, L, D, need => sm (fun s => if L s = 0 then 0 else L s * gw V d (f + 1) (up L s (L s - 1)) (up D (pl V f s) (D (pl V f s) + 1)) (need - D (pl V f s))) 4
def gwS (V : Vw) (d f : Nat) (L D : Nat → Int) (need : Int) (s : Nat) : Int := if L s = 0 then 0 else L s * gw V d (f + 1) (up L s (L s - 1)) (up D (pl V f s) (D (pl V f s) + 1)) (need - D (pl V f s))
theorem gw_s {V : Vw} {d f : Nat} {L D : Nat → Int} {need : Int} : gw V (d + 1) f L D need = sm (gwS V d f L D need) 4 := rfl
def DS (h : Mem) : Prop := h.1[52]? = some (2, 0) ∧ (h.2.2.2 52 0 = some 53 ∧ h.1[53]? = some (100, 4)) ∧ (h.2.2.2 52 1 = some 54 ∧ h.1[54]? = some (100, 16))
theorem DS.eq {h h' : Mem} (r : DS h) (e1 : h'.1 = h.1) (e2 : h'.2.2.2 = h.2.2.2) : DS h' := by unfold DS at *; rw [e1, e2]; exact r
theorem wr_back {h : Mem} {x y : Nat} {a b b' a' : Nat → Int32} (hxy : x ≠ y) (e1 : b' = h.2.1 y) (e2 : a' = h.2.1 x) : wr (wr (wr (wr h x a) y b) y b') x a' = h := by
  subst e1 e2
  obtain ⟨h1, h2, h3, h4⟩ := h
  unfold wr
  dsimp only
  congr 2
  funext i
  unfold z2
  by_cases h5 : i = x
  · subst h5; rw [if_pos rfl]
  · rw [if_neg h5]
    by_cases h6 : i = y
    · subst h6; rw [if_pos rfl]
    · rw [if_neg h6, if_neg h6, if_neg h5]
section
variable {c p : Nat} {V : Vw} {N : Nat}
theorem k52c {h : Mem} {γ : Type} {k : Unit → Option γ} (S : DS h) : (ck h 52 2).bind k = k () := bo (ck_q S.1)
theorem k53 {h : Mem} {γ : Type} {k : Nat → Option γ} (S : DS h) : (gR h 52 2 0).bind k = k 53 := bo (gR_q S.1 S.2.1.1)
theorem k54 {h : Mem} {γ : Type} {k : Nat → Option γ} (S : DS h) : (gR h 52 2 1).bind k = k 54 := bo (gR_q S.1 S.2.2.1)
theorem kL53 {h : Mem} {γ : Type} {z : Int} {k : Int32 → Option γ} (S : DS h) (h0 : 0 ≤ z) (h1 : z < 4) : (lI 100 h 53 (iz z)).bind k = k (h.2.1 53 z.toNat) := bo (lI_q S.2.1.2 h0 h1 (by decide))
theorem kL54 {h : Mem} {γ : Type} {z : Int} {k : Int32 → Option γ} (S : DS h) (h0 : 0 ≤ z) (h1 : z < 16) : (lI 100 h 54 (iz z)).bind k = k (h.2.1 54 z.toNat) := bo (lI_q S.2.2.2 h0 h1 (by decide))
theorem kS53 {h : Mem} {γ : Type} {z : Int} {v : Int32} {k : Mem → Option γ} (S : DS h) (h0 : 0 ≤ z) (h1 : z < 4) : (stI 100 h 53 (iz z) v).bind k = k (wr h 53 (upd (h.2.1 53) z.toNat v)) := bo (st_wr S.2.1.2 h0 h1 (by decide))
theorem kS54 {h : Mem} {γ : Type} {z : Int} {v : Int32} {k : Mem → Option γ} (S : DS h) (h0 : 0 ≤ z) (h1 : z < 16) : (stI 100 h 54 (iz z) v).bind k = k (wr h 54 (upd (h.2.1 54) z.toNat v)) := bo (st_wr S.2.2.2 h0 h1 (by decide))
theorem upd_up {row : Nat → Int32} {L : Nat → Int} {n s : Nat} {x : Int} (h : ∀ j, j < n → row j = iz (L j)) : ∀ j, j < n → upd row s (iz x) j = iz (up L s x j) := by
  intro j hj
  rw [upd_at]
  unfold up
  split
  · rfl
  · exact h j hj
theorem l_gw (w : WF V) (q : CP c p) (hN : 200 ≤ N) : ∀ (d f m : Nat) (L D : Nat → Int) (need : Int) (h : Mem), f + d = vF V → d ≤ m → RepC h c p V → DS h → (∀ j, j < 4 → h.2.1 53 j = iz (L j)) → (∀ j, j < 16 → h.2.1 54 j = iz (D j)) → (∀ j, 0 ≤ L j ∧ L j ≤ 8) → (∀ j, 0 ≤ D j ∧ D j + d ≤ 8) → (-200 + 10 * d ≤ need ∧ need ≤ 64) → f_X2_ways (FD_X2_ways N m) N 52 c (iz f) (iz need) h = some (iz (gw V d f L D need), h) := by
  intro d
  have hF := w.F
  have hT := w.T
  induction d with
  | zero =>
    intro f m L D need h hf hm R S r1 r2 b1 b2 b3
    unfold f_X2_ways
    have h1 : ¬ ((f : Int) < vF V) := by omega
    unfold gw
    by_cases h2 : 0 < need
    · simp (disch := omega) only [↓kC R, ↓kT R, ↓kF R, ↓kL R, ↓kLk R, ↓kL0 R, ↓kL1 R, ↓kL2 R, ↓kL3 R, ↓kL4 R, ↓kL5 R, ↓kA0 R, ↓kA1 R, ↓kA2 R, ↓kA3 R, ↓kA4 R, ↓kA5 R, ↓kA6 R, ↓kA7 R, ↓kA8 R, ↓kA9 R, ↓kX0 R, ↓kX1 R, ↓kX2 R, ↓kX3 R, ↓kX4 R, ↓kX5 R, ↓kX6 R, ↓kX7 R, ↓kX8 R, ↓kX1m R, ↓kY0 R, ↓kY1 R, ↓kY2 R, ↓kY0m R, ↓kY1m R, ↓reduceIte, if_true, if_false, Option.bind_some, b2_some, il0, il1, il2, il3, il4, il5, il6, il7, il8, il9, il10, il11, il12, il13, il14, il15, il16, il17, il18, il19, il20, il21, il22, il23, il24, il25, il26, il27, il28, il29, il30, il31, il32, il33, il36, il38, il39, il40, il41, il48, il50, il51, il57, il59, il60, il61, il62, il63, il70, il96, il99, il100, il101, il102, il103, il104, il105, il106, il107, il108, il109, il110, il111, il112, il115, il116, il120, il121, il124, il200, il240, il255, il288, il360, il420, il999, il1000, il114292, il152755, il402789, il435589, il463922, il533611, il631470, iz_add, iz_sub, iz_mul, iz_neg, iz_le, iz_lt, iz_eq, h1, h2]
    · simp (disch := omega) only [↓kC R, ↓kT R, ↓kF R, ↓kL R, ↓kLk R, ↓kL0 R, ↓kL1 R, ↓kL2 R, ↓kL3 R, ↓kL4 R, ↓kL5 R, ↓kA0 R, ↓kA1 R, ↓kA2 R, ↓kA3 R, ↓kA4 R, ↓kA5 R, ↓kA6 R, ↓kA7 R, ↓kA8 R, ↓kA9 R, ↓kX0 R, ↓kX1 R, ↓kX2 R, ↓kX3 R, ↓kX4 R, ↓kX5 R, ↓kX6 R, ↓kX7 R, ↓kX8 R, ↓kX1m R, ↓kY0 R, ↓kY1 R, ↓kY2 R, ↓kY0m R, ↓kY1m R, ↓reduceIte, if_true, if_false, Option.bind_some, b2_some, il0, il1, il2, il3, il4, il5, il6, il7, il8, il9, il10, il11, il12, il13, il14, il15, il16, il17, il18, il19, il20, il21, il22, il23, il24, il25, il26, il27, il28, il29, il30, il31, il32, il33, il36, il38, il39, il40, il41, il48, il50, il51, il57, il59, il60, il61, il62, il63, il70, il96, il99, il100, il101, il102, il103, il104, il105, il106, il107, il108, il109, il110, il111, il112, il115, il116, il120, il121, il124, il200, il240, il255, il288, il360, il420, il999, il1000, il114292, il152755, il402789, il435589, il463922, il533611, il631470, iz_add, iz_sub, iz_mul, iz_neg, iz_le, iz_lt, iz_eq, h1, h2]
  | succ d ih =>
    intro f m L D need h hf hm R S r1 r2 b1 b2 b3
    obtain ⟨m, rfl⟩ : ∃ k, m = k + 1 := ⟨m - 1, by omega⟩
    have hff := w.f (j := f) (by omega) (by omega)
    have loop : ∀ (e i n : Nat), i + e = 4 → e < n → f_X2_ways_24 (FD_X2_ways N (m + 1)) N n 52 c (iz f) (iz need) (iz (sm (gwS V d f L D need) i)) (iz i) h = some (iz (sm (gwS V d f L D need) 4), h) := by
      intro e
      induction e with
      | zero =>
        intro i n hi hn
        obtain ⟨n, rfl⟩ : ∃ k, n = k + 1 := ⟨n - 1, by omega⟩
        obtain rfl : i = 4 := by omega
        rw [f_X2_ways_24]
        simp (disch := omega) only [if_true, if_false, Option.bind_some, b2_some, il0, il1, il2, il3, il4, il5, il6, il7, il8, il9, il10, il11, il12, il13, il14, il15, il16, il17, il18, il19, il20, il21, il22, il23, il24, il25, il26, il27, il28, il29, il30, il31, il32, il33, il36, il38, il39, il40, il41, il48, il50, il51, il57, il59, il60, il61, il62, il63, il70, il96, il99, il100, il101, il102, il103, il104, il105, il106, il107, il108, il109, il110, il111, il112, il115, il116, il120, il121, il124, il200, il240, il255, il288, il360, il420, il999, il1000, il114292, il152755, il402789, il435589, il463922, il533611, il631470, iz_add, iz_sub, iz_mul, iz_neg, iz_le, iz_lt, iz_eq]
        rfl
      | succ e ih2 =>
        intro i n hi hn
        obtain ⟨n, rfl⟩ : ∃ k, n = k + 1 := ⟨n - 1, by omega⟩
        rw [f_X2_ways_24]
        have hc : ¬ ((4 : Int) ≤ i) := by omega
        have e2 := ih2 (i + 1) n (by omega) (by omega)
        rw [sm_succ] at e2
        have l1 : h.2.1 53 i = iz (L i) := r1 i (by omega)
        have bL := b1 i
        by_cases h0 : L i = 0
        · have e3 : gwS V d f L D need i = 0 := if_pos h0
          rw [e3] at e2
          simp (disch := omega) only [↓k53 S, ↓kL53 S, ↓reduceIte, if_true, if_false, Option.bind_some, b2_some, il0, il1, il2, il3, il4, il5, il6, il7, il8, il9, il10, il11, il12, il13, il14, il15, il16, il17, il18, il19, il20, il21, il22, il23, il24, il25, il26, il27, il28, il29, il30, il31, il32, il33, il36, il38, il39, il40, il41, il48, il50, il51, il57, il59, il60, il61, il62, il63, il70, il96, il99, il100, il101, il102, il103, il104, il105, il106, il107, il108, il109, il110, il111, il112, il115, il116, il120, il121, il124, il200, il240, il255, il288, il360, il420, il999, il1000, il114292, il152755, il402789, il435589, il463922, il533611, il631470, iz_add, iz_sub, iz_mul, iz_neg, iz_le, iz_lt, iz_eq, hc, toN, l1, h0]
          simpa using e2
        · have e3 : gwS V d f L D need i = L i * gw V d (f + 1) (up L i (L i - 1)) (up D (pl V f i) (D (pl V f i) + 1)) (need - D (pl V f i)) := if_neg h0
          rw [e3] at e2
          let h1 : Mem := wr h 53 (upd (h.2.1 53) i (iz (L i - 1)))
          have S1 : DS h1 := S
          have R1 : RepC h1 c p V := rep_oth R q (by decide)
          have hz : (va V 7 f * 4 + (i : Int)).toNat = pl V f i := rfl
          have hpl : pl V f i < 16 := by unfold pl; omega
          have l2 : h1.2.1 54 (pl V f i) = iz (D (pl V f i)) := by
            show (wr h 53 _).2.1 54 _ = _
            rw [wr_ne (by decide)]; exact r2 _ hpl
          let h2 : Mem := wr h1 54 (upd (h1.2.1 54) (pl V f i) (iz (D (pl V f i) + 1)))
          have S2 : DS h2 := S
          have R2 : RepC h2 c p V := rep_oth R1 q (by decide)
          have bD := b2 (pl V f i)
          have t1 : ∀ j, j < 4 → h2.2.1 53 j = iz (up L i (L i - 1) j) := by
            intro j hj
            show (wr h1 54 _).2.1 53 j = _
            rw [wr_ne (by decide)]
            show (wr h 53 _).2.1 53 j = _
            rw [wr_eq]
            exact upd_up r1 j hj
          have t2 : ∀ j, j < 16 → h2.2.1 54 j = iz (up D (pl V f i) (D (pl V f i) + 1) j) := by
            intro j hj
            show (wr h1 54 _).2.1 54 j = _
            rw [wr_eq]
            refine upd_up (n := 16) (fun j hj => ?_) j hj
            show (wr h 53 _).2.1 54 j = _
            rw [wr_ne (by decide)]
            exact r2 j hj
          have er := ih (f + 1) m (up L i (L i - 1)) (up D (pl V f i) (D (pl V f i) + 1)) (need - D (pl V f i)) h2 (by omega) (by omega) R2 S2 t1 t2 (fun j => by
            unfold up
            split
            · omega
            · exact b1 j) (fun j => by
            unfold up
            have := b2 j
            split <;> omega) (by omega)
          have er2 : FD_X2_ways N (m + 1) 52 c (iz ((f : Int) + 1)) (iz (need - D (pl V f i))) h2 = _ := er
          have e53 : (h2.2.1 53 i : Int32) = iz (L i - 1) := by rw [t1 i (by omega)]; unfold up; rw [if_pos rfl]
          have e54 : (h2.2.1 54 (pl V f i) : Int32) = iz (D (pl V f i) + 1) := by rw [t2 _ hpl]; unfold up; rw [if_pos rfl]
          have back : wr (wr h2 54 (upd (h2.2.1 54) (pl V f i) (iz (D (pl V f i) + 1 - 1)))) 53 (upd ((wr h2 54 (upd (h2.2.1 54) (pl V f i) (iz (D (pl V f i) + 1 - 1)))).2.1 53) i (iz (L i - 1 + 1))) = h := by
            refine wr_back (by decide) ?_ ?_
            · funext j
              rw [upd_at]
              show (if j = pl V f i then _ else (wr h1 54 _).2.1 54 j) = _
              rw [wr_eq]
              by_cases hj : j = pl V f i
              · rw [if_pos hj, hj, r2 _ hpl]; congr 1; omega
              · rw [if_neg hj, upd_at, if_neg hj]
                show (wr h 53 _).2.1 54 j = _
                rw [wr_ne (by decide)]
            · funext j
              rw [upd_at, wr_ne (by decide)]
              by_cases hj : j = i
              · rw [if_pos hj, hj, l1]; congr 1; omega
              · rw [if_neg hj]
                show (wr h1 54 _).2.1 53 j = _
                rw [wr_ne (by decide)]
                show (wr h 53 _).2.1 53 j = _
                rw [wr_eq, upd_at, if_neg hj]
          have S3 : DS (wr h2 54 (upd (h2.2.1 54) (pl V f i) (iz (D (pl V f i) + 1 - 1)))) := S
          have e53' : ((wr h2 54 (upd (h2.2.1 54) (pl V f i) (iz (D (pl V f i) + 1 - 1)))).2.1 53 i : Int32) = iz (L i - 1) := by rw [wr_ne (by decide)]; exact e53
          simp (disch := omega) only [↓k53 S, ↓kL53 S, ↓kS53 S, ↓reduceIte, if_true, if_false, Option.bind_some, b2_some, il0, il1, il2, il3, il4, il5, il6, il7, il8, il9, il10, il11, il12, il13, il14, il15, il16, il17, il18, il19, il20, il21, il22, il23, il24, il25, il26, il27, il28, il29, il30, il31, il32, il33, il36, il38, il39, il40, il41, il48, il50, il51, il57, il59, il60, il61, il62, il63, il70, il96, il99, il100, il101, il102, il103, il104, il105, il106, il107, il108, il109, il110, il111, il112, il115, il116, il120, il121, il124, il200, il240, il255, il288, il360, il420, il999, il1000, il114292, il152755, il402789, il435589, il463922, il533611, il631470, iz_add, iz_sub, iz_mul, iz_neg, iz_le, iz_lt, iz_eq, hc, toN, l1, h0]
          rw [show wr h 53 (upd (h.2.1 53) i (iz (L i - 1))) = h1 from rfl]
          simp (disch := omega) only [↓kA7 R1, ↓kX7 R1, ↓k54 S1, ↓kL54 S1, ↓kS54 S1, if_true, if_false, Option.bind_some, b2_some, il0, il1, il2, il3, il4, il5, il6, il7, il8, il9, il10, il11, il12, il13, il14, il15, il16, il17, il18, il19, il20, il21, il22, il23, il24, il25, il26, il27, il28, il29, il30, il31, il32, il33, il36, il38, il39, il40, il41, il48, il50, il51, il57, il59, il60, il61, il62, il63, il70, il96, il99, il100, il101, il102, il103, il104, il105, il106, il107, il108, il109, il110, il111, il112, il115, il116, il120, il121, il124, il200, il240, il255, il288, il360, il420, il999, il1000, il114292, il152755, il402789, il435589, il463922, il533611, il631470, iz_add, iz_sub, iz_mul, iz_neg, iz_le, iz_lt, iz_eq, hz, l2]
          rw [show wr h1 54 (upd (h1.2.1 54) (pl V f i) (iz (D (pl V f i) + 1))) = h2 from rfl]
          simp (disch := omega) only [↓k52c S2, ↓bq er2, ↓k54 S2, ↓kL54 S2, ↓kS54 S2, if_true, if_false, Option.bind_some, b2_some, il0, il1, il2, il3, il4, il5, il6, il7, il8, il9, il10, il11, il12, il13, il14, il15, il16, il17, il18, il19, il20, il21, il22, il23, il24, il25, il26, il27, il28, il29, il30, il31, il32, il33, il36, il38, il39, il40, il41, il48, il50, il51, il57, il59, il60, il61, il62, il63, il70, il96, il99, il100, il101, il102, il103, il104, il105, il106, il107, il108, il109, il110, il111, il112, il115, il116, il120, il121, il124, il200, il240, il255, il288, il360, il420, il999, il1000, il114292, il152755, il402789, il435589, il463922, il533611, il631470, iz_add, iz_sub, iz_mul, iz_neg, iz_le, iz_lt, iz_eq, hz, e54, ↓k53 S3, ↓kL53 S3, ↓kS53 S3, toN, e53', back]
          exact e2
    unfold f_X2_ways
    have h1 : (f : Int) < vF V := by omega
    have e := loop 4 0 N (by omega) (by omega)
    simp (disch := omega) only [↓kC R, ↓kT R, ↓kF R, ↓kL R, ↓kLk R, ↓kL0 R, ↓kL1 R, ↓kL2 R, ↓kL3 R, ↓kL4 R, ↓kL5 R, ↓kA0 R, ↓kA1 R, ↓kA2 R, ↓kA3 R, ↓kA4 R, ↓kA5 R, ↓kA6 R, ↓kA7 R, ↓kA8 R, ↓kA9 R, ↓kX0 R, ↓kX1 R, ↓kX2 R, ↓kX3 R, ↓kX4 R, ↓kX5 R, ↓kX6 R, ↓kX7 R, ↓kX8 R, ↓kX1m R, ↓kY0 R, ↓kY1 R, ↓kY2 R, ↓kY0m R, ↓kY1m R, ↓reduceIte, if_true, if_false, Option.bind_some, b2_some, il0, il1, il2, il3, il4, il5, il6, il7, il8, il9, il10, il11, il12, il13, il14, il15, il16, il17, il18, il19, il20, il21, il22, il23, il24, il25, il26, il27, il28, il29, il30, il31, il32, il33, il36, il38, il39, il40, il41, il48, il50, il51, il57, il59, il60, il61, il62, il63, il70, il96, il99, il100, il101, il102, il103, il104, il105, il106, il107, il108, il109, il110, il111, il112, il115, il116, il120, il121, il124, il200, il240, il255, il288, il360, il420, il999, il1000, il114292, il152755, il402789, il435589, il463922, il533611, il631470, iz_add, iz_sub, iz_mul, iz_neg, iz_le, iz_lt, iz_eq, h1]
    exact e
end
