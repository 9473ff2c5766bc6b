theorem mul_bd {a b A B : Int} (ha : 0 ≤ a ∧ a ≤ A) (hb : 0 ≤ b ∧ b ≤ B) : 0 ≤ a * b ∧ a * b ≤ A * B :=
  ⟨Int.mul_nonneg ha.1 hb.1, Int.mul_le_mul ha.2 hb.2 hb.1 (by omega)⟩
theorem mul_bd2 {a b A B C : Int} (ha : 0 ≤ a ∧ a ≤ A) (hb : -C ≤ b ∧ b ≤ B) (hC : 0 ≤ C) (hB : 0 ≤ B) : -(A * C) ≤ a * b ∧ a * b ≤ A * B := by
  have h1 : a * b ≤ a * B := Int.mul_le_mul_of_nonneg_left hb.2 ha.1
  have h2 : a * B ≤ A * B := Int.mul_le_mul_of_nonneg_right ha.2 hB
  have h3 : a * (-C) ≤ a * b := Int.mul_le_mul_of_nonneg_left hb.1 ha.1
  have h4 : a * C ≤ A * C := Int.mul_le_mul_of_nonneg_right ha.2 hC
  rw [Int.mul_neg] at h3
  omega
theorem gross_bd {V : Vw} (w : WF V) {t : Int} (ht : 0 ≤ t ∧ t < 4) (n : Nat) (hn : n ≤ 3) : 0 ≤ gross V t n ∧ gross V t n ≤ 14985 := by
  have h := sm_bd (g := fun g => va V 1 (t * 3 + g) * va V 11 g) (a := 0) (b := 4995) n (fun i hi => by
    have h1 := w.l (j := t * 3 + i) (by omega) (by omega)
    have h2 := w.c (j := i) (by omega) (by omega)
    exact mul_bd h1.1 h2)
  unfold gross
  omega
theorem cost_bd {V : Vw} (w : WF V) {t : Int} (ht : 0 ≤ t ∧ t < 4) : 0 ≤ cost V t ∧ cost V t ≤ 14985 := by
  have h := gross_bd w ht 3 (by omega)
  have h1 := w.t ht.1 ht.2
  unfold cost
  split <;> omega
theorem grt_bd {V : Vw} (w : WF V) {t g : Int} : ∀ (n : Nat), n ≤ 8 → 0 ≤ grt V t g n ∧ grt V t g n ≤ 99 := by
  intro n
  induction n with
  | zero => intro _; show (0 : Int) ≤ 0 ∧ (0 : Int) ≤ 99; omega
  | succ n ih =>
    intro hn
    have h := ih (by omega)
    have h1 := w.f (j := n) (by omega) (by omega)
    unfold grt
    split <;> omega
theorem share_bd {V : Vw} (w : WF V) {o gr : Int} (ho : 0 ≤ o ∧ o < 8) : 0 ≤ share V o gr ∧ share V o gr ≤ 99 := by
  have h1 := w.f ho.1 ho.2
  unfold share
  split
  · omega
  · split
    · omega
    · split <;> omega
theorem shares_bd {V : Vw} (w : WF V) {t g gr : Int} (n : Nat) (hn : n ≤ 8) : 0 ≤ shares V t g gr n ∧ shares V t g gr n ≤ 792 := by
  have h := sm_bd (g := fun o => if va V 7 o = t ∨ (o : Int) = g then share V o gr else 0) (a := 0) (b := 99) n (fun i hi => by
    have h1 := share_bd w (o := i) (gr := gr) (by omega)
    split <;> omega)
  unfold shares
  omega
theorem shares_succ {V : Vw} {t g gr : Int} (n : Nat) : shares V t g gr (n + 1) = shares V t g gr n + (if va V 7 n = t ∨ (n : Int) = g then share V n gr else 0) := rfl
theorem tdiv_bd {a b A : Int} (ha : 0 ≤ a ∧ a ≤ A) (hb : 0 ≤ b) : 0 ≤ a.tdiv b ∧ a.tdiv b ≤ A := by
  rw [Int.tdiv_eq_ediv_of_nonneg ha.1]
  exact ⟨Int.ediv_nonneg ha.1 hb, Int.le_trans (Int.ediv_le_self b ha.1) ha.2⟩
theorem part_bd {c s n : Int} (hc : 0 ≤ c ∧ c ≤ 14985) (hs : 0 ≤ s ∧ s ≤ 99) (hn : 0 ≤ n) : 0 ≤ part c s n ∧ part c s n ≤ 1483515 := by
  have h := mul_bd hc hs
  unfold part
  split
  · omega
  · exact tdiv_bd ⟨h.1, by omega⟩ hn
theorem dues_bd {V : Vw} (w : WF V) {f t : Int} (hf : 0 ≤ f ∧ f < 8) (ht : 0 ≤ t ∧ t < 4) : 0 ≤ dues V f t ∧ dues V f t ≤ 1483515 :=
  part_bd (cost_bd w ht) (share_bd w hf) (shares_bd w _ w.F).1
theorem like_bd {V : Vw} (w : WF V) {f t : Int} (hf : 0 ≤ f ∧ f < 8) (ht : 0 ≤ t ∧ t < 4) (n : Nat) (hn : n ≤ 3) : -300 ≤ likesum V f t n ∧ likesum V f t n ≤ 15285 := by
  have h5 := w.f hf.1 hf.2
  have h := sm_bd (g := fun g => va V 1 (t * 3 + g) * va V 9 (va V 5 f * 3 + g)) (a := -100) (b := 5095) n (fun i hi => by
    have h1 := w.l (j := t * 3 + i) (by omega) (by omega)
    have h2 := w.l (j := va V 5 f * 3 + i) (by omega) (by omega)
    have h3 := mul_bd2 (C := 20) h1.1 h2.2 (by omega) (by omega)
    omega)
  unfold likesum
  omega
theorem near_bd {V : Vw} (w : WF V) {f t : Int} (hf : 0 ≤ f ∧ f < 8) (n : Nat) (hn : n ≤ 8) : 0 ≤ nearsum V f t n ∧ nearsum V f t n ≤ 7992 := by
  have h5 := w.f hf.1 hf.2
  have h := sm_bd (g := fun o => if (o : Int) = f then 0 else if va V 7 o = t then va V 10 (va V 5 f * 4 + va V 5 o) else 0) (a := 0) (b := 999) n (fun i hi => by
    have h6 := w.f (j := i) (by omega) (by omega)
    have h1 := w.n (j := va V 5 f * 4 + va V 5 i) (by omega) (by omega)
    split
    · omega
    · split <;> omega)
  unfold nearsum
  omega
theorem heads_bd {V : Vw} {f t : Int} (n : Nat) : 1 ≤ heads V f t n ∧ heads V f t n ≤ n + 1 := by
  have h := sm_bd (g := fun o => if (o : Int) = f then 0 else if va V 7 o = t then 1 else 0) (a := 0) (b := 1) n (fun i hi => by
    split
    · omega
    · split <;> omega)
  unfold heads
  omega
/-- the one that asks is among those counted: fewer others than families -/
theorem heads_le {V : Vw} {f : Nat} {t : Int} : ∀ (n : Nat), f < n → heads V f t n ≤ n := by
  intro n
  induction n with
  | zero => intro h; omega
  | succ n ih =>
    intro h
    have e : heads V f t (n + 1) = heads V f t n + (if (n : Int) = f then 0 else if va V 7 n = t then 1 else 0) := by unfold heads; rw [sm_succ]; omega
    rw [e]
    by_cases hf : f = n
    · subst hf
      have := (heads_bd (V := V) (f := f) (t := t) f).2
      rw [if_pos rfl]
      omega
    · have := ih (by omega)
      split
      · omega
      · split <;> omega
theorem dist_bd {a b : Int} (ha : 0 ≤ a ∧ a ≤ 3) (hb : 0 ≤ b ∧ b ≤ 3) : 0 ≤ dist a b ∧ dist a b ≤ 3 := by unfold dist; split <;> omega
theorem mile_bd {V : Vw} (w : WF V) {f t : Int} (hf : 0 ≤ f ∧ f < 8) (ht : 0 ≤ t ∧ t < 4) : 0 ≤ va V 12 0 * dist (va V 8 f) t ∧ va V 12 0 * dist (va V 8 f) t ≤ 2997 := mul_bd w.m (dist_bd (w.f hf.1 hf.2).2.2.2 ⟨ht.1, by omega⟩)
theorem worth_bd {V : Vw} (w : WF V) {f t : Int} (hf : 0 ≤ f ∧ f < 8) (ht : 0 ≤ t ∧ t < 4) : -2000000 ≤ worth V f t ∧ worth V f t ≤ 2000000 := by
  have h1 := dues_bd w hf ht
  have h2 := (w.t ht.1 ht.2).2.1
  have h3 := like_bd w hf ht 3 (by omega)
  have h4 := near_bd w (t := t) hf (vF V) w.F
  have h5 := w.s (va V 5 f) (va V 6 f) t (heads V f t (vF V))
  have h6 := mile_bd w hf ht
  unfold worth
  omega
section
variable {h : Mem} {c p : Nat} {V : Vw} {N : Nat}
theorem l_greatest_5 (R : RepC h c p V) (w : WF V) {t g : Int} (ht : 0 ≤ t ∧ t < 4) (hg : 0 ≤ g ∧ g < 8) : ∀ (d i n : Nat), i + d = vF V → d < n → f_X1_greatestIncome_5 N n c (iz t) (iz g) (iz (grt V t g i)) (iz i) h = some (iz (grt V t g (vF V)), h) := by
  intro d
  have hF := w.F
  induction d with
  | zero =>
    intro i n hi hn
    obtain ⟨n, rfl⟩ : ∃ k, n = k + 1 := ⟨n - 1, by omega⟩
    rw [f_X1_greatestIncome_5]
    have hi : i = vF V := by omega
    subst hi
    simp (disch := omega) only [rF R, if_true, if_false, Option.bind_some, b2_some, il0, il1, il2, il3, il4, il5, il6, il7, il8, il9, il10, il11, il12, il13, il14, il15, il16, il17, il18, il19, il20, il21, il22, il23, il24, il25, il26, il27, il28, il29, il30, il31, il32, il33, il36, il38, il39, il40, il41, il48, il50, il51, il57, il59, il60, il61, il62, il63, il70, il96, il99, il100, il101, il102, il103, il104, il105, il106, il107, il108, il109, il110, il111, il112, il115, il116, il120, il121, il124, il200, il240, il255, il288, il360, il420, il999, il1000, il114292, il152755, il402789, il435589, il463922, il533611, il631470, iz_add, iz_sub, iz_mul, iz_neg, iz_le, iz_lt, iz_eq, if_pos]
  | succ d ih =>
    intro i n hi hn
    obtain ⟨n, rfl⟩ : ∃ k, n = k + 1 := ⟨n - 1, by omega⟩
    rw [f_X1_greatestIncome_5]
    have h7 := w.f (j := i) (by omega) (by omega)
    have hb := grt_bd w (t := t) (g := g) i (by omega)
    have hc : ¬ ((vF V : Int) ≤ i) := by omega
    have e := ih (i + 1) n (by omega) (by omega)
    simp (disch := omega) only [rF R, rC R, rA6 R, rX6 R, if_true, if_false, Option.bind_some, b2_some, il0, il1, il2, il3, il4, il5, il6, il7, il8, il9, il10, il11, il12, il13, il14, il15, il16, il17, il18, il19, il20, il21, il22, il23, il24, il25, il26, il27, il28, il29, il30, il31, il32, il33, il36, il38, il39, il40, il41, il48, il50, il51, il57, il59, il60, il61, il62, il63, il70, il96, il99, il100, il101, il102, il103, il104, il105, il106, il107, il108, il109, il110, il111, il112, il115, il116, il120, il121, il124, il200, il240, il255, il288, il360, il420, il999, il1000, il114292, il152755, il402789, il435589, il463922, il533611, il631470, iz_add, iz_sub, iz_mul, iz_neg, iz_le, iz_lt, iz_eq, if_neg hc, l_isAsIfIn R w ht _ hg]
    by_cases h1 : va V 7 i = t ∨ (i : Int) = g
    · simp (disch := omega) only [if_pos h1, if_true, if_false, Option.bind_some, b2_some, il0, il1, il2, il3, il4, il5, il6, il7, il8, il9, il10, il11, il12, il13, il14, il15, il16, il17, il18, il19, il20, il21, il22, il23, il24, il25, il26, il27, il28, il29, il30, il31, il32, il33, il36, il38, il39, il40, il41, il48, il50, il51, il57, il59, il60, il61, il62, il63, il70, il96, il99, il100, il101, il102, il103, il104, il105, il106, il107, il108, il109, il110, il111, il112, il115, il116, il120, il121, il124, il200, il240, il255, il288, il360, il420, il999, il1000, il114292, il152755, il402789, il435589, il463922, il533611, il631470, iz_add, iz_sub, iz_mul, iz_neg, iz_le, iz_lt, iz_eq, if_neg]
      by_cases h2 : grt V t g i < va V 6 i
      · have e1 : grt V t g (i + 1) = va V 6 i := by rw [grt, if_pos ⟨h1, h2⟩]
        rw [e1] at e
        simp (disch := omega) only [if_neg]
        exact e
      · have e1 : grt V t g (i + 1) = grt V t g i := by rw [grt, if_neg (fun q => h2 q.2)]
        rw [e1] at e
        simp (disch := omega) only [if_pos]
        exact e
    · have e1 : grt V t g (i + 1) = grt V t g i := by rw [grt, if_neg (fun q => h1 q.1)]
      rw [e1] at e
      simp (disch := omega) only [if_neg h1, if_true, if_false, Option.bind_some, b2_some, il0, il1, il2, il3, il4, il5, il6, il7, il8, il9, il10, il11, il12, il13, il14, il15, il16, il17, il18, il19, il20, il21, il22, il23, il24, il25, il26, il27, il28, il29, il30, il31, il32, il33, il36, il38, il39, il40, il41, il48, il50, il51, il57, il59, il60, il61, il62, il63, il70, il96, il99, il100, il101, il102, il103, il104, il105, il106, il107, il108, il109, il110, il111, il112, il115, il116, il120, il121, il124, il200, il240, il255, il288, il360, il420, il999, il1000, il114292, il152755, il402789, il435589, il463922, il533611, il631470, iz_add, iz_sub, iz_mul, iz_neg, iz_le, iz_lt, iz_eq, if_pos]
      exact e
theorem l_greatest (R : RepC h c p V) (w : WF V) (hN : 200 ≤ N) {t g : Int} (ht : 0 ≤ t ∧ t < 4) (hg : 0 ≤ g ∧ g < 8) : f_X1_greatestIncome N c (iz t) (iz g) h = some (iz (grt V t g (vF V)), h) := by
  have hF := w.F
  rw [f_X1_greatestIncome]
  exact l_greatest_5 R w ht hg (vF V) 0 N (by omega) (by omega)
theorem l_cost_10 (R : RepC h c p V) (w : WF V) {t : Int} (ht : 0 ≤ t ∧ t < 4) : ∀ (d i n : Nat), i + d = 3 → d < n → f_X1_costOf_10 N n c (iz t) (iz (-va V 4 t + gross V t i)) (iz i) h = some (iz (cost V t), h) := by
  intro d
  have h4 := w.t ht.1 ht.2
  induction d with
  | zero =>
    intro i n hi hn
    obtain ⟨n, rfl⟩ : ∃ k, n = k + 1 := ⟨n - 1, by omega⟩
    rw [f_X1_costOf_10]
    have hi : i = 3 := by omega
    subst hi
    have hg := gross_bd w ht 3 (by omega)
    simp (disch := omega) only [if_true, if_false, Option.bind_some, b2_some, il0, il1, il2, il3, il4, il5, il6, il7, il8, il9, il10, il11, il12, il13, il14, il15, il16, il17, il18, il19, il20, il21, il22, il23, il24, il25, il26, il27, il28, il29, il30, il31, il32, il33, il36, il38, il39, il40, il41, il48, il50, il51, il57, il59, il60, il61, il62, il63, il70, il96, il99, il100, il101, il102, il103, il104, il105, il106, il107, il108, il109, il110, il111, il112, il115, il116, il120, il121, il124, il200, il240, il255, il288, il360, il420, il999, il1000, il114292, il152755, il402789, il435589, il463922, il533611, il631470, iz_add, iz_sub, iz_mul, iz_neg, iz_le, iz_lt, iz_eq, if_pos]
    unfold cost
    split <;> rfl
  | succ d ih =>
    intro i n hi hn
    obtain ⟨n, rfl⟩ : ∃ k, n = k + 1 := ⟨n - 1, by omega⟩
    rw [f_X1_costOf_10]
    have hc : ¬ ((3 : Int) ≤ i) := by omega
    have e := ih (i + 1) n (by omega) (by omega)
    simp (disch := omega) only [rA1 R, rX1 R, rL R, rL2 R, rY2 R, if_true, if_false, Option.bind_some, b2_some, il0, il1, il2, il3, il4, il5, il6, il7, il8, il9, il10, il11, il12, il13, il14, il15, il16, il17, il18, il19, il20, il21, il22, il23, il24, il25, il26, il27, il28, il29, il30, il31, il32, il33, il36, il38, il39, il40, il41, il48, il50, il51, il57, il59, il60, il61, il62, il63, il70, il96, il99, il100, il101, il102, il103, il104, il105, il106, il107, il108, il109, il110, il111, il112, il115, il116, il120, il121, il124, il200, il240, il255, il288, il360, il420, il999, il1000, il114292, il152755, il402789, il435589, il463922, il533611, il631470, iz_add, iz_sub, iz_mul, iz_neg, iz_le, iz_lt, iz_eq, if_neg hc]
    rw [← e]
    congr 1
    apply iz_inj
    show _ = -va V 4 t + (gross V t i + va V 1 (t * 3 + i) * va V 11 i)
    omega
theorem l_cost (R : RepC h c p V) (w : WF V) (hN : 200 ≤ N) {t : Int} (ht : 0 ≤ t ∧ t < 4) : f_X1_costOf N c (iz t) h = some (iz (cost V t), h) := by
  rw [f_X1_costOf]
  simp (disch := omega) only [rA4 R, rX4 R, if_true, if_false, Option.bind_some, b2_some, il0, il1, il2, il3, il4, il5, il6, il7, il8, il9, il10, il11, il12, il13, il14, il15, il16, il17, il18, il19, il20, il21, il22, il23, il24, il25, il26, il27, il28, il29, il30, il31, il32, il33, il36, il38, il39, il40, il41, il48, il50, il51, il57, il59, il60, il61, il62, il63, il70, il96, il99, il100, il101, il102, il103, il104, il105, il106, il107, il108, il109, il110, il111, il112, il115, il116, il120, il121, il124, il200, il240, il255, il288, il360, il420, il999, il1000, il114292, il152755, il402789, il435589, il463922, il533611, il631470, iz_add, iz_sub, iz_mul, iz_neg, iz_le, iz_lt, iz_eq]
  have e := l_cost_10 R w ht (N := N) 3 0 N (by omega) (by omega)
  simpa [gross, sm] using e
theorem l_share (R : RepC h c p V) (w : WF V) {o gr : Int} (ho : 0 ≤ o ∧ o < 8) (hg : 0 ≤ gr ∧ gr ≤ 99) : f_X1_share N c (iz o) (iz gr) h = some (iz (share V o gr), h) := by
  have h6 := w.f ho.1 ho.2
  have hd := w.d
  rw [f_X1_share]
  simp (disch := omega) only [rA6 R, rX6 R, rL R, rL4 R, if_true, if_false, Option.bind_some, b2_some, il0, il1, il2, il3, il4, il5, il6, il7, il8, il9, il10, il11, il12, il13, il14, il15, il16, il17, il18, il19, il20, il21, il22, il23, il24, il25, il26, il27, il28, il29, il30, il31, il32, il33, il36, il38, il39, il40, il41, il48, il50, il51, il57, il59, il60, il61, il62, il63, il70, il96, il99, il100, il101, il102, il103, il104, il105, il106, il107, il108, il109, il110, il111, il112, il115, il116, il120, il121, il124, il200, il240, il255, il288, il360, il420, il999, il1000, il114292, il152755, il402789, il435589, il463922, il533611, il631470, iz_add, iz_sub, iz_mul, iz_neg, iz_le, iz_lt, iz_eq]
  unfold share
  split
  · rfl
  · split
    · rfl
    · split <;> rfl
theorem l_shares_6 (R : RepC h c p V) (w : WF V) {t g gr : Int} (ht : 0 ≤ t ∧ t < 4) (hg : 0 ≤ g ∧ g < 8) (hgr : 0 ≤ gr ∧ gr ≤ 99) : ∀ (d i n : Nat), i + d = vF V → d < n → f_X1_sharesTogether_6 N n c (iz t) (iz g) (iz gr) (iz (shares V t g gr i)) (iz i) h = some (iz (shares V t g gr (vF V)), h) := by
  intro d
  have hF := w.F
  induction d with
  | zero =>
    intro i n hi hn
    obtain ⟨n, rfl⟩ : ∃ k, n = k + 1 := ⟨n - 1, by omega⟩
    rw [f_X1_sharesTogether_6]
    have hi : i = vF V := by omega
    subst hi
    simp (disch := omega) only [rF R, if_true, if_false, Option.bind_some, b2_some, il0, il1, il2, il3, il4, il5, il6, il7, il8, il9, il10, il11, il12, il13, il14, il15, il16, il17, il18, il19, il20, il21, il22, il23, il24, il25, il26, il27, il28, il29, il30, il31, il32, il33, il36, il38, il39, il40, il41, il48, il50, il51, il57, il59, il60, il61, il62, il63, il70, il96, il99, il100, il101, il102, il103, il104, il105, il106, il107, il108, il109, il110, il111, il112, il115, il116, il120, il121, il124, il200, il240, il255, il288, il360, il420, il999, il1000, il114292, il152755, il402789, il435589, il463922, il533611, il631470, iz_add, iz_sub, iz_mul, iz_neg, iz_le, iz_lt, iz_eq, if_pos]
  | succ d ih =>
    intro i n hi hn
    obtain ⟨n, rfl⟩ : ∃ k, n = k + 1 := ⟨n - 1, by omega⟩
    rw [f_X1_sharesTogether_6]
    have hc : ¬ ((vF V : Int) ≤ i) := by omega
    have e := ih (i + 1) n (by omega) (by omega)
    simp (disch := omega) only [rF R, rC R, if_true, if_false, Option.bind_some, b2_some, il0, il1, il2, il3, il4, il5, il6, il7, il8, il9, il10, il11, il12, il13, il14, il15, il16, il17, il18, il19, il20, il21, il22, il23, il24, il25, il26, il27, il28, il29, il30, il31, il32, il33, il36, il38, il39, il40, il41, il48, il50, il51, il57, il59, il60, il61, il62, il63, il70, il96, il99, il100, il101, il102, il103, il104, il105, il106, il107, il108, il109, il110, il111, il112, il115, il116, il120, il121, il124, il200, il240, il255, il288, il360, il420, il999, il1000, il114292, il152755, il402789, il435589, il463922, il533611, il631470, iz_add, iz_sub, iz_mul, iz_neg, iz_le, iz_lt, iz_eq, if_neg hc, l_isAsIfIn R w ht _ hg]
    by_cases h1 : va V 7 i = t ∨ (i : Int) = g
    · simp (disch := omega) only [if_pos h1, if_true, if_false, Option.bind_some, b2_some, il0, il1, il2, il3, il4, il5, il6, il7, il8, il9, il10, il11, il12, il13, il14, il15, il16, il17, il18, il19, il20, il21, il22, il23, il24, il25, il26, il27, il28, il29, il30, il31, il32, il33, il36, il38, il39, il40, il41, il48, il50, il51, il57, il59, il60, il61, il62, il63, il70, il96, il99, il100, il101, il102, il103, il104, il105, il106, il107, il108, il109, il110, il111, il112, il115, il116, il120, il121, il124, il200, il240, il255, il288, il360, il420, il999, il1000, il114292, il152755, il402789, il435589, il463922, il533611, il631470, iz_add, iz_sub, iz_mul, iz_neg, iz_le, iz_lt, iz_eq, if_neg, l_share R w _ hgr]
      rw [← e]
      congr 1
      apply iz_inj
      rw [shares_succ, if_pos h1]
    · simp (disch := omega) only [if_neg h1, if_true, if_false, Option.bind_some, b2_some, il0, il1, il2, il3, il4, il5, il6, il7, il8, il9, il10, il11, il12, il13, il14, il15, il16, il17, il18, il19, il20, il21, il22, il23, il24, il25, il26, il27, il28, il29, il30, il31, il32, il33, il36, il38, il39, il40, il41, il48, il50, il51, il57, il59, il60, il61, il62, il63, il70, il96, il99, il100, il101, il102, il103, il104, il105, il106, il107, il108, il109, il110, il111, il112, il115, il116, il120, il121, il124, il200, il240, il255, il288, il360, il420, il999, il1000, il114292, il152755, il402789, il435589, il463922, il533611, il631470, iz_add, iz_sub, iz_mul, iz_neg, iz_le, iz_lt, iz_eq, if_pos]
      rw [← e]
      congr 1
      apply iz_inj
      rw [shares_succ, if_neg h1]
      omega
theorem l_shares (R : RepC h c p V) (w : WF V) (hN : 200 ≤ N) {t g gr : Int} (ht : 0 ≤ t ∧ t < 4) (hg : 0 ≤ g ∧ g < 8) (hgr : 0 ≤ gr ∧ gr ≤ 99) : f_X1_sharesTogether N c (iz t) (iz g) (iz gr) h = some (iz (shares V t g gr (vF V)), h) := by
  have hF := w.F
  rw [f_X1_sharesTogether]
  exact l_shares_6 R w ht hg hgr (vF V) 0 N (by omega) (by omega)
theorem l_part {c s n : Int} (hc : 0 ≤ c ∧ c ≤ 14985) (hs : 0 ≤ s ∧ s ≤ 99) (hn : 0 ≤ n ∧ n ≤ 792) : f_X1_cutPart N (iz c) (iz s) (iz n) h = some (iz (part c s n), h) := by
  have hm := mul_bd hc hs
  rw [f_X1_cutPart]
  simp (disch := omega) only [if_true, if_false, Option.bind_some, b2_some, il0, il1, il2, il3, il4, il5, il6, il7, il8, il9, il10, il11, il12, il13, il14, il15, il16, il17, il18, il19, il20, il21, il22, il23, il24, il25, il26, il27, il28, il29, il30, il31, il32, il33, il36, il38, il39, il40, il41, il48, il50, il51, il57, il59, il60, il61, il62, il63, il70, il96, il99, il100, il101, il102, il103, il104, il105, il106, il107, il108, il109, il110, il111, il112, il115, il116, il120, il121, il124, il200, il240, il255, il288, il360, il420, il999, il1000, il114292, il152755, il402789, il435589, il463922, il533611, il631470, iz_add, iz_sub, iz_mul, iz_neg, iz_le, iz_lt, iz_eq]
  unfold part
  by_cases h0 : n = 0
  · simp only [if_pos h0]
  · simp only [if_neg h0]
    rw [iz_div (by omega) (by omega) (by omega) (by omega)]
theorem l_dues (R : RepC h c p V) (w : WF V) (hN : 200 ≤ N) {f t : Int} (hf : 0 ≤ f ∧ f < 8) (ht : 0 ≤ t ∧ t < 4) : f_X1_duesOf N c (iz f) (iz t) h = some (iz (dues V f t), h) := by
  have hg := grt_bd w (t := t) (g := f) (vF V) w.F
  rw [f_X1_duesOf]
  simp only [rC R, if_true, if_false, Option.bind_some, b2_some, il0, il1, il2, il3, il4, il5, il6, il7, il8, il9, il10, il11, il12, il13, il14, il15, il16, il17, il18, il19, il20, il21, il22, il23, il24, il25, il26, il27, il28, il29, il30, il31, il32, il33, il36, il38, il39, il40, il41, il48, il50, il51, il57, il59, il60, il61, il62, il63, il70, il96, il99, il100, il101, il102, il103, il104, il105, il106, il107, il108, il109, il110, il111, il112, il115, il116, il120, il121, il124, il200, il240, il255, il288, il360, il420, il999, il1000, il114292, il152755, il402789, il435589, il463922, il533611, il631470, iz_add, iz_sub, iz_mul, iz_neg, iz_le, iz_lt, iz_eq, l_greatest R w hN ht hf, l_cost R w hN ht, l_share R w hf hg, l_shares R w hN ht hf hg, l_part (cost_bd w ht) (share_bd w hf) (shares_bd w _ w.F)]
  rfl
end
