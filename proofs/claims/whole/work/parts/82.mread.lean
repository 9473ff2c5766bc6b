/-! the model's reader: the text x of L bytes, from the base b on, at the place P -/
def SG : List Nat := [88, 89]
def sgF : List Nat := [19, 20, 32, 33, 34]
def PR0 (h0 h : Mem) : Prop := h.1 = h0.1 ∧ h.2.2 = h0.2.2 ∧ (∀ i, i ≠ 71 → i ∉ SG → h.2.1 i = h0.2.1 i) ∧ ∀ j, j ∉ sgF → h.2.1 71 j = h0.2.1 71 j
theorem PR0.rf {h : Mem} : PR0 h h := ⟨rfl, rfl, fun _ _ _ => rfl, fun _ _ => rfl⟩
theorem PR0.tr {h h1 h2 : Mem} (a : PR0 h h1) (b : PR0 h1 h2) : PR0 h h2 := ⟨b.1.trans a.1, b.2.1.trans a.2.1, fun i q1 q2 => (b.2.2.1 i q1 q2).trans (a.2.2.1 i q1 q2), fun j q => (b.2.2.2 j q).trans (a.2.2.2 j q)⟩
def PS (h0 : Mem) (x : Nat → Int) (L b : Nat) (h : Mem) (P : Nat) : Prop := MSh h ∧ (h.2.1 71 17 = iz (b : Int) ∧ h.2.1 71 18 = iz (L : Int) ∧ h.2.1 71 19 = iz (P : Int)) ∧ (P ≤ L ∧ L ≤ 120 ∧ b ≤ 120) ∧ (∀ j : Nat, j < L → h.2.1 81 (b + j) = iz (sb (x j))) ∧ (∀ j : Nat, 0 ≤ x j ∧ x j ≤ 255) ∧ PR0 h0 h
def nxS (x : Nat → Int) (L P : Nat) : Int := if P < L then sb (x P) else -1
def scF : List Nat := [20, 32, 33, 34]
theorem PR0.fd_ {h0 h : Mem} {j : Nat} {v : Int32} (k : PR0 h0 h) (hj : j ∈ sgF) : PR0 h0 (fd h j v) := k.tr ⟨rfl, rfl, fun i q1 _ => fd_ne q1, fun i hi => by rw [fd_at, if_neg (by rintro rfl; exact hi hj)]⟩
theorem PR0.wr_ {h0 h : Mem} {a : Nat} {row : Nat → Int32} (k : PR0 h0 h) (ha : a ∈ SG) : PR0 h0 (wr h a row) := k.tr ⟨rfl, rfl, fun i q1 q2 => wr_ne (by rintro rfl; exact q2 ha), fun j _ => by rw [wr_ne (by rintro rfl; exact absurd ha (by decide))]⟩
section
variable {h0 h : Mem} {x : Nat → Int} {L b P N : Nat}
theorem PS.fd_ (s : PS h0 x L b h P) {j : Nat} {v : Int32} (hj : j ∈ scF) : PS h0 x L b (fd h j v) P := by
  obtain ⟨s1, ⟨s2, s3, s4⟩, s5, s6, s7, s8⟩ := s
  have hn : ∀ i, i ∈ [17, 18, 19] → (fd h j v).2.1 71 i = h.2.1 71 i := fun i hi => by rw [fd_at, if_neg (by rintro rfl; exact absurd hi (by revert hj; revert i; decide))]
  refine ⟨s1, ⟨by rw [hn 17 (by decide)]; exact s2, by rw [hn 18 (by decide)]; exact s3, by rw [hn 19 (by decide)]; exact s4⟩, s5, fun j hj => by rw [fd_ne (by decide)]; exact s6 j hj, s7, s8.fd_ ?_⟩
  clear hn
  revert j; decide
theorem PS.at_ (s : PS h0 x L b h P) {P' : Nat} (hP : P' ≤ L) : PS h0 x L b (fd h 19 (iz (P' : Int))) P' := by
  obtain ⟨s1, ⟨s2, s3, s4⟩, s5, s6, s7, s8⟩ := s
  refine ⟨s1, ⟨by rw [fd_at, if_neg (by decide)]; exact s2, by rw [fd_at, if_neg (by decide)]; exact s3, by rw [fd_at, if_pos rfl]⟩, ⟨hP, s5.2⟩, fun j hj => by rw [fd_ne (by decide)]; exact s6 j hj, s7, s8.fd_ (by decide)⟩
theorem PS.wr_ (s : PS h0 x L b h P) {a : Nat} {row : Nat → Int32} (ha : a ∈ SG) : PS h0 x L b (wr h a row) P := by
  obtain ⟨s1, ⟨s2, s3, s4⟩, s5, s6, s7, s8⟩ := s
  have h71 : 71 ≠ a := by rintro rfl; exact absurd ha (by decide)
  have h81 : 81 ≠ a := by rintro rfl; exact absurd ha (by decide)
  exact ⟨s1, ⟨by rw [wr_ne h71]; exact s2, by rw [wr_ne h71]; exact s3, by rw [wr_ne h71]; exact s4⟩, s5, fun j hj => by rw [wr_ne h81]; exact s6 j hj, s7, s8.wr_ ha⟩
theorem kpB (s : PS h0 x L b h P) {γ : Type} {k : Int32 → Option γ} : (gI h 71 10 17).bind k = k (iz (b : Int)) := by rw [kmI s.1, s.2.1.1]
theorem kpL (s : PS h0 x L b h P) {γ : Type} {k : Int32 → Option γ} : (gI h 71 10 18).bind k = k (iz (L : Int)) := by rw [kmI s.1, s.2.1.2.1]
theorem kpP (s : PS h0 x L b h P) {γ : Type} {k : Int32 → Option γ} : (gI h 71 10 19).bind k = k (iz (P : Int)) := by rw [kmI s.1, s.2.1.2.2]
theorem kpX (s : PS h0 x L b h P) (hP : P < L) {γ : Type} {k : Int32 → Option γ} : (lI 100 h 81 (iz (b : Int) + iz (P : Int))).bind k = k (iz (sb (x P))) := by
  obtain ⟨s1, ⟨s2, s3, s4⟩, s5, s6, s7, s8⟩ := s
  rw [iz_add, kl81 s1 (by omega) (by omega), show ((b : Int) + (P : Int)).toNat = b + P by omega, s6 P hP]
theorem nx_bd (hx : ∀ j : Nat, 0 ≤ x j ∧ x j ≤ 255) : -128 ≤ nxS x L P ∧ nxS x L P ≤ 127 := by
  have := hx P
  unfold nxS sb
  split
  · split <;> omega
  · omega
theorem nx_at (hx : ∀ j : Nat, 0 ≤ x j ∧ x j ≤ 255) {c : Int} (hc : 0 ≤ c ∧ c ≤ 127) : (nxS x L P = c) = (isAt x L P c = true) := by
  have := hx P
  unfold nxS sb isAt
  by_cases h1 : P < L
  · rw [if_pos h1]
    split
    · simp [h1]
    · simp [h1]; omega
  · rw [if_neg h1]
    simp [h1]; omega
theorem nx_fig (hx : ∀ j : Nat, 0 ≤ x j ∧ x j ≤ 255) {m : Int} (hm : 0 ≤ m ∧ m ≤ 9) : (48 ≤ nxS x L P ∧ nxS x L P ≤ 48 + m) = (figS x L P m = true) := by
  have := hx P
  unfold nxS sb figS
  by_cases h1 : P < L
  · rw [if_pos h1]
    split
    · simp [h1]
    · simp [h1]; omega
  · rw [if_neg h1]
    simp [h1]
theorem nx_fv (hx : ∀ j : Nat, 0 ≤ x j ∧ x j ≤ 255) {m : Int} (hm : 0 ≤ m ∧ m ≤ 9) (e : figS x L P m = true) : nxS x L P = x P := by
  have := figS_lt e
  unfold nxS sb
  rw [if_pos this.1, if_pos (by omega)]
theorem m_next (s : PS h0 x L b h P) : f_X10_next N 71 h = some (iz (nxS x L P), h) := by
  have hL := s.2.2.1
  unfold f_X10_next nxS
  by_cases h1 : P < L
  · have h2 : ¬ ((L : Int) ≤ P) := by omega
    simp (disch := omega) only [↓kpP s, ↓kpL s, ↓kpB s, ↓kr81 s.1, ↓kpX s h1, if_true, if_false, Option.bind_some, b2_some, il0, il1, il2, il3, il4, il5, il6, il7, il8, il9, il10, il11, il12, il13, il14, il15, il16, il17, il18, il19, il20, il21, il22, il23, il24, il25, il26, il27, il28, il29, il30, il31, il32, il33, il36, il38, il39, il40, il41, il48, il50, il51, il57, il59, il60, il61, il62, il63, il70, il96, il99, il100, il101, il102, il103, il104, il105, il106, il107, il108, il109, il110, il111, il112, il115, il116, il120, il121, il124, il200, il240, il255, il288, il360, il420, il999, il1000, il114292, il152755, il402789, il435589, il463922, il533611, il631470, iz_add, iz_sub, iz_mul, iz_neg, iz_le, iz_lt, iz_eq, h1, h2, ↓reduceIte]
  · have h2 : ((L : Int) ≤ P) := by omega
    simp (disch := omega) only [↓kpP s, ↓kpL s, if_true, if_false, Option.bind_some, b2_some, il0, il1, il2, il3, il4, il5, il6, il7, il8, il9, il10, il11, il12, il13, il14, il15, il16, il17, il18, il19, il20, il21, il22, il23, il24, il25, il26, il27, il28, il29, il30, il31, il32, il33, il36, il38, il39, il40, il41, il48, il50, il51, il57, il59, il60, il61, il62, il63, il70, il96, il99, il100, il101, il102, il103, il104, il105, il106, il107, il108, il109, il110, il111, il112, il115, il116, il120, il121, il124, il200, il240, il255, il288, il360, il420, il999, il1000, il114292, il152755, il402789, il435589, il463922, il533611, il631470, iz_add, iz_sub, iz_mul, iz_neg, iz_le, iz_lt, iz_eq, h1, h2, ↓reduceIte]
theorem m_takes (s : PS h0 x L b h P) {c : Int} (hc : 0 ≤ c ∧ c ≤ 127) : f_X10_takes N 71 (iz c) h = some (iz (bi (isAt x L P c)), if isAt x L P c = true then fd h 19 (iz ((P + 1 : Nat) : Int)) else h) := by
  have hx := s.2.2.2.2.1
  have en := m_next (N := N) s
  have hb := nx_bd (L := L) (P := P) hx
  have ea := nx_at (L := L) (P := P) hx hc
  unfold f_X10_takes
  simp (disch := omega) only [↓kmC s.1, ↓bq en, if_true, if_false, Option.bind_some, b2_some, il0, il1, il2, il3, il4, il5, il6, il7, il8, il9, il10, il11, il12, il13, il14, il15, il16, il17, il18, il19, il20, il21, il22, il23, il24, il25, il26, il27, il28, il29, il30, il31, il32, il33, il36, il38, il39, il40, il41, il48, il50, il51, il57, il59, il60, il61, il62, il63, il70, il96, il99, il100, il101, il102, il103, il104, il105, il106, il107, il108, il109, il110, il111, il112, il115, il116, il120, il121, il124, il200, il240, il255, il288, il360, il420, il999, il1000, il114292, il152755, il402789, il435589, il463922, il533611, il631470, iz_add, iz_sub, iz_mul, iz_neg, iz_le, iz_lt, iz_eq, ea]
  cases hz : isAt x L P c with
  | true =>
    simp (disch := omega) only [↓reduceIte, ↓kpP s, if_true, if_false, Option.bind_some, b2_some, il0, il1, il2, il3, il4, il5, il6, il7, il8, il9, il10, il11, il12, il13, il14, il15, il16, il17, il18, il19, il20, il21, il22, il23, il24, il25, il26, il27, il28, il29, il30, il31, il32, il33, il36, il38, il39, il40, il41, il48, il50, il51, il57, il59, il60, il61, il62, il63, il70, il96, il99, il100, il101, il102, il103, il104, il105, il106, il107, il108, il109, il110, il111, il112, il115, il116, il120, il121, il124, il200, il240, il255, il288, il360, il420, il999, il1000, il114292, il152755, il402789, il435589, il463922, il533611, il631470, iz_add, iz_sub, iz_mul, iz_neg, iz_le, iz_lt, iz_eq, ↓ksI s.1]
    rfl
  | false => simp (disch := omega) only [↓reduceIte, Bool.false_eq_true]; rfl
theorem m_isDigit (s : PS h0 x L b h P) : f_X10_isDigit N 71 h = some (iz (bi (figS x L P 9)), h) := by
  have hx := s.2.2.2.2.1
  have en := m_next (N := N) s
  have hb := nx_bd (L := L) (P := P) hx
  have ei := m_in (N := N) (h := h) (a := nxS x L P) (b := 48) (c := 57) (by omega) (by omega) (by omega) (by omega)
  have ef := nx_fig (L := L) (P := P) hx (m := 9) (by omega)
  unfold f_X10_isDigit
  simp (disch := omega) only [↓kmC s.1, ↓bq en, il0, il1, il2, il3, il4, il5, il6, il7, il8, il9, il10, il11, il12, il13, il14, il15, il16, il17, il18, il19, il20, il21, il22, il23, il24, il25, il26, il27, il28, il29, il30, il31, il32, il33, il36, il38, il39, il40, il41, il48, il50, il51, il57, il59, il60, il61, il62, il63, il70, il96, il99, il100, il101, il102, il103, il104, il105, il106, il107, il108, il109, il110, il111, il112, il115, il116, il120, il121, il124, il200, il240, il255, il288, il360, il420, il999, il1000, il114292, il152755, il402789, il435589, il463922, il533611, il631470, ↓bq ei]
  have : (if 48 ≤ nxS x L P ∧ nxS x L P ≤ 57 then (1 : Int) else 0) = bi (figS x L P 9) := by
    by_cases q : 48 ≤ nxS x L P ∧ nxS x L P ≤ 57
    · have : figS x L P 9 = true := by rw [← ef]; omega
      rw [if_pos q, this]; rfl
    · have : figS x L P 9 = false := by rw [← Bool.not_eq_true, ← ef]; omega
      rw [if_neg q, this]; rfl
  rw [this, rz_bi]
def at2 (h : Mem) (d : Int) (P : Nat) : Mem := fd (fd h 20 (iz d)) 19 (iz (P : Int))
theorem u2_comm {α : Type} {f : Nat → Nat → α} {a i j : Nat} {v w : α} (hij : i ≠ j) : u2 (u2 f a i v) a j w = u2 (u2 f a j w) a i v := by
  funext k b
  by_cases hk : k = a
  · subst hk
    rw [u2_at, u2_at, u2_at, u2_at]
    by_cases h1 : b = j
    · rw [if_pos h1, if_neg (by omega), if_pos h1]
    · rw [if_neg h1, if_neg h1]
  · rw [u2_ne hk, u2_ne hk, u2_ne hk, u2_ne hk]
theorem fd_comm {h : Mem} {i j : Nat} {v w : Int32} (hij : i ≠ j) : fd (fd h i v) j w = fd (fd h j w) i v := by
  unfold fd
  rw [show (h.1, u2 h.2.1 71 i v, h.2.2.1, h.2.2.2).2.1 = u2 h.2.1 71 i v from rfl, show (h.1, u2 h.2.1 71 j w, h.2.2.1, h.2.2.2).2.1 = u2 h.2.1 71 j w from rfl, u2_comm hij]
theorem at2_at2 {h : Mem} {d d' : Int} {P P' : Nat} : at2 (at2 h d P) d' P' = at2 h d' P' := by
  unfold at2
  rw [fd_comm (i := 19) (j := 20) (by decide), fd_fd, fd_fd]
theorem PS.at2_ (s : PS h0 x L b h P) {d : Int} {P' : Nat} (hP : P' ≤ L) : PS h0 x L b (at2 h d P') P' := (s.fd_ (j := 20) (by decide)).at_ hP
theorem at2_20 {h : Mem} {d : Int} {P : Nat} : (at2 h d P).2.1 71 20 = iz d := by unfold at2; rw [fd_at, if_neg (by decide), fd_at, if_pos rfl]
theorem m_figure (s : PS h0 x L b h P) {m : Int} (hm : 0 ≤ m ∧ m ≤ 9) : f_X10_takesFigure N 71 (iz m) h = some (iz (bi (figS x L P m)), if figS x L P m = true then at2 h (x P - 48) (P + 1) else h) := by
  have hx := s.2.2.2.2.1
  have en := m_next (N := N) s
  have hb := nx_bd (L := L) (P := P) hx
  have ei := m_in (N := N) (h := h) (a := nxS x L P - 48) (b := 0) (c := m) (by omega) (by omega) (by omega) (by omega)
  have ef := nx_fig (L := L) (P := P) hx hm
  have h3 : ¬ ((1 : Int) = 0) := by decide
  unfold f_X10_takesFigure
  simp (disch := omega) only [↓kmC s.1, ↓bq en, il0, il1, il2, il3, il4, il5, il6, il7, il8, il9, il10, il11, il12, il13, il14, il15, il16, il17, il18, il19, il20, il21, il22, il23, il24, il25, il26, il27, il28, il29, il30, il31, il32, il33, il36, il38, il39, il40, il41, il48, il50, il51, il57, il59, il60, il61, il62, il63, il70, il96, il99, il100, il101, il102, il103, il104, il105, il106, il107, il108, il109, il110, il111, il112, il115, il116, il120, il121, il124, il200, il240, il255, il288, il360, il420, il999, il1000, il114292, il152755, il402789, il435589, il463922, il533611, il631470, iz_sub, ↓bq ei]
  have : (if 0 ≤ nxS x L P - 48 ∧ nxS x L P - 48 ≤ m then (1 : Int) else 0) = bi (figS x L P m) := by
    by_cases q : 0 ≤ nxS x L P - 48 ∧ nxS x L P - 48 ≤ m
    · have : figS x L P m = true := by rw [← ef]; omega
      rw [if_pos q, this]; rfl
    · have : figS x L P m = false := by rw [← Bool.not_eq_true, ← ef]; omega
      rw [if_neg q, this]; rfl
  rw [this]
  cases hz : figS x L P m with
  | true =>
    have ev := nx_fv hx hm hz
    have s1 := s.fd_ (j := 20) (v := iz (x P - 48)) (by decide)
    simp (disch := omega) only [bi_t, h3, iz_eq, ↓reduceIte, ↓kmC s.1, ↓bq en, ev, iz_sub, ↓ksI s.1, ↓kpP s1, ↓ksI s1.1, iz_add]
    rfl
  | false => simp (disch := omega) only [bi_f, iz_eq, ↓reduceIte, Bool.false_eq_true]
end
