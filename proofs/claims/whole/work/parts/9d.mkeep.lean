def KEP (h : Mem) (V : Vw) : Prop := (∀ j : Nat, j < 8 → h.2.1 98 j = iz (va V 7 j)) ∧ (∀ j : Nat, j < 12 → h.2.1 98 (8 + j) = iz (va V 1 j)) ∧ ∀ j : Nat, j < 4 → h.2.1 98 (20 + j) = iz (va V 2 j) ∧ h.2.1 98 (24 + j) = iz (va V 3 j) ∧ h.2.1 98 (28 + j) = iz (va V 4 j)
section
variable {V : Vw} {N : Nat}
theorem KEP.eq_ {h h' : Mem} (b : KEP h V) (e : h'.2.1 98 = h.2.1 98) : KEP h' V := by unfold KEP at *; rw [e]; exact b
theorem m_keep_57 (w : WF V) : ∀ (d i n : Nat) (h : Mem), i + d = 4 → d < n → RepM h V → (∀ j : Nat, j < 8 → h.2.1 98 j = iz (va V 7 j)) → (∀ j : Nat, j < 12 → h.2.1 98 (8 + j) = iz (va V 1 j)) → (∀ j : Nat, j < i → h.2.1 98 (20 + j) = iz (va V 2 j) ∧ h.2.1 98 (24 + j) = iz (va V 3 j) ∧ h.2.1 98 (28 + j) = iz (va V 4 j)) → ∃ row, f_X10_keep_57 N n 71 (iz (i : Int)) h = some (wr h 98 row) ∧ KEP (wr h 98 row) V := by
  intro d
  induction d with
  | zero =>
    intro i n h hi hn R h1 h2 h3
    obtain ⟨n, rfl⟩ : ∃ k, n = k + 1 := ⟨n - 1, by omega⟩
    rw [f_X10_keep_57]
    obtain rfl : i = 4 := by omega
    refine ⟨h.2.1 98, ?_, ?_⟩
    · rw [wr_id rfl]
      simp (disch := omega) only [il0, il1, il2, il3, il4, il5, il6, il7, il8, il9, il10, il11, il12, il13, il14, il15, il16, il17, il18, il19, il20, il21, il22, il23, il24, il25, il26, il27, il28, il29, il30, il31, il32, il33, il36, il38, il39, il40, il41, il48, il50, il51, il57, il59, il60, il61, il62, il63, il70, il96, il99, il100, il101, il102, il103, il104, il105, il106, il107, il108, il109, il110, il111, il112, il115, il116, il120, il121, il124, il200, il240, il255, il288, il360, il420, il999, il1000, il114292, il152755, il402789, il435589, il463922, il533611, il631470, nc1, nc2, nc3, nc4, nc5, nc6, nc7, nc8, nc9, nc12, nc16, nc20, nc21, nc40, nc60, nc120, nc200, Int.le_refl, iz_le, ↓reduceIte]
    · rw [wr_id rfl]; exact ⟨h1, h2, h3⟩
  | succ d ih =>
    intro i n h hi hn R h1 h2 h3
    obtain ⟨n, rfl⟩ : ∃ k, n = k + 1 := ⟨n - 1, by omega⟩
    rw [f_X10_keep_57]
    have hc : ¬ ((4 : Int) ≤ i) := by omega
    have e20 : ((20 : Int) + (i : Int)).toNat = 20 + i := by omega
    have e24 : ((24 : Int) + (i : Int)).toNat = 24 + i := by omega
    have e28 : ((28 : Int) + (i : Int)).toNat = 28 + i := by omega
    obtain ⟨row0, hrow0⟩ : ∃ r, r = upd (upd (upd (h.2.1 98) (20 + i) (iz (va V 2 i))) (24 + i) (iz (va V 3 i))) (28 + i) (iz (va V 4 i)) := ⟨_, rfl⟩
    have at0 : ∀ j, row0 j = if j = 28 + i then iz (va V 4 i) else if j = 24 + i then iz (va V 3 i) else if j = 20 + i then iz (va V 2 i) else h.2.1 98 j := fun j => by rw [hrow0]; rfl
    have Rw : RepM (wr h 98 row0) V := R.wr_ ⟨by decide, by decide⟩
    obtain ⟨row, e, k⟩ := ih (i + 1) n (wr h 98 row0) (by omega) (by omega) Rw (fun j hj => by
      rw [wr_eq, at0, if_neg (by omega), if_neg (by omega), if_neg (by omega)]; exact h1 j hj) (fun j hj => by
      rw [wr_eq, at0, if_neg (by omega), if_neg (by omega), if_neg (by omega)]; exact h2 j hj) (fun j hj => by
      rw [wr_eq, at0, at0, at0]
      by_cases q : j = i
      · subst q
        refine ⟨?_, ?_, ?_⟩
        · rw [if_neg (by omega), if_neg (by omega), if_pos rfl]
        · rw [if_neg (by omega), if_pos rfl]
        · rw [if_pos rfl]
      · have := h3 j (by omega)
        refine ⟨?_, ?_, ?_⟩
        · rw [if_neg (by omega), if_neg (by omega), if_neg (by omega)]; exact this.1
        · rw [if_neg (by omega), if_neg (by omega), if_neg (by omega)]; exact this.2.1
        · rw [if_neg (by omega), if_neg (by omega), if_neg (by omega)]; exact this.2.2)
    rw [wr_wr] at e k
    refine ⟨row, ?_, k⟩
    rw [← e]
    have Ra : RepM (wr h 98 (upd (h.2.1 98) (20 + i) (iz (va V 2 i)))) V := R.wr_ ⟨by decide, by decide⟩
    have Rb : RepM (wr (wr h 98 (upd (h.2.1 98) (20 + i) (iz (va V 2 i)))) 98 (upd ((wr h 98 (upd (h.2.1 98) (20 + i) (iz (va V 2 i)))).2.1 98) (24 + i) (iz (va V 3 i)))) V := Ra.wr_ ⟨by decide, by decide⟩
    rw [il20, il24, il28, il4, if_neg (show ¬ (iz 4 ≤ iz (i : Int)) by rw [iz_le (by omega) (by omega) (by omega) (by omega)]; exact hc)]
    rw [kr98 R.1, kr74 R.1, kx2 R (by omega) (by omega), iz_add, ks98 R.1 (by omega) (by omega), e20, kr98 Ra.1, kr75 Ra.1, kx3 Ra (by omega) (by omega), iz_add, ks98 Ra.1 (by omega) (by omega), e24, kr98 Rb.1, kr76 Rb.1, kx4 Rb (by omega) (by omega), iz_add, ks98 Rb.1 (by omega) (by omega), e28, il1, iz_add, wr_wr, wr_wr, wr_eq, wr_eq, hrow0]
    rfl
theorem m_keep_28 (w : WF V) (hN : 200 ≤ N) : ∀ (d i n : Nat) (h : Mem), i + d = 12 → d < n → RepM h V → (∀ j : Nat, j < 8 → h.2.1 98 j = iz (va V 7 j)) → (∀ j : Nat, j < i → h.2.1 98 (8 + j) = iz (va V 1 j)) → ∃ row, f_X10_keep_28 N n 71 (iz (i : Int)) h = some (wr h 98 row) ∧ KEP (wr h 98 row) V := by
  intro d
  induction d with
  | zero =>
    intro i n h hi hn R h1 h2
    obtain ⟨n, rfl⟩ : ∃ k, n = k + 1 := ⟨n - 1, by omega⟩
    rw [f_X10_keep_28]
    obtain rfl : i = 12 := by omega
    obtain ⟨row, e, k⟩ := m_keep_57 (N := N) w 4 0 N h (by omega) (by omega) R h1 h2 (fun j hj => by omega)
    refine ⟨row, ?_, k⟩
    simp (disch := omega) only [il0, il1, il2, il3, il4, il5, il6, il7, il8, il9, il10, il11, il12, il13, il14, il15, il16, il17, il18, il19, il20, il21, il22, il23, il24, il25, il26, il27, il28, il29, il30, il31, il32, il33, il36, il38, il39, il40, il41, il48, il50, il51, il57, il59, il60, il61, il62, il63, il70, il96, il99, il100, il101, il102, il103, il104, il105, il106, il107, il108, il109, il110, il111, il112, il115, il116, il120, il121, il124, il200, il240, il255, il288, il360, il420, il999, il1000, il114292, il152755, il402789, il435589, il463922, il533611, il631470, nc1, nc2, nc3, nc4, nc5, nc6, nc7, nc8, nc9, nc12, nc16, nc20, nc21, nc40, nc60, nc120, nc200, Int.le_refl, iz_le, ↓reduceIte]
    exact e
  | succ d ih =>
    intro i n h hi hn R h1 h2
    obtain ⟨n, rfl⟩ : ∃ k, n = k + 1 := ⟨n - 1, by omega⟩
    rw [f_X10_keep_28]
    have hc : ¬ ((12 : Int) ≤ i) := by omega
    have ei : ((8 : Int) + (i : Int)).toNat = 8 + i := by omega
    obtain ⟨row, e, k⟩ := ih (i + 1) n (wr h 98 (upd (h.2.1 98) (8 + i) (iz (va V 1 i)))) (by omega) (by omega) (R.wr_ ⟨by decide, by decide⟩) (fun j hj => by
      rw [wr_eq, upd_at, if_neg (by omega)]; exact h1 j hj) (fun j hj => by
      rw [wr_eq, upd_at]
      by_cases q : 8 + j = 8 + i
      · rw [if_pos q, show j = i by omega]
      · rw [if_neg q]; exact h2 j (by omega))
    rw [wr_wr] at e k
    refine ⟨row, ?_, k⟩
    rw [← e]
    simp (disch := omega) only [↓kmC R.1, ↓kmT R, ↓kmF R, ↓kmM R, ↓kmD R, ↓kmP R, ↓kr72 R.1, ↓kr73 R.1, ↓kr74 R.1, ↓kr75 R.1, ↓kr76 R.1, ↓kr77 R.1, ↓kr78 R.1, ↓kr79 R.1, ↓kr80 R.1, ↓kr81 R.1, ↓kr82 R.1, ↓kr83 R.1, ↓kr84 R.1, ↓kr85 R.1, ↓kr86 R.1, ↓kr87 R.1, ↓kr88 R.1, ↓kr89 R.1, ↓kr90 R.1, ↓kr91 R.1, ↓kr92 R.1, ↓kr93 R.1, ↓kr94 R.1, ↓kr95 R.1, ↓kr96 R.1, ↓kr97 R.1, ↓kr98 R.1, ↓kr99 R.1, ↓kr100 R.1, ↓kr101 R.1, ↓kr102 R.1, ↓kr103 R.1, ↓kr104 R.1, ↓kr105 R.1, ↓kr106 R.1, ↓kr107 R.1, ↓kr108 R.1, ↓kr109 R.1, ↓kr110 R.1, ↓kx0 R, ↓kx1 R, ↓kx2 R, ↓kx3 R, ↓kx4 R, ↓kx5 R, ↓kx6 R, ↓kx7 R, ↓kx8 R, ↓kx9 R, ↓kx10 R, ↓kx11 R, ↓kx1m R, ↓kx9m R, ↓kx10m R, ↓reduceIte, il0, il1, il2, il3, il4, il5, il6, il7, il8, il9, il10, il11, il12, il13, il14, il15, il16, il17, il18, il19, il20, il21, il22, il23, il24, il25, il26, il27, il28, il29, il30, il31, il32, il33, il36, il38, il39, il40, il41, il48, il50, il51, il57, il59, il60, il61, il62, il63, il70, il96, il99, il100, il101, il102, il103, il104, il105, il106, il107, il108, il109, il110, il111, il112, il115, il116, il120, il121, il124, il200, il240, il255, il288, il360, il420, il999, il1000, il114292, il152755, il402789, il435589, il463922, il533611, il631470, iz_le, hc, iz_add, ↓ks98 R.1, ei]
    rfl
theorem m_keep_2 (w : WF V) (hN : 200 ≤ N) : ∀ (d i n : Nat) (h : Mem), i + d = 8 → d < n → RepM h V → (∀ j : Nat, j < i → h.2.1 98 j = iz (va V 7 j)) → ∃ row, f_X10_keep_2 N n 71 (iz (i : Int)) h = some (wr h 98 row) ∧ KEP (wr h 98 row) V := by
  intro d
  induction d with
  | zero =>
    intro i n h hi hn R h1
    obtain ⟨n, rfl⟩ : ∃ k, n = k + 1 := ⟨n - 1, by omega⟩
    rw [f_X10_keep_2]
    obtain rfl : i = 8 := by omega
    obtain ⟨row, e, k⟩ := m_keep_28 (N := N) w hN 12 0 N h (by omega) (by omega) R h1 (fun j hj => by omega)
    refine ⟨row, ?_, k⟩
    simp (disch := omega) only [il0, il1, il2, il3, il4, il5, il6, il7, il8, il9, il10, il11, il12, il13, il14, il15, il16, il17, il18, il19, il20, il21, il22, il23, il24, il25, il26, il27, il28, il29, il30, il31, il32, il33, il36, il38, il39, il40, il41, il48, il50, il51, il57, il59, il60, il61, il62, il63, il70, il96, il99, il100, il101, il102, il103, il104, il105, il106, il107, il108, il109, il110, il111, il112, il115, il116, il120, il121, il124, il200, il240, il255, il288, il360, il420, il999, il1000, il114292, il152755, il402789, il435589, il463922, il533611, il631470, nc1, nc2, nc3, nc4, nc5, nc6, nc7, nc8, nc9, nc12, nc16, nc20, nc21, nc40, nc60, nc120, nc200, Int.le_refl, iz_le, ↓reduceIte]
    exact e
  | succ d ih =>
    intro i n h hi hn R h1
    obtain ⟨n, rfl⟩ : ∃ k, n = k + 1 := ⟨n - 1, by omega⟩
    rw [f_X10_keep_2]
    have hc : ¬ ((8 : Int) ≤ i) := by omega
    obtain ⟨row, e, k⟩ := ih (i + 1) n (wr h 98 (upd (h.2.1 98) i (iz (va V 7 i)))) (by omega) (by omega) (R.wr_ ⟨by decide, by decide⟩) (fun j hj => by
      rw [wr_eq, upd_at]
      by_cases q : j = i
      · rw [if_pos q, q]
      · rw [if_neg q]; exact h1 j (by omega))
    rw [wr_wr] at e k
    refine ⟨row, ?_, k⟩
    rw [← e]
    simp (disch := omega) only [↓kmC R.1, ↓kmT R, ↓kmF R, ↓kmM R, ↓kmD R, ↓kmP R, ↓kr72 R.1, ↓kr73 R.1, ↓kr74 R.1, ↓kr75 R.1, ↓kr76 R.1, ↓kr77 R.1, ↓kr78 R.1, ↓kr79 R.1, ↓kr80 R.1, ↓kr81 R.1, ↓kr82 R.1, ↓kr83 R.1, ↓kr84 R.1, ↓kr85 R.1, ↓kr86 R.1, ↓kr87 R.1, ↓kr88 R.1, ↓kr89 R.1, ↓kr90 R.1, ↓kr91 R.1, ↓kr92 R.1, ↓kr93 R.1, ↓kr94 R.1, ↓kr95 R.1, ↓kr96 R.1, ↓kr97 R.1, ↓kr98 R.1, ↓kr99 R.1, ↓kr100 R.1, ↓kr101 R.1, ↓kr102 R.1, ↓kr103 R.1, ↓kr104 R.1, ↓kr105 R.1, ↓kr106 R.1, ↓kr107 R.1, ↓kr108 R.1, ↓kr109 R.1, ↓kr110 R.1, ↓kx0 R, ↓kx1 R, ↓kx2 R, ↓kx3 R, ↓kx4 R, ↓kx5 R, ↓kx6 R, ↓kx7 R, ↓kx8 R, ↓kx9 R, ↓kx10 R, ↓kx11 R, ↓kx1m R, ↓kx9m R, ↓kx10m R, ↓reduceIte, il0, il1, il2, il3, il4, il5, il6, il7, il8, il9, il10, il11, il12, il13, il14, il15, il16, il17, il18, il19, il20, il21, il22, il23, il24, il25, il26, il27, il28, il29, il30, il31, il32, il33, il36, il38, il39, il40, il41, il48, il50, il51, il57, il59, il60, il61, il62, il63, il70, il96, il99, il100, il101, il102, il103, il104, il105, il106, il107, il108, il109, il110, il111, il112, il115, il116, il120, il121, il124, il200, il240, il255, il288, il360, il420, il999, il1000, il114292, il152755, il402789, il435589, il463922, il533611, il631470, iz_le, hc, iz_add, ↓ks98 R.1, toN]
    rfl
theorem m_keep {h : Mem} (R : RepM h V) (w : WF V) (hN : 200 ≤ N) : ∃ h', f_X10_keep N 71 h = some h' ∧ RepM h' V ∧ KEP h' V ∧ FM SK h h' := by
  obtain ⟨row, e, k⟩ := m_keep_2 (N := N) w hN 8 0 N h (by omega) (by omega) R (fun j hj => by omega)
  exact ⟨_, e, R.wr_ ⟨by decide, by decide⟩, k, FM.wr_ (by decide) (by decide)⟩
/-- five rows written anew -/
theorem RepM.rows5 {h h' : Mem} {U : Vw} (R : RepM h U) (e1 : h'.1 = h.1) (e2 : h'.2.2.2 = h.2.2.2) (e3 : ∀ i, i ∈ dpM → i ∉ [73, 74, 75, 76, 79] → h'.2.1 i = h.2.1 i) (e4 : ∀ j, j ∈ dpF → h'.2.1 71 j = h.2.1 71 j) (v1 : vT U = vT V) (v2 : vF U = vF V) (v3 : vs U = vs V) (v4 : ∀ k, k ∉ [1, 2, 3, 4, 7] → va U k = va V k) (hr : ∀ k, k ∈ [1, 2, 3, 4, 7] → ∀ j : Nat, j < ln k → h'.2.1 (72 + k) j = iz (va V k j)) : RepM h' V := by
  obtain ⟨r1, ⟨r2, r3⟩, r4, r5, r6, r7, ⟨r8, r9, r10⟩, r11, r12⟩ := R
  refine ⟨r1.eq e1 e2, ⟨?_, ?_⟩, fun k hk j hj => ?_, fun j hj => ?_, fun j hj => ?_, fun j hj => ?_, ⟨?_, ?_, ?_⟩, ?_, ?_⟩
  · rw [e4 0 (by decide), ← v1]; exact r2
  · rw [e4 1 (by decide), ← v2]; exact r3
  · by_cases hm : k ∈ [1, 2, 3, 4, 7]
    · exact hr k hm j hj
    · have : ∀ k, k < 9 → k ∉ [1, 2, 3, 4, 7] → 72 + k ∈ dpM ∧ 72 + k ∉ [73, 74, 75, 76, 79] := by decide
      have q := this k hk hm
      rw [e3 (72 + k) q.1 q.2, ← v4 k hm]; exact r4 k hk j hj
  · rw [e3 84 (by decide) (by decide), ← v4 9 (by decide)]; exact r5 j hj
  · rw [e3 85 (by decide) (by decide), ← v4 10 (by decide)]; exact r6 j hj
  · rw [e3 86 (by decide) (by decide), ← v4 11 (by decide)]; exact r7 j hj
  · rw [e4 25 (by decide), ← v4 12 (by decide)]; exact r8
  · rw [e4 26 (by decide), ← v4 12 (by decide)]; exact r9
  · rw [e4 27 (by decide), ← v4 12 (by decide)]; exact r10
  · unfold GOES at *; rw [e3 81 (by decide) (by decide), e3 82 (by decide) (by decide), e4 12 (by decide), ← v3]; exact r11
  · unfold cacheOK at *; rw [e3 87 (by decide) (by decide), e4 29 (by decide), ← v2, ← v3, ← v4 5 (by decide), ← v4 6 (by decide)]; exact r12
theorem m_back_57 : ∀ (d i n : Nat) (h : Mem), i + d = 4 → d < n → MSh h → KEP h V → (∀ j : Nat, j < i → h.2.1 74 j = iz (va V 2 j) ∧ h.2.1 75 j = iz (va V 3 j) ∧ h.2.1 76 j = iz (va V 4 j)) → ∃ h', f_X10_putBack_57 N n 71 (iz (i : Int)) h = some h' ∧ FM [74, 75, 76] h h' ∧ (∀ j, h'.2.1 71 j = h.2.1 71 j) ∧ ∀ j : Nat, j < 4 → h'.2.1 74 j = iz (va V 2 j) ∧ h'.2.1 75 j = iz (va V 3 j) ∧ h'.2.1 76 j = iz (va V 4 j) := by
  intro d
  induction d with
  | zero =>
    intro i n h hi hn S k hr
    obtain ⟨n, rfl⟩ : ∃ k, n = k + 1 := ⟨n - 1, by omega⟩
    rw [f_X10_putBack_57]
    obtain rfl : i = 4 := by omega
    refine ⟨h, ?_, FM.rf, fun _ => rfl, hr⟩
    simp (disch := omega) only [il0, il1, il2, il3, il4, il5, il6, il7, il8, il9, il10, il11, il12, il13, il14, il15, il16, il17, il18, il19, il20, il21, il22, il23, il24, il25, il26, il27, il28, il29, il30, il31, il32, il33, il36, il38, il39, il40, il41, il48, il50, il51, il57, il59, il60, il61, il62, il63, il70, il96, il99, il100, il101, il102, il103, il104, il105, il106, il107, il108, il109, il110, il111, il112, il115, il116, il120, il121, il124, il200, il240, il255, il288, il360, il420, il999, il1000, il114292, il152755, il402789, il435589, il463922, il533611, il631470, nc1, nc2, nc3, nc4, nc5, nc6, nc7, nc8, nc9, nc12, nc16, nc20, nc21, nc40, nc60, nc120, nc200, Int.le_refl, iz_le, ↓reduceIte]
  | succ d ih =>
    intro i n h hi hn S k hr
    obtain ⟨n, rfl⟩ : ∃ k, n = k + 1 := ⟨n - 1, by omega⟩
    rw [f_X10_putBack_57]
    have hc : ¬ ((4 : Int) ≤ i) := by omega
    have e20 : ((20 : Int) + (i : Int)).toNat = 20 + i := by omega
    have e24 : ((24 : Int) + (i : Int)).toNat = 24 + i := by omega
    have e28 : ((28 : Int) + (i : Int)).toNat = 28 + i := by omega
    have ki := k.2.2 i (by omega)
    have F1 : FM [74, 75, 76] h (wr h 74 (upd (h.2.1 74) i (iz (va V 2 i)))) := FM.wr_ (by decide) (by decide)
    have F2 : FM [74, 75, 76] (wr h 74 (upd (h.2.1 74) i (iz (va V 2 i)))) (wr (wr h 74 (upd (h.2.1 74) i (iz (va V 2 i)))) 75 (upd (h.2.1 75) i (iz (va V 3 i)))) := FM.wr_ (by decide) (by decide)
    have F3 : FM [74, 75, 76] (wr (wr h 74 (upd (h.2.1 74) i (iz (va V 2 i)))) 75 (upd (h.2.1 75) i (iz (va V 3 i)))) (wr (wr (wr h 74 (upd (h.2.1 74) i (iz (va V 2 i)))) 75 (upd (h.2.1 75) i (iz (va V 3 i)))) 76 (upd (h.2.1 76) i (iz (va V 4 i)))) := FM.wr_ (by decide) (by decide)
    obtain ⟨h', e, F, q, r⟩ := ih (i + 1) n (wr (wr (wr h 74 (upd (h.2.1 74) i (iz (va V 2 i)))) 75 (upd (h.2.1 75) i (iz (va V 3 i)))) 76 (upd (h.2.1 76) i (iz (va V 4 i)))) (by omega) (by omega) S.wr_.wr_.wr_ (k.eq_ (by rw [wr_ne (by decide), wr_ne (by decide), wr_ne (by decide)])) (fun j hj => by
      refine ⟨?_, ?_, ?_⟩
      · rw [wr_ne (by decide), wr_ne (by decide), wr_eq, upd_at]
        split
        · rename_i z; rw [z]
        · exact (hr j (by omega)).1
      · rw [wr_ne (by decide), wr_eq, upd_at]
        split
        · rename_i z; rw [z]
        · exact (hr j (by omega)).2.1
      · rw [wr_eq, upd_at]
        split
        · rename_i z; rw [z]
        · exact (hr j (by omega)).2.2)
    refine ⟨h', ?_, ((F1.tr F2).tr F3).tr F, fun j => by rw [q, wr_ne (by decide), wr_ne (by decide), wr_ne (by decide)], r⟩
    rw [← e]
    rw [il20, il24, il28, il4, if_neg (show ¬ (iz 4 ≤ iz (i : Int)) by rw [iz_le (by omega) (by omega) (by omega) (by omega)]; exact hc)]
    rw [kr74 S, kr98 S, iz_add, kl98 S (by omega) (by omega), e20, ki.1, ks74 S (by omega) (by omega), toN, kr75 S.wr_, kr98 S.wr_, iz_add, kl98 S.wr_ (by omega) (by omega), e24, wr_ne (show 98 ≠ 74 by decide), ki.2.1, ks75 S.wr_ (by omega) (by omega), toN, kr76 S.wr_.wr_, kr98 S.wr_.wr_, iz_add, kl98 S.wr_.wr_ (by omega) (by omega), e28, wr_ne (show 98 ≠ 75 by decide), wr_ne (show 98 ≠ 74 by decide), ki.2.2, ks76 S.wr_.wr_ (by omega) (by omega), toN, il1, iz_add, wr_ne (show 75 ≠ 74 by decide), wr_ne (show 76 ≠ 75 by decide), wr_ne (show 76 ≠ 74 by decide)]
    rfl
theorem m_back_28 : ∀ (d i n : Nat) (h : Mem), i + d = 12 → d < n → MSh h → KEP h V → (∀ j : Nat, j < i → h.2.1 73 j = iz (va V 1 j)) → ∃ row, f_X10_putBack_28 N n 71 (iz (i : Int)) h = f_X10_putBack_57 N N 71 (iz 0) (wr h 73 row) ∧ ∀ j : Nat, j < 12 → row j = iz (va V 1 j) := by
  intro d
  induction d with
  | zero =>
    intro i n h hi hn S k hr
    obtain ⟨n, rfl⟩ : ∃ k, n = k + 1 := ⟨n - 1, by omega⟩
    rw [f_X10_putBack_28]
    obtain rfl : i = 12 := by omega
    refine ⟨h.2.1 73, ?_, hr⟩
    rw [wr_id rfl]
    simp (disch := omega) only [il0, il1, il2, il3, il4, il5, il6, il7, il8, il9, il10, il11, il12, il13, il14, il15, il16, il17, il18, il19, il20, il21, il22, il23, il24, il25, il26, il27, il28, il29, il30, il31, il32, il33, il36, il38, il39, il40, il41, il48, il50, il51, il57, il59, il60, il61, il62, il63, il70, il96, il99, il100, il101, il102, il103, il104, il105, il106, il107, il108, il109, il110, il111, il112, il115, il116, il120, il121, il124, il200, il240, il255, il288, il360, il420, il999, il1000, il114292, il152755, il402789, il435589, il463922, il533611, il631470, nc1, nc2, nc3, nc4, nc5, nc6, nc7, nc8, nc9, nc12, nc16, nc20, nc21, nc40, nc60, nc120, nc200, Int.le_refl, iz_le, ↓reduceIte]
  | succ d ih =>
    intro i n h hi hn S k hr
    obtain ⟨n, rfl⟩ : ∃ k, n = k + 1 := ⟨n - 1, by omega⟩
    rw [f_X10_putBack_28]
    have hc : ¬ ((12 : Int) ≤ i) := by omega
    have ei : ((8 : Int) + (i : Int)).toNat = 8 + i := by omega
    have ki := k.2.1 i (by omega)
    obtain ⟨row, e, r⟩ := ih (i + 1) n (wr h 73 (upd (h.2.1 73) i (iz (va V 1 i)))) (by omega) (by omega) S.wr_ (k.eq_ (by rw [wr_ne (by decide)])) (fun j hj => by
      rw [wr_eq, upd_at]
      split
      · rename_i z; rw [z]
      · exact hr j (by omega))
    rw [wr_wr] at e
    refine ⟨row, ?_, r⟩
    rw [← e]
    simp (disch := omega) only [il0, il1, il2, il3, il4, il5, il6, il7, il8, il9, il10, il11, il12, il13, il14, il15, il16, il17, il18, il19, il20, il21, il22, il23, il24, il25, il26, il27, il28, il29, il30, il31, il32, il33, il36, il38, il39, il40, il41, il48, il50, il51, il57, il59, il60, il61, il62, il63, il70, il96, il99, il100, il101, il102, il103, il104, il105, il106, il107, il108, il109, il110, il111, il112, il115, il116, il120, il121, il124, il200, il240, il255, il288, il360, il420, il999, il1000, il114292, il152755, il402789, il435589, il463922, il533611, il631470, iz_le, hc, ↓reduceIte, ↓kr73 S, ↓kr98 S, iz_add, ↓kl98 S, ei, ki, ↓ks73 S, toN]
    rfl
theorem m_back_2 : ∀ (d i n : Nat) (h : Mem), i + d = 8 → d < n → MSh h → KEP h V → (∀ j : Nat, j < i → h.2.1 79 j = iz (va V 7 j)) → ∃ row, f_X10_putBack_2 N n 71 (iz (i : Int)) h = f_X10_putBack_28 N N 71 (iz 0) (wr h 79 row) ∧ ∀ j : Nat, j < 8 → row j = iz (va V 7 j) := by
  intro d
  induction d with
  | zero =>
    intro i n h hi hn S k hr
    obtain ⟨n, rfl⟩ : ∃ k, n = k + 1 := ⟨n - 1, by omega⟩
    rw [f_X10_putBack_2]
    obtain rfl : i = 8 := by omega
    refine ⟨h.2.1 79, ?_, hr⟩
    rw [wr_id rfl]
    simp (disch := omega) only [il0, il1, il2, il3, il4, il5, il6, il7, il8, il9, il10, il11, il12, il13, il14, il15, il16, il17, il18, il19, il20, il21, il22, il23, il24, il25, il26, il27, il28, il29, il30, il31, il32, il33, il36, il38, il39, il40, il41, il48, il50, il51, il57, il59, il60, il61, il62, il63, il70, il96, il99, il100, il101, il102, il103, il104, il105, il106, il107, il108, il109, il110, il111, il112, il115, il116, il120, il121, il124, il200, il240, il255, il288, il360, il420, il999, il1000, il114292, il152755, il402789, il435589, il463922, il533611, il631470, nc1, nc2, nc3, nc4, nc5, nc6, nc7, nc8, nc9, nc12, nc16, nc20, nc21, nc40, nc60, nc120, nc200, Int.le_refl, iz_le, ↓reduceIte]
  | succ d ih =>
    intro i n h hi hn S k hr
    obtain ⟨n, rfl⟩ : ∃ k, n = k + 1 := ⟨n - 1, by omega⟩
    rw [f_X10_putBack_2]
    have hc : ¬ ((8 : Int) ≤ i) := by omega
    have ki := k.1 i (by omega)
    obtain ⟨row, e, r⟩ := ih (i + 1) n (wr h 79 (upd (h.2.1 79) i (iz (va V 7 i)))) (by omega) (by omega) S.wr_ (k.eq_ (by rw [wr_ne (by decide)])) (fun j hj => by
      rw [wr_eq, upd_at]
      split
      · rename_i z; rw [z]
      · exact hr j (by omega))
    rw [wr_wr] at e
    refine ⟨row, ?_, r⟩
    rw [← e]
    simp (disch := omega) only [il0, il1, il2, il3, il4, il5, il6, il7, il8, il9, il10, il11, il12, il13, il14, il15, il16, il17, il18, il19, il20, il21, il22, il23, il24, il25, il26, il27, il28, il29, il30, il31, il32, il33, il36, il38, il39, il40, il41, il48, il50, il51, il57, il59, il60, il61, il62, il63, il70, il96, il99, il100, il101, il102, il103, il104, il105, il106, il107, il108, il109, il110, il111, il112, il115, il116, il120, il121, il124, il200, il240, il255, il288, il360, il420, il999, il1000, il114292, il152755, il402789, il435589, il463922, il533611, il631470, iz_le, hc, ↓reduceIte, ↓kr79 S, ↓kr98 S, iz_add, ↓kl98 S, toN, ki, ↓ks79 S]
    rfl
/-- what trying changes of a view -/
def like5 (U V : Vw) : Prop := vT U = vT V ∧ vF U = vF V ∧ vs U = vs V ∧ ∀ k, k ∉ [1, 2, 3, 4, 7] → va U k = va V k
theorem m_putBack {h : Mem} {U : Vw} (R : RepM h U) (hN : 200 ≤ N) (k : KEP h V) (l : like5 U V) : ∃ h', f_X10_putBack N 71 h = some h' ∧ RepM h' V ∧ FM SK h h' ∧ KEP h' V := by
  obtain ⟨r7, e7, h7⟩ := m_back_2 (N := N) (V := V) 8 0 N h (by omega) (by omega) R.1 k (fun j hj => by omega)
  obtain ⟨r1, e1, h1⟩ := m_back_28 (N := N) (V := V) 12 0 N (wr h 79 r7) (by omega) (by omega) R.1.wr_ (k.eq_ (by rw [wr_ne (by decide)])) (fun j hj => by omega)
  obtain ⟨h', e5, F, q, r⟩ := m_back_57 (N := N) (V := V) 4 0 N (wr (wr h 79 r7) 73 r1) (by omega) (by omega) R.1.wr_.wr_ (k.eq_ (by rw [wr_ne (by decide), wr_ne (by decide)])) (fun j hj => by omega)
  have s34 : ∀ i, i ∈ [74, 75, 76] → i ∈ SK := by decide
  have F0 : FM SK h h' := ((FM.wr_ (a := 79) (by decide) (by decide)).tr (FM.wr_ (a := 73) (by decide) (by decide))).tr (F.mono s34)
  refine ⟨h', e7.trans (e1.trans e5), ?_, F0, k.eq_ (by rw [F.2.2.2.1 98 (by decide) (by decide), wr_ne (by decide), wr_ne (by decide)])⟩
  refine R.rows5 (V := V) F0.1 F0.2.1 (fun i hi hn => ?_) (fun j hj => by rw [q, wr_ne (by decide), wr_ne (by decide)]) l.1 l.2.1 l.2.2.1 l.2.2.2 (fun k' hk j hj => ?_)
  · have : ∀ i, i ∈ dpM → i ∉ [73, 74, 75, 76, 79] → i ≠ 71 ∧ i ∉ [74, 75, 76] ∧ i ≠ 73 ∧ i ≠ 79 := by decide
    have z := this i hi hn
    rw [F.2.2.2.1 i z.1 z.2.1, wr_ne z.2.2.1, wr_ne z.2.2.2]
  · rcases (show k' = 1 ∨ k' = 2 ∨ k' = 3 ∨ k' = 4 ∨ k' = 7 by simpa using hk) with rfl | rfl | rfl | rfl | rfl
    · rw [F.2.2.2.1 73 (by decide) (by decide), wr_eq]; exact h1 j hj
    · exact (r j hj).1
    · exact (r j hj).2.1
    · exact (r j hj).2.2
    · rw [F.2.2.2.1 79 (by decide) (by decide), wr_ne (by decide), wr_eq]; exact h7 j hj
theorem m_room_2 {h : Mem} (R : RepM h V) (w : WF V) (hN : 200 ≤ N) : ∀ (d i n : Nat), i + d = vT V → d < n → f_X10_isRoom_2 N n 71 (iz (i : Int)) h = some (iz (match fs (crowdedP V) i d with
    | some _ => 0
    | none => 1), h) := by
  intro d
  have hT := w.T
  have hF := w.F
  induction d with
  | zero =>
    intro i n hi hn
    obtain ⟨n, rfl⟩ : ∃ k, n = k + 1 := ⟨n - 1, by omega⟩
    rw [f_X10_isRoom_2]
    obtain rfl : i = vT V := by omega
    simp (disch := omega) only [↓kmC R.1, ↓kmT R, ↓kmF R, ↓kmM R, ↓kmD R, ↓kmP R, ↓kr72 R.1, ↓kr73 R.1, ↓kr74 R.1, ↓kr75 R.1, ↓kr76 R.1, ↓kr77 R.1, ↓kr78 R.1, ↓kr79 R.1, ↓kr80 R.1, ↓kr81 R.1, ↓kr82 R.1, ↓kr83 R.1, ↓kr84 R.1, ↓kr85 R.1, ↓kr86 R.1, ↓kr87 R.1, ↓kr88 R.1, ↓kr89 R.1, ↓kr90 R.1, ↓kr91 R.1, ↓kr92 R.1, ↓kr93 R.1, ↓kr94 R.1, ↓kr95 R.1, ↓kr96 R.1, ↓kr97 R.1, ↓kr98 R.1, ↓kr99 R.1, ↓kr100 R.1, ↓kr101 R.1, ↓kr102 R.1, ↓kr103 R.1, ↓kr104 R.1, ↓kr105 R.1, ↓kr106 R.1, ↓kr107 R.1, ↓kr108 R.1, ↓kr109 R.1, ↓kr110 R.1, ↓kx0 R, ↓kx1 R, ↓kx2 R, ↓kx3 R, ↓kx4 R, ↓kx5 R, ↓kx6 R, ↓kx7 R, ↓kx8 R, ↓kx9 R, ↓kx10 R, ↓kx11 R, ↓kx1m R, ↓kx9m R, ↓kx10m R, ↓reduceIte, if_true, if_false, Option.bind_some, b2_some, il0, il1, il2, il3, il4, il5, il6, il7, il8, il9, il10, il11, il12, il13, il14, il15, il16, il17, il18, il19, il20, il21, il22, il23, il24, il25, il26, il27, il28, il29, il30, il31, il32, il33, il36, il38, il39, il40, il41, il48, il50, il51, il57, il59, il60, il61, il62, il63, il70, il96, il99, il100, il101, il102, il103, il104, il105, il106, il107, il108, il109, il110, il111, il112, il115, il116, il120, il121, il124, il200, il240, il255, il288, il360, il420, il999, il1000, il114292, il152755, il402789, il435589, il463922, il533611, il631470, iz_add, iz_sub, iz_mul, iz_neg, iz_le, iz_lt, iz_eq, Int.le_refl]
    rfl
  | succ d ih =>
    intro i n hi hn
    obtain ⟨n, rfl⟩ : ∃ k, n = k + 1 := ⟨n - 1, by omega⟩
    rw [f_X10_isRoom_2]
    have hc : ¬ ((vT V : Int) ≤ i) := by omega
    have e := ih (i + 1) n (by omega) (by omega)
    have hcr := m_many (N := N) R w hN (t := i) (by omega)
    have hcb := cnt_bd (V := V) i
    have hwt := w.t (j := i) (by omega) (by omega)
    rw [fs]
    by_cases h1 : cnt V i ≤ va V 0 i
    · have hp : ¬ (crowdedP V i = true) := by simp [crowdedP]; omega
      rw [if_neg hp]
      simp (disch := omega) only [↓kmC R.1, ↓kmT R, ↓kmF R, ↓kmM R, ↓kmD R, ↓kmP R, ↓kr72 R.1, ↓kr73 R.1, ↓kr74 R.1, ↓kr75 R.1, ↓kr76 R.1, ↓kr77 R.1, ↓kr78 R.1, ↓kr79 R.1, ↓kr80 R.1, ↓kr81 R.1, ↓kr82 R.1, ↓kr83 R.1, ↓kr84 R.1, ↓kr85 R.1, ↓kr86 R.1, ↓kr87 R.1, ↓kr88 R.1, ↓kr89 R.1, ↓kr90 R.1, ↓kr91 R.1, ↓kr92 R.1, ↓kr93 R.1, ↓kr94 R.1, ↓kr95 R.1, ↓kr96 R.1, ↓kr97 R.1, ↓kr98 R.1, ↓kr99 R.1, ↓kr100 R.1, ↓kr101 R.1, ↓kr102 R.1, ↓kr103 R.1, ↓kr104 R.1, ↓kr105 R.1, ↓kr106 R.1, ↓kr107 R.1, ↓kr108 R.1, ↓kr109 R.1, ↓kr110 R.1, ↓kx0 R, ↓kx1 R, ↓kx2 R, ↓kx3 R, ↓kx4 R, ↓kx5 R, ↓kx6 R, ↓kx7 R, ↓kx8 R, ↓kx9 R, ↓kx10 R, ↓kx11 R, ↓kx1m R, ↓kx9m R, ↓kx10m R, ↓reduceIte, ↓bq hcr, if_true, if_false, Option.bind_some, b2_some, il0, il1, il2, il3, il4, il5, il6, il7, il8, il9, il10, il11, il12, il13, il14, il15, il16, il17, il18, il19, il20, il21, il22, il23, il24, il25, il26, il27, il28, il29, il30, il31, il32, il33, il36, il38, il39, il40, il41, il48, il50, il51, il57, il59, il60, il61, il62, il63, il70, il96, il99, il100, il101, il102, il103, il104, il105, il106, il107, il108, il109, il110, il111, il112, il115, il116, il120, il121, il124, il200, il240, il255, il288, il360, il420, il999, il1000, il114292, il152755, il402789, il435589, il463922, il533611, il631470, iz_add, iz_sub, iz_mul, iz_neg, iz_le, iz_lt, iz_eq, hc, h1]
      exact e
    · have hp : crowdedP V i = true := by simp [crowdedP]; omega
      rw [if_pos hp]
      simp (disch := omega) only [↓kmC R.1, ↓kmT R, ↓kmF R, ↓kmM R, ↓kmD R, ↓kmP R, ↓kr72 R.1, ↓kr73 R.1, ↓kr74 R.1, ↓kr75 R.1, ↓kr76 R.1, ↓kr77 R.1, ↓kr78 R.1, ↓kr79 R.1, ↓kr80 R.1, ↓kr81 R.1, ↓kr82 R.1, ↓kr83 R.1, ↓kr84 R.1, ↓kr85 R.1, ↓kr86 R.1, ↓kr87 R.1, ↓kr88 R.1, ↓kr89 R.1, ↓kr90 R.1, ↓kr91 R.1, ↓kr92 R.1, ↓kr93 R.1, ↓kr94 R.1, ↓kr95 R.1, ↓kr96 R.1, ↓kr97 R.1, ↓kr98 R.1, ↓kr99 R.1, ↓kr100 R.1, ↓kr101 R.1, ↓kr102 R.1, ↓kr103 R.1, ↓kr104 R.1, ↓kr105 R.1, ↓kr106 R.1, ↓kr107 R.1, ↓kr108 R.1, ↓kr109 R.1, ↓kr110 R.1, ↓kx0 R, ↓kx1 R, ↓kx2 R, ↓kx3 R, ↓kx4 R, ↓kx5 R, ↓kx6 R, ↓kx7 R, ↓kx8 R, ↓kx9 R, ↓kx10 R, ↓kx11 R, ↓kx1m R, ↓kx9m R, ↓kx10m R, ↓reduceIte, ↓bq hcr, if_true, if_false, Option.bind_some, b2_some, il0, il1, il2, il3, il4, il5, il6, il7, il8, il9, il10, il11, il12, il13, il14, il15, il16, il17, il18, il19, il20, il21, il22, il23, il24, il25, il26, il27, il28, il29, il30, il31, il32, il33, il36, il38, il39, il40, il41, il48, il50, il51, il57, il59, il60, il61, il62, il63, il70, il96, il99, il100, il101, il102, il103, il104, il105, il106, il107, il108, il109, il110, il111, il112, il115, il116, il120, il121, il124, il200, il240, il255, il288, il360, il420, il999, il1000, il114292, il152755, il402789, il435589, il463922, il533611, il631470, iz_add, iz_sub, iz_mul, iz_neg, iz_le, iz_lt, iz_eq, hc, h1]
theorem m_room {h : Mem} (R : RepM h V) (w : WF V) (hN : 200 ≤ N) : f_X10_isRoom N 71 h = some (iz (fitsI V), h) := by
  have hT := w.T
  exact m_room_2 R w hN (vT V) 0 N (by omega) (by omega)
theorem m_rows_4 {h : Mem} (R : RepM h V) (w : WF V) : ∀ (d i n : Nat), i + d = vF V → d < n → f_X10_rowsOf_4 N n 71 (iz ((vT V ^ i : Nat) : Int)) (iz (i : Int)) h = some (iz (ways V : Int), h) := by
  intro d
  have hF := w.F
  induction d with
  | zero =>
    intro i n hi hn
    obtain ⟨n, rfl⟩ : ∃ k, n = k + 1 := ⟨n - 1, by omega⟩
    rw [f_X10_rowsOf_4]
    obtain rfl : i = vF V := by omega
    simp (disch := omega) only [↓kmC R.1, ↓kmT R, ↓kmF R, ↓kmM R, ↓kmD R, ↓kmP R, ↓kr72 R.1, ↓kr73 R.1, ↓kr74 R.1, ↓kr75 R.1, ↓kr76 R.1, ↓kr77 R.1, ↓kr78 R.1, ↓kr79 R.1, ↓kr80 R.1, ↓kr81 R.1, ↓kr82 R.1, ↓kr83 R.1, ↓kr84 R.1, ↓kr85 R.1, ↓kr86 R.1, ↓kr87 R.1, ↓kr88 R.1, ↓kr89 R.1, ↓kr90 R.1, ↓kr91 R.1, ↓kr92 R.1, ↓kr93 R.1, ↓kr94 R.1, ↓kr95 R.1, ↓kr96 R.1, ↓kr97 R.1, ↓kr98 R.1, ↓kr99 R.1, ↓kr100 R.1, ↓kr101 R.1, ↓kr102 R.1, ↓kr103 R.1, ↓kr104 R.1, ↓kr105 R.1, ↓kr106 R.1, ↓kr107 R.1, ↓kr108 R.1, ↓kr109 R.1, ↓kr110 R.1, ↓kx0 R, ↓kx1 R, ↓kx2 R, ↓kx3 R, ↓kx4 R, ↓kx5 R, ↓kx6 R, ↓kx7 R, ↓kx8 R, ↓kx9 R, ↓kx10 R, ↓kx11 R, ↓kx1m R, ↓kx9m R, ↓kx10m R, ↓reduceIte, if_true, if_false, Option.bind_some, b2_some, il0, il1, il2, il3, il4, il5, il6, il7, il8, il9, il10, il11, il12, il13, il14, il15, il16, il17, il18, il19, il20, il21, il22, il23, il24, il25, il26, il27, il28, il29, il30, il31, il32, il33, il36, il38, il39, il40, il41, il48, il50, il51, il57, il59, il60, il61, il62, il63, il70, il96, il99, il100, il101, il102, il103, il104, il105, il106, il107, il108, il109, il110, il111, il112, il115, il116, il120, il121, il124, il200, il240, il255, il288, il360, il420, il999, il1000, il114292, il152755, il402789, il435589, il463922, il533611, il631470, iz_add, iz_sub, iz_mul, iz_neg, iz_le, iz_lt, iz_eq, Int.le_refl]
    rfl
  | succ d ih =>
    intro i n hi hn
    obtain ⟨n, rfl⟩ : ∃ k, n = k + 1 := ⟨n - 1, by omega⟩
    rw [f_X10_rowsOf_4]
    have hc : ¬ ((vF V : Int) ≤ i) := by omega
    have e := ih (i + 1) n (by omega) (by omega)
    rw [Nat.pow_succ, Int.natCast_mul] at e
    simp (disch := omega) only [↓kmC R.1, ↓kmT R, ↓kmF R, ↓kmM R, ↓kmD R, ↓kmP R, ↓kr72 R.1, ↓kr73 R.1, ↓kr74 R.1, ↓kr75 R.1, ↓kr76 R.1, ↓kr77 R.1, ↓kr78 R.1, ↓kr79 R.1, ↓kr80 R.1, ↓kr81 R.1, ↓kr82 R.1, ↓kr83 R.1, ↓kr84 R.1, ↓kr85 R.1, ↓kr86 R.1, ↓kr87 R.1, ↓kr88 R.1, ↓kr89 R.1, ↓kr90 R.1, ↓kr91 R.1, ↓kr92 R.1, ↓kr93 R.1, ↓kr94 R.1, ↓kr95 R.1, ↓kr96 R.1, ↓kr97 R.1, ↓kr98 R.1, ↓kr99 R.1, ↓kr100 R.1, ↓kr101 R.1, ↓kr102 R.1, ↓kr103 R.1, ↓kr104 R.1, ↓kr105 R.1, ↓kr106 R.1, ↓kr107 R.1, ↓kr108 R.1, ↓kr109 R.1, ↓kr110 R.1, ↓kx0 R, ↓kx1 R, ↓kx2 R, ↓kx3 R, ↓kx4 R, ↓kx5 R, ↓kx6 R, ↓kx7 R, ↓kx8 R, ↓kx9 R, ↓kx10 R, ↓kx11 R, ↓kx1m R, ↓kx9m R, ↓kx10m R, ↓reduceIte, if_true, if_false, Option.bind_some, b2_some, il0, il1, il2, il3, il4, il5, il6, il7, il8, il9, il10, il11, il12, il13, il14, il15, il16, il17, il18, il19, il20, il21, il22, il23, il24, il25, il26, il27, il28, il29, il30, il31, il32, il33, il36, il38, il39, il40, il41, il48, il50, il51, il57, il59, il60, il61, il62, il63, il70, il96, il99, il100, il101, il102, il103, il104, il105, il106, il107, il108, il109, il110, il111, il112, il115, il116, il120, il121, il124, il200, il240, il255, il288, il360, il420, il999, il1000, il114292, il152755, il402789, il435589, il463922, il533611, il631470, iz_add, iz_sub, iz_mul, iz_neg, iz_le, iz_lt, iz_eq, hc]
    exact e
theorem m_rowsOf {h : Mem} (R : RepM h V) (w : WF V) (hN : 200 ≤ N) : f_X10_rowsOf N 71 h = some (iz (ways V : Int), h) := by
  have hF := w.F
  exact m_rows_4 R w (vF V) 0 N (by omega) (by omega)
theorem m_lay_9 (w : WF V) (hT0 : 0 < vT V) {r : Nat} (hr : r ≤ 65536) : ∀ (d i n : Nat) (h : Mem), i + d = vF V → d < n → RepM h (stl V r i) → ∃ h', f_X10_layOut_9 N n 71 (iz ((r / vT V ^ i : Nat) : Int)) (iz ((vF V : Int) - 1 - i)) h = some h' ∧ RepM h' (stl V r (vF V)) ∧ FM SR h h' := by
  intro d
  have hF := w.F
  have hT := w.T
  induction d with
  | zero =>
    intro i n h hi hn R
    obtain ⟨n, rfl⟩ : ∃ k, n = k + 1 := ⟨n - 1, by omega⟩
    obtain rfl : i = vF V := by omega
    have h2 : (vF V : Int) - 1 - vF V < 0 := by omega
    refine ⟨h, ?_, R, FM.rf⟩
    rw [f_X10_layOut_9]
    simp (disch := omega) only [if_true, if_false, Option.bind_some, b2_some, il0, il1, il2, il3, il4, il5, il6, il7, il8, il9, il10, il11, il12, il13, il14, il15, il16, il17, il18, il19, il20, il21, il22, il23, il24, il25, il26, il27, il28, il29, il30, il31, il32, il33, il36, il38, il39, il40, il41, il48, il50, il51, il57, il59, il60, il61, il62, il63, il70, il96, il99, il100, il101, il102, il103, il104, il105, il106, il107, il108, il109, il110, il111, il112, il115, il116, il120, il121, il124, il200, il240, il255, il288, il360, il420, il999, il1000, il114292, il152755, il402789, il435589, il463922, il533611, il631470, iz_add, iz_sub, iz_mul, iz_neg, iz_le, iz_lt, iz_eq, h2, ↓reduceIte]
  | succ d ih =>
    intro i n h hi hn R
    obtain ⟨n, rfl⟩ : ∃ k, n = k + 1 := ⟨n - 1, by omega⟩
    rw [f_X10_layOut_9]
    have h2 : ¬ ((vF V : Int) - 1 - i < 0) := by omega
    have tf := stl_TF (V := V) (r := r) i
    have R1 := R.set (k := 7) (j := (vF V : Int) - 1 - i) (x := ((r / vT V ^ i % vT V : Nat) : Int)) (by omega) (by omega)
    obtain ⟨h', e, R', F'⟩ := ih (i + 1) n _ (by omega) (by omega) R1
    refine ⟨h', ?_, R', (FM.wr_ (by decide) (by decide)).tr F'⟩
    have hq : r / vT V ^ i ≤ 65536 := Nat.le_trans (Nat.div_le_self _ _) hr
    have h3 : ¬ ((vT V : Int) = 0) := by omega
    generalize hqq : r / vT V ^ i = qq at *
    have e5 : r / vT V ^ (i + 1) = qq / vT V := by rw [Nat.pow_succ, ← Nat.div_div_eq_div_mul, hqq]
    rw [e5] at e
    have hz : ((qq : Int)).tdiv (vT V : Int) = ((qq / vT V : Nat) : Int) := (Int.ofNat_tdiv qq (vT V)).symm
    simp (disch := omega) only [↓kmC R.1, ↓kmT R, ↓kmF R, ↓kmM R, ↓kmD R, ↓kmP R, ↓kr72 R.1, ↓kr73 R.1, ↓kr74 R.1, ↓kr75 R.1, ↓kr76 R.1, ↓kr77 R.1, ↓kr78 R.1, ↓kr79 R.1, ↓kr80 R.1, ↓kr81 R.1, ↓kr82 R.1, ↓kr83 R.1, ↓kr84 R.1, ↓kr85 R.1, ↓kr86 R.1, ↓kr87 R.1, ↓kr88 R.1, ↓kr89 R.1, ↓kr90 R.1, ↓kr91 R.1, ↓kr92 R.1, ↓kr93 R.1, ↓kr94 R.1, ↓kr95 R.1, ↓kr96 R.1, ↓kr97 R.1, ↓kr98 R.1, ↓kr99 R.1, ↓kr100 R.1, ↓kr101 R.1, ↓kr102 R.1, ↓kr103 R.1, ↓kr104 R.1, ↓kr105 R.1, ↓kr106 R.1, ↓kr107 R.1, ↓kr108 R.1, ↓kr109 R.1, ↓kr110 R.1, ↓kx0 R, ↓kx1 R, ↓kx2 R, ↓kx3 R, ↓kx4 R, ↓kx5 R, ↓kx6 R, ↓kx7 R, ↓kx8 R, ↓kx9 R, ↓kx10 R, ↓kx11 R, ↓kx1m R, ↓kx9m R, ↓kx10m R, ↓reduceIte, tf.1, if_true, if_false, Option.bind_some, b2_some, il0, il1, il2, il3, il4, il5, il6, il7, il8, il9, il10, il11, il12, il13, il14, il15, il16, il17, il18, il19, il20, il21, il22, il23, il24, il25, il26, il27, il28, il29, il30, il31, il32, il33, il36, il38, il39, il40, il41, il48, il50, il51, il57, il59, il60, il61, il62, il63, il70, il96, il99, il100, il101, il102, il103, il104, il105, il106, il107, il108, il109, il110, il111, il112, il115, il116, il120, il121, il124, il200, il240, il255, il288, il360, il420, il999, il1000, il114292, il152755, il402789, il435589, il463922, il533611, il631470, iz_add, iz_sub, iz_mul, iz_neg, iz_le, iz_lt, iz_eq, h2, h3, iz_div, hz, dig, ↓ks79 R.1, ↓kmT R1, vset_T]
    rw [show (vF V : Int) - 1 - (i : Int) + (-1) = (vF V : Int) - 1 - ((i + 1 : Nat) : Int) by omega]
    exact e
theorem m_layOut {h : Mem} (R : RepM h V) (w : WF V) (hN : 200 ≤ N) (hT0 : 0 < vT V) {r : Nat} (hr : r ≤ 65536) : ∃ h', f_X10_layOut N 71 (iz (r : Int)) h = some h' ∧ RepM h' (stl V r (vF V)) ∧ FM SR h h' := by
  have hF := w.F
  obtain ⟨h', e, r'⟩ := m_lay_9 (N := N) w hT0 hr (vF V) 0 N h (by omega) (by omega) R
  refine ⟨h', ?_, r'⟩
  rw [Nat.pow_zero, Nat.div_one] at e
  unfold f_X10_layOut
  rw [kmF R, il1, iz_sub]
  rw [show (vF V : Int) - 1 - ((0 : Nat) : Int) = (vF V : Int) - 1 by omega] at e
  exact e
end
