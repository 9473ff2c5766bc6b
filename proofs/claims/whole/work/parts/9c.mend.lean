def BST (h : Mem) (k : Nat) (V : Vw) : Prop := (∀ f : Nat, f < vF V → h.2.1 97 (20 * k + f) = iz (va V 7 f)) ∧ ∀ v : Nat, v < 12 → h.2.1 97 (20 * k + 8 + v) = iz (va V 1 v)
section
variable {V : Vw} {N : Nat}
theorem BST.eq_ {h h' : Mem} {k : Nat} (b : BST h k V) (e : h'.2.1 97 = h.2.1 97) : BST h' k V := by unfold BST at *; rw [e]; exact b
theorem m_ks_45 (w : WF V) {k : Nat} (hk : k ≤ 20) : ∀ (d i n : Nat) (h : Mem), i + d = 12 → d < n → RepM h V → (∀ v : Nat, v < i → h.2.1 97 (20 * k + 8 + v) = iz (va V 1 v)) → ∃ row, f_X10_keepState_45 N n 71 (iz (k : Int)) (iz (i : Int)) h = some (wr h 97 row) ∧ (∀ v : Nat, v < 12 → row (20 * k + 8 + v) = iz (va V 1 v)) ∧ ∀ j, (j < 20 * k + 8 ∨ 20 * k + 20 ≤ j) → row j = h.2.1 97 j := by
  intro d
  induction d with
  | zero =>
    intro i n h hi hn R hr
    obtain ⟨n, rfl⟩ : ∃ k, n = k + 1 := ⟨n - 1, by omega⟩
    rw [f_X10_keepState_45]
    obtain rfl : i = 12 := by omega
    refine ⟨h.2.1 97, ?_, hr, fun _ _ => rfl⟩
    rw [wr_id rfl]
    simp (disch := omega) only [il0, il1, il2, il3, il4, il5, il6, il7, il8, il9, il10, il11, il12, il13, il14, il15, il16, il17, il18, il19, il20, il21, il22, il23, il24, il25, il26, il27, il28, il29, il30, il31, il32, il33, il36, il38, il39, il40, il41, il48, il50, il51, il57, il59, il60, il61, il62, il63, il70, il96, il99, il100, il101, il102, il103, il104, il105, il106, il107, il108, il109, il110, il111, il112, il115, il116, il120, il121, il124, il200, il240, il255, il288, il360, il420, il999, il1000, il114292, il152755, il402789, il435589, il463922, il533611, il631470, nc1, nc2, nc3, nc4, nc5, nc6, nc7, nc8, nc9, nc12, nc16, nc20, nc21, nc40, nc60, nc120, nc200, Int.le_refl, iz_le, ↓reduceIte]
  | succ d ih =>
    intro i n h hi hn R hr
    obtain ⟨n, rfl⟩ : ∃ k, n = k + 1 := ⟨n - 1, by omega⟩
    rw [f_X10_keepState_45]
    have hc : ¬ ((12 : Int) ≤ i) := by omega
    have hl := (w.l (j := i) (by omega) (by omega)).1
    obtain ⟨row, e, h1, h2⟩ := ih (i + 1) n (wr h 97 (upd (h.2.1 97) (20 * k + 8 + i) (iz (va V 1 i)))) (by omega) (by omega) (R.wr_ ⟨by decide, by decide⟩) (fun v hv => by
      rw [wr_eq, upd_at]
      by_cases q : 20 * k + 8 + v = 20 * k + 8 + i
      · rw [if_pos q, show v = i by omega]
      · rw [if_neg q]; exact hr v (by omega))
    rw [wr_wr] at e
    refine ⟨row, ?_, h1, fun j hj => by rw [h2 j hj, wr_eq, upd_at, if_neg (by omega)]⟩
    rw [← e]
    have ei : ((20 : Int) * (k : Int) + 8 + (i : Int)).toNat = 20 * k + 8 + i := by omega
    simp (disch := omega) only [↓kmC R.1, ↓kmT R, ↓kmF R, ↓kmM R, ↓kmD R, ↓kmP R, ↓kr72 R.1, ↓kr73 R.1, ↓kr74 R.1, ↓kr75 R.1, ↓kr76 R.1, ↓kr77 R.1, ↓kr78 R.1, ↓kr79 R.1, ↓kr80 R.1, ↓kr81 R.1, ↓kr82 R.1, ↓kr83 R.1, ↓kr84 R.1, ↓kr85 R.1, ↓kr86 R.1, ↓kr87 R.1, ↓kr88 R.1, ↓kr89 R.1, ↓kr90 R.1, ↓kr91 R.1, ↓kr92 R.1, ↓kr93 R.1, ↓kr94 R.1, ↓kr95 R.1, ↓kr96 R.1, ↓kr97 R.1, ↓kr98 R.1, ↓kr99 R.1, ↓kr100 R.1, ↓kr101 R.1, ↓kr102 R.1, ↓kr103 R.1, ↓kr104 R.1, ↓kr105 R.1, ↓kr106 R.1, ↓kr107 R.1, ↓kr108 R.1, ↓kr109 R.1, ↓kr110 R.1, ↓kx0 R, ↓kx1 R, ↓kx2 R, ↓kx3 R, ↓kx4 R, ↓kx5 R, ↓kx6 R, ↓kx7 R, ↓kx8 R, ↓kx9 R, ↓kx10 R, ↓kx11 R, ↓kx1m R, ↓kx9m R, ↓kx10m R, ↓reduceIte, il0, il1, il2, il3, il4, il5, il6, il7, il8, il9, il10, il11, il12, il13, il14, il15, il16, il17, il18, il19, il20, il21, il22, il23, il24, il25, il26, il27, il28, il29, il30, il31, il32, il33, il36, il38, il39, il40, il41, il48, il50, il51, il57, il59, il60, il61, il62, il63, il70, il96, il99, il100, il101, il102, il103, il104, il105, il106, il107, il108, il109, il110, il111, il112, il115, il116, il120, il121, il124, il200, il240, il255, il288, il360, il420, il999, il1000, il114292, il152755, il402789, il435589, il463922, il533611, il631470, iz_le, hc, iz_mul, iz_add, ↓ks97 R.1, ei]
    rfl
theorem m_ks_2 (w : WF V) (hN : 200 ≤ N) {k : Nat} (hk : k ≤ 20) : ∀ (d i n : Nat) (h : Mem), i + d = 8 → d < n → RepM h V → (∀ f : Nat, f < i → f < vF V → h.2.1 97 (20 * k + f) = iz (va V 7 f)) → ∃ row, f_X10_keepState_2 N n 71 (iz (k : Int)) (iz (i : Int)) h = some (wr h 97 row) ∧ (∀ f : Nat, f < vF V → row (20 * k + f) = iz (va V 7 f)) ∧ (∀ v : Nat, v < 12 → row (20 * k + 8 + v) = iz (va V 1 v)) ∧ ∀ j, (j < 20 * k ∨ 20 * k + 20 ≤ j) → row j = h.2.1 97 j := by
  intro d
  have hF := w.F
  induction d with
  | zero =>
    intro i n h hi hn R hr
    obtain ⟨n, rfl⟩ : ∃ k, n = k + 1 := ⟨n - 1, by omega⟩
    rw [f_X10_keepState_2]
    obtain rfl : i = 8 := by omega
    obtain ⟨row, e, h1, h2⟩ := m_ks_45 (N := N) w hk 12 0 N h (by omega) (by omega) R (fun v hv => by omega)
    refine ⟨row, ?_, fun f hf => by rw [h2 _ (by omega)]; exact hr f (by omega) hf, h1, fun j hj => h2 j (by omega)⟩
    simp (disch := omega) only [il0, il1, il2, il3, il4, il5, il6, il7, il8, il9, il10, il11, il12, il13, il14, il15, il16, il17, il18, il19, il20, il21, il22, il23, il24, il25, il26, il27, il28, il29, il30, il31, il32, il33, il36, il38, il39, il40, il41, il48, il50, il51, il57, il59, il60, il61, il62, il63, il70, il96, il99, il100, il101, il102, il103, il104, il105, il106, il107, il108, il109, il110, il111, il112, il115, il116, il120, il121, il124, il200, il240, il255, il288, il360, il420, il999, il1000, il114292, il152755, il402789, il435589, il463922, il533611, il631470, nc1, nc2, nc3, nc4, nc5, nc6, nc7, nc8, nc9, nc12, nc16, nc20, nc21, nc40, nc60, nc120, nc200, Int.le_refl, iz_le, ↓reduceIte]
    exact e
  | succ d ih =>
    intro i n h hi hn R hr
    obtain ⟨n, rfl⟩ : ∃ k, n = k + 1 := ⟨n - 1, by omega⟩
    rw [f_X10_keepState_2]
    have hc : ¬ ((8 : Int) ≤ i) := by omega
    have h7 := (w.f (j := i) (by omega) (by omega)).2.2.1
    have ei : ((20 : Int) * (k : Int) + (i : Int)).toNat = 20 * k + i := by omega
    have step : ∀ z : Int32, (i < vF V → z = iz (va V 7 i)) → ∃ row, f_X10_keepState_36 N 71 (iz (k : Int)) (iz (i : Int)) 97 (iz ((20 : Int) * (k : Int) + (i : Int))) z h (fun v0 v1 v2 h => f_X10_keepState_2 N n v0 v1 v2 h) = some (wr h 97 row) ∧ (∀ f : Nat, f < vF V → row (20 * k + f) = iz (va V 7 f)) ∧ (∀ v : Nat, v < 12 → row (20 * k + 8 + v) = iz (va V 1 v)) ∧ ∀ j, (j < 20 * k ∨ 20 * k + 20 ≤ j) → row j = h.2.1 97 j := by
      intro z hz
      obtain ⟨row, e, h1, h2, h3⟩ := ih (i + 1) n (wr h 97 (upd (h.2.1 97) (20 * k + i) z)) (by omega) (by omega) (R.wr_ ⟨by decide, by decide⟩) (fun f hf hfF => by
        rw [wr_eq, upd_at]
        by_cases q : 20 * k + f = 20 * k + i
        · rw [if_pos q, hz (by omega), show f = i by omega]
        · rw [if_neg q]; exact hr f (by omega) hfF)
      rw [wr_wr] at e
      refine ⟨row, ?_, h1, h2, fun j hj => by rw [h3 j hj, wr_eq, upd_at, if_neg (by omega)]⟩
      rw [← e]
      unfold f_X10_keepState_36
      rw [ks97 R.1 (by omega) (by omega), ei, il1, iz_add]
      rfl
    by_cases c : (vF V : Int) ≤ i
    · obtain ⟨row, e, r⟩ := step (iz 0) (fun z => by omega)
      refine ⟨row, ?_, r⟩
      simp (disch := omega) only [↓kmC R.1, ↓kmT R, ↓kmF R, ↓kmM R, ↓kmD R, ↓kmP R, ↓kr72 R.1, ↓kr73 R.1, ↓kr74 R.1, ↓kr75 R.1, ↓kr76 R.1, ↓kr77 R.1, ↓kr78 R.1, ↓kr79 R.1, ↓kr80 R.1, ↓kr81 R.1, ↓kr82 R.1, ↓kr83 R.1, ↓kr84 R.1, ↓kr85 R.1, ↓kr86 R.1, ↓kr87 R.1, ↓kr88 R.1, ↓kr89 R.1, ↓kr90 R.1, ↓kr91 R.1, ↓kr92 R.1, ↓kr93 R.1, ↓kr94 R.1, ↓kr95 R.1, ↓kr96 R.1, ↓kr97 R.1, ↓kr98 R.1, ↓kr99 R.1, ↓kr100 R.1, ↓kr101 R.1, ↓kr102 R.1, ↓kr103 R.1, ↓kr104 R.1, ↓kr105 R.1, ↓kr106 R.1, ↓kr107 R.1, ↓kr108 R.1, ↓kr109 R.1, ↓kr110 R.1, ↓kx0 R, ↓kx1 R, ↓kx2 R, ↓kx3 R, ↓kx4 R, ↓kx5 R, ↓kx6 R, ↓kx7 R, ↓kx8 R, ↓kx9 R, ↓kx10 R, ↓kx11 R, ↓kx1m R, ↓kx9m R, ↓kx10m R, ↓reduceIte, il0, il1, il2, il3, il4, il5, il6, il7, il8, il9, il10, il11, il12, il13, il14, il15, il16, il17, il18, il19, il20, il21, il22, il23, il24, il25, il26, il27, il28, il29, il30, il31, il32, il33, il36, il38, il39, il40, il41, il48, il50, il51, il57, il59, il60, il61, il62, il63, il70, il96, il99, il100, il101, il102, il103, il104, il105, il106, il107, il108, il109, il110, il111, il112, il115, il116, il120, il121, il124, il200, il240, il255, il288, il360, il420, il999, il1000, il114292, il152755, il402789, il435589, il463922, il533611, il631470, iz_le, hc, c, iz_mul, iz_add]
      exact e
    · obtain ⟨row, e, r⟩ := step (iz (va V 7 i)) (fun _ => rfl)
      refine ⟨row, ?_, r⟩
      simp (disch := omega) only [↓kmC R.1, ↓kmT R, ↓kmF R, ↓kmM R, ↓kmD R, ↓kmP R, ↓kr72 R.1, ↓kr73 R.1, ↓kr74 R.1, ↓kr75 R.1, ↓kr76 R.1, ↓kr77 R.1, ↓kr78 R.1, ↓kr79 R.1, ↓kr80 R.1, ↓kr81 R.1, ↓kr82 R.1, ↓kr83 R.1, ↓kr84 R.1, ↓kr85 R.1, ↓kr86 R.1, ↓kr87 R.1, ↓kr88 R.1, ↓kr89 R.1, ↓kr90 R.1, ↓kr91 R.1, ↓kr92 R.1, ↓kr93 R.1, ↓kr94 R.1, ↓kr95 R.1, ↓kr96 R.1, ↓kr97 R.1, ↓kr98 R.1, ↓kr99 R.1, ↓kr100 R.1, ↓kr101 R.1, ↓kr102 R.1, ↓kr103 R.1, ↓kr104 R.1, ↓kr105 R.1, ↓kr106 R.1, ↓kr107 R.1, ↓kr108 R.1, ↓kr109 R.1, ↓kr110 R.1, ↓kx0 R, ↓kx1 R, ↓kx2 R, ↓kx3 R, ↓kx4 R, ↓kx5 R, ↓kx6 R, ↓kx7 R, ↓kx8 R, ↓kx9 R, ↓kx10 R, ↓kx11 R, ↓kx1m R, ↓kx9m R, ↓kx10m R, ↓reduceIte, il0, il1, il2, il3, il4, il5, il6, il7, il8, il9, il10, il11, il12, il13, il14, il15, il16, il17, il18, il19, il20, il21, il22, il23, il24, il25, il26, il27, il28, il29, il30, il31, il32, il33, il36, il38, il39, il40, il41, il48, il50, il51, il57, il59, il60, il61, il62, il63, il70, il96, il99, il100, il101, il102, il103, il104, il105, il106, il107, il108, il109, il110, il111, il112, il115, il116, il120, il121, il124, il200, il240, il255, il288, il360, il420, il999, il1000, il114292, il152755, il402789, il435589, il463922, il533611, il631470, iz_le, hc, c, iz_mul, iz_add]
      exact e
theorem m_keepState {h : Mem} (R : RepM h V) (w : WF V) (hN : 200 ≤ N) {k : Nat} (hk : k ≤ 20) : ∃ row, f_X10_keepState N 71 (iz (k : Int)) h = some (wr h 97 row) ∧ BST (wr h 97 row) k V ∧ ∀ j, (j < 20 * k ∨ 20 * k + 20 ≤ j) → row j = h.2.1 97 j := by
  obtain ⟨row, e, h1, h2, h3⟩ := m_ks_2 (N := N) w hN hk 8 0 N h (by omega) (by omega) R (fun f hf _ => by omega)
  refine ⟨row, e, ⟨fun f hf => by rw [wr_eq]; exact h1 f hf, fun v hv => by rw [wr_eq]; exact h2 v hv⟩, h3⟩
theorem m_is_40 {U : Vw} {h : Mem} (R : RepM h V) (w : WF V) (wU : WF U) {k : Nat} (hk : k ≤ 20) (b : BST h k U) : ∀ (d i n : Nat), i + d = 12 → d < n → (∀ v : Nat, v < i → va U 1 v = va V 1 v) → ∃ r : Bool, f_X10_isState_40 N n 71 (iz (k : Int)) (iz (i : Int)) h = some (iz (bi r), h) ∧ (r = true ↔ ∀ v : Nat, v < 12 → va U 1 v = va V 1 v) := by
  intro d
  induction d with
  | zero =>
    intro i n hi hn hr
    obtain ⟨n, rfl⟩ : ∃ k, n = k + 1 := ⟨n - 1, by omega⟩
    rw [f_X10_isState_40]
    obtain rfl : i = 12 := by omega
    refine ⟨true, ?_, fun _ => hr, fun _ => rfl⟩
    simp (disch := omega) only [il0, il1, il2, il3, il4, il5, il6, il7, il8, il9, il10, il11, il12, il13, il14, il15, il16, il17, il18, il19, il20, il21, il22, il23, il24, il25, il26, il27, il28, il29, il30, il31, il32, il33, il36, il38, il39, il40, il41, il48, il50, il51, il57, il59, il60, il61, il62, il63, il70, il96, il99, il100, il101, il102, il103, il104, il105, il106, il107, il108, il109, il110, il111, il112, il115, il116, il120, il121, il124, il200, il240, il255, il288, il360, il420, il999, il1000, il114292, il152755, il402789, il435589, il463922, il533611, il631470, nc1, nc2, nc3, nc4, nc5, nc6, nc7, nc8, nc9, nc12, nc16, nc20, nc21, nc40, nc60, nc120, nc200, Int.le_refl, iz_le, ↓reduceIte]
    rfl
  | succ d ih =>
    intro i n hi hn hr
    obtain ⟨n, rfl⟩ : ∃ k, n = k + 1 := ⟨n - 1, by omega⟩
    rw [f_X10_isState_40]
    have hc : ¬ ((12 : Int) ≤ i) := by omega
    have hl := (w.l (j := i) (by omega) (by omega)).1
    have hlU := (wU.l (j := i) (by omega) (by omega)).1
    have bi_ := b.2 i (by omega)
    have ei : ((20 : Int) * (k : Int) + 8 + (i : Int)).toNat = 20 * k + 8 + i := by omega
    by_cases c : va U 1 i = va V 1 i
    · obtain ⟨r, e, hiff⟩ := ih (i + 1) n (by omega) (by omega) (fun v hv => by
        by_cases q : v = i
        · rw [q]; exact c
        · exact hr v (by omega))
      refine ⟨r, ?_, hiff⟩
      simp (disch := omega) only [↓kmC R.1, ↓kmT R, ↓kmF R, ↓kmM R, ↓kmD R, ↓kmP R, ↓kr72 R.1, ↓kr73 R.1, ↓kr74 R.1, ↓kr75 R.1, ↓kr76 R.1, ↓kr77 R.1, ↓kr78 R.1, ↓kr79 R.1, ↓kr80 R.1, ↓kr81 R.1, ↓kr82 R.1, ↓kr83 R.1, ↓kr84 R.1, ↓kr85 R.1, ↓kr86 R.1, ↓kr87 R.1, ↓kr88 R.1, ↓kr89 R.1, ↓kr90 R.1, ↓kr91 R.1, ↓kr92 R.1, ↓kr93 R.1, ↓kr94 R.1, ↓kr95 R.1, ↓kr96 R.1, ↓kr97 R.1, ↓kr98 R.1, ↓kr99 R.1, ↓kr100 R.1, ↓kr101 R.1, ↓kr102 R.1, ↓kr103 R.1, ↓kr104 R.1, ↓kr105 R.1, ↓kr106 R.1, ↓kr107 R.1, ↓kr108 R.1, ↓kr109 R.1, ↓kr110 R.1, ↓kx0 R, ↓kx1 R, ↓kx2 R, ↓kx3 R, ↓kx4 R, ↓kx5 R, ↓kx6 R, ↓kx7 R, ↓kx8 R, ↓kx9 R, ↓kx10 R, ↓kx11 R, ↓kx1m R, ↓kx9m R, ↓kx10m R, ↓reduceIte, il0, il1, il2, il3, il4, il5, il6, il7, il8, il9, il10, il11, il12, il13, il14, il15, il16, il17, il18, il19, il20, il21, il22, il23, il24, il25, il26, il27, il28, il29, il30, il31, il32, il33, il36, il38, il39, il40, il41, il48, il50, il51, il57, il59, il60, il61, il62, il63, il70, il96, il99, il100, il101, il102, il103, il104, il105, il106, il107, il108, il109, il110, il111, il112, il115, il116, il120, il121, il124, il200, il240, il255, il288, il360, il420, il999, il1000, il114292, il152755, il402789, il435589, il463922, il533611, il631470, iz_le, hc, iz_mul, iz_add, ↓kl97 R.1, ei, bi_, iz_eq, c]
      exact e
    · refine ⟨false, ?_, ⟨fun z => Bool.noConfusion z, fun z => absurd (z i (by omega)) c⟩⟩
      simp (disch := omega) only [↓kmC R.1, ↓kmT R, ↓kmF R, ↓kmM R, ↓kmD R, ↓kmP R, ↓kr72 R.1, ↓kr73 R.1, ↓kr74 R.1, ↓kr75 R.1, ↓kr76 R.1, ↓kr77 R.1, ↓kr78 R.1, ↓kr79 R.1, ↓kr80 R.1, ↓kr81 R.1, ↓kr82 R.1, ↓kr83 R.1, ↓kr84 R.1, ↓kr85 R.1, ↓kr86 R.1, ↓kr87 R.1, ↓kr88 R.1, ↓kr89 R.1, ↓kr90 R.1, ↓kr91 R.1, ↓kr92 R.1, ↓kr93 R.1, ↓kr94 R.1, ↓kr95 R.1, ↓kr96 R.1, ↓kr97 R.1, ↓kr98 R.1, ↓kr99 R.1, ↓kr100 R.1, ↓kr101 R.1, ↓kr102 R.1, ↓kr103 R.1, ↓kr104 R.1, ↓kr105 R.1, ↓kr106 R.1, ↓kr107 R.1, ↓kr108 R.1, ↓kr109 R.1, ↓kr110 R.1, ↓kx0 R, ↓kx1 R, ↓kx2 R, ↓kx3 R, ↓kx4 R, ↓kx5 R, ↓kx6 R, ↓kx7 R, ↓kx8 R, ↓kx9 R, ↓kx10 R, ↓kx11 R, ↓kx1m R, ↓kx9m R, ↓kx10m R, ↓reduceIte, il0, il1, il2, il3, il4, il5, il6, il7, il8, il9, il10, il11, il12, il13, il14, il15, il16, il17, il18, il19, il20, il21, il22, il23, il24, il25, il26, il27, il28, il29, il30, il31, il32, il33, il36, il38, il39, il40, il41, il48, il50, il51, il57, il59, il60, il61, il62, il63, il70, il96, il99, il100, il101, il102, il103, il104, il105, il106, il107, il108, il109, il110, il111, il112, il115, il116, il120, il121, il124, il200, il240, il255, il288, il360, il420, il999, il1000, il114292, il152755, il402789, il435589, il463922, il533611, il631470, iz_le, hc, iz_mul, iz_add, ↓kl97 R.1, ei, bi_, iz_eq, c]
      rfl
theorem m_is_2 {U : Vw} {h : Mem} (R : RepM h V) (w : WF V) (wU : WF U) (hN : 200 ≤ N) (hFF : vF U = vF V) {k : Nat} (hk : k ≤ 20) (b : BST h k U) : ∀ (d i n : Nat), i + d = vF V → d < n → (∀ f : Nat, f < i → va U 7 f = va V 7 f) → ∃ r : Bool, f_X10_isState_2 N n 71 (iz (k : Int)) (iz (i : Int)) h = some (iz (bi r), h) ∧ (r = true ↔ same U V) := by
  intro d
  have hF := w.F
  induction d with
  | zero =>
    intro i n hi hn hr
    obtain ⟨n, rfl⟩ : ∃ k, n = k + 1 := ⟨n - 1, by omega⟩
    rw [f_X10_isState_2]
    obtain rfl : i = vF V := by omega
    obtain ⟨r, e, hiff⟩ := m_is_40 (N := N) R w wU hk b 12 0 N (by omega) (by omega) (fun v hv => by omega)
    refine ⟨r, ?_, ⟨fun z => ⟨fun j hj => hr j (by omega), hiff.mp z⟩, fun z => hiff.mpr z.2⟩⟩
    simp (disch := omega) only [↓kmC R.1, ↓kmT R, ↓kmF R, ↓kmM R, ↓kmD R, ↓kmP R, ↓kr72 R.1, ↓kr73 R.1, ↓kr74 R.1, ↓kr75 R.1, ↓kr76 R.1, ↓kr77 R.1, ↓kr78 R.1, ↓kr79 R.1, ↓kr80 R.1, ↓kr81 R.1, ↓kr82 R.1, ↓kr83 R.1, ↓kr84 R.1, ↓kr85 R.1, ↓kr86 R.1, ↓kr87 R.1, ↓kr88 R.1, ↓kr89 R.1, ↓kr90 R.1, ↓kr91 R.1, ↓kr92 R.1, ↓kr93 R.1, ↓kr94 R.1, ↓kr95 R.1, ↓kr96 R.1, ↓kr97 R.1, ↓kr98 R.1, ↓kr99 R.1, ↓kr100 R.1, ↓kr101 R.1, ↓kr102 R.1, ↓kr103 R.1, ↓kr104 R.1, ↓kr105 R.1, ↓kr106 R.1, ↓kr107 R.1, ↓kr108 R.1, ↓kr109 R.1, ↓kr110 R.1, ↓kx0 R, ↓kx1 R, ↓kx2 R, ↓kx3 R, ↓kx4 R, ↓kx5 R, ↓kx6 R, ↓kx7 R, ↓kx8 R, ↓kx9 R, ↓kx10 R, ↓kx11 R, ↓kx1m R, ↓kx9m R, ↓kx10m R, ↓reduceIte, il0, il1, il2, il3, il4, il5, il6, il7, il8, il9, il10, il11, il12, il13, il14, il15, il16, il17, il18, il19, il20, il21, il22, il23, il24, il25, il26, il27, il28, il29, il30, il31, il32, il33, il36, il38, il39, il40, il41, il48, il50, il51, il57, il59, il60, il61, il62, il63, il70, il96, il99, il100, il101, il102, il103, il104, il105, il106, il107, il108, il109, il110, il111, il112, il115, il116, il120, il121, il124, il200, il240, il255, il288, il360, il420, il999, il1000, il114292, il152755, il402789, il435589, il463922, il533611, il631470, iz_le, Int.le_refl]
    exact e
  | succ d ih =>
    intro i n hi hn hr
    obtain ⟨n, rfl⟩ : ∃ k, n = k + 1 := ⟨n - 1, by omega⟩
    rw [f_X10_isState_2]
    have hc : ¬ ((vF V : Int) ≤ i) := by omega
    have hl := (w.f (j := i) (by omega) (by omega)).2.2.1
    have hlU := (wU.f (j := i) (by omega) (by omega)).2.2.1
    have bi_ := b.1 i (by omega)
    have ei : ((20 : Int) * (k : Int) + (i : Int)).toNat = 20 * k + i := by omega
    by_cases c : va U 7 i = va V 7 i
    · obtain ⟨r, e, hiff⟩ := ih (i + 1) n (by omega) (by omega) (fun v hv => by
        by_cases q : v = i
        · rw [q]; exact c
        · exact hr v (by omega))
      refine ⟨r, ?_, hiff⟩
      simp (disch := omega) only [↓kmC R.1, ↓kmT R, ↓kmF R, ↓kmM R, ↓kmD R, ↓kmP R, ↓kr72 R.1, ↓kr73 R.1, ↓kr74 R.1, ↓kr75 R.1, ↓kr76 R.1, ↓kr77 R.1, ↓kr78 R.1, ↓kr79 R.1, ↓kr80 R.1, ↓kr81 R.1, ↓kr82 R.1, ↓kr83 R.1, ↓kr84 R.1, ↓kr85 R.1, ↓kr86 R.1, ↓kr87 R.1, ↓kr88 R.1, ↓kr89 R.1, ↓kr90 R.1, ↓kr91 R.1, ↓kr92 R.1, ↓kr93 R.1, ↓kr94 R.1, ↓kr95 R.1, ↓kr96 R.1, ↓kr97 R.1, ↓kr98 R.1, ↓kr99 R.1, ↓kr100 R.1, ↓kr101 R.1, ↓kr102 R.1, ↓kr103 R.1, ↓kr104 R.1, ↓kr105 R.1, ↓kr106 R.1, ↓kr107 R.1, ↓kr108 R.1, ↓kr109 R.1, ↓kr110 R.1, ↓kx0 R, ↓kx1 R, ↓kx2 R, ↓kx3 R, ↓kx4 R, ↓kx5 R, ↓kx6 R, ↓kx7 R, ↓kx8 R, ↓kx9 R, ↓kx10 R, ↓kx11 R, ↓kx1m R, ↓kx9m R, ↓kx10m R, ↓reduceIte, il0, il1, il2, il3, il4, il5, il6, il7, il8, il9, il10, il11, il12, il13, il14, il15, il16, il17, il18, il19, il20, il21, il22, il23, il24, il25, il26, il27, il28, il29, il30, il31, il32, il33, il36, il38, il39, il40, il41, il48, il50, il51, il57, il59, il60, il61, il62, il63, il70, il96, il99, il100, il101, il102, il103, il104, il105, il106, il107, il108, il109, il110, il111, il112, il115, il116, il120, il121, il124, il200, il240, il255, il288, il360, il420, il999, il1000, il114292, il152755, il402789, il435589, il463922, il533611, il631470, iz_le, hc, iz_mul, iz_add, ↓kl97 R.1, ei, bi_, iz_eq, c]
      exact e
    · refine ⟨false, ?_, ⟨fun z => Bool.noConfusion z, fun z => absurd (z.1 i (by omega)) c⟩⟩
      simp (disch := omega) only [↓kmC R.1, ↓kmT R, ↓kmF R, ↓kmM R, ↓kmD R, ↓kmP R, ↓kr72 R.1, ↓kr73 R.1, ↓kr74 R.1, ↓kr75 R.1, ↓kr76 R.1, ↓kr77 R.1, ↓kr78 R.1, ↓kr79 R.1, ↓kr80 R.1, ↓kr81 R.1, ↓kr82 R.1, ↓kr83 R.1, ↓kr84 R.1, ↓kr85 R.1, ↓kr86 R.1, ↓kr87 R.1, ↓kr88 R.1, ↓kr89 R.1, ↓kr90 R.1, ↓kr91 R.1, ↓kr92 R.1, ↓kr93 R.1, ↓kr94 R.1, ↓kr95 R.1, ↓kr96 R.1, ↓kr97 R.1, ↓kr98 R.1, ↓kr99 R.1, ↓kr100 R.1, ↓kr101 R.1, ↓kr102 R.1, ↓kr103 R.1, ↓kr104 R.1, ↓kr105 R.1, ↓kr106 R.1, ↓kr107 R.1, ↓kr108 R.1, ↓kr109 R.1, ↓kr110 R.1, ↓kx0 R, ↓kx1 R, ↓kx2 R, ↓kx3 R, ↓kx4 R, ↓kx5 R, ↓kx6 R, ↓kx7 R, ↓kx8 R, ↓kx9 R, ↓kx10 R, ↓kx11 R, ↓kx1m R, ↓kx9m R, ↓kx10m R, ↓reduceIte, il0, il1, il2, il3, il4, il5, il6, il7, il8, il9, il10, il11, il12, il13, il14, il15, il16, il17, il18, il19, il20, il21, il22, il23, il24, il25, il26, il27, il28, il29, il30, il31, il32, il33, il36, il38, il39, il40, il41, il48, il50, il51, il57, il59, il60, il61, il62, il63, il70, il96, il99, il100, il101, il102, il103, il104, il105, il106, il107, il108, il109, il110, il111, il112, il115, il116, il120, il121, il124, il200, il240, il255, il288, il360, il420, il999, il1000, il114292, il152755, il402789, il435589, il463922, il533611, il631470, iz_le, hc, iz_mul, iz_add, ↓kl97 R.1, ei, bi_, iz_eq, c]
      rfl
theorem m_isState {U : Vw} {h : Mem} (R : RepM h V) (w : WF V) (wU : WF U) (hN : 200 ≤ N) (hFF : vF U = vF V) {k : Nat} (hk : k ≤ 20) (b : BST h k U) : f_X10_isState N 71 (iz (k : Int)) h = some (iz (bi (decide (imp U = imp V))), h) := by
  have hF := w.F
  obtain ⟨r, e, hiff⟩ := m_is_2 (N := N) R w wU hN hFF hk b (vF V) 0 N (by omega) (by omega) (fun f hf => by omega)
  have hi := imp_inj wU w hFF
  have : r = decide (imp U = imp V) := by
    cases r with
    | true => exact (decide_eq_true (hi.mpr (hiff.mp rfl))).symm
    | false => exact (decide_eq_false (fun z => Bool.noConfusion (hiff.mpr (hi.mp z)))).symm
  rw [← this]
  exact e
theorem m_end_31 (w : WF V) (hN : 200 ≤ N) {v : Int} {I : Nat} (hI : 1 ≤ I ∧ I ≤ 20) {h : Mem} (R : RepM h (ste V v I)) (hb : ∀ j : Nat, j < I → BST h j (ste V v j)) (k7 : Nat → Int32 → Int32 → Mem → Option (Int32 × Mem)) : ∀ (d b n : Nat), b + d = I + 1 → 1 ≤ b → d < n → f_X10_endAll_31 N n 71 (iz v) (iz (I : Int)) (iz ((I : Int) - b)) h k7 = match fs (bkP V v I) b d with
    | some b => some (iz (100 + b), h)
    | none => (f_X10_keepState N 71 (iz (I : Int)) h).bind fun h4 => k7 71 (iz v) (iz ((I : Int) + 1)) h4 := by
  intro d
  have hs := R.1
  induction d with
  | zero =>
    intro b n hbI h1 hn
    obtain ⟨n, rfl⟩ : ∃ k, n = k + 1 := ⟨n - 1, by omega⟩
    rw [f_X10_endAll_31]
    have h2 : (I : Int) - b < 0 := by omega
    simp (disch := omega) only [if_true, if_false, Option.bind_some, b2_some, il0, il1, il2, il3, il4, il5, il6, il7, il8, il9, il10, il11, il12, il13, il14, il15, il16, il17, il18, il19, il20, il21, il22, il23, il24, il25, il26, il27, il28, il29, il30, il31, il32, il33, il36, il38, il39, il40, il41, il48, il50, il51, il57, il59, il60, il61, il62, il63, il70, il96, il99, il100, il101, il102, il103, il104, il105, il106, il107, il108, il109, il110, il111, il112, il115, il116, il120, il121, il124, il200, il240, il255, il288, il360, il420, il999, il1000, il114292, il152755, il402789, il435589, il463922, il533611, il631470, iz_add, iz_sub, iz_mul, iz_neg, iz_le, iz_lt, iz_eq, h2, ↓reduceIte, ↓kmC hs]
    rfl
  | succ d ih =>
    intro b n hbI h1 hn
    obtain ⟨n, rfl⟩ : ∃ k, n = k + 1 := ⟨n - 1, by omega⟩
    rw [f_X10_endAll_31]
    have h2 : ¬ ((I : Int) - b < 0) := by omega
    have e := ih (b + 1) n (by omega) (by omega) (by omega)
    have tf1 := ste_TF (V := V) v (I - b)
    have tf2 := ste_TF (V := V) v I
    have es := m_isState (N := N) R (ste_wf w v I) (ste_wf w v (I - b)) hN (by rw [tf1.2.1, tf2.2.1]) (k := I - b) (by omega) (hb (I - b) (by omega))
    rw [show (((I - b : Nat) : Int)) = (I : Int) - b by omega] at es
    rw [fs]
    have h3 : ¬ ((1 : Int) = 0) := by decide
    by_cases c : imp (ste V v (I - b)) = imp (ste V v I)
    · have hp : bkP V v I b = true := by unfold bkP; exact decide_eq_true c
      rw [decide_eq_true c] at es
      rw [if_pos hp]
      simp (disch := omega) only [if_true, if_false, Option.bind_some, b2_some, il0, il1, il2, il3, il4, il5, il6, il7, il8, il9, il10, il11, il12, il13, il14, il15, il16, il17, il18, il19, il20, il21, il22, il23, il24, il25, il26, il27, il28, il29, il30, il31, il32, il33, il36, il38, il39, il40, il41, il48, il50, il51, il57, il59, il60, il61, il62, il63, il70, il96, il99, il100, il101, il102, il103, il104, il105, il106, il107, il108, il109, il110, il111, il112, il115, il116, il120, il121, il124, il200, il240, il255, il288, il360, il420, il999, il1000, il114292, il152755, il402789, il435589, il463922, il533611, il631470, iz_add, iz_sub, iz_mul, iz_neg, iz_le, iz_lt, iz_eq, h2, ↓reduceIte, ↓kmC hs, ↓bq es, bi_t, h3]
      rw [show (100 : Int) + I - (I - b) = 100 + b by omega]
    · have hp : ¬ (bkP V v I b = true) := by unfold bkP; rw [decide_eq_false c]; decide
      rw [decide_eq_false c] at es
      rw [if_neg hp]
      simp (disch := omega) only [if_true, if_false, Option.bind_some, b2_some, il0, il1, il2, il3, il4, il5, il6, il7, il8, il9, il10, il11, il12, il13, il14, il15, il16, il17, il18, il19, il20, il21, il22, il23, il24, il25, il26, il27, il28, il29, il30, il31, il32, il33, il36, il38, il39, il40, il41, il48, il50, il51, il57, il59, il60, il61, il62, il63, il70, il96, il99, il100, il101, il102, il103, il104, il105, il106, il107, il108, il109, il110, il111, il112, il115, il116, il120, il121, il124, il200, il240, il255, il288, il360, il420, il999, il1000, il114292, il152755, il402789, il435589, il463922, il533611, il631470, iz_add, iz_sub, iz_mul, iz_neg, iz_le, iz_lt, iz_eq, h2, ↓reduceIte, ↓kmC hs, ↓bq es, bi_f]
      rw [show (I : Int) - b + -1 = I - ((b + 1 : Nat) : Int) by omega]
      exact e
theorem m_end_7 (w : WF V) (hN : 200 ≤ N) {v : Int} (hv : v = 0 ∨ v = 1) : ∀ (d i n : Nat) (h : Mem), i + d = 20 → d < n → RepM h (ste V v i) → (∀ j : Nat, j ≤ i → BST h j (ste V v j)) → ∃ h', f_X10_endAll_7 N n 71 (iz v) (iz ((i : Int) + 1)) h = some (iz (endT V v i d).1, h') ∧ RepM h' (ste V v (endT V v i d).2) ∧ FM SE h h' := by
  intro d
  induction d with
  | zero =>
    intro i n h hi hn R hb
    obtain ⟨n, rfl⟩ : ∃ k, n = k + 1 := ⟨n - 1, by omega⟩
    rw [f_X10_endAll_7]
    have h2 : (20 : Int) < i + 1 := by omega
    refine ⟨h, ?_, R, FM.rf⟩
    simp (disch := omega) only [if_true, if_false, Option.bind_some, b2_some, il0, il1, il2, il3, il4, il5, il6, il7, il8, il9, il10, il11, il12, il13, il14, il15, il16, il17, il18, il19, il20, il21, il22, il23, il24, il25, il26, il27, il28, il29, il30, il31, il32, il33, il36, il38, il39, il40, il41, il48, il50, il51, il57, il59, il60, il61, il62, il63, il70, il96, il99, il100, il101, il102, il103, il104, il105, il106, il107, il108, il109, il110, il111, il112, il115, il116, il120, il121, il124, il200, il240, il255, il288, il360, il420, il999, il1000, il114292, il152755, il402789, il435589, il463922, il533611, il631470, iz_add, iz_sub, iz_mul, iz_neg, iz_le, iz_lt, iz_eq, h2, ↓reduceIte]
    rfl
  | succ d ih =>
    intro i n h hi hn R hb
    obtain ⟨n, rfl⟩ : ∃ k, n = k + 1 := ⟨n - 1, by omega⟩
    rw [f_X10_endAll_7]
    have h2 : ¬ ((20 : Int) < i + 1) := by omega
    have wi := ste_wf w v i
    obtain ⟨h1, e1, R1, F1⟩ := m_step R wi hN hv
    have hbd := strideR_bd wi v
    rw [endT_s]
    by_cases h3 : strideR (ste V v i) v = -6
    · have hN6 : endN V v i = some ((i : Int), i + 1) := if_pos h3
      rw [hN6, Option.getD_some]
      refine ⟨h1, ?_, R1, F1.mono SR_SE⟩
      simp (disch := omega) only [if_true, if_false, Option.bind_some, b2_some, il0, il1, il2, il3, il4, il5, il6, il7, il8, il9, il10, il11, il12, il13, il14, il15, il16, il17, il18, il19, il20, il21, il22, il23, il24, il25, il26, il27, il28, il29, il30, il31, il32, il33, il36, il38, il39, il40, il41, il48, il50, il51, il57, il59, il60, il61, il62, il63, il70, il96, il99, il100, il101, il102, il103, il104, il105, il106, il107, il108, il109, il110, il111, il112, il115, il116, il120, il121, il124, il200, il240, il255, il288, il360, il420, il999, il1000, il114292, il152755, il402789, il435589, il463922, il533611, il631470, iz_add, iz_sub, iz_mul, iz_neg, iz_le, iz_lt, iz_eq, h2, ↓reduceIte, ↓kmC R.1, ↓bq e1, h3]
      rw [show ((i : Int) + 1 - 1) = i by omega]
    · have hN6 : endN V v i = (fs (bkP V v (i + 1)) 1 (i + 1)).map (fun b => (100 + (b : Int), i + 1)) := if_neg h3
      rw [hN6]
      have hb1 : ∀ j : Nat, j < i + 1 → BST h1 j (ste V v j) := fun j hj => (hb j (by omega)).eq_ (F1.2.2.2.1 97 (by decide) (by decide))
      have e31 := m_end_31 (N := N) w hN (v := v) (I := i + 1) (by omega) R1 hb1 (fun v0 v1 v2 h => f_X10_endAll_7 N n v0 v1 v2 h) (i + 1) 1 N (by omega) (by omega) (by omega)
      have hstep : ∀ r : Option (Int32 × Mem), f_X10_endAll_31 N N 71 (iz v) (iz ((i + 1 : Nat) : Int)) (iz (((i + 1 : Nat) : Int) - ((1 : Nat) : Int))) h1 (fun v0 v1 v2 h => f_X10_endAll_7 N n v0 v1 v2 h) = r → (if (20 : Int32) < iz ((i : Int) + 1) then some ((200 : Int32), h) else (ck h 71 10).bind fun _ => b2 (f_X10_stepOnce N 71 (iz v) h) fun t5 h4 => if t5 = (-6 : Int32) then some ((iz ((i : Int) + 1) - (1 : Int32)), h4) else f_X10_endAll_31 N N 71 (iz v) (iz ((i : Int) + 1)) (iz ((i : Int) + 1) - (1 : Int32)) h4 (fun v0 v1 v2 h => f_X10_endAll_7 N n v0 v1 v2 h)) = r := by
        intro r er
        simp (disch := omega) only [if_true, if_false, Option.bind_some, b2_some, il0, il1, il2, il3, il4, il5, il6, il7, il8, il9, il10, il11, il12, il13, il14, il15, il16, il17, il18, il19, il20, il21, il22, il23, il24, il25, il26, il27, il28, il29, il30, il31, il32, il33, il36, il38, il39, il40, il41, il48, il50, il51, il57, il59, il60, il61, il62, il63, il70, il96, il99, il100, il101, il102, il103, il104, il105, il106, il107, il108, il109, il110, il111, il112, il115, il116, il120, il121, il124, il200, il240, il255, il288, il360, il420, il999, il1000, il114292, il152755, il402789, il435589, il463922, il533611, il631470, iz_add, iz_sub, iz_mul, iz_neg, iz_le, iz_lt, iz_eq, h2, ↓reduceIte, ↓kmC R.1, ↓bq e1, h3]
        exact er
      cases hfs : fs (bkP V v (i + 1)) 1 (i + 1) with
      | some b =>
        rw [hfs] at e31
        exact ⟨h1, hstep _ e31, R1, F1.mono SR_SE⟩
      | none =>
        rw [hfs] at e31
        obtain ⟨row, ek, bk, hr⟩ := m_keepState (N := N) R1 (ste_wf w v (i + 1)) hN (k := i + 1) (by omega)
        have R2 : RepM (wr h1 97 row) (ste V v (i + 1)) := RepM.wr_ (V := ste V v (i + 1)) R1 ⟨by decide, by decide⟩
        obtain ⟨h', e, R', F'⟩ := ih (i + 1) n (wr h1 97 row) (by omega) (by omega) R2 (fun j hj => by
          by_cases q : j = i + 1
          · rw [q]; exact bk
          · have b0 := hb1 j (by omega)
            refine ⟨fun f hf => ?_, fun u hu => ?_⟩
            · have := (ste_wf w v j).F
              rw [wr_eq, hr _ (by omega)]; exact b0.1 f hf
            · rw [wr_eq, hr _ (by omega)]; exact b0.2 u hu)
        refine ⟨h', hstep _ (e31.trans ?_), R', ((F1.mono SR_SE).tr (FM.wr_ (by decide) (by decide))).tr F'⟩
        dsimp only
        rw [bo ek]
        exact e
theorem m_endAll {h : Mem} (R : RepM h V) (w : WF V) (hN : 200 ≤ N) {v : Int} (hv : v = 0 ∨ v = 1) : ∃ h', f_X10_endAll N 71 (iz v) h = some (iz (endS V v), h') ∧ RepM h' (endV V v) ∧ FM SE h h' := by
  obtain ⟨row, ek, bk, hr⟩ := m_keepState (N := N) R w hN (k := 0) (by omega)
  have R2 : RepM (wr h 97 row) V := R.wr_ ⟨by decide, by decide⟩
  obtain ⟨h', e, R', F'⟩ := m_end_7 (N := N) w hN hv 20 0 N (wr h 97 row) (by omega) (by omega) R2 (fun j hj => by
    obtain rfl : j = 0 := by omega
    exact bk)
  refine ⟨h', ?_, R', (FM.wr_ (by decide) (by decide)).tr F'⟩
  unfold f_X10_endAll
  rw [kmC R.1, bo (show f_X10_keepState N 71 (0 : Int32) h = _ from ek)]
  exact e
end
