/-! the model's two stacks: what waits, the newest first; the truths, the newest first -/
def SW (row : Nat → Int32) : List Int → Prop
  | [] => True
  | c :: W => row W.length = iz c ∧ SW row W
theorem SW_upd {row : Nat → Int32} {n : Nat} {v : Int32} : ∀ {W : List Int}, W.length ≤ n → SW row W → SW (upd row n v) W
  | [], _, _ => trivial
  | c :: W, hn, hs => ⟨by rw [upd_at, if_neg (by simp only [List.length_cons] at hn; omega)]; exact hs.1, SW_upd (by simp only [List.length_cons] at hn; omega) hs.2⟩
def STK (h : Mem) (W B : List Int) (e : Int) : Prop := h.2.1 71 32 = iz (W.length : Int) ∧ SW (h.2.1 88) W ∧ h.2.1 71 33 = iz (B.length : Int) ∧ SW (h.2.1 89) B ∧ h.2.1 71 34 = iz e
def pushS : List Int → Int → Int → List Int × Int × Int
  | [], e, v => ([], e, v)
  | c :: W, e, v => if c = 33 then pushS W (e - 1) (1 - v) else (c :: W, e, v)
section
variable {h0 : Mem} {x : Nat → Int} {L b N : Nat}
theorem ks89 {h : Mem} {γ : Type} (S : MSh h) {z : Int} {v : Int32} {k : Mem → Option γ} (h0 : 0 ≤ z) (h1 : z < 121) : (stI 102 h 89 (iz z) v).bind k = k (wr h 89 (upd (h.2.1 89) z.toNat v)) := bo (stI_q (S.2 (31, 89, 102, 121) (by decide)).2 h0 h1 (by decide))
theorem nar01 {v : Int} (hv : 0 ≤ v ∧ v ≤ 1) : vp_nar .boolean (iz v) = iz v := by
  rcases (show v = 0 ∨ v = 1 by omega) with rfl | rfl <;> decide
theorem STK.at_ {h : Mem} {W B : List Int} {e : Int} (k : STK h W B e) {j : Nat} {v : Int32} (hj : j ≠ 32 ∧ j ≠ 33 ∧ j ≠ 34) : STK (fd h j v) W B e := by
  obtain ⟨k1, k2, k3, k4, k5⟩ := k
  exact ⟨by rw [fd_at, if_neg (by omega)]; exact k1, k2, by rw [fd_at, if_neg (by omega)]; exact k3, k4, by rw [fd_at, if_neg (by omega)]; exact k5⟩
theorem push_len : ∀ (W : List Int) (e v : Int), (pushS W e v).1.length ≤ W.length
  | [], _, _ => Nat.le_refl _
  | c :: W, e, v => by
    unfold pushS
    split
    · have := push_len W (e - 1) (1 - v); simp only [List.length_cons]; omega
    · exact Nat.le_refl _
theorem m_push_2 {B : List Int} (hB : B.length < 121) {P : Nat} : ∀ (W : List Int) (e v : Int) (n : Nat) (h : Mem), W.length < n → W.length ≤ 121 → (∀ c ∈ W, 0 ≤ c ∧ c ≤ 127) → (0 ≤ v ∧ v ≤ 1) → PS h0 x L b h P → STK h W B e → ∃ h', f_X10_push_2 N n 71 (iz v) h = some h' ∧ PS h0 x L b h' P ∧ STK h' (pushS W e v).1 ((pushS W e v).2.2 :: B) (pushS W e v).2.1 := by
  have hpush : ∀ (h : Mem) (W : List Int) (e v : Int), (0 ≤ v ∧ v ≤ 1) → PS h0 x L b h P → STK h W B e → ∃ h', f_X10_push_58 N 71 (iz v) h = some h' ∧ PS h0 x L b h' P ∧ STK h' W (v :: B) e := by
    intro h W e v hv s k
    obtain ⟨k1, k2, k3, k4, k5⟩ := k
    refine ⟨fd (wr h 89 (upd (h.2.1 89) B.length (iz v))) 33 (iz ((B.length + 1 : Nat) : Int)), ?_, (s.wr_ (by decide)).fd_ (by decide), ?_⟩
    · unfold f_X10_push_58
      have s1 := s.wr_ (a := 89) (row := upd (h.2.1 89) B.length (iz v)) (by decide)
      have e33 : (wr h 89 (upd (h.2.1 89) B.length (iz v))).2.1 71 33 = iz (B.length : Int) := by rw [wr_ne (by decide)]; exact k3
      simp (disch := omega) only [↓kr89 s.1, ↓kmI s.1, k3, nar01 hv, ↓ks89 s.1, toN, ↓kmI s1.1, e33, il0, il1, il2, il3, il4, il5, il6, il7, il8, il9, il10, il11, il12, il13, il14, il15, il16, il17, il18, il19, il20, il21, il22, il23, il24, il25, il26, il27, il28, il29, il30, il31, il32, il33, il36, il38, il39, il40, il41, il48, il50, il51, il57, il59, il60, il61, il62, il63, il70, il96, il99, il100, il101, il102, il103, il104, il105, il106, il107, il108, il109, il110, il111, il112, il115, il116, il120, il121, il124, il200, il240, il255, il288, il360, il420, il999, il1000, il114292, il152755, il402789, il435589, il463922, il533611, il631470, iz_add, ↓ksI s1.1]
      rfl
    · refine ⟨?_, ?_, ?_, ⟨?_, ?_⟩, ?_⟩
      · rw [fd_at, if_neg (by decide), wr_ne (by decide)]; exact k1
      · rw [fd_ne (by decide), wr_ne (by decide)]; exact k2
      · rw [fd_at, if_pos rfl]; rfl
      · rw [fd_ne (by decide), wr_eq, upd_at, if_pos rfl]
      · rw [fd_ne (by decide), wr_eq]; exact SW_upd (Nat.le_refl _) k4
      · rw [fd_at, if_neg (by decide), wr_ne (by decide)]; exact k5
  intro W
  induction W with
  | nil =>
    intro e v n h hn _ _ hv s k
    obtain ⟨n, rfl⟩ : ∃ k, n = k + 1 := ⟨n - 1, by omega⟩
    obtain ⟨h', e1, r⟩ := hpush h [] e v hv s k
    refine ⟨h', ?_, r⟩
    have k1 : h.2.1 71 32 = iz 0 := k.1
    rw [f_X10_push_2]
    simp (disch := omega) only [↓kmI s.1, k1, il0, il1, il2, il3, il4, il5, il6, il7, il8, il9, il10, il11, il12, il13, il14, il15, il16, il17, il18, il19, il20, il21, il22, il23, il24, il25, il26, il27, il28, il29, il30, il31, il32, il33, il36, il38, il39, il40, il41, il48, il50, il51, il57, il59, il60, il61, il62, il63, il70, il96, il99, il100, il101, il102, il103, il104, il105, il106, il107, il108, il109, il110, il111, il112, il115, il116, il120, il121, il124, il200, il240, il255, il288, il360, il420, il999, il1000, il114292, il152755, il402789, il435589, il463922, il533611, il631470, iz_le, Int.le_refl, ↓reduceIte]
    exact e1
  | cons c W ih =>
    intro e v n h hn hW hc hv s k
    obtain ⟨n, rfl⟩ : ∃ k, n = k + 1 := ⟨n - 1, by omega⟩
    simp only [List.length_cons] at hn hW
    have k1 : h.2.1 71 32 = iz ((W.length : Int) + 1) := k.1
    have k2 := k.2.1.1
    have hcc := hc c (List.mem_cons_self ..)
    have c0 : ¬ ((W.length : Int) + 1 ≤ 0) := by omega
    have e0 : (W.length : Int) + 1 - 1 = (W.length : Int) := by omega
    rw [f_X10_push_2, pushS]
    by_cases h33 : c = 33
    · rw [if_pos h33]
      have s1 := s.fd_ (j := 32) (v := iz (W.length : Int)) (by decide)
      have s2 := s1.fd_ (j := 34) (v := iz (e - 1)) (by decide)
      have k34 : (fd h 32 (iz (W.length : Int))).2.1 71 34 = iz e := by rw [fd_at, if_neg (by decide)]; exact k.2.2.2.2
      obtain ⟨h', e1, r⟩ := ih (e - 1) (1 - v) n _ (by omega) (by omega) (fun c hc' => hc c (List.mem_cons_of_mem _ hc')) (by omega) s2 (by
        refine ⟨?_, k.2.1.2, ?_, k.2.2.2.1, ?_⟩
        · rw [fd_at, if_neg (by decide), fd_at, if_pos rfl]
        · rw [fd_at, if_neg (by decide), fd_at, if_neg (by decide)]; exact k.2.2.1
        · rw [fd_at, if_pos rfl])
      refine ⟨h', ?_, r⟩
      unfold f_X10_push_34
      rcases (show v = 0 ∨ v = 1 by omega) with rfl | rfl
      · simp (disch := omega) only [↓kmI s.1, k1, il0, il1, il2, il3, il4, il5, il6, il7, il8, il9, il10, il11, il12, il13, il14, il15, il16, il17, il18, il19, il20, il21, il22, il23, il24, il25, il26, il27, il28, il29, il30, il31, il32, il33, il36, il38, il39, il40, il41, il48, il50, il51, il57, il59, il60, il61, il62, il63, il70, il96, il99, il100, il101, il102, il103, il104, il105, il106, il107, il108, il109, il110, il111, il112, il115, il116, il120, il121, il124, il200, il240, il255, il288, il360, il420, il999, il1000, il114292, il152755, il402789, il435589, il463922, il533611, il631470, iz_le, c0, ↓reduceIte, ↓kr88 s.1, iz_sub, e0, ↓kl88 s.1, toN, k2, iz_eq, h33, ↓ksI s.1, ↓kmI s1.1, k34, ↓ksI s1.1]
        exact e1
      · have h3 : ¬ ((1 : Int) = 0) := by decide
        simp (disch := omega) only [↓kmI s.1, k1, il0, il1, il2, il3, il4, il5, il6, il7, il8, il9, il10, il11, il12, il13, il14, il15, il16, il17, il18, il19, il20, il21, il22, il23, il24, il25, il26, il27, il28, il29, il30, il31, il32, il33, il36, il38, il39, il40, il41, il48, il50, il51, il57, il59, il60, il61, il62, il63, il70, il96, il99, il100, il101, il102, il103, il104, il105, il106, il107, il108, il109, il110, il111, il112, il115, il116, il120, il121, il124, il200, il240, il255, il288, il360, il420, il999, il1000, il114292, il152755, il402789, il435589, il463922, il533611, il631470, iz_le, c0, ↓reduceIte, ↓kr88 s.1, iz_sub, e0, ↓kl88 s.1, toN, k2, iz_eq, h33, h3, ↓ksI s.1, ↓kmI s1.1, k34, ↓ksI s1.1]
        exact e1
    · rw [if_neg h33]
      obtain ⟨h', e1, r⟩ := hpush h (c :: W) e v hv s k
      refine ⟨h', ?_, r⟩
      simp (disch := omega) only [↓kmI s.1, k1, il0, il1, il2, il3, il4, il5, il6, il7, il8, il9, il10, il11, il12, il13, il14, il15, il16, il17, il18, il19, il20, il21, il22, il23, il24, il25, il26, il27, il28, il29, il30, il31, il32, il33, il36, il38, il39, il40, il41, il48, il50, il51, il57, il59, il60, il61, il62, il63, il70, il96, il99, il100, il101, il102, il103, il104, il105, il106, il107, il108, il109, il110, il111, il112, il115, il116, il120, il121, il124, il200, il240, il255, il288, il360, il420, il999, il1000, il114292, il152755, il402789, il435589, il463922, il533611, il631470, iz_le, c0, ↓reduceIte, ↓kr88 s.1, iz_sub, e0, ↓kl88 s.1, toN, k2, iz_eq, h33]
      exact e1
theorem m_push {B W : List Int} (hB : B.length < 121) (hW : W.length ≤ 121) (hN : 200 ≤ N) {P : Nat} {e v : Int} {h : Mem} (hc : ∀ c ∈ W, 0 ≤ c ∧ c ≤ 127) (hv : 0 ≤ v ∧ v ≤ 1) (s : PS h0 x L b h P) (k : STK h W B e) : ∃ h', f_X10_push N 71 (iz v) h = some h' ∧ PS h0 x L b h' P ∧ STK h' (pushS W e v).1 ((pushS W e v).2.2 :: B) (pushS W e v).2.1 := m_push_2 hB W e v N h (by omega) hW hc hv s k
/-- the top of what waits is neither & nor |, or nothing waits: it stays -/
theorem m_settle_stop {W B : List Int} {P n : Nat} {e g : Int} {h : Mem} (s : PS h0 x L b h P) (k : STK h W B e) (hW : W.length ≤ 121) (hg : g = 38 ∨ g = 124) (ht : ∀ c W', W = c :: W' → (0 ≤ c ∧ c ≤ 127) ∧ c ≠ 38 ∧ (c = 124 → g = 38)) : f_X10_settle_0 N (n + 1) 71 (iz g) h = some h := by
  rw [f_X10_settle_0]
  cases W with
  | nil =>
    have k1 : h.2.1 71 32 = iz 0 := k.1
    simp (disch := omega) only [↓kmI s.1, k1, il0, il1, il2, il3, il4, il5, il6, il7, il8, il9, il10, il11, il12, il13, il14, il15, il16, il17, il18, il19, il20, il21, il22, il23, il24, il25, il26, il27, il28, il29, il30, il31, il32, il33, il36, il38, il39, il40, il41, il48, il50, il51, il57, il59, il60, il61, il62, il63, il70, il96, il99, il100, il101, il102, il103, il104, il105, il106, il107, il108, il109, il110, il111, il112, il115, il116, il120, il121, il124, il200, il240, il255, il288, il360, il420, il999, il1000, il114292, il152755, il402789, il435589, il463922, il533611, il631470, iz_le, Int.le_refl, ↓reduceIte]
  | cons c W =>
    have t := ht c W rfl
    simp only [List.length_cons] at hW
    have k1 : h.2.1 71 32 = iz ((W.length : Int) + 1) := k.1
    have k2 := k.2.1.1
    have c0 : ¬ ((W.length : Int) + 1 ≤ 0) := by omega
    have e0 : (W.length : Int) + 1 - 1 = (W.length : Int) := by omega
    have t1 := t.2.1
    by_cases h124 : c = 124
    · have g38 := t.2.2 h124
      simp (disch := omega) only [↓kmI s.1, k1, il0, il1, il2, il3, il4, il5, il6, il7, il8, il9, il10, il11, il12, il13, il14, il15, il16, il17, il18, il19, il20, il21, il22, il23, il24, il25, il26, il27, il28, il29, il30, il31, il32, il33, il36, il38, il39, il40, il41, il48, il50, il51, il57, il59, il60, il61, il62, il63, il70, il96, il99, il100, il101, il102, il103, il104, il105, il106, il107, il108, il109, il110, il111, il112, il115, il116, il120, il121, il124, il200, il240, il255, il288, il360, il420, il999, il1000, il114292, il152755, il402789, il435589, il463922, il533611, il631470, iz_le, c0, ↓reduceIte, ↓kr88 s.1, iz_sub, e0, ↓kl88 s.1, toN, k2, iz_eq, h124, g38, show ¬ ((124 : Int) = 38) by decide]
    · simp (disch := omega) only [↓kmI s.1, k1, il0, il1, il2, il3, il4, il5, il6, il7, il8, il9, il10, il11, il12, il13, il14, il15, il16, il17, il18, il19, il20, il21, il22, il23, il24, il25, il26, il27, il28, il29, il30, il31, il32, il33, il36, il38, il39, il40, il41, il48, il50, il51, il57, il59, il60, il61, il62, il63, il70, il96, il99, il100, il101, il102, il103, il104, il105, il106, il107, il108, il109, il110, il111, il112, il115, il116, il120, il121, il124, il200, il240, il255, il288, il360, il420, il999, il1000, il114292, il152755, il402789, il435589, il463922, il533611, il631470, iz_le, c0, ↓reduceIte, ↓kr88 s.1, iz_sub, e0, ↓kl88 s.1, toN, k2, iz_eq, h124, t1]
end
