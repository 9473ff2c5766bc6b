section
variable {h0 : Mem} {x : Nat → Int} {L b N : Nat}
def cmb (c a v : Int) : Int := if c = 38 then (if a = 0 then 0 else v) else (if a = 0 then v else 1)
theorem cmb_bd {c a v : Int} (ha : 0 ≤ a ∧ a ≤ 1) (hv : 0 ≤ v ∧ v ≤ 1) : 0 ≤ cmb c a v ∧ cmb c a v ≤ 1 := by unfold cmb; split <;> split <;> omega
theorem m_settle_pop {W B : List Int} {P n : Nat} {e g c a v : Int} {h : Mem} (s : PS h0 x L b h P) (k : STK h (c :: W) (v :: a :: B) e) (hW : W.length ≤ 120) (hB : B.length ≤ 119) (hg : g = 38 ∨ g = 124) (hc : c = 38 ∨ c = 124 ∧ g = 124) (ha : 0 ≤ a ∧ a ≤ 1) (hv : 0 ≤ v ∧ v ≤ 1) : ∃ h', f_X10_settle_0 N (n + 1) 71 (iz g) h = f_X10_settle_0 N n 71 (iz g) h' ∧ PS h0 x L b h' P ∧ STK h' W (cmb c a v :: B) e := by
  obtain ⟨k1, ⟨k2, k2'⟩, k3, ⟨k4, k4', k4''⟩, k5⟩ := k
  have k1 : h.2.1 71 32 = iz ((W.length : Int) + 1) := k1
  have k3 : h.2.1 71 33 = iz ((B.length : Int) + 2) := by rw [k3]; apply iz_inj; simp only [List.length_cons]; omega
  have k4 : h.2.1 89 (B.length + 1) = iz v := k4
  have s1 := s.fd_ (j := 32) (v := iz (W.length : Int)) (by decide)
  have e133 : (fd h 32 (iz (W.length : Int))).2.1 71 33 = iz ((B.length : Int) + 2) := by rw [fd_at, if_neg (by decide)]; exact k3
  have s2 := s1.fd_ (j := 33) (v := iz ((B.length : Int) + 1)) (by decide)
  generalize hh2 : fd (fd h 32 (iz (W.length : Int))) 33 (iz ((B.length : Int) + 1)) = h2 at s2
  have e233 : h2.2.1 71 33 = iz ((B.length : Int) + 1) := by rw [← hh2, fd_at, if_pos rfl]
  have e232 : h2.2.1 71 32 = iz (W.length : Int) := by rw [← hh2, fd_at, if_neg (by decide), fd_at, if_pos rfl]
  have e88 : h2.2.1 88 = h.2.1 88 := by rw [← hh2, fd_ne (by decide), fd_ne (by decide)]
  have e89 : h2.2.1 89 = h.2.1 89 := by rw [← hh2, fd_ne (by decide), fd_ne (by decide)]
  have t1 : h2.2.1 88 W.length = iz c := by rw [e88]; exact k2
  have t2 : h2.2.1 89 B.length = iz a := by rw [e89]; exact k4'
  have t3 : h2.2.1 89 (B.length + 1) = iz v := by rw [e89]; exact k4
  have c0 : ¬ ((W.length : Int) + 1 ≤ 0) := by omega
  have e0 : (W.length : Int) + 1 - 1 = (W.length : Int) := by omega
  have e1 : (B.length : Int) + 2 - 1 = (B.length : Int) + 1 := by omega
  have e2 : (B.length : Int) + 1 - 1 = (B.length : Int) := by omega
  have etn : ((B.length : Int) + 1).toNat = B.length + 1 := by omega
  have hfin : ∀ r : Int, r = cmb c a v → PS h0 x L b (wr h2 89 (upd (h2.2.1 89) B.length (iz r))) P ∧ STK (wr h2 89 (upd (h2.2.1 89) B.length (iz r))) W (cmb c a v :: B) e := by
    intro r hr
    refine ⟨s2.wr_ (by decide), ?_, ?_, ?_, ⟨?_, ?_⟩, ?_⟩
    · rw [wr_ne (by decide)]; exact e232
    · rw [wr_ne (by decide), e88]; exact k2'
    · rw [wr_ne (by decide), e233]; rfl
    · rw [wr_eq, upd_at, if_pos rfl, hr]
    · rw [wr_eq, e89]; exact SW_upd (Nat.le_refl _) k4''
    · rw [wr_ne (by decide), ← hh2, fd_at, if_neg (by decide), fd_at, if_neg (by decide)]; exact k5
  have main : ∀ r : Int, r = cmb c a v → (0 ≤ r ∧ r ≤ 1) → (f_X10_settle_45 N 71 (iz g) h (fun v0 v1 h => f_X10_settle_0 N n v0 v1 h) = f_X10_settle_0 N n 71 (iz g) (wr h2 89 (upd (h2.2.1 89) B.length (iz r)))) := by
    intro r hr hrb
    have h3 : ¬ ((1 : Int) = 0) := by decide
    unfold f_X10_settle_45 f_X10_settle_119 f_X10_settle_149 f_X10_settle_154
    unfold cmb at hr
    have hst : ∀ k : Mem → Option Mem, (stI 102 h2 89 (iz (B.length : Int)) (vp_nar .boolean (iz r))).bind k = k (wr h2 89 (upd (h2.2.1 89) B.length (iz r))) := fun k => by rw [nar01 hrb, ks89 s2.1 (by omega) (by omega), toN]
    simp (disch := omega) only [↓kmI s.1, k1, il0, il1, il2, il3, il4, il5, il6, il7, il8, il9, il10, il11, il12, il13, il14, il15, il16, il17, il18, il19, il20, il21, il22, il23, il24, il25, il26, il27, il28, il29, il30, il31, il32, il33, il36, il38, il39, il40, il41, il48, il50, il51, il57, il59, il60, il61, il62, il63, il70, il96, il99, il100, il101, il102, il103, il104, il105, il106, il107, il108, il109, il110, il111, il112, il115, il116, il120, il121, il124, il200, il240, il255, il288, il360, il420, il999, il1000, il114292, il152755, il402789, il435589, il463922, il533611, il631470, iz_sub, e0, ↓ksI s.1, ↓kmI s1.1, e133, e1, ↓ksI s1.1, hh2, ↓kr89 s2.1, ↓kr88 s2.1, ↓kmI s2.1, e233, e232, ↓kl88 s2.1, toN, t1, iz_eq]
    by_cases c38 : c = 38
    · rw [if_pos c38] at hr
      by_cases a0 : a = 0
      · rw [if_pos a0] at hr
        subst hr
        simp (disch := omega) only [il0, il1, il2, il3, il4, il5, il6, il7, il8, il9, il10, il11, il12, il13, il14, il15, il16, il17, il18, il19, il20, il21, il22, il23, il24, il25, il26, il27, il28, il29, il30, il31, il32, il33, il36, il38, il39, il40, il41, il48, il50, il51, il57, il59, il60, il61, il62, il63, il70, il96, il99, il100, il101, il102, il103, il104, il105, il106, il107, il108, il109, il110, il111, il112, il115, il116, il120, il121, il124, il200, il240, il255, il288, il360, il420, il999, il1000, il114292, il152755, il402789, il435589, il463922, il533611, il631470, iz_sub, ↓kr89 s2.1, ↓kmI s2.1, e233, e2, ↓kl89 s2.1, toN, t2, iz_eq, c38, a0, ↓reduceIte]
        exact hst _
      · rw [if_neg a0] at hr
        subst hr
        rcases (show r = 0 ∨ r = 1 by omega) with v0 | v1
        · simp (disch := omega) only [il0, il1, il2, il3, il4, il5, il6, il7, il8, il9, il10, il11, il12, il13, il14, il15, il16, il17, il18, il19, il20, il21, il22, il23, il24, il25, il26, il27, il28, il29, il30, il31, il32, il33, il36, il38, il39, il40, il41, il48, il50, il51, il57, il59, il60, il61, il62, il63, il70, il96, il99, il100, il101, il102, il103, il104, il105, il106, il107, il108, il109, il110, il111, il112, il115, il116, il120, il121, il124, il200, il240, il255, il288, il360, il420, il999, il1000, il114292, il152755, il402789, il435589, il463922, il533611, il631470, iz_sub, ↓kr89 s2.1, ↓kmI s2.1, e233, e2, ↓kl89 s2.1, toN, t2, etn, t3, iz_eq, c38, a0, v0, ↓reduceIte]
          rw [v0] at hst
          exact hst _
        · simp (disch := omega) only [il0, il1, il2, il3, il4, il5, il6, il7, il8, il9, il10, il11, il12, il13, il14, il15, il16, il17, il18, il19, il20, il21, il22, il23, il24, il25, il26, il27, il28, il29, il30, il31, il32, il33, il36, il38, il39, il40, il41, il48, il50, il51, il57, il59, il60, il61, il62, il63, il70, il96, il99, il100, il101, il102, il103, il104, il105, il106, il107, il108, il109, il110, il111, il112, il115, il116, il120, il121, il124, il200, il240, il255, il288, il360, il420, il999, il1000, il114292, il152755, il402789, il435589, il463922, il533611, il631470, iz_sub, ↓kr89 s2.1, ↓kmI s2.1, e233, e2, ↓kl89 s2.1, toN, t2, etn, t3, iz_eq, c38, a0, v1, h3, ↓reduceIte]
          rw [v1] at hst
          exact hst _
    · rw [if_neg c38] at hr
      by_cases a0 : a = 0
      · rw [if_pos a0] at hr
        subst hr
        rcases (show r = 0 ∨ r = 1 by omega) with v0 | v1
        · simp (disch := omega) only [il0, il1, il2, il3, il4, il5, il6, il7, il8, il9, il10, il11, il12, il13, il14, il15, il16, il17, il18, il19, il20, il21, il22, il23, il24, il25, il26, il27, il28, il29, il30, il31, il32, il33, il36, il38, il39, il40, il41, il48, il50, il51, il57, il59, il60, il61, il62, il63, il70, il96, il99, il100, il101, il102, il103, il104, il105, il106, il107, il108, il109, il110, il111, il112, il115, il116, il120, il121, il124, il200, il240, il255, il288, il360, il420, il999, il1000, il114292, il152755, il402789, il435589, il463922, il533611, il631470, iz_sub, ↓kr89 s2.1, ↓kmI s2.1, e233, e2, ↓kl89 s2.1, toN, t2, etn, t3, iz_eq, c38, a0, v0, ↓reduceIte]
          rw [v0] at hst
          exact hst _
        · simp (disch := omega) only [il0, il1, il2, il3, il4, il5, il6, il7, il8, il9, il10, il11, il12, il13, il14, il15, il16, il17, il18, il19, il20, il21, il22, il23, il24, il25, il26, il27, il28, il29, il30, il31, il32, il33, il36, il38, il39, il40, il41, il48, il50, il51, il57, il59, il60, il61, il62, il63, il70, il96, il99, il100, il101, il102, il103, il104, il105, il106, il107, il108, il109, il110, il111, il112, il115, il116, il120, il121, il124, il200, il240, il255, il288, il360, il420, il999, il1000, il114292, il152755, il402789, il435589, il463922, il533611, il631470, iz_sub, ↓kr89 s2.1, ↓kmI s2.1, e233, e2, ↓kl89 s2.1, toN, t2, etn, t3, iz_eq, c38, a0, v1, h3, ↓reduceIte]
          rw [v1] at hst
          exact hst _
      · rw [if_neg a0] at hr
        subst hr
        simp (disch := omega) only [il0, il1, il2, il3, il4, il5, il6, il7, il8, il9, il10, il11, il12, il13, il14, il15, il16, il17, il18, il19, il20, il21, il22, il23, il24, il25, il26, il27, il28, il29, il30, il31, il32, il33, il36, il38, il39, il40, il41, il48, il50, il51, il57, il59, il60, il61, il62, il63, il70, il96, il99, il100, il101, il102, il103, il104, il105, il106, il107, il108, il109, il110, il111, il112, il115, il116, il120, il121, il124, il200, il240, il255, il288, il360, il420, il999, il1000, il114292, il152755, il402789, il435589, il463922, il533611, il631470, iz_sub, ↓kr89 s2.1, ↓kmI s2.1, e233, e2, ↓kl89 s2.1, toN, t2, iz_eq, c38, a0, ↓reduceIte]
        exact hst _
  have hr := cmb_bd (c := c) ha hv
  refine ⟨_, ?_, hfin _ rfl⟩
  rw [f_X10_settle_0, ← main _ rfl hr]
  rcases hc with z1 | ⟨z1, z2⟩
  · simp (disch := omega) only [↓kmI s.1, k1, il0, il1, il2, il3, il4, il5, il6, il7, il8, il9, il10, il11, il12, il13, il14, il15, il16, il17, il18, il19, il20, il21, il22, il23, il24, il25, il26, il27, il28, il29, il30, il31, il32, il33, il36, il38, il39, il40, il41, il48, il50, il51, il57, il59, il60, il61, il62, il63, il70, il96, il99, il100, il101, il102, il103, il104, il105, il106, il107, il108, il109, il110, il111, il112, il115, il116, il120, il121, il124, il200, il240, il255, il288, il360, il420, il999, il1000, il114292, il152755, il402789, il435589, il463922, il533611, il631470, iz_le, c0, ↓reduceIte, ↓kr88 s.1, iz_sub, e0, ↓kl88 s.1, toN, k2, iz_eq, z1]
  · simp (disch := omega) only [↓kmI s.1, k1, il0, il1, il2, il3, il4, il5, il6, il7, il8, il9, il10, il11, il12, il13, il14, il15, il16, il17, il18, il19, il20, il21, il22, il23, il24, il25, il26, il27, il28, il29, il30, il31, il32, il33, il36, il38, il39, il40, il41, il48, il50, il51, il57, il59, il60, il61, il62, il63, il70, il96, il99, il100, il101, il102, il103, il104, il105, il106, il107, il108, il109, il110, il111, il112, il115, il116, il120, il121, il124, il200, il240, il255, il288, il360, il420, il999, il1000, il114292, il152755, il402789, il435589, il463922, il533611, il631470, iz_le, c0, ↓reduceIte, ↓kr88 s.1, iz_sub, e0, ↓kl88 s.1, toN, k2, iz_eq, z1, z2, show ¬ ((124 : Int) = 38) by decide]
end
