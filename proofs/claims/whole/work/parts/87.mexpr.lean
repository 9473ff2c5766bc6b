section
variable {s i t n : Int}
theorem run_not {F v : Nat} {sum : Int} (hv : v ≤ 1) (hF : F < 2000000) : run s i t n [12] (sum, 2 * F + v) = some (sum, 2 * F + (1 - v)) := by
  show (sgn s i t n 12 (sum, 2 * F + v)).bind (run s i t n []) = _
  unfold sgn
  dsimp only
  rw [if_neg (by omega), if_pos (by decide), div2 hv, mod2 hv]
  rfl
theorem run_and {F c v : Nat} {sum : Int} (hc : c ≤ 1) (hv : v ≤ 1) (hF : F < 2000000) : run s i t n [13] (sum, 2 * (2 * F + c) + v) = some (sum, 2 * F + min c v) := by
  show (sgn s i t n 13 (sum, 2 * (2 * F + c) + v)).bind (run s i t n []) = _
  unfold sgn
  dsimp only
  rw [if_neg (by omega), if_neg (by decide), if_pos (by decide), div2 hv, mod2 hv, mod2 hc, show (2 * (2 * F + c) + v) / 4 = F by omega]
  rfl
theorem run_or {F c v : Nat} {sum : Int} (hc : c ≤ 1) (hv : v ≤ 1) (hF : F < 2000000) : run s i t n [14] (sum, 2 * (2 * F + c) + v) = some (sum, 2 * F + max c v) := by
  show (sgn s i t n 14 (sum, 2 * (2 * F + c) + v)).bind (run s i t n []) = _
  unfold sgn
  dsimp only
  rw [if_neg (by omega), if_neg (by decide), if_neg (by decide), if_pos (by decide), div2 hv, mod2 hv, mod2 hc, show (2 * (2 * F + c) + v) / 4 = F by omega]
  rfl
end
theorem cmb_38 {c v : Nat} (hc : c ≤ 1) (hv : v ≤ 1) : cmb 38 c v = ((min c v : Nat) : Int) := by
  unfold cmb
  rw [if_pos rfl]
  rcases (show c = 0 ∨ c = 1 by omega) with rfl | rfl
  · rw [if_pos (by rfl)]; omega
  · rw [if_neg (by decide)]; omega
theorem cmb_124 {c v : Nat} (hc : c ≤ 1) (hv : v ≤ 1) : cmb 124 c v = ((max c v : Nat) : Int) := by
  unfold cmb
  rw [if_neg (by decide)]
  rcases (show c = 0 ∨ c = 1 by omega) with rfl | rfl
  · rw [if_pos (by rfl)]; omega
  · rw [if_neg (by decide)]; omega
section
variable {h0 : Mem} {x : Nat → Int} {L b N : Nat}
/-- ! or ( opens -/
theorem m_open {h : Mem} {P m : Nat} {W B : List Int} {e c : Int} (p : PS h0 x L b h P) (k : STK h W B e) (hW : W.length ≤ 120) (he : 0 ≤ e ∧ e < 4) (hc : c = 33 ∨ c = 40) (ha : isAt x L P c = true) : ∃ h', f_X10_takesE_17 N (m + 1) 71 (iz 1) h = f_X10_takesE_17 N m 71 (iz 1) h' ∧ PS h0 x L b h' (P + 1) ∧ STK h' (c :: W) B (e + 1) := by
  have hx := p.2.2.2.2.1
  have la := isAt_lt ha
  have en := m_next (N := N) p
  have ec : nxS x L P = c := by rw [nx_at hx (by omega)]; exact ha
  rw [ec] at en
  obtain ⟨k1, k2, k3, k4, k5⟩ := k
  have p1 := p.fd_ (j := 34) (v := iz (e + 1)) (by decide)
  have p2 := p1.wr_ (a := 88) (row := upd ((fd h 34 (iz (e + 1))).2.1 88) W.length (iz c)) (by decide)
  have p3 := p2.fd_ (j := 32) (v := iz ((W.length : Int) + 1)) (by decide)
  have p4 := p3.at_ (P' := P + 1) (by omega)
  have q1 : (fd h 34 (iz (e + 1))).2.1 71 32 = iz (W.length : Int) := by rw [fd_at, if_neg (by decide)]; exact k1
  have q2 : (wr (fd h 34 (iz (e + 1))) 88 (upd ((fd h 34 (iz (e + 1))).2.1 88) W.length (iz c))).2.1 71 32 = iz (W.length : Int) := by rw [wr_ne (by decide)]; exact q1
  have c4 : ¬ (e = 4) := by omega
  refine ⟨_, ?_, p4, ?_, ⟨?_, ?_⟩, ?_, ?_, ?_⟩
  · rw [f_X10_takesE_17]
    unfold f_X10_takesE_38
    rcases hc with rfl | rfl
    · simp (disch := omega) only [↓kmC p.1, ↓bq en, il0, il1, il2, il3, il4, il5, il6, il7, il8, il9, il10, il11, il12, il13, il14, il15, il16, il17, il18, il19, il20, il21, il22, il23, il24, il25, il26, il27, il28, il29, il30, il31, il32, il33, il36, il38, il39, il40, il41, il48, il50, il51, il57, il59, il60, il61, il62, il63, il70, il96, il99, il100, il101, il102, il103, il104, il105, il106, il107, il108, il109, il110, il111, il112, il115, il116, il120, il121, il124, il200, il240, il255, il288, il360, il420, il999, il1000, il114292, il152755, il402789, il435589, il463922, il533611, il631470, iz_eq, show ¬ ((1 : Int) = 0) by decide, ↓reduceIte, ↓kmI p.1, k5, c4, iz_add, ↓ksI p.1, ↓kr88 p1.1, ↓kmI p1.1, q1, ↓ks88 p1.1, toN, ↓kmI p2.1, q2, ↓ksI p2.1, ↓kpP p3, ↓ksI p3.1]
      rfl
    · simp (disch := omega) only [↓kmC p.1, ↓bq en, il0, il1, il2, il3, il4, il5, il6, il7, il8, il9, il10, il11, il12, il13, il14, il15, il16, il17, il18, il19, il20, il21, il22, il23, il24, il25, il26, il27, il28, il29, il30, il31, il32, il33, il36, il38, il39, il40, il41, il48, il50, il51, il57, il59, il60, il61, il62, il63, il70, il96, il99, il100, il101, il102, il103, il104, il105, il106, il107, il108, il109, il110, il111, il112, il115, il116, il120, il121, il124, il200, il240, il255, il288, il360, il420, il999, il1000, il114292, il152755, il402789, il435589, il463922, il533611, il631470, iz_eq, show ¬ ((1 : Int) = 0) by decide, show ¬ ((40 : Int) = 33) by decide, ↓reduceIte, ↓kmI p.1, k5, c4, iz_add, ↓ksI p.1, ↓kr88 p1.1, ↓kmI p1.1, q1, ↓ks88 p1.1, toN, ↓kmI p2.1, q2, ↓ksI p2.1, ↓kpP p3, ↓ksI p3.1]
      rfl
  · rw [fd_at, if_neg (by decide), fd_at, if_pos rfl]; rfl
  · rw [fd_ne (by decide), fd_ne (by decide), wr_eq, upd_at, if_pos rfl]
  · rw [fd_ne (by decide), fd_ne (by decide), wr_eq, fd_ne (by decide)]; exact SW_upd (Nat.le_refl _) k2
  · rw [fd_at, if_neg (by decide), fd_at, if_neg (by decide), wr_ne (by decide), fd_at, if_neg (by decide)]; exact k3
  · rw [fd_ne (by decide), fd_ne (by decide), wr_ne (by decide), fd_ne (by decide)]; exact k4
  · rw [fd_at, if_neg (by decide), fd_at, if_neg (by decide), wr_ne (by decide), fd_at, if_pos rfl]
/-- & or | behind a factor -/
theorem m_sep {h h1 : Mem} {P m : Nat} {W B : List Int} {e c : Int} (p : PS h0 x L b h P) (hN : 200 ≤ N) (es : f_X10_settle N 71 (iz c) h = some h1) (p1 : PS h0 x L b h1 P) (k : STK h1 W B e) (hW : W.length ≤ 120) (hc : c = 38 ∨ c = 124) (ha : isAt x L P c = true) : ∃ h', f_X10_takesE_17 N (m + 1) 71 (iz 0) h = f_X10_takesE_17 N m 71 (iz 1) h' ∧ PS h0 x L b h' (P + 1) ∧ STK h' (c :: W) B e := by
  have hx := p.2.2.2.2.1
  have la := isAt_lt ha
  have en := m_next (N := N) p
  have ec : nxS x L P = c := by rw [nx_at hx (by omega)]; exact ha
  rw [ec] at en
  obtain ⟨k1, k2, k3, k4, k5⟩ := k
  have p2 := p1.wr_ (a := 88) (row := upd (h1.2.1 88) W.length (iz c)) (by decide)
  have p3 := p2.fd_ (j := 32) (v := iz ((W.length : Int) + 1)) (by decide)
  have p4 := p3.at_ (P' := P + 1) (by omega)
  have q2 : (wr h1 88 (upd (h1.2.1 88) W.length (iz c))).2.1 71 32 = iz (W.length : Int) := by rw [wr_ne (by decide)]; exact k1
  refine ⟨_, ?_, p4, ?_, ⟨?_, ?_⟩, ?_, ?_, ?_⟩
  · rw [f_X10_takesE_17]
    unfold f_X10_takesE_117
    rcases hc with rfl | rfl
    · simp (disch := omega) only [↓kmC p.1, ↓bq en, il0, il1, il2, il3, il4, il5, il6, il7, il8, il9, il10, il11, il12, il13, il14, il15, il16, il17, il18, il19, il20, il21, il22, il23, il24, il25, il26, il27, il28, il29, il30, il31, il32, il33, il36, il38, il39, il40, il41, il48, il50, il51, il57, il59, il60, il61, il62, il63, il70, il96, il99, il100, il101, il102, il103, il104, il105, il106, il107, il108, il109, il110, il111, il112, il115, il116, il120, il121, il124, il200, il240, il255, il288, il360, il420, il999, il1000, il114292, il152755, il402789, il435589, il463922, il533611, il631470, iz_eq, ↓reduceIte, ↓bo es, ↓kr88 p1.1, ↓kmI p1.1, k1, ↓ks88 p1.1, toN, ↓kmI p2.1, q2, iz_add, ↓ksI p2.1, ↓kpP p3, ↓ksI p3.1]
      rfl
    · simp (disch := omega) only [↓kmC p.1, ↓bq en, il0, il1, il2, il3, il4, il5, il6, il7, il8, il9, il10, il11, il12, il13, il14, il15, il16, il17, il18, il19, il20, il21, il22, il23, il24, il25, il26, il27, il28, il29, il30, il31, il32, il33, il36, il38, il39, il40, il41, il48, il50, il51, il57, il59, il60, il61, il62, il63, il70, il96, il99, il100, il101, il102, il103, il104, il105, il106, il107, il108, il109, il110, il111, il112, il115, il116, il120, il121, il124, il200, il240, il255, il288, il360, il420, il999, il1000, il114292, il152755, il402789, il435589, il463922, il533611, il631470, iz_eq, show ¬ ((124 : Int) = 38) by decide, ↓reduceIte, ↓bo es, ↓kr88 p1.1, ↓kmI p1.1, k1, ↓ks88 p1.1, toN, ↓kmI p2.1, q2, iz_add, ↓ksI p2.1, ↓kpP p3, ↓ksI p3.1]
      rfl
  · rw [fd_at, if_neg (by decide), fd_at, if_pos rfl]; rfl
  · rw [fd_ne (by decide), fd_ne (by decide), wr_eq, upd_at, if_pos rfl]
  · rw [fd_ne (by decide), fd_ne (by decide), wr_eq]; exact SW_upd (Nat.le_refl _) k2
  · rw [fd_at, if_neg (by decide), fd_at, if_neg (by decide), wr_ne (by decide)]; exact k3
  · rw [fd_ne (by decide), fd_ne (by decide), wr_ne (by decide)]; exact k4
  · rw [fd_at, if_neg (by decide), fd_at, if_neg (by decide), wr_ne (by decide)]; exact k5
def bse (W0 : List Int) : Prop := ∀ c W', W0 = c :: W' → c = 40
def o38 (ff : Bool) (c : Int) (W : List Int) : List Int := if ff = true then W else c :: W
/-- settling down to the base -/
theorem m_setl_38 {h : Mem} {P : Nat} {W B : List Int} {e : Int} {c v : Nat} {ff : Bool} (hN : 200 ≤ N) (p : PS h0 x L b h P) (k : STK h (o38 ff 38 W) ((v : Int) :: o38 ff (c : Int) B) e) (hl : W.length + B.length ≤ 118) (hc : c ≤ 1) (hv : v ≤ 1) (hW : ∀ c' W', W = c' :: W' → c' = 124 ∨ c' = 40) : ∃ h', f_X10_settle N 71 (iz 38) h = some h' ∧ PS h0 x L b h' P ∧ STK h' W (((if ff = true then v else min c v : Nat) : Int) :: B) e := by
  have ht : ∀ c W', W = c :: W' → (0 ≤ c ∧ c ≤ 127) ∧ c ≠ 38 ∧ (c = 124 → (38 : Int) = 38) := fun c W' e => by
    have := hW c W' e
    omega
  obtain ⟨n0, rfl⟩ : ∃ k, N = k + 2 := ⟨N - 2, by omega⟩
  unfold f_X10_settle
  cases ff with
  | true =>
    rw [if_pos rfl]
    exact ⟨h, m_settle_stop (N := n0 + 2) (n := n0 + 1) p k (by show W.length ≤ 121; omega) (Or.inl rfl) ht, p, k⟩
  | false =>
    rw [if_neg (by decide)]
    obtain ⟨h1, e1, p1, k1⟩ := m_settle_pop (N := n0 + 2) (n := n0 + 1) (g := 38) p k (by omega) (by omega) (Or.inl rfl) (Or.inl rfl) (by omega) (by omega)
    rw [cmb_38 hc hv] at k1
    refine ⟨h1, ?_, p1, k1⟩
    rw [e1]
    exact m_settle_stop (N := n0 + 2) (n := n0) p1 k1 (by omega) (Or.inl rfl) ht
theorem m_setl_124 {h : Mem} {P : Nat} {W B : List Int} {e : Int} {a c v : Nat} {ft ff : Bool} (hN : 200 ≤ N) (p : PS h0 x L b h P) (k : STK h (o38 ff 38 (o38 ft 124 W)) ((v : Int) :: o38 ff (c : Int) (o38 ft (a : Int) B)) e) (hl : W.length + B.length + 2 * cr ff + 2 * cr ft ≤ 119) (ha : a ≤ 1) (hc : c ≤ 1) (hv : v ≤ 1) (hW : bse W) : ∃ h', f_X10_settle N 71 (iz 124) h = some h' ∧ PS h0 x L b h' P ∧ STK h' W (((if ft = true then (if ff = true then v else min c v) else max a (if ff = true then v else min c v) : Nat) : Int) :: B) e := by
  have ht : ∀ c W', W = c :: W' → (0 ≤ c ∧ c ≤ 127) ∧ c ≠ 38 ∧ (c = 124 → (124 : Int) = 38) := fun c W' e => by
    have := hW c W' e
    omega
  have ol : ∀ (f : Bool) (c : Int) (W : List Int), (o38 f c W).length = W.length + cr f := fun f c W => by unfold o38 cr; split <;> simp
  have cf : cr false = 1 := rfl
  have o1 := ol ft 124 W
  have o2 := ol ft a B
  obtain ⟨n0, rfl⟩ : ∃ k, N = k + 3 := ⟨N - 3, by omega⟩
  unfold f_X10_settle
  -- the 38
  have st1 : ∃ h1 n1, f_X10_settle_0 (n0 + 3) (n0 + 3) 71 (iz 124) h = f_X10_settle_0 (n0 + 3) (n1 + 2) 71 (iz 124) h1 ∧ PS h0 x L b h1 P ∧ STK h1 (o38 ft 124 W) (((if ff = true then v else min c v : Nat) : Int) :: o38 ft (a : Int) B) e := by
    cases ff with
    | true => exact ⟨h, n0 + 1, rfl, p, k⟩
    | false =>
      obtain ⟨h1, e1, p1, k1⟩ := m_settle_pop (N := n0 + 3) (n := n0 + 2) (g := 124) p k (by omega) (by omega) (Or.inr rfl) (Or.inl rfl) (by omega) (by omega)
      rw [cmb_38 hc hv] at k1
      exact ⟨h1, n0, e1, p1, k1⟩
  obtain ⟨h1, n1, e1, p1, k1⟩ := st1
  rw [e1]
  have hv1 : (if ff = true then v else min c v) ≤ 1 := by split <;> omega
  generalize (if ff = true then v else min c v) = v1 at *
  cases ft with
  | true =>
    rw [if_pos rfl]
    exact ⟨h1, m_settle_stop (N := n0 + 3) (n := n1 + 1) p1 k1 (by show W.length ≤ 121; omega) (Or.inr rfl) ht, p1, k1⟩
  | false =>
    rw [if_neg (by decide)]
    obtain ⟨h2, e2, p2, k2⟩ := m_settle_pop (N := n0 + 3) (n := n1 + 1) (g := 124) p1 k1 (by omega) (by omega) (Or.inr rfl) (Or.inr ⟨rfl, rfl⟩) (by omega) (by omega)
    rw [cmb_124 ha hv1] at k2
    refine ⟨h2, ?_, p2, k2⟩
    rw [e2]
    exact m_settle_stop (N := n0 + 3) (n := n1) p2 k2 (by omega) (Or.inr rfl) ht
end
