section
variable {V : Vw} {N : Nat}
theorem ones_dec : ∀ s : Nat, s < 256 → s ≠ 0 → ∃ r : Nat, r < 256 ∧ iz s &&& (iz s - iz 1) = iz (r : Int) ∧ pc r + 1 = pc s := by
  have h : ∀ s : Nat, s < 256 → s ≠ 0 → (s &&& (s - 1)) < 256 ∧ iz s &&& (iz s - iz 1) = iz ((s &&& (s - 1) : Nat) : Int) ∧ pc (s &&& (s - 1)) + 1 = pc s := by decide +kernel
  exact fun s hs h0 => ⟨_, h s hs h0⟩
theorem pc0 : pc 0 = 0 := by decide
theorem m_ones_4 {h : Mem} : ∀ (k s n : Nat) (a : Int), pc s = k → s < 256 → k < n → f_X10_ones_4 N n (iz a) (iz (s : Int)) h = some (iz (a + pc s), h) := by
  intro k
  induction k with
  | zero =>
    intro s n a hk hs hn
    obtain ⟨n, rfl⟩ : ∃ k, n = k + 1 := ⟨n - 1, by omega⟩
    rw [f_X10_ones_4]
    have h0 : s = 0 := by
      by_cases z : s = 0
      · exact z
      · obtain ⟨r, _, _, q⟩ := ones_dec s hs z; omega
    rw [h0, pc0]
    refine (if_pos (by decide)).trans ?_
    rw [show a + ((0 : Nat) : Int) = a by omega]
  | succ k ih =>
    intro s n a hk hs hn
    obtain ⟨n, rfl⟩ : ∃ k, n = k + 1 := ⟨n - 1, by omega⟩
    have h0 : s ≠ 0 := by rintro rfl; rw [pc0] at hk; omega
    obtain ⟨r, r1, r2, r3⟩ := ones_dec s hs h0
    rw [f_X10_ones_4]
    refine (if_neg (by rw [il0, iz_eq (by omega) (by omega) (by omega) (by omega)]; omega)).trans ?_
    rw [il1, r2, iz_add, ih r n (a + 1) (by omega) r1 (by omega), show a + 1 + (pc r : Int) = a + (pc s : Int) by omega]
theorem m_ones {h : Mem} {s : Nat} (hs : s < 256) (hN : 200 ≤ N) : f_X10_ones N 71 (iz (s : Int)) h = some (iz (pc s), h) := by
  have hp := pc_le s hs
  have e := m_ones_4 (N := N) (h := h) (pc s) s N 0 rfl hs (by omega)
  rw [Int.zero_add] at e
  exact e
theorem lo_spec : ∀ s : Nat, s < 256 → 0 < s → bt s (lo s) = true ∧ ∀ j, j < lo s → bt s j = false := by decide +kernel
theorem m_least {h : Mem} {s : Nat} (hs : s < 256) (h0 : 0 < s) {t : Int} : ∀ (d i n : Nat), i + d = lo s → d < n → f_X10_clubBreak_53 N n (iz (s : Int)) (iz t) (iz (i : Int)) h = some (iz (100 * lo s + t), h) := by
  have hl := lo_le s hs h0
  have sp := lo_spec s hs h0
  intro d
  induction d with
  | zero =>
    intro i n hi hn
    obtain ⟨n, rfl⟩ : ∃ k, n = k + 1 := ⟨n - 1, by omega⟩
    obtain rfl : i = lo s := by omega
    have hb := bt_dec s hs (lo s) (by omega)
    rw [sp.1] at hb
    rw [f_X10_clubBreak_53]
    refine (if_neg (by rw [il31, il1, hb]; decide)).trans ?_
    rw [il100, iz_mul, iz_add]
  | succ d ih =>
    intro i n hi hn
    obtain ⟨n, rfl⟩ : ∃ k, n = k + 1 := ⟨n - 1, by omega⟩
    have hb := bt_dec s hs i (by omega)
    rw [sp.2 i (by omega)] at hb
    rw [f_X10_clubBreak_53]
    refine (if_pos (by rw [il31, il1, hb]; decide)).trans ?_
    rw [il1, iz_add]
    exact ih (i + 1) n (by omega) (by omega)
theorem mv_out {s : Nat} {t : Int} : ∀ (n : Nat) (j : Int), ¬ (0 ≤ j ∧ j < n) → va (mv V s t n) 7 j = va V 7 j := by
  intro n
  induction n with
  | zero => intro j _; rfl
  | succ n ih =>
    intro j hj
    unfold mv
    split
    · rw [vset_at, if_neg (by omega), ih j (by omega)]
    · exact ih j (by omega)
def TW (h : Mem) (V : Vw) : Prop := ∀ j : Nat, j < vF V → h.2.1 95 j = iz (va V 7 j) ∧ h.2.2.1 96 j = lz (worth V j (va V 7 j))
theorem TW.fm {h h' : Mem} (a : TW h V) (f : FM SP h h') : TW h' V := fun j hj => ⟨by rw [f.2.2.2.1 95 (by decide) (by decide)]; exact (a j hj).1, by rw [f.2.2.1 96 (by decide)]; exact (a j hj).2⟩
theorem m_club_187 {so : Bool} (w : WF V) : ∀ (d i n : Nat) (h : Mem) (U : Vw), i + d = vF V → d < n → RepM h U → (vT U = vT V ∧ vF U = vF V ∧ vs U = vs V ∧ ∀ k, k ≠ 7 → va U k = va V k) → (∀ j : Int, ¬ ((i : Int) ≤ j ∧ j < vF V) → va U 7 j = va V 7 j) → TW h V → ∃ h', f_X10_isClub_187 N n 71 (iz (bi so)) (iz (i : Int)) h = some (iz (bi so), h') ∧ RepM h' V ∧ FM SR h h' := by
  intro d
  have hF := w.F
  induction d with
  | zero =>
    intro i n h U hi hn R hU hj tw
    obtain ⟨n, rfl⟩ : ∃ k, n = k + 1 := ⟨n - 1, by omega⟩
    have eU : U = V := by
      obtain ⟨u1, u2, u3, u4⟩ := U
      obtain ⟨w1, w2, w3, w4⟩ := V
      obtain ⟨a1, a2, a3, a4⟩ := hU
      have e3 : u3 = w3 := by
        funext k
        by_cases hk : k = 7
        · subst hk
          funext j
          exact hj j (by omega)
        · exact a4 k hk
      have e1 : u1 = w1 := a1
      have e2 : u2 = w2 := a2
      have e4 : u4 = w4 := a3
      rw [e1, e2, e3, e4]
    rw [eU] at R
    refine ⟨h, ?_, R, FM.rf⟩
    rw [f_X10_isClub_187]
    simp (disch := omega) only [↓kmC R.1, ↓kmT R, ↓kmF R, ↓kmM R, ↓kmD R, ↓kmP R, ↓kr72 R.1, ↓kr73 R.1, ↓kr74 R.1, ↓kr75 R.1, ↓kr76 R.1, ↓kr77 R.1, ↓kr78 R.1, ↓kr79 R.1, ↓kr80 R.1, ↓kr81 R.1, ↓kr82 R.1, ↓kr83 R.1, ↓kr84 R.1, ↓kr85 R.1, ↓kr86 R.1, ↓kr87 R.1, ↓kr88 R.1, ↓kr89 R.1, ↓kr90 R.1, ↓kr91 R.1, ↓kr92 R.1, ↓kr93 R.1, ↓kr94 R.1, ↓kr95 R.1, ↓kr96 R.1, ↓kr97 R.1, ↓kr98 R.1, ↓kr99 R.1, ↓kr100 R.1, ↓kr101 R.1, ↓kr102 R.1, ↓kr103 R.1, ↓kr104 R.1, ↓kr105 R.1, ↓kr106 R.1, ↓kr107 R.1, ↓kr108 R.1, ↓kr109 R.1, ↓kr110 R.1, ↓kx0 R, ↓kx1 R, ↓kx2 R, ↓kx3 R, ↓kx4 R, ↓kx5 R, ↓kx6 R, ↓kx7 R, ↓kx8 R, ↓kx9 R, ↓kx10 R, ↓kx11 R, ↓kx1m R, ↓kx9m R, ↓kx10m R, ↓reduceIte, if_true, if_false, Option.bind_some, b2_some, il0, il1, il2, il3, il4, il5, il6, il7, il8, il9, il10, il11, il12, il13, il14, il15, il16, il17, il18, il19, il20, il21, il22, il23, il24, il25, il26, il27, il28, il29, il30, il31, il32, il33, il36, il38, il39, il40, il41, il48, il50, il51, il57, il59, il60, il61, il62, il63, il70, il96, il99, il100, il101, il102, il103, il104, il105, il106, il107, il108, il109, il110, il111, il112, il115, il116, il120, il121, il124, il200, il240, il255, il288, il360, il420, il999, il1000, il114292, il152755, il402789, il435589, il463922, il533611, il631470, iz_add, iz_sub, iz_mul, iz_neg, iz_le, iz_lt, iz_eq]
    rw [if_pos (by omega), rz_bi]
  | succ d ih =>
    intro i n h U hi hn R hU hj tw
    obtain ⟨n, rfl⟩ : ∃ k, n = k + 1 := ⟨n - 1, by omega⟩
    have hc : ¬ ((vF V : Int) ≤ i) := by omega
    have ti := (tw i (by omega)).1
    have R1 := R.set (k := 7) (j := i) (x := va V 7 i) (by omega) (by omega)
    obtain ⟨h', e', R', F'⟩ := ih (i + 1) n _ _ (by omega) (by omega) R1 ⟨hU.1, hU.2.1, hU.2.2.1, fun k hk => by rw [vset_ne hk]; exact hU.2.2.2 k hk⟩ (fun j hj' => by
      rw [vset_at]
      split
      · rename_i q; rw [q.2]
      · rename_i q
        exact hj j (by omega)) (fun j hj' => ⟨by rw [wr_ne (by decide)]; exact (tw j hj').1, (tw j hj').2⟩)
    refine ⟨h', ?_, R', (FM.wr_ (by decide) (by decide)).tr F'⟩
    rw [f_X10_isClub_187]
    simp (disch := omega) only [↓kmC R.1, ↓kmT R, ↓kmF R, ↓kmM R, ↓kmD R, ↓kmP R, ↓kr72 R.1, ↓kr73 R.1, ↓kr74 R.1, ↓kr75 R.1, ↓kr76 R.1, ↓kr77 R.1, ↓kr78 R.1, ↓kr79 R.1, ↓kr80 R.1, ↓kr81 R.1, ↓kr82 R.1, ↓kr83 R.1, ↓kr84 R.1, ↓kr85 R.1, ↓kr86 R.1, ↓kr87 R.1, ↓kr88 R.1, ↓kr89 R.1, ↓kr90 R.1, ↓kr91 R.1, ↓kr92 R.1, ↓kr93 R.1, ↓kr94 R.1, ↓kr95 R.1, ↓kr96 R.1, ↓kr97 R.1, ↓kr98 R.1, ↓kr99 R.1, ↓kr100 R.1, ↓kr101 R.1, ↓kr102 R.1, ↓kr103 R.1, ↓kr104 R.1, ↓kr105 R.1, ↓kr106 R.1, ↓kr107 R.1, ↓kr108 R.1, ↓kr109 R.1, ↓kr110 R.1, ↓kx0 R, ↓kx1 R, ↓kx2 R, ↓kx3 R, ↓kx4 R, ↓kx5 R, ↓kx6 R, ↓kx7 R, ↓kx8 R, ↓kx9 R, ↓kx10 R, ↓kx11 R, ↓kx1m R, ↓kx9m R, ↓kx10m R, ↓reduceIte, hU.2.1, if_true, if_false, Option.bind_some, b2_some, il0, il1, il2, il3, il4, il5, il6, il7, il8, il9, il10, il11, il12, il13, il14, il15, il16, il17, il18, il19, il20, il21, il22, il23, il24, il25, il26, il27, il28, il29, il30, il31, il32, il33, il36, il38, il39, il40, il41, il48, il50, il51, il57, il59, il60, il61, il62, il63, il70, il96, il99, il100, il101, il102, il103, il104, il105, il106, il107, il108, il109, il110, il111, il112, il115, il116, il120, il121, il124, il200, il240, il255, il288, il360, il420, il999, il1000, il114292, il152755, il402789, il435589, il463922, il533611, il631470, iz_add, iz_sub, iz_mul, iz_neg, iz_le, iz_lt, iz_eq, hc, ↓kl95 R.1, toN, ti, ↓ks79 R.1]
    exact e'
theorem m_club_132 (w : WF V) (hN : 200 ≤ N) {s : Nat} (hs : s < 256) {t : Int} (ht : 0 ≤ t ∧ t < vT V) : ∀ (d i n : Nat) (h : Mem), i + d = vF V → d < n → RepM h (mv V s t (vF V)) → TW h V → ∃ h', f_X10_isClub_132 N n 71 (iz (s : Int)) (iz t) (iz (bi (gateB V s t (vF V) && raiseB V s t i))) (iz (i : Int)) h = some (iz (bi (wouldB V s t)), h') ∧ RepM h' V ∧ FM SR h h' := by
  intro d
  have hF := w.F
  have hT := w.T
  have tf := mv_TF (V := V) (s := s) (t := t) (vF V)
  have wm := mv_wf w (s := s) ht (vF V)
  have h3 : ¬ ((1 : Int) = 0) := by decide
  have fin : ∀ (h : Mem), RepM h (mv V s t (vF V)) → TW h V → ∃ h', f_X10_isClub_184 N 71 (iz (bi (wouldB V s t))) h = some (iz (bi (wouldB V s t)), h') ∧ RepM h' V ∧ FM SR h h' := by
    intro h R tw
    exact m_club_187 w (vF V) 0 N h _ (by omega) (by omega) R ⟨tf.1, tf.2.1, tf.2.2.1, tf.2.2.2⟩ (fun j hj => mv_out (vF V) j (by omega)) tw
  induction d with
  | zero =>
    intro i n h hi hn R tw
    obtain ⟨n, rfl⟩ : ∃ k, n = k + 1 := ⟨n - 1, by omega⟩
    obtain rfl : i = vF V := by omega
    obtain ⟨h', e', r⟩ := fin h R tw
    refine ⟨h', ?_, r⟩
    rw [f_X10_isClub_132]
    simp (disch := omega) only [↓kmC R.1, ↓kmT R, ↓kmF R, ↓kmM R, ↓kmD R, ↓kmP R, ↓kr72 R.1, ↓kr73 R.1, ↓kr74 R.1, ↓kr75 R.1, ↓kr76 R.1, ↓kr77 R.1, ↓kr78 R.1, ↓kr79 R.1, ↓kr80 R.1, ↓kr81 R.1, ↓kr82 R.1, ↓kr83 R.1, ↓kr84 R.1, ↓kr85 R.1, ↓kr86 R.1, ↓kr87 R.1, ↓kr88 R.1, ↓kr89 R.1, ↓kr90 R.1, ↓kr91 R.1, ↓kr92 R.1, ↓kr93 R.1, ↓kr94 R.1, ↓kr95 R.1, ↓kr96 R.1, ↓kr97 R.1, ↓kr98 R.1, ↓kr99 R.1, ↓kr100 R.1, ↓kr101 R.1, ↓kr102 R.1, ↓kr103 R.1, ↓kr104 R.1, ↓kr105 R.1, ↓kr106 R.1, ↓kr107 R.1, ↓kr108 R.1, ↓kr109 R.1, ↓kr110 R.1, ↓kx0 R, ↓kx1 R, ↓kx2 R, ↓kx3 R, ↓kx4 R, ↓kx5 R, ↓kx6 R, ↓kx7 R, ↓kx8 R, ↓kx9 R, ↓kx10 R, ↓kx11 R, ↓kx1m R, ↓kx9m R, ↓kx10m R, ↓reduceIte, tf.2.1, if_true, if_false, Option.bind_some, b2_some, il0, il1, il2, il3, il4, il5, il6, il7, il8, il9, il10, il11, il12, il13, il14, il15, il16, il17, il18, il19, il20, il21, il22, il23, il24, il25, il26, il27, il28, il29, il30, il31, il32, il33, il36, il38, il39, il40, il41, il48, il50, il51, il57, il59, il60, il61, il62, il63, il70, il96, il99, il100, il101, il102, il103, il104, il105, il106, il107, il108, il109, il110, il111, il112, il115, il116, il120, il121, il124, il200, il240, il255, il288, il360, il420, il999, il1000, il114292, il152755, il402789, il435589, il463922, il533611, il631470, iz_add, iz_sub, iz_mul, iz_neg, iz_le, iz_lt, iz_eq, Int.le_refl]
    exact e'
  | succ d ih =>
    intro i n h hi hn R tw
    obtain ⟨n, rfl⟩ : ∃ k, n = k + 1 := ⟨n - 1, by omega⟩
    have hc : ¬ ((vF V : Int) ≤ i) := by omega
    rw [f_X10_isClub_132]
    have hb := bt_dec s hs i (by omega)
    unfold f_X10_isClub_172 f_X10_isClub_177
    cases hq : (gateB V s t (vF V) && raiseB V s t i) with
    | false =>
      have hw0 : wouldB V s t = false := by
        unfold wouldB
        cases hg : gateB V s t (vF V) with
        | false => rfl
        | true =>
          rw [hg, Bool.true_and] at hq
          rw [raise_f (vF V - i) i (vF V) (by omega) hq]
          rfl
      obtain ⟨h', e', r⟩ := fin h R tw
      refine ⟨h', ?_, r⟩
      rw [hw0] at e' ⊢
      simp (disch := omega) only [↓kmC R.1, ↓kmT R, ↓kmF R, ↓kmM R, ↓kmD R, ↓kmP R, ↓kr72 R.1, ↓kr73 R.1, ↓kr74 R.1, ↓kr75 R.1, ↓kr76 R.1, ↓kr77 R.1, ↓kr78 R.1, ↓kr79 R.1, ↓kr80 R.1, ↓kr81 R.1, ↓kr82 R.1, ↓kr83 R.1, ↓kr84 R.1, ↓kr85 R.1, ↓kr86 R.1, ↓kr87 R.1, ↓kr88 R.1, ↓kr89 R.1, ↓kr90 R.1, ↓kr91 R.1, ↓kr92 R.1, ↓kr93 R.1, ↓kr94 R.1, ↓kr95 R.1, ↓kr96 R.1, ↓kr97 R.1, ↓kr98 R.1, ↓kr99 R.1, ↓kr100 R.1, ↓kr101 R.1, ↓kr102 R.1, ↓kr103 R.1, ↓kr104 R.1, ↓kr105 R.1, ↓kr106 R.1, ↓kr107 R.1, ↓kr108 R.1, ↓kr109 R.1, ↓kr110 R.1, ↓kx0 R, ↓kx1 R, ↓kx2 R, ↓kx3 R, ↓kx4 R, ↓kx5 R, ↓kx6 R, ↓kx7 R, ↓kx8 R, ↓kx9 R, ↓kx10 R, ↓kx11 R, ↓kx1m R, ↓kx9m R, ↓kx10m R, ↓reduceIte, tf.2.1, if_true, if_false, Option.bind_some, b2_some, il0, il1, il2, il3, il4, il5, il6, il7, il8, il9, il10, il11, il12, il13, il14, il15, il16, il17, il18, il19, il20, il21, il22, il23, il24, il25, il26, il27, il28, il29, il30, il31, il32, il33, il36, il38, il39, il40, il41, il48, il50, il51, il57, il59, il60, il61, il62, il63, il70, il96, il99, il100, il101, il102, il103, il104, il105, il106, il107, il108, il109, il110, il111, il112, il115, il116, il120, il121, il124, il200, il240, il255, il288, il360, il420, il999, il1000, il114292, il152755, il402789, il435589, il463922, il533611, il631470, iz_add, iz_sub, iz_mul, iz_neg, iz_le, iz_lt, iz_eq, hc, bi_f]
      exact e'
    | true =>
      have hg : gateB V s t (vF V) = true := by
        cases z : gateB V s t (vF V) with
        | true => rfl
        | false => rw [z] at hq; cases hq
      have hr : raiseB V s t i = true := by rw [hg, Bool.true_and] at hq; exact hq
      cases hbt : bt s i with
      | false =>
        rw [hbt] at hb
        obtain ⟨h', e', r⟩ := ih (i + 1) n h (by omega) (by omega) R tw
        have e1 : (gateB V s t (vF V) && raiseB V s t (i + 1)) = true := by rw [raise_s, hg, hr, hbt]; rfl
        rw [e1] at e'
        refine ⟨h', ?_, r⟩
        simp (disch := omega) only [↓kmC R.1, ↓kmT R, ↓kmF R, ↓kmM R, ↓kmD R, ↓kmP R, ↓kr72 R.1, ↓kr73 R.1, ↓kr74 R.1, ↓kr75 R.1, ↓kr76 R.1, ↓kr77 R.1, ↓kr78 R.1, ↓kr79 R.1, ↓kr80 R.1, ↓kr81 R.1, ↓kr82 R.1, ↓kr83 R.1, ↓kr84 R.1, ↓kr85 R.1, ↓kr86 R.1, ↓kr87 R.1, ↓kr88 R.1, ↓kr89 R.1, ↓kr90 R.1, ↓kr91 R.1, ↓kr92 R.1, ↓kr93 R.1, ↓kr94 R.1, ↓kr95 R.1, ↓kr96 R.1, ↓kr97 R.1, ↓kr98 R.1, ↓kr99 R.1, ↓kr100 R.1, ↓kr101 R.1, ↓kr102 R.1, ↓kr103 R.1, ↓kr104 R.1, ↓kr105 R.1, ↓kr106 R.1, ↓kr107 R.1, ↓kr108 R.1, ↓kr109 R.1, ↓kr110 R.1, ↓kx0 R, ↓kx1 R, ↓kx2 R, ↓kx3 R, ↓kx4 R, ↓kx5 R, ↓kx6 R, ↓kx7 R, ↓kx8 R, ↓kx9 R, ↓kx10 R, ↓kx11 R, ↓kx1m R, ↓kx9m R, ↓kx10m R, ↓reduceIte, tf.2.1, if_true, if_false, Option.bind_some, b2_some, il0, il1, il2, il3, il4, il5, il6, il7, il8, il9, il10, il11, il12, il13, il14, il15, il16, il17, il18, il19, il20, il21, il22, il23, il24, il25, il26, il27, il28, il29, il30, il31, il32, il33, il36, il38, il39, il40, il41, il48, il50, il51, il57, il59, il60, il61, il62, il63, il70, il96, il99, il100, il101, il102, il103, il104, il105, il106, il107, il108, il109, il110, il111, il112, il115, il116, il120, il121, il124, il200, il240, il255, il288, il360, il420, il999, il1000, il114292, il152755, il402789, il435589, il463922, il533611, il631470, iz_add, iz_sub, iz_mul, iz_neg, iz_le, iz_lt, iz_eq, hc, bi_t, h3, hb, bi_f]
        exact e'
      | true =>
        rw [hbt] at hb
        obtain ⟨h1, e1, R1, F1⟩ := m_worth R wm hN (f := i) (t := t) (by rw [tf.2.1]; omega) (by omega)
        have tw1 := tw.fm F1
        have t96 := (tw1 i (by omega)).2
        have hb1 := worth_bd wm (f := i) (t := t) (by omega) (by omega)
        have hb2 := worth_bd w (f := i) (t := va V 7 i) (by omega) (by have := w.f (j := i) (by omega) (by omega); omega)
        by_cases c : worth (mv V s t (vF V)) i t ≤ worth V i (va V 7 i)
        · have er : (gateB V s t (vF V) && raiseB V s t (i + 1)) = false := by rw [raise_s, hg, hr, hbt, decide_eq_false (by omega)]; rfl
          obtain ⟨h', e', R', F'⟩ := ih (i + 1) n h1 (by omega) (by omega) R1 tw1
          rw [er] at e'
          refine ⟨h', ?_, R', (F1.mono SP_SR).tr F'⟩
          simp (disch := omega) only [↓kmC R.1, ↓kmT R, ↓kmF R, ↓kmM R, ↓kmD R, ↓kmP R, ↓kr72 R.1, ↓kr73 R.1, ↓kr74 R.1, ↓kr75 R.1, ↓kr76 R.1, ↓kr77 R.1, ↓kr78 R.1, ↓kr79 R.1, ↓kr80 R.1, ↓kr81 R.1, ↓kr82 R.1, ↓kr83 R.1, ↓kr84 R.1, ↓kr85 R.1, ↓kr86 R.1, ↓kr87 R.1, ↓kr88 R.1, ↓kr89 R.1, ↓kr90 R.1, ↓kr91 R.1, ↓kr92 R.1, ↓kr93 R.1, ↓kr94 R.1, ↓kr95 R.1, ↓kr96 R.1, ↓kr97 R.1, ↓kr98 R.1, ↓kr99 R.1, ↓kr100 R.1, ↓kr101 R.1, ↓kr102 R.1, ↓kr103 R.1, ↓kr104 R.1, ↓kr105 R.1, ↓kr106 R.1, ↓kr107 R.1, ↓kr108 R.1, ↓kr109 R.1, ↓kr110 R.1, ↓kx0 R, ↓kx1 R, ↓kx2 R, ↓kx3 R, ↓kx4 R, ↓kx5 R, ↓kx6 R, ↓kx7 R, ↓kx8 R, ↓kx9 R, ↓kx10 R, ↓kx11 R, ↓kx1m R, ↓kx9m R, ↓kx10m R, ↓reduceIte, tf.2.1, if_true, if_false, Option.bind_some, b2_some, il0, il1, il2, il3, il4, il5, il6, il7, il8, il9, il10, il11, il12, il13, il14, il15, il16, il17, il18, il19, il20, il21, il22, il23, il24, il25, il26, il27, il28, il29, il30, il31, il32, il33, il36, il38, il39, il40, il41, il48, il50, il51, il57, il59, il60, il61, il62, il63, il70, il96, il99, il100, il101, il102, il103, il104, il105, il106, il107, il108, il109, il110, il111, il112, il115, il116, il120, il121, il124, il200, il240, il255, il288, il360, il420, il999, il1000, il114292, il152755, il402789, il435589, il463922, il533611, il631470, iz_add, iz_sub, iz_mul, iz_neg, iz_le, iz_lt, iz_eq, hc, bi_t, h3, hb, ↓bq e1, ↓kr96 R1.1, ↓kl96 R1.1, toN, t96, lcmp_le, c]
          exact e'
        · have er : (gateB V s t (vF V) && raiseB V s t (i + 1)) = true := by rw [raise_s, hg, hr, hbt, decide_eq_true (by omega)]; rfl
          obtain ⟨h', e', R', F'⟩ := ih (i + 1) n h1 (by omega) (by omega) R1 tw1
          rw [er] at e'
          refine ⟨h', ?_, R', (F1.mono SP_SR).tr F'⟩
          simp (disch := omega) only [↓kmC R.1, ↓kmT R, ↓kmF R, ↓kmM R, ↓kmD R, ↓kmP R, ↓kr72 R.1, ↓kr73 R.1, ↓kr74 R.1, ↓kr75 R.1, ↓kr76 R.1, ↓kr77 R.1, ↓kr78 R.1, ↓kr79 R.1, ↓kr80 R.1, ↓kr81 R.1, ↓kr82 R.1, ↓kr83 R.1, ↓kr84 R.1, ↓kr85 R.1, ↓kr86 R.1, ↓kr87 R.1, ↓kr88 R.1, ↓kr89 R.1, ↓kr90 R.1, ↓kr91 R.1, ↓kr92 R.1, ↓kr93 R.1, ↓kr94 R.1, ↓kr95 R.1, ↓kr96 R.1, ↓kr97 R.1, ↓kr98 R.1, ↓kr99 R.1, ↓kr100 R.1, ↓kr101 R.1, ↓kr102 R.1, ↓kr103 R.1, ↓kr104 R.1, ↓kr105 R.1, ↓kr106 R.1, ↓kr107 R.1, ↓kr108 R.1, ↓kr109 R.1, ↓kr110 R.1, ↓kx0 R, ↓kx1 R, ↓kx2 R, ↓kx3 R, ↓kx4 R, ↓kx5 R, ↓kx6 R, ↓kx7 R, ↓kx8 R, ↓kx9 R, ↓kx10 R, ↓kx11 R, ↓kx1m R, ↓kx9m R, ↓kx10m R, ↓reduceIte, tf.2.1, if_true, if_false, Option.bind_some, b2_some, il0, il1, il2, il3, il4, il5, il6, il7, il8, il9, il10, il11, il12, il13, il14, il15, il16, il17, il18, il19, il20, il21, il22, il23, il24, il25, il26, il27, il28, il29, il30, il31, il32, il33, il36, il38, il39, il40, il41, il48, il50, il51, il57, il59, il60, il61, il62, il63, il70, il96, il99, il100, il101, il102, il103, il104, il105, il106, il107, il108, il109, il110, il111, il112, il115, il116, il120, il121, il124, il200, il240, il255, il288, il360, il420, il999, il1000, il114292, il152755, il402789, il435589, il463922, il533611, il631470, iz_add, iz_sub, iz_mul, iz_neg, iz_le, iz_lt, iz_eq, hc, bi_t, h3, hb, ↓bq e1, ↓kr96 R1.1, ↓kl96 R1.1, toN, t96, lcmp_le, c]
          exact e'
theorem m_club_74 (w : WF V) (hN : 200 ≤ N) {s : Nat} (hs : s < 256) {t : Int} (ht : 0 ≤ t ∧ t < vT V) : ∀ (d i n : Nat) (h : Mem), i + d = vF V → d < n → RepM h (mv V s t i) → TW h V → ∃ h', f_X10_isClub_74 N n 71 (iz (s : Int)) (iz t) (iz (bi (gateB V s t i))) (iz (i : Int)) h = some (iz (bi (wouldB V s t)), h') ∧ RepM h' V ∧ FM SR h h' := by
  intro d
  have hF := w.F
  have hT := w.T
  have h3 : ¬ ((1 : Int) = 0) := by decide
  induction d with
  | zero =>
    intro i n h hi hn R tw
    obtain ⟨n, rfl⟩ : ∃ k, n = k + 1 := ⟨n - 1, by omega⟩
    obtain rfl : i = vF V := by omega
    have tf := mv_TF (V := V) (s := s) (t := t) (vF V)
    obtain ⟨h', e', r⟩ := m_club_132 (N := N) w hN hs ht (vF V) 0 N h (by omega) (by omega) R tw
    refine ⟨h', ?_, r⟩
    rw [f_X10_isClub_74]
    rw [show (gateB V s t (vF V) && raiseB V s t 0) = gateB V s t (vF V) from Bool.and_true _] at e'
    simp (disch := omega) only [↓kmC R.1, ↓kmT R, ↓kmF R, ↓kmM R, ↓kmD R, ↓kmP R, ↓kr72 R.1, ↓kr73 R.1, ↓kr74 R.1, ↓kr75 R.1, ↓kr76 R.1, ↓kr77 R.1, ↓kr78 R.1, ↓kr79 R.1, ↓kr80 R.1, ↓kr81 R.1, ↓kr82 R.1, ↓kr83 R.1, ↓kr84 R.1, ↓kr85 R.1, ↓kr86 R.1, ↓kr87 R.1, ↓kr88 R.1, ↓kr89 R.1, ↓kr90 R.1, ↓kr91 R.1, ↓kr92 R.1, ↓kr93 R.1, ↓kr94 R.1, ↓kr95 R.1, ↓kr96 R.1, ↓kr97 R.1, ↓kr98 R.1, ↓kr99 R.1, ↓kr100 R.1, ↓kr101 R.1, ↓kr102 R.1, ↓kr103 R.1, ↓kr104 R.1, ↓kr105 R.1, ↓kr106 R.1, ↓kr107 R.1, ↓kr108 R.1, ↓kr109 R.1, ↓kr110 R.1, ↓kx0 R, ↓kx1 R, ↓kx2 R, ↓kx3 R, ↓kx4 R, ↓kx5 R, ↓kx6 R, ↓kx7 R, ↓kx8 R, ↓kx9 R, ↓kx10 R, ↓kx11 R, ↓kx1m R, ↓kx9m R, ↓kx10m R, ↓reduceIte, tf.2.1, if_true, if_false, Option.bind_some, b2_some, il0, il1, il2, il3, il4, il5, il6, il7, il8, il9, il10, il11, il12, il13, il14, il15, il16, il17, il18, il19, il20, il21, il22, il23, il24, il25, il26, il27, il28, il29, il30, il31, il32, il33, il36, il38, il39, il40, il41, il48, il50, il51, il57, il59, il60, il61, il62, il63, il70, il96, il99, il100, il101, il102, il103, il104, il105, il106, il107, il108, il109, il110, il111, il112, il115, il116, il120, il121, il124, il200, il240, il255, il288, il360, il420, il999, il1000, il114292, il152755, il402789, il435589, il463922, il533611, il631470, iz_add, iz_sub, iz_mul, iz_neg, iz_le, iz_lt, iz_eq, Int.le_refl]
    exact e'
  | succ d ih =>
    intro i n h hi hn R tw
    obtain ⟨n, rfl⟩ : ∃ k, n = k + 1 := ⟨n - 1, by omega⟩
    have hc : ¬ ((vF V : Int) ≤ i) := by omega
    have tf := mv_TF (V := V) (s := s) (t := t) i
    have wm := mv_wf w (s := s) ht i
    rw [f_X10_isClub_74]
    have hb := bt_dec s hs i (by omega)
    unfold f_X10_isClub_113 f_X10_isClub_114
    cases hbt : bt s i with
    | false =>
      rw [hbt] at hb
      obtain ⟨h', e', r⟩ := ih (i + 1) n h (by omega) (by omega) (by rw [mv, if_neg (by rw [hbt]; decide)]; exact R) tw
      have e1 : gateB V s t (i + 1) = gateB V s t i := by rw [gate_s, hbt]; exact Bool.and_true _
      rw [e1] at e'
      refine ⟨h', ?_, r⟩
      simp (disch := omega) only [↓kmC R.1, ↓kmT R, ↓kmF R, ↓kmM R, ↓kmD R, ↓kmP R, ↓kr72 R.1, ↓kr73 R.1, ↓kr74 R.1, ↓kr75 R.1, ↓kr76 R.1, ↓kr77 R.1, ↓kr78 R.1, ↓kr79 R.1, ↓kr80 R.1, ↓kr81 R.1, ↓kr82 R.1, ↓kr83 R.1, ↓kr84 R.1, ↓kr85 R.1, ↓kr86 R.1, ↓kr87 R.1, ↓kr88 R.1, ↓kr89 R.1, ↓kr90 R.1, ↓kr91 R.1, ↓kr92 R.1, ↓kr93 R.1, ↓kr94 R.1, ↓kr95 R.1, ↓kr96 R.1, ↓kr97 R.1, ↓kr98 R.1, ↓kr99 R.1, ↓kr100 R.1, ↓kr101 R.1, ↓kr102 R.1, ↓kr103 R.1, ↓kr104 R.1, ↓kr105 R.1, ↓kr106 R.1, ↓kr107 R.1, ↓kr108 R.1, ↓kr109 R.1, ↓kr110 R.1, ↓kx0 R, ↓kx1 R, ↓kx2 R, ↓kx3 R, ↓kx4 R, ↓kx5 R, ↓kx6 R, ↓kx7 R, ↓kx8 R, ↓kx9 R, ↓kx10 R, ↓kx11 R, ↓kx1m R, ↓kx9m R, ↓kx10m R, ↓reduceIte, tf.2.1, if_true, if_false, Option.bind_some, b2_some, il0, il1, il2, il3, il4, il5, il6, il7, il8, il9, il10, il11, il12, il13, il14, il15, il16, il17, il18, il19, il20, il21, il22, il23, il24, il25, il26, il27, il28, il29, il30, il31, il32, il33, il36, il38, il39, il40, il41, il48, il50, il51, il57, il59, il60, il61, il62, il63, il70, il96, il99, il100, il101, il102, il103, il104, il105, il106, il107, il108, il109, il110, il111, il112, il115, il116, il120, il121, il124, il200, il240, il255, il288, il360, il420, il999, il1000, il114292, il152755, il402789, il435589, il463922, il533611, il631470, iz_add, iz_sub, iz_mul, iz_neg, iz_le, iz_lt, iz_eq, hc, hb, bi_f]
      exact e'
    | true =>
      rw [hbt] at hb
      have R1 := R.set (k := 7) (j := i) (x := t) (by omega) (by omega)
      have R1' : RepM (wr h 79 (upd (h.2.1 79) i (iz t))) (mv V s t (i + 1)) := by rw [mv, if_pos hbt]; exact R1
      have tw1 : TW (wr h 79 (upd (h.2.1 79) i (iz t))) V := fun j hj' => ⟨by rw [wr_ne (by decide)]; exact (tw j hj').1, (tw j hj').2⟩
      obtain ⟨h', e', R', F'⟩ := ih (i + 1) n _ (by omega) (by omega) R1' tw1
      refine ⟨h', ?_, R', (FM.wr_ (by decide) (by decide)).tr F'⟩
      cases hg : gateB V s t i with
      | false =>
        rw [gate_s, hg, Bool.false_and] at e'
        simp (disch := omega) only [↓kmC R.1, ↓kmT R, ↓kmF R, ↓kmM R, ↓kmD R, ↓kmP R, ↓kr72 R.1, ↓kr73 R.1, ↓kr74 R.1, ↓kr75 R.1, ↓kr76 R.1, ↓kr77 R.1, ↓kr78 R.1, ↓kr79 R.1, ↓kr80 R.1, ↓kr81 R.1, ↓kr82 R.1, ↓kr83 R.1, ↓kr84 R.1, ↓kr85 R.1, ↓kr86 R.1, ↓kr87 R.1, ↓kr88 R.1, ↓kr89 R.1, ↓kr90 R.1, ↓kr91 R.1, ↓kr92 R.1, ↓kr93 R.1, ↓kr94 R.1, ↓kr95 R.1, ↓kr96 R.1, ↓kr97 R.1, ↓kr98 R.1, ↓kr99 R.1, ↓kr100 R.1, ↓kr101 R.1, ↓kr102 R.1, ↓kr103 R.1, ↓kr104 R.1, ↓kr105 R.1, ↓kr106 R.1, ↓kr107 R.1, ↓kr108 R.1, ↓kr109 R.1, ↓kr110 R.1, ↓kx0 R, ↓kx1 R, ↓kx2 R, ↓kx3 R, ↓kx4 R, ↓kx5 R, ↓kx6 R, ↓kx7 R, ↓kx8 R, ↓kx9 R, ↓kx10 R, ↓kx11 R, ↓kx1m R, ↓kx9m R, ↓kx10m R, ↓reduceIte, tf.2.1, if_true, if_false, Option.bind_some, b2_some, il0, il1, il2, il3, il4, il5, il6, il7, il8, il9, il10, il11, il12, il13, il14, il15, il16, il17, il18, il19, il20, il21, il22, il23, il24, il25, il26, il27, il28, il29, il30, il31, il32, il33, il36, il38, il39, il40, il41, il48, il50, il51, il57, il59, il60, il61, il62, il63, il70, il96, il99, il100, il101, il102, il103, il104, il105, il106, il107, il108, il109, il110, il111, il112, il115, il116, il120, il121, il124, il200, il240, il255, il288, il360, il420, il999, il1000, il114292, il152755, il402789, il435589, il463922, il533611, il631470, iz_add, iz_sub, iz_mul, iz_neg, iz_le, iz_lt, iz_eq, hc, hb, bi_f, bi_t, h3, ↓ks79 R.1, toN]
        exact e'
      | true =>
        have hh := m_hind (N := N) R wm (f := i) (t := t) (by omega) (by omega)
        rw [tf.2.2.2 3 (by decide), tf.2.2.2 6 (by decide)] at hh
        rw [gate_s, hg, hbt] at e'
        by_cases c : va V 3 t ≤ va V 6 i
        · rw [decide_eq_true c] at hh e'
          simp (disch := omega) only [↓kmC R.1, ↓kmT R, ↓kmF R, ↓kmM R, ↓kmD R, ↓kmP R, ↓kr72 R.1, ↓kr73 R.1, ↓kr74 R.1, ↓kr75 R.1, ↓kr76 R.1, ↓kr77 R.1, ↓kr78 R.1, ↓kr79 R.1, ↓kr80 R.1, ↓kr81 R.1, ↓kr82 R.1, ↓kr83 R.1, ↓kr84 R.1, ↓kr85 R.1, ↓kr86 R.1, ↓kr87 R.1, ↓kr88 R.1, ↓kr89 R.1, ↓kr90 R.1, ↓kr91 R.1, ↓kr92 R.1, ↓kr93 R.1, ↓kr94 R.1, ↓kr95 R.1, ↓kr96 R.1, ↓kr97 R.1, ↓kr98 R.1, ↓kr99 R.1, ↓kr100 R.1, ↓kr101 R.1, ↓kr102 R.1, ↓kr103 R.1, ↓kr104 R.1, ↓kr105 R.1, ↓kr106 R.1, ↓kr107 R.1, ↓kr108 R.1, ↓kr109 R.1, ↓kr110 R.1, ↓kx0 R, ↓kx1 R, ↓kx2 R, ↓kx3 R, ↓kx4 R, ↓kx5 R, ↓kx6 R, ↓kx7 R, ↓kx8 R, ↓kx9 R, ↓kx10 R, ↓kx11 R, ↓kx1m R, ↓kx9m R, ↓kx10m R, ↓reduceIte, tf.2.1, if_true, if_false, Option.bind_some, b2_some, il0, il1, il2, il3, il4, il5, il6, il7, il8, il9, il10, il11, il12, il13, il14, il15, il16, il17, il18, il19, il20, il21, il22, il23, il24, il25, il26, il27, il28, il29, il30, il31, il32, il33, il36, il38, il39, il40, il41, il48, il50, il51, il57, il59, il60, il61, il62, il63, il70, il96, il99, il100, il101, il102, il103, il104, il105, il106, il107, il108, il109, il110, il111, il112, il115, il116, il120, il121, il124, il200, il240, il255, il288, il360, il420, il999, il1000, il114292, il152755, il402789, il435589, il463922, il533611, il631470, iz_add, iz_sub, iz_mul, iz_neg, iz_le, iz_lt, iz_eq, hc, hb, bi_f, bi_t, h3, ↓bq hh, Bool.not_true, ↓ks79 R.1, toN]
          exact e'
        · rw [decide_eq_false c] at hh e'
          simp (disch := omega) only [↓kmC R.1, ↓kmT R, ↓kmF R, ↓kmM R, ↓kmD R, ↓kmP R, ↓kr72 R.1, ↓kr73 R.1, ↓kr74 R.1, ↓kr75 R.1, ↓kr76 R.1, ↓kr77 R.1, ↓kr78 R.1, ↓kr79 R.1, ↓kr80 R.1, ↓kr81 R.1, ↓kr82 R.1, ↓kr83 R.1, ↓kr84 R.1, ↓kr85 R.1, ↓kr86 R.1, ↓kr87 R.1, ↓kr88 R.1, ↓kr89 R.1, ↓kr90 R.1, ↓kr91 R.1, ↓kr92 R.1, ↓kr93 R.1, ↓kr94 R.1, ↓kr95 R.1, ↓kr96 R.1, ↓kr97 R.1, ↓kr98 R.1, ↓kr99 R.1, ↓kr100 R.1, ↓kr101 R.1, ↓kr102 R.1, ↓kr103 R.1, ↓kr104 R.1, ↓kr105 R.1, ↓kr106 R.1, ↓kr107 R.1, ↓kr108 R.1, ↓kr109 R.1, ↓kr110 R.1, ↓kx0 R, ↓kx1 R, ↓kx2 R, ↓kx3 R, ↓kx4 R, ↓kx5 R, ↓kx6 R, ↓kx7 R, ↓kx8 R, ↓kx9 R, ↓kx10 R, ↓kx11 R, ↓kx1m R, ↓kx9m R, ↓kx10m R, ↓reduceIte, tf.2.1, if_true, if_false, Option.bind_some, b2_some, il0, il1, il2, il3, il4, il5, il6, il7, il8, il9, il10, il11, il12, il13, il14, il15, il16, il17, il18, il19, il20, il21, il22, il23, il24, il25, il26, il27, il28, il29, il30, il31, il32, il33, il36, il38, il39, il40, il41, il48, il50, il51, il57, il59, il60, il61, il62, il63, il70, il96, il99, il100, il101, il102, il103, il104, il105, il106, il107, il108, il109, il110, il111, il112, il115, il116, il120, il121, il124, il200, il240, il255, il288, il360, il420, il999, il1000, il114292, il152755, il402789, il435589, il463922, il533611, il631470, iz_add, iz_sub, iz_mul, iz_neg, iz_le, iz_lt, iz_eq, hc, hb, bi_f, bi_t, h3, ↓bq hh, Bool.not_false, ↓ks79 R.1, toN]
          exact e'
theorem m_club_26 (w : WF V) (hN : 200 ≤ N) {s : Nat} (hs : s < 256) {t : Int} (ht : 0 ≤ t ∧ t < vT V) : ∀ (d i n : Nat) (h : Mem), i + d = vF V → d < n → RepM h V → (∀ j : Nat, j < i → h.2.1 95 j = iz (va V 7 j) ∧ h.2.2.1 96 j = lz (worth V j (va V 7 j))) → ∃ h', f_X10_isClub_26 N n 71 (iz (s : Int)) (iz t) (iz (i : Int)) h = some (iz (bi (wouldB V s t)), h') ∧ RepM h' V ∧ FM SR h h' := by
  intro d
  have hF := w.F
  have hT := w.T
  induction d with
  | zero =>
    intro i n h hi hn R tw
    obtain ⟨n, rfl⟩ : ∃ k, n = k + 1 := ⟨n - 1, by omega⟩
    rw [f_X10_isClub_26]
    obtain rfl : i = vF V := by omega
    obtain ⟨h', e', r⟩ := m_club_74 (N := N) w hN hs ht (vF V) 0 N h (by omega) (by omega) R tw
    refine ⟨h', ?_, r⟩
    simp (disch := omega) only [↓kmC R.1, ↓kmT R, ↓kmF R, ↓kmM R, ↓kmD R, ↓kmP R, ↓kr72 R.1, ↓kr73 R.1, ↓kr74 R.1, ↓kr75 R.1, ↓kr76 R.1, ↓kr77 R.1, ↓kr78 R.1, ↓kr79 R.1, ↓kr80 R.1, ↓kr81 R.1, ↓kr82 R.1, ↓kr83 R.1, ↓kr84 R.1, ↓kr85 R.1, ↓kr86 R.1, ↓kr87 R.1, ↓kr88 R.1, ↓kr89 R.1, ↓kr90 R.1, ↓kr91 R.1, ↓kr92 R.1, ↓kr93 R.1, ↓kr94 R.1, ↓kr95 R.1, ↓kr96 R.1, ↓kr97 R.1, ↓kr98 R.1, ↓kr99 R.1, ↓kr100 R.1, ↓kr101 R.1, ↓kr102 R.1, ↓kr103 R.1, ↓kr104 R.1, ↓kr105 R.1, ↓kr106 R.1, ↓kr107 R.1, ↓kr108 R.1, ↓kr109 R.1, ↓kr110 R.1, ↓kx0 R, ↓kx1 R, ↓kx2 R, ↓kx3 R, ↓kx4 R, ↓kx5 R, ↓kx6 R, ↓kx7 R, ↓kx8 R, ↓kx9 R, ↓kx10 R, ↓kx11 R, ↓kx1m R, ↓kx9m R, ↓kx10m R, ↓reduceIte, if_true, if_false, Option.bind_some, b2_some, il0, il1, il2, il3, il4, il5, il6, il7, il8, il9, il10, il11, il12, il13, il14, il15, il16, il17, il18, il19, il20, il21, il22, il23, il24, il25, il26, il27, il28, il29, il30, il31, il32, il33, il36, il38, il39, il40, il41, il48, il50, il51, il57, il59, il60, il61, il62, il63, il70, il96, il99, il100, il101, il102, il103, il104, il105, il106, il107, il108, il109, il110, il111, il112, il115, il116, il120, il121, il124, il200, il240, il255, il288, il360, il420, il999, il1000, il114292, il152755, il402789, il435589, il463922, il533611, il631470, iz_add, iz_sub, iz_mul, iz_neg, iz_le, iz_lt, iz_eq, Int.le_refl]
    exact e'
  | succ d ih =>
    intro i n h hi hn R tw
    obtain ⟨n, rfl⟩ : ∃ k, n = k + 1 := ⟨n - 1, by omega⟩
    rw [f_X10_isClub_26]
    have hc : ¬ ((vF V : Int) ≤ i) := by omega
    have hwf := w.f (j := i) (by omega) (by omega)
    have hwi := w.i (j := i) (by omega) (by omega)
    have R1 : RepM (wr h 95 (upd (h.2.1 95) i (iz (va V 7 i)))) V := R.wr_ ⟨by decide, by decide⟩
    obtain ⟨h2, e2, R2, F2⟩ := m_worth R1 w hN (f := i) (t := va V 7 i) (by omega) (by omega)
    have R3 : RepM (wJ h2 96 (fun j => if j = i then lz (worth V i (va V 7 i)) else h2.2.2.1 96 j)) V := R2.wJ_
    obtain ⟨h', e', R', F'⟩ := ih (i + 1) n _ (by omega) (by omega) R3 (fun j hj => by
      refine ⟨?_, ?_⟩
      · show h2.2.1 95 j = _
        rw [F2.2.2.2.1 95 (by decide) (by decide), wr_eq, upd_at]
        split
        · rename_i q; rw [q]
        · exact (tw j (by omega)).1
      · rw [wJ_eq]
        split
        · rename_i q; rw [q]
        · rw [F2.2.2.1 96 (by decide)]
          exact (tw j (by omega)).2)
    refine ⟨h', ?_, R', (((FM.wr_ (by decide) (by decide)).tr (F2.mono SP_SR)).tr (FM.wJ_ (by decide))).tr F'⟩
    simp (disch := omega) only [↓kmC R.1, ↓kmT R, ↓kmF R, ↓kmM R, ↓kmD R, ↓kmP R, ↓kr72 R.1, ↓kr73 R.1, ↓kr74 R.1, ↓kr75 R.1, ↓kr76 R.1, ↓kr77 R.1, ↓kr78 R.1, ↓kr79 R.1, ↓kr80 R.1, ↓kr81 R.1, ↓kr82 R.1, ↓kr83 R.1, ↓kr84 R.1, ↓kr85 R.1, ↓kr86 R.1, ↓kr87 R.1, ↓kr88 R.1, ↓kr89 R.1, ↓kr90 R.1, ↓kr91 R.1, ↓kr92 R.1, ↓kr93 R.1, ↓kr94 R.1, ↓kr95 R.1, ↓kr96 R.1, ↓kr97 R.1, ↓kr98 R.1, ↓kr99 R.1, ↓kr100 R.1, ↓kr101 R.1, ↓kr102 R.1, ↓kr103 R.1, ↓kr104 R.1, ↓kr105 R.1, ↓kr106 R.1, ↓kr107 R.1, ↓kr108 R.1, ↓kr109 R.1, ↓kr110 R.1, ↓kx0 R, ↓kx1 R, ↓kx2 R, ↓kx3 R, ↓kx4 R, ↓kx5 R, ↓kx6 R, ↓kx7 R, ↓kx8 R, ↓kx9 R, ↓kx10 R, ↓kx11 R, ↓kx1m R, ↓kx9m R, ↓kx10m R, ↓reduceIte, if_true, if_false, Option.bind_some, b2_some, il0, il1, il2, il3, il4, il5, il6, il7, il8, il9, il10, il11, il12, il13, il14, il15, il16, il17, il18, il19, il20, il21, il22, il23, il24, il25, il26, il27, il28, il29, il30, il31, il32, il33, il36, il38, il39, il40, il41, il48, il50, il51, il57, il59, il60, il61, il62, il63, il70, il96, il99, il100, il101, il102, il103, il104, il105, il106, il107, il108, il109, il110, il111, il112, il115, il116, il120, il121, il124, il200, il240, il255, il288, il360, il420, il999, il1000, il114292, il152755, il402789, il435589, il463922, il533611, il631470, iz_add, iz_sub, iz_mul, iz_neg, iz_le, iz_lt, iz_eq, hc, ↓ks95 R.1, toN, ↓kmC R1.1, ↓kmT R1, ↓kmF R1, ↓kmM R1, ↓kmD R1, ↓kmP R1, ↓kr72 R1.1, ↓kr73 R1.1, ↓kr74 R1.1, ↓kr75 R1.1, ↓kr76 R1.1, ↓kr77 R1.1, ↓kr78 R1.1, ↓kr79 R1.1, ↓kr80 R1.1, ↓kr81 R1.1, ↓kr82 R1.1, ↓kr83 R1.1, ↓kr84 R1.1, ↓kr85 R1.1, ↓kr86 R1.1, ↓kr87 R1.1, ↓kr88 R1.1, ↓kr89 R1.1, ↓kr90 R1.1, ↓kr91 R1.1, ↓kr92 R1.1, ↓kr93 R1.1, ↓kr94 R1.1, ↓kr95 R1.1, ↓kr96 R1.1, ↓kr97 R1.1, ↓kr98 R1.1, ↓kr99 R1.1, ↓kr100 R1.1, ↓kr101 R1.1, ↓kr102 R1.1, ↓kr103 R1.1, ↓kr104 R1.1, ↓kr105 R1.1, ↓kr106 R1.1, ↓kr107 R1.1, ↓kr108 R1.1, ↓kr109 R1.1, ↓kr110 R1.1, ↓kx0 R1, ↓kx1 R1, ↓kx2 R1, ↓kx3 R1, ↓kx4 R1, ↓kx5 R1, ↓kx6 R1, ↓kx7 R1, ↓kx8 R1, ↓kx9 R1, ↓kx10 R1, ↓kx11 R1, ↓kx1m R1, ↓kx9m R1, ↓kx10m R1, ↓reduceIte, ↓bq e2, ↓ks96 R2.1]
    exact e'
theorem m_isClub (w : WF V) (hN : 200 ≤ N) {s : Nat} (hs : s < 256) {t : Nat} (ht : t < vT V) {h : Mem} (R : RepM h V) : ∃ h', f_X10_isClub N 71 (iz (s : Int)) (iz (t : Int)) h = some (iz (bi (clubP V s t)), h') ∧ RepM h' V ∧ FM SR h h' := by
  have hF := w.F
  have hT := w.T
  have em := m_many (N := N) R w hN (t := t) (by omega)
  have eo := m_ones (N := N) (h := h) hs hN
  have hcb := cnt_bd (V := V) t
  have hp := pc_le s hs
  have h0 := (w.t (j := t) (by omega) (by omega)).1
  unfold f_X10_isClub clubP
  by_cases c1 : 0 < cnt V t
  · rw [decide_eq_false (show ¬ (cnt V t = 0) by omega)]
    refine ⟨h, ?_, R, FM.rf⟩
    simp (disch := omega) only [↓kmC R.1, ↓kmT R, ↓kmF R, ↓kmM R, ↓kmD R, ↓kmP R, ↓kr72 R.1, ↓kr73 R.1, ↓kr74 R.1, ↓kr75 R.1, ↓kr76 R.1, ↓kr77 R.1, ↓kr78 R.1, ↓kr79 R.1, ↓kr80 R.1, ↓kr81 R.1, ↓kr82 R.1, ↓kr83 R.1, ↓kr84 R.1, ↓kr85 R.1, ↓kr86 R.1, ↓kr87 R.1, ↓kr88 R.1, ↓kr89 R.1, ↓kr90 R.1, ↓kr91 R.1, ↓kr92 R.1, ↓kr93 R.1, ↓kr94 R.1, ↓kr95 R.1, ↓kr96 R.1, ↓kr97 R.1, ↓kr98 R.1, ↓kr99 R.1, ↓kr100 R.1, ↓kr101 R.1, ↓kr102 R.1, ↓kr103 R.1, ↓kr104 R.1, ↓kr105 R.1, ↓kr106 R.1, ↓kr107 R.1, ↓kr108 R.1, ↓kr109 R.1, ↓kr110 R.1, ↓kx0 R, ↓kx1 R, ↓kx2 R, ↓kx3 R, ↓kx4 R, ↓kx5 R, ↓kx6 R, ↓kx7 R, ↓kx8 R, ↓kx9 R, ↓kx10 R, ↓kx11 R, ↓kx1m R, ↓kx9m R, ↓kx10m R, ↓reduceIte, if_true, if_false, Option.bind_some, b2_some, il0, il1, il2, il3, il4, il5, il6, il7, il8, il9, il10, il11, il12, il13, il14, il15, il16, il17, il18, il19, il20, il21, il22, il23, il24, il25, il26, il27, il28, il29, il30, il31, il32, il33, il36, il38, il39, il40, il41, il48, il50, il51, il57, il59, il60, il61, il62, il63, il70, il96, il99, il100, il101, il102, il103, il104, il105, il106, il107, il108, il109, il110, il111, il112, il115, il116, il120, il121, il124, il200, il240, il255, il288, il360, il420, il999, il1000, il114292, il152755, il402789, il435589, il463922, il533611, il631470, iz_add, iz_sub, iz_mul, iz_neg, iz_le, iz_lt, iz_eq, ↓bq em, c1, Bool.false_and, bi_f]
  · rw [decide_eq_true (show cnt V t = 0 by omega), Bool.true_and]
    by_cases c2 : (pc s : Int) ≤ va V 0 t
    · rw [decide_eq_true c2, Bool.true_and]
      obtain ⟨h', e', r⟩ := m_club_26 (N := N) w hN hs (t := (t : Int)) (by omega) (vF V) 0 N h (by omega) (by omega) R (fun j hj => by omega)
      refine ⟨h', ?_, r⟩
      simp (disch := omega) only [↓kmC R.1, ↓kmT R, ↓kmF R, ↓kmM R, ↓kmD R, ↓kmP R, ↓kr72 R.1, ↓kr73 R.1, ↓kr74 R.1, ↓kr75 R.1, ↓kr76 R.1, ↓kr77 R.1, ↓kr78 R.1, ↓kr79 R.1, ↓kr80 R.1, ↓kr81 R.1, ↓kr82 R.1, ↓kr83 R.1, ↓kr84 R.1, ↓kr85 R.1, ↓kr86 R.1, ↓kr87 R.1, ↓kr88 R.1, ↓kr89 R.1, ↓kr90 R.1, ↓kr91 R.1, ↓kr92 R.1, ↓kr93 R.1, ↓kr94 R.1, ↓kr95 R.1, ↓kr96 R.1, ↓kr97 R.1, ↓kr98 R.1, ↓kr99 R.1, ↓kr100 R.1, ↓kr101 R.1, ↓kr102 R.1, ↓kr103 R.1, ↓kr104 R.1, ↓kr105 R.1, ↓kr106 R.1, ↓kr107 R.1, ↓kr108 R.1, ↓kr109 R.1, ↓kr110 R.1, ↓kx0 R, ↓kx1 R, ↓kx2 R, ↓kx3 R, ↓kx4 R, ↓kx5 R, ↓kx6 R, ↓kx7 R, ↓kx8 R, ↓kx9 R, ↓kx10 R, ↓kx11 R, ↓kx1m R, ↓kx9m R, ↓kx10m R, ↓reduceIte, if_true, if_false, Option.bind_some, b2_some, il0, il1, il2, il3, il4, il5, il6, il7, il8, il9, il10, il11, il12, il13, il14, il15, il16, il17, il18, il19, il20, il21, il22, il23, il24, il25, il26, il27, il28, il29, il30, il31, il32, il33, il36, il38, il39, il40, il41, il48, il50, il51, il57, il59, il60, il61, il62, il63, il70, il96, il99, il100, il101, il102, il103, il104, il105, il106, il107, il108, il109, il110, il111, il112, il115, il116, il120, il121, il124, il200, il240, il255, il288, il360, il420, il999, il1000, il114292, il152755, il402789, il435589, il463922, il533611, il631470, iz_add, iz_sub, iz_mul, iz_neg, iz_le, iz_lt, iz_eq, ↓bq em, c1, ↓bq eo, c2]
      exact e'
    · rw [decide_eq_false c2]
      refine ⟨h, ?_, R, FM.rf⟩
      simp (disch := omega) only [↓kmC R.1, ↓kmT R, ↓kmF R, ↓kmM R, ↓kmD R, ↓kmP R, ↓kr72 R.1, ↓kr73 R.1, ↓kr74 R.1, ↓kr75 R.1, ↓kr76 R.1, ↓kr77 R.1, ↓kr78 R.1, ↓kr79 R.1, ↓kr80 R.1, ↓kr81 R.1, ↓kr82 R.1, ↓kr83 R.1, ↓kr84 R.1, ↓kr85 R.1, ↓kr86 R.1, ↓kr87 R.1, ↓kr88 R.1, ↓kr89 R.1, ↓kr90 R.1, ↓kr91 R.1, ↓kr92 R.1, ↓kr93 R.1, ↓kr94 R.1, ↓kr95 R.1, ↓kr96 R.1, ↓kr97 R.1, ↓kr98 R.1, ↓kr99 R.1, ↓kr100 R.1, ↓kr101 R.1, ↓kr102 R.1, ↓kr103 R.1, ↓kr104 R.1, ↓kr105 R.1, ↓kr106 R.1, ↓kr107 R.1, ↓kr108 R.1, ↓kr109 R.1, ↓kr110 R.1, ↓kx0 R, ↓kx1 R, ↓kx2 R, ↓kx3 R, ↓kx4 R, ↓kx5 R, ↓kx6 R, ↓kx7 R, ↓kx8 R, ↓kx9 R, ↓kx10 R, ↓kx11 R, ↓kx1m R, ↓kx9m R, ↓kx10m R, ↓reduceIte, if_true, if_false, Option.bind_some, b2_some, il0, il1, il2, il3, il4, il5, il6, il7, il8, il9, il10, il11, il12, il13, il14, il15, il16, il17, il18, il19, il20, il21, il22, il23, il24, il25, il26, il27, il28, il29, il30, il31, il32, il33, il36, il38, il39, il40, il41, il48, il50, il51, il57, il59, il60, il61, il62, il63, il70, il96, il99, il100, il101, il102, il103, il104, il105, il106, il107, il108, il109, il110, il111, il112, il115, il116, il120, il121, il124, il200, il240, il255, il288, il360, il420, il999, il1000, il114292, il152755, il402789, il435589, il463922, il533611, il631470, iz_add, iz_sub, iz_mul, iz_neg, iz_le, iz_lt, iz_eq, ↓bq em, c1, ↓bq eo, c2, Bool.false_and, bi_f]
theorem m_club_31 (w : WF V) (hN : 200 ≤ N) {s : Nat} (hs : s < 256) (hs0 : 0 < s) (k2 : Nat → Int32 → Mem → Option (Int32 × Mem)) : ∀ (d i n : Nat) (h : Mem), i + d = vT V → d < n → RepM h V → ∃ h', (f_X10_clubBreak_31 N n 71 (iz (s : Int)) (iz (i : Int)) h k2 = match fs (clubP V s) i d with
    | some t => some (iz (100 * lo s + t), h')
    | none => k2 71 (iz ((s : Int) + 1)) h') ∧ RepM h' V ∧ FM SR h h' := by
  intro d
  have hT := w.T
  have h3 : ¬ ((1 : Int) = 0) := by decide
  induction d with
  | zero =>
    intro i n h hi hn R
    obtain ⟨n, rfl⟩ : ∃ k, n = k + 1 := ⟨n - 1, by omega⟩
    rw [f_X10_clubBreak_31]
    obtain rfl : i = vT V := by omega
    refine ⟨h, ?_, R, FM.rf⟩
    simp (disch := omega) only [↓kmC R.1, ↓kmT R, ↓kmF R, ↓kmM R, ↓kmD R, ↓kmP R, ↓kr72 R.1, ↓kr73 R.1, ↓kr74 R.1, ↓kr75 R.1, ↓kr76 R.1, ↓kr77 R.1, ↓kr78 R.1, ↓kr79 R.1, ↓kr80 R.1, ↓kr81 R.1, ↓kr82 R.1, ↓kr83 R.1, ↓kr84 R.1, ↓kr85 R.1, ↓kr86 R.1, ↓kr87 R.1, ↓kr88 R.1, ↓kr89 R.1, ↓kr90 R.1, ↓kr91 R.1, ↓kr92 R.1, ↓kr93 R.1, ↓kr94 R.1, ↓kr95 R.1, ↓kr96 R.1, ↓kr97 R.1, ↓kr98 R.1, ↓kr99 R.1, ↓kr100 R.1, ↓kr101 R.1, ↓kr102 R.1, ↓kr103 R.1, ↓kr104 R.1, ↓kr105 R.1, ↓kr106 R.1, ↓kr107 R.1, ↓kr108 R.1, ↓kr109 R.1, ↓kr110 R.1, ↓kx0 R, ↓kx1 R, ↓kx2 R, ↓kx3 R, ↓kx4 R, ↓kx5 R, ↓kx6 R, ↓kx7 R, ↓kx8 R, ↓kx9 R, ↓kx10 R, ↓kx11 R, ↓kx1m R, ↓kx9m R, ↓kx10m R, ↓reduceIte, if_true, if_false, Option.bind_some, b2_some, il0, il1, il2, il3, il4, il5, il6, il7, il8, il9, il10, il11, il12, il13, il14, il15, il16, il17, il18, il19, il20, il21, il22, il23, il24, il25, il26, il27, il28, il29, il30, il31, il32, il33, il36, il38, il39, il40, il41, il48, il50, il51, il57, il59, il60, il61, il62, il63, il70, il96, il99, il100, il101, il102, il103, il104, il105, il106, il107, il108, il109, il110, il111, il112, il115, il116, il120, il121, il124, il200, il240, il255, il288, il360, il420, il999, il1000, il114292, il152755, il402789, il435589, il463922, il533611, il631470, iz_add, iz_sub, iz_mul, iz_neg, iz_le, iz_lt, iz_eq, Int.le_refl]
    rfl
  | succ d ih =>
    intro i n h hi hn R
    obtain ⟨n, rfl⟩ : ∃ k, n = k + 1 := ⟨n - 1, by omega⟩
    rw [f_X10_clubBreak_31]
    have hc : ¬ ((vT V : Int) ≤ i) := by omega
    obtain ⟨h1, e1, R1, F1⟩ := m_isClub (N := N) w hN hs (t := i) (by omega) R
    rw [fs]
    cases hb : clubP V s i with
    | false =>
      rw [hb] at e1
      obtain ⟨h', e', R', F'⟩ := ih (i + 1) n h1 (by omega) (by omega) R1
      refine ⟨h', ?_, R', F1.tr F'⟩
      rw [if_neg (by decide)]
      simp (disch := omega) only [↓kmC R.1, ↓kmT R, ↓kmF R, ↓kmM R, ↓kmD R, ↓kmP R, ↓kr72 R.1, ↓kr73 R.1, ↓kr74 R.1, ↓kr75 R.1, ↓kr76 R.1, ↓kr77 R.1, ↓kr78 R.1, ↓kr79 R.1, ↓kr80 R.1, ↓kr81 R.1, ↓kr82 R.1, ↓kr83 R.1, ↓kr84 R.1, ↓kr85 R.1, ↓kr86 R.1, ↓kr87 R.1, ↓kr88 R.1, ↓kr89 R.1, ↓kr90 R.1, ↓kr91 R.1, ↓kr92 R.1, ↓kr93 R.1, ↓kr94 R.1, ↓kr95 R.1, ↓kr96 R.1, ↓kr97 R.1, ↓kr98 R.1, ↓kr99 R.1, ↓kr100 R.1, ↓kr101 R.1, ↓kr102 R.1, ↓kr103 R.1, ↓kr104 R.1, ↓kr105 R.1, ↓kr106 R.1, ↓kr107 R.1, ↓kr108 R.1, ↓kr109 R.1, ↓kr110 R.1, ↓kx0 R, ↓kx1 R, ↓kx2 R, ↓kx3 R, ↓kx4 R, ↓kx5 R, ↓kx6 R, ↓kx7 R, ↓kx8 R, ↓kx9 R, ↓kx10 R, ↓kx11 R, ↓kx1m R, ↓kx9m R, ↓kx10m R, ↓reduceIte, if_true, if_false, Option.bind_some, b2_some, il0, il1, il2, il3, il4, il5, il6, il7, il8, il9, il10, il11, il12, il13, il14, il15, il16, il17, il18, il19, il20, il21, il22, il23, il24, il25, il26, il27, il28, il29, il30, il31, il32, il33, il36, il38, il39, il40, il41, il48, il50, il51, il57, il59, il60, il61, il62, il63, il70, il96, il99, il100, il101, il102, il103, il104, il105, il106, il107, il108, il109, il110, il111, il112, il115, il116, il120, il121, il124, il200, il240, il255, il288, il360, il420, il999, il1000, il114292, il152755, il402789, il435589, il463922, il533611, il631470, iz_add, iz_sub, iz_mul, iz_neg, iz_le, iz_lt, iz_eq, hc, ↓bq e1, bi_f]
      exact e'
    | true =>
      rw [hb] at e1
      have hl := lo_le s hs hs0
      have el := m_least (N := N) (h := h1) hs hs0 (t := i) (lo s) 0 N (by omega) (by omega)
      refine ⟨h1, ?_, R1, F1⟩
      rw [if_pos rfl]
      simp (disch := omega) only [↓kmC R.1, ↓kmT R, ↓kmF R, ↓kmM R, ↓kmD R, ↓kmP R, ↓kr72 R.1, ↓kr73 R.1, ↓kr74 R.1, ↓kr75 R.1, ↓kr76 R.1, ↓kr77 R.1, ↓kr78 R.1, ↓kr79 R.1, ↓kr80 R.1, ↓kr81 R.1, ↓kr82 R.1, ↓kr83 R.1, ↓kr84 R.1, ↓kr85 R.1, ↓kr86 R.1, ↓kr87 R.1, ↓kr88 R.1, ↓kr89 R.1, ↓kr90 R.1, ↓kr91 R.1, ↓kr92 R.1, ↓kr93 R.1, ↓kr94 R.1, ↓kr95 R.1, ↓kr96 R.1, ↓kr97 R.1, ↓kr98 R.1, ↓kr99 R.1, ↓kr100 R.1, ↓kr101 R.1, ↓kr102 R.1, ↓kr103 R.1, ↓kr104 R.1, ↓kr105 R.1, ↓kr106 R.1, ↓kr107 R.1, ↓kr108 R.1, ↓kr109 R.1, ↓kr110 R.1, ↓kx0 R, ↓kx1 R, ↓kx2 R, ↓kx3 R, ↓kx4 R, ↓kx5 R, ↓kx6 R, ↓kx7 R, ↓kx8 R, ↓kx9 R, ↓kx10 R, ↓kx11 R, ↓kx1m R, ↓kx9m R, ↓kx10m R, ↓reduceIte, if_true, if_false, Option.bind_some, b2_some, il0, il1, il2, il3, il4, il5, il6, il7, il8, il9, il10, il11, il12, il13, il14, il15, il16, il17, il18, il19, il20, il21, il22, il23, il24, il25, il26, il27, il28, il29, il30, il31, il32, il33, il36, il38, il39, il40, il41, il48, il50, il51, il57, il59, il60, il61, il62, il63, il70, il96, il99, il100, il101, il102, il103, il104, il105, il106, il107, il108, il109, il110, il111, il112, il115, il116, il120, il121, il124, il200, il240, il255, il288, il360, il420, il999, il1000, il114292, il152755, il402789, il435589, il463922, il533611, il631470, iz_add, iz_sub, iz_mul, iz_neg, iz_le, iz_lt, iz_eq, hc, ↓bq e1, bi_t, h3]
      exact el
theorem m_club_2 (w : WF V) (hN : 300 ≤ N) {M : Nat} (hM : M ≤ 256) (hsh : iz 1 <<< (iz (vF V) &&& iz 31) = iz (M : Int)) : ∀ (d i n : Nat) (h : Mem), i + d = M → d < n → RepM h V → ∃ h', f_X10_clubBreak_2 N n 71 (iz (i : Int)) h = some (iz (clubT V i d), h') ∧ RepM h' V ∧ FM SR h h' := by
  intro d
  have hT := w.T
  have h3 : ¬ ((1 : Int) = 0) := by decide
  induction d with
  | zero =>
    intro i n h hi hn R
    obtain ⟨n, rfl⟩ : ∃ k, n = k + 1 := ⟨n - 1, by omega⟩
    rw [f_X10_clubBreak_2]
    obtain rfl : i = M := by omega
    refine ⟨h, ?_, R, FM.rf⟩
    simp (disch := omega) only [↓kmC R.1, ↓kmT R, ↓kmF R, ↓kmM R, ↓kmD R, ↓kmP R, ↓kr72 R.1, ↓kr73 R.1, ↓kr74 R.1, ↓kr75 R.1, ↓kr76 R.1, ↓kr77 R.1, ↓kr78 R.1, ↓kr79 R.1, ↓kr80 R.1, ↓kr81 R.1, ↓kr82 R.1, ↓kr83 R.1, ↓kr84 R.1, ↓kr85 R.1, ↓kr86 R.1, ↓kr87 R.1, ↓kr88 R.1, ↓kr89 R.1, ↓kr90 R.1, ↓kr91 R.1, ↓kr92 R.1, ↓kr93 R.1, ↓kr94 R.1, ↓kr95 R.1, ↓kr96 R.1, ↓kr97 R.1, ↓kr98 R.1, ↓kr99 R.1, ↓kr100 R.1, ↓kr101 R.1, ↓kr102 R.1, ↓kr103 R.1, ↓kr104 R.1, ↓kr105 R.1, ↓kr106 R.1, ↓kr107 R.1, ↓kr108 R.1, ↓kr109 R.1, ↓kr110 R.1, ↓kx0 R, ↓kx1 R, ↓kx2 R, ↓kx3 R, ↓kx4 R, ↓kx5 R, ↓kx6 R, ↓kx7 R, ↓kx8 R, ↓kx9 R, ↓kx10 R, ↓kx11 R, ↓kx1m R, ↓kx9m R, ↓kx10m R, ↓reduceIte, if_true, if_false, Option.bind_some, b2_some, il0, il1, il2, il3, il4, il5, il6, il7, il8, il9, il10, il11, il12, il13, il14, il15, il16, il17, il18, il19, il20, il21, il22, il23, il24, il25, il26, il27, il28, il29, il30, il31, il32, il33, il36, il38, il39, il40, il41, il48, il50, il51, il57, il59, il60, il61, il62, il63, il70, il96, il99, il100, il101, il102, il103, il104, il105, il106, il107, il108, il109, il110, il111, il112, il115, il116, il120, il121, il124, il200, il240, il255, il288, il360, il420, il999, il1000, il114292, il152755, il402789, il435589, il463922, il533611, il631470, iz_add, iz_sub, iz_mul, iz_neg, iz_le, iz_lt, iz_eq, hsh, Int.le_refl]
    rfl
  | succ d ih =>
    intro i n h hi hn R
    obtain ⟨n, rfl⟩ : ∃ k, n = k + 1 := ⟨n - 1, by omega⟩
    rw [f_X10_clubBreak_2]
    have hc : ¬ ((M : Int) ≤ i) := by omega
    have eo := m_ones (N := N) (h := h) (s := i) (by omega) (by omega)
    have hp := pc_le i (by omega)
    have ei := m_in (N := N) (h := h) (a := (pc i : Int)) (b := 2) (c := 3) (by omega) (by omega) (by omega) (by omega)
    rw [clubT]
    by_cases h2 : pc i = 2 ∨ pc i = 3
    · rw [if_pos h2]
      rw [if_pos (by omega)] at ei
      have hi0 : 0 < i := by
        rcases Nat.eq_zero_or_pos i with z | z
        · subst z; exact absurd h2 (by decide)
        · exact z
      obtain ⟨h1, e1, R1, F1⟩ := m_club_31 (N := N) w (by omega) (s := i) (by omega) hi0 (fun v0 v1 h => f_X10_clubBreak_2 N n v0 v1 h) (vT V) 0 N h (by omega) (by omega) R
      cases hfs : fs (clubP V i) 0 (vT V) with
      | some t =>
        rw [hfs] at e1
        refine ⟨h1, ?_, R1, F1⟩
        simp (disch := omega) only [↓kmC R.1, ↓kmT R, ↓kmF R, ↓kmM R, ↓kmD R, ↓kmP R, ↓kr72 R.1, ↓kr73 R.1, ↓kr74 R.1, ↓kr75 R.1, ↓kr76 R.1, ↓kr77 R.1, ↓kr78 R.1, ↓kr79 R.1, ↓kr80 R.1, ↓kr81 R.1, ↓kr82 R.1, ↓kr83 R.1, ↓kr84 R.1, ↓kr85 R.1, ↓kr86 R.1, ↓kr87 R.1, ↓kr88 R.1, ↓kr89 R.1, ↓kr90 R.1, ↓kr91 R.1, ↓kr92 R.1, ↓kr93 R.1, ↓kr94 R.1, ↓kr95 R.1, ↓kr96 R.1, ↓kr97 R.1, ↓kr98 R.1, ↓kr99 R.1, ↓kr100 R.1, ↓kr101 R.1, ↓kr102 R.1, ↓kr103 R.1, ↓kr104 R.1, ↓kr105 R.1, ↓kr106 R.1, ↓kr107 R.1, ↓kr108 R.1, ↓kr109 R.1, ↓kr110 R.1, ↓kx0 R, ↓kx1 R, ↓kx2 R, ↓kx3 R, ↓kx4 R, ↓kx5 R, ↓kx6 R, ↓kx7 R, ↓kx8 R, ↓kx9 R, ↓kx10 R, ↓kx11 R, ↓kx1m R, ↓kx9m R, ↓kx10m R, ↓reduceIte, if_true, if_false, Option.bind_some, b2_some, il0, il1, il2, il3, il4, il5, il6, il7, il8, il9, il10, il11, il12, il13, il14, il15, il16, il17, il18, il19, il20, il21, il22, il23, il24, il25, il26, il27, il28, il29, il30, il31, il32, il33, il36, il38, il39, il40, il41, il48, il50, il51, il57, il59, il60, il61, il62, il63, il70, il96, il99, il100, il101, il102, il103, il104, il105, il106, il107, il108, il109, il110, il111, il112, il115, il116, il120, il121, il124, il200, il240, il255, il288, il360, il420, il999, il1000, il114292, il152755, il402789, il435589, il463922, il533611, il631470, iz_add, iz_sub, iz_mul, iz_neg, iz_le, iz_lt, iz_eq, hsh, hc, ↓bq eo, ↓bq ei, h3]
        exact e1
      | none =>
        rw [hfs] at e1
        obtain ⟨h', e', R', F'⟩ := ih (i + 1) n h1 (by omega) (by omega) R1
        refine ⟨h', ?_, R', F1.tr F'⟩
        simp (disch := omega) only [↓kmC R.1, ↓kmT R, ↓kmF R, ↓kmM R, ↓kmD R, ↓kmP R, ↓kr72 R.1, ↓kr73 R.1, ↓kr74 R.1, ↓kr75 R.1, ↓kr76 R.1, ↓kr77 R.1, ↓kr78 R.1, ↓kr79 R.1, ↓kr80 R.1, ↓kr81 R.1, ↓kr82 R.1, ↓kr83 R.1, ↓kr84 R.1, ↓kr85 R.1, ↓kr86 R.1, ↓kr87 R.1, ↓kr88 R.1, ↓kr89 R.1, ↓kr90 R.1, ↓kr91 R.1, ↓kr92 R.1, ↓kr93 R.1, ↓kr94 R.1, ↓kr95 R.1, ↓kr96 R.1, ↓kr97 R.1, ↓kr98 R.1, ↓kr99 R.1, ↓kr100 R.1, ↓kr101 R.1, ↓kr102 R.1, ↓kr103 R.1, ↓kr104 R.1, ↓kr105 R.1, ↓kr106 R.1, ↓kr107 R.1, ↓kr108 R.1, ↓kr109 R.1, ↓kr110 R.1, ↓kx0 R, ↓kx1 R, ↓kx2 R, ↓kx3 R, ↓kx4 R, ↓kx5 R, ↓kx6 R, ↓kx7 R, ↓kx8 R, ↓kx9 R, ↓kx10 R, ↓kx11 R, ↓kx1m R, ↓kx9m R, ↓kx10m R, ↓reduceIte, if_true, if_false, Option.bind_some, b2_some, il0, il1, il2, il3, il4, il5, il6, il7, il8, il9, il10, il11, il12, il13, il14, il15, il16, il17, il18, il19, il20, il21, il22, il23, il24, il25, il26, il27, il28, il29, il30, il31, il32, il33, il36, il38, il39, il40, il41, il48, il50, il51, il57, il59, il60, il61, il62, il63, il70, il96, il99, il100, il101, il102, il103, il104, il105, il106, il107, il108, il109, il110, il111, il112, il115, il116, il120, il121, il124, il200, il240, il255, il288, il360, il420, il999, il1000, il114292, il152755, il402789, il435589, il463922, il533611, il631470, iz_add, iz_sub, iz_mul, iz_neg, iz_le, iz_lt, iz_eq, hsh, hc, ↓bq eo, ↓bq ei, h3]
        exact e1.trans e'
    · rw [if_neg h2]
      rw [if_neg (by omega)] at ei
      obtain ⟨h', e', R', F'⟩ := ih (i + 1) n h (by omega) (by omega) R
      refine ⟨h', ?_, R', F'⟩
      simp (disch := omega) only [↓kmC R.1, ↓kmT R, ↓kmF R, ↓kmM R, ↓kmD R, ↓kmP R, ↓kr72 R.1, ↓kr73 R.1, ↓kr74 R.1, ↓kr75 R.1, ↓kr76 R.1, ↓kr77 R.1, ↓kr78 R.1, ↓kr79 R.1, ↓kr80 R.1, ↓kr81 R.1, ↓kr82 R.1, ↓kr83 R.1, ↓kr84 R.1, ↓kr85 R.1, ↓kr86 R.1, ↓kr87 R.1, ↓kr88 R.1, ↓kr89 R.1, ↓kr90 R.1, ↓kr91 R.1, ↓kr92 R.1, ↓kr93 R.1, ↓kr94 R.1, ↓kr95 R.1, ↓kr96 R.1, ↓kr97 R.1, ↓kr98 R.1, ↓kr99 R.1, ↓kr100 R.1, ↓kr101 R.1, ↓kr102 R.1, ↓kr103 R.1, ↓kr104 R.1, ↓kr105 R.1, ↓kr106 R.1, ↓kr107 R.1, ↓kr108 R.1, ↓kr109 R.1, ↓kr110 R.1, ↓kx0 R, ↓kx1 R, ↓kx2 R, ↓kx3 R, ↓kx4 R, ↓kx5 R, ↓kx6 R, ↓kx7 R, ↓kx8 R, ↓kx9 R, ↓kx10 R, ↓kx11 R, ↓kx1m R, ↓kx9m R, ↓kx10m R, ↓reduceIte, if_true, if_false, Option.bind_some, b2_some, il0, il1, il2, il3, il4, il5, il6, il7, il8, il9, il10, il11, il12, il13, il14, il15, il16, il17, il18, il19, il20, il21, il22, il23, il24, il25, il26, il27, il28, il29, il30, il31, il32, il33, il36, il38, il39, il40, il41, il48, il50, il51, il57, il59, il60, il61, il62, il63, il70, il96, il99, il100, il101, il102, il103, il104, il105, il106, il107, il108, il109, il110, il111, il112, il115, il116, il120, il121, il124, il200, il240, il255, il288, il360, il420, il999, il1000, il114292, il152755, il402789, il435589, il463922, il533611, il631470, iz_add, iz_sub, iz_mul, iz_neg, iz_le, iz_lt, iz_eq, hsh, hc, ↓bq eo, ↓bq ei]
      exact e'
theorem m_club {h : Mem} (R : RepM h V) (w : WF V) (hN : 300 ≤ N) : ∃ h', f_X10_clubBreak N 71 h = some (iz (clubS V), h') ∧ RepM h' V ∧ FM SR h h' := by
  have hF := w.F
  have h2 := two_le (vF V) hF
  exact m_club_2 w hN h2 (sh_dec (vF V) hF) (2 ^ vF V) 0 N h (by omega) (by omega) R
theorem m_breakOf {h : Mem} (R : RepM h V) (w : WF V) (hN : 300 ≤ N) {k : Int} (hk : 1 ≤ k ∧ k ≤ 5) : ∃ h', f_X10_breakOf N 71 (iz k) h = some (iz (breachS V k), h') ∧ RepM h' V ∧ FM SR h h' := by
  have hsb := stayS_bd w
  have hvb := voteS_bd w
  obtain ⟨h1, e1, R1, F1⟩ := m_stay R w (N := N) (by omega)
  have F1' := F1.mono SP_SR
  have h3 : ¬ ((3 : Int) = 5) := by decide
  unfold f_X10_breakOf breachS
  by_cases c : stayS V = -5
  · rw [if_pos c]
    rw [c] at e1
    have e1' : f_X10_stayBreak N 71 h = some (-iz 5, h1) := e1
    have hm5 : (-iz 5 = (-5 : Int32)) := rfl
    unfold breachQ
    rcases (show k = 1 ∨ k = 2 ∨ k = 3 ∨ k = 4 ∨ k = 5 by omega) with rfl | rfl | rfl | rfl | rfl
    · refine ⟨h1, ?_, R1, F1'⟩
      rw [kmC R.1, bq e1]
      refine (if_pos (by decide)).trans ?_
      refine (if_neg (by decide)).trans <| (if_neg (by decide)).trans <| (if_neg (by decide)).trans <| (if_neg (by decide)).trans ?_
      rfl
    · obtain ⟨h2, e2, R2, F2⟩ := m_vote R1 w (N := N) (by omega)
      refine ⟨h2, ?_, R2, F1'.tr (F2.mono SV_SR)⟩
      rw [kmC R.1, bq e1]
      refine (if_pos (by decide)).trans ?_
      refine (if_neg (by decide)).trans <| (if_neg (by decide)).trans <| (if_pos (by decide)).trans ?_
      unfold f_X10_breakOf_43 f_X10_breakOf_48
      rw [kmC R1.1, bq e2, if_pos (show (2 : Int) = 2 ∨ (2 : Int) = 4 from Or.inl rfl)]
      by_cases cv : voteS V = -5
      · rw [if_pos cv, cv]
        rfl
      · rw [if_neg cv]
        exact if_neg (by rw [show (-5 : Int32) = iz (-5) from rfl, iz_eq (by omega) (by omega) (by omega) (by omega)]; exact cv)
    · obtain ⟨h2, e2, R2, F2⟩ := m_rent R1 w (N := N) (by omega)
      refine ⟨h2, ?_, R2, F1'.tr (F2.mono SP_SR)⟩
      rw [kmC R.1, bq e1]
      refine (if_pos (by decide)).trans ?_
      refine (if_pos (by decide)).trans ?_
      rw [kmC R1.1, bq e2]
      rfl
    · obtain ⟨h2, e2, R2, F2⟩ := m_vote R1 w (N := N) (by omega)
      have F12 := F1'.tr (F2.mono SV_SR)
      by_cases cv : voteS V = -5
      · obtain ⟨h3', e3, R3, F3⟩ := m_seer R2 w (N := N) (by omega)
        refine ⟨h3', ?_, R3, F12.tr F3⟩
        rw [kmC R.1, bq e1]
        refine (if_pos (by decide)).trans ?_
        refine (if_neg (by decide)).trans <| (if_neg (by decide)).trans <| (if_neg (by decide)).trans <| (if_pos (by decide)).trans ?_
        unfold f_X10_breakOf_43 f_X10_breakOf_48
        rw [kmC R1.1, bq e2, cv, if_pos (show (4 : Int) = 2 ∨ (4 : Int) = 4 from Or.inr rfl)]
        refine (if_pos (by decide)).trans <| (if_pos (by decide)).trans ?_
        rw [kmC R2.1, bq e3]
        rfl
      · refine ⟨h2, ?_, R2, F12⟩
        rw [kmC R.1, bq e1]
        refine (if_pos (by decide)).trans ?_
        refine (if_neg (by decide)).trans <| (if_neg (by decide)).trans <| (if_neg (by decide)).trans <| (if_pos (by decide)).trans ?_
        unfold f_X10_breakOf_43 f_X10_breakOf_48
        rw [kmC R1.1, bq e2, if_pos (show (4 : Int) = 2 ∨ (4 : Int) = 4 from Or.inr rfl), if_neg cv]
        exact if_neg (by rw [show (-5 : Int32) = iz (-5) from rfl, iz_eq (by omega) (by omega) (by omega) (by omega)]; exact cv)
    · obtain ⟨h2, e2, R2, F2⟩ := m_club R1 w (N := N) hN
      refine ⟨h2, ?_, R2, F1'.tr F2⟩
      rw [kmC R.1, bq e1]
      refine (if_pos (by decide)).trans ?_
      refine (if_neg (by decide)).trans <| (if_pos (by decide)).trans ?_
      rw [kmC R1.1, bq e2]
      rfl
  · rw [if_neg c]
    refine ⟨h1, ?_, R1, F1'⟩
    rw [kmC R.1, bq e1]
    exact if_neg (by rw [show (-5 : Int32) = iz (-5) from rfl, iz_eq (by omega) (by omega) (by omega) (by omega)]; exact c)
theorem m_isRest {h : Mem} (R : RepM h V) (w : WF V) (hN : 300 ≤ N) {k : Int} (hk : 1 ≤ k ∧ k ≤ 5) (hb : -2147483648 ≤ breachS V k ∧ breachS V k < 2147483648) : ∃ h', f_X10_isRest N 71 (iz k) h = some (iz (bi (decide (breachS V k = -5))), h') ∧ RepM h' V ∧ FM SR h h' := by
  obtain ⟨h1, e1, R1, F1⟩ := m_breakOf R w hN hk
  refine ⟨h1, ?_, R1, F1⟩
  unfold f_X10_isRest
  rw [kmC R.1, bq e1]
  by_cases c : breachS V k = -5
  · rw [decide_eq_true c, c]
    rfl
  · rw [decide_eq_false c]
    exact if_neg (by rw [show (-5 : Int32) = iz (-5) from rfl, iz_eq (by omega) (by omega) (by omega) (by omega)]; exact c)
end
