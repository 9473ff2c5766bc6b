/-! a test, and what the program does with it -/
theorem ff_tt {p : Prop} (h : false = true) : p := by cases h
theorem tt_ff {p : Prop} (h : true = false) : p := by cases h
def FA (h0 : Mem) (s i t n : Int) : Prop := h0.2.1 83 0 = iz s ∧ h0.2.1 83 1 = iz i ∧ h0.2.1 83 2 = iz t ∧ h0.2.1 83 3 = iz n ∧ ib s ∧ ib i ∧ ib t ∧ ib n
section
variable {h0 : Mem} {x : Nat → Int} {L b N : Nat} {s i t n : Int}
theorem letS_3 (P : Nat) : letS x L P 3 = if isAt x L P 115 = true then 0 else if isAt x L P 105 = true then 1 else if isAt x L P 116 = true then 2 else if isAt x L P 102 = true then 3 else -1 := by
  unfold letS isAt
  by_cases h1 : P < L
  · rw [if_pos h1]
    simp only [h1, decide_true, Bool.true_and, decide_eq_true_eq]
    have e : ∀ (c : Int), fs (fun j => decide (strB 3 j = c)) 0 (strL 3) = if c = 115 then some 0 else if c = 105 then some 1 else if c = 116 then some 2 else if c = 102 then some 3 else none := by
      intro c
      show fs _ 0 4 = _
      simp only [fs, strB]
      have g : ∀ (a b : Int), (decide (a = b) = true) = (b = a) := fun a b => by rw [decide_eq_true_eq]; exact propext eq_comm
      simp only [List.getD_cons_zero, List.getD_cons_succ, g]
    rw [e]
    by_cases c0 : x P = 115
    · rw [if_pos c0, if_pos c0]; rfl
    · rw [if_neg c0, if_neg c0]
      by_cases c1 : x P = 105
      · rw [if_pos c1, if_pos c1]; rfl
      · rw [if_neg c1, if_neg c1]
        by_cases c2 : x P = 116
        · rw [if_pos c2, if_pos c2]; rfl
        · rw [if_neg c2, if_neg c2]
          by_cases c3 : x P = 102
          · rw [if_pos c3, if_pos c3]; rfl
          · rw [if_neg c3, if_neg c3]
  · rw [if_neg h1]
    simp [h1]
theorem letS_4 (P : Nat) (hx : ∀ j : Nat, 0 ≤ x j ∧ x j ≤ 255) : letS x L P 4 = if 60 ≤ nxS x L P ∧ nxS x L P ≤ 62 then nxS x L P - 60 else -1 := by
  have hp := hx P
  unfold letS nxS
  by_cases h1 : P < L
  · rw [if_pos h1, if_pos h1]
    have e : ∀ (c : Int), fs (fun j => decide (strB 4 j = c)) 0 (strL 4) = if c = 60 then some 0 else if c = 61 then some 1 else if c = 62 then some 2 else none := by
      intro c
      show fs _ 0 3 = _
      simp only [fs, strB]
      have g : ∀ (a b : Int), (decide (a = b) = true) = (b = a) := fun a b => by rw [decide_eq_true_eq]; exact propext eq_comm
      simp only [List.getD_cons_zero, List.getD_cons_succ, g]
    rw [e]
    unfold sb
    by_cases c0 : x P = 60
    · rw [if_pos c0, c0]; rfl
    · rw [if_neg c0]
      by_cases c1 : x P = 61
      · rw [if_pos c1, c1]; rfl
      · rw [if_neg c1]
        by_cases c2 : x P = 62
        · rw [if_pos c2, c2]; rfl
        · rw [if_neg c2]
          show (-1 : Int) = _
          by_cases q : x P < 128
          · rw [if_pos q, if_neg (by omega)]
          · rw [if_neg q, if_neg (by omega)]
  · rw [if_neg h1, if_neg h1]
    rfl
def lefN (s i t n : Int) (j : Nat) : Int := if j = 0 then s else if j = 1 then i else if j = 2 then t else n
theorem k83 {h : Mem} {P : Nat} (a : FA h0 s i t n) (p : PS h0 x L b h P) {γ : Type} {j : Nat} (hj : j < 4) {k : Int32 → Option γ} : (lI 100 h 83 (iz (j : Int))).bind k = k (iz (lefN s i t n j)) := by
  rw [kl83 p.1 (by omega) (by omega), toN, p.2.2.2.2.2.2.2.1 83 (by decide) (by decide)]
  unfold lefN
  rcases (show j = 0 ∨ j = 1 ∨ j = 2 ∨ j = 3 by omega) with rfl | rfl | rfl | rfl
  · rw [a.1]; rfl
  · rw [a.2.1]; rfl
  · rw [a.2.2.1]; rfl
  · rw [a.2.2.2.1]; rfl
theorem lefN_ib (a : FA h0 s i t n) (j : Nat) : ib (lefN s i t n j) := by
  obtain ⟨_, _, _, _, a1, a2, a3, a4⟩ := a
  unfold lefN
  split
  · exact a1
  · split
    · exact a2
    · split
      · exact a3
      · exact a4
theorem run_one {k : Int} {j m : Nat} (hj : j < 4) (hm : m < 3) {u : Int} (hu : 0 ≤ u) (hk : k = u * 16 + (j * 3 + m)) {sum : Int} {f : Nat} (hf : f < 524288) : run s i t n [k] (sum, f) = some (sum, 2 * f + mrk (lefN s i t n j) m u) := by
  have e1 : k % 16 = j * 3 + m := by omega
  have e2 : k / 16 = u := by omega
  have e3 : ((j : Int) * 3 + m) % 3 = m := by omega
  have e4 : lef s i t n ((j : Int) * 3 + m) = lefN s i t n j := by
    unfold lef lefN
    rcases (show j = 0 ∨ j = 1 ∨ j = 2 ∨ j = 3 by omega) with rfl | rfl | rfl | rfl
    · rw [if_pos (by omega), if_pos rfl]
    · rw [if_neg (by omega), if_pos (by omega)]; rfl
    · rw [if_neg (by omega), if_neg (by omega), if_pos (by omega)]; rfl
    · rw [if_neg (by omega), if_neg (by omega), if_neg (by omega)]; rfl
  show (sgn s i t n k (sum, f)).bind (run s i t n []) = _
  unfold sgn
  dsimp only
  rw [if_neg (by omega), if_neg (by omega), if_neg (by omega), if_neg (by omega), if_neg (by omega), if_neg (by omega), e1, e2, e3, e4]
  rfl
/-- a test: it stands there or not; then its truth is pushed -/
theorem m_test (a : FA h0 s i t n) (hN : 200 ≤ N) {h : Mem} {P : Nat} {W B : List Int} {e : Int} (p : PS h0 x L b h P) (k : STK h W B e) (hl : W.length + B.length ≤ P) (hc : ∀ c ∈ W, 0 ≤ c ∧ c ≤ 127) : ((pT x L P).1 = true → ∃ v : Nat, v ≤ 1 ∧ (∀ sum f, f < 524288 → run s i t n (pT x L P).2.2 (sum, f) = some (sum, 2 * f + v)) ∧ ∃ h', f_X10_takesTest N 71 h = some (iz 1, h') ∧ PS h0 x L b h' (pT x L P).2.1 ∧ STK h' (pushS W e v).1 ((pushS W e v).2.2 :: B) (pushS W e v).2.1 ∧ P + 3 ≤ (pT x L P).2.1) ∧
    ((pT x L P).1 = false → ∃ h', f_X10_takesTest N 71 h = some (iz 0, h') ∧ PS h0 x L b h' (pT x L P).2.1) := by
  have hx := p.2.2.2.2.1
  have hP := p.2.2.1
  have en := m_next (N := N) p
  have hb := nx_bd (L := L) (P := P) hx
  have g115 := nx_at (L := L) (P := P) hx (c := 115) (by omega)
  have g105 := nx_at (L := L) (P := P) hx (c := 105) (by omega)
  have g116 := nx_at (L := L) (P := P) hx (c := 116) (by omega)
  have g102 := nx_at (L := L) (P := P) hx (c := 102) (by omega)
  have h3 : ¬ ((1 : Int) = 0) := by decide
  -- it goes on behind the letter
  have disp : ∃ q : Int, q = letS x L P 3 ∧ f_X10_takesTest N 71 h = f_X10_takesTest_46 N 71 (iz q) h := by
    refine ⟨_, rfl, ?_⟩
    rw [letS_3]
    unfold f_X10_takesTest
    simp (disch := omega) only [↓kmC p.1, ↓bq en, il0, il1, il2, il3, il4, il5, il6, il7, il8, il9, il10, il11, il12, il13, il14, il15, il16, il17, il18, il19, il20, il21, il22, il23, il24, il25, il26, il27, il28, il29, il30, il31, il32, il33, il36, il38, il39, il40, il41, il48, il50, il51, il57, il59, il60, il61, il62, il63, il70, il96, il99, il100, il101, il102, il103, il104, il105, il106, il107, il108, il109, il110, il111, il112, il115, il116, il120, il121, il124, il200, il240, il255, il288, il360, il420, il999, il1000, il114292, il152755, il402789, il435589, il463922, il533611, il631470, iz_eq, g115, g105, g116, g102]
    split
    · rfl
    · split
      · rfl
      · split
        · rfl
        · split <;> rfl
  obtain ⟨q, hq, edisp⟩ := disp
  have hq4 : -1 ≤ q ∧ q ≤ 3 := by
    rw [hq, letS_3]
    split
    · omega
    · split
      · omega
      · split
        · omega
        · split <;> omega
  rw [edisp]
  unfold pT
  rw [← hq]
  unfold f_X10_takesTest_46
  by_cases h1 : 0 ≤ q
  · have lP := letS_lt (x := x) (L := L) (P := P) (k := 3) (by rw [← hq]; exact h1)
    have p1 := p.at_ (P' := P + 1) (by omega)
    have k1 : STK (fd h 19 (iz ((P + 1 : Nat) : Int))) W B e := k.at_ (by decide)
    have en1 := m_next (N := N) p1
    have hb1 := nx_bd (L := L) (P := P + 1) hx
    have ei := m_in (N := N) (h := fd h 19 (iz ((P + 1 : Nat) : Int))) (a := nxS x L (P + 1)) (b := 60) (c := 62) (by omega) (by omega) (by omega) (by omega)
    rw [if_pos h1, letS_4 _ hx]
    by_cases h2 : 60 ≤ nxS x L (P + 1) ∧ nxS x L (P + 1) ≤ 62
    · have lP1 : P + 1 < L := by
        have := h2.1
        unfold nxS at this
        split at this
        · assumption
        · omega
      rw [if_pos h2] at ei ⊢
      have p2 := p1.at_ (P' := P + 2) (by omega)
      rw [fd_fd] at p2
      have k2 : STK (fd h 19 (iz ((P + 2 : Nat) : Int))) W B e := k.at_ (by decide)
      obtain ⟨d, e3, hd⟩ := m_number (N := N) hN p2
      have nb := numR_bd (L := L) hx (P := P + 2) (by omega)
      have p3 := p2.at2_ (d := d) (P' := (numR x L (P + 2)).2) (by omega)
      have k3 : STK (at2 (fd h 19 (iz ((P + 2 : Nat) : Int))) d (numR x L (P + 2)).2) W B e := (k2.at_ (j := 20) (by decide)).at_ (by decide)
      rw [if_pos (by omega)]
      have pre : ∀ (K : Int32 → Mem → Option (Int32 × Mem)), ((gI h 71 10 19).bind fun t2 => (sI h 71 10 19 (t2 + (1 : Int32))).bind fun h4 => (ck h4 71 10).bind fun _ => b2 (f_X10_next N 71 h4) fun t9 h8 => (ck h8 71 10).bind fun _ => b2 (f_X10_in N 71 t9 (60 : Int32) (62 : Int32) h8) fun t13 h12 => if t13 = 0 then some ((0 : Int32), h12) else (gI h12 71 10 19).bind fun t15 => (sI h12 71 10 19 (t15 + (1 : Int32))).bind fun h17 => (ck h17 71 10).bind fun _ => b2 (f_X10_takesNumber N 71 h17) fun t22 h21 => if t22 = 0 then some ((0 : Int32), h21) else K t9 h21) = if 0 ≤ (numR x L (P + 2)).1 then K (iz (nxS x L (P + 1))) (at2 (fd h 19 (iz ((P + 2 : Nat) : Int))) d (numR x L (P + 2)).2) else some (iz 0, at2 (fd h 19 (iz ((P + 2 : Nat) : Int))) d (numR x L (P + 2)).2) := by
        intro K
        rw [kpP p, il1, iz_add, ksI p.1]
        have z1 : ((P : Int) + 1) = ((P + 1 : Nat) : Int) := rfl
        have z2 : (((P + 1 : Nat) : Int) + 1) = ((P + 2 : Nat) : Int) := by omega
        rw [z1, kmC p1.1, bq en1, kmC p1.1, il60, il62, bq ei]
        have hne : ¬ (iz 1 = (0 : Int32)) := by decide
        rw [if_neg hne, kpP p1, iz_add, ksI p1.1, z2, fd_fd, kmC p2.1, bq e3]
        by_cases c : 0 ≤ (numR x L (P + 2)).1
        · rw [if_pos c, decide_eq_true c, bi_t, if_neg hne]
        · rw [if_neg c, decide_eq_false c, bi_f, if_pos (by decide)]
          rfl
      rw [if_pos (show (0 : Int32) ≤ iz q by rw [il0, iz_le (by omega) (by omega) (by omega) (by omega)]; exact h1)]
      rw [pre]
      by_cases h4 : 0 ≤ (numR x L (P + 2)).1
      · rw [if_pos h4, if_pos h4]
        have hd' := hd h4
        refine ⟨fun _ => ?_, fun z => tt_ff z⟩
        obtain ⟨j, rfl⟩ := Int.eq_ofNat_of_zero_le h1
        obtain ⟨m, hm⟩ := Int.eq_ofNat_of_zero_le (show 0 ≤ nxS x L (P + 1) - 60 by omega)
        have hm3 : m < 3 := by omega
        have hj4 : j < 4 := by omega
        have mle := mrk_le (lefN s i t n j) m (numR x L (P + 2)).1
        refine ⟨mrk (lefN s i t n j) m (numR x L (P + 2)).1, mle, fun sum f hf => ?_, ?_⟩
        · dsimp only
          rw [hm]
          exact run_one hj4 hm3 h4 rfl hf
        · have li := lefN_ib a j
          unfold ib at li
          have e20 : (at2 (fd h 19 (iz ((P + 2 : Nat) : Int))) d (numR x L (P + 2)).2).2.1 71 20 = iz (numR x L (P + 2)).1 := by rw [at2_20, hd']
          obtain ⟨h', ep, p4, k4⟩ := m_push (N := N) (by omega) (by omega) hN (v := (mrk (lefN s i t n j) m (numR x L (P + 2)).1 : Nat)) hc (by omega) p3 k3
          refine ⟨h', ?_, p4, k4, by dsimp only; have := hd; exact (by
            have : P + 2 < (numR x L (P + 2)).2 ∨ (numR x L (P + 2)).1 < 0 := by
              unfold numR
              rw [numS]
              by_cases hf : figS x L (P + 2) 9 = true
              · rw [if_pos hf]
                have hl := figS_lt hf
                have := numS_bd (L := L) hx 2 (P + 2 + 1) ((if (-1 : Int) < 0 then 0 else -1) * 10 + x (P + 2) - 48) 1 rfl (by rw [if_pos (by decide)]; omega) (by omega)
                omega
              · rw [if_neg hf]
                exact Or.inr (show (-1 : Int) < 0 by decide)
            omega)⟩
          have fin : ∀ r : Int, r = (mrk (lefN s i t n j) m (numR x L (P + 2)).1 : Nat) → f_X10_takesTest_174 N 71 (iz r) (at2 (fd h 19 (iz ((P + 2 : Nat) : Int))) d (numR x L (P + 2)).2) = some (iz 1, h') := by
            intro r hr
            unfold f_X10_takesTest_174
            rw [kmC p3.1, hr, bo ep]
            rfl
          have k16 : ∀ (k : Int32 → Option (Int32 × Mem)), (lI 100 (at2 (fd h 19 (iz ((P + 2 : Nat) : Int))) d (numR x L (P + 2)).2) 83 (iz (j : Int))).bind k = k (iz (lefN s i t n j)) := fun k => k83 a p3 hj4
          unfold mrk at fin
          rcases (show m = 0 ∨ m = 1 ∨ m = 2 by omega) with rfl | rfl | rfl
          · rw [if_pos (by rw [il60, iz_eq (by omega) (by omega) (by omega) (by omega)]; omega), kr83 p3.1, k16, kmI p3.1, e20]
            by_cases c : lefN s i t n j < (numR x L (P + 2)).1
            · rw [if_neg (by rw [iz_le (by omega) (by omega) (by omega) (by omega)]; omega)]
              exact fin 1 (by rw [if_pos (by rfl), if_pos c]; rfl)
            · rw [if_pos (by rw [iz_le (by omega) (by omega) (by omega) (by omega)]; omega)]
              exact fin 0 (by rw [if_pos (by rfl), if_neg c]; rfl)
          · rw [if_neg (by rw [il60, iz_eq (by omega) (by omega) (by omega) (by omega)]; omega), if_pos (by rw [il61, iz_eq (by omega) (by omega) (by omega) (by omega)]; omega), kr83 p3.1, k16, kmI p3.1, e20]
            by_cases c : lefN s i t n j = (numR x L (P + 2)).1
            · rw [if_pos (by rw [c])]
              exact fin 1 (by rw [if_neg (by decide), if_pos (by rfl), if_pos c]; rfl)
            · rw [if_neg (by rw [iz_eq (by omega) (by omega) (by omega) (by omega)]; exact c)]
              exact fin 0 (by rw [if_neg (by decide), if_pos (by rfl), if_neg c]; rfl)
          · rw [if_neg (by rw [il60, iz_eq (by omega) (by omega) (by omega) (by omega)]; omega), if_neg (by rw [il61, iz_eq (by omega) (by omega) (by omega) (by omega)]; omega), kr83 p3.1, k16, kmI p3.1, e20]
            by_cases c : (numR x L (P + 2)).1 < lefN s i t n j
            · rw [if_neg (by rw [iz_le (by omega) (by omega) (by omega) (by omega)]; omega)]
              exact fin 1 (by rw [if_neg (by decide), if_neg (by decide), if_pos c]; rfl)
            · rw [if_pos (by rw [iz_le (by omega) (by omega) (by omega) (by omega)]; omega)]
              exact fin 0 (by rw [if_neg (by decide), if_neg (by decide), if_neg c]; rfl)
      · rw [if_neg h4, if_neg h4]
        exact ⟨fun z => ff_tt z, fun _ => ⟨_, rfl, p3⟩⟩
    · rw [if_neg h2] at ei ⊢
      rw [if_neg (by decide)]
      refine ⟨fun z => ff_tt z, fun _ => ⟨_, ?_, p1⟩⟩
      rw [if_pos (by rw [il0, iz_le (by omega) (by omega) (by omega) (by omega)]; exact h1), kpP p, il1, iz_add, ksI p.1]
      rw [show ((P : Int) + 1) = ((P + 1 : Nat) : Int) from rfl, kmC p1.1, bq en1, kmC p1.1, il60, il62, bq ei, if_pos (by decide)]
      rfl
  · rw [if_neg h1]
    refine ⟨fun z => ff_tt z, fun _ => ⟨h, ?_, p⟩⟩
    rw [if_neg (by rw [il0, iz_le (by omega) (by omega) (by omega) (by omega)]; exact h1)]
    rfl
end
