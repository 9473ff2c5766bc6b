section
variable {h0 h : Mem} {x : Nat → Int} {L b P N : Nat} {s i t n sm : Int} {D : Dv} {T : List Int}
theorem wb_inj : ∀ a : Nat, a < 7 → ∀ c : Nat, c < 7 → wb (a * 4) = wb (c * 4) → a = c := by decide
theorem fs_some {Q : Nat → Bool} {w : Nat} (hw : Q w = true) : ∀ d i, i ≤ w → w < i + d → ∃ t, fs Q i d = some t := by
  intro d
  induction d with
  | zero => intro i h1 h2; omega
  | succ d ih =>
    intro i h1 h2
    unfold fs
    by_cases hz : Q i = true
    · rw [if_pos hz]; exact ⟨i, rfl⟩
    · rw [if_neg hz]
      have : i ≠ w := fun e => hz (by rw [e]; exact hw)
      exact ih (i + 1) (by omega) (by omega)
theorem wordS_of {w : Nat} (hw : w < 7) (ha : isAt x L P (wb (w * 4)) = true) : wordS x L P = rstS x L w 3 1 (P + 1) := by
  unfold wordS
  obtain ⟨t, ht⟩ := fs_some (Q := fun w => isAt x L P (wb (w * 4))) ha 7 0 (by omega) (by omega)
  have h1 := fs_lt _ _ _ ht
  have la := isAt_lt ha
  have lt := isAt_lt h1.2.2
  have := wb_inj t (by omega) w hw (lt.2.symm.trans la.2)
  rw [ht, this]
theorem rst_wd {w : Nat} : ∀ d j P, wdS x L w d j P = if (rstS x L w d j P).1 < 0 then (false, (rstS x L w d j P).2) else (isAt x L (rstS x L w d j P).2 32, if isAt x L (rstS x L w d j P).2 32 = true then (rstS x L w d j P).2 + 1 else (rstS x L w d j P).2) := by
  intro d
  induction d with
  | zero =>
    intro j P
    unfold wdS rstS
    dsimp only
    exact (if_neg (show ¬ ((w : Int) < 0) by omega)).symm
  | succ d ih =>
    intro j P
    rw [wdS, rstS]
    by_cases hz : isAt x L P (wb (w * 4 + j)) = true
    · rw [if_pos hz, if_pos hz]; exact ih (j + 1) (P + 1)
    · rw [if_neg hz, if_neg hz]
      rfl
theorem cl_w {w : Nat} (hw : w < 7) (hP : P ≤ L) (ha : isAt x L P (wb (w * 4)) = true) : clS x L P D T = if (wdS x L w 4 0 P).1 = true then telS x L (wdS x L w 4 0 P).2 w D T else (false, (wdS x L w 4 0 P).2, D, T) := by
  have la := isAt_lt ha
  have e1 : wdS x L w 4 0 P = wdS x L w 3 1 (P + 1) := by rw [wdS]; exact if_pos ha
  have e2 := rst_wd (x := x) (L := L) (w := w) 3 1 (P + 1)
  have hb := (rst_bd (x := x) (L := L) (w := w) 3 1 (P + 1) (by omega)).1
  unfold clS
  rw [wordS_of hw ha, e1]
  generalize rstS x L w 3 1 (P + 1) = r at *
  generalize wdS x L w 3 1 (P + 1) = q at *
  rcases hb with hb | hb
  · rw [if_neg (by omega)] at e2
    rw [if_neg (by omega), e2]
    dsimp only
    cases hz : isAt x L r.2 32 with
    | true => rw [if_pos rfl, if_pos rfl, hb, if_pos rfl, Int.toNat_natCast]
    | false => rw [if_neg (by decide), if_neg (by decide), if_neg (by decide)]
  · rw [if_pos (by omega)] at e2
    rw [if_pos (by omega), e2]
    exact (if_neg (show ¬ (false = true) by decide)).symm
theorem cl_none (hn : ∀ w, w < 7 → isAt x L P (wb (w * 4)) = false) : clS x L P D T = (false, P, D, T) := by
  have e : wordS x L P = (-1, P) := by
    unfold wordS
    cases hf : fs (fun w => isAt x L P (wb (w * 4))) 0 7 with
    | none => rfl
    | some w =>
      have h1 := fs_lt _ _ _ hf
      have h2 := hn w (by omega)
      have h3 := h1.2.2
      rw [h2] at h3
      cases h3
  unfold clS
  rw [e]
  exact if_pos (show (-1 : Int) < 0 by decide)
theorem Cok.id_ {o : Option (Int32 × Mem)} {r : Bool × Nat × Dv × List Int} (c : Cok s i t n h x L b o sm r) : Cok s i t n h x L b (b2 o fun t h' => if t = 0 then some ((0 : Int32), h') else some ((1 : Int32), h')) sm r :=
  ⟨fun z => by obtain ⟨h', sm', e1, e2⟩ := c.1 z; exact ⟨h', sm', by rw [e1]; rfl, e2⟩, fun z => by obtain ⟨h', e1, e2⟩ := c.2 z; exact ⟨h', by rw [e1]; rfl, e2⟩⟩
theorem Cok.rz_ {o : Option (Int32 × Mem)} {r : Bool × Nat × Dv × List Int} (c : Cok s i t n h x L b o sm r) : Cok s i t n h x L b (b2 o fun t h' => rz t h') sm r :=
  ⟨fun z => by obtain ⟨h', sm', e1, e2⟩ := c.1 z; exact ⟨h', sm', by rw [e1]; rfl, e2⟩, fun z => by obtain ⟨h', e1, e2⟩ := c.2 z; exact ⟨h', by rw [e1]; rfl, e2⟩⟩
theorem Cok.eq_ {o o' : Option (Int32 × Mem)} {r : Bool × Nat × Dv × List Int} (e : o' = o) (c : Cok s i t n h x L b o sm r) : Cok s i t n h x L b o' sm r := by rw [e]; exact c
/-- a word, then what it tells -/
theorem m_wtel {w : Nat} (hw : w < 7) (hN : 200 ≤ N) (p : PS h x L b h P) (k : TO s i t n h D T sm) {K : Mem → Option (Int32 × Mem)} (hK : ∀ h1 : Mem, P < (wdS x L w 4 0 P).2 → PS h1 x L b h1 (wdS x L w 4 0 P).2 → TO s i t n h1 D T sm → FC h h1 → Cok s i t n h1 x L b (K h1) sm (telS x L (wdS x L w 4 0 P).2 w D T)) : Cok s i t n h x L b (b2 (f_X10_takesWord N 71 (iz (mw w)) (iz 4) h) fun t h' => if t = 0 then some ((0 : Int32), h') else K h') sm (if (wdS x L w 4 0 P).1 = true then telS x L (wdS x L w 4 0 P).2 w D T else (false, (wdS x L w 4 0 P).2, D, T)) := by
  have hP := p.2.2.1
  have e1 := m_word (N := N) hw hN p
  have wbd := wd_bd (x := x) (L := L) (w := w) 4 0 P hP.1
  have p1 := p.at_ (P' := (wdS x L w 4 0 P).2) wbd.2
  have h3 : ¬ ((1 : Int) = 0) := by decide
  generalize hh1 : fd h 19 (iz ((wdS x L w 4 0 P).2 : Int)) = h1 at *
  cases hz : (wdS x L w 4 0 P).1 with
  | true =>
    have hlt : P < (wdS x L w 4 0 P).2 := by
      have : ∀ d j P, P ≤ L → (wdS x L w d j P).1 = true → P < (wdS x L w d j P).2 := by
        intro d
        induction d with
        | zero =>
          intro j P hP hq
          unfold wdS at hq ⊢
          dsimp only at hq ⊢
          rw [if_pos hq]
          omega
        | succ d ih =>
          intro j P hP hq
          rw [wdS] at hq ⊢
          split at hq
          · rename_i ha
            have la := isAt_lt ha
            rw [if_pos ha]
            have := ih (j + 1) (P + 1) (by omega) hq
            omega
          · cases hq
      exact this 4 0 P hP.1 hz
    rw [hz] at e1
    rw [if_pos rfl]
    refine ((hK h1 hlt p1.self (k.pr p1.pr) p1.pr.fc).fc p1.pr.fc).eq_ ?_
    rw [bq e1]
    exact if_neg (by decide)
  | false =>
    rw [hz] at e1
    rw [if_neg (by decide)]
    refine ⟨fun z => ff_tt z, fun _ => ⟨h1, ?_, p1.self, p1.pr.fc⟩⟩
    rw [bq e1]
    rfl
theorem m_clause (hN : 200 ≤ N) (fa : FA h s i t n) (p : PS h x L b h P) (k : TO s i t n h D T sm) : Cok s i t n h x L b (f_X10_takesClause N 71 h) sm (clS x L P D T) := by
  have hP := p.2.2.1
  have hx := p.2.2.2.2.1
  have en := m_next (N := N) p
  have hb := nx_bd (L := L) (P := P) hx
  have g115 := nx_at (L := L) (P := P) hx (c := 115) (by omega)
  have g99 := nx_at (L := L) (P := P) hx (c := 99) (by omega)
  have g100 := nx_at (L := L) (P := P) hx (c := 100) (by omega)
  have g108 := nx_at (L := L) (P := P) hx (c := 108) (by omega)
  have g109 := nx_at (L := L) (P := P) hx (c := 109) (by omega)
  have g110 := nx_at (L := L) (P := P) hx (c := 110) (by omega)
  have g112 := nx_at (L := L) (P := P) hx (c := 112) (by omega)
  by_cases c99 : isAt x L P 99 = true
  · rw [cl_w (w := 2) (by decide) hP.1 c99]
    have ec : nxS x L P = 99 := by rw [g99]; exact c99
    rw [ec] at en
    refine (m_wtel (w := 2) (by decide) hN p k (K := fun h1 => (ck h1 71 10).bind fun _ => b2 (f_X10_takesFigure N 71 (2 : Int32) h1) fun t9 h8 => if t9 = 0 then some ((0 : Int32), h8) else (gI h8 71 10 20).bind fun t11 => (ck h8 71 10).bind fun _ => b2 (f_X10_takes N 71 (32 : Int32) h8) fun t16 h15 => if t16 = 0 then some ((0 : Int32), h15) else (ck h15 71 10).bind fun _ => b2 (f_X10_takesNumber N 71 h15) fun t21 h20 => if t21 = 0 then some ((0 : Int32), h20) else (gR h20 71 10 37).bind fun t23 => (gI h20 71 10 20).bind fun t25 => (stI 100 h20 t23 t11 t25).bind fun h27 => some ((1 : Int32), h27)) (fun h1 hl p1 k1 f1 => ?_)).rz_.eq_ ?_
    · rw [kmC p1.1]; exact m_sing hN p1 k1
    · unfold f_X10_takesClause; rw [kmC p.1, bq en]; refine (if_pos (by decide)).trans ?_; rw [kmC p.1]; unfold f_X10_takesCost; rw [kmC p.1]; rfl
  · have d99 : ¬ (nxS x L P = 99) := by rw [g99]; exact c99
    by_cases c100 : isAt x L P 100 = true
    · rw [cl_w (w := 4) (by decide) hP.1 c100]
      have ec : nxS x L P = 100 := by rw [g100]; exact c100
      rw [ec] at en
      refine (m_wtel (w := 4) (by decide) hN p k (K := fun h1 => (ck h1 71 10).bind fun _ => b2 (f_X10_next N 71 h1) fun t19 h18 => if t19 = (104 : Int32) then f_X10_takesClause_201 N 71 h18 else (ck h18 71 10).bind fun _ => b2 (f_X10_next N 71 h18) fun t24 h23 => if t24 = (105 : Int32) then f_X10_takesClause_201 N 71 h23 else (ck h23 71 10).bind fun _ => b2 (f_X10_next N 71 h23) fun t29 h28 => if t29 = (101 : Int32) then f_X10_takesClause_201 N 71 h28 else some ((0 : Int32), h28)) (fun h1 hl p1 k1 f1 => ?_)).eq_ ?_
      · rw [kmC p1.1]; exact m_due p1 k1
      · unfold f_X10_takesClause; rw [kmC p.1, bq en]; refine (if_neg (by decide)).trans <| (if_pos (by decide)).trans ?_; rw [kmC p.1]; rfl
    · have d100 : ¬ (nxS x L P = 100) := by rw [g100]; exact c100
      by_cases c108 : isAt x L P 108 = true
      · rw [cl_w (w := 0) (by decide) hP.1 c108]
        have ec : nxS x L P = 108 := by rw [g108]; exact c108
        rw [ec] at en
        refine (m_wtel (w := 0) (by decide) hN p k (K := fun h1 => (ck h1 71 10).bind fun _ => b2 (f_X10_takesTwo N 71 (0 : Int32) h1) fun t h' => if t = 0 then some ((0 : Int32), h') else some ((1 : Int32), h')) (fun h1 hl p1 k1 f1 => ?_)).eq_ ?_
        · rw [kmC p1.1]; exact (m_two0 hN p1 k1).id_
        · unfold f_X10_takesClause; rw [kmC p.1, bq en]; refine (if_neg (by decide)).trans <| (if_neg (by decide)).trans <| (if_neg (by decide)).trans <| (if_neg (by decide)).trans <| (if_neg (by decide)).trans <| (if_neg (by decide)).trans <| (if_neg (by decide)).trans <| (if_neg (by decide)).trans <| (if_neg (by decide)).trans <| (if_pos (by decide)).trans ?_; rw [kmC p.1]; rfl
      · have d108 : ¬ (nxS x L P = 108) := by rw [g108]; exact c108
        by_cases c109 : isAt x L P 109 = true
        · rw [cl_w (w := 3) (by decide) hP.1 c109]
          have ec : nxS x L P = 109 := by rw [g109]; exact c109
          rw [ec] at en
          refine (m_wtel (w := 3) (by decide) hN p k (K := fun h1 => (ck h1 71 10).bind fun _ => b2 (f_X10_takesNumber N 71 h1) fun t58 h57 => if t58 = 0 then some ((0 : Int32), h57) else (gI h57 71 10 20).bind fun t60 => (sI h57 71 10 38 t60).bind fun h62 => some ((1 : Int32), h62)) (fun h1 hl p1 k1 f1 => ?_)).eq_ ?_
          · rw [kmC p1.1]; exact m_mile hN p1 k1
          · unfold f_X10_takesClause; rw [kmC p.1, bq en]; refine (if_neg (by decide)).trans <| (if_neg (by decide)).trans <| (if_neg (by decide)).trans <| (if_neg (by decide)).trans <| (if_neg (by decide)).trans <| (if_neg (by decide)).trans <| (if_neg (by decide)).trans <| (if_neg (by decide)).trans <| (if_neg (by decide)).trans <| (if_neg (by decide)).trans <| (if_pos (by decide)).trans ?_; rw [kmC p.1]; rfl
        · have d109 : ¬ (nxS x L P = 109) := by rw [g109]; exact c109
          by_cases c110 : isAt x L P 110 = true
          · rw [cl_w (w := 1) (by decide) hP.1 c110]
            have ec : nxS x L P = 110 := by rw [g110]; exact c110
            rw [ec] at en
            refine (m_wtel (w := 1) (by decide) hN p k (K := fun h1 => (ck h1 71 10).bind fun _ => b2 (f_X10_takesTwo N 71 (1 : Int32) h1) fun t h' => if t = 0 then some ((0 : Int32), h') else some ((1 : Int32), h')) (fun h1 hl p1 k1 f1 => ?_)).eq_ ?_
            · rw [kmC p1.1]; exact (m_two1 hN p1 k1).id_
            · unfold f_X10_takesClause; rw [kmC p.1, bq en]; refine (if_neg (by decide)).trans <| (if_neg (by decide)).trans <| (if_neg (by decide)).trans <| (if_neg (by decide)).trans <| (if_neg (by decide)).trans <| (if_neg (by decide)).trans <| (if_neg (by decide)).trans <| (if_neg (by decide)).trans <| (if_neg (by decide)).trans <| (if_neg (by decide)).trans <| (if_neg (by decide)).trans <| (if_pos (by decide)).trans ?_; rw [kmC p.1]; rfl
          · have d110 : ¬ (nxS x L P = 110) := by rw [g110]; exact c110
            by_cases c112 : isAt x L P 112 = true
            · rw [cl_w (w := 5) (by decide) hP.1 c112]
              have ec : nxS x L P = 112 := by rw [g112]; exact c112
              rw [ec] at en
              refine (m_wtel (w := 5) (by decide) hN p k (K := fun h1 => (ck h1 71 10).bind fun _ => b2 (f_X10_next N 71 h1) fun t19 h18 => if t19 = (109 : Int32) then f_X10_takesClause_261 N 71 h18 else (ck h18 71 10).bind fun _ => b2 (f_X10_next N 71 h18) fun t24 h23 => if t24 = (100 : Int32) then f_X10_takesClause_261 N 71 h23 else (ck h23 71 10).bind fun _ => b2 (f_X10_next N 71 h23) fun t29 h28 => if t29 = (111 : Int32) then f_X10_takesClause_261 N 71 h28 else some ((0 : Int32), h28)) (fun h1 hl p1 k1 f1 => ?_)).eq_ ?_
              · rw [kmC p1.1]; exact m_pic p1 k1
              · unfold f_X10_takesClause; rw [kmC p.1, bq en]; refine (if_neg (by decide)).trans <| (if_neg (by decide)).trans <| (if_neg (by decide)).trans <| (if_neg (by decide)).trans <| (if_neg (by decide)).trans <| (if_neg (by decide)).trans <| (if_neg (by decide)).trans <| (if_neg (by decide)).trans <| (if_neg (by decide)).trans <| (if_neg (by decide)).trans <| (if_neg (by decide)).trans <| (if_neg (by decide)).trans <| (if_neg (by decide)).trans <| (if_pos (by decide)).trans ?_; rw [kmC p.1]; rfl
            · have d112 : ¬ (nxS x L P = 112) := by rw [g112]; exact c112
              have e281 : f_X10_takesClause N 71 h = f_X10_takesClause_281 N 71 h := by
                unfold f_X10_takesClause
                rw [kmC p.1, bq en]
                simp (disch := omega) only [il0, il1, il2, il3, il4, il5, il6, il7, il8, il9, il10, il11, il12, il13, il14, il15, il16, il17, il18, il19, il20, il21, il22, il23, il24, il25, il26, il27, il28, il29, il30, il31, il32, il33, il36, il38, il39, il40, il41, il48, il50, il51, il57, il59, il60, il61, il62, il63, il70, il96, il99, il100, il101, il102, il103, il104, il105, il106, il107, il108, il109, il110, il111, il112, il115, il116, il120, il121, il124, il200, il240, il255, il288, il360, il420, il999, il1000, il114292, il152755, il402789, il435589, il463922, il533611, il631470, iz_eq, d99, d100, d108, d109, d110, d112, ↓reduceIte]
                simp only [ite_self]
              rw [e281]
              have hs : Cok s i t n h x L b (b2 (f_X10_takesShun N 71 h) fun t h' => rz t h') sm (if (wdS x L 6 4 0 P).1 = true then telS x L (wdS x L 6 4 0 P).2 6 D T else (false, (wdS x L 6 4 0 P).2, D, T)) := by
                refine (m_wtel (w := 6) (by decide) hN p k (K := fun h1 => (ck h1 71 10).bind fun _ => b2 (f_X10_takesE N 71 h1) fun t9 h8 => if t9 = 0 then some ((0 : Int32), h8) else (ck h8 71 10).bind fun _ => b2 (f_X10_takes N 71 (32 : Int32) h8) fun t14 h13 => if t14 = 0 then some ((0 : Int32), h13) else (ck h13 71 10).bind fun _ => b2 (f_X10_takesNumber N 71 h13) fun t19 h18 => if t19 = 0 then some ((0 : Int32), h18) else (gR h18 71 10 31).bind fun t21 => (lI 102 h18 t21 (0 : Int32)).bind fun t23 => if t23 = 0 then some ((1 : Int32), h18) else (gI h18 71 10 21).bind fun t26 => (gI h18 71 10 20).bind fun t28 => (sI h18 71 10 21 (t26 + t28)).bind fun h30 => some ((1 : Int32), h30)) (fun h1 hl p1 k1 f1 => ?_)).rz_.eq_ ?_
                · rw [kmC p1.1]; exact m_shun hN (by omega) (fa.fc f1) p1 k1
                · unfold f_X10_takesShun; rw [kmC p.1]; rfl
              have he : f_X10_takesClause_281 N 71 h = b2 (f_X10_takesShun N 71 h) fun t h' => rz t h' := by
                unfold f_X10_takesClause_281
                rw [kmC p.1]
              refine Cok.eq_ he ?_
              by_cases c115 : isAt x L P 115 = true
              · rw [cl_w (w := 6) (by decide) hP.1 c115]
                exact hs
              · have hno : ∀ w, w < 7 → isAt x L P (wb (w * 4)) = false := by
                  intro w hw
                  rw [Bool.not_eq_true] at c99 c100 c108 c109 c110 c112 c115
                  rcases (show w = 0 ∨ w = 1 ∨ w = 2 ∨ w = 3 ∨ w = 4 ∨ w = 5 ∨ w = 6 by omega) with rfl | rfl | rfl | rfl | rfl | rfl | rfl
                  · exact c108
                  · exact c110
                  · exact c99
                  · exact c109
                  · exact c100
                  · exact c112
                  · exact c115
                rw [cl_none hno]
                have ew : wdS x L 6 4 0 P = (false, P) := by
                  rw [wdS]
                  exact if_neg c115
                rw [ew] at hs
                exact hs
end
