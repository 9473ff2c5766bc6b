section
variable {h : Mem} {x : Nat → Int} {L p P N : Nat} {D : Dv} {T : List Int}
theorem l_fld (q : Lq p) (c : CL h x L p P D T) {j : Nat} (hj : j < 3) {v : Int} (hv : -1 ≤ v ∧ v ≤ 999) {m : Nat} (hm : m = j + 3) : TelOk p x L h ((sI h p 3 m (iz v)).bind fun h37 => (gI h37 p 3 m).bind fun t39 => if t39 < 0 then some ((0 : Int32), h37) else some ((1 : Int32), h37)) (decide (0 ≤ v), P, dset D 12 j v, T) := by
  subst hm
  have c1 := c.fld q hj (v := v)
  have e1 : sI h p 3 (j + 3) (iz v) = some (h.1, u2 h.2.1 p (j + 3) (iz v), h.2.2.1, h.2.2.2) := sI_q c.2.1.1
  have e2 : gI (h.1, u2 h.2.1 p (j + 3) (iz v), h.2.2.1, h.2.2.2) p 3 (j + 3) = some (iz v) := by
    refine (gI_q (h := (h.1, u2 h.2.1 p (j + 3) (iz v), h.2.2.1, h.2.2.2)) c.2.1.1).trans ?_
    show some (u2 h.2.1 p (j + 3) (iz v) p (j + 3)) = _
    rw [u2_at, if_pos rfl]
  refine ⟨_, ?_, c1, FL.fld q⟩
  rw [bo e1, bo e2]
  by_cases h1 : v < 0
  · have h2 : ¬ (0 ≤ v) := by omega
    have hd : decide (0 ≤ v) = false := by simp [h2]
    simp (disch := omega) only [if_true, if_false, Option.bind_some, b2_some, il0, il1, il2, il3, il4, il5, il6, il7, il8, il9, il10, il11, il12, il13, il14, il15, il16, il17, il18, il19, il20, il21, il22, il23, il24, il25, il26, il27, il28, il29, il30, il31, il32, il33, il36, il38, il39, il40, il41, il48, il50, il51, il57, il59, il60, il61, il62, il63, il70, il96, il99, il100, il101, il102, il103, il104, il105, il106, il107, il108, il109, il110, il111, il112, il115, il116, il120, il121, il124, il200, il240, il255, il288, il360, il420, il999, il1000, il114292, il152755, il402789, il435589, il463922, il533611, il631470, iz_add, iz_sub, iz_mul, iz_neg, iz_le, iz_lt, iz_eq, h1, hd, bi_f, ↓reduceIte]
  · have h2 : 0 ≤ v := by omega
    have hd : decide (0 ≤ v) = true := by simp [h2]
    simp (disch := omega) only [if_true, if_false, Option.bind_some, b2_some, il0, il1, il2, il3, il4, il5, il6, il7, il8, il9, il10, il11, il12, il13, il14, il15, il16, il17, il18, il19, il20, il21, il22, il23, il24, il25, il26, il27, il28, il29, il30, il31, il32, il33, il36, il38, il39, il40, il41, il48, il50, il51, il57, il59, il60, il61, il62, il63, il70, il96, il99, il100, il101, il102, il103, il104, il105, il106, il107, il108, il109, il110, il111, il112, il115, il116, il120, il121, il124, il200, il240, il255, il288, il360, il420, il999, il1000, il114292, il152755, il402789, il435589, il463922, il533611, il631470, iz_add, iz_sub, iz_mul, iz_neg, iz_le, iz_lt, iz_eq, h1, hd, bi_t, ↓reduceIte]
theorem TelOk.fl {h1 : Mem} {o : Option (Int32 × Mem)} {s : Bool × Nat × Dv × List Int} (f : FL p h h1) (t : TelOk p x L h1 o s) : TelOk p x L h o s := by
  obtain ⟨h', e, c, f'⟩ := t
  exact ⟨h', e, c, f.tr f'⟩
theorem kLs0 (c : CL h x L p P D T) {γ : Type} {k : Nat → Option γ} : (gR h p 3 0).bind k = k (p + 1) := bo (gR_q c.2.1.1 c.2.2.1.1)
theorem kLs1 (c : CL h x L p P D T) {γ : Type} {k : Nat → Option γ} : (gR h p 3 1).bind k = k (p + 2) := bo (gR_q c.2.1.1 c.2.2.2.1.1)
theorem kLs2 (c : CL h x L p P D T) {γ : Type} {k : Nat → Option γ} : (gR h p 3 2).bind k = k (p + 3) := bo (gR_q c.2.1.1 c.2.2.2.2.1.1)
theorem l_tel (q : Lq p) (hN : 200 ≤ N) (c : CL h x L p P D T) (hT : T.length ≤ P) {w : Nat} (hw : w < 7) : TelOk p x L h (if iz w = (0 : Int32) then (gR h p 3 0).bind fun t12 => (ck h 44 5).bind fun _ => b2 (f_X5_pair N 44 t12 (3 : Int32) h) fun t17 h16 => rz t17 h16
      else if iz w = (1 : Int32) then (gR h p 3 1).bind fun t19 => (ck h 44 5).bind fun _ => b2 (f_X5_pair N 44 t19 (4 : Int32) h) fun t24 h23 => rz t24 h23
      else if iz w = (2 : Int32) then (gR h p 3 2).bind fun t26 => (ck h 44 5).bind fun _ => b2 (f_X5_single N 44 t26 h) fun t31 h30 => rz t31 h30
      else if iz w = (3 : Int32) then (ck h 44 5).bind fun _ => b2 (f_X5_number N 44 h) fun t36 h35 => (sI h35 p 3 3 t36).bind fun h37 => (gI h37 p 3 3).bind fun t39 => if t39 < 0 then some ((0 : Int32), h37) else some ((1 : Int32), h37)
      else if iz w = (4 : Int32) then (ck h 44 5).bind fun _ => b2 (f_X5_letter N 44 1 h) fun t46 h45 => (sI h45 p 3 4 t46).bind fun h47 => (gI h47 p 3 4).bind fun t49 => if t49 < 0 then some ((0 : Int32), h47) else some ((1 : Int32), h47)
      else if iz w = (5 : Int32) then (ck h 44 5).bind fun _ => b2 (f_X5_letter N 44 2 h) fun t56 h55 => (sI h55 p 3 5 t56).bind fun h57 => (gI h57 p 3 5).bind fun t59 => if t59 < 0 then some ((0 : Int32), h57) else some ((1 : Int32), h57)
      else (ck h 44 5).bind fun _ => b2 (F_X5_either N 44 p (0 : Int32) h) fun t65 h64 => if t65 = 0 then some ((0 : Int32), h64) else (ck h64 44 5).bind fun _ => b2 (f_X5_met N 44 (32 : Int32) h64) fun t70 h69 => if t70 = 0 then some ((0 : Int32), h69) else (ck h69 44 5).bind fun _ => b2 (f_X5_weight N 44 p h69) fun t75 h74 => if t75 = 0 then some ((0 : Int32), h74) else some ((1 : Int32), h74)) (telS x L P w D T) := by
  have r := c.1
  have hx := r.2.2.2.2.2.2.2.2
  have hL := r.2.2.2.2.2.2.1
  have hP := r.2.2.2.2.2.2.2.1
  have z : ∀ (a : Nat), a < 7 → (iz (w : Int) = iz (a : Int)) = (w = a) := fun a ha => by rw [iz_eq (by omega) (by omega) (by omega) (by omega)]; exact propext (by omega)
  have z0 : (iz (w : Int) = (0 : Int32)) = (w = 0) := z 0 (by decide)
  have z1 : (iz (w : Int) = (1 : Int32)) = (w = 1) := z 1 (by decide)
  have z2 : (iz (w : Int) = (2 : Int32)) = (w = 2) := z 2 (by decide)
  have z3 : (iz (w : Int) = (3 : Int32)) = (w = 3) := z 3 (by decide)
  have z4 : (iz (w : Int) = (4 : Int32)) = (w = 4) := z 4 (by decide)
  have z5 : (iz (w : Int) = (5 : Int32)) = (w = 5) := z 5 (by decide)
  unfold telS
  by_cases w0 : w = 0
  · rw [if_pos (by rw [z0]; exact w0), if_pos w0, kLs0 c, k44 r]
    obtain ⟨h', e, c', f⟩ := l_pair q hN c (k := 9) (m := 3) (len := 12) (by omega) c.2.2.1.2
    refine ⟨h', ?_, c', f⟩
    rw [show b2 (f_X5_pair N 44 (p + 1) (3 : Int32) h) (fun t17 h16 => rz t17 h16) = rz (iz (bi (pairS x L 9 3 D P).1)) h' from bq e, rz_bi]
  rw [if_neg (by rw [z0]; exact w0), if_neg w0]
  by_cases w1 : w = 1
  · rw [if_pos (by rw [z1]; exact w1), if_pos w1, kLs1 c, k44 r]
    obtain ⟨h', e, c', f⟩ := l_pair q hN c (k := 10) (m := 4) (len := 16) (by omega) c.2.2.2.1.2
    refine ⟨h', ?_, c', f⟩
    rw [show b2 (f_X5_pair N 44 (p + 2) (4 : Int32) h) (fun t17 h16 => rz t17 h16) = rz (iz (bi (pairS x L 10 4 D P).1)) h' from bq e, rz_bi]
  rw [if_neg (by rw [z1]; exact w1), if_neg w1]
  by_cases w2 : w = 2
  · rw [if_pos (by rw [z2]; exact w2), if_pos w2, kLs2 c, k44 r]
    obtain ⟨h', e, c', f⟩ := l_single q hN c
    refine ⟨h', ?_, c', f⟩
    rw [bq e, rz_bi]
  rw [if_neg (by rw [z2]; exact w2), if_neg w2]
  by_cases w3 : w = 3
  · rw [if_pos (by rw [z3]; exact w3), if_pos w3, k44 r, bq (l_number r hN)]
    have b5 := numR_bd (L := L) hx hP
    exact (l_fld q (c.pm q (P' := (numR x L P).2) (by omega)) (j := 0) (by decide) (by omega) rfl).fl (FL.pm q)
  rw [if_neg (by rw [z3]; exact w3), if_neg w3]
  by_cases w4 : w = 4
  · rw [if_pos (by rw [z4]; exact w4), if_pos w4, k44 r, bq (l_letter r (k := 1) (by omega) hN)]
    have b1 := letS_bd (x := x) (L := L) (P := P) 1
    by_cases a : 0 ≤ letS x L P 1
    · have := letS_lt a
      rw [if_pos a, if_pos a]
      exact (l_fld q (c.pm q (P' := P + 1) (by omega)) (j := 1) (by decide) (by omega) rfl).fl (FL.pm q)
    · rw [if_neg a, if_neg a]
      exact l_fld q c (j := 1) (by decide) (by omega) rfl
  rw [if_neg (by rw [z4]; exact w4), if_neg w4]
  by_cases w5 : w = 5
  · rw [if_pos (by rw [z5]; exact w5), if_pos w5, k44 r, bq (l_letter r (k := 2) (by omega) hN)]
    have b1 := letS_bd (x := x) (L := L) (P := P) 2
    by_cases a : 0 ≤ letS x L P 2
    · have := letS_lt a
      rw [if_pos a, if_pos a]
      exact (l_fld q (c.pm q (P' := P + 1) (by omega)) (j := 2) (by decide) (by omega) rfl).fl (FL.pm q)
    · rw [if_neg a, if_neg a]
      exact l_fld q c (j := 2) (by decide) (by omega) rfl
  rw [if_neg (by rw [z5]; exact w5), if_neg w5, k44 r]
  exact l_shun q hN c hT
theorem l_clause (q : Lq p) (hN : 200 ≤ N) (c : CL h x L p P D T) (hT : T.length ≤ P) : TelOk p x L h (f_X5_clause N 44 p h) (clS x L P D T) := by
  have r := c.1
  have hL := r.2.2.2.2.2.2.1
  have hP := r.2.2.2.2.2.2.2.1
  have wb' := word_bd (x := x) hP
  have ew := l_word r hN
  have c1 := c.pm q (P' := (wordS x L P).2) (by omega)
  have em := l_met (N := N) c1.1 (c := 32) (by omega)
  have h3 : ¬ ((1 : Int) = 0) := by decide
  unfold f_X5_clause clS
  rw [k44 r, bq ew]
  by_cases w0 : (wordS x L P).1 < 0
  · rw [if_pos w0]
    refine ⟨_, ?_, c1, FL.pm q⟩
    rw [if_pos (by rw [il0, iz_lt (by omega) (by omega) (by omega) (by omega)]; exact w0)]
    rfl
  · rw [if_neg w0, if_neg (by rw [il0, iz_lt (by omega) (by omega) (by omega) (by omega)]; exact w0), k44 c1.1]
    by_cases a : isAt x L (wordS x L P).2 32 = true
    · have la := isAt_lt a
      rw [if_pos a]
      rw [if_pos a, a] at em
      have c2 := c1.pm q (P' := (wordS x L P).2 + 1) (by omega)
      rw [show b2 (f_X5_met N 44 (32 : Int32) (pm h (wordS x L P).2)) _ = _ from bq em, if_neg (by rw [bi_t, il0, iz_eq (by omega) (by omega) (by omega) (by omega)]; exact h3)]
      have e := l_tel q hN c2 (by omega) (w := (wordS x L P).1.toNat) (by omega)
      rw [show (((wordS x L P).1.toNat : Nat) : Int) = (wordS x L P).1 by omega] at e
      exact e.fl ((FL.pm q).tr (FL.pm q))
    · rw [if_neg a]
      rw [Bool.not_eq_true] at a
      rw [a, if_neg (by decide)] at em
      rw [show b2 (f_X5_met N 44 (32 : Int32) (pm h (wordS x L P).2)) _ = _ from bq em, if_pos (show iz (bi false) = (0 : Int32) from rfl)]
      exact ⟨_, rfl, c1, FL.pm q⟩
end
