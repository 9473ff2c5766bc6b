def Lsh (h : Mem) (p : Nat) : Prop := h.1[p]? = some (3, 0) ∧ (h.2.2.2 p 0 = some (p + 1) ∧ h.1[p + 1]? = some (100, 12)) ∧ (h.2.2.2 p 1 = some (p + 2) ∧ h.1[p + 2]? = some (100, 16)) ∧ (h.2.2.2 p 2 = some (p + 3) ∧ h.1[p + 3]? = some (100, 3)) ∧ (h.2.2.2 p 6 = some (p + 4) ∧ h.1[p + 4]? = some (100, 120))
def RD0 (h : Mem) (x : Nat → Int) (L : Nat) : Prop := h.1[44]? = some (5, 0) ∧ h.2.2.2 44 0 = some 45 ∧ h.1[45]? = some (101, 120) ∧ h.2.1 44 1 = iz (L : Int) ∧ (∀ j : Nat, j < L → h.2.1 45 j = iz (x j)) ∧ L ≤ 120 ∧ ∀ j : Nat, 0 ≤ x j ∧ x j ≤ 255
def D0 : Dv := fun k _ => if k = 11 then 10 else 0
section
variable {h : Mem} {x : Nat → Int} {L p N : Nat}
theorem l_forget (q : Lq p) (hN : 200 ≤ N) (s : Lsh h p) : ∃ h', f_X3_forget N p h = some h' ∧ FL p h h' ∧ (∀ j : Nat, j < 12 → h'.2.1 (p + 1) j = iz 0) ∧ (∀ j : Nat, j < 16 → h'.2.1 (p + 2) j = iz 0) ∧ (∀ j : Nat, j < 3 → h'.2.1 (p + 3) j = iz 10) ∧ h'.2.1 p 3 = iz 0 ∧ h'.2.1 p 4 = iz 0 ∧ h'.2.1 p 5 = iz 0 ∧ h'.2.1 p 7 = iz 0 := by
  obtain ⟨a1, a2, a3, a4, a5⟩ := s
  let h4 := wr h (p + 1) (fun j => if j < 12 then (0 : Int32) else h.2.1 (p + 1) j)
  let h8 := wr h4 (p + 2) (fun j => if j < 16 then (0 : Int32) else h4.2.1 (p + 2) j)
  let h12 := wr h8 (p + 3) (fun j => if j < 3 then (10 : Int32) else h8.2.1 (p + 3) j)
  have g1 : gR h p 3 0 = some (p + 1) := gR_q a1 a2.1
  have g2 : gR h4 p 3 1 = some (p + 2) := gR_q (h := h4) a1 a3.1
  have g3 : gR h8 p 3 2 = some (p + 3) := gR_q (h := h8) a1 a4.1
  have e1 : f_J7_fill_53178 N (p + 1) (0 : Int32) h = some h4 := l_fill (N := N) (v := 0) hN a2.2 (by decide)
  have e2 : f_J7_fill_53178 N (p + 2) (0 : Int32) h4 = some h8 := l_fill (h := h4) (N := N) (v := 0) hN a3.2 (by decide)
  have e3 : f_J7_fill_53178 N (p + 3) (10 : Int32) h8 = some h12 := l_fill (h := h8) (N := N) (v := 10) hN a4.2 (by decide)
  let f (I : Nat → Nat → Int32) : Mem := (h.1, I, h.2.2.1, h.2.2.2)
  have s1 : ∀ (I : Nat → Nat → Int32) (k : Nat) (v : Int32), sI (f I) p 3 k v = some (f (u2 I p k v)) := fun I k v => sI_q (h := f I) a1
  have eh : h12 = f h12.2.1 := rfl
  have n : ∀ i, i ≠ p → u2 (u2 (u2 (u2 h12.2.1 p 3 0) p 4 0) p 5 0) p 7 0 i = h12.2.1 i := fun i hi => by rw [u2_ne hi, u2_ne hi, u2_ne hi, u2_ne hi]
  refine ⟨f (u2 (u2 (u2 (u2 h12.2.1 p 3 0) p 4 0) p 5 0) p 7 0), ?_, ⟨rfl, rfl, fun i h1 h2 => ?_, fun j _ => ?_⟩, fun j hj => ?_, fun j hj => ?_, fun j hj => ?_, ?_, ?_, ?_, ?_⟩
  · unfold f_X3_forget
    rw [bo g1, bo e1, bo g2, bo e2, bo g3, bo e3, eh, bo (s1 _ _ _), bo (s1 _ _ _), bo (s1 _ _ _), bo (s1 _ _ _)]
  · show u2 (u2 (u2 (u2 h12.2.1 p 3 0) p 4 0) p 5 0) p 7 0 i = _
    rw [n i (by omega)]
    show (wr h8 (p + 3) _).2.1 i = _
    rw [wr_ne (by omega)]
    show (wr h4 (p + 2) _).2.1 i = _
    rw [wr_ne (by omega)]
    show (wr h (p + 1) _).2.1 i = _
    rw [wr_ne (by omega)]
  · have q1 : 44 ≠ p ∧ 44 ≠ p + 1 ∧ 44 ≠ p + 2 ∧ 44 ≠ p + 3 := by rcases q with rfl | rfl <;> decide
    show u2 (u2 (u2 (u2 h12.2.1 p 3 0) p 4 0) p 5 0) p 7 0 44 j = _
    rw [n 44 q1.1]
    show (wr h8 (p + 3) _).2.1 44 j = _
    rw [wr_ne q1.2.2.2]
    show (wr h4 (p + 2) _).2.1 44 j = _
    rw [wr_ne q1.2.2.1]
    show (wr h (p + 1) _).2.1 44 j = _
    rw [wr_ne q1.2.1]
  · show u2 (u2 (u2 (u2 h12.2.1 p 3 0) p 4 0) p 5 0) p 7 0 (p + 1) j = _
    rw [n _ (by omega)]
    show (wr h8 (p + 3) _).2.1 (p + 1) j = _
    rw [wr_ne (by omega)]
    show (wr h4 (p + 2) _).2.1 (p + 1) j = _
    rw [wr_ne (by omega)]
    show (wr h (p + 1) _).2.1 (p + 1) j = _
    rw [wr_eq, if_pos hj]; rfl
  · show u2 (u2 (u2 (u2 h12.2.1 p 3 0) p 4 0) p 5 0) p 7 0 (p + 2) j = _
    rw [n _ (by omega)]
    show (wr h8 (p + 3) _).2.1 (p + 2) j = _
    rw [wr_ne (by omega)]
    show (wr h4 (p + 2) _).2.1 (p + 2) j = _
    rw [wr_eq, if_pos hj]; rfl
  · show u2 (u2 (u2 (u2 h12.2.1 p 3 0) p 4 0) p 5 0) p 7 0 (p + 3) j = _
    rw [n _ (by omega)]
    show (wr h8 (p + 3) _).2.1 (p + 3) j = _
    rw [wr_eq, if_pos hj]; rfl
  · show u2 (u2 (u2 (u2 h12.2.1 p 3 0) p 4 0) p 5 0) p 7 0 p 3 = _
    rw [u2_at, if_neg (by decide), u2_at, if_neg (by decide), u2_at, if_neg (by decide), u2_at, if_pos rfl]; rfl
  · show u2 (u2 (u2 (u2 h12.2.1 p 3 0) p 4 0) p 5 0) p 7 0 p 4 = _
    rw [u2_at, if_neg (by decide), u2_at, if_neg (by decide), u2_at, if_pos rfl]; rfl
  · show u2 (u2 (u2 (u2 h12.2.1 p 3 0) p 4 0) p 5 0) p 7 0 p 5 = _
    rw [u2_at, if_neg (by decide), u2_at, if_pos rfl]; rfl
  · show u2 (u2 (u2 (u2 h12.2.1 p 3 0) p 4 0) p 5 0) p 7 0 p 7 = _
    rw [u2_at, if_pos rfl]; rfl
def faultS (x : Nat → Int) (L : Nat) : Int × Dv × List Int := flS x L 10 0 D0 []
theorem l_faultIn (q : Lq p) (hN : 200 ≤ N) (s : Lsh h p) (r : RD0 h x L) : ∃ h', f_X5_faultIn N 44 p h = some (iz (faultS x L).1, h') ∧ CLx h' x L p (faultS x L).2.1 (faultS x L).2.2 ∧ FL p h h' := by
  obtain ⟨h1, e1, F1, f1, f2, f3, f4, f5, f6, f7⟩ := l_forget q hN s
  obtain ⟨a1, a2, a3, a4, a5⟩ := s
  obtain ⟨r1, r2, r3, r4, r5, r6, r7⟩ := r
  have p1 : 44 ≠ p ∧ 45 ≠ p ∧ p + 1 ≠ 44 ∧ p + 2 ≠ 44 ∧ p + 3 ≠ 44 := by rcases q with rfl | rfl <;> decide
  have p45 : 45 < p ∨ p + 4 < 45 := by rcases q with rfl | rfl <;> decide
  have e2 : sI h1 44 5 2 (0 : Int32) = some (pm h1 0) := sI_q (by rw [F1.1]; exact r1)
  have c : CL (pm h1 0) x L p 0 D0 [] := by
    refine ⟨⟨?_, ?_, ?_, ?_, ?_, fun j hj => ?_, r6, Nat.zero_le _, r7⟩, ⟨?_, ?_, ?_, ?_, fun j hj => absurd hj (by simp)⟩, ?_, ?_, ?_, fun j hj => ?_, fun j hj => ?_, fun j hj => ?_, ?_, ?_, ?_⟩
    · show h1.1[44]? = _; rw [F1.1]; exact r1
    · show h1.2.2.2 44 0 = _; rw [F1.2.1]; exact r2
    · show h1.1[45]? = _; rw [F1.1]; exact r3
    · show u2 h1.2.1 44 2 (iz ((0 : Nat) : Int)) 44 1 = _; rw [u2_at, if_neg (by decide), F1.2.2.2 1 (by decide)]; exact r4
    · show u2 h1.2.1 44 2 (iz ((0 : Nat) : Int)) 44 2 = _; rw [u2_at, if_pos rfl]
    · show u2 h1.2.1 44 2 (iz ((0 : Nat) : Int)) 45 j = _; rw [u2_ne (by decide), F1.2.2.1 45 (by decide) p45]; exact r5 j hj
    · show h1.1[p]? = _; rw [F1.1]; exact a1
    · show h1.2.2.2 p 6 = _; rw [F1.2.1]; exact a5.1
    · show h1.1[p + 4]? = _; rw [F1.1]; exact a5.2
    · show u2 h1.2.1 44 2 (iz ((0 : Nat) : Int)) p 7 = _; rw [u2_ne p1.1.symm]; exact f7
    · show h1.2.2.2 p 0 = _ ∧ h1.1[p + 1]? = _; rw [F1.1, F1.2.1]; exact a2
    · show h1.2.2.2 p 1 = _ ∧ h1.1[p + 2]? = _; rw [F1.1, F1.2.1]; exact a3
    · show h1.2.2.2 p 2 = _ ∧ h1.1[p + 3]? = _; rw [F1.1, F1.2.1]; exact a4
    · show u2 h1.2.1 44 2 (iz ((0 : Nat) : Int)) (p + 1) j = _; rw [u2_ne p1.2.2.1]; exact f1 j hj
    · show u2 h1.2.1 44 2 (iz ((0 : Nat) : Int)) (p + 2) j = _; rw [u2_ne p1.2.2.2.1]; exact f2 j hj
    · show u2 h1.2.1 44 2 (iz ((0 : Nat) : Int)) (p + 3) j = _; rw [u2_ne p1.2.2.2.2]; exact f3 j hj
    · show u2 h1.2.1 44 2 (iz ((0 : Nat) : Int)) p 3 = _; rw [u2_ne p1.1.symm]; exact f4
    · show u2 h1.2.1 44 2 (iz ((0 : Nat) : Int)) p 4 = _; rw [u2_ne p1.1.symm]; exact f5
    · show u2 h1.2.1 44 2 (iz ((0 : Nat) : Int)) p 5 = _; rw [u2_ne p1.1.symm]; exact f6
  obtain ⟨h', e', c', F'⟩ := l_faultIn_11 (N := N) q hN h 10 1 N (pm h1 0) 0 D0 [] (by omega) (by omega) (by omega) c (by simp) (F1.tr (FL.pm q))
  refine ⟨h', ?_, c', F'⟩
  unfold f_X5_faultIn
  rw [bo (ck_q a1), bo e1, bo e2]
  exact e'
end
