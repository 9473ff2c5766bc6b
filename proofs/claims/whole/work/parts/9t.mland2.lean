section
variable {h : Mem} {V : Vw} {N L : Nat} {x : Nat → Int}
theorem RepM.pt {h h' : Mem} {V : Vw} (R : RepM h V) (e1 : h'.1 = h.1) (e2 : h'.2.2.2 = h.2.2.2) (e3 : ∀ i, (72 ≤ i ∧ i ≤ 80) ∨ (84 ≤ i ∧ i ≤ 87) → h'.2.1 i = h.2.1 i) (e5 : ∀ j, j < 120 → h'.2.1 81 j = h.2.1 81 j) (e6 : h'.2.1 82 0 = h.2.1 82 0) (f : ∀ j, j ∈ dpF → h'.2.1 71 j = h.2.1 71 j) : RepM h' V := by
  obtain ⟨r1, ⟨r2, r2'⟩, r3, r4, r5, r6, ⟨r7, r8, r9⟩, r10, r11⟩ := R
  refine ⟨r1.eq e1 e2, ⟨by rw [f _ (by decide)]; exact r2, by rw [f _ (by decide)]; exact r2'⟩, fun k hk j hj => by rw [e3 (72 + k) (by omega)]; exact r3 k hk j hj, fun j hj => by rw [e3 84 (by omega)]; exact r4 j hj, fun j hj => by rw [e3 85 (by omega)]; exact r5 j hj, fun j hj => by rw [e3 86 (by omega)]; exact r6 j hj, ⟨by rw [f _ (by decide)]; exact r7, by rw [f _ (by decide)]; exact r8, by rw [f _ (by decide)]; exact r9⟩, ?_, ?_⟩
  · obtain ⟨x, L, la, g1, g2, g3, g4, g5, g6⟩ := r10
    exact ⟨x, L, la, fun j hj => by rw [e5 j (by omega)]; exact g1 j hj, by rw [e6]; exact g2, g3, g4, by rw [f 12 (by decide)]; exact g5, g6⟩
  · unfold cacheOK at *; rw [f 29 (by decide), e3 87 (by omega)]; exact r11
/-- whatever the facts, the program of a faultless text runs -/
theorem run_all (hN : 200 ≤ N) (S : MSh h) (ht : ∀ j : Nat, j < L → h.2.1 81 (120 + j) = iz (sb (x j))) (hL : L ≤ 120) (hx : ∀ j : Nat, 0 ≤ x j ∧ x j ≤ 255) (hf : (faultS x L).1 = -1) {s i t n : Int} (b1 : ib s) (b2 : ib i) (b3 : ib t) (b4 : ib n) : ∃ sm : Int, run s i t n (faultS x L).2.2 (0, 0) = some (sm, 0) ∧ 0 ≤ sm ∧ sm ≤ 9990 := by
  have S1 := S.wr_ (a := 82) (row := fun _ => iz (L : Int))
  have S2 := S1.wr_ (a := 83) (row := fun j => if j = 0 then iz s else if j = 1 then iz i else if j = 2 then iz t else iz n)
  have e83 : (wr (wr h 82 (fun _ => iz (L : Int))) 83 (fun j => if j = 0 then iz s else if j = 1 then iz i else if j = 2 then iz t else iz n)).2.1 83 = fun j => if j = 0 then iz s else if j = 1 then iz i else if j = 2 then iz t else iz n := wr_eq
  obtain ⟨h', _, _, c, _⟩ := m_goes (N := N) (s := s) (i := i) (t := t) (n := n) (x := x) (L := L) hN (w := 1) (by decide) S2 (fun j hj => by rw [wr_ne (by decide), wr_ne (by decide)]; exact ht j hj) (by rw [wr_ne (by decide), wr_eq]) hL hx ⟨by rw [e83]; rfl, by rw [e83]; rfl, by rw [e83]; rfl, by rw [e83]; rfl, b1, b2, b3, b4⟩
  obtain ⟨sm, to, z1, z2⟩ := c hf
  exact ⟨sm, to.2.2.2.2.2.2.2, z1, z2⟩
def LX : List Nat := [71, 81, 82, 84, 85, 86]
theorem LX_sub : ∀ i, i ∈ [81, 84, 85, 86] → i ∈ LX := by decide
theorem m_land (hN : 300 ≤ N) (S : MSh h) (e13 : h.2.1 71 13 = iz (L : Int)) (ht : ∀ j : Nat, j < L → h.2.1 81 (120 + j) = iz (sb (x j))) (hL : L ≤ 120) (hx : ∀ j : Nat, 0 ≤ x j ∧ x j ≤ 255) : ∃ h', f_X10_land N 71 h = some (if (faultS x L).1 = -1 then h.2.1 71 12 + 1 else iz (-10) - iz (faultS x L).1, h') ∧ (h'.1 = h.1 ∧ h'.2.2 = h.2.2 ∧ (∀ i, i ∉ LX → i ∉ sgQ → h'.2.1 i = h.2.1 i) ∧ h'.2.1 87 = h.2.1 87 ∧ h'.2.1 71 13 = iz 0 ∧ ∀ j, j ≠ 13 → j ∉ sgPF → j ∉ LNs → h'.2.1 71 j = h.2.1 71 j) ∧ ((faultS x L).1 ≠ -1 → (∀ i, i = 81 ∨ i = 84 ∨ i = 85 ∨ i = 86 → h'.2.1 i = h.2.1 i) ∧ h'.2.1 82 0 = h.2.1 82 0 ∧ ∀ j, j ∈ LNs → h'.2.1 71 j = h.2.1 71 j) ∧ ((faultS x L).1 = -1 → (∀ j : Nat, j < L → h'.2.1 81 j = iz (sb (x j))) ∧ h'.2.1 82 0 = iz (L : Int) ∧ (∀ j : Nat, j < 12 → h'.2.1 84 j = iz ((faultS x L).2.1 9 j)) ∧ (∀ j : Nat, j < 16 → h'.2.1 85 j = iz ((faultS x L).2.1 10 j)) ∧ (∀ j : Nat, j < 3 → h'.2.1 86 j = iz ((faultS x L).2.1 11 j)) ∧ h'.2.1 71 25 = iz ((faultS x L).2.1 12 0) ∧ h'.2.1 71 26 = iz (duC ((faultS x L).2.1 12 1)) ∧ h'.2.1 71 27 = iz (piC ((faultS x L).2.1 12 2)) ∧ h'.2.1 71 29 = iz 0 ∧ h'.2.1 71 12 = h.2.1 71 12 + 1) := by
  have S1 := S.wr_ (a := 82) (row := upd (h.2.1 82) 1 (iz (L : Int)))
  have S2 := S1.fd_ (j := 13) (v := iz 0)
  generalize hh : fd (wr h 82 (upd (h.2.1 82) 1 (iz (L : Int)))) 13 (iz 0) = h2 at S2
  have q1 : h2.1 = h.1 := by rw [← hh]; rfl
  have q2 : h2.2.2 = h.2.2 := by rw [← hh]; rfl
  have q3 : ∀ i, i ≠ 71 → i ≠ 82 → h2.2.1 i = h.2.1 i := fun i a b => by rw [← hh, fd_ne a, wr_ne b]
  have q4 : h2.2.1 82 = upd (h.2.1 82) 1 (iz (L : Int)) := by rw [← hh, fd_ne (by decide), wr_eq]
  have q5 : ∀ j, j ≠ 13 → h2.2.1 71 j = h.2.1 71 j := fun j hj => by rw [← hh, fd_at, if_neg hj, wr_ne (by decide)]
  have q6 : h2.2.1 71 13 = iz 0 := by rw [← hh, fd_at, if_pos rfl]
  have tz : ∀ v : Int32, ∃ z : Int, v = iz z ∧ ib z := fun v => ⟨v.toInt, (by rw [← Int32.toInt_inj, iz_toInt (Int32.le_toInt v) (Int32.toInt_lt v)]), Int32.le_toInt v, Int32.toInt_lt v⟩
  obtain ⟨s, s1, s2⟩ := tz (h2.2.1 83 0)
  obtain ⟨i, i1, i2⟩ := tz (h2.2.1 83 1)
  obtain ⟨t, t1, t2⟩ := tz (h2.2.1 83 2)
  obtain ⟨n, n1, n2⟩ := tz (h2.2.1 83 3)
  obtain ⟨h3, e3, f3, c3, d3, r87⟩ := m_goes (N := N) (s := s) (i := i) (t := t) (n := n) (x := x) (L := L) (by omega) (w := 1) (by decide) S2 (fun j hj => by rw [q3 81 (by decide) (by decide)]; exact ht j hj) (by rw [q4, upd_at, if_pos rfl]) hL hx ⟨s1, i1, t1, n1, s2, i2, t2, n2⟩
  obtain ⟨u1, u2', u3, u4⟩ := f3
  have S3 : MSh h3 := S2.eq u1 (by rw [u2'])
  have pre : f_X10_land N 71 h = (b2 (f_X10_goes N 71 (1 : Int32) h2) fun t12 h11 => if t12 = 0 then (gI h11 71 10 19).bind fun t22 => some (((-10 : Int32) - t22), h11) else (gR h11 71 10 15).bind fun t14 => (gR h11 71 10 15).bind fun t16 => (lI 100 h11 t16 (1 : Int32)).bind fun t18 => (stI 100 h11 t14 (0 : Int32) t18).bind fun h20 => f_X10_land_45 N N 71 (0 : Int32) h20) := by
    unfold f_X10_land
    rw [kr82 S, kmI S, e13, show (1 : Int32) = iz 1 from rfl, ks82 S (by omega) (by omega), show (1 : Int).toNat = 1 from rfl, ksI S1, show (0 : Int32) = iz 0 from rfl, hh, kmC S2]
  have e3' : f_X10_goes N 71 (1 : Int32) h2 = _ := e3
  rw [pre, bq e3']
  by_cases hf : (faultS x L).1 = -1
  · rw [decide_eq_true hf, if_pos hf]
    obtain ⟨sm, ⟨o1, o2, o3, o4, o5, o6, _, _⟩, _, _⟩ := c3 hf
    have S4 := S3.wr_ (a := 82) (row := upd (h3.2.1 82) 0 (h3.2.1 82 1))
    have v82 : h3.2.1 82 1 = iz (L : Int) := by rw [u3 82 (by decide) (by decide), q4, upd_at, if_pos rfl]
    have g81 : (wr h3 82 (upd (h3.2.1 82) 0 (h3.2.1 82 1))).2.1 81 = h.2.1 81 := by rw [wr_ne (by decide), u3 81 (by decide) (by decide), q3 81 (by decide) (by decide)]
    have g71 : (wr h3 82 (upd (h3.2.1 82) 0 (h3.2.1 82 1))).2.1 71 = h3.2.1 71 := wr_ne (by decide)
    obtain ⟨h4, e4, ⟨l1, l2, l3, l4, l5, l6, l7, l8, l9⟩, k1, k2, k3, k4⟩ := m_land_45 (N := N) hL L 0 N (wr h3 82 (upd (h3.2.1 82) 0 (h3.2.1 82 1))) (by omega) (by omega) (by omega) S4 (by rw [wr_eq, upd_at, if_neg (by decide), v82]) (fun j hj => by omega)
    rw [g71] at e4 l4 l5 l6 l7 l9
    have z12 : h3.2.1 71 12 = h.2.1 71 12 := by rw [u4 12 (by decide), q5 12 (by decide)]
    refine ⟨h4, ?_, ⟨l1.trans (u1.trans q1), l2.trans (u2'.trans q2), fun i a b => ?_, ?_, ?_, fun j a b c => ?_⟩, fun z => absurd hf z, fun _ => ⟨fun j hj => ?_, ?_, fun j hj => ?_, fun j hj => ?_, fun j hj => ?_, ?_, ?_, ?_, l8, ?_⟩⟩
    · refine (if_neg (by decide)).trans ?_
      rw [kr82 S3, kr82 S3, show (1 : Int32) = iz 1 from rfl, kl82 S3 (by omega) (by omega), show (1 : Int).toNat = 1 from rfl, show (0 : Int32) = iz 0 from rfl, ks82 S3 (by omega) (by omega), show (0 : Int).toNat = 0 from rfl]
      refine e4.trans ?_
      rw [z12]; rfl
    · have a71 : i ≠ 71 := fun z => a (by rw [z]; decide)
      have a82 : i ≠ 82 := fun z => a (by rw [z]; decide)
      rw [l3 i a71 (fun z => a (LX_sub i z)), wr_ne a82, u3 i a71 b, q3 i a71 a82]
    · rw [l3 87 (by decide) (by decide), wr_ne (by decide), r87, q3 87 (by decide) (by decide)]
    · rw [l4 13 (by decide), u4 13 (by decide), q6]
    · rw [l4 j c, u4 j b, q5 j a]
    · rw [k4 j hj, g81]; exact ht j hj
    · rw [l3 82 (by decide) (by decide), wr_eq, upd_at, if_pos rfl, v82]
    · rw [k3 j hj, wr_ne (by decide)]; exact o1 j hj
    · rw [k2 j hj, wr_ne (by decide)]; exact o2 j hj
    · rw [k1 j hj, wr_ne (by decide)]; exact o3 j hj
    · rw [l5]; exact o4
    · rw [l6]; exact o5
    · rw [l7]; exact o6
    · rw [l9, z12]
  · rw [decide_eq_false hf, if_neg hf]
    refine ⟨h3, ?_, ⟨u1.trans q1, u2'.trans q2, fun i a b => ?_, ?_, ?_, fun j a b c => ?_⟩, fun _ => ⟨fun i hi => ?_, ?_, fun j hj => ?_⟩, fun z => absurd z hf⟩
    · refine (if_pos (by decide)).trans ?_
      rw [kmI S3, d3 hf]
      rfl
    · have a71 : i ≠ 71 := fun z => a (by rw [z]; decide)
      have a82 : i ≠ 82 := fun z => a (by rw [z]; decide)
      rw [u3 i a71 b, q3 i a71 a82]
    · rw [r87, q3 87 (by decide) (by decide)]
    · rw [u4 13 (by decide), q6]
    · rw [u4 j b, q5 j a]
    · rw [u3 i (by omega) (by rcases hi with rfl | rfl | rfl | rfl <;> decide), q3 i (by omega) (by omega)]
    · rw [u3 82 (by decide) (by decide), q4, upd_at, if_neg (by decide)]
    · rw [u4 j (by revert j; decide), q5 j (by rintro rfl; exact absurd hj (by decide))]
end
