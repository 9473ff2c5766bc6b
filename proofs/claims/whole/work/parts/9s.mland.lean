/-! the model's land -/
def LNs : List Nat := [12, 25, 26, 27, 29]
def LN (S : List Nat) (h h' : Mem) : Prop := h'.1 = h.1 ∧ h'.2.2 = h.2.2 ∧ (∀ i, i ≠ 71 → i ∉ S → h'.2.1 i = h.2.1 i) ∧ (∀ j, j ∉ LNs → h'.2.1 71 j = h.2.1 71 j) ∧ (h'.2.1 71 25 = h.2.1 71 38 ∧ h'.2.1 71 26 = h.2.1 71 39 ∧ h'.2.1 71 27 = h.2.1 71 40 ∧ h'.2.1 71 29 = iz 0 ∧ h'.2.1 71 12 = h.2.1 71 12 + 1)
theorem LN.wr_ {S : List Nat} {h h' : Mem} {a : Nat} {row : Nat → Int32} (l : LN S (wr h a row) h') (ha : a ∈ S) (h71 : a ≠ 71) : LN S h h' := by
  obtain ⟨l1, l2, l3, l4, l5⟩ := l
  have e : (wr h a row).2.1 71 = h.2.1 71 := wr_ne (fun z => h71 z.symm)
  rw [e] at l5
  exact ⟨l1, l2, fun i hi hs => (l3 i hi hs).trans (wr_ne (by rintro rfl; exact hs ha)), fun j hj => by rw [l4 j hj, e], l5⟩
theorem LN.sub {S S' : List Nat} {h h' : Mem} (l : LN S h h') (hs : ∀ i, i ∈ S → i ∈ S') : LN S' h h' := ⟨l.1, l.2.1, fun i h1 h2 => l.2.2.1 i h1 (fun z => h2 (hs i z)), l.2.2.2⟩
section
variable {N : Nat}
theorem m_land_130 : ∀ (d i n : Nat) (h : Mem), i + d = 3 → d < n → MSh h → (∀ j : Nat, j < i → h.2.1 86 j = h.2.1 92 j) → ∃ h', f_X10_land_130 N n 71 (iz (i : Int)) h = some (h.2.1 71 12 + 1, h') ∧ LN [81, 84, 85, 86] h h' ∧ (∀ j : Nat, j < 3 → h'.2.1 86 j = h.2.1 92 j) ∧ h'.2.1 81 = h.2.1 81 ∧ h'.2.1 84 = h.2.1 84 ∧ h'.2.1 85 = h.2.1 85 := by
  intro d
  induction d with
  | zero =>
    intro i n h hi hn S hr
    obtain ⟨n, rfl⟩ : ∃ k, n = k + 1 := ⟨n - 1, by omega⟩
    obtain rfl : i = 3 := by omega
    have S1 := S.fd_ (j := 25) (v := h.2.1 71 38)
    have S2 := S1.fd_ (j := 26) (v := h.2.1 71 39)
    have S3 := S2.fd_ (j := 27) (v := h.2.1 71 40)
    have S4 := S3.fd_ (j := 29) (v := iz 0)
    have S5 := S4.fd_ (j := 12) (v := h.2.1 71 12 + 1)
    generalize hh : fd (fd (fd (fd (fd h 25 (h.2.1 71 38)) 26 (h.2.1 71 39)) 27 (h.2.1 71 40)) 29 (iz 0)) 12 (h.2.1 71 12 + 1) = h' at S5
    have q : ∀ j, h'.2.1 71 j = if j = 12 then h.2.1 71 12 + 1 else if j = 29 then iz 0 else if j = 27 then h.2.1 71 40 else if j = 26 then h.2.1 71 39 else if j = 25 then h.2.1 71 38 else h.2.1 71 j := fun j => by rw [← hh, fd_at, fd_at, fd_at, fd_at, fd_at]
    have q2 : ∀ i, i ≠ 71 → h'.2.1 i = h.2.1 i := fun i hi => by rw [← hh, fd_ne hi, fd_ne hi, fd_ne hi, fd_ne hi, fd_ne hi]
    refine ⟨h', ?_, ⟨by rw [← hh]; rfl, by rw [← hh]; rfl, fun i h1 _ => q2 i h1, fun j hj => ?_, ?_, ?_, ?_, ?_, ?_⟩, fun j hj => by rw [q2 86 (by decide)]; exact hr j hj, q2 81 (by decide), q2 84 (by decide), q2 85 (by decide)⟩
    · rw [f_X10_land_130]
      refine (if_pos (by decide)).trans ?_
      rw [kmI S, ksI S, kmI S1, show (fd h 25 (h.2.1 71 38)).2.1 71 39 = h.2.1 71 39 from rfl, ksI S1, kmI S2, show (fd (fd h 25 (h.2.1 71 38)) 26 (h.2.1 71 39)).2.1 71 40 = h.2.1 71 40 from rfl, ksI S2, ksZ0 S3, kmI S4, show (fd (fd (fd (fd h 25 (h.2.1 71 38)) 26 (h.2.1 71 39)) 27 (h.2.1 71 40)) 29 (iz 0)).2.1 71 12 = h.2.1 71 12 from rfl, ksI S4, hh, kmI S5, q 12]
      rfl
    · rw [q j, if_neg (by rintro rfl; exact hj (by decide)), if_neg (by rintro rfl; exact hj (by decide)), if_neg (by rintro rfl; exact hj (by decide)), if_neg (by rintro rfl; exact hj (by decide)), if_neg (by rintro rfl; exact hj (by decide))]
    · rw [q]; rfl
    · rw [q]; rfl
    · rw [q]; rfl
    · rw [q]; rfl
    · rw [q]; rfl
  | succ d ih =>
    intro i n h hi hn S hr
    obtain ⟨n, rfl⟩ : ∃ k, n = k + 1 := ⟨n - 1, by omega⟩
    have S1 := S.wr_ (a := 86) (row := upd (h.2.1 86) i (h.2.1 92 i))
    have r92 : (wr h 86 (upd (h.2.1 86) i (h.2.1 92 i))).2.1 92 = h.2.1 92 := wr_ne (by decide)
    obtain ⟨h', e, l, r1, r2, r3, r4⟩ := ih (i + 1) n (wr h 86 (upd (h.2.1 86) i (h.2.1 92 i))) (by omega) (by omega) S1 (fun j hj => by
      rw [wr_eq, upd_at, r92]
      split
      · rename_i z; rw [z]
      · exact hr j (by omega))
    rw [r92] at r1
    refine ⟨h', ?_, l.wr_ (by decide) (by decide), r1, r2.trans (wr_ne (by decide)), r3.trans (wr_ne (by decide)), r4.trans (wr_ne (by decide))⟩
    rw [f_X10_land_130]
    refine (if_neg (by rw [il3, iz_le (by omega) (by omega) (by omega) (by omega)]; omega)).trans ?_
    rw [kr86 S, kr92 S, kl92 S (by omega) (by omega), ks86 S (by omega) (by omega), toN, il1, iz_add]
    exact e
theorem m_land_104 : ∀ (d i n : Nat) (h : Mem), i + d = 16 → d < n → 3 < N → MSh h → (∀ j : Nat, j < i → h.2.1 85 j = h.2.1 91 j) → ∃ h', f_X10_land_104 N n 71 (iz (i : Int)) h = some (h.2.1 71 12 + 1, h') ∧ LN [81, 84, 85, 86] h h' ∧ (∀ j : Nat, j < 3 → h'.2.1 86 j = h.2.1 92 j) ∧ (∀ j : Nat, j < 16 → h'.2.1 85 j = h.2.1 91 j) ∧ h'.2.1 81 = h.2.1 81 ∧ h'.2.1 84 = h.2.1 84 := by
  intro d
  induction d with
  | zero =>
    intro i n h hi hn hN S hr
    obtain ⟨n, rfl⟩ : ∃ k, n = k + 1 := ⟨n - 1, by omega⟩
    obtain rfl : i = 16 := by omega
    obtain ⟨h', e, l, r1, r2, r3, r4⟩ := m_land_130 (N := N) 3 0 N h (by omega) (by omega) S (fun j hj => by omega)
    refine ⟨h', ?_, l, r1, fun j hj => by rw [r4]; exact hr j hj, r2, r3⟩
    rw [f_X10_land_104]
    exact (if_pos (by decide)).trans e
  | succ d ih =>
    intro i n h hi hn hN S hr
    obtain ⟨n, rfl⟩ : ∃ k, n = k + 1 := ⟨n - 1, by omega⟩
    have S1 := S.wr_ (a := 85) (row := upd (h.2.1 85) i (h.2.1 91 i))
    have r91 : (wr h 85 (upd (h.2.1 85) i (h.2.1 91 i))).2.1 91 = h.2.1 91 := wr_ne (by decide)
    obtain ⟨h', e, l, r1, r2, r3, r4⟩ := ih (i + 1) n (wr h 85 (upd (h.2.1 85) i (h.2.1 91 i))) (by omega) (by omega) hN S1 (fun j hj => by
      rw [wr_eq, upd_at, r91]
      split
      · rename_i z; rw [z]
      · exact hr j (by omega))
    rw [r91] at r2
    refine ⟨h', ?_, l.wr_ (by decide) (by decide), fun j hj => by rw [r1 j hj, wr_ne (show 92 ≠ 85 by decide)], r2, r3.trans (wr_ne (by decide)), r4.trans (wr_ne (by decide))⟩
    rw [f_X10_land_104]
    refine (if_neg (by rw [show (16 : Int32) = iz 16 from rfl, iz_le (by omega) (by omega) (by omega) (by omega)]; omega)).trans ?_
    rw [kr85 S, kr91 S, kl91 S (by omega) (by omega), ks85 S (by omega) (by omega), toN, il1, iz_add]
    exact e
theorem m_land_78 : ∀ (d i n : Nat) (h : Mem), i + d = 12 → d < n → 20 < N → MSh h → (∀ j : Nat, j < i → h.2.1 84 j = h.2.1 90 j) → ∃ h', f_X10_land_78 N n 71 (iz (i : Int)) h = some (h.2.1 71 12 + 1, h') ∧ LN [81, 84, 85, 86] h h' ∧ (∀ j : Nat, j < 3 → h'.2.1 86 j = h.2.1 92 j) ∧ (∀ j : Nat, j < 16 → h'.2.1 85 j = h.2.1 91 j) ∧ (∀ j : Nat, j < 12 → h'.2.1 84 j = h.2.1 90 j) ∧ h'.2.1 81 = h.2.1 81 := by
  intro d
  induction d with
  | zero =>
    intro i n h hi hn hN S hr
    obtain ⟨n, rfl⟩ : ∃ k, n = k + 1 := ⟨n - 1, by omega⟩
    obtain rfl : i = 12 := by omega
    obtain ⟨h', e, l, r1, r2, r3, r4⟩ := m_land_104 (N := N) 16 0 N h (by omega) (by omega) (by omega) S (fun j hj => by omega)
    refine ⟨h', ?_, l, r1, r2, fun j hj => by rw [r4]; exact hr j hj, r3⟩
    rw [f_X10_land_78]
    exact (if_pos (by decide)).trans e
  | succ d ih =>
    intro i n h hi hn hN S hr
    obtain ⟨n, rfl⟩ : ∃ k, n = k + 1 := ⟨n - 1, by omega⟩
    have S1 := S.wr_ (a := 84) (row := upd (h.2.1 84) i (h.2.1 90 i))
    have r90 : (wr h 84 (upd (h.2.1 84) i (h.2.1 90 i))).2.1 90 = h.2.1 90 := wr_ne (by decide)
    obtain ⟨h', e, l, r1, r2, r3, r4⟩ := ih (i + 1) n (wr h 84 (upd (h.2.1 84) i (h.2.1 90 i))) (by omega) (by omega) hN S1 (fun j hj => by
      rw [wr_eq, upd_at, r90]
      split
      · rename_i z; rw [z]
      · exact hr j (by omega))
    rw [r90] at r3
    refine ⟨h', ?_, l.wr_ (by decide) (by decide), fun j hj => by rw [r1 j hj, wr_ne (show 92 ≠ 84 by decide)], fun j hj => by rw [r2 j hj, wr_ne (show 91 ≠ 84 by decide)], r3, r4.trans (wr_ne (by decide))⟩
    rw [f_X10_land_78]
    refine (if_neg (by rw [show (12 : Int32) = iz 12 from rfl, iz_le (by omega) (by omega) (by omega) (by omega)]; omega)).trans ?_
    rw [kr84 S, kr90 S, kl90 S (by omega) (by omega), ks84 S (by omega) (by omega), toN, il1, iz_add]
    exact e
theorem m_land_45 {L : Nat} (hL : L ≤ 120) : ∀ (d i n : Nat) (h : Mem), i + d = L → d < n → 20 < N → MSh h → h.2.1 82 1 = iz (L : Int) → (∀ j : Nat, j < i → h.2.1 81 j = h.2.1 81 (120 + j)) → ∃ h', f_X10_land_45 N n 71 (iz (i : Int)) h = some (h.2.1 71 12 + 1, h') ∧ LN [81, 84, 85, 86] h h' ∧ (∀ j : Nat, j < 3 → h'.2.1 86 j = h.2.1 92 j) ∧ (∀ j : Nat, j < 16 → h'.2.1 85 j = h.2.1 91 j) ∧ (∀ j : Nat, j < 12 → h'.2.1 84 j = h.2.1 90 j) ∧ (∀ j : Nat, j < L → h'.2.1 81 j = h.2.1 81 (120 + j)) := by
  intro d
  induction d with
  | zero =>
    intro i n h hi hn hN S hs hr
    obtain ⟨n, rfl⟩ : ∃ k, n = k + 1 := ⟨n - 1, by omega⟩
    obtain rfl : i = L := by omega
    obtain ⟨h', e, l, r1, r2, r3, r4⟩ := m_land_78 (N := N) 12 0 N h (by omega) (by omega) (by omega) S (fun j hj => by omega)
    refine ⟨h', ?_, l, r1, r2, r3, fun j hj => by rw [r4]; exact hr j hj⟩
    rw [f_X10_land_45, kr82 S, il1, kl82 S (by omega) (by omega), show (1 : Int).toNat = 1 from rfl, hs]
    exact (if_pos (Int32.le_refl _)).trans e
  | succ d ih =>
    intro i n h hi hn hN S hs hr
    obtain ⟨n, rfl⟩ : ∃ k, n = k + 1 := ⟨n - 1, by omega⟩
    have S1 := S.wr_ (a := 81) (row := upd (h.2.1 81) i (h.2.1 81 (120 + i)))
    have x81 : ∀ j, 120 ≤ j → (wr h 81 (upd (h.2.1 81) i (h.2.1 81 (120 + i)))).2.1 81 j = h.2.1 81 j := fun j hj => by rw [wr_eq, upd_at, if_neg (by omega)]
    obtain ⟨h', e, l, r1, r2, r3, r4⟩ := ih (i + 1) n (wr h 81 (upd (h.2.1 81) i (h.2.1 81 (120 + i)))) (by omega) (by omega) hN S1 (by rw [wr_ne (by decide)]; exact hs) (fun j hj => by
      rw [x81 (120 + j) (by omega), wr_eq, upd_at]
      split
      · rename_i z; rw [z]
      · exact hr j (by omega))
    refine ⟨h', ?_, l.wr_ (by decide) (by decide), fun j hj => by rw [r1 j hj, wr_ne (show 92 ≠ 81 by decide)], fun j hj => by rw [r2 j hj, wr_ne (show 91 ≠ 81 by decide)], fun j hj => by rw [r3 j hj, wr_ne (show 90 ≠ 81 by decide)], fun j hj => by rw [r4 j hj, x81 _ (by omega)]⟩
    rw [f_X10_land_45, kr82 S, show (1 : Int32) = iz 1 from rfl, kl82 S (by omega) (by omega), show (1 : Int).toNat = 1 from rfl, hs]
    refine (if_neg (by rw [iz_le (by omega) (by omega) (by omega) (by omega)]; omega)).trans ?_
    rw [kr81 S, kr81 S, show (120 : Int32) = iz 120 from rfl, iz_add, kl81 S (by omega) (by omega), ks81 S (by omega) (by omega), toN, show ((120 : Int) + (i : Int)).toNat = 120 + i by omega, iz_add]
    exact e
end
