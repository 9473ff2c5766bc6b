theorem and255 (x : Int32) : ∃ c : Nat, c < 256 ∧ x &&& 255 = iz (c : Int) ∧ Int32.toInt8 x = Int32.toInt8 (iz (c : Int)) := by
  have hb : (x &&& 255).toBitVec.toNat = x.toBitVec.toNat % 256 := by
    rw [Int32.toBitVec_and, BitVec.toNat_and]
    exact Nat.and_two_pow_sub_one_eq_mod _ 8
  have hi : (x &&& 255).toInt = (x.toBitVec.toNat % 256 : Nat) := by
    show (x &&& 255).toBitVec.toInt = _
    rw [BitVec.toInt_eq_toNat_cond, hb]
    exact if_pos (by omega)
  have hz : x &&& 255 = iz ((x.toBitVec.toNat % 256 : Nat) : Int) := by
    rw [← Int32.toInt_inj, hi, iz_toInt (by omega) (by omega)]
  refine ⟨x.toBitVec.toNat % 256, by omega, hz, ?_⟩
  rw [← hz, ← Int8.toInt_inj, Int32.toInt_toInt8, Int32.toInt_toInt8, hi]
  have hx : x.toInt = if 2 * x.toBitVec.toNat < 2 ^ 32 then (x.toBitVec.toNat : Int) else (x.toBitVec.toNat : Int) - (2 ^ 32 : Nat) := BitVec.toInt_eq_toNat_cond x.toBitVec
  rw [Int.bmod_def, Int.bmod_def]
  have : x.toInt % 256 = (x.toBitVec.toNat : Int) % 256 := by
    rw [hx]; split <;> omega
  have e2 : (((x.toBitVec.toNat % 256 : Nat)) : Int) % 256 = (x.toBitVec.toNat : Int) % 256 := by omega
  show (if x.toInt % 256 < ((256 : Nat) + 1 : Int) / 2 then x.toInt % 256 else x.toInt % 256 - 256) = (if ((x.toBitVec.toNat % 256 : Nat) : Int) % 256 < ((256 : Nat) + 1 : Int) / 2 then ((x.toBitVec.toNat % 256 : Nat) : Int) % 256 else ((x.toBitVec.toNat % 256 : Nat) : Int) % 256 - 256)
  rw [this, e2]
theorem fby_dec : ∀ c : Nat, c < 256 → ((Int32.toUInt32 (iz (c : Int))) % 65536).toInt32 = iz (c : Int) ∧ vp_nar .char (iz (c : Int)) = iz (c : Int) ∧ (Int32.toInt8 (iz (c : Int))).toInt32 = iz (sb (c : Int)) := by decide +kernel
def fby (v : Int32) (k : Int) : Int := ((v >>> (((8 : Int32) * iz k) &&& 31)) &&& 255).toInt
theorem fby_all (v : Int32) (k : Int) : (0 ≤ fby v k ∧ fby v k ≤ 255) ∧ ((Int32.toUInt32 ((v >>> (((8 : Int32) * iz k) &&& 31)) &&& (255 : Int32))) % 65536).toInt32 = iz (fby v k) ∧ vp_nar .char (iz (fby v k)) = iz (fby v k) ∧ (Int32.toInt8 (v >>> (((8 : Int32) * iz k) &&& 31))).toInt32 = iz (sb (fby v k)) := by
  obtain ⟨c, hc, e1, e2⟩ := and255 (v >>> (((8 : Int32) * iz k) &&& 31))
  have hb : fby v k = (c : Int) := by
    unfold fby
    rw [e1, iz_toInt (by omega) (by omega)]
  obtain ⟨d1, d2, d3⟩ := fby_dec c hc
  rw [hb, e1, e2]
  exact ⟨by omega, d1, d2, d3⟩
def FED (h h' : Mem) : Prop := h'.1 = h.1 ∧ h'.2.2 = h.2.2 ∧ (∀ i, i ≠ 44 → i ≠ 45 → i ≠ 71 → i ≠ 81 → h'.2.1 i = h.2.1 i) ∧ (∀ j, j ≠ 13 → h'.2.1 71 j = h.2.1 71 j) ∧ ∀ j, j < 120 → h'.2.1 81 j = h.2.1 81 j
theorem FED.tr {h h1 h2 : Mem} (a : FED h h1) (b : FED h1 h2) : FED h h2 := ⟨b.1.trans a.1, b.2.1.trans a.2.1, fun i x y z w => (b.2.2.1 i x y z w).trans (a.2.2.1 i x y z w), fun j q => (b.2.2.2.1 j q).trans (a.2.2.2.1 j q), fun j q => (b.2.2.2.2 j q).trans (a.2.2.2.2 j q)⟩
theorem FED.repM {h h' : Mem} {V : Vw} (e : FED h h') (R : RepM h V) : RepM h' V := by
  obtain ⟨r1, ⟨r2, r2'⟩, r3, r4, r5, r6, ⟨r7, r8, r9⟩, r10, r11⟩ := R
  have f : ∀ j, j ≠ 13 → h'.2.1 71 j = h.2.1 71 j := e.2.2.2.1
  have g : ∀ i, i ≠ 44 → i ≠ 45 → i ≠ 71 → i ≠ 81 → h'.2.1 i = h.2.1 i := e.2.2.1
  refine ⟨r1.eq e.1 (by rw [e.2.1]), ⟨by rw [f _ (by decide)]; exact r2, by rw [f _ (by decide)]; exact r2'⟩, fun k hk j hj => by rw [g (72 + k) (by omega) (by omega) (by omega) (by omega)]; exact r3 k hk j hj, fun j hj => by rw [g 84 (by omega) (by omega) (by omega) (by omega)]; exact r4 j hj, fun j hj => by rw [g 85 (by omega) (by omega) (by omega) (by omega)]; exact r5 j hj, fun j hj => by rw [g 86 (by omega) (by omega) (by omega) (by omega)]; exact r6 j hj, ⟨by rw [f _ (by decide)]; exact r7, by rw [f _ (by decide)]; exact r8, by rw [f _ (by decide)]; exact r9⟩, ?_, ?_⟩
  · obtain ⟨x, L, la, g1, g2, g3, g4, g5, g6⟩ := r10
    exact ⟨x, L, la, fun j hj => by rw [e.2.2.2.2 j (by omega)]; exact g1 j hj, by rw [g 82 (by omega) (by omega) (by omega) (by omega)]; exact g2, g3, g4, by rw [f 12 (by decide)]; exact g5, g6⟩
  · unfold cacheOK at *; rw [f 29 (by decide), g 87 (by omega) (by omega) (by omega) (by omega)]; exact r11
theorem REL.fed {h h' : Mem} {V : Vw} {p pd b : Nat} (r : REL h V p pd b) (e : FED h h') (t : TXT h') : REL h' V p pd b := by
  have cp := r.cp
  have pd' := r.pd
  obtain ⟨r1, r2, r3, r4, r5, r6, r7, ⟨x1, x2⟩, ⟨c1', c2'⟩, ⟨s1, k1, d1⟩, ⟨a1, a2, a3, ran, a4, a5, a6, a7⟩, _, ⟨y, y1, y2, y3⟩, ⟨la, la1, la2, la3⟩, ⟨nl, n1, n2, n3, n4, n5, n6⟩, p1, p2⟩ := r
  have g : ∀ i, i ≠ 44 → i ≠ 45 → i ≠ 71 → i ≠ 81 → h'.2.1 i = h.2.1 i := e.2.2.1
  have f : ∀ j, j ≠ 13 → h'.2.1 71 j = h.2.1 71 j := e.2.2.2.1
  have e3 : h'.2.2.2 = h.2.2.2 := by rw [e.2.1]
  have e4 : h'.2.2.1 = h.2.2.1 := by rw [e.2.1]
  have hp := cp.2
  have ct : ∀ c, CT h c → CT h' c := fun c t => by unfold CT at *; rw [e.1, e3]; exact t
  refine ⟨r1, rep_frame r2 e.1 (g 1 (by omega) (by omega) (by omega) (by omega)) (fun j hj => by have := ar_lt (k := j) c1 (by omega); exact g _ (by omega) (by omega) (by omega) (by omega)) (fun i hi => g _ (by omega) (by omega) (by omega) (by omega)) (by rw [e3]) (by rw [e3]), e.repM r3, r4, r5, by rw [e3]; exact r6, by unfold Lsh at *; rw [e.1, e3]; exact r7, ⟨by rw [e.1]; exact x1, by rw [e3]; exact x2⟩, ⟨ct _ c1', ct _ c2'⟩, ⟨s1.eq e.1 e3, k1.eq e.1 e3, d1.eq e.1 e3⟩, ⟨by rw [e.1]; exact a1, by rw [e3]; exact a2, by rw [e.1]; exact a3, ran, by rw [g 55 (by omega) (by omega) (by omega) (by omega)]; exact a4, by rw [f 55 (by decide)]; exact a5, a6, fun j hj hr => by rw [g 56 (by omega) (by omega) (by omega) (by omega), g 106 (by omega) (by omega) (by omega) (by omega)]; exact a7 j hj hr⟩, t, ⟨y, y1, by rw [g 0 (by omega) (by omega) (by omega) (by omega)]; exact y2, by rw [f 2 (by decide)]; exact y3⟩, ⟨la, la1, by rw [g 0 (by omega) (by omega) (by omega) (by omega)]; exact la2, by rw [f 12 (by decide)]; exact la3⟩, ⟨nl, n1, by rw [g 0 (by omega) (by omega) (by omega) (by omega)]; exact n2, by rw [f 50 (by decide)]; exact n3, by rw [e.1]; exact n4, by rw [e.1]; exact n5, fun k hk => ?_⟩, by rw [e.1]; exact p1, fun k hk => ?_⟩
  · obtain ⟨w, t', n, pr, q1, q2, q3, q4, q5, q6, q7, q8⟩ := n6 k hk
    refine ⟨w, t', n, pr, q1, q2, q3, q4, by rw [e3]; exact q5, by rw [e.1]; exact q6, by rw [g (111 + k) (by omega) (by omega) (by omega) (by omega)]; exact q7, ?_⟩
    rw [g 102 (by omega) (by omega) (by omega) (by omega), g 103 (by omega) (by omega) (by omega) (by omega), g 104 (by omega) (by omega) (by omega) (by omega), g 105 (by omega) (by omega) (by omega) (by omega)]; exact q8
  · obtain ⟨w1, w2, w3, w4, s, n, w5, w6, w7, w8, w12, w13⟩ := p2 k hk
    refine ⟨by rw [e3]; exact w1, by rw [e.1]; exact w2, by rw [e3]; exact w3, by rw [e.1]; exact w4, s, n, w5, w6, w7, ?_, fun j hj => by rw [e4]; exact w12 j hj, fun q j hj => by rw [e4]; exact w13 q j hj⟩
    rw [g (59 + 2 * k) (by omega) (by omega) (by omega) (by omega), g 107 (by omega) (by omega) (by omega) (by omega), g 108 (by omega) (by omega) (by omega) (by omega)]; exact w8
section
variable {h : Mem} {V : Vw} {p pd b N : Nat}
theorem l_append {h : Mem} {x : Nat → Int} {L : Nat} (t : RD0 h x L) (hL : L < 120) {c : Int} (hc : 0 ≤ c ∧ c ≤ 255) (hv : vp_nar .char (iz c) = iz c) : ∃ h1, f_X5_append N 44 (iz c) h = some h1 ∧ FED h h1 ∧ (∀ i, i ≠ 44 → i ≠ 45 → h1.2.1 i = h.2.1 i) ∧ RD0 h1 (fun j => if j = L then c else x j) (L + 1) := by
  obtain ⟨t1, t2, t3, t4, t5, t6, t7⟩ := t
  refine ⟨(h.1, u2 (u2 h.2.1 44 1 (iz ((L : Int) + 1))) 45 L (iz c), h.2.2.1, h.2.2.2), ?_, ⟨rfl, rfl, fun i i1 i2 i3 i4 => ?_, fun j hj => ?_, fun j hj => ?_⟩, fun i i1 i2 => ?_, t1, t2, t3, ?_, fun j hj => ?_, by omega, fun j => ?_⟩
  · unfold f_X5_append
    rw [bo (gI_q t1), t4]
    refine (if_neg (by rw [show (120 : Int32) = iz 120 from rfl, iz_le (by omega) (by omega) (by omega) (by omega)]; omega)).trans ?_
    rw [bo (gR_q t1 t2), bo (gI_q t1), t4, il1, iz_add, sI_c t1, hv]
    rw [bo (stI_q (h := ((h.1, u2 h.2.1 44 1 (iz ((L : Int) + 1)), h.2.2.1, h.2.2.2) : Mem)) t3 (i := (L : Int)) (by omega) (by omega) (by decide))]
    rfl
  · show u2 (u2 h.2.1 44 1 (iz ((L : Int) + 1))) 45 L (iz c) i = _
    rw [u2_ne i2, u2_ne i1]
  · show u2 (u2 h.2.1 44 1 (iz ((L : Int) + 1))) 45 L (iz c) 71 j = _
    rw [u2_ne (by decide), u2_ne (by decide)]
  · show u2 (u2 h.2.1 44 1 (iz ((L : Int) + 1))) 45 L (iz c) 81 j = _
    rw [u2_ne (by decide), u2_ne (by decide)]
  · show u2 (u2 h.2.1 44 1 (iz ((L : Int) + 1))) 45 L (iz c) i = _
    rw [u2_ne i2, u2_ne i1]
  · show u2 (u2 h.2.1 44 1 (iz ((L : Int) + 1))) 45 L (iz c) 44 1 = _
    rw [u2_ne (by decide), u2_at, if_pos rfl]; rfl
  · show u2 (u2 h.2.1 44 1 (iz ((L : Int) + 1))) 45 L (iz c) 45 j = _
    show _ = iz (if j = L then c else x j)
    rw [u2_at]
    by_cases z : j = L
    · rw [if_pos z, if_pos z]
    · rw [if_neg z, if_neg z, u2_ne (by decide)]
      exact t5 j (by omega)
  · show 0 ≤ (if j = L then c else x j) ∧ (if j = L then c else x j) ≤ 255
    split
    · exact hc
    · exact t7 j
theorem l_feed_33 (v : Int32) : ∀ (d n : Nat) (h : Mem) (x : Nat → Int) (L : Nat), X9S h → RD0 h x L → L + d ≤ 120 → d < n → ∃ h1, f_X9_feed_33 N n 0 v (iz ((d : Int) - 1)) h = some (iz ((L + d : Nat) : Int), h1) ∧ FED h h1 ∧ (∀ i, i ≠ 44 → i ≠ 45 → h1.2.1 i = h.2.1 i) ∧ RD0 h1 (fun j => if L ≤ j ∧ j < L + d then fby v ((L : Int) + d - 1 - j) else x j) (L + d) := by
  intro d
  induction d with
  | zero =>
    intro n h x L S t hL hn
    obtain ⟨n, rfl⟩ : ∃ k, n = k + 1 := ⟨n - 1, by omega⟩
    refine ⟨h, ?_, ⟨rfl, rfl, fun _ _ _ _ _ => rfl, fun _ _ => rfl, fun _ _ => rfl⟩, fun _ _ _ => rfl, ?_⟩
    · rw [f_X9_feed_33]
      refine (if_pos (by decide)).trans ?_
      rw [kn4 S, bo (gI_q t.1), t.2.2.2.1]
      rfl
    · rw [show (fun j => if L ≤ j ∧ j < L + 0 then fby v ((L : Int) + (0 : Nat) - 1 - (j : Nat)) else x j) = x from funext fun j => if_neg (by omega)]
      exact t
  | succ d ih =>
    intro n h x L S t hL hn
    obtain ⟨n, rfl⟩ : ∃ k, n = k + 1 := ⟨n - 1, by omega⟩
    obtain ⟨b1, b2', b3, b4⟩ := fby_all v (d : Int)
    obtain ⟨h1, e1, f1, g1, t1⟩ := l_append (N := N) t (by omega) b1 b3
    have S1 : X9S h1 := ⟨by rw [f1.1]; exact S.1, by rw [f1.2.1]; exact S.2⟩
    obtain ⟨h2, e2, f2, g2, t2⟩ := ih n h1 _ (L + 1) S1 t1 (by omega) (by omega)
    refine ⟨h2, ?_, f1.tr f2, fun i i1 i2 => (g2 i i1 i2).trans (g1 i i1 i2), ?_⟩
    · rw [f_X9_feed_33, show (((d + 1 : Nat) : Int)) - 1 = (d : Int) by omega]
      refine (if_neg (by rw [il0, iz_lt (by omega) (by omega) (by omega) (by omega)]; omega)).trans ?_
      rw [kn4 S, bo (ck_q t.1), b2', bo e1, show (-1 : Int32) = iz (-1) from rfl, iz_add, show (d : Int) + -1 = (d : Int) - 1 by omega, e2, show L + 1 + d = L + (d + 1) by omega]
    · rw [show L + (d + 1) = L + 1 + d by omega]
      have : (fun j : Nat => if L ≤ j ∧ j < L + 1 + d then fby v ((L : Int) + ((d + 1 : Nat) : Int) - 1 - (j : Int)) else x j) = (fun j : Nat => if L + 1 ≤ j ∧ j < L + 1 + d then fby v (((L + 1 : Nat) : Int) + (d : Int) - 1 - (j : Int)) else if j = L then fby v (d : Int) else x j) := funext fun j => by
        by_cases q : j = L
        · subst q
          rw [if_pos (by omega), if_neg (by omega), if_pos rfl]
          congr 1; omega
        · by_cases q2 : L + 1 ≤ j ∧ j < L + 1 + d
          · rw [if_pos (by omega), if_pos q2]
            congr 1; omega
          · rw [if_neg (by omega), if_neg q2, if_neg q]
      rw [this]
      exact t2
theorem m_feed_31 (v : Int32) : ∀ (d n : Nat) (h : Mem) (L : Nat), MSh h → h.2.1 71 13 = iz (L : Int) → L + d ≤ 120 → d < n → ∃ h2, f_X10_feed_31 N n 71 v (iz ((d : Int) - 1)) h = some (iz ((L + d : Nat) : Int), h2) ∧ FED h h2 ∧ (∀ i, i ≠ 71 → i ≠ 81 → h2.2.1 i = h.2.1 i) ∧ h2.2.1 71 13 = iz ((L + d : Nat) : Int) ∧ (∀ j, j < 120 + L → h2.2.1 81 j = h.2.1 81 j) ∧ ∀ j : Nat, L ≤ j → j < L + d → h2.2.1 81 (120 + j) = iz (sb (fby v ((L : Int) + d - 1 - j))) := by
  intro d
  induction d with
  | zero =>
    intro n h L S t hL hn
    obtain ⟨n, rfl⟩ : ∃ k, n = k + 1 := ⟨n - 1, by omega⟩
    refine ⟨h, ?_, ⟨rfl, rfl, fun _ _ _ _ _ => rfl, fun _ _ => rfl, fun _ _ => rfl⟩, fun _ _ _ => rfl, t, fun _ _ => rfl, fun j h1 h2 => by omega⟩
    rw [f_X10_feed_31]
    refine (if_pos (by decide)).trans ?_
    rw [kmI S, t]
    rfl
  | succ d ih =>
    intro n h L S t hL hn
    obtain ⟨n, rfl⟩ : ∃ k, n = k + 1 := ⟨n - 1, by omega⟩
    obtain ⟨b1, b2', b3, b4⟩ := fby_all v (d : Int)
    have S1 := S.wr_ (a := 81) (row := upd (h.2.1 81) (120 + L) (iz (sb (fby v (d : Int)))))
    have S2 := S1.fd_ (j := 13) (v := iz ((L : Int) + 1))
    have v1 : (wr h 81 (upd (h.2.1 81) (120 + L) (iz (sb (fby v (d : Int)))))).2.1 71 13 = iz (L : Int) := by rw [wr_ne (by decide)]; exact t
    obtain ⟨h2, e2, f2, g2, t2, r2, q2⟩ := ih n (fd (wr h 81 (upd (h.2.1 81) (120 + L) (iz (sb (fby v (d : Int)))))) 13 (iz ((L : Int) + 1))) (L + 1) S2 (by rw [fd_at, if_pos rfl]; rfl) (by omega) (by omega)
    have e81 : (fd (wr h 81 (upd (h.2.1 81) (120 + L) (iz (sb (fby v (d : Int)))))) 13 (iz ((L : Int) + 1))).2.1 81 = upd (h.2.1 81) (120 + L) (iz (sb (fby v (d : Int)))) := by rw [fd_ne (by decide), wr_eq]
    have f1 : FED h (fd (wr h 81 (upd (h.2.1 81) (120 + L) (iz (sb (fby v (d : Int)))))) 13 (iz ((L : Int) + 1))) := ⟨rfl, rfl, fun i i1 i2 i3 i4 => by rw [fd_ne i3, wr_ne i4], fun j hj => by rw [fd_at, if_neg hj, wr_ne (by decide)], fun j hj => by rw [e81, upd_at, if_neg (by omega)]⟩
    refine ⟨h2, ?_, f1.tr f2, fun i i1 i2 => by rw [g2 i i1 i2, fd_ne i1, wr_ne i2], by rw [t2]; congr 2; omega, fun j hj => by rw [r2 j (by omega), e81, upd_at, if_neg (by omega)], fun j j1 j2 => ?_⟩
    · rw [f_X10_feed_31, show (((d + 1 : Nat) : Int)) - 1 = (d : Int) by omega]
      refine (if_neg (by rw [il0, iz_lt (by omega) (by omega) (by omega) (by omega)]; omega)).trans ?_
      rw [kr81 S, kmI S, t, show (120 : Int32) = iz 120 from rfl, iz_add, b4, ks81 S (by omega) (by omega), show ((120 : Int) + (L : Int)).toNat = 120 + L by omega, kmI S1, v1, show (-1 : Int32) = iz (-1) from rfl, il1, iz_add, ksI S1, iz_add, show (d : Int) + -1 = (d : Int) - 1 by omega, e2, show L + 1 + d = L + (d + 1) by omega]
    · by_cases q : j = L
      · subst q
        rw [r2 _ (by omega), e81, upd_at, if_pos rfl]
        congr 3; omega
      · rw [q2 j (by omega) (by omega)]
        congr 3; omega
theorem t_feed (hN : 300 ≤ N) (r : REL h V p pd b) (v1 v2 : Int32) : CAL (f_X9_feed N 0 v1 v2 h) (f_X10_feed N 71 v1 v2) b := by
  obtain ⟨n, rfl, n1, n2⟩ := int_iz v2
  have M := r.2.2.1
  have S := r.2.2.2.2.2.2.2.1
  obtain ⟨x, L, t0, t1, t2⟩ := r.2.2.2.2.2.2.2.2.2.2.2.1
  have hL := t0.2.2.2.2.2.1
  have a1 := l_within (N := N) (h := h) (a := n) (b := 0) (c := 4) (by omega) (by omega) n1 n2
  by_cases hn : 0 ≤ n ∧ n ≤ 4
  · rw [decide_eq_true hn] at a1
    have prc : f_X9_feed N 0 v1 (iz n) h = if iz ((L : Int) + n) ≤ iz 120 then f_X9_feed_33 N N 0 v1 (iz (n - 1)) h else some ((-4 : Int32), h) := by
      unfold f_X9_feed
      rw [bq (show f_X9_within N (iz n) (0 : Int32) (4 : Int32) h = _ from a1)]
      refine (if_neg (by decide)).trans ?_
      rw [kn4 S, bo (gI_q t0.1), t0.2.2.2.1, iz_add, il1, iz_sub]
      rfl
    have pre : ∀ h1 : Mem, MSh h1 → h1.2.1 71 13 = iz (L : Int) → f_X10_feed N 71 v1 (iz n) h1 = if iz ((L : Int) + n) ≤ iz 120 then f_X10_feed_31 N N 71 v1 (iz (n - 1)) h1 else some ((-4 : Int32), h1) := by
      intro h1 S1 q1
      have b1 := m_inB (N := N) (h := h1) (a := n) (b := 0) (c := 4) (by omega) (by omega) n1 n2
      rw [decide_eq_true hn] at b1
      unfold f_X10_feed
      rw [kmC S1, bq (show f_X10_in N 71 (iz n) (0 : Int32) (4 : Int32) h1 = _ from b1)]
      refine (if_neg (by decide)).trans ?_
      rw [kmI S1, q1, iz_add, il1, iz_sub]
      rfl
    by_cases hm : (L : Int) + n ≤ 120
    · obtain ⟨d, rfl⟩ := Int.eq_ofNat_of_zero_le hn.1
      obtain ⟨h1, e1, f1, g1, q1⟩ := l_feed_33 (N := N) v1 d N h x L S t0 (by omega) (by omega)
      have M1 := f1.repM M
      have z13 : h1.2.1 71 13 = iz (L : Int) := by rw [g1 71 (by omega) (by omega)]; exact t1
      obtain ⟨h2, e2, f2, g2, q2, r2, s2⟩ := m_feed_31 (N := N) v1 d N h1 L M1.1 z13 (by omega) (by omega)
      have le : iz ((L : Int) + (d : Int)) ≤ iz 120 := by rw [iz_le (by omega) (by omega) (by omega) (by omega)]; exact hm
      refine ⟨iz ((L + d : Nat) : Int), h1, h2, V, p, pd, ?_, ?_, r.fed (f1.tr f2) ⟨_, L + d, ⟨?_, ?_, ?_, ?_, ?_, q1.2.2.2.2.2⟩, q2, fun j hj => ?_⟩⟩
      · rw [prc, if_pos le]; exact e1
      · rw [pre h1 M1.1 z13, if_pos le]; exact e2
      · rw [f2.1]; exact q1.1
      · rw [f2.2.1]; exact q1.2.1
      · rw [f2.1]; exact q1.2.2.1
      · rw [g2 44 (by decide) (by decide)]; exact q1.2.2.2.1
      · rw [g2 45 (by decide) (by decide)]; exact q1.2.2.2.2.1
      · by_cases z : L ≤ j
        · rw [s2 j z hj]
          show _ = iz (sb (if L ≤ j ∧ j < L + d then fby v1 ((L : Int) + d - 1 - j) else x j))
          rw [if_pos ⟨z, hj⟩]
        · rw [r2 _ (by omega), g1 81 (by decide) (by decide), t2 j (by omega)]
          show _ = iz (sb (if L ≤ j ∧ j < L + d then fby v1 ((L : Int) + d - 1 - j) else x j))
          rw [if_neg (by omega)]
    · have le : ¬ (iz ((L : Int) + n) ≤ iz 120) := by rw [iz_le (by omega) (by omega) (by omega) (by omega)]; exact hm
      refine r.same_ (z := (-4 : Int32)) ?_ ?_
      · rw [prc, if_neg le]
      · rw [pre h M.1 t1, if_neg le]
  · rw [decide_eq_false hn] at a1
    have b1 := m_inB (N := N) (h := h) (a := n) (b := 0) (c := 4) (by omega) (by omega) n1 n2
    rw [decide_eq_false hn] at b1
    refine r.same_ (z := (-2 : Int32)) ?_ ?_
    · unfold f_X9_feed
      rw [bq (show f_X9_within N (iz n) (0 : Int32) (4 : Int32) h = _ from a1)]
      exact if_pos (by decide)
    · unfold f_X10_feed
      rw [kmC M.1, bq (show f_X10_in N 71 (iz n) (0 : Int32) (4 : Int32) h = _ from b1)]
      exact if_pos (by decide)
end
