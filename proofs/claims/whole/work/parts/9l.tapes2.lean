theorem wJ_wJ {h : Mem} {a : Nat} {r1 r2 : Nat → Int64} : wJ (wJ h a r1) a r2 = wJ h a r2 := by
  unfold wJ
  congr 2
  show (z2 (z2 h.2.2.1 a r1) a r2, _) = _
  congr 1
  funext i
  by_cases hi : i = a
  · subst hi; rw [z2_eq, z2_eq]
  · rw [z2_ne hi, z2_ne hi, z2_ne hi]
theorem wJ_id {h : Mem} {a : Nat} {row : Nat → Int64} (e : row = h.2.2.1 a) : wJ h a row = h := by
  subst e
  obtain ⟨h1, h2, h3, h4⟩ := h
  unfold wJ
  dsimp only
  congr 3
  funext i
  by_cases hi : i = a
  · subst hi; rw [z2_eq]
  · rw [z2_ne hi]
theorem st_wJ {h : Mem} {a n : Nat} {i : Int} {v : Int64} (hq : h.1[a]? = some (103, n)) (h0 : 0 ≤ i) (h1 : i < n) (hn : n < 2147483648) : stJ h a (iz i) v = some (wJ h a (fun j => if j = i.toNat then v else h.2.2.1 a j)) := stJ_q hq h0 h1 hn
theorem l_fillJ_6 {N : Nat} {a L : Nat} {v : Int64} (hL : L < 1000) : ∀ (d i n : Nat) (h : Mem), h.1[a]? = some (103, L) → i + d = L → d < n → ∃ row, f_J7_fill_d0a16_6 N n a v (iz i) (iz L) h = some (wJ h a row) ∧ (∀ j, i ≤ j → j < L → row j = v) ∧ ∀ j, j < i → row j = h.2.2.1 a j := by
  intro d
  induction d with
  | zero =>
    intro i n h hq hi hn
    obtain ⟨n, rfl⟩ : ∃ k, n = k + 1 := ⟨n - 1, by omega⟩
    obtain rfl : i = L := by omega
    refine ⟨h.2.2.1 a, ?_, fun j h1 h2 => by omega, fun _ _ => rfl⟩
    rw [wJ_id rfl, f_J7_fill_d0a16_6]
    exact if_pos (Int32.le_refl _)
  | succ d ih =>
    intro i n h hq hi hn
    obtain ⟨n, rfl⟩ : ∃ k, n = k + 1 := ⟨n - 1, by omega⟩
    have hc : ¬ ((L : Int) ≤ i) := by omega
    obtain ⟨row, e, r1, r2⟩ := ih (i + 1) n (wJ h a (fun j => if j = (i : Int).toNat then v else h.2.2.1 a j)) hq (by omega) (by omega)
    rw [wJ_wJ] at e
    refine ⟨row, ?_, fun j h1 h2 => ?_, fun j hj => ?_⟩
    · rw [f_J7_fill_d0a16_6]
      refine (if_neg (by rw [iz_le (by omega) (by omega) (by omega) (by omega)]; exact hc)).trans ?_
      rw [bo (st_wJ hq (by omega) (by omega) (by omega)), il1, iz_add]
      exact e
    · by_cases q : j = i
      · rw [r2 j (by omega), wJ_eq]
        exact if_pos (by omega)
      · exact r1 j (by omega) h2
    · rw [r2 j (by omega), wJ_eq]
      exact if_neg (by omega)
section
variable {h : Mem} {V : Vw} {p pd b N : Nat}
theorem sI_c {h : Mem} {a ci k : Nat} {v : Int32} (hq : h.1[a]? = some (ci, 0)) {γ : Type} {K : Mem → Option γ} : (sI h a ci k v).bind K = K (h.1, u2 h.2.1 a k v, h.2.2.1, h.2.2.2) := bo (sI_q hq)
theorem l_become7 (hN : 200 ≤ N) {c : Nat} (p2 : h.1[c]? = some (7, 0)) (p3 : h.2.2.2 c 0 = some (c + 1)) (p4 : h.1[c + 1]? = some (103, 60)) {v1 v2 : Int32} : ∃ h', f_X7_become N c v1 v2 h = some h' ∧ h'.1 = h.1 ∧ h'.2.2.2 = h.2.2.2 ∧ (∀ i, i ≠ c → h'.2.1 i = h.2.1 i) ∧ (h'.2.1 c 1 = v1 ∧ h'.2.1 c 2 = v2) ∧ (∀ i, i ≠ c + 1 → h'.2.2.1 i = h.2.2.1 i) ∧ ∀ j, j < 60 → h'.2.2.1 (c + 1) j = 0 := by
  obtain ⟨row, e, r1, _⟩ := l_fillJ_6 (N := N) (a := c + 1) (L := 60) (v := (0 : Int64)) (by decide) 60 0 N ((h.1, u2 (u2 h.2.1 c 1 v1) c 2 v2, h.2.2.1, h.2.2.2) : Mem) p4 (by omega) (by omega)
  refine ⟨wJ ((h.1, u2 (u2 h.2.1 c 1 v1) c 2 v2, h.2.2.1, h.2.2.2) : Mem) (c + 1) row, ?_, rfl, rfl, fun i hi => ?_, ⟨?_, ?_⟩, fun i hi => wJ_ne hi, fun j hj => by rw [wJ_eq]; exact r1 j (by omega) hj⟩
  · unfold f_X7_become
    rw [sI_c p2, sI_c (h := ((h.1, u2 h.2.1 c 1 v1, h.2.2.1, h.2.2.2) : Mem)) p2, bo (gR_q (h := ((h.1, u2 (u2 h.2.1 c 1 v1) c 2 v2, h.2.2.1, h.2.2.2) : Mem)) p2 p3)]
    unfold f_J7_fill_d0a16
    rw [alen_q (h := ((h.1, u2 (u2 h.2.1 c 1 v1) c 2 v2, h.2.2.1, h.2.2.2) : Mem)) p4, Option.bind_some, bo (show f_J7_fill_d0a16_6 N N (c + 1) (0 : Int64) (0 : Int32) (iz ((60 : Nat) : Int)) _ = _ from e)]
  · show u2 (u2 h.2.1 c 1 v1) c 2 v2 i = _
    rw [u2_ne hi, u2_ne hi]
  · show u2 (u2 h.2.1 c 1 v1) c 2 v2 c 1 = _
    rw [u2_at, if_neg (by decide), u2_at, if_pos rfl]
  · show u2 (u2 h.2.1 c 1 v1) c 2 v2 c 2 = _
    rw [u2_at, if_pos rfl]
theorem m_tape_69 {k : Nat} (hk : k < 6) : ∀ (d i n : Nat) (h : Mem), MSh h → i + d = 60 → d < n → ∃ row, f_X10_tape_69 N n 71 (iz (k : Int)) (iz (i : Int)) h = some (iz 1, wJ h 109 row) ∧ (∀ j, i ≤ j → j < 60 → row (60 * k + j) = 0) ∧ ∀ j, (j < 60 * k + i ∨ 60 * k + 60 ≤ j) → row j = h.2.2.1 109 j := by
  intro d
  induction d with
  | zero =>
    intro i n h S hi hn
    obtain ⟨n, rfl⟩ : ∃ k, n = k + 1 := ⟨n - 1, by omega⟩
    obtain rfl : i = 60 := by omega
    refine ⟨h.2.2.1 109, ?_, fun j h1 h2 => by omega, fun _ _ => rfl⟩
    rw [wJ_id rfl, f_X10_tape_69]
    exact if_pos (by decide)
  | succ d ih =>
    intro i n h S hi hn
    obtain ⟨n, rfl⟩ : ∃ k, n = k + 1 := ⟨n - 1, by omega⟩
    have hc : ¬ ((60 : Int) ≤ i) := by omega
    have ei : ((60 : Int) * (k : Int) + (i : Int)).toNat = 60 * k + i := by omega
    obtain ⟨row, e, r1, r2⟩ := ih (i + 1) n (wJ h 109 (fun j => if j = 60 * k + i then 0 else h.2.2.1 109 j)) S (by omega) (by omega)
    rw [wJ_wJ] at e
    refine ⟨row, ?_, fun j h1 h2 => ?_, fun j hj => ?_⟩
    · rw [f_X10_tape_69]
      refine (if_neg (by rw [il60, iz_le (by omega) (by omega) (by omega) (by omega)]; exact hc)).trans ?_
      rw [kr109 S, il60, iz_mul, iz_add, ks109 S (by omega) (by omega), ei, il1, iz_add]
      exact e
    · by_cases q : j = i
      · rw [r2 _ (by omega), wJ_eq]
        exact if_pos (by omega)
      · exact r1 j (by omega) h2
    · rw [r2 j (by omega), wJ_eq]
      exact if_neg (by omega)
/-- a tape on both sides anew -/
theorem tape_both (hN : 300 ≤ N) (r : REL h V p pd b) {k : Nat} (hk : k < 6) {s n : Int} (hs : -1 ≤ s ∧ s ≤ 4) (hn : 0 ≤ n ∧ n ≤ 60) (hsn : s = -1 → n = 0) {v3 : Int32} (hv : 0 ≤ s → v3 = iz n) : ∃ h1 h2, f_X7_become N (59 + 2 * k) (iz s) (iz n) h = some h1 ∧ RepM h1 V ∧ f_X10_tape_44 N 71 (iz (k : Int)) (iz s) v3 h1 = some (iz 1, h2) ∧ REL h2 V p pd b := by
  have M := r.2.2.1
  have tp := r.2.2.2.2.2.2.2.2.2.2.2.2.2.2.2
  obtain ⟨q1, q2, q3, q4, _⟩ := tp.2 k hk
  obtain ⟨h1, e1, g1, g2, g3, ⟨g4, g5⟩, g6, g7⟩ := l_become7 (N := N) (by omega) (c := 59 + 2 * k) (v1 := iz s) (v2 := iz n) q2 (by rw [q3]; congr 1; omega) (by rw [show 59 + 2 * k + 1 = 60 + 2 * k by omega]; exact q4)
  have T1 : EQT h h1 := ⟨g1, g2, fun i hi => g3 i (by omega), fun i hi => g6 i (by omega)⟩
  have M1 : RepM h1 V := r.kmid T1
  have S1 := M1.1
  have S2 := S1.wr_ (a := 107) (row := upd (h1.2.1 107) k (iz s))
  have S3 := S2.wr_ (a := 108) (row := upd (h1.2.1 108) k (iz n))
  obtain ⟨row, e3, r1, r2⟩ := m_tape_69 (N := N) hk 60 0 N (wr (wr h1 107 (upd (h1.2.1 107) k (iz s))) 108 (upd (h1.2.1 108) k (iz n))) S3 (by omega) (by omega)
  have T2 : EQT h1 (wJ (wr (wr h1 107 (upd (h1.2.1 107) k (iz s))) 108 (upd (h1.2.1 108) k (iz n))) 109 row) := ⟨rfl, rfl, fun i hi => by
    show (wr (wr h1 107 (upd (h1.2.1 107) k (iz s))) 108 (upd (h1.2.1 108) k (iz n))).2.1 i = _
    rw [wr_ne (by omega), wr_ne (by omega)], fun i hi => by rw [wJ_ne (by omega)]; rfl⟩
  generalize hh2 : wJ (wr (wr h1 107 (upd (h1.2.1 107) k (iz s))) 108 (upd (h1.2.1 108) k (iz n))) 109 row = h2 at T2 e3
  have i2 : ∀ i, i ≠ 107 → i ≠ 108 → h2.2.1 i = h1.2.1 i := fun i z1 z2 => by
    rw [← hh2]
    show (wr (wr h1 107 (upd (h1.2.1 107) k (iz s))) 108 (upd (h1.2.1 108) k (iz n))).2.1 i = _
    rw [wr_ne z2, wr_ne z1]
  have i107 : h2.2.1 107 = upd (h1.2.1 107) k (iz s) := by
    rw [← hh2]
    show (wr (wr h1 107 (upd (h1.2.1 107) k (iz s))) 108 (upd (h1.2.1 108) k (iz n))).2.1 107 = _
    rw [wr_ne (by decide), wr_eq]
  have i108 : h2.2.1 108 = upd (h1.2.1 108) k (iz n) := by
    rw [← hh2]
    show (wr (wr h1 107 (upd (h1.2.1 107) k (iz s))) 108 (upd (h1.2.1 108) k (iz n))).2.1 108 = _
    rw [wr_eq]
  have j2 : ∀ i, i ≠ 109 → h2.2.2.1 i = h1.2.2.1 i := fun i z => by rw [← hh2, wJ_ne z]; rfl
  have j109 : h2.2.2.1 109 = row := by rw [← hh2, wJ_eq]
  refine ⟨h1, h2, e1, M1, ?_, ?_⟩
  · unfold f_X10_tape_44 f_X10_tape_65
    have fin : (stI 100 (wr h1 107 (upd (h1.2.1 107) k (iz s))) 108 (iz (k : Int)) (iz n)).bind (fun h1_1 => f_X10_tape_69 N N 71 (iz (k : Int)) (0 : Int32) h1_1) = some (iz 1, h2) := by
      rw [ks108 S2 (by omega) (by omega), toN, wr_ne (show 108 ≠ 107 by decide)]
      exact e3
    rw [kr107 S1, ks107 S1 (by omega) (by omega), toN, kr108 S2]
    by_cases c : 0 ≤ s
    · refine (if_pos (by rw [il0, iz_le (by omega) (by omega) (by omega) (by omega)]; exact c)).trans ?_
      rw [hv c]
      exact fin
    · refine (if_neg (by rw [il0, iz_le (by omega) (by omega) (by omega) (by omega)]; exact c)).trans ?_
      have n0 := hsn (by omega)
      rw [n0] at fin
      exact fin
  · refine r.eqt (T1.tr T2) ⟨by rw [T2.1, T1.1]; exact tp.1, fun k' hk' => ?_⟩
    obtain ⟨w1, w2, w3, w4, s', n', w5, w6, w7, ⟨w8, w9, w10, w11⟩, w12, w13⟩ := tp.2 k' hk'
    refine ⟨by rw [T2.2.1, T1.2.1]; exact w1, by rw [T2.1, T1.1]; exact w2, by rw [T2.2.1, T1.2.1]; exact w3, by rw [T2.1, T1.1]; exact w4, ?_⟩
    by_cases e : k' = k
    · subst e
      refine ⟨s, n, hs, hn, hsn, ⟨?_, ?_, ?_, ?_⟩, fun j hj => ?_, fun _ j hj => ⟨0, by omega, ?_⟩⟩
      · rw [i2 _ (by omega) (by omega)]; exact g4
      · rw [i2 _ (by omega) (by omega)]; exact g5
      · rw [i107, upd_at, if_pos rfl]
      · rw [i108, upd_at, if_pos rfl]
      · rw [j2 _ (by omega), j109, r1 j (by omega) hj, show 60 + 2 * k' = 59 + 2 * k' + 1 by omega, g7 j hj]
      · rw [j2 _ (by omega), show 60 + 2 * k' = 59 + 2 * k' + 1 by omega, g7 j hj]; rfl
    · have z1 : ∀ j, h2.2.2.1 (60 + 2 * k') j = h.2.2.1 (60 + 2 * k') j := fun j => by rw [j2 _ (by omega), g6 _ (by omega)]
      refine ⟨s', n', w5, w6, w7, ⟨?_, ?_, ?_, ?_⟩, fun j hj => ?_, fun q j hj => ?_⟩
      · rw [i2 _ (by omega) (by omega), g3 _ (by omega)]; exact w8
      · rw [i2 _ (by omega) (by omega), g3 _ (by omega)]; exact w9
      · rw [i107, upd_at, if_neg e, g3 _ (by omega)]; exact w10
      · rw [i108, upd_at, if_neg e, g3 _ (by omega)]; exact w11
      · rw [z1, j109, r2 _ (by omega)]
        show _ = h1.2.2.1 109 _
        rw [g6 _ (by omega)]; exact w12 j hj
      · rw [z1]; exact w13 q j hj
theorem t_tape (hN : 300 ≤ N) (r : REL h V p pd b) (v1 v2 v3 : Int32) : CAL (f_X9_tape N 0 v1 v2 v3 h) (f_X10_tape N 71 v1 v2 v3) b := by
  obtain ⟨t, rfl, t1, t2⟩ := int_iz v1
  obtain ⟨s, rfl, s1, s2⟩ := int_iz v2
  obtain ⟨n, rfl, n1, n2⟩ := int_iz v3
  have M := r.2.2.1
  have S := r.2.2.2.2.2.2.2.1
  have tp := r.2.2.2.2.2.2.2.2.2.2.2.2.2.2.2
  have a1 := l_isTape (N := N) (h := h) t1 t2
  have a2 := l_within (N := N) (h := h) (a := s) (b := -1) (c := 4) (by omega) (by omega) s1 s2
  by_cases ht : 0 ≤ t ∧ t ≤ 5
  · rw [decide_eq_true ht] at a1
    obtain ⟨k, rfl⟩ := Int.eq_ofNat_of_zero_le ht.1
    have hk : k < 6 := by omega
    by_cases hs : -1 ≤ s ∧ s ≤ 4
    · rw [decide_eq_true hs] at a2
      have pre : ∀ h1 : Mem, MSh h1 → f_X10_tape N 71 (iz (k : Int)) (iz s) (iz n) h1 = (if iz s < (0 : Int32) then f_X10_tape_33 N 71 (iz (k : Int)) (iz s) (iz n) h1 else if iz n ≤ (60 : Int32) then f_X10_tape_33 N 71 (iz (k : Int)) (iz s) (iz n) h1 else some ((-2 : Int32), h1)) := by
        intro h1 S1
        have c1 := m_isTape (N := N) S1 t1 t2
        have c2 := m_inB (N := N) (h := h1) (a := s) (b := -1) (c := 4) (by omega) (by omega) s1 s2
        rw [decide_eq_true ht] at c1
        rw [decide_eq_true hs] at c2
        unfold f_X10_tape
        rw [kmC S1, bq c1]
        refine (if_neg (by decide)).trans ?_
        rw [kmC S1, bq (show f_X10_in N 71 (iz s) (-1 : Int32) (4 : Int32) h1 = _ from c2)]
        exact if_neg (by decide)
      have prc : f_X9_tape N 0 (iz (k : Int)) (iz s) (iz n) h = (if iz s = (-1 : Int32) then (f_X7_become N (59 + 2 * k) (iz s) (0 : Int32) h).bind fun h25 => some ((1 : Int32), h25) else if iz n ≤ (60 : Int32) then (if (0 : Int32) ≤ iz n then (f_X7_become N (59 + 2 * k) (iz s) (iz n) h).bind fun h18 => some ((1 : Int32), h18) else some ((-14 : Int32), h)) else some ((-2 : Int32), h)) := by
        obtain ⟨_, q2, _⟩ := tp.2 k hk
        unfold f_X9_tape
        rw [bq a1]
        refine (if_neg (by decide)).trans ?_
        rw [bq (show f_X9_within N (iz s) (-1 : Int32) (4 : Int32) h = _ from a2)]
        refine (if_neg (by decide)).trans ?_
        rw [kn10 S, kt58 tp hk, bo (ck_q q2), kn10 S, kt58 tp hk, bo (ck_q q2)]
      rw [show (-1 : Int32) = iz (-1) from rfl, il60, il0] at prc
      by_cases hm : s = -1
      · obtain ⟨h1, h2, e1, M1, e2, R2⟩ := tape_both (N := N) hN r hk (s := s) (n := 0) hs (by omega) (fun _ => rfl) (v3 := iz n) (fun z => by omega)
        refine ⟨iz 1, h1, h2, V, p, pd, ?_, ?_, R2⟩
        · rw [prc]
          refine (if_pos (by rw [hm])).trans ?_
          rw [bo e1]
          rfl
        · rw [pre h1 M1.1]
          refine (if_pos (by rw [il0, iz_lt (by omega) (by omega) (by omega) (by omega)]; omega)).trans ?_
          unfold f_X10_tape_33
          exact (if_pos (by rw [il0, iz_lt (by omega) (by omega) (by omega) (by omega)]; omega)).trans e2
      · have sn : ¬ (iz s = iz (-1)) := iz_ne s1 s2 (by decide) (by decide) hm
        have sp : ¬ (iz s < (0 : Int32)) := by rw [il0, iz_lt (by omega) (by omega) (by omega) (by omega)]; omega
        by_cases h60 : n ≤ 60
        · have l60 : iz n ≤ iz 60 := by rw [iz_le (by omega) (by omega) (by omega) (by omega)]; exact h60
          by_cases h0 : 0 ≤ n
          · have l0 : iz 0 ≤ iz n := by rw [iz_le (by omega) (by omega) (by omega) (by omega)]; exact h0
            obtain ⟨h1, h2, e1, M1, e2, R2⟩ := tape_both (N := N) hN r hk (s := s) (n := n) hs (by omega) (fun z => absurd z hm) (v3 := iz n) (fun _ => rfl)
            refine ⟨iz 1, h1, h2, V, p, pd, ?_, ?_, R2⟩
            · rw [prc]
              refine (if_neg sn).trans <| (if_pos l60).trans <| (if_pos l0).trans ?_
              rw [bo e1]
              rfl
            · rw [pre h1 M1.1]
              refine (if_neg sp).trans <| (if_pos l60).trans ?_
              unfold f_X10_tape_33
              exact (if_neg sp).trans <| (if_pos l0).trans e2
          · have l0 : ¬ (iz 0 ≤ iz n) := by rw [iz_le (by omega) (by omega) (by omega) (by omega)]; exact h0
            refine r.same_ (z := (-14 : Int32)) ?_ ?_
            · rw [prc]; exact (if_neg sn).trans <| (if_pos l60).trans (if_neg l0)
            · rw [pre h M.1]
              refine (if_neg sp).trans <| (if_pos l60).trans ?_
              unfold f_X10_tape_33
              exact (if_neg sp).trans (if_neg l0)
        · have l60 : ¬ (iz n ≤ iz 60) := by rw [iz_le (by omega) (by omega) (by omega) (by omega)]; exact h60
          refine r.same_ (z := (-2 : Int32)) ?_ ?_
          · rw [prc]; exact (if_neg sn).trans (if_neg l60)
          · rw [pre h M.1]; exact (if_neg sp).trans (if_neg l60)
    · rw [decide_eq_false hs] at a2
      have c1 := m_isTape (N := N) M.1 t1 t2
      have c2 := m_inB (N := N) (h := h) (a := s) (b := -1) (c := 4) (by omega) (by omega) s1 s2
      rw [decide_eq_true ht] at c1
      rw [decide_eq_false hs] at c2
      refine r.same_ (z := (-2 : Int32)) ?_ ?_
      · unfold f_X9_tape
        rw [bq a1]
        refine (if_neg (by decide)).trans ?_
        rw [bq (show f_X9_within N (iz s) (-1 : Int32) (4 : Int32) h = _ from a2)]
        exact if_pos (by decide)
      · unfold f_X10_tape
        rw [kmC M.1, bq c1]
        refine (if_neg (by decide)).trans ?_
        rw [kmC M.1, bq (show f_X10_in N 71 (iz s) (-1 : Int32) (4 : Int32) h = _ from c2)]
        exact if_pos (by decide)
  · rw [decide_eq_false ht] at a1
    have c1 := m_isTape (N := N) M.1 t1 t2
    rw [decide_eq_false ht] at c1
    refine r.same_ (z := (-1 : Int32)) ?_ ?_
    · unfold f_X9_tape; rw [bq a1]; exact if_pos (by decide)
    · unfold f_X10_tape; rw [kmC M.1, bq c1]; exact if_pos (by decide)
end
