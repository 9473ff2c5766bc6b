theorem m_shift_104 {N k k2 : Nat} {i j L : Int} (hk : k < 6) (hk2 : k2 < 6) (hi : 0 ≤ i) (hL : 0 ≤ L ∧ i + L ≤ 60) : ∀ (d m n : Nat) (h : Mem), MSh h → (m : Int) + d = L → d < n → ∃ row, f_X10_shift_104 N n 71 (iz (k : Int)) (iz i) (iz (k2 : Int)) (iz j) (iz L) (iz (m : Int)) h = f_X10_shift_141 N N 71 (iz (k2 : Int)) (iz j) (iz L) (0 : Int32) (wJ h 110 row) ∧ (∀ q : Nat, m ≤ q → (q : Int) < L → row q = h.2.2.1 109 (60 * k + i.toNat + q)) ∧ ∀ q, q < m → row q = h.2.2.1 110 q := by
  intro d
  induction d with
  | zero =>
    intro m n h S hm hn
    obtain ⟨n, rfl⟩ : ∃ k, n = k + 1 := ⟨n - 1, by omega⟩
    refine ⟨h.2.2.1 110, ?_, fun q h1 h2 => by omega, fun _ _ => rfl⟩
    rw [wJ_id rfl, f_X10_shift_104]
    exact if_pos (by rw [iz_le (by omega) (by omega) (by omega) (by omega)]; omega)
  | succ d ih =>
    intro m n h S hm hn
    obtain ⟨n, rfl⟩ : ∃ k, n = k + 1 := ⟨n - 1, by omega⟩
    obtain ⟨row, e, r1, r2⟩ := ih (m + 1) n (wJ h 110 (fun q => if q = m then h.2.2.1 109 (60 * k + i.toNat + m) else h.2.2.1 110 q)) S (by omega) (by omega)
    rw [wJ_wJ] at e
    refine ⟨row, ?_, fun q h1 h2 => ?_, fun q hq => ?_⟩
    · rw [f_X10_shift_104]
      refine (if_neg (by rw [iz_le (by omega) (by omega) (by omega) (by omega)]; omega)).trans ?_
      rw [kr110 S, kr109 S, il60, iz_mul, iz_add, iz_add, kl109 S (by omega) (by omega), ks110 S (by omega) (by omega), toN, show ((60 : Int) * (k : Int) + i + (m : Int)).toNat = 60 * k + i.toNat + m by omega, il1, iz_add]
      exact e
    · by_cases z : q = m
      · rw [r2 q (by omega), wJ_eq, if_pos z, z]
      · rw [r1 q (by omega) h2, wJ_ne (by decide)]
    · rw [r2 q (by omega), wJ_eq]
      exact if_neg (by omega)
theorem m_shift_141 {N k : Nat} {i L : Int} (hk : k < 6) (hi : 0 ≤ i) (hL : 0 ≤ L ∧ i + L ≤ 60) : ∀ (d m n : Nat) (h : Mem), MSh h → (m : Int) + d = L → d < n → ∃ row, f_X10_shift_141 N n 71 (iz (k : Int)) (iz i) (iz L) (iz (m : Int)) h = some (iz L, wJ h 109 row) ∧ (∀ q : Nat, m ≤ q → (q : Int) < L → row (60 * k + i.toNat + q) = h.2.2.1 110 q) ∧ ∀ q : Nat, (q < 60 * k + i.toNat + m ∨ ((60 * k + i.toNat : Nat) : Int) + L ≤ q) → row q = h.2.2.1 109 q := by
  intro d
  induction d with
  | zero =>
    intro m n h S hm hn
    obtain ⟨n, rfl⟩ : ∃ k, n = k + 1 := ⟨n - 1, by omega⟩
    refine ⟨h.2.2.1 109, ?_, fun q h1 h2 => by omega, fun _ _ => rfl⟩
    rw [wJ_id rfl, f_X10_shift_141]
    exact if_pos (by rw [iz_le (by omega) (by omega) (by omega) (by omega)]; omega)
  | succ d ih =>
    intro m n h S hm hn
    obtain ⟨n, rfl⟩ : ∃ k, n = k + 1 := ⟨n - 1, by omega⟩
    obtain ⟨row, e, r1, r2⟩ := ih (m + 1) n (wJ h 109 (fun q => if q = 60 * k + i.toNat + m then h.2.2.1 110 m else h.2.2.1 109 q)) S (by omega) (by omega)
    rw [wJ_wJ] at e
    refine ⟨row, ?_, fun q h1 h2 => ?_, fun q hq => ?_⟩
    · rw [f_X10_shift_141]
      refine (if_neg (by rw [iz_le (by omega) (by omega) (by omega) (by omega)]; omega)).trans ?_
      rw [kr109 S, kr110 S, kl110 S (by omega) (by omega), toN, il60, iz_mul, iz_add, iz_add, ks109 S (by omega) (by omega), show ((60 : Int) * (k : Int) + i + (m : Int)).toNat = 60 * k + i.toNat + m by omega, il1, iz_add]
      exact e
    · by_cases z : q = m
      · rw [r2 _ (by omega), wJ_eq, z, if_pos rfl]
      · rw [r1 q (by omega) h2, wJ_ne (by decide)]
    · rw [r2 q (by omega), wJ_eq]
      exact if_neg (by omega)
theorem cpJ_q {h : Mem} {a c na nc : Nat} {i j L : Int} (ha : h.1[a]? = some (103, na)) (hc : h.1[c]? = some (103, nc)) (hi : 0 ≤ i) (hj : 0 ≤ j) (hL : 0 ≤ L) (h1 : i + L ≤ na) (h2 : j + L ≤ nc) (s1 : na < 1000) (s2 : nc < 1000) : cpJ h a (iz i) c (iz j) (iz L) = some (wJ h c (va_cpy (h.2.2.1 a) (h.2.2.1 c) i.toNat j.toNat L.toNat)) := by
  unfold cpJ
  rw [aN_q ha, Option.bind_some, aN_q hc, Option.bind_some]
  rw [iz_nat hi (by omega), iz_nat hj (by omega), iz_nat hL (by omega)]
  have z0 : ∀ a : Int, -2147483648 ≤ a → a < 2147483648 → ((iz a < (0 : Int32)) ↔ a < 0) := fun a x y => by rw [il0, iz_lt (by omega) (by omega) (by omega) (by omega)]
  have y1 := z0 i (by omega) (by omega)
  have y2 := z0 j (by omega) (by omega)
  have y3 := z0 L (by omega) (by omega)
  exact if_neg (fun z => by
    rcases z with z | z | z | z | z
    · have := y1.1 z; omega
    · have := y2.1 z; omega
    · have := y3.1 z; omega
    · omega
    · omega)
section
variable {h : Mem} {V : Vw} {p pd b N : Nat}
theorem t_shift (hN : 300 ≤ N) (r : REL h V p pd b) (v1 v2 v3 v4 v5 : Int32) : CAL (f_X9_shift N 0 v1 v2 v3 v4 v5 h) (f_X10_shift N 71 v1 v2 v3 v4 v5) b := by
  obtain ⟨t, rfl, t1, t2⟩ := int_iz v1
  obtain ⟨i, rfl, i1, i2⟩ := int_iz v2
  obtain ⟨o, rfl, o1, o2⟩ := int_iz v3
  obtain ⟨j, rfl, j1, j2⟩ := int_iz v4
  obtain ⟨L, rfl, L1, L2⟩ := int_iz v5
  have M := r.2.2.1
  have S := r.2.2.2.2.2.2.2.1
  have tp := r.2.2.2.2.2.2.2.2.2.2.2.2.2.2.2
  have a1 := l_isTape (N := N) (h := h) t1 t2
  have b1 := m_isTape (N := N) M.1 t1 t2
  have a2 := l_isTape (N := N) (h := h) o1 o2
  have b2' := m_isTape (N := N) M.1 o1 o2
  by_cases ht : 0 ≤ t ∧ t ≤ 5
  · rw [decide_eq_true ht] at a1 b1
    by_cases ho : 0 ≤ o ∧ o ≤ 5
    · rw [decide_eq_true ho] at a2 b2'
      obtain ⟨k, rfl⟩ := Int.eq_ofNat_of_zero_le ht.1
      obtain ⟨k2, rfl⟩ := Int.eq_ofNat_of_zero_le ho.1
      have hk : k < 6 := by omega
      have hk2 : k2 < 6 := by omega
      obtain ⟨p1, p2, p3, p4, s, n, p5, p6, p7, ⟨p8, p9, p10, p11⟩, p12, p13⟩ := tp.2 k hk
      obtain ⟨w1, w2, w3, w4, s', n', w5, w6, w7, ⟨w8, w9, w10, w11⟩, w12, w13⟩ := tp.2 k2 hk2
      have c1 := l_isNothing (N := N) p2 p8 p5
      have c2 := l_isNothing (N := N) w2 w8 w5
      have prc : f_X9_shift N 0 (iz (k : Int)) (iz i) (iz (k2 : Int)) (iz j) (iz L) h = (b2 (f_X7_isNothing N (59 + 2 * k) h) fun t20 h19 => if t20 = 0 then (ck h19 (59 + 2 * k2) 7).bind fun _ => b2 (f_X7_isNothing N (59 + 2 * k2) h19) fun t25 h24 => if t25 = 0 then (gI h24 (59 + 2 * k) 7 1).bind fun t27 => (gI h24 (59 + 2 * k2) 7 1).bind fun t29 => if t27 = t29 then (ck h24 (59 + 2 * k) 7).bind fun _ => b2 (f_X7_spans N (59 + 2 * k) (iz i) (iz L) h24) fun t35 h34 => if t35 = 0 then some ((-13 : Int32), h34) else (ck h34 (59 + 2 * k2) 7).bind fun _ => b2 (f_X7_spans N (59 + 2 * k2) (iz j) (iz L) h34) fun t40 h39 => if t40 = 0 then some ((-13 : Int32), h39) else (gR h39 (59 + 2 * k) 7 0).bind fun t42 => (gR h39 (59 + 2 * k2) 7 0).bind fun t44 => (cpJ h39 t42 (iz i) t44 (iz j) (iz L)).bind fun h46 => some (iz L, h46) else some ((-12 : Int32), h24) else some ((-11 : Int32), h24) else some ((-11 : Int32), h19)) := by
        unfold f_X9_shift
        rw [bq a1]
        refine (if_neg (by decide)).trans ?_
        rw [bq a2]
        refine (if_neg (by decide)).trans ?_
        rw [kn10 S, kt58 tp hk, kn10 S, kt58 tp hk2, bo (ck_q p2)]
      have pre : f_X10_shift N 71 (iz (k : Int)) (iz i) (iz (k2 : Int)) (iz j) (iz L) h = (if iz s < (0 : Int32) then some ((-11 : Int32), h) else if (0 : Int32) ≤ iz s' then (if iz s = iz s' then (if iz L < (0 : Int32) then some ((-13 : Int32), h) else if iz i < (0 : Int32) then some ((-13 : Int32), h) else if iz j < (0 : Int32) then some ((-13 : Int32), h) else if iz n - iz L < iz i then some ((-13 : Int32), h) else if iz j ≤ iz n' - iz L then f_X10_shift_104 N N 71 (iz (k : Int)) (iz i) (iz (k2 : Int)) (iz j) (iz L) (0 : Int32) h else some ((-13 : Int32), h)) else some ((-12 : Int32), h)) else some ((-11 : Int32), h)) := by
        unfold f_X10_shift
        rw [kmC M.1, bq b1]
        refine (if_neg (by decide)).trans ?_
        rw [kmC M.1, bq b2']
        refine (if_neg (by decide)).trans ?_
        simp (disch := omega) only [↓kr107 M.1, ↓kr108 M.1, ↓kl107 M.1, ↓kl108 M.1, toN, p10, w10, p11, w11]
      have z0 : ∀ a : Int, -2147483648 ≤ a → a < 2147483648 → ((iz a < (0 : Int32)) ↔ a < 0) := fun a x y => by rw [il0, iz_lt (by omega) (by omega) (by omega) (by omega)]
      have z1 : ∀ a : Int, -2147483648 ≤ a → a < 2147483648 → (((0 : Int32) ≤ iz a) ↔ 0 ≤ a) := fun a x y => by rw [il0, iz_le (by omega) (by omega) (by omega) (by omega)]
      by_cases hs : s = -1
      · rw [decide_eq_true hs] at c1
        refine r.same_ (z := (-11 : Int32)) ?_ ?_
        · rw [prc, bq c1]; exact if_neg (by decide)
        · exact pre.trans <| if_pos ((z0 s (by omega) (by omega)).2 (by omega))
      · rw [decide_eq_false hs] at c1
        have ms : ¬ (iz s < (0 : Int32)) := fun z => by have := (z0 s (by omega) (by omega)).1 z; omega
        by_cases hs' : s' = -1
        · rw [decide_eq_true hs'] at c2
          refine r.same_ (z := (-11 : Int32)) ?_ ?_
          · rw [prc, bq c1]
            refine (if_pos (by decide)).trans ?_
            rw [bo (ck_q w2), bq c2]
            exact if_neg (by decide)
          · exact pre.trans <| (if_neg ms).trans (if_neg (fun z => by have := (z1 s' (by omega) (by omega)).1 z; omega))
        · rw [decide_eq_false hs'] at c2
          have ms' : (0 : Int32) ≤ iz s' := (z1 s' (by omega) (by omega)).2 (by omega)
          by_cases hss : s = s'
          · subst hss
            have c3 := l_spans (N := N) (i := i) (n := L) p2 p9 p6 i1 i2 L1 L2
            have c4 := l_spans (N := N) (i := j) (n := L) w2 w9 w6 j1 j2 L1 L2
            by_cases g1 : 0 ≤ i ∧ 0 ≤ L ∧ L ≤ n ∧ i ≤ n - L
            · rw [decide_eq_true g1] at c3
              by_cases g2 : 0 ≤ j ∧ 0 ≤ L ∧ L ≤ n' ∧ j ≤ n' - L
              · rw [decide_eq_true g2] at c4
                have hc : cpJ h (60 + 2 * k) (iz i) (60 + 2 * k2) (iz j) (iz L) = some (wJ h (60 + 2 * k2) (va_cpy (h.2.2.1 (60 + 2 * k)) (h.2.2.1 (60 + 2 * k2)) i.toNat j.toNat L.toNat)) := cpJ_q p4 w4 g1.1 g2.1 g1.2.1 (by omega) (by omega) (by decide) (by decide)
                generalize hh1 : wJ h (60 + 2 * k2) (va_cpy (h.2.2.1 (60 + 2 * k)) (h.2.2.1 (60 + 2 * k2)) i.toNat j.toNat L.toNat) = h1 at hc
                have T1 : EQT h h1 := by rw [← hh1]; exact ⟨rfl, rfl, fun _ _ => rfl, fun q hq => wJ_ne (by omega)⟩
                have M1 := r.kmid T1
                have q109 : h1.2.2.1 109 = h.2.2.1 109 := by rw [← hh1]; exact wJ_ne (by omega)
                have q107 : h1.2.1 = h.2.1 := by rw [← hh1]; rfl
                obtain ⟨ra, e1, ra1, _⟩ := m_shift_104 (N := N) (j := j) hk hk2 (i := i) (L := L) g1.1 (by omega) L.toNat 0 N h1 M1.1 (by omega) (by omega)
                have S2 : MSh (wJ h1 110 ra) := M1.1
                obtain ⟨rb, e2, rb1, rb2⟩ := m_shift_141 (N := N) hk2 (i := j) (L := L) g2.1 (by omega) L.toNat 0 N (wJ h1 110 ra) S2 (by omega) (by omega)
                have T2 : EQT h1 (wJ (wJ h1 110 ra) 109 rb) := ⟨rfl, rfl, fun _ _ => rfl, fun q hq => by rw [wJ_ne (by omega), wJ_ne (by omega)]⟩
                have pre1 : f_X10_shift N 71 (iz (k : Int)) (iz i) (iz (k2 : Int)) (iz j) (iz L) h1 = f_X10_shift_104 N N 71 (iz (k : Int)) (iz i) (iz (k2 : Int)) (iz j) (iz L) (0 : Int32) h1 := by
                  have b1 := m_isTape (N := N) M1.1 t1 t2
                  have b2' := m_isTape (N := N) M1.1 o1 o2
                  rw [decide_eq_true ht] at b1
                  rw [decide_eq_true ho] at b2'
                  have x10 : h1.2.1 107 k = iz s := by rw [q107]; exact p10
                  have x11 : h1.2.1 108 k = iz n := by rw [q107]; exact p11
                  have y10 : h1.2.1 107 k2 = iz s := by rw [q107]; exact w10
                  have y11 : h1.2.1 108 k2 = iz n' := by rw [q107]; exact w11
                  unfold f_X10_shift
                  rw [kmC M1.1, bq b1]
                  refine (if_neg (by decide)).trans ?_
                  rw [kmC M1.1, bq b2']
                  refine (if_neg (by decide)).trans ?_
                  simp (disch := omega) only [↓kr107 M1.1, ↓kr108 M1.1, ↓kl107 M1.1, ↓kl108 M1.1, toN, x10, y10, x11, y11]
                  refine (if_neg ms).trans <| (if_pos ms').trans <| (if_pos trivial).trans <| (if_neg (fun z => by have := (z0 L L1 L2).1 z; omega)).trans <| (if_neg (fun z => by have := (z0 i i1 i2).1 z; omega)).trans <| (if_neg (fun z => by have := (z0 j j1 j2).1 z; omega)).trans ?_
                  rw [iz_sub, iz_sub]
                  refine (if_neg (by rw [iz_lt (by omega) (by omega) (by omega) (by omega)]; omega)).trans ?_
                  exact if_pos (by rw [iz_le (by omega) (by omega) (by omega) (by omega)]; omega)
                refine ⟨iz L, h1, wJ (wJ h1 110 ra) 109 rb, V, p, pd, ?_, ?_, r.eqt (T1.tr T2) ⟨by rw [T2.1, T1.1]; exact tp.1, fun k' hk' => ?_⟩⟩
                · rw [prc, bq c1]
                  refine (if_pos (by decide)).trans ?_
                  rw [bo (ck_q w2), bq c2]
                  refine (if_pos (by decide)).trans ?_
                  rw [bo (gI_q p2), bo (gI_q w2), p8, w8]
                  refine (if_pos rfl).trans ?_
                  rw [bo (ck_q p2), bq c3]
                  refine (if_neg (by decide)).trans ?_
                  rw [bo (ck_q w2), bq c4]
                  refine (if_neg (by decide)).trans ?_
                  rw [bo (gR_q p2 p3), bo (gR_q w2 w3), bo hc]
                · exact (pre1.trans e1).trans e2
                · obtain ⟨x1, x2, x3, x4, s'', n'', x5, x6, x7, x8, x12, x13⟩ := tp.2 k' hk'
                  have hrow : (wJ (wJ h1 110 ra) 109 rb).2.2.1 (60 + 2 * k') = if k' = k2 then va_cpy (h.2.2.1 (60 + 2 * k)) (h.2.2.1 (60 + 2 * k2)) i.toNat j.toNat L.toNat else h.2.2.1 (60 + 2 * k') := by
                    rw [wJ_ne (by omega), wJ_ne (by omega), ← hh1]
                    by_cases e : k' = k2
                    · rw [if_pos e, e, wJ_eq]
                    · rw [if_neg e, wJ_ne (by omega)]
                  refine ⟨by rw [T2.2.1, T1.2.1]; exact x1, by rw [T2.1, T1.1]; exact x2, by rw [T2.2.1, T1.2.1]; exact x3, by rw [T2.1, T1.1]; exact x4, s'', n'', x5, x6, x7, ?_, fun q hq => ?_, fun z q hq => ?_⟩
                  · show h1.2.1 _ _ = _ ∧ h1.2.1 _ _ = _ ∧ h1.2.1 _ _ = _ ∧ h1.2.1 _ _ = _
                    rw [q107]; exact x8
                  · rw [hrow, wJ_eq]
                    by_cases e : k' = k2
                    · subst e
                      rw [if_pos rfl]
                      unfold va_cpy
                      by_cases e2 : j.toNat ≤ q ∧ q < j.toNat + L.toNat
                      · rw [if_pos e2]
                        have u := rb1 (q - j.toNat) (by omega) (by omega)
                        rw [show 60 * k' + j.toNat + (q - j.toNat) = 60 * k' + q by omega, wJ_eq, ra1 _ (by omega) (by omega), q109] at u
                        rw [u, p12 _ (by omega)]
                        exact congrArg (h.2.2.1 109) (by omega)
                      · rw [if_neg e2, rb2 _ (by omega), wJ_ne (by decide), q109]
                        exact x12 q hq
                    · rw [if_neg e, rb2 _ (by omega), wJ_ne (by decide), q109]
                      exact x12 q hq
                  · rw [hrow]
                    by_cases e : k' = k2
                    · subst e
                      have es : s'' = s := by
                        have e1 := x8.1
                        rw [w8] at e1
                        have := congrArg Int32.toInt e1
                        rw [iz_toInt (by omega) (by omega), iz_toInt (by omega) (by omega)] at this
                        exact this.symm
                      rw [if_pos rfl]
                      unfold va_cpy
                      by_cases e2 : j.toNat ≤ q ∧ q < j.toNat + L.toNat
                      · rw [if_pos e2]; exact p13 (by omega) _ (by omega)
                      · rw [if_neg e2]; exact x13 z q hq
                    · rw [if_neg e]; exact x13 z q hq
              · rw [decide_eq_false g2] at c4
                refine r.same_ (z := (-13 : Int32)) ?_ ?_
                · rw [prc, bq c1]
                  refine (if_pos (by decide)).trans ?_
                  rw [bo (ck_q w2), bq c2]
                  refine (if_pos (by decide)).trans ?_
                  rw [bo (gI_q p2), bo (gI_q w2), p8, w8]
                  refine (if_pos rfl).trans ?_
                  rw [bo (ck_q p2), bq c3]
                  refine (if_neg (by decide)).trans ?_
                  rw [bo (ck_q w2), bq c4]
                  exact if_pos (by decide)
                · refine pre.trans <| (if_neg ms).trans <| (if_pos ms').trans <| (if_pos rfl).trans <| (if_neg (fun z => by have := (z0 L L1 L2).1 z; omega)).trans <| (if_neg (fun z => by have := (z0 i i1 i2).1 z; omega)).trans ?_
                  by_cases g3 : j < 0
                  · exact if_pos ((z0 j j1 j2).2 g3)
                  · refine (if_neg (fun z => g3 ((z0 j j1 j2).1 z))).trans ?_
                    rw [iz_sub, iz_sub]
                    refine (if_neg (by rw [iz_lt (by omega) (by omega) (by omega) (by omega)]; omega)).trans ?_
                    exact if_neg (by rw [iz_le (by omega) (by omega) (by omega) (by omega)]; omega)
            · rw [decide_eq_false g1] at c3
              refine r.same_ (z := (-13 : Int32)) ?_ ?_
              · rw [prc, bq c1]
                refine (if_pos (by decide)).trans ?_
                rw [bo (ck_q w2), bq c2]
                refine (if_pos (by decide)).trans ?_
                rw [bo (gI_q p2), bo (gI_q w2), p8, w8]
                refine (if_pos rfl).trans ?_
                rw [bo (ck_q p2), bq c3]
                exact if_pos (by decide)
              · refine pre.trans <| (if_neg ms).trans <| (if_pos ms').trans <| (if_pos rfl).trans ?_
                by_cases g4 : L < 0
                · exact if_pos ((z0 L L1 L2).2 g4)
                · refine (if_neg (fun z => g4 ((z0 L L1 L2).1 z))).trans ?_
                  by_cases g5 : i < 0
                  · exact if_pos ((z0 i i1 i2).2 g5)
                  · refine (if_neg (fun z => g5 ((z0 i i1 i2).1 z))).trans ?_
                    by_cases g3 : j < 0
                    · exact if_pos ((z0 j j1 j2).2 g3)
                    · refine (if_neg (fun z => g3 ((z0 j j1 j2).1 z))).trans ?_
                      rw [iz_sub]
                      exact if_pos (by rw [iz_lt (by omega) (by omega) (by omega) (by omega)]; omega)
          · have nss : ¬ (iz s = iz s') := iz_ne (by omega) (by omega) (by omega) (by omega) hss
            refine r.same_ (z := (-12 : Int32)) ?_ ?_
            · rw [prc, bq c1]
              refine (if_pos (by decide)).trans ?_
              rw [bo (ck_q w2), bq c2]
              refine (if_pos (by decide)).trans ?_
              rw [bo (gI_q p2), bo (gI_q w2), p8, w8]
              exact if_neg nss
            · exact pre.trans <| (if_neg ms).trans <| (if_pos ms').trans (if_neg nss)
    · rw [decide_eq_false ho] at a2 b2'
      refine r.same_ (z := (-1 : Int32)) ?_ ?_
      · unfold f_X9_shift
        rw [bq a1]
        refine (if_neg (by decide)).trans ?_
        rw [bq a2]
        exact if_pos (by decide)
      · unfold f_X10_shift
        rw [kmC M.1, bq b1]
        refine (if_neg (by decide)).trans ?_
        rw [kmC M.1, bq b2']
        exact if_pos (by decide)
  · rw [decide_eq_false ht] at a1 b1
    refine r.same_ (z := (-1 : Int32)) ?_ ?_
    · unfold f_X9_shift; rw [bq a1]; exact if_pos (by decide)
    · unfold f_X10_shift; rw [kmC M.1, bq b1]; exact if_pos (by decide)
end
