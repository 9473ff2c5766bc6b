/-! year -/
def newInc (x f y s : Int) : Int := if x + (13 * f + 7 * y + s) % 5 - 2 < 1 then 1 else if 99 < x + (13 * f + 7 * y + s) % 5 - 2 then 99 else x + (13 * f + 7 * y + s) % 5 - 2
theorem newInc_bd {x f y s : Int} : 1 ≤ newInc x f y s ∧ newInc x f y s ≤ 99 := by
  unfold newInc
  split
  · omega
  · split <;> omega
def incV (V : Vw) (y s : Int) (i : Nat) : Vw := (vT V, vF V, (fun k j => if k = 6 ∧ 0 ≤ j ∧ j < i then newInc (va V 6 j) j y s else va V k j), vs V)
theorem incV_at {V : Vw} {y s : Int} {i : Nat} (k : Nat) (j : Int) : va (incV V y s i) k j = if k = 6 ∧ 0 ≤ j ∧ j < i then newInc (va V 6 j) j y s else va V k j := rfl
theorem incV_ne {V : Vw} {y s : Int} {i k : Nat} (hk : k ≠ 6) : va (incV V y s i) k = va V k := by
  funext j
  rw [incV_at, if_neg (fun z => hk z.1)]
theorem incV_0 {V : Vw} {y s : Int} : incV V y s 0 = V := by
  obtain ⟨a, b, c, d⟩ := V
  unfold incV
  congr 3
  funext k j
  exact if_neg (by omega)
theorem incV_s {V : Vw} {y s : Int} {i : Nat} : incV V y s (i + 1) = vset (incV V y s i) 6 (i : Int) (newInc (va V 6 i) i y s) := by
  unfold incV vset
  congr 3
  funext k j
  dsimp only
  by_cases c : k = 6 ∧ j = i
  · obtain ⟨rfl, rfl⟩ := c
    rw [if_pos (by omega), if_pos ⟨rfl, rfl⟩]
  · rw [if_neg c]
    by_cases c2 : k = 6 ∧ 0 ≤ j ∧ j < i
    · rw [if_pos (by omega), if_pos c2]
    · rw [if_neg (by omega), if_neg c2]
theorem incV_wf {V : Vw} (w : WF V) {y s : Int} {i : Nat} : WF (incV V y s i) := by
  obtain ⟨a1, a2, a3, a4, a5, a6, a7, a8, a9, a10, a11, a12⟩ := w
  have b6 : ∀ j : Int, 0 ≤ j → j < 8 → 0 ≤ va (incV V y s i) 6 j ∧ va (incV V y s i) 6 j ≤ 99 := by
    intro j h0 h1
    rw [incV_at]
    split
    · have := newInc_bd (x := va V 6 j) (f := j) (y := y) (s := s); omega
    · exact (a5 j h0 h1).2.1
  refine ⟨a1, a2, ?_, ?_, ?_, ?_, ?_, ?_, ?_, ?_, ?_, a12⟩
  · rw [incV_ne (by decide), incV_ne (by decide), incV_ne (by decide), incV_ne (by decide)]; exact a3
  · rw [incV_ne (by decide), incV_ne (by decide)]; exact a4
  · rw [incV_ne (k := 5) (by decide), incV_ne (k := 7) (by decide), incV_ne (k := 8) (by decide)]
    exact fun j h0 h1 => ⟨(a5 j h0 h1).1, b6 j h0 h1, (a5 j h0 h1).2.2⟩
  · rw [incV_ne (by decide)]; exact a6
  · rw [incV_ne (by decide)]; exact a7
  · rw [incV_ne (by decide)]; exact a8
  · rw [incV_ne (by decide)]; exact a9
  · rw [incV_ne (by decide)]; exact a10
  · rw [incV_ne (k := 7) (by decide)]
    intro j h0 h1
    have := a11 j h0 h1
    refine ⟨?_, this.2⟩
    rw [incV_at]
    split
    · exact newInc_bd.1
    · exact this.1
def brT : Nat → Nat → Vw → Int → Vw × Int
  | 0, _, U, c => (U, c)
  | d + 1, t, U, c => match fs (doubleP U (t : Int)) 0 4 with
    | none => brT d (t + 1) U c
    | some s => if cnt U (t : Int) < va U 0 (t : Int) ∧ vF U < 8 then brT d (t + 1) (vjoin U (s : Int) 10 (t : Int)) (c + 1) else brT d (t + 1) U c
theorem vj_T {V : Vw} {s i t : Int} : vT (vjoin V s i t) = vT V := rfl
theorem brT_TF : ∀ (d t : Nat) (U : Vw) (c : Int), t + d = vT U → WF U → WF (brT d t U c).1 ∧ va (brT d t U c).1 9 = va U 9 := by
  intro d
  induction d with
  | zero => intro t U c _ w; exact ⟨w, rfl⟩
  | succ d ih =>
    intro t U c ht w
    rw [brT]
    cases e : fs (doubleP U (t : Int)) 0 4 with
    | none => exact ih (t + 1) U c (by omega) w
    | some s =>
      dsimp only
      have sl := fs_lt _ _ _ e
      split
      · rename_i g
        have := ih (t + 1) (vjoin U (s : Int) 10 (t : Int)) (c + 1) (by rw [vj_T]; omega) (wf_join w g.2 (by omega) (by omega) (by omega))
        exact ⟨this.1, this.2.trans (vj_ne (by decide))⟩
      · exact ih (t + 1) U c (by omega) w
section
variable {h : Mem} {V : Vw} {p pd b N : Nat}
theorem inc_e {x f y s : Int} (hx : 0 ≤ x ∧ x ≤ 99) (hf : 0 ≤ f ∧ f < 8) (hy : 0 ≤ y ∧ y ≤ 99) (hs : 0 ≤ s ∧ s ≤ 999) : ((iz x + (((((13 : Int32) * iz f) + ((7 : Int32) * iz y)) + iz s) - ((((13 : Int32) * iz f) + ((7 : Int32) * iz y)) + iz s) / (5 : Int32) * (5 : Int32))) - (2 : Int32)) = iz (x + (13 * f + 7 * y + s) % 5 - 2) := by
  rw [show (13 : Int32) = iz 13 from rfl, show (7 : Int32) = iz 7 from rfl, show (5 : Int32) = iz 5 from rfl, show (2 : Int32) = iz 2 from rfl, iz_mul, iz_mul, iz_add, iz_add, iz_div (by omega) (by omega) (by omega) (by omega), iz_mul, iz_sub, iz_add, iz_sub]
  congr 1
  rw [Int.tdiv_eq_ediv_of_nonneg (by omega)]
  omega
theorem l_year_28 (q : CP 1 p) {y s : Int} (hy : 0 ≤ y ∧ y ≤ 99) (hs : 0 ≤ s ∧ s ≤ 999) (w : WF V) : ∀ (d i n : Nat) (h : Mem), i + d = vF V → d < n → X9S h → RepC h 1 p (incV V y s i) → h.2.1 0 13 = iz y → ∃ h', f_X9_year_28 N n 0 (iz s) (iz (i : Int)) h = (sI h' 0 9 13 (iz (y + 1))).bind (fun h8 => (ck h8 0 9).bind fun _ => b2 (f_X9_births N 0 h8) fun t13 h12 => some (t13, h12)) ∧ RepC h' 1 p (incV V y s (vF V)) ∧ LO h h' := by
  intro d
  have hF := w.F
  induction d with
  | zero =>
    intro i n h hi hn S R hyr
    obtain ⟨n, rfl⟩ : ∃ k, n = k + 1 := ⟨n - 1, by omega⟩
    obtain rfl : i = vF V := by omega
    refine ⟨h, ?_, R, rfl, rfl, fun _ _ => rfl⟩
    have kf : ∀ {γ : Type} {k : Int32 → Option γ}, (gI h 1 1 2).bind k = k (iz (vF V)) := fun {γ k} => kF R
    rw [f_X9_year_28, kn0 S, kf, if_pos (Int32.le_refl _), knI S, hyr, il1, iz_add]
  | succ d ih =>
    intro i n h hi hn S R hyr
    obtain ⟨n, rfl⟩ : ∃ k, n = k + 1 := ⟨n - 1, by omega⟩
    have e6 : h.2.1 (ar 1 6) i = iz (va V 6 i) := by
      have := R.2.2.2.1 6 (by decide) i (by show i < 8; omega)
      rw [this, incV_at, if_neg (by omega)]
    have b6 := (w.f (j := (i : Int)) (by omega) (by omega)).2.1
    have R1 := rep_set (k := 6) (j := (i : Int)) (x := newInc (va V 6 i) i y s) R q (by decide) (by omega) (by show (i : Int) < (8 : Int); omega)
    rw [← incV_s] at R1
    have L1 : LO h (wr h (ar 1 6) (upd (h.2.1 (ar 1 6)) (i : Int).toNat (iz (newInc (va V 6 i) i y s)))) := lo_wr1 (k := 6) (by decide)
    obtain ⟨h', e, R', L'⟩ := ih (i + 1) n (wr h (ar 1 6) (upd (h.2.1 (ar 1 6)) (i : Int).toNat (iz (newInc (va V 6 i) i y s)))) (by omega) (by omega) S R1 (by rw [wr_ne (by decide)]; exact hyr)
    refine ⟨h', ?_, R', L1.tr L'⟩
    have kr6 : ∀ {γ : Type} {k : Nat → Option γ}, (gR h 1 1 9).bind k = k (ar 1 6) := by
      intro γ k
      exact bo (gR_q R.1.1 (R.1.2 6 (by decide)).1)
    have kf : ∀ {γ : Type} {k : Int32 → Option γ}, (gI h 1 1 2).bind k = k (iz (vF V)) := fun {γ k} => kF R
    rw [f_X9_year_28, kn0 S, kf, if_neg (by rw [iz_le (by omega) (by omega) (by omega) (by omega)]; omega), kn0 S, kr6, bo (lI_q (R.1.2 6 (by decide)).2 (by omega) (by show (i : Int) < (8 : Int); omega) (by decide)), toN, e6, knI S, hyr, kn0 S, kr6, inc_e b6 (by omega) hy hs]
    have en : (if (1 : Int32) < (if iz (va V 6 i + (13 * i + 7 * y + s) % 5 - 2) < (99 : Int32) then iz (va V 6 i + (13 * i + 7 * y + s) % 5 - 2) else (99 : Int32)) then (if iz (va V 6 i + (13 * i + 7 * y + s) % 5 - 2) < (99 : Int32) then iz (va V 6 i + (13 * i + 7 * y + s) % 5 - 2) else (99 : Int32)) else (1 : Int32)) = iz (newInc (va V 6 i) i y s) := by
      unfold newInc
      have hm : 0 ≤ (13 * (i : Int) + 7 * y + s) % 5 ∧ (13 * (i : Int) + 7 * y + s) % 5 < 5 := by omega
      generalize (13 * (i : Int) + 7 * y + s) % 5 = m at *
      by_cases c1 : va V 6 i + m - 2 < 99
      · rw [if_pos (show iz (va V 6 i + m - 2) < (99 : Int32) by rw [show (99 : Int32) = iz 99 from rfl, iz_lt (by omega) (by omega) (by omega) (by omega)]; exact c1)]
        by_cases c2 : 1 < va V 6 i + m - 2
        · rw [if_pos (show (1 : Int32) < iz (va V 6 i + m - 2) by rw [il1, iz_lt (by omega) (by omega) (by omega) (by omega)]; exact c2), if_neg (by omega), if_neg (by omega)]
        · rw [if_neg (show ¬ ((1 : Int32) < iz (va V 6 i + m - 2)) by rw [il1, iz_lt (by omega) (by omega) (by omega) (by omega)]; exact c2)]
          by_cases c3 : va V 6 i + m - 2 < 1
          · rw [if_pos c3]; rfl
          · rw [if_neg c3, if_neg (by omega), show va V 6 i + m - 2 = 1 by omega]; rfl
      · rw [if_neg (show ¬ (iz (va V 6 i + m - 2) < (99 : Int32)) by rw [show (99 : Int32) = iz 99 from rfl, iz_lt (by omega) (by omega) (by omega) (by omega)]; exact c1)]
        refine (if_pos (by decide)).trans ?_
        rw [if_neg (by omega)]
        by_cases c3 : 99 < va V 6 i + m - 2
        · rw [if_pos c3]; rfl
        · rw [if_neg c3, show va V 6 i + m - 2 = 99 by omega]; rfl
    rw [en, kSn R 6 (by decide) (by omega) (by show (i : Int) < (8 : Int); omega), il1, iz_add]
    exact e
theorem l_births_4 (hN : 300 ≤ N) (q : CP 1 p) : ∀ (d t n : Nat) (h : Mem) (U : Vw) (c : Int), t + d = vT U → d < n → X9S h → RepC h 1 p U → WF U → ∃ h', f_X9_births_4 N n 0 (iz c) (iz (t : Int)) h = some (iz (brT d t U c).2, h') ∧ RepC h' 1 p (brT d t U c).1 ∧ LO h h' := by
  intro d
  induction d with
  | zero =>
    intro t n h U c ht hn S R w
    obtain ⟨n, rfl⟩ : ∃ k, n = k + 1 := ⟨n - 1, by omega⟩
    have hT := w.T
    refine ⟨h, ?_, R, rfl, rfl, fun _ _ => rfl⟩
    rw [f_X9_births_4, kn0 S, kT R, if_pos (by rw [iz_le (by omega) (by omega) (by omega) (by omega)]; omega), brT]
  | succ d ih =>
    intro t n h U c ht hn S R w
    obtain ⟨n, rfl⟩ : ∃ k, n = k + 1 := ⟨n - 1, by omega⟩
    have hT := w.T
    have hF := w.F
    have a1 := l_doubledSort (N := N) R w (by omega) (t := (t : Int)) (by omega)
    have a2 := l_hasRoom R w (N := N) (by omega) (t := (t : Int)) (by omega)
    have skip : ∃ h', f_X9_births_4 N n 0 (iz c) (iz (t : Int) + 1) h = some (iz (brT d (t + 1) U c).2, h') ∧ RepC h' 1 p (brT d (t + 1) U c).1 ∧ LO h h' := by
      obtain ⟨h1, e1, r1⟩ := ih (t + 1) n h U c (by omega) (by omega) S R w
      exact ⟨h1, by rw [il1, iz_add]; exact e1, r1⟩
    rw [f_X9_births_4, kn0 S, kT R, if_neg (by rw [iz_le (by omega) (by omega) (by omega) (by omega)]; omega), kn0 S, bo (ck_q R.1.1), bq a1, brT]
    cases e : fs (doubleP U (t : Int)) 0 4 with
    | none =>
      exact Exists.imp (fun h' => And.imp_left (if_pos (by decide)).trans) skip
    | some s =>
      dsimp only
      have sl := fs_lt _ _ _ e
      refine Exists.imp (fun h' => And.imp_left (if_neg (by rw [il0, iz_lt (by omega) (by omega) (by omega) (by omega)]; omega)).trans) ?_
      rw [kn0 S, bo (ck_q R.1.1), bq a2]
      by_cases c1 : cnt U (t : Int) < va U 0 (t : Int)
      · rw [if_pos c1]
        refine Exists.imp (fun h' => And.imp_left (if_neg (by decide)).trans) ?_
        rw [kn0 S, bo (ck_q R.1.1)]
        by_cases c2 : vF U < 8
        · rw [if_pos (show cnt U (t : Int) < va U 0 (t : Int) ∧ vF U < 8 from ⟨c1, c2⟩)]
          obtain ⟨h1, e1, R1, K1⟩ := l_join R q (N := N) hF (s := (s : Int)) (i := 10) (t := (t : Int))
          rw [if_pos c2] at e1 R1
          have L1 := K1.lo
          have S1 : X9S h1 := ⟨by rw [L1.1]; exact S.1, by rw [L1.2.1]; exact S.2⟩
          obtain ⟨h2, e2, R2, L2⟩ := ih (t + 1) n h1 _ (c + 1) (by rw [vj_T]; omega) (by omega) S1 R1 (wf_join w c2 (by omega) (by omega) (by omega))
          refine ⟨h2, ?_, R2, L1.tr L2⟩
          rw [bq (show f_X1_join N 1 (iz (s : Int)) (10 : Int32) (iz (t : Int)) h = _ from e1)]
          refine (if_neg (by rw [il0, iz_lt (by omega) (by omega) (by omega) (by omega)]; omega)).trans ?_
          rw [il1, iz_add, iz_add]
          exact e2
        · rw [if_neg (fun z : cnt U (t : Int) < va U 0 (t : Int) ∧ vF U < 8 => c2 z.2)]
          rw [bq (show f_X1_join N 1 (iz (s : Int)) (10 : Int32) (iz (t : Int)) h = _ from l_joinFull R hF c2)]
          exact Exists.imp (fun h' => And.imp_left (if_pos (by decide)).trans) skip
      · rw [if_neg c1, if_neg (fun z : cnt U (t : Int) < va U 0 (t : Int) ∧ vF U < 8 => c1 z.1)]
        exact Exists.imp (fun h' => And.imp_left (if_pos (by decide)).trans) skip
end
