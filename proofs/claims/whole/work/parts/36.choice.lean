def wr (h : Mem) (a : Nat) (row : Nat → Int32) : Mem := (h.1, z2 h.2.1 a row, h.2.2.1, h.2.2.2)
theorem wr_eq {h : Mem} {a : Nat} {row : Nat → Int32} : (wr h a row).2.1 a = row := z2_eq
theorem wr_ne {h : Mem} {a i : Nat} {row : Nat → Int32} (hi : i ≠ a) : (wr h a row).2.1 i = h.2.1 i := z2_ne hi
theorem wr_wr {h : Mem} {a : Nat} {r1 r2 : Nat → Int32} : wr (wr h a r1) a r2 = wr h a r2 := by
  unfold wr z2
  congr 2
  funext i
  by_cases hi : i = a
  · simp [hi]
  · simp [hi]
theorem wr_id {h : Mem} {a : Nat} {row : Nat → Int32} (e : row = h.2.1 a) : wr h a row = h := by
  subst e
  unfold wr z2
  obtain ⟨h1, h2, h3, h4⟩ := h
  dsimp only
  congr 2
  funext i
  by_cases hi : i = a
  · simp [hi]
  · simp [hi]
theorem st_wr {h : Mem} {a n : Nat} {i : Int} {v : Int32} (hq : h.1[a]? = some (100, n)) (h0 : 0 ≤ i) (h1 : i < n) (hn : n < 2147483648) : stI 100 h a (iz i) v = some (wr h a (upd (h.2.1 a) i.toNat v)) := by
  rw [stI_q hq h0 h1 hn]
  rfl
theorem upd_at {f : Nat → Int32} {k j : Nat} {x : Int32} : upd f k x j = if j = k then x else f j := rfl
theorem upd_upd {f : Nat → Int32} {k : Nat} {x y : Int32} : upd (upd f k x) k y = upd f k y := by
  unfold upd; funext j; by_cases hj : j = k
  · simp [hj]
  · simp [hj]
theorem upd_id {f : Nat → Int32} {k : Nat} {x : Int32} (e : x = f k) : upd f k x = f := by
  subst e
  unfold upd; funext j; by_cases hj : j = k
  · simp [hj]
  · simp [hj]
def CP (c p : Nat) : Prop := (c = 1 ∨ c = 17 ∨ c = 28) ∧ (p = 2 ∨ p = 39)
theorem ar_ne {c : Nat} {k k' : Nat} (h : k ≠ k') : ar c k ≠ ar c k' := by unfold ar; split <;> omega
theorem ar_land {c p k i : Nat} (q : CP c p) (hk : k < 10) (hi : i < 5) : p + i ≠ ar c k ∧ c ≠ ar c k := by
  obtain ⟨h1 | h1 | h1, h2 | h2⟩ := q <;> subst h1 <;> subst h2 <;> unfold ar <;> split <;> omega
theorem vset_at {V : Vw} {k k' : Nat} {j j' x : Int} : va (vset V k j x) k' j' = if k' = k ∧ j' = j then x else va V k' j' := rfl
theorem vset_ne {V : Vw} {k k' : Nat} {j x : Int} (hk : k' ≠ k) : va (vset V k j x) k' = va V k' := by funext j'; rw [vset_at, if_neg (fun q => hk q.1)]
theorem vset_T {V : Vw} {k : Nat} {j x : Int} : vT (vset V k j x) = vT V := rfl
theorem vset_F {V : Vw} {k : Nat} {j x : Int} : vF (vset V k j x) = vF V := rfl
theorem vset_s {V : Vw} {k : Nat} {j x : Int} : vs (vset V k j x) = vs V := rfl
theorem vset_vset {V : Vw} {k : Nat} {j x y : Int} : vset (vset V k j x) k j y = vset V k j y := by
  unfold vset
  congr 3
  funext k' j'
  by_cases hq : k' = k ∧ j' = j
  · simp [hq]
  · simp [hq]
theorem vset_id {V : Vw} {k : Nat} {j x : Int} (e : x = va V k j) : vset V k j x = V := by
  subst e
  obtain ⟨a, b, f, g⟩ := V
  unfold vset
  congr 3
  funext k' j'
  by_cases hq : k' = k ∧ j' = j
  · simp [hq]
  · simp [hq]
theorem wf_level {V : Vw} (w : WF V) {j x : Int} (hx : 0 ≤ x ∧ x ≤ 5) : WF (vset V 1 j x) := by
  obtain ⟨a1, a2, a3, a4, a5, a6, a7, a8, a9, a10, a11, a12⟩ := w
  refine ⟨a1, a2, a3, fun j' h0 h1 => ⟨?_, (a4 j' h0 h1).2⟩, a5, a6, a7, a8, a9, a10, a11, a12⟩
  rw [vset_at]
  split
  · exact hx
  · exact (a4 j' h0 h1).1
/-- a new row of a country that no number of its view hangs on, or that is given anew -/
theorem rep_wr {h : Mem} {c p k : Nat} {V V' : Vw} {row : Nat → Int32} (R : RepC h c p V) (q : CP c p) (hk : k < 10) (e1 : vT V' = vT V) (e2 : vF V' = vF V) (e3 : vs V' = vs V) (e4 : ∀ k', k' ≠ k ∨ 9 ≤ k' → va V' k' = va V k') (e5 : k < 9 → ∀ j : Nat, j < ln k → row j = iz (va V' k j)) : RepC (wr h (ar c k) row) c p V' := by
  obtain ⟨a1, a2, a3, a4, a5, b0, b1, b2, b3, b4, b5, b6, b7, b8, b9, b10, b11⟩ := R
  have n0 : ∀ i, i < 5 → (wr h (ar c k) row).2.1 (p + i) = h.2.1 (p + i) := fun i hi => wr_ne (ar_land q hk hi).1
  have nc : (wr h (ar c k) row).2.1 c = h.2.1 c := wr_ne (ar_land (i := 0) q hk (by decide)).2
  have np : (wr h (ar c k) row).2.1 p = h.2.1 p := n0 0 (by decide)
  refine ⟨a1, by rw [nc, a2, e1], by rw [nc, a3, e2], fun k0 hk0 j hj => ?_, a5, b0, b1, b2, b3, b4, fun j hj => ?_, fun j hj => ?_, fun j hj => ?_, ?_, ?_, ?_, ?_⟩
  · by_cases he : k0 = k
    · subst he
      rw [wr_eq]
      exact e5 hk0 j hj
    · rw [wr_ne (ar_ne he), a4 k0 hk0 j hj, e4 k0 (Or.inl he)]
  · rw [n0 1 (by decide), b5 j hj, e4 9 (Or.inr (by decide))]
  · rw [n0 2 (by decide), b6 j hj, e4 10 (Or.inr (by decide))]
  · rw [n0 3 (by decide), b7 j hj, e4 11 (Or.inr (by decide))]
  · rw [np, b8, e4 12 (Or.inr (by decide))]
  · rw [np, b9, e4 12 (Or.inr (by decide))]
  · rw [np, b10, e4 12 (Or.inr (by decide))]
  · rw [n0 4 (by decide), np, e3]
    exact b11
theorem rep_want {h : Mem} {c p : Nat} {V : Vw} {row : Nat → Int32} (R : RepC h c p V) (q : CP c p) : RepC (wr h (ar c 9) row) c p V :=
  rep_wr R q (by decide) rfl rfl rfl (fun _ _ => rfl) (fun h => absurd h (by decide))
theorem rep_set {h : Mem} {c p k : Nat} {V : Vw} {j x : Int} (R : RepC h c p V) (q : CP c p) (hk : k < 9) (h0 : 0 ≤ j) (h1 : j < ln k) : RepC (wr h (ar c k) (upd (h.2.1 (ar c k)) j.toNat (iz x))) c p (vset V k j x) := by
  refine rep_wr R q (by omega) rfl rfl rfl (fun k' hk' => vset_ne (by omega)) (fun _ i hi => ?_)
  rw [upd_at, vset_at]
  by_cases hij : i = j.toNat
  · rw [if_pos hij, if_pos ⟨rfl, by omega⟩]
  · rw [if_neg hij, if_neg (fun z => hij (by omega)), R.2.2.2.1 k hk i hi]
/-- the first of the greatest -/
def wbest (w : Nat → Int) : Nat → Nat
  | 0 => 0
  | n + 1 => if w (wbest w n) < w n then n else wbest w n
theorem wbest_lt (w : Nat → Int) : ∀ n, 0 < n → wbest w n < n := by
  intro n
  induction n with
  | zero => intro h; omega
  | succ n ih =>
    intro _
    unfold wbest
    split
    · omega
    · by_cases hn : n = 0
      · subst hn; show 0 < 1; omega
      · have := ih (by omega); omega
theorem wbest_1 (w : Nat → Int) : wbest w 1 = 0 := by unfold wbest wbest; split <;> rfl
theorem wbest_congr {w w' : Nat → Int} {K : Int} : ∀ n m, n ≤ m → 0 < m → (∀ v, v < m → w v = K + w' v) → wbest w n = wbest w' n := by
  intro n
  induction n with
  | zero => intro _ _ _ _; rfl
  | succ n ih =>
    intro m hm h0 e
    have h1 := ih m (by omega) h0 e
    have hb : wbest w' n < m := by
      by_cases hn : n = 0
      · subst hn; exact h0
      · have := wbest_lt w' n (by omega); omega
    unfold wbest
    rw [h1, e _ hb, e n (by omega)]
    by_cases h2 : w' (wbest w' n) < w' n
    · rw [if_pos (by omega), if_pos h2]
    · rw [if_neg (by omega), if_neg h2]
def wl (V : Vw) (f t g : Int) (v : Nat) : Int := va V 9 (va V 5 f * 3 + g) * v - part (cost (vset V 1 (t * 3 + g) v) t) (share V f (grt V t f (vF V))) (shares V t f (grt V t f (vF V)) (vF V))
def want (V : Vw) (f t g : Int) : Int := wbest (wl V f t g) 6
def isOld (V : Vw) (t : Int) : Nat → Prop
  | 0 => False
  | n + 1 => isOld V t n ∨ (va V 7 n = t ∧ va V 8 n = t)
