/-! the rows that trial ways lay out -/
theorem stl_at {V : Vw} {r : Nat} : ∀ n, n ≤ vF V → ∀ j : Int, va (stl V r n) 7 j = if (vF V : Int) - n ≤ j ∧ j < vF V then ((r / vT V ^ ((vF V : Int) - 1 - j).toNat % vT V : Nat) : Int) else va V 7 j := by
  intro n
  induction n with
  | zero => intro _ j; exact (if_neg (by omega)).symm
  | succ n ih =>
    intro hn j
    show va (vset (stl V r n) 7 ((vF V : Int) - 1 - n) ((r / vT V ^ n % vT V : Nat) : Int)) 7 j = _
    rw [vset_at, ih (by omega) j]
    by_cases c : j = (vF V : Int) - 1 - n
    · subst c
      rw [if_pos ⟨rfl, rfl⟩, if_pos (by omega), show ((vF V : Int) - 1 - ((vF V : Int) - 1 - n)).toNat = n by omega]
    · rw [if_neg (fun z => c z.2)]
      by_cases c2 : (vF V : Int) - n ≤ j ∧ j < vF V
      · rw [if_pos c2, if_pos (by omega)]
      · rw [if_neg c2, if_neg (by omega)]
def stv (V : Vw) (r : Nat) : Nat → Int → Int := fun k j => if k = 7 ∧ 0 ≤ j ∧ j < (vF V : Int) then ((r / vT V ^ ((vF V : Int) - 1 - j).toNat % vT V : Nat) : Int) else va V k j
theorem stl_form {V : Vw} {r : Nat} : stl V r (vF V) = (vT V, vF V, stv V r, vs V) := by
  obtain ⟨e1, e2, e3, e4⟩ := stl_TF (V := V) (r := r) (vF V)
  have ha : va (stl V r (vF V)) = stv V r := by
    funext k j
    unfold stv
    by_cases c : k = 7
    · subst c
      rw [stl_at (vF V) (Nat.le_refl _)]
      by_cases c2 : (0 : Int) ≤ j ∧ j < vF V
      · rw [if_pos (by omega), if_pos ⟨rfl, c2⟩]
      · rw [if_neg (by omega), if_neg (fun z => c2 z.2)]
    · rw [e4 k c, if_neg (fun z => c z.1)]
  rw [← ha, ← e3]
  conv => rhs; rw [← e1]
  have : ∀ U : Vw, vF U = vF V → U = (vT U, vF V, va U, vs U) := fun U hU => by rw [← hU]
  exact this _ e2
theorem stl_stl {V : Vw} {r r' : Nat} : stl (stl V r (vF V)) r' (vF V) = stl V r' (vF V) := by
  obtain ⟨e1, e2, e3, e4⟩ := stl_TF (V := V) (r := r) (vF V)
  have h1 := stl_form (V := stl V r (vF V)) (r := r')
  rw [e2] at h1
  rw [h1, e1, e3, stl_form (r := r')]
  have : stv (stl V r (vF V)) r' = stv V r' := by
    funext k j
    unfold stv
    rw [e1, e2]
    by_cases c : k = 7 ∧ 0 ≤ j ∧ j < (vF V : Int)
    · rw [if_pos c, if_pos c]
    · rw [if_neg c, if_neg c, stl_form]
      exact if_neg c
  rw [this]
theorem stl_ways {V : Vw} {r : Nat} : ways (stl V r (vF V)) = ways V := by
  obtain ⟨e1, e2, _, _⟩ := stl_TF (V := V) (r := r) (vF V)
  unfold ways
  rw [e1, e2]
theorem stl_like {V : Vw} {r : Nat} : like5 (stl V r (vF V)) V := by
  obtain ⟨e1, e2, e3, e4⟩ := stl_TF (V := V) (r := r) (vF V)
  exact ⟨e1, e2, e3, fun k hk => e4 k (by rintro rfl; exact hk (by decide))⟩
