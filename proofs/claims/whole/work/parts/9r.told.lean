/-! what a faultless text tells keeps its bounds -/
def DB (D : Dv) : Prop := (∀ k, k = 9 ∨ k = 10 ∨ k = 11 → ∀ j : Int, 0 ≤ D k j ∧ D k j ≤ 999) ∧ (0 ≤ D 12 0 ∧ D 12 0 ≤ 999) ∧ (0 ≤ D 12 1 ∧ D 12 1 ≤ 2) ∧ (0 ≤ D 12 2 ∧ D 12 2 ≤ 2)
def TKB (T : List Int) : Prop := ∀ e, e ∈ T → 0 ≤ e ∧ e < 16000
theorem TKB.nil : TKB [] := fun e he => by cases he
theorem TKB.app {a b : List Int} (x : TKB a) (y : TKB b) : TKB (a ++ b) := fun e he => by
  rcases List.mem_append.1 he with z | z
  · exact x e z
  · exact y e z
theorem TKB.one {v : Int} (h : 0 ≤ v ∧ v < 16000) : TKB [v] := fun e he => by
  rw [List.mem_singleton] at he
  rw [he]; exact h
section
variable {x : Nat → Int} {L P : Nat} {D : Dv} {T : List Int}
theorem numR_any (hx : ∀ j : Nat, 0 ≤ x j ∧ x j ≤ 255) {P : Nat} : -1 ≤ (numR x L P).1 ∧ (numR x L P).1 < 1000 := by
  by_cases h : P ≤ L
  · have := numR_bd (L := L) hx h
    exact ⟨this.1, this.2.1⟩
  · have : figS x L P 9 = false := by
      unfold figS
      rw [decide_eq_false (by omega)]; rfl
    unfold numR numS
    rw [this]
    show -1 ≤ (-1 : Int) ∧ (-1 : Int) < 1000
    omega
theorem pT_tb (hx : ∀ j : Nat, 0 ≤ x j ∧ x j ≤ 255) {P : Nat} : TKB (pT x L P).2.2 := by
  unfold pT
  split
  · rename_i h1
    have b1 := letS_bd (x := x) (L := L) (P := P) 3
    split
    · rename_i h2
      have b2 := letS_bd (x := x) (L := L) (P := P + 1) 4
      split
      · rename_i h3
        have b3 := numR_any (L := L) hx (P := P + 2)
        exact TKB.one (by omega)
      · exact TKB.nil
    · exact TKB.nil
  · exact TKB.nil
theorem pL_tb {fac : Nat → Rs} (hf : ∀ P, TKB (fac P).2.2) : ∀ (d : Nat) (ft ff : Bool) (P : Nat), TKB (pL fac x L d ft ff P).2.2 := by
  have o : ∀ (b : Bool) (v : Int), 0 ≤ v ∧ v < 16000 → TKB (if b = true then [] else [v]) := fun b v hv => by
    cases b
    · exact TKB.one hv
    · exact TKB.nil
  intro d
  induction d with
  | zero => intro ft ff P; exact TKB.nil
  | succ d ih =>
    intro ft ff P
    unfold pL
    dsimp only
    split
    · split
      · exact ((hf P).app (o ff 13 (by decide))).app (ih _ _ _)
      · split
        · exact (((hf P).app (o ff 13 (by decide))).app (o ft 14 (by decide))).app (ih _ _ _)
        · exact ((hf P).app (o ff 13 (by decide))).app (o ft 14 (by decide))
    · exact hf P
theorem pF_tb (hx : ∀ j : Nat, 0 ≤ x j ∧ x j ≤ 255) : ∀ (k e P : Nat), TKB (pF x L k e P).2.2 := by
  intro k
  induction k with
  | zero => intro e P; exact TKB.nil
  | succ k ih =>
    intro e P
    unfold pF
    dsimp only
    split
    · exact TKB.nil
    · split
      · refine (ih _ _).app ?_
        split
        · exact TKB.one (by decide)
        · exact TKB.nil
      · split
        · split
          · split
            · exact pL_tb (ih _) _ _ _ _
            · exact pL_tb (ih _) _ _ _ _
          · exact pL_tb (ih _) _ _ _ _
        · exact pT_tb hx
theorem shun_tb (hx : ∀ j : Nat, 0 ≤ x j ∧ x j ≤ 255) (t : TKB T) : TKB (shunS x L P T).2.2 := by
  have e : TKB (pE x L P).2.2 := pL_tb (pF_tb hx 8 0) _ _ _ _
  unfold shunS
  split
  · split
    · split
      · have b3 := numR_any (L := L) hx (P := (pE x L P).2.1 + 1)
        exact (t.app e).app (TKB.one (by omega))
      · exact t.app e
    · exact t.app e
  · exact t.app e
theorem DB.set {k : Nat} {j v : Int} (d : DB D) (h : ((k = 9 ∨ k = 10 ∨ k = 11) ∧ 0 ≤ v ∧ v ≤ 999) ∨ (k = 12 ∧ j = 0 ∧ 0 ≤ v ∧ v ≤ 999) ∨ (k = 12 ∧ (j = 1 ∨ j = 2) ∧ 0 ≤ v ∧ v ≤ 2)) : DB (dset D k j v) := by
  obtain ⟨d1, d2, d3, d4⟩ := d
  refine ⟨fun k' hk' j' => ?_, ?_, ?_, ?_⟩
  · unfold dset
    split
    · omega
    · exact d1 k' hk' j'
  · unfold dset
    split
    · omega
    · exact d2
  · unfold dset
    split
    · omega
    · exact d3
  · unfold dset
    split
    · omega
    · exact d4
theorem pair_db (hx : ∀ j : Nat, 0 ≤ x j ∧ x j ≤ 255) {k : Nat} (hk : k = 9 ∨ k = 10) {m : Int} (d : DB D) : DB (pairS x L k m D P).2.2 := by
  unfold pairS
  split
  · split
    · split
      · split
        · split
          · have b := numR_any (L := L) hx (P := P + 4)
            exact d.set (Or.inl ⟨by omega, by omega, by omega⟩)
          · exact d
        · exact d
      · exact d
    · exact d
  · exact d
theorem sing_db (hx : ∀ j : Nat, 0 ≤ x j ∧ x j ≤ 255) (d : DB D) : DB (singS x L D P).2.2 := by
  unfold singS
  split
  · split
    · split
      · have b := numR_any (L := L) hx (P := P + 2)
        exact d.set (Or.inl ⟨by omega, by omega, by omega⟩)
      · exact d
    · exact d
  · exact d
theorem letS_to2 (k : Nat) (hk : k = 1 ∨ k = 2) : letS x L P k ≤ 2 := by
  unfold letS
  split
  · split
    · rename_i j hj
      have := fs_lt _ _ _ hj
      have : strL k = 3 := by rcases hk with rfl | rfl <;> rfl
      omega
    · omega
  · omega
theorem tel_db (hx : ∀ j : Nat, 0 ≤ x j ∧ x j ≤ 255) {w : Nat} (d : DB D) (t : TKB T) (e : (telS x L P w D T).1 = true) : DB (telS x L P w D T).2.2.1 ∧ TKB (telS x L P w D T).2.2.2 := by
  unfold telS at *
  split
  · exact ⟨pair_db hx (Or.inl rfl) d, t⟩
  · rename_i h0
    rw [if_neg h0] at e
    split
    · exact ⟨pair_db hx (Or.inr rfl) d, t⟩
    · rename_i h1
      rw [if_neg h1] at e
      split
      · exact ⟨sing_db hx d, t⟩
      · rename_i h2
        rw [if_neg h2] at e
        split
        · rename_i h3
          rw [if_pos h3] at e
          have := of_decide_eq_true e
          have b := numR_any (L := L) hx (P := P)
          exact ⟨d.set (Or.inr (Or.inl ⟨rfl, rfl, by omega, by omega⟩)), t⟩
        · rename_i h3
          rw [if_neg h3] at e
          split
          · rename_i h4
            rw [if_pos h4] at e
            have := of_decide_eq_true e
            have b := letS_to2 (x := x) (L := L) (P := P) 1 (Or.inl rfl)
            exact ⟨d.set (Or.inr (Or.inr ⟨rfl, Or.inl rfl, by omega, by omega⟩)), t⟩
          · rename_i h4
            rw [if_neg h4] at e
            split
            · rename_i h5
              rw [if_pos h5] at e
              have := of_decide_eq_true e
              have b := letS_to2 (x := x) (L := L) (P := P) 2 (Or.inr rfl)
              exact ⟨d.set (Or.inr (Or.inr ⟨rfl, Or.inr rfl, by omega, by omega⟩)), t⟩
            · exact ⟨d, shun_tb hx t⟩
theorem cl_db (hx : ∀ j : Nat, 0 ≤ x j ∧ x j ≤ 255) (d : DB D) (t : TKB T) (e : (clS x L P D T).1 = true) : DB (clS x L P D T).2.2.1 ∧ TKB (clS x L P D T).2.2.2 := by
  unfold clS at *
  split
  · exact ⟨d, t⟩
  · rename_i h0
    rw [if_neg h0] at e
    split
    · rename_i h1
      rw [if_pos h1] at e
      exact tel_db hx d t e
    · exact ⟨d, t⟩
theorem pair_le (hx : ∀ j : Nat, 0 ≤ x j ∧ x j ≤ 255) (hP : P ≤ L) {k : Nat} {m : Int} : (pairS x L k m D P).2.1 ≤ L := by
  unfold pairS
  split
  · rename_i h1
    have g1 := figS_lt h1
    split
    · rename_i h2
      have g2 := isAt_lt h2
      split
      · rename_i h3
        have g3 := figS_lt h3
        split
        · rename_i h4
          have g4 := isAt_lt h4
          have b := numR_bd (L := L) hx (P := P + 4) (by omega)
          split
          · exact b.2.2.2
          · exact b.2.2.2
        · show P + 3 ≤ L; omega
      · show P + 2 ≤ L; omega
    · show P + 1 ≤ L; omega
  · exact hP
theorem sing_le (hx : ∀ j : Nat, 0 ≤ x j ∧ x j ≤ 255) (hP : P ≤ L) : (singS x L D P).2.1 ≤ L := by
  unfold singS
  split
  · rename_i h1
    have g1 := figS_lt h1
    split
    · rename_i h2
      have g2 := isAt_lt h2
      have b := numR_bd (L := L) hx (P := P + 2) (by omega)
      split
      · exact b.2.2.2
      · exact b.2.2.2
    · show P + 1 ≤ L; omega
  · exact hP
theorem shun_le (hx : ∀ j : Nat, 0 ≤ x j ∧ x j ≤ 255) (hP : P ≤ L) : (shunS x L P T).2.1 ≤ L := by
  have o := pE_ok (L := L) hx hP
  unfold shunS
  split
  · split
    · rename_i h2
      have g2 := isAt_lt h2
      have b := numR_bd (L := L) hx (P := (pE x L P).2.1 + 1) (by omega)
      split
      · exact b.2.2.2
      · exact b.2.2.2
    · exact o.2.1
  · exact o.2.1
theorem tel_le (hx : ∀ j : Nat, 0 ≤ x j ∧ x j ≤ 255) (hP : P ≤ L) (w : Nat) : (telS x L P w D T).2.1 ≤ L := by
  unfold telS
  split
  · exact pair_le hx hP
  · split
    · exact pair_le hx hP
    · split
      · exact sing_le hx hP
      · split
        · exact (numR_bd (L := L) hx hP).2.2.2
        · split
          · show (if 0 ≤ letS x L P 1 then P + 1 else P) ≤ L
            split
            · have := letS_lt (by assumption : 0 ≤ letS x L P 1); omega
            · exact hP
          · split
            · show (if 0 ≤ letS x L P 2 then P + 1 else P) ≤ L
              split
              · have := letS_lt (by assumption : 0 ≤ letS x L P 2); omega
              · exact hP
            · exact shun_le hx hP
theorem cl_le (hx : ∀ j : Nat, 0 ≤ x j ∧ x j ≤ 255) (hP : P ≤ L) : (clS x L P D T).2.1 ≤ L := by
  have b := word_bd (x := x) hP
  unfold clS
  split
  · exact b.2.2.2
  · split
    · rename_i h1
      have := isAt_lt h1
      exact tel_le hx (by omega) _
    · exact b.2.2.2
theorem fl_facts (hx : ∀ j : Nat, 0 ≤ x j ∧ x j ≤ 255) : ∀ (d P : Nat) (D : Dv) (T : List Int), P ≤ L → T.length ≤ P → DB D → TKB T → (-1 ≤ (flS x L d P D T).1 ∧ (flS x L d P D T).1 ≤ L) ∧ ((flS x L d P D T).1 = -1 → DB (flS x L d P D T).2.1 ∧ TKB (flS x L d P D T).2.2 ∧ (flS x L d P D T).2.2.length ≤ L) := by
  intro d
  induction d with
  | zero => intro P D T hP hT db tb; unfold flS; exact ⟨by dsimp only; omega, fun z => by dsimp only at z; omega⟩
  | succ d ih =>
    intro P D T hP hT db tb
    have b1 := cl_bd (L := L) (D := D) hx hP hT
    have b2 := cl_le (D := D) (T := T) hx hP
    have b3 := cl_db (P := P) hx db tb (L := L)
    unfold flS
    split
    · rename_i h1
      have b4 := b3 h1
      split
      · rename_i h2
        exact ⟨by dsimp only; omega, fun _ => ⟨b4.1, b4.2, by dsimp only; omega⟩⟩
      · split
        · exact ⟨by dsimp only; omega, fun z => by dsimp only at z; omega⟩
        · split
          · rename_i h3
            have := isAt_lt h3
            exact ih _ _ _ (by omega) (by omega) b4.1 b4.2
          · exact ⟨by dsimp only; omega, fun z => by dsimp only at z; omega⟩
    · exact ⟨by dsimp only; omega, fun z => by dsimp only at z; omega⟩
theorem fault_facts (hx : ∀ j : Nat, 0 ≤ x j ∧ x j ≤ 255) : (-1 ≤ (faultS x L).1 ∧ (faultS x L).1 ≤ L) ∧ ((faultS x L).1 = -1 → DB (faultS x L).2.1 ∧ TKB (faultS x L).2.2 ∧ (faultS x L).2.2.length ≤ L) := fl_facts hx 10 0 D0 [] (Nat.zero_le _) (Nat.le_refl _) (by
  refine ⟨fun k hk j => ?_, by decide, by decide, by decide⟩
  unfold D0
  split <;> omega) TKB.nil
end
