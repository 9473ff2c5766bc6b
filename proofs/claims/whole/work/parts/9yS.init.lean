/-! the beginning: what the constructors leave -/
def I9 : Mem := (f_X9_init 6000 0 (al mem0 (9, 0))).getD mem0
def IM : Mem := (f_X10_init 6000 71 (al I9 (10, 0))).getD mem0
theorem i_9 : f_X9_init 6000 0 (al mem0 (9, 0)) = some I9 := by
  have e : (f_X9_init 6000 0 (al mem0 (9, 0))).isSome = true := by decide +kernel
  unfold I9
  cases h : f_X9_init 6000 0 (al mem0 (9, 0)) with
  | none => rw [h] at e; cases e
  | some m => rfl
theorem i_9l : I9.1.length = 71 := by decide +kernel
theorem i_M : f_X10_init 6000 71 (al I9 (10, 0)) = some IM := by
  have e : (f_X10_init 6000 71 (al I9 (10, 0))).isSome = true := by decide +kernel
  unfold IM
  cases h : f_X10_init 6000 71 (al I9 (10, 0)) with
  | none => rw [h] at e; cases e
  | some m => rfl
def V0 : Vw := (0, 0, (fun k _ => if k = 11 then 10 else 0), fun _ _ _ _ => 0)
theorem im_ct1 : IM.1[1]? = some (1, 0) ∧ ∀ k, k < 10 → IM.2.2.2 1 (k + 3) = some (ar 1 k) ∧ IM.1[ar 1 k]? = some (100, ln k) := by decide +kernel
theorem v0_at (k : Nat) (j : Int) : va V0 k j = if k = 11 then 10 else 0 := rfl
theorem v0_wf : WF V0 := by
  refine ⟨by decide, by decide, fun j _ _ => ⟨?_, ?_, ?_, ?_⟩, fun j _ _ => ⟨?_, ?_⟩, fun j _ _ => ⟨?_, ?_, ?_, ?_⟩, fun j _ _ => ?_, fun j _ _ => ?_, ?_, ?_, ?_, fun j h0 h1 => ?_, fun s i t n => ?_⟩
  · show (0 : Int) ≤ 0 ∧ (0 : Int) ≤ 8; decide
  · show (0 : Int) ≤ 0 ∧ (0 : Int) ≤ 999; decide
  · show (0 : Int) ≤ 0 ∧ (0 : Int) ≤ 99; decide
  · show (0 : Int) ≤ 0 ∧ (0 : Int) ≤ 999; decide
  · show (0 : Int) ≤ 0 ∧ (0 : Int) ≤ 5; decide
  · show (-20 : Int) ≤ 0 ∧ (0 : Int) ≤ 1019; decide
  · show (0 : Int) ≤ 0 ∧ (0 : Int) ≤ 3; decide
  · show (0 : Int) ≤ 0 ∧ (0 : Int) ≤ 99; decide
  · show (0 : Int) ≤ 0 ∧ (0 : Int) ≤ 3; decide
  · show (0 : Int) ≤ 0 ∧ (0 : Int) ≤ 3; decide
  · show (0 : Int) ≤ 0 ∧ (0 : Int) ≤ 999; decide
  · show (0 : Int) ≤ 10 ∧ (10 : Int) ≤ 999; decide
  · show (0 : Int) ≤ 0 ∧ (0 : Int) ≤ 999; decide
  · show (0 : Int) ≤ 0 ∧ (0 : Int) ≤ 2; decide
  · show (0 : Int) ≤ 0 ∧ (0 : Int) ≤ 2; decide
  · have : (vF V0 : Int) = 0 := rfl
    omega
  · show (0 : Int) ≤ 0 ∧ (0 : Int) ≤ 10000; decide
theorem v0_lk : LK V0 := fun j _ _ => by show (0 : Int) ≤ 0 ∧ (0 : Int) ≤ 999; decide
theorem im_7 : IM.2.1 2 7 = iz 0 := by decide +kernel
theorem im_sh : shOK (IM.2.1 (2 + 4)) (IM.2.1 2 7) (vs V0) := by
  intro N h p hN hp _ _ hl _ s i t n _ _ _ _ _ _ _ _
  rw [im_7] at hl
  obtain ⟨N, rfl⟩ : ∃ k, N = k + 1 := ⟨N - 1, by omega⟩
  unfold f_X3_shunned
  rw [f_X3_shunned_9, bo (gI_q hp), hl]
  exact if_pos (by decide)
theorem im_rows : ∀ k, k < 9 → ∀ j : Nat, j < ln k → IM.2.1 (ar 1 k) j = iz (va V0 k j) := by decide +kernel
theorem im_ld1 : IM.1[2]? = some (3, 0) ∧ (IM.2.2.2 2 0 = some (2 + 1) ∧ IM.1[2 + 1]? = some (100, 12)) ∧ (IM.2.2.2 2 1 = some (2 + 2) ∧ IM.1[2 + 2]? = some (100, 16)) ∧ (IM.2.2.2 2 2 = some (2 + 3) ∧ IM.1[2 + 3]? = some (100, 3)) ∧ (IM.2.2.2 2 6 = some (2 + 4) ∧ IM.1[2 + 4]? = some (100, 120)) := by decide +kernel
theorem im_ld2 : (∀ j : Nat, j < 12 → IM.2.1 (2 + 1) j = iz (va V0 9 j)) ∧ (∀ j : Nat, j < 16 → IM.2.1 (2 + 2) j = iz (va V0 10 j)) ∧ (∀ j : Nat, j < 3 → IM.2.1 (2 + 3) j = iz (va V0 11 j)) ∧ IM.2.1 2 3 = iz (va V0 12 0) ∧ IM.2.1 2 4 = iz (va V0 12 1) ∧ IM.2.1 2 5 = iz (va V0 12 2) := by decide +kernel
theorem im_repC : RepC IM 1 2 V0 := by
  obtain ⟨a1, a2, a3, a4, a5⟩ := im_ld1
  obtain ⟨b1, b2', b3, b4, b5, b6⟩ := im_ld2
  exact ⟨im_ct1, by decide +kernel, by decide +kernel, im_rows, by decide +kernel, a1, a2, a3, a4, a5, b1, b2', b3, b4, b5, b6, im_sh⟩
theorem im_msh : MSh IM := by
  unfold MSh
  decide +kernel
theorem im_mrows : ∀ k, k < 9 → ∀ j : Nat, j < ln k → IM.2.1 (72 + k) j = iz (va V0 k j) := by decide +kernel
theorem im_mland : (∀ j : Nat, j < 12 → IM.2.1 84 j = iz (va V0 9 j)) ∧ (∀ j : Nat, j < 16 → IM.2.1 85 j = iz (va V0 10 j)) ∧ (∀ j : Nat, j < 3 → IM.2.1 86 j = iz (va V0 11 j)) ∧ (IM.2.1 71 25 = iz (va V0 12 0) ∧ IM.2.1 71 26 = iz (duC (va V0 12 1)) ∧ IM.2.1 71 27 = iz (piC (va V0 12 2))) := by decide +kernel
theorem im_fields : IM.2.1 71 0 = iz 0 ∧ IM.2.1 71 1 = iz 0 ∧ IM.2.1 71 2 = iz 0 ∧ IM.2.1 71 12 = iz 0 ∧ IM.2.1 71 13 = iz 0 ∧ IM.2.1 71 29 = iz 0 ∧ IM.2.1 71 50 = iz 0 ∧ IM.2.1 71 55 = iz 0 ∧ IM.2.1 82 0 = iz 0 ∧ IM.2.1 0 11 = iz 0 ∧ IM.2.1 0 12 = iz 0 ∧ IM.2.1 0 13 = iz 0 ∧ IM.2.1 55 1 = iz 0 ∧ IM.2.1 44 1 = iz 0 := by decide +kernel
theorem im_repM : RepM IM V0 := by
  obtain ⟨a0, a1, a2, a12, a13, a29, _, _, a82, _⟩ := im_fields
  obtain ⟨b1, b2', b3, b4⟩ := im_mland
  refine ⟨im_msh, ⟨a0, a1⟩, im_mrows, b1, b2', b3, b4, ⟨fun _ => 0, 0, 0, fun j hj => absurd hj (Nat.not_lt_zero j), a82, by decide, fun _ => ⟨Int.le_refl 0, (by decide : (0 : Int) ≤ 255)⟩, a12, by decide, Or.inl ⟨rfl, fun _ _ _ _ => rfl⟩⟩, Or.inl a29⟩
theorem im_x9 : X9S IM := by
  unfold X9S
  decide +kernel
theorem im_ct : CT IM 17 ∧ CT IM 28 := by
  unfold CT
  decide +kernel
theorem im_rwd : RS IM ∧ WK IM ∧ DS IM := by
  unfold RS WK DS
  decide +kernel
theorem im_act : IM.1[55]? = some (0, 0) ∧ IM.2.2.2 55 0 = some 56 ∧ IM.1[56]? = some (100, 20) := by decide +kernel
theorem im_txt : IM.1[44]? = some (5, 0) ∧ IM.2.2.2 44 0 = some 45 ∧ IM.1[45]? = some (101, 120) := by decide +kernel
theorem im_lws : IM.1[57]? = some (104, 4) ∧ IM.1.length = 111 + 0 := by decide +kernel
theorem im_tp1 : IM.1[58]? = some (105, 6) ∧ ∀ k : Nat, k < 6 → IM.2.2.2 58 k = some (59 + 2 * k) ∧ IM.1[59 + 2 * k]? = some (7, 0) ∧ IM.2.2.2 (59 + 2 * k) 0 = some (60 + 2 * k) ∧ IM.1[60 + 2 * k]? = some (103, 60) := by decide +kernel
theorem im_tp2 : ∀ k : Nat, k < 6 → IM.2.1 (59 + 2 * k) 1 = iz (-1) ∧ IM.2.1 (59 + 2 * k) 2 = iz 0 ∧ IM.2.1 107 k = iz (-1) ∧ IM.2.1 108 k = iz 0 := by decide +kernel
theorem im_tp3 : ∀ k : Nat, k < 6 → ∀ j : Nat, j < 60 → IM.2.2.1 (60 + 2 * k) j = IM.2.2.1 109 (60 * k + j) := by decide +kernel
theorem im_draft : IM.2.2.2 0 3 = some 39 ∧ IM.1[39]? = some (3, 0) ∧ (IM.2.2.2 39 0 = some (39 + 1) ∧ IM.1[39 + 1]? = some (100, 12)) ∧ (IM.2.2.2 39 1 = some (39 + 2) ∧ IM.1[39 + 2]? = some (100, 16)) ∧ (IM.2.2.2 39 2 = some (39 + 3) ∧ IM.1[39 + 3]? = some (100, 3)) ∧ (IM.2.2.2 39 6 = some (39 + 4) ∧ IM.1[39 + 4]? = some (100, 120)) := by decide +kernel
theorem im_rel : REL IM V0 2 39 0 := by
  obtain ⟨a0, a1, a2, a12, a13, a29, a50, a55, a82, c11, c12, c13, d1, e1⟩ := im_fields
  obtain ⟨t1, t2⟩ := im_tp1
  refine ⟨Or.inl ⟨rfl, rfl⟩, im_repC, im_repM, v0_wf, v0_lk, im_draft.1, im_draft.2, im_x9, im_ct, im_rwd, ⟨im_act.1, im_act.2.1, im_act.2.2, 0, d1, a55, by decide, fun j _ hj => absurd hj (Nat.not_lt_zero j)⟩, ⟨fun _ => 0, 0, ⟨im_txt.1, im_txt.2.1, im_txt.2.2, e1, fun j hj => absurd hj (Nat.not_lt_zero j), by decide, fun _ => ⟨Int.le_refl 0, (by decide : (0 : Int) ≤ 255)⟩⟩, a13, fun j hj => absurd hj (Nat.not_lt_zero j)⟩, ⟨0, by decide, c13, a2⟩, ⟨0, Nat.le_refl 0, c12, a12⟩, ⟨0, by decide, c11, a50, im_lws.1, im_lws.2, fun k hk => absurd hk (Nat.not_lt_zero k)⟩, t1, fun k hk => ?_⟩
  obtain ⟨u1, u2', u3, u4⟩ := t2 k hk
  exact ⟨u1, u2', u3, u4, -1, 0, by decide, by decide, fun _ => rfl, im_tp2 k hk, im_tp3 k hk, fun z => by cases z⟩
