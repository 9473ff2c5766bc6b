/-- digits put behind, ints -/
theorem iz_pack {x a : Int} {k : Nat} (hk : k ≤ 4) (h0 : 0 ≤ x) (h1 : x < 1048576) (a0 : 0 ≤ a) (a1 : a < 2 ^ k) : (iz x <<< iz (k : Int)) ||| iz a = iz (x * 2 ^ k + a) := by
  obtain ⟨x, rfl⟩ := Int.eq_ofNat_of_zero_le h0
  obtain ⟨a, rfl⟩ := Int.eq_ofNat_of_zero_le a0
  have ha : a < 2 ^ k := by
    have : ((a : Nat) : Int) < ((2 ^ k : Nat) : Int) := by rw [Int.natCast_pow]; exact a1
    omega
  have hx : x < 1048576 := by omega
  have hk3 : k = 0 ∨ k = 1 ∨ k = 2 ∨ k = 3 ∨ k = 4 := by omega
  have ex : ((x : Int) * 2 ^ k + (a : Int)) = ((x * 2 ^ k + a : Nat) : Int) := by push_cast; rfl
  rw [ex]
  apply Int32.toBitVec_inj.mp
  have e : ∀ m : Nat, (iz (m : Int)).toBitVec = BitVec.ofNat 32 m := fun m => by
    unfold iz
    rw [Int32.ofInt_eq_ofNat]; rfl
  rw [Int32.toBitVec_or, Int32.toBitVec_shiftLeft, e, e, e, e]
  apply BitVec.eq_of_toNat_eq
  rw [BitVec.toNat_or]
  have hs : ∀ q : Nat, q ≤ 4 → (BitVec.ofNat 32 q).smod 32 = BitVec.ofNat 32 q := by decide
  rw [hs k hk, BitVec.shiftLeft_eq', BitVec.toNat_shiftLeft, BitVec.toNat_ofNat, BitVec.toNat_ofNat, BitVec.toNat_ofNat, BitVec.toNat_ofNat]
  rw [Nat.mod_eq_of_lt (show k < 2 ^ 32 by omega), Nat.mod_eq_of_lt (show x < 2 ^ 32 by omega)]
  have h8 : 2 ^ k ≤ 16 := by rcases hk3 with rfl | rfl | rfl | rfl | rfl <;> decide
  have hxk : x * 2 ^ k < 16777216 := by
    have := Nat.mul_le_mul_left x h8
    omega
  rw [Nat.mod_eq_of_lt (show a < 2 ^ 32 by omega), Nat.shiftLeft_eq, Nat.mod_eq_of_lt (show x * 2 ^ k < 2 ^ 32 by omega), Nat.mod_eq_of_lt (show x * 2 ^ k + a < 2 ^ 32 by omega)]
  have := Nat.shiftLeft_add_eq_or_of_lt ha x
  rw [Nat.shiftLeft_eq] at this
  exact this.symm
theorem pk4 : iz 4 &&& iz 31 = iz ((4 : Nat) : Int) := by decide
/-- a land's program -/
def EL (h : Mem) (p : Nat) (T : List Int) : Prop := h.1[p]? = some (3, 0) ∧ h.2.2.2 p 6 = some (p + 4) ∧ h.1[p + 4]? = some (100, 120) ∧ h.2.1 p 7 = iz (T.length : Int) ∧ ∀ j, j < T.length → h.2.1 (p + 4) j = iz (T.getD j 0)
/-- what reading an expression leaves -/
def FE (p : Nat) (h h' : Mem) : Prop := h'.1 = h.1 ∧ h'.2.2 = h.2.2 ∧ (∀ i, i ≠ 44 → i ≠ p → i ≠ p + 4 → h'.2.1 i = h.2.1 i) ∧ (∀ j, j ≠ 2 → h'.2.1 44 j = h.2.1 44 j) ∧ (∀ j, j ≠ 7 → h'.2.1 p j = h.2.1 p j)
theorem FE.rf {p : Nat} {h : Mem} : FE p h h := ⟨rfl, rfl, fun _ _ _ _ => rfl, fun _ _ => rfl, fun _ _ => rfl⟩
theorem FE.tr {p : Nat} {h h1 h2 : Mem} (a : FE p h h1) (b : FE p h1 h2) : FE p h h2 := ⟨b.1.trans a.1, b.2.1.trans a.2.1, fun i q1 q2 q3 => (b.2.2.1 i q1 q2 q3).trans (a.2.2.1 i q1 q2 q3), fun j q => (b.2.2.2.1 j q).trans (a.2.2.2.1 j q), fun j q => (b.2.2.2.2 j q).trans (a.2.2.2.2 j q)⟩
def Lq (p : Nat) : Prop := p = 2 ∨ p = 39
theorem FE.pm {p P : Nat} {h : Mem} (q : Lq p) : FE p h (pm h P) := by
  refine ⟨rfl, rfl, fun i h1 _ _ => u2_ne h1, fun j hj => ?_, fun j _ => ?_⟩
  · show u2 h.2.1 44 2 (iz (P : Int)) 44 j = _
    rw [u2_at, if_neg hj]
  · show u2 h.2.1 44 2 (iz (P : Int)) p j = _
    rw [u2_ne (by rcases q with rfl | rfl <;> decide)]
theorem EL.pm {p P : Nat} {h : Mem} {T : List Int} (q : Lq p) (E : EL h p T) : EL (pm h P) p T := by
  obtain ⟨a1, a2, a3, a4, a5⟩ := E
  refine ⟨a1, a2, a3, ?_, fun j hj => ?_⟩
  · show u2 h.2.1 44 2 (iz (P : Int)) p 7 = _
    rw [u2_ne (by rcases q with rfl | rfl <;> decide)]; exact a4
  · show u2 h.2.1 44 2 (iz (P : Int)) (p + 4) j = _
    rw [u2_ne (by rcases q with rfl | rfl <;> decide)]; exact a5 j hj
def ST (h0 : Mem) (x : Nat → Int) (L p : Nat) (h : Mem) (P : Nat) (T : List Int) : Prop := RD h x L P ∧ EL h p T ∧ FE p h0 h
section
variable {h0 h : Mem} {x : Nat → Int} {L P p N : Nat} {T : List Int}
theorem ST.pm (q : Lq p) (s : ST h0 x L p h P T) {P' : Nat} (hP : P' ≤ L) : ST h0 x L p (pm h P') P' T := ⟨pm_rd s.1 hP, s.2.1.pm q, s.2.2.tr (FE.pm q)⟩
theorem kPc {γ : Type} {k : Unit → Option γ} (s : ST h0 x L p h P T) : (ck h p 3).bind k = k () := bo (ck_q s.2.1.1)
theorem l_emit (q : Lq p) (s : ST h0 x L p h P T) (hT : T.length < 120) {g n : Int} (hg : 0 ≤ g ∧ g < 16) (hn : 0 ≤ n ∧ n < 1000) : ∃ h', f_X3_emit N p (iz g) (iz n) h = some h' ∧ ST h0 x L p h' P (T ++ [n * 16 + g]) := by
  obtain ⟨⟨r1, r2, r3, r4, r5, r6, r7, r8, r9⟩, ⟨a1, a2, a3, a4, a5⟩, K⟩ := s
  have p1 : p ≠ 44 ∧ p ≠ 45 ∧ p + 4 ≠ 44 ∧ p + 4 ≠ 45 := by rcases q with rfl | rfl <;> decide
  have p2 : p + 4 ≠ p := by omega
  have hl : ¬ ((120 : Int) ≤ T.length) := by omega
  have e0 : gI h p 3 7 = some (iz (T.length : Int)) := by rw [gI_q a1, a4]
  have e1 : gR h p 3 6 = some (p + 4) := gR_q a1 a2
  have e2 : alen 100 h (p + 4) = some (iz ((120 : Nat) : Int)) := alen_q a3
  have e3 : sI h p 3 7 (iz ((T.length : Int) + 1)) = some (h.1, u2 h.2.1 p 7 (iz ((T.length : Int) + 1)), h.2.2.1, h.2.2.2) := sI_q a1
  have e4 : stI 100 (h.1, u2 h.2.1 p 7 (iz ((T.length : Int) + 1)), h.2.2.1, h.2.2.2) (p + 4) (iz (T.length : Int)) (iz (n * 16 + g)) = some (h.1, u2 (u2 h.2.1 p 7 (iz ((T.length : Int) + 1))) (p + 4) (T.length : Int).toNat (iz (n * 16 + g)), h.2.2.1, h.2.2.2) := stI_q a3 (by omega) (by omega) (by decide)
  have ep := iz_pack (x := n) (a := g) (k := 4) (by omega) (by omega) (by omega) (by omega) (by show g < 16; omega)
  have e16 : ((2 : Int) ^ 4) = 16 := by decide
  rw [e16] at ep
  have i1 : ∀ i, i ≠ p → i ≠ p + 4 → u2 (u2 h.2.1 p 7 (iz ((T.length : Int) + 1))) (p + 4) (T.length : Int).toNat (iz (n * 16 + g)) i = h.2.1 i := fun i h1 h2 => by rw [u2_ne h2, u2_ne h1]
  refine ⟨(h.1, u2 (u2 h.2.1 p 7 (iz ((T.length : Int) + 1))) (p + 4) (T.length : Int).toNat (iz (n * 16 + g)), h.2.2.1, h.2.2.2), ?_, ⟨⟨r1, r2, r3, ?_, ?_, fun j hj => ?_, r7, r8, r9⟩, ⟨a1, a2, a3, ?_, fun j hj => ?_⟩, K.tr ⟨rfl, rfl, fun i h1 h2 h3 => i1 i h2 h3, fun j hj => ?_, fun j hj => ?_⟩⟩⟩
  · unfold f_X3_emit
    rw [bo e0, bo e1, bo e2, if_neg (by rw [iz_le (by omega) (by omega) (by omega) (by omega)]; exact hl), bo e1, bo e0, il1, iz_add, bo e3, il4, il31, pk4, ep, bo e4]
  · show u2 (u2 h.2.1 p 7 (iz ((T.length : Int) + 1))) (p + 4) (T.length : Int).toNat (iz (n * 16 + g)) 44 1 = _
    rw [i1 44 p1.1.symm p1.2.2.1.symm]; exact r4
  · show u2 (u2 h.2.1 p 7 (iz ((T.length : Int) + 1))) (p + 4) (T.length : Int).toNat (iz (n * 16 + g)) 44 2 = _
    rw [i1 44 p1.1.symm p1.2.2.1.symm]; exact r5
  · show u2 (u2 h.2.1 p 7 (iz ((T.length : Int) + 1))) (p + 4) (T.length : Int).toNat (iz (n * 16 + g)) 45 j = _
    rw [i1 45 p1.2.1.symm p1.2.2.2.symm]; exact r6 j hj
  · show u2 (u2 h.2.1 p 7 (iz ((T.length : Int) + 1))) (p + 4) (T.length : Int).toNat (iz (n * 16 + g)) p 7 = _
    rw [u2_ne p2.symm, u2_at, if_pos rfl, List.length_append]
    rfl
  · show u2 (u2 h.2.1 p 7 (iz ((T.length : Int) + 1))) (p + 4) (T.length : Int).toNat (iz (n * 16 + g)) (p + 4) j = _
    rw [u2_at, toN, u2_ne p2]
    rw [List.length_append] at hj
    have hj2 : j < T.length + 1 := hj
    by_cases hjT : j = T.length
    · rw [if_pos hjT, hjT]
      simp
    · rw [if_neg hjT, a5 j (by omega)]
      rw [List.getD_eq_getElem?_getD, List.getD_eq_getElem?_getD, List.getElem?_append_left (by omega)]
  · show u2 (u2 h.2.1 p 7 (iz ((T.length : Int) + 1))) (p + 4) (T.length : Int).toNat (iz (n * 16 + g)) 44 j = _
    rw [i1 44 p1.1.symm p1.2.2.1.symm]
  · show u2 (u2 h.2.1 p 7 (iz ((T.length : Int) + 1))) (p + 4) (T.length : Int).toNat (iz (n * 16 + g)) p j = _
    rw [u2_ne p2.symm, u2_at, if_neg hj]
end
