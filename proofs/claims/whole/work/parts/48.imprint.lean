/-! what a country's state is packed into -/
def impA (V : Vw) : Nat → Int
  | 0 => 0
  | n + 1 => impA V n * 4 + va V 7 n
def impL (V : Vw) : Nat → Int
  | 0 => impA V (vF V)
  | n + 1 => impL V n * 8 + va V 1 n
def imp (V : Vw) : Int := impL V 12
theorem impA_bd {V : Vw} (w : WF V) : ∀ n : Nat, n ≤ 8 → 0 ≤ impA V n ∧ impA V n < 4 ^ n := by
  intro n
  induction n with
  | zero => intro _; show (0 : Int) ≤ 0 ∧ (0 : Int) < 1; omega
  | succ n ih =>
    intro hn
    have h1 := ih (by omega)
    have h2 := w.f (j := n) (by omega) (by omega)
    rw [impA, Int.pow_succ]
    omega
theorem impL_bd {V : Vw} (w : WF V) : ∀ n : Nat, n ≤ 12 → 0 ≤ impL V n ∧ impL V n < 65536 * 8 ^ n := by
  intro n
  induction n with
  | zero =>
    intro _
    have h1 := impA_bd w (vF V) w.F
    have hF := w.F
    have h2 : (4 : Int) ^ vF V ≤ 65536 := by
      have : ∀ F : Nat, F ≤ 8 → (4 : Int) ^ F ≤ 65536 := by decide
      exact this _ hF
    show 0 ≤ impA V (vF V) ∧ impA V (vF V) < 65536 * 1
    omega
  | succ n ih =>
    intro hn
    have h1 := ih (by omega)
    have h2 := w.l (j := n) (by omega) (by omega)
    rw [impL, Int.pow_succ]
    omega
/-- two countries in one state -/
def same (V V' : Vw) : Prop := (∀ j : Nat, j < vF V → va V 7 j = va V' 7 j) ∧ ∀ j : Nat, j < 12 → va V 1 j = va V' 1 j
theorem impA_inj {V V' : Vw} (w : WF V) (w' : WF V') : ∀ n : Nat, n ≤ 8 → (impA V n = impA V' n ↔ ∀ j : Nat, j < n → va V 7 j = va V' 7 j) := by
  intro n
  induction n with
  | zero => intro _; exact ⟨fun _ j hj => absurd hj (by omega), fun _ => rfl⟩
  | succ n ih =>
    intro hn
    have h1 := ih (by omega)
    have h2 := w.f (j := n) (by omega) (by omega)
    have h3 := w'.f (j := n) (by omega) (by omega)
    rw [impA, impA]
    constructor
    · intro e j hj
      have e1 : impA V n = impA V' n := by omega
      have e2 : va V 7 n = va V' 7 n := by omega
      by_cases hjn : j = n
      · rw [hjn]; exact e2
      · exact h1.mp e1 j (by omega)
    · intro e
      rw [h1.mpr (fun j hj => e j (by omega)), e n (by omega)]
theorem impL_inj {V V' : Vw} (w : WF V) (w' : WF V') (hF : vF V = vF V') : ∀ n : Nat, n ≤ 12 → (impL V n = impL V' n ↔ (∀ j : Nat, j < vF V → va V 7 j = va V' 7 j) ∧ ∀ j : Nat, j < n → va V 1 j = va V' 1 j) := by
  intro n
  induction n with
  | zero =>
    intro _
    have e := impA_inj w w' (vF V) w.F
    show impA V (vF V) = impA V' (vF V') ↔ _
    rw [← hF, e]
    exact ⟨fun z => ⟨z, fun j hj => absurd hj (by omega)⟩, fun z => z.1⟩
  | succ n ih =>
    intro hn
    have h1 := ih (by omega)
    have h2 := w.l (j := n) (by omega) (by omega)
    have h3 := w'.l (j := n) (by omega) (by omega)
    rw [impL, impL]
    constructor
    · intro e
      have e1 : impL V n = impL V' n := by omega
      have e2 : va V 1 n = va V' 1 n := by omega
      have h4 := h1.mp e1
      refine ⟨h4.1, fun j hj => ?_⟩
      by_cases hjn : j = n
      · rw [hjn]; exact e2
      · exact h4.2 j (by omega)
    · intro e
      rw [h1.mpr ⟨e.1, fun j hj => e.2 j (by omega)⟩, e.2 n (by omega)]
theorem imp_inj {V V' : Vw} (w : WF V) (w' : WF V') (hF : vF V = vF V') : imp V = imp V' ↔ same V V' := impL_inj w w' hF 12 (by omega)
theorem imp_bd {V : Vw} (w : WF V) : 0 ≤ imp V ∧ imp V < 4503599627370496 := by
  have := impL_bd w 12 (by omega)
  unfold imp
  omega
/-- digits put behind -/
theorem lz_pack {x a : Int} {k : Nat} (hk : k ≤ 3) (h0 : 0 ≤ x) (h1 : x < 1125899906842624) (a0 : 0 ≤ a) (a1 : a < 2 ^ k) : (lz x <<< lz (k : Int)) ||| lz a = lz (x * 2 ^ k + a) := by
  obtain ⟨x, rfl⟩ := Int.eq_ofNat_of_zero_le h0
  obtain ⟨a, rfl⟩ := Int.eq_ofNat_of_zero_le a0
  have ha : a < 2 ^ k := by
    have : ((a : Nat) : Int) < ((2 ^ k : Nat) : Int) := by rw [Int.natCast_pow]; exact a1
    omega
  have hx : x < 1125899906842624 := by omega
  have hk3 : k = 0 ∨ k = 1 ∨ k = 2 ∨ k = 3 := by omega
  have ex : ((x : Int) * 2 ^ k + (a : Int)) = ((x * 2 ^ k + a : Nat) : Int) := by push_cast; rfl
  rw [ex]
  apply Int64.toBitVec_inj.mp
  have e : ∀ m : Nat, (lz (m : Int)).toBitVec = BitVec.ofNat 64 m := fun m => by
    unfold lz
    rw [Int64.ofInt_eq_ofNat]; rfl
  rw [Int64.toBitVec_or, Int64.toBitVec_shiftLeft, e, e, e, e]
  apply BitVec.eq_of_toNat_eq
  rw [BitVec.toNat_or]
  have hs : ∀ q : Nat, q ≤ 3 → (BitVec.ofNat 64 q).smod 64 = BitVec.ofNat 64 q := by decide
  rw [hs k hk, BitVec.shiftLeft_eq', BitVec.toNat_shiftLeft, BitVec.toNat_ofNat, BitVec.toNat_ofNat, BitVec.toNat_ofNat, BitVec.toNat_ofNat]
  rw [Nat.mod_eq_of_lt (show k < 2 ^ 64 by omega), Nat.mod_eq_of_lt (show x < 2 ^ 64 by omega)]
  have h8 : 2 ^ k ≤ 8 := by rcases hk3 with rfl | rfl | rfl | rfl <;> decide
  have hxk : x * 2 ^ k < 9007199254740992 := by
    have := Nat.mul_le_mul_left x h8
    omega
  rw [Nat.mod_eq_of_lt (show a < 2 ^ 64 by omega), Nat.shiftLeft_eq, Nat.mod_eq_of_lt (show x * 2 ^ k < 2 ^ 64 by omega), Nat.mod_eq_of_lt (show x * 2 ^ k + a < 2 ^ 64 by omega)]
  have := Nat.shiftLeft_add_eq_or_of_lt ha x
  rw [Nat.shiftLeft_eq] at this
  exact this.symm
