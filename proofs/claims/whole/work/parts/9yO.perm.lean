/-! the ways of the deal, counted by the digits of their number -/
theorem sm_app (g : Nat → Int) (a : Nat) : ∀ b, sm g (a + b) = sm g a + sm (fun i => g (a + i)) b := by
  intro b
  induction b with
  | zero => show sm g a = sm g a + 0; omega
  | succ b ih => rw [show a + (b + 1) = (a + b) + 1 from rfl, sm_succ, sm_succ, ih]; omega
theorem sm_head (g : Nat → Int) (n : Nat) : sm g (n + 1) = g 0 + sm (fun i => g (i + 1)) n := by
  rw [show n + 1 = 1 + n by omega, sm_app]
  have e1 : sm g 1 = g 0 := by show 0 + g 0 = g 0; omega
  rw [e1, sm_congr (g := fun i => g (1 + i)) (g' := fun i => g (i + 1)) n (fun i _ => by show g (1 + i) = g (i + 1); rw [Nat.add_comm])]
theorem sm_split (F : Nat → Int) (m : Nat) : ∀ k, sm F (k * m) = sm (fun d => sm (fun v => F (d * m + v)) m) k := by
  intro k
  induction k with
  | zero => rw [Nat.zero_mul]; rfl
  | succ k ih => rw [Nat.succ_mul, sm_app, sm_succ, ih]
def aL : List Nat → Nat → Nat
  | [], _ => 0
  | a :: _, 0 => a
  | _ :: r, d + 1 => aL r d
def eL : List Nat → Nat → List Nat
  | [], _ => []
  | _ :: r, 0 => r
  | a :: r, d + 1 => a :: eL r d
def cL : List Nat → Nat → Int
  | [], _ => 0
  | a :: r, j => (if j = a then 1 else 0) + cL r j
theorem eL_len : ∀ (l : List Nat) (d : Nat), d < l.length → (eL l d).length + 1 = l.length := by
  intro l
  induction l with
  | nil => intro d hd; exact absurd hd (Nat.not_lt_zero d)
  | cons a r ih =>
    intro d hd
    cases d with
    | zero => rfl
    | succ d =>
      have := ih d (Nat.lt_of_succ_lt_succ hd)
      show (eL r d).length + 1 + 1 = r.length + 1
      omega
theorem cL_er : ∀ (l : List Nat) (d j : Nat), d < l.length → cL (eL l d) j = cL l j - (if j = aL l d then 1 else 0) := by
  intro l
  induction l with
  | nil => intro d j hd; exact absurd hd (Nat.not_lt_zero d)
  | cons a r ih =>
    intro d j hd
    cases d with
    | zero =>
      show cL r j = (if j = a then 1 else 0) + cL r j - (if j = a then 1 else 0)
      omega
    | succ d =>
      have := ih d j (Nat.lt_of_succ_lt_succ hd)
      show (if j = a then 1 else 0) + cL (eL r d) j = (if j = a then 1 else 0) + cL r j - (if j = aL r d then 1 else 0)
      omega
theorem aL_4 : ∀ (l : List Nat) (d : Nat), (∀ a, a ∈ l → a < 4) → d < l.length → aL l d < 4 := by
  intro l
  induction l with
  | nil => intro d _ hd; exact absurd hd (Nat.not_lt_zero d)
  | cons a r ih =>
    intro d h hd
    cases d with
    | zero => exact h a List.mem_cons_self
    | succ d => exact ih d (fun x hx => h x (List.mem_cons_of_mem _ hx)) (Nat.lt_of_succ_lt_succ hd)
theorem eL_4 : ∀ (l : List Nat) (d : Nat), (∀ a, a ∈ l → a < 4) → ∀ a, a ∈ eL l d → a < 4 := by
  intro l
  induction l with
  | nil => intro d h a ha; cases ha
  | cons x r ih =>
    intro d h a ha
    cases d with
    | zero => exact h a (List.mem_cons_of_mem _ ha)
    | succ d =>
      rcases List.mem_cons.mp ha with z | z
      · rw [z]; exact h x List.mem_cons_self
      · exact ih d (fun y hy => h y (List.mem_cons_of_mem _ hy)) a z
theorem sm4 (g : Nat → Int) : sm g 4 = g 0 + g 1 + g 2 + g 3 := by
  show 0 + g 0 + g 1 + g 2 + g 3 = _
  omega
theorem pick (val : Nat → Int) : ∀ l : List Nat, (∀ a, a ∈ l → a < 4) → sm (fun d => val (aL l d)) l.length = sm (fun s => cL l s * val s) 4 := by
  intro l
  induction l with
  | nil =>
    intro _
    rw [sm4]
    show (0 : Int) = 0 * val 0 + 0 * val 1 + 0 * val 2 + 0 * val 3
    omega
  | cons a r ih =>
    intro h
    have e := ih (fun x hx => h x (List.mem_cons_of_mem _ hx))
    have ha := h a List.mem_cons_self
    rw [show (a :: r).length = r.length + 1 from rfl, sm_head]
    show val a + sm (fun d => val (aL r d)) r.length = _
    rw [e, sm4, sm4]
    show _ = ((if 0 = a then 1 else 0) + cL r 0) * val 0 + ((if 1 = a then 1 else 0) + cL r 1) * val 1 + ((if 2 = a then 1 else 0) + cL r 2) * val 2 + ((if 3 = a then 1 else 0) + cL r 3) * val 3
    rw [Int.add_mul, Int.add_mul, Int.add_mul, Int.add_mul]
    generalize cL r 0 * val 0 = x0
    generalize cL r 1 * val 1 = x1
    generalize cL r 2 * val 2 = x2
    generalize cL r 3 * val 3 = x3
    rcases (show a = 0 ∨ a = 1 ∨ a = 2 ∨ a = 3 by omega) with rfl | rfl | rfl | rfl
    · rw [if_pos rfl, if_neg (by decide), if_neg (by decide), if_neg (by decide)]; omega
    · rw [if_neg (by decide), if_pos rfl, if_neg (by decide), if_neg (by decide)]; omega
    · rw [if_neg (by decide), if_neg (by decide), if_pos rfl, if_neg (by decide)]; omega
    · rw [if_neg (by decide), if_neg (by decide), if_neg (by decide), if_pos rfl]; omega
theorem fct_pos : ∀ n, 0 < fct n := by
  intro n
  induction n with
  | zero => exact Nat.one_pos
  | succ n ih => exact Nat.mul_pos ih (Nat.succ_pos n)
/-- the sorts dealt by a number, from the sorts that are left -/
def dL : Nat → List Nat → Nat → List Nat
  | 0, _, _ => []
  | k + 1, l, v => aL l (v / fct k) :: dL k (eL l (v / fct k)) (v % fct k)
/-- the pairs that come -/
def pwL (V : Vw) : List Nat → Nat → (Nat → Int) → Int
  | [], _, _ => 0
  | s :: r, f, D => D (pl V f s) + pwL V r (f + 1) (up D (pl V f s) (D (pl V f s) + 1))
theorem gw_count (V : Vw) : ∀ (k : Nat) (l : List Nat) (f : Nat) (D : Nat → Int) (need : Int), l.length = k → (∀ a, a ∈ l → a < 4) → sm (fun v => if need ≤ pwL V (dL k l v) f D then 1 else 0) (fct k) = gw V k f (cL l) D need := by
  intro k
  induction k with
  | zero =>
    intro l f D need _ _
    show 0 + (if need ≤ 0 then 1 else 0) = if 0 < need then 0 else 1
    by_cases c : need ≤ 0
    · rw [if_pos c, if_neg (by omega)]; rfl
    · rw [if_neg c, if_pos (by omega)]; rfl
  | succ k ih =>
    intro l f D need hl h4
    have hp := fct_pos k
    rw [fct, Nat.mul_comm, sm_split, gw_s]
    let val : Nat → Int := fun s => gw V k (f + 1) (up (cL l) s (cL l s - 1)) (up D (pl V f s) (D (pl V f s) + 1)) (need - D (pl V f s))
    have e1 : sm (fun d => sm (fun v => if need ≤ pwL V (dL (k + 1) l (d * fct k + v)) f D then 1 else 0) (fct k)) (k + 1) = sm (fun d => val (aL l d)) (k + 1) := by
      refine sm_congr (k + 1) (fun d hd => ?_)
      have e2 := ih (eL l d) (f + 1) (up D (pl V f (aL l d)) (D (pl V f (aL l d)) + 1)) (need - D (pl V f (aL l d))) (by have := eL_len l d (by omega); omega) (eL_4 l d h4)
      have e3 : cL (eL l d) = up (cL l) (aL l d) (cL l (aL l d) - 1) := by
        funext j
        rw [cL_er l d j (by omega)]
        unfold up
        by_cases c : j = aL l d
        · rw [if_pos c, if_pos c, c]
        · rw [if_neg c, if_neg c]; omega
      rw [e3] at e2
      show _ = gw V k (f + 1) (up (cL l) (aL l d) (cL l (aL l d) - 1)) (up D (pl V f (aL l d)) (D (pl V f (aL l d)) + 1)) (need - D (pl V f (aL l d)))
      rw [← e2]
      refine sm_congr (fct k) (fun v hv => ?_)
      have d1 : (d * fct k + v) / fct k = d := by
        rw [Nat.mul_comm, Nat.mul_add_div hp, Nat.div_eq_of_lt hv, Nat.add_zero]
      have d2 : (d * fct k + v) % fct k = v := by
        rw [Nat.mul_comm, Nat.mul_add_mod, Nat.mod_eq_of_lt hv]
      have d3 : dL (k + 1) l (d * fct k + v) = aL l d :: dL k (eL l d) v := by
        show aL l ((d * fct k + v) / fct k) :: dL k (eL l ((d * fct k + v) / fct k)) ((d * fct k + v) % fct k) = _
        rw [d1, d2]
      rw [d3]
      show (if need ≤ D (pl V f (aL l d)) + pwL V (dL k (eL l d) v) (f + 1) (up D (pl V f (aL l d)) (D (pl V f (aL l d)) + 1)) then (1 : Int) else 0) = if need - D (pl V f (aL l d)) ≤ pwL V (dL k (eL l d) v) (f + 1) (up D (pl V f (aL l d)) (D (pl V f (aL l d)) + 1)) then 1 else 0
      by_cases c : need ≤ D (pl V f (aL l d)) + pwL V (dL k (eL l d) v) (f + 1) (up D (pl V f (aL l d)) (D (pl V f (aL l d)) + 1))
      · rw [if_pos c, if_pos (by omega)]
      · rw [if_neg c, if_neg (by omega)]
    rw [e1, ← hl, pick val l h4]
    refine sm_congr 4 (fun s _ => ?_)
    show cL l s * val s = gwS V k f (cL l) D need s
    unfold gwS
    by_cases c : cL l s = 0
    · rw [if_pos c, c, Int.zero_mul]
    · rw [if_neg c]
/-- the pairs that come are the pairs of the view that is dealt -/
theorem pw_pairs {V W : Vw} (hb : ∀ j : Nat, j < vF V → (0 ≤ va W 5 j ∧ va W 5 j ≤ 3) ∧ (0 ≤ va V 7 j ∧ va V 7 j ≤ 3)) (h7 : va W 7 = va V 7) : ∀ (r : List Nat) (f : Nat) (D : Nat → Int), f + r.length = vF V → (∀ i, i < r.length → va W 5 ((f + i : Nat) : Int) = (aL r i : Int)) → (∀ x, D x = sm (fun o => if (va V 7 o * 4 + va W 5 o).toNat = x then 1 else 0) f) → pwL V r f D = sm (fun i => pairs1 W (f + i) (f + i)) r.length := by
  intro r
  induction r with
  | nil => intro f D _ _ _; rfl
  | cons s r ih =>
    intro f D hf hs hD
    have hl : (s :: r).length = r.length + 1 := rfl
    rw [hl] at hf
    have e0 : va W 5 (f : Int) = (s : Int) := hs 0 (by rw [hl]; omega)
    have b0 := hb f (by omega)
    have eD : ∀ x, up D (pl V f s) (D (pl V f s) + 1) x = sm (fun o => if (va V 7 o * 4 + va W 5 o).toNat = x then 1 else 0) (f + 1) := by
      intro x
      rw [sm_succ, ← hD x]
      unfold up pl
      rw [e0]
      by_cases c : x = (va V 7 f * 4 + s).toNat
      · rw [if_pos c, if_pos c.symm, c]
      · rw [if_neg c, if_neg (fun z => c z.symm)]; omega
    have e1 := ih (f + 1) (up D (pl V f s) (D (pl V f s) + 1)) (by omega) (fun i hi => by
      have := hs (i + 1) (by rw [hl]; omega)
      rw [show f + 1 + i = f + (i + 1) by omega, this]
      rfl) eD
    show D (pl V f s) + pwL V r (f + 1) (up D (pl V f s) (D (pl V f s) + 1)) = _
    rw [hl, e1, sm_head]
    have e2 : D (pl V f s) = pairs1 W (f + 0) (f + 0) := by
      rw [hD]
      unfold pairs1 pl
      refine sm_congr f (fun o ho => ?_)
      have bo' := hb o (by omega)
      rw [h7, Nat.add_zero]
      by_cases c : va W 5 (f : Int) = va W 5 (o : Int) ∧ va V 7 (f : Int) = va V 7 (o : Int)
      · rw [if_pos c, if_pos (by omega)]
      · rw [if_neg c, if_neg (by omega)]
    rw [e2]
    congr 1
    refine sm_congr r.length (fun i _ => ?_)
    show pairs1 W (f + 1 + i) (f + 1 + i) = pairs1 W (f + (i + 1)) (f + (i + 1))
    rw [show f + 1 + i = f + (i + 1) by omega]
