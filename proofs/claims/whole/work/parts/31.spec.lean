/-! what a country is, as integers: how many towns, families; rows (0 houses, 1 levels, 2 rents, 3 gates, 4 sums, 5 sorts, 6 incomes, 7 at, 8 homes, 9 likes, 10 nears, 11 costs, 12 mile, dues, pick); what is shunned -/
abbrev Vw : Type := Nat × Nat × (Nat → Int → Int) × (Int → Int → Int → Int → Int)
abbrev vT (V : Vw) : Nat := V.1
abbrev vF (V : Vw) : Nat := V.2.1
abbrev va (V : Vw) : Nat → Int → Int := V.2.2.1
abbrev vs (V : Vw) : Int → Int → Int → Int → Int := V.2.2.2
def vset (V : Vw) (k : Nat) (j x : Int) : Vw := (V.1, V.2.1, (fun k' j' => if k' = k ∧ j' = j then x else V.2.2.1 k' j'), V.2.2.2)
def ln (k : Nat) : Nat := [4, 12, 4, 4, 4, 8, 8, 8, 8, 6].getD k 0
def WF (V : Vw) : Prop := vT V ≤ 4 ∧ vF V ≤ 8 ∧ (∀ j : Int, 0 ≤ j → j < 4 → (0 ≤ va V 0 j ∧ va V 0 j ≤ 8) ∧ (0 ≤ va V 2 j ∧ va V 2 j ≤ 999) ∧ (0 ≤ va V 3 j ∧ va V 3 j ≤ 99) ∧ (0 ≤ va V 4 j ∧ va V 4 j ≤ 999)) ∧
  (∀ j : Int, 0 ≤ j → j < 12 → (0 ≤ va V 1 j ∧ va V 1 j ≤ 5) ∧ (-20 ≤ va V 9 j ∧ va V 9 j ≤ 1019)) ∧
  (∀ j : Int, 0 ≤ j → j < 8 → (0 ≤ va V 5 j ∧ va V 5 j ≤ 3) ∧ (0 ≤ va V 6 j ∧ va V 6 j ≤ 99) ∧ (0 ≤ va V 7 j ∧ va V 7 j ≤ 3) ∧ (0 ≤ va V 8 j ∧ va V 8 j ≤ 3)) ∧
  (∀ j : Int, 0 ≤ j → j < 16 → 0 ≤ va V 10 j ∧ va V 10 j ≤ 999) ∧ (∀ j : Int, 0 ≤ j → j < 3 → 0 ≤ va V 11 j ∧ va V 11 j ≤ 999) ∧
  (0 ≤ va V 12 0 ∧ va V 12 0 ≤ 999) ∧ (0 ≤ va V 12 1 ∧ va V 12 1 ≤ 2) ∧ (0 ≤ va V 12 2 ∧ va V 12 2 ≤ 2) ∧
  (∀ j : Int, 0 ≤ j → j < vF V → 1 ≤ va V 6 j ∧ va V 7 j < vT V) ∧ (∀ s i t n, 0 ≤ vs V s i t n ∧ vs V s i t n ≤ 10000)
theorem WF.T {V : Vw} (w : WF V) : vT V ≤ 4 := w.1
theorem WF.F {V : Vw} (w : WF V) : vF V ≤ 8 := w.2.1
theorem WF.t {V : Vw} (w : WF V) {j : Int} (h0 : 0 ≤ j) (h1 : j < 4) : (0 ≤ va V 0 j ∧ va V 0 j ≤ 8) ∧ (0 ≤ va V 2 j ∧ va V 2 j ≤ 999) ∧ (0 ≤ va V 3 j ∧ va V 3 j ≤ 99) ∧ (0 ≤ va V 4 j ∧ va V 4 j ≤ 999) := w.2.2.1 j h0 h1
theorem WF.l {V : Vw} (w : WF V) {j : Int} (h0 : 0 ≤ j) (h1 : j < 12) : (0 ≤ va V 1 j ∧ va V 1 j ≤ 5) ∧ (-20 ≤ va V 9 j ∧ va V 9 j ≤ 1019) := w.2.2.2.1 j h0 h1
theorem WF.f {V : Vw} (w : WF V) {j : Int} (h0 : 0 ≤ j) (h1 : j < 8) : (0 ≤ va V 5 j ∧ va V 5 j ≤ 3) ∧ (0 ≤ va V 6 j ∧ va V 6 j ≤ 99) ∧ (0 ≤ va V 7 j ∧ va V 7 j ≤ 3) ∧ (0 ≤ va V 8 j ∧ va V 8 j ≤ 3) := w.2.2.2.2.1 j h0 h1
theorem WF.n {V : Vw} (w : WF V) {j : Int} (h0 : 0 ≤ j) (h1 : j < 16) : 0 ≤ va V 10 j ∧ va V 10 j ≤ 999 := w.2.2.2.2.2.1 j h0 h1
theorem WF.c {V : Vw} (w : WF V) {j : Int} (h0 : 0 ≤ j) (h1 : j < 3) : 0 ≤ va V 11 j ∧ va V 11 j ≤ 999 := w.2.2.2.2.2.2.1 j h0 h1
theorem WF.m {V : Vw} (w : WF V) : 0 ≤ va V 12 0 ∧ va V 12 0 ≤ 999 := w.2.2.2.2.2.2.2.1
theorem WF.d {V : Vw} (w : WF V) : 0 ≤ va V 12 1 ∧ va V 12 1 ≤ 2 := w.2.2.2.2.2.2.2.2.1
theorem WF.p {V : Vw} (w : WF V) : 0 ≤ va V 12 2 ∧ va V 12 2 ≤ 2 := w.2.2.2.2.2.2.2.2.2.1
theorem WF.i {V : Vw} (w : WF V) {j : Int} (h0 : 0 ≤ j) (h1 : j < vF V) : 1 ≤ va V 6 j ∧ va V 7 j < vT V := w.2.2.2.2.2.2.2.2.2.2.1 j h0 h1
theorem WF.s {V : Vw} (w : WF V) (s i t n : Int) : 0 ≤ vs V s i t n ∧ vs V s i t n ≤ 10000 := w.2.2.2.2.2.2.2.2.2.2.2 s i t n
-- the meaning of the terms
def cnt (V : Vw) (t : Int) : Int := sm (fun f => if va V 7 f = t then 1 else 0) (vF V)
def canGo (V : Vw) (f t : Int) : Prop := va V 7 f ≠ t ∧ va V 3 t ≤ va V 6 f ∧ cnt V t < va V 0 t
def gross (V : Vw) (t : Int) (n : Nat) : Int := sm (fun g => va V 1 (t * 3 + g) * va V 11 g) n
def cost (V : Vw) (t : Int) : Int := if 0 ≤ -va V 4 t + gross V t 3 then -va V 4 t + gross V t 3 else 0
def inn (V : Vw) (t g o : Int) : Prop := va V 7 o = t ∨ o = g
def grt (V : Vw) (t g : Int) : Nat → Int
  | 0 => 0
  | n + 1 => if (va V 7 n = t ∨ (n : Int) = g) ∧ grt V t g n < va V 6 n then va V 6 n else grt V t g n
def share (V : Vw) (o gr : Int) : Int := if va V 12 1 = 0 then 1 else if va V 12 1 = 1 then va V 6 o else if 2 * va V 6 o < gr then 0 else 1
def shares (V : Vw) (t g gr : Int) (n : Nat) : Int := sm (fun o => if va V 7 o = t ∨ (o : Int) = g then share V o gr else 0) n
def part (c s n : Int) : Int := if n = 0 then 0 else (c * s).tdiv n
def dues (V : Vw) (f t : Int) : Int := part (cost V t) (share V f (grt V t f (vF V))) (shares V t f (grt V t f (vF V)) (vF V))
def likesum (V : Vw) (f t : Int) (n : Nat) : Int := sm (fun g => va V 1 (t * 3 + g) * va V 9 (va V 5 f * 3 + g)) n
def nearsum (V : Vw) (f t : Int) (n : Nat) : Int := sm (fun o => if (o : Int) = f then 0 else if va V 7 o = t then va V 10 (va V 5 f * 4 + va V 5 o) else 0) n
def heads (V : Vw) (f t : Int) (n : Nat) : Int := 1 + sm (fun o => if (o : Int) = f then 0 else if va V 7 o = t then 1 else 0) n
def dist (a b : Int) : Int := if 0 ≤ a - b then a - b else 0 - (a - b)
def worth (V : Vw) (f t : Int) : Int := -dues V f t - va V 2 t + likesum V f t 3 + nearsum V f t (vF V) - vs V (va V 5 f) (va V 6 f) t (heads V f t (vF V)) - va V 12 0 * dist (va V 8 f) t
-- a country of the class, at the cell c, its land at the cell p
def ar (c k : Nat) : Nat := if c = 1 then 7 + k else c + 1 + k
def shOK (row : Nat → Int32) (len : Int32) (sh : Int → Int → Int → Int → Int) : Prop := ∀ (N : Nat) (h : Mem) (p : Nat), 200 ≤ N → h.1[p]? = some (3, 0) → h.1[p + 4]? = some (100, 120) → h.2.2.2 p 6 = some (p + 4) → h.2.1 p 7 = len → (∀ j, j < 120 → h.2.1 (p + 4) j = row j) →
  ∀ s i t n : Int, 0 ≤ s → s ≤ 3 → 0 ≤ i → i ≤ 99 → 0 ≤ t → t ≤ 3 → 0 ≤ n → n ≤ 8 → f_X3_shunned N p (iz s) (iz i) (iz t) (iz n) h = some (iz (sh s i t n), h)
def LD (h : Mem) (p : Nat) (V : Vw) : Prop := h.1[p]? = some (3, 0) ∧ (h.2.2.2 p 0 = some (p + 1) ∧ h.1[p + 1]? = some (100, 12)) ∧ (h.2.2.2 p 1 = some (p + 2) ∧ h.1[p + 2]? = some (100, 16)) ∧ (h.2.2.2 p 2 = some (p + 3) ∧ h.1[p + 3]? = some (100, 3)) ∧ (h.2.2.2 p 6 = some (p + 4) ∧ h.1[p + 4]? = some (100, 120)) ∧
  (∀ j : Nat, j < 12 → h.2.1 (p + 1) j = iz (va V 9 j)) ∧ (∀ j : Nat, j < 16 → h.2.1 (p + 2) j = iz (va V 10 j)) ∧ (∀ j : Nat, j < 3 → h.2.1 (p + 3) j = iz (va V 11 j)) ∧
  h.2.1 p 3 = iz (va V 12 0) ∧ h.2.1 p 4 = iz (va V 12 1) ∧ h.2.1 p 5 = iz (va V 12 2) ∧ shOK (h.2.1 (p + 4)) (h.2.1 p 7) (vs V)
def CT (h : Mem) (c : Nat) : Prop := h.1[c]? = some (1, 0) ∧ ∀ k, k < 10 → h.2.2.2 c (k + 3) = some (ar c k) ∧ h.1[ar c k]? = some (100, ln k)
def RepC (h : Mem) (c p : Nat) (V : Vw) : Prop := CT h c ∧ h.2.1 c 1 = iz (vT V) ∧ h.2.1 c 2 = iz (vF V) ∧ (∀ k, k < 9 → ∀ j : Nat, j < ln k → h.2.1 (ar c k) j = iz (va V k j)) ∧ h.2.2.2 c 0 = some p ∧ LD h p V
