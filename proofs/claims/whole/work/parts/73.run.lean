/-! what a program does with its signs: the sum, and the truths as bits, the newest lowest -/
def lef (s i t n : Int) (g : Int) : Int := if g / 3 = 0 then s else if g / 3 = 1 then i else if g / 3 = 2 then t else n
def mrk (a m b : Int) : Nat := if m = 0 then (if a < b then 1 else 0) else if m = 1 then (if a = b then 1 else 0) else (if b < a then 1 else 0)
def sgn (s i t n : Int) (k : Int) (q : Int × Nat) : Option (Int × Nat) :=
  if 134217728 ≤ q.2 then none
  else if k % 16 = 12 then some (q.1, 2 * (q.2 / 2) + (1 - q.2 % 2))
  else if k % 16 = 13 then some (q.1, 2 * (q.2 / 4) + min (q.2 / 2 % 2) (q.2 % 2))
  else if k % 16 = 14 then some (q.1, 2 * (q.2 / 4) + max (q.2 / 2 % 2) (q.2 % 2))
  else if k % 16 = 15 then some (q.1 + (q.2 % 2 : Nat) * (k / 16), 0)
  else if 524288 ≤ q.2 then none else some (q.1, 2 * q.2 + mrk (lef s i t n (k % 16)) (k % 16 % 3) (k / 16))
def run (s i t n : Int) : List Int → Int × Nat → Option (Int × Nat)
  | [], q => some q
  | k :: ks, q => (sgn s i t n k q).bind (run s i t n ks)
theorem run_app {s i t n : Int} : ∀ (a b : List Int) (q : Int × Nat), run s i t n (a ++ b) q = (run s i t n a q).bind (run s i t n b) := by
  intro a
  induction a with
  | nil => intro b q; rfl
  | cons k a ih =>
    intro b q
    show (sgn s i t n k q).bind (run s i t n (a ++ b)) = ((sgn s i t n k q).bind (run s i t n a)).bind (run s i t n b)
    cases sgn s i t n k q with
    | none => rfl
    | some q' => exact ih b q'
theorem mrk_le (a m b : Int) : mrk a m b ≤ 1 := by
  unfold mrk
  split
  · split <;> decide
  · split
    · split <;> decide
    · split <;> decide
