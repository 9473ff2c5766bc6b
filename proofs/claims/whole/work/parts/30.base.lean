/-! numbers: the machine's ints as images of integers -/
def iz (z : Int) : Int32 := Int32.ofInt z
def lz (z : Int) : Int64 := Int64.ofInt z
def ib (z : Int) : Prop := -2147483648 ≤ z ∧ z < 2147483648
theorem iz_add (a b : Int) : iz a + iz b = iz (a + b) := (Int32.ofInt_add a b).symm
theorem iz_sub (a b : Int) : iz a - iz b = iz (a - b) := (Int32.ofInt_sub a b).symm
theorem iz_mul (a b : Int) : iz a * iz b = iz (a * b) := (Int32.ofInt_mul a b).symm
theorem iz_neg (a : Int) : -iz a = iz (-a) := (Int32.ofInt_neg a).symm
theorem il0 : (0 : Int32) = iz 0 := rfl
theorem il1 : (1 : Int32) = iz 1 := rfl
theorem il2 : (2 : Int32) = iz 2 := rfl
theorem il3 : (3 : Int32) = iz 3 := rfl
theorem il4 : (4 : Int32) = iz 4 := rfl
theorem il5 : (5 : Int32) = iz 5 := rfl
theorem il6 : (6 : Int32) = iz 6 := rfl
theorem il7 : (7 : Int32) = iz 7 := rfl
theorem il8 : (8 : Int32) = iz 8 := rfl
theorem il9 : (9 : Int32) = iz 9 := rfl
theorem il10 : (10 : Int32) = iz 10 := rfl
theorem il11 : (11 : Int32) = iz 11 := rfl
theorem il12 : (12 : Int32) = iz 12 := rfl
theorem il13 : (13 : Int32) = iz 13 := rfl
theorem il14 : (14 : Int32) = iz 14 := rfl
theorem il15 : (15 : Int32) = iz 15 := rfl
theorem il16 : (16 : Int32) = iz 16 := rfl
theorem il17 : (17 : Int32) = iz 17 := rfl
theorem il18 : (18 : Int32) = iz 18 := rfl
theorem il19 : (19 : Int32) = iz 19 := rfl
theorem il20 : (20 : Int32) = iz 20 := rfl
theorem il21 : (21 : Int32) = iz 21 := rfl
theorem il22 : (22 : Int32) = iz 22 := rfl
theorem il23 : (23 : Int32) = iz 23 := rfl
theorem il24 : (24 : Int32) = iz 24 := rfl
theorem il25 : (25 : Int32) = iz 25 := rfl
theorem il26 : (26 : Int32) = iz 26 := rfl
theorem il27 : (27 : Int32) = iz 27 := rfl
theorem il28 : (28 : Int32) = iz 28 := rfl
theorem il29 : (29 : Int32) = iz 29 := rfl
theorem il30 : (30 : Int32) = iz 30 := rfl
theorem il31 : (31 : Int32) = iz 31 := rfl
theorem il32 : (32 : Int32) = iz 32 := rfl
theorem il33 : (33 : Int32) = iz 33 := rfl
theorem il36 : (36 : Int32) = iz 36 := rfl
theorem il38 : (38 : Int32) = iz 38 := rfl
theorem il39 : (39 : Int32) = iz 39 := rfl
theorem il40 : (40 : Int32) = iz 40 := rfl
theorem il41 : (41 : Int32) = iz 41 := rfl
theorem il48 : (48 : Int32) = iz 48 := rfl
theorem il50 : (50 : Int32) = iz 50 := rfl
theorem il51 : (51 : Int32) = iz 51 := rfl
theorem il57 : (57 : Int32) = iz 57 := rfl
theorem il59 : (59 : Int32) = iz 59 := rfl
theorem il60 : (60 : Int32) = iz 60 := rfl
theorem il61 : (61 : Int32) = iz 61 := rfl
theorem il62 : (62 : Int32) = iz 62 := rfl
theorem il63 : (63 : Int32) = iz 63 := rfl
theorem il70 : (70 : Int32) = iz 70 := rfl
theorem il96 : (96 : Int32) = iz 96 := rfl
theorem il99 : (99 : Int32) = iz 99 := rfl
theorem il100 : (100 : Int32) = iz 100 := rfl
theorem il101 : (101 : Int32) = iz 101 := rfl
theorem il102 : (102 : Int32) = iz 102 := rfl
theorem il103 : (103 : Int32) = iz 103 := rfl
theorem il104 : (104 : Int32) = iz 104 := rfl
theorem il105 : (105 : Int32) = iz 105 := rfl
theorem il106 : (106 : Int32) = iz 106 := rfl
theorem il107 : (107 : Int32) = iz 107 := rfl
theorem il108 : (108 : Int32) = iz 108 := rfl
theorem il109 : (109 : Int32) = iz 109 := rfl
theorem il110 : (110 : Int32) = iz 110 := rfl
theorem il111 : (111 : Int32) = iz 111 := rfl
theorem il112 : (112 : Int32) = iz 112 := rfl
theorem il115 : (115 : Int32) = iz 115 := rfl
theorem il116 : (116 : Int32) = iz 116 := rfl
theorem il120 : (120 : Int32) = iz 120 := rfl
theorem il121 : (121 : Int32) = iz 121 := rfl
theorem il124 : (124 : Int32) = iz 124 := rfl
theorem il200 : (200 : Int32) = iz 200 := rfl
theorem il240 : (240 : Int32) = iz 240 := rfl
theorem il255 : (255 : Int32) = iz 255 := rfl
theorem il288 : (288 : Int32) = iz 288 := rfl
theorem il360 : (360 : Int32) = iz 360 := rfl
theorem il420 : (420 : Int32) = iz 420 := rfl
theorem il999 : (999 : Int32) = iz 999 := rfl
theorem il1000 : (1000 : Int32) = iz 1000 := rfl
theorem il114292 : (114292 : Int32) = iz 114292 := rfl
theorem il152755 : (152755 : Int32) = iz 152755 := rfl
theorem il402789 : (402789 : Int32) = iz 402789 := rfl
theorem il435589 : (435589 : Int32) = iz 435589 := rfl
theorem il463922 : (463922 : Int32) = iz 463922 := rfl
theorem il533611 : (533611 : Int32) = iz 533611 := rfl
theorem il631470 : (631470 : Int32) = iz 631470 := rfl
theorem iz_toInt {a : Int} (h1 : -2147483648 ≤ a) (h2 : a < 2147483648) : (iz a).toInt = a := Int32.toInt_ofInt_of_le (by simpa using h1) (by simpa using h2)
theorem iz_le {a b : Int} (h1 : -2147483648 ≤ a) (h2 : a < 2147483648) (h3 : -2147483648 ≤ b) (h4 : b < 2147483648) : (iz a ≤ iz b) = (a ≤ b) := by rw [Int32.le_iff_toInt_le, iz_toInt h1 h2, iz_toInt h3 h4]
theorem iz_lt {a b : Int} (h1 : -2147483648 ≤ a) (h2 : a < 2147483648) (h3 : -2147483648 ≤ b) (h4 : b < 2147483648) : (iz a < iz b) = (a < b) := by rw [Int32.lt_iff_toInt_lt, iz_toInt h1 h2, iz_toInt h3 h4]
theorem iz_eq {a b : Int} (h1 : -2147483648 ≤ a) (h2 : a < 2147483648) (h3 : -2147483648 ≤ b) (h4 : b < 2147483648) : (iz a = iz b) = (a = b) := by rw [← Int32.toInt_inj, iz_toInt h1 h2, iz_toInt h3 h4]
theorem iz_nat {a : Int} (h0 : 0 ≤ a) (h2 : a < 2147483648) : (iz a).toNatClampNeg = a.toNat := by
  show (iz a).toInt.toNat = _
  rw [iz_toInt (by omega) h2]
theorem iz_div {a b : Int} (h1 : -2147483647 ≤ a) (h2 : a < 2147483648) (h3 : -2147483648 ≤ b) (h4 : b < 2147483648) : iz a / iz b = iz (a.tdiv b) := by
  rw [← Int32.toInt_inj, Int32.toInt_div_of_ne_left _ _ (by rw [Ne, ← Int32.toInt_inj, iz_toInt (by omega) h2]; show a ≠ -2147483648; omega), iz_toInt (by omega) h2, iz_toInt h3 h4, iz_toInt]
  · by_cases hb : b = 0
    · subst hb; simp
    · have h5 : (a.tdiv b).natAbs ≤ a.natAbs := Int.natAbs_tdiv_le_natAbs a b
      omega
  · by_cases hb : b = 0
    · subst hb; simp
    · have h5 : (a.tdiv b).natAbs ≤ a.natAbs := Int.natAbs_tdiv_le_natAbs a b
      omega
theorem iz_inj {a b : Int} (h : a = b) : iz a = iz b := by rw [h]
theorem nI_iz (n : Nat) : nI n = iz n := Int32.ofInt_eq_ofNat.symm
-- longs
theorem lz_add (a b : Int) : lz a + lz b = lz (a + b) := (Int64.ofInt_add a b).symm
theorem lz_sub (a b : Int) : lz a - lz b = lz (a - b) := (Int64.ofInt_sub a b).symm
theorem ll (n : Nat) : (OfNat.ofNat n : Int64) = lz (OfNat.ofNat n) := by
  show Int64.ofNat n = Int64.ofInt (n : Int)
  exact Int64.ofInt_eq_ofNat.symm
theorem lz_toInt {a : Int} (h1 : -9223372036854775808 ≤ a) (h2 : a < 9223372036854775808) : (lz a).toInt = a := Int64.toInt_ofInt_of_le (by simpa using h1) (by simpa using h2)
theorem iz_long {a : Int} (h1 : -2147483648 ≤ a) (h2 : a < 2147483648) : (iz a).toInt64 = lz a := by
  rw [← Int64.toInt_inj, Int32.toInt_toInt64, iz_toInt h1 h2, lz_toInt (by omega) (by omega)]
theorem lz_int {a : Int} (h1 : -2147483648 ≤ a) (h2 : a < 2147483648) : (lz a).toInt32 = iz a := by
  rw [← Int32.toInt_inj, Int64.toInt_toInt32, lz_toInt (by omega) (by omega), iz_toInt h1 h2]
  show Int.bmod a 4294967296 = a
  rw [Int.bmod_def]
  split <;> omega
theorem lz_lt {a b : Int} (h1 : -9223372036854775808 ≤ a) (h2 : a < 9223372036854775808) (h3 : -9223372036854775808 ≤ b) (h4 : b < 9223372036854775808) : (lz a < lz b) = (a < b) := by rw [Int64.lt_iff_toInt_lt, lz_toInt h1 h2, lz_toInt h3 h4]
theorem lz_eq {a b : Int} (h1 : -9223372036854775808 ≤ a) (h2 : a < 9223372036854775808) (h3 : -9223372036854775808 ≤ b) (h4 : b < 9223372036854775808) : (lz a = lz b) = (a = b) := by rw [← Int64.toInt_inj, lz_toInt h1 h2, lz_toInt h3 h4]
/-- lcmp, of two longs that are images -/
theorem lcmp_lz {a b : Int} (h1 : -9223372036854775808 ≤ a) (h2 : a < 9223372036854775808) (h3 : -9223372036854775808 ≤ b) (h4 : b < 9223372036854775808) : lg_cmp (lz a) (lz b) = iz (if b < a then 1 else if a = b then 0 else -1) := by
  unfold lg_cmp
  by_cases h : b < a
  · rw [if_pos (show lz a > lz b from by rw [gt_iff_lt, lz_lt h3 h4 h1 h2]; exact h), if_pos h]; rfl
  · rw [if_neg (show ¬ lz a > lz b from by rw [gt_iff_lt, lz_lt h3 h4 h1 h2]; exact h), if_neg h]
    by_cases h5 : a = b
    · rw [if_pos (by rw [h5]), if_pos h5]; rfl
    · rw [if_neg (by rw [lz_eq h1 h2 h3 h4]; exact h5), if_neg h5]; rfl
theorem b2_some {α β : Type} {a : α} {h : Mem} {k : α → Mem → Option β} : b2 (some (a, h)) k = k a h := rfl
theorem ite_some {c : Prop} [Decidable c] {a b : Int} {h : Mem} : (if c then some (iz a, h) else some (iz b, h)) = some (iz (if c then a else b), h) := by split <;> rfl
/-- sums from 0 on -/
def sm (g : Nat → Int) : Nat → Int
  | 0 => 0
  | n + 1 => sm g n + g n
theorem sm_succ (g : Nat → Int) (n : Nat) : sm g (n + 1) = sm g n + g n := rfl
theorem sm_bd {g : Nat → Int} {a b : Int} (n : Nat) (h : ∀ i, i < n → a ≤ g i ∧ g i ≤ b) : a * n ≤ sm g n ∧ sm g n ≤ b * n := by
  induction n with
  | zero => simp [sm]
  | succ n ih =>
    have h1 := ih (fun i hi => h i (by omega))
    have h2 := h n (by omega)
    simp only [sm_succ, Int.natCast_add, Int.mul_add]
    omega
theorem sm_congr {g g' : Nat → Int} (n : Nat) (h : ∀ i, i < n → g i = g' i) : sm g n = sm g' n := by
  induction n with
  | zero => rfl
  | succ n ih => rw [sm_succ, sm_succ, ih (fun i hi => h i (by omega)), h n (by omega)]
-- memory
theorem gI_q {h : Mem} {a ci k : Nat} (hq : h.1[a]? = some (ci, 0)) : gI h a ci k = some (h.2.1 a k) := if_pos hq
theorem gR_q {h : Mem} {a ci k b : Nat} (hq : h.1[a]? = some (ci, 0)) (hp : h.2.2.2 a k = some b) : gR h a ci k = some b := by unfold gR; rw [if_pos hq, hp]
theorem ck_q {h : Mem} {a ci : Nat} (hq : h.1[a]? = some (ci, 0)) : ck h a ci = some () := if_pos hq
theorem aN_q {h : Mem} {t a n : Nat} (hq : h.1[a]? = some (t, n)) : aN h t a = some n := by unfold aN; rw [hq]; exact if_pos rfl
theorem lI_q {h : Mem} {t a n : Nat} {i : Int} (hq : h.1[a]? = some (t, n)) (h0 : 0 ≤ i) (h1 : i < n) (hn : n < 2147483648) : lI t h a (iz i) = some (h.2.1 a i.toNat) := by
  unfold lI
  rw [aN_q hq, Option.bind_some, if_neg, iz_nat h0 (by omega)]
  rw [iz_nat h0 (by omega), il0, iz_lt (by omega) (by omega) (by decide) (by decide)]
  omega
theorem lJ_q {h : Mem} {a n : Nat} {i : Int} (hq : h.1[a]? = some (103, n)) (h0 : 0 ≤ i) (h1 : i < n) (hn : n < 2147483648) : lJ h a (iz i) = some (h.2.2.1 a i.toNat) := by
  unfold lJ
  rw [aN_q hq, Option.bind_some, if_neg, iz_nat h0 (by omega)]
  rw [iz_nat h0 (by omega), il0, iz_lt (by omega) (by omega) (by decide) (by decide)]
  omega
theorem lQ_q {h : Mem} {t a n b : Nat} {i : Int} (hq : h.1[a]? = some (t, n)) (h0 : 0 ≤ i) (h1 : i < n) (hn : n < 2147483648) (hp : h.2.2.2 a i.toNat = some b) : lQ t h a (iz i) = some b := by
  unfold lQ
  rw [aN_q hq, Option.bind_some, if_neg, iz_nat h0 (by omega), hp]
  rw [iz_nat h0 (by omega), il0, iz_lt (by omega) (by omega) (by decide) (by decide)]
  omega
theorem stI_q {h : Mem} {t a n : Nat} {i : Int} {v : Int32} (hq : h.1[a]? = some (t, n)) (h0 : 0 ≤ i) (h1 : i < n) (hn : n < 2147483648) : stI t h a (iz i) v = some (h.1, u2 h.2.1 a i.toNat v, h.2.2.1, h.2.2.2) := by
  unfold stI
  rw [aN_q hq, Option.bind_some, if_neg, iz_nat h0 (by omega)]
  rw [iz_nat h0 (by omega), il0, iz_lt (by omega) (by omega) (by decide) (by decide)]
  omega
theorem stJ_q {h : Mem} {a n : Nat} {i : Int} {v : Int64} (hq : h.1[a]? = some (103, n)) (h0 : 0 ≤ i) (h1 : i < n) (hn : n < 2147483648) : stJ h a (iz i) v = some (h.1, h.2.1, u2 h.2.2.1 a i.toNat v, h.2.2.2) := by
  unfold stJ
  rw [aN_q hq, Option.bind_some, if_neg, iz_nat h0 (by omega)]
  rw [iz_nat h0 (by omega), il0, iz_lt (by omega) (by omega) (by decide) (by decide)]
  omega
theorem sI_q {h : Mem} {a ci k : Nat} {v : Int32} (hq : h.1[a]? = some (ci, 0)) : sI h a ci k v = some (h.1, u2 h.2.1 a k v, h.2.2.1, h.2.2.2) := if_pos hq
theorem sR_q {h : Mem} {a ci k b : Nat} (hq : h.1[a]? = some (ci, 0)) : sR h a ci k b = some (h.1, h.2.1, h.2.2.1, u2 h.2.2.2 a k (some b)) := if_pos hq
theorem sZ_q {h : Mem} {a ci k : Nat} {v : Int32} (hq : h.1[a]? = some (ci, 0)) (hv : v = 0 ∨ v = 1) : sZ h a ci k v = some (h.1, u2 h.2.1 a k v, h.2.2.1, h.2.2.2) := by unfold sZ; rw [if_pos hv]; exact sI_q hq
theorem alen_q {h : Mem} {t a n : Nat} (hq : h.1[a]? = some (t, n)) : alen t h a = some (iz n) := by unfold alen; rw [aN_q hq, Option.bind_some]; exact congrArg some (nI_iz n)
theorem u2_at {α : Type} {f : Nat → Nat → α} {a k j : Nat} {v : α} : u2 f a k v a j = if j = k then v else f a j := by rw [u2_eq]
theorem toN (n : Nat) : ((n : Int)).toNat = n := rfl
