/-! the laws, read on both sides -/
def bit (s k : Nat) : Bool := s / 2 ^ k % 2 = 1
theorem bit_z : ∀ s : Nat, s < 16 → ∀ k : Nat, k < 4 → ((iz (s : Int) >>> (iz (k : Int) &&& (31 : Int32))) &&& (1 : Int32)) = if bit s k = true then (1 : Int32) else 0 := by decide
theorem bit_zz : ∀ s : Nat, s < 16 → ∀ k : Nat, k < 4 → ∀ j : Nat, j < 4 → (((iz (s : Int) >>> (iz (k : Int) &&& (31 : Int32))) &&& (iz (s : Int) >>> (iz (j : Int) &&& (31 : Int32)))) &&& (1 : Int32)) = if (bit s k && bit s j) = true then (1 : Int32) else 0 := by decide
theorem pow_z : ∀ k : Nat, k ≤ 4 → ((1 : Int32) <<< (iz (k : Int) &&& (31 : Int32))) = iz ((2 ^ k : Nat) : Int) := by decide
theorem pow_b : ∀ k : Nat, k ≤ 4 → 1 ≤ 2 ^ k ∧ 2 ^ k ≤ 16 := by decide
theorem bit_0 : ∀ k : Nat, k < 4 → bit 0 k = false := by decide
def LWD (h : Mem) (nl : Nat) (W T M P : Nat → Int) : Prop := nl ≤ 4 ∧ (h.2.1 0 11 = iz (nl : Int) ∧ h.2.1 71 50 = iz (nl : Int)) ∧ h.1[57]? = some (104, 4) ∧ ∀ k : Nat, k < nl → ((0 ≤ W k ∧ W k ≤ 2) ∧ (0 ≤ T k ∧ T k < 4) ∧ (0 ≤ M k ∧ M k ≤ (if W k = 0 then 99 else 999)) ∧ (0 ≤ P k ∧ P k ≤ 99)) ∧ (h.2.2.2 57 k = some (111 + k) ∧ h.1[111 + k]? = some (4, 0)) ∧ (h.2.1 (111 + k) 0 = iz (W k) ∧ h.2.1 (111 + k) 1 = iz (T k) ∧ h.2.1 (111 + k) 2 = iz (M k) ∧ h.2.1 (111 + k) 3 = iz (P k)) ∧ (h.2.1 102 k = iz (W k) ∧ h.2.1 103 k = iz (T k) ∧ h.2.1 104 k = iz (M k) ∧ h.2.1 105 k = iz (P k))
theorem LWD_of {h : Mem} (l : LWS h) : ∃ nl W T M P, LWD h nl W T M P := by
  obtain ⟨nl, n1, n2, n3, n4, n5, n6⟩ := l
  refine ⟨nl, fun k => (h.2.1 102 k).toInt, fun k => (h.2.1 103 k).toInt, fun k => (h.2.1 104 k).toInt, fun k => (h.2.1 105 k).toInt, n1, ⟨n2, n3⟩, n4, fun k hk => ?_⟩
  obtain ⟨w, t, n, pr, q1, q2, q3, q4, q5, q6, ⟨a1, a2, a3, a4⟩, b1, b2, b3, b4⟩ := n6 k hk
  have hn : n ≤ 999 := by have := q3.2; split at this <;> omega
  have e1 : (h.2.1 102 k).toInt = w := by rw [b1, iz_toInt (by omega) (by omega)]
  have e2 : (h.2.1 103 k).toInt = t := by rw [b2, iz_toInt (by omega) (by omega)]
  have e3 : (h.2.1 104 k).toInt = n := by rw [b3, iz_toInt (by omega) (by omega)]
  have e4 : (h.2.1 105 k).toInt = pr := by rw [b4, iz_toInt (by omega) (by omega)]
  subst e1 e2 e3 e4
  exact ⟨⟨q1, q2, q3, q4⟩, ⟨q5, q6⟩, ⟨a1, a2, a3, a4⟩, b1, b2, b3, b4⟩
section
variable {h h' : Mem} {V : Vw} {p pd b N nl : Nat} {W T M P : Nat → Int}
theorem LWD.eq_ (l : LWD h nl W T M P) (e1 : h'.1 = h.1) (e2 : h'.2.2.2 57 = h.2.2.2 57) (e3 : h'.2.1 0 = h.2.1 0) (e4 : h'.2.1 71 50 = h.2.1 71 50) (e5 : ∀ i, 102 ≤ i → h'.2.1 i = h.2.1 i) : LWD h' nl W T M P := by
  obtain ⟨l1, ⟨l2, l3⟩, l4, l5⟩ := l
  refine ⟨l1, ⟨by rw [e3]; exact l2, by rw [e4]; exact l3⟩, by rw [e1]; exact l4, fun k hk => ?_⟩
  obtain ⟨a, ⟨b1, b2⟩, c, d⟩ := l5 k hk
  refine ⟨a, ⟨by rw [e2]; exact b1, by rw [e1]; exact b2⟩, by rw [e5 _ (by omega)]; exact c, ?_⟩
  rw [e5 102 (by omega), e5 103 (by omega), e5 104 (by omega), e5 105 (by omega)]; exact d
theorem LWD.tf (l : LWD h nl W T M P) (e : TF h h') : LWD h' nl W T M P := l.eq_ e.1 (e.2.1 57 (by decide) (by decide)) (e.2.2.2 0 (by omega)) (by rw [e.2.2.2 71 (by omega)]) (fun i hi => e.2.2.2 i (by omega))
theorem LWD.fm (l : LWD h nl W T M P) (e : FM SX h h') : LWD h' nl W T M P := l.eq_ e.1 (by rw [e.2.1]) (e.2.2.2.1 0 (by decide) (by decide)) (e.2.2.2.2 50 (by decide)) (fun i hi => e.2.2.2.1 i (by omega) (fun z => by have := SX_bd i z; omega))
theorem kq57 (l : LWD h nl W T M P) {k : Nat} (hk : k < nl) {γ : Type} {K : Nat → Option γ} : (lQ 104 h 57 (iz (k : Int))).bind K = K (111 + k) := by
  have := l.1
  exact bo (lQ_q l.2.2.1 (by omega) (by omega) (by decide) (by rw [toN]; exact (l.2.2.2 k hk).2.1.1))
theorem kl_n (l : LWD h nl W T M P) (S : X9S h) {γ : Type} {K : Int32 → Option γ} : (gI h 0 9 11).bind K = K (iz (nl : Int)) := by rw [knI S, l.2.1.1]
theorem ml_n (l : LWD h nl W T M P) (S : MSh h) {γ : Type} {K : Int32 → Option γ} : (gI h 71 10 50).bind K = K (iz (nl : Int)) := by rw [kmI S, l.2.1.2]
theorem kl_0 (l : LWD h nl W T M P) {k : Nat} (hk : k < nl) {γ : Type} {K : Int32 → Option γ} : (gI h (111 + k) 4 0).bind K = K (iz (W k)) := by rw [bo (gI_q (l.2.2.2 k hk).2.1.2), (l.2.2.2 k hk).2.2.1.1]
theorem kl_1 (l : LWD h nl W T M P) {k : Nat} (hk : k < nl) {γ : Type} {K : Int32 → Option γ} : (gI h (111 + k) 4 1).bind K = K (iz (T k)) := by rw [bo (gI_q (l.2.2.2 k hk).2.1.2), (l.2.2.2 k hk).2.2.1.2.1]
theorem kl_2 (l : LWD h nl W T M P) {k : Nat} (hk : k < nl) {γ : Type} {K : Int32 → Option γ} : (gI h (111 + k) 4 2).bind K = K (iz (M k)) := by rw [bo (gI_q (l.2.2.2 k hk).2.1.2), (l.2.2.2 k hk).2.2.1.2.2.1]
theorem kl_3 (l : LWD h nl W T M P) {k : Nat} (hk : k < nl) {γ : Type} {K : Int32 → Option γ} : (gI h (111 + k) 4 3).bind K = K (iz (P k)) := by rw [bo (gI_q (l.2.2.2 k hk).2.1.2), (l.2.2.2 k hk).2.2.1.2.2.2]
theorem kl_c (l : LWD h nl W T M P) {k : Nat} (hk : k < nl) {γ : Type} {K : Unit → Option γ} : (ck h (111 + k) 4).bind K = K () := bo (ck_q (l.2.2.2 k hk).2.1.2)
theorem ml_0 (l : LWD h nl W T M P) (S : MSh h) {k : Nat} (hk : k < nl) {γ : Type} {K : Int32 → Option γ} : ((gR h 71 10 51).bind fun t => (lI 100 h t (iz (k : Int))).bind K) = K (iz (W k)) := by
  have := l.1
  rw [kr102 S, kl102 S (by omega) (by omega), toN, (l.2.2.2 k hk).2.2.2.1]
theorem ml_1 (l : LWD h nl W T M P) (S : MSh h) {k : Nat} (hk : k < nl) {γ : Type} {K : Int32 → Option γ} : ((gR h 71 10 52).bind fun t => (lI 100 h t (iz (k : Int))).bind K) = K (iz (T k)) := by
  have := l.1
  rw [kr103 S, kl103 S (by omega) (by omega), toN, (l.2.2.2 k hk).2.2.2.2.1]
theorem ml_2 (l : LWD h nl W T M P) (S : MSh h) {k : Nat} (hk : k < nl) {γ : Type} {K : Int32 → Option γ} : ((gR h 71 10 53).bind fun t => (lI 100 h t (iz (k : Int))).bind K) = K (iz (M k)) := by
  have := l.1
  rw [kr104 S, kl104 S (by omega) (by omega), toN, (l.2.2.2 k hk).2.2.2.2.2.1]
theorem ml_3 (l : LWD h nl W T M P) (S : MSh h) {k : Nat} (hk : k < nl) {γ : Type} {K : Int32 → Option γ} : ((gR h 71 10 54).bind fun t => (lI 100 h t (iz (k : Int))).bind K) = K (iz (P k)) := by
  have := l.1
  rw [kr105 S, kl105 S (by omega) (by omega), toN, (l.2.2.2 k hk).2.2.2.2.2.2]
def prS (P : Nat → Int) (s : Nat) : Nat → Nat → Int → Int
  | 0, _, a => a
  | d + 1, i, a => prS P s d (i + 1) (if bit s i = true then a + P i else a)
def clI (W T : Nat → Int) (s i : Nat) : Nat → Nat → Bool
  | 0, _ => false
  | d + 1, j => (bit s i && bit s j && decide (W i = W j ∧ T i = T j)) || clI W T s i d (j + 1)
def clO (W T : Nat → Int) (s : Nat) : Nat → Nat → Bool
  | 0, _ => false
  | d + 1, i => clI W T s i i 0 || clO W T s d (i + 1)
def lr (w : Int) : Nat := if w = 0 then 3 else if w = 1 then 4 else 2
def enV (W T M : Nat → Int) (s : Nat) : Nat → Nat → Vw → Vw
  | 0, _, U => U
  | d + 1, i, U => enV W T M s d (i + 1) (if bit s i = true then vset U (lr (W i)) (T i) (M i) else U)
theorem prS_bd (l : LWD h nl W T M P) {s : Nat} : ∀ (d i : Nat) (a : Int), i + d = nl → (0 ≤ a ∧ a ≤ 99 * i) → 0 ≤ prS P s d i a ∧ prS P s d i a ≤ 99 * nl := by
  intro d
  induction d with
  | zero => intro i a hi ha; rw [prS]; omega
  | succ d ih =>
    intro i a hi ha
    have q := (l.2.2.2 i (by omega)).1.2.2.2
    rw [prS]
    exact ih (i + 1) _ (by omega) (by split <;> omega)
theorem prS_0 : ∀ (d i : Nat) (a : Int), i + d ≤ 4 → prS P 0 d i a = a := by
  intro d
  induction d with
  | zero => intro i a hi; rfl
  | succ d ih => intro i a hi; rw [prS, if_neg (by rw [bit_0 i (by omega)]; decide)]; exact ih (i + 1) a (by omega)
theorem clI_0 {i : Nat} (hi : i < 4) : ∀ (d j : Nat), clI W T 0 i d j = false := by
  intro d
  induction d with
  | zero => intro j; rfl
  | succ d ih => intro j; rw [clI, bit_0 i hi, ih]; rfl
theorem clO_0 : ∀ (d i : Nat), i + d ≤ 4 → clO W T 0 d i = false := by
  intro d
  induction d with
  | zero => intro i hi; rfl
  | succ d ih => intro i hi; rw [clO, clI_0 (by omega), ih (i + 1) (by omega)]; rfl
theorem lr_wf {U : Vw} (w : WF U) {x t m : Int} (hx : 0 ≤ x ∧ x ≤ 2) (hm : 0 ≤ m ∧ m ≤ (if x = 0 then 99 else 999)) : WF (vset U (lr x) t m) := by
  refine wf_t3 w ?_
  rcases (show x = 0 ∨ x = 1 ∨ x = 2 by omega) with rfl | rfl | rfl
  · rw [if_pos rfl] at hm; exact Or.inr (Or.inl ⟨rfl, hm⟩)
  · rw [if_neg (by decide)] at hm; exact Or.inr (Or.inr ⟨rfl, hm⟩)
  · rw [if_neg (by decide)] at hm; exact Or.inl ⟨rfl, hm⟩
theorem lr_like {U : Vw} {x t m : Int} (l : like5 U V) : like5 (vset U (lr x) t m) V := by
  refine ⟨l.1, l.2.1, l.2.2.1, fun k hk => (vset_ne ?_).trans (l.2.2.2 k hk)⟩
  rintro rfl
  unfold lr at hk
  split at hk
  · exact hk (by decide)
  · split at hk
    · exact hk (by decide)
    · exact hk (by decide)
theorem enV_TF {s : Nat} : ∀ (d i : Nat) (U : Vw), like5 U V → like5 (enV W T M s d i U) V := by
  intro d
  induction d with
  | zero => intro i U l; exact l
  | succ d ih =>
    intro i U l
    rw [enV]
    refine ih (i + 1) _ ?_
    split
    · exact lr_like l
    · exact l
theorem enV_wf (l : LWD h nl W T M P) {s : Nat} : ∀ (d i : Nat) (U : Vw), i + d = nl → WF U → WF (enV W T M s d i U) := by
  intro d
  induction d with
  | zero => intro i U _ w; exact w
  | succ d ih =>
    intro i U hi w
    have q := (l.2.2.2 i (by omega)).1
    rw [enV]
    refine ih (i + 1) _ (by omega) ?_
    split
    · exact lr_wf w q.1 q.2.2.1
    · exact w
theorem like5.rf : like5 V V := ⟨rfl, rfl, rfl, fun _ _ => rfl⟩
-- the price
theorem l_price_4 (l : LWD h nl W T M P) (S : X9S h) {s : Nat} (hs : s < 16) : ∀ (d i n : Nat) (a : Int), i + d = nl → d < n → (0 ≤ a ∧ a ≤ 99 * i) → f_X9_priceOf_4 N n 0 (iz (s : Int)) (iz a) (iz (i : Int)) h = some (iz (prS P s d i a), h) := by
  intro d
  have h4 := l.1
  induction d with
  | zero =>
    intro i n a hi hn ha
    obtain ⟨n, rfl⟩ : ∃ k, n = k + 1 := ⟨n - 1, by omega⟩
    rw [f_X9_priceOf_4, kl_n l S]
    exact if_pos (by rw [iz_le (by omega) (by omega) (by omega) (by omega)]; omega)
  | succ d ih =>
    intro i n a hi hn ha
    obtain ⟨n, rfl⟩ : ∃ k, n = k + 1 := ⟨n - 1, by omega⟩
    have q := (l.2.2.2 i (by omega)).1.2.2.2
    rw [f_X9_priceOf_4, kl_n l S, if_neg (by rw [iz_le (by omega) (by omega) (by omega) (by omega)]; omega), bit_z s hs i (by omega), kn9 S, kq57 l (by omega), kl_3 l (by omega), il1, iz_add, iz_add, prS]
    by_cases c : bit s i = true
    · rw [if_pos c, if_pos c, if_pos rfl]; exact ih (i + 1) n _ (by omega) (by omega) (by omega)
    · rw [if_neg c, if_neg c, if_neg (by decide)]; exact ih (i + 1) n _ (by omega) (by omega) (by omega)
theorem m_price_4 (l : LWD h nl W T M P) (S : MSh h) {s : Nat} (hs : s < 16) : ∀ (d i n : Nat) (a : Int), i + d = nl → d < n → (0 ≤ a ∧ a ≤ 99 * i) → f_X10_priceOf_4 N n 71 (iz (s : Int)) (iz a) (iz (i : Int)) h = some (iz (prS P s d i a), h) := by
  intro d
  have h4 := l.1
  induction d with
  | zero =>
    intro i n a hi hn ha
    obtain ⟨n, rfl⟩ : ∃ k, n = k + 1 := ⟨n - 1, by omega⟩
    rw [f_X10_priceOf_4, ml_n l S]
    exact if_pos (by rw [iz_le (by omega) (by omega) (by omega) (by omega)]; omega)
  | succ d ih =>
    intro i n a hi hn ha
    obtain ⟨n, rfl⟩ : ∃ k, n = k + 1 := ⟨n - 1, by omega⟩
    have q := (l.2.2.2 i (by omega)).1.2.2.2
    rw [f_X10_priceOf_4, ml_n l S, if_neg (by rw [iz_le (by omega) (by omega) (by omega) (by omega)]; omega), bit_z s hs i (by omega), ml_3 l S (by omega), prS]
    unfold f_X10_priceOf_32
    rw [il1, iz_add, iz_add]
    by_cases c : bit s i = true
    · rw [if_pos c, if_pos c, if_pos rfl]; exact ih (i + 1) n _ (by omega) (by omega) (by omega)
    · rw [if_neg c, if_neg c, if_neg (by decide)]
      refine Eq.trans ?_ (ih (i + 1) n a (by omega) (by omega) (by omega))
      rw [il0, iz_add, show a + 0 = a by omega]
      rfl
theorem l_price (l : LWD h nl W T M P) (S : X9S h) (hN : 300 ≤ N) {s : Nat} (hs : s < 16) : f_X9_priceOf N 0 (iz (s : Int)) h = some (iz (prS P s nl 0 0), h) := by
  have h4 := l.1
  exact l_price_4 l S hs nl 0 N 0 (by omega) (by omega) (by omega)
theorem m_price (l : LWD h nl W T M P) (S : MSh h) (hN : 300 ≤ N) {s : Nat} (hs : s < 16) : f_X10_priceOf N 71 (iz (s : Int)) h = some (iz (prS P s nl 0 0), h) := by
  have h4 := l.1
  exact m_price_4 l S hs nl 0 N 0 (by omega) (by omega) (by omega)
-- the clash
theorem l_cl_12 (l : LWD h nl W T M P) (S : X9S h) {s i : Nat} (hs : s < 16) (hi : i < nl) (k2 : Nat → Int32 → Int32 → Mem → Option (Int32 × Mem)) : ∀ (d j n : Nat), j + d = i → d < n → f_X9_clashIn_12 N n 0 (iz (s : Int)) (iz (i : Int)) (iz (j : Int)) h k2 = (if clI W T s i d j = true then some (iz 1, h) else k2 0 (iz (s : Int)) (iz ((i : Int) + 1)) h) := by
  intro d
  have h4 := l.1
  induction d with
  | zero =>
    intro j n hj hn
    obtain ⟨n, rfl⟩ : ∃ k, n = k + 1 := ⟨n - 1, by omega⟩
    rw [f_X9_clashIn_12, if_pos (by rw [iz_le (by omega) (by omega) (by omega) (by omega)]; omega), clI, il1, iz_add]
    rfl
  | succ d ih =>
    intro j n hj hn
    obtain ⟨n, rfl⟩ : ∃ k, n = k + 1 := ⟨n - 1, by omega⟩
    have q := (l.2.2.2 i hi).1
    have q' := (l.2.2.2 j (by omega)).1
    have e := ih (j + 1) n (by omega) (by omega)
    have ec : f_X4_clashes N (111 + i) (111 + j) h = some (iz (bi (decide (W i = W j ∧ T i = T j))), h) := by
      unfold f_X4_clashes
      rw [kl_0 l hi, kl_0 l (by omega), kl_1 l hi, kl_1 l (by omega)]
      by_cases c1 : W i = W j
      · rw [if_pos (by rw [c1])]
        by_cases c2 : T i = T j
        · rw [if_pos (by rw [c2]), decide_eq_true ⟨c1, c2⟩]; rfl
        · rw [if_neg (iz_ne (by omega) (by omega) (by omega) (by omega) c2), decide_eq_false (fun z => c2 z.2)]; rfl
      · rw [if_neg (iz_ne (by omega) (by omega) (by omega) (by omega) c1), decide_eq_false (fun z => c1 z.1)]; rfl
    rw [f_X9_clashIn_12, if_neg (by rw [iz_le (by omega) (by omega) (by omega) (by omega)]; omega), bit_zz s hs i (by omega) j (by omega), kn9 S, kq57 l hi, kn9 S, kq57 l (by omega), kl_c l hi, bq ec, il1, iz_add, clI]
    by_cases c : (bit s i && bit s j) = true
    · rw [if_pos c, if_pos (show iz 1 = iz 1 from rfl), c, Bool.true_and]
      by_cases c2 : W i = W j ∧ T i = T j
      · rw [decide_eq_true c2, Bool.true_or, if_pos (show true = true from rfl)]
        exact if_neg (by decide)
      · rw [decide_eq_false c2, Bool.false_or]
        exact (if_pos (by decide)).trans e
    · rw [if_neg c, if_neg (show ¬ ((0 : Int32) = iz 1) by decide), show (bit s i && bit s j) = false by simpa using c, Bool.false_and, Bool.false_or]
      exact e
theorem l_cl_2 (l : LWD h nl W T M P) (S : X9S h) (hN : 300 ≤ N) {s : Nat} (hs : s < 16) : ∀ (d i n : Nat), i + d = nl → d < n → f_X9_clashIn_2 N n 0 (iz (s : Int)) (iz (i : Int)) h = some (iz (bi (clO W T s d i)), h) := by
  intro d
  have h4 := l.1
  induction d with
  | zero =>
    intro i n hi hn
    obtain ⟨n, rfl⟩ : ∃ k, n = k + 1 := ⟨n - 1, by omega⟩
    rw [f_X9_clashIn_2, kl_n l S]
    exact if_pos (by rw [iz_le (by omega) (by omega) (by omega) (by omega)]; omega)
  | succ d ih =>
    intro i n hi hn
    obtain ⟨n, rfl⟩ : ∃ k, n = k + 1 := ⟨n - 1, by omega⟩
    have e := l_cl_12 (N := N) l S hs (i := i) (by omega) (fun v0 v1 v2 h => f_X9_clashIn_2 N n v0 v1 v2 h) i 0 N (by omega) (by omega)
    have e' : f_X9_clashIn_12 N N 0 (iz (s : Int)) (iz (i : Int)) (0 : Int32) h (fun v0 v1 v2 h => f_X9_clashIn_2 N n v0 v1 v2 h) = _ := e
    rw [f_X9_clashIn_2, kl_n l S, if_neg (by rw [iz_le (by omega) (by omega) (by omega) (by omega)]; omega), e', clO]
    cases clI W T s i i 0 with
    | true => rfl
    | false => rw [Bool.false_or]; exact ih (i + 1) n (by omega) (by omega)
theorem l_clash (l : LWD h nl W T M P) (S : X9S h) (hN : 300 ≤ N) {s : Nat} (hs : s < 16) : f_X9_clashIn N 0 (iz (s : Int)) h = some (iz (bi (clO W T s nl 0)), h) := by
  have h4 := l.1
  exact l_cl_2 l S hN hs nl 0 N (by omega) (by omega)
theorem m_cl_12 (l : LWD h nl W T M P) (S : MSh h) {s i : Nat} (hs : s < 16) (hi : i < nl) (k2 : Nat → Int32 → Int32 → Mem → Option (Int32 × Mem)) : ∀ (d j n : Nat), j + d = i → d < n → f_X10_isSet_12 N n 71 (iz (s : Int)) (iz (i : Int)) (iz (j : Int)) h k2 = (if clI W T s i d j = true then some (iz 0, h) else k2 71 (iz (s : Int)) (iz ((i : Int) + 1)) h) := by
  intro d
  have h4 := l.1
  induction d with
  | zero =>
    intro j n hj hn
    obtain ⟨n, rfl⟩ : ∃ k, n = k + 1 := ⟨n - 1, by omega⟩
    rw [f_X10_isSet_12, if_pos (by rw [iz_le (by omega) (by omega) (by omega) (by omega)]; omega), clI, il1, iz_add]
    rfl
  | succ d ih =>
    intro j n hj hn
    obtain ⟨n, rfl⟩ : ∃ k, n = k + 1 := ⟨n - 1, by omega⟩
    have q := (l.2.2.2 i hi).1
    have q' := (l.2.2.2 j (by omega)).1
    have e := ih (j + 1) n (by omega) (by omega)
    rw [f_X10_isSet_12, if_neg (by rw [iz_le (by omega) (by omega) (by omega) (by omega)]; omega), bit_z s hs i (by omega), bit_z s hs j (by omega), ml_0 l S hi, ml_0 l S (by omega), ml_1 l S hi, ml_1 l S (by omega), il1, iz_add, clI]
    by_cases c : bit s i = true
    · rw [if_pos c, if_pos (show iz 1 = iz 1 from rfl), c, Bool.true_and]
      by_cases c' : bit s j = true
      · rw [if_pos c', if_pos (show iz 1 = iz 1 from rfl), c', Bool.true_and]
        by_cases c1 : W i = W j
        · rw [if_pos (by rw [c1])]
          by_cases c2 : T i = T j
          · rw [if_pos (by rw [c2]), decide_eq_true ⟨c1, c2⟩]; rfl
          · rw [if_neg (iz_ne (by omega) (by omega) (by omega) (by omega) c2), decide_eq_false (fun z => c2 z.2), Bool.false_or]; exact e
        · rw [if_neg (iz_ne (by omega) (by omega) (by omega) (by omega) c1), decide_eq_false (fun z => c1 z.1), Bool.false_or]; exact e
      · rw [if_neg c', if_neg (show ¬ ((0 : Int32) = iz 1) by decide), show bit s j = false by simpa using c', Bool.false_and, Bool.false_or]
        exact e
    · rw [if_neg c, if_neg (show ¬ ((0 : Int32) = iz 1) by decide), show bit s i = false by simpa using c, Bool.false_and, Bool.false_and, Bool.false_or]
      exact e
theorem m_cl_2 (l : LWD h nl W T M P) (S : MSh h) (hN : 300 ≤ N) {s : Nat} (hs : s < 16) : ∀ (d i n : Nat), i + d = nl → d < n → f_X10_isSet_2 N n 71 (iz (s : Int)) (iz (i : Int)) h = some (iz (bi (!clO W T s d i)), h) := by
  intro d
  have h4 := l.1
  induction d with
  | zero =>
    intro i n hi hn
    obtain ⟨n, rfl⟩ : ∃ k, n = k + 1 := ⟨n - 1, by omega⟩
    rw [f_X10_isSet_2, ml_n l S]
    exact if_pos (by rw [iz_le (by omega) (by omega) (by omega) (by omega)]; omega)
  | succ d ih =>
    intro i n hi hn
    obtain ⟨n, rfl⟩ : ∃ k, n = k + 1 := ⟨n - 1, by omega⟩
    have e := m_cl_12 (N := N) l S hs (i := i) (by omega) (fun v0 v1 v2 h => f_X10_isSet_2 N n v0 v1 v2 h) i 0 N (by omega) (by omega)
    have e' : f_X10_isSet_12 N N 71 (iz (s : Int)) (iz (i : Int)) (0 : Int32) h (fun v0 v1 v2 h => f_X10_isSet_2 N n v0 v1 v2 h) = _ := e
    rw [f_X10_isSet_2, ml_n l S, if_neg (by rw [iz_le (by omega) (by omega) (by omega) (by omega)]; omega), e', clO]
    cases clI W T s i i 0 with
    | true => rfl
    | false => rw [Bool.false_or]; exact ih (i + 1) n (by omega) (by omega)
theorem m_isSet (l : LWD h nl W T M P) (S : MSh h) (hN : 300 ≤ N) {s : Nat} (hs : s < 16) : f_X10_isSet N 71 (iz (s : Int)) h = some (iz (bi (!clO W T s nl 0)), h) := by
  have h4 := l.1
  exact m_cl_2 l S hN hs nl 0 N (by omega) (by omega)
end
