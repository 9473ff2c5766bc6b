/-! the model's deal -/
theorem bit7_z : ∀ s : Nat, s < 128 → ∀ k : Nat, k < 7 → ((iz (s : Int) >>> (iz (k : Int) &&& (31 : Int32))) &&& (1 : Int32)) = if bit s k = true then (1 : Int32) else 0 := by decide +kernel
def su (u m : Nat) : Nat := if bit u m = true then u else u + 2 ^ m
theorem or7_z : ∀ s : Nat, s < 128 → ∀ k : Nat, k < 7 → (iz (s : Int) ||| ((1 : Int32) <<< (iz (k : Int) &&& (31 : Int32)))) = iz (su s k : Int) ∧ su s k < 128 := by decide +kernel
theorem su_bit : ∀ s : Nat, s < 128 → ∀ m : Nat, m < 7 → ∀ k : Nat, k < 7 → bit (su s m) k = (bit s k || decide (k = m)) := by decide +kernel
/-- the numbers that are not used -/
def fl (u : Nat) : Nat → Nat → List Nat
  | 0, _ => []
  | d + 1, m => if bit u m = true then fl u d (m + 1) else m :: fl u d (m + 1)
theorem fl_bd {u : Nat} : ∀ (d m : Nat) (c : Nat), c < (fl u d m).length → m ≤ aL (fl u d m) c ∧ aL (fl u d m) c < m + d := by
  intro d
  induction d with
  | zero => intro m c hc; exact absurd hc (Nat.not_lt_zero c)
  | succ d ih =>
    intro m c hc
    rw [fl] at hc ⊢
    by_cases b : bit u m = true
    · rw [if_pos b] at hc ⊢
      have := ih (m + 1) c hc
      omega
    · rw [if_neg b] at hc ⊢
      cases c with
      | zero => exact ⟨Nat.le_refl m, by show m < _; omega⟩
      | succ c =>
        have := ih (m + 1) c (Nat.lt_of_succ_lt_succ hc)
        show m ≤ aL (fl u d (m + 1)) c ∧ aL (fl u d (m + 1)) c < m + (d + 1)
        omega
theorem fl_le {u : Nat} : ∀ d m : Nat, (fl u d m).length ≤ d := by
  intro d
  induction d with
  | zero => intro m; exact Nat.le_refl 0
  | succ d ih =>
    intro m
    have := ih (m + 1)
    rw [fl]
    split
    · omega
    · show (fl u d (m + 1)).length + 1 ≤ d + 1
      omega
theorem fl_su {u t : Nat} (hu : u < 128) (ht : t < 7) : ∀ d m : Nat, t < m → m + d ≤ 7 → fl (su u t) d m = fl u d m := by
  intro d
  induction d with
  | zero => intro m _ _; rfl
  | succ d ih =>
    intro m hm h7
    rw [fl, fl, su_bit u hu t ht m (by omega), decide_eq_false (show ¬ (m = t) by omega), Bool.or_false, ih (m + 1) (by omega) (by omega)]
theorem fl_er {u : Nat} (hu : u < 128) : ∀ (d m c : Nat), m + d ≤ 7 → c < (fl u d m).length → fl (su u (aL (fl u d m) c)) d m = eL (fl u d m) c := by
  intro d
  induction d with
  | zero => intro m c _ hc; exact absurd hc (Nat.not_lt_zero c)
  | succ d ih =>
    intro m c h7 hc
    have bd := fl_bd (d + 1) m c hc
    rw [fl] at hc bd
    rw [fl, fl]
    by_cases b : bit u m = true
    · rw [if_pos b] at hc bd ⊢
      have b2 := fl_bd d (m + 1) c hc
      have e := ih (m + 1) c (by omega) hc
      rw [su_bit u hu _ (by omega) m (by omega), b, Bool.true_or, if_pos rfl, e]
    · rw [if_neg b] at hc bd ⊢
      have bf : bit u m = false := by simpa using b
      cases c with
      | zero =>
        show (if bit (su u m) m = true then fl (su u m) d (m + 1) else m :: fl (su u m) d (m + 1)) = fl u d (m + 1)
        rw [su_bit u hu m (by omega) m (by omega), decide_eq_true (show m = m from rfl), Bool.or_true, if_pos rfl]
        exact fl_su hu (by omega) d (m + 1) (by omega) (by omega)
      | succ c =>
        have hc' : c < (fl u d (m + 1)).length := Nat.lt_of_succ_lt_succ hc
        have b2 := fl_bd d (m + 1) c hc'
        have e := ih (m + 1) c (by omega) hc'
        show (if bit (su u (aL (fl u d (m + 1)) c)) m = true then fl (su u (aL (fl u d (m + 1)) c)) d (m + 1) else m :: fl (su u (aL (fl u d (m + 1)) c)) d (m + 1)) = m :: eL (fl u d (m + 1)) c
        rw [su_bit u hu _ (by omega) m (by omega), bf, decide_eq_false (show ¬ (m = aL (fl u d (m + 1)) c) by omega), Bool.or_false, if_neg (by decide), e]
def mpL (S : Nat → Nat) : List Nat → List Nat
  | [] => []
  | a :: r => S a :: mpL S r
theorem mpL_len {S : Nat → Nat} : ∀ l : List Nat, (mpL S l).length = l.length := by
  intro l
  induction l with
  | nil => rfl
  | cons a r ih => show (mpL S r).length + 1 = r.length + 1; rw [ih]
theorem mpL_at {S : Nat → Nat} : ∀ (l : List Nat) (c : Nat), c < l.length → aL (mpL S l) c = S (aL l c) := by
  intro l
  induction l with
  | nil => intro c hc; exact absurd hc (Nat.not_lt_zero c)
  | cons a r ih =>
    intro c hc
    cases c with
    | zero => rfl
    | succ c => exact ih c (Nat.lt_of_succ_lt_succ hc)
theorem mpL_er {S : Nat → Nat} : ∀ (l : List Nat) (c : Nat), mpL S (eL l c) = eL (mpL S l) c := by
  intro l
  induction l with
  | nil => intro c; rfl
  | cons a r ih =>
    intro c
    cases c with
    | zero => rfl
    | succ c => show S a :: mpL S (eL r c) = S a :: eL (mpL S r) c; rw [ih]
theorem mpL_4 {S : Nat → Nat} (h : ∀ j, S j < 4) : ∀ (l : List Nat), ∀ a, a ∈ mpL S l → a < 4 := by
  intro l
  induction l with
  | nil => intro a ha; cases ha
  | cons x r ih =>
    intro a ha
    rcases List.mem_cons.mp ha with z | z
    · rw [z]; exact h x
    · exact ih a z
theorem fl_0 : ∀ d m : Nat, m + d ≤ 7 → (fl 0 d m).length = d ∧ ∀ i, i < d → aL (fl 0 d m) i = m + i := by
  intro d
  induction d with
  | zero => intro m _; exact ⟨rfl, fun i hi => absurd hi (Nat.not_lt_zero i)⟩
  | succ d ih =>
    intro m h7
    have b0 : bit 0 m = false := by unfold bit; rw [Nat.zero_div]; rfl
    obtain ⟨i1, i2⟩ := ih (m + 1) (by omega)
    rw [fl, b0, if_neg (by decide)]
    refine ⟨by show (fl 0 d (m + 1)).length + 1 = d + 1; rw [i1], fun i hi => ?_⟩
    cases i with
    | zero => rfl
    | succ i => show aL (fl 0 d (m + 1)) i = _; rw [i2 i (by omega)]; omega
/-- the digit of a place -/
def dg (n v p : Nat) : Nat := v / fct (n - 1 - p) % (n - p)
theorem dg_w {n v p k : Nat} (hk : p + (k + 1) = n) : dg n v p = v % fct (k + 1) / fct k := by
  unfold dg
  rw [show n - 1 - p = k by omega, show n - p = k + 1 by omega, fct, Nat.mod_mul_right_div_self]
theorem fct_dvd (k : Nat) : fct k ∣ fct (k + 1) := ⟨k + 1, rfl⟩
theorem fct_bd : ∀ n, n ≤ 7 → 1 ≤ fct n ∧ fct n ≤ 5040 := by decide
/-- only some rows differ -/
def FR (S : List Nat) (h h' : Mem) : Prop := h'.1 = h.1 ∧ h'.2.2 = h.2.2 ∧ ∀ i, i ∉ S → h'.2.1 i = h.2.1 i
theorem FR.rf {S : List Nat} {h : Mem} : FR S h h := ⟨rfl, rfl, fun _ _ => rfl⟩
theorem FR.tr {S : List Nat} {h h1 h2 : Mem} (a : FR S h h1) (b : FR S h1 h2) : FR S h h2 := ⟨b.1.trans a.1, b.2.1.trans a.2.1, fun i q => (b.2.2 i q).trans (a.2.2 i q)⟩
theorem FR.mono {S S' : List Nat} {h h' : Mem} (a : FR S h h') (s : ∀ i, i ∈ S → i ∈ S') : FR S' h h' := ⟨a.1, a.2.1, fun i q => a.2.2 i (fun z => q (s i z))⟩
theorem FR.wr_ {S : List Nat} {h : Mem} {a : Nat} {row : Nat → Int32} (ha : a ∈ S) : FR S h (wr h a row) := ⟨rfl, rfl, fun i q => wr_ne (by rintro rfl; exact q ha)⟩
theorem FR.fm {S : List Nat} {h h' : Mem} (a : FR S h h') (h71 : 71 ∉ S) : FM S h h' := ⟨a.1, by rw [a.2.1], fun i _ => by rw [a.2.1], fun i _ q => a.2.2 i q, fun j _ => by rw [a.2.2 71 h71]⟩
section
variable {h0 : Mem} {V : Vw} {N : Nat}
theorem m_deal_9 {v n0 : Nat} (hn0 : n0 ≤ 7) (hv : v < fct n0) : ∀ (d n : Nat) (h : Mem), d ≤ n0 → d < n → MSh h → h.2.1 71 1 = iz (n0 : Int) → (∀ j, d ≤ j → j < n0 → h.2.1 100 j = iz (dg n0 v j : Int)) → ∃ h', f_X10_deal_9 N n 71 (iz (v / fct (n0 - d) : Nat)) (iz ((d : Int) - 1)) h = f_X10_deal_47 N N 71 (0 : Int32) (0 : Int32) h' ∧ FR [100] h h' ∧ (∀ j, j < n0 → h'.2.1 100 j = iz (dg n0 v j : Int)) := by
  intro d
  have fb := fct_bd n0 hn0
  induction d with
  | zero =>
    intro n h _ hn S e1 hr
    obtain ⟨n, rfl⟩ : ∃ k, n = k + 1 := ⟨n - 1, by omega⟩
    refine ⟨h, ?_, FR.rf, fun j hj => hr j (by omega) hj⟩
    rw [f_X10_deal_9]
    exact if_pos (by decide)
  | succ d ih =>
    intro n h hd hn S e1 hr
    obtain ⟨n, rfl⟩ : ∃ k, n = k + 1 := ⟨n - 1, by omega⟩
    have fp := fct_pos (n0 - (d + 1))
    have le1 : v / fct (n0 - (d + 1)) ≤ v := Nat.div_le_self _ _
    have f1 : FR [100] h (wr h 100 (upd (h.2.1 100) d (iz (dg n0 v d : Int)))) := FR.wr_ (by decide)
    have S1 : MSh (wr h 100 (upd (h.2.1 100) d (iz (dg n0 v d : Int)))) := S.wr_
    have e1' : (wr h 100 (upd (h.2.1 100) d (iz (dg n0 v d : Int)))).2.1 71 1 = iz (n0 : Int) := by rw [wr_ne (by decide)]; exact e1
    obtain ⟨h', e, F, r'⟩ := ih n (wr h 100 (upd (h.2.1 100) d (iz (dg n0 v d : Int)))) (by omega) (by omega) S1 e1' (fun j h1 h2 => by
      rw [wr_eq, upd_at]
      by_cases q : j = d
      · rw [if_pos q, q]
      · rw [if_neg q]; exact hr j (by omega) h2)
    refine ⟨h', ?_, f1.tr F, r'⟩
    have ed : ((d + 1 : Nat) : Int) - 1 = (d : Int) := by omega
    have ek : fct (n0 - d) = fct (n0 - (d + 1)) * (n0 - d) := by
      rw [show n0 - d = (n0 - (d + 1)) + 1 by omega, fct]
    have eq : v / fct (n0 - d) = v / fct (n0 - (d + 1)) / (n0 - d) := by rw [ek, Nat.div_div_eq_div_mul]
    have eg : dg n0 v d = v / fct (n0 - (d + 1)) % (n0 - d) := by unfold dg; rw [show n0 - 1 - d = n0 - (d + 1) by omega]
    have hsub : iz (n0 : Int) - iz (d : Int) = iz ((n0 - d : Nat) : Int) := by rw [iz_sub]; congr 1; omega
    generalize hX : v / fct (n0 - (d + 1)) = X at *
    generalize hm : n0 - d = m at *
    have hm0 : 0 < m := by omega
    have hdiv : iz (X : Int) / iz (m : Int) = iz ((X / m : Nat) : Int) := by
      rw [iz_div (by omega) (by omega) (by omega) (by omega), Int.tdiv_eq_ediv_of_nonneg (by omega)]
      rfl
    have hmod : iz (X : Int) - iz ((X / m : Nat) : Int) * iz (m : Int) = iz ((X % m : Nat) : Int) := by
      rw [iz_mul, iz_sub]
      congr 1
      have := Nat.div_add_mod X m
      rw [Nat.mul_comm] at this
      omega
    rw [f_X10_deal_9, ed, if_neg (by rw [il0, iz_lt (by omega) (by omega) (by omega) (by omega)]; omega), kr100 S, kmI S, e1, hsub, hdiv, hmod]
    refine (if_neg (show ¬ (iz (m : Int) = (0 : Int32)) from iz_ne (b := 0) (by omega) (by omega) (by decide) (by decide) (by omega))).trans ?_
    rw [ks100 S (by omega) (by omega), toN, ← eg, kmI S1, e1', hsub]
    refine (if_neg (show ¬ (iz (m : Int) = (0 : Int32)) from iz_ne (b := 0) (by omega) (by omega) (by decide) (by decide) (by omega))).trans ?_
    rw [hdiv, ← eq, show (-1 : Int32) = iz (-1) from rfl, iz_add, show (d : Int) + -1 = (d : Int) - 1 by omega]
    exact e
theorem m_deal_68 {u p : Nat} (hu : u < 128) (hp : p < 8) (k47 : Nat → Int32 → Int32 → Mem → Option Mem) {h : Mem} (S : MSh h) : ∀ (d m c n : Nat), m + d ≤ 7 → d < n → c < (fl u d m).length → f_X10_deal_68 N n 71 (iz (u : Int)) (iz (p : Int)) (iz (c : Int)) (iz (m : Int)) h k47 = k47 71 (iz (su u (aL (fl u d m) c) : Int)) (iz ((p : Int) + 1)) (wr h 77 (upd (h.2.1 77) p (h.2.1 99 (aL (fl u d m) c)))) := by
  intro d
  induction d with
  | zero => intro m c n _ _ hc; exact absurd hc (Nat.not_lt_zero c)
  | succ d ih =>
    intro m c n h7 hn hc
    obtain ⟨n, rfl⟩ : ∃ k, n = k + 1 := ⟨n - 1, by omega⟩
    have bz := bit7_z u hu m (by omega)
    have k83 : ∀ (z : Int) (c' : Nat), (if bit u m = true then z = (c' : Int) else z - 1 = (c' : Int)) → f_X10_deal_83 N 71 (iz (u : Int)) (iz (p : Int)) (iz z) (iz (m : Int)) h (fun v0 v3 v4 v5 v6 h => f_X10_deal_68 N n v0 v3 v4 v5 v6 h k47) = f_X10_deal_68 N n 71 (iz (u : Int)) (iz (p : Int)) (iz (c' : Int)) (iz ((m + 1 : Nat) : Int)) h k47 := by
      intro z c' hz
      unfold f_X10_deal_83 f_X10_deal_100
      dsimp only
      rw [bz]
      by_cases b : bit u m = true
      · rw [if_pos b] at hz
        rw [if_pos b, if_pos rfl, il0, il1, iz_sub, iz_add, show z - 0 = (c' : Int) by omega]
        rfl
      · rw [if_neg b] at hz
        rw [if_neg b, if_neg (by decide), il1, iz_sub, iz_add, hz]
        rfl
    rw [f_X10_deal_68, bz]
    rw [fl] at hc ⊢
    by_cases b : bit u m = true
    · rw [if_pos b] at hc ⊢
      rw [if_pos b, if_pos rfl, k83 c c (by rw [if_pos b])]
      exact ih (m + 1) c n (by omega) (by omega) hc
    · rw [if_neg b] at hc ⊢
      rw [if_neg b, if_neg (by decide)]
      cases c with
      | zero =>
        have o7 := or7_z u hu m (by omega)
        show (if iz ((0 : Nat) : Int) ≤ (0 : Int32) then _ else _) = k47 71 (iz (su u m : Int)) (iz ((p : Int) + 1)) (wr h 77 (upd (h.2.1 77) p (h.2.1 99 m)))
        refine (if_pos (by decide)).trans ?_
        rw [kr77 S, kr99 S, kl99 S (by omega) (by omega), toN, ks77 S (by omega) (by omega), toN, o7.1, il1, iz_add]
      | succ c =>
        have lf := fl_le (u := u) d (m + 1)
        have hc' : c < (fl u d (m + 1)).length := Nat.lt_of_succ_lt_succ hc
        refine (if_neg (by rw [il0, iz_le (by omega) (by omega) (by omega) (by omega)]; omega)).trans ?_
        rw [k83 ((c + 1 : Nat) : Int) c (by rw [if_neg b]; omega)]
        exact ih (m + 1) c n (by omega) (by omega) (Nat.lt_of_succ_lt_succ hc)
theorem m_deal_47 {v n0 : Nat} {So : Nat → Nat} (hN : 300 ≤ N) (hn0 : n0 ≤ 7) : ∀ (k p u n : Nat) (h : Mem), p + k = n0 → k < n → u < 128 → (fl u n0 0).length = k → MSh h → h.2.1 71 1 = iz (n0 : Int) → (∀ j, j < n0 → h.2.1 100 j = iz (dg n0 v j : Int)) → (∀ j, j < n0 → h.2.1 99 j = iz (So j : Int)) → ∃ h', f_X10_deal_47 N n 71 (iz (u : Int)) (iz (p : Int)) h = some h' ∧ FR [77] h h' ∧ (∀ j, j < p → h'.2.1 77 j = h.2.1 77 j) ∧ (∀ j, n0 ≤ j → h'.2.1 77 j = h.2.1 77 j) ∧ (∀ i, i < k → h'.2.1 77 (p + i) = iz (aL (dL k (mpL So (fl u n0 0)) (v % fct k)) i : Int)) := by
  intro k
  induction k with
  | zero =>
    intro p u n h hp hn hu hl S e1 hd hs
    obtain ⟨n, rfl⟩ : ∃ k, n = k + 1 := ⟨n - 1, by omega⟩
    refine ⟨h, ?_, FR.rf, fun _ _ => rfl, fun _ _ => rfl, fun i hi => absurd hi (Nat.not_lt_zero i)⟩
    rw [f_X10_deal_47, kmI S, e1]
    exact if_pos (by rw [iz_le (by omega) (by omega) (by omega) (by omega)]; omega)
  | succ k ih =>
    intro p u n h hp hn hu hl S e1 hd hs
    obtain ⟨n, rfl⟩ : ∃ k, n = k + 1 := ⟨n - 1, by omega⟩
    have edg := dg_w (n := n0) (v := v) (p := p) (k := k) hp
    have fp := fct_pos k
    have hdl : dg n0 v p < (fl u n0 0).length := by
      rw [hl, edg]
      refine (Nat.div_lt_iff_lt_mul fp).mpr ?_
      rw [Nat.mul_comm]
      exact Nat.mod_lt _ (fct_pos (k + 1))
    have e68 := m_deal_68 (N := N) (u := u) (p := p) hu (by omega) (fun v0 v3 v4 h => f_X10_deal_47 N n v0 v3 v4 h) S n0 0 (dg n0 v p) N (by omega) (by omega) hdl
    have bd := fl_bd n0 0 (dg n0 v p) hdl
    have er := fl_er hu n0 0 (dg n0 v p) (by omega) hdl
    have el := eL_len (fl u n0 0) (dg n0 v p) hdl
    have o7 := or7_z u hu (aL (fl u n0 0) (dg n0 v p)) (by omega)
    obtain ⟨row, hrow⟩ : ∃ row, row = upd (h.2.1 77) p (h.2.1 99 (aL (fl u n0 0) (dg n0 v p))) := ⟨_, rfl⟩
    have n77 : ∀ i, i ≠ 77 → (wr h 77 row).2.1 i = h.2.1 i := fun i hi => wr_ne hi
    obtain ⟨h', e, F, r1, r2, r3⟩ := ih (p + 1) (su u (aL (fl u n0 0) (dg n0 v p))) n (wr h 77 row) (by omega) (by omega) o7.2 (by rw [er]; omega) S.wr_ (by rw [n77 71 (by decide)]; exact e1) (by rw [n77 100 (by decide)]; exact hd) (by rw [n77 99 (by decide)]; exact hs)
    have rp : ∀ j, (wr h 77 row).2.1 77 j = if j = p then h.2.1 99 (aL (fl u n0 0) (dg n0 v p)) else h.2.1 77 j := fun j => by rw [wr_eq, hrow, upd_at]
    refine ⟨h', ?_, (FR.wr_ (by decide)).tr F, fun j hj => ?_, fun j hj => ?_, fun i hi => ?_⟩
    · rw [f_X10_deal_47, kmI S, e1, if_neg (by rw [iz_le (by omega) (by omega) (by omega) (by omega)]; omega), kr100 S, kl100 S (by omega) (by omega), toN, hd p (by omega)]
      refine (show f_X10_deal_68 N N 71 (iz (u : Int)) (iz (p : Int)) (iz (dg n0 v p : Int)) (0 : Int32) h (fun v0 v3 v4 h => f_X10_deal_47 N n v0 v3 v4 h) = _ from e68).trans ?_
      rw [← hrow]
      exact e
    · rw [r1 j (by omega), rp, if_neg (by omega)]
    · rw [r2 j hj, rp, if_neg (by omega)]
    · have dl : dL (k + 1) (mpL So (fl u n0 0)) (v % fct (k + 1)) = So (aL (fl u n0 0) (dg n0 v p)) :: dL k (mpL So (fl (su u (aL (fl u n0 0) (dg n0 v p))) n0 0)) (v % fct k) := by
        show aL (mpL So (fl u n0 0)) (v % fct (k + 1) / fct k) :: dL k (eL (mpL So (fl u n0 0)) (v % fct (k + 1) / fct k)) (v % fct (k + 1) % fct k) = _
        rw [← edg, mpL_at _ _ hdl, ← mpL_er, er, Nat.mod_mod_of_dvd _ (fct_dvd k)]
      rw [dl]
      cases i with
      | zero =>
        show h'.2.1 77 p = _
        rw [r1 p (by omega), rp, if_pos rfl, hs _ (by omega)]
        rfl
      | succ i =>
        rw [show p + (i + 1) = p + 1 + i by omega]
        exact r3 i (by omega)
end
