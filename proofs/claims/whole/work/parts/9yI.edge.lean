/-! edge -/
def eV (V : Vw) (j x : Int) : Vw := vset V 9 j x
theorem eV_wf {V : Vw} (w : WF V) {j x : Int} (hx : -20 ≤ x ∧ x ≤ 1019) : WF (eV V j x) := by
  obtain ⟨a1, a2, a3, a4, a5, a6, a7, a8, a9, a10, a11, a12⟩ := w
  have ne : ∀ k, k ≠ 9 → va (eV V j x) k = va V k := fun k hk => vset_ne hk
  refine ⟨a1, a2, ?_, ?_, ?_, ?_, ?_, ?_, ?_, ?_, ?_, a12⟩
  · rw [ne 0 (by decide), ne 2 (by decide), ne 3 (by decide), ne 4 (by decide)]; exact a3
  · intro i h0 h1
    rw [ne 1 (by decide)]
    refine ⟨(a4 i h0 h1).1, ?_⟩
    unfold eV
    rw [vset_at]
    split
    · exact hx
    · exact (a4 i h0 h1).2
  · rw [ne 5 (by decide), ne 6 (by decide), ne 7 (by decide), ne 8 (by decide)]; exact a5
  · rw [ne 10 (by decide)]; exact a6
  · rw [ne 11 (by decide)]; exact a7
  · rw [ne 12 (by decide)]; exact a8
  · rw [ne 12 (by decide)]; exact a9
  · rw [ne 12 (by decide)]; exact a10
  · rw [ne 6 (by decide), ne 7 (by decide)]; exact a11
def edA (V : Vw) (kd j x : Int) : Bool := decide (breachS (eV V j (va V 9 j + x)) kd ≠ -5)
def edT (V : Vw) (kd j : Int) : Nat → Nat → Int
  | 0, _ => -100
  | d + 1, s => if edA V kd j (-(s : Int)) = true then -(s : Int) else if edA V kd j (s : Int) = true then (s : Int) else edT V kd j d (s + 1)
def KE (p : Nat) (j : Nat) (h0 h : Mem) (x : Int) : Prop := h.1 = h0.1 ∧ h.2.2.2 = h0.2.2.2 ∧ (∀ i, i ≠ 51 → h.2.2.1 i = h0.2.2.1 i) ∧ (∀ i, i ≠ p + 1 → i ≠ ar 1 1 → i ≠ ar 1 7 → i ≠ ar 1 9 → i ≠ 47 → i ≠ 48 → i ≠ 49 → h.2.1 i = h0.2.1 i) ∧ h.2.1 (p + 1) = upd (h0.2.1 (p + 1)) j (iz x)
theorem repC_like {h : Mem} {V : Vw} {p : Nat} {j : Nat} {x : Int} (R : RepC h 1 p V) (q : CP 1 p) (hj : j < 12) : RepC (wr h (p + 1) (upd (h.2.1 (p + 1)) j (iz x))) 1 p (eV V j x) := by
  have hp := q.2
  have a := fun k (hk : k < 9) => ar_lt (c := 1) (k := k) c1 (by omega)
  have ap : ∀ k, k < 9 → ar 1 k ≠ p + 1 := by
    intro k hk
    have : ∀ k, k < 9 → ar 1 k ≠ 3 ∧ ar 1 k ≠ 40 := by decide
    have := this k hk
    omega
  obtain ⟨r1, r2, r3, r4, r5, s0, s1, s2, s3, s4, t1, t2, t3, t4, t5, t6, t7⟩ := R
  refine ⟨r1, by rw [wr_ne (by omega)]; exact r2, by rw [wr_ne (by omega)]; exact r3, fun k hk i hi => ?_, r5, s0, s1, s2, s3, s4, fun i hi => ?_, ?_, ?_, ?_, ?_, ?_, ?_⟩
  · rw [wr_ne (ap k hk)]
    unfold eV
    rw [vset_ne (by omega)]
    exact r4 k hk i hi
  · rw [wr_eq, upd_at]
    unfold eV
    rw [vset_at]
    by_cases z : i = j
    · rw [if_pos z, if_pos ⟨rfl, by omega⟩]
    · rw [if_neg z, if_neg (by omega)]; exact t1 i hi
  · intro i hi
    rw [wr_ne (by omega)]; exact t2 i hi
  · intro i hi
    rw [wr_ne (by omega)]; exact t3 i hi
  · rw [wr_ne (by omega)]; exact t4
  · rw [wr_ne (by omega)]; exact t5
  · rw [wr_ne (by omega)]; exact t6
  · rw [wr_ne (by omega), wr_ne (by omega)]; exact t7
section
variable {h : Mem} {V : Vw} {p pd b N : Nat}
theorem eV_eV {j x y : Int} : eV (eV V j x) j y = eV V j y := vset_vset
/-- one try on the class's side -/
theorem l_ed_try (hN : 300 ≤ N) (q : CP 1 p) (w : WF V) {kd : Int} (hk : 1 ≤ kd ∧ kd ≤ 5) {j : Nat} (hj : j < 12) {h0 : Mem} (S0 : X9S h0) (s0 : RS h0) {x0 x : Int} (hx : -20 ≤ x ∧ x ≤ 1019) (K : KE p j h0 h x0) (R : RepC h 1 p (eV V j x0)) : ∃ h2, ((stI 100 h (p + 1) (iz (j : Int)) (iz x)).bind fun h3 => (gR h3 0 9 5).bind fun t5 => (gR h3 0 9 0).bind fun t7 => (ck h3 t5 6).bind fun _ => f_X6_breach N t5 t7 (iz kd) h3) = some (iz (breachS (eV V j x) kd), h2) ∧ KE p j h0 h2 x ∧ RepC h2 1 p (eV V j x) := by
  have hp := q.2
  have R1 := repC_like (x := x) R q hj
  rw [eV_eV] at R1
  have S : X9S h := ⟨by rw [K.1]; exact S0.1, by rw [K.2.1]; exact S0.2⟩
  have s1 : RS h := by unfold RS at *; rw [K.1, K.2.1]; exact s0
  obtain ⟨h2, e2, R2, K2⟩ := l_breach (N := N) (h := wr h (p + 1) (upd (h.2.1 (p + 1)) j (iz x))) R1 (eV_wf w hx) q s1 hN hk
  have b1 : h.1[p + 1]? = some (100, 12) := R.2.2.2.2.2.2.1.2
  have ap : ∀ k, k < 10 → ar 1 k ≠ 3 ∧ ar 1 k ≠ 40 := by decide
  have a1 := ap 1 (by decide)
  have a7 := ap 7 (by decide)
  have a9 := ap 9 (by decide)
  refine ⟨h2, ?_, ⟨K2.1.trans K.1, K2.2.1.trans K.2.1, fun i hi => (K2.2.2.1 i hi).trans (K.2.2.1 i hi), fun i z0 z1 z2 z3 z4 z5 z6 => ?_, ?_⟩, R2⟩
  · rw [bo (st_wr b1 (by omega) (by omega) (by decide)), toN]
    have S1 : X9S (wr h (p + 1) (upd (h.2.1 (p + 1)) j (iz x))) := S
    have q46 : (wr h (p + 1) (upd (h.2.1 (p + 1)) j (iz x))).1[46]? = some (6, 0) := s1.1
    rw [kn5 S1, kn0 S1, bo (ck_q q46), e2]
  · rw [K2.2.2.2 i z1 z2 z3 z4 z5 z6, wr_ne z0]; exact K.2.2.2.1 i z0 z1 z2 z3 z4 z5 z6
  · rw [K2.2.2.2 (p + 1) (by omega) (by omega) (by omega) (by omega) (by omega) (by omega), wr_eq, K.2.2.2.2]
    funext i
    rw [upd_at, upd_at, upd_at]
    split <;> rfl
end
section
variable {h : Mem} {V : Vw} {p pd b N : Nat}
theorem l_ed_98 (hN : 300 ≤ N) (q : CP 1 p) (w : WF V) (lk : LK V) {kd : Int} (hk : 1 ≤ kd ∧ kd ≤ 5) {j : Nat} (hj : j < 12) {h0 : Mem} (S0 : X9S h0) (s0 : RS h0) {x0 : Int} (K : KE p j h0 h x0) (R : RepC h 1 p (eV V j x0)) {s y : Int} (hs : 1 ≤ s ∧ s ≤ 20) (hy : -20 ≤ y ∧ y ≤ s) (k79 : Nat → Int32 → Nat → Int32 → Int32 → Int32 → Int32 → Mem → Option (Int32 × Mem)) (n : Nat) : ∃ h2, f_X9_edge_98 N (n + 1) 0 (iz kd) (p + 1) (iz (j : Int)) (iz (va V 9 j)) (iz (-100)) (iz s) (iz y) h k79 = f_X9_edge_98 N n 0 (iz kd) (p + 1) (iz (j : Int)) (iz (va V 9 j)) (iz (if edA V kd j y = true then y else -100)) (iz s) (iz (y + 2 * s)) h2 k79 ∧ KE p j h0 h2 (va V 9 j + y) ∧ RepC h2 1 p (eV V j (va V 9 j + y)) := by
  have b9 := lk (j : Int) (by omega) (by omega)
  obtain ⟨h2, e2, K2, R2⟩ := l_ed_try (N := N) hN q w hk hj S0 s0 (x := va V 9 j + y) (by omega) K R
  refine ⟨h2, ?_, K2, R2⟩
  have bb := breachS_bd (eV_wf w (j := (j : Int)) (x := va V 9 j + y) (by omega)) (k := kd)
  have split3 : ∀ {γ : Type} (K : Int32 → Mem → Option γ), ((stI 100 h (p + 1) (iz (j : Int)) (iz (va V 9 j + y))).bind fun h3 => (gR h3 0 9 5).bind fun t5 => (gR h3 0 9 0).bind fun t7 => (ck h3 t5 6).bind fun _ => b2 (f_X6_breach N t5 t7 (iz kd) h3) K) = K (iz (breachS (eV V j (va V 9 j + y)) kd)) h2 := by
    intro γ K
    have hp := q.2
    have S : X9S h := ⟨by rw [‹KE p j h0 h x0›.1]; exact S0.1, by rw [‹KE p j h0 h x0›.2.1]; exact S0.2⟩
    have s1 : RS h := by unfold RS at *; rw [‹KE p j h0 h x0›.1, ‹KE p j h0 h x0›.2.1]; exact s0
    have b1 : h.1[p + 1]? = some (100, 12) := R.2.2.2.2.2.2.1.2
    have S1 : X9S (wr h (p + 1) (upd (h.2.1 (p + 1)) j (iz (va V 9 j + y)))) := S
    have q46 : (wr h (p + 1) (upd (h.2.1 (p + 1)) j (iz (va V 9 j + y)))).1[46]? = some (6, 0) := s1.1
    rw [bo (st_wr b1 (by omega) (by omega) (by decide)), toN, kn5 S1, kn0 S1, bo (ck_q q46)] at e2 ⊢
    rw [bq e2]
  rw [f_X9_edge_98, if_neg (by rw [iz_lt (by omega) (by omega) (by omega) (by omega)]; omega)]
  refine (if_pos rfl).trans ?_
  rw [iz_add, split3]
  unfold f_X9_edge_143
  rw [show (2 : Int32) = iz 2 from rfl, iz_mul, iz_add]
  by_cases c : breachS (eV V j (va V 9 j + y)) kd = -5
  · rw [if_neg (show ¬ (edA V kd j y = true) from fun z => of_decide_eq_true z c)]
    exact if_pos (by rw [c]; rfl)
  · rw [if_pos (show edA V kd j y = true from decide_eq_true c)]
    exact if_neg (show ¬ (iz _ = (-5 : Int32)) from iz_ne (b := -5) (by omega) (by omega) (by decide) (by decide) c)
theorem l_ed_done {v3 : Int32} {v4 : Nat} {v5 v6 : Int32} {s y a : Int} (hs : 1 ≤ s ∧ s ≤ 20) (hy : -20 ≤ y ∧ y ≤ 100) (ha : -100 ≤ a ∧ a ≤ 100) (h1 : s < y ∨ a ≠ -100) (k79 : Nat → Int32 → Nat → Int32 → Int32 → Int32 → Int32 → Mem → Option (Int32 × Mem)) (n : Nat) : f_X9_edge_98 N (n + 1) 0 v3 v4 v5 v6 (iz a) (iz s) (iz y) h k79 = k79 0 v3 v4 v5 v6 (iz a) (iz (s + 1)) h := by
  rw [f_X9_edge_98, il1, iz_add]
  by_cases c : s < y
  · exact if_pos (by rw [iz_lt (by omega) (by omega) (by omega) (by omega)]; exact c)
  · refine (if_neg (by rw [iz_lt (by omega) (by omega) (by omega) (by omega)]; exact c)).trans ?_
    exact if_neg (show ¬ (iz a = (-100 : Int32)) from iz_ne (b := -100) (by omega) (by omega) (by decide) (by decide) (by omega))
theorem l_ed_79 (hN : 300 ≤ N) (q : CP 1 p) (w : WF V) (lk : LK V) {kd : Int} (hk : 1 ≤ kd ∧ kd ≤ 5) {j : Nat} (hj : j < 12) {h0 : Mem} (S0 : X9S h0) (s0 : RS h0) : ∀ (d s n : Nat) (h : Mem) (x : Int), s + d = 21 → 1 ≤ s → d + 1 < n → KE p j h0 h x → RepC h 1 p (eV V j x) → ∃ h' x', f_X9_edge_79 N n 0 (iz kd) (p + 1) (iz (j : Int)) (iz (va V 9 j)) (iz (-100)) (iz (s : Int)) h = f_X9_edge_161 N (p + 1) (iz (j : Int)) (iz (va V 9 j)) (iz (edT V kd j d s)) h' ∧ KE p j h0 h' x' ∧ RepC h' 1 p (eV V j x') := by
  intro d
  induction d with
  | zero =>
    intro s n h x hs h1 hn K R
    obtain ⟨n, rfl⟩ : ∃ k, n = k + 1 := ⟨n - 1, by omega⟩
    refine ⟨h, x, ?_, K, R⟩
    rw [f_X9_edge_79, edT]
    exact if_pos (by rw [show (20 : Int32) = iz 20 from rfl, iz_lt (by omega) (by omega) (by omega) (by omega)]; omega)
  | succ d ih =>
    intro s n h x hs h1 hn K R
    obtain ⟨n, rfl⟩ : ∃ k, n = k + 1 := ⟨n - 1, by omega⟩
    obtain ⟨m, rfl⟩ : ∃ k, N = k + 3 := ⟨N - 3, by omega⟩
    have nx : ∀ (a : Int) (g : Mem) (y : Int), (-20 ≤ a ∧ a ≤ 20) → KE p j h0 g y → RepC g 1 p (eV V j y) → ∃ h' x', f_X9_edge_79 (m + 3) n 0 (iz kd) (p + 1) (iz (j : Int)) (iz (va V 9 j)) (iz a) (iz ((s : Int) + 1)) g = f_X9_edge_161 (m + 3) (p + 1) (iz (j : Int)) (iz (va V 9 j)) (iz a) h' ∧ KE p j h0 h' x' ∧ RepC h' 1 p (eV V j x') := by
      intro a g y ha Kg Rg
      obtain ⟨n, rfl⟩ : ∃ k, n = k + 1 := ⟨n - 1, by omega⟩
      refine ⟨g, y, ?_, Kg, Rg⟩
      rw [f_X9_edge_79]
      by_cases c : (20 : Int) < (s : Int) + 1
      · exact if_pos (by rw [show (20 : Int32) = iz 20 from rfl, iz_lt (by omega) (by omega) (by omega) (by omega)]; exact c)
      · refine (if_neg (by rw [show (20 : Int32) = iz 20 from rfl, iz_lt (by omega) (by omega) (by omega) (by omega)]; exact c)).trans ?_
        exact if_neg (show ¬ (iz a = (-100 : Int32)) from iz_ne (b := -100) (by omega) (by omega) (by decide) (by decide) (by omega))
    obtain ⟨h2, e2, K2, R2⟩ := l_ed_98 hN q w lk hk hj S0 s0 K R (s := (s : Int)) (y := -(s : Int)) (by omega) (by omega) (fun v0 v3 v4 v5 v6 v7 v8 h => f_X9_edge_79 (m + 3) n v0 v3 v4 v5 v6 v7 v8 h) (m + 2)
    have pre : f_X9_edge_79 (m + 3) (n + 1) 0 (iz kd) (p + 1) (iz (j : Int)) (iz (va V 9 j)) (iz (-100)) (iz (s : Int)) h = f_X9_edge_98 (m + 3) (m + 3) 0 (iz kd) (p + 1) (iz (j : Int)) (iz (va V 9 j)) (iz (-100)) (iz (s : Int)) (iz (-(s : Int))) h (fun v0 v3 v4 v5 v6 v7 v8 h => f_X9_edge_79 (m + 3) n v0 v3 v4 v5 v6 v7 v8 h) := by
      rw [f_X9_edge_79]
      refine (if_neg (by rw [show (20 : Int32) = iz 20 from rfl, iz_lt (by omega) (by omega) (by omega) (by omega)]; omega)).trans ?_
      refine (if_pos rfl).trans ?_
      rw [iz_neg]
    rw [pre, e2, edT]
    by_cases c1 : edA V kd j (-(s : Int)) = true
    · rw [if_pos c1, if_pos c1, l_ed_done (by omega) (by omega) (by omega) (Or.inr (by omega))]
      exact nx (-(s : Int)) h2 _ (by omega) K2 R2
    · rw [if_neg c1, if_neg c1, show -(s : Int) + 2 * (s : Int) = s by omega]
      obtain ⟨h3, e3, K3, R3⟩ := l_ed_98 hN q w lk hk hj S0 s0 K2 R2 (s := (s : Int)) (y := (s : Int)) (by omega) (by omega) (fun v0 v3 v4 v5 v6 v7 v8 h => f_X9_edge_79 (m + 3) n v0 v3 v4 v5 v6 v7 v8 h) (m + 1)
      rw [e3]
      by_cases c2 : edA V kd j (s : Int) = true
      · rw [if_pos c2, if_pos c2, l_ed_done (by omega) (by omega) (by omega) (Or.inr (by omega))]
        exact nx (s : Int) h3 _ (by omega) K3 R3
      · rw [if_neg c2, if_neg c2, l_ed_done (by omega) (by omega) (by omega) (Or.inl (by omega))]
        exact ih (s + 1) n h3 _ (by omega) (by omega) (by omega) K3 R3
-- the model's
theorem repM_like {U : Vw} {j : Nat} {x : Int} (R : RepM h U) : RepM (wr h 84 (upd (h.2.1 84) j (iz x))) (eV U j x) := by
  obtain ⟨r1, ⟨r2, r3⟩, r4, r5, r6, r7, ⟨r8, r9, r10⟩, r11, r12⟩ := R
  have ne : ∀ k, k ≠ 9 → va (eV U j x) k = va U k := fun k hk => vset_ne hk
  refine ⟨r1, ⟨by rw [wr_ne (by decide)]; exact r2, by rw [wr_ne (by decide)]; exact r3⟩, fun k hk i hi => ?_, fun i hi => ?_, fun i hi => ?_, fun i hi => ?_, ⟨?_, ?_, ?_⟩, ?_, ?_⟩
  · rw [wr_ne (by omega), ne k (by omega)]; exact r4 k hk i hi
  · rw [wr_eq, upd_at]
    unfold eV
    rw [vset_at]
    by_cases z : i = j
    · rw [if_pos z, if_pos ⟨rfl, by omega⟩]
    · rw [if_neg z, if_neg (by omega)]; exact r5 i hi
  · rw [wr_ne (by decide), ne 10 (by decide)]; exact r6 i hi
  · rw [wr_ne (by decide), ne 11 (by decide)]; exact r7 i hi
  · rw [wr_ne (by decide), ne 12 (by decide)]; exact r8
  · rw [wr_ne (by decide), ne 12 (by decide)]; exact r9
  · rw [wr_ne (by decide), ne 12 (by decide)]; exact r10
  · unfold GOES at *; rw [wr_ne (by decide), wr_ne (by decide), wr_ne (by decide)]; exact r11
  · unfold cacheOK at *; rw [wr_ne (by decide), wr_ne (by decide), ne 5 (by decide), ne 6 (by decide)]; exact r12
theorem m_ed_78 (hN : 300 ≤ N) (w : WF V) (lk : LK V) {kd : Int} (hk : 1 ≤ kd ∧ kd ≤ 5) {a g : Int} {j : Nat} (ha : 0 ≤ a ∧ a ≤ 3) (hg : 0 ≤ g ∧ g ≤ 2) (hj : (j : Int) = 3 * a + g) {x0 : Int} (R : RepM h (eV V j x0)) {s y : Int} (hs : 1 ≤ s ∧ s ≤ 20) (hy : y = 1 ∨ y = -1) (k61 : Nat → Int32 → Int32 → Int32 → Int32 → Int32 → Int32 → Mem → Option (Int32 × Mem)) (n : Nat) : ∃ h2, f_X10_edge_78 N (n + 1) 71 (iz a) (iz g) (iz kd) (iz (va V 9 j)) (iz (-100)) (iz s) (iz y) h k61 = f_X10_edge_78 N n 71 (iz a) (iz g) (iz kd) (iz (va V 9 j)) (iz (if edA V kd j (y * s) = true then y * s else -100)) (iz s) (iz (y + 2)) h2 k61 ∧ RepM h2 (eV V j (va V 9 j + y * s)) ∧ FM SX h h2 := by
  have b9 := lk (j : Int) (by omega) (by omega)
  have hys : -20 ≤ y * s ∧ y * s ≤ 20 := by rcases hy with rfl | rfl <;> omega
  have R1 := repM_like (j := j) (x := va V 9 j + y * s) R
  rw [eV_eV] at R1
  have w1 : WF (eV V j (va V 9 j + y * s)) := eV_wf w (by omega)
  have bb := breachS_bd w1 (k := kd)
  obtain ⟨h2, e2, R2, F2⟩ := m_isRest (N := N) R1 w1 hN hk (by omega)
  refine ⟨h2, ?_, R2, (FM.wr_ (by decide) (by decide)).tr (F2.mono SR_SX)⟩
  rw [f_X10_edge_78, if_neg (by rw [il1, iz_lt (by omega) (by omega) (by omega) (by omega)]; omega)]
  refine (if_pos rfl).trans ?_
  rw [kr84 R.1, il3, iz_mul, iz_mul, iz_add, iz_add, ← hj, ks84 R.1 (by omega) (by omega), toN, kmC R1.1, bq e2, show (2 : Int32) = iz 2 from rfl, iz_add]
  by_cases c : breachS (eV V j (va V 9 j + y * s)) kd = -5
  · rw [if_neg (show ¬ (edA V kd j (y * s) = true) from fun z => of_decide_eq_true z c), decide_eq_true c]
    exact if_neg (by decide)
  · rw [if_pos (show edA V kd j (y * s) = true from decide_eq_true c), decide_eq_false c]
    exact if_pos (by decide)
theorem m_ed_done {v1 v2 v3 v4 : Int32} {s y a : Int} (hs : 1 ≤ s ∧ s ≤ 20) (hy : -20 ≤ y ∧ y ≤ 100) (ha : -100 ≤ a ∧ a ≤ 100) (h1 : 1 < y ∨ a ≠ -100) (k61 : Nat → Int32 → Int32 → Int32 → Int32 → Int32 → Int32 → Mem → Option (Int32 × Mem)) (n : Nat) : f_X10_edge_78 N (n + 1) 71 v1 v2 v3 v4 (iz a) (iz s) (iz y) h k61 = k61 71 v1 v2 v3 v4 (iz a) (iz (s + 1)) h := by
  rw [f_X10_edge_78, il1, iz_add]
  by_cases c : 1 < y
  · exact if_pos (by rw [iz_lt (by omega) (by omega) (by omega) (by omega)]; exact c)
  · refine (if_neg (by rw [iz_lt (by omega) (by omega) (by omega) (by omega)]; exact c)).trans ?_
    exact if_neg (show ¬ (iz a = (-100 : Int32)) from iz_ne (b := -100) (by omega) (by omega) (by decide) (by decide) (by omega))
theorem m_ed_61 (hN : 300 ≤ N) (w : WF V) (lk : LK V) {kd : Int} (hk : 1 ≤ kd ∧ kd ≤ 5) {a g : Int} {j : Nat} (ha : 0 ≤ a ∧ a ≤ 3) (hg : 0 ≤ g ∧ g ≤ 2) (hj : (j : Int) = 3 * a + g) : ∀ (d s n : Nat) (h : Mem) (x : Int), s + d = 21 → 1 ≤ s → d + 1 < n → RepM h (eV V j x) → ∃ h' x', f_X10_edge_61 N n 71 (iz a) (iz g) (iz kd) (iz (va V 9 j)) (iz (-100)) (iz (s : Int)) h = f_X10_edge_136 N 71 (iz a) (iz g) (iz (va V 9 j)) (iz (edT V kd j d s)) h' ∧ RepM h' (eV V j x') ∧ FM SX h h' := by
  intro d
  induction d with
  | zero =>
    intro s n h x hs h1 hn R
    obtain ⟨n, rfl⟩ : ∃ k, n = k + 1 := ⟨n - 1, by omega⟩
    refine ⟨h, x, ?_, R, FM.rf⟩
    rw [f_X10_edge_61, edT]
    exact if_pos (by rw [show (20 : Int32) = iz 20 from rfl, iz_lt (by omega) (by omega) (by omega) (by omega)]; omega)
  | succ d ih =>
    intro s n h x hs h1 hn R
    obtain ⟨n, rfl⟩ : ∃ k, n = k + 1 := ⟨n - 1, by omega⟩
    obtain ⟨m, rfl⟩ : ∃ k, N = k + 3 := ⟨N - 3, by omega⟩
    have nx : ∀ (e : Int) (u : Mem), (-20 ≤ e ∧ e ≤ 20) → f_X10_edge_61 (m + 3) n 71 (iz a) (iz g) (iz kd) (iz (va V 9 j)) (iz e) (iz ((s : Int) + 1)) u = f_X10_edge_136 (m + 3) 71 (iz a) (iz g) (iz (va V 9 j)) (iz e) u := by
      intro e u he
      obtain ⟨n, rfl⟩ : ∃ k, n = k + 1 := ⟨n - 1, by omega⟩
      rw [f_X10_edge_61]
      by_cases c : (20 : Int) < (s : Int) + 1
      · exact if_pos (by rw [show (20 : Int32) = iz 20 from rfl, iz_lt (by omega) (by omega) (by omega) (by omega)]; exact c)
      · refine (if_neg (by rw [show (20 : Int32) = iz 20 from rfl, iz_lt (by omega) (by omega) (by omega) (by omega)]; exact c)).trans ?_
        exact if_neg (show ¬ (iz e = (-100 : Int32)) from iz_ne (b := -100) (by omega) (by omega) (by decide) (by decide) (by omega))
    obtain ⟨h2, e2, R2, F2⟩ := m_ed_78 hN w lk hk ha hg hj R (s := (s : Int)) (y := -1) (by omega) (Or.inr rfl) (fun v0 v1 v2 v3 v4 v5 v6 h => f_X10_edge_61 (m + 3) n v0 v1 v2 v3 v4 v5 v6 h) (m + 2)
    have pre : f_X10_edge_61 (m + 3) (n + 1) 71 (iz a) (iz g) (iz kd) (iz (va V 9 j)) (iz (-100)) (iz (s : Int)) h = f_X10_edge_78 (m + 3) (m + 3) 71 (iz a) (iz g) (iz kd) (iz (va V 9 j)) (iz (-100)) (iz (s : Int)) (iz (-1)) h (fun v0 v1 v2 v3 v4 v5 v6 h => f_X10_edge_61 (m + 3) n v0 v1 v2 v3 v4 v5 v6 h) := by
      rw [f_X10_edge_61]
      refine (if_neg (by rw [show (20 : Int32) = iz 20 from rfl, iz_lt (by omega) (by omega) (by omega) (by omega)]; omega)).trans ?_
      exact if_pos rfl
    rw [pre, e2, edT, show (-1 : Int) * (s : Int) = -(s : Int) by omega]
    by_cases c1 : edA V kd j (-(s : Int)) = true
    · rw [if_pos c1, if_pos c1, m_ed_done (by omega) (by omega) (by omega) (Or.inr (by omega)), nx _ _ (by omega)]
      exact ⟨h2, _, rfl, R2, F2⟩
    · rw [if_neg c1, if_neg c1, show (-1 : Int) + 2 = 1 by omega]
      obtain ⟨h3, e3, R3, F3⟩ := m_ed_78 hN w lk hk ha hg hj R2 (s := (s : Int)) (y := 1) (by omega) (Or.inl rfl) (fun v0 v1 v2 v3 v4 v5 v6 h => f_X10_edge_61 (m + 3) n v0 v1 v2 v3 v4 v5 v6 h) (m + 1)
      rw [e3, show (1 : Int) * (s : Int) = (s : Int) by omega]
      by_cases c2 : edA V kd j (s : Int) = true
      · rw [if_pos c2, if_pos c2, m_ed_done (by omega) (by omega) (by omega) (Or.inr (by omega)), nx _ _ (by omega)]
        exact ⟨h3, _, rfl, R3, F2.tr F3⟩
      · rw [if_neg c2, if_neg c2, m_ed_done (by omega) (by omega) (by omega) (Or.inl (by omega))]
        obtain ⟨h4, x4, e4, R4, F4⟩ := ih (s + 1) n h3 _ (by omega) (by omega) (by omega) R3
        exact ⟨h4, x4, e4, R4, (F2.tr F3).tr F4⟩
end
