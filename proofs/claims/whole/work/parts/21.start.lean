def mem0 : Mem := ([], fun _ _ => 0, fun _ _ => 0, fun _ _ => none)
def strK (i : Nat) : Nat := ((stx[i]?).map (·.1)).getD 0
def strT (i : Nat) : Term := .string "CrossroadsCarts$Reader" (strK i)
theorem ref_of {args : Array Value} {s : State} {t : Term} (h : (Cond.isRef t).before args s = true) : (∃ a, t.eval args s none [] s = some (.ref a)) ∨ t.eval args s none [] s = some .null := by
  cases hv : t.eval args s none [] s with
  | none => simp [Cond.before, Cond.holds, Cond.value, hv] at h
  | some w =>
    cases w with
    | ref a => exact Or.inl ⟨a, rfl⟩
    | null => exact Or.inr rfl
    | _ => simp [Cond.before, Cond.holds, Cond.value, hv, Value.isRef] at h
abbrev PR : Cond := Jvm.Cond.and given_1 narrow_1
def inPR (c : Cond) : Bool := decide (c ∈ flatC PR)
theorem pr_above : (∀ j : Nat, j < 6 → Cond.eq (.elem (.static "CrossroadsCarts" "ABOVE" "[I") (.int (Int32.ofNat j))) (.int (xT 0 j)) ∈ flatC PR) := by
  intro j hj
  match j, hj with
  | 0, _ => exact (by decide +kernel)
  | 1, _ => exact (by decide +kernel)
  | 2, _ => exact (by decide +kernel)
  | 3, _ => exact (by decide +kernel)
  | 4, _ => exact (by decide +kernel)
  | 5, _ => exact (by decide +kernel)
  | n + 6, h => exact absurd h (by omega)
theorem pr_bodies : (∀ j : Nat, j < 18 → Cond.eq (.elem (.static "CrossroadsCarts$Acts" "BODIES" "[I") (.int (Int32.ofNat j))) (.int (xT 1 j)) ∈ flatC PR) := by
  intro j hj
  match j, hj with
  | 0, _ => exact (by decide +kernel)
  | 1, _ => exact (by decide +kernel)
  | 2, _ => exact (by decide +kernel)
  | 3, _ => exact (by decide +kernel)
  | 4, _ => exact (by decide +kernel)
  | 5, _ => exact (by decide +kernel)
  | 6, _ => exact (by decide +kernel)
  | 7, _ => exact (by decide +kernel)
  | 8, _ => exact (by decide +kernel)
  | 9, _ => exact (by decide +kernel)
  | 10, _ => exact (by decide +kernel)
  | 11, _ => exact (by decide +kernel)
  | 12, _ => exact (by decide +kernel)
  | 13, _ => exact (by decide +kernel)
  | 14, _ => exact (by decide +kernel)
  | 15, _ => exact (by decide +kernel)
  | 16, _ => exact (by decide +kernel)
  | 17, _ => exact (by decide +kernel)
  | n + 18, h => exact absurd h (by omega)
theorem pr_ex : ∀ i : Nat, i < 5 → Cond.exactly (strT i) "java/lang/String" ∈ flatC PR := by
  intro i hi
  match i, hi with
  | 0, _ => exact (by decide +kernel)
  | 1, _ => exact (by decide +kernel)
  | 2, _ => exact (by decide +kernel)
  | 3, _ => exact (by decide +kernel)
  | 4, _ => exact (by decide +kernel)
theorem pr_co : ∀ i : Nat, i < 5 → Cond.eq (.field (strT i) "java/lang/String" "coder" "B") (.int 0) ∈ flatC PR := by
  intro i hi
  match i, hi with
  | 0, _ => exact (by decide +kernel)
  | 1, _ => exact (by decide +kernel)
  | 2, _ => exact (by decide +kernel)
  | 3, _ => exact (by decide +kernel)
  | 4, _ => exact (by decide +kernel)
theorem pr_ar : ∀ i : Nat, i < 5 → Cond.arrayOf (.field (strT i) "java/lang/String" "value" "[B") .byte ∈ flatC PR := by
  intro i hi
  match i, hi with
  | 0, _ => exact (by decide +kernel)
  | 1, _ => exact (by decide +kernel)
  | 2, _ => exact (by decide +kernel)
  | 3, _ => exact (by decide +kernel)
  | 4, _ => exact (by decide +kernel)
theorem pr_le : ∀ i : Nat, i < 5 → Cond.eq (.length (.field (strT i) "java/lang/String" "value" "[B")) (.int (Int32.ofNat (lenS.getD i 0))) ∈ flatC PR := by
  intro i hi
  match i, hi with
  | 0, _ => exact (by decide +kernel)
  | 1, _ => exact (by decide +kernel)
  | 2, _ => exact (by decide +kernel)
  | 3, _ => exact (by decide +kernel)
  | 4, _ => exact (by decide +kernel)
theorem pr_el0 : ∀ j : Nat, j < 28 → Cond.eq (.elem (.field (strT 0) "java/lang/String" "value" "[B") (.int (Int32.ofNat j))) (.int ((bytS.getD 0 []).getD j 0)) ∈ flatC PR := by
  intro j hj
  match j, hj with
  | 0, _ => exact (by decide +kernel)
  | 1, _ => exact (by decide +kernel)
  | 2, _ => exact (by decide +kernel)
  | 3, _ => exact (by decide +kernel)
  | 4, _ => exact (by decide +kernel)
  | 5, _ => exact (by decide +kernel)
  | 6, _ => exact (by decide +kernel)
  | 7, _ => exact (by decide +kernel)
  | 8, _ => exact (by decide +kernel)
  | 9, _ => exact (by decide +kernel)
  | 10, _ => exact (by decide +kernel)
  | 11, _ => exact (by decide +kernel)
  | 12, _ => exact (by decide +kernel)
  | 13, _ => exact (by decide +kernel)
  | 14, _ => exact (by decide +kernel)
  | 15, _ => exact (by decide +kernel)
  | 16, _ => exact (by decide +kernel)
  | 17, _ => exact (by decide +kernel)
  | 18, _ => exact (by decide +kernel)
  | 19, _ => exact (by decide +kernel)
  | 20, _ => exact (by decide +kernel)
  | 21, _ => exact (by decide +kernel)
  | 22, _ => exact (by decide +kernel)
  | 23, _ => exact (by decide +kernel)
  | 24, _ => exact (by decide +kernel)
  | 25, _ => exact (by decide +kernel)
  | 26, _ => exact (by decide +kernel)
  | 27, _ => exact (by decide +kernel)
  | n + 28, h => exact absurd h (by omega)
theorem pr_el1 : ∀ j : Nat, j < 3 → Cond.eq (.elem (.field (strT 1) "java/lang/String" "value" "[B") (.int (Int32.ofNat j))) (.int ((bytS.getD 1 []).getD j 0)) ∈ flatC PR := by
  intro j hj
  match j, hj with
  | 0, _ => exact (by decide +kernel)
  | 1, _ => exact (by decide +kernel)
  | 2, _ => exact (by decide +kernel)
  | n + 3, h => exact absurd h (by omega)
theorem pr_el2 : ∀ j : Nat, j < 3 → Cond.eq (.elem (.field (strT 2) "java/lang/String" "value" "[B") (.int (Int32.ofNat j))) (.int ((bytS.getD 2 []).getD j 0)) ∈ flatC PR := by
  intro j hj
  match j, hj with
  | 0, _ => exact (by decide +kernel)
  | 1, _ => exact (by decide +kernel)
  | 2, _ => exact (by decide +kernel)
  | n + 3, h => exact absurd h (by omega)
theorem pr_el3 : ∀ j : Nat, j < 4 → Cond.eq (.elem (.field (strT 3) "java/lang/String" "value" "[B") (.int (Int32.ofNat j))) (.int ((bytS.getD 3 []).getD j 0)) ∈ flatC PR := by
  intro j hj
  match j, hj with
  | 0, _ => exact (by decide +kernel)
  | 1, _ => exact (by decide +kernel)
  | 2, _ => exact (by decide +kernel)
  | 3, _ => exact (by decide +kernel)
  | n + 4, h => exact absurd h (by omega)
theorem pr_el4 : ∀ j : Nat, j < 3 → Cond.eq (.elem (.field (strT 4) "java/lang/String" "value" "[B") (.int (Int32.ofNat j))) (.int ((bytS.getD 4 []).getD j 0)) ∈ flatC PR := by
  intro j hj
  match j, hj with
  | 0, _ => exact (by decide +kernel)
  | 1, _ => exact (by decide +kernel)
  | 2, _ => exact (by decide +kernel)
  | n + 3, h => exact absurd h (by omega)
theorem pr_el : ∀ i : Nat, i < 5 → ∀ j : Nat, j < lenS.getD i 0 → Cond.eq (.elem (.field (strT i) "java/lang/String" "value" "[B") (.int (Int32.ofNat j))) (.int ((bytS.getD i []).getD j 0)) ∈ flatC PR := by
  intro i hi
  match i, hi with
  | 0, _ => exact pr_el0
  | 1, _ => exact pr_el1
  | 2, _ => exact pr_el2
  | 3, _ => exact pr_el3
  | 4, _ => exact pr_el4
theorem pr_ne : ∀ i : Nat, i < 5 → ∀ j : Nat, j < 5 → i ≠ j → Cond.not (Cond.eq (strT i) (strT j)) ∈ flatC PR ∨ Cond.not (Cond.eq (strT j) (strT i)) ∈ flatC PR := by
  intro i hi j hj hij
  match i, hi, j, hj with
  | 0, _, 0, _ => exact absurd rfl hij
  | 0, _, 1, _ => exact Or.inl (by decide +kernel)
  | 0, _, 2, _ => exact Or.inl (by decide +kernel)
  | 0, _, 3, _ => exact Or.inl (by decide +kernel)
  | 0, _, 4, _ => exact Or.inl (by decide +kernel)
  | 1, _, 0, _ => exact Or.inr (by decide +kernel)
  | 1, _, 1, _ => exact absurd rfl hij
  | 1, _, 2, _ => exact Or.inl (by decide +kernel)
  | 1, _, 3, _ => exact Or.inl (by decide +kernel)
  | 1, _, 4, _ => exact Or.inl (by decide +kernel)
  | 2, _, 0, _ => exact Or.inr (by decide +kernel)
  | 2, _, 1, _ => exact Or.inr (by decide +kernel)
  | 2, _, 2, _ => exact absurd rfl hij
  | 2, _, 3, _ => exact Or.inl (by decide +kernel)
  | 2, _, 4, _ => exact Or.inl (by decide +kernel)
  | 3, _, 0, _ => exact Or.inr (by decide +kernel)
  | 3, _, 1, _ => exact Or.inr (by decide +kernel)
  | 3, _, 2, _ => exact Or.inr (by decide +kernel)
  | 3, _, 3, _ => exact absurd rfl hij
  | 3, _, 4, _ => exact Or.inl (by decide +kernel)
  | 4, _, 0, _ => exact Or.inr (by decide +kernel)
  | 4, _, 1, _ => exact Or.inr (by decide +kernel)
  | 4, _, 2, _ => exact Or.inr (by decide +kernel)
  | 4, _, 3, _ => exact Or.inr (by decide +kernel)
  | 4, _, 4, _ => exact absurd rfl hij
set_option maxRecDepth 100000 in
set_option maxHeartbeats 4000000 in
theorem ex_start {s : State} {args : Array Value} (hts : ∀ w ∈ lw_tbl, w.before args s = true) (hgv : PR.before args s = true) : ∃ G : Gx, gB G = s.heap.size ∧ EX G s := by
  have hs := flat_of_before _ hgv
  have hA : ∀ a : Nat, a < s.heap.size → ¬ (s.heap.size ≤ a) := fun a h => Nat.not_le.mpr h
  obtain ⟨c0, i0, hk0⟩ := u_known (C := RX0) (T := TX0) (N := 5) (n := 5) hts (fun w h => tb_sub w (um_X0 w h)) (hts (.instantiable RX0 5) (lw_t1 (i := 208) rfl))
  obtain ⟨c1, i1, hk1⟩ := u_known (C := RX1) (T := TX1) (N := 13) (n := 13) hts (fun w h => tb_sub w (um_X1 w h)) (hts (.instantiable RX1 13) (lw_t1 (i := 30) rfl))
  obtain ⟨c2, i2, hk2⟩ := u_known (C := RX2) (T := TX2) (N := 2) (n := 2) hts (fun w h => tb_sub w (um_X2 w h)) (hts (.instantiable RX2 2) (lw_t1 (i := 195) rfl))
  obtain ⟨c3, i3, hk3⟩ := u_known (C := RX3) (T := TX3) (N := 8) (n := 8) hts (fun w h => tb_sub w (um_X3 w h)) (hts (.instantiable RX3 8) (lw_t1 (i := 32) rfl))
  obtain ⟨c4, i4, hk4⟩ := u_known (C := RX4) (T := TX4) (N := 4) (n := 4) hts (fun w h => tb_sub w (um_X4 w h)) (hts (.instantiable RX4 4) (lw_t4 (i := 87) rfl))
  obtain ⟨c5, i5, hk5⟩ := u_known (C := RX5) (T := TX5) (N := 3) (n := 3) hts (fun w h => tb_sub w (um_X5 w h)) (hts (.instantiable RX5 3) (lw_t1 (i := 150) rfl))
  obtain ⟨c6, i6, hk6⟩ := u_known (C := RX6) (T := TX6) (N := 3) (n := 3) hts (fun w h => tb_sub w (um_X6 w h)) (hts (.instantiable RX6 3) (lw_t1 (i := 168) rfl))
  obtain ⟨c7, i7, hk7⟩ := u_known (C := RX7) (T := TX7) (N := 3) (n := 3) hts (fun w h => tb_sub w (um_X7 w h)) (hts (.instantiable RX7 3) (lw_t1 (i := 235) rfl))
  obtain ⟨c8, i8, hk8⟩ := u_known (C := RX8) (T := TX8) (N := 1) (n := 1) hts (fun w h => tb_sub w (um_X8 w h)) (hts (.instantiable RX8 1) (lw_t1 (i := 184) rfl))
  obtain ⟨c9, i9, hk9⟩ := u_known (C := RX9) (T := TX9) (N := 14) (n := 14) hts (fun w h => tb_sub w (um_X9 w h)) (hts (.instantiable RX9 14) (lw_t1 (i := 22) rfl))
  obtain ⟨c10, i10, hk10⟩ := u_known (C := RX10) (T := TX10) (N := 61) (n := 61) hts (fun w h => tb_sub w (um_X10 w h)) (hts (.instantiable RX10 61) (lw_t4 (i := 225) rfl))
  obtain ⟨dC, dI, hKc⟩ : ∃ (dC : Nat → ClassId) (dI : Nat → Nat → Nat), ∀ (k : Nat) (q : vw_C), vwCl[k]? = some q → u_Kn s q.1 q.2.1 q.2.2 (dC k) (dI k) := by
    refine ⟨fun k => if k = 0 then c0 else if k = 1 then c1 else if k = 2 then c2 else if k = 3 then c3 else if k = 4 then c4 else if k = 5 then c5 else if k = 6 then c6 else if k = 7 then c7 else if k = 8 then c8 else if k = 9 then c9 else c10, fun k => if k = 0 then i0 else if k = 1 then i1 else if k = 2 then i2 else if k = 3 then i3 else if k = 4 then i4 else if k = 5 then i5 else if k = 6 then i6 else if k = 7 then i7 else if k = 8 then i8 else if k = 9 then i9 else i10, ?_⟩
    intro k q hq
    match k, hq with
    | 0, hq => cases hq; exact hk0
    | 1, hq => cases hq; exact hk1
    | 2, hq => cases hq; exact hk2
    | 3, hq => cases hq; exact hk3
    | 4, hq => cases hq; exact hk4
    | 5, hq => cases hq; exact hk5
    | 6, hq => cases hq; exact hk6
    | 7, hq => cases hq; exact hk7
    | 8, hq => cases hq; exact hk8
    | 9, hq => cases hq; exact hk9
    | 10, hq => cases hq; exact hk10
    | k + 11, hq => simp [vwCl] at hq
  obtain ⟨a0, b0, d0, e0, f0, g0⟩ := Cond.arrayClass_spec (hts (.arrayClass .int) (lw_t1 (i := 75) rfl))
  obtain ⟨a1, b1, d1, e1, f1, g1⟩ := Cond.arrayClass_spec (hts (.arrayClass .char) (lw_t1 (i := 166) rfl))
  obtain ⟨a2, b2, d2, e2, f2, g2⟩ := Cond.arrayClass_spec (hts (.arrayClass .boolean) (lw_t5 (i := 174) rfl))
  obtain ⟨a3, b3, d3, e3, f3, g3⟩ := Cond.arrayClass_spec (hts (.arrayClass .long) (lw_t1 (i := 193) rfl))
  have ho4 : (Cond.arrayOver (.object "CrossroadsCarts$Law")).before args s = true := hts _ (lw_t1 (i := 232) rfl)
  obtain ⟨d4, a4, b4, z4, y4, f4, g4, e4⟩ := Cond.arrayOver_spec ho4
  have ho5 : (Cond.arrayOver (.object "CrossroadsCarts$Tape")).before args s = true := hts _ (lw_t1 (i := 234) rfl)
  obtain ⟨d5, a5, b5, z5, y5, f5, g5, e5⟩ := Cond.arrayOver_spec ho5
  obtain ⟨t0, u0, w0⟩ := va_Tof (s := s) (args := args) (tm := .static "CrossroadsCarts" "ABOVE" "[I") (ty := .int) (N := 6) (f := fun j => .int (xT 0 j)) (A := fun q => s.heap.size ≤ q) (by decide) (hs _ (by decide +kernel)) (va_eqt (hs _ (by decide +kernel))) (fun j hj => va_eqt (hs _ (pr_above j hj))) hA
  obtain ⟨t1, u1, w1⟩ := va_Tof (s := s) (args := args) (tm := .static "CrossroadsCarts$Acts" "BODIES" "[I") (ty := .int) (N := 18) (f := fun j => .int (xT 1 j)) (A := fun q => s.heap.size ≤ q) (by decide) (hs _ (by decide +kernel)) (va_eqt (hs _ (by decide +kernel))) (fun j hj => va_eqt (hs _ (pr_bodies j hj))) hA
  have z0 := va_Zof (A := fun q => s.heap.size ≤ q) (hts (.laysStatic "CrossroadsCarts" "ABOVE" "[I") (lw_t3 (i := 157) rfl)) (hts (.initialized "CrossroadsCarts") (lw_t1 (i := 1) rfl)) u0 hA
  have z1 := va_Zof (A := fun q => s.heap.size ≤ q) (hts (.laysStatic "CrossroadsCarts$Acts" "BODIES" "[I") (lw_t4 (i := 173) rfl)) (hts (.initialized "CrossroadsCarts$Acts") (lw_t1 (i := 8) rfl)) u1 hA
  have z2 := va_Zof (A := fun q => s.heap.size ≤ q) (hts (.laysStatic "java/lang/String" "COMPACT_STRINGS" "Z") (lw_t2 (i := 187) rfl)) (hts (.initialized "java/lang/String") (lw_t1 (i := 13) rfl)) (va_eqi (hs (Cond.eq (.static "java/lang/String" "COMPACT_STRINGS" "Z") (.int 1)) (by decide +kernel))) hA
  have z3 : va_Zq "jdk/internal/util/Preconditions" "SIOOBE_FORMATTER" "Ljava/util/function/BiFunction;" (fun q => s.heap.size ≤ q) s s.heap := by
    rcases ref_of (hs (Cond.isRef (.static "jdk/internal/util/Preconditions" "SIOOBE_FORMATTER" "Ljava/util/function/BiFunction;")) (by decide +kernel)) with ⟨a, ha⟩ | ha
    · exact Or.inr ⟨a, va_Zof (hts (.laysStatic "jdk/internal/util/Preconditions" "SIOOBE_FORMATTER" "Ljava/util/function/BiFunction;") (lw_t2 (i := 203) rfl)) (hts (.initialized "jdk/internal/util/Preconditions") (lw_t1 (i := 15) rfl)) ha hA⟩
    · exact Or.inl (va_Zof (hts (.laysStatic "jdk/internal/util/Preconditions" "SIOOBE_FORMATTER" "Ljava/util/function/BiFunction;") (lw_t2 (i := 203) rfl)) (hts (.initialized "jdk/internal/util/Preconditions") (lw_t1 (i := 15) rfl)) ha hA)
  obtain ⟨adK, adV, hS, hSt⟩ := vk_Sof (s := s) (args := args) (N := 5) (tm := strT) (len := lenS) (byt := bytS) (A := fun q => s.heap.size ≤ q) (by decide) (fun i hi => hs _ (pr_ex i hi)) (fun i hi => hs _ (pr_co i hi)) (fun i hi => hs _ (pr_ar i hi)) (fun i hi => hs _ (pr_le i hi)) (fun i hi j hj => hs _ (pr_el i hi j hj)) (fun i j hi hj hij => (pr_ne i hi j hj hij).elim (fun h => Or.inl (hs _ h)) (fun h => Or.inr (hs _ h))) hA
  refine ⟨(s.heap.size, (dC, dI), (fun t => if t = 0 then a0 else if t = 1 then a1 else if t = 2 then a2 else if t = 3 then a3 else if t = 4 then a4 else a5), (fun t => if t = 0 then t0 else t1), adK, adV), rfl, ?_⟩
  refine ⟨⟨hKc, ?_⟩, Nat.le_refl _, z0, w0, z1, w1, z2, z3, hS, ?_, va_AO.of ho4, va_AO.of ho5, ?_, ?_⟩
  · intro k q hq
    match k, hq with
    | 0, hq => cases hq; exact ⟨fun n z => ⟨fun k h => (by cases h), b0, f0, d0, g0⟩, e0⟩
    | 1, hq => cases hq; exact ⟨fun n z => ⟨fun k h => (by cases h), b1, f1, d1, g1⟩, e1⟩
    | 2, hq => cases hq; exact ⟨fun n z => ⟨fun k h => (by cases h), b2, f2, d2, g2⟩, e2⟩
    | 3, hq => cases hq; exact ⟨fun n z => ⟨fun k h => (by cases h), b3, f3, d3, g3⟩, e3⟩
    | 4, hq => cases hq; exact ⟨fun n z => ⟨fun k h => (by cases h), b4, f4, d4, g4⟩, b4, d4, f4, g4, z4, e4⟩
    | 5, hq => cases hq; exact ⟨fun n z => ⟨fun k h => (by cases h), b5, f5, d5, g5⟩, b5, d5, f5, g5, z5, e5⟩
    | k + 6, hq => simp [tysO] at hq
  · intro i q hq
    match i, hq with
    | 0, hq => cases hq; exact vk_R.of (hts (.stringRef "CrossroadsCarts$Reader" 84 "likenearcostmileduespickshun") (lw_t2 (i := 177) rfl)) (hSt 0 (by decide))
    | 1, hq => cases hq; exact vk_R.of (hts (.stringRef "CrossroadsCarts$Reader" 63 "hie") (lw_t3 (i := 6) rfl)) (hSt 1 (by decide))
    | 2, hq => cases hq; exact vk_R.of (hts (.stringRef "CrossroadsCarts$Reader" 72 "mdo") (lw_t3 (i := 70) rfl)) (hSt 2 (by decide))
    | 3, hq => cases hq; exact vk_R.of (hts (.stringRef "CrossroadsCarts$Reader" 108 "sitf") (lw_t3 (i := 87) rfl)) (hSt 3 (by decide))
    | 4, hq => cases hq; exact vk_R.of (hts (.stringRef "CrossroadsCarts$Reader" 110 "<=>") (lw_t3 (i := 88) rfl)) (hSt 4 (by decide))
    | i + 5, hq => simp [stx] at hq
  · exact List.forall_mem_cons.mpr ⟨va_Nw.of rfl (hts _ (lw_t1 (i := 33) rfl)), List.forall_mem_cons.mpr ⟨va_Nw.of rfl (hts _ (lw_t1 (i := 151) rfl)), List.forall_mem_cons.mpr ⟨va_Nw.of rfl (hts _ (lw_t1 (i := 169) rfl)), List.forall_mem_cons.mpr ⟨va_Nw.of rfl (hts _ (lw_t1 (i := 185) rfl)), List.forall_mem_cons.mpr ⟨va_Nw.of rfl (hts _ (lw_t1 (i := 196) rfl)), List.forall_mem_cons.mpr ⟨va_Nw.of rfl (hts _ (lw_t1 (i := 209) rfl)), List.forall_mem_cons.mpr ⟨va_Nw.of rfl (hts _ (lw_t1 (i := 236) rfl)), fun _ h => absurd h List.not_mem_nil⟩⟩⟩⟩⟩⟩⟩
  · exact List.forall_mem_cons.mpr ⟨va_Nw.of rfl (hts _ (lw_t3 (i := 156) rfl)), List.forall_mem_cons.mpr ⟨va_Nw.of rfl (hts _ (lw_t4 (i := 174) rfl)), fun _ h => absurd h List.not_mem_nil⟩⟩
/-- what is left to show: the functions alone, on every script -/
def PURE : Prop := ∀ (L : Nat) (xs : Nat → Int32), L ≤ 3072 → ∃ N, f_L_law xs L N mem0 = some ()
theorem start_of (hp : PURE) {p : Program} {e : Env} {s : State} {m : MethodId} {below : List Frame} {meth : Method} {c : Code} (l : Launch) (hflags : l.flags = flags0) {b L : Nat} {xs : Nat → Int32} (hL : L ≤ 3072) (C0 : lw_At p s m meth c b L xs) : W p l e room_1 s m #[Value.ref b] below meth c s.heap [] 0 0 (lw_Z below #[Value.ref b] s) (entryFrame m ([Value.ref b] : List Value).toArray 4) := by
  obtain ⟨hx, hb, hr, hml, hown, hts, hX, hbl, hlocks, hgv⟩ := C0
  obtain ⟨G, hG, hE⟩ := ex_start hts hgv
  obtain ⟨N, hN⟩ := hp L xs hL
  rw [lg_entry_eq]
  refine w_L_law (G := G) (xs := xs) (L := L) ⟨hx, hb, hml, hown, fun w h => hts w (tb_sub w h), hE⟩ hX ⟨by rw [hG]; exact hbl, Nat.le_of_eq hG, Nat.le_of_eq hG.symm, hbl⟩ hr hlocks N mem0 hN _ ⟨⟨fun k q h => by simp [wsO, mem0] at h, by simp [mem0, hG]⟩, va_S.rf, by simp [mem0, hG]⟩ ?_
  exact lv_entry ([.ref b]) (n := 4) (Nat.le_of_ble_eq_true rfl)
