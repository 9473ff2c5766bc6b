/-- the view under a new land -/
def shT (T : List Int) : Int → Int → Int → Int → Int := fun s i t n => if (0 ≤ s ∧ s ≤ 3) ∧ (0 ≤ i ∧ i ≤ 99) ∧ (0 ≤ t ∧ t ≤ 3) ∧ (0 ≤ n ∧ n ≤ 8) then (match run s i t n T (0, 0) with | some q => q.1 | none => 0) else 0
def vland (V : Vw) (D : Dv) (T : List Int) : Vw := (vT V, vF V, (fun k => if 9 ≤ k then D k else va V k), shT T)
section
variable {h : Mem} {V : Vw} {p pd b N L : Nat} {x : Nat → Int} {D : Dv} {T : List Int}
theorem shT_run (hr : ∀ s i t n : Int, ib s → ib i → ib t → ib n → ∃ sm : Int, run s i t n T (0, 0) = some (sm, 0) ∧ 0 ≤ sm ∧ sm ≤ 9990) {s i t n : Int} (a1 : 0 ≤ s) (a2 : s ≤ 3) (b1 : 0 ≤ i) (b2 : i ≤ 99) (c1 : 0 ≤ t) (c2 : t ≤ 3) (d1 : 0 ≤ n) (d2 : n ≤ 8) : ∃ g, run s i t n T (0, 0) = some (shT T s i t n, g) := by
  obtain ⟨sm, e, _, _⟩ := hr s i t n ⟨by omega, by omega⟩ ⟨by omega, by omega⟩ ⟨by omega, by omega⟩ ⟨by omega, by omega⟩
  refine ⟨0, ?_⟩
  unfold shT
  rw [if_pos ⟨⟨a1, a2⟩, ⟨b1, b2⟩, ⟨c1, c2⟩, ⟨d1, d2⟩⟩, e]
theorem shT_bd (hr : ∀ s i t n : Int, ib s → ib i → ib t → ib n → ∃ sm : Int, run s i t n T (0, 0) = some (sm, 0) ∧ 0 ≤ sm ∧ sm ≤ 9990) (s i t n : Int) : 0 ≤ shT T s i t n ∧ shT T s i t n ≤ 10000 := by
  unfold shT
  split
  · obtain ⟨sm, e, z1, z2⟩ := hr s i t n ⟨by omega, by omega⟩ ⟨by omega, by omega⟩ ⟨by omega, by omega⟩ ⟨by omega, by omega⟩
    rw [e]
    show 0 ≤ sm ∧ sm ≤ 10000
    omega
  · omega
theorem vland_lo {k : Nat} (hk : k < 9) : va (vland V D T) k = va V k := by
  show (if 9 ≤ k then D k else va V k) = _
  rw [if_neg (by omega)]
theorem vland_hi {k : Nat} (hk : 9 ≤ k) : va (vland V D T) k = D k := by
  show (if 9 ≤ k then D k else va V k) = _
  rw [if_pos hk]
theorem wf_land (w : WF V) (d : DB D) (hs : ∀ s i t n, 0 ≤ shT T s i t n ∧ shT T s i t n ≤ 10000) : WF (vland V D T) := by
  obtain ⟨w1, w2, w3, w4, w5, w6, w7, w8, w9, w10, w11, w12⟩ := w
  refine ⟨w1, w2, fun j a c => ?_, fun j a c => ?_, fun j a c => ?_, fun j a c => ?_, fun j a c => ?_, ?_, ?_, ?_, fun j a c => ?_, hs⟩
  · rw [vland_lo (by decide), vland_lo (by decide), vland_lo (by decide), vland_lo (by decide)]; exact w3 j a c
  · rw [vland_lo (by decide), vland_hi (by decide)]
    have := d.1 9 (Or.inl rfl) j
    exact ⟨(w4 j a c).1, by omega⟩
  · rw [vland_lo (by decide), vland_lo (by decide), vland_lo (by decide), vland_lo (by decide)]; exact w5 j a c
  · rw [vland_hi (by decide)]; exact d.1 10 (Or.inr (Or.inl rfl)) j
  · rw [vland_hi (by decide)]; exact d.1 11 (Or.inr (Or.inr rfl)) j
  · rw [vland_hi (by decide)]; exact d.2.1
  · rw [vland_hi (by decide)]; exact d.2.2.1
  · rw [vland_hi (by decide)]; exact d.2.2.2
  · rw [vland_lo (by decide), vland_lo (by decide)]; exact w11 j a c
/-- the class's land: what it answers and leaves -/
def CLND (h h1 : Mem) (p pd la : Nat) (f : Int) : Prop := h1.1 = h.1 ∧ h1.2.2.1 = h.2.2.1 ∧ (∀ i, i ≠ 0 → i ≠ 44 → (i < pd ∨ pd + 4 < i) → h1.2.1 i = h.2.1 i) ∧ h1.2.1 44 1 = iz 0 ∧ (∀ j, j ≠ 12 → h1.2.1 0 j = h.2.1 0 j) ∧ h1.2.1 0 12 = (if f = -1 then iz ((la : Int) + 1) else iz (la : Int)) ∧ (∀ i k, (i ≠ 1 ∨ k ≠ 0) → (i ≠ 0 ∨ k ≠ 3) → h1.2.2.2 i k = h.2.2.2 i k) ∧ h1.2.2.2 1 0 = some (if f = -1 then pd else p) ∧ h1.2.2.2 0 3 = some (if f = -1 then p else pd)
/-- what a land's cells hold -/
def LDT (h : Mem) (p : Nat) (D : Dv) (T : List Int) : Prop := EL h p T ∧ (h.2.2.2 p 0 = some (p + 1) ∧ h.1[p + 1]? = some (100, 12)) ∧ (h.2.2.2 p 1 = some (p + 2) ∧ h.1[p + 2]? = some (100, 16)) ∧ (h.2.2.2 p 2 = some (p + 3) ∧ h.1[p + 3]? = some (100, 3)) ∧ (∀ j : Nat, j < 12 → h.2.1 (p + 1) j = iz (D 9 j)) ∧ (∀ j : Nat, j < 16 → h.2.1 (p + 2) j = iz (D 10 j)) ∧ (∀ j : Nat, j < 3 → h.2.1 (p + 3) j = iz (D 11 j)) ∧ h.2.1 p 3 = iz (D 12 0) ∧ h.2.1 p 4 = iz (D 12 1) ∧ h.2.1 p 5 = iz (D 12 2)
theorem LDT.eq_ {h h' : Mem} (l : LDT h pd D T) (hp : pd = 2 ∨ pd = 39) (e1 : h'.1 = h.1) (e2 : ∀ k, h'.2.2.2 pd k = h.2.2.2 pd k) (e3 : ∀ i, pd ≤ i → i ≤ pd + 4 → h'.2.1 i = h.2.1 i) : LDT h' pd D T := by
  unfold LDT EL at *
  rw [e1, e2, e2, e2, e2, e3 pd (by omega) (by omega), e3 (pd + 1) (by omega) (by omega), e3 (pd + 2) (by omega) (by omega), e3 (pd + 3) (by omega) (by omega), e3 (pd + 4) (by omega) (by omega)]
  exact l
theorem l_land (hN : 300 ≤ N) (r : REL h V p pd b) (t0 : RD0 h x L) {la : Nat} (hla : h.2.1 0 12 = iz (la : Int)) : ∃ h1, f_X9_land N 0 h = some (if (faultS x L).1 = -1 then iz ((la : Int) + 1) else iz (-10) - iz (faultS x L).1, h1) ∧ CLND h h1 p pd la (faultS x L).1 ∧ LDT h1 pd (faultS x L).2.1 (faultS x L).2.2 := by
  have S := r.2.2.2.2.2.2.2.1
  have R := r.2.1
  have e03 := r.2.2.2.2.2.1
  have ff := fault_facts (L := L) t0.2.2.2.2.2.2
  have hL := t0.2.2.2.2.2.1
  obtain ⟨h1, e1, ⟨P, c1⟩, F⟩ := l_faultIn (N := N) r.pd (by omega) r.2.2.2.2.2.2.1 t0
  obtain ⟨f1, f2, f3, f4⟩ := F
  have ldt : LDT h1 pd (faultS x L).2.1 (faultS x L).2.2 := c1.2
  have q0 : h1.1[0]? = some (9, 0) := by rw [f1]; exact S.1
  have q44 : h1.1[44]? = some (5, 0) := by rw [f1]; exact t0.1
  have q1 : h1.1[1]? = some (1, 0) := by rw [f1]; exact R.1.1
  have S1 : X9S h1 := ⟨q0, by rw [f2]; exact S.2⟩
  have hpd := r.pd
  have v12 : h1.2.1 0 12 = iz (la : Int) := by rw [f3 0 (by decide) (by omega)]; exact hla
  have w10 : h1.2.2.2 1 0 = some p := by rw [f2]; exact R.2.2.2.2.1
  have w03 : h1.2.2.2 0 3 = some pd := by rw [f2]; exact e03
  generalize hh : ((h1.1, u2 h1.2.1 44 1 (iz 0), h1.2.2.1, h1.2.2.2) : Mem) = h2
  have g1 : h2.1 = h1.1 := by rw [← hh]
  have g2 : h2.2.2 = h1.2.2 := by rw [← hh]
  have g3 : ∀ i, i ≠ 44 → h2.2.1 i = h1.2.1 i := fun i hi => by rw [← hh]; exact u2_ne hi
  have g4 : h2.2.1 44 1 = iz 0 := by
    rw [← hh]
    show u2 h1.2.1 44 1 (iz 0) 44 1 = _
    rw [u2_at, if_pos rfl]
  have pre : f_X9_land N 0 h = (if iz (faultS x L).1 = (-1 : Int32) then (gR h2 0 9 0).bind fun t14 => (gR h2 t14 1 0).bind fun t16 => (gR h2 0 9 0).bind fun t18 => (gR h2 0 9 3).bind fun t20 => (sR h2 t18 1 0 t20).bind fun h22 => (sR h22 0 9 3 t16).bind fun h24 => (gI h24 0 9 12).bind fun t26 => (sI h24 0 9 12 (t26 + (1 : Int32))).bind fun h28 => some ((t26 + (1 : Int32)), h28) else some (((-10 : Int32) - iz (faultS x L).1), h2)) := by
    unfold f_X9_land
    rw [kn4 S, bo (gR_q S.1 e03), bo (ck_q t0.1), bq e1, kn4 S1, sI_c q44, show (0 : Int32) = iz 0 from rfl, hh]
  rw [pre]
  by_cases hf : (faultS x L).1 = -1
  · rw [if_pos hf, hf]
    refine ⟨(h2.1, u2 h2.2.1 0 12 (iz ((la : Int) + 1)), h2.2.2.1, u2 (u2 h2.2.2.2 1 0 (some pd)) 0 3 (some p)), ?_, ⟨g1.trans f1, ?_, fun i a c d => ?_, ?_, fun j hj => ?_, ?_, fun i k a c => ?_, ?_, ?_⟩, ldt.eq_ hpd g1 (fun k => ?_) (fun i a c => ?_)⟩
    · refine (if_pos rfl).trans ?_
      have p0 : h2.1[0]? = some (9, 0) := by rw [g1]; exact q0
      have p1 : h2.1[1]? = some (1, 0) := by rw [g1]; exact q1
      have S2 : X9S h2 := ⟨p0, by rw [g2]; exact S1.2⟩
      rw [kn0 S2, bo (gR_q p1 (by rw [g2]; exact w10)), kn0 S2, bo (gR_q p0 (by rw [g2]; exact w03)), bo (sR_q p1), bo (sR_q (h := ((h2.1, h2.2.1, h2.2.2.1, u2 h2.2.2.2 1 0 (some pd)) : Mem)) p0)]
      rw [bo (gI_q (h := ((h2.1, h2.2.1, h2.2.2.1, u2 (u2 h2.2.2.2 1 0 (some pd)) 0 3 (some p)) : Mem)) p0), sI_c (h := ((h2.1, h2.2.1, h2.2.2.1, u2 (u2 h2.2.2.2 1 0 (some pd)) 0 3 (some p)) : Mem)) p0]
      show some (h2.2.1 0 12 + 1, _) = _
      rw [g3 0 (by decide), v12, il1, iz_add]
    · show h2.2.2.1 = _
      rw [g2, f2]
    · show u2 h2.2.1 0 12 (iz ((la : Int) + 1)) i = _
      rw [u2_ne a, g3 i c, f3 i c d]
    · show u2 h2.2.1 0 12 (iz ((la : Int) + 1)) 44 1 = _
      rw [u2_ne (by decide)]; exact g4
    · show u2 h2.2.1 0 12 (iz ((la : Int) + 1)) 0 j = _
      rw [u2_at, if_neg hj, g3 0 (by decide), f3 0 (by decide) (by omega)]
    · show u2 h2.2.1 0 12 (iz ((la : Int) + 1)) 0 12 = _
      rw [u2_at, if_pos rfl, if_pos rfl]
    · show u2 (u2 h2.2.2.2 1 0 (some pd)) 0 3 (some p) i k = _
      have e : h2.2.2.2 i k = h.2.2.2 i k := by rw [g2, f2]
      by_cases z : i = 0
      · subst z
        rw [u2_at, if_neg (by omega), u2_ne (by decide), e]
      · rw [u2_ne z]
        by_cases z1 : i = 1
        · subst z1
          rw [u2_at, if_neg (by omega), e]
        · rw [u2_ne z1, e]
    · show u2 (u2 h2.2.2.2 1 0 (some pd)) 0 3 (some p) 1 0 = _
      rw [u2_ne (by decide), u2_at, if_pos rfl, if_pos rfl]
    · show u2 (u2 h2.2.2.2 1 0 (some pd)) 0 3 (some p) 0 3 = _
      rw [u2_at, if_pos rfl, if_pos rfl]
    · show u2 (u2 h2.2.2.2 1 0 (some pd)) 0 3 (some p) pd k = _
      rw [u2_ne (by omega), u2_ne (by omega), g2]
    · show u2 h2.2.1 0 12 (iz ((la : Int) + 1)) i = _
      rw [u2_ne (by omega), g3 i (by omega)]
  · rw [if_neg hf]
    refine ⟨h2, (if_neg ?_).trans rfl, ⟨g1.trans f1, by rw [g2, f2], fun i a c d => by rw [g3 i c, f3 i c d], g4, fun j hj => by rw [g3 0 (by decide), f3 0 (by decide) (by omega)], ?_, fun i k a c => by rw [g2, f2], ?_, ?_⟩, ldt.eq_ hpd g1 (fun k => by rw [g2]) (fun i a c => g3 i (by omega))⟩
    · exact iz_ne (by omega) (by omega) (by decide) (by decide) hf
    · rw [if_neg hf, g3 0 (by decide), v12]
    · rw [if_neg hf, g2]; exact w10
    · rw [if_neg hf, g2]; exact w03
end
