/-! what the model's reader is told, clause by clause -/
def sgC : List Nat := [88, 89, 90, 91, 92]
def sgCF : List Nat := [19, 20, 21, 32, 33, 34, 38, 39, 40]
def FC (h h' : Mem) : Prop := h'.1 = h.1 ∧ h'.2.2 = h.2.2 ∧ (∀ i, i ≠ 71 → i ∉ sgC → h'.2.1 i = h.2.1 i) ∧ ∀ j, j ∉ sgCF → h'.2.1 71 j = h.2.1 71 j
theorem FC.rf {h : Mem} : FC h h := ⟨rfl, rfl, fun _ _ _ => rfl, fun _ _ => rfl⟩
theorem FC.tr {h h1 h2 : Mem} (a : FC h h1) (b : FC h1 h2) : FC h h2 := ⟨b.1.trans a.1, b.2.1.trans a.2.1, fun i q1 q2 => (b.2.2.1 i q1 q2).trans (a.2.2.1 i q1 q2), fun j q => (b.2.2.2 j q).trans (a.2.2.2 j q)⟩
theorem SG_sgC : ∀ i, i ∈ SG → i ∈ sgC := by decide
theorem sgF_sgCF : ∀ i, i ∈ sgF → i ∈ sgCF := by decide
theorem PR0.fc {h h' : Mem} (a : PR0 h h') : FC h h' := ⟨a.1, a.2.1, fun i q1 q2 => a.2.2.1 i q1 (fun z => q2 (SG_sgC i z)), fun j q => a.2.2.2 j (fun z => q (sgF_sgCF j z))⟩
theorem FC.wr_ {h : Mem} {a : Nat} {row : Nat → Int32} (ha : a ∈ sgC) : FC h (wr h a row) := ⟨rfl, rfl, fun i _ q2 => wr_ne (by rintro rfl; exact q2 ha), fun j _ => by rw [wr_ne (by rintro rfl; exact absurd ha (by decide))]⟩
theorem FC.fd_ {h : Mem} {j : Nat} {v : Int32} (hj : j ∈ sgCF) : FC h (fd h j v) := ⟨rfl, rfl, fun i q1 _ => fd_ne q1, fun i hi => by rw [fd_at, if_neg (by rintro rfl; exact hi hj)]⟩
def TO (s i t n : Int) (h : Mem) (D : Dv) (T : List Int) (sm : Int) : Prop := (∀ j : Nat, j < 12 → h.2.1 90 j = iz (D 9 j)) ∧ (∀ j : Nat, j < 16 → h.2.1 91 j = iz (D 10 j)) ∧ (∀ j : Nat, j < 3 → h.2.1 92 j = iz (D 11 j)) ∧ h.2.1 71 38 = iz (D 12 0) ∧ h.2.1 71 39 = iz (duC (D 12 1)) ∧ h.2.1 71 40 = iz (piC (D 12 2)) ∧ h.2.1 71 21 = iz sm ∧ run s i t n T (0, 0) = some (sm, 0)
section
variable {h0 h : Mem} {x : Nat → Int} {L b P N : Nat} {s i t n sm : Int} {D : Dv} {T : List Int}
theorem PS.self (p : PS h0 x L b h P) : PS h x L b h P := ⟨p.1, p.2.1, p.2.2.1, p.2.2.2.1, p.2.2.2.2.1, PR0.rf⟩
theorem PS.pr (p : PS h0 x L b h P) : PR0 h0 h := p.2.2.2.2.2
theorem TO.pr {h' : Mem} (k : TO s i t n h D T sm) (r : PR0 h h') : TO s i t n h' D T sm := by
  obtain ⟨k1, k2, k3, k4, k5, k6, k7, k8⟩ := k
  refine ⟨fun j hj => ?_, fun j hj => ?_, fun j hj => ?_, ?_, ?_, ?_, ?_, k8⟩
  · rw [r.2.2.1 90 (by decide) (by decide)]; exact k1 j hj
  · rw [r.2.2.1 91 (by decide) (by decide)]; exact k2 j hj
  · rw [r.2.2.1 92 (by decide) (by decide)]; exact k3 j hj
  · rw [r.2.2.2 38 (by decide)]; exact k4
  · rw [r.2.2.2 39 (by decide)]; exact k5
  · rw [r.2.2.2 40 (by decide)]; exact k6
  · rw [r.2.2.2 21 (by decide)]; exact k7
theorem FA.fc {h' : Mem} (a : FA h s i t n) (r : FC h h') : FA h' s i t n := by
  unfold FA at *
  rw [r.2.2.1 83 (by decide) (by decide)]
  exact a
/-- the place alone is looked at, in told rows -/
theorem PS.row (p : PS h x L b h P) {a : Nat} {row : Nat → Int32} (ha : a = 90 ∨ a = 91 ∨ a = 92) : PS (wr h a row) x L b (wr h a row) P := by
  have h71 : 71 ≠ a := by omega
  have h81 : 81 ≠ a := by omega
  obtain ⟨s1, ⟨s2, s3, s4⟩, s5, s6, s7, s8⟩ := p
  exact ⟨s1, ⟨by rw [wr_ne h71]; exact s2, by rw [wr_ne h71]; exact s3, by rw [wr_ne h71]; exact s4⟩, s5, fun j hj => by rw [wr_ne h81]; exact s6 j hj, s7, PR0.rf⟩
theorem PS.fld (p : PS h x L b h P) {j : Nat} {v : Int32} (hj : j = 38 ∨ j = 39 ∨ j = 40 ∨ j = 21) : PS (fd h j v) x L b (fd h j v) P := by
  obtain ⟨s1, ⟨s2, s3, s4⟩, s5, s6, s7, s8⟩ := p
  exact ⟨s1, ⟨by rw [fd_at, if_neg (by omega)]; exact s2, by rw [fd_at, if_neg (by omega)]; exact s3, by rw [fd_at, if_neg (by omega)]; exact s4⟩, s5, fun j hj => by rw [fd_ne (by decide)]; exact s6 j hj, s7, PR0.rf⟩
theorem TO.row (k : TO s i t n h D T sm) {k0 j : Nat} {v : Int} (hk : k0 = 9 ∨ k0 = 10 ∨ k0 = 11) : TO s i t n (wr h (81 + k0) (upd (h.2.1 (81 + k0)) j (iz v))) (dset D k0 j v) T sm := by
  obtain ⟨k1, k2, k3, k4, k5, k6, k7, k8⟩ := k
  have h71 : 71 ≠ 81 + k0 := by omega
  have hrow : ∀ k', k' = 9 ∨ k' = 10 ∨ k' = 11 → ∀ m : Nat, (∀ q : Nat, q < m → h.2.1 (81 + k') q = iz (D k' q)) → ∀ q : Nat, q < m → (wr h (81 + k0) (upd (h.2.1 (81 + k0)) j (iz v))).2.1 (81 + k') q = iz (dset D k0 j v k' q) := by
    intro k' hk' m hm q hq
    unfold dset
    by_cases hh : k' = k0
    · subst hh
      rw [wr_eq, upd_at]
      by_cases hqj : q = j
      · rw [if_pos hqj, if_pos ⟨rfl, by rw [hqj]⟩]
      · rw [if_neg hqj, if_neg (fun z => hqj (by omega))]; exact hm q hq
    · rw [wr_ne (by omega), if_neg (fun z => hh z.1)]; exact hm q hq
  have d12 : ∀ q, dset D k0 j v 12 q = D 12 q := fun q => by unfold dset; rw [if_neg (fun z => by omega)]
  refine ⟨hrow 9 (by omega) 12 k1, hrow 10 (by omega) 16 k2, hrow 11 (by omega) 3 k3, ?_, ?_, ?_, ?_, k8⟩
  · rw [wr_ne h71, d12]; exact k4
  · rw [wr_ne h71, d12]; exact k5
  · rw [wr_ne h71, d12]; exact k6
  · rw [wr_ne h71]; exact k7
theorem TO.fld (k : TO s i t n h D T sm) {j : Nat} {v w : Int} (hj : j < 3) (hw : w = if j = 0 then v else if j = 1 then duC v else piC v) : TO s i t n (fd h (38 + j) (iz w)) (dset D 12 j v) T sm := by
  obtain ⟨k1, k2, k3, k4, k5, k6, k7, k8⟩ := k
  have d9 : ∀ k', k' ≠ 12 → ∀ q, dset D 12 j v k' q = D k' q := fun k' hk q => by unfold dset; rw [if_neg (fun z => hk z.1)]
  have d12 : ∀ q : Nat, q ≠ j → dset D 12 j v 12 q = D 12 q := fun q hq => by unfold dset; rw [if_neg (fun z => hq (by omega))]
  have e12 : dset D 12 j v 12 (j : Int) = v := by unfold dset; rw [if_pos ⟨rfl, rfl⟩]
  refine ⟨fun q hq => ?_, fun q hq => ?_, fun q hq => ?_, ?_, ?_, ?_, ?_, k8⟩
  · rw [fd_ne (by decide), d9 9 (by decide)]; exact k1 q hq
  · rw [fd_ne (by decide), d9 10 (by decide)]; exact k2 q hq
  · rw [fd_ne (by decide), d9 11 (by decide)]; exact k3 q hq
  · rw [fd_at]
    by_cases z : j = 0
    · subst z; rw [if_pos rfl, hw, if_pos rfl]; exact iz_inj e12.symm
    · rw [if_neg (by omega)]; have := d12 0 (fun q => z q.symm); rw [show ((0 : Int)) = ((0 : Nat) : Int) from rfl, this]; exact k4
  · rw [fd_at]
    by_cases z : j = 1
    · subst z; rw [if_pos rfl, hw, if_neg (by decide), if_pos rfl]; exact congrArg (fun q => iz (duC q)) e12.symm
    · rw [if_neg (by omega)]; have := d12 1 (fun q => z q.symm); rw [show ((1 : Int)) = ((1 : Nat) : Int) from rfl, this]; exact k5
  · rw [fd_at]
    by_cases z : j = 2
    · subst z; rw [if_pos rfl, hw, if_neg (by decide), if_neg (by decide)]; exact congrArg (fun q => iz (piC q)) e12.symm
    · rw [if_neg (by omega)]; have := d12 2 (fun q => z q.symm); rw [show ((2 : Int)) = ((2 : Nat) : Int) from rfl, this]; exact k6
  · rw [fd_at, if_neg (by omega)]; exact k7
theorem TO.shn (k : TO s i t n h D T sm) {T' : List Int} {sm' : Int} (hr : run s i t n T' (0, 0) = some (sm', 0)) : TO s i t n (fd h 21 (iz sm')) D T' sm' := by
  obtain ⟨k1, k2, k3, k4, k5, k6, k7, k8⟩ := k
  refine ⟨fun q hq => ?_, fun q hq => ?_, fun q hq => ?_, ?_, ?_, ?_, ?_, hr⟩
  · rw [fd_ne (by decide)]; exact k1 q hq
  · rw [fd_ne (by decide)]; exact k2 q hq
  · rw [fd_ne (by decide)]; exact k3 q hq
  · rw [fd_at, if_neg (by decide)]; exact k4
  · rw [fd_at, if_neg (by decide)]; exact k5
  · rw [fd_at, if_neg (by decide)]; exact k6
  · rw [fd_at, if_pos rfl]
/-- what a piece of the reader comes to -/
def Cok (s i t n : Int) (h : Mem) (x : Nat → Int) (L b : Nat) (o : Option (Int32 × Mem)) (sm : Int) (r : Bool × Nat × Dv × List Int) : Prop :=
  (r.1 = true → ∃ h' sm', o = some (iz 1, h') ∧ PS h' x L b h' r.2.1 ∧ TO s i t n h' r.2.2.1 r.2.2.2 sm' ∧ FC h h' ∧ sm ≤ sm' ∧ sm' ≤ sm + 999) ∧
  (r.1 = false → ∃ h', o = some (iz 0, h') ∧ PS h' x L b h' r.2.1 ∧ FC h h')
theorem Cok.fc {h1 : Mem} {o : Option (Int32 × Mem)} {r : Bool × Nat × Dv × List Int} (f : FC h h1) (c : Cok s i t n h1 x L b o sm r) : Cok s i t n h x L b o sm r :=
  ⟨fun z => by obtain ⟨h', sm', e1, e2, e3, e4, e5⟩ := c.1 z; exact ⟨h', sm', e1, e2, e3, f.tr e4, e5⟩, fun z => by obtain ⟨h', e1, e2, e3⟩ := c.2 z; exact ⟨h', e1, e2, f.tr e3⟩⟩
end
