/-! countries that become others, grow, settle -/
theorem rep_frame {h h' : Mem} {c p : Nat} {V : Vw} (R : RepC h c p V) (e1 : h'.1 = h.1) (ec : h'.2.1 c = h.2.1 c) (ea : ∀ k, k < 9 → h'.2.1 (ar c k) = h.2.1 (ar c k)) (ep : ∀ i, i < 5 → h'.2.1 (p + i) = h.2.1 (p + i)) (e3 : h'.2.2.2 c = h.2.2.2 c) (e4 : h'.2.2.2 p = h.2.2.2 p) : RepC h' c p V := by
  obtain ⟨a1, a2, a3, a4, a5, b0, b1, b2, b3, b4, b5, b6, b7, b8, b9, b10, b11⟩ := R
  have ep0 : h'.2.1 p = h.2.1 p := ep 0 (by decide)
  refine ⟨?_, by rw [ec, a2], by rw [ec, a3], fun k hk j hj => by rw [ea k hk, a4 k hk j hj], by rw [e3, a5], ?_⟩
  · unfold CT at a1 ⊢
    rw [e1, e3]
    exact a1
  · unfold LD
    rw [e1, e4, ep0, ep 1 (by decide), ep 2 (by decide), ep 3 (by decide), ep 4 (by decide)]
    exact ⟨b0, b1, b2, b3, b4, b5, b6, b7, b8, b9, b10, b11⟩
def CC (c : Nat) : Prop := c = 1 ∨ c = 17 ∨ c = 28
theorem ar_ar {c c' k k' : Nat} (q : CC c) (q' : CC c') (hc : c ≠ c') (hk : k < 10) (hk' : k' < 10) : ar c k ≠ ar c' k' ∧ c ≠ ar c' k' := by
  obtain h1 | h1 | h1 := q <;> obtain h2 | h2 | h2 := q' <;> subst h1 <;> subst h2 <;> unfold ar <;> (try split) <;> (try split) <;> omega
theorem p_ar {c p k i : Nat} (q : CC c) (qp : p = 2 ∨ p = 39) (hk : k < 10) (hi : i < 5) : p + i ≠ ar c k ∧ p + i ≠ c := by
  obtain h1 | h1 | h1 := q <;> obtain h2 | h2 := qp <;> subst h1 <;> subst h2 <;> unfold ar <;> (try split) <;> omega
def cpy1 (h : Mem) (c c' k : Nat) : Mem := wr h (ar c' k) (va_cpy (h.2.1 (ar c k)) (h.2.1 (ar c' k)) 0 0 (ln k))
def cpyN (h : Mem) (c c' : Nat) : Nat → Mem
  | 0 => h
  | n + 1 => cpy1 (cpyN h c c' n) c c' n
theorem cpyN_st {h : Mem} {c c' : Nat} : ∀ n, (cpyN h c c' n).1 = h.1 ∧ (cpyN h c c' n).2.2 = h.2.2 := by
  intro n
  induction n with
  | zero => exact ⟨rfl, rfl⟩
  | succ n ih => exact ih
theorem cpyN_ne {h : Mem} {c c' i : Nat} : ∀ n, n ≤ 9 → (∀ k, k < 9 → i ≠ ar c' k) → (cpyN h c c' n).2.1 i = h.2.1 i := by
  intro n
  induction n with
  | zero => intro _ _; rfl
  | succ n ih =>
    intro hn hi
    rw [cpyN, cpy1, wr_ne (hi n (by omega)), ih (by omega) hi]
theorem cpyN_eq {h : Mem} {c c' : Nat} (q : CC c) (q' : CC c') (hc : c ≠ c') : ∀ n, n ≤ 9 → ∀ k, k < n → ∀ j, j < ln k → (cpyN h c c' n).2.1 (ar c' k) j = h.2.1 (ar c k) j := by
  intro n
  induction n with
  | zero => intro _ k hk; omega
  | succ n ih =>
    intro hn k hk j hj
    rw [cpyN, cpy1]
    by_cases hkn : k = n
    · subst hkn
      rw [wr_eq]
      unfold va_cpy
      rw [if_pos ⟨Nat.zero_le _, by omega⟩]
      show (cpyN h c c' k).2.1 (ar c k) (0 + j) = _
      rw [Nat.zero_add, cpyN_ne k (by omega) (fun k' hk' => (ar_ar q q' hc (by omega) (by omega)).1)]
    · rw [wr_ne (ar_ne hkn), ih (by omega) k (by omega) j hj]
theorem e_cpy {h H : Mem} {c c' k : Nat} (C : CT h c) (C' : CT h c') (e : H.1 = h.1) (hk : k < 9) {n : Int} (hn : n = ln k) : cpI 100 H (ar c k) (iz 0) (ar c' k) (iz 0) (iz n) = some (cpy1 H c c' k) := by
  have h1 := (C.2 k (by omega)).2
  have h2 := (C'.2 k (by omega)).2
  rw [← e] at h1 h2
  have h3 : ln k ≤ 12 := by
    have : ∀ k, k < 9 → ln k ≤ 12 := by decide
    exact this k hk
  subst hn
  exact cp_wr h1 h2 (by decide) (by decide) (by omega) (by omega) (by omega) (by omega) (by omega)
/-- what becoming another leaves -/
def BF (c' : Nat) (h h' : Mem) : Prop := h'.1 = h.1 ∧ h'.2.2.1 = h.2.2.1 ∧ (∀ i, i ≠ c' → (∀ k, k < 9 → i ≠ ar c' k) → h'.2.1 i = h.2.1 i) ∧ ∀ i, i ≠ c' → h'.2.2.2 i = h.2.2.2 i
theorem l_become {h : Mem} {c c' p : Nat} {V : Vw} {N : Nat} (R : RepC h c p V) (q : CC c) (q' : CC c') (hc : c ≠ c') (qp : p = 2 ∨ p = 39) (C' : CT h c') : ∃ h', f_X1_become N c' c h = some h' ∧ RepC h' c p V ∧ RepC h' c' p V ∧ BF c' h h' := by
  let h11 : Mem := (h.1, u2 (u2 h.2.1 c' 1 (iz (vT V))) c' 2 (iz (vF V)), h.2.2.1, u2 h.2.2.2 c' 0 (some p))
  have n1 : ∀ i, i ≠ c' → h11.2.1 i = h.2.1 i := fun i hi => by
    show u2 (u2 h.2.1 c' 1 (iz (vT V))) c' 2 (iz (vF V)) i = _
    rw [u2_ne hi, u2_ne hi]
  have n2 : ∀ i, i ≠ c' → h11.2.2.2 i = h.2.2.2 i := fun i hi => u2_ne hi
  have C : CT h c := R.1
  have R11 : RepC h11 c p V := rep_frame R rfl (n1 c hc) (fun k hk => n1 _ (fun z => (ar_ar (k := 0) q' q (Ne.symm hc) (by decide) (show k < 10 by omega)).2 z.symm)) (fun i hi => n1 _ (p_ar (k := 0) q' qp (by decide) hi).2) (n2 c hc) (n2 p (p_ar (k := 0) (i := 0) q' qp (by decide) (by decide)).2)
  have C11 : CT h11 c := R11.1
  have C11' : CT h11 c' := by
    refine ⟨C'.1, fun k hk => ⟨?_, (C'.2 k hk).2⟩⟩
    show u2 h.2.2.2 c' 0 (some p) c' (k + 3) = _
    rw [u2_at, if_neg (by omega)]
    exact (C'.2 k hk).1
  have st := fun n => (cpyN_st (h := h11) (c := c) (c' := c') n)
  have k' : ∀ n k m, k < 10 → m = k + 3 → gR (cpyN h11 c c' n) c' 1 m = some (ar c' k) := fun n k m hk hm => by subst hm; exact gR_q (by rw [(st n).1]; exact C11'.1) (by rw [(st n).2]; exact (C11'.2 k hk).1)
  have k0 : ∀ n k m, k < 10 → m = k + 3 → gR (cpyN h11 c c' n) c 1 m = some (ar c k) := fun n k m hk hm => by subst hm; exact gR_q (by rw [(st n).1]; exact C11.1) (by rw [(st n).2]; exact (C11.2 k hk).1)
  have ec : ∀ n, n < 9 → ∀ m : Int, m = ln n → ∀ n', n' = n + 1 → cpI 100 (cpyN h11 c c' n) (ar c n) (iz 0) (ar c' n) (iz 0) (iz m) = some (cpyN h11 c c' n') := fun n hn m hm n' hn' => by subst hn'; exact e_cpy C11 C11' (st n).1 hn hm
  refine ⟨cpyN h11 c c' 9, ?_, ?_, ?_, ?_⟩
  · unfold f_X1_become
    have e3 : sR h c' 1 0 p = some (h.1, h.2.1, h.2.2.1, u2 h.2.2.2 c' 0 (some p)) := sR_q C'.1
    have e7 : ∀ v, sI (h.1, h.2.1, h.2.2.1, u2 h.2.2.2 c' 0 (some p)) c' 1 1 v = some (h.1, u2 h.2.1 c' 1 v, h.2.2.1, u2 h.2.2.2 c' 0 (some p)) := fun v => sI_q C'.1
    have e11 : ∀ v, sI (h.1, u2 h.2.1 c' 1 (iz (vT V)), h.2.2.1, u2 h.2.2.2 c' 0 (some p)) c' 1 2 v = some (h.1, u2 (u2 h.2.1 c' 1 (iz (vT V))) c' 2 v, h.2.2.1, u2 h.2.2.2 c' 0 (some p)) := fun v => sI_q C'.1
    have g5 : gI ((h.1, h.2.1, h.2.2.1, u2 h.2.2.2 c' 0 (some p)) : Mem) c 1 1 = some (iz (vT V)) := by
      exact (gI_q (h := ((h.1, h.2.1, h.2.2.1, u2 h.2.2.2 c' 0 (some p)) : Mem)) C.1).trans (congrArg some R.2.1)
    have g9 : gI ((h.1, u2 h.2.1 c' 1 (iz (vT V)), h.2.2.1, u2 h.2.2.2 c' 0 (some p)) : Mem) c 1 2 = some (iz (vF V)) := by
      refine (gI_q (h := ((h.1, u2 h.2.1 c' 1 (iz (vT V)), h.2.2.1, u2 h.2.2.2 c' 0 (some p)) : Mem)) C.1).trans ?_
      show some (u2 h.2.1 c' 1 (iz (vT V)) c 2) = _
      rw [u2_ne hc]; exact congrArg some R.2.2.1
    rw [bo (rL R), bo e3, bo g5, bo (e7 _), bo g9, bo (e11 _)]
    have hT : ((h.1, u2 (u2 h.2.1 c' 1 (iz (vT V))) c' 2 (iz (vF V)), h.2.2.1, u2 h.2.2.2 c' 0 (some p)) : Mem) = cpyN h11 c c' 0 := rfl
    rw [hT]
    simp only [il0, il1, il2, il3, il4, il5, il6, il7, il8, il9, il10, il11, il12, il13, il14, il15, il16, il17, il18, il19, il20, il21, il22, il23, il24, il25, il26, il27, il28, il29, il30, il31, il32, il33, il36, il38, il39, il40, il41, il48, il50, il51, il57, il59, il60, il61, il62, il63, il70, il96, il99, il100, il101, il102, il103, il104, il105, il106, il107, il108, il109, il110, il111, il112, il115, il116, il120, il121, il124, il200, il240, il255, il288, il360, il420, il999, il1000, il114292, il152755, il402789, il435589, il463922, il533611, il631470, ↓bo (k0 0 0 3 (by decide) rfl), ↓bo (k' 0 0 3 (by decide) rfl), ↓bo (ec 0 (by decide) 4 (by decide) 1 rfl)]
    simp only [↓bo (k0 1 1 4 (by decide) rfl), ↓bo (k' 1 1 4 (by decide) rfl), ↓bo (ec 1 (by decide) 12 (by decide) 2 rfl)]
    simp only [↓bo (k0 2 2 5 (by decide) rfl), ↓bo (k' 2 2 5 (by decide) rfl), ↓bo (ec 2 (by decide) 4 (by decide) 3 rfl)]
    simp only [↓bo (k0 3 3 6 (by decide) rfl), ↓bo (k' 3 3 6 (by decide) rfl), ↓bo (ec 3 (by decide) 4 (by decide) 4 rfl)]
    simp only [↓bo (k0 4 4 7 (by decide) rfl), ↓bo (k' 4 4 7 (by decide) rfl), ↓bo (ec 4 (by decide) 4 (by decide) 5 rfl)]
    simp only [↓bo (k0 5 5 8 (by decide) rfl), ↓bo (k' 5 5 8 (by decide) rfl), ↓bo (ec 5 (by decide) 8 (by decide) 6 rfl)]
    simp only [↓bo (k0 6 6 9 (by decide) rfl), ↓bo (k' 6 6 9 (by decide) rfl), ↓bo (ec 6 (by decide) 8 (by decide) 7 rfl)]
    simp only [↓bo (k0 7 7 10 (by decide) rfl), ↓bo (k' 7 7 10 (by decide) rfl), ↓bo (ec 7 (by decide) 8 (by decide) 8 rfl)]
    simp only [↓bo (k0 8 8 11 (by decide) rfl), ↓bo (k' 8 8 11 (by decide) rfl), ↓bo (ec 8 (by decide) 8 (by decide) 9 rfl)]
  · have s9 := st 9
    refine rep_frame R11 s9.1 (cpyN_ne 9 (by omega) (fun k hk => (ar_ar (k := 0) q q' hc (by decide) (by omega)).2)) (fun k hk => cpyN_ne 9 (by omega) (fun k2 hk2 => (ar_ar q q' hc (by omega) (by omega)).1)) (fun i hi => cpyN_ne 9 (by omega) (fun k2 hk2 => (p_ar q' qp (by omega) hi).1)) (by rw [s9.2]) (by rw [s9.2])
  · have s9 := st 9
    have nc : (cpyN h11 c c' 9).2.1 c' = h11.2.1 c' := cpyN_ne 9 (by omega) (fun k hk => by
      obtain z | z | z := q' <;> subst z <;> unfold ar <;> (try split) <;> omega)
    have np : ∀ i, i < 5 → (cpyN h11 c c' 9).2.1 (p + i) = h.2.1 (p + i) := fun i hi => (cpyN_ne 9 (by omega) (fun k2 hk2 => (p_ar q' qp (by omega) hi).1)).trans (n1 _ (p_ar (k := 0) q' qp (by decide) hi).2)
    obtain ⟨a1, a2, a3, a4, a5, b0, b1, b2, b3, b4, b5, b6, b7, b8, b9, b10, b11⟩ := R
    have r4 : (cpyN h11 c c' 9).2.2.2 p = h.2.2.2 p := by rw [s9.2]; exact n2 p (p_ar (k := 0) (i := 0) q' qp (by decide) (by decide)).2
    have np0 : (cpyN h11 c c' 9).2.1 p = h.2.1 p := np 0 (by decide)
    refine ⟨?_, ?_, ?_, fun k hk j hj => ?_, ?_, ?_⟩
    · unfold CT
      rw [s9.1, s9.2]
      exact C11'
    · rw [nc]
      show u2 (u2 h.2.1 c' 1 (iz (vT V))) c' 2 (iz (vF V)) c' 1 = _
      rw [u2_at, if_neg (by decide), u2_at, if_pos rfl]
    · rw [nc]
      show u2 (u2 h.2.1 c' 1 (iz (vT V))) c' 2 (iz (vF V)) c' 2 = _
      rw [u2_at, if_pos rfl]
    · rw [cpyN_eq q q' hc 9 (by omega) k hk j hj]
      exact R11.2.2.2.1 k hk j hj
    · rw [s9.2]
      show u2 h.2.2.2 c' 0 (some p) c' 0 = _
      rw [u2_at, if_pos rfl]
    · unfold LD
      rw [s9.1, r4, np0, np 1 (by decide), np 2 (by decide), np 3 (by decide), np 4 (by decide)]
      exact ⟨b0, b1, b2, b3, b4, b5, b6, b7, b8, b9, b10, b11⟩
  · have s9 := st 9
    refine ⟨s9.1, by rw [s9.2], fun i hi hk => (cpyN_ne 9 (by omega) hk).trans (n1 i hi), fun i hi => by rw [s9.2]; exact n2 i hi⟩
