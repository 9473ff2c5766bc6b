theorem RepM.gen {h h' : Mem} {V V' : Vw} (R : RepM h V) (e1 : h'.1 = h.1) (e2 : h'.2.2.2 = h.2.2.2) (eT : h'.2.1 71 0 = iz (vT V')) (eF : h'.2.1 71 1 = iz (vF V')) (er : ∀ k, k < 9 → ∀ j : Nat, j < ln k → h'.2.1 (72 + k) j = iz (va V' k j)) (ec : ∀ i, i ∈ [81, 82, 84, 85, 86] → h'.2.1 i = h.2.1 i) (ev : ∀ k, 9 ≤ k → va V' k = va V k) (es : vs V' = vs V) (ef : ∀ j, j ∈ [12, 25, 26, 27] → h'.2.1 71 j = h.2.1 71 j) (ek : h'.2.1 71 29 = iz 0 ∨ (h'.2.1 71 29 = h.2.1 71 29 ∧ h'.2.1 87 = h.2.1 87 ∧ vF V' = vF V ∧ va V' 5 = va V 5 ∧ va V' 6 = va V 6)) : RepM h' V' := by
  obtain ⟨r1, ⟨r2, r3⟩, r4, r5, r6, r7, ⟨r8, r9, r10⟩, r11, r12⟩ := R
  refine ⟨r1.eq e1 e2, ⟨eT, eF⟩, er, fun j hj => ?_, fun j hj => ?_, fun j hj => ?_, ⟨?_, ?_, ?_⟩, ?_, ?_⟩
  · rw [ec 84 (by decide), ev 9 (by decide)]; exact r5 j hj
  · rw [ec 85 (by decide), ev 10 (by decide)]; exact r6 j hj
  · rw [ec 86 (by decide), ev 11 (by decide)]; exact r7 j hj
  · rw [ef 25 (by decide), ev 12 (by decide)]; exact r8
  · rw [ef 26 (by decide), ev 12 (by decide)]; exact r9
  · rw [ef 27 (by decide), ev 12 (by decide)]; exact r10
  · unfold GOES at *; rw [ec 81 (by decide), ec 82 (by decide), ef 12 (by decide), es]; exact r11
  · rcases ek with z | ⟨z1, z2, z3, z4, z5⟩
    · exact Or.inl z
    · rw [z1]
      rcases r12 with q | ⟨q1, q2⟩
      · exact Or.inl q
      · refine Or.inr ⟨q1, ?_⟩
        unfold cacheOK at *
        rw [z2, z3, z4, z5, es]; exact q2
theorem wf_town {V : Vw} (w : WF V) (hT : vT V < 4) {n : Int} (hn : 1 ≤ n ∧ n ≤ 8) : WF (vT V + 1, (vset V 0 (vT V) n).2) := by
  obtain ⟨a1, a2, a3, a4, a5, a6, a7, a8, a9, a10, a11, a12⟩ := w
  have e : ∀ k, k ≠ 0 → va (vT V + 1, (vset V 0 (vT V) n).2) k = va V k := fun k hk => vset_ne hk
  refine ⟨by show vT V + 1 ≤ 4; omega, a2, fun j h0 h1 => ?_, ?_, ?_, ?_, ?_, ?_, ?_, ?_, ?_, a12⟩
  · rw [e 2 (by decide), e 3 (by decide), e 4 (by decide)]
    refine ⟨?_, (a3 j h0 h1).2⟩
    show 0 ≤ va (vset V 0 (vT V) n) 0 j ∧ va (vset V 0 (vT V) n) 0 j ≤ 8
    rw [vset_at]
    split
    · omega
    · exact (a3 j h0 h1).1
  · rw [e 1 (by decide), e 9 (by decide)]; exact a4
  · rw [e 5 (by decide), e 6 (by decide), e 7 (by decide), e 8 (by decide)]; exact a5
  · rw [e 10 (by decide)]; exact a6
  · rw [e 11 (by decide)]; exact a7
  · rw [e 12 (by decide)]; exact a8
  · rw [e 12 (by decide)]; exact a9
  · rw [e 12 (by decide)]; exact a10
  · rw [e 6 (by decide), e 7 (by decide)]
    intro j h0 h1
    have := a11 j h0 h1
    refine ⟨this.1, ?_⟩
    show va V 7 j < ((vT V + 1 : Nat) : Int)
    omega
theorem vj_at {V : Vw} {s i t : Int} (k : Nat) (j : Int) : va (vjoin V s i t) k j = if k = 8 ∧ j = vF V then t else if k = 7 ∧ j = vF V then t else if k = 6 ∧ j = vF V then i else if k = 5 ∧ j = vF V then s else va V k j := rfl
theorem vj_ne {V : Vw} {s i t : Int} {k : Nat} (hk : k ≠ 5 ∧ k ≠ 6 ∧ k ≠ 7 ∧ k ≠ 8) : va (vjoin V s i t) k = va V k := by
  funext j
  rw [vj_at, if_neg (fun z => hk.2.2.2 z.1), if_neg (fun z => hk.2.2.1 z.1), if_neg (fun z => hk.2.1 z.1), if_neg (fun z => hk.1 z.1)]
theorem wf_join {V : Vw} (w : WF V) (hF : vF V < 8) {s i t : Int} (hs : 0 ≤ s ∧ s ≤ 3) (hi : 1 ≤ i ∧ i ≤ 99) (ht : 0 ≤ t ∧ t < vT V) : WF (vjoin V s i t) := by
  obtain ⟨a1, a2, a3, a4, a5, a6, a7, a8, a9, a10, a11, a12⟩ := w
  refine ⟨a1, by show vF V + 1 ≤ 8; omega, ?_, ?_, fun j h0 h1 => ?_, ?_, ?_, ?_, ?_, ?_, ?_, a12⟩
  · rw [vj_ne (k := 0) (by decide), vj_ne (k := 2) (by decide), vj_ne (k := 3) (by decide), vj_ne (k := 4) (by decide)]; exact a3
  · rw [vj_ne (k := 1) (by decide), vj_ne (k := 9) (by decide)]; exact a4
  · have b := a5 j h0 h1
    rw [vj_at, vj_at, vj_at, vj_at]
    have n58 : ¬ ((5 : Nat) = 8 ∧ j = vF V) := by rintro ⟨q, _⟩; cases q
    by_cases c : j = vF V
    · rw [if_neg (fun z => by have := z.1; omega), if_neg (fun z => by have := z.1; omega), if_neg (fun z => by have := z.1; omega), if_pos ⟨rfl, c⟩, if_neg (fun z => by have := z.1; omega), if_neg (fun z => by have := z.1; omega), if_pos ⟨rfl, c⟩, if_neg (fun z => by have := z.1; omega), if_pos ⟨rfl, c⟩, if_pos ⟨rfl, c⟩]
      omega
    · rw [if_neg (fun z => c z.2), if_neg (fun z => c z.2), if_neg (fun z => c z.2), if_neg (fun z => c z.2), if_neg (fun z => c z.2), if_neg (fun z => c z.2), if_neg (fun z => c z.2), if_neg (fun z => c z.2), if_neg (fun z => c z.2), if_neg (fun z => c z.2), if_neg (fun z => c z.2), if_neg (fun z => c z.2), if_neg (fun z => c z.2), if_neg (fun z => c z.2), if_neg (fun z => c z.2), if_neg (fun z => c z.2)]
      exact b
  · rw [vj_ne (k := 10) (by decide)]; exact a6
  · rw [vj_ne (k := 11) (by decide)]; exact a7
  · rw [vj_ne (k := 12) (by decide)]; exact a8
  · rw [vj_ne (k := 12) (by decide)]; exact a9
  · rw [vj_ne (k := 12) (by decide)]; exact a10
  · intro j h0 h1
    have h1' : j < ((vF V + 1 : Nat) : Int) := h1
    rw [vj_at, vj_at]
    show _ ∧ _ < (vT V : Int)
    by_cases c : j = vF V
    · rw [if_neg (fun z => by have := z.1; omega), if_neg (fun z => by have := z.1; omega), if_pos ⟨rfl, c⟩, if_neg (fun z => by have := z.1; omega), if_pos ⟨rfl, c⟩]
      omega
    · rw [if_neg (fun z => c z.2), if_neg (fun z => c z.2), if_neg (fun z => c z.2), if_neg (fun z => c z.2), if_neg (fun z => c z.2), if_neg (fun z => c z.2), if_neg (fun z => c z.2), if_neg (fun z => c z.2)]
      exact a11 j h0 (by omega)
section
variable {h : Mem} {V : Vw} {p pd b N : Nat}
theorem t_town (hN : 300 ≤ N) (r : REL h V p pd b) (v1 : Int32) : CAL (f_X9_town N 0 v1 h) (f_X10_town N 71 v1) b := by
  obtain ⟨n, rfl, n1, n2⟩ := int_iz v1
  have R := r.2.1
  have M := r.2.2.1
  have w := r.2.2.2.1
  have S := r.2.2.2.2.2.2.2.1
  have hT := w.T
  have h3 : ¬ ((1 : Int) = 0) := by decide
  have a1 := l_within (N := N) (h := h) (a := n) (b := 1) (c := 8) (by omega) (by omega) n1 n2
  have b1 := m_inB (N := N) (h := h) (a := n) (b := 1) (c := 8) (by omega) (by omega) n1 n2
  by_cases hn : 1 ≤ n ∧ n ≤ 8
  · rw [decide_eq_true hn] at a1 b1
    by_cases h4 : vT V < 4
    · have z4 : (vT V : Int) < 4 := by omega
      have z4' : ¬ ((vT V : Int) = 4) := by omega
      have R1 := rep_set R r.cp (k := 0) (j := vT V) (x := n) (by decide) (by omega) (by show (vT V : Int) < (4 : Int); omega)
      have R2 := rep_T R1 r.cp (T := vT V + 1)
      have w' := wf_town w h4 hn
      generalize hh1 : ((wr h (ar 1 0) (upd (h.2.1 (ar 1 0)) (Int.toNat (vT V)) (iz n))).1, u2 (wr h (ar 1 0) (upd (h.2.1 (ar 1 0)) (Int.toNat (vT V)) (iz n))).2.1 1 1 (iz ((vT V + 1 : Nat) : Int)), (wr h (ar 1 0) (upd (h.2.1 (ar 1 0)) (Int.toNat (vT V)) (iz n))).2.2.1, (wr h (ar 1 0) (upd (h.2.1 (ar 1 0)) (Int.toNat (vT V)) (iz n))).2.2.2) = h1 at R2
      have lo : LO h h1 := by
        rw [← hh1]
        refine ⟨rfl, rfl, fun i hi => ?_⟩
        show u2 (wr h (ar 1 0) (upd (h.2.1 (ar 1 0)) (Int.toNat (vT V)) (iz n))).2.1 1 1 (iz ((vT V + 1 : Nat) : Int)) i = _
        rw [u2_ne (by omega), wr_ne (by show i ≠ 7; omega)]
      have md := r.lo_ lo R2 w' (vset_ne (k' := 9) (by decide))
      have M1 := md.2.2.1
      have Mr : RepM (fd (wr h1 72 (upd (h1.2.1 72) (vT V) (iz n))) 0 (iz ((vT V + 1 : Nat) : Int))) (vT V + 1, (vset V 0 (vT V) n).2) := by
        refine M1.gen rfl rfl ?_ ?_ (fun k hk j hj => ?_) (fun i hi => ?_) (fun k hk => vset_ne (by omega)) rfl (fun j hj => ?_) (Or.inr ⟨?_, ?_, rfl, vset_ne (by decide), vset_ne (by decide)⟩)
        · rw [fd_at, if_pos rfl]
        · rw [fd_at, if_neg (by decide), wr_ne (by decide)]; exact M1.2.1.2
        · rw [fd_ne (by omega)]
          by_cases c : k = 0
          · subst c
            rw [wr_eq, upd_at]
            show _ = iz (va (vset V 0 (vT V) n) 0 j)
            rw [vset_at]
            by_cases q : j = vT V
            · rw [if_pos q, if_pos ⟨rfl, by omega⟩]
            · rw [if_neg q, if_neg (fun z => q (by omega))]; exact M1.2.2.1 0 hk j hj
          · rw [wr_ne (by omega), show va (vT V + 1, (vset V 0 (vT V) n).2) k = va V k from vset_ne c]; exact M1.2.2.1 k hk j hj
        · have : ∀ i, i ∈ [81, 82, 84, 85, 86] → i ≠ 71 ∧ i ≠ 72 := by decide
          rw [fd_ne (this i hi).1, wr_ne (this i hi).2]
        · have : ∀ j, j ∈ [12, 25, 26, 27] → j ≠ 0 := by decide
          rw [fd_at, if_neg (this j hj), wr_ne (by decide)]
        · rw [fd_at, if_neg (by decide), wr_ne (by decide)]
        · rw [fd_ne (by decide), wr_ne (by decide)]
      have hi : HI h1 (fd (wr h1 72 (upd (h1.2.1 72) (vT V) (iz n))) 0 (iz ((vT V + 1 : Nat) : Int))) := (HI.wr_ (by decide)).tr HI.fd_
      have eq : EQS h1 (fd (wr h1 72 (upd (h1.2.1 72) (vT V) (iz n))) 0 (iz ((vT V + 1 : Nat) : Int))) := by
        refine ⟨rfl, fun _ _ _ => rfl, fun i hi => by rw [fd_ne (by omega), wr_ne (by omega)], by rw [fd_ne (by decide), wr_ne (by decide)], fun j hj => ?_, fun _ _ => rfl⟩
        have : ∀ j, j ∈ [2, 12, 13, 50, 55] → j ≠ 0 := by decide
        rw [fd_at, if_neg (this j hj), wr_ne (by decide)]
      refine ⟨iz (vT V), h1, _, _, p, pd, ?_, ?_, md.hi_ hi eq Mr⟩
      · unfold f_X9_town
        simp (disch := omega) only [↓knC S, ↓kn0 S, ↓kn1 S, ↓kn2 S, ↓kn4 S, ↓kn5 S, ↓kn6 S, ↓kn7 S, ↓kn8 S, ↓kn9 S, ↓kn10 S, il0, il1, il2, il3, il4, il5, il6, il7, il8, il9, il10, il11, il12, il13, il14, il15, il16, il17, il18, il19, il20, il21, il22, il23, il24, il25, il26, il27, il28, il29, il30, il31, il32, il33, il36, il38, il39, il40, il41, il48, il50, il51, il57, il59, il60, il61, il62, il63, il70, il96, il99, il100, il101, il102, il103, il104, il105, il106, il107, il108, il109, il110, il111, il112, il115, il116, il120, il121, il124, il200, il240, il255, il288, il360, il420, il999, il1000, il114292, il152755, il402789, il435589, il463922, il533611, il631470, ↓bq a1, bi_t, iz_eq, h3, ↓reduceIte, ↓kT R, ↓kA0 R, iz_lt, z4, ↓bo (st_wr (R.1.2 0 (by decide)).2 (show (0 : Int) ≤ vT V by omega) (show (vT V : Int) < ((4 : Nat) : Int) by omega) (by decide))]
        have S1 : X9S (wr h (ar 1 0) (upd (h.2.1 (ar 1 0)) (Int.toNat (vT V)) (iz n))) := S
        simp (disch := omega) only [↓knC S1, ↓kn0 S1, ↓kn1 S1, ↓kn2 S1, ↓kn4 S1, ↓kn5 S1, ↓kn6 S1, ↓kn7 S1, ↓kn8 S1, ↓kn9 S1, ↓kn10 S1, ↓kT R1, vset_T, iz_add]
        rw [bo (sI_q R1.1.1)]
        rw [← hh1]
        rfl
      · have b1' := m_inB (N := N) (h := h1) (a := n) (b := 1) (c := 8) (by omega) (by omega) n1 n2
        rw [decide_eq_true hn] at b1'
        have ew : (wr h1 72 (upd (h1.2.1 72) (vT V) (iz n))).2.1 71 0 = iz (vT V) := by rw [wr_ne (by decide)]; exact M1.2.1.1
        have ef : (fd (wr h1 72 (upd (h1.2.1 72) (vT V) (iz n))) 0 (iz ((vT V + 1 : Nat) : Int))).2.1 71 0 = iz ((vT V + 1 : Nat) : Int) := by rw [fd_at, if_pos rfl]
        unfold f_X10_town
        simp (disch := omega) only [il0, il1, il2, il3, il4, il5, il6, il7, il8, il9, il10, il11, il12, il13, il14, il15, il16, il17, il18, il19, il20, il21, il22, il23, il24, il25, il26, il27, il28, il29, il30, il31, il32, il33, il36, il38, il39, il40, il41, il48, il50, il51, il57, il59, il60, il61, il62, il63, il70, il96, il99, il100, il101, il102, il103, il104, il105, il106, il107, il108, il109, il110, il111, il112, il115, il116, il120, il121, il124, il200, il240, il255, il288, il360, il420, il999, il1000, il114292, il152755, il402789, il435589, il463922, il533611, il631470, ↓kmC M1.1, ↓bq b1', bi_t, iz_eq, h3, ↓reduceIte, ↓kmT M1, z4', ↓kr72 M1.1, ↓ks72 M1.1, toN, ↓kmI M1.1.wr_, ew, iz_add, ↓ksI M1.1.wr_]
        rw [show ((vT V : Int) + 1) = ((vT V + 1 : Nat) : Int) by omega]
        simp (disch := omega) only [↓kmI M1.1.wr_.fd_, ef, iz_sub]
        rw [show (((vT V + 1 : Nat) : Int)) - 1 = vT V by omega]
    · have z4 : ¬ ((vT V : Int) < 4) := by omega
      have z4' : (vT V : Int) = 4 := by omega
      refine r.same_ (z := (-iz 4 : Int32)) ?_ ?_
      · unfold f_X9_town
        simp (disch := omega) only [↓knC S, ↓kn0 S, ↓kn1 S, ↓kn2 S, ↓kn4 S, ↓kn5 S, ↓kn6 S, ↓kn7 S, ↓kn8 S, ↓kn9 S, ↓kn10 S, il0, il1, il2, il3, il4, il5, il6, il7, il8, il9, il10, il11, il12, il13, il14, il15, il16, il17, il18, il19, il20, il21, il22, il23, il24, il25, il26, il27, il28, il29, il30, il31, il32, il33, il36, il38, il39, il40, il41, il48, il50, il51, il57, il59, il60, il61, il62, il63, il70, il96, il99, il100, il101, il102, il103, il104, il105, il106, il107, il108, il109, il110, il111, il112, il115, il116, il120, il121, il124, il200, il240, il255, il288, il360, il420, il999, il1000, il114292, il152755, il402789, il435589, il463922, il533611, il631470, ↓bq a1, bi_t, iz_eq, h3, ↓reduceIte, ↓kT R, iz_lt, z4]
      · unfold f_X10_town
        simp (disch := omega) only [il0, il1, il2, il3, il4, il5, il6, il7, il8, il9, il10, il11, il12, il13, il14, il15, il16, il17, il18, il19, il20, il21, il22, il23, il24, il25, il26, il27, il28, il29, il30, il31, il32, il33, il36, il38, il39, il40, il41, il48, il50, il51, il57, il59, il60, il61, il62, il63, il70, il96, il99, il100, il101, il102, il103, il104, il105, il106, il107, il108, il109, il110, il111, il112, il115, il116, il120, il121, il124, il200, il240, il255, il288, il360, il420, il999, il1000, il114292, il152755, il402789, il435589, il463922, il533611, il631470, ↓kmC M.1, ↓bq b1, bi_t, iz_eq, h3, ↓reduceIte, ↓kmT M, z4']
  · rw [decide_eq_false hn] at a1 b1
    refine r.same_ (z := (-iz 2 : Int32)) ?_ ?_
    · unfold f_X9_town
      simp (disch := omega) only [il0, il1, il2, il3, il4, il5, il6, il7, il8, il9, il10, il11, il12, il13, il14, il15, il16, il17, il18, il19, il20, il21, il22, il23, il24, il25, il26, il27, il28, il29, il30, il31, il32, il33, il36, il38, il39, il40, il41, il48, il50, il51, il57, il59, il60, il61, il62, il63, il70, il96, il99, il100, il101, il102, il103, il104, il105, il106, il107, il108, il109, il110, il111, il112, il115, il116, il120, il121, il124, il200, il240, il255, il288, il360, il420, il999, il1000, il114292, il152755, il402789, il435589, il463922, il533611, il631470, ↓bq a1, bi_f, ↓reduceIte]
    · unfold f_X10_town
      simp (disch := omega) only [il0, il1, il2, il3, il4, il5, il6, il7, il8, il9, il10, il11, il12, il13, il14, il15, il16, il17, il18, il19, il20, il21, il22, il23, il24, il25, il26, il27, il28, il29, il30, il31, il32, il33, il36, il38, il39, il40, il41, il48, il50, il51, il57, il59, il60, il61, il62, il63, il70, il96, il99, il100, il101, il102, il103, il104, il105, il106, il107, il108, il109, il110, il111, il112, il115, il116, il120, il121, il124, il200, il240, il255, il288, il360, il420, il999, il1000, il114292, il152755, il402789, il435589, il463922, il533611, il631470, ↓kmC M.1, ↓bq b1, bi_f, ↓reduceIte]
end
