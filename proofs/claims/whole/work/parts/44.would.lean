/-! a set moved to a town -/
def mv (V : Vw) (s : Nat) (t : Int) : Nat → Vw
  | 0 => V
  | n + 1 => if bt s n = true then vset (mv V s t n) 7 n t else mv V s t n
def gateB (V : Vw) (s : Nat) (t : Int) : Nat → Bool
  | 0 => true
  | n + 1 => gateB V s t n && (!bt s n || decide (va V 3 t ≤ va V 6 n))
def raiseB (V : Vw) (s : Nat) (t : Int) : Nat → Bool
  | 0 => true
  | n + 1 => raiseB V s t n && (!bt s n || decide (worth V n (va V 7 n) < worth (mv V s t (vF V)) n t))
def wouldB (V : Vw) (s : Nat) (t : Int) : Bool := gateB V s t (vF V) && raiseB V s t (vF V)
theorem mv_TF {V : Vw} {s : Nat} {t : Int} : ∀ n, vT (mv V s t n) = vT V ∧ vF (mv V s t n) = vF V ∧ vs (mv V s t n) = vs V ∧ ∀ k, k ≠ 7 → va (mv V s t n) k = va V k := by
  intro n
  induction n with
  | zero => exact ⟨rfl, rfl, rfl, fun _ _ => rfl⟩
  | succ n ih =>
    unfold mv
    split
    · exact ⟨ih.1, ih.2.1, ih.2.2.1, fun k hk => (vset_ne hk).trans (ih.2.2.2 k hk)⟩
    · exact ih
theorem mv_wf {V : Vw} (w : WF V) {s : Nat} {t : Int} (ht : 0 ≤ t ∧ t < vT V) : ∀ n, WF (mv V s t n) := by
  intro n
  induction n with
  | zero => exact w
  | succ n ih =>
    unfold mv
    split
    · exact wf_at ih ⟨ht.1, by rw [(mv_TF (V := V) n).1]; exact ht.2⟩
    · exact ih
theorem mv_at {V : Vw} {s : Nat} {t : Int} : ∀ (n : Nat) (j : Int), (n : Int) ≤ j → va (mv V s t n) 7 j = va V 7 j := by
  intro n
  induction n with
  | zero => intro j _; rfl
  | succ n ih =>
    intro j hj
    unfold mv
    split
    · rw [vset_at, if_neg (by omega), ih j (by omega)]
    · exact ih j (by omega)
theorem raise_s {V : Vw} {s : Nat} {t : Int} {n : Nat} : raiseB V s t (n + 1) = (raiseB V s t n && (!bt s n || decide (worth V n (va V 7 n) < worth (mv V s t (vF V)) n t))) := rfl
theorem gate_s {V : Vw} {s : Nat} {t : Int} {n : Nat} : gateB V s t (n + 1) = (gateB V s t n && (!bt s n || decide (va V 3 t ≤ va V 6 n))) := rfl
theorem raise_f {V : Vw} {s : Nat} {t : Int} : ∀ (d n m : Nat), n + d = m → raiseB V s t n = false → raiseB V s t m = false := by
  intro d
  induction d with
  | zero => intro n m e h; obtain rfl : n = m := by omega
            exact h
  | succ d ih => intro n m e h; exact ih (n + 1) m (by omega) (by unfold raiseB; rw [h]; rfl)
theorem rz_bi {b : Bool} {h : Mem} : rz (iz (bi b)) h = some (iz (bi b), h) := by cases b <;> rfl
theorem bi_t : bi true = 1 := rfl
theorem bi_f : bi false = 0 := rfl
theorem bi_and {a b : Bool} : iz (bi a) &&& iz (bi b) = iz (bi (a && b)) := by cases a <;> cases b <;> decide
/-- the copies of where all are, and of their worths, that rests keep -/
def S48 (h : Mem) (V : Vw) : Prop := ∀ j : Nat, j < 8 → h.2.1 48 j = iz (va V 7 j)
def S49 (h : Mem) (V : Vw) : Prop := ∀ j : Nat, j < vF V → h.2.1 49 j = iz (worth V j (va V 7 j))
section
variable {c p : Nat} {V : Vw} {N : Nat}
theorem k48 {h : Mem} {γ : Type} {k : Nat → Option γ} (S : RS h) : (gR h 46 6 1).bind k = k 48 := bo (gR_q S.1 S.2.2.1.1)
theorem k49 {h : Mem} {γ : Type} {k : Nat → Option γ} (S : RS h) : (gR h 46 6 2).bind k = k 49 := bo (gR_q S.1 S.2.2.2.1)
theorem k46 {h : Mem} {γ : Type} {k : Unit → Option γ} (S : RS h) : (ck h 46 6).bind k = k () := bo (ck_q S.1)
theorem kW49 {h : Mem} {γ : Type} {z : Int} {k : Int32 → Option γ} (S : RS h) (h0 : 0 ≤ z) (h1 : z < 8) : (lI 100 h 49 (iz z)).bind k = k (h.2.1 49 z.toNat) := bo (lI_q S.2.2.2.2 h0 h1 (by decide))
theorem kS49 {h : Mem} {γ : Type} {z : Int} {v : Int32} {k : Mem → Option γ} (S : RS h) (h0 : 0 ≤ z) (h1 : z < 8) : (stI 100 h 49 (iz z) v).bind k = k (wr h 49 (upd (h.2.1 49) z.toNat v)) := bo (st_wr S.2.2.2.2 h0 h1 (by decide))
theorem l_would_137 {V' : Vw} {h0 h : Mem} (q : CP c p) (R : RepC h c p V') (hV : vT V' = vT V ∧ vF V' = vF V ∧ vs V' = vs V ∧ ∀ k, k ≠ 7 → va V' k = va V k) (S : RS h) (s1 : S48 h V) (s2 : S49 h V) (K : KC c h0 h) (b : Bool) : ∃ h', f_X6_wouldFound_137 N 46 c (iz (bi b)) h = some (iz (bi b), h') ∧ RepC h' c p V ∧ S49 h' V ∧ KC c h0 h' := by
  unfold f_X6_wouldFound_137
  have e : cpI 100 h 48 (iz 0) (ar c 7) (iz 0) (iz 8) = some (wr h (ar c 7) (va_cpy (h.2.1 48) (h.2.1 (ar c 7)) 0 0 8)) := cp_wr S.2.2.1.2 (R.1.2 7 (by decide)).2 (by decide) (by decide) (by decide) (by decide) (by decide) (by decide) (by decide)
  refine ⟨wr h (ar c 7) (va_cpy (h.2.1 48) (h.2.1 (ar c 7)) 0 0 8), ?_, ?_, ?_, ?_⟩
  · simp only [↓k48 S, ↓kA7 R, il0, il1, il2, il3, il4, il5, il6, il7, il8, il9, il10, il11, il12, il13, il14, il15, il16, il17, il18, il19, il20, il21, il22, il23, il24, il25, il26, il27, il28, il29, il30, il31, il32, il33, il36, il38, il39, il40, il41, il48, il50, il51, il57, il59, il60, il61, il62, il63, il70, il96, il99, il100, il101, il102, il103, il104, il105, il106, il107, il108, il109, il110, il111, il112, il115, il116, il120, il121, il124, il200, il240, il255, il288, il360, il420, il999, il1000, il114292, il152755, il402789, il435589, il463922, il533611, il631470, ↓bo e]
    exact rz_bi
  · refine rep_wr R q (by decide) hV.1.symm hV.2.1.symm hV.2.2.1.symm (fun k hk => (hV.2.2.2 k ?_).symm) (fun _ j hj => ?_)
    · omega
    · have hj8 : j < 8 := hj
      unfold va_cpy
      rw [if_pos (by constructor; exact Nat.zero_le _; exact hj)]
      show h.2.1 48 (0 + j) = _
      rw [Nat.zero_add]
      exact s1 j hj8
  · intro j hj
    rw [wr_ne (ar_46 q (by decide) (by decide))]
    exact s2 j hj
  · exact K.tr (KC.wr (by simp))
theorem l_would_83 {h0 h : Mem} (w : WF V) (q : CP c p) (hN : 200 ≤ N) {s : Nat} (hs : s < 256) {t : Int} (ht : 0 ≤ t ∧ t < vT V) (R : RepC h c p (mv V s t (vF V))) (S : RS h) (s1 : S48 h V) (s2 : S49 h V) (K : KC c h0 h) (hg : gateB V s t (vF V) = true) : ∀ (d i n : Nat), i + d = vF V → d < n → ∃ h', f_X6_wouldFound_83 N n 46 c (iz s) (iz t) (iz (bi (raiseB V s t i))) (iz i) h = some (iz (bi (raiseB V s t (vF V))), h') ∧ RepC h' c p V ∧ S49 h' V ∧ KC c h0 h' := by
  intro d
  have hF := w.F
  have hT := w.T
  have hm := mv_TF (V := V) (s := s) (t := t) (vF V)
  have wm := mv_wf w (s := s) ht (vF V)
  induction d with
  | zero =>
    intro i n hi hn
    obtain ⟨n, rfl⟩ : ∃ k, n = k + 1 := ⟨n - 1, by omega⟩
    rw [f_X6_wouldFound_83]
    obtain rfl : i = vF V := by omega
    obtain ⟨h', e, r⟩ := l_would_137 (N := N) q R hm S s1 s2 K (raiseB V s t (vF V))
    refine ⟨h', ?_, r⟩
    simp (disch := omega) only [↓kC R, ↓kT R, ↓kF R, ↓kL R, ↓kLk R, ↓kL0 R, ↓kL1 R, ↓kL2 R, ↓kL3 R, ↓kL4 R, ↓kL5 R, ↓kA0 R, ↓kA1 R, ↓kA2 R, ↓kA3 R, ↓kA4 R, ↓kA5 R, ↓kA6 R, ↓kA7 R, ↓kA8 R, ↓kA9 R, ↓kX0 R, ↓kX1 R, ↓kX2 R, ↓kX3 R, ↓kX4 R, ↓kX5 R, ↓kX6 R, ↓kX7 R, ↓kX8 R, ↓kX1m R, ↓kY0 R, ↓kY1 R, ↓kY2 R, ↓kY0m R, ↓kY1m R, ↓reduceIte, hm.2.1, if_true, if_false, Option.bind_some, b2_some, il0, il1, il2, il3, il4, il5, il6, il7, il8, il9, il10, il11, il12, il13, il14, il15, il16, il17, il18, il19, il20, il21, il22, il23, il24, il25, il26, il27, il28, il29, il30, il31, il32, il33, il36, il38, il39, il40, il41, il48, il50, il51, il57, il59, il60, il61, il62, il63, il70, il96, il99, il100, il101, il102, il103, il104, il105, il106, il107, il108, il109, il110, il111, il112, il115, il116, il120, il121, il124, il200, il240, il255, il288, il360, il420, il999, il1000, il114292, il152755, il402789, il435589, il463922, il533611, il631470, iz_add, iz_sub, iz_mul, iz_neg, iz_le, iz_lt, iz_eq, Int.le_refl]
    exact e
  | succ d ih =>
    intro i n hi hn
    obtain ⟨n, rfl⟩ : ∃ k, n = k + 1 := ⟨n - 1, by omega⟩
    rw [f_X6_wouldFound_83]
    have hc : ¬ ((vF V : Int) ≤ i) := by omega
    cases hr : raiseB V s t i with
    | false =>
      have hr2 := raise_f (d + 1) i (vF V) hi hr
      obtain ⟨h', e, r⟩ := l_would_137 (N := N) q R hm S s1 s2 K false
      refine ⟨h', ?_, r⟩
      rw [hr2]
      simp (disch := omega) only [↓kC R, ↓kT R, ↓kF R, ↓kL R, ↓kLk R, ↓kL0 R, ↓kL1 R, ↓kL2 R, ↓kL3 R, ↓kL4 R, ↓kL5 R, ↓kA0 R, ↓kA1 R, ↓kA2 R, ↓kA3 R, ↓kA4 R, ↓kA5 R, ↓kA6 R, ↓kA7 R, ↓kA8 R, ↓kA9 R, ↓kX0 R, ↓kX1 R, ↓kX2 R, ↓kX3 R, ↓kX4 R, ↓kX5 R, ↓kX6 R, ↓kX7 R, ↓kX8 R, ↓kX1m R, ↓kY0 R, ↓kY1 R, ↓kY2 R, ↓kY0m R, ↓kY1m R, ↓reduceIte, hm.2.1, if_true, if_false, Option.bind_some, b2_some, il0, il1, il2, il3, il4, il5, il6, il7, il8, il9, il10, il11, il12, il13, il14, il15, il16, il17, il18, il19, il20, il21, il22, il23, il24, il25, il26, il27, il28, il29, il30, il31, il32, il33, il36, il38, il39, il40, il41, il48, il50, il51, il57, il59, il60, il61, il62, il63, il70, il96, il99, il100, il101, il102, il103, il104, il105, il106, il107, il108, il109, il110, il111, il112, il115, il116, il120, il121, il124, il200, il240, il255, il288, il360, il420, il999, il1000, il114292, il152755, il402789, il435589, il463922, il533611, il631470, iz_add, iz_sub, iz_mul, iz_neg, iz_le, iz_lt, iz_eq, hc]
      exact e
    | true =>
      obtain ⟨h', e, r⟩ := ih (i + 1) n (by omega) (by omega)
      refine ⟨h', ?_, r⟩
      have hb := bt_dec s hs i (by omega)
      have h3 : ¬ ((1 : Int) = 0) := by decide
      have h4 : ¬ ((0 : Int) = 1) := by decide
      have hwi := w.i (j := i) (by omega) (by omega)
      have hwf := w.f (j := i) (by omega) (by omega)
      have hwo := l_worth R wm hN (f := i) (t := t) (by rw [hm.2.1]; omega) (by omega)
      have hw1 := worth_bd wm (f := i) (t := t) (by omega) (by omega)
      have hw0 := worth_bd w (f := i) (t := va V 7 i) (by omega) (by omega)
      rw [raise_s, hr] at e
      cases hbt : bt s i with
      | false =>
        rw [hbt] at hb e
        simp (disch := omega) only [↓kC R, ↓kT R, ↓kF R, ↓kL R, ↓kLk R, ↓kL0 R, ↓kL1 R, ↓kL2 R, ↓kL3 R, ↓kL4 R, ↓kL5 R, ↓kA0 R, ↓kA1 R, ↓kA2 R, ↓kA3 R, ↓kA4 R, ↓kA5 R, ↓kA6 R, ↓kA7 R, ↓kA8 R, ↓kA9 R, ↓kX0 R, ↓kX1 R, ↓kX2 R, ↓kX3 R, ↓kX4 R, ↓kX5 R, ↓kX6 R, ↓kX7 R, ↓kX8 R, ↓kX1m R, ↓kY0 R, ↓kY1 R, ↓kY2 R, ↓kY0m R, ↓kY1m R, ↓reduceIte, hm.2.1, if_true, if_false, Option.bind_some, b2_some, il0, il1, il2, il3, il4, il5, il6, il7, il8, il9, il10, il11, il12, il13, il14, il15, il16, il17, il18, il19, il20, il21, il22, il23, il24, il25, il26, il27, il28, il29, il30, il31, il32, il33, il36, il38, il39, il40, il41, il48, il50, il51, il57, il59, il60, il61, il62, il63, il70, il96, il99, il100, il101, il102, il103, il104, il105, il106, il107, il108, il109, il110, il111, il112, il115, il116, il120, il121, il124, il200, il240, il255, il288, il360, il420, il999, il1000, il114292, il152755, il402789, il435589, il463922, il533611, il631470, iz_add, iz_sub, iz_mul, iz_neg, iz_le, iz_lt, iz_eq, hc, hb, bi, h3, h4]
        simpa [bi] using e
      | true =>
        rw [hbt] at hb e
        by_cases h1 : worth V i (va V 7 i) < worth (mv V s t (vF V)) i t
        · have h2 : ¬ (worth (mv V s t (vF V)) i t ≤ worth V i (va V 7 i)) := by omega
          simp (disch := omega) only [↓kC R, ↓kT R, ↓kF R, ↓kL R, ↓kLk R, ↓kL0 R, ↓kL1 R, ↓kL2 R, ↓kL3 R, ↓kL4 R, ↓kL5 R, ↓kA0 R, ↓kA1 R, ↓kA2 R, ↓kA3 R, ↓kA4 R, ↓kA5 R, ↓kA6 R, ↓kA7 R, ↓kA8 R, ↓kA9 R, ↓kX0 R, ↓kX1 R, ↓kX2 R, ↓kX3 R, ↓kX4 R, ↓kX5 R, ↓kX6 R, ↓kX7 R, ↓kX8 R, ↓kX1m R, ↓kY0 R, ↓kY1 R, ↓kY2 R, ↓kY0m R, ↓kY1m R, ↓reduceIte, hm.2.1, if_true, if_false, Option.bind_some, b2_some, il0, il1, il2, il3, il4, il5, il6, il7, il8, il9, il10, il11, il12, il13, il14, il15, il16, il17, il18, il19, il20, il21, il22, il23, il24, il25, il26, il27, il28, il29, il30, il31, il32, il33, il36, il38, il39, il40, il41, il48, il50, il51, il57, il59, il60, il61, il62, il63, il70, il96, il99, il100, il101, il102, il103, il104, il105, il106, il107, il108, il109, il110, il111, il112, il115, il116, il120, il121, il124, il200, il240, il255, il288, il360, il420, il999, il1000, il114292, il152755, il402789, il435589, il463922, il533611, il631470, iz_add, iz_sub, iz_mul, iz_neg, iz_le, iz_lt, iz_eq, hc, hb, bi, h3, ↓bq hwo, ↓k49 S, ↓kW49 S, s2 i (by omega), h2, f_X6_wouldFound_129, toN]
          simpa [bi, h1] using e
        · have h2 : worth (mv V s t (vF V)) i t ≤ worth V i (va V 7 i) := by omega
          simp (disch := omega) only [↓kC R, ↓kT R, ↓kF R, ↓kL R, ↓kLk R, ↓kL0 R, ↓kL1 R, ↓kL2 R, ↓kL3 R, ↓kL4 R, ↓kL5 R, ↓kA0 R, ↓kA1 R, ↓kA2 R, ↓kA3 R, ↓kA4 R, ↓kA5 R, ↓kA6 R, ↓kA7 R, ↓kA8 R, ↓kA9 R, ↓kX0 R, ↓kX1 R, ↓kX2 R, ↓kX3 R, ↓kX4 R, ↓kX5 R, ↓kX6 R, ↓kX7 R, ↓kX8 R, ↓kX1m R, ↓kY0 R, ↓kY1 R, ↓kY2 R, ↓kY0m R, ↓kY1m R, ↓reduceIte, hm.2.1, if_true, if_false, Option.bind_some, b2_some, il0, il1, il2, il3, il4, il5, il6, il7, il8, il9, il10, il11, il12, il13, il14, il15, il16, il17, il18, il19, il20, il21, il22, il23, il24, il25, il26, il27, il28, il29, il30, il31, il32, il33, il36, il38, il39, il40, il41, il48, il50, il51, il57, il59, il60, il61, il62, il63, il70, il96, il99, il100, il101, il102, il103, il104, il105, il106, il107, il108, il109, il110, il111, il112, il115, il116, il120, il121, il124, il200, il240, il255, il288, il360, il420, il999, il1000, il114292, il152755, il402789, il435589, il463922, il533611, il631470, iz_add, iz_sub, iz_mul, iz_neg, iz_le, iz_lt, iz_eq, hc, hb, bi, h3, ↓bq hwo, ↓k49 S, ↓kW49 S, s2 i (by omega), h2, f_X6_wouldFound_129, toN]
          simpa [bi, h1] using e
theorem l_would_21 {h0 : Mem} (w : WF V) (q : CP c p) (hN : 200 ≤ N) {s : Nat} (hs : s < 256) {t : Int} (ht : 0 ≤ t ∧ t < vT V) : ∀ (d i n : Nat) (h : Mem), i + d = vF V → d < n → RepC h c p (mv V s t i) → RS h → S48 h V → S49 h V → KC c h0 h → ∃ h', f_X6_wouldFound_21 N n 46 c (iz s) (iz t) (iz (bi (gateB V s t i))) (iz i) h = some (iz (bi (wouldB V s t)), h') ∧ RepC h' c p V ∧ S49 h' V ∧ KC c h0 h' := by
  intro d
  have hF := w.F
  have hT := w.T
  induction d with
  | zero =>
    intro i n h hi hn R S s1 s2 K
    obtain ⟨n, rfl⟩ : ∃ k, n = k + 1 := ⟨n - 1, by omega⟩
    rw [f_X6_wouldFound_21]
    obtain rfl : i = vF V := by omega
    have hm := mv_TF (V := V) (s := s) (t := t) (vF V)
    cases hg : gateB V s t (vF V) with
    | true =>
      obtain ⟨h', e, r⟩ := l_would_83 w q hN hs ht R S s1 s2 K hg (vF V) 0 N (by omega) (by omega)
      refine ⟨h', ?_, r⟩
      rw [wouldB, hg, Bool.true_and]
      simp (disch := omega) only [↓kC R, ↓kT R, ↓kF R, ↓kL R, ↓kLk R, ↓kL0 R, ↓kL1 R, ↓kL2 R, ↓kL3 R, ↓kL4 R, ↓kL5 R, ↓kA0 R, ↓kA1 R, ↓kA2 R, ↓kA3 R, ↓kA4 R, ↓kA5 R, ↓kA6 R, ↓kA7 R, ↓kA8 R, ↓kA9 R, ↓kX0 R, ↓kX1 R, ↓kX2 R, ↓kX3 R, ↓kX4 R, ↓kX5 R, ↓kX6 R, ↓kX7 R, ↓kX8 R, ↓kX1m R, ↓kY0 R, ↓kY1 R, ↓kY2 R, ↓kY0m R, ↓kY1m R, ↓reduceIte, hm.2.1, if_true, if_false, Option.bind_some, b2_some, il0, il1, il2, il3, il4, il5, il6, il7, il8, il9, il10, il11, il12, il13, il14, il15, il16, il17, il18, il19, il20, il21, il22, il23, il24, il25, il26, il27, il28, il29, il30, il31, il32, il33, il36, il38, il39, il40, il41, il48, il50, il51, il57, il59, il60, il61, il62, il63, il70, il96, il99, il100, il101, il102, il103, il104, il105, il106, il107, il108, il109, il110, il111, il112, il115, il116, il120, il121, il124, il200, il240, il255, il288, il360, il420, il999, il1000, il114292, il152755, il402789, il435589, il463922, il533611, il631470, iz_add, iz_sub, iz_mul, iz_neg, iz_le, iz_lt, iz_eq, Int.le_refl]
      exact e
    | false =>
      obtain ⟨h', e, r⟩ := l_would_137 (N := N) q R hm S s1 s2 K false
      refine ⟨h', ?_, r⟩
      rw [wouldB, hg, Bool.false_and]
      obtain ⟨N, rfl⟩ : ∃ k, N = k + 1 := ⟨N - 1, by omega⟩
      simp (disch := omega) only [↓kC R, ↓kT R, ↓kF R, ↓kL R, ↓kLk R, ↓kL0 R, ↓kL1 R, ↓kL2 R, ↓kL3 R, ↓kL4 R, ↓kL5 R, ↓kA0 R, ↓kA1 R, ↓kA2 R, ↓kA3 R, ↓kA4 R, ↓kA5 R, ↓kA6 R, ↓kA7 R, ↓kA8 R, ↓kA9 R, ↓kX0 R, ↓kX1 R, ↓kX2 R, ↓kX3 R, ↓kX4 R, ↓kX5 R, ↓kX6 R, ↓kX7 R, ↓kX8 R, ↓kX1m R, ↓kY0 R, ↓kY1 R, ↓kY2 R, ↓kY0m R, ↓kY1m R, ↓reduceIte, hm.2.1, if_true, if_false, Option.bind_some, b2_some, il0, il1, il2, il3, il4, il5, il6, il7, il8, il9, il10, il11, il12, il13, il14, il15, il16, il17, il18, il19, il20, il21, il22, il23, il24, il25, il26, il27, il28, il29, il30, il31, il32, il33, il36, il38, il39, il40, il41, il48, il50, il51, il57, il59, il60, il61, il62, il63, il70, il96, il99, il100, il101, il102, il103, il104, il105, il106, il107, il108, il109, il110, il111, il112, il115, il116, il120, il121, il124, il200, il240, il255, il288, il360, il420, il999, il1000, il114292, il152755, il402789, il435589, il463922, il533611, il631470, iz_add, iz_sub, iz_mul, iz_neg, iz_le, iz_lt, iz_eq, Int.le_refl]
      rw [f_X6_wouldFound_83]
      by_cases h0 : (vF V : Int) ≤ 0
      · simp (disch := omega) only [↓kC R, ↓kT R, ↓kF R, ↓kL R, ↓kLk R, ↓kL0 R, ↓kL1 R, ↓kL2 R, ↓kL3 R, ↓kL4 R, ↓kL5 R, ↓kA0 R, ↓kA1 R, ↓kA2 R, ↓kA3 R, ↓kA4 R, ↓kA5 R, ↓kA6 R, ↓kA7 R, ↓kA8 R, ↓kA9 R, ↓kX0 R, ↓kX1 R, ↓kX2 R, ↓kX3 R, ↓kX4 R, ↓kX5 R, ↓kX6 R, ↓kX7 R, ↓kX8 R, ↓kX1m R, ↓kY0 R, ↓kY1 R, ↓kY2 R, ↓kY0m R, ↓kY1m R, ↓reduceIte, hm.2.1, if_true, if_false, Option.bind_some, b2_some, il0, il1, il2, il3, il4, il5, il6, il7, il8, il9, il10, il11, il12, il13, il14, il15, il16, il17, il18, il19, il20, il21, il22, il23, il24, il25, il26, il27, il28, il29, il30, il31, il32, il33, il36, il38, il39, il40, il41, il48, il50, il51, il57, il59, il60, il61, il62, il63, il70, il96, il99, il100, il101, il102, il103, il104, il105, il106, il107, il108, il109, il110, il111, il112, il115, il116, il120, il121, il124, il200, il240, il255, il288, il360, il420, il999, il1000, il114292, il152755, il402789, il435589, il463922, il533611, il631470, iz_add, iz_sub, iz_mul, iz_neg, iz_le, iz_lt, iz_eq, h0]
        exact e
      · simp (disch := omega) only [↓kC R, ↓kT R, ↓kF R, ↓kL R, ↓kLk R, ↓kL0 R, ↓kL1 R, ↓kL2 R, ↓kL3 R, ↓kL4 R, ↓kL5 R, ↓kA0 R, ↓kA1 R, ↓kA2 R, ↓kA3 R, ↓kA4 R, ↓kA5 R, ↓kA6 R, ↓kA7 R, ↓kA8 R, ↓kA9 R, ↓kX0 R, ↓kX1 R, ↓kX2 R, ↓kX3 R, ↓kX4 R, ↓kX5 R, ↓kX6 R, ↓kX7 R, ↓kX8 R, ↓kX1m R, ↓kY0 R, ↓kY1 R, ↓kY2 R, ↓kY0m R, ↓kY1m R, ↓reduceIte, hm.2.1, if_true, if_false, Option.bind_some, b2_some, il0, il1, il2, il3, il4, il5, il6, il7, il8, il9, il10, il11, il12, il13, il14, il15, il16, il17, il18, il19, il20, il21, il22, il23, il24, il25, il26, il27, il28, il29, il30, il31, il32, il33, il36, il38, il39, il40, il41, il48, il50, il51, il57, il59, il60, il61, il62, il63, il70, il96, il99, il100, il101, il102, il103, il104, il105, il106, il107, il108, il109, il110, il111, il112, il115, il116, il120, il121, il124, il200, il240, il255, il288, il360, il420, il999, il1000, il114292, il152755, il402789, il435589, il463922, il533611, il631470, iz_add, iz_sub, iz_mul, iz_neg, iz_le, iz_lt, iz_eq, h0, bi, Bool.false_eq_true]
        exact e
  | succ d ih =>
    intro i n h hi hn R S s1 s2 K
    obtain ⟨n, rfl⟩ : ∃ k, n = k + 1 := ⟨n - 1, by omega⟩
    rw [f_X6_wouldFound_21]
    have hm := mv_TF (V := V) (s := s) (t := t) i
    have hc : ¬ ((vF V : Int) ≤ i) := by omega
    have hwf := w.f (j := i) (by omega) (by omega)
    have hwt := w.t (j := t) (by omega) (by omega)
    have hb := bt_dec s hs i (by omega)
    have h3 : ¬ ((0 : Int) = 1) := by decide
    have m3 : va (mv V s t i) 3 = va V 3 := hm.2.2.2 3 (by decide)
    have m6 : va (mv V s t i) 6 = va V 6 := hm.2.2.2 6 (by decide)
    cases hbt : bt s i with
    | false =>
      rw [hbt] at hb
      have e1 : mv V s t (i + 1) = mv V s t i := by rw [mv, hbt]; rfl
      have e2 : gateB V s t (i + 1) = gateB V s t i := by rw [gate_s, hbt]; simp
      obtain ⟨h', e, r⟩ := ih (i + 1) n h (by omega) (by omega) (by rw [e1]; exact R) S s1 s2 K
      refine ⟨h', ?_, r⟩
      rw [e2] at e
      simp (disch := omega) only [↓kC R, ↓kT R, ↓kF R, ↓kL R, ↓kLk R, ↓kL0 R, ↓kL1 R, ↓kL2 R, ↓kL3 R, ↓kL4 R, ↓kL5 R, ↓kA0 R, ↓kA1 R, ↓kA2 R, ↓kA3 R, ↓kA4 R, ↓kA5 R, ↓kA6 R, ↓kA7 R, ↓kA8 R, ↓kA9 R, ↓kX0 R, ↓kX1 R, ↓kX2 R, ↓kX3 R, ↓kX4 R, ↓kX5 R, ↓kX6 R, ↓kX7 R, ↓kX8 R, ↓kX1m R, ↓kY0 R, ↓kY1 R, ↓kY2 R, ↓kY0m R, ↓kY1m R, ↓reduceIte, hm.2.1, if_true, if_false, Option.bind_some, b2_some, il0, il1, il2, il3, il4, il5, il6, il7, il8, il9, il10, il11, il12, il13, il14, il15, il16, il17, il18, il19, il20, il21, il22, il23, il24, il25, il26, il27, il28, il29, il30, il31, il32, il33, il36, il38, il39, il40, il41, il48, il50, il51, il57, il59, il60, il61, il62, il63, il70, il96, il99, il100, il101, il102, il103, il104, il105, il106, il107, il108, il109, il110, il111, il112, il115, il116, il120, il121, il124, il200, il240, il255, il288, il360, il420, il999, il1000, il114292, il152755, il402789, il435589, il463922, il533611, il631470, iz_add, iz_sub, iz_mul, iz_neg, iz_le, iz_lt, iz_eq, hc, hb, bi, h3, Bool.false_eq_true]
      simpa [bi] using e
    | true =>
      rw [hbt] at hb
      have e1 : mv V s t (i + 1) = vset (mv V s t i) 7 i t := by rw [mv, if_pos hbt]
      have e2 : gateB V s t (i + 1) = (gateB V s t i && decide (va V 3 t ≤ va V 6 i)) := by rw [gate_s, hbt]; simp
      have R1 := rep_set R q (k := 7) (j := i) (x := t) (by decide) (by omega) (by show (i : Int) < (8 : Int); omega)
      have S1 : RS (wr h (ar c 7) (upd (h.2.1 (ar c 7)) (Int.toNat i) (iz t))) := S.eq rfl rfl
      have n8 : (wr h (ar c 7) (upd (h.2.1 (ar c 7)) (Int.toNat i) (iz t))).2.1 48 = h.2.1 48 := wr_ne (ar_46 q (by decide) (by decide))
      have n9 : (wr h (ar c 7) (upd (h.2.1 (ar c 7)) (Int.toNat i) (iz t))).2.1 49 = h.2.1 49 := wr_ne (ar_46 q (by decide) (by decide))
      obtain ⟨h', e, r⟩ := ih (i + 1) n _ (by omega) (by omega) (by rw [e1]; exact R1) S1 (fun j hj => by rw [n8]; exact s1 j hj) (fun j hj => by rw [n9]; exact s2 j hj) (K.tr (KC.wr (by simp)))
      refine ⟨h', ?_, r⟩
      rw [e2] at e
      by_cases h1 : va V 6 i < va V 3 t
      · have h2 : ¬ (va V 3 t ≤ va V 6 i) := by omega
        rw [show decide (va V 3 t ≤ va V 6 i) = false by simp [h2]] at e
        simp (disch := omega) only [↓kC R, ↓kT R, ↓kF R, ↓kL R, ↓kLk R, ↓kL0 R, ↓kL1 R, ↓kL2 R, ↓kL3 R, ↓kL4 R, ↓kL5 R, ↓kA0 R, ↓kA1 R, ↓kA2 R, ↓kA3 R, ↓kA4 R, ↓kA5 R, ↓kA6 R, ↓kA7 R, ↓kA8 R, ↓kA9 R, ↓kX0 R, ↓kX1 R, ↓kX2 R, ↓kX3 R, ↓kX4 R, ↓kX5 R, ↓kX6 R, ↓kX7 R, ↓kX8 R, ↓kX1m R, ↓kY0 R, ↓kY1 R, ↓kY2 R, ↓kY0m R, ↓kY1m R, ↓reduceIte, hm.2.1, m3, m6, if_true, if_false, Option.bind_some, b2_some, il0, il1, il2, il3, il4, il5, il6, il7, il8, il9, il10, il11, il12, il13, il14, il15, il16, il17, il18, il19, il20, il21, il22, il23, il24, il25, il26, il27, il28, il29, il30, il31, il32, il33, il36, il38, il39, il40, il41, il48, il50, il51, il57, il59, il60, il61, il62, il63, il70, il96, il99, il100, il101, il102, il103, il104, il105, il106, il107, il108, il109, il110, il111, il112, il115, il116, il120, il121, il124, il200, il240, il255, il288, il360, il420, il999, il1000, il114292, il152755, il402789, il435589, il463922, il533611, il631470, iz_add, iz_sub, iz_mul, iz_neg, iz_le, iz_lt, iz_eq, hc, hb, bi_t, h1]
        rw [f_X6_wouldFound_63]
        simp (disch := omega) only [↓kC R, ↓kT R, ↓kF R, ↓kL R, ↓kLk R, ↓kL0 R, ↓kL1 R, ↓kL2 R, ↓kL3 R, ↓kL4 R, ↓kL5 R, ↓kA0 R, ↓kA1 R, ↓kA2 R, ↓kA3 R, ↓kA4 R, ↓kA5 R, ↓kA6 R, ↓kA7 R, ↓kA8 R, ↓kA9 R, ↓kX0 R, ↓kX1 R, ↓kX2 R, ↓kX3 R, ↓kX4 R, ↓kX5 R, ↓kX6 R, ↓kX7 R, ↓kX8 R, ↓kX1m R, ↓kY0 R, ↓kY1 R, ↓kY2 R, ↓kY0m R, ↓kY1m R, ↓reduceIte, ↓kS7 R, il0, il1, il2, il3, il4, il5, il6, il7, il8, il9, il10, il11, il12, il13, il14, il15, il16, il17, il18, il19, il20, il21, il22, il23, il24, il25, il26, il27, il28, il29, il30, il31, il32, il33, il36, il38, il39, il40, il41, il48, il50, il51, il57, il59, il60, il61, il62, il63, il70, il96, il99, il100, il101, il102, il103, il104, il105, il106, il107, il108, il109, il110, il111, il112, il115, il116, il120, il121, il124, il200, il240, il255, il288, il360, il420, il999, il1000, il114292, il152755, il402789, il435589, il463922, il533611, il631470, iz_add]
        rw [← bi_and] at e
        exact e
      · have h2 : va V 3 t ≤ va V 6 i := by omega
        rw [show decide (va V 3 t ≤ va V 6 i) = true by simp [h2]] at e
        simp (disch := omega) only [↓kC R, ↓kT R, ↓kF R, ↓kL R, ↓kLk R, ↓kL0 R, ↓kL1 R, ↓kL2 R, ↓kL3 R, ↓kL4 R, ↓kL5 R, ↓kA0 R, ↓kA1 R, ↓kA2 R, ↓kA3 R, ↓kA4 R, ↓kA5 R, ↓kA6 R, ↓kA7 R, ↓kA8 R, ↓kA9 R, ↓kX0 R, ↓kX1 R, ↓kX2 R, ↓kX3 R, ↓kX4 R, ↓kX5 R, ↓kX6 R, ↓kX7 R, ↓kX8 R, ↓kX1m R, ↓kY0 R, ↓kY1 R, ↓kY2 R, ↓kY0m R, ↓kY1m R, ↓reduceIte, hm.2.1, m3, m6, if_true, if_false, Option.bind_some, b2_some, il0, il1, il2, il3, il4, il5, il6, il7, il8, il9, il10, il11, il12, il13, il14, il15, il16, il17, il18, il19, il20, il21, il22, il23, il24, il25, il26, il27, il28, il29, il30, il31, il32, il33, il36, il38, il39, il40, il41, il48, il50, il51, il57, il59, il60, il61, il62, il63, il70, il96, il99, il100, il101, il102, il103, il104, il105, il106, il107, il108, il109, il110, il111, il112, il115, il116, il120, il121, il124, il200, il240, il255, il288, il360, il420, il999, il1000, il114292, il152755, il402789, il435589, il463922, il533611, il631470, iz_add, iz_sub, iz_mul, iz_neg, iz_le, iz_lt, iz_eq, hc, hb, bi_t, h1]
        rw [f_X6_wouldFound_63]
        simp (disch := omega) only [↓kC R, ↓kT R, ↓kF R, ↓kL R, ↓kLk R, ↓kL0 R, ↓kL1 R, ↓kL2 R, ↓kL3 R, ↓kL4 R, ↓kL5 R, ↓kA0 R, ↓kA1 R, ↓kA2 R, ↓kA3 R, ↓kA4 R, ↓kA5 R, ↓kA6 R, ↓kA7 R, ↓kA8 R, ↓kA9 R, ↓kX0 R, ↓kX1 R, ↓kX2 R, ↓kX3 R, ↓kX4 R, ↓kX5 R, ↓kX6 R, ↓kX7 R, ↓kX8 R, ↓kX1m R, ↓kY0 R, ↓kY1 R, ↓kY2 R, ↓kY0m R, ↓kY1m R, ↓reduceIte, ↓kS7 R, il0, il1, il2, il3, il4, il5, il6, il7, il8, il9, il10, il11, il12, il13, il14, il15, il16, il17, il18, il19, il20, il21, il22, il23, il24, il25, il26, il27, il28, il29, il30, il31, il32, il33, il36, il38, il39, il40, il41, il48, il50, il51, il57, il59, il60, il61, il62, il63, il70, il96, il99, il100, il101, il102, il103, il104, il105, il106, il107, il108, il109, il110, il111, il112, il115, il116, il120, il121, il124, il200, il240, il255, il288, il360, il420, il999, il1000, il114292, il152755, il402789, il435589, il463922, il533611, il631470, iz_add]
        rw [← bi_and] at e
        exact e
theorem l_would {h0 h : Mem} (w : WF V) (q : CP c p) (hN : 200 ≤ N) {s : Nat} (hs : s < 256) {t : Int} (ht : 0 ≤ t ∧ t < vT V) (R : RepC h c p V) (S : RS h) (s2 : S49 h V) (K : KC c h0 h) : ∃ h', f_X6_wouldFound N 46 c (iz s) (iz t) h = some (iz (bi (wouldB V s t)), h') ∧ RepC h' c p V ∧ S49 h' V ∧ KC c h0 h' := by
  have hF := w.F
  have e : cpI 100 h (ar c 7) (iz 0) 48 (iz 0) (iz 8) = some (wr h 48 (va_cpy (h.2.1 (ar c 7)) (h.2.1 48) 0 0 8)) := cp_wr (R.1.2 7 (by decide)).2 S.2.2.1.2 (by decide) (by decide) (by decide) (by decide) (by decide) (by decide) (by decide)
  have R1 := rep_oth (a := 48) (row := va_cpy (h.2.1 (ar c 7)) (h.2.1 48) 0 0 8) R q (by decide)
  have S1 : RS (wr h 48 (va_cpy (h.2.1 (ar c 7)) (h.2.1 48) 0 0 8)) := S.eq rfl rfl
  have t1 : S48 (wr h 48 (va_cpy (h.2.1 (ar c 7)) (h.2.1 48) 0 0 8)) V := by
    intro j hj
    rw [wr_eq]
    unfold va_cpy
    rw [if_pos (by constructor; exact Nat.zero_le _; exact hj)]
    show h.2.1 (ar c 7) (0 + j) = _
    rw [Nat.zero_add]
    exact R.2.2.2.1 7 (by decide) j hj
  have t2 : S49 (wr h 48 (va_cpy (h.2.1 (ar c 7)) (h.2.1 48) 0 0 8)) V := by
    intro j hj
    rw [wr_ne (by decide)]
    exact s2 j hj
  obtain ⟨h', e', r⟩ := l_would_21 w q hN hs ht (vF V) 0 N _ (by omega) (by omega) R1 S1 t1 t2 (K.tr (KC.wr (by simp)))
  refine ⟨h', ?_, r⟩
  unfold f_X6_wouldFound
  simp only [↓k48 S, ↓kA7 R, il0, il1, il2, il3, il4, il5, il6, il7, il8, il9, il10, il11, il12, il13, il14, il15, il16, il17, il18, il19, il20, il21, il22, il23, il24, il25, il26, il27, il28, il29, il30, il31, il32, il33, il36, il38, il39, il40, il41, il48, il50, il51, il57, il59, il60, il61, il62, il63, il70, il96, il99, il100, il101, il102, il103, il104, il105, il106, il107, il108, il109, il110, il111, il112, il115, il116, il120, il121, il124, il200, il240, il255, il288, il360, il420, il999, il1000, il114292, il152755, il402789, il435589, il463922, il533611, il631470, ↓bo e]
  exact e'
end
