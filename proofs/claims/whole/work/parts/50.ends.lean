/-- the states that strides lead through -/
def ste (V : Vw) (v : Int) : Nat → Vw
  | 0 => V
  | n + 1 => strideV (ste V v n) v
def bkP (V : Vw) (v : Int) (i b : Nat) : Bool := decide (imp (ste V v (i - b)) = imp (ste V v i))
def endN (V : Vw) (v : Int) (i : Nat) : Option (Int × Nat) := if strideR (ste V v i) v = -6 then some ((i : Int), i + 1) else (fs (bkP V v (i + 1)) 1 (i + 1)).map (fun b => (100 + (b : Int), i + 1))
def endT (V : Vw) (v : Int) : Nat → Nat → Int × Nat
  | i, 0 => (200, i)
  | i, d + 1 => (endN V v i).getD (endT V v (i + 1) d)
def endS (V : Vw) (v : Int) : Int := (endT V v 0 20).1
def endV (V : Vw) (v : Int) : Vw := ste V v (endT V v 0 20).2
theorem goV_TF {V : Vw} : vT (goV V) = vT V ∧ vF (goV V) = vF V ∧ vs (goV V) = vs V ∧ ∀ k, k ≠ 7 → va (goV V) k = va V k := by
  unfold goV
  split
  · exact ⟨rfl, rfl, rfl, fun k hk => vset_ne hk⟩
  · exact ⟨rfl, rfl, rfl, fun _ _ => rfl⟩
theorem goV_wf {V : Vw} (w : WF V) : WF (goV V) := by
  unfold goV
  split
  · rename_i f hf
    have h1 := goer_lt hf
    have h2 := bet_bd (V := V) (f := f) (vT V)
    exact wf_at w ⟨h1.2.2, by omega⟩
  · exact w
theorem strideV_TF {V : Vw} (v : Int) : vT (strideV V v) = vT V ∧ vF (strideV V v) = vF V ∧ vs (strideV V v) = vs V ∧ ∀ k, k ≠ 1 → k ≠ 7 → va (strideV V v) k = va V k := by
  have h1 := goV_TF (V := V)
  unfold strideV
  split
  · exact ⟨h1.1, h1.2.1, h1.2.2.1, fun k _ hk => h1.2.2.2 k hk⟩
  · have h2 := votes_TF (V := goV V) (vT V)
    exact ⟨h2.1.trans h1.1, h2.2.1.trans h1.2.1, h2.2.2.1.trans h1.2.2.1, fun k h3 h4 => (h2.2.2.2 k h3).trans (h1.2.2.2 k h4)⟩
theorem strideV_wf {V : Vw} (w : WF V) (v : Int) : WF (strideV V v) := by
  unfold strideV
  split
  · exact goV_wf w
  · exact votes_wf (goV_wf w) _
theorem ste_wf {V : Vw} (w : WF V) (v : Int) : ∀ n, WF (ste V v n) := by
  intro n
  induction n with
  | zero => exact w
  | succ n ih => exact strideV_wf ih v
theorem ste_TF {V : Vw} (v : Int) : ∀ n, vT (ste V v n) = vT V ∧ vF (ste V v n) = vF V ∧ vs (ste V v n) = vs V ∧ ∀ k, k ≠ 1 → k ≠ 7 → va (ste V v n) k = va V k := by
  intro n
  induction n with
  | zero => exact ⟨rfl, rfl, rfl, fun _ _ _ => rfl⟩
  | succ n ih =>
    have h := strideV_TF (V := ste V v n) v
    exact ⟨h.1.trans ih.1, h.2.1.trans ih.2.1, h.2.2.1.trans ih.2.2.1, fun k h1 h2 => (h.2.2.2 k h1 h2).trans (ih.2.2.2 k h1 h2)⟩
theorem endT_s {V : Vw} {v : Int} {i d : Nat} : endT V v i (d + 1) = (endN V v i).getD (endT V v (i + 1) d) := rfl
theorem endN_i {V : Vw} {v : Int} {i : Nat} {q : Int × Nat} (h : endN V v i = some q) : q.2 = i + 1 ∧ 0 ≤ q.1 ∧ q.1 ≤ 101 + i := by
  unfold endN at h
  by_cases h1 : strideR (ste V v i) v = -6
  · rw [if_pos h1] at h
    cases h
    exact ⟨rfl, by dsimp only; omega, by dsimp only; omega⟩
  · rw [if_neg h1] at h
    cases hb : fs (bkP V v (i + 1)) 1 (i + 1) with
    | none => rw [hb] at h; cases h
    | some b =>
      have := fs_lt _ _ _ hb
      rw [hb] at h
      cases h
      exact ⟨rfl, by dsimp only; omega, by dsimp only; omega⟩
theorem endT_i {V : Vw} {v : Int} : ∀ d i, (endT V v i d).2 ≤ i + d ∧ 0 ≤ (endT V v i d).1 ∧ ((endT V v i d).1 = 200 ∨ (endT V v i d).1 ≤ 100 + i + d) := by
  intro d
  induction d with
  | zero => intro i; exact ⟨Nat.le_refl _, by show (0 : Int) ≤ 200; omega, Or.inl rfl⟩
  | succ d ih =>
    intro i
    rw [endT_s]
    cases h : endN V v i with
    | some q =>
      have := endN_i h
      rw [Option.getD_some]
      omega
    | none =>
      have h2 := ih (i + 1)
      rw [Option.getD_none]
      generalize endT V v (i + 1) d = q at h2 ⊢
      omega
def WK (h : Mem) : Prop := h.1[50]? = some (8, 0) ∧ h.2.2.2 50 0 = some 51 ∧ h.1[51]? = some (103, 21)
theorem WK.eq {h h' : Mem} (r : WK h) (e1 : h'.1 = h.1) (e2 : h'.2.2.2 = h.2.2.2) : WK h' := by unfold WK at *; rw [e1, e2]; exact r
def wJ (h : Mem) (a : Nat) (row : Nat → Int64) : Mem := (h.1, h.2.1, z2 h.2.2.1 a row, h.2.2.2)
theorem wJ_eq {h : Mem} {a : Nat} {row : Nat → Int64} : (wJ h a row).2.2.1 a = row := z2_eq
theorem wJ_ne {h : Mem} {a i : Nat} {row : Nat → Int64} (hi : i ≠ a) : (wJ h a row).2.2.1 i = h.2.2.1 i := z2_ne hi
theorem u2_z2 {α : Type} {f : Nat → Nat → α} {a k : Nat} {v : α} : u2 f a k v = z2 f a (fun j => if j = k then v else f a j) := rfl
section
variable {c p : Nat} {V : Vw} {N : Nat}
theorem k50 {h : Mem} {γ : Type} {k : Nat → Option γ} (W : WK h) : (gR h 50 8 0).bind k = k 51 := bo (gR_q W.1 W.2.1)
theorem k50c {h : Mem} {γ : Type} {k : Unit → Option γ} (W : WK h) : (ck h 50 8).bind k = k () := bo (ck_q W.1)
theorem kL51 {h : Mem} {γ : Type} {z : Int} {k : Int64 → Option γ} (W : WK h) (h0 : 0 ≤ z) (h1 : z < 21) : (lJ h 51 (iz z)).bind k = k (h.2.2.1 51 z.toNat) := bo (lJ_q W.2.2 h0 h1 (by decide))
theorem kS51 {h : Mem} {γ : Type} {z : Int} {v : Int64} {k : Mem → Option γ} (W : WK h) (h0 : 0 ≤ z) (h1 : z < 21) : (stJ h 51 (iz z) v).bind k = k (wJ h 51 (fun j => if j = z.toNat then v else h.2.2.1 51 j)) := bo (stJ_q W.2.2 h0 h1 (by decide))
theorem rep_J {h : Mem} {a : Nat} {row : Nat → Int64} (R : RepC h c p V) : RepC (wJ h a row) c p V := R
theorem l_on_46 {h : Mem} (w : WF V) (W : WK h) {v : Int} {I : Nat} (hI : I ≤ 20) (hr : ∀ j : Nat, j ≤ I → h.2.2.1 51 j = lz (imp (ste V v j))) (k12 : Nat → Nat → Int32 → Int32 → Mem → Option (Int32 × Mem)) : ∀ (d b n : Nat), b + d = I + 1 → 1 ≤ b → d < n → f_X8_strideOn_46 N n 50 c (iz v) (iz I) (iz b) h k12 = match fs (bkP V v I) b d with
    | some b => some (iz (100 + b), h)
    | none => k12 50 c (iz v) (iz (I + 1)) h := by
  intro d
  induction d with
  | zero =>
    intro b n hb h1 hn
    obtain ⟨n, rfl⟩ : ∃ k, n = k + 1 := ⟨n - 1, by omega⟩
    rw [f_X8_strideOn_46]
    have h2 : (I : Int) < b := by omega
    simp (disch := omega) only [if_true, if_false, Option.bind_some, b2_some, il0, il1, il2, il3, il4, il5, il6, il7, il8, il9, il10, il11, il12, il13, il14, il15, il16, il17, il18, il19, il20, il21, il22, il23, il24, il25, il26, il27, il28, il29, il30, il31, il32, il33, il36, il38, il39, il40, il41, il48, il50, il51, il57, il59, il60, il61, il62, il63, il70, il96, il99, il100, il101, il102, il103, il104, il105, il106, il107, il108, il109, il110, il111, il112, il115, il116, il120, il121, il124, il200, il240, il255, il288, il360, il420, il999, il1000, il114292, il152755, il402789, il435589, il463922, il533611, il631470, iz_add, iz_sub, iz_mul, iz_neg, iz_le, iz_lt, iz_eq, h2]
    rfl
  | succ d ih =>
    intro b n hb h1 hn
    obtain ⟨n, rfl⟩ : ∃ k, n = k + 1 := ⟨n - 1, by omega⟩
    rw [f_X8_strideOn_46]
    have h2 : ¬ ((I : Int) < b) := by omega
    have e := ih (b + 1) n (by omega) (by omega) (by omega)
    have b1 := imp_bd (ste_wf w v (I - b))
    have b2 := imp_bd (ste_wf w v I)
    have e1 : h.2.2.1 51 (I - b) = _ := hr (I - b) (by omega)
    have e2 : h.2.2.1 51 I = _ := hr I (by omega)
    have e3 : ((I : Int) - b).toNat = I - b := by omega
    have e4 : (-1 : Int) ≠ 0 := by decide
    rw [fs]
    simp (disch := omega) only [↓k50 W, ↓kL51 W, ↓reduceIte, if_true, if_false, Option.bind_some, b2_some, il0, il1, il2, il3, il4, il5, il6, il7, il8, il9, il10, il11, il12, il13, il14, il15, il16, il17, il18, il19, il20, il21, il22, il23, il24, il25, il26, il27, il28, il29, il30, il31, il32, il33, il36, il38, il39, il40, il41, il48, il50, il51, il57, il59, il60, il61, il62, il63, il70, il96, il99, il100, il101, il102, il103, il104, il105, il106, il107, il108, il109, il110, il111, il112, il115, il116, il120, il121, il124, il200, il240, il255, il288, il360, il420, il999, il1000, il114292, il152755, il402789, il435589, il463922, il533611, il631470, iz_add, iz_sub, iz_mul, iz_neg, iz_le, iz_lt, iz_eq, h2, e3, toN, e1, e2, lcmp_lz]
    by_cases h3 : imp (ste V v (I - b)) = imp (ste V v I)
    · have hp : bkP V v I b = true := by simp [bkP, h3]
      rw [if_pos (by omega), hp]
      rfl
    · have hp : bkP V v I b = false := by simp [bkP, h3]
      rw [if_neg (by omega), hp]
      simpa using e
theorem l_on_12 {h0 : Mem} (w : WF V) (q : CP c p) (hN : 200 ≤ N) {v : Int} (hv : v = 0 ∨ v = 1) : ∀ (d i n : Nat) (h : Mem), i + d = 20 → d < n → RepC h c p (ste V v i) → WK h → (∀ j : Nat, j ≤ i → h.2.2.1 51 j = lz (imp (ste V v j))) → KC c h0 h → ∃ h', f_X8_strideOn_12 N n 50 c (iz v) (iz (i + 1)) h = some (iz (endT V v i d).1, h') ∧ RepC h' c p (ste V v (endT V v i d).2) ∧ KC c h0 h' := by
  intro d
  induction d with
  | zero =>
    intro i n h hi hn R W hr K
    obtain ⟨n, rfl⟩ : ∃ k, n = k + 1 := ⟨n - 1, by omega⟩
    rw [f_X8_strideOn_12]
    have h2 : (20 : Int) < i + 1 := by omega
    refine ⟨h, ?_, R, K⟩
    simp (disch := omega) only [if_true, if_false, Option.bind_some, b2_some, il0, il1, il2, il3, il4, il5, il6, il7, il8, il9, il10, il11, il12, il13, il14, il15, il16, il17, il18, il19, il20, il21, il22, il23, il24, il25, il26, il27, il28, il29, il30, il31, il32, il33, il36, il38, il39, il40, il41, il48, il50, il51, il57, il59, il60, il61, il62, il63, il70, il96, il99, il100, il101, il102, il103, il104, il105, il106, il107, il108, il109, il110, il111, il112, il115, il116, il120, il121, il124, il200, il240, il255, il288, il360, il420, il999, il1000, il114292, il152755, il402789, il435589, il463922, il533611, il631470, iz_add, iz_sub, iz_mul, iz_neg, iz_le, iz_lt, iz_eq, h2]
    rfl
  | succ d ih =>
    intro i n h hi hn R W hr K
    obtain ⟨n, rfl⟩ : ∃ k, n = k + 1 := ⟨n - 1, by omega⟩
    rw [f_X8_strideOn_12]
    have h2 : ¬ ((20 : Int) < i + 1) := by omega
    have wi := ste_wf w v i
    obtain ⟨h1, e1, R1, K1⟩ := l_stride R wi q hN hv (v0 := 50)
    have hb := strideR_bd wi v
    have W1 := W.eq K1.1 K1.2.1
    rw [endT_s]
    by_cases h3 : strideR (ste V v i) v = -6
    · have hN6 : endN V v i = some ((i : Int), i + 1) := if_pos h3
      rw [hN6, Option.getD_some]
      refine ⟨h1, ?_, ?_, K.tr K1.kc⟩
      · simp (disch := omega) only [↓k50c W, ↓bq e1, if_true, if_false, Option.bind_some, b2_some, il0, il1, il2, il3, il4, il5, il6, il7, il8, il9, il10, il11, il12, il13, il14, il15, il16, il17, il18, il19, il20, il21, il22, il23, il24, il25, il26, il27, il28, il29, il30, il31, il32, il33, il36, il38, il39, il40, il41, il48, il50, il51, il57, il59, il60, il61, il62, il63, il70, il96, il99, il100, il101, il102, il103, il104, il105, il106, il107, il108, il109, il110, il111, il112, il115, il116, il120, il121, il124, il200, il240, il255, il288, il360, il420, il999, il1000, il114292, il152755, il402789, il435589, il463922, il533611, il631470, iz_add, iz_sub, iz_mul, iz_neg, iz_le, iz_lt, iz_eq, h2, h3]
        show some (iz (i + 1 - 1), h1) = _
        rw [show ((i : Int) + 1 - 1) = i by omega]
      · exact R1
    · have hN6 : endN V v i = (fs (bkP V v (i + 1)) 1 (i + 1)).map (fun b => (100 + (b : Int), i + 1)) := if_neg h3
      rw [hN6]
      have wi1 := ste_wf w v (i + 1)
      have ei := l_imprint (V := ste V v (i + 1)) R1 wi1 hN
      have W2 : WK (wJ h1 51 (fun j => if j = i + 1 then lz (imp (ste V v (i + 1))) else h1.2.2.1 51 j)) := W1
      have hr2 : ∀ j : Nat, j ≤ i + 1 → (wJ h1 51 (fun j => if j = i + 1 then lz (imp (ste V v (i + 1))) else h1.2.2.1 51 j)).2.2.1 51 j = lz (imp (ste V v j)) := by
        intro j hj
        rw [wJ_eq]
        by_cases hji : j = i + 1
        · rw [if_pos hji, hji]
        · rw [if_neg hji, K1.2.2.1]; exact hr j (by omega)
      have K2 : KC c h0 (wJ h1 51 (fun j => if j = i + 1 then lz (imp (ste V v (i + 1))) else h1.2.2.1 51 j)) := (K.tr K1.kc).tr ⟨rfl, rfl, fun a ha => wJ_ne ha, fun _ _ _ _ _ _ _ => rfl⟩
      have e46 := l_on_46 (N := N) (c := c) w W2 (v := v) (I := i + 1) (by omega) hr2 (fun v0 v1 v2 v3 h => f_X8_strideOn_12 N n v0 v1 v2 v3 h) (i + 1) 1 N (by omega) (by omega) (by omega)
      have hz : ((i : Int) + 1).toNat = i + 1 := by omega
      have hstep : ∀ r : Option (Int32 × Mem), f_X8_strideOn_46 N N 50 c (iz v) (iz (i + 1 : Nat)) (iz (1 : Nat)) (wJ h1 51 (fun j => if j = i + 1 then lz (imp (ste V v (i + 1))) else h1.2.2.1 51 j)) (fun v0 v1 v2 v3 h => f_X8_strideOn_12 N n v0 v1 v2 v3 h) = r → (if (20 : Int32) < iz (i + 1) then some ((200 : Int32), h) else (ck h 50 8).bind fun _ => b2 (f_X8_stride N 50 c (iz v) h) fun t5 h4 => if t5 = (-6 : Int32) then some ((iz (i + 1) - (1 : Int32)), h4) else (gR h4 50 8 0).bind fun t7 => (ck h4 c 1).bind fun _ => b2 (f_X1_imprint N c h4) fun t12 h11 => (stJ h11 t7 (iz (i + 1)) t12).bind fun h13 => f_X8_strideOn_46 N N 50 c (iz v) (iz (i + 1)) (1 : Int32) h13 (fun v0 v1 v2 v3 h => f_X8_strideOn_12 N n v0 v1 v2 v3 h)) = r := by
        intro r er
        simp (disch := omega) only [↓k50c W, ↓bq e1, if_true, if_false, Option.bind_some, b2_some, il0, il1, il2, il3, il4, il5, il6, il7, il8, il9, il10, il11, il12, il13, il14, il15, il16, il17, il18, il19, il20, il21, il22, il23, il24, il25, il26, il27, il28, il29, il30, il31, il32, il33, il36, il38, il39, il40, il41, il48, il50, il51, il57, il59, il60, il61, il62, il63, il70, il96, il99, il100, il101, il102, il103, il104, il105, il106, il107, il108, il109, il110, il111, il112, il115, il116, il120, il121, il124, il200, il240, il255, il288, il360, il420, il999, il1000, il114292, il152755, il402789, il435589, il463922, il533611, il631470, iz_add, iz_sub, iz_mul, iz_neg, iz_le, iz_lt, iz_eq, h2, h3, ↓k50 W1, ↓kC R1, ↓bq ei, ↓kS51 W1, hz]
        exact er
      cases hfs : fs (bkP V v (i + 1)) 1 (i + 1) with
      | some b =>
        rw [hfs] at e46
        exact ⟨_, hstep _ e46, R1, K2⟩
      | none =>
        rw [hfs] at e46
        obtain ⟨h', e, r⟩ := ih (i + 1) n _ (by omega) (by omega) (rep_J (a := 51) R1) W2 hr2 K2
        exact ⟨h', hstep _ (e46.trans e), r⟩
theorem l_strideOn {h : Mem} (R : RepC h c p V) (w : WF V) (q : CP c p) (W : WK h) (hN : 200 ≤ N) {v : Int} (hv : v = 0 ∨ v = 1) : ∃ h', f_X8_strideOn N 50 c (iz v) h = some (iz (endS V v), h') ∧ RepC h' c p (endV V v) ∧ KC c h h' := by
  have ei := l_imprint R w hN
  have hz : (0 : Int).toNat = 0 := rfl
  obtain ⟨h', e, r⟩ := l_on_12 (h0 := h) w q hN hv 20 0 N (wJ h 51 (fun j => if j = 0 then lz (imp V) else h.2.2.1 51 j)) (by omega) (by omega) (rep_J (a := 51) R) W (fun j hj => by
    obtain rfl : j = 0 := by omega
    rw [wJ_eq]; rfl) ⟨rfl, rfl, fun a ha => wJ_ne ha, fun _ _ _ _ _ _ _ => rfl⟩
  refine ⟨h', ?_, r⟩
  unfold f_X8_strideOn
  simp (disch := omega) only [↓k50 W, ↓kC R, ↓bq ei, il0, il1, il2, il3, il4, il5, il6, il7, il8, il9, il10, il11, il12, il13, il14, il15, il16, il17, il18, il19, il20, il21, il22, il23, il24, il25, il26, il27, il28, il29, il30, il31, il32, il33, il36, il38, il39, il40, il41, il48, il50, il51, il57, il59, il60, il61, il62, il63, il70, il96, il99, il100, il101, il102, il103, il104, il105, il106, il107, il108, il109, il110, il111, il112, il115, il116, il120, il121, il124, il200, il240, il255, il288, il360, il420, il999, il1000, il114292, il152755, il402789, il435589, il463922, il533611, il631470, ↓kS51 W, hz]
  exact e
end
