theorem l_fill_5 {N : Nat} {h : Mem} {a L : Nat} {v : Int32} (hq : h.1[a]? = some (100, L)) (hL : L < 1000) : ∀ (d i n : Nat) (row : Nat → Int32), i + d = L → d < n → f_J7_fill_53178_5 N n a v (iz i) (iz L) (wr h a row) = some (wr h a (fun j => if i ≤ j ∧ j < L then v else row j)) := by
  intro d
  induction d with
  | zero =>
    intro i n row hi hn
    obtain ⟨n, rfl⟩ : ∃ k, n = k + 1 := ⟨n - 1, by omega⟩
    rw [f_J7_fill_53178_5]
    obtain rfl : i = L := by omega
    simp (disch := omega) only [↓reduceIte, if_true, if_false, Option.bind_some, b2_some, il0, il1, il2, il3, il4, il5, il6, il7, il8, il9, il10, il11, il12, il13, il14, il15, il16, il17, il18, il19, il20, il21, il22, il23, il24, il25, il26, il27, il28, il29, il30, il31, il32, il33, il36, il38, il39, il40, il41, il48, il50, il51, il57, il59, il60, il61, il62, il63, il70, il96, il99, il100, il101, il102, il103, il104, il105, il106, il107, il108, il109, il110, il111, il112, il115, il116, il120, il121, il124, il200, il240, il255, il288, il360, il420, il999, il1000, il114292, il152755, il402789, il435589, il463922, il533611, il631470, iz_add, iz_sub, iz_mul, iz_neg, iz_le, iz_lt, iz_eq, Int.le_refl]
    congr 2
    funext j
    rw [if_neg (by omega)]
  | succ d ih =>
    intro i n row hi hn
    obtain ⟨n, rfl⟩ : ∃ k, n = k + 1 := ⟨n - 1, by omega⟩
    rw [f_J7_fill_53178_5]
    have hc : ¬ ((L : Int) ≤ i) := by omega
    have e := ih (i + 1) n (upd row i v) (by omega) (by omega)
    simp (disch := omega) only [iz_le, ↓reduceIte, hc]
    rw [st_wr (h := wr h a row) hq (by omega) (by omega) (by omega), Option.bind_some, wr_wr, wr_eq, il1, iz_add]
    refine e.trans ?_
    congr 2
    funext j
    rw [upd_at]
    by_cases h1 : j = i
    · subst h1; rw [if_neg (by omega), if_pos rfl, if_pos (by omega)]
    · rw [if_neg h1]
      by_cases h2 : i + 1 ≤ j ∧ j < L
      · rw [if_pos h2, if_pos (by omega)]
      · rw [if_neg h2, if_neg (by omega)]
theorem l_fill {N : Nat} {h : Mem} {a L : Nat} {v : Int32} (hN : 200 ≤ N) (hq : h.1[a]? = some (100, L)) (hL : L < 200) : f_J7_fill_53178 N a v h = some (wr h a (fun j => if j < L then v else h.2.1 a j)) := by
  rw [f_J7_fill_53178, alen_q hq, Option.bind_some]
  have e := l_fill_5 (N := N) (v := v) hq (by omega) L 0 N (h.2.1 a) (by omega) (by omega)
  rw [wr_id rfl] at e
  rw [il0]
  refine e.trans ?_
  congr 2
  funext j
  by_cases h1 : j < L
  · rw [if_pos h1, if_pos (by omega)]
  · rw [if_neg h1, if_neg (by omega)]
/-- what the methods over the country c leave as it was -/
def KC (c : Nat) (h h' : Mem) : Prop := h'.1 = h.1 ∧ h'.2.2.2 = h.2.2.2 ∧ (∀ i, i ≠ 51 → h'.2.2.1 i = h.2.2.1 i) ∧ ∀ i, i ≠ ar c 1 → i ≠ ar c 7 → i ≠ ar c 9 → i ≠ 47 → i ≠ 48 → i ≠ 49 → h'.2.1 i = h.2.1 i
theorem KC.rf {c : Nat} {h : Mem} : KC c h h := ⟨rfl, rfl, fun _ _ => rfl, fun _ _ _ _ _ _ _ => rfl⟩
theorem KC.tr {c : Nat} {h h1 h2 : Mem} (a : KC c h h1) (b : KC c h1 h2) : KC c h h2 := ⟨b.1.trans a.1, b.2.1.trans a.2.1, fun i hi => (b.2.2.1 i hi).trans (a.2.2.1 i hi), fun i q1 q2 q3 q4 q5 q6 => (b.2.2.2 i q1 q2 q3 q4 q5 q6).trans (a.2.2.2 i q1 q2 q3 q4 q5 q6)⟩
theorem KC.wr {c a : Nat} {h : Mem} {row : Nat → Int32} (ha : a = ar c 1 ∨ a = ar c 7 ∨ a = ar c 9 ∨ a = 47 ∨ a = 48 ∨ a = 49) : KC c h (wr h a row) := ⟨rfl, rfl, fun _ _ => rfl, fun i q1 q2 q3 q4 q5 q6 => wr_ne (by rintro rfl; rcases ha with z | z | z | z | z | z <;> first | exact q1 z | exact q2 z | exact q3 z | exact q4 z | exact q5 z | exact q6 z)⟩
/-- what the methods of a country itself leave as it was -/
def KU (c : Nat) (h h' : Mem) : Prop := h'.1 = h.1 ∧ h'.2.2.2 = h.2.2.2 ∧ h'.2.2.1 = h.2.2.1 ∧ ∀ i, i ≠ ar c 1 → i ≠ ar c 7 → i ≠ ar c 9 → h'.2.1 i = h.2.1 i
theorem KU.rf {c : Nat} {h : Mem} : KU c h h := ⟨rfl, rfl, rfl, fun _ _ _ _ => rfl⟩
theorem KU.tr {c : Nat} {h h1 h2 : Mem} (a : KU c h h1) (b : KU c h1 h2) : KU c h h2 := ⟨b.1.trans a.1, b.2.1.trans a.2.1, b.2.2.1.trans a.2.2.1, fun i q1 q2 q3 => (b.2.2.2 i q1 q2 q3).trans (a.2.2.2 i q1 q2 q3)⟩
theorem KU.wr {c a : Nat} {h : Mem} {row : Nat → Int32} (ha : a = ar c 1 ∨ a = ar c 7 ∨ a = ar c 9) : KU c h (wr h a row) := ⟨rfl, rfl, rfl, fun i q1 q2 q3 => wr_ne (by rintro rfl; rcases ha with z | z | z <;> first | exact q1 z | exact q2 z | exact q3 z)⟩
theorem KU.kc {c : Nat} {h h' : Mem} (a : KU c h h') : KC c h h' := ⟨a.1, a.2.1, fun i _ => by rw [a.2.2.1], fun i q1 q2 q3 _ _ _ => a.2.2.2 i q1 q2 q3⟩
def voteV (V : Vw) (t : Int) : Nat → Vw
  | 0 => V
  | n + 1 => vset (voteV V t n) 1 (t * 3 + n) (choice (voteV V t n) t n)
def voteN (V : Vw) (t : Int) : Nat → Int
  | 0 => 0
  | n + 1 => voteN V t n + if choice (voteV V t n) t n = va (voteV V t n) 1 (t * 3 + n) then 0 else 1
theorem vote_wf {V : Vw} (w : WF V) (t : Int) : ∀ n, WF (voteV V t n) := by
  intro n
  induction n with
  | zero => exact w
  | succ n ih =>
    have := choice_bd (V := voteV V t n) (t := t) (g := n)
    exact wf_level ih (by omega)
theorem vote_TF {V : Vw} (t : Int) : ∀ n, vT (voteV V t n) = vT V ∧ vF (voteV V t n) = vF V ∧ vs (voteV V t n) = vs V ∧ ∀ k, k ≠ 1 → va (voteV V t n) k = va V k := by
  intro n
  induction n with
  | zero => exact ⟨rfl, rfl, rfl, fun _ _ => rfl⟩
  | succ n ih => exact ⟨ih.1, ih.2.1, ih.2.2.1, fun k hk => (vset_ne hk).trans (ih.2.2.2 k hk)⟩
theorem vote_lv {V : Vw} (t : Int) : ∀ (n : Nat) (j : Int), ¬ (t * 3 ≤ j ∧ j < t * 3 + n) → va (voteV V t n) 1 j = va V 1 j := by
  intro n
  induction n with
  | zero => intro j _; rfl
  | succ n ih =>
    intro j hj
    rw [voteV, vset_at, if_neg (by omega), ih j (by omega)]
theorem voteN_bd {V : Vw} (t : Int) : ∀ n, 0 ≤ voteN V t n ∧ voteN V t n ≤ n := by
  intro n
  induction n with
  | zero => show (0 : Int) ≤ 0 ∧ (0 : Int) ≤ 0; omega
  | succ n ih => unfold voteN; split <;> omega
section
variable {c p : Nat} {N : Nat}
theorem l_chosen {h : Mem} {V : Vw} (R : RepC h c p V) (w : WF V) (q : CP c p) (hN : 200 ≤ N) {t g : Int} (ht : 0 ≤ t ∧ t < 4) (hg : 0 ≤ g ∧ g < 3) : ∃ row', f_X1_chosenLevel N c (iz t) (iz g) h = some (iz (choice V t g), wr h (ar c 9) row') := by
  have hF := w.F
  have hp := w.p
  rw [f_X1_chosenLevel]
  generalize hrow : (fun j : Nat => if j < 6 then (0 : Int32) else h.2.1 (ar c 9) j) = row
  have R1 := rep_want (row := row) R q
  have fin : ∀ old : Bool, old = olds V t → ∃ row', f_X1_chosenLevel_39 N N c (iz t) (iz g) (iz (bi old)) (iz 0) (iz 0) (wr h (ar c 9) row) = some (iz (choice V t g), wr h (ar c 9) row') := by
    intro old ho
    obtain ⟨row', e⟩ := l_chosen_39 R w q hN ht hg old (vF V) 0 N row (by omega) (by omega) (fun v hv => by rw [← hrow]; simp only [if_pos hv]; rfl)
    refine ⟨row', ?_⟩
    rw [ho] at e ⊢
    exact e
  simp (disch := omega) only [↓kA9 R, ↓bo (l_fill (N := N) (v := 0) hN (R.1.2 9 (by decide)).2 (by decide))]
  rw [show (fun j : Nat => if j < ln 9 then (0 : Int32) else h.2.1 (ar c 9) j) = row from hrow]
  by_cases h2 : va V 12 2 = 2
  · by_cases h3 : oldB V t (vF V) = true
    · obtain ⟨row', e⟩ := fin true (by unfold olds; simp [h2, h3])
      refine ⟨row', e ▸ ?_⟩
      simp (disch := omega) only [↓kL R1, ↓kL5 R1, ↓kC R1, ↓reduceIte, l_old R1 w hN ht, if_true, if_false, Option.bind_some, b2_some, il0, il1, il2, il3, il4, il5, il6, il7, il8, il9, il10, il11, il12, il13, il14, il15, il16, il17, il18, il19, il20, il21, il22, il23, il24, il25, il26, il27, il28, il29, il30, il31, il32, il33, il36, il38, il39, il40, il41, il48, il50, il51, il57, il59, il60, il61, il62, il63, il70, il96, il99, il100, il101, il102, il103, il104, il105, il106, il107, il108, il109, il110, il111, il112, il115, il116, il120, il121, il124, il200, il240, il255, il288, il360, il420, il999, il1000, il114292, il152755, il402789, il435589, il463922, il533611, il631470, iz_add, iz_sub, iz_mul, iz_neg, iz_le, iz_lt, iz_eq, h2, h3, f_X1_chosenLevel_32]
      rfl
    · obtain ⟨row', e⟩ := fin false (by unfold olds; simp [h3])
      refine ⟨row', e ▸ ?_⟩
      simp (disch := omega) only [↓kL R1, ↓kL5 R1, ↓kC R1, ↓reduceIte, l_old R1 w hN ht, if_true, if_false, Option.bind_some, b2_some, il0, il1, il2, il3, il4, il5, il6, il7, il8, il9, il10, il11, il12, il13, il14, il15, il16, il17, il18, il19, il20, il21, il22, il23, il24, il25, il26, il27, il28, il29, il30, il31, il32, il33, il36, il38, il39, il40, il41, il48, il50, il51, il57, il59, il60, il61, il62, il63, il70, il96, il99, il100, il101, il102, il103, il104, il105, il106, il107, il108, il109, il110, il111, il112, il115, il116, il120, il121, il124, il200, il240, il255, il288, il360, il420, il999, il1000, il114292, il152755, il402789, il435589, il463922, il533611, il631470, iz_add, iz_sub, iz_mul, iz_neg, iz_le, iz_lt, iz_eq, h2, h3, f_X1_chosenLevel_32, f_X1_chosenLevel_31]
      rfl
  · obtain ⟨row', e⟩ := fin false (by unfold olds; simp [h2])
    refine ⟨row', e ▸ ?_⟩
    simp (disch := omega) only [↓kL R1, ↓kL5 R1, ↓kC R1, ↓reduceIte, if_true, if_false, Option.bind_some, b2_some, il0, il1, il2, il3, il4, il5, il6, il7, il8, il9, il10, il11, il12, il13, il14, il15, il16, il17, il18, il19, il20, il21, il22, il23, il24, il25, il26, il27, il28, il29, il30, il31, il32, il33, il36, il38, il39, il40, il41, il48, il50, il51, il57, il59, il60, il61, il62, il63, il70, il96, il99, il100, il101, il102, il103, il104, il105, il106, il107, il108, il109, il110, il111, il112, il115, il116, il120, il121, il124, il200, il240, il255, il288, il360, il420, il999, il1000, il114292, il152755, il402789, il435589, il463922, il533611, il631470, iz_add, iz_sub, iz_mul, iz_neg, iz_le, iz_lt, iz_eq, h2, f_X1_chosenLevel_32, f_X1_chosenLevel_31]
    rfl
theorem l_vote_4 {h0 : Mem} {V : Vw} (w : WF V) (q : CP c p) (hN : 200 ≤ N) {t : Int} (ht : 0 ≤ t ∧ t < 4) : ∀ (d i n : Nat) (h : Mem), i + d = 3 → d < n → RepC h c p (voteV V t i) → KU c h0 h → ∃ h', f_X1_vote_4 N n c (iz t) (iz (voteN V t i)) (iz i) h = some (iz (voteN V t 3), h') ∧ RepC h' c p (voteV V t 3) ∧ KU c h0 h' := by
  intro d
  induction d with
  | zero =>
    intro i n h hi hn R K
    obtain ⟨n, rfl⟩ : ∃ k, n = k + 1 := ⟨n - 1, by omega⟩
    rw [f_X1_vote_4]
    obtain rfl : i = 3 := by omega
    refine ⟨h, ?_, R, K⟩
    simp (disch := omega) only [↓reduceIte, if_true, if_false, Option.bind_some, b2_some, il0, il1, il2, il3, il4, il5, il6, il7, il8, il9, il10, il11, il12, il13, il14, il15, il16, il17, il18, il19, il20, il21, il22, il23, il24, il25, il26, il27, il28, il29, il30, il31, il32, il33, il36, il38, il39, il40, il41, il48, il50, il51, il57, il59, il60, il61, il62, il63, il70, il96, il99, il100, il101, il102, il103, il104, il105, il106, il107, il108, il109, il110, il111, il112, il115, il116, il120, il121, il124, il200, il240, il255, il288, il360, il420, il999, il1000, il114292, il152755, il402789, il435589, il463922, il533611, il631470, iz_add, iz_sub, iz_mul, iz_neg, iz_le, iz_lt, iz_eq, Int.le_refl]
    rfl
  | succ d ih =>
    intro i n h hi hn R K
    obtain ⟨n, rfl⟩ : ∃ k, n = k + 1 := ⟨n - 1, by omega⟩
    rw [f_X1_vote_4]
    have hc : ¬ ((3 : Int) ≤ i) := by omega
    have wi := vote_wf w t i
    have hlv := wi.l (j := t * 3 + i) (by omega) (by omega)
    have hcb := choice_bd (V := voteV V t i) (t := t) (g := i)
    obtain ⟨row, e0⟩ := l_chosen R wi q hN ht (g := i) (by omega)
    have R1 := rep_want (row := row) R q
    have K1 : KU c h0 (wr h (ar c 9) row) := K.tr (KU.wr (by simp))
    simp (disch := omega) only [↓kC R, ↓bq e0, ↓kA1 R1, ↓kX1m R1, ↓reduceIte, if_true, if_false, Option.bind_some, b2_some, il0, il1, il2, il3, il4, il5, il6, il7, il8, il9, il10, il11, il12, il13, il14, il15, il16, il17, il18, il19, il20, il21, il22, il23, il24, il25, il26, il27, il28, il29, il30, il31, il32, il33, il36, il38, il39, il40, il41, il48, il50, il51, il57, il59, il60, il61, il62, il63, il70, il96, il99, il100, il101, il102, il103, il104, il105, il106, il107, il108, il109, il110, il111, il112, il115, il116, il120, il121, il124, il200, il240, il255, il288, il360, il420, il999, il1000, il114292, il152755, il402789, il435589, il463922, il533611, il631470, iz_add, iz_sub, iz_mul, iz_neg, iz_le, iz_lt, iz_eq, hc]
    by_cases h1 : choice (voteV V t i) t i = va (voteV V t i) 1 (t * 3 + i)
    · obtain ⟨h', e, r⟩ := ih (i + 1) n (wr h (ar c 9) row) (by omega) (by omega) (by rw [voteV, vset_id h1]; exact R1) K1
      refine ⟨h', ?_, r⟩
      rw [if_pos h1]
      rw [voteN, if_pos h1, Int.add_zero] at e
      exact e
    · have hk : (ar c 1) ≠ ar c 9 := ar_ne (by decide)
      obtain ⟨h', e, r⟩ := ih (i + 1) n _ (by omega) (by omega) (rep_set R1 q (k := 1) (j := t * 3 + i) (x := choice (voteV V t i) t i) (by decide) (by omega) (by show _ < (12 : Int); omega)) (K1.tr (KU.wr (by simp)))
      refine ⟨h', ?_, r⟩
      rw [if_neg h1]
      rw [voteN, if_neg h1] at e
      simp (disch := omega) only [↓kA1 R1, if_true, if_false, Option.bind_some, b2_some, il0, il1, il2, il3, il4, il5, il6, il7, il8, il9, il10, il11, il12, il13, il14, il15, il16, il17, il18, il19, il20, il21, il22, il23, il24, il25, il26, il27, il28, il29, il30, il31, il32, il33, il36, il38, il39, il40, il41, il48, il50, il51, il57, il59, il60, il61, il62, il63, il70, il96, il99, il100, il101, il102, il103, il104, il105, il106, il107, il108, il109, il110, il111, il112, il115, il116, il120, il121, il124, il200, il240, il255, il288, il360, il420, il999, il1000, il114292, il152755, il402789, il435589, il463922, il533611, il631470, iz_add, iz_sub, iz_mul, iz_neg, iz_le, iz_lt, iz_eq, ↓kS1 R1]
      exact e
theorem l_vote {h : Mem} {V : Vw} (R : RepC h c p V) (w : WF V) (q : CP c p) (hN : 200 ≤ N) {t : Int} (ht : 0 ≤ t ∧ t < 4) : ∃ h', f_X1_vote N c (iz t) h = some (iz (voteN V t 3), h') ∧ RepC h' c p (voteV V t 3) ∧ KU c h h' :=
  l_vote_4 w q hN ht 3 0 N h (by omega) (by omega) R KU.rf
end
