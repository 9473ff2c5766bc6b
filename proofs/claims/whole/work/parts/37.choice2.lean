section
variable {h : Mem} {c p : Nat} {V : Vw} {N : Nat}
theorem kS1 {γ : Type} (R : RepC h c p V) {z : Int} {v : Int32} {k : Mem → Option γ} (h0 : 0 ≤ z) (h1 : z < 12) : (stI 100 h (ar c 1) (iz z) v).bind k = k (wr h (ar c 1) (upd (h.2.1 (ar c 1)) z.toNat v)) := bo (st_wr (R.1.2 1 (by decide)).2 h0 h1 (by decide))
theorem kS9 {γ : Type} (R : RepC h c p V) {z : Int} {v : Int32} {k : Mem → Option γ} (h0 : 0 ≤ z) (h1 : z < 6) : (stI 100 h (ar c 9) (iz z) v).bind k = k (wr h (ar c 9) (upd (h.2.1 (ar c 9)) z.toNat v)) := bo (st_wr (R.1.2 9 (by decide)).2 h0 h1 (by decide))
theorem kS7 {γ : Type} (R : RepC h c p V) {z : Int} {v : Int32} {k : Mem → Option γ} (h0 : 0 ≤ z) (h1 : z < 8) : (stI 100 h (ar c 7) (iz z) v).bind k = k (wr h (ar c 7) (upd (h.2.1 (ar c 7)) z.toNat v)) := bo (st_wr (R.1.2 7 (by decide)).2 h0 h1 (by decide))
theorem kW9 {γ : Type} (R : RepC h c p V) {z : Int} {k : Int32 → Option γ} (h0 : 0 ≤ z) (h1 : z < 6) : (lI 100 h (ar c 9) (iz z)).bind k = k (h.2.1 (ar c 9) z.toNat) := bo (lI_q (R.1.2 9 (by decide)).2 h0 h1 (by decide))
/-- levels with one of them otherwise -/
def lvl (h : Mem) (c : Nat) (pl : Int) (x : Int32) : Mem := wr h (ar c 1) (upd (h.2.1 (ar c 1)) pl.toNat x)
theorem lvl_rep (R : RepC h c p V) (q : CP c p) {pl x : Int} (h0 : 0 ≤ pl) (h1 : pl < 12) : RepC (lvl h c pl (iz x)) c p (vset V 1 pl x) := rep_set R q (by decide) h0 h1
theorem lvl_lvl {pl : Int} {x y : Int32} : wr (lvl h c pl x) (ar c 1) (upd ((lvl h c pl x).2.1 (ar c 1)) pl.toNat y) = lvl h c pl y := by
  unfold lvl
  rw [wr_wr, wr_eq, upd_upd]
theorem lvl_id (R : RepC h c p V) {pl : Int} (h0 : 0 ≤ pl) (h1 : pl < 12) : lvl h c pl (iz (va V 1 pl)) = h := by
  unfold lvl
  apply wr_id
  apply upd_id
  rw [R.2.2.2.1 1 (by decide) pl.toNat (by show pl.toNat < 12; omega), Int.toNat_of_nonneg h0]
theorem l_want_72 (R : RepC h c p V) (w : WF V) (q : CP c p) (hN : 200 ≤ N) {t pl like sh shs : Int} (ht : 0 ≤ t ∧ t < 4) (hp : 0 ≤ pl ∧ pl < 12) (hl : -20 ≤ like ∧ like ≤ 1019) (hs : 0 ≤ sh ∧ sh ≤ 99) (hss : 0 ≤ shs ∧ shs ≤ 792) {wf : Nat → Int} (hwf : ∀ v : Nat, v < 6 → wf v = like * v - part (cost (vset V 1 pl v) t) sh shs) :
    ∀ (d i n : Nat) (x : Int), 1 ≤ i → i + d = 6 → d < n → f_X1_wantedLevel_72 N n c (iz t) (iz like) (iz sh) (iz shs) (iz pl) (iz (va V 1 pl)) (iz (wbest wf i)) (iz (wf (wbest wf i))) (iz i) (lvl h c pl (iz x)) = some (iz (wbest wf 6), h) := by
  intro d
  have hb : ∀ v : Nat, v < 6 → -1483700 ≤ wf v ∧ wf v ≤ 5100 := by
    intro v hv
    rw [hwf v hv]
    have h1 := part_bd (cost_bd (wf_level w (j := pl) (x := v) (by omega)) ht) hs hss.1
    have h2 := mul_bd2 (a := v) (b := like) (A := 5) (C := 20) (B := 1019) (by omega) hl (by omega) (by omega)
    have hm : like * (v : Int) = v * like := Int.mul_comm _ _
    omega
  induction d with
  | zero =>
    intro i n x h1 hi hn
    obtain ⟨n, rfl⟩ : ∃ k, n = k + 1 := ⟨n - 1, by omega⟩
    rw [f_X1_wantedLevel_72]
    have R1 := lvl_rep R q (x := x) hp.1 hp.2
    obtain rfl : i = 6 := by omega
    simp (disch := omega) only [↓kA1 R1, ↓kS1 R1, ↓reduceIte, if_true, if_false, Option.bind_some, b2_some, il0, il1, il2, il3, il4, il5, il6, il7, il8, il9, il10, il11, il12, il13, il14, il15, il16, il17, il18, il19, il20, il21, il22, il23, il24, il25, il26, il27, il28, il29, il30, il31, il32, il33, il36, il38, il39, il40, il41, il48, il50, il51, il57, il59, il60, il61, il62, il63, il70, il96, il99, il100, il101, il102, il103, il104, il105, il106, il107, il108, il109, il110, il111, il112, il115, il116, il120, il121, il124, il200, il240, il255, il288, il360, il420, il999, il1000, il114292, il152755, il402789, il435589, il463922, il533611, il631470, iz_add, iz_sub, iz_mul, iz_neg, iz_le, iz_lt, iz_eq, lvl_lvl, lvl_id R]
    rfl
  | succ d ih =>
    intro i n x h1 hi hn
    obtain ⟨n, rfl⟩ : ∃ k, n = k + 1 := ⟨n - 1, by omega⟩
    rw [f_X1_wantedLevel_72]
    have R1 := lvl_rep R q (x := x) hp.1 hp.2
    have R2 := lvl_rep R q (x := i) hp.1 hp.2
    have w2 := wf_level w (j := pl) (x := i) (by omega)
    have hc : ¬ ((6 : Int) ≤ i) := by omega
    have hz : ¬ ((i : Int) = 0) := by omega
    have e0 := ih (i + 1) n i (by omega) (by omega) (by omega)
    have hbi := hb i (by omega)
    have hbb := hb (wbest wf i) (by have := wbest_lt wf i (by omega); omega)
    have hpb := part_bd (cost_bd w2 ht) hs hss.1
    simp (disch := omega) only [↓kA1 R1, ↓kS1 R1, ↓reduceIte, if_true, if_false, Option.bind_some, b2_some, il0, il1, il2, il3, il4, il5, il6, il7, il8, il9, il10, il11, il12, il13, il14, il15, il16, il17, il18, il19, il20, il21, il22, il23, il24, il25, il26, il27, il28, il29, il30, il31, il32, il33, il36, il38, il39, il40, il41, il48, il50, il51, il57, il59, il60, il61, il62, il63, il70, il96, il99, il100, il101, il102, il103, il104, il105, il106, il107, il108, il109, il110, il111, il112, il115, il116, il120, il121, il124, il200, il240, il255, il288, il360, il420, il999, il1000, il114292, il152755, il402789, il435589, il463922, il533611, il631470, iz_add, iz_sub, iz_mul, iz_neg, iz_le, iz_lt, iz_eq, lvl_lvl, hc]
    simp (disch := omega) only [↓kC R2, l_cost R2 w2 hN ht, l_part (cost_bd w2 ht) hs hss, if_true, if_false, Option.bind_some, b2_some, il0, il1, il2, il3, il4, il5, il6, il7, il8, il9, il10, il11, il12, il13, il14, il15, il16, il17, il18, il19, il20, il21, il22, il23, il24, il25, il26, il27, il28, il29, il30, il31, il32, il33, il36, il38, il39, il40, il41, il48, il50, il51, il57, il59, il60, il61, il62, il63, il70, il96, il99, il100, il101, il102, il103, il104, il105, il106, il107, il108, il109, il110, il111, il112, il115, il116, il120, il121, il124, il200, il240, il255, il288, il360, il420, il999, il1000, il114292, il152755, il402789, il435589, il463922, il533611, il631470, iz_add, iz_sub, iz_mul, iz_neg, iz_le, iz_lt, iz_eq]
    rw [← hwf i (by omega)]
    simp (disch := omega) only [iz_eq, hz, ↓reduceIte]
    by_cases hlt : wf (wbest wf i) < wf i
    · have e1 : wbest wf (i + 1) = i := by unfold wbest; rw [if_pos hlt]
      rw [e1] at e0
      have hlt2 : ¬ (wf i ≤ wf (wbest wf i)) := by omega
      simp (disch := omega) only [iz_le, ↓reduceIte, hlt2]
      unfold f_X1_wantedLevel_120
      simp (disch := omega) only [il1, iz_add]
      exact e0
    · have e1 : wbest wf (i + 1) = wbest wf i := by rw [wbest, if_neg hlt]
      rw [e1] at e0
      have hlt2 : wf i ≤ wf (wbest wf i) := by omega
      simp (disch := omega) only [iz_le, ↓reduceIte, hlt2]
      exact e0
theorem l_want (R : RepC h c p V) (w : WF V) (q : CP c p) (hN : 200 ≤ N) {f t g : Int} (hf : 0 ≤ f ∧ f < 8) (ht : 0 ≤ t ∧ t < 4) (hg : 0 ≤ g ∧ g < 3) : f_X1_wantedLevel N c (iz f) (iz t) (iz g) h = some (iz (want V f t g), h) := by
  have h5 := w.f hf.1 hf.2
  have hb := grt_bd w (t := t) (g := f) (vF V) w.F
  have hl := w.l (j := va V 5 f * 3 + g) (by omega) (by omega)
  have hs := share_bd w (gr := grt V t f (vF V)) hf
  have hss := shares_bd w (t := t) (g := f) (gr := grt V t f (vF V)) _ w.F
  rw [f_X1_wantedLevel]
  simp (disch := omega) only [↓kC R, ↓kT R, ↓kF R, ↓kL R, ↓kLk R, ↓kL0 R, ↓kL1 R, ↓kL2 R, ↓kL3 R, ↓kL4 R, ↓kL5 R, ↓kA0 R, ↓kA1 R, ↓kA2 R, ↓kA3 R, ↓kA4 R, ↓kA5 R, ↓kA6 R, ↓kA7 R, ↓kA8 R, ↓kA9 R, ↓kX0 R, ↓kX1 R, ↓kX2 R, ↓kX3 R, ↓kX4 R, ↓kX5 R, ↓kX6 R, ↓kX7 R, ↓kX8 R, ↓kX1m R, ↓kY0 R, ↓kY1 R, ↓kY2 R, ↓kY0m R, ↓kY1m R, ↓reduceIte, l_greatest R w hN ht hf, l_share R w hf hb, l_shares R w hN ht hf hb, if_true, if_false, Option.bind_some, b2_some, il0, il1, il2, il3, il4, il5, il6, il7, il8, il9, il10, il11, il12, il13, il14, il15, il16, il17, il18, il19, il20, il21, il22, il23, il24, il25, il26, il27, il28, il29, il30, il31, il32, il33, il36, il38, il39, il40, il41, il48, il50, il51, il57, il59, il60, il61, il62, il63, il70, il96, il99, il100, il101, il102, il103, il104, il105, il106, il107, il108, il109, il110, il111, il112, il115, il116, il120, il121, il124, il200, il240, il255, il288, il360, il420, il999, il1000, il114292, il152755, il402789, il435589, il463922, il533611, il631470, iz_add, iz_sub, iz_mul, iz_neg, iz_le, iz_lt, iz_eq]
  -- the first level by hand
  obtain ⟨n, rfl⟩ : ∃ k, N = k + 1 := ⟨N - 1, by omega⟩
  rw [f_X1_wantedLevel_72]
  have R2 := lvl_rep R q (pl := t * 3 + g) (x := 0) (by omega) (by omega)
  have w2 := wf_level w (j := t * 3 + g) (x := 0) (by omega)
  have hc : ¬ ((6 : Int) ≤ 0) := by omega
  have hpb := part_bd (cost_bd w2 ht) hs hss.1
  have e := l_want_72 R w q hN ht (pl := t * 3 + g) (by omega) hl.2 hs hss (wf := wl V f t g) (fun v _ => rfl) 5 1 n 0 (by omega) (by omega) (by omega)
  rw [wbest_1] at e
  have e3 : wl V f t g 0 = 0 - part (cost (vset V 1 (t * 3 + g) 0) t) (share V f (grt V t f (vF V))) (shares V t f (grt V t f (vF V)) (vF V)) := by unfold wl; simp
  simp (disch := omega) only [↓kC R, ↓kT R, ↓kF R, ↓kL R, ↓kLk R, ↓kL0 R, ↓kL1 R, ↓kL2 R, ↓kL3 R, ↓kL4 R, ↓kL5 R, ↓kA0 R, ↓kA1 R, ↓kA2 R, ↓kA3 R, ↓kA4 R, ↓kA5 R, ↓kA6 R, ↓kA7 R, ↓kA8 R, ↓kA9 R, ↓kX0 R, ↓kX1 R, ↓kX2 R, ↓kX3 R, ↓kX4 R, ↓kX5 R, ↓kX6 R, ↓kX7 R, ↓kX8 R, ↓kX1m R, ↓kY0 R, ↓kY1 R, ↓kY2 R, ↓kY0m R, ↓kY1m R, ↓reduceIte, ↓kS1 R, if_true, if_false, Option.bind_some, b2_some, il0, il1, il2, il3, il4, il5, il6, il7, il8, il9, il10, il11, il12, il13, il14, il15, il16, il17, il18, il19, il20, il21, il22, il23, il24, il25, il26, il27, il28, il29, il30, il31, il32, il33, il36, il38, il39, il40, il41, il48, il50, il51, il57, il59, il60, il61, il62, il63, il70, il96, il99, il100, il101, il102, il103, il104, il105, il106, il107, il108, il109, il110, il111, il112, il115, il116, il120, il121, il124, il200, il240, il255, il288, il360, il420, il999, il1000, il114292, il152755, il402789, il435589, il463922, il533611, il631470, iz_add, iz_sub, iz_mul, iz_neg, iz_le, iz_lt, iz_eq, hc]
  rw [show wr h (ar c 1) (upd (h.2.1 (ar c 1)) (t * 3 + g).toNat (iz 0)) = lvl h c (t * 3 + g) (iz 0) from rfl]
  simp (disch := omega) only [↓kC R2, l_cost R2 w2 hN ht, l_part (cost_bd w2 ht) hs hss, if_true, if_false, Option.bind_some, b2_some, il0, il1, il2, il3, il4, il5, il6, il7, il8, il9, il10, il11, il12, il13, il14, il15, il16, il17, il18, il19, il20, il21, il22, il23, il24, il25, il26, il27, il28, il29, il30, il31, il32, il33, il36, il38, il39, il40, il41, il48, il50, il51, il57, il59, il60, il61, il62, il63, il70, il96, il99, il100, il101, il102, il103, il104, il105, il106, il107, il108, il109, il110, il111, il112, il115, il116, il120, il121, il124, il200, il240, il255, il288, il360, il420, il999, il1000, il114292, il152755, il402789, il435589, il463922, il533611, il631470, iz_add, iz_sub, iz_mul, iz_neg, iz_le, iz_lt, iz_eq, Int.mul_zero, ↓reduceIte]
  rw [← e3]
  unfold f_X1_wantedLevel_120
  simp (disch := omega) only [il1, iz_add]
  exact e
end
