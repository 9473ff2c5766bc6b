/-! the model's votes -/
section
variable {V V' : Vw}
theorem grt_c (e : ∀ k, k ≠ 1 → va V' k = va V k) {t g : Int} : ∀ n, grt V' t g n = grt V t g n := by
  intro n
  induction n with
  | zero => rfl
  | succ n ih => rw [grt_succ, grt_succ, ih, e 7 (by decide), e 6 (by decide)]
theorem share_c (e : ∀ k, k ≠ 1 → va V' k = va V k) {o gr : Int} : share V' o gr = share V o gr := by unfold share; rw [e 12 (by decide), e 6 (by decide)]
theorem shares_c (e : ∀ k, k ≠ 1 → va V' k = va V k) {t g gr : Int} (n : Nat) : shares V' t g gr n = shares V t g gr n := sm_congr n (fun i _ => by rw [e 7 (by decide), share_c e])
theorem near_c (e : ∀ k, k ≠ 1 → va V' k = va V k) {f t : Int} (n : Nat) : nearsum V' f t n = nearsum V f t n := sm_congr n (fun i _ => by rw [e 7 (by decide), e 10 (by decide), e 5 (by decide)])
theorem heads_c (e : ∀ k, k ≠ 1 → va V' k = va V k) {f t : Int} (n : Nat) : heads V' f t n = heads V f t n := by
  unfold heads
  rw [e 7 (by decide)]
theorem likes_v {f t g : Int} (hg : 0 ≤ g ∧ g < 3) (v : Int) : likesum (vset V 1 (t * 3 + g) v) f t 3 = likesum (vset V 1 (t * 3 + g) 0) f t 3 + va V 9 (va V 5 f * 3 + g) * v := by
  unfold likesum
  show 0 + _ + _ + _ = 0 + _ + _ + _ + _
  rw [vset_ne (k' := 9) (by decide), vset_ne (k' := 5) (by decide), vset_ne (k' := 9) (by decide), vset_ne (k' := 5) (by decide)]
  have lv : ∀ (v j : Int), va (vset V 1 (t * 3 + g) v) 1 (t * 3 + j) = if j = g then v else va V 1 (t * 3 + j) := by
    intro v j
    rw [vset_at]
    by_cases e : j = g
    · rw [if_pos e, if_pos ⟨rfl, by omega⟩]
    · rw [if_neg e, if_neg (fun z => e (by omega))]
  dsimp only
  rw [lv, lv, lv, lv, lv, lv]
  have q01 : ¬ ((0 : Int) = 1) := by decide
  have q02 : ¬ ((0 : Int) = 2) := by decide
  have q10 : ¬ ((1 : Int) = 0) := by decide
  have q12 : ¬ ((1 : Int) = 2) := by decide
  have q20 : ¬ ((2 : Int) = 0) := by decide
  have q21 : ¬ ((2 : Int) = 1) := by decide
  have z0 : (((0 : Nat) : Int)) = 0 := rfl
  rcases (show g = 0 ∨ g = 1 ∨ g = 2 by omega) with rfl | rfl | rfl
  · simp only [z0, nc1, nc2, q10, q20, ↓reduceIte, Int.mul_comm v, Int.zero_mul]
    omega
  · simp only [z0, nc1, nc2, q01, q21, ↓reduceIte, Int.mul_comm v, Int.zero_mul]
    omega
  · simp only [z0, nc1, nc2, q02, q12, ↓reduceIte, Int.mul_comm v, Int.zero_mul]
    omega
def wV (V : Vw) (f t g : Int) (v : Nat) : Int := worth (vset V 1 (t * 3 + g) v) f t
theorem wV_wl {f t g : Int} (hg : 0 ≤ g ∧ g < 3) : ∃ K : Int, ∀ v : Nat, wV V f t g v = K + wl V f t g v := by
  refine ⟨- va V 2 t + likesum (vset V 1 (t * 3 + g) 0) f t 3 + nearsum V f t (vF V) - vs V (va V 5 f) (va V 6 f) t (heads V f t (vF V)) - va V 12 0 * dist (va V 8 f) t, fun v => ?_⟩
  have e : ∀ k, k ≠ 1 → va (vset V 1 (t * 3 + g) (v : Int)) k = va V k := fun k hk => vset_ne hk
  unfold wV worth dues
  rw [likes_v hg, vset_F, near_c e, heads_c e, grt_c e, share_c e, shares_c e, e 2 (by decide), e 5 (by decide), e 6 (by decide), e 8 (by decide), e 12 (by decide), vset_s]
  unfold wl
  generalize nearsum V f t (vF V) = a1
  generalize va V 12 0 * dist (va V 8 f) t = a2
  generalize vs V (va V 5 f) (va V 6 f) t (heads V f t (vF V)) = a3
  generalize part (cost (vset V 1 (t * 3 + g) (v : Int)) t) (share V f (grt V t f (vF V))) (shares V t f (grt V t f (vF V)) (vF V)) = a4
  generalize va V 9 (va V 5 f * 3 + g) * (v : Int) = a5
  generalize likesum (vset V 1 (t * 3 + g) 0) f t 3 = a6
  omega
theorem want_wV {f t g : Int} (hg : 0 ≤ g ∧ g < 3) : (wbest (wV V f t g) 6 : Int) = want V f t g := by
  obtain ⟨K, hK⟩ := wV_wl (V := V) (f := f) (t := t) hg
  unfold want
  rw [wbest_congr 6 6 (by decide) (by decide) (fun v _ => hK v)]
end
section
variable {V : Vw} {N : Nat}
theorem lcmp_b {a b : Int} : -1 ≤ (if b < a then (1 : Int) else if a = b then 0 else -1) ∧ (if b < a then (1 : Int) else if a = b then 0 else -1) ≤ 1 := by
  split
  · omega
  · split <;> omega
theorem lcmp_le {a b : Int} (h1 : -9223372036854775808 ≤ a) (h2 : a < 9223372036854775808) (h3 : -9223372036854775808 ≤ b) (h4 : b < 9223372036854775808) : (lg_cmp (lz a) (lz b) ≤ iz 0) = (a ≤ b) := by
  have q := lcmp_b (a := a) (b := b)
  rw [lcmp_lz h1 h2 h3 h4, iz_le (by omega) (by omega) (by omega) (by omega)]
  apply propext
  split
  · omega
  · split
    · omega
    · omega
theorem lcmp_lt {a b : Int} (h1 : -9223372036854775808 ≤ a) (h2 : a < 9223372036854775808) (h3 : -9223372036854775808 ≤ b) (h4 : b < 9223372036854775808) : (iz 0 < lg_cmp (lz a) (lz b)) = (b < a) := by
  have q := lcmp_b (a := a) (b := b)
  rw [lcmp_lz h1 h2 h3 h4, iz_lt (by omega) (by omega) (by omega) (by omega)]
  apply propext
  split
  · omega
  · split
    · omega
    · omega
theorem lcmp_ge {a b : Int} (h1 : -9223372036854775808 ≤ a) (h2 : a < 9223372036854775808) (h3 : -9223372036854775808 ≤ b) (h4 : b < 9223372036854775808) : (iz 0 ≤ lg_cmp (lz a) (lz b)) = (b ≤ a) := by
  have q := lcmp_b (a := a) (b := b)
  rw [lcmp_lz h1 h2 h3 h4, iz_le (by omega) (by omega) (by omega) (by omega)]
  apply propext
  split
  · omega
  · split
    · omega
    · omega
theorem lcmp_ne {a b : Int} (h1 : -9223372036854775808 ≤ a) (h2 : a < 9223372036854775808) (h3 : -9223372036854775808 ≤ b) (h4 : b < 9223372036854775808) : (lg_cmp (lz a) (lz b) = iz 0) = (a = b) := by
  have q := lcmp_b (a := a) (b := b)
  rw [lcmp_lz h1 h2 h3 h4, iz_eq (by omega) (by omega) (by omega) (by omega)]
  apply propext
  split
  · omega
  · split
    · omega
    · omega
def SL : List Nat := [83, 87, 88, 89, 90, 91, 92, 73]
theorem SP_SL : ∀ i, i ∈ SP → i ∈ SL := by decide
theorem SL_SV : ∀ i, i ∈ SL → i ∈ SV := by decide
theorem m_want_21 (w : WF V) (hN : 200 ≤ N) {f : Nat} {t g : Int} (hf : f < vF V) (ht : 0 ≤ t ∧ t < 4) (hg : 0 ≤ g ∧ g < 3) : ∀ (d i n : Nat) (h : Mem) (a most : Int), i + d = 6 → d < n → (0 ≤ a ∧ a ≤ 5) → RepM h (vset V 1 (t * 3 + g) a) → (1 ≤ i → most = wV V f t g (wbest (wV V f t g) i)) → ∃ h', f_X10_wants_21 N n 71 (iz f) (iz t) (iz g) (iz (va V 1 (t * 3 + g))) (iz (wbest (wV V f t g) i)) (lz most) (iz i) h = some (iz (want V f t g), h') ∧ RepM h' V ∧ FM SL h h' := by
  intro d
  have hF := w.F
  have hwl := w.l (j := t * 3 + g) (by omega) (by omega)
  have hbw : ∀ v : Nat, v < 6 → -2000000 ≤ wV V f t g v ∧ wV V f t g v ≤ 2000000 := fun v hv => worth_bd (wf_level w (by omega)) (by omega) ht
  induction d with
  | zero =>
    intro i n h a most hi hn ha R hm
    obtain ⟨n, rfl⟩ : ∃ k, n = k + 1 := ⟨n - 1, by omega⟩
    rw [f_X10_wants_21]
    obtain rfl : i = 6 := by omega
    have R1 := R.set (k := 1) (j := t * 3 + g) (x := va V 1 (t * 3 + g)) (by omega) (by omega)
    rw [vset_vset, vset_id rfl] at R1
    refine ⟨_, ?_, R1, FM.wr_ (by decide) (by decide)⟩
    rw [← want_wV hg]
    simp (disch := omega) only [nc1, nc2, nc3, nc4, nc5, nc6, nc7, nc8, nc9, nc12, nc16, nc20, nc21, nc40, nc60, nc120, nc200, Int.le_refl, ↓kr73 R.1, ↓ks73m R, il6, iz_le, ↓reduceIte]
  | succ d ih =>
    intro i n h a most hi hn ha R hm
    obtain ⟨n, rfl⟩ : ∃ k, n = k + 1 := ⟨n - 1, by omega⟩
    rw [f_X10_wants_21]
    have hc : ¬ ((6 : Int) ≤ i) := by omega
    have R1 := R.set (k := 1) (j := t * 3 + g) (x := (i : Int)) (by omega) (by omega)
    rw [vset_vset] at R1
    have wi := wf_level w (j := t * 3 + g) (x := (i : Int)) (by omega)
    have bi_ := hbw i (by omega)
    obtain ⟨h2, e2, R2, F2⟩ := m_worth R1 wi hN (f := f) (t := t) hf ht
    have F02 : FM SL h h2 := (FM.wr_ (by decide) (by decide)).tr (F2.mono SP_SL)
    have e2' : f_X10_worthOf N 71 (iz f) (iz t) (wr h 73 (upd (h.2.1 73) (t * 3 + g).toNat (iz (i : Int)))) = some (lz (wV V f t g i), h2) := e2
    by_cases h0 : i = 0
    · subst h0
      obtain ⟨h', e', R', F'⟩ := ih 1 n h2 0 (wV V f t g 0) (by omega) (by omega) (by omega) R2 (fun _ => by rw [wbest_1])
      refine ⟨h', ?_, R', F02.tr F'⟩
      have hc0 : ¬ ((6 : Int) ≤ ((0 : Nat) : Int)) := by decide
      unfold f_X10_wants_64
      simp (disch := omega) only [il0, il1, il2, il3, il4, il5, il6, il7, il8, il9, il10, il11, il12, il13, il14, il15, il16, il17, il18, il19, il20, il21, il22, il23, il24, il25, il26, il27, il28, il29, il30, il31, il32, il33, il36, il38, il39, il40, il41, il48, il50, il51, il57, il59, il60, il61, il62, il63, il70, il96, il99, il100, il101, il102, il103, il104, il105, il106, il107, il108, il109, il110, il111, il112, il115, il116, il120, il121, il124, il200, il240, il255, il288, il360, il420, il999, il1000, il114292, il152755, il402789, il435589, il463922, il533611, il631470, iz_le, hc0, ↓reduceIte, ↓kr73 R.1]
      rw [show iz 3 = (3 : Int32) from rfl, ks73m R (by omega) (by omega), kmC R1.1, bq e2']
      refine (if_pos (by decide)).trans ?_
      rw [wbest_1] at e'
      exact e'
    · have hm' := hm (by omega)
      have hbb := hbw (wbest (wV V f t g) i) (by have := wbest_lt (wV V f t g) i (by omega); omega)
      rw [← hm'] at hbb
      have hi0 : ¬ ((i : Int) ≤ 0) := by omega
      by_cases hlt : most < wV V f t g i
      · have e1 : wbest (wV V f t g) (i + 1) = i := by rw [wbest, ← hm', if_pos hlt]
        obtain ⟨h', e', R', F'⟩ := ih (i + 1) n h2 i (wV V f t g i) (by omega) (by omega) (by omega) R2 (fun _ => by rw [e1])
        refine ⟨h', ?_, R', F02.tr F'⟩
        rw [e1] at e'
        unfold f_X10_wants_64
        simp (disch := omega) only [il0, il1, il2, il3, il4, il5, il6, il7, il8, il9, il10, il11, il12, il13, il14, il15, il16, il17, il18, il19, il20, il21, il22, il23, il24, il25, il26, il27, il28, il29, il30, il31, il32, il33, il36, il38, il39, il40, il41, il48, il50, il51, il57, il59, il60, il61, il62, il63, il70, il96, il99, il100, il101, il102, il103, il104, il105, il106, il107, il108, il109, il110, il111, il112, il115, il116, il120, il121, il124, il200, il240, il255, il288, il360, il420, il999, il1000, il114292, il152755, il402789, il435589, il463922, il533611, il631470, iz_le, hc, ↓reduceIte, ↓kr73 R.1]
        rw [show iz 3 = (3 : Int32) from rfl, ks73m R (by omega) (by omega), kmC R1.1, bq e2']
        simp (disch := omega) only [hi0, ↓reduceIte, il0, il1, il2, il3, il4, il5, il6, il7, il8, il9, il10, il11, il12, il13, il14, il15, il16, il17, il18, il19, il20, il21, il22, il23, il24, il25, il26, il27, il28, il29, il30, il31, il32, il33, il36, il38, il39, il40, il41, il48, il50, il51, il57, il59, il60, il61, il62, il63, il70, il96, il99, il100, il101, il102, il103, il104, il105, il106, il107, il108, il109, il110, il111, il112, il115, il116, il120, il121, il124, il200, il240, il255, il288, il360, il420, il999, il1000, il114292, il152755, il402789, il435589, il463922, il533611, il631470, iz_le, lcmp_lt, hlt, iz_add]
        exact e'
      · have e1 : wbest (wV V f t g) (i + 1) = wbest (wV V f t g) i := by rw [wbest, ← hm', if_neg hlt]
        obtain ⟨h', e', R', F'⟩ := ih (i + 1) n h2 i most (by omega) (by omega) (by omega) R2 (fun _ => by rw [e1]; exact hm')
        refine ⟨h', ?_, R', F02.tr F'⟩
        rw [e1] at e'
        unfold f_X10_wants_64
        simp (disch := omega) only [il0, il1, il2, il3, il4, il5, il6, il7, il8, il9, il10, il11, il12, il13, il14, il15, il16, il17, il18, il19, il20, il21, il22, il23, il24, il25, il26, il27, il28, il29, il30, il31, il32, il33, il36, il38, il39, il40, il41, il48, il50, il51, il57, il59, il60, il61, il62, il63, il70, il96, il99, il100, il101, il102, il103, il104, il105, il106, il107, il108, il109, il110, il111, il112, il115, il116, il120, il121, il124, il200, il240, il255, il288, il360, il420, il999, il1000, il114292, il152755, il402789, il435589, il463922, il533611, il631470, iz_le, hc, ↓reduceIte, ↓kr73 R.1]
        rw [show iz 3 = (3 : Int32) from rfl, ks73m R (by omega) (by omega), kmC R1.1, bq e2']
        simp (disch := omega) only [hi0, ↓reduceIte, il0, il1, il2, il3, il4, il5, il6, il7, il8, il9, il10, il11, il12, il13, il14, il15, il16, il17, il18, il19, il20, il21, il22, il23, il24, il25, il26, il27, il28, il29, il30, il31, il32, il33, il36, il38, il39, il40, il41, il48, il50, il51, il57, il59, il60, il61, il62, il63, il70, il96, il99, il100, il101, il102, il103, il104, il105, il106, il107, il108, il109, il110, il111, il112, il115, il116, il120, il121, il124, il200, il240, il255, il288, il360, il420, il999, il1000, il114292, il152755, il402789, il435589, il463922, il533611, il631470, iz_le, lcmp_lt, hlt, iz_add]
        exact e'
theorem m_want {h : Mem} (R : RepM h V) (w : WF V) (hN : 200 ≤ N) {f : Nat} {t g : Int} (hf : f < vF V) (ht : 0 ≤ t ∧ t < 4) (hg : 0 ≤ g ∧ g < 3) : ∃ h', f_X10_wants N 71 (iz f) (iz t) (iz g) h = some (iz (want V f t g), h') ∧ RepM h' V ∧ FM SL h h' := by
  have hwl := w.l (j := t * 3 + g) (by omega) (by omega)
  have R1 : RepM h (vset V 1 (t * 3 + g) (va V 1 (t * 3 + g))) := by rw [vset_id rfl]; exact R
  obtain ⟨h', e, r⟩ := m_want_21 (N := N) w hN hf ht hg 6 0 N h _ 0 (by omega) (by omega) hwl.1 R1 (fun z => by omega)
  refine ⟨h', ?_, r⟩
  unfold f_X10_wants
  rw [kr73 R.1, kx1m R (by omega) (by omega)]
  exact e
end
