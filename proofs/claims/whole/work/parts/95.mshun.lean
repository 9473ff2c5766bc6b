/-! the model's table of what is shunned -/
def FS (h : Mem) (V : Vw) : Prop := MSh h ∧ h.2.1 71 1 = iz (vF V : Int) ∧ (∀ j : Nat, j < 8 → h.2.1 77 j = iz (va V 5 j)) ∧ (∀ j : Nat, j < 8 → h.2.1 78 j = iz (va V 6 j)) ∧ GOES h (vs V)
theorem FS.fq {h h' : Mem} {V : Vw} (s : FS h V) (f : FQ h h') : FS h' V := by
  obtain ⟨s1, s2, s3, s4, s5⟩ := s
  refine ⟨s1.eq f.1 (by rw [f.2.1]), ?_, fun j hj => ?_, fun j hj => ?_, ?_⟩
  · rw [f.2.2.2 1 (by decide)]; exact s2
  · rw [f.2.2.1 77 (by decide) (by decide)]; exact s3 j hj
  · rw [f.2.2.1 78 (by decide) (by decide)]; exact s4 j hj
  · unfold GOES at *
    rw [f.2.2.1 81 (by decide) (by decide), f.2.2.1 82 (by decide) (by decide), f.2.2.2 12 (by decide)]; exact s5
def CHK (h : Mem) (V : Vw) (K : Nat) : Prop := ∀ f t n : Nat, f < vF V → t < 4 → 1 ≤ n → n < 9 → 36 * f + 9 * t + n < K → h.2.1 87 (36 * f + 9 * t + n) = iz (vs V (va V 5 f) (va V 6 f) t n)
section
variable {V : Vw} {N : Nat}
theorem m_one (hN : 200 ≤ N) (w : WF V) {h : Mem} {f t n : Nat} (hf : f < vF V) (ht : t < 4) (hn : 1 ≤ n ∧ n < 9) (s : FS h V) (fa : FA h (va V 5 f) (va V 6 f) t n) {K : Mem → Int32 → Option Mem} {z : Mem → Option Mem} (hz : ∀ h', z h' = K h' (iz 0)) : ∃ h', ((gI h 71 10 12).bind fun t28 => if t28 ≤ 0 then z h else (ck h 71 10).bind fun _ => b2 (f_X10_goes N 71 (0 : Int32) h) fun t34 h33 => if t34 = 0 then z h33 else (gI h33 71 10 21).bind fun t36 => K h33 t36) = K h' (iz (vs V (va V 5 f) (va V 6 f) t n)) ∧ FQ h h' ∧ (h'.2.1 87 = h.2.1 87) := by
  have hF := w.F
  obtain ⟨s1, s2, s3, s4, x, L, la, g1, g2, g3, g4, g5, g6, g7⟩ := s
  have w5 := w.f (j := f) (by omega) (by omega)
  rw [kmI s1, g5]
  rcases g7 with ⟨rfl, g8⟩ | ⟨g8, g9, g10⟩
  · refine ⟨h, ?_, FQ.rf, rfl⟩
    rw [g8]
    refine (if_pos (by rw [il0]; exact Int32.le_refl _)).trans (hz h)
  · obtain ⟨g, hg⟩ := g10 (va V 5 f) (va V 6 f) t n w5.1.1 w5.1.2 w5.2.1.1 w5.2.1.2 (by omega) (by omega) (by omega) (by omega)
    obtain ⟨h', e1, f1, i1, i2, i3⟩ := m_goes (N := N) (w := 0) hN (by decide) s1 (fun j hj => by rw [Nat.mul_zero, Nat.zero_add]; exact g1 j hj) g2 g3 g4 fa
    obtain ⟨sm', k1, k2, k3⟩ := i1 g9
    have k8 := k1.2.2.2.2.2.2.2
    rw [hg] at k8
    have es : vs V (va V 5 f) (va V 6 f) t n = sm' := congrArg Prod.fst (Option.some.inj k8)
    refine ⟨h', ?_, f1, ?_⟩
    · rw [g9] at e1
      have hla : ¬ ((la : Int) ≤ 0) := by omega
      have S' : MSh h' := s1.eq f1.1 (by rw [f1.2.1])
      refine (if_neg (show ¬ (iz (la : Int) ≤ (0 : Int32)) by rw [il0, iz_le (by omega) (by omega) (by omega) (by omega)]; exact hla)).trans ?_
      rw [kmC s1, bq (show f_X10_goes N 71 (0 : Int32) h = _ from e1)]
      refine (if_neg (by decide)).trans ?_
      rw [kmI S', k1.2.2.2.2.2.2.1, es]
    · exact i3
theorem m_fsh_24 (hN : 200 ≤ N) (w : WF V) {f t : Nat} (hf : f < vF V) (ht : t < 4) (k17 : Nat → Int32 → Int32 → Mem → Option Mem) : ∀ (d i m : Nat) (h : Mem), i + d = 9 → 1 ≤ i → d < m → FS h V → CHK h V (36 * f + 9 * t + i) → ∃ h', f_X10_findShun_24 N m 71 (iz f) (iz t) (iz (i : Int)) h k17 = k17 71 (iz f) (iz ((t + 1 : Nat) : Int)) h' ∧ FS h' V ∧ FQ h h' ∧ CHK h' V (36 * f + 9 * t + 9) := by
  intro d
  have hF := w.F
  induction d with
  | zero =>
    intro i n h hi h1 hn s c
    obtain ⟨n, rfl⟩ : ∃ k, n = k + 1 := ⟨n - 1, by omega⟩
    rw [f_X10_findShun_24]
    obtain rfl : i = 9 := by omega
    refine ⟨h, ?_, s, FQ.rf, c⟩
    simp (disch := omega) only [il0, il1, il2, il3, il4, il5, il6, il7, il8, il9, il10, il11, il12, il13, il14, il15, il16, il17, il18, il19, il20, il21, il22, il23, il24, il25, il26, il27, il28, il29, il30, il31, il32, il33, il36, il38, il39, il40, il41, il48, il50, il51, il57, il59, il60, il61, il62, il63, il70, il96, il99, il100, il101, il102, il103, il104, il105, il106, il107, il108, il109, il110, il111, il112, il115, il116, il120, il121, il124, il200, il240, il255, il288, il360, il420, il999, il1000, il114292, il152755, il402789, il435589, il463922, il533611, il631470, iz_le, nc1, nc2, nc3, nc4, nc5, nc6, nc7, nc8, nc9, nc12, nc16, nc20, nc21, nc40, nc60, nc120, nc200, Int.le_refl, ↓reduceIte, iz_add]
    rfl
  | succ d ih =>
    intro i n h hi h1 hn s c
    obtain ⟨n, rfl⟩ : ∃ k, n = k + 1 := ⟨n - 1, by omega⟩
    rw [f_X10_findShun_24]
    have hc : ¬ ((9 : Int) ≤ i) := by omega
    have S := s.1
    have w5 := w.f (j := f) (by omega) (by omega)
    have a5 := s.2.2.1 f (by omega)
    have a6 := s.2.2.2.1 f (by omega)
    obtain ⟨row, hrow⟩ : ∃ row, row = upd (upd (upd (upd (h.2.1 83) 0 (iz (va V 5 f))) 1 (iz (va V 6 f))) 2 (iz (t : Int))) 3 (iz (i : Int)) := ⟨_, rfl⟩
    have s1 : FS (wr h 83 row) V := s.fq (FQ.wr_ (by decide))
    have fa : FA (wr h 83 row) (va V 5 f) (va V 6 f) t i := by
      unfold FA ib
      rw [wr_eq, hrow]
      refine ⟨rfl, rfl, rfl, rfl, ?_, ?_, ?_, ?_⟩ <;> constructor <;> omega
    obtain ⟨h2, e2, f2, u2'⟩ := m_one (N := N) hN w hf ht (n := i) (by omega) s1 fa (K := fun h36 v => f_X10_findShun_106 N 71 (iz f) (iz t) (iz (i : Int)) 87 (((iz 36 * iz f) + (iz 9 * iz t)) + iz (i : Int)) v h36 (fun v0 v1 v2 v3 h => f_X10_findShun_24 N n v0 v1 v2 v3 h k17)) (z := fun h' => f_X10_findShun_105 N 71 (iz f) (iz t) (iz (i : Int)) 87 (((iz 36 * iz f) + (iz 9 * iz t)) + iz (i : Int)) h' (fun v0 v1 v2 v3 s0 s1 s2 h => f_X10_findShun_106 N v0 v1 v2 v3 s0 s1 s2 h (fun v0 v1 v2 v3 h => f_X10_findShun_24 N n v0 v1 v2 v3 h k17))) (fun h' => rfl)
    have s2 := s1.fq f2
    have S2 := s2.1
    have f3 : FQ h2 (wr h2 87 (upd (h2.2.1 87) (36 * f + 9 * t + i) (iz (vs V (va V 5 f) (va V 6 f) t i)))) := FQ.wr_ (by decide)
    have s3 := s2.fq f3
    have c3 : CHK (wr h2 87 (upd (h2.2.1 87) (36 * f + 9 * t + i) (iz (vs V (va V 5 f) (va V 6 f) t i)))) V (36 * f + 9 * t + (i + 1)) := by
      intro f' t' n' hf' ht' h1' hn' hk
      rw [wr_eq, upd_at]
      by_cases e : 36 * f' + 9 * t' + n' = 36 * f + 9 * t + i
      · have e1 : f' = f := by omega
        have e2 : t' = t := by omega
        have e3 : n' = i := by omega
        rw [if_pos e, e1, e2, e3]
      · rw [if_neg e, u2', wr_ne (by decide)]
        exact c f' t' n' hf' ht' h1' hn' (by omega)
    obtain ⟨h', e', s', f', c'⟩ := ih (i + 1) n _ (by omega) (by omega) (by omega) s3 c3
    refine ⟨h', ?_, s', (((FQ.wr_ (by decide)).tr f2).tr f3).tr f', c'⟩
    have ei : ((36 : Int) * (f : Int) + 9 * (t : Int) + (i : Int)).toNat = 36 * f + 9 * t + i := by omega
    have e2' : f_X10_findShun_106 N 71 (iz f) (iz t) (iz (i : Int)) 87 (((iz 36 * iz f) + (iz 9 * iz t)) + iz (i : Int)) (iz (vs V (va V 5 f) (va V 6 f) t i)) h2 (fun v0 v1 v2 v3 h => f_X10_findShun_24 N n v0 v1 v2 v3 h k17) = k17 71 (iz f) (iz ((t + 1 : Nat) : Int)) h' := by
      unfold f_X10_findShun_106
      simp (disch := omega) only [iz_mul, iz_add, ↓ks87 S2, ei, il0, il1, il2, il3, il4, il5, il6, il7, il8, il9, il10, il11, il12, il13, il14, il15, il16, il17, il18, il19, il20, il21, il22, il23, il24, il25, il26, il27, il28, il29, il30, il31, il32, il33, il36, il38, il39, il40, il41, il48, il50, il51, il57, il59, il60, il61, il62, il63, il70, il96, il99, il100, il101, il102, il103, il104, il105, il106, il107, il108, il109, il110, il111, il112, il115, il116, il120, il121, il124, il200, il240, il255, il288, il360, il420, il999, il1000, il114292, il152755, il402789, il435589, il463922, il533611, il631470]
      exact e'
    refine Eq.trans ?_ (e2.trans e2')
    have q1 : ∀ (r : Nat → Int32), r 1 = h.2.1 83 1 → True := fun _ _ => trivial
    have z77 : ∀ r, (wr h 83 r).2.1 77 f = iz (va V 5 f) := fun r => by rw [wr_ne (by decide)]; exact a5
    have z78 : ∀ r, (wr h 83 r).2.1 78 f = iz (va V 6 f) := fun r => by rw [wr_ne (by decide)]; exact a6
    simp (disch := omega) only [il0, il1, il2, il3, il4, il5, il6, il7, il8, il9, il10, il11, il12, il13, il14, il15, il16, il17, il18, il19, il20, il21, il22, il23, il24, il25, il26, il27, il28, il29, il30, il31, il32, il33, il36, il38, il39, il40, il41, il48, il50, il51, il57, il59, il60, il61, il62, il63, il70, il96, il99, il100, il101, il102, il103, il104, il105, il106, il107, il108, il109, il110, il111, il112, il115, il116, il120, il121, il124, il200, il240, il255, il288, il360, il420, il999, il1000, il114292, il152755, il402789, il435589, il463922, il533611, il631470, iz_le, hc, ↓reduceIte, ↓kr83 S, ↓kr77 S, ↓kl77 S, toN, a5, ↓ks83 S]
    rw [kr83 S.wr_, kr78 S.wr_, kl78 S.wr_ (by omega) (by omega), toN, z78, ks83 S.wr_ (by omega) (by omega), kr83 S.wr_.wr_, ks83 S.wr_.wr_ (by omega) (by omega), kr83 S.wr_.wr_.wr_, ks83 S.wr_.wr_.wr_ (by omega) (by omega), kr87 S.wr_.wr_.wr_.wr_]
    rw [wr_wr, wr_wr, wr_wr]
    rw [wr_eq, wr_eq, wr_eq]
    rw [hrow]
    rfl
theorem m_fsh_17 (hN : 200 ≤ N) (w : WF V) {f : Nat} (hf : f < vF V) (k7 : Nat → Int32 → Mem → Option Mem) : ∀ (d i m : Nat) (h : Mem), i + d = 4 → d < m → FS h V → CHK h V (36 * f + 9 * i) → ∃ h', f_X10_findShun_17 N m 71 (iz f) (iz (i : Int)) h k7 = k7 71 (iz ((f + 1 : Nat) : Int)) h' ∧ FS h' V ∧ FQ h h' ∧ CHK h' V (36 * (f + 1)) := by
  intro d
  have hF := w.F
  induction d with
  | zero =>
    intro i n h hi hn s c
    obtain ⟨n, rfl⟩ : ∃ k, n = k + 1 := ⟨n - 1, by omega⟩
    rw [f_X10_findShun_17]
    obtain rfl : i = 4 := by omega
    refine ⟨h, ?_, s, FQ.rf, c⟩
    simp (disch := omega) only [il0, il1, il2, il3, il4, il5, il6, il7, il8, il9, il10, il11, il12, il13, il14, il15, il16, il17, il18, il19, il20, il21, il22, il23, il24, il25, il26, il27, il28, il29, il30, il31, il32, il33, il36, il38, il39, il40, il41, il48, il50, il51, il57, il59, il60, il61, il62, il63, il70, il96, il99, il100, il101, il102, il103, il104, il105, il106, il107, il108, il109, il110, il111, il112, il115, il116, il120, il121, il124, il200, il240, il255, il288, il360, il420, il999, il1000, il114292, il152755, il402789, il435589, il463922, il533611, il631470, iz_le, nc1, nc2, nc3, nc4, nc5, nc6, nc7, nc8, nc9, nc12, nc16, nc20, nc21, nc40, nc60, nc120, nc200, Int.le_refl, ↓reduceIte, iz_add]
    rfl
  | succ d ih =>
    intro i n h hi hn s c
    obtain ⟨n, rfl⟩ : ∃ k, n = k + 1 := ⟨n - 1, by omega⟩
    rw [f_X10_findShun_17]
    have hc : ¬ ((4 : Int) ≤ i) := by omega
    obtain ⟨h1, e1, s1, f1, c1⟩ := m_fsh_24 (N := N) hN w hf (t := i) (by omega) (fun v0 v1 v2 h => f_X10_findShun_17 N n v0 v1 v2 h k7) 8 1 N h (by omega) (by omega) (by omega) s (by
      intro f' t' n' a1 a2 a3 a4 a5
      exact c f' t' n' a1 a2 a3 a4 (by omega))
    obtain ⟨h', e', s', f', c'⟩ := ih (i + 1) n h1 (by omega) (by omega) s1 (by
      intro f' t' n' a1 a2 a3 a4 a5
      exact c1 f' t' n' a1 a2 a3 a4 (by omega))
    refine ⟨h', ?_, s', f1.tr f', c'⟩
    simp (disch := omega) only [il0, il1, il2, il3, il4, il5, il6, il7, il8, il9, il10, il11, il12, il13, il14, il15, il16, il17, il18, il19, il20, il21, il22, il23, il24, il25, il26, il27, il28, il29, il30, il31, il32, il33, il36, il38, il39, il40, il41, il48, il50, il51, il57, il59, il60, il61, il62, il63, il70, il96, il99, il100, il101, il102, il103, il104, il105, il106, il107, il108, il109, il110, il111, il112, il115, il116, il120, il121, il124, il200, il240, il255, il288, il360, il420, il999, il1000, il114292, il152755, il402789, il435589, il463922, il533611, il631470, iz_le, hc, ↓reduceIte]
    exact e1.trans e'
theorem m_fsh_7 (hN : 200 ≤ N) (w : WF V) : ∀ (d i m : Nat) (h : Mem), i + d = vF V → d < m → FS h V → CHK h V (36 * i) → ∃ h', f_X10_findShun_7 N m 71 (iz (i : Int)) h = some h' ∧ FS h' V ∧ FQ h h' ∧ cacheOK h' V := by
  intro d
  have hF := w.F
  induction d with
  | zero =>
    intro i n h hi hn s c
    obtain ⟨n, rfl⟩ : ∃ k, n = k + 1 := ⟨n - 1, by omega⟩
    rw [f_X10_findShun_7]
    obtain rfl : i = vF V := by omega
    refine ⟨h, ?_, s, FQ.rf, fun f t n a1 a2 a3 a4 => c f t n a1 a2 a3 a4 (by omega)⟩
    simp (disch := omega) only [↓kmI s.1, s.2.1, iz_le, Int.le_refl, ↓reduceIte]
  | succ d ih =>
    intro i n h hi hn s c
    obtain ⟨n, rfl⟩ : ∃ k, n = k + 1 := ⟨n - 1, by omega⟩
    rw [f_X10_findShun_7]
    have hc : ¬ ((vF V : Int) ≤ i) := by omega
    obtain ⟨h1, e1, s1, f1, c1⟩ := m_fsh_17 (N := N) hN w (f := i) (by omega) (fun v0 v1 h => f_X10_findShun_7 N n v0 v1 h) 4 0 N h (by omega) (by omega) s c
    obtain ⟨h', e', s', f', c'⟩ := ih (i + 1) n h1 (by omega) (by omega) s1 c1
    refine ⟨h', ?_, s', f1.tr f', c'⟩
    simp (disch := omega) only [↓kmI s.1, s.2.1, il0, il1, il2, il3, il4, il5, il6, il7, il8, il9, il10, il11, il12, il13, il14, il15, il16, il17, il18, il19, il20, il21, il22, il23, il24, il25, il26, il27, il28, il29, il30, il31, il32, il33, il36, il38, il39, il40, il41, il48, il50, il51, il57, il59, il60, il61, il62, il63, il70, il96, il99, il100, il101, il102, il103, il104, il105, il106, il107, il108, il109, il110, il111, il112, il115, il116, il120, il121, il124, il200, il240, il255, il288, il360, il420, il999, il1000, il114292, il152755, il402789, il435589, il463922, il533611, il631470, iz_le, hc, ↓reduceIte]
    exact e1.trans e'
theorem FQ.rep {h h' : Mem} (f : FQ h h') (R : RepM h V) (e29 : h'.2.1 71 29 = iz 0 ∨ h'.2.1 71 29 = iz 1 ∧ cacheOK h' V) : RepM h' V := by
  obtain ⟨r1, ⟨r2, r3⟩, r4, r5, r6, r7, ⟨r8, r9, r10⟩, r11, r12⟩ := R
  refine ⟨r1.eq f.1 (by rw [f.2.1]), ⟨?_, ?_⟩, fun k hk j hj => ?_, fun j hj => ?_, fun j hj => ?_, fun j hj => ?_, ⟨?_, ?_, ?_⟩, ?_, e29⟩
  · rw [f.2.2.2 0 (by decide)]; exact r2
  · rw [f.2.2.2 1 (by decide)]; exact r3
  · rw [f.2.2.1 (72 + k) (by omega) (by
      have : ∀ k, k < 9 → 72 + k ∉ sgQ := by decide
      exact this k hk)]; exact r4 k hk j hj
  · rw [f.2.2.1 84 (by decide) (by decide)]; exact r5 j hj
  · rw [f.2.2.1 85 (by decide) (by decide)]; exact r6 j hj
  · rw [f.2.2.1 86 (by decide) (by decide)]; exact r7 j hj
  · rw [f.2.2.2 25 (by decide)]; exact r8
  · rw [f.2.2.2 26 (by decide)]; exact r9
  · rw [f.2.2.2 27 (by decide)]; exact r10
  · unfold GOES at *
    rw [f.2.2.1 81 (by decide) (by decide), f.2.2.1 82 (by decide) (by decide), f.2.2.2 12 (by decide)]; exact r11
/-- the worth of a town for a family, as the model finds it -/
theorem m_worth {h : Mem} (R : RepM h V) (w : WF V) (hN : 200 ≤ N) {f : Nat} {t : Int} (hf : f < vF V) (ht : 0 ≤ t ∧ t < 4) : ∃ h', f_X10_worthOf N 71 (iz f) (iz t) h = some (lz (worth V f t), h') ∧ RepM h' V ∧ FM SP h h' := by
  have hF := w.F
  have fin : ∀ h1 : Mem, RepM h1 V → cacheOK h1 V → f_X10_worthOf_11 N 71 (iz f) (iz t) h1 = some (lz (worth V f t), h1) := by
    intro h1 R1 ca
    exact m_worth_16 R1 w ca hN hf ht 3 0 N (by omega) (by omega)
  unfold f_X10_worthOf
  rw [kmI R.1]
  rcases R.2.2.2.2.2.2.2.2 with k0 | ⟨k1, ca⟩
  · have R1 := R.1.fd_ (j := 29) (v := iz 1)
    have s0 : FS (fd h 29 (iz 1)) V := ⟨R1, by rw [fd_at, if_neg (by decide)]; exact R.2.1.2, fun j hj => by rw [fd_ne (by decide)]; exact R.2.2.1 5 (by decide) j hj, fun j hj => by rw [fd_ne (by decide)]; exact R.2.2.1 6 (by decide) j hj, by
      have := R.2.2.2.2.2.2.2.1
      unfold GOES at *
      rw [fd_ne (by decide), fd_ne (by decide), fd_at, if_neg (by decide)]; exact this⟩
    obtain ⟨h2, e2, s2, f2, c2⟩ := m_fsh_7 (N := N) hN w (vF V) 0 N _ (by omega) (by omega) s0 (fun f t n _ _ a3 _ a5 => by omega)
    have e29 : h2.2.1 71 29 = iz 1 := by rw [f2.2.2.2 29 (by decide), fd_at, if_pos rfl]
    have F1 : FM SP h h2 := (FM.fd_ (by decide)).tr f2.fm
    have R2 : RepM h2 V := by
      obtain ⟨r1, ⟨r2, r3⟩, r4, r5, r6, r7, ⟨r8, r9, r10⟩, r11, r12⟩ := R
      have g : ∀ i, i ≠ 71 → i ∉ SP → h2.2.1 i = h.2.1 i := F1.2.2.2.1
      have q : ∀ j, j ∉ pfM → h2.2.1 71 j = h.2.1 71 j := F1.2.2.2.2
      refine ⟨s2.1, ⟨?_, ?_⟩, fun k hk j hj => ?_, fun j hj => ?_, fun j hj => ?_, fun j hj => ?_, ⟨?_, ?_, ?_⟩, s2.2.2.2.2, Or.inr ⟨e29, c2⟩⟩
      · rw [q 0 (by decide)]; exact r2
      · rw [q 1 (by decide)]; exact r3
      · rw [g (72 + k) (by omega) (by
          have : ∀ k, k < 9 → 72 + k ∉ SP := by decide
          exact this k hk)]; exact r4 k hk j hj
      · rw [g 84 (by decide) (by decide)]; exact r5 j hj
      · rw [g 85 (by decide) (by decide)]; exact r6 j hj
      · rw [g 86 (by decide) (by decide)]; exact r7 j hj
      · rw [q 25 (by decide)]; exact r8
      · rw [q 26 (by decide)]; exact r9
      · rw [q 27 (by decide)]; exact r10
    refine ⟨h2, ?_, R2, F1⟩
    rw [k0]
    refine (if_pos (by decide)).trans ?_
    rw [kmC R.1]
    unfold f_X10_findShun
    rw [ksZ1 R.1, bo (show f_X10_findShun_7 N N 71 (0 : Int32) (fd h 29 (iz 1)) = some h2 from e2)]
    exact fin h2 R2 c2
  · refine ⟨h, ?_, R, FM.rf⟩
    rw [k1]
    exact (if_neg (by decide)).trans (fin h R ca)
end
