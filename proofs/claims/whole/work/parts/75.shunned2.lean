section
variable {h : Mem} {p N : Nat} {T : List Int}
theorem l_shunned_165 {s i t n : Int} {v5 v7 : Int32} {f : Nat} {k : Nat} {a : Int} (hk : k < 16000) (hg : k % 16 < 12) (hf : f < 524288) (ha : -1000 ≤ a ∧ a ≤ 1000) {k9 : Nat → Int32 → Int32 → Int32 → Int32 → Int32 → Int32 → Int32 → Mem → Option (Int32 × Mem)} : f_X3_shunned_165 N p (iz s) (iz i) (iz t) (iz n) v5 (iz (f : Int)) v7 (iz ((k % 16 : Nat) : Int)) (iz ((k / 16 : Nat) : Int)) (iz a) h k9 = k9 p (iz s) (iz i) (iz t) (iz n) v5 (iz ((2 * f + mrk a ((k : Int) % 16 % 3) ((k : Int) / 16) : Nat) : Int)) (v7 + iz 1) h := by
  have e0 : iz ((k % 16 : Nat) : Int) - iz ((k % 16 : Nat) : Int) / iz 3 * iz 3 = iz ((k : Int) % 16 % 3) := by
    rw [iz_div (by omega) (by omega) (by omega) (by omega), iz_mul, iz_sub]
    congr 1
    rw [show (3 : Int) = ((3 : Nat) : Int) from rfl, ← Int.ofNat_tdiv]
    omega
  have e1 := l_mark (N := N) (h := h) (a := a) (m := (k : Int) % 16 % 3) (b := (k : Int) / 16) ha (by omega) (by omega)
  have e2 : iz ((k / 16 : Nat) : Int) = iz ((k : Int) / 16) := by congr 1
  have hm := mrk_le a ((k : Int) % 16 % 3) ((k : Int) / 16)
  unfold f_X3_shunned_165 f_X3_shunned_190
  simp only [il0, il1, il2, il3, il4, il5, il6, il7, il8, il9, il10, il11, il12, il13, il14, il15, il16, il17, il18, il19, il20, il21, il22, il23, il24, il25, il26, il27, il28, il29, il30, il31, il32, il33, il36, il38, il39, il40, il41, il48, il50, il51, il57, il59, il60, il61, il62, il63, il70, il96, il99, il100, il101, il102, il103, il104, il105, il106, il107, il108, il109, il110, il111, il112, il115, il116, il120, il121, il124, il200, il240, il255, il288, il360, il420, il999, il1000, il114292, il152755, il402789, il435589, il463922, il533611, il631470, e0, e2, ↓bq e1]
  generalize mrk a ((k : Int) % 16 % 3) ((k : Int) / 16) = m at *
  have h01 : m = 0 ∨ m = 1 := by omega
  have h3 : ¬ ((1 : Int) = 0) := by decide
  rcases h01 with rfl | rfl
  · refine (if_pos (show iz ((0 : Nat) : Int) = iz 0 from rfl)).trans ?_
    have := iz_push hf (v := 0) (by decide)
    exact congrArg (fun z => k9 p (iz s) (iz i) (iz t) (iz n) v5 z (v7 + iz 1) h) this
  · refine (if_neg (show ¬ (iz ((1 : Nat) : Int) = iz 0) by decide)).trans ?_
    have := iz_push hf (v := 1) (by decide)
    exact congrArg (fun z => k9 p (iz s) (iz i) (iz t) (iz n) v5 z (v7 + iz 1) h) this
end
