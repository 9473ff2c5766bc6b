/-! the model: its cell 71, its rows -/
def MTb : List (Nat × Nat × Nat × Nat) := [(3, 72, 100, 4), (4, 73, 100, 12), (5, 74, 100, 4), (6, 75, 100, 4), (7, 76, 100, 4), (8, 77, 100, 8), (9, 78, 100, 8), (10, 79, 100, 8), (11, 80, 100, 8), (14, 81, 100, 240), (15, 82, 100, 2), (16, 83, 100, 4), (22, 84, 100, 12), (23, 85, 100, 16), (24, 86, 100, 3), (28, 87, 100, 288), (30, 88, 100, 121), (31, 89, 102, 121), (35, 90, 100, 12), (36, 91, 100, 16), (37, 92, 100, 3), (41, 93, 100, 6), (42, 94, 100, 3), (43, 95, 100, 8), (44, 96, 103, 8), (45, 97, 100, 420), (46, 98, 100, 40), (47, 99, 100, 8), (48, 100, 100, 8), (49, 101, 100, 8), (51, 102, 100, 4), (52, 103, 100, 4), (53, 104, 100, 4), (54, 105, 100, 4), (56, 106, 100, 20), (57, 107, 100, 6), (58, 108, 100, 6), (59, 109, 103, 360), (60, 110, 103, 60)]
def MSh (h : Mem) : Prop := h.1[71]? = some (10, 0) ∧ ∀ q ∈ MTb, h.2.2.2 71 q.1 = some q.2.1 ∧ h.1[q.2.1]? = some (q.2.2.1, q.2.2.2)
theorem MSh.eq {h h' : Mem} (s : MSh h) (e1 : h'.1 = h.1) (e2 : h'.2.2.2 = h.2.2.2) : MSh h' := by unfold MSh at *; rw [e1, e2]; exact s
def fd (h : Mem) (j : Nat) (v : Int32) : Mem := (h.1, u2 h.2.1 71 j v, h.2.2.1, h.2.2.2)
theorem fd_at {h : Mem} {j i : Nat} {v : Int32} : (fd h j v).2.1 71 i = if i = j then v else h.2.1 71 i := by show u2 h.2.1 71 j v 71 i = _; exact u2_at
theorem fd_ne {h : Mem} {j i : Nat} {v : Int32} (hi : i ≠ 71) : (fd h j v).2.1 i = h.2.1 i := by show u2 h.2.1 71 j v i = _; exact u2_ne hi
theorem u2_id {α : Type} {f : Nat → Nat → α} {a j : Nat} : u2 f a j (f a j) = f := by
  funext i k
  by_cases hi : i = a
  · subst hi
    rw [u2_at]
    by_cases hk : k = j
    · rw [if_pos hk, hk]
    · rw [if_neg hk]
  · rw [u2_ne hi]
theorem fd_fd {h : Mem} {j : Nat} {v w : Int32} : fd (fd h j v) j w = fd h j w := by
  unfold fd
  rw [show (h.1, u2 h.2.1 71 j v, h.2.2.1, h.2.2.2).2.1 = u2 h.2.1 71 j v from rfl, u2_u2]
theorem fd_id {h : Mem} {j : Nat} {v : Int32} (e : v = h.2.1 71 j) : fd h j v = h := by
  subst e
  unfold fd
  rw [u2_id]
section
variable {h : Mem} {γ : Type}
theorem kmC (S : MSh h) {k : Unit → Option γ} : (ck h 71 10).bind k = k () := bo (ck_q S.1)
theorem kmI (S : MSh h) {j : Nat} {k : Int32 → Option γ} : (gI h 71 10 j).bind k = k (h.2.1 71 j) := bo (gI_q S.1)
theorem ksI (S : MSh h) {j : Nat} {v : Int32} {k : Mem → Option γ} : (sI h 71 10 j v).bind k = k (fd h j v) := bo (sI_q S.1)
theorem ksZ0 (S : MSh h) {j : Nat} {k : Mem → Option γ} : (sZ h 71 10 j (0 : Int32)).bind k = k (fd h j (iz 0)) := bo (sZ_q S.1 (Or.inl rfl))
theorem ksZ1 (S : MSh h) {j : Nat} {k : Mem → Option γ} : (sZ h 71 10 j (1 : Int32)).bind k = k (fd h j (iz 1)) := bo (sZ_q S.1 (Or.inr rfl))
theorem kr72 (S : MSh h) {k : Nat → Option γ} : (gR h 71 10 3).bind k = k 72 := bo (gR_q S.1 (S.2 (3, 72, 100, 4) (by decide)).1)
theorem kl72 (S : MSh h) {z : Int} {k : Int32 → Option γ} (h0 : 0 ≤ z) (h1 : z < 4) : (lI 100 h 72 (iz z)).bind k = k (h.2.1 72 z.toNat) := bo (lI_q (S.2 (3, 72, 100, 4) (by decide)).2 h0 h1 (by decide))
theorem ks72 (S : MSh h) {z : Int} {v : Int32} {k : Mem → Option γ} (h0 : 0 ≤ z) (h1 : z < 4) : (stI 100 h 72 (iz z) v).bind k = k (wr h 72 (upd (h.2.1 72) z.toNat v)) := bo (st_wr (S.2 (3, 72, 100, 4) (by decide)).2 h0 h1 (by decide))
theorem kr73 (S : MSh h) {k : Nat → Option γ} : (gR h 71 10 4).bind k = k 73 := bo (gR_q S.1 (S.2 (4, 73, 100, 12) (by decide)).1)
theorem kl73 (S : MSh h) {z : Int} {k : Int32 → Option γ} (h0 : 0 ≤ z) (h1 : z < 12) : (lI 100 h 73 (iz z)).bind k = k (h.2.1 73 z.toNat) := bo (lI_q (S.2 (4, 73, 100, 12) (by decide)).2 h0 h1 (by decide))
theorem ks73 (S : MSh h) {z : Int} {v : Int32} {k : Mem → Option γ} (h0 : 0 ≤ z) (h1 : z < 12) : (stI 100 h 73 (iz z) v).bind k = k (wr h 73 (upd (h.2.1 73) z.toNat v)) := bo (st_wr (S.2 (4, 73, 100, 12) (by decide)).2 h0 h1 (by decide))
theorem kr74 (S : MSh h) {k : Nat → Option γ} : (gR h 71 10 5).bind k = k 74 := bo (gR_q S.1 (S.2 (5, 74, 100, 4) (by decide)).1)
theorem kl74 (S : MSh h) {z : Int} {k : Int32 → Option γ} (h0 : 0 ≤ z) (h1 : z < 4) : (lI 100 h 74 (iz z)).bind k = k (h.2.1 74 z.toNat) := bo (lI_q (S.2 (5, 74, 100, 4) (by decide)).2 h0 h1 (by decide))
theorem ks74 (S : MSh h) {z : Int} {v : Int32} {k : Mem → Option γ} (h0 : 0 ≤ z) (h1 : z < 4) : (stI 100 h 74 (iz z) v).bind k = k (wr h 74 (upd (h.2.1 74) z.toNat v)) := bo (st_wr (S.2 (5, 74, 100, 4) (by decide)).2 h0 h1 (by decide))
theorem kr75 (S : MSh h) {k : Nat → Option γ} : (gR h 71 10 6).bind k = k 75 := bo (gR_q S.1 (S.2 (6, 75, 100, 4) (by decide)).1)
theorem kl75 (S : MSh h) {z : Int} {k : Int32 → Option γ} (h0 : 0 ≤ z) (h1 : z < 4) : (lI 100 h 75 (iz z)).bind k = k (h.2.1 75 z.toNat) := bo (lI_q (S.2 (6, 75, 100, 4) (by decide)).2 h0 h1 (by decide))
theorem ks75 (S : MSh h) {z : Int} {v : Int32} {k : Mem → Option γ} (h0 : 0 ≤ z) (h1 : z < 4) : (stI 100 h 75 (iz z) v).bind k = k (wr h 75 (upd (h.2.1 75) z.toNat v)) := bo (st_wr (S.2 (6, 75, 100, 4) (by decide)).2 h0 h1 (by decide))
theorem kr76 (S : MSh h) {k : Nat → Option γ} : (gR h 71 10 7).bind k = k 76 := bo (gR_q S.1 (S.2 (7, 76, 100, 4) (by decide)).1)
theorem kl76 (S : MSh h) {z : Int} {k : Int32 → Option γ} (h0 : 0 ≤ z) (h1 : z < 4) : (lI 100 h 76 (iz z)).bind k = k (h.2.1 76 z.toNat) := bo (lI_q (S.2 (7, 76, 100, 4) (by decide)).2 h0 h1 (by decide))
theorem ks76 (S : MSh h) {z : Int} {v : Int32} {k : Mem → Option γ} (h0 : 0 ≤ z) (h1 : z < 4) : (stI 100 h 76 (iz z) v).bind k = k (wr h 76 (upd (h.2.1 76) z.toNat v)) := bo (st_wr (S.2 (7, 76, 100, 4) (by decide)).2 h0 h1 (by decide))
theorem kr77 (S : MSh h) {k : Nat → Option γ} : (gR h 71 10 8).bind k = k 77 := bo (gR_q S.1 (S.2 (8, 77, 100, 8) (by decide)).1)
theorem kl77 (S : MSh h) {z : Int} {k : Int32 → Option γ} (h0 : 0 ≤ z) (h1 : z < 8) : (lI 100 h 77 (iz z)).bind k = k (h.2.1 77 z.toNat) := bo (lI_q (S.2 (8, 77, 100, 8) (by decide)).2 h0 h1 (by decide))
theorem ks77 (S : MSh h) {z : Int} {v : Int32} {k : Mem → Option γ} (h0 : 0 ≤ z) (h1 : z < 8) : (stI 100 h 77 (iz z) v).bind k = k (wr h 77 (upd (h.2.1 77) z.toNat v)) := bo (st_wr (S.2 (8, 77, 100, 8) (by decide)).2 h0 h1 (by decide))
theorem kr78 (S : MSh h) {k : Nat → Option γ} : (gR h 71 10 9).bind k = k 78 := bo (gR_q S.1 (S.2 (9, 78, 100, 8) (by decide)).1)
theorem kl78 (S : MSh h) {z : Int} {k : Int32 → Option γ} (h0 : 0 ≤ z) (h1 : z < 8) : (lI 100 h 78 (iz z)).bind k = k (h.2.1 78 z.toNat) := bo (lI_q (S.2 (9, 78, 100, 8) (by decide)).2 h0 h1 (by decide))
theorem ks78 (S : MSh h) {z : Int} {v : Int32} {k : Mem → Option γ} (h0 : 0 ≤ z) (h1 : z < 8) : (stI 100 h 78 (iz z) v).bind k = k (wr h 78 (upd (h.2.1 78) z.toNat v)) := bo (st_wr (S.2 (9, 78, 100, 8) (by decide)).2 h0 h1 (by decide))
theorem kr79 (S : MSh h) {k : Nat → Option γ} : (gR h 71 10 10).bind k = k 79 := bo (gR_q S.1 (S.2 (10, 79, 100, 8) (by decide)).1)
theorem kl79 (S : MSh h) {z : Int} {k : Int32 → Option γ} (h0 : 0 ≤ z) (h1 : z < 8) : (lI 100 h 79 (iz z)).bind k = k (h.2.1 79 z.toNat) := bo (lI_q (S.2 (10, 79, 100, 8) (by decide)).2 h0 h1 (by decide))
theorem ks79 (S : MSh h) {z : Int} {v : Int32} {k : Mem → Option γ} (h0 : 0 ≤ z) (h1 : z < 8) : (stI 100 h 79 (iz z) v).bind k = k (wr h 79 (upd (h.2.1 79) z.toNat v)) := bo (st_wr (S.2 (10, 79, 100, 8) (by decide)).2 h0 h1 (by decide))
theorem kr80 (S : MSh h) {k : Nat → Option γ} : (gR h 71 10 11).bind k = k 80 := bo (gR_q S.1 (S.2 (11, 80, 100, 8) (by decide)).1)
theorem kl80 (S : MSh h) {z : Int} {k : Int32 → Option γ} (h0 : 0 ≤ z) (h1 : z < 8) : (lI 100 h 80 (iz z)).bind k = k (h.2.1 80 z.toNat) := bo (lI_q (S.2 (11, 80, 100, 8) (by decide)).2 h0 h1 (by decide))
theorem ks80 (S : MSh h) {z : Int} {v : Int32} {k : Mem → Option γ} (h0 : 0 ≤ z) (h1 : z < 8) : (stI 100 h 80 (iz z) v).bind k = k (wr h 80 (upd (h.2.1 80) z.toNat v)) := bo (st_wr (S.2 (11, 80, 100, 8) (by decide)).2 h0 h1 (by decide))
theorem kr81 (S : MSh h) {k : Nat → Option γ} : (gR h 71 10 14).bind k = k 81 := bo (gR_q S.1 (S.2 (14, 81, 100, 240) (by decide)).1)
theorem kl81 (S : MSh h) {z : Int} {k : Int32 → Option γ} (h0 : 0 ≤ z) (h1 : z < 240) : (lI 100 h 81 (iz z)).bind k = k (h.2.1 81 z.toNat) := bo (lI_q (S.2 (14, 81, 100, 240) (by decide)).2 h0 h1 (by decide))
theorem ks81 (S : MSh h) {z : Int} {v : Int32} {k : Mem → Option γ} (h0 : 0 ≤ z) (h1 : z < 240) : (stI 100 h 81 (iz z) v).bind k = k (wr h 81 (upd (h.2.1 81) z.toNat v)) := bo (st_wr (S.2 (14, 81, 100, 240) (by decide)).2 h0 h1 (by decide))
theorem kr82 (S : MSh h) {k : Nat → Option γ} : (gR h 71 10 15).bind k = k 82 := bo (gR_q S.1 (S.2 (15, 82, 100, 2) (by decide)).1)
theorem kl82 (S : MSh h) {z : Int} {k : Int32 → Option γ} (h0 : 0 ≤ z) (h1 : z < 2) : (lI 100 h 82 (iz z)).bind k = k (h.2.1 82 z.toNat) := bo (lI_q (S.2 (15, 82, 100, 2) (by decide)).2 h0 h1 (by decide))
theorem ks82 (S : MSh h) {z : Int} {v : Int32} {k : Mem → Option γ} (h0 : 0 ≤ z) (h1 : z < 2) : (stI 100 h 82 (iz z) v).bind k = k (wr h 82 (upd (h.2.1 82) z.toNat v)) := bo (st_wr (S.2 (15, 82, 100, 2) (by decide)).2 h0 h1 (by decide))
theorem kr83 (S : MSh h) {k : Nat → Option γ} : (gR h 71 10 16).bind k = k 83 := bo (gR_q S.1 (S.2 (16, 83, 100, 4) (by decide)).1)
theorem kl83 (S : MSh h) {z : Int} {k : Int32 → Option γ} (h0 : 0 ≤ z) (h1 : z < 4) : (lI 100 h 83 (iz z)).bind k = k (h.2.1 83 z.toNat) := bo (lI_q (S.2 (16, 83, 100, 4) (by decide)).2 h0 h1 (by decide))
theorem ks83 (S : MSh h) {z : Int} {v : Int32} {k : Mem → Option γ} (h0 : 0 ≤ z) (h1 : z < 4) : (stI 100 h 83 (iz z) v).bind k = k (wr h 83 (upd (h.2.1 83) z.toNat v)) := bo (st_wr (S.2 (16, 83, 100, 4) (by decide)).2 h0 h1 (by decide))
theorem kr84 (S : MSh h) {k : Nat → Option γ} : (gR h 71 10 22).bind k = k 84 := bo (gR_q S.1 (S.2 (22, 84, 100, 12) (by decide)).1)
theorem kl84 (S : MSh h) {z : Int} {k : Int32 → Option γ} (h0 : 0 ≤ z) (h1 : z < 12) : (lI 100 h 84 (iz z)).bind k = k (h.2.1 84 z.toNat) := bo (lI_q (S.2 (22, 84, 100, 12) (by decide)).2 h0 h1 (by decide))
theorem ks84 (S : MSh h) {z : Int} {v : Int32} {k : Mem → Option γ} (h0 : 0 ≤ z) (h1 : z < 12) : (stI 100 h 84 (iz z) v).bind k = k (wr h 84 (upd (h.2.1 84) z.toNat v)) := bo (st_wr (S.2 (22, 84, 100, 12) (by decide)).2 h0 h1 (by decide))
theorem kr85 (S : MSh h) {k : Nat → Option γ} : (gR h 71 10 23).bind k = k 85 := bo (gR_q S.1 (S.2 (23, 85, 100, 16) (by decide)).1)
theorem kl85 (S : MSh h) {z : Int} {k : Int32 → Option γ} (h0 : 0 ≤ z) (h1 : z < 16) : (lI 100 h 85 (iz z)).bind k = k (h.2.1 85 z.toNat) := bo (lI_q (S.2 (23, 85, 100, 16) (by decide)).2 h0 h1 (by decide))
theorem ks85 (S : MSh h) {z : Int} {v : Int32} {k : Mem → Option γ} (h0 : 0 ≤ z) (h1 : z < 16) : (stI 100 h 85 (iz z) v).bind k = k (wr h 85 (upd (h.2.1 85) z.toNat v)) := bo (st_wr (S.2 (23, 85, 100, 16) (by decide)).2 h0 h1 (by decide))
theorem kr86 (S : MSh h) {k : Nat → Option γ} : (gR h 71 10 24).bind k = k 86 := bo (gR_q S.1 (S.2 (24, 86, 100, 3) (by decide)).1)
theorem kl86 (S : MSh h) {z : Int} {k : Int32 → Option γ} (h0 : 0 ≤ z) (h1 : z < 3) : (lI 100 h 86 (iz z)).bind k = k (h.2.1 86 z.toNat) := bo (lI_q (S.2 (24, 86, 100, 3) (by decide)).2 h0 h1 (by decide))
theorem ks86 (S : MSh h) {z : Int} {v : Int32} {k : Mem → Option γ} (h0 : 0 ≤ z) (h1 : z < 3) : (stI 100 h 86 (iz z) v).bind k = k (wr h 86 (upd (h.2.1 86) z.toNat v)) := bo (st_wr (S.2 (24, 86, 100, 3) (by decide)).2 h0 h1 (by decide))
theorem kr87 (S : MSh h) {k : Nat → Option γ} : (gR h 71 10 28).bind k = k 87 := bo (gR_q S.1 (S.2 (28, 87, 100, 288) (by decide)).1)
theorem kl87 (S : MSh h) {z : Int} {k : Int32 → Option γ} (h0 : 0 ≤ z) (h1 : z < 288) : (lI 100 h 87 (iz z)).bind k = k (h.2.1 87 z.toNat) := bo (lI_q (S.2 (28, 87, 100, 288) (by decide)).2 h0 h1 (by decide))
theorem ks87 (S : MSh h) {z : Int} {v : Int32} {k : Mem → Option γ} (h0 : 0 ≤ z) (h1 : z < 288) : (stI 100 h 87 (iz z) v).bind k = k (wr h 87 (upd (h.2.1 87) z.toNat v)) := bo (st_wr (S.2 (28, 87, 100, 288) (by decide)).2 h0 h1 (by decide))
theorem kr88 (S : MSh h) {k : Nat → Option γ} : (gR h 71 10 30).bind k = k 88 := bo (gR_q S.1 (S.2 (30, 88, 100, 121) (by decide)).1)
theorem kl88 (S : MSh h) {z : Int} {k : Int32 → Option γ} (h0 : 0 ≤ z) (h1 : z < 121) : (lI 100 h 88 (iz z)).bind k = k (h.2.1 88 z.toNat) := bo (lI_q (S.2 (30, 88, 100, 121) (by decide)).2 h0 h1 (by decide))
theorem ks88 (S : MSh h) {z : Int} {v : Int32} {k : Mem → Option γ} (h0 : 0 ≤ z) (h1 : z < 121) : (stI 100 h 88 (iz z) v).bind k = k (wr h 88 (upd (h.2.1 88) z.toNat v)) := bo (st_wr (S.2 (30, 88, 100, 121) (by decide)).2 h0 h1 (by decide))
theorem kr89 (S : MSh h) {k : Nat → Option γ} : (gR h 71 10 31).bind k = k 89 := bo (gR_q S.1 (S.2 (31, 89, 102, 121) (by decide)).1)
theorem kl89 (S : MSh h) {z : Int} {k : Int32 → Option γ} (h0 : 0 ≤ z) (h1 : z < 121) : (lI 102 h 89 (iz z)).bind k = k (h.2.1 89 z.toNat) := bo (lI_q (S.2 (31, 89, 102, 121) (by decide)).2 h0 h1 (by decide))
theorem kr90 (S : MSh h) {k : Nat → Option γ} : (gR h 71 10 35).bind k = k 90 := bo (gR_q S.1 (S.2 (35, 90, 100, 12) (by decide)).1)
theorem kl90 (S : MSh h) {z : Int} {k : Int32 → Option γ} (h0 : 0 ≤ z) (h1 : z < 12) : (lI 100 h 90 (iz z)).bind k = k (h.2.1 90 z.toNat) := bo (lI_q (S.2 (35, 90, 100, 12) (by decide)).2 h0 h1 (by decide))
theorem ks90 (S : MSh h) {z : Int} {v : Int32} {k : Mem → Option γ} (h0 : 0 ≤ z) (h1 : z < 12) : (stI 100 h 90 (iz z) v).bind k = k (wr h 90 (upd (h.2.1 90) z.toNat v)) := bo (st_wr (S.2 (35, 90, 100, 12) (by decide)).2 h0 h1 (by decide))
theorem kr91 (S : MSh h) {k : Nat → Option γ} : (gR h 71 10 36).bind k = k 91 := bo (gR_q S.1 (S.2 (36, 91, 100, 16) (by decide)).1)
theorem kl91 (S : MSh h) {z : Int} {k : Int32 → Option γ} (h0 : 0 ≤ z) (h1 : z < 16) : (lI 100 h 91 (iz z)).bind k = k (h.2.1 91 z.toNat) := bo (lI_q (S.2 (36, 91, 100, 16) (by decide)).2 h0 h1 (by decide))
theorem ks91 (S : MSh h) {z : Int} {v : Int32} {k : Mem → Option γ} (h0 : 0 ≤ z) (h1 : z < 16) : (stI 100 h 91 (iz z) v).bind k = k (wr h 91 (upd (h.2.1 91) z.toNat v)) := bo (st_wr (S.2 (36, 91, 100, 16) (by decide)).2 h0 h1 (by decide))
theorem kr92 (S : MSh h) {k : Nat → Option γ} : (gR h 71 10 37).bind k = k 92 := bo (gR_q S.1 (S.2 (37, 92, 100, 3) (by decide)).1)
theorem kl92 (S : MSh h) {z : Int} {k : Int32 → Option γ} (h0 : 0 ≤ z) (h1 : z < 3) : (lI 100 h 92 (iz z)).bind k = k (h.2.1 92 z.toNat) := bo (lI_q (S.2 (37, 92, 100, 3) (by decide)).2 h0 h1 (by decide))
theorem ks92 (S : MSh h) {z : Int} {v : Int32} {k : Mem → Option γ} (h0 : 0 ≤ z) (h1 : z < 3) : (stI 100 h 92 (iz z) v).bind k = k (wr h 92 (upd (h.2.1 92) z.toNat v)) := bo (st_wr (S.2 (37, 92, 100, 3) (by decide)).2 h0 h1 (by decide))
theorem kr93 (S : MSh h) {k : Nat → Option γ} : (gR h 71 10 41).bind k = k 93 := bo (gR_q S.1 (S.2 (41, 93, 100, 6) (by decide)).1)
theorem kl93 (S : MSh h) {z : Int} {k : Int32 → Option γ} (h0 : 0 ≤ z) (h1 : z < 6) : (lI 100 h 93 (iz z)).bind k = k (h.2.1 93 z.toNat) := bo (lI_q (S.2 (41, 93, 100, 6) (by decide)).2 h0 h1 (by decide))
theorem ks93 (S : MSh h) {z : Int} {v : Int32} {k : Mem → Option γ} (h0 : 0 ≤ z) (h1 : z < 6) : (stI 100 h 93 (iz z) v).bind k = k (wr h 93 (upd (h.2.1 93) z.toNat v)) := bo (st_wr (S.2 (41, 93, 100, 6) (by decide)).2 h0 h1 (by decide))
theorem kr94 (S : MSh h) {k : Nat → Option γ} : (gR h 71 10 42).bind k = k 94 := bo (gR_q S.1 (S.2 (42, 94, 100, 3) (by decide)).1)
theorem kl94 (S : MSh h) {z : Int} {k : Int32 → Option γ} (h0 : 0 ≤ z) (h1 : z < 3) : (lI 100 h 94 (iz z)).bind k = k (h.2.1 94 z.toNat) := bo (lI_q (S.2 (42, 94, 100, 3) (by decide)).2 h0 h1 (by decide))
theorem ks94 (S : MSh h) {z : Int} {v : Int32} {k : Mem → Option γ} (h0 : 0 ≤ z) (h1 : z < 3) : (stI 100 h 94 (iz z) v).bind k = k (wr h 94 (upd (h.2.1 94) z.toNat v)) := bo (st_wr (S.2 (42, 94, 100, 3) (by decide)).2 h0 h1 (by decide))
theorem kr95 (S : MSh h) {k : Nat → Option γ} : (gR h 71 10 43).bind k = k 95 := bo (gR_q S.1 (S.2 (43, 95, 100, 8) (by decide)).1)
theorem kl95 (S : MSh h) {z : Int} {k : Int32 → Option γ} (h0 : 0 ≤ z) (h1 : z < 8) : (lI 100 h 95 (iz z)).bind k = k (h.2.1 95 z.toNat) := bo (lI_q (S.2 (43, 95, 100, 8) (by decide)).2 h0 h1 (by decide))
theorem ks95 (S : MSh h) {z : Int} {v : Int32} {k : Mem → Option γ} (h0 : 0 ≤ z) (h1 : z < 8) : (stI 100 h 95 (iz z) v).bind k = k (wr h 95 (upd (h.2.1 95) z.toNat v)) := bo (st_wr (S.2 (43, 95, 100, 8) (by decide)).2 h0 h1 (by decide))
theorem kr96 (S : MSh h) {k : Nat → Option γ} : (gR h 71 10 44).bind k = k 96 := bo (gR_q S.1 (S.2 (44, 96, 103, 8) (by decide)).1)
theorem kl96 (S : MSh h) {z : Int} {k : Int64 → Option γ} (h0 : 0 ≤ z) (h1 : z < 8) : (lJ h 96 (iz z)).bind k = k (h.2.2.1 96 z.toNat) := bo (lJ_q (S.2 (44, 96, 103, 8) (by decide)).2 h0 h1 (by decide))
theorem ks96 (S : MSh h) {z : Int} {v : Int64} {k : Mem → Option γ} (h0 : 0 ≤ z) (h1 : z < 8) : (stJ h 96 (iz z) v).bind k = k (wJ h 96 (fun j => if j = z.toNat then v else h.2.2.1 96 j)) := bo (stJ_q (S.2 (44, 96, 103, 8) (by decide)).2 h0 h1 (by decide))
theorem kr97 (S : MSh h) {k : Nat → Option γ} : (gR h 71 10 45).bind k = k 97 := bo (gR_q S.1 (S.2 (45, 97, 100, 420) (by decide)).1)
theorem kl97 (S : MSh h) {z : Int} {k : Int32 → Option γ} (h0 : 0 ≤ z) (h1 : z < 420) : (lI 100 h 97 (iz z)).bind k = k (h.2.1 97 z.toNat) := bo (lI_q (S.2 (45, 97, 100, 420) (by decide)).2 h0 h1 (by decide))
theorem ks97 (S : MSh h) {z : Int} {v : Int32} {k : Mem → Option γ} (h0 : 0 ≤ z) (h1 : z < 420) : (stI 100 h 97 (iz z) v).bind k = k (wr h 97 (upd (h.2.1 97) z.toNat v)) := bo (st_wr (S.2 (45, 97, 100, 420) (by decide)).2 h0 h1 (by decide))
theorem kr98 (S : MSh h) {k : Nat → Option γ} : (gR h 71 10 46).bind k = k 98 := bo (gR_q S.1 (S.2 (46, 98, 100, 40) (by decide)).1)
theorem kl98 (S : MSh h) {z : Int} {k : Int32 → Option γ} (h0 : 0 ≤ z) (h1 : z < 40) : (lI 100 h 98 (iz z)).bind k = k (h.2.1 98 z.toNat) := bo (lI_q (S.2 (46, 98, 100, 40) (by decide)).2 h0 h1 (by decide))
theorem ks98 (S : MSh h) {z : Int} {v : Int32} {k : Mem → Option γ} (h0 : 0 ≤ z) (h1 : z < 40) : (stI 100 h 98 (iz z) v).bind k = k (wr h 98 (upd (h.2.1 98) z.toNat v)) := bo (st_wr (S.2 (46, 98, 100, 40) (by decide)).2 h0 h1 (by decide))
theorem kr99 (S : MSh h) {k : Nat → Option γ} : (gR h 71 10 47).bind k = k 99 := bo (gR_q S.1 (S.2 (47, 99, 100, 8) (by decide)).1)
theorem kl99 (S : MSh h) {z : Int} {k : Int32 → Option γ} (h0 : 0 ≤ z) (h1 : z < 8) : (lI 100 h 99 (iz z)).bind k = k (h.2.1 99 z.toNat) := bo (lI_q (S.2 (47, 99, 100, 8) (by decide)).2 h0 h1 (by decide))
theorem ks99 (S : MSh h) {z : Int} {v : Int32} {k : Mem → Option γ} (h0 : 0 ≤ z) (h1 : z < 8) : (stI 100 h 99 (iz z) v).bind k = k (wr h 99 (upd (h.2.1 99) z.toNat v)) := bo (st_wr (S.2 (47, 99, 100, 8) (by decide)).2 h0 h1 (by decide))
theorem kr100 (S : MSh h) {k : Nat → Option γ} : (gR h 71 10 48).bind k = k 100 := bo (gR_q S.1 (S.2 (48, 100, 100, 8) (by decide)).1)
theorem kl100 (S : MSh h) {z : Int} {k : Int32 → Option γ} (h0 : 0 ≤ z) (h1 : z < 8) : (lI 100 h 100 (iz z)).bind k = k (h.2.1 100 z.toNat) := bo (lI_q (S.2 (48, 100, 100, 8) (by decide)).2 h0 h1 (by decide))
theorem ks100 (S : MSh h) {z : Int} {v : Int32} {k : Mem → Option γ} (h0 : 0 ≤ z) (h1 : z < 8) : (stI 100 h 100 (iz z) v).bind k = k (wr h 100 (upd (h.2.1 100) z.toNat v)) := bo (st_wr (S.2 (48, 100, 100, 8) (by decide)).2 h0 h1 (by decide))
theorem kr101 (S : MSh h) {k : Nat → Option γ} : (gR h 71 10 49).bind k = k 101 := bo (gR_q S.1 (S.2 (49, 101, 100, 8) (by decide)).1)
theorem kl101 (S : MSh h) {z : Int} {k : Int32 → Option γ} (h0 : 0 ≤ z) (h1 : z < 8) : (lI 100 h 101 (iz z)).bind k = k (h.2.1 101 z.toNat) := bo (lI_q (S.2 (49, 101, 100, 8) (by decide)).2 h0 h1 (by decide))
theorem ks101 (S : MSh h) {z : Int} {v : Int32} {k : Mem → Option γ} (h0 : 0 ≤ z) (h1 : z < 8) : (stI 100 h 101 (iz z) v).bind k = k (wr h 101 (upd (h.2.1 101) z.toNat v)) := bo (st_wr (S.2 (49, 101, 100, 8) (by decide)).2 h0 h1 (by decide))
theorem kr102 (S : MSh h) {k : Nat → Option γ} : (gR h 71 10 51).bind k = k 102 := bo (gR_q S.1 (S.2 (51, 102, 100, 4) (by decide)).1)
theorem kl102 (S : MSh h) {z : Int} {k : Int32 → Option γ} (h0 : 0 ≤ z) (h1 : z < 4) : (lI 100 h 102 (iz z)).bind k = k (h.2.1 102 z.toNat) := bo (lI_q (S.2 (51, 102, 100, 4) (by decide)).2 h0 h1 (by decide))
theorem ks102 (S : MSh h) {z : Int} {v : Int32} {k : Mem → Option γ} (h0 : 0 ≤ z) (h1 : z < 4) : (stI 100 h 102 (iz z) v).bind k = k (wr h 102 (upd (h.2.1 102) z.toNat v)) := bo (st_wr (S.2 (51, 102, 100, 4) (by decide)).2 h0 h1 (by decide))
theorem kr103 (S : MSh h) {k : Nat → Option γ} : (gR h 71 10 52).bind k = k 103 := bo (gR_q S.1 (S.2 (52, 103, 100, 4) (by decide)).1)
theorem kl103 (S : MSh h) {z : Int} {k : Int32 → Option γ} (h0 : 0 ≤ z) (h1 : z < 4) : (lI 100 h 103 (iz z)).bind k = k (h.2.1 103 z.toNat) := bo (lI_q (S.2 (52, 103, 100, 4) (by decide)).2 h0 h1 (by decide))
theorem ks103 (S : MSh h) {z : Int} {v : Int32} {k : Mem → Option γ} (h0 : 0 ≤ z) (h1 : z < 4) : (stI 100 h 103 (iz z) v).bind k = k (wr h 103 (upd (h.2.1 103) z.toNat v)) := bo (st_wr (S.2 (52, 103, 100, 4) (by decide)).2 h0 h1 (by decide))
theorem kr104 (S : MSh h) {k : Nat → Option γ} : (gR h 71 10 53).bind k = k 104 := bo (gR_q S.1 (S.2 (53, 104, 100, 4) (by decide)).1)
theorem kl104 (S : MSh h) {z : Int} {k : Int32 → Option γ} (h0 : 0 ≤ z) (h1 : z < 4) : (lI 100 h 104 (iz z)).bind k = k (h.2.1 104 z.toNat) := bo (lI_q (S.2 (53, 104, 100, 4) (by decide)).2 h0 h1 (by decide))
theorem ks104 (S : MSh h) {z : Int} {v : Int32} {k : Mem → Option γ} (h0 : 0 ≤ z) (h1 : z < 4) : (stI 100 h 104 (iz z) v).bind k = k (wr h 104 (upd (h.2.1 104) z.toNat v)) := bo (st_wr (S.2 (53, 104, 100, 4) (by decide)).2 h0 h1 (by decide))
theorem kr105 (S : MSh h) {k : Nat → Option γ} : (gR h 71 10 54).bind k = k 105 := bo (gR_q S.1 (S.2 (54, 105, 100, 4) (by decide)).1)
theorem kl105 (S : MSh h) {z : Int} {k : Int32 → Option γ} (h0 : 0 ≤ z) (h1 : z < 4) : (lI 100 h 105 (iz z)).bind k = k (h.2.1 105 z.toNat) := bo (lI_q (S.2 (54, 105, 100, 4) (by decide)).2 h0 h1 (by decide))
theorem ks105 (S : MSh h) {z : Int} {v : Int32} {k : Mem → Option γ} (h0 : 0 ≤ z) (h1 : z < 4) : (stI 100 h 105 (iz z) v).bind k = k (wr h 105 (upd (h.2.1 105) z.toNat v)) := bo (st_wr (S.2 (54, 105, 100, 4) (by decide)).2 h0 h1 (by decide))
theorem kr106 (S : MSh h) {k : Nat → Option γ} : (gR h 71 10 56).bind k = k 106 := bo (gR_q S.1 (S.2 (56, 106, 100, 20) (by decide)).1)
theorem kl106 (S : MSh h) {z : Int} {k : Int32 → Option γ} (h0 : 0 ≤ z) (h1 : z < 20) : (lI 100 h 106 (iz z)).bind k = k (h.2.1 106 z.toNat) := bo (lI_q (S.2 (56, 106, 100, 20) (by decide)).2 h0 h1 (by decide))
theorem ks106 (S : MSh h) {z : Int} {v : Int32} {k : Mem → Option γ} (h0 : 0 ≤ z) (h1 : z < 20) : (stI 100 h 106 (iz z) v).bind k = k (wr h 106 (upd (h.2.1 106) z.toNat v)) := bo (st_wr (S.2 (56, 106, 100, 20) (by decide)).2 h0 h1 (by decide))
theorem kr107 (S : MSh h) {k : Nat → Option γ} : (gR h 71 10 57).bind k = k 107 := bo (gR_q S.1 (S.2 (57, 107, 100, 6) (by decide)).1)
theorem kl107 (S : MSh h) {z : Int} {k : Int32 → Option γ} (h0 : 0 ≤ z) (h1 : z < 6) : (lI 100 h 107 (iz z)).bind k = k (h.2.1 107 z.toNat) := bo (lI_q (S.2 (57, 107, 100, 6) (by decide)).2 h0 h1 (by decide))
theorem ks107 (S : MSh h) {z : Int} {v : Int32} {k : Mem → Option γ} (h0 : 0 ≤ z) (h1 : z < 6) : (stI 100 h 107 (iz z) v).bind k = k (wr h 107 (upd (h.2.1 107) z.toNat v)) := bo (st_wr (S.2 (57, 107, 100, 6) (by decide)).2 h0 h1 (by decide))
theorem kr108 (S : MSh h) {k : Nat → Option γ} : (gR h 71 10 58).bind k = k 108 := bo (gR_q S.1 (S.2 (58, 108, 100, 6) (by decide)).1)
theorem kl108 (S : MSh h) {z : Int} {k : Int32 → Option γ} (h0 : 0 ≤ z) (h1 : z < 6) : (lI 100 h 108 (iz z)).bind k = k (h.2.1 108 z.toNat) := bo (lI_q (S.2 (58, 108, 100, 6) (by decide)).2 h0 h1 (by decide))
theorem ks108 (S : MSh h) {z : Int} {v : Int32} {k : Mem → Option γ} (h0 : 0 ≤ z) (h1 : z < 6) : (stI 100 h 108 (iz z) v).bind k = k (wr h 108 (upd (h.2.1 108) z.toNat v)) := bo (st_wr (S.2 (58, 108, 100, 6) (by decide)).2 h0 h1 (by decide))
theorem kr109 (S : MSh h) {k : Nat → Option γ} : (gR h 71 10 59).bind k = k 109 := bo (gR_q S.1 (S.2 (59, 109, 103, 360) (by decide)).1)
theorem kl109 (S : MSh h) {z : Int} {k : Int64 → Option γ} (h0 : 0 ≤ z) (h1 : z < 360) : (lJ h 109 (iz z)).bind k = k (h.2.2.1 109 z.toNat) := bo (lJ_q (S.2 (59, 109, 103, 360) (by decide)).2 h0 h1 (by decide))
theorem ks109 (S : MSh h) {z : Int} {v : Int64} {k : Mem → Option γ} (h0 : 0 ≤ z) (h1 : z < 360) : (stJ h 109 (iz z) v).bind k = k (wJ h 109 (fun j => if j = z.toNat then v else h.2.2.1 109 j)) := bo (stJ_q (S.2 (59, 109, 103, 360) (by decide)).2 h0 h1 (by decide))
theorem kr110 (S : MSh h) {k : Nat → Option γ} : (gR h 71 10 60).bind k = k 110 := bo (gR_q S.1 (S.2 (60, 110, 103, 60) (by decide)).1)
theorem kl110 (S : MSh h) {z : Int} {k : Int64 → Option γ} (h0 : 0 ≤ z) (h1 : z < 60) : (lJ h 110 (iz z)).bind k = k (h.2.2.1 110 z.toNat) := bo (lJ_q (S.2 (60, 110, 103, 60) (by decide)).2 h0 h1 (by decide))
theorem ks110 (S : MSh h) {z : Int} {v : Int64} {k : Mem → Option γ} (h0 : 0 ≤ z) (h1 : z < 60) : (stJ h 110 (iz z) v).bind k = k (wJ h 110 (fun j => if j = z.toNat then v else h.2.2.1 110 j)) := bo (stJ_q (S.2 (60, 110, 103, 60) (by decide)).2 h0 h1 (by decide))
end
theorem MSh.wr_ {h : Mem} {a : Nat} {row : Nat → Int32} (s : MSh h) : MSh (wr h a row) := s
theorem MSh.fd_ {h : Mem} {j : Nat} {v : Int32} (s : MSh h) : MSh (fd h j v) := s
theorem MSh.wJ_ {h : Mem} {a : Nat} {row : Nat → Int64} (s : MSh h) : MSh (wJ h a row) := s
def sb (z : Int) : Int := if z < 128 then z else z - 256
def duC (d : Int) : Int := if d = 0 then 104 else if d = 1 then 105 else 101
def piC (d : Int) : Int := if d = 0 then 109 else if d = 1 then 100 else 111
def GOES (h : Mem) (sh : Int → Int → Int → Int → Int) : Prop := ∃ (x : Nat → Int) (L la : Nat), (∀ j : Nat, j < L → h.2.1 81 j = iz (sb (x j))) ∧ h.2.1 82 0 = iz (L : Int) ∧ L ≤ 120 ∧ (∀ j : Nat, 0 ≤ x j ∧ x j ≤ 255) ∧ h.2.1 71 12 = iz (la : Int) ∧ la ≤ 1000 ∧
  (la = 0 ∧ (∀ s i t n, sh s i t n = 0) ∨ 0 < la ∧ (faultS x L).1 = -1 ∧ ∀ s i t n : Int, 0 ≤ s → s ≤ 3 → 0 ≤ i → i ≤ 99 → 0 ≤ t → t ≤ 3 → 0 ≤ n → n ≤ 8 → ∃ g, run s i t n (faultS x L).2.2 (0, 0) = some (sh s i t n, g))
def cacheOK (h : Mem) (V : Vw) : Prop := ∀ f t n : Nat, f < vF V → t < 4 → 1 ≤ n → n < 9 → h.2.1 87 (36 * f + 9 * t + n) = iz (vs V (va V 5 f) (va V 6 f) t n)
def RepM (h : Mem) (V : Vw) : Prop := MSh h ∧ (h.2.1 71 0 = iz (vT V) ∧ h.2.1 71 1 = iz (vF V)) ∧ (∀ k, k < 9 → ∀ j : Nat, j < ln k → h.2.1 (72 + k) j = iz (va V k j)) ∧ (∀ j : Nat, j < 12 → h.2.1 84 j = iz (va V 9 j)) ∧ (∀ j : Nat, j < 16 → h.2.1 85 j = iz (va V 10 j)) ∧ (∀ j : Nat, j < 3 → h.2.1 86 j = iz (va V 11 j)) ∧
  (h.2.1 71 25 = iz (va V 12 0) ∧ h.2.1 71 26 = iz (duC (va V 12 1)) ∧ h.2.1 71 27 = iz (piC (va V 12 2))) ∧ GOES h (vs V) ∧ (h.2.1 71 29 = iz 0 ∨ h.2.1 71 29 = iz 1 ∧ cacheOK h V)
def dpM : List Nat := [72, 73, 74, 75, 76, 77, 78, 79, 80, 81, 82, 84, 85, 86, 87]
def dpF : List Nat := [0, 1, 12, 25, 26, 27, 29]
theorem RepM.congr {h h' : Mem} {V : Vw} (R : RepM h V) (e1 : h'.1 = h.1) (e2 : h'.2.2.2 = h.2.2.2) (e3 : ∀ i, i ∈ dpM → h'.2.1 i = h.2.1 i) (e4 : ∀ j, j ∈ dpF → h'.2.1 71 j = h.2.1 71 j) : RepM h' V := by
  obtain ⟨r1, ⟨r2, r3⟩, r4, r5, r6, r7, ⟨r8, r9, r10⟩, r11, r12⟩ := R
  refine ⟨r1.eq e1 e2, ⟨?_, ?_⟩, fun k hk j hj => ?_, fun j hj => ?_, fun j hj => ?_, fun j hj => ?_, ⟨?_, ?_, ?_⟩, ?_, ?_⟩
  · rw [e4 0 (by decide)]; exact r2
  · rw [e4 1 (by decide)]; exact r3
  · rw [e3 (72 + k) (by
      have : ∀ k, k < 9 → 72 + k ∈ dpM := by decide
      exact this k hk)]; exact r4 k hk j hj
  · rw [e3 84 (by decide)]; exact r5 j hj
  · rw [e3 85 (by decide)]; exact r6 j hj
  · rw [e3 86 (by decide)]; exact r7 j hj
  · rw [e4 25 (by decide)]; exact r8
  · rw [e4 26 (by decide)]; exact r9
  · rw [e4 27 (by decide)]; exact r10
  · unfold GOES at *; rw [e3 81 (by decide), e3 82 (by decide), e4 12 (by decide)]; exact r11
  · unfold cacheOK at *; rw [e3 87 (by decide), e4 29 (by decide)]; exact r12
theorem RepM.wr_ {h : Mem} {V : Vw} {a : Nat} {row : Nat → Int32} (R : RepM h V) (ha : a ≠ 71 ∧ a ∉ dpM) : RepM (wr h a row) V := R.congr rfl rfl (fun i hi => wr_ne (by rintro rfl; exact ha.2 hi)) (fun j hj => by rw [wr_ne ha.1.symm])
theorem RepM.fd_ {h : Mem} {V : Vw} {j : Nat} {v : Int32} (R : RepM h V) (hj : j ∉ dpF) : RepM (fd h j v) V := R.congr rfl rfl (fun i hi => fd_ne (by rintro rfl; exact absurd hi (by decide))) (fun i hi => by rw [fd_at, if_neg (by rintro rfl; exact hj hi)])
theorem RepM.wJ_ {h : Mem} {V : Vw} {a : Nat} {row : Nat → Int64} (R : RepM h V) : RepM (wJ h a row) V := R
/-- a row of the view written anew -/
theorem RepM.row {h : Mem} {k : Nat} {V V' : Vw} {row : Nat → Int32} (R : RepM h V) (hk : k = 1 ∨ k = 2 ∨ k = 3 ∨ k = 4 ∨ k = 7) (e1 : vT V' = vT V) (e2 : vF V' = vF V) (e3 : vs V' = vs V) (e4 : ∀ k', k' ≠ k → va V' k' = va V k') (e5 : ∀ j : Nat, j < ln k → row j = iz (va V' k j)) : RepM (wr h (72 + k) row) V' := by
  obtain ⟨r1, ⟨r2, r3⟩, r4, r5, r6, r7, ⟨r8, r9, r10⟩, r11, r12⟩ := R
  have ne : ∀ i, i ≠ 72 + k → (wr h (72 + k) row).2.1 i = h.2.1 i := fun i hi => wr_ne hi
  refine ⟨r1, ⟨?_, ?_⟩, fun k' hk' j hj => ?_, fun j hj => ?_, fun j hj => ?_, fun j hj => ?_, ⟨?_, ?_, ?_⟩, ?_, ?_⟩
  · rw [ne 71 (by omega), e1]; exact r2
  · rw [ne 71 (by omega), e2]; exact r3
  · by_cases hh : k' = k
    · subst hh; rw [wr_eq]; exact e5 j hj
    · rw [ne (72 + k') (by omega), e4 k' hh]; exact r4 k' hk' j hj
  · rw [ne 84 (by omega), e4 9 (by omega)]; exact r5 j hj
  · rw [ne 85 (by omega), e4 10 (by omega)]; exact r6 j hj
  · rw [ne 86 (by omega), e4 11 (by omega)]; exact r7 j hj
  · rw [ne 71 (by omega), e4 12 (by omega)]; exact r8
  · rw [ne 71 (by omega), e4 12 (by omega)]; exact r9
  · rw [ne 71 (by omega), e4 12 (by omega)]; exact r10
  · unfold GOES at *; rw [ne 81 (by omega), ne 82 (by omega), ne 71 (by omega), e3]; exact r11
  · unfold cacheOK at *; rw [ne 87 (by omega), ne 71 (by omega), e3, e2, e4 5 (by omega), e4 6 (by omega)]; exact r12
theorem RepM.set {h : Mem} {k : Nat} {V : Vw} {j x : Int} (R : RepM h V) (hk : k = 1 ∨ k = 2 ∨ k = 3 ∨ k = 4 ∨ k = 7) (h0 : 0 ≤ j) : RepM (wr h (72 + k) (upd (h.2.1 (72 + k)) j.toNat (iz x))) (vset V k j x) := by
  refine R.row hk rfl rfl rfl (fun k' hk' => vset_ne hk') (fun i hi => ?_)
  rw [upd_at, vset_at]
  by_cases hij : i = j.toNat
  · rw [if_pos hij, if_pos ⟨rfl, by omega⟩]
  · rw [if_neg hij, if_neg (fun q => hij (by omega))]
    exact R.2.2.1 k (by omega) i hi
section
variable {h : Mem} {V : Vw} {γ : Type}
theorem kmT (R : RepM h V) {k : Int32 → Option γ} : (gI h 71 10 0).bind k = k (iz (vT V)) := by rw [kmI R.1, R.2.1.1]
theorem kmF (R : RepM h V) {k : Int32 → Option γ} : (gI h 71 10 1).bind k = k (iz (vF V)) := by rw [kmI R.1, R.2.1.2]
theorem kmM (R : RepM h V) {k : Int32 → Option γ} : (gI h 71 10 25).bind k = k (iz (va V 12 0)) := by rw [kmI R.1, R.2.2.2.2.2.2.1.1]
theorem kmD (R : RepM h V) {k : Int32 → Option γ} : (gI h 71 10 26).bind k = k (iz (duC (va V 12 1))) := by rw [kmI R.1, R.2.2.2.2.2.2.1.2.1]
theorem kmP (R : RepM h V) {k : Int32 → Option γ} : (gI h 71 10 27).bind k = k (iz (piC (va V 12 2))) := by rw [kmI R.1, R.2.2.2.2.2.2.1.2.2]
theorem kx0 (R : RepM h V) {z : Int} {k : Int32 → Option γ} (h0 : 0 ≤ z) (h1 : z < 4) : (lI 100 h 72 (iz z)).bind k = k (iz (va V 0 z)) := by rw [kl72 R.1 h0 h1, R.2.2.1 0 (by decide) z.toNat (by have : ln 0 = 4 := rfl; omega), Int.toNat_of_nonneg h0]
theorem kx1 (R : RepM h V) {z : Int} {k : Int32 → Option γ} (h0 : 0 ≤ z) (h1 : z < 12) : (lI 100 h 73 (iz z)).bind k = k (iz (va V 1 z)) := by rw [kl73 R.1 h0 h1, R.2.2.1 1 (by decide) z.toNat (by have : ln 1 = 12 := rfl; omega), Int.toNat_of_nonneg h0]
theorem kx2 (R : RepM h V) {z : Int} {k : Int32 → Option γ} (h0 : 0 ≤ z) (h1 : z < 4) : (lI 100 h 74 (iz z)).bind k = k (iz (va V 2 z)) := by rw [kl74 R.1 h0 h1, R.2.2.1 2 (by decide) z.toNat (by have : ln 2 = 4 := rfl; omega), Int.toNat_of_nonneg h0]
theorem kx3 (R : RepM h V) {z : Int} {k : Int32 → Option γ} (h0 : 0 ≤ z) (h1 : z < 4) : (lI 100 h 75 (iz z)).bind k = k (iz (va V 3 z)) := by rw [kl75 R.1 h0 h1, R.2.2.1 3 (by decide) z.toNat (by have : ln 3 = 4 := rfl; omega), Int.toNat_of_nonneg h0]
theorem kx4 (R : RepM h V) {z : Int} {k : Int32 → Option γ} (h0 : 0 ≤ z) (h1 : z < 4) : (lI 100 h 76 (iz z)).bind k = k (iz (va V 4 z)) := by rw [kl76 R.1 h0 h1, R.2.2.1 4 (by decide) z.toNat (by have : ln 4 = 4 := rfl; omega), Int.toNat_of_nonneg h0]
theorem kx5 (R : RepM h V) {z : Int} {k : Int32 → Option γ} (h0 : 0 ≤ z) (h1 : z < 8) : (lI 100 h 77 (iz z)).bind k = k (iz (va V 5 z)) := by rw [kl77 R.1 h0 h1, R.2.2.1 5 (by decide) z.toNat (by have : ln 5 = 8 := rfl; omega), Int.toNat_of_nonneg h0]
theorem kx6 (R : RepM h V) {z : Int} {k : Int32 → Option γ} (h0 : 0 ≤ z) (h1 : z < 8) : (lI 100 h 78 (iz z)).bind k = k (iz (va V 6 z)) := by rw [kl78 R.1 h0 h1, R.2.2.1 6 (by decide) z.toNat (by have : ln 6 = 8 := rfl; omega), Int.toNat_of_nonneg h0]
theorem kx7 (R : RepM h V) {z : Int} {k : Int32 → Option γ} (h0 : 0 ≤ z) (h1 : z < 8) : (lI 100 h 79 (iz z)).bind k = k (iz (va V 7 z)) := by rw [kl79 R.1 h0 h1, R.2.2.1 7 (by decide) z.toNat (by have : ln 7 = 8 := rfl; omega), Int.toNat_of_nonneg h0]
theorem kx8 (R : RepM h V) {z : Int} {k : Int32 → Option γ} (h0 : 0 ≤ z) (h1 : z < 8) : (lI 100 h 80 (iz z)).bind k = k (iz (va V 8 z)) := by rw [kl80 R.1 h0 h1, R.2.2.1 8 (by decide) z.toNat (by have : ln 8 = 8 := rfl; omega), Int.toNat_of_nonneg h0]
theorem kx9 (R : RepM h V) {z : Int} {k : Int32 → Option γ} (h0 : 0 ≤ z) (h1 : z < 12) : (lI 100 h 84 (iz z)).bind k = k (iz (va V 9 z)) := by rw [kl84 R.1 h0 h1, R.2.2.2.1 z.toNat (by omega), Int.toNat_of_nonneg h0]
theorem kx10 (R : RepM h V) {z : Int} {k : Int32 → Option γ} (h0 : 0 ≤ z) (h1 : z < 16) : (lI 100 h 85 (iz z)).bind k = k (iz (va V 10 z)) := by rw [kl85 R.1 h0 h1, R.2.2.2.2.1 z.toNat (by omega), Int.toNat_of_nonneg h0]
theorem kx11 (R : RepM h V) {z : Int} {k : Int32 → Option γ} (h0 : 0 ≤ z) (h1 : z < 3) : (lI 100 h 86 (iz z)).bind k = k (iz (va V 11 z)) := by rw [kl86 R.1 h0 h1, R.2.2.2.2.2.1 z.toNat (by omega), Int.toNat_of_nonneg h0]
theorem kx1m (R : RepM h V) {a b : Int} {k : Int32 → Option γ} (h0 : 0 ≤ a * 3 + b) (h1 : a * 3 + b < 12) : (lI 100 h 73 ((3 : Int32) * iz a + iz b)).bind k = k (iz (va V 1 (a * 3 + b))) := by rw [il3, iz_mul, iz_add, show 3 * a + b = a * 3 + b by omega]; exact kx1 R h0 h1
theorem kx9m (R : RepM h V) {a b : Int} {k : Int32 → Option γ} (h0 : 0 ≤ a * 3 + b) (h1 : a * 3 + b < 12) : (lI 100 h 84 ((3 : Int32) * iz a + iz b)).bind k = k (iz (va V 9 (a * 3 + b))) := by rw [il3, iz_mul, iz_add, show 3 * a + b = a * 3 + b by omega]; exact kx9 R h0 h1
theorem kx10m (R : RepM h V) {a b : Int} {k : Int32 → Option γ} (h0 : 0 ≤ a * 4 + b) (h1 : a * 4 + b < 16) : (lI 100 h 85 ((4 : Int32) * iz a + iz b)).bind k = k (iz (va V 10 (a * 4 + b))) := by rw [il4, iz_mul, iz_add, show 4 * a + b = a * 4 + b by omega]; exact kx10 R h0 h1
theorem ks73m (R : RepM h V) {a b : Int} {v : Int32} {k : Mem → Option γ} (h0 : 0 ≤ a * 3 + b) (h1 : a * 3 + b < 12) : (stI 100 h 73 ((3 : Int32) * iz a + iz b) v).bind k = k (wr h 73 (upd (h.2.1 73) (a * 3 + b).toNat v)) := by rw [il3, iz_mul, iz_add, show 3 * a + b = a * 3 + b by omega]; exact ks73 R.1 h0 h1
end
def pfM : List Nat := [17, 18, 19, 20, 21, 29, 32, 33, 34, 38, 39, 40]
def FM (S : List Nat) (h h' : Mem) : Prop := h'.1 = h.1 ∧ h'.2.2.2 = h.2.2.2 ∧ (∀ i, i ∉ S → h'.2.2.1 i = h.2.2.1 i) ∧ (∀ i, i ≠ 71 → i ∉ S → h'.2.1 i = h.2.1 i) ∧ ∀ j, j ∉ pfM → h'.2.1 71 j = h.2.1 71 j
theorem FM.rf {S : List Nat} {h : Mem} : FM S h h := ⟨rfl, rfl, fun _ _ => rfl, fun _ _ _ => rfl, fun _ _ => rfl⟩
theorem FM.tr {S : List Nat} {h h1 h2 : Mem} (a : FM S h h1) (b : FM S h1 h2) : FM S h h2 := ⟨b.1.trans a.1, b.2.1.trans a.2.1, fun i q => (b.2.2.1 i q).trans (a.2.2.1 i q), fun i q1 q2 => (b.2.2.2.1 i q1 q2).trans (a.2.2.2.1 i q1 q2), fun j q => (b.2.2.2.2 j q).trans (a.2.2.2.2 j q)⟩
theorem FM.mono {S S' : List Nat} {h h' : Mem} (a : FM S h h') (s : ∀ i, i ∈ S → i ∈ S') : FM S' h h' := ⟨a.1, a.2.1, fun i q => a.2.2.1 i (fun z => q (s i z)), fun i q1 q2 => a.2.2.2.1 i q1 (fun z => q2 (s i z)), a.2.2.2.2⟩
theorem FM.wr_ {S : List Nat} {h : Mem} {a : Nat} {row : Nat → Int32} (ha : a ∈ S) (h71 : a ≠ 71) : FM S h (wr h a row) := ⟨rfl, rfl, fun _ _ => rfl, fun i q1 q2 => wr_ne (by rintro rfl; exact q2 ha), fun j _ => by rw [wr_ne h71.symm]⟩
theorem FM.wJ_ {S : List Nat} {h : Mem} {a : Nat} {row : Nat → Int64} (ha : a ∈ S) : FM S h (wJ h a row) := ⟨rfl, rfl, fun i q => wJ_ne (by rintro rfl; exact q ha), fun i q1 q2 => rfl, fun j _ => rfl⟩
theorem FM.fd_ {S : List Nat} {h : Mem} {j : Nat} {v : Int32} (hj : j ∈ pfM) : FM S h (fd h j v) := ⟨rfl, rfl, fun _ _ => rfl, fun i q1 _ => fd_ne q1, fun i hi => by rw [fd_at, if_neg (by rintro rfl; exact hi hj)]⟩
def SP : List Nat := [83, 87, 88, 89, 90, 91, 92]
def SV : List Nat := [83, 87, 88, 89, 90, 91, 92, 73, 93]
def SR : List Nat := [83, 87, 88, 89, 90, 91, 92, 73, 93, 79, 94, 95, 96]
def SE : List Nat := [83, 87, 88, 89, 90, 91, 92, 73, 93, 79, 94, 95, 96, 97]
def SK : List Nat := [83, 87, 88, 89, 90, 91, 92, 73, 93, 79, 94, 95, 96, 97, 74, 75, 76, 98]
theorem SP_SV : ∀ i, i ∈ SP → i ∈ SV := by decide
theorem SP_SR : ∀ i, i ∈ SP → i ∈ SR := by decide
theorem SV_SR : ∀ i, i ∈ SV → i ∈ SR := by decide
theorem SR_SE : ∀ i, i ∈ SR → i ∈ SE := by decide
theorem SE_SK : ∀ i, i ∈ SE → i ∈ SK := by decide
