section
variable {h : Mem} {c p : Nat} {V : Vw} {N : Nat} {γ : Type}
theorem bq {α β : Type} {x : Option (α × Mem)} {a : α} {h0 : Mem} {k : α → Mem → Option β} (e : x = some (a, h0)) : b2 x k = k a h0 := by rw [e]; rfl
theorem bo {α β : Type} {x : Option α} {a : α} {k : α → Option β} (e : x = some a) : x.bind k = k a := by rw [e]; rfl
theorem kC (R : RepC h c p V) {k : Unit → Option γ} : (ck h c 1).bind k = k () := bo (rC R)
theorem kT (R : RepC h c p V) {k : Int32 → Option γ} : (gI h c 1 1).bind k = k (iz (vT V)) := bo (rT R)
theorem kF (R : RepC h c p V) {k : Int32 → Option γ} : (gI h c 1 2).bind k = k (iz (vF V)) := bo (rF R)
theorem kA0 (R : RepC h c p V) {k : Nat → Option γ} : (gR h c 1 3).bind k = k (ar c 0) := bo (rA0 R)
theorem kA1 (R : RepC h c p V) {k : Nat → Option γ} : (gR h c 1 4).bind k = k (ar c 1) := bo (rA1 R)
theorem kA2 (R : RepC h c p V) {k : Nat → Option γ} : (gR h c 1 5).bind k = k (ar c 2) := bo (rA2 R)
theorem kA3 (R : RepC h c p V) {k : Nat → Option γ} : (gR h c 1 6).bind k = k (ar c 3) := bo (rA3 R)
theorem kA4 (R : RepC h c p V) {k : Nat → Option γ} : (gR h c 1 7).bind k = k (ar c 4) := bo (rA4 R)
theorem kA5 (R : RepC h c p V) {k : Nat → Option γ} : (gR h c 1 8).bind k = k (ar c 5) := bo (rA5 R)
theorem kA6 (R : RepC h c p V) {k : Nat → Option γ} : (gR h c 1 9).bind k = k (ar c 6) := bo (rA6 R)
theorem kA7 (R : RepC h c p V) {k : Nat → Option γ} : (gR h c 1 10).bind k = k (ar c 7) := bo (rA7 R)
theorem kA8 (R : RepC h c p V) {k : Nat → Option γ} : (gR h c 1 11).bind k = k (ar c 8) := bo (rA8 R)
theorem kA9 (R : RepC h c p V) {k : Nat → Option γ} : (gR h c 1 12).bind k = k (ar c 9) := bo (rA9 R)
theorem kL (R : RepC h c p V) {k : Nat → Option γ} : (gR h c 1 0).bind k = k p := bo (rL R)
theorem kLk (R : RepC h c p V) {k : Unit → Option γ} : (ck h p 3).bind k = k () := bo (rLk R)
theorem kL0 (R : RepC h c p V) {k : Nat → Option γ} : (gR h p 3 0).bind k = k (p + 1) := bo (rL0 R)
theorem kL1 (R : RepC h c p V) {k : Nat → Option γ} : (gR h p 3 1).bind k = k (p + 2) := bo (rL1 R)
theorem kL2 (R : RepC h c p V) {k : Nat → Option γ} : (gR h p 3 2).bind k = k (p + 3) := bo (rL2 R)
theorem kL3 (R : RepC h c p V) {k : Int32 → Option γ} : (gI h p 3 3).bind k = k (iz (va V 12 0)) := bo (rL3 R)
theorem kL4 (R : RepC h c p V) {k : Int32 → Option γ} : (gI h p 3 4).bind k = k (iz (va V 12 1)) := bo (rL4 R)
theorem kL5 (R : RepC h c p V) {k : Int32 → Option γ} : (gI h p 3 5).bind k = k (iz (va V 12 2)) := bo (rL5 R)
theorem kX0 (R : RepC h c p V) {z : Int} {k : Int32 → Option γ} (h0 : 0 ≤ z) (h1 : z < 4) : (lI 100 h (ar c 0) (iz z)).bind k = k (iz (va V 0 z)) := bo (rX0 R h0 h1)
theorem kX1 (R : RepC h c p V) {z : Int} {k : Int32 → Option γ} (h0 : 0 ≤ z) (h1 : z < 12) : (lI 100 h (ar c 1) (iz z)).bind k = k (iz (va V 1 z)) := bo (rX1 R h0 h1)
theorem kX2 (R : RepC h c p V) {z : Int} {k : Int32 → Option γ} (h0 : 0 ≤ z) (h1 : z < 4) : (lI 100 h (ar c 2) (iz z)).bind k = k (iz (va V 2 z)) := bo (rX2 R h0 h1)
theorem kX3 (R : RepC h c p V) {z : Int} {k : Int32 → Option γ} (h0 : 0 ≤ z) (h1 : z < 4) : (lI 100 h (ar c 3) (iz z)).bind k = k (iz (va V 3 z)) := bo (rX3 R h0 h1)
theorem kX4 (R : RepC h c p V) {z : Int} {k : Int32 → Option γ} (h0 : 0 ≤ z) (h1 : z < 4) : (lI 100 h (ar c 4) (iz z)).bind k = k (iz (va V 4 z)) := bo (rX4 R h0 h1)
theorem kX5 (R : RepC h c p V) {z : Int} {k : Int32 → Option γ} (h0 : 0 ≤ z) (h1 : z < 8) : (lI 100 h (ar c 5) (iz z)).bind k = k (iz (va V 5 z)) := bo (rX5 R h0 h1)
theorem kX6 (R : RepC h c p V) {z : Int} {k : Int32 → Option γ} (h0 : 0 ≤ z) (h1 : z < 8) : (lI 100 h (ar c 6) (iz z)).bind k = k (iz (va V 6 z)) := bo (rX6 R h0 h1)
theorem kX7 (R : RepC h c p V) {z : Int} {k : Int32 → Option γ} (h0 : 0 ≤ z) (h1 : z < 8) : (lI 100 h (ar c 7) (iz z)).bind k = k (iz (va V 7 z)) := bo (rX7 R h0 h1)
theorem kX8 (R : RepC h c p V) {z : Int} {k : Int32 → Option γ} (h0 : 0 ≤ z) (h1 : z < 8) : (lI 100 h (ar c 8) (iz z)).bind k = k (iz (va V 8 z)) := bo (rX8 R h0 h1)
theorem kY0 (R : RepC h c p V) {z : Int} {k : Int32 → Option γ} (h0 : 0 ≤ z) (h1 : z < 12) : (lI 100 h (p + 1) (iz z)).bind k = k (iz (va V 9 z)) := bo (rY0 R h0 h1)
theorem kY1 (R : RepC h c p V) {z : Int} {k : Int32 → Option γ} (h0 : 0 ≤ z) (h1 : z < 16) : (lI 100 h (p + 2) (iz z)).bind k = k (iz (va V 10 z)) := bo (rY1 R h0 h1)
theorem kY2 (R : RepC h c p V) {z : Int} {k : Int32 → Option γ} (h0 : 0 ≤ z) (h1 : z < 3) : (lI 100 h (p + 3) (iz z)).bind k = k (iz (va V 11 z)) := bo (rY2 R h0 h1)
theorem kX1m (R : RepC h c p V) {a b : Int} {k : Int32 → Option γ} (h0 : 0 ≤ a * 3 + b) (h1 : a * 3 + b < 12) : (lI 100 h (ar c 1) (iz a * (3 : Int32) + iz b)).bind k = k (iz (va V 1 (a * 3 + b))) := by rw [il3, iz_mul, iz_add]; exact kX1 R h0 h1
theorem kY0m (R : RepC h c p V) {a b : Int} {k : Int32 → Option γ} (h0 : 0 ≤ a * 3 + b) (h1 : a * 3 + b < 12) : (lI 100 h (p + 1) (iz a * (3 : Int32) + iz b)).bind k = k (iz (va V 9 (a * 3 + b))) := by rw [il3, iz_mul, iz_add]; exact kY0 R h0 h1
theorem kY1m (R : RepC h c p V) {a b : Int} {k : Int32 → Option γ} (h0 : 0 ≤ a * 4 + b) (h1 : a * 4 + b < 16) : (lI 100 h (p + 2) (iz a * (4 : Int32) + iz b)).bind k = k (iz (va V 10 (a * 4 + b))) := by rw [il4, iz_mul, iz_add]; exact kY1 R h0 h1
end
