def mem0 : Mem := ([], fun _ _ => 0, fun _ _ => 0, fun _ _ => none)
def strK (i : Nat) : Nat := ((stx[i]?).map (·.1)).getD 0
def strT (i : Nat) : Term := .string "CrossroadsCarts$Reader" (strK i)
theorem ref_of {args : Array Value} {s : State} {t : Term} (h : (Cond.isRef t).before args s = true) : (∃ a, t.eval args s none [] s = some (.ref a)) ∨ t.eval args s none [] s = some .null := by
  cases hv : t.eval args s none [] s with
  | none => simp [Cond.before, Cond.holds, Cond.value, hv] at h
  | some w =>
    cases w with
    | ref a => exact Or.inl ⟨a, rfl⟩
    | null => exact Or.inr rfl
    | _ => simp [Cond.before, Cond.holds, Cond.value, hv, Value.isRef] at h
