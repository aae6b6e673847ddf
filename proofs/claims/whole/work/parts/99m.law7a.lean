/-! THE LAW: a static's value out of an equation -/
theorem lg_eq {s : State} {a : Array Value} {t : Term} {v : Int32} (h : (Cond.eq t (.int v)).before a s = true) : t.eval a s none [] s = some (.int v) := by
  have e : (Term.int v).eval a s none [] s = some (.int v) := rfl
  cases ht : t.eval a s none [] s with
  | none => simp [Cond.before, Cond.holds, Cond.value, ht, e] at h
  | some x => cases x <;> simp [Cond.before, Cond.holds, Cond.value, ht, e] at h <;> simp_all
