/-! ===== the formatter is a cell, or null ===== -/
theorem isRef_ev {A : Array Value} {s : State} {t : Term} {v : Value} (h : (Cond.isRef t).before A s = true) (hv : t.eval A s none [] s = some v) : v = .null ∨ ∃ f : Nat, v = .ref f := by
  cases v with
  | ref f => exact Or.inr ⟨f, rfl⟩
  | null => exact Or.inl rfl
  | _ => simp [Cond.before, Cond.holds, Cond.value, hv] at h
