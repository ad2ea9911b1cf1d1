
/-- what party, mediator and rooms of the reference leave alone -/
theorem Fk_w {v u : Nat → Nat → Int32} (h2 : u 2 = v 2) (h3 : u 0 = v 0) : u 2 = v 2 ∧ u 0 2 = v 0 2 ∧ u 0 3 = v 0 3 := ⟨h2, congrFun h3 2, congrFun h3 3⟩
