/-- all that a House holds, the rooms and the field kept stay: only the rows of Planner and Table may change -/
def Fz (v u : Nat → Nat → Int32) : Prop := u 0 = v 0 ∧ ∀ k : Nat, 13 ≤ k → u k = v k
theorem Fz.rf {v : Nat → Nat → Int32} : Fz v v := ⟨rfl, fun _ _ => rfl⟩
theorem Fz.trans {v u w : Nat → Nat → Int32} (h : Fz v u) (g : Fz u w) : Fz v w := ⟨g.1.trans h.1, fun k hk => (g.2 k hk).trans (h.2 k hk)⟩
theorem Fz.row {v u : Nat → Nat → Int32} {k : Nat} {r : Nat → Int32} (h : Fz v u) (h1 : k < 13) (h2 : k ≠ 0) (_h3 : k < 13) : Fz v (upr u k r) := ⟨by rw [upr_n (Ne.symm h2)]; exact h.1, fun a ha => by rw [upr_n (by omega)]; exact h.2 a ha⟩
theorem Fz.put {v u : Nat → Nat → Int32} {k j : Nat} {x : Int32} (h : Fz v u) (h1 : k < 13) (h2 : k ≠ 0) (h3 : k < 13) : Fz v (upr u k (upd (u k) j x)) := h.row h1 h2 h3
