
def Ft (v u : Nat → Nat → Int32) : Prop := True
theorem Ft.rf {v : Nat → Nat → Int32} : Ft v v := trivial
theorem t_n {x : Int32} {m : Nat} (h : 0 ≤ x.toInt ∧ x.toInt ≤ m) : ¬ x < 0 ∧ x.toNatClampNeg ≤ m := by
  have k0 : (0 : Int32).toInt = 0 := by decide
  refine ⟨fun q => ?_, ?_⟩
  · have := Int32.lt_iff_toInt_lt.mp q
    omega
  · show x.toInt.toNat ≤ m
    omega
theorem Iv.row {v : Nat → Nat → Int32} (hv : Iv v) {k K : Nat} {r : Nat → Int32} (hk : kd k = K) (hb : ∀ j, bd K j = none) : Iv (upr v k r) := by
  intro a b h q
  by_cases ha : a = k
  · subst ha
    rw [hk, hb] at q
    cases q
  · rw [upr_n ha]
    exact hv a b h q
