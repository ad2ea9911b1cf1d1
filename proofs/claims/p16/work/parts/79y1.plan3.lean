
/-- what is gathered of each case -/
def GA (W : Nat → Int32) (FT : Nat → Nat → Prop) (K : Int) (num w pb : Nat → Int32) : Prop := ∀ k : Nat, (k : Int) < K → ∀ c : Nat, (num k).toInt = (c : Int) → w k = W c ∧ ok6 (pb k) ∧ ∀ p : Nat, p < 6 → (bt (pb k) p ↔ FT c p)
theorem GA_0 {W : Nat → Int32} {FT : Nat → Nat → Prop} {K : Int} {num w pb : Nat → Int32} (h : K ≤ 0) : GA W FT K num w pb := fun k hk => absurd hk (by omega)
theorem GA_s {W : Nat → Int32} {FT : Nat → Nat → Prop} {K K2 : Int} {num w pb n2 w2 p2 : Nat → Int32} {i : Nat} (h : GA W FT K num w pb) (h2 : K2 = K + 1) (hl : ∀ k : Nat, (k : Int) < K → n2 k = num k ∧ w2 k = w k ∧ p2 k = pb k) (hn : ∀ k : Nat, (k : Int) = K → ((n2 k).toInt = (i : Int) ∧ w2 k = W i) ∧ ok6 (p2 k) ∧ ∀ p : Nat, p < 6 → (bt (p2 k) p ↔ FT i p)) : GA W FT K2 n2 w2 p2 := by
  intro k hk c hc
  by_cases e : (k : Int) < K
  · obtain ⟨a1, a2, a3⟩ := hl k e
    rw [a1] at hc
    rw [a2, a3]
    exact h k e c hc
  · obtain ⟨⟨a1, a2⟩, a3⟩ := hn k (by omega)
    rw [show c = i from by omega]
    exact ⟨a2, a3⟩
