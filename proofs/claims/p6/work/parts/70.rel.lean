
/-- slot j of place k and number n of the reference are the same thing, as far as the counts reach -/
def lk (B : Nat) (s : Nat → Int32) (k j n : Nat) : Prop := (k = B ∧ j < 4 ∧ n = j) ∨ (∃ p : Nat, p < 8 ∧ (p : Int) < (s 0).toInt ∧ j < 2 ∧ k = B + 4 + p ∧ n = 4 + 2 * p + j) ∨ (∃ m : Nat, m < 4 ∧ (m : Int) < (s 1).toInt ∧ j < 2 ∧ k = B + 12 + m ∧ n = 20 + 2 * m + j) ∨ (∃ m : Nat, m < 4 ∧ (m : Int) < (s 1).toInt ∧ k = B + 12 + m ∧ j = 2 ∧ n = 28 + m) ∨ (∃ c : Nat, c < 6 ∧ (c : Int) < (s 2).toInt ∧ k = B + 16 + 15 * c ∧ j = 0 ∧ n = 34 + 7 * c) ∨ (∃ c : Nat, c < 6 ∧ (c : Int) < (s 2).toInt ∧ k = B + 16 + 15 * c ∧ j = 2 ∧ n = 36 + 7 * c) ∨ (∃ c : Nat, c < 6 ∧ (c : Int) < (s 2).toInt ∧ k = B + 16 + 15 * c ∧ j = 3 ∧ n = 37 + 7 * c) ∨ (∃ c : Nat, c < 6 ∧ (c : Int) < (s 2).toInt ∧ k = B + 16 + 15 * c ∧ j = 5 ∧ n = 38 + 7 * c) ∨ (∃ c : Nat, c < 6 ∧ (c : Int) < (s 2).toInt ∧ j < 2 ∧ k = B + 17 + 15 * c ∧ n = 32 + 7 * c + j) ∨ (∃ c i : Nat, c < 6 ∧ (c : Int) < (s 2).toInt ∧ i < 2 ∧ j < 5 ∧ (j : Int) < (s (36 + 7 * c)).toInt ∧ k = B + 20 + 15 * c + i ∧ n = 86 + 10 * c + 2 * j + i) ∨ (∃ c i : Nat, c < 6 ∧ (c : Int) < (s 2).toInt ∧ i < 2 ∧ j < 24 ∧ k = B + 23 + 15 * c + i ∧ n = 308 + 48 * c + 24 * i + j) ∨ (∃ c t : Nat, c < 6 ∧ (c : Int) < (s 2).toInt ∧ t < 5 ∧ (t : Int) < (s (38 + 7 * c)).toInt ∧ j < 5 ∧ k = B + 26 + 15 * c + t ∧ n = 158 + 25 * c + 5 * t + j)
def RLk (B : Nat) (v : Nat → Nat → Int32) (s : Nat → Int32) : Prop := ∀ k j n : Nat, lk B s k j n → v k j = s n
section LKS
variable {B : Nat} {s : Nat → Int32}
theorem lk_a {j : Nat} (hj : j < 4) : lk B s (B) j (j) := Or.inl ⟨rfl, hj, rfl⟩
theorem lk_p {p j : Nat} (hp : p < 8) (ha : (p : Int) < (s 0).toInt) (hj : j < 2) : lk B s (B + 4 + p) j (4 + 2 * p + j) := Or.inr (Or.inl ⟨p, hp, ha, hj, rfl, rfl⟩)
theorem lk_m {m j : Nat} (hm : m < 4) (ha : (m : Int) < (s 1).toInt) (hj : j < 2) : lk B s (B + 12 + m) j (20 + 2 * m + j) := Or.inr (Or.inr (Or.inl ⟨m, hm, ha, hj, rfl, rfl⟩))
theorem lk_k_ {m : Nat} (hm : m < 4) (ha : (m : Int) < (s 1).toInt) : lk B s (B + 12 + m) 2 (28 + m) := Or.inr (Or.inr (Or.inr (Or.inl ⟨m, hm, ha, rfl, rfl, rfl⟩)))
theorem lk_c0 {c : Nat} (hc : c < 6) (ha : (c : Int) < (s 2).toInt) : lk B s (B + 16 + 15 * c) 0 (34 + 7 * c) := Or.inr (Or.inr (Or.inr (Or.inr (Or.inl ⟨c, hc, ha, rfl, rfl, rfl⟩))))
theorem lk_c2 {c : Nat} (hc : c < 6) (ha : (c : Int) < (s 2).toInt) : lk B s (B + 16 + 15 * c) 2 (36 + 7 * c) := Or.inr (Or.inr (Or.inr (Or.inr (Or.inr (Or.inl ⟨c, hc, ha, rfl, rfl, rfl⟩)))))
theorem lk_c3 {c : Nat} (hc : c < 6) (ha : (c : Int) < (s 2).toInt) : lk B s (B + 16 + 15 * c) 3 (37 + 7 * c) := Or.inr (Or.inr (Or.inr (Or.inr (Or.inr (Or.inr (Or.inl ⟨c, hc, ha, rfl, rfl, rfl⟩))))))
theorem lk_c5 {c : Nat} (hc : c < 6) (ha : (c : Int) < (s 2).toInt) : lk B s (B + 16 + 15 * c) 5 (38 + 7 * c) := Or.inr (Or.inr (Or.inr (Or.inr (Or.inr (Or.inr (Or.inr (Or.inl ⟨c, hc, ha, rfl, rfl, rfl⟩)))))))
theorem lk_q {c j : Nat} (hc : c < 6) (ha : (c : Int) < (s 2).toInt) (hj : j < 2) : lk B s (B + 17 + 15 * c) j (32 + 7 * c + j) := Or.inr (Or.inr (Or.inr (Or.inr (Or.inr (Or.inr (Or.inr (Or.inr (Or.inl ⟨c, hc, ha, hj, rfl, rfl⟩))))))))
theorem lk_o {c i j : Nat} (hc : c < 6) (ha : (c : Int) < (s 2).toInt) (hi : i < 2) (hj : j < 5) (hr : (j : Int) < (s (36 + 7 * c)).toInt) : lk B s (B + 20 + 15 * c + i) j (86 + 10 * c + 2 * j + i) := Or.inr (Or.inr (Or.inr (Or.inr (Or.inr (Or.inr (Or.inr (Or.inr (Or.inr (Or.inl ⟨c, i, hc, ha, hi, hj, hr, rfl, rfl⟩)))))))))
theorem lk_l {c i j : Nat} (hc : c < 6) (ha : (c : Int) < (s 2).toInt) (hi : i < 2) (hj : j < 24) : lk B s (B + 23 + 15 * c + i) j (308 + 48 * c + 24 * i + j) := Or.inr (Or.inr (Or.inr (Or.inr (Or.inr (Or.inr (Or.inr (Or.inr (Or.inr (Or.inr (Or.inl ⟨c, i, hc, ha, hi, hj, rfl, rfl⟩))))))))))
theorem lk_t {c t j : Nat} (hc : c < 6) (ha : (c : Int) < (s 2).toInt) (ht : t < 5) (hr : (t : Int) < (s (38 + 7 * c)).toInt) (hj : j < 5) : lk B s (B + 26 + 15 * c + t) j (158 + 25 * c + 5 * t + j) := Or.inr (Or.inr (Or.inr (Or.inr (Or.inr (Or.inr (Or.inr (Or.inr (Or.inr (Or.inr (Or.inr (⟨c, t, hc, ha, ht, hr, hj, rfl, rfl⟩)))))))))))
end LKS
set_option maxHeartbeats 4000000 in
theorem RL_weight {v u : Nat → Nat → Int32} {s z : Nat → Int32} {X : Nat} {x : Int32} (hX : X < 6) (hu : ∀ k j : Nat, u k j = if k = 29 + 15 * X ∧ j = 3 then x else v k j) (hs : ∀ n : Nat, z n = if n = 37 + 7 * X then x else s n) (hR : RLk 13 v s) : RLk 13 u z := by
  have A0 : (z 0).toInt = (s 0).toInt := by rw [hs, if_neg (by omega)]
  have A1 : (z 1).toInt = (s 1).toInt := by rw [hs, if_neg (by omega)]
  have A2 : (z 2).toInt = (s 2).toInt := by rw [hs, if_neg (by omega)]
  have A36 : ∀ c : Nat, c < 6 → (z (36 + 7 * c)).toInt = (s (36 + 7 * c)).toInt := fun c hc => by rw [hs, if_neg (by omega)]
  have A38 : ∀ c : Nat, c < 6 → (z (38 + 7 * c)).toInt = (s (38 + 7 * c)).toInt := fun c hc => by rw [hs, if_neg (by omega)]
  intro k j n h
  unfold lk at h
  rcases h with ⟨rfl, hj, rfl⟩ | ⟨p, hp, ha, hj, rfl, rfl⟩ | ⟨m, hm, ha, hj, rfl, rfl⟩ | ⟨m, hm, ha, rfl, rfl, rfl⟩ | ⟨c, hc, ha, rfl, rfl, rfl⟩ | ⟨c, hc, ha, rfl, rfl, rfl⟩ | ⟨c, hc, ha, rfl, rfl, rfl⟩ | ⟨c, hc, ha, rfl, rfl, rfl⟩ | ⟨c, hc, ha, hj, rfl, rfl⟩ | ⟨c, i, hc, ha, hi, hj, hr, rfl, rfl⟩ | ⟨c, i, hc, ha, hi, hj, rfl, rfl⟩ | ⟨c, t, hc, ha, ht, hr, hj, rfl, rfl⟩
  · have d1 : u (13) n = v (13) n := by rw [hu, if_neg (by omega)]
    have d2 : z (n) = s (n) := by rw [hs, if_neg (by omega)]
    exact d1.trans ((hR _ _ _ (lk_a hj)).trans d2.symm)
  · have d1 : u (13 + 4 + p) j = v (13 + 4 + p) j := by rw [hu, if_neg (by omega)]
    have d2 : z (4 + 2 * p + j) = s (4 + 2 * p + j) := by rw [hs, if_neg (by omega)]
    exact d1.trans ((hR _ _ _ (lk_p hp (by omega) hj)).trans d2.symm)
  · have d1 : u (13 + 12 + m) j = v (13 + 12 + m) j := by rw [hu, if_neg (by omega)]
    have d2 : z (20 + 2 * m + j) = s (20 + 2 * m + j) := by rw [hs, if_neg (by omega)]
    exact d1.trans ((hR _ _ _ (lk_m hm (by omega) hj)).trans d2.symm)
  · have d1 : u (13 + 12 + m) 2 = v (13 + 12 + m) 2 := by rw [hu, if_neg (by omega)]
    have d2 : z (28 + m) = s (28 + m) := by rw [hs, if_neg (by omega)]
    exact d1.trans ((hR _ _ _ (lk_k_ hm (by omega))).trans d2.symm)
  · have d1 : u (13 + 16 + 15 * c) 0 = v (13 + 16 + 15 * c) 0 := by rw [hu, if_neg (by omega)]
    have d2 : z (34 + 7 * c) = s (34 + 7 * c) := by rw [hs, if_neg (by omega)]
    exact d1.trans ((hR _ _ _ (lk_c0 hc (by omega))).trans d2.symm)
  · have d1 : u (13 + 16 + 15 * c) 2 = v (13 + 16 + 15 * c) 2 := by rw [hu, if_neg (by omega)]
    have d2 : z (36 + 7 * c) = s (36 + 7 * c) := by rw [hs, if_neg (by omega)]
    exact d1.trans ((hR _ _ _ (lk_c2 hc (by omega))).trans d2.symm)
  · by_cases e0 : 13 + 16 + 15 * c = 29 + 15 * X ∧ 3 = 3
    · have d1 : u (13 + 16 + 15 * c) 3 = x := by rw [hu, if_pos (by omega)]
      have d2 : z (37 + 7 * c) = x := by rw [hs, if_pos (by omega)]
      exact d1.trans d2.symm
    · skip
      have d1 : u (13 + 16 + 15 * c) 3 = v (13 + 16 + 15 * c) 3 := by rw [hu, if_neg (by omega)]
      have d2 : z (37 + 7 * c) = s (37 + 7 * c) := by rw [hs, if_neg (by omega)]
      exact d1.trans ((hR _ _ _ (lk_c3 hc (by omega))).trans d2.symm)
  · have d1 : u (13 + 16 + 15 * c) 5 = v (13 + 16 + 15 * c) 5 := by rw [hu, if_neg (by omega)]
    have d2 : z (38 + 7 * c) = s (38 + 7 * c) := by rw [hs, if_neg (by omega)]
    exact d1.trans ((hR _ _ _ (lk_c5 hc (by omega))).trans d2.symm)
  · have d1 : u (13 + 17 + 15 * c) j = v (13 + 17 + 15 * c) j := by rw [hu, if_neg (by omega)]
    have d2 : z (32 + 7 * c + j) = s (32 + 7 * c + j) := by rw [hs, if_neg (by omega)]
    exact d1.trans ((hR _ _ _ (lk_q hc (by omega) hj)).trans d2.symm)
  · have a36 := A36 c hc
    have d1 : u (13 + 20 + 15 * c + i) j = v (13 + 20 + 15 * c + i) j := by rw [hu, if_neg (by omega)]
    have d2 : z (86 + 10 * c + 2 * j + i) = s (86 + 10 * c + 2 * j + i) := by rw [hs, if_neg (by omega)]
    exact d1.trans ((hR _ _ _ (lk_o hc (by omega) hi hj (by omega))).trans d2.symm)
  · have d1 : u (13 + 23 + 15 * c + i) j = v (13 + 23 + 15 * c + i) j := by rw [hu, if_neg (by omega)]
    have d2 : z (308 + 48 * c + 24 * i + j) = s (308 + 48 * c + 24 * i + j) := by rw [hs, if_neg (by omega)]
    exact d1.trans ((hR _ _ _ (lk_l hc (by omega) hi hj)).trans d2.symm)
  · have a38 := A38 c hc
    have d1 : u (13 + 26 + 15 * c + t) j = v (13 + 26 + 15 * c + t) j := by rw [hu, if_neg (by omega)]
    have d2 : z (158 + 25 * c + 5 * t + j) = s (158 + 25 * c + 5 * t + j) := by rw [hs, if_neg (by omega)]
    exact d1.trans ((hR _ _ _ (lk_t hc (by omega) ht (by omega) hj)).trans d2.symm)

set_option maxHeartbeats 4000000 in
theorem RL_close {v u : Nat → Nat → Int32} {s z : Nat → Int32} {X : Nat} {x : Int32} (hX : X < 6) (hu : ∀ k j : Nat, u k j = if k = 29 + 15 * X ∧ j = 0 then x else v k j) (hs : ∀ n : Nat, z n = if n = 34 + 7 * X then x else s n) (hR : RLk 13 v s) : RLk 13 u z := by
  have A0 : (z 0).toInt = (s 0).toInt := by rw [hs, if_neg (by omega)]
  have A1 : (z 1).toInt = (s 1).toInt := by rw [hs, if_neg (by omega)]
  have A2 : (z 2).toInt = (s 2).toInt := by rw [hs, if_neg (by omega)]
  have A36 : ∀ c : Nat, c < 6 → (z (36 + 7 * c)).toInt = (s (36 + 7 * c)).toInt := fun c hc => by rw [hs, if_neg (by omega)]
  have A38 : ∀ c : Nat, c < 6 → (z (38 + 7 * c)).toInt = (s (38 + 7 * c)).toInt := fun c hc => by rw [hs, if_neg (by omega)]
  intro k j n h
  unfold lk at h
  rcases h with ⟨rfl, hj, rfl⟩ | ⟨p, hp, ha, hj, rfl, rfl⟩ | ⟨m, hm, ha, hj, rfl, rfl⟩ | ⟨m, hm, ha, rfl, rfl, rfl⟩ | ⟨c, hc, ha, rfl, rfl, rfl⟩ | ⟨c, hc, ha, rfl, rfl, rfl⟩ | ⟨c, hc, ha, rfl, rfl, rfl⟩ | ⟨c, hc, ha, rfl, rfl, rfl⟩ | ⟨c, hc, ha, hj, rfl, rfl⟩ | ⟨c, i, hc, ha, hi, hj, hr, rfl, rfl⟩ | ⟨c, i, hc, ha, hi, hj, rfl, rfl⟩ | ⟨c, t, hc, ha, ht, hr, hj, rfl, rfl⟩
  · have d1 : u (13) n = v (13) n := by rw [hu, if_neg (by omega)]
    have d2 : z (n) = s (n) := by rw [hs, if_neg (by omega)]
    exact d1.trans ((hR _ _ _ (lk_a hj)).trans d2.symm)
  · have d1 : u (13 + 4 + p) j = v (13 + 4 + p) j := by rw [hu, if_neg (by omega)]
    have d2 : z (4 + 2 * p + j) = s (4 + 2 * p + j) := by rw [hs, if_neg (by omega)]
    exact d1.trans ((hR _ _ _ (lk_p hp (by omega) hj)).trans d2.symm)
  · have d1 : u (13 + 12 + m) j = v (13 + 12 + m) j := by rw [hu, if_neg (by omega)]
    have d2 : z (20 + 2 * m + j) = s (20 + 2 * m + j) := by rw [hs, if_neg (by omega)]
    exact d1.trans ((hR _ _ _ (lk_m hm (by omega) hj)).trans d2.symm)
  · have d1 : u (13 + 12 + m) 2 = v (13 + 12 + m) 2 := by rw [hu, if_neg (by omega)]
    have d2 : z (28 + m) = s (28 + m) := by rw [hs, if_neg (by omega)]
    exact d1.trans ((hR _ _ _ (lk_k_ hm (by omega))).trans d2.symm)
  · by_cases e0 : 13 + 16 + 15 * c = 29 + 15 * X ∧ 0 = 0
    · have d1 : u (13 + 16 + 15 * c) 0 = x := by rw [hu, if_pos (by omega)]
      have d2 : z (34 + 7 * c) = x := by rw [hs, if_pos (by omega)]
      exact d1.trans d2.symm
    · skip
      have d1 : u (13 + 16 + 15 * c) 0 = v (13 + 16 + 15 * c) 0 := by rw [hu, if_neg (by omega)]
      have d2 : z (34 + 7 * c) = s (34 + 7 * c) := by rw [hs, if_neg (by omega)]
      exact d1.trans ((hR _ _ _ (lk_c0 hc (by omega))).trans d2.symm)
  · have d1 : u (13 + 16 + 15 * c) 2 = v (13 + 16 + 15 * c) 2 := by rw [hu, if_neg (by omega)]
    have d2 : z (36 + 7 * c) = s (36 + 7 * c) := by rw [hs, if_neg (by omega)]
    exact d1.trans ((hR _ _ _ (lk_c2 hc (by omega))).trans d2.symm)
  · have d1 : u (13 + 16 + 15 * c) 3 = v (13 + 16 + 15 * c) 3 := by rw [hu, if_neg (by omega)]
    have d2 : z (37 + 7 * c) = s (37 + 7 * c) := by rw [hs, if_neg (by omega)]
    exact d1.trans ((hR _ _ _ (lk_c3 hc (by omega))).trans d2.symm)
  · have d1 : u (13 + 16 + 15 * c) 5 = v (13 + 16 + 15 * c) 5 := by rw [hu, if_neg (by omega)]
    have d2 : z (38 + 7 * c) = s (38 + 7 * c) := by rw [hs, if_neg (by omega)]
    exact d1.trans ((hR _ _ _ (lk_c5 hc (by omega))).trans d2.symm)
  · have d1 : u (13 + 17 + 15 * c) j = v (13 + 17 + 15 * c) j := by rw [hu, if_neg (by omega)]
    have d2 : z (32 + 7 * c + j) = s (32 + 7 * c + j) := by rw [hs, if_neg (by omega)]
    exact d1.trans ((hR _ _ _ (lk_q hc (by omega) hj)).trans d2.symm)
  · have a36 := A36 c hc
    have d1 : u (13 + 20 + 15 * c + i) j = v (13 + 20 + 15 * c + i) j := by rw [hu, if_neg (by omega)]
    have d2 : z (86 + 10 * c + 2 * j + i) = s (86 + 10 * c + 2 * j + i) := by rw [hs, if_neg (by omega)]
    exact d1.trans ((hR _ _ _ (lk_o hc (by omega) hi hj (by omega))).trans d2.symm)
  · have d1 : u (13 + 23 + 15 * c + i) j = v (13 + 23 + 15 * c + i) j := by rw [hu, if_neg (by omega)]
    have d2 : z (308 + 48 * c + 24 * i + j) = s (308 + 48 * c + 24 * i + j) := by rw [hs, if_neg (by omega)]
    exact d1.trans ((hR _ _ _ (lk_l hc (by omega) hi hj)).trans d2.symm)
  · have a38 := A38 c hc
    have d1 : u (13 + 26 + 15 * c + t) j = v (13 + 26 + 15 * c + t) j := by rw [hu, if_neg (by omega)]
    have d2 : z (158 + 25 * c + 5 * t + j) = s (158 + 25 * c + 5 * t + j) := by rw [hs, if_neg (by omega)]
    exact d1.trans ((hR _ _ _ (lk_t hc (by omega) ht (by omega) hj)).trans d2.symm)

set_option maxHeartbeats 4000000 in
theorem RL_log {v u : Nat → Nat → Int32} {s z : Nat → Int32} {X S H : Nat} {x : Int32} (hX : X < 6) (hS : S < 2) (hH : H < 24) (hu : ∀ k j : Nat, u k j = if k = 36 + 15 * X + S ∧ j = H then x else v k j) (hs : ∀ n : Nat, z n = if n = 308 + 48 * X + 24 * S + H then x else s n) (hR : RLk 13 v s) : RLk 13 u z := by
  have A0 : (z 0).toInt = (s 0).toInt := by rw [hs, if_neg (by omega)]
  have A1 : (z 1).toInt = (s 1).toInt := by rw [hs, if_neg (by omega)]
  have A2 : (z 2).toInt = (s 2).toInt := by rw [hs, if_neg (by omega)]
  have A36 : ∀ c : Nat, c < 6 → (z (36 + 7 * c)).toInt = (s (36 + 7 * c)).toInt := fun c hc => by rw [hs, if_neg (by omega)]
  have A38 : ∀ c : Nat, c < 6 → (z (38 + 7 * c)).toInt = (s (38 + 7 * c)).toInt := fun c hc => by rw [hs, if_neg (by omega)]
  intro k j n h
  unfold lk at h
  rcases h with ⟨rfl, hj, rfl⟩ | ⟨p, hp, ha, hj, rfl, rfl⟩ | ⟨m, hm, ha, hj, rfl, rfl⟩ | ⟨m, hm, ha, rfl, rfl, rfl⟩ | ⟨c, hc, ha, rfl, rfl, rfl⟩ | ⟨c, hc, ha, rfl, rfl, rfl⟩ | ⟨c, hc, ha, rfl, rfl, rfl⟩ | ⟨c, hc, ha, rfl, rfl, rfl⟩ | ⟨c, hc, ha, hj, rfl, rfl⟩ | ⟨c, i, hc, ha, hi, hj, hr, rfl, rfl⟩ | ⟨c, i, hc, ha, hi, hj, rfl, rfl⟩ | ⟨c, t, hc, ha, ht, hr, hj, rfl, rfl⟩
  · have d1 : u (13) n = v (13) n := by rw [hu, if_neg (by omega)]
    have d2 : z (n) = s (n) := by rw [hs, if_neg (by omega)]
    exact d1.trans ((hR _ _ _ (lk_a hj)).trans d2.symm)
  · have d1 : u (13 + 4 + p) j = v (13 + 4 + p) j := by rw [hu, if_neg (by omega)]
    have d2 : z (4 + 2 * p + j) = s (4 + 2 * p + j) := by rw [hs, if_neg (by omega)]
    exact d1.trans ((hR _ _ _ (lk_p hp (by omega) hj)).trans d2.symm)
  · have d1 : u (13 + 12 + m) j = v (13 + 12 + m) j := by rw [hu, if_neg (by omega)]
    have d2 : z (20 + 2 * m + j) = s (20 + 2 * m + j) := by rw [hs, if_neg (by omega)]
    exact d1.trans ((hR _ _ _ (lk_m hm (by omega) hj)).trans d2.symm)
  · have d1 : u (13 + 12 + m) 2 = v (13 + 12 + m) 2 := by rw [hu, if_neg (by omega)]
    have d2 : z (28 + m) = s (28 + m) := by rw [hs, if_neg (by omega)]
    exact d1.trans ((hR _ _ _ (lk_k_ hm (by omega))).trans d2.symm)
  · have d1 : u (13 + 16 + 15 * c) 0 = v (13 + 16 + 15 * c) 0 := by rw [hu, if_neg (by omega)]
    have d2 : z (34 + 7 * c) = s (34 + 7 * c) := by rw [hs, if_neg (by omega)]
    exact d1.trans ((hR _ _ _ (lk_c0 hc (by omega))).trans d2.symm)
  · have d1 : u (13 + 16 + 15 * c) 2 = v (13 + 16 + 15 * c) 2 := by rw [hu, if_neg (by omega)]
    have d2 : z (36 + 7 * c) = s (36 + 7 * c) := by rw [hs, if_neg (by omega)]
    exact d1.trans ((hR _ _ _ (lk_c2 hc (by omega))).trans d2.symm)
  · have d1 : u (13 + 16 + 15 * c) 3 = v (13 + 16 + 15 * c) 3 := by rw [hu, if_neg (by omega)]
    have d2 : z (37 + 7 * c) = s (37 + 7 * c) := by rw [hs, if_neg (by omega)]
    exact d1.trans ((hR _ _ _ (lk_c3 hc (by omega))).trans d2.symm)
  · have d1 : u (13 + 16 + 15 * c) 5 = v (13 + 16 + 15 * c) 5 := by rw [hu, if_neg (by omega)]
    have d2 : z (38 + 7 * c) = s (38 + 7 * c) := by rw [hs, if_neg (by omega)]
    exact d1.trans ((hR _ _ _ (lk_c5 hc (by omega))).trans d2.symm)
  · have d1 : u (13 + 17 + 15 * c) j = v (13 + 17 + 15 * c) j := by rw [hu, if_neg (by omega)]
    have d2 : z (32 + 7 * c + j) = s (32 + 7 * c + j) := by rw [hs, if_neg (by omega)]
    exact d1.trans ((hR _ _ _ (lk_q hc (by omega) hj)).trans d2.symm)
  · have a36 := A36 c hc
    have d1 : u (13 + 20 + 15 * c + i) j = v (13 + 20 + 15 * c + i) j := by rw [hu, if_neg (by omega)]
    have d2 : z (86 + 10 * c + 2 * j + i) = s (86 + 10 * c + 2 * j + i) := by rw [hs, if_neg (by omega)]
    exact d1.trans ((hR _ _ _ (lk_o hc (by omega) hi hj (by omega))).trans d2.symm)
  · by_cases e0 : 13 + 23 + 15 * c + i = 36 + 15 * X + S ∧ j = H
    · have d1 : u (13 + 23 + 15 * c + i) j = x := by rw [hu, if_pos (by omega)]
      have d2 : z (308 + 48 * c + 24 * i + j) = x := by rw [hs, if_pos (by omega)]
      exact d1.trans d2.symm
    · skip
      have d1 : u (13 + 23 + 15 * c + i) j = v (13 + 23 + 15 * c + i) j := by rw [hu, if_neg (by omega)]
      have d2 : z (308 + 48 * c + 24 * i + j) = s (308 + 48 * c + 24 * i + j) := by rw [hs, if_neg (by omega)]
      exact d1.trans ((hR _ _ _ (lk_l hc (by omega) hi hj)).trans d2.symm)
  · have a38 := A38 c hc
    have d1 : u (13 + 26 + 15 * c + t) j = v (13 + 26 + 15 * c + t) j := by rw [hu, if_neg (by omega)]
    have d2 : z (158 + 25 * c + 5 * t + j) = s (158 + 25 * c + 5 * t + j) := by rw [hs, if_neg (by omega)]
    exact d1.trans ((hR _ _ _ (lk_t hc (by omega) ht (by omega) hj)).trans d2.symm)

set_option maxHeartbeats 4000000 in
theorem RL_kin {v u : Nat → Nat → Int32} {s z : Nat → Int32} {X : Nat} {x : Int32} (hX : X < 4) (hu : ∀ k j : Nat, u k j = if k = 25 + X ∧ j = 2 then x else v k j) (hs : ∀ n : Nat, z n = if n = 28 + X then x else s n) (hR : RLk 13 v s) : RLk 13 u z := by
  have A0 : (z 0).toInt = (s 0).toInt := by rw [hs, if_neg (by omega)]
  have A1 : (z 1).toInt = (s 1).toInt := by rw [hs, if_neg (by omega)]
  have A2 : (z 2).toInt = (s 2).toInt := by rw [hs, if_neg (by omega)]
  have A36 : ∀ c : Nat, c < 6 → (z (36 + 7 * c)).toInt = (s (36 + 7 * c)).toInt := fun c hc => by rw [hs, if_neg (by omega)]
  have A38 : ∀ c : Nat, c < 6 → (z (38 + 7 * c)).toInt = (s (38 + 7 * c)).toInt := fun c hc => by rw [hs, if_neg (by omega)]
  intro k j n h
  unfold lk at h
  rcases h with ⟨rfl, hj, rfl⟩ | ⟨p, hp, ha, hj, rfl, rfl⟩ | ⟨m, hm, ha, hj, rfl, rfl⟩ | ⟨m, hm, ha, rfl, rfl, rfl⟩ | ⟨c, hc, ha, rfl, rfl, rfl⟩ | ⟨c, hc, ha, rfl, rfl, rfl⟩ | ⟨c, hc, ha, rfl, rfl, rfl⟩ | ⟨c, hc, ha, rfl, rfl, rfl⟩ | ⟨c, hc, ha, hj, rfl, rfl⟩ | ⟨c, i, hc, ha, hi, hj, hr, rfl, rfl⟩ | ⟨c, i, hc, ha, hi, hj, rfl, rfl⟩ | ⟨c, t, hc, ha, ht, hr, hj, rfl, rfl⟩
  · have d1 : u (13) n = v (13) n := by rw [hu, if_neg (by omega)]
    have d2 : z (n) = s (n) := by rw [hs, if_neg (by omega)]
    exact d1.trans ((hR _ _ _ (lk_a hj)).trans d2.symm)
  · have d1 : u (13 + 4 + p) j = v (13 + 4 + p) j := by rw [hu, if_neg (by omega)]
    have d2 : z (4 + 2 * p + j) = s (4 + 2 * p + j) := by rw [hs, if_neg (by omega)]
    exact d1.trans ((hR _ _ _ (lk_p hp (by omega) hj)).trans d2.symm)
  · have d1 : u (13 + 12 + m) j = v (13 + 12 + m) j := by rw [hu, if_neg (by omega)]
    have d2 : z (20 + 2 * m + j) = s (20 + 2 * m + j) := by rw [hs, if_neg (by omega)]
    exact d1.trans ((hR _ _ _ (lk_m hm (by omega) hj)).trans d2.symm)
  · by_cases e0 : 13 + 12 + m = 25 + X ∧ 2 = 2
    · have d1 : u (13 + 12 + m) 2 = x := by rw [hu, if_pos (by omega)]
      have d2 : z (28 + m) = x := by rw [hs, if_pos (by omega)]
      exact d1.trans d2.symm
    · skip
      have d1 : u (13 + 12 + m) 2 = v (13 + 12 + m) 2 := by rw [hu, if_neg (by omega)]
      have d2 : z (28 + m) = s (28 + m) := by rw [hs, if_neg (by omega)]
      exact d1.trans ((hR _ _ _ (lk_k_ hm (by omega))).trans d2.symm)
  · have d1 : u (13 + 16 + 15 * c) 0 = v (13 + 16 + 15 * c) 0 := by rw [hu, if_neg (by omega)]
    have d2 : z (34 + 7 * c) = s (34 + 7 * c) := by rw [hs, if_neg (by omega)]
    exact d1.trans ((hR _ _ _ (lk_c0 hc (by omega))).trans d2.symm)
  · have d1 : u (13 + 16 + 15 * c) 2 = v (13 + 16 + 15 * c) 2 := by rw [hu, if_neg (by omega)]
    have d2 : z (36 + 7 * c) = s (36 + 7 * c) := by rw [hs, if_neg (by omega)]
    exact d1.trans ((hR _ _ _ (lk_c2 hc (by omega))).trans d2.symm)
  · have d1 : u (13 + 16 + 15 * c) 3 = v (13 + 16 + 15 * c) 3 := by rw [hu, if_neg (by omega)]
    have d2 : z (37 + 7 * c) = s (37 + 7 * c) := by rw [hs, if_neg (by omega)]
    exact d1.trans ((hR _ _ _ (lk_c3 hc (by omega))).trans d2.symm)
  · have d1 : u (13 + 16 + 15 * c) 5 = v (13 + 16 + 15 * c) 5 := by rw [hu, if_neg (by omega)]
    have d2 : z (38 + 7 * c) = s (38 + 7 * c) := by rw [hs, if_neg (by omega)]
    exact d1.trans ((hR _ _ _ (lk_c5 hc (by omega))).trans d2.symm)
  · have d1 : u (13 + 17 + 15 * c) j = v (13 + 17 + 15 * c) j := by rw [hu, if_neg (by omega)]
    have d2 : z (32 + 7 * c + j) = s (32 + 7 * c + j) := by rw [hs, if_neg (by omega)]
    exact d1.trans ((hR _ _ _ (lk_q hc (by omega) hj)).trans d2.symm)
  · have a36 := A36 c hc
    have d1 : u (13 + 20 + 15 * c + i) j = v (13 + 20 + 15 * c + i) j := by rw [hu, if_neg (by omega)]
    have d2 : z (86 + 10 * c + 2 * j + i) = s (86 + 10 * c + 2 * j + i) := by rw [hs, if_neg (by omega)]
    exact d1.trans ((hR _ _ _ (lk_o hc (by omega) hi hj (by omega))).trans d2.symm)
  · have d1 : u (13 + 23 + 15 * c + i) j = v (13 + 23 + 15 * c + i) j := by rw [hu, if_neg (by omega)]
    have d2 : z (308 + 48 * c + 24 * i + j) = s (308 + 48 * c + 24 * i + j) := by rw [hs, if_neg (by omega)]
    exact d1.trans ((hR _ _ _ (lk_l hc (by omega) hi hj)).trans d2.symm)
  · have a38 := A38 c hc
    have d1 : u (13 + 26 + 15 * c + t) j = v (13 + 26 + 15 * c + t) j := by rw [hu, if_neg (by omega)]
    have d2 : z (158 + 25 * c + 5 * t + j) = s (158 + 25 * c + 5 * t + j) := by rw [hs, if_neg (by omega)]
    exact d1.trans ((hR _ _ _ (lk_t hc (by omega) ht (by omega) hj)).trans d2.symm)

set_option maxHeartbeats 4000000 in
theorem RL_strike {v u : Nat → Nat → Int32} {s z : Nat → Int32} {X : Nat} {x : Int32} (hX : X < 6) (hx : x.toInt = (s (38 + 7 * X)).toInt - 1) (hu : ∀ k j : Nat, u k j = if k = 29 + 15 * X ∧ j = 5 then x else v k j) (hs : ∀ n : Nat, z n = if n = 38 + 7 * X then x else s n) (hR : RLk 13 v s) : RLk 13 u z := by
  have A0 : (z 0).toInt = (s 0).toInt := by rw [hs, if_neg (by omega)]
  have A1 : (z 1).toInt = (s 1).toInt := by rw [hs, if_neg (by omega)]
  have A2 : (z 2).toInt = (s 2).toInt := by rw [hs, if_neg (by omega)]
  have A36 : ∀ c : Nat, c < 6 → (z (36 + 7 * c)).toInt = (s (36 + 7 * c)).toInt := fun c hc => by rw [hs, if_neg (by omega)]
  have A38 : ∀ c : Nat, c < 6 → (z (38 + 7 * c)).toInt = (s (38 + 7 * c)).toInt ∨ (c = X ∧ (z (38 + 7 * c)).toInt = (s (38 + 7 * c)).toInt - 1) := fun c hc => by by_cases q : c = X; subst q; refine Or.inr ⟨rfl, ?_⟩; rw [hs, if_pos rfl]; exact hx; refine Or.inl ?_; rw [hs, if_neg (by omega)]
  intro k j n h
  unfold lk at h
  rcases h with ⟨rfl, hj, rfl⟩ | ⟨p, hp, ha, hj, rfl, rfl⟩ | ⟨m, hm, ha, hj, rfl, rfl⟩ | ⟨m, hm, ha, rfl, rfl, rfl⟩ | ⟨c, hc, ha, rfl, rfl, rfl⟩ | ⟨c, hc, ha, rfl, rfl, rfl⟩ | ⟨c, hc, ha, rfl, rfl, rfl⟩ | ⟨c, hc, ha, rfl, rfl, rfl⟩ | ⟨c, hc, ha, hj, rfl, rfl⟩ | ⟨c, i, hc, ha, hi, hj, hr, rfl, rfl⟩ | ⟨c, i, hc, ha, hi, hj, rfl, rfl⟩ | ⟨c, t, hc, ha, ht, hr, hj, rfl, rfl⟩
  · have d1 : u (13) n = v (13) n := by rw [hu, if_neg (by omega)]
    have d2 : z (n) = s (n) := by rw [hs, if_neg (by omega)]
    exact d1.trans ((hR _ _ _ (lk_a hj)).trans d2.symm)
  · have d1 : u (13 + 4 + p) j = v (13 + 4 + p) j := by rw [hu, if_neg (by omega)]
    have d2 : z (4 + 2 * p + j) = s (4 + 2 * p + j) := by rw [hs, if_neg (by omega)]
    exact d1.trans ((hR _ _ _ (lk_p hp (by omega) hj)).trans d2.symm)
  · have d1 : u (13 + 12 + m) j = v (13 + 12 + m) j := by rw [hu, if_neg (by omega)]
    have d2 : z (20 + 2 * m + j) = s (20 + 2 * m + j) := by rw [hs, if_neg (by omega)]
    exact d1.trans ((hR _ _ _ (lk_m hm (by omega) hj)).trans d2.symm)
  · have d1 : u (13 + 12 + m) 2 = v (13 + 12 + m) 2 := by rw [hu, if_neg (by omega)]
    have d2 : z (28 + m) = s (28 + m) := by rw [hs, if_neg (by omega)]
    exact d1.trans ((hR _ _ _ (lk_k_ hm (by omega))).trans d2.symm)
  · have d1 : u (13 + 16 + 15 * c) 0 = v (13 + 16 + 15 * c) 0 := by rw [hu, if_neg (by omega)]
    have d2 : z (34 + 7 * c) = s (34 + 7 * c) := by rw [hs, if_neg (by omega)]
    exact d1.trans ((hR _ _ _ (lk_c0 hc (by omega))).trans d2.symm)
  · have d1 : u (13 + 16 + 15 * c) 2 = v (13 + 16 + 15 * c) 2 := by rw [hu, if_neg (by omega)]
    have d2 : z (36 + 7 * c) = s (36 + 7 * c) := by rw [hs, if_neg (by omega)]
    exact d1.trans ((hR _ _ _ (lk_c2 hc (by omega))).trans d2.symm)
  · have d1 : u (13 + 16 + 15 * c) 3 = v (13 + 16 + 15 * c) 3 := by rw [hu, if_neg (by omega)]
    have d2 : z (37 + 7 * c) = s (37 + 7 * c) := by rw [hs, if_neg (by omega)]
    exact d1.trans ((hR _ _ _ (lk_c3 hc (by omega))).trans d2.symm)
  · by_cases e0 : 13 + 16 + 15 * c = 29 + 15 * X ∧ 5 = 5
    · have d1 : u (13 + 16 + 15 * c) 5 = x := by rw [hu, if_pos (by omega)]
      have d2 : z (38 + 7 * c) = x := by rw [hs, if_pos (by omega)]
      exact d1.trans d2.symm
    · skip
      have d1 : u (13 + 16 + 15 * c) 5 = v (13 + 16 + 15 * c) 5 := by rw [hu, if_neg (by omega)]
      have d2 : z (38 + 7 * c) = s (38 + 7 * c) := by rw [hs, if_neg (by omega)]
      exact d1.trans ((hR _ _ _ (lk_c5 hc (by omega))).trans d2.symm)
  · have d1 : u (13 + 17 + 15 * c) j = v (13 + 17 + 15 * c) j := by rw [hu, if_neg (by omega)]
    have d2 : z (32 + 7 * c + j) = s (32 + 7 * c + j) := by rw [hs, if_neg (by omega)]
    exact d1.trans ((hR _ _ _ (lk_q hc (by omega) hj)).trans d2.symm)
  · have a36 := A36 c hc
    have d1 : u (13 + 20 + 15 * c + i) j = v (13 + 20 + 15 * c + i) j := by rw [hu, if_neg (by omega)]
    have d2 : z (86 + 10 * c + 2 * j + i) = s (86 + 10 * c + 2 * j + i) := by rw [hs, if_neg (by omega)]
    exact d1.trans ((hR _ _ _ (lk_o hc (by omega) hi hj (by omega))).trans d2.symm)
  · have d1 : u (13 + 23 + 15 * c + i) j = v (13 + 23 + 15 * c + i) j := by rw [hu, if_neg (by omega)]
    have d2 : z (308 + 48 * c + 24 * i + j) = s (308 + 48 * c + 24 * i + j) := by rw [hs, if_neg (by omega)]
    exact d1.trans ((hR _ _ _ (lk_l hc (by omega) hi hj)).trans d2.symm)
  · have a38 := A38 c hc
    have d1 : u (13 + 26 + 15 * c + t) j = v (13 + 26 + 15 * c + t) j := by rw [hu, if_neg (by omega)]
    have d2 : z (158 + 25 * c + 5 * t + j) = s (158 + 25 * c + 5 * t + j) := by rw [hs, if_neg (by omega)]
    exact d1.trans ((hR _ _ _ (lk_t hc (by omega) ht (by omega) hj)).trans d2.symm)

set_option maxHeartbeats 4000000 in
theorem RL_term {v u : Nat → Nat → Int32} {s z : Nat → Int32} {X T : Nat} {x a b c0 d e : Int32} (hX : X < 6) (hT : T < 5) (hn : (s (38 + 7 * X)).toInt = (T : Int)) (hx : x.toInt = (s (38 + 7 * X)).toInt + 1) (hu : ∀ k j : Nat, u k j = if k = 29 + 15 * X ∧ j = 5 then x else if k = 39 + 15 * X + T ∧ j = 4 then e else if k = 39 + 15 * X + T ∧ j = 3 then d else if k = 39 + 15 * X + T ∧ j = 2 then c0 else if k = 39 + 15 * X + T ∧ j = 1 then b else if k = 39 + 15 * X + T ∧ j = 0 then a else v k j) (hs : ∀ n : Nat, z n = if n = 38 + 7 * X then x else if n = 162 + 25 * X + 5 * T then e else if n = 161 + 25 * X + 5 * T then d else if n = 160 + 25 * X + 5 * T then c0 else if n = 159 + 25 * X + 5 * T then b else if n = 158 + 25 * X + 5 * T then a else s n) (hR : RLk 13 v s) : RLk 13 u z := by
  have A0 : (z 0).toInt = (s 0).toInt := by rw [hs, if_neg (by omega), if_neg (by omega), if_neg (by omega), if_neg (by omega), if_neg (by omega), if_neg (by omega)]
  have A1 : (z 1).toInt = (s 1).toInt := by rw [hs, if_neg (by omega), if_neg (by omega), if_neg (by omega), if_neg (by omega), if_neg (by omega), if_neg (by omega)]
  have A2 : (z 2).toInt = (s 2).toInt := by rw [hs, if_neg (by omega), if_neg (by omega), if_neg (by omega), if_neg (by omega), if_neg (by omega), if_neg (by omega)]
  have A36 : ∀ c : Nat, c < 6 → (z (36 + 7 * c)).toInt = (s (36 + 7 * c)).toInt := fun c hc => by rw [hs, if_neg (by omega), if_neg (by omega), if_neg (by omega), if_neg (by omega), if_neg (by omega), if_neg (by omega)]
  have A38 : ∀ c : Nat, c < 6 → (z (38 + 7 * c)).toInt = (s (38 + 7 * c)).toInt ∨ (c = X ∧ (z (38 + 7 * c)).toInt = (s (38 + 7 * c)).toInt + 1) := fun c hc => by by_cases q : c = X; subst q; refine Or.inr ⟨rfl, ?_⟩; rw [hs, if_pos rfl]; exact hx; refine Or.inl ?_; rw [hs, if_neg (by omega), if_neg (by omega), if_neg (by omega), if_neg (by omega), if_neg (by omega), if_neg (by omega)]
  intro k j n h
  unfold lk at h
  rcases h with ⟨rfl, hj, rfl⟩ | ⟨p, hp, ha, hj, rfl, rfl⟩ | ⟨m, hm, ha, hj, rfl, rfl⟩ | ⟨m, hm, ha, rfl, rfl, rfl⟩ | ⟨c, hc, ha, rfl, rfl, rfl⟩ | ⟨c, hc, ha, rfl, rfl, rfl⟩ | ⟨c, hc, ha, rfl, rfl, rfl⟩ | ⟨c, hc, ha, rfl, rfl, rfl⟩ | ⟨c, hc, ha, hj, rfl, rfl⟩ | ⟨c, i, hc, ha, hi, hj, hr, rfl, rfl⟩ | ⟨c, i, hc, ha, hi, hj, rfl, rfl⟩ | ⟨c, t, hc, ha, ht, hr, hj, rfl, rfl⟩
  · have d1 : u (13) n = v (13) n := by rw [hu, if_neg (by omega), if_neg (by omega), if_neg (by omega), if_neg (by omega), if_neg (by omega), if_neg (by omega)]
    have d2 : z (n) = s (n) := by rw [hs, if_neg (by omega), if_neg (by omega), if_neg (by omega), if_neg (by omega), if_neg (by omega), if_neg (by omega)]
    exact d1.trans ((hR _ _ _ (lk_a hj)).trans d2.symm)
  · have d1 : u (13 + 4 + p) j = v (13 + 4 + p) j := by rw [hu, if_neg (by omega), if_neg (by omega), if_neg (by omega), if_neg (by omega), if_neg (by omega), if_neg (by omega)]
    have d2 : z (4 + 2 * p + j) = s (4 + 2 * p + j) := by rw [hs, if_neg (by omega), if_neg (by omega), if_neg (by omega), if_neg (by omega), if_neg (by omega), if_neg (by omega)]
    exact d1.trans ((hR _ _ _ (lk_p hp (by omega) hj)).trans d2.symm)
  · have d1 : u (13 + 12 + m) j = v (13 + 12 + m) j := by rw [hu, if_neg (by omega), if_neg (by omega), if_neg (by omega), if_neg (by omega), if_neg (by omega), if_neg (by omega)]
    have d2 : z (20 + 2 * m + j) = s (20 + 2 * m + j) := by rw [hs, if_neg (by omega), if_neg (by omega), if_neg (by omega), if_neg (by omega), if_neg (by omega), if_neg (by omega)]
    exact d1.trans ((hR _ _ _ (lk_m hm (by omega) hj)).trans d2.symm)
  · have d1 : u (13 + 12 + m) 2 = v (13 + 12 + m) 2 := by rw [hu, if_neg (by omega), if_neg (by omega), if_neg (by omega), if_neg (by omega), if_neg (by omega), if_neg (by omega)]
    have d2 : z (28 + m) = s (28 + m) := by rw [hs, if_neg (by omega), if_neg (by omega), if_neg (by omega), if_neg (by omega), if_neg (by omega), if_neg (by omega)]
    exact d1.trans ((hR _ _ _ (lk_k_ hm (by omega))).trans d2.symm)
  · have d1 : u (13 + 16 + 15 * c) 0 = v (13 + 16 + 15 * c) 0 := by rw [hu, if_neg (by omega), if_neg (by omega), if_neg (by omega), if_neg (by omega), if_neg (by omega), if_neg (by omega)]
    have d2 : z (34 + 7 * c) = s (34 + 7 * c) := by rw [hs, if_neg (by omega), if_neg (by omega), if_neg (by omega), if_neg (by omega), if_neg (by omega), if_neg (by omega)]
    exact d1.trans ((hR _ _ _ (lk_c0 hc (by omega))).trans d2.symm)
  · have d1 : u (13 + 16 + 15 * c) 2 = v (13 + 16 + 15 * c) 2 := by rw [hu, if_neg (by omega), if_neg (by omega), if_neg (by omega), if_neg (by omega), if_neg (by omega), if_neg (by omega)]
    have d2 : z (36 + 7 * c) = s (36 + 7 * c) := by rw [hs, if_neg (by omega), if_neg (by omega), if_neg (by omega), if_neg (by omega), if_neg (by omega), if_neg (by omega)]
    exact d1.trans ((hR _ _ _ (lk_c2 hc (by omega))).trans d2.symm)
  · have d1 : u (13 + 16 + 15 * c) 3 = v (13 + 16 + 15 * c) 3 := by rw [hu, if_neg (by omega), if_neg (by omega), if_neg (by omega), if_neg (by omega), if_neg (by omega), if_neg (by omega)]
    have d2 : z (37 + 7 * c) = s (37 + 7 * c) := by rw [hs, if_neg (by omega), if_neg (by omega), if_neg (by omega), if_neg (by omega), if_neg (by omega), if_neg (by omega)]
    exact d1.trans ((hR _ _ _ (lk_c3 hc (by omega))).trans d2.symm)
  · by_cases e0 : 13 + 16 + 15 * c = 29 + 15 * X ∧ 5 = 5
    · have d1 : u (13 + 16 + 15 * c) 5 = x := by rw [hu, if_pos (by omega)]
      have d2 : z (38 + 7 * c) = x := by rw [hs, if_pos (by omega)]
      exact d1.trans d2.symm
    · skip
      have d1 : u (13 + 16 + 15 * c) 5 = v (13 + 16 + 15 * c) 5 := by rw [hu, if_neg (by omega), if_neg (by omega), if_neg (by omega), if_neg (by omega), if_neg (by omega), if_neg (by omega)]
      have d2 : z (38 + 7 * c) = s (38 + 7 * c) := by rw [hs, if_neg (by omega), if_neg (by omega), if_neg (by omega), if_neg (by omega), if_neg (by omega), if_neg (by omega)]
      exact d1.trans ((hR _ _ _ (lk_c5 hc (by omega))).trans d2.symm)
  · have d1 : u (13 + 17 + 15 * c) j = v (13 + 17 + 15 * c) j := by rw [hu, if_neg (by omega), if_neg (by omega), if_neg (by omega), if_neg (by omega), if_neg (by omega), if_neg (by omega)]
    have d2 : z (32 + 7 * c + j) = s (32 + 7 * c + j) := by rw [hs, if_neg (by omega), if_neg (by omega), if_neg (by omega), if_neg (by omega), if_neg (by omega), if_neg (by omega)]
    exact d1.trans ((hR _ _ _ (lk_q hc (by omega) hj)).trans d2.symm)
  · have a36 := A36 c hc
    have d1 : u (13 + 20 + 15 * c + i) j = v (13 + 20 + 15 * c + i) j := by rw [hu, if_neg (by omega), if_neg (by omega), if_neg (by omega), if_neg (by omega), if_neg (by omega), if_neg (by omega)]
    have d2 : z (86 + 10 * c + 2 * j + i) = s (86 + 10 * c + 2 * j + i) := by rw [hs, if_neg (by omega), if_neg (by omega), if_neg (by omega), if_neg (by omega), if_neg (by omega), if_neg (by omega)]
    exact d1.trans ((hR _ _ _ (lk_o hc (by omega) hi hj (by omega))).trans d2.symm)
  · have d1 : u (13 + 23 + 15 * c + i) j = v (13 + 23 + 15 * c + i) j := by rw [hu, if_neg (by omega), if_neg (by omega), if_neg (by omega), if_neg (by omega), if_neg (by omega), if_neg (by omega)]
    have d2 : z (308 + 48 * c + 24 * i + j) = s (308 + 48 * c + 24 * i + j) := by rw [hs, if_neg (by omega), if_neg (by omega), if_neg (by omega), if_neg (by omega), if_neg (by omega), if_neg (by omega)]
    exact d1.trans ((hR _ _ _ (lk_l hc (by omega) hi hj)).trans d2.symm)
  · have a38 := A38 c hc
    have hnc : c = X → (s (38 + 7 * c)).toInt = (T : Int) := fun q => by rw [q]; exact hn
    by_cases e0 : 13 + 26 + 15 * c + t = 39 + 15 * X + T ∧ j = 4
    · have d1 : u (13 + 26 + 15 * c + t) j = e := by rw [hu, if_neg (by omega), if_pos (by omega)]
      have d2 : z (158 + 25 * c + 5 * t + j) = e := by rw [hs, if_neg (by omega), if_pos (by omega)]
      exact d1.trans d2.symm
    · skip
      by_cases e1 : 13 + 26 + 15 * c + t = 39 + 15 * X + T ∧ j = 3
      · have d1 : u (13 + 26 + 15 * c + t) j = d := by rw [hu, if_neg (by omega), if_neg (by omega), if_pos (by omega)]
        have d2 : z (158 + 25 * c + 5 * t + j) = d := by rw [hs, if_neg (by omega), if_neg (by omega), if_pos (by omega)]
        exact d1.trans d2.symm
      · skip
        by_cases e2 : 13 + 26 + 15 * c + t = 39 + 15 * X + T ∧ j = 2
        · have d1 : u (13 + 26 + 15 * c + t) j = c0 := by rw [hu, if_neg (by omega), if_neg (by omega), if_neg (by omega), if_pos (by omega)]
          have d2 : z (158 + 25 * c + 5 * t + j) = c0 := by rw [hs, if_neg (by omega), if_neg (by omega), if_neg (by omega), if_pos (by omega)]
          exact d1.trans d2.symm
        · skip
          by_cases e3 : 13 + 26 + 15 * c + t = 39 + 15 * X + T ∧ j = 1
          · have d1 : u (13 + 26 + 15 * c + t) j = b := by rw [hu, if_neg (by omega), if_neg (by omega), if_neg (by omega), if_neg (by omega), if_pos (by omega)]
            have d2 : z (158 + 25 * c + 5 * t + j) = b := by rw [hs, if_neg (by omega), if_neg (by omega), if_neg (by omega), if_neg (by omega), if_pos (by omega)]
            exact d1.trans d2.symm
          · skip
            by_cases e4 : 13 + 26 + 15 * c + t = 39 + 15 * X + T ∧ j = 0
            · have d1 : u (13 + 26 + 15 * c + t) j = a := by rw [hu, if_neg (by omega), if_neg (by omega), if_neg (by omega), if_neg (by omega), if_neg (by omega), if_pos (by omega)]
              have d2 : z (158 + 25 * c + 5 * t + j) = a := by rw [hs, if_neg (by omega), if_neg (by omega), if_neg (by omega), if_neg (by omega), if_neg (by omega), if_pos (by omega)]
              exact d1.trans d2.symm
            · skip
              have d1 : u (13 + 26 + 15 * c + t) j = v (13 + 26 + 15 * c + t) j := by rw [hu, if_neg (by omega), if_neg (by omega), if_neg (by omega), if_neg (by omega), if_neg (by omega), if_neg (by omega)]
              have d2 : z (158 + 25 * c + 5 * t + j) = s (158 + 25 * c + 5 * t + j) := by rw [hs, if_neg (by omega), if_neg (by omega), if_neg (by omega), if_neg (by omega), if_neg (by omega), if_neg (by omega)]
              exact d1.trans ((hR _ _ _ (lk_t hc (by omega) ht (by omega) hj)).trans d2.symm)

set_option maxHeartbeats 4000000 in
theorem RL_mediator {v u : Nat → Nat → Int32} {s z : Nat → Int32} {M : Nat} {x a b d : Int32} (hM : M < 4) (hn : (s 1).toInt = (M : Int)) (hx : x.toInt = (s 1).toInt + 1) (hu : ∀ k j : Nat, u k j = if k = 13 ∧ j = 1 then x else if k = 25 + M ∧ j = 2 then d else if k = 25 + M ∧ j = 1 then b else if k = 25 + M ∧ j = 0 then a else v k j) (hs : ∀ n : Nat, z n = if n = 1 then x else if n = 28 + M then d else if n = 21 + 2 * M then b else if n = 20 + 2 * M then a else s n) (hR : RLk 13 v s) : RLk 13 u z := by
  have A0 : (z 0).toInt = (s 0).toInt := by rw [hs, if_neg (by omega), if_neg (by omega), if_neg (by omega), if_neg (by omega)]
  have A1 : (z 1).toInt = (s 1).toInt + 1 := by rw [hs, if_pos rfl]; exact hx
  have A2 : (z 2).toInt = (s 2).toInt := by rw [hs, if_neg (by omega), if_neg (by omega), if_neg (by omega), if_neg (by omega)]
  have A36 : ∀ c : Nat, c < 6 → (z (36 + 7 * c)).toInt = (s (36 + 7 * c)).toInt := fun c hc => by rw [hs, if_neg (by omega), if_neg (by omega), if_neg (by omega), if_neg (by omega)]
  have A38 : ∀ c : Nat, c < 6 → (z (38 + 7 * c)).toInt = (s (38 + 7 * c)).toInt := fun c hc => by rw [hs, if_neg (by omega), if_neg (by omega), if_neg (by omega), if_neg (by omega)]
  intro k j n h
  unfold lk at h
  rcases h with ⟨rfl, hj, rfl⟩ | ⟨p, hp, ha, hj, rfl, rfl⟩ | ⟨m, hm, ha, hj, rfl, rfl⟩ | ⟨m, hm, ha, rfl, rfl, rfl⟩ | ⟨c, hc, ha, rfl, rfl, rfl⟩ | ⟨c, hc, ha, rfl, rfl, rfl⟩ | ⟨c, hc, ha, rfl, rfl, rfl⟩ | ⟨c, hc, ha, rfl, rfl, rfl⟩ | ⟨c, hc, ha, hj, rfl, rfl⟩ | ⟨c, i, hc, ha, hi, hj, hr, rfl, rfl⟩ | ⟨c, i, hc, ha, hi, hj, rfl, rfl⟩ | ⟨c, t, hc, ha, ht, hr, hj, rfl, rfl⟩
  · by_cases e0 : 13 = 13 ∧ n = 1
    · have d1 : u (13) n = x := by rw [hu, if_pos (by omega)]
      have d2 : z (n) = x := by rw [hs, if_pos (by omega)]
      exact d1.trans d2.symm
    · skip
      have d1 : u (13) n = v (13) n := by rw [hu, if_neg (by omega), if_neg (by omega), if_neg (by omega), if_neg (by omega)]
      have d2 : z (n) = s (n) := by rw [hs, if_neg (by omega), if_neg (by omega), if_neg (by omega), if_neg (by omega)]
      exact d1.trans ((hR _ _ _ (lk_a hj)).trans d2.symm)
  · have d1 : u (13 + 4 + p) j = v (13 + 4 + p) j := by rw [hu, if_neg (by omega), if_neg (by omega), if_neg (by omega), if_neg (by omega)]
    have d2 : z (4 + 2 * p + j) = s (4 + 2 * p + j) := by rw [hs, if_neg (by omega), if_neg (by omega), if_neg (by omega), if_neg (by omega)]
    exact d1.trans ((hR _ _ _ (lk_p hp (by omega) hj)).trans d2.symm)
  · by_cases e0 : 13 + 12 + m = 25 + M ∧ j = 1
    · have d1 : u (13 + 12 + m) j = b := by rw [hu, if_neg (by omega), if_neg (by omega), if_pos (by omega)]
      have d2 : z (20 + 2 * m + j) = b := by rw [hs, if_neg (by omega), if_neg (by omega), if_pos (by omega)]
      exact d1.trans d2.symm
    · skip
      by_cases e1 : 13 + 12 + m = 25 + M ∧ j = 0
      · have d1 : u (13 + 12 + m) j = a := by rw [hu, if_neg (by omega), if_neg (by omega), if_neg (by omega), if_pos (by omega)]
        have d2 : z (20 + 2 * m + j) = a := by rw [hs, if_neg (by omega), if_neg (by omega), if_neg (by omega), if_pos (by omega)]
        exact d1.trans d2.symm
      · skip
        have d1 : u (13 + 12 + m) j = v (13 + 12 + m) j := by rw [hu, if_neg (by omega), if_neg (by omega), if_neg (by omega), if_neg (by omega)]
        have d2 : z (20 + 2 * m + j) = s (20 + 2 * m + j) := by rw [hs, if_neg (by omega), if_neg (by omega), if_neg (by omega), if_neg (by omega)]
        exact d1.trans ((hR _ _ _ (lk_m hm (by omega) hj)).trans d2.symm)
  · by_cases e0 : 13 + 12 + m = 25 + M ∧ 2 = 2
    · have d1 : u (13 + 12 + m) 2 = d := by rw [hu, if_neg (by omega), if_pos (by omega)]
      have d2 : z (28 + m) = d := by rw [hs, if_neg (by omega), if_pos (by omega)]
      exact d1.trans d2.symm
    · skip
      have d1 : u (13 + 12 + m) 2 = v (13 + 12 + m) 2 := by rw [hu, if_neg (by omega), if_neg (by omega), if_neg (by omega), if_neg (by omega)]
      have d2 : z (28 + m) = s (28 + m) := by rw [hs, if_neg (by omega), if_neg (by omega), if_neg (by omega), if_neg (by omega)]
      exact d1.trans ((hR _ _ _ (lk_k_ hm (by omega))).trans d2.symm)
  · have d1 : u (13 + 16 + 15 * c) 0 = v (13 + 16 + 15 * c) 0 := by rw [hu, if_neg (by omega), if_neg (by omega), if_neg (by omega), if_neg (by omega)]
    have d2 : z (34 + 7 * c) = s (34 + 7 * c) := by rw [hs, if_neg (by omega), if_neg (by omega), if_neg (by omega), if_neg (by omega)]
    exact d1.trans ((hR _ _ _ (lk_c0 hc (by omega))).trans d2.symm)
  · have d1 : u (13 + 16 + 15 * c) 2 = v (13 + 16 + 15 * c) 2 := by rw [hu, if_neg (by omega), if_neg (by omega), if_neg (by omega), if_neg (by omega)]
    have d2 : z (36 + 7 * c) = s (36 + 7 * c) := by rw [hs, if_neg (by omega), if_neg (by omega), if_neg (by omega), if_neg (by omega)]
    exact d1.trans ((hR _ _ _ (lk_c2 hc (by omega))).trans d2.symm)
  · have d1 : u (13 + 16 + 15 * c) 3 = v (13 + 16 + 15 * c) 3 := by rw [hu, if_neg (by omega), if_neg (by omega), if_neg (by omega), if_neg (by omega)]
    have d2 : z (37 + 7 * c) = s (37 + 7 * c) := by rw [hs, if_neg (by omega), if_neg (by omega), if_neg (by omega), if_neg (by omega)]
    exact d1.trans ((hR _ _ _ (lk_c3 hc (by omega))).trans d2.symm)
  · have d1 : u (13 + 16 + 15 * c) 5 = v (13 + 16 + 15 * c) 5 := by rw [hu, if_neg (by omega), if_neg (by omega), if_neg (by omega), if_neg (by omega)]
    have d2 : z (38 + 7 * c) = s (38 + 7 * c) := by rw [hs, if_neg (by omega), if_neg (by omega), if_neg (by omega), if_neg (by omega)]
    exact d1.trans ((hR _ _ _ (lk_c5 hc (by omega))).trans d2.symm)
  · have d1 : u (13 + 17 + 15 * c) j = v (13 + 17 + 15 * c) j := by rw [hu, if_neg (by omega), if_neg (by omega), if_neg (by omega), if_neg (by omega)]
    have d2 : z (32 + 7 * c + j) = s (32 + 7 * c + j) := by rw [hs, if_neg (by omega), if_neg (by omega), if_neg (by omega), if_neg (by omega)]
    exact d1.trans ((hR _ _ _ (lk_q hc (by omega) hj)).trans d2.symm)
  · have a36 := A36 c hc
    have d1 : u (13 + 20 + 15 * c + i) j = v (13 + 20 + 15 * c + i) j := by rw [hu, if_neg (by omega), if_neg (by omega), if_neg (by omega), if_neg (by omega)]
    have d2 : z (86 + 10 * c + 2 * j + i) = s (86 + 10 * c + 2 * j + i) := by rw [hs, if_neg (by omega), if_neg (by omega), if_neg (by omega), if_neg (by omega)]
    exact d1.trans ((hR _ _ _ (lk_o hc (by omega) hi hj (by omega))).trans d2.symm)
  · have d1 : u (13 + 23 + 15 * c + i) j = v (13 + 23 + 15 * c + i) j := by rw [hu, if_neg (by omega), if_neg (by omega), if_neg (by omega), if_neg (by omega)]
    have d2 : z (308 + 48 * c + 24 * i + j) = s (308 + 48 * c + 24 * i + j) := by rw [hs, if_neg (by omega), if_neg (by omega), if_neg (by omega), if_neg (by omega)]
    exact d1.trans ((hR _ _ _ (lk_l hc (by omega) hi hj)).trans d2.symm)
  · have a38 := A38 c hc
    have d1 : u (13 + 26 + 15 * c + t) j = v (13 + 26 + 15 * c + t) j := by rw [hu, if_neg (by omega), if_neg (by omega), if_neg (by omega), if_neg (by omega)]
    have d2 : z (158 + 25 * c + 5 * t + j) = s (158 + 25 * c + 5 * t + j) := by rw [hs, if_neg (by omega), if_neg (by omega), if_neg (by omega), if_neg (by omega)]
    exact d1.trans ((hR _ _ _ (lk_t hc (by omega) ht (by omega) hj)).trans d2.symm)
