
set_option maxHeartbeats 4000000 in
theorem RL_box0 {v u : Nat → Nat → Int32} {s z : Nat → Int32} {X : Nat} {x : Int32} (hX : X < 6) (hu : ∀ k j : Nat, u k j = if k = 31 + 15 * X ∧ j = 0 then x else v k j) (hs : ∀ n : Nat, z n = if n = 74 + 2 * X then x else s n) (hR : RLk 13 v s) : RLk 13 u z := by
  have A0 : (z 0).toInt = (s 0).toInt := by rw [hs, if_neg (by omega)]
  have A1 : (z 1).toInt = (s 1).toInt := by rw [hs, if_neg (by omega)]
  have A2 : (z 2).toInt = (s 2).toInt := by rw [hs, if_neg (by omega)]
  have A36 : ∀ c : Nat, c < 6 → (z (36 + 7 * c)).toInt = (s (36 + 7 * c)).toInt := fun c hc => by rw [hs, if_neg (by omega)]
  have A38 : ∀ c : Nat, c < 6 → (z (38 + 7 * c)).toInt = (s (38 + 7 * c)).toInt := fun c hc => by rw [hs, if_neg (by omega)]
  intro k j n h
  unfold lk at h
  rcases h with ⟨rfl, hj, rfl⟩ | ⟨p, hp, ha, hj, rfl, rfl⟩ | ⟨m, hm, ha, hj, rfl, rfl⟩ | ⟨m, hm, ha, rfl, rfl, rfl⟩ | ⟨c, hc, ha, rfl, rfl, rfl⟩ | ⟨c, hc, ha, rfl, rfl, rfl⟩ | ⟨c, hc, ha, rfl, rfl, rfl⟩ | ⟨c, hc, ha, rfl, rfl, rfl⟩ | ⟨c, hc, ha, hj, rfl, rfl⟩ | ⟨c, i, hc, ha, hi, hj, hr, rfl, rfl⟩ | ⟨c, i, hc, ha, hi, hj, rfl, rfl⟩ | ⟨c, t, hc, ha, ht, hr, hj, rfl, rfl⟩
  · have d1 : u (13) n = v (13) n := by rw [hu, if_neg (by omega)]
    have d2 : z (n) = s (n) := by rw [hs, if_neg (by omega)]
    exact d1.trans ((hR _ _ _ (lk_a hj)).trans d2.symm)
  · have d1 : u (13 + 4 + p) j = v (13 + 4 + p) j := by rw [hu, if_neg (by omega)]
    have d2 : z (4 + 2 * p + j) = s (4 + 2 * p + j) := by rw [hs, if_neg (by omega)]
    exact d1.trans ((hR _ _ _ (lk_p hp (by omega) hj)).trans d2.symm)
  · have d1 : u (13 + 12 + m) j = v (13 + 12 + m) j := by rw [hu, if_neg (by omega)]
    have d2 : z (20 + 2 * m + j) = s (20 + 2 * m + j) := by rw [hs, if_neg (by omega)]
    exact d1.trans ((hR _ _ _ (lk_m hm (by omega) hj)).trans d2.symm)
  · have d1 : u (13 + 12 + m) 2 = v (13 + 12 + m) 2 := by rw [hu, if_neg (by omega)]
    have d2 : z (28 + m) = s (28 + m) := by rw [hs, if_neg (by omega)]
    exact d1.trans ((hR _ _ _ (lk_k_ hm (by omega))).trans d2.symm)
  · have d1 : u (13 + 16 + 15 * c) 0 = v (13 + 16 + 15 * c) 0 := by rw [hu, if_neg (by omega)]
    have d2 : z (34 + 7 * c) = s (34 + 7 * c) := by rw [hs, if_neg (by omega)]
    exact d1.trans ((hR _ _ _ (lk_c0 hc (by omega))).trans d2.symm)
  · have d1 : u (13 + 16 + 15 * c) 2 = v (13 + 16 + 15 * c) 2 := by rw [hu, if_neg (by omega)]
    have d2 : z (36 + 7 * c) = s (36 + 7 * c) := by rw [hs, if_neg (by omega)]
    exact d1.trans ((hR _ _ _ (lk_c2 hc (by omega))).trans d2.symm)
  · have d1 : u (13 + 16 + 15 * c) 3 = v (13 + 16 + 15 * c) 3 := by rw [hu, if_neg (by omega)]
    have d2 : z (37 + 7 * c) = s (37 + 7 * c) := by rw [hs, if_neg (by omega)]
    exact d1.trans ((hR _ _ _ (lk_c3 hc (by omega))).trans d2.symm)
  · have d1 : u (13 + 16 + 15 * c) 5 = v (13 + 16 + 15 * c) 5 := by rw [hu, if_neg (by omega)]
    have d2 : z (38 + 7 * c) = s (38 + 7 * c) := by rw [hs, if_neg (by omega)]
    exact d1.trans ((hR _ _ _ (lk_c5 hc (by omega))).trans d2.symm)
  · have d1 : u (13 + 17 + 15 * c) j = v (13 + 17 + 15 * c) j := by rw [hu, if_neg (by omega)]
    have d2 : z (32 + 7 * c + j) = s (32 + 7 * c + j) := by rw [hs, if_neg (by omega)]
    exact d1.trans ((hR _ _ _ (lk_q hc (by omega) hj)).trans d2.symm)
  · have a36 := A36 c hc
    have d1 : u (13 + 20 + 15 * c + i) j = v (13 + 20 + 15 * c + i) j := by rw [hu, if_neg (by omega)]
    have d2 : z (86 + 10 * c + 2 * j + i) = s (86 + 10 * c + 2 * j + i) := by rw [hs, if_neg (by omega)]
    exact d1.trans ((hR _ _ _ (lk_o hc (by omega) hi hj (by omega))).trans d2.symm)
  · have d1 : u (13 + 23 + 15 * c + i) j = v (13 + 23 + 15 * c + i) j := by rw [hu, if_neg (by omega)]
    have d2 : z (308 + 48 * c + 24 * i + j) = s (308 + 48 * c + 24 * i + j) := by rw [hs, if_neg (by omega)]
    exact d1.trans ((hR _ _ _ (lk_l hc (by omega) hi hj)).trans d2.symm)
  · have a38 := A38 c hc
    have d1 : u (13 + 26 + 15 * c + t) j = v (13 + 26 + 15 * c + t) j := by rw [hu, if_neg (by omega)]
    have d2 : z (158 + 25 * c + 5 * t + j) = s (158 + 25 * c + 5 * t + j) := by rw [hs, if_neg (by omega)]
    exact d1.trans ((hR _ _ _ (lk_t hc (by omega) ht (by omega) hj)).trans d2.symm)

set_option maxHeartbeats 4000000 in
theorem RL_no0 {v u : Nat → Nat → Int32} {s z : Nat → Int32} {X R : Nat} {x y g a : Int32} (hX : X < 6) (hR5 : R < 5) (hn : (s (36 + 7 * X)).toInt = (R : Int)) (hx : y.toInt = (s (36 + 7 * X)).toInt + 1) (hu : ∀ k j : Nat, u k j = if k = 31 + 15 * X ∧ j = 1 then -1 else if k = 31 + 15 * X ∧ j = 0 then -1 else if k = 29 + 15 * X ∧ j = 2 then y else if k = 33 + 15 * X + 1 ∧ j = R then g else if k = 33 + 15 * X + 0 ∧ j = R then a else if k = 31 + 15 * X ∧ j = 0 then x else v k j) (hs : ∀ n : Nat, z n = if n = 75 + 2 * X then -5 else if n = 74 + 2 * X then -5 else if n = 36 + 7 * X then y else if n = 87 + 10 * X + 2 * R then g else if n = 86 + 10 * X + 2 * R then a else if n = 74 + 2 * X then x else s n) (hR : RLk 13 v s) : RLk 13 u z := by
  have A0 : (z 0).toInt = (s 0).toInt := by rw [hs, if_neg (by omega), if_neg (by omega), if_neg (by omega), if_neg (by omega), if_neg (by omega), if_neg (by omega)]
  have A1 : (z 1).toInt = (s 1).toInt := by rw [hs, if_neg (by omega), if_neg (by omega), if_neg (by omega), if_neg (by omega), if_neg (by omega), if_neg (by omega)]
  have A2 : (z 2).toInt = (s 2).toInt := by rw [hs, if_neg (by omega), if_neg (by omega), if_neg (by omega), if_neg (by omega), if_neg (by omega), if_neg (by omega)]
  have A36 : ∀ c : Nat, c < 6 → (z (36 + 7 * c)).toInt = (s (36 + 7 * c)).toInt ∨ (c = X ∧ (z (36 + 7 * c)).toInt = (s (36 + 7 * c)).toInt + 1) := fun c hc => by by_cases q : c = X; subst q; refine Or.inr ⟨rfl, ?_⟩; rw [hs, if_neg (by omega), if_neg (by omega), if_pos rfl]; exact hx; refine Or.inl ?_; rw [hs, if_neg (by omega), if_neg (by omega), if_neg (by omega), if_neg (by omega), if_neg (by omega), if_neg (by omega)]
  have A38 : ∀ c : Nat, c < 6 → (z (38 + 7 * c)).toInt = (s (38 + 7 * c)).toInt := fun c hc => by rw [hs, if_neg (by omega), if_neg (by omega), if_neg (by omega), if_neg (by omega), if_neg (by omega), if_neg (by omega)]
  intro k j n h
  unfold lk at h
  rcases h with ⟨rfl, hj, rfl⟩ | ⟨p, hp, ha, hj, rfl, rfl⟩ | ⟨m, hm, ha, hj, rfl, rfl⟩ | ⟨m, hm, ha, rfl, rfl, rfl⟩ | ⟨c, hc, ha, rfl, rfl, rfl⟩ | ⟨c, hc, ha, rfl, rfl, rfl⟩ | ⟨c, hc, ha, rfl, rfl, rfl⟩ | ⟨c, hc, ha, rfl, rfl, rfl⟩ | ⟨c, hc, ha, hj, rfl, rfl⟩ | ⟨c, i, hc, ha, hi, hj, hr, rfl, rfl⟩ | ⟨c, i, hc, ha, hi, hj, rfl, rfl⟩ | ⟨c, t, hc, ha, ht, hr, hj, rfl, rfl⟩
  · have d1 : u (13) n = v (13) n := by rw [hu, if_neg (by omega), if_neg (by omega), if_neg (by omega), if_neg (by omega), if_neg (by omega), if_neg (by omega)]
    have d2 : z (n) = s (n) := by rw [hs, if_neg (by omega), if_neg (by omega), if_neg (by omega), if_neg (by omega), if_neg (by omega), if_neg (by omega)]
    exact d1.trans ((hR _ _ _ (lk_a hj)).trans d2.symm)
  · have d1 : u (13 + 4 + p) j = v (13 + 4 + p) j := by rw [hu, if_neg (by omega), if_neg (by omega), if_neg (by omega), if_neg (by omega), if_neg (by omega), if_neg (by omega)]
    have d2 : z (4 + 2 * p + j) = s (4 + 2 * p + j) := by rw [hs, if_neg (by omega), if_neg (by omega), if_neg (by omega), if_neg (by omega), if_neg (by omega), if_neg (by omega)]
    exact d1.trans ((hR _ _ _ (lk_p hp (by omega) hj)).trans d2.symm)
  · have d1 : u (13 + 12 + m) j = v (13 + 12 + m) j := by rw [hu, if_neg (by omega), if_neg (by omega), if_neg (by omega), if_neg (by omega), if_neg (by omega), if_neg (by omega)]
    have d2 : z (20 + 2 * m + j) = s (20 + 2 * m + j) := by rw [hs, if_neg (by omega), if_neg (by omega), if_neg (by omega), if_neg (by omega), if_neg (by omega), if_neg (by omega)]
    exact d1.trans ((hR _ _ _ (lk_m hm (by omega) hj)).trans d2.symm)
  · have d1 : u (13 + 12 + m) 2 = v (13 + 12 + m) 2 := by rw [hu, if_neg (by omega), if_neg (by omega), if_neg (by omega), if_neg (by omega), if_neg (by omega), if_neg (by omega)]
    have d2 : z (28 + m) = s (28 + m) := by rw [hs, if_neg (by omega), if_neg (by omega), if_neg (by omega), if_neg (by omega), if_neg (by omega), if_neg (by omega)]
    exact d1.trans ((hR _ _ _ (lk_k_ hm (by omega))).trans d2.symm)
  · have d1 : u (13 + 16 + 15 * c) 0 = v (13 + 16 + 15 * c) 0 := by rw [hu, if_neg (by omega), if_neg (by omega), if_neg (by omega), if_neg (by omega), if_neg (by omega), if_neg (by omega)]
    have d2 : z (34 + 7 * c) = s (34 + 7 * c) := by rw [hs, if_neg (by omega), if_neg (by omega), if_neg (by omega), if_neg (by omega), if_neg (by omega), if_neg (by omega)]
    exact d1.trans ((hR _ _ _ (lk_c0 hc (by omega))).trans d2.symm)
  · by_cases e0 : 13 + 16 + 15 * c = 29 + 15 * X ∧ 2 = 2
    · have d1 : u (13 + 16 + 15 * c) 2 = y := by rw [hu, if_neg (by omega), if_neg (by omega), if_pos (by omega)]
      have d2 : z (36 + 7 * c) = y := by rw [hs, if_neg (by omega), if_neg (by omega), if_pos (by omega)]
      exact d1.trans d2.symm
    · skip
      have d1 : u (13 + 16 + 15 * c) 2 = v (13 + 16 + 15 * c) 2 := by rw [hu, if_neg (by omega), if_neg (by omega), if_neg (by omega), if_neg (by omega), if_neg (by omega), if_neg (by omega)]
      have d2 : z (36 + 7 * c) = s (36 + 7 * c) := by rw [hs, if_neg (by omega), if_neg (by omega), if_neg (by omega), if_neg (by omega), if_neg (by omega), if_neg (by omega)]
      exact d1.trans ((hR _ _ _ (lk_c2 hc (by omega))).trans d2.symm)
  · have d1 : u (13 + 16 + 15 * c) 3 = v (13 + 16 + 15 * c) 3 := by rw [hu, if_neg (by omega), if_neg (by omega), if_neg (by omega), if_neg (by omega), if_neg (by omega), if_neg (by omega)]
    have d2 : z (37 + 7 * c) = s (37 + 7 * c) := by rw [hs, if_neg (by omega), if_neg (by omega), if_neg (by omega), if_neg (by omega), if_neg (by omega), if_neg (by omega)]
    exact d1.trans ((hR _ _ _ (lk_c3 hc (by omega))).trans d2.symm)
  · have d1 : u (13 + 16 + 15 * c) 5 = v (13 + 16 + 15 * c) 5 := by rw [hu, if_neg (by omega), if_neg (by omega), if_neg (by omega), if_neg (by omega), if_neg (by omega), if_neg (by omega)]
    have d2 : z (38 + 7 * c) = s (38 + 7 * c) := by rw [hs, if_neg (by omega), if_neg (by omega), if_neg (by omega), if_neg (by omega), if_neg (by omega), if_neg (by omega)]
    exact d1.trans ((hR _ _ _ (lk_c5 hc (by omega))).trans d2.symm)
  · have d1 : u (13 + 17 + 15 * c) j = v (13 + 17 + 15 * c) j := by rw [hu, if_neg (by omega), if_neg (by omega), if_neg (by omega), if_neg (by omega), if_neg (by omega), if_neg (by omega)]
    have d2 : z (32 + 7 * c + j) = s (32 + 7 * c + j) := by rw [hs, if_neg (by omega), if_neg (by omega), if_neg (by omega), if_neg (by omega), if_neg (by omega), if_neg (by omega)]
    exact d1.trans ((hR _ _ _ (lk_q hc (by omega) hj)).trans d2.symm)
  · have a36 := A36 c hc
    have hnc : c = X → (s (36 + 7 * c)).toInt = (R : Int) := fun q => by rw [q]; exact hn
    by_cases e0 : 13 + 20 + 15 * c + i = 33 + 15 * X + 1 ∧ j = R
    · have d1 : u (13 + 20 + 15 * c + i) j = g := by rw [hu, if_neg (by omega), if_neg (by omega), if_neg (by omega), if_pos (by omega)]
      have d2 : z (86 + 10 * c + 2 * j + i) = g := by rw [hs, if_neg (by omega), if_neg (by omega), if_neg (by omega), if_pos (by omega)]
      exact d1.trans d2.symm
    · skip
      by_cases e1 : 13 + 20 + 15 * c + i = 33 + 15 * X + 0 ∧ j = R
      · have d1 : u (13 + 20 + 15 * c + i) j = a := by rw [hu, if_neg (by omega), if_neg (by omega), if_neg (by omega), if_neg (by omega), if_pos (by omega)]
        have d2 : z (86 + 10 * c + 2 * j + i) = a := by rw [hs, if_neg (by omega), if_neg (by omega), if_neg (by omega), if_neg (by omega), if_pos (by omega)]
        exact d1.trans d2.symm
      · skip
        have d1 : u (13 + 20 + 15 * c + i) j = v (13 + 20 + 15 * c + i) j := by rw [hu, if_neg (by omega), if_neg (by omega), if_neg (by omega), if_neg (by omega), if_neg (by omega), if_neg (by omega)]
        have d2 : z (86 + 10 * c + 2 * j + i) = s (86 + 10 * c + 2 * j + i) := by rw [hs, if_neg (by omega), if_neg (by omega), if_neg (by omega), if_neg (by omega), if_neg (by omega), if_neg (by omega)]
        exact d1.trans ((hR _ _ _ (lk_o hc (by omega) hi hj (by omega))).trans d2.symm)
  · have d1 : u (13 + 23 + 15 * c + i) j = v (13 + 23 + 15 * c + i) j := by rw [hu, if_neg (by omega), if_neg (by omega), if_neg (by omega), if_neg (by omega), if_neg (by omega), if_neg (by omega)]
    have d2 : z (308 + 48 * c + 24 * i + j) = s (308 + 48 * c + 24 * i + j) := by rw [hs, if_neg (by omega), if_neg (by omega), if_neg (by omega), if_neg (by omega), if_neg (by omega), if_neg (by omega)]
    exact d1.trans ((hR _ _ _ (lk_l hc (by omega) hi hj)).trans d2.symm)
  · have a38 := A38 c hc
    have d1 : u (13 + 26 + 15 * c + t) j = v (13 + 26 + 15 * c + t) j := by rw [hu, if_neg (by omega), if_neg (by omega), if_neg (by omega), if_neg (by omega), if_neg (by omega), if_neg (by omega)]
    have d2 : z (158 + 25 * c + 5 * t + j) = s (158 + 25 * c + 5 * t + j) := by rw [hs, if_neg (by omega), if_neg (by omega), if_neg (by omega), if_neg (by omega), if_neg (by omega), if_neg (by omega)]
    exact d1.trans ((hR _ _ _ (lk_t hc (by omega) ht (by omega) hj)).trans d2.symm)

set_option maxHeartbeats 4000000 in
theorem RL_yes0 {v u : Nat → Nat → Int32} {s z : Nat → Int32} {X R : Nat} {x y g a w : Int32} (hX : X < 6) (hR5 : R < 5) (hn : (s (36 + 7 * X)).toInt = (R : Int)) (hx : y.toInt = (s (36 + 7 * X)).toInt + 1) (hu : ∀ k j : Nat, u k j = if k = 29 + 15 * X ∧ j = 1 then w else if k = 29 + 15 * X ∧ j = 0 then 1 else if k = 29 + 15 * X ∧ j = 2 then y else if k = 33 + 15 * X + 1 ∧ j = R then g else if k = 33 + 15 * X + 0 ∧ j = R then a else if k = 31 + 15 * X ∧ j = 0 then x else v k j) (hs : ∀ n : Nat, z n = if n = 35 + 7 * X then w else if n = 34 + 7 * X then 1 else if n = 75 + 2 * X then -5 else if n = 74 + 2 * X then -5 else if n = 36 + 7 * X then y else if n = 87 + 10 * X + 2 * R then g else if n = 86 + 10 * X + 2 * R then a else if n = 74 + 2 * X then x else s n) (hR : RLk 13 v s) : RLk 13 u z := by
  have A0 : (z 0).toInt = (s 0).toInt := by rw [hs, if_neg (by omega), if_neg (by omega), if_neg (by omega), if_neg (by omega), if_neg (by omega), if_neg (by omega), if_neg (by omega), if_neg (by omega)]
  have A1 : (z 1).toInt = (s 1).toInt := by rw [hs, if_neg (by omega), if_neg (by omega), if_neg (by omega), if_neg (by omega), if_neg (by omega), if_neg (by omega), if_neg (by omega), if_neg (by omega)]
  have A2 : (z 2).toInt = (s 2).toInt := by rw [hs, if_neg (by omega), if_neg (by omega), if_neg (by omega), if_neg (by omega), if_neg (by omega), if_neg (by omega), if_neg (by omega), if_neg (by omega)]
  have A36 : ∀ c : Nat, c < 6 → (z (36 + 7 * c)).toInt = (s (36 + 7 * c)).toInt ∨ (c = X ∧ (z (36 + 7 * c)).toInt = (s (36 + 7 * c)).toInt + 1) := fun c hc => by by_cases q : c = X; subst q; refine Or.inr ⟨rfl, ?_⟩; rw [hs, if_neg (by omega), if_neg (by omega), if_neg (by omega), if_neg (by omega), if_pos rfl]; exact hx; refine Or.inl ?_; rw [hs, if_neg (by omega), if_neg (by omega), if_neg (by omega), if_neg (by omega), if_neg (by omega), if_neg (by omega), if_neg (by omega), if_neg (by omega)]
  have A38 : ∀ c : Nat, c < 6 → (z (38 + 7 * c)).toInt = (s (38 + 7 * c)).toInt := fun c hc => by rw [hs, if_neg (by omega), if_neg (by omega), if_neg (by omega), if_neg (by omega), if_neg (by omega), if_neg (by omega), if_neg (by omega), if_neg (by omega)]
  intro k j n h
  unfold lk at h
  rcases h with ⟨rfl, hj, rfl⟩ | ⟨p, hp, ha, hj, rfl, rfl⟩ | ⟨m, hm, ha, hj, rfl, rfl⟩ | ⟨m, hm, ha, rfl, rfl, rfl⟩ | ⟨c, hc, ha, rfl, rfl, rfl⟩ | ⟨c, hc, ha, rfl, rfl, rfl⟩ | ⟨c, hc, ha, rfl, rfl, rfl⟩ | ⟨c, hc, ha, rfl, rfl, rfl⟩ | ⟨c, hc, ha, hj, rfl, rfl⟩ | ⟨c, i, hc, ha, hi, hj, hr, rfl, rfl⟩ | ⟨c, i, hc, ha, hi, hj, rfl, rfl⟩ | ⟨c, t, hc, ha, ht, hr, hj, rfl, rfl⟩
  · have d1 : u (13) n = v (13) n := by rw [hu, if_neg (by omega), if_neg (by omega), if_neg (by omega), if_neg (by omega), if_neg (by omega), if_neg (by omega)]
    have d2 : z (n) = s (n) := by rw [hs, if_neg (by omega), if_neg (by omega), if_neg (by omega), if_neg (by omega), if_neg (by omega), if_neg (by omega), if_neg (by omega), if_neg (by omega)]
    exact d1.trans ((hR _ _ _ (lk_a hj)).trans d2.symm)
  · have d1 : u (13 + 4 + p) j = v (13 + 4 + p) j := by rw [hu, if_neg (by omega), if_neg (by omega), if_neg (by omega), if_neg (by omega), if_neg (by omega), if_neg (by omega)]
    have d2 : z (4 + 2 * p + j) = s (4 + 2 * p + j) := by rw [hs, if_neg (by omega), if_neg (by omega), if_neg (by omega), if_neg (by omega), if_neg (by omega), if_neg (by omega), if_neg (by omega), if_neg (by omega)]
    exact d1.trans ((hR _ _ _ (lk_p hp (by omega) hj)).trans d2.symm)
  · have d1 : u (13 + 12 + m) j = v (13 + 12 + m) j := by rw [hu, if_neg (by omega), if_neg (by omega), if_neg (by omega), if_neg (by omega), if_neg (by omega), if_neg (by omega)]
    have d2 : z (20 + 2 * m + j) = s (20 + 2 * m + j) := by rw [hs, if_neg (by omega), if_neg (by omega), if_neg (by omega), if_neg (by omega), if_neg (by omega), if_neg (by omega), if_neg (by omega), if_neg (by omega)]
    exact d1.trans ((hR _ _ _ (lk_m hm (by omega) hj)).trans d2.symm)
  · have d1 : u (13 + 12 + m) 2 = v (13 + 12 + m) 2 := by rw [hu, if_neg (by omega), if_neg (by omega), if_neg (by omega), if_neg (by omega), if_neg (by omega), if_neg (by omega)]
    have d2 : z (28 + m) = s (28 + m) := by rw [hs, if_neg (by omega), if_neg (by omega), if_neg (by omega), if_neg (by omega), if_neg (by omega), if_neg (by omega), if_neg (by omega), if_neg (by omega)]
    exact d1.trans ((hR _ _ _ (lk_k_ hm (by omega))).trans d2.symm)
  · by_cases e0 : 13 + 16 + 15 * c = 29 + 15 * X ∧ 0 = 0
    · have d1 : u (13 + 16 + 15 * c) 0 = 1 := by rw [hu, if_neg (by omega), if_pos (by omega)]
      have d2 : z (34 + 7 * c) = 1 := by rw [hs, if_neg (by omega), if_pos (by omega)]
      exact d1.trans d2.symm
    · skip
      have d1 : u (13 + 16 + 15 * c) 0 = v (13 + 16 + 15 * c) 0 := by rw [hu, if_neg (by omega), if_neg (by omega), if_neg (by omega), if_neg (by omega), if_neg (by omega), if_neg (by omega)]
      have d2 : z (34 + 7 * c) = s (34 + 7 * c) := by rw [hs, if_neg (by omega), if_neg (by omega), if_neg (by omega), if_neg (by omega), if_neg (by omega), if_neg (by omega), if_neg (by omega), if_neg (by omega)]
      exact d1.trans ((hR _ _ _ (lk_c0 hc (by omega))).trans d2.symm)
  · by_cases e0 : 13 + 16 + 15 * c = 29 + 15 * X ∧ 2 = 2
    · have d1 : u (13 + 16 + 15 * c) 2 = y := by rw [hu, if_neg (by omega), if_neg (by omega), if_pos (by omega)]
      have d2 : z (36 + 7 * c) = y := by rw [hs, if_neg (by omega), if_neg (by omega), if_neg (by omega), if_neg (by omega), if_pos (by omega)]
      exact d1.trans d2.symm
    · skip
      have d1 : u (13 + 16 + 15 * c) 2 = v (13 + 16 + 15 * c) 2 := by rw [hu, if_neg (by omega), if_neg (by omega), if_neg (by omega), if_neg (by omega), if_neg (by omega), if_neg (by omega)]
      have d2 : z (36 + 7 * c) = s (36 + 7 * c) := by rw [hs, if_neg (by omega), if_neg (by omega), if_neg (by omega), if_neg (by omega), if_neg (by omega), if_neg (by omega), if_neg (by omega), if_neg (by omega)]
      exact d1.trans ((hR _ _ _ (lk_c2 hc (by omega))).trans d2.symm)
  · have d1 : u (13 + 16 + 15 * c) 3 = v (13 + 16 + 15 * c) 3 := by rw [hu, if_neg (by omega), if_neg (by omega), if_neg (by omega), if_neg (by omega), if_neg (by omega), if_neg (by omega)]
    have d2 : z (37 + 7 * c) = s (37 + 7 * c) := by rw [hs, if_neg (by omega), if_neg (by omega), if_neg (by omega), if_neg (by omega), if_neg (by omega), if_neg (by omega), if_neg (by omega), if_neg (by omega)]
    exact d1.trans ((hR _ _ _ (lk_c3 hc (by omega))).trans d2.symm)
  · have d1 : u (13 + 16 + 15 * c) 5 = v (13 + 16 + 15 * c) 5 := by rw [hu, if_neg (by omega), if_neg (by omega), if_neg (by omega), if_neg (by omega), if_neg (by omega), if_neg (by omega)]
    have d2 : z (38 + 7 * c) = s (38 + 7 * c) := by rw [hs, if_neg (by omega), if_neg (by omega), if_neg (by omega), if_neg (by omega), if_neg (by omega), if_neg (by omega), if_neg (by omega), if_neg (by omega)]
    exact d1.trans ((hR _ _ _ (lk_c5 hc (by omega))).trans d2.symm)
  · have d1 : u (13 + 17 + 15 * c) j = v (13 + 17 + 15 * c) j := by rw [hu, if_neg (by omega), if_neg (by omega), if_neg (by omega), if_neg (by omega), if_neg (by omega), if_neg (by omega)]
    have d2 : z (32 + 7 * c + j) = s (32 + 7 * c + j) := by rw [hs, if_neg (by omega), if_neg (by omega), if_neg (by omega), if_neg (by omega), if_neg (by omega), if_neg (by omega), if_neg (by omega), if_neg (by omega)]
    exact d1.trans ((hR _ _ _ (lk_q hc (by omega) hj)).trans d2.symm)
  · have a36 := A36 c hc
    have hnc : c = X → (s (36 + 7 * c)).toInt = (R : Int) := fun q => by rw [q]; exact hn
    by_cases e0 : 13 + 20 + 15 * c + i = 33 + 15 * X + 1 ∧ j = R
    · have d1 : u (13 + 20 + 15 * c + i) j = g := by rw [hu, if_neg (by omega), if_neg (by omega), if_neg (by omega), if_pos (by omega)]
      have d2 : z (86 + 10 * c + 2 * j + i) = g := by rw [hs, if_neg (by omega), if_neg (by omega), if_neg (by omega), if_neg (by omega), if_neg (by omega), if_pos (by omega)]
      exact d1.trans d2.symm
    · skip
      by_cases e1 : 13 + 20 + 15 * c + i = 33 + 15 * X + 0 ∧ j = R
      · have d1 : u (13 + 20 + 15 * c + i) j = a := by rw [hu, if_neg (by omega), if_neg (by omega), if_neg (by omega), if_neg (by omega), if_pos (by omega)]
        have d2 : z (86 + 10 * c + 2 * j + i) = a := by rw [hs, if_neg (by omega), if_neg (by omega), if_neg (by omega), if_neg (by omega), if_neg (by omega), if_neg (by omega), if_pos (by omega)]
        exact d1.trans d2.symm
      · skip
        have d1 : u (13 + 20 + 15 * c + i) j = v (13 + 20 + 15 * c + i) j := by rw [hu, if_neg (by omega), if_neg (by omega), if_neg (by omega), if_neg (by omega), if_neg (by omega), if_neg (by omega)]
        have d2 : z (86 + 10 * c + 2 * j + i) = s (86 + 10 * c + 2 * j + i) := by rw [hs, if_neg (by omega), if_neg (by omega), if_neg (by omega), if_neg (by omega), if_neg (by omega), if_neg (by omega), if_neg (by omega), if_neg (by omega)]
        exact d1.trans ((hR _ _ _ (lk_o hc (by omega) hi hj (by omega))).trans d2.symm)
  · have d1 : u (13 + 23 + 15 * c + i) j = v (13 + 23 + 15 * c + i) j := by rw [hu, if_neg (by omega), if_neg (by omega), if_neg (by omega), if_neg (by omega), if_neg (by omega), if_neg (by omega)]
    have d2 : z (308 + 48 * c + 24 * i + j) = s (308 + 48 * c + 24 * i + j) := by rw [hs, if_neg (by omega), if_neg (by omega), if_neg (by omega), if_neg (by omega), if_neg (by omega), if_neg (by omega), if_neg (by omega), if_neg (by omega)]
    exact d1.trans ((hR _ _ _ (lk_l hc (by omega) hi hj)).trans d2.symm)
  · have a38 := A38 c hc
    have d1 : u (13 + 26 + 15 * c + t) j = v (13 + 26 + 15 * c + t) j := by rw [hu, if_neg (by omega), if_neg (by omega), if_neg (by omega), if_neg (by omega), if_neg (by omega), if_neg (by omega)]
    have d2 : z (158 + 25 * c + 5 * t + j) = s (158 + 25 * c + 5 * t + j) := by rw [hs, if_neg (by omega), if_neg (by omega), if_neg (by omega), if_neg (by omega), if_neg (by omega), if_neg (by omega), if_neg (by omega), if_neg (by omega)]
    exact d1.trans ((hR _ _ _ (lk_t hc (by omega) ht (by omega) hj)).trans d2.symm)

set_option maxHeartbeats 4000000 in
theorem RX_box0 {v u : Nat → Nat → Int32} {s z : Nat → Int32} {X : Nat} {x : Int32} (hX : X < 6) (hx : 0 ≤ x.toInt ∧ x.toInt ≤ 100) (hu : ∀ k j : Nat, u k j = if k = 31 + 15 * X ∧ j = 0 then x else v k j) (hs : ∀ n : Nat, z n = if n = 74 + 2 * X then x else s n) (h : RX 13 v s) : RX 13 u z := by
  intro c hc hac
  have a2 : z 2 = s 2 := by rw [hs, if_neg (by omega)]
  have hh := h c hc (by rw [a2] at hac; exact hac)
  by_cases hq : c = X
  · subst hq
    have g0 : u (13 + 16 + 15 * c) 1 = v (13 + 16 + 15 * c) 1 := by rw [hu, if_neg (by omega)]
    have g1 : u (13 + 18 + 15 * c) 0 = x := by rw [hu, if_pos (by omega)]
    have g2 : u (13 + 18 + 15 * c) 1 = v (13 + 18 + 15 * c) 1 := by rw [hu, if_neg (by omega)]
    have g3 : z (34 + 7 * c) = s (34 + 7 * c) := by rw [hs, if_neg (by omega)]
    have g4 : z (35 + 7 * c) = s (35 + 7 * c) := by rw [hs, if_neg (by omega)]
    have g5 : z (74 + 2 * c) = x := by rw [hs, if_pos (by omega)]
    have g6 : z (75 + 2 * c) = s (75 + 2 * c) := by rw [hs, if_neg (by omega)]
    rw [g0, g1, g2, g3, g4, g5, g6]
    obtain ⟨r1, r2, r3, r4⟩ := hh
    exact ⟨r1, r2, r3, fun q => ⟨Or.inr ⟨hx.1, hx.2, rfl⟩, (r4 q).2⟩⟩
  · have d1 : u (13 + 16 + 15 * c) 1 = v (13 + 16 + 15 * c) 1 := by rw [hu, if_neg (by omega)]
    have d2 : u (13 + 18 + 15 * c) 0 = v (13 + 18 + 15 * c) 0 := by rw [hu, if_neg (by omega)]
    have d3 : u (13 + 18 + 15 * c) 1 = v (13 + 18 + 15 * c) 1 := by rw [hu, if_neg (by omega)]
    have f0 : z (34 + 7 * c) = s (34 + 7 * c) := by rw [hs, if_neg (by omega)]
    have f1 : z (35 + 7 * c) = s (35 + 7 * c) := by rw [hs, if_neg (by omega)]
    have f2 : z (74 + 2 * c) = s (74 + 2 * c) := by rw [hs, if_neg (by omega)]
    have f3 : z (75 + 2 * c) = s (75 + 2 * c) := by rw [hs, if_neg (by omega)]
    rw [d1, d2, d3, f0, f1, f2, f3]
    exact hh

set_option maxHeartbeats 4000000 in
theorem RX_no0 {v u : Nat → Nat → Int32} {s z : Nat → Int32} {X R : Nat} {x y g a : Int32} (hX : X < 6) (hR5 : R < 5) (hu : ∀ k j : Nat, u k j = if k = 31 + 15 * X ∧ j = 1 then -1 else if k = 31 + 15 * X ∧ j = 0 then -1 else if k = 29 + 15 * X ∧ j = 2 then y else if k = 33 + 15 * X + 1 ∧ j = R then g else if k = 33 + 15 * X + 0 ∧ j = R then a else if k = 31 + 15 * X ∧ j = 0 then x else v k j) (hs : ∀ n : Nat, z n = if n = 75 + 2 * X then -5 else if n = 74 + 2 * X then -5 else if n = 36 + 7 * X then y else if n = 87 + 10 * X + 2 * R then g else if n = 86 + 10 * X + 2 * R then a else if n = 74 + 2 * X then x else s n) (h : RX 13 v s) : RX 13 u z := by
  intro c hc hac
  have a2 : z 2 = s 2 := by rw [hs, if_neg (by omega), if_neg (by omega), if_neg (by omega), if_neg (by omega), if_neg (by omega), if_neg (by omega)]
  have hh := h c hc (by rw [a2] at hac; exact hac)
  by_cases hq : c = X
  · subst hq
    have g0 : u (13 + 16 + 15 * c) 1 = v (13 + 16 + 15 * c) 1 := by rw [hu, if_neg (by omega), if_neg (by omega), if_neg (by omega), if_neg (by omega), if_neg (by omega), if_neg (by omega)]
    have g1 : u (13 + 18 + 15 * c) 0 = -1 := by rw [hu, if_neg (by omega), if_pos (by omega)]
    have g2 : u (13 + 18 + 15 * c) 1 = -1 := by rw [hu, if_pos (by omega)]
    have g3 : z (34 + 7 * c) = s (34 + 7 * c) := by rw [hs, if_neg (by omega), if_neg (by omega), if_neg (by omega), if_neg (by omega), if_neg (by omega), if_neg (by omega)]
    have g4 : z (35 + 7 * c) = s (35 + 7 * c) := by rw [hs, if_neg (by omega), if_neg (by omega), if_neg (by omega), if_neg (by omega), if_neg (by omega), if_neg (by omega)]
    have g5 : z (74 + 2 * c) = -5 := by rw [hs, if_neg (by omega), if_pos (by omega)]
    have g6 : z (75 + 2 * c) = -5 := by rw [hs, if_pos (by omega)]
    rw [g0, g1, g2, g3, g4, g5, g6]
    obtain ⟨r1, r2, r3, r4⟩ := hh
    exact ⟨r1, r2, r3, fun q => ⟨Or.inl ⟨by decide, by decide⟩, Or.inl ⟨by decide, by decide⟩⟩⟩
  · have d1 : u (13 + 16 + 15 * c) 1 = v (13 + 16 + 15 * c) 1 := by rw [hu, if_neg (by omega), if_neg (by omega), if_neg (by omega), if_neg (by omega), if_neg (by omega), if_neg (by omega)]
    have d2 : u (13 + 18 + 15 * c) 0 = v (13 + 18 + 15 * c) 0 := by rw [hu, if_neg (by omega), if_neg (by omega), if_neg (by omega), if_neg (by omega), if_neg (by omega), if_neg (by omega)]
    have d3 : u (13 + 18 + 15 * c) 1 = v (13 + 18 + 15 * c) 1 := by rw [hu, if_neg (by omega), if_neg (by omega), if_neg (by omega), if_neg (by omega), if_neg (by omega), if_neg (by omega)]
    have f0 : z (34 + 7 * c) = s (34 + 7 * c) := by rw [hs, if_neg (by omega), if_neg (by omega), if_neg (by omega), if_neg (by omega), if_neg (by omega), if_neg (by omega)]
    have f1 : z (35 + 7 * c) = s (35 + 7 * c) := by rw [hs, if_neg (by omega), if_neg (by omega), if_neg (by omega), if_neg (by omega), if_neg (by omega), if_neg (by omega)]
    have f2 : z (74 + 2 * c) = s (74 + 2 * c) := by rw [hs, if_neg (by omega), if_neg (by omega), if_neg (by omega), if_neg (by omega), if_neg (by omega), if_neg (by omega)]
    have f3 : z (75 + 2 * c) = s (75 + 2 * c) := by rw [hs, if_neg (by omega), if_neg (by omega), if_neg (by omega), if_neg (by omega), if_neg (by omega), if_neg (by omega)]
    rw [d1, d2, d3, f0, f1, f2, f3]
    exact hh

set_option maxHeartbeats 4000000 in
theorem RX_yes0 {v u : Nat → Nat → Int32} {s z : Nat → Int32} {X R : Nat} {x y g a w : Int32} (hX : X < 6) (hR5 : R < 5) (hu : ∀ k j : Nat, u k j = if k = 29 + 15 * X ∧ j = 1 then w else if k = 29 + 15 * X ∧ j = 0 then 1 else if k = 29 + 15 * X ∧ j = 2 then y else if k = 33 + 15 * X + 1 ∧ j = R then g else if k = 33 + 15 * X + 0 ∧ j = R then a else if k = 31 + 15 * X ∧ j = 0 then x else v k j) (hs : ∀ n : Nat, z n = if n = 35 + 7 * X then w else if n = 34 + 7 * X then 1 else if n = 75 + 2 * X then -5 else if n = 74 + 2 * X then -5 else if n = 36 + 7 * X then y else if n = 87 + 10 * X + 2 * R then g else if n = 86 + 10 * X + 2 * R then a else if n = 74 + 2 * X then x else s n) (h : RX 13 v s) : RX 13 u z := by
  intro c hc hac
  have a2 : z 2 = s 2 := by rw [hs, if_neg (by omega), if_neg (by omega), if_neg (by omega), if_neg (by omega), if_neg (by omega), if_neg (by omega), if_neg (by omega), if_neg (by omega)]
  have hh := h c hc (by rw [a2] at hac; exact hac)
  by_cases hq : c = X
  · subst hq
    have g0 : u (13 + 16 + 15 * c) 1 = w := by rw [hu, if_pos (by omega)]
    have g1 : u (13 + 18 + 15 * c) 0 = x := by rw [hu, if_neg (by omega), if_neg (by omega), if_neg (by omega), if_neg (by omega), if_neg (by omega), if_pos (by omega)]
    have g2 : u (13 + 18 + 15 * c) 1 = v (13 + 18 + 15 * c) 1 := by rw [hu, if_neg (by omega), if_neg (by omega), if_neg (by omega), if_neg (by omega), if_neg (by omega), if_neg (by omega)]
    have g3 : z (34 + 7 * c) = 1 := by rw [hs, if_neg (by omega), if_pos (by omega)]
    have g4 : z (35 + 7 * c) = w := by rw [hs, if_pos (by omega)]
    have g5 : z (74 + 2 * c) = -5 := by rw [hs, if_neg (by omega), if_neg (by omega), if_neg (by omega), if_pos (by omega)]
    have g6 : z (75 + 2 * c) = -5 := by rw [hs, if_neg (by omega), if_neg (by omega), if_pos (by omega)]
    rw [g0, g1, g2, g3, g4, g5, g6]
    have k1 : (1 : Int32).toInt = 1 := by decide
    exact ⟨by omega, fun _ => rfl, fun q => absurd k1 q, fun q => absurd q (by omega)⟩
  · have d1 : u (13 + 16 + 15 * c) 1 = v (13 + 16 + 15 * c) 1 := by rw [hu, if_neg (by omega), if_neg (by omega), if_neg (by omega), if_neg (by omega), if_neg (by omega), if_neg (by omega)]
    have d2 : u (13 + 18 + 15 * c) 0 = v (13 + 18 + 15 * c) 0 := by rw [hu, if_neg (by omega), if_neg (by omega), if_neg (by omega), if_neg (by omega), if_neg (by omega), if_neg (by omega)]
    have d3 : u (13 + 18 + 15 * c) 1 = v (13 + 18 + 15 * c) 1 := by rw [hu, if_neg (by omega), if_neg (by omega), if_neg (by omega), if_neg (by omega), if_neg (by omega), if_neg (by omega)]
    have f0 : z (34 + 7 * c) = s (34 + 7 * c) := by rw [hs, if_neg (by omega), if_neg (by omega), if_neg (by omega), if_neg (by omega), if_neg (by omega), if_neg (by omega), if_neg (by omega), if_neg (by omega)]
    have f1 : z (35 + 7 * c) = s (35 + 7 * c) := by rw [hs, if_neg (by omega), if_neg (by omega), if_neg (by omega), if_neg (by omega), if_neg (by omega), if_neg (by omega), if_neg (by omega), if_neg (by omega)]
    have f2 : z (74 + 2 * c) = s (74 + 2 * c) := by rw [hs, if_neg (by omega), if_neg (by omega), if_neg (by omega), if_neg (by omega), if_neg (by omega), if_neg (by omega), if_neg (by omega), if_neg (by omega)]
    have f3 : z (75 + 2 * c) = s (75 + 2 * c) := by rw [hs, if_neg (by omega), if_neg (by omega), if_neg (by omega), if_neg (by omega), if_neg (by omega), if_neg (by omega), if_neg (by omega), if_neg (by omega)]
    rw [d1, d2, d3, f0, f1, f2, f3]
    exact hh

set_option maxHeartbeats 4000000 in
theorem T_offer_0 {n r r2 x0 x1 : Int32} {v u v2 u2 : Nat → Nat → Int32} (hI : Iv v) (hQ : Ir v2) (h : RR n v v2) (p : (¬ ((0 ≤ x0.toInt ∧ x0.toInt < (v 13 2).toInt) ∧ 0 ≤ x1.toInt ∧ x1.toInt ≤ 100) → r = -1 ∧ u = v) ∧ (((0 ≤ x0.toInt ∧ x0.toInt < (v 13 2).toInt) ∧ 0 ≤ x1.toInt ∧ x1.toInt ≤ 100) ∧ (v (29 + 15 * x0.toNatClampNeg) 0).toInt ≠ 0 → r = -4 ∧ u = v) ∧ (((0 ≤ x0.toInt ∧ x0.toInt < (v 13 2).toInt) ∧ 0 ≤ x1.toInt ∧ x1.toInt ≤ 100) ∧ (v (29 + 15 * x0.toNatClampNeg) 0).toInt = 0 ∧ (v (31 + 15 * x0.toNatClampNeg) 0).toInt ≠ -1 → r = -3 ∧ u = v) ∧ (((0 ≤ x0.toInt ∧ x0.toInt < (v 13 2).toInt) ∧ 0 ≤ x1.toInt ∧ x1.toInt ≤ 100) ∧ (v (29 + 15 * x0.toNatClampNeg) 0).toInt = 0 ∧ (v (31 + 15 * x0.toNatClampNeg) 0).toInt = -1 ∧ 5 ≤ (v (29 + 15 * x0.toNatClampNeg) 2).toInt → r = -2 ∧ u = v) ∧ (((0 ≤ x0.toInt ∧ x0.toInt < (v 13 2).toInt) ∧ 0 ≤ x1.toInt ∧ x1.toInt ≤ 100) ∧ (v (29 + 15 * x0.toNatClampNeg) 0).toInt = 0 ∧ (v (31 + 15 * x0.toNatClampNeg) 0).toInt = -1 ∧ (v (29 + 15 * x0.toNatClampNeg) 2).toInt < 5 ∧ (v (31 + 15 * x0.toNatClampNeg) 1).toInt = -1 → r = 0 ∧ (∀ k j : Nat, u k j = if k = 31 + 15 * x0.toNatClampNeg ∧ j = 0 then x1 else v k j)) ∧ (((0 ≤ x0.toInt ∧ x0.toInt < (v 13 2).toInt) ∧ 0 ≤ x1.toInt ∧ x1.toInt ≤ 100) ∧ (v (29 + 15 * x0.toNatClampNeg) 0).toInt = 0 ∧ (v (31 + 15 * x0.toNatClampNeg) 0).toInt = -1 ∧ (v (29 + 15 * x0.toNatClampNeg) 2).toInt < 5 ∧ (v (31 + 15 * x0.toNatClampNeg) 1).toInt ≠ -1 ∧ (v (31 + 15 * x0.toNatClampNeg) 1).toInt < x1.toInt → r = 2 ∧ (∀ k j : Nat, u k j = if k = 31 + 15 * x0.toNatClampNeg ∧ j = 1 then -1 else if k = 31 + 15 * x0.toNatClampNeg ∧ j = 0 then -1 else if k = 29 + 15 * x0.toNatClampNeg ∧ j = 2 then v (29 + 15 * x0.toNatClampNeg) 2 + 1 else if k = 33 + 15 * x0.toNatClampNeg + 1 ∧ j = (v (29 + 15 * x0.toNatClampNeg) 2).toNatClampNeg then v (31 + 15 * x0.toNatClampNeg) 1 else if k = 33 + 15 * x0.toNatClampNeg + 0 ∧ j = (v (29 + 15 * x0.toNatClampNeg) 2).toNatClampNeg then x1 else if k = 31 + 15 * x0.toNatClampNeg ∧ j = 0 then x1 else v k j)) ∧ (((0 ≤ x0.toInt ∧ x0.toInt < (v 13 2).toInt) ∧ 0 ≤ x1.toInt ∧ x1.toInt ≤ 100) ∧ (v (29 + 15 * x0.toNatClampNeg) 0).toInt = 0 ∧ (v (31 + 15 * x0.toNatClampNeg) 0).toInt = -1 ∧ (v (29 + 15 * x0.toNatClampNeg) 2).toInt < 5 ∧ (v (31 + 15 * x0.toNatClampNeg) 1).toInt ≠ -1 ∧ x1.toInt ≤ (v (31 + 15 * x0.toNatClampNeg) 1).toInt → r = 1 ∧ (∀ k j : Nat, u k j = if k = 29 + 15 * x0.toNatClampNeg ∧ j = 1 then (x1 + v (31 + 15 * x0.toNatClampNeg) 1) / 2 else if k = 29 + 15 * x0.toNatClampNeg ∧ j = 0 then 1 else if k = 29 + 15 * x0.toNatClampNeg ∧ j = 2 then v (29 + 15 * x0.toNatClampNeg) 2 + 1 else if k = 33 + 15 * x0.toNatClampNeg + 1 ∧ j = (v (29 + 15 * x0.toNatClampNeg) 2).toNatClampNeg then v (31 + 15 * x0.toNatClampNeg) 1 else if k = 33 + 15 * x0.toNatClampNeg + 0 ∧ j = (v (29 + 15 * x0.toNatClampNeg) 2).toNatClampNeg then x1 else if k = 31 + 15 * x0.toNatClampNeg ∧ j = 0 then x1 else v k j))) (q : (¬ ((0 ≤ x0.toInt ∧ x0.toInt < (v2 1 2).toInt) ∧ 0 ≤ x1.toInt ∧ x1.toInt ≤ 100) → r2 = -1 ∧ u2 = v2) ∧ (((0 ≤ x0.toInt ∧ x0.toInt < (v2 1 2).toInt) ∧ 0 ≤ x1.toInt ∧ x1.toInt ≤ 100) ∧ (v2 1 (34 + 7 * x0.toNatClampNeg)).toInt ≠ 0 → r2 = -4 ∧ u2 = v2) ∧ (((0 ≤ x0.toInt ∧ x0.toInt < (v2 1 2).toInt) ∧ 0 ≤ x1.toInt ∧ x1.toInt ≤ 100) ∧ (v2 1 (34 + 7 * x0.toNatClampNeg)).toInt = 0 ∧ 0 ≤ (v2 1 (74 + 2 * x0.toNatClampNeg)).toInt → r2 = -3 ∧ u2 = v2) ∧ (((0 ≤ x0.toInt ∧ x0.toInt < (v2 1 2).toInt) ∧ 0 ≤ x1.toInt ∧ x1.toInt ≤ 100) ∧ (v2 1 (34 + 7 * x0.toNatClampNeg)).toInt = 0 ∧ (v2 1 (74 + 2 * x0.toNatClampNeg)).toInt < 0 ∧ (v2 1 (36 + 7 * x0.toNatClampNeg)).toInt = 5 → r2 = -2 ∧ u2 = v2) ∧ (((0 ≤ x0.toInt ∧ x0.toInt < (v2 1 2).toInt) ∧ 0 ≤ x1.toInt ∧ x1.toInt ≤ 100) ∧ (v2 1 (34 + 7 * x0.toNatClampNeg)).toInt = 0 ∧ (v2 1 (74 + 2 * x0.toNatClampNeg)).toInt < 0 ∧ (v2 1 (36 + 7 * x0.toNatClampNeg)).toInt ≠ 5 ∧ (v2 1 (75 + 2 * x0.toNatClampNeg)).toInt < 0 → r2 = 0 ∧ (∀ n : Nat, u2 1 n = if n = 74 + 2 * x0.toNatClampNeg then x1 else v2 1 n) ∧ (∀ k : Nat, k ≠ 1 → u2 k = v2 k)) ∧ (((0 ≤ x0.toInt ∧ x0.toInt < (v2 1 2).toInt) ∧ 0 ≤ x1.toInt ∧ x1.toInt ≤ 100) ∧ (v2 1 (34 + 7 * x0.toNatClampNeg)).toInt = 0 ∧ (v2 1 (74 + 2 * x0.toNatClampNeg)).toInt < 0 ∧ (v2 1 (36 + 7 * x0.toNatClampNeg)).toInt ≠ 5 ∧ 0 ≤ (v2 1 (75 + 2 * x0.toNatClampNeg)).toInt ∧ (v2 1 (75 + 2 * x0.toNatClampNeg)).toInt < x1.toInt → r2 = 2 ∧ (∀ n : Nat, u2 1 n = if n = 75 + 2 * x0.toNatClampNeg then -5 else if n = 74 + 2 * x0.toNatClampNeg then -5 else if n = 36 + 7 * x0.toNatClampNeg then v2 1 (36 + 7 * x0.toNatClampNeg) + 1 else if n = 87 + 10 * x0.toNatClampNeg + 2 * (v2 1 (36 + 7 * x0.toNatClampNeg)).toNatClampNeg then v2 1 (75 + 2 * x0.toNatClampNeg) else if n = 86 + 10 * x0.toNatClampNeg + 2 * (v2 1 (36 + 7 * x0.toNatClampNeg)).toNatClampNeg then x1 else if n = 74 + 2 * x0.toNatClampNeg then x1 else v2 1 n) ∧ (∀ k : Nat, k ≠ 1 → u2 k = v2 k)) ∧ (((0 ≤ x0.toInt ∧ x0.toInt < (v2 1 2).toInt) ∧ 0 ≤ x1.toInt ∧ x1.toInt ≤ 100) ∧ (v2 1 (34 + 7 * x0.toNatClampNeg)).toInt = 0 ∧ (v2 1 (74 + 2 * x0.toNatClampNeg)).toInt < 0 ∧ (v2 1 (36 + 7 * x0.toNatClampNeg)).toInt ≠ 5 ∧ 0 ≤ (v2 1 (75 + 2 * x0.toNatClampNeg)).toInt ∧ x1.toInt ≤ (v2 1 (75 + 2 * x0.toNatClampNeg)).toInt → r2 = 1 ∧ (∀ n : Nat, u2 1 n = if n = 35 + 7 * x0.toNatClampNeg then (x1 + v2 1 (75 + 2 * x0.toNatClampNeg)) / 2 else if n = 34 + 7 * x0.toNatClampNeg then 1 else if n = 75 + 2 * x0.toNatClampNeg then -5 else if n = 74 + 2 * x0.toNatClampNeg then -5 else if n = 36 + 7 * x0.toNatClampNeg then v2 1 (36 + 7 * x0.toNatClampNeg) + 1 else if n = 87 + 10 * x0.toNatClampNeg + 2 * (v2 1 (36 + 7 * x0.toNatClampNeg)).toNatClampNeg then v2 1 (75 + 2 * x0.toNatClampNeg) else if n = 86 + 10 * x0.toNatClampNeg + 2 * (v2 1 (36 + 7 * x0.toNatClampNeg)).toNatClampNeg then x1 else if n = 74 + 2 * x0.toNatClampNeg then x1 else v2 1 n) ∧ (∀ k : Nat, k ≠ 1 → u2 k = v2 k))) : r = r2 ∧ RR n u u2 := by
  have e0 : v 13 0 = v2 1 0 := h.1.1 _ _ _ (lk_a (by decide))
  have e1 : v 13 1 = v2 1 1 := h.1.1 _ _ _ (lk_a (by decide))
  have e2 : v 13 2 = v2 1 2 := h.1.1 _ _ _ (lk_a (by decide))
  have e3 : v 13 3 = v2 1 3 := h.1.1 _ _ _ (lk_a (by decide))
  have hb0 := hQ 1 0 8 (by decide)
  have hb1 := hQ 1 1 4 (by decide)
  have hb2 := hQ 1 2 6 (by decide)
  have hb3 := hQ 1 3 6 (by decide)
  rw [e2] at p
  by_cases hC : (0 ≤ x0.toInt ∧ x0.toInt < (v2 1 2).toInt) ∧ 0 ≤ x1.toInt ∧ x1.toInt ≤ 100
  · have zX := t_nn (x := x0) (by omega)
    have hX : x0.toNatClampNeg < 6 := by omega
    have ha : (x0.toNatClampNeg : Int) < (v2 1 2).toInt := by omega
    have ev : v (29 + 15 * x0.toNatClampNeg) 0 = v2 1 (34 + 7 * x0.toNatClampNeg) := h.1.1 _ _ _ (lk_c0 hX ha)
    have ew : v (29 + 15 * x0.toNatClampNeg) 2 = v2 1 (36 + 7 * x0.toNatClampNeg) := h.1.1 _ _ _ (lk_c2 hX ha)
    rw [ev, ew] at p
    have hb := hQ 1 (36 + 7 * x0.toNatClampNeg) 5 (bS_c (by omega) (by omega))
    by_cases hD : (v2 1 (34 + 7 * x0.toNatClampNeg)).toInt = 0
    · obtain ⟨hx0, hx1⟩ := (h.1.2.1 _ hX ha).2.2.2 hD
      have hbx : bxr (v (31 + 15 * x0.toNatClampNeg) 0) (v2 1 (74 + 2 * x0.toNatClampNeg)) := hx0
      have hbo : bxr (v (31 + 15 * x0.toNatClampNeg) 1) (v2 1 (75 + 2 * x0.toNatClampNeg)) := hx1
      rcases hbx with ⟨t1, t2⟩ | ⟨t1, t2, t3⟩
      · by_cases hE : (v2 1 (36 + 7 * x0.toNatClampNeg)).toInt = 5
        · obtain ⟨p1, p2⟩ := p.2.2.2.1 ⟨hC, hD, t1, by omega⟩
          obtain ⟨q1, q2⟩ := q.2.2.2.1 ⟨hC, hD, t2, hE⟩
          rw [p1, q1, p2, q2]
          exact ⟨rfl, h⟩
        · rcases hbo with ⟨o1, o2⟩ | ⟨o1, o2, o3⟩
          · obtain ⟨p1, p2⟩ := p.2.2.2.2.1 ⟨hC, hD, t1, by omega, o1⟩
            obtain ⟨q1, q2, q3⟩ := q.2.2.2.2.1 ⟨hC, hD, t2, hE, o2⟩
            exact ⟨by rw [p1, q1], h.wr q3 (funext fun j => by rw [p2, if_neg (by omega)]) (fun k hk => funext fun j => by rw [p2, if_neg (by omega)]) ⟨RL_box0 hX p2 q2 h.1.1, RX_box0 hX hC.2 p2 q2 h.1.2.1, h.1.2.2.1.cg (by rw [q2, if_neg (by omega)]) (by rw [q2, if_neg (by omega)]) (fun m hm => by rw [q2, if_neg (by omega)]), h.1.2.2.2.cg hb3.2 (by rw [q2, if_neg (by omega)]) (by rw [q2, if_neg (by omega)]) (fun n h1 h2 => by rw [q2, if_neg (by omega)]) (fun c hc => by rw [p2, if_neg (by omega)])⟩⟩
          · rw [o3] at p
            have zR := t_nn (x := v2 1 (36 + 7 * x0.toNatClampNeg)) (by omega)
            have k1 : (1 : Int32).toInt = 1 := by decide
            have hx : (v2 1 (36 + 7 * x0.toNatClampNeg) + 1).toInt = (v2 1 (36 + 7 * x0.toNatClampNeg)).toInt + 1 := by rw [t_add (by rw [k1]; omega), k1]
            rcases Int.lt_or_le (v2 1 (75 + 2 * x0.toNatClampNeg)).toInt x1.toInt with hL | hL
            · obtain ⟨p1, p2⟩ := p.2.2.2.2.2.1 ⟨hC, hD, t1, by omega, by omega, hL⟩
              obtain ⟨q1, q2, q3⟩ := q.2.2.2.2.2.1 ⟨hC, hD, t2, hE, o1, hL⟩
              exact ⟨by rw [p1, q1], h.wr q3 (funext fun j => by rw [p2, if_neg (by omega), if_neg (by omega), if_neg (by omega), if_neg (by omega), if_neg (by omega), if_neg (by omega)]) (fun k hk => funext fun j => by rw [p2, if_neg (by omega), if_neg (by omega), if_neg (by omega), if_neg (by omega), if_neg (by omega), if_neg (by omega)]) ⟨RL_no0 hX (by omega) (by omega) hx p2 q2 h.1.1, RX_no0 hX (by omega) p2 q2 h.1.2.1, h.1.2.2.1.cg (by rw [q2, if_neg (by omega), if_neg (by omega), if_neg (by omega), if_neg (by omega), if_neg (by omega), if_neg (by omega)]) (by rw [q2, if_neg (by omega), if_neg (by omega), if_neg (by omega), if_neg (by omega), if_neg (by omega), if_neg (by omega)]) (fun m hm => by rw [q2, if_neg (by omega), if_neg (by omega), if_neg (by omega), if_neg (by omega), if_neg (by omega), if_neg (by omega)]), h.1.2.2.2.cg hb3.2 (by rw [q2, if_neg (by omega), if_neg (by omega), if_neg (by omega), if_neg (by omega), if_neg (by omega), if_neg (by omega)]) (by rw [q2, if_neg (by omega), if_neg (by omega), if_neg (by omega), if_neg (by omega), if_neg (by omega), if_neg (by omega)]) (fun n h1 h2 => by rw [q2, if_neg (by omega), if_neg (by omega), if_neg (by omega), if_neg (by omega), if_neg (by omega), if_neg (by omega)]) (fun c hc => by rw [p2, if_neg (by omega), if_neg (by omega), if_neg (by omega), if_neg (by omega), if_neg (by omega), if_neg (by omega)])⟩⟩
            · obtain ⟨p1, p2⟩ := p.2.2.2.2.2.2 ⟨hC, hD, t1, by omega, by omega, hL⟩
              obtain ⟨q1, q2, q3⟩ := q.2.2.2.2.2.2 ⟨hC, hD, t2, hE, o1, hL⟩
              exact ⟨by rw [p1, q1], h.wr q3 (funext fun j => by rw [p2, if_neg (by omega), if_neg (by omega), if_neg (by omega), if_neg (by omega), if_neg (by omega), if_neg (by omega)]) (fun k hk => funext fun j => by rw [p2, if_neg (by omega), if_neg (by omega), if_neg (by omega), if_neg (by omega), if_neg (by omega), if_neg (by omega)]) ⟨RL_yes0 hX (by omega) (by omega) hx p2 q2 h.1.1, RX_yes0 hX (by omega) p2 q2 h.1.2.1, h.1.2.2.1.cg (by rw [q2, if_neg (by omega), if_neg (by omega), if_neg (by omega), if_neg (by omega), if_neg (by omega), if_neg (by omega), if_neg (by omega), if_neg (by omega)]) (by rw [q2, if_neg (by omega), if_neg (by omega), if_neg (by omega), if_neg (by omega), if_neg (by omega), if_neg (by omega), if_neg (by omega), if_neg (by omega)]) (fun m hm => by rw [q2, if_neg (by omega), if_neg (by omega), if_neg (by omega), if_neg (by omega), if_neg (by omega), if_neg (by omega), if_neg (by omega), if_neg (by omega)]), h.1.2.2.2.cg hb3.2 (by rw [q2, if_neg (by omega), if_neg (by omega), if_neg (by omega), if_neg (by omega), if_neg (by omega), if_neg (by omega), if_neg (by omega), if_neg (by omega)]) (by rw [q2, if_neg (by omega), if_neg (by omega), if_neg (by omega), if_neg (by omega), if_neg (by omega), if_neg (by omega), if_neg (by omega), if_neg (by omega)]) (fun n h1 h2 => by rw [q2, if_neg (by omega), if_neg (by omega), if_neg (by omega), if_neg (by omega), if_neg (by omega), if_neg (by omega), if_neg (by omega), if_neg (by omega)]) (fun c hc => by rw [p2, if_neg (by omega), if_neg (by omega), if_neg (by omega), if_neg (by omega), if_neg (by omega), if_neg (by omega)])⟩⟩
      · rw [t3] at p
        obtain ⟨p1, p2⟩ := p.2.2.1 ⟨hC, hD, by omega⟩
        obtain ⟨q1, q2⟩ := q.2.2.1 ⟨hC, hD, t1⟩
        rw [p1, q1, p2, q2]
        exact ⟨rfl, h⟩
    · obtain ⟨p1, p2⟩ := p.2.1 ⟨hC, hD⟩
      obtain ⟨q1, q2⟩ := q.2.1 ⟨hC, hD⟩
      rw [p1, q1, p2, q2]
      exact ⟨rfl, h⟩
  · obtain ⟨p1, p2⟩ := p.1 hC
    obtain ⟨q1, q2⟩ := q.1 hC
    rw [p1, q1, p2, q2]
    exact ⟨rfl, h⟩

set_option maxHeartbeats 4000000 in
theorem RL_box1 {v u : Nat → Nat → Int32} {s z : Nat → Int32} {X : Nat} {x : Int32} (hX : X < 6) (hu : ∀ k j : Nat, u k j = if k = 31 + 15 * X ∧ j = 1 then x else v k j) (hs : ∀ n : Nat, z n = if n = 75 + 2 * X then x else s n) (hR : RLk 13 v s) : RLk 13 u z := by
  have A0 : (z 0).toInt = (s 0).toInt := by rw [hs, if_neg (by omega)]
  have A1 : (z 1).toInt = (s 1).toInt := by rw [hs, if_neg (by omega)]
  have A2 : (z 2).toInt = (s 2).toInt := by rw [hs, if_neg (by omega)]
  have A36 : ∀ c : Nat, c < 6 → (z (36 + 7 * c)).toInt = (s (36 + 7 * c)).toInt := fun c hc => by rw [hs, if_neg (by omega)]
  have A38 : ∀ c : Nat, c < 6 → (z (38 + 7 * c)).toInt = (s (38 + 7 * c)).toInt := fun c hc => by rw [hs, if_neg (by omega)]
  intro k j n h
  unfold lk at h
  rcases h with ⟨rfl, hj, rfl⟩ | ⟨p, hp, ha, hj, rfl, rfl⟩ | ⟨m, hm, ha, hj, rfl, rfl⟩ | ⟨m, hm, ha, rfl, rfl, rfl⟩ | ⟨c, hc, ha, rfl, rfl, rfl⟩ | ⟨c, hc, ha, rfl, rfl, rfl⟩ | ⟨c, hc, ha, rfl, rfl, rfl⟩ | ⟨c, hc, ha, rfl, rfl, rfl⟩ | ⟨c, hc, ha, hj, rfl, rfl⟩ | ⟨c, i, hc, ha, hi, hj, hr, rfl, rfl⟩ | ⟨c, i, hc, ha, hi, hj, rfl, rfl⟩ | ⟨c, t, hc, ha, ht, hr, hj, rfl, rfl⟩
  · have d1 : u (13) n = v (13) n := by rw [hu, if_neg (by omega)]
    have d2 : z (n) = s (n) := by rw [hs, if_neg (by omega)]
    exact d1.trans ((hR _ _ _ (lk_a hj)).trans d2.symm)
  · have d1 : u (13 + 4 + p) j = v (13 + 4 + p) j := by rw [hu, if_neg (by omega)]
    have d2 : z (4 + 2 * p + j) = s (4 + 2 * p + j) := by rw [hs, if_neg (by omega)]
    exact d1.trans ((hR _ _ _ (lk_p hp (by omega) hj)).trans d2.symm)
  · have d1 : u (13 + 12 + m) j = v (13 + 12 + m) j := by rw [hu, if_neg (by omega)]
    have d2 : z (20 + 2 * m + j) = s (20 + 2 * m + j) := by rw [hs, if_neg (by omega)]
    exact d1.trans ((hR _ _ _ (lk_m hm (by omega) hj)).trans d2.symm)
  · have d1 : u (13 + 12 + m) 2 = v (13 + 12 + m) 2 := by rw [hu, if_neg (by omega)]
    have d2 : z (28 + m) = s (28 + m) := by rw [hs, if_neg (by omega)]
    exact d1.trans ((hR _ _ _ (lk_k_ hm (by omega))).trans d2.symm)
  · have d1 : u (13 + 16 + 15 * c) 0 = v (13 + 16 + 15 * c) 0 := by rw [hu, if_neg (by omega)]
    have d2 : z (34 + 7 * c) = s (34 + 7 * c) := by rw [hs, if_neg (by omega)]
    exact d1.trans ((hR _ _ _ (lk_c0 hc (by omega))).trans d2.symm)
  · have d1 : u (13 + 16 + 15 * c) 2 = v (13 + 16 + 15 * c) 2 := by rw [hu, if_neg (by omega)]
    have d2 : z (36 + 7 * c) = s (36 + 7 * c) := by rw [hs, if_neg (by omega)]
    exact d1.trans ((hR _ _ _ (lk_c2 hc (by omega))).trans d2.symm)
  · have d1 : u (13 + 16 + 15 * c) 3 = v (13 + 16 + 15 * c) 3 := by rw [hu, if_neg (by omega)]
    have d2 : z (37 + 7 * c) = s (37 + 7 * c) := by rw [hs, if_neg (by omega)]
    exact d1.trans ((hR _ _ _ (lk_c3 hc (by omega))).trans d2.symm)
  · have d1 : u (13 + 16 + 15 * c) 5 = v (13 + 16 + 15 * c) 5 := by rw [hu, if_neg (by omega)]
    have d2 : z (38 + 7 * c) = s (38 + 7 * c) := by rw [hs, if_neg (by omega)]
    exact d1.trans ((hR _ _ _ (lk_c5 hc (by omega))).trans d2.symm)
  · have d1 : u (13 + 17 + 15 * c) j = v (13 + 17 + 15 * c) j := by rw [hu, if_neg (by omega)]
    have d2 : z (32 + 7 * c + j) = s (32 + 7 * c + j) := by rw [hs, if_neg (by omega)]
    exact d1.trans ((hR _ _ _ (lk_q hc (by omega) hj)).trans d2.symm)
  · have a36 := A36 c hc
    have d1 : u (13 + 20 + 15 * c + i) j = v (13 + 20 + 15 * c + i) j := by rw [hu, if_neg (by omega)]
    have d2 : z (86 + 10 * c + 2 * j + i) = s (86 + 10 * c + 2 * j + i) := by rw [hs, if_neg (by omega)]
    exact d1.trans ((hR _ _ _ (lk_o hc (by omega) hi hj (by omega))).trans d2.symm)
  · have d1 : u (13 + 23 + 15 * c + i) j = v (13 + 23 + 15 * c + i) j := by rw [hu, if_neg (by omega)]
    have d2 : z (308 + 48 * c + 24 * i + j) = s (308 + 48 * c + 24 * i + j) := by rw [hs, if_neg (by omega)]
    exact d1.trans ((hR _ _ _ (lk_l hc (by omega) hi hj)).trans d2.symm)
  · have a38 := A38 c hc
    have d1 : u (13 + 26 + 15 * c + t) j = v (13 + 26 + 15 * c + t) j := by rw [hu, if_neg (by omega)]
    have d2 : z (158 + 25 * c + 5 * t + j) = s (158 + 25 * c + 5 * t + j) := by rw [hs, if_neg (by omega)]
    exact d1.trans ((hR _ _ _ (lk_t hc (by omega) ht (by omega) hj)).trans d2.symm)

set_option maxHeartbeats 4000000 in
theorem RL_no1 {v u : Nat → Nat → Int32} {s z : Nat → Int32} {X R : Nat} {x y g a : Int32} (hX : X < 6) (hR5 : R < 5) (hn : (s (36 + 7 * X)).toInt = (R : Int)) (hx : y.toInt = (s (36 + 7 * X)).toInt + 1) (hu : ∀ k j : Nat, u k j = if k = 31 + 15 * X ∧ j = 1 then -1 else if k = 31 + 15 * X ∧ j = 0 then -1 else if k = 29 + 15 * X ∧ j = 2 then y else if k = 33 + 15 * X + 1 ∧ j = R then g else if k = 33 + 15 * X + 0 ∧ j = R then a else if k = 31 + 15 * X ∧ j = 1 then x else v k j) (hs : ∀ n : Nat, z n = if n = 75 + 2 * X then -5 else if n = 74 + 2 * X then -5 else if n = 36 + 7 * X then y else if n = 87 + 10 * X + 2 * R then g else if n = 86 + 10 * X + 2 * R then a else if n = 75 + 2 * X then x else s n) (hR : RLk 13 v s) : RLk 13 u z := by
  have A0 : (z 0).toInt = (s 0).toInt := by rw [hs, if_neg (by omega), if_neg (by omega), if_neg (by omega), if_neg (by omega), if_neg (by omega), if_neg (by omega)]
  have A1 : (z 1).toInt = (s 1).toInt := by rw [hs, if_neg (by omega), if_neg (by omega), if_neg (by omega), if_neg (by omega), if_neg (by omega), if_neg (by omega)]
  have A2 : (z 2).toInt = (s 2).toInt := by rw [hs, if_neg (by omega), if_neg (by omega), if_neg (by omega), if_neg (by omega), if_neg (by omega), if_neg (by omega)]
  have A36 : ∀ c : Nat, c < 6 → (z (36 + 7 * c)).toInt = (s (36 + 7 * c)).toInt ∨ (c = X ∧ (z (36 + 7 * c)).toInt = (s (36 + 7 * c)).toInt + 1) := fun c hc => by by_cases q : c = X; subst q; refine Or.inr ⟨rfl, ?_⟩; rw [hs, if_neg (by omega), if_neg (by omega), if_pos rfl]; exact hx; refine Or.inl ?_; rw [hs, if_neg (by omega), if_neg (by omega), if_neg (by omega), if_neg (by omega), if_neg (by omega), if_neg (by omega)]
  have A38 : ∀ c : Nat, c < 6 → (z (38 + 7 * c)).toInt = (s (38 + 7 * c)).toInt := fun c hc => by rw [hs, if_neg (by omega), if_neg (by omega), if_neg (by omega), if_neg (by omega), if_neg (by omega), if_neg (by omega)]
  intro k j n h
  unfold lk at h
  rcases h with ⟨rfl, hj, rfl⟩ | ⟨p, hp, ha, hj, rfl, rfl⟩ | ⟨m, hm, ha, hj, rfl, rfl⟩ | ⟨m, hm, ha, rfl, rfl, rfl⟩ | ⟨c, hc, ha, rfl, rfl, rfl⟩ | ⟨c, hc, ha, rfl, rfl, rfl⟩ | ⟨c, hc, ha, rfl, rfl, rfl⟩ | ⟨c, hc, ha, rfl, rfl, rfl⟩ | ⟨c, hc, ha, hj, rfl, rfl⟩ | ⟨c, i, hc, ha, hi, hj, hr, rfl, rfl⟩ | ⟨c, i, hc, ha, hi, hj, rfl, rfl⟩ | ⟨c, t, hc, ha, ht, hr, hj, rfl, rfl⟩
  · have d1 : u (13) n = v (13) n := by rw [hu, if_neg (by omega), if_neg (by omega), if_neg (by omega), if_neg (by omega), if_neg (by omega), if_neg (by omega)]
    have d2 : z (n) = s (n) := by rw [hs, if_neg (by omega), if_neg (by omega), if_neg (by omega), if_neg (by omega), if_neg (by omega), if_neg (by omega)]
    exact d1.trans ((hR _ _ _ (lk_a hj)).trans d2.symm)
  · have d1 : u (13 + 4 + p) j = v (13 + 4 + p) j := by rw [hu, if_neg (by omega), if_neg (by omega), if_neg (by omega), if_neg (by omega), if_neg (by omega), if_neg (by omega)]
    have d2 : z (4 + 2 * p + j) = s (4 + 2 * p + j) := by rw [hs, if_neg (by omega), if_neg (by omega), if_neg (by omega), if_neg (by omega), if_neg (by omega), if_neg (by omega)]
    exact d1.trans ((hR _ _ _ (lk_p hp (by omega) hj)).trans d2.symm)
  · have d1 : u (13 + 12 + m) j = v (13 + 12 + m) j := by rw [hu, if_neg (by omega), if_neg (by omega), if_neg (by omega), if_neg (by omega), if_neg (by omega), if_neg (by omega)]
    have d2 : z (20 + 2 * m + j) = s (20 + 2 * m + j) := by rw [hs, if_neg (by omega), if_neg (by omega), if_neg (by omega), if_neg (by omega), if_neg (by omega), if_neg (by omega)]
    exact d1.trans ((hR _ _ _ (lk_m hm (by omega) hj)).trans d2.symm)
  · have d1 : u (13 + 12 + m) 2 = v (13 + 12 + m) 2 := by rw [hu, if_neg (by omega), if_neg (by omega), if_neg (by omega), if_neg (by omega), if_neg (by omega), if_neg (by omega)]
    have d2 : z (28 + m) = s (28 + m) := by rw [hs, if_neg (by omega), if_neg (by omega), if_neg (by omega), if_neg (by omega), if_neg (by omega), if_neg (by omega)]
    exact d1.trans ((hR _ _ _ (lk_k_ hm (by omega))).trans d2.symm)
  · have d1 : u (13 + 16 + 15 * c) 0 = v (13 + 16 + 15 * c) 0 := by rw [hu, if_neg (by omega), if_neg (by omega), if_neg (by omega), if_neg (by omega), if_neg (by omega), if_neg (by omega)]
    have d2 : z (34 + 7 * c) = s (34 + 7 * c) := by rw [hs, if_neg (by omega), if_neg (by omega), if_neg (by omega), if_neg (by omega), if_neg (by omega), if_neg (by omega)]
    exact d1.trans ((hR _ _ _ (lk_c0 hc (by omega))).trans d2.symm)
  · by_cases e0 : 13 + 16 + 15 * c = 29 + 15 * X ∧ 2 = 2
    · have d1 : u (13 + 16 + 15 * c) 2 = y := by rw [hu, if_neg (by omega), if_neg (by omega), if_pos (by omega)]
      have d2 : z (36 + 7 * c) = y := by rw [hs, if_neg (by omega), if_neg (by omega), if_pos (by omega)]
      exact d1.trans d2.symm
    · skip
      have d1 : u (13 + 16 + 15 * c) 2 = v (13 + 16 + 15 * c) 2 := by rw [hu, if_neg (by omega), if_neg (by omega), if_neg (by omega), if_neg (by omega), if_neg (by omega), if_neg (by omega)]
      have d2 : z (36 + 7 * c) = s (36 + 7 * c) := by rw [hs, if_neg (by omega), if_neg (by omega), if_neg (by omega), if_neg (by omega), if_neg (by omega), if_neg (by omega)]
      exact d1.trans ((hR _ _ _ (lk_c2 hc (by omega))).trans d2.symm)
  · have d1 : u (13 + 16 + 15 * c) 3 = v (13 + 16 + 15 * c) 3 := by rw [hu, if_neg (by omega), if_neg (by omega), if_neg (by omega), if_neg (by omega), if_neg (by omega), if_neg (by omega)]
    have d2 : z (37 + 7 * c) = s (37 + 7 * c) := by rw [hs, if_neg (by omega), if_neg (by omega), if_neg (by omega), if_neg (by omega), if_neg (by omega), if_neg (by omega)]
    exact d1.trans ((hR _ _ _ (lk_c3 hc (by omega))).trans d2.symm)
  · have d1 : u (13 + 16 + 15 * c) 5 = v (13 + 16 + 15 * c) 5 := by rw [hu, if_neg (by omega), if_neg (by omega), if_neg (by omega), if_neg (by omega), if_neg (by omega), if_neg (by omega)]
    have d2 : z (38 + 7 * c) = s (38 + 7 * c) := by rw [hs, if_neg (by omega), if_neg (by omega), if_neg (by omega), if_neg (by omega), if_neg (by omega), if_neg (by omega)]
    exact d1.trans ((hR _ _ _ (lk_c5 hc (by omega))).trans d2.symm)
  · have d1 : u (13 + 17 + 15 * c) j = v (13 + 17 + 15 * c) j := by rw [hu, if_neg (by omega), if_neg (by omega), if_neg (by omega), if_neg (by omega), if_neg (by omega), if_neg (by omega)]
    have d2 : z (32 + 7 * c + j) = s (32 + 7 * c + j) := by rw [hs, if_neg (by omega), if_neg (by omega), if_neg (by omega), if_neg (by omega), if_neg (by omega), if_neg (by omega)]
    exact d1.trans ((hR _ _ _ (lk_q hc (by omega) hj)).trans d2.symm)
  · have a36 := A36 c hc
    have hnc : c = X → (s (36 + 7 * c)).toInt = (R : Int) := fun q => by rw [q]; exact hn
    by_cases e0 : 13 + 20 + 15 * c + i = 33 + 15 * X + 1 ∧ j = R
    · have d1 : u (13 + 20 + 15 * c + i) j = g := by rw [hu, if_neg (by omega), if_neg (by omega), if_neg (by omega), if_pos (by omega)]
      have d2 : z (86 + 10 * c + 2 * j + i) = g := by rw [hs, if_neg (by omega), if_neg (by omega), if_neg (by omega), if_pos (by omega)]
      exact d1.trans d2.symm
    · skip
      by_cases e1 : 13 + 20 + 15 * c + i = 33 + 15 * X + 0 ∧ j = R
      · have d1 : u (13 + 20 + 15 * c + i) j = a := by rw [hu, if_neg (by omega), if_neg (by omega), if_neg (by omega), if_neg (by omega), if_pos (by omega)]
        have d2 : z (86 + 10 * c + 2 * j + i) = a := by rw [hs, if_neg (by omega), if_neg (by omega), if_neg (by omega), if_neg (by omega), if_pos (by omega)]
        exact d1.trans d2.symm
      · skip
        have d1 : u (13 + 20 + 15 * c + i) j = v (13 + 20 + 15 * c + i) j := by rw [hu, if_neg (by omega), if_neg (by omega), if_neg (by omega), if_neg (by omega), if_neg (by omega), if_neg (by omega)]
        have d2 : z (86 + 10 * c + 2 * j + i) = s (86 + 10 * c + 2 * j + i) := by rw [hs, if_neg (by omega), if_neg (by omega), if_neg (by omega), if_neg (by omega), if_neg (by omega), if_neg (by omega)]
        exact d1.trans ((hR _ _ _ (lk_o hc (by omega) hi hj (by omega))).trans d2.symm)
  · have d1 : u (13 + 23 + 15 * c + i) j = v (13 + 23 + 15 * c + i) j := by rw [hu, if_neg (by omega), if_neg (by omega), if_neg (by omega), if_neg (by omega), if_neg (by omega), if_neg (by omega)]
    have d2 : z (308 + 48 * c + 24 * i + j) = s (308 + 48 * c + 24 * i + j) := by rw [hs, if_neg (by omega), if_neg (by omega), if_neg (by omega), if_neg (by omega), if_neg (by omega), if_neg (by omega)]
    exact d1.trans ((hR _ _ _ (lk_l hc (by omega) hi hj)).trans d2.symm)
  · have a38 := A38 c hc
    have d1 : u (13 + 26 + 15 * c + t) j = v (13 + 26 + 15 * c + t) j := by rw [hu, if_neg (by omega), if_neg (by omega), if_neg (by omega), if_neg (by omega), if_neg (by omega), if_neg (by omega)]
    have d2 : z (158 + 25 * c + 5 * t + j) = s (158 + 25 * c + 5 * t + j) := by rw [hs, if_neg (by omega), if_neg (by omega), if_neg (by omega), if_neg (by omega), if_neg (by omega), if_neg (by omega)]
    exact d1.trans ((hR _ _ _ (lk_t hc (by omega) ht (by omega) hj)).trans d2.symm)

set_option maxHeartbeats 4000000 in
theorem RL_yes1 {v u : Nat → Nat → Int32} {s z : Nat → Int32} {X R : Nat} {x y g a w : Int32} (hX : X < 6) (hR5 : R < 5) (hn : (s (36 + 7 * X)).toInt = (R : Int)) (hx : y.toInt = (s (36 + 7 * X)).toInt + 1) (hu : ∀ k j : Nat, u k j = if k = 29 + 15 * X ∧ j = 1 then w else if k = 29 + 15 * X ∧ j = 0 then 1 else if k = 29 + 15 * X ∧ j = 2 then y else if k = 33 + 15 * X + 1 ∧ j = R then g else if k = 33 + 15 * X + 0 ∧ j = R then a else if k = 31 + 15 * X ∧ j = 1 then x else v k j) (hs : ∀ n : Nat, z n = if n = 35 + 7 * X then w else if n = 34 + 7 * X then 1 else if n = 75 + 2 * X then -5 else if n = 74 + 2 * X then -5 else if n = 36 + 7 * X then y else if n = 87 + 10 * X + 2 * R then g else if n = 86 + 10 * X + 2 * R then a else if n = 75 + 2 * X then x else s n) (hR : RLk 13 v s) : RLk 13 u z := by
  have A0 : (z 0).toInt = (s 0).toInt := by rw [hs, if_neg (by omega), if_neg (by omega), if_neg (by omega), if_neg (by omega), if_neg (by omega), if_neg (by omega), if_neg (by omega), if_neg (by omega)]
  have A1 : (z 1).toInt = (s 1).toInt := by rw [hs, if_neg (by omega), if_neg (by omega), if_neg (by omega), if_neg (by omega), if_neg (by omega), if_neg (by omega), if_neg (by omega), if_neg (by omega)]
  have A2 : (z 2).toInt = (s 2).toInt := by rw [hs, if_neg (by omega), if_neg (by omega), if_neg (by omega), if_neg (by omega), if_neg (by omega), if_neg (by omega), if_neg (by omega), if_neg (by omega)]
  have A36 : ∀ c : Nat, c < 6 → (z (36 + 7 * c)).toInt = (s (36 + 7 * c)).toInt ∨ (c = X ∧ (z (36 + 7 * c)).toInt = (s (36 + 7 * c)).toInt + 1) := fun c hc => by by_cases q : c = X; subst q; refine Or.inr ⟨rfl, ?_⟩; rw [hs, if_neg (by omega), if_neg (by omega), if_neg (by omega), if_neg (by omega), if_pos rfl]; exact hx; refine Or.inl ?_; rw [hs, if_neg (by omega), if_neg (by omega), if_neg (by omega), if_neg (by omega), if_neg (by omega), if_neg (by omega), if_neg (by omega), if_neg (by omega)]
  have A38 : ∀ c : Nat, c < 6 → (z (38 + 7 * c)).toInt = (s (38 + 7 * c)).toInt := fun c hc => by rw [hs, if_neg (by omega), if_neg (by omega), if_neg (by omega), if_neg (by omega), if_neg (by omega), if_neg (by omega), if_neg (by omega), if_neg (by omega)]
  intro k j n h
  unfold lk at h
  rcases h with ⟨rfl, hj, rfl⟩ | ⟨p, hp, ha, hj, rfl, rfl⟩ | ⟨m, hm, ha, hj, rfl, rfl⟩ | ⟨m, hm, ha, rfl, rfl, rfl⟩ | ⟨c, hc, ha, rfl, rfl, rfl⟩ | ⟨c, hc, ha, rfl, rfl, rfl⟩ | ⟨c, hc, ha, rfl, rfl, rfl⟩ | ⟨c, hc, ha, rfl, rfl, rfl⟩ | ⟨c, hc, ha, hj, rfl, rfl⟩ | ⟨c, i, hc, ha, hi, hj, hr, rfl, rfl⟩ | ⟨c, i, hc, ha, hi, hj, rfl, rfl⟩ | ⟨c, t, hc, ha, ht, hr, hj, rfl, rfl⟩
  · have d1 : u (13) n = v (13) n := by rw [hu, if_neg (by omega), if_neg (by omega), if_neg (by omega), if_neg (by omega), if_neg (by omega), if_neg (by omega)]
    have d2 : z (n) = s (n) := by rw [hs, if_neg (by omega), if_neg (by omega), if_neg (by omega), if_neg (by omega), if_neg (by omega), if_neg (by omega), if_neg (by omega), if_neg (by omega)]
    exact d1.trans ((hR _ _ _ (lk_a hj)).trans d2.symm)
  · have d1 : u (13 + 4 + p) j = v (13 + 4 + p) j := by rw [hu, if_neg (by omega), if_neg (by omega), if_neg (by omega), if_neg (by omega), if_neg (by omega), if_neg (by omega)]
    have d2 : z (4 + 2 * p + j) = s (4 + 2 * p + j) := by rw [hs, if_neg (by omega), if_neg (by omega), if_neg (by omega), if_neg (by omega), if_neg (by omega), if_neg (by omega), if_neg (by omega), if_neg (by omega)]
    exact d1.trans ((hR _ _ _ (lk_p hp (by omega) hj)).trans d2.symm)
  · have d1 : u (13 + 12 + m) j = v (13 + 12 + m) j := by rw [hu, if_neg (by omega), if_neg (by omega), if_neg (by omega), if_neg (by omega), if_neg (by omega), if_neg (by omega)]
    have d2 : z (20 + 2 * m + j) = s (20 + 2 * m + j) := by rw [hs, if_neg (by omega), if_neg (by omega), if_neg (by omega), if_neg (by omega), if_neg (by omega), if_neg (by omega), if_neg (by omega), if_neg (by omega)]
    exact d1.trans ((hR _ _ _ (lk_m hm (by omega) hj)).trans d2.symm)
  · have d1 : u (13 + 12 + m) 2 = v (13 + 12 + m) 2 := by rw [hu, if_neg (by omega), if_neg (by omega), if_neg (by omega), if_neg (by omega), if_neg (by omega), if_neg (by omega)]
    have d2 : z (28 + m) = s (28 + m) := by rw [hs, if_neg (by omega), if_neg (by omega), if_neg (by omega), if_neg (by omega), if_neg (by omega), if_neg (by omega), if_neg (by omega), if_neg (by omega)]
    exact d1.trans ((hR _ _ _ (lk_k_ hm (by omega))).trans d2.symm)
  · by_cases e0 : 13 + 16 + 15 * c = 29 + 15 * X ∧ 0 = 0
    · have d1 : u (13 + 16 + 15 * c) 0 = 1 := by rw [hu, if_neg (by omega), if_pos (by omega)]
      have d2 : z (34 + 7 * c) = 1 := by rw [hs, if_neg (by omega), if_pos (by omega)]
      exact d1.trans d2.symm
    · skip
      have d1 : u (13 + 16 + 15 * c) 0 = v (13 + 16 + 15 * c) 0 := by rw [hu, if_neg (by omega), if_neg (by omega), if_neg (by omega), if_neg (by omega), if_neg (by omega), if_neg (by omega)]
      have d2 : z (34 + 7 * c) = s (34 + 7 * c) := by rw [hs, if_neg (by omega), if_neg (by omega), if_neg (by omega), if_neg (by omega), if_neg (by omega), if_neg (by omega), if_neg (by omega), if_neg (by omega)]
      exact d1.trans ((hR _ _ _ (lk_c0 hc (by omega))).trans d2.symm)
  · by_cases e0 : 13 + 16 + 15 * c = 29 + 15 * X ∧ 2 = 2
    · have d1 : u (13 + 16 + 15 * c) 2 = y := by rw [hu, if_neg (by omega), if_neg (by omega), if_pos (by omega)]
      have d2 : z (36 + 7 * c) = y := by rw [hs, if_neg (by omega), if_neg (by omega), if_neg (by omega), if_neg (by omega), if_pos (by omega)]
      exact d1.trans d2.symm
    · skip
      have d1 : u (13 + 16 + 15 * c) 2 = v (13 + 16 + 15 * c) 2 := by rw [hu, if_neg (by omega), if_neg (by omega), if_neg (by omega), if_neg (by omega), if_neg (by omega), if_neg (by omega)]
      have d2 : z (36 + 7 * c) = s (36 + 7 * c) := by rw [hs, if_neg (by omega), if_neg (by omega), if_neg (by omega), if_neg (by omega), if_neg (by omega), if_neg (by omega), if_neg (by omega), if_neg (by omega)]
      exact d1.trans ((hR _ _ _ (lk_c2 hc (by omega))).trans d2.symm)
  · have d1 : u (13 + 16 + 15 * c) 3 = v (13 + 16 + 15 * c) 3 := by rw [hu, if_neg (by omega), if_neg (by omega), if_neg (by omega), if_neg (by omega), if_neg (by omega), if_neg (by omega)]
    have d2 : z (37 + 7 * c) = s (37 + 7 * c) := by rw [hs, if_neg (by omega), if_neg (by omega), if_neg (by omega), if_neg (by omega), if_neg (by omega), if_neg (by omega), if_neg (by omega), if_neg (by omega)]
    exact d1.trans ((hR _ _ _ (lk_c3 hc (by omega))).trans d2.symm)
  · have d1 : u (13 + 16 + 15 * c) 5 = v (13 + 16 + 15 * c) 5 := by rw [hu, if_neg (by omega), if_neg (by omega), if_neg (by omega), if_neg (by omega), if_neg (by omega), if_neg (by omega)]
    have d2 : z (38 + 7 * c) = s (38 + 7 * c) := by rw [hs, if_neg (by omega), if_neg (by omega), if_neg (by omega), if_neg (by omega), if_neg (by omega), if_neg (by omega), if_neg (by omega), if_neg (by omega)]
    exact d1.trans ((hR _ _ _ (lk_c5 hc (by omega))).trans d2.symm)
  · have d1 : u (13 + 17 + 15 * c) j = v (13 + 17 + 15 * c) j := by rw [hu, if_neg (by omega), if_neg (by omega), if_neg (by omega), if_neg (by omega), if_neg (by omega), if_neg (by omega)]
    have d2 : z (32 + 7 * c + j) = s (32 + 7 * c + j) := by rw [hs, if_neg (by omega), if_neg (by omega), if_neg (by omega), if_neg (by omega), if_neg (by omega), if_neg (by omega), if_neg (by omega), if_neg (by omega)]
    exact d1.trans ((hR _ _ _ (lk_q hc (by omega) hj)).trans d2.symm)
  · have a36 := A36 c hc
    have hnc : c = X → (s (36 + 7 * c)).toInt = (R : Int) := fun q => by rw [q]; exact hn
    by_cases e0 : 13 + 20 + 15 * c + i = 33 + 15 * X + 1 ∧ j = R
    · have d1 : u (13 + 20 + 15 * c + i) j = g := by rw [hu, if_neg (by omega), if_neg (by omega), if_neg (by omega), if_pos (by omega)]
      have d2 : z (86 + 10 * c + 2 * j + i) = g := by rw [hs, if_neg (by omega), if_neg (by omega), if_neg (by omega), if_neg (by omega), if_neg (by omega), if_pos (by omega)]
      exact d1.trans d2.symm
    · skip
      by_cases e1 : 13 + 20 + 15 * c + i = 33 + 15 * X + 0 ∧ j = R
      · have d1 : u (13 + 20 + 15 * c + i) j = a := by rw [hu, if_neg (by omega), if_neg (by omega), if_neg (by omega), if_neg (by omega), if_pos (by omega)]
        have d2 : z (86 + 10 * c + 2 * j + i) = a := by rw [hs, if_neg (by omega), if_neg (by omega), if_neg (by omega), if_neg (by omega), if_neg (by omega), if_neg (by omega), if_pos (by omega)]
        exact d1.trans d2.symm
      · skip
        have d1 : u (13 + 20 + 15 * c + i) j = v (13 + 20 + 15 * c + i) j := by rw [hu, if_neg (by omega), if_neg (by omega), if_neg (by omega), if_neg (by omega), if_neg (by omega), if_neg (by omega)]
        have d2 : z (86 + 10 * c + 2 * j + i) = s (86 + 10 * c + 2 * j + i) := by rw [hs, if_neg (by omega), if_neg (by omega), if_neg (by omega), if_neg (by omega), if_neg (by omega), if_neg (by omega), if_neg (by omega), if_neg (by omega)]
        exact d1.trans ((hR _ _ _ (lk_o hc (by omega) hi hj (by omega))).trans d2.symm)
  · have d1 : u (13 + 23 + 15 * c + i) j = v (13 + 23 + 15 * c + i) j := by rw [hu, if_neg (by omega), if_neg (by omega), if_neg (by omega), if_neg (by omega), if_neg (by omega), if_neg (by omega)]
    have d2 : z (308 + 48 * c + 24 * i + j) = s (308 + 48 * c + 24 * i + j) := by rw [hs, if_neg (by omega), if_neg (by omega), if_neg (by omega), if_neg (by omega), if_neg (by omega), if_neg (by omega), if_neg (by omega), if_neg (by omega)]
    exact d1.trans ((hR _ _ _ (lk_l hc (by omega) hi hj)).trans d2.symm)
  · have a38 := A38 c hc
    have d1 : u (13 + 26 + 15 * c + t) j = v (13 + 26 + 15 * c + t) j := by rw [hu, if_neg (by omega), if_neg (by omega), if_neg (by omega), if_neg (by omega), if_neg (by omega), if_neg (by omega)]
    have d2 : z (158 + 25 * c + 5 * t + j) = s (158 + 25 * c + 5 * t + j) := by rw [hs, if_neg (by omega), if_neg (by omega), if_neg (by omega), if_neg (by omega), if_neg (by omega), if_neg (by omega), if_neg (by omega), if_neg (by omega)]
    exact d1.trans ((hR _ _ _ (lk_t hc (by omega) ht (by omega) hj)).trans d2.symm)

set_option maxHeartbeats 4000000 in
theorem RX_box1 {v u : Nat → Nat → Int32} {s z : Nat → Int32} {X : Nat} {x : Int32} (hX : X < 6) (hx : 0 ≤ x.toInt ∧ x.toInt ≤ 100) (hu : ∀ k j : Nat, u k j = if k = 31 + 15 * X ∧ j = 1 then x else v k j) (hs : ∀ n : Nat, z n = if n = 75 + 2 * X then x else s n) (h : RX 13 v s) : RX 13 u z := by
  intro c hc hac
  have a2 : z 2 = s 2 := by rw [hs, if_neg (by omega)]
  have hh := h c hc (by rw [a2] at hac; exact hac)
  by_cases hq : c = X
  · subst hq
    have g0 : u (13 + 16 + 15 * c) 1 = v (13 + 16 + 15 * c) 1 := by rw [hu, if_neg (by omega)]
    have g1 : u (13 + 18 + 15 * c) 0 = v (13 + 18 + 15 * c) 0 := by rw [hu, if_neg (by omega)]
    have g2 : u (13 + 18 + 15 * c) 1 = x := by rw [hu, if_pos (by omega)]
    have g3 : z (34 + 7 * c) = s (34 + 7 * c) := by rw [hs, if_neg (by omega)]
    have g4 : z (35 + 7 * c) = s (35 + 7 * c) := by rw [hs, if_neg (by omega)]
    have g5 : z (74 + 2 * c) = s (74 + 2 * c) := by rw [hs, if_neg (by omega)]
    have g6 : z (75 + 2 * c) = x := by rw [hs, if_pos (by omega)]
    rw [g0, g1, g2, g3, g4, g5, g6]
    obtain ⟨r1, r2, r3, r4⟩ := hh
    exact ⟨r1, r2, r3, fun q => ⟨(r4 q).1, Or.inr ⟨hx.1, hx.2, rfl⟩⟩⟩
  · have d1 : u (13 + 16 + 15 * c) 1 = v (13 + 16 + 15 * c) 1 := by rw [hu, if_neg (by omega)]
    have d2 : u (13 + 18 + 15 * c) 0 = v (13 + 18 + 15 * c) 0 := by rw [hu, if_neg (by omega)]
    have d3 : u (13 + 18 + 15 * c) 1 = v (13 + 18 + 15 * c) 1 := by rw [hu, if_neg (by omega)]
    have f0 : z (34 + 7 * c) = s (34 + 7 * c) := by rw [hs, if_neg (by omega)]
    have f1 : z (35 + 7 * c) = s (35 + 7 * c) := by rw [hs, if_neg (by omega)]
    have f2 : z (74 + 2 * c) = s (74 + 2 * c) := by rw [hs, if_neg (by omega)]
    have f3 : z (75 + 2 * c) = s (75 + 2 * c) := by rw [hs, if_neg (by omega)]
    rw [d1, d2, d3, f0, f1, f2, f3]
    exact hh

set_option maxHeartbeats 4000000 in
theorem RX_no1 {v u : Nat → Nat → Int32} {s z : Nat → Int32} {X R : Nat} {x y g a : Int32} (hX : X < 6) (hR5 : R < 5) (hu : ∀ k j : Nat, u k j = if k = 31 + 15 * X ∧ j = 1 then -1 else if k = 31 + 15 * X ∧ j = 0 then -1 else if k = 29 + 15 * X ∧ j = 2 then y else if k = 33 + 15 * X + 1 ∧ j = R then g else if k = 33 + 15 * X + 0 ∧ j = R then a else if k = 31 + 15 * X ∧ j = 1 then x else v k j) (hs : ∀ n : Nat, z n = if n = 75 + 2 * X then -5 else if n = 74 + 2 * X then -5 else if n = 36 + 7 * X then y else if n = 87 + 10 * X + 2 * R then g else if n = 86 + 10 * X + 2 * R then a else if n = 75 + 2 * X then x else s n) (h : RX 13 v s) : RX 13 u z := by
  intro c hc hac
  have a2 : z 2 = s 2 := by rw [hs, if_neg (by omega), if_neg (by omega), if_neg (by omega), if_neg (by omega), if_neg (by omega), if_neg (by omega)]
  have hh := h c hc (by rw [a2] at hac; exact hac)
  by_cases hq : c = X
  · subst hq
    have g0 : u (13 + 16 + 15 * c) 1 = v (13 + 16 + 15 * c) 1 := by rw [hu, if_neg (by omega), if_neg (by omega), if_neg (by omega), if_neg (by omega), if_neg (by omega), if_neg (by omega)]
    have g1 : u (13 + 18 + 15 * c) 0 = -1 := by rw [hu, if_neg (by omega), if_pos (by omega)]
    have g2 : u (13 + 18 + 15 * c) 1 = -1 := by rw [hu, if_pos (by omega)]
    have g3 : z (34 + 7 * c) = s (34 + 7 * c) := by rw [hs, if_neg (by omega), if_neg (by omega), if_neg (by omega), if_neg (by omega), if_neg (by omega), if_neg (by omega)]
    have g4 : z (35 + 7 * c) = s (35 + 7 * c) := by rw [hs, if_neg (by omega), if_neg (by omega), if_neg (by omega), if_neg (by omega), if_neg (by omega), if_neg (by omega)]
    have g5 : z (74 + 2 * c) = -5 := by rw [hs, if_neg (by omega), if_pos (by omega)]
    have g6 : z (75 + 2 * c) = -5 := by rw [hs, if_pos (by omega)]
    rw [g0, g1, g2, g3, g4, g5, g6]
    obtain ⟨r1, r2, r3, r4⟩ := hh
    exact ⟨r1, r2, r3, fun q => ⟨Or.inl ⟨by decide, by decide⟩, Or.inl ⟨by decide, by decide⟩⟩⟩
  · have d1 : u (13 + 16 + 15 * c) 1 = v (13 + 16 + 15 * c) 1 := by rw [hu, if_neg (by omega), if_neg (by omega), if_neg (by omega), if_neg (by omega), if_neg (by omega), if_neg (by omega)]
    have d2 : u (13 + 18 + 15 * c) 0 = v (13 + 18 + 15 * c) 0 := by rw [hu, if_neg (by omega), if_neg (by omega), if_neg (by omega), if_neg (by omega), if_neg (by omega), if_neg (by omega)]
    have d3 : u (13 + 18 + 15 * c) 1 = v (13 + 18 + 15 * c) 1 := by rw [hu, if_neg (by omega), if_neg (by omega), if_neg (by omega), if_neg (by omega), if_neg (by omega), if_neg (by omega)]
    have f0 : z (34 + 7 * c) = s (34 + 7 * c) := by rw [hs, if_neg (by omega), if_neg (by omega), if_neg (by omega), if_neg (by omega), if_neg (by omega), if_neg (by omega)]
    have f1 : z (35 + 7 * c) = s (35 + 7 * c) := by rw [hs, if_neg (by omega), if_neg (by omega), if_neg (by omega), if_neg (by omega), if_neg (by omega), if_neg (by omega)]
    have f2 : z (74 + 2 * c) = s (74 + 2 * c) := by rw [hs, if_neg (by omega), if_neg (by omega), if_neg (by omega), if_neg (by omega), if_neg (by omega), if_neg (by omega)]
    have f3 : z (75 + 2 * c) = s (75 + 2 * c) := by rw [hs, if_neg (by omega), if_neg (by omega), if_neg (by omega), if_neg (by omega), if_neg (by omega), if_neg (by omega)]
    rw [d1, d2, d3, f0, f1, f2, f3]
    exact hh

set_option maxHeartbeats 4000000 in
theorem RX_yes1 {v u : Nat → Nat → Int32} {s z : Nat → Int32} {X R : Nat} {x y g a w : Int32} (hX : X < 6) (hR5 : R < 5) (hu : ∀ k j : Nat, u k j = if k = 29 + 15 * X ∧ j = 1 then w else if k = 29 + 15 * X ∧ j = 0 then 1 else if k = 29 + 15 * X ∧ j = 2 then y else if k = 33 + 15 * X + 1 ∧ j = R then g else if k = 33 + 15 * X + 0 ∧ j = R then a else if k = 31 + 15 * X ∧ j = 1 then x else v k j) (hs : ∀ n : Nat, z n = if n = 35 + 7 * X then w else if n = 34 + 7 * X then 1 else if n = 75 + 2 * X then -5 else if n = 74 + 2 * X then -5 else if n = 36 + 7 * X then y else if n = 87 + 10 * X + 2 * R then g else if n = 86 + 10 * X + 2 * R then a else if n = 75 + 2 * X then x else s n) (h : RX 13 v s) : RX 13 u z := by
  intro c hc hac
  have a2 : z 2 = s 2 := by rw [hs, if_neg (by omega), if_neg (by omega), if_neg (by omega), if_neg (by omega), if_neg (by omega), if_neg (by omega), if_neg (by omega), if_neg (by omega)]
  have hh := h c hc (by rw [a2] at hac; exact hac)
  by_cases hq : c = X
  · subst hq
    have g0 : u (13 + 16 + 15 * c) 1 = w := by rw [hu, if_pos (by omega)]
    have g1 : u (13 + 18 + 15 * c) 0 = v (13 + 18 + 15 * c) 0 := by rw [hu, if_neg (by omega), if_neg (by omega), if_neg (by omega), if_neg (by omega), if_neg (by omega), if_neg (by omega)]
    have g2 : u (13 + 18 + 15 * c) 1 = x := by rw [hu, if_neg (by omega), if_neg (by omega), if_neg (by omega), if_neg (by omega), if_neg (by omega), if_pos (by omega)]
    have g3 : z (34 + 7 * c) = 1 := by rw [hs, if_neg (by omega), if_pos (by omega)]
    have g4 : z (35 + 7 * c) = w := by rw [hs, if_pos (by omega)]
    have g5 : z (74 + 2 * c) = -5 := by rw [hs, if_neg (by omega), if_neg (by omega), if_neg (by omega), if_pos (by omega)]
    have g6 : z (75 + 2 * c) = -5 := by rw [hs, if_neg (by omega), if_neg (by omega), if_pos (by omega)]
    rw [g0, g1, g2, g3, g4, g5, g6]
    have k1 : (1 : Int32).toInt = 1 := by decide
    exact ⟨by omega, fun _ => rfl, fun q => absurd k1 q, fun q => absurd q (by omega)⟩
  · have d1 : u (13 + 16 + 15 * c) 1 = v (13 + 16 + 15 * c) 1 := by rw [hu, if_neg (by omega), if_neg (by omega), if_neg (by omega), if_neg (by omega), if_neg (by omega), if_neg (by omega)]
    have d2 : u (13 + 18 + 15 * c) 0 = v (13 + 18 + 15 * c) 0 := by rw [hu, if_neg (by omega), if_neg (by omega), if_neg (by omega), if_neg (by omega), if_neg (by omega), if_neg (by omega)]
    have d3 : u (13 + 18 + 15 * c) 1 = v (13 + 18 + 15 * c) 1 := by rw [hu, if_neg (by omega), if_neg (by omega), if_neg (by omega), if_neg (by omega), if_neg (by omega), if_neg (by omega)]
    have f0 : z (34 + 7 * c) = s (34 + 7 * c) := by rw [hs, if_neg (by omega), if_neg (by omega), if_neg (by omega), if_neg (by omega), if_neg (by omega), if_neg (by omega), if_neg (by omega), if_neg (by omega)]
    have f1 : z (35 + 7 * c) = s (35 + 7 * c) := by rw [hs, if_neg (by omega), if_neg (by omega), if_neg (by omega), if_neg (by omega), if_neg (by omega), if_neg (by omega), if_neg (by omega), if_neg (by omega)]
    have f2 : z (74 + 2 * c) = s (74 + 2 * c) := by rw [hs, if_neg (by omega), if_neg (by omega), if_neg (by omega), if_neg (by omega), if_neg (by omega), if_neg (by omega), if_neg (by omega), if_neg (by omega)]
    have f3 : z (75 + 2 * c) = s (75 + 2 * c) := by rw [hs, if_neg (by omega), if_neg (by omega), if_neg (by omega), if_neg (by omega), if_neg (by omega), if_neg (by omega), if_neg (by omega), if_neg (by omega)]
    rw [d1, d2, d3, f0, f1, f2, f3]
    exact hh

set_option maxHeartbeats 4000000 in
theorem T_offer_1 {n r r2 x0 x1 : Int32} {v u v2 u2 : Nat → Nat → Int32} (hI : Iv v) (hQ : Ir v2) (h : RR n v v2) (p : (¬ ((0 ≤ x0.toInt ∧ x0.toInt < (v 13 2).toInt) ∧ 0 ≤ x1.toInt ∧ x1.toInt ≤ 100) → r = -1 ∧ u = v) ∧ (((0 ≤ x0.toInt ∧ x0.toInt < (v 13 2).toInt) ∧ 0 ≤ x1.toInt ∧ x1.toInt ≤ 100) ∧ (v (29 + 15 * x0.toNatClampNeg) 0).toInt ≠ 0 → r = -4 ∧ u = v) ∧ (((0 ≤ x0.toInt ∧ x0.toInt < (v 13 2).toInt) ∧ 0 ≤ x1.toInt ∧ x1.toInt ≤ 100) ∧ (v (29 + 15 * x0.toNatClampNeg) 0).toInt = 0 ∧ (v (31 + 15 * x0.toNatClampNeg) 1).toInt ≠ -1 → r = -3 ∧ u = v) ∧ (((0 ≤ x0.toInt ∧ x0.toInt < (v 13 2).toInt) ∧ 0 ≤ x1.toInt ∧ x1.toInt ≤ 100) ∧ (v (29 + 15 * x0.toNatClampNeg) 0).toInt = 0 ∧ (v (31 + 15 * x0.toNatClampNeg) 1).toInt = -1 ∧ 5 ≤ (v (29 + 15 * x0.toNatClampNeg) 2).toInt → r = -2 ∧ u = v) ∧ (((0 ≤ x0.toInt ∧ x0.toInt < (v 13 2).toInt) ∧ 0 ≤ x1.toInt ∧ x1.toInt ≤ 100) ∧ (v (29 + 15 * x0.toNatClampNeg) 0).toInt = 0 ∧ (v (31 + 15 * x0.toNatClampNeg) 1).toInt = -1 ∧ (v (29 + 15 * x0.toNatClampNeg) 2).toInt < 5 ∧ (v (31 + 15 * x0.toNatClampNeg) 0).toInt = -1 → r = 0 ∧ (∀ k j : Nat, u k j = if k = 31 + 15 * x0.toNatClampNeg ∧ j = 1 then x1 else v k j)) ∧ (((0 ≤ x0.toInt ∧ x0.toInt < (v 13 2).toInt) ∧ 0 ≤ x1.toInt ∧ x1.toInt ≤ 100) ∧ (v (29 + 15 * x0.toNatClampNeg) 0).toInt = 0 ∧ (v (31 + 15 * x0.toNatClampNeg) 1).toInt = -1 ∧ (v (29 + 15 * x0.toNatClampNeg) 2).toInt < 5 ∧ (v (31 + 15 * x0.toNatClampNeg) 0).toInt ≠ -1 ∧ x1.toInt < (v (31 + 15 * x0.toNatClampNeg) 0).toInt → r = 2 ∧ (∀ k j : Nat, u k j = if k = 31 + 15 * x0.toNatClampNeg ∧ j = 1 then -1 else if k = 31 + 15 * x0.toNatClampNeg ∧ j = 0 then -1 else if k = 29 + 15 * x0.toNatClampNeg ∧ j = 2 then v (29 + 15 * x0.toNatClampNeg) 2 + 1 else if k = 33 + 15 * x0.toNatClampNeg + 1 ∧ j = (v (29 + 15 * x0.toNatClampNeg) 2).toNatClampNeg then x1 else if k = 33 + 15 * x0.toNatClampNeg + 0 ∧ j = (v (29 + 15 * x0.toNatClampNeg) 2).toNatClampNeg then v (31 + 15 * x0.toNatClampNeg) 0 else if k = 31 + 15 * x0.toNatClampNeg ∧ j = 1 then x1 else v k j)) ∧ (((0 ≤ x0.toInt ∧ x0.toInt < (v 13 2).toInt) ∧ 0 ≤ x1.toInt ∧ x1.toInt ≤ 100) ∧ (v (29 + 15 * x0.toNatClampNeg) 0).toInt = 0 ∧ (v (31 + 15 * x0.toNatClampNeg) 1).toInt = -1 ∧ (v (29 + 15 * x0.toNatClampNeg) 2).toInt < 5 ∧ (v (31 + 15 * x0.toNatClampNeg) 0).toInt ≠ -1 ∧ (v (31 + 15 * x0.toNatClampNeg) 0).toInt ≤ x1.toInt → r = 1 ∧ (∀ k j : Nat, u k j = if k = 29 + 15 * x0.toNatClampNeg ∧ j = 1 then (v (31 + 15 * x0.toNatClampNeg) 0 + x1) / 2 else if k = 29 + 15 * x0.toNatClampNeg ∧ j = 0 then 1 else if k = 29 + 15 * x0.toNatClampNeg ∧ j = 2 then v (29 + 15 * x0.toNatClampNeg) 2 + 1 else if k = 33 + 15 * x0.toNatClampNeg + 1 ∧ j = (v (29 + 15 * x0.toNatClampNeg) 2).toNatClampNeg then x1 else if k = 33 + 15 * x0.toNatClampNeg + 0 ∧ j = (v (29 + 15 * x0.toNatClampNeg) 2).toNatClampNeg then v (31 + 15 * x0.toNatClampNeg) 0 else if k = 31 + 15 * x0.toNatClampNeg ∧ j = 1 then x1 else v k j))) (q : (¬ ((0 ≤ x0.toInt ∧ x0.toInt < (v2 1 2).toInt) ∧ 0 ≤ x1.toInt ∧ x1.toInt ≤ 100) → r2 = -1 ∧ u2 = v2) ∧ (((0 ≤ x0.toInt ∧ x0.toInt < (v2 1 2).toInt) ∧ 0 ≤ x1.toInt ∧ x1.toInt ≤ 100) ∧ (v2 1 (34 + 7 * x0.toNatClampNeg)).toInt ≠ 0 → r2 = -4 ∧ u2 = v2) ∧ (((0 ≤ x0.toInt ∧ x0.toInt < (v2 1 2).toInt) ∧ 0 ≤ x1.toInt ∧ x1.toInt ≤ 100) ∧ (v2 1 (34 + 7 * x0.toNatClampNeg)).toInt = 0 ∧ 0 ≤ (v2 1 (75 + 2 * x0.toNatClampNeg)).toInt → r2 = -3 ∧ u2 = v2) ∧ (((0 ≤ x0.toInt ∧ x0.toInt < (v2 1 2).toInt) ∧ 0 ≤ x1.toInt ∧ x1.toInt ≤ 100) ∧ (v2 1 (34 + 7 * x0.toNatClampNeg)).toInt = 0 ∧ (v2 1 (75 + 2 * x0.toNatClampNeg)).toInt < 0 ∧ (v2 1 (36 + 7 * x0.toNatClampNeg)).toInt = 5 → r2 = -2 ∧ u2 = v2) ∧ (((0 ≤ x0.toInt ∧ x0.toInt < (v2 1 2).toInt) ∧ 0 ≤ x1.toInt ∧ x1.toInt ≤ 100) ∧ (v2 1 (34 + 7 * x0.toNatClampNeg)).toInt = 0 ∧ (v2 1 (75 + 2 * x0.toNatClampNeg)).toInt < 0 ∧ (v2 1 (36 + 7 * x0.toNatClampNeg)).toInt ≠ 5 ∧ (v2 1 (74 + 2 * x0.toNatClampNeg)).toInt < 0 → r2 = 0 ∧ (∀ n : Nat, u2 1 n = if n = 75 + 2 * x0.toNatClampNeg then x1 else v2 1 n) ∧ (∀ k : Nat, k ≠ 1 → u2 k = v2 k)) ∧ (((0 ≤ x0.toInt ∧ x0.toInt < (v2 1 2).toInt) ∧ 0 ≤ x1.toInt ∧ x1.toInt ≤ 100) ∧ (v2 1 (34 + 7 * x0.toNatClampNeg)).toInt = 0 ∧ (v2 1 (75 + 2 * x0.toNatClampNeg)).toInt < 0 ∧ (v2 1 (36 + 7 * x0.toNatClampNeg)).toInt ≠ 5 ∧ 0 ≤ (v2 1 (74 + 2 * x0.toNatClampNeg)).toInt ∧ x1.toInt < (v2 1 (74 + 2 * x0.toNatClampNeg)).toInt → r2 = 2 ∧ (∀ n : Nat, u2 1 n = if n = 75 + 2 * x0.toNatClampNeg then -5 else if n = 74 + 2 * x0.toNatClampNeg then -5 else if n = 36 + 7 * x0.toNatClampNeg then v2 1 (36 + 7 * x0.toNatClampNeg) + 1 else if n = 87 + 10 * x0.toNatClampNeg + 2 * (v2 1 (36 + 7 * x0.toNatClampNeg)).toNatClampNeg then x1 else if n = 86 + 10 * x0.toNatClampNeg + 2 * (v2 1 (36 + 7 * x0.toNatClampNeg)).toNatClampNeg then v2 1 (74 + 2 * x0.toNatClampNeg) else if n = 75 + 2 * x0.toNatClampNeg then x1 else v2 1 n) ∧ (∀ k : Nat, k ≠ 1 → u2 k = v2 k)) ∧ (((0 ≤ x0.toInt ∧ x0.toInt < (v2 1 2).toInt) ∧ 0 ≤ x1.toInt ∧ x1.toInt ≤ 100) ∧ (v2 1 (34 + 7 * x0.toNatClampNeg)).toInt = 0 ∧ (v2 1 (75 + 2 * x0.toNatClampNeg)).toInt < 0 ∧ (v2 1 (36 + 7 * x0.toNatClampNeg)).toInt ≠ 5 ∧ 0 ≤ (v2 1 (74 + 2 * x0.toNatClampNeg)).toInt ∧ (v2 1 (74 + 2 * x0.toNatClampNeg)).toInt ≤ x1.toInt → r2 = 1 ∧ (∀ n : Nat, u2 1 n = if n = 35 + 7 * x0.toNatClampNeg then (v2 1 (74 + 2 * x0.toNatClampNeg) + x1) / 2 else if n = 34 + 7 * x0.toNatClampNeg then 1 else if n = 75 + 2 * x0.toNatClampNeg then -5 else if n = 74 + 2 * x0.toNatClampNeg then -5 else if n = 36 + 7 * x0.toNatClampNeg then v2 1 (36 + 7 * x0.toNatClampNeg) + 1 else if n = 87 + 10 * x0.toNatClampNeg + 2 * (v2 1 (36 + 7 * x0.toNatClampNeg)).toNatClampNeg then x1 else if n = 86 + 10 * x0.toNatClampNeg + 2 * (v2 1 (36 + 7 * x0.toNatClampNeg)).toNatClampNeg then v2 1 (74 + 2 * x0.toNatClampNeg) else if n = 75 + 2 * x0.toNatClampNeg then x1 else v2 1 n) ∧ (∀ k : Nat, k ≠ 1 → u2 k = v2 k))) : r = r2 ∧ RR n u u2 := by
  have e0 : v 13 0 = v2 1 0 := h.1.1 _ _ _ (lk_a (by decide))
  have e1 : v 13 1 = v2 1 1 := h.1.1 _ _ _ (lk_a (by decide))
  have e2 : v 13 2 = v2 1 2 := h.1.1 _ _ _ (lk_a (by decide))
  have e3 : v 13 3 = v2 1 3 := h.1.1 _ _ _ (lk_a (by decide))
  have hb0 := hQ 1 0 8 (by decide)
  have hb1 := hQ 1 1 4 (by decide)
  have hb2 := hQ 1 2 6 (by decide)
  have hb3 := hQ 1 3 6 (by decide)
  rw [e2] at p
  by_cases hC : (0 ≤ x0.toInt ∧ x0.toInt < (v2 1 2).toInt) ∧ 0 ≤ x1.toInt ∧ x1.toInt ≤ 100
  · have zX := t_nn (x := x0) (by omega)
    have hX : x0.toNatClampNeg < 6 := by omega
    have ha : (x0.toNatClampNeg : Int) < (v2 1 2).toInt := by omega
    have ev : v (29 + 15 * x0.toNatClampNeg) 0 = v2 1 (34 + 7 * x0.toNatClampNeg) := h.1.1 _ _ _ (lk_c0 hX ha)
    have ew : v (29 + 15 * x0.toNatClampNeg) 2 = v2 1 (36 + 7 * x0.toNatClampNeg) := h.1.1 _ _ _ (lk_c2 hX ha)
    rw [ev, ew] at p
    have hb := hQ 1 (36 + 7 * x0.toNatClampNeg) 5 (bS_c (by omega) (by omega))
    by_cases hD : (v2 1 (34 + 7 * x0.toNatClampNeg)).toInt = 0
    · obtain ⟨hx0, hx1⟩ := (h.1.2.1 _ hX ha).2.2.2 hD
      have hbx : bxr (v (31 + 15 * x0.toNatClampNeg) 1) (v2 1 (75 + 2 * x0.toNatClampNeg)) := hx1
      have hbo : bxr (v (31 + 15 * x0.toNatClampNeg) 0) (v2 1 (74 + 2 * x0.toNatClampNeg)) := hx0
      rcases hbx with ⟨t1, t2⟩ | ⟨t1, t2, t3⟩
      · by_cases hE : (v2 1 (36 + 7 * x0.toNatClampNeg)).toInt = 5
        · obtain ⟨p1, p2⟩ := p.2.2.2.1 ⟨hC, hD, t1, by omega⟩
          obtain ⟨q1, q2⟩ := q.2.2.2.1 ⟨hC, hD, t2, hE⟩
          rw [p1, q1, p2, q2]
          exact ⟨rfl, h⟩
        · rcases hbo with ⟨o1, o2⟩ | ⟨o1, o2, o3⟩
          · obtain ⟨p1, p2⟩ := p.2.2.2.2.1 ⟨hC, hD, t1, by omega, o1⟩
            obtain ⟨q1, q2, q3⟩ := q.2.2.2.2.1 ⟨hC, hD, t2, hE, o2⟩
            exact ⟨by rw [p1, q1], h.wr q3 (funext fun j => by rw [p2, if_neg (by omega)]) (fun k hk => funext fun j => by rw [p2, if_neg (by omega)]) ⟨RL_box1 hX p2 q2 h.1.1, RX_box1 hX hC.2 p2 q2 h.1.2.1, h.1.2.2.1.cg (by rw [q2, if_neg (by omega)]) (by rw [q2, if_neg (by omega)]) (fun m hm => by rw [q2, if_neg (by omega)]), h.1.2.2.2.cg hb3.2 (by rw [q2, if_neg (by omega)]) (by rw [q2, if_neg (by omega)]) (fun n h1 h2 => by rw [q2, if_neg (by omega)]) (fun c hc => by rw [p2, if_neg (by omega)])⟩⟩
          · rw [o3] at p
            have zR := t_nn (x := v2 1 (36 + 7 * x0.toNatClampNeg)) (by omega)
            have k1 : (1 : Int32).toInt = 1 := by decide
            have hx : (v2 1 (36 + 7 * x0.toNatClampNeg) + 1).toInt = (v2 1 (36 + 7 * x0.toNatClampNeg)).toInt + 1 := by rw [t_add (by rw [k1]; omega), k1]
            rcases Int.lt_or_le x1.toInt (v2 1 (74 + 2 * x0.toNatClampNeg)).toInt with hL | hL
            · obtain ⟨p1, p2⟩ := p.2.2.2.2.2.1 ⟨hC, hD, t1, by omega, by omega, hL⟩
              obtain ⟨q1, q2, q3⟩ := q.2.2.2.2.2.1 ⟨hC, hD, t2, hE, o1, hL⟩
              exact ⟨by rw [p1, q1], h.wr q3 (funext fun j => by rw [p2, if_neg (by omega), if_neg (by omega), if_neg (by omega), if_neg (by omega), if_neg (by omega), if_neg (by omega)]) (fun k hk => funext fun j => by rw [p2, if_neg (by omega), if_neg (by omega), if_neg (by omega), if_neg (by omega), if_neg (by omega), if_neg (by omega)]) ⟨RL_no1 hX (by omega) (by omega) hx p2 q2 h.1.1, RX_no1 hX (by omega) p2 q2 h.1.2.1, h.1.2.2.1.cg (by rw [q2, if_neg (by omega), if_neg (by omega), if_neg (by omega), if_neg (by omega), if_neg (by omega), if_neg (by omega)]) (by rw [q2, if_neg (by omega), if_neg (by omega), if_neg (by omega), if_neg (by omega), if_neg (by omega), if_neg (by omega)]) (fun m hm => by rw [q2, if_neg (by omega), if_neg (by omega), if_neg (by omega), if_neg (by omega), if_neg (by omega), if_neg (by omega)]), h.1.2.2.2.cg hb3.2 (by rw [q2, if_neg (by omega), if_neg (by omega), if_neg (by omega), if_neg (by omega), if_neg (by omega), if_neg (by omega)]) (by rw [q2, if_neg (by omega), if_neg (by omega), if_neg (by omega), if_neg (by omega), if_neg (by omega), if_neg (by omega)]) (fun n h1 h2 => by rw [q2, if_neg (by omega), if_neg (by omega), if_neg (by omega), if_neg (by omega), if_neg (by omega), if_neg (by omega)]) (fun c hc => by rw [p2, if_neg (by omega), if_neg (by omega), if_neg (by omega), if_neg (by omega), if_neg (by omega), if_neg (by omega)])⟩⟩
            · obtain ⟨p1, p2⟩ := p.2.2.2.2.2.2 ⟨hC, hD, t1, by omega, by omega, hL⟩
              obtain ⟨q1, q2, q3⟩ := q.2.2.2.2.2.2 ⟨hC, hD, t2, hE, o1, hL⟩
              exact ⟨by rw [p1, q1], h.wr q3 (funext fun j => by rw [p2, if_neg (by omega), if_neg (by omega), if_neg (by omega), if_neg (by omega), if_neg (by omega), if_neg (by omega)]) (fun k hk => funext fun j => by rw [p2, if_neg (by omega), if_neg (by omega), if_neg (by omega), if_neg (by omega), if_neg (by omega), if_neg (by omega)]) ⟨RL_yes1 hX (by omega) (by omega) hx p2 q2 h.1.1, RX_yes1 hX (by omega) p2 q2 h.1.2.1, h.1.2.2.1.cg (by rw [q2, if_neg (by omega), if_neg (by omega), if_neg (by omega), if_neg (by omega), if_neg (by omega), if_neg (by omega), if_neg (by omega), if_neg (by omega)]) (by rw [q2, if_neg (by omega), if_neg (by omega), if_neg (by omega), if_neg (by omega), if_neg (by omega), if_neg (by omega), if_neg (by omega), if_neg (by omega)]) (fun m hm => by rw [q2, if_neg (by omega), if_neg (by omega), if_neg (by omega), if_neg (by omega), if_neg (by omega), if_neg (by omega), if_neg (by omega), if_neg (by omega)]), h.1.2.2.2.cg hb3.2 (by rw [q2, if_neg (by omega), if_neg (by omega), if_neg (by omega), if_neg (by omega), if_neg (by omega), if_neg (by omega), if_neg (by omega), if_neg (by omega)]) (by rw [q2, if_neg (by omega), if_neg (by omega), if_neg (by omega), if_neg (by omega), if_neg (by omega), if_neg (by omega), if_neg (by omega), if_neg (by omega)]) (fun n h1 h2 => by rw [q2, if_neg (by omega), if_neg (by omega), if_neg (by omega), if_neg (by omega), if_neg (by omega), if_neg (by omega), if_neg (by omega), if_neg (by omega)]) (fun c hc => by rw [p2, if_neg (by omega), if_neg (by omega), if_neg (by omega), if_neg (by omega), if_neg (by omega), if_neg (by omega)])⟩⟩
      · rw [t3] at p
        obtain ⟨p1, p2⟩ := p.2.2.1 ⟨hC, hD, by omega⟩
        obtain ⟨q1, q2⟩ := q.2.2.1 ⟨hC, hD, t1⟩
        rw [p1, q1, p2, q2]
        exact ⟨rfl, h⟩
    · obtain ⟨p1, p2⟩ := p.2.1 ⟨hC, hD⟩
      obtain ⟨q1, q2⟩ := q.2.1 ⟨hC, hD⟩
      rw [p1, q1, p2, q2]
      exact ⟨rfl, h⟩
  · obtain ⟨p1, p2⟩ := p.1 hC
    obtain ⟨q1, q2⟩ := q.1 hC
    rw [p1, q1, p2, q2]
    exact ⟨rfl, h⟩

set_option maxHeartbeats 4000000 in
theorem RL_open {v u : Nat → Nat → Int32} {s z : Nat → Int32} {X : Nat} {x a b : Int32} (hX : X < 6) (hn : (s 2).toInt = (X : Int)) (hx : x.toInt = (s 2).toInt + 1) (hu : ∀ k j : Nat, u k j = if k = 13 ∧ j = 2 then x else if 36 + 15 * X ≤ k ∧ (k : Int) < 36 + 15 * (X : Int) + 2 ∧ j < 24 then 7 else if k = 31 + 15 * X ∧ (j : Int) < 2 then -1 else if k = 30 + 15 * X ∧ j = 1 then b else if k = 30 + 15 * X ∧ j = 0 then a else if k = 29 + 15 * X ∧ j = 5 then 0 else if k = 29 + 15 * X ∧ j = 4 then 0 else if k = 29 + 15 * X ∧ j = 3 then 1 else if k = 29 + 15 * X ∧ j = 2 then 0 else if k = 29 + 15 * X ∧ j = 1 then 0 else if k = 29 + 15 * X ∧ j = 0 then 0 else v k j) (hs : ∀ n : Nat, z n = if n = 2 then x else if 308 + 48 * X ≤ n ∧ (n : Int) < 308 + 48 * (X : Int) + 48 then 7 else if n = 75 + 2 * X then -5 else if n = 74 + 2 * X then -5 else if n = 38 + 7 * X then 0 else if n = 37 + 7 * X then 1 else if n = 36 + 7 * X then 0 else if n = 35 + 7 * X then -5 else if n = 34 + 7 * X then 0 else if n = 33 + 7 * X then b else if n = 32 + 7 * X then a else s n) (hR : RLk 13 v s) : RLk 13 u z := by
  have A0 : (z 0).toInt = (s 0).toInt := by rw [hs, if_neg (by omega), if_neg (by omega), if_neg (by omega), if_neg (by omega), if_neg (by omega), if_neg (by omega), if_neg (by omega), if_neg (by omega), if_neg (by omega), if_neg (by omega), if_neg (by omega)]
  have A1 : (z 1).toInt = (s 1).toInt := by rw [hs, if_neg (by omega), if_neg (by omega), if_neg (by omega), if_neg (by omega), if_neg (by omega), if_neg (by omega), if_neg (by omega), if_neg (by omega), if_neg (by omega), if_neg (by omega), if_neg (by omega)]
  have A2 : (z 2).toInt = (s 2).toInt + 1 := by rw [hs, if_pos rfl]; exact hx
  have A36 : ∀ c : Nat, c < 6 → (c ≠ X ∧ (z (36 + 7 * c)).toInt = (s (36 + 7 * c)).toInt) ∨ (c = X ∧ (z (36 + 7 * c)).toInt = 0) := fun c hc => by by_cases q : c = X; subst q; refine Or.inr ⟨rfl, ?_⟩; rw [hs, if_neg (by omega), if_neg (by omega), if_neg (by omega), if_neg (by omega), if_neg (by omega), if_neg (by omega), if_pos rfl]; rfl; refine Or.inl ⟨q, ?_⟩; rw [hs, if_neg (by omega), if_neg (by omega), if_neg (by omega), if_neg (by omega), if_neg (by omega), if_neg (by omega), if_neg (by omega), if_neg (by omega), if_neg (by omega), if_neg (by omega), if_neg (by omega)]
  have A38 : ∀ c : Nat, c < 6 → (c ≠ X ∧ (z (38 + 7 * c)).toInt = (s (38 + 7 * c)).toInt) ∨ (c = X ∧ (z (38 + 7 * c)).toInt = 0) := fun c hc => by by_cases q : c = X; subst q; refine Or.inr ⟨rfl, ?_⟩; rw [hs, if_neg (by omega), if_neg (by omega), if_neg (by omega), if_neg (by omega), if_pos rfl]; rfl; refine Or.inl ⟨q, ?_⟩; rw [hs, if_neg (by omega), if_neg (by omega), if_neg (by omega), if_neg (by omega), if_neg (by omega), if_neg (by omega), if_neg (by omega), if_neg (by omega), if_neg (by omega), if_neg (by omega), if_neg (by omega)]
  intro k j n h
  unfold lk at h
  rcases h with ⟨rfl, hj, rfl⟩ | ⟨p, hp, ha, hj, rfl, rfl⟩ | ⟨m, hm, ha, hj, rfl, rfl⟩ | ⟨m, hm, ha, rfl, rfl, rfl⟩ | ⟨c, hc, ha, rfl, rfl, rfl⟩ | ⟨c, hc, ha, rfl, rfl, rfl⟩ | ⟨c, hc, ha, rfl, rfl, rfl⟩ | ⟨c, hc, ha, rfl, rfl, rfl⟩ | ⟨c, hc, ha, hj, rfl, rfl⟩ | ⟨c, i, hc, ha, hi, hj, hr, rfl, rfl⟩ | ⟨c, i, hc, ha, hi, hj, rfl, rfl⟩ | ⟨c, t, hc, ha, ht, hr, hj, rfl, rfl⟩
  · by_cases e0 : 13 = 13 ∧ n = 2
    · have d1 : u (13) n = x := by rw [hu, if_pos (by omega)]
      have d2 : z (n) = x := by rw [hs, if_pos (by omega)]
      exact d1.trans d2.symm
    · skip
      have d1 : u (13) n = v (13) n := by rw [hu, if_neg (by omega), if_neg (by omega), if_neg (by omega), if_neg (by omega), if_neg (by omega), if_neg (by omega), if_neg (by omega), if_neg (by omega), if_neg (by omega), if_neg (by omega), if_neg (by omega)]
      have d2 : z (n) = s (n) := by rw [hs, if_neg (by omega), if_neg (by omega), if_neg (by omega), if_neg (by omega), if_neg (by omega), if_neg (by omega), if_neg (by omega), if_neg (by omega), if_neg (by omega), if_neg (by omega), if_neg (by omega)]
      exact d1.trans ((hR _ _ _ (lk_a hj)).trans d2.symm)
  · have d1 : u (13 + 4 + p) j = v (13 + 4 + p) j := by rw [hu, if_neg (by omega), if_neg (by omega), if_neg (by omega), if_neg (by omega), if_neg (by omega), if_neg (by omega), if_neg (by omega), if_neg (by omega), if_neg (by omega), if_neg (by omega), if_neg (by omega)]
    have d2 : z (4 + 2 * p + j) = s (4 + 2 * p + j) := by rw [hs, if_neg (by omega), if_neg (by omega), if_neg (by omega), if_neg (by omega), if_neg (by omega), if_neg (by omega), if_neg (by omega), if_neg (by omega), if_neg (by omega), if_neg (by omega), if_neg (by omega)]
    exact d1.trans ((hR _ _ _ (lk_p hp (by omega) hj)).trans d2.symm)
  · have d1 : u (13 + 12 + m) j = v (13 + 12 + m) j := by rw [hu, if_neg (by omega), if_neg (by omega), if_neg (by omega), if_neg (by omega), if_neg (by omega), if_neg (by omega), if_neg (by omega), if_neg (by omega), if_neg (by omega), if_neg (by omega), if_neg (by omega)]
    have d2 : z (20 + 2 * m + j) = s (20 + 2 * m + j) := by rw [hs, if_neg (by omega), if_neg (by omega), if_neg (by omega), if_neg (by omega), if_neg (by omega), if_neg (by omega), if_neg (by omega), if_neg (by omega), if_neg (by omega), if_neg (by omega), if_neg (by omega)]
    exact d1.trans ((hR _ _ _ (lk_m hm (by omega) hj)).trans d2.symm)
  · have d1 : u (13 + 12 + m) 2 = v (13 + 12 + m) 2 := by rw [hu, if_neg (by omega), if_neg (by omega), if_neg (by omega), if_neg (by omega), if_neg (by omega), if_neg (by omega), if_neg (by omega), if_neg (by omega), if_neg (by omega), if_neg (by omega), if_neg (by omega)]
    have d2 : z (28 + m) = s (28 + m) := by rw [hs, if_neg (by omega), if_neg (by omega), if_neg (by omega), if_neg (by omega), if_neg (by omega), if_neg (by omega), if_neg (by omega), if_neg (by omega), if_neg (by omega), if_neg (by omega), if_neg (by omega)]
    exact d1.trans ((hR _ _ _ (lk_k_ hm (by omega))).trans d2.symm)
  · by_cases e0 : 13 + 16 + 15 * c = 29 + 15 * X ∧ 0 = 0
    · have d1 : u (13 + 16 + 15 * c) 0 = 0 := by rw [hu, if_neg (by omega), if_neg (by omega), if_neg (by omega), if_neg (by omega), if_neg (by omega), if_neg (by omega), if_neg (by omega), if_neg (by omega), if_neg (by omega), if_neg (by omega), if_pos (by omega)]
      have d2 : z (34 + 7 * c) = 0 := by rw [hs, if_neg (by omega), if_neg (by omega), if_neg (by omega), if_neg (by omega), if_neg (by omega), if_neg (by omega), if_neg (by omega), if_neg (by omega), if_pos (by omega)]
      exact d1.trans d2.symm
    · skip
      have d1 : u (13 + 16 + 15 * c) 0 = v (13 + 16 + 15 * c) 0 := by rw [hu, if_neg (by omega), if_neg (by omega), if_neg (by omega), if_neg (by omega), if_neg (by omega), if_neg (by omega), if_neg (by omega), if_neg (by omega), if_neg (by omega), if_neg (by omega), if_neg (by omega)]
      have d2 : z (34 + 7 * c) = s (34 + 7 * c) := by rw [hs, if_neg (by omega), if_neg (by omega), if_neg (by omega), if_neg (by omega), if_neg (by omega), if_neg (by omega), if_neg (by omega), if_neg (by omega), if_neg (by omega), if_neg (by omega), if_neg (by omega)]
      exact d1.trans ((hR _ _ _ (lk_c0 hc (by omega))).trans d2.symm)
  · by_cases e0 : 13 + 16 + 15 * c = 29 + 15 * X ∧ 2 = 2
    · have d1 : u (13 + 16 + 15 * c) 2 = 0 := by rw [hu, if_neg (by omega), if_neg (by omega), if_neg (by omega), if_neg (by omega), if_neg (by omega), if_neg (by omega), if_neg (by omega), if_neg (by omega), if_pos (by omega)]
      have d2 : z (36 + 7 * c) = 0 := by rw [hs, if_neg (by omega), if_neg (by omega), if_neg (by omega), if_neg (by omega), if_neg (by omega), if_neg (by omega), if_pos (by omega)]
      exact d1.trans d2.symm
    · skip
      have d1 : u (13 + 16 + 15 * c) 2 = v (13 + 16 + 15 * c) 2 := by rw [hu, if_neg (by omega), if_neg (by omega), if_neg (by omega), if_neg (by omega), if_neg (by omega), if_neg (by omega), if_neg (by omega), if_neg (by omega), if_neg (by omega), if_neg (by omega), if_neg (by omega)]
      have d2 : z (36 + 7 * c) = s (36 + 7 * c) := by rw [hs, if_neg (by omega), if_neg (by omega), if_neg (by omega), if_neg (by omega), if_neg (by omega), if_neg (by omega), if_neg (by omega), if_neg (by omega), if_neg (by omega), if_neg (by omega), if_neg (by omega)]
      exact d1.trans ((hR _ _ _ (lk_c2 hc (by omega))).trans d2.symm)
  · by_cases e0 : 13 + 16 + 15 * c = 29 + 15 * X ∧ 3 = 3
    · have d1 : u (13 + 16 + 15 * c) 3 = 1 := by rw [hu, if_neg (by omega), if_neg (by omega), if_neg (by omega), if_neg (by omega), if_neg (by omega), if_neg (by omega), if_neg (by omega), if_pos (by omega)]
      have d2 : z (37 + 7 * c) = 1 := by rw [hs, if_neg (by omega), if_neg (by omega), if_neg (by omega), if_neg (by omega), if_neg (by omega), if_pos (by omega)]
      exact d1.trans d2.symm
    · skip
      have d1 : u (13 + 16 + 15 * c) 3 = v (13 + 16 + 15 * c) 3 := by rw [hu, if_neg (by omega), if_neg (by omega), if_neg (by omega), if_neg (by omega), if_neg (by omega), if_neg (by omega), if_neg (by omega), if_neg (by omega), if_neg (by omega), if_neg (by omega), if_neg (by omega)]
      have d2 : z (37 + 7 * c) = s (37 + 7 * c) := by rw [hs, if_neg (by omega), if_neg (by omega), if_neg (by omega), if_neg (by omega), if_neg (by omega), if_neg (by omega), if_neg (by omega), if_neg (by omega), if_neg (by omega), if_neg (by omega), if_neg (by omega)]
      exact d1.trans ((hR _ _ _ (lk_c3 hc (by omega))).trans d2.symm)
  · by_cases e0 : 13 + 16 + 15 * c = 29 + 15 * X ∧ 5 = 5
    · have d1 : u (13 + 16 + 15 * c) 5 = 0 := by rw [hu, if_neg (by omega), if_neg (by omega), if_neg (by omega), if_neg (by omega), if_neg (by omega), if_pos (by omega)]
      have d2 : z (38 + 7 * c) = 0 := by rw [hs, if_neg (by omega), if_neg (by omega), if_neg (by omega), if_neg (by omega), if_pos (by omega)]
      exact d1.trans d2.symm
    · skip
      have d1 : u (13 + 16 + 15 * c) 5 = v (13 + 16 + 15 * c) 5 := by rw [hu, if_neg (by omega), if_neg (by omega), if_neg (by omega), if_neg (by omega), if_neg (by omega), if_neg (by omega), if_neg (by omega), if_neg (by omega), if_neg (by omega), if_neg (by omega), if_neg (by omega)]
      have d2 : z (38 + 7 * c) = s (38 + 7 * c) := by rw [hs, if_neg (by omega), if_neg (by omega), if_neg (by omega), if_neg (by omega), if_neg (by omega), if_neg (by omega), if_neg (by omega), if_neg (by omega), if_neg (by omega), if_neg (by omega), if_neg (by omega)]
      exact d1.trans ((hR _ _ _ (lk_c5 hc (by omega))).trans d2.symm)
  · by_cases e0 : 13 + 17 + 15 * c = 30 + 15 * X ∧ j = 1
    · have d1 : u (13 + 17 + 15 * c) j = b := by rw [hu, if_neg (by omega), if_neg (by omega), if_neg (by omega), if_pos (by omega)]
      have d2 : z (32 + 7 * c + j) = b := by rw [hs, if_neg (by omega), if_neg (by omega), if_neg (by omega), if_neg (by omega), if_neg (by omega), if_neg (by omega), if_neg (by omega), if_neg (by omega), if_neg (by omega), if_pos (by omega)]
      exact d1.trans d2.symm
    · skip
      by_cases e1 : 13 + 17 + 15 * c = 30 + 15 * X ∧ j = 0
      · have d1 : u (13 + 17 + 15 * c) j = a := by rw [hu, if_neg (by omega), if_neg (by omega), if_neg (by omega), if_neg (by omega), if_pos (by omega)]
        have d2 : z (32 + 7 * c + j) = a := by rw [hs, if_neg (by omega), if_neg (by omega), if_neg (by omega), if_neg (by omega), if_neg (by omega), if_neg (by omega), if_neg (by omega), if_neg (by omega), if_neg (by omega), if_neg (by omega), if_pos (by omega)]
        exact d1.trans d2.symm
      · skip
        have d1 : u (13 + 17 + 15 * c) j = v (13 + 17 + 15 * c) j := by rw [hu, if_neg (by omega), if_neg (by omega), if_neg (by omega), if_neg (by omega), if_neg (by omega), if_neg (by omega), if_neg (by omega), if_neg (by omega), if_neg (by omega), if_neg (by omega), if_neg (by omega)]
        have d2 : z (32 + 7 * c + j) = s (32 + 7 * c + j) := by rw [hs, if_neg (by omega), if_neg (by omega), if_neg (by omega), if_neg (by omega), if_neg (by omega), if_neg (by omega), if_neg (by omega), if_neg (by omega), if_neg (by omega), if_neg (by omega), if_neg (by omega)]
        exact d1.trans ((hR _ _ _ (lk_q hc (by omega) hj)).trans d2.symm)
  · have a36 := A36 c hc
    have d1 : u (13 + 20 + 15 * c + i) j = v (13 + 20 + 15 * c + i) j := by rw [hu, if_neg (by omega), if_neg (by omega), if_neg (by omega), if_neg (by omega), if_neg (by omega), if_neg (by omega), if_neg (by omega), if_neg (by omega), if_neg (by omega), if_neg (by omega), if_neg (by omega)]
    have d2 : z (86 + 10 * c + 2 * j + i) = s (86 + 10 * c + 2 * j + i) := by rw [hs, if_neg (by omega), if_neg (by omega), if_neg (by omega), if_neg (by omega), if_neg (by omega), if_neg (by omega), if_neg (by omega), if_neg (by omega), if_neg (by omega), if_neg (by omega), if_neg (by omega)]
    exact d1.trans ((hR _ _ _ (lk_o hc (by omega) hi hj (by omega))).trans d2.symm)
  · by_cases e0 : 36 + 15 * X ≤ 13 + 23 + 15 * c + i ∧ (13 + 23 + 15 * c + i : Int) < 36 + 15 * (X : Int) + 2 ∧ j < 24
    · have d1 : u (13 + 23 + 15 * c + i) j = 7 := by rw [hu, if_neg (by omega), if_pos (by omega)]
      have d2 : z (308 + 48 * c + 24 * i + j) = 7 := by rw [hs, if_neg (by omega), if_pos (by omega)]
      exact d1.trans d2.symm
    · skip
      have d1 : u (13 + 23 + 15 * c + i) j = v (13 + 23 + 15 * c + i) j := by rw [hu, if_neg (by omega), if_neg (by omega), if_neg (by omega), if_neg (by omega), if_neg (by omega), if_neg (by omega), if_neg (by omega), if_neg (by omega), if_neg (by omega), if_neg (by omega), if_neg (by omega)]
      have d2 : z (308 + 48 * c + 24 * i + j) = s (308 + 48 * c + 24 * i + j) := by rw [hs, if_neg (by omega), if_neg (by omega), if_neg (by omega), if_neg (by omega), if_neg (by omega), if_neg (by omega), if_neg (by omega), if_neg (by omega), if_neg (by omega), if_neg (by omega), if_neg (by omega)]
      exact d1.trans ((hR _ _ _ (lk_l hc (by omega) hi hj)).trans d2.symm)
  · have a38 := A38 c hc
    have d1 : u (13 + 26 + 15 * c + t) j = v (13 + 26 + 15 * c + t) j := by rw [hu, if_neg (by omega), if_neg (by omega), if_neg (by omega), if_neg (by omega), if_neg (by omega), if_neg (by omega), if_neg (by omega), if_neg (by omega), if_neg (by omega), if_neg (by omega), if_neg (by omega)]
    have d2 : z (158 + 25 * c + 5 * t + j) = s (158 + 25 * c + 5 * t + j) := by rw [hs, if_neg (by omega), if_neg (by omega), if_neg (by omega), if_neg (by omega), if_neg (by omega), if_neg (by omega), if_neg (by omega), if_neg (by omega), if_neg (by omega), if_neg (by omega), if_neg (by omega)]
    exact d1.trans ((hR _ _ _ (lk_t hc (by omega) ht (by omega) hj)).trans d2.symm)

set_option maxHeartbeats 4000000 in
theorem RX_open {v u : Nat → Nat → Int32} {s z : Nat → Int32} {X : Nat} {x a b : Int32} (hX : X < 6) (hn : (s 2).toInt = (X : Int)) (hx : x.toInt = (s 2).toInt + 1) (hu : ∀ k j : Nat, u k j = if k = 13 ∧ j = 2 then x else if 36 + 15 * X ≤ k ∧ (k : Int) < 36 + 15 * (X : Int) + 2 ∧ j < 24 then 7 else if k = 31 + 15 * X ∧ (j : Int) < 2 then -1 else if k = 30 + 15 * X ∧ j = 1 then b else if k = 30 + 15 * X ∧ j = 0 then a else if k = 29 + 15 * X ∧ j = 5 then 0 else if k = 29 + 15 * X ∧ j = 4 then 0 else if k = 29 + 15 * X ∧ j = 3 then 1 else if k = 29 + 15 * X ∧ j = 2 then 0 else if k = 29 + 15 * X ∧ j = 1 then 0 else if k = 29 + 15 * X ∧ j = 0 then 0 else v k j) (hs : ∀ n : Nat, z n = if n = 2 then x else if 308 + 48 * X ≤ n ∧ (n : Int) < 308 + 48 * (X : Int) + 48 then 7 else if n = 75 + 2 * X then -5 else if n = 74 + 2 * X then -5 else if n = 38 + 7 * X then 0 else if n = 37 + 7 * X then 1 else if n = 36 + 7 * X then 0 else if n = 35 + 7 * X then -5 else if n = 34 + 7 * X then 0 else if n = 33 + 7 * X then b else if n = 32 + 7 * X then a else s n) (h : RX 13 v s) : RX 13 u z := by
  intro c hc hac
  have A2 : (z 2).toInt = (s 2).toInt + 1 := by rw [hs, if_pos rfl]; exact hx
  by_cases hq : c = X
  · subst hq
    have g0 : u (13 + 16 + 15 * c) 1 = 0 := by rw [hu, if_neg (by omega), if_neg (by omega), if_neg (by omega), if_neg (by omega), if_neg (by omega), if_neg (by omega), if_neg (by omega), if_neg (by omega), if_neg (by omega), if_pos (by omega)]
    have g1 : u (13 + 18 + 15 * c) 0 = -1 := by rw [hu, if_neg (by omega), if_neg (by omega), if_pos (by omega)]
    have g2 : u (13 + 18 + 15 * c) 1 = -1 := by rw [hu, if_neg (by omega), if_neg (by omega), if_pos (by omega)]
    have g3 : z (34 + 7 * c) = 0 := by rw [hs, if_neg (by omega), if_neg (by omega), if_neg (by omega), if_neg (by omega), if_neg (by omega), if_neg (by omega), if_neg (by omega), if_neg (by omega), if_pos rfl]
    have g4 : z (35 + 7 * c) = -5 := by rw [hs, if_neg (by omega), if_neg (by omega), if_neg (by omega), if_neg (by omega), if_neg (by omega), if_neg (by omega), if_neg (by omega), if_pos rfl]
    have g5 : z (74 + 2 * c) = -5 := by rw [hs, if_neg (by omega), if_neg (by omega), if_neg (by omega), if_pos rfl]
    have g6 : z (75 + 2 * c) = -5 := by rw [hs, if_neg (by omega), if_neg (by omega), if_pos rfl]
    rw [g0, g1, g2, g3, g4, g5, g6]
    exact ⟨Or.inl (by decide), fun q => absurd q (by decide), fun _ => rfl, fun _ => ⟨Or.inl ⟨by decide, by decide⟩, Or.inl ⟨by decide, by decide⟩⟩⟩
  · have hh := h c hc (by omega)
    have g0 : u (13 + 16 + 15 * c) 1 = v (13 + 16 + 15 * c) 1 := by rw [hu, if_neg (by omega), if_neg (by omega), if_neg (by omega), if_neg (by omega), if_neg (by omega), if_neg (by omega), if_neg (by omega), if_neg (by omega), if_neg (by omega), if_neg (by omega), if_neg (by omega)]
    have g1 : u (13 + 18 + 15 * c) 0 = v (13 + 18 + 15 * c) 0 := by rw [hu, if_neg (by omega), if_neg (by omega), if_neg (by omega), if_neg (by omega), if_neg (by omega), if_neg (by omega), if_neg (by omega), if_neg (by omega), if_neg (by omega), if_neg (by omega), if_neg (by omega)]
    have g2 : u (13 + 18 + 15 * c) 1 = v (13 + 18 + 15 * c) 1 := by rw [hu, if_neg (by omega), if_neg (by omega), if_neg (by omega), if_neg (by omega), if_neg (by omega), if_neg (by omega), if_neg (by omega), if_neg (by omega), if_neg (by omega), if_neg (by omega), if_neg (by omega)]
    have g3 : z (34 + 7 * c) = s (34 + 7 * c) := by rw [hs, if_neg (by omega), if_neg (by omega), if_neg (by omega), if_neg (by omega), if_neg (by omega), if_neg (by omega), if_neg (by omega), if_neg (by omega), if_neg (by omega), if_neg (by omega), if_neg (by omega)]
    have g4 : z (35 + 7 * c) = s (35 + 7 * c) := by rw [hs, if_neg (by omega), if_neg (by omega), if_neg (by omega), if_neg (by omega), if_neg (by omega), if_neg (by omega), if_neg (by omega), if_neg (by omega), if_neg (by omega), if_neg (by omega), if_neg (by omega)]
    have g5 : z (74 + 2 * c) = s (74 + 2 * c) := by rw [hs, if_neg (by omega), if_neg (by omega), if_neg (by omega), if_neg (by omega), if_neg (by omega), if_neg (by omega), if_neg (by omega), if_neg (by omega), if_neg (by omega), if_neg (by omega), if_neg (by omega)]
    have g6 : z (75 + 2 * c) = s (75 + 2 * c) := by rw [hs, if_neg (by omega), if_neg (by omega), if_neg (by omega), if_neg (by omega), if_neg (by omega), if_neg (by omega), if_neg (by omega), if_neg (by omega), if_neg (by omega), if_neg (by omega), if_neg (by omega)]
    rw [g0, g1, g2, g3, g4, g5, g6]
    exact hh
theorem bt_0 : ∀ d : Fin 6, (btx 0 (Int32.ofNat d.val)).toInt = 0 := by decide +kernel
set_option maxHeartbeats 4000000 in
theorem RG_open {v u : Nat → Nat → Int32} {s z : Nat → Int32} {X : Nat} {x a b : Int32} (hX : X < 6) (hn : (s 2).toInt = (X : Int)) (hx : x.toInt = (s 2).toInt + 1) (h3 : (s 3).toInt ≤ 6) (hu : ∀ k j : Nat, u k j = if k = 13 ∧ j = 2 then x else if 36 + 15 * X ≤ k ∧ (k : Int) < 36 + 15 * (X : Int) + 2 ∧ j < 24 then 7 else if k = 31 + 15 * X ∧ (j : Int) < 2 then -1 else if k = 30 + 15 * X ∧ j = 1 then b else if k = 30 + 15 * X ∧ j = 0 then a else if k = 29 + 15 * X ∧ j = 5 then 0 else if k = 29 + 15 * X ∧ j = 4 then 0 else if k = 29 + 15 * X ∧ j = 3 then 1 else if k = 29 + 15 * X ∧ j = 2 then 0 else if k = 29 + 15 * X ∧ j = 1 then 0 else if k = 29 + 15 * X ∧ j = 0 then 0 else v k j) (hs : ∀ n : Nat, z n = if n = 2 then x else if 308 + 48 * X ≤ n ∧ (n : Int) < 308 + 48 * (X : Int) + 48 then 7 else if n = 75 + 2 * X then -5 else if n = 74 + 2 * X then -5 else if n = 38 + 7 * X then 0 else if n = 37 + 7 * X then 1 else if n = 36 + 7 * X then 0 else if n = 35 + 7 * X then -5 else if n = 34 + 7 * X then 0 else if n = 33 + 7 * X then b else if n = 32 + 7 * X then a else s n) (h : RG 13 v s) : RG 13 u z := by
  have A2 : (z 2).toInt = (s 2).toInt + 1 := by rw [hs, if_pos rfl]; exact hx
  have A3 : z 3 = s 3 := by rw [hs, if_neg (by omega), if_neg (by omega), if_neg (by omega), if_neg (by omega), if_neg (by omega), if_neg (by omega), if_neg (by omega), if_neg (by omega), if_neg (by omega), if_neg (by omega), if_neg (by omega)]
  have em : ∀ n : Nat, 146 ≤ n → n < 158 → z n = s n := fun n h1 h2 => by rw [hs, if_neg (by omega), if_neg (by omega), if_neg (by omega), if_neg (by omega), if_neg (by omega), if_neg (by omega), if_neg (by omega), if_neg (by omega), if_neg (by omega), if_neg (by omega), if_neg (by omega)]
  have key : ∀ k a b : Nat, (k : Int) < (s 3).toInt → (mj z k a b ↔ mj s k a b) := fun k a b hk => by
    unfold mj
    rw [em (146 + 2 * k) (by omega) (by omega), em (147 + 2 * k) (by omega) (by omega)]
  refine ⟨fun c hc ha => ?_, fun k hk => ?_⟩
  · unfold GC
    rw [A3]
    by_cases hq : c = X
    · subst hq
      have g0 : u (13 + 16 + 15 * c) 4 = 0 := by rw [hu, if_neg (by omega), if_neg (by omega), if_neg (by omega), if_neg (by omega), if_neg (by omega), if_neg (by omega), if_pos (by omega)]
      rw [g0]
      refine ⟨by decide, fun d hd => ⟨fun q => absurd q (by rw [bt_0 ⟨d, hd⟩]; decide), fun ⟨k, q1, q2⟩ => ?_⟩⟩
      have w := h.2 k q1
      have q3 := (key k c d q1).mp q2
      unfold mj at q3
      omega
    · have g0 : u (13 + 16 + 15 * c) 4 = v (13 + 16 + 15 * c) 4 := by rw [hu, if_neg (by omega), if_neg (by omega), if_neg (by omega), if_neg (by omega), if_neg (by omega), if_neg (by omega), if_neg (by omega), if_neg (by omega), if_neg (by omega), if_neg (by omega), if_neg (by omega)]
      rw [g0]
      obtain ⟨g1, g2⟩ := h.1 c hc (by omega)
      exact ⟨g1, fun d hd => (g2 d hd).trans ⟨fun ⟨k, q1, q2⟩ => ⟨k, q1, (key k c d q1).mpr q2⟩, fun ⟨k, q1, q2⟩ => ⟨k, q1, (key k c d q1).mp q2⟩⟩⟩
  · rw [A3] at hk
    rw [em (146 + 2 * k) (by omega) (by omega), em (147 + 2 * k) (by omega) (by omega), A2]
    have w := h.2 k hk
    omega

set_option maxHeartbeats 4000000 in
theorem T_open {n r r2 x0 x1 : Int32} {v u v2 u2 : Nat → Nat → Int32} (hI : Iv v) (hQ : Ir v2) (h : RR n v v2) (p : (¬ ((0 ≤ x0.toInt ∧ x0.toInt < (v 13 0).toInt) ∧ (0 ≤ x1.toInt ∧ x1.toInt < (v 13 0).toInt) ∧ x0.toInt ≠ x1.toInt) → r = -1 ∧ u = v) ∧ (((0 ≤ x0.toInt ∧ x0.toInt < (v 13 0).toInt) ∧ (0 ≤ x1.toInt ∧ x1.toInt < (v 13 0).toInt) ∧ x0.toInt ≠ x1.toInt) ∧ 6 ≤ (v 13 2).toInt → r = -2 ∧ u = v) ∧ (((0 ≤ x0.toInt ∧ x0.toInt < (v 13 0).toInt) ∧ (0 ≤ x1.toInt ∧ x1.toInt < (v 13 0).toInt) ∧ x0.toInt ≠ x1.toInt) ∧ (v 13 2).toInt < 6 → r = v 13 2 ∧ (∀ k j : Nat, u k j = if k = 13 ∧ j = 2 then v 13 2 + 1 else if 36 + 15 * (v 13 2).toNatClampNeg ≤ k ∧ (k : Int) < 36 + 15 * ((v 13 2).toNatClampNeg : Int) + 2 ∧ j < 24 then 7 else if k = 31 + 15 * (v 13 2).toNatClampNeg ∧ (j : Int) < 2 then -1 else if k = 30 + 15 * (v 13 2).toNatClampNeg ∧ j = 1 then x1 else if k = 30 + 15 * (v 13 2).toNatClampNeg ∧ j = 0 then x0 else if k = 29 + 15 * (v 13 2).toNatClampNeg ∧ j = 5 then 0 else if k = 29 + 15 * (v 13 2).toNatClampNeg ∧ j = 4 then 0 else if k = 29 + 15 * (v 13 2).toNatClampNeg ∧ j = 3 then 1 else if k = 29 + 15 * (v 13 2).toNatClampNeg ∧ j = 2 then 0 else if k = 29 + 15 * (v 13 2).toNatClampNeg ∧ j = 1 then 0 else if k = 29 + 15 * (v 13 2).toNatClampNeg ∧ j = 0 then 0 else v k j))) (q : (¬ ((0 ≤ x0.toInt ∧ x0.toInt < (v2 1 0).toInt) ∧ (0 ≤ x1.toInt ∧ x1.toInt < (v2 1 0).toInt) ∧ x0.toInt ≠ x1.toInt) → r2 = -1 ∧ u2 = v2) ∧ (((0 ≤ x0.toInt ∧ x0.toInt < (v2 1 0).toInt) ∧ (0 ≤ x1.toInt ∧ x1.toInt < (v2 1 0).toInt) ∧ x0.toInt ≠ x1.toInt) ∧ (v2 1 2).toInt = 6 → r2 = -2 ∧ u2 = v2) ∧ (((0 ≤ x0.toInt ∧ x0.toInt < (v2 1 0).toInt) ∧ (0 ≤ x1.toInt ∧ x1.toInt < (v2 1 0).toInt) ∧ x0.toInt ≠ x1.toInt) ∧ (v2 1 2).toInt ≠ 6 → r2 = v2 1 2 ∧ (∀ n : Nat, u2 1 n = if n = 2 then v2 1 2 + 1 else if 308 + 48 * (v2 1 2).toNatClampNeg ≤ n ∧ (n : Int) < 308 + 48 * ((v2 1 2).toNatClampNeg : Int) + 48 then 7 else if n = 75 + 2 * (v2 1 2).toNatClampNeg then -5 else if n = 74 + 2 * (v2 1 2).toNatClampNeg then -5 else if n = 38 + 7 * (v2 1 2).toNatClampNeg then 0 else if n = 37 + 7 * (v2 1 2).toNatClampNeg then 1 else if n = 36 + 7 * (v2 1 2).toNatClampNeg then 0 else if n = 35 + 7 * (v2 1 2).toNatClampNeg then -5 else if n = 34 + 7 * (v2 1 2).toNatClampNeg then 0 else if n = 33 + 7 * (v2 1 2).toNatClampNeg then x1 else if n = 32 + 7 * (v2 1 2).toNatClampNeg then x0 else v2 1 n) ∧ (∀ k : Nat, k ≠ 1 → u2 k = v2 k))) : r = r2 ∧ RR n u u2 := by
  have e0 : v 13 0 = v2 1 0 := h.1.1 _ _ _ (lk_a (by decide))
  have e1 : v 13 1 = v2 1 1 := h.1.1 _ _ _ (lk_a (by decide))
  have e2 : v 13 2 = v2 1 2 := h.1.1 _ _ _ (lk_a (by decide))
  have e3 : v 13 3 = v2 1 3 := h.1.1 _ _ _ (lk_a (by decide))
  have hb0 := hQ 1 0 8 (by decide)
  have hb1 := hQ 1 1 4 (by decide)
  have hb2 := hQ 1 2 6 (by decide)
  have hb3 := hQ 1 3 6 (by decide)
  rw [e0, e2] at p
  by_cases hC : (0 ≤ x0.toInt ∧ x0.toInt < (v2 1 0).toInt) ∧ (0 ≤ x1.toInt ∧ x1.toInt < (v2 1 0).toInt) ∧ x0.toInt ≠ x1.toInt
  · by_cases hD : (v2 1 2).toInt = 6
    · obtain ⟨p1, p2⟩ := p.2.1 ⟨hC, by omega⟩
      obtain ⟨q1, q2⟩ := q.2.1 ⟨hC, hD⟩
      rw [p1, q1, p2, q2]
      exact ⟨rfl, h⟩
    · obtain ⟨p1, p2⟩ := p.2.2 ⟨hC, by omega⟩
      obtain ⟨q1, q2, q3⟩ := q.2.2 ⟨hC, hD⟩
      have zX := t_nn (x := v2 1 2) (by omega)
      have hX : (v2 1 2).toNatClampNeg < 6 := by omega
      have k1 : (1 : Int32).toInt = 1 := by decide
      have hx : (v2 1 2 + 1).toInt = (v2 1 2).toInt + 1 := by rw [t_add (by rw [k1]; omega), k1]
      exact ⟨by rw [p1, q1], h.wr q3 (funext fun j => by rw [p2, if_neg (by omega), if_neg (by omega), if_neg (by omega), if_neg (by omega), if_neg (by omega), if_neg (by omega), if_neg (by omega), if_neg (by omega), if_neg (by omega), if_neg (by omega), if_neg (by omega)]) (fun k hk => funext fun j => by rw [p2, if_neg (by omega), if_neg (by omega), if_neg (by omega), if_neg (by omega), if_neg (by omega), if_neg (by omega), if_neg (by omega), if_neg (by omega), if_neg (by omega), if_neg (by omega), if_neg (by omega)]) ⟨RL_open hX (by omega) hx p2 q2 h.1.1, RX_open hX (by omega) hx p2 q2 h.1.2.1, h.1.2.2.1.cg (by rw [q2, if_neg (by omega), if_neg (by omega), if_neg (by omega), if_neg (by omega), if_neg (by omega), if_neg (by omega), if_neg (by omega), if_neg (by omega), if_neg (by omega), if_neg (by omega), if_neg (by omega)]) (by rw [q2, if_neg (by omega), if_neg (by omega), if_neg (by omega), if_neg (by omega), if_neg (by omega), if_neg (by omega), if_neg (by omega), if_neg (by omega), if_neg (by omega), if_neg (by omega), if_neg (by omega)]) (fun m hm => by rw [q2, if_neg (by omega), if_neg (by omega), if_neg (by omega), if_neg (by omega), if_neg (by omega), if_neg (by omega), if_neg (by omega), if_neg (by omega), if_neg (by omega), if_neg (by omega), if_neg (by omega)]), RG_open hX (by omega) hx hb3.2 p2 q2 h.1.2.2.2⟩⟩
  · obtain ⟨p1, p2⟩ := p.1 hC
    obtain ⟨q1, q2⟩ := q.1 hC
    rw [p1, q1, p2, q2]
    exact ⟨rfl, h⟩

set_option maxHeartbeats 4000000 in
theorem RL_mark {v u : Nat → Nat → Int32} {s z : Nat → Int32} {X Y M : Nat} {x a b c0 d : Int32} (hX : X < 6) (hY : Y < 6) (hM : M < 6) (hu : ∀ k j : Nat, u k j = if k = 13 ∧ j = 3 then x else if k = 29 + 15 * Y ∧ j = 4 then b else if k = 29 + 15 * X ∧ j = 4 then a else v k j) (hs : ∀ n : Nat, z n = if n = 3 then x else if n = 147 + 2 * M then d else if n = 146 + 2 * M then c0 else s n) (hR : RLk 13 v s) : RLk 13 u z := by
  have A0 : (z 0).toInt = (s 0).toInt := by rw [hs, if_neg (by omega), if_neg (by omega), if_neg (by omega)]
  have A1 : (z 1).toInt = (s 1).toInt := by rw [hs, if_neg (by omega), if_neg (by omega), if_neg (by omega)]
  have A2 : (z 2).toInt = (s 2).toInt := by rw [hs, if_neg (by omega), if_neg (by omega), if_neg (by omega)]
  have A36 : ∀ c : Nat, c < 6 → (z (36 + 7 * c)).toInt = (s (36 + 7 * c)).toInt := fun c hc => by rw [hs, if_neg (by omega), if_neg (by omega), if_neg (by omega)]
  have A38 : ∀ c : Nat, c < 6 → (z (38 + 7 * c)).toInt = (s (38 + 7 * c)).toInt := fun c hc => by rw [hs, if_neg (by omega), if_neg (by omega), if_neg (by omega)]
  intro k j n h
  unfold lk at h
  rcases h with ⟨rfl, hj, rfl⟩ | ⟨p, hp, ha, hj, rfl, rfl⟩ | ⟨m, hm, ha, hj, rfl, rfl⟩ | ⟨m, hm, ha, rfl, rfl, rfl⟩ | ⟨c, hc, ha, rfl, rfl, rfl⟩ | ⟨c, hc, ha, rfl, rfl, rfl⟩ | ⟨c, hc, ha, rfl, rfl, rfl⟩ | ⟨c, hc, ha, rfl, rfl, rfl⟩ | ⟨c, hc, ha, hj, rfl, rfl⟩ | ⟨c, i, hc, ha, hi, hj, hr, rfl, rfl⟩ | ⟨c, i, hc, ha, hi, hj, rfl, rfl⟩ | ⟨c, t, hc, ha, ht, hr, hj, rfl, rfl⟩
  · by_cases e0 : 13 = 13 ∧ n = 3
    · have d1 : u (13) n = x := by rw [hu, if_pos (by omega)]
      have d2 : z (n) = x := by rw [hs, if_pos (by omega)]
      exact d1.trans d2.symm
    · skip
      have d1 : u (13) n = v (13) n := by rw [hu, if_neg (by omega), if_neg (by omega), if_neg (by omega)]
      have d2 : z (n) = s (n) := by rw [hs, if_neg (by omega), if_neg (by omega), if_neg (by omega)]
      exact d1.trans ((hR _ _ _ (lk_a hj)).trans d2.symm)
  · have d1 : u (13 + 4 + p) j = v (13 + 4 + p) j := by rw [hu, if_neg (by omega), if_neg (by omega), if_neg (by omega)]
    have d2 : z (4 + 2 * p + j) = s (4 + 2 * p + j) := by rw [hs, if_neg (by omega), if_neg (by omega), if_neg (by omega)]
    exact d1.trans ((hR _ _ _ (lk_p hp (by omega) hj)).trans d2.symm)
  · have d1 : u (13 + 12 + m) j = v (13 + 12 + m) j := by rw [hu, if_neg (by omega), if_neg (by omega), if_neg (by omega)]
    have d2 : z (20 + 2 * m + j) = s (20 + 2 * m + j) := by rw [hs, if_neg (by omega), if_neg (by omega), if_neg (by omega)]
    exact d1.trans ((hR _ _ _ (lk_m hm (by omega) hj)).trans d2.symm)
  · have d1 : u (13 + 12 + m) 2 = v (13 + 12 + m) 2 := by rw [hu, if_neg (by omega), if_neg (by omega), if_neg (by omega)]
    have d2 : z (28 + m) = s (28 + m) := by rw [hs, if_neg (by omega), if_neg (by omega), if_neg (by omega)]
    exact d1.trans ((hR _ _ _ (lk_k_ hm (by omega))).trans d2.symm)
  · have d1 : u (13 + 16 + 15 * c) 0 = v (13 + 16 + 15 * c) 0 := by rw [hu, if_neg (by omega), if_neg (by omega), if_neg (by omega)]
    have d2 : z (34 + 7 * c) = s (34 + 7 * c) := by rw [hs, if_neg (by omega), if_neg (by omega), if_neg (by omega)]
    exact d1.trans ((hR _ _ _ (lk_c0 hc (by omega))).trans d2.symm)
  · have d1 : u (13 + 16 + 15 * c) 2 = v (13 + 16 + 15 * c) 2 := by rw [hu, if_neg (by omega), if_neg (by omega), if_neg (by omega)]
    have d2 : z (36 + 7 * c) = s (36 + 7 * c) := by rw [hs, if_neg (by omega), if_neg (by omega), if_neg (by omega)]
    exact d1.trans ((hR _ _ _ (lk_c2 hc (by omega))).trans d2.symm)
  · have d1 : u (13 + 16 + 15 * c) 3 = v (13 + 16 + 15 * c) 3 := by rw [hu, if_neg (by omega), if_neg (by omega), if_neg (by omega)]
    have d2 : z (37 + 7 * c) = s (37 + 7 * c) := by rw [hs, if_neg (by omega), if_neg (by omega), if_neg (by omega)]
    exact d1.trans ((hR _ _ _ (lk_c3 hc (by omega))).trans d2.symm)
  · have d1 : u (13 + 16 + 15 * c) 5 = v (13 + 16 + 15 * c) 5 := by rw [hu, if_neg (by omega), if_neg (by omega), if_neg (by omega)]
    have d2 : z (38 + 7 * c) = s (38 + 7 * c) := by rw [hs, if_neg (by omega), if_neg (by omega), if_neg (by omega)]
    exact d1.trans ((hR _ _ _ (lk_c5 hc (by omega))).trans d2.symm)
  · have d1 : u (13 + 17 + 15 * c) j = v (13 + 17 + 15 * c) j := by rw [hu, if_neg (by omega), if_neg (by omega), if_neg (by omega)]
    have d2 : z (32 + 7 * c + j) = s (32 + 7 * c + j) := by rw [hs, if_neg (by omega), if_neg (by omega), if_neg (by omega)]
    exact d1.trans ((hR _ _ _ (lk_q hc (by omega) hj)).trans d2.symm)
  · have a36 := A36 c hc
    have d1 : u (13 + 20 + 15 * c + i) j = v (13 + 20 + 15 * c + i) j := by rw [hu, if_neg (by omega), if_neg (by omega), if_neg (by omega)]
    have d2 : z (86 + 10 * c + 2 * j + i) = s (86 + 10 * c + 2 * j + i) := by rw [hs, if_neg (by omega), if_neg (by omega), if_neg (by omega)]
    exact d1.trans ((hR _ _ _ (lk_o hc (by omega) hi hj (by omega))).trans d2.symm)
  · have d1 : u (13 + 23 + 15 * c + i) j = v (13 + 23 + 15 * c + i) j := by rw [hu, if_neg (by omega), if_neg (by omega), if_neg (by omega)]
    have d2 : z (308 + 48 * c + 24 * i + j) = s (308 + 48 * c + 24 * i + j) := by rw [hs, if_neg (by omega), if_neg (by omega), if_neg (by omega)]
    exact d1.trans ((hR _ _ _ (lk_l hc (by omega) hi hj)).trans d2.symm)
  · have a38 := A38 c hc
    have d1 : u (13 + 26 + 15 * c + t) j = v (13 + 26 + 15 * c + t) j := by rw [hu, if_neg (by omega), if_neg (by omega), if_neg (by omega)]
    have d2 : z (158 + 25 * c + 5 * t + j) = s (158 + 25 * c + 5 * t + j) := by rw [hs, if_neg (by omega), if_neg (by omega), if_neg (by omega)]
    exact d1.trans ((hR _ _ _ (lk_t hc (by omega) ht (by omega) hj)).trans d2.symm)

/-- a mark's bit -/
theorem kb_4 : ∀ x : Fin 64, ∀ p : Fin 6, (0 ≤ (Int32.ofNat x.val ||| (1 <<< (Int32.ofNat p.val &&& 31))).toInt ∧ (Int32.ofNat x.val ||| (1 <<< (Int32.ofNat p.val &&& 31))).toInt < 64) ∧ ∀ d : Fin 6, ((btx (Int32.ofNat x.val ||| (1 <<< (Int32.ofNat p.val &&& 31))) (Int32.ofNat d.val)).toInt = 1 ↔ ((btx (Int32.ofNat x.val) (Int32.ofNat d.val)).toInt = 1 ∨ d.val = p.val)) := by decide +kernel
theorem mk_bit {x y : Int32} {P : Nat} (hx : 0 ≤ x.toInt ∧ x.toInt < 64) (hP : P < 6) (hy : y.toInt = (P : Int)) : (0 ≤ (x ||| (1 <<< (y &&& 31))).toInt ∧ (x ||| (1 <<< (y &&& 31))).toInt < 64) ∧ ∀ d : Nat, d < 6 → ((btx (x ||| (1 <<< (y &&& 31))) (Int32.ofNat d)).toInt = 1 ↔ ((btx x (Int32.ofNat d)).toInt = 1 ∨ d = P)) := by
  have zx := t_nn hx.1
  have zy := t_nn (x := y) (by omega)
  have ex := ofn hx.1
  have ey := ofn (x := y) (by omega)
  have eP : y.toNatClampNeg = P := by omega
  rw [eP] at ey
  have k := kb_4 ⟨x.toNatClampNeg, by omega⟩ ⟨P, hP⟩
  refine ⟨?_, fun d hd => ?_⟩
  · have k1 : 0 ≤ (Int32.ofNat x.toNatClampNeg ||| (1 <<< (Int32.ofNat P &&& 31))).toInt ∧ (Int32.ofNat x.toNatClampNeg ||| (1 <<< (Int32.ofNat P &&& 31))).toInt < 64 := k.1
    rw [← ex, ← ey] at k1
    exact k1
  · have k2 : (btx (Int32.ofNat x.toNatClampNeg ||| (1 <<< (Int32.ofNat P &&& 31))) (Int32.ofNat d)).toInt = 1 ↔ ((btx (Int32.ofNat x.toNatClampNeg) (Int32.ofNat d)).toInt = 1 ∨ d = P) := k.2 ⟨d, hd⟩
    rw [← ex, ← ey] at k2
    exact k2
set_option maxHeartbeats 4000000 in
theorem RG_mark {v u : Nat → Nat → Int32} {s z : Nat → Int32} {X Y M : Nat} {x y0 y1 : Int32} (hX : X < 6) (hY : Y < 6) (hM : M < 6) (hXY : X ≠ Y) (hn : (s 3).toInt = (M : Int)) (hx : x.toInt = (s 3).toInt + 1) (h0 : y0.toInt = (X : Int)) (h1 : y1.toInt = (Y : Int)) (hcX : (X : Int) < (s 2).toInt) (hcY : (Y : Int) < (s 2).toInt) (hu : ∀ k j : Nat, u k j = if k = 13 ∧ j = 3 then x else if k = 29 + 15 * Y ∧ j = 4 then v (29 + 15 * Y) 4 ||| (1 <<< (y0 &&& 31)) else if k = 29 + 15 * X ∧ j = 4 then v (29 + 15 * X) 4 ||| (1 <<< (y1 &&& 31)) else v k j) (hs : ∀ n : Nat, z n = if n = 3 then x else if n = 147 + 2 * M then y1 else if n = 146 + 2 * M then y0 else s n) (h : RG 13 v s) : RG 13 u z := by
  have A2 : z 2 = s 2 := by rw [hs, if_neg (by omega), if_neg (by omega), if_neg (by omega)]
  have A3 : (z 3).toInt = (s 3).toInt + 1 := by rw [hs, if_pos rfl]; exact hx
  have eo : ∀ k : Nat, (k : Int) < (s 3).toInt → z (146 + 2 * k) = s (146 + 2 * k) ∧ z (147 + 2 * k) = s (147 + 2 * k) := fun k hk => ⟨by rw [hs, if_neg (by omega), if_neg (by omega), if_neg (by omega)], by rw [hs, if_neg (by omega), if_neg (by omega), if_neg (by omega)]⟩
  have en : z (146 + 2 * M) = y0 ∧ z (147 + 2 * M) = y1 := ⟨by rw [hs, if_neg (by omega), if_neg (by omega), if_pos rfl], by rw [hs, if_neg (by omega), if_pos rfl]⟩
  have key : ∀ a b : Nat, (∃ k : Nat, (k : Int) < (z 3).toInt ∧ mj z k a b) ↔ ((∃ k : Nat, (k : Int) < (s 3).toInt ∧ mj s k a b) ∨ (a = X ∧ b = Y) ∨ (a = Y ∧ b = X)) := fun a b => by
    refine ⟨fun ⟨k, q1, q2⟩ => ?_, fun q => ?_⟩
    · by_cases hk : (k : Int) < (s 3).toInt
      · refine Or.inl ⟨k, hk, ?_⟩
        unfold mj at q2 ⊢
        rw [(eo k hk).1, (eo k hk).2] at q2
        exact q2
      · have ek : k = M := by omega
        subst ek
        unfold mj at q2
        rw [en.1, en.2, h0, h1] at q2
        omega
    · rcases q with ⟨k, q1, q2⟩ | q
      · refine ⟨k, by omega, ?_⟩
        unfold mj at q2 ⊢
        rw [(eo k q1).1, (eo k q1).2]
        exact q2
      · refine ⟨M, by omega, ?_⟩
        unfold mj
        rw [en.1, en.2, h0, h1]
        omega
  refine ⟨fun c hc ha => ?_, fun k hk => ?_⟩
  · rw [A2] at ha
    obtain ⟨g1, g2⟩ := h.1 c hc ha
    by_cases cX : c = X
    · subst cX
      have g0 : u (13 + 16 + 15 * c) 4 = v (29 + 15 * c) 4 ||| (1 <<< (y1 &&& 31)) := by rw [hu, if_neg (by omega), if_neg (by omega), if_pos (by omega)]
      obtain ⟨b1, b2⟩ := mk_bit (x := v (29 + 15 * c) 4) g1 hY h1
      unfold GC
      rw [g0]
      refine ⟨b1, fun d hd => (b2 d hd).trans (((or_congr (g2 d hd) Iff.rfl).trans ?_).trans (key c d).symm)⟩
      refine or_congr Iff.rfl ⟨fun q => Or.inl ⟨rfl, q⟩, fun q => ?_⟩
      omega
    · by_cases cY : c = Y
      · subst cY
        have g0 : u (13 + 16 + 15 * c) 4 = v (29 + 15 * c) 4 ||| (1 <<< (y0 &&& 31)) := by rw [hu, if_neg (by omega), if_pos (by omega)]
        obtain ⟨b1, b2⟩ := mk_bit (x := v (29 + 15 * c) 4) g1 hX h0
        unfold GC
        rw [g0]
        refine ⟨b1, fun d hd => (b2 d hd).trans (((or_congr (g2 d hd) Iff.rfl).trans ?_).trans (key c d).symm)⟩
        refine or_congr Iff.rfl ⟨fun q => Or.inr ⟨rfl, q⟩, fun q => ?_⟩
        omega
      · have g0 : u (13 + 16 + 15 * c) 4 = v (13 + 16 + 15 * c) 4 := by rw [hu, if_neg (by omega), if_neg (by omega), if_neg (by omega)]
        unfold GC
        rw [g0]
        refine ⟨g1, fun d hd => (g2 d hd).trans (Iff.trans ⟨fun q => Or.inl q, fun q => ?_⟩ (key c d).symm)⟩
        rcases q with q | q
        · exact q
        · exfalso
          omega
  · rw [A2]
    by_cases hk2 : (k : Int) < (s 3).toInt
    · rw [(eo k hk2).1, (eo k hk2).2]
      exact h.2 k hk2
    · have ek : k = M := by omega
      subst ek
      rw [en.1, en.2]
      omega

set_option maxHeartbeats 4000000 in
theorem T_mark {n r r2 x0 x1 : Int32} {v u v2 u2 : Nat → Nat → Int32} (hI : Iv v) (hQ : Ir v2) (h : RR n v v2) (p : (¬ ((0 ≤ x0.toInt ∧ x0.toInt < (v 13 2).toInt) ∧ (0 ≤ x1.toInt ∧ x1.toInt < (v 13 2).toInt) ∧ x0.toInt ≠ x1.toInt) → r = -1 ∧ u = v) ∧ (((0 ≤ x0.toInt ∧ x0.toInt < (v 13 2).toInt) ∧ (0 ≤ x1.toInt ∧ x1.toInt < (v 13 2).toInt) ∧ x0.toInt ≠ x1.toInt) ∧ (btx (v (29 + 15 * x0.toNatClampNeg) 4) x1).toInt = 1 → r = -3 ∧ u = v) ∧ (((0 ≤ x0.toInt ∧ x0.toInt < (v 13 2).toInt) ∧ (0 ≤ x1.toInt ∧ x1.toInt < (v 13 2).toInt) ∧ x0.toInt ≠ x1.toInt) ∧ (btx (v (29 + 15 * x0.toNatClampNeg) 4) x1).toInt ≠ 1 ∧ 6 ≤ (v 13 3).toInt → r = -2 ∧ u = v) ∧ (((0 ≤ x0.toInt ∧ x0.toInt < (v 13 2).toInt) ∧ (0 ≤ x1.toInt ∧ x1.toInt < (v 13 2).toInt) ∧ x0.toInt ≠ x1.toInt) ∧ (btx (v (29 + 15 * x0.toNatClampNeg) 4) x1).toInt ≠ 1 ∧ (v 13 3).toInt < 6 → r = v 13 3 + 1 ∧ (∀ k j : Nat, u k j = if k = 13 ∧ j = 3 then v 13 3 + 1 else if k = 29 + 15 * x1.toNatClampNeg ∧ j = 4 then v (29 + 15 * x1.toNatClampNeg) 4 ||| (1 <<< (x0 &&& 31)) else if k = 29 + 15 * x0.toNatClampNeg ∧ j = 4 then v (29 + 15 * x0.toNatClampNeg) 4 ||| (1 <<< (x1 &&& 31)) else v k j))) (q : (¬ ((0 ≤ x0.toInt ∧ x0.toInt < (v2 1 2).toInt) ∧ (0 ≤ x1.toInt ∧ x1.toInt < (v2 1 2).toInt) ∧ x0.toInt ≠ x1.toInt) → r2 = -1 ∧ u2 = v2) ∧ (((0 ≤ x0.toInt ∧ x0.toInt < (v2 1 2).toInt) ∧ (0 ≤ x1.toInt ∧ x1.toInt < (v2 1 2).toInt) ∧ x0.toInt ≠ x1.toInt) ∧ (∃ k : Nat, (k : Int) < (v2 1 3).toInt ∧ mk (v2 1) k x0 x1) → r2 = -3 ∧ u2 = v2) ∧ (((0 ≤ x0.toInt ∧ x0.toInt < (v2 1 2).toInt) ∧ (0 ≤ x1.toInt ∧ x1.toInt < (v2 1 2).toInt) ∧ x0.toInt ≠ x1.toInt) ∧ ¬ (∃ k : Nat, (k : Int) < (v2 1 3).toInt ∧ mk (v2 1) k x0 x1) ∧ (v2 1 3).toInt = 6 → r2 = -2 ∧ u2 = v2) ∧ (((0 ≤ x0.toInt ∧ x0.toInt < (v2 1 2).toInt) ∧ (0 ≤ x1.toInt ∧ x1.toInt < (v2 1 2).toInt) ∧ x0.toInt ≠ x1.toInt) ∧ ¬ (∃ k : Nat, (k : Int) < (v2 1 3).toInt ∧ mk (v2 1) k x0 x1) ∧ (v2 1 3).toInt ≠ 6 → r2 = v2 1 3 + 1 ∧ (∀ n : Nat, u2 1 n = if n = 3 then v2 1 3 + 1 else if n = 147 + 2 * (v2 1 3).toNatClampNeg then x1 else if n = 146 + 2 * (v2 1 3).toNatClampNeg then x0 else v2 1 n) ∧ (∀ k : Nat, k ≠ 1 → u2 k = v2 k))) : r = r2 ∧ RR n u u2 := by
  have e0 : v 13 0 = v2 1 0 := h.1.1 _ _ _ (lk_a (by decide))
  have e1 : v 13 1 = v2 1 1 := h.1.1 _ _ _ (lk_a (by decide))
  have e2 : v 13 2 = v2 1 2 := h.1.1 _ _ _ (lk_a (by decide))
  have e3 : v 13 3 = v2 1 3 := h.1.1 _ _ _ (lk_a (by decide))
  have hb0 := hQ 1 0 8 (by decide)
  have hb1 := hQ 1 1 4 (by decide)
  have hb2 := hQ 1 2 6 (by decide)
  have hb3 := hQ 1 3 6 (by decide)
  rw [e2, e3] at p
  by_cases hC : (0 ≤ x0.toInt ∧ x0.toInt < (v2 1 2).toInt) ∧ (0 ≤ x1.toInt ∧ x1.toInt < (v2 1 2).toInt) ∧ x0.toInt ≠ x1.toInt
  · have zX := t_nn (x := x0) (by omega)
    have hX : x0.toNatClampNeg < 6 := by omega
    have ha : (x0.toNatClampNeg : Int) < (v2 1 2).toInt := by omega
    have zY := t_nn (x := x1) (by omega)
    have hY : x1.toNatClampNeg < 6 := by omega
    have hb : (x1.toNatClampNeg : Int) < (v2 1 2).toInt := by omega
    have hXY : x0.toNatClampNeg ≠ x1.toNatClampNeg := by omega
    obtain ⟨g1, g2⟩ := h.1.2.2.2.1 _ hX ha
    have g3 := g2 _ hY
    rw [← ofn (x := x1) (by omega)] at g3
    have g4 : (btx (v (29 + 15 * x0.toNatClampNeg) 4) x1).toInt = 1 ↔ ∃ k : Nat, (k : Int) < (v2 1 3).toInt ∧ mk (v2 1) k x0 x1 := g3.trans ⟨fun ⟨k, a, b⟩ => ⟨k, a, by unfold mj at b; unfold mk; omega⟩, fun ⟨k, a, b⟩ => ⟨k, a, by unfold mk at b; unfold mj; omega⟩⟩
    by_cases hT : ∃ k : Nat, (k : Int) < (v2 1 3).toInt ∧ mk (v2 1) k x0 x1
    · obtain ⟨p1, p2⟩ := p.2.1 ⟨hC, g4.mpr hT⟩
      obtain ⟨q1, q2⟩ := q.2.1 ⟨hC, hT⟩
      rw [p1, q1, p2, q2]
      exact ⟨rfl, h⟩
    · have hN : (btx (v (29 + 15 * x0.toNatClampNeg) 4) x1).toInt ≠ 1 := fun w => hT (g4.mp w)
      by_cases hD : (v2 1 3).toInt = 6
      · obtain ⟨p1, p2⟩ := p.2.2.1 ⟨hC, hN, by omega⟩
        obtain ⟨q1, q2⟩ := q.2.2.1 ⟨hC, hT, hD⟩
        rw [p1, q1, p2, q2]
        exact ⟨rfl, h⟩
      · obtain ⟨p1, p2⟩ := p.2.2.2 ⟨hC, hN, by omega⟩
        obtain ⟨q1, q2, q3⟩ := q.2.2.2 ⟨hC, hT, hD⟩
        have zM := t_nn (x := v2 1 3) (by omega)
        have hM : (v2 1 3).toNatClampNeg < 6 := by omega
        have k1 : (1 : Int32).toInt = 1 := by decide
        have hx : (v2 1 3 + 1).toInt = (v2 1 3).toInt + 1 := by rw [t_add (by rw [k1]; omega), k1]
        clear hT hN g4 g3 g2 p q
        exact ⟨by rw [p1, q1], h.wr q3 (funext fun j => by rw [p2, if_neg (by omega), if_neg (by omega), if_neg (by omega)]) (fun k hk => funext fun j => by rw [p2, if_neg (by omega), if_neg (by omega), if_neg (by omega)]) ⟨RL_mark hX hY hM p2 q2 h.1.1, h.1.2.1.cg (by rw [q2, if_neg (by omega), if_neg (by omega), if_neg (by omega)]) (fun c hc => ⟨by rw [p2, if_neg (by omega), if_neg (by omega), if_neg (by omega)], by rw [p2, if_neg (by omega), if_neg (by omega), if_neg (by omega)], by rw [p2, if_neg (by omega), if_neg (by omega), if_neg (by omega)]⟩) (fun c hc => ⟨by rw [q2, if_neg (by omega), if_neg (by omega), if_neg (by omega)], by rw [q2, if_neg (by omega), if_neg (by omega), if_neg (by omega)], by rw [q2, if_neg (by omega), if_neg (by omega), if_neg (by omega)], by rw [q2, if_neg (by omega), if_neg (by omega), if_neg (by omega)]⟩), h.1.2.2.1.cg (by rw [q2, if_neg (by omega), if_neg (by omega), if_neg (by omega)]) (by rw [q2, if_neg (by omega), if_neg (by omega), if_neg (by omega)]) (fun m hm => by rw [q2, if_neg (by omega), if_neg (by omega), if_neg (by omega)]), RG_mark hX hY hM hXY zM.symm hx zX.symm zY.symm ha hb p2 q2 h.1.2.2.2⟩⟩
  · obtain ⟨p1, p2⟩ := p.1 hC
    obtain ⟨q1, q2⟩ := q.1 hC
    rw [p1, q1, p2, q2]
    exact ⟨rfl, h⟩

set_option maxHeartbeats 4000000 in
/-- what is in use is copied: the relation goes with it -/
theorem RQ.copy {b d : Nat} {v u : Nat → Nat → Int32} {s z : Nat → Int32} (h : RQ b v s) (hc0 : ∀ o j : Nat, lvH v b o j → u (d + o) j = v (b + o) j) (hz : ∀ n : Nat, n < 596 → z n = s n) (h3 : (s 3).toInt ≤ 6) : RQ d u z := by
  have e0 : v b 0 = s 0 := h.1 _ _ _ (lk_a (by decide))
  have e1 : v b 1 = s 1 := h.1 _ _ _ (lk_a (by decide))
  have e2 : v b 2 = s 2 := h.1 _ _ _ (lk_a (by decide))
  have hcc : ∀ o j : Nat, lvH v b o j → ∀ K L : Nat, K = d + o → L = b + o → u K j = v L j := fun o j hl K L hK hL => by
    subst hK
    subst hL
    exact hc0 o j hl
  have hca : ∀ c q j : Nat, c < 6 → (c : Int) < (s 2).toInt → lvC (v (b + 16 + 15 * c)) q j → lvH v b (16 + 15 * c + q) j := fun c q j h1 h2 h3 => Or.inr (Or.inr (Or.inr ⟨c, q, h1, by rw [e2]; exact h2, rfl, h3⟩))
  have z0 := hz 0 (by decide)
  have z1 := hz 1 (by decide)
  have z2 := hz 2 (by decide)
  have z3 := hz 3 (by decide)
  refine ⟨?_, ?_, ?_, ?_⟩
  · intro k j n hl
    rw [hz n (lk_k hl).2]
    unfold lk at hl
    rw [z0, z1, z2] at hl
    rcases hl with ⟨rfl, hj, rfl⟩ | ⟨p, hp, ha, hj, rfl, rfl⟩ | ⟨m, hm, ha, hj, rfl, rfl⟩ | ⟨m, hm, ha, rfl, rfl, rfl⟩ | ⟨c, hc, ha, rfl, rfl, rfl⟩ | ⟨c, hc, ha, rfl, rfl, rfl⟩ | ⟨c, hc, ha, rfl, rfl, rfl⟩ | ⟨c, hc, ha, rfl, rfl, rfl⟩ | ⟨c, hc, ha, hj, rfl, rfl⟩ | ⟨c, i, hc, ha, hi, hj, hr, rfl, rfl⟩ | ⟨c, i, hc, ha, hi, hj, rfl, rfl⟩ | ⟨c, t, hc, ha, ht, hr, hj, rfl, rfl⟩
    · exact (hcc 0 n (Or.inl ⟨rfl, hj⟩) _ b rfl rfl).trans (h.1 _ _ _ (lk_a hj))
    · exact (hcc (4 + p) j (Or.inr (Or.inl ⟨by omega, by omega, by rw [e0]; omega, hj⟩)) _ (b + 4 + p) (by omega) (by omega)).trans (h.1 _ _ _ (lk_p hp ha hj))
    · exact (hcc (12 + m) j (Or.inr (Or.inr (Or.inl ⟨by omega, by omega, by rw [e1]; omega, by omega⟩))) _ (b + 12 + m) (by omega) (by omega)).trans (h.1 _ _ _ (lk_m hm ha hj))
    · exact (hcc (12 + m) 2 (Or.inr (Or.inr (Or.inl ⟨by omega, by omega, by rw [e1]; omega, by omega⟩))) _ (b + 12 + m) (by omega) (by omega)).trans (h.1 _ _ _ (lk_k_ hm ha))
    · exact (hcc (16 + 15 * c + 0) 0 (hca c 0 0 hc ha (Or.inl ⟨rfl, by omega⟩)) _ (b + 16 + 15 * c) (by omega) (by omega)).trans (h.1 _ _ _ (lk_c0 hc ha))
    · exact (hcc (16 + 15 * c + 0) 2 (hca c 0 2 hc ha (Or.inl ⟨rfl, by omega⟩)) _ (b + 16 + 15 * c) (by omega) (by omega)).trans (h.1 _ _ _ (lk_c2 hc ha))
    · exact (hcc (16 + 15 * c + 0) 3 (hca c 0 3 hc ha (Or.inl ⟨rfl, by omega⟩)) _ (b + 16 + 15 * c) (by omega) (by omega)).trans (h.1 _ _ _ (lk_c3 hc ha))
    · exact (hcc (16 + 15 * c + 0) 5 (hca c 0 5 hc ha (Or.inl ⟨rfl, by omega⟩)) _ (b + 16 + 15 * c) (by omega) (by omega)).trans (h.1 _ _ _ (lk_c5 hc ha))
    · exact (hcc (16 + 15 * c + 1) j (hca c 1 j hc ha (Or.inr (Or.inl ⟨rfl, hj⟩))) _ (b + 17 + 15 * c) (by omega) (by omega)).trans (h.1 _ _ _ (lk_q hc ha hj))
    · rw [hz (36 + 7 * c) (by omega)] at hr
      have w := h.1 _ _ _ (lk_c2 hc ha)
      exact (hcc (16 + 15 * c + (4 + i)) j (hca c (4 + i) j hc ha (by unfold lvC; rw [w]; omega)) _ (b + 20 + 15 * c + i) (by omega) (by omega)).trans (h.1 _ _ _ (lk_o hc ha hi hj hr))
    · exact (hcc (16 + 15 * c + (7 + i)) j (hca c (7 + i) j hc ha (by unfold lvC; omega)) _ (b + 23 + 15 * c + i) (by omega) (by omega)).trans (h.1 _ _ _ (lk_l hc ha hi hj))
    · rw [hz (38 + 7 * c) (by omega)] at hr
      have w := h.1 _ _ _ (lk_c5 hc ha)
      exact (hcc (16 + 15 * c + (10 + t)) j (hca c (10 + t) j hc ha (by unfold lvC; rw [w]; omega)) _ (b + 26 + 15 * c + t) (by omega) (by omega)).trans (h.1 _ _ _ (lk_t hc ha ht hr hj))
  · intro c hc ha
    rw [z2] at ha
    have g0 := hcc (16 + 15 * c + 0) 1 (hca c 0 1 hc ha (Or.inl ⟨rfl, by omega⟩)) (d + 16 + 15 * c) (b + 16 + 15 * c) (by omega) (by omega)
    have g1 := hcc (16 + 15 * c + 2) 0 (hca c 2 0 hc ha (Or.inr (Or.inr (Or.inl ⟨rfl, by omega⟩)))) (d + 18 + 15 * c) (b + 18 + 15 * c) (by omega) (by omega)
    have g2 := hcc (16 + 15 * c + 2) 1 (hca c 2 1 hc ha (Or.inr (Or.inr (Or.inl ⟨rfl, by omega⟩)))) (d + 18 + 15 * c) (b + 18 + 15 * c) (by omega) (by omega)
    rw [g0, g1, g2, hz (34 + 7 * c) (by omega), hz (35 + 7 * c) (by omega), hz (74 + 2 * c) (by omega), hz (75 + 2 * c) (by omega)]
    exact h.2.1 c hc ha
  · intro m hm ha
    rw [z1] at ha
    rw [z0, hz (28 + m) (by omega)]
    exact h.2.2.1 m hm ha
  · have key : ∀ k a b : Nat, (k : Int) < (s 3).toInt → (mj z k a b ↔ mj s k a b) := fun k a b hk => by
      unfold mj
      rw [hz (146 + 2 * k) (by omega), hz (147 + 2 * k) (by omega)]
    refine ⟨fun c hc ha => ?_, fun k hk => ?_⟩
    · rw [z2] at ha
      have g0 := hcc (16 + 15 * c + 0) 4 (hca c 0 4 hc ha (Or.inl ⟨rfl, by omega⟩)) (d + 16 + 15 * c) (b + 16 + 15 * c) (by omega) (by omega)
      obtain ⟨g1, g2⟩ := h.2.2.2.1 c hc ha
      unfold GC
      rw [g0, z3]
      exact ⟨g1, fun e he => (g2 e he).trans ⟨fun ⟨k, q1, q2⟩ => ⟨k, q1, (key k c e q1).mpr q2⟩, fun ⟨k, q1, q2⟩ => ⟨k, q1, (key k c e q1).mp q2⟩⟩⟩
    · rw [z3] at hk
      rw [z2, hz (146 + 2 * k) (by omega), hz (147 + 2 * k) (by omega)]
      exact h.2.2.2.2 k hk
section RKB
variable {n r r2 x0 : Int32} {v u v2 u2 : Nat → Nat → Int32}
theorem T_rooms (h : RR n v v2) (p : (¬ (1 ≤ x0.toInt ∧ x0.toInt ≤ 2) → r = -1 ∧ u = v) ∧ (1 ≤ x0.toInt ∧ x0.toInt ≤ 2 → r = v 0 4 ∧ (∀ k j : Nat, u k j = if k = 0 ∧ j = 4 then x0 else v k j))) (q : ((¬ (1 ≤ x0.toInt ∧ x0.toInt ≤ 2) ∧ r2 = -1 ∧ u2 = v2) ∨ ((1 ≤ x0.toInt ∧ x0.toInt ≤ 2) ∧ r2 = v2 0 3 ∧ u2 0 3 = x0 ∧ u2 1 = v2 1 ∧ u2 2 = v2 2 ∧ u2 0 2 = v2 0 2))) : r = r2 ∧ RR n u u2 := by
  by_cases hC : 1 ≤ x0.toInt ∧ x0.toInt ≤ 2
  · obtain ⟨p1, p2⟩ := p.2 hC
    rcases q with ⟨q1, -⟩ | ⟨q1, q2, q3, q4, q5, q6⟩
    · exact absurd hC q1
    · have hk : ∀ k : Nat, 13 ≤ k → u k = v k := fun k hk => funext fun j => by rw [p2, if_neg (by omega)]
      obtain ⟨h1, h2, h3, h4⟩ := h
      refine ⟨by rw [p1, q2, h2], by rw [q4]; exact h1.cgv (fun k a _ => hk k a), by rw [p2, if_pos ⟨rfl, rfl⟩, q3], by rw [q6]; exact h3, fun w => by rw [q5]; exact (h4 w).cgv (fun k a _ => hk k (by omega))⟩
  · obtain ⟨p1, p2⟩ := p.1 hC
    rcases q with ⟨-, q2, q3⟩ | ⟨q1, -⟩
    · rw [p1, p2, q2, q3]
      exact ⟨rfl, h⟩
    · exact absurd q1 hC
theorem T_keep (hQ : Ir v2) (h : RR n v v2) (p1 : ∀ o j : Nat, lvH v 13 o j → u (119 + o) j = v (13 + o) j) (p2 : ∀ k : Nat, k < 119 → u k = v k) (q2 : ∀ j : Nat, j < 596 → u2 2 j = v2 1 j) (q3 : u2 1 = v2 1) (q4 : u2 0 2 = 1) (q5 : u2 0 3 = v2 0 3) : RR 1 u u2 := by
  obtain ⟨h1, h2, h3, h4⟩ := h
  have hb3 := hQ 1 3 6 (by decide)
  exact ⟨by rw [q3]; exact h1.cgv (fun k _ a => p2 k (by omega)), by rw [p2 0 (by decide), q5]; exact h2, q4, fun _ => h1.copy p1 q2 hb3.2⟩
theorem T_back0 (h : RR 0 v v2) (p : u = v ∧ r = -5) (q : (((v2 0 2).toInt = 0 ∧ u2 = v2 ∧ r2 = -5) ∨ ((v2 0 2).toInt = 1 ∧ (∀ j : Nat, j < 596 → u2 1 j = v2 2 j) ∧ u2 2 = v2 2 ∧ u2 0 = v2 0 ∧ r2 = 1))) : r = -5 ∧ r2 = -5 ∧ RR 0 u u2 := by
  rcases q with ⟨q1, q2, q3⟩ | ⟨q1, -⟩
  · refine ⟨p.2, q3, ?_⟩
    rw [p.1, q2]
    exact h
  · rw [h.2.2.1] at q1
    exact absurd q1 (by decide)
theorem T_back1 (hQ : Ir v2) (h : RR 1 v v2) (p : ((∀ o j : Nat, lvH v 119 o j → u (13 + o) j = v (119 + o) j) ∧ (∀ k : Nat, (k < 13 ∨ 119 ≤ k) → u k = v k)) ∧ r = 1) (q : (((v2 0 2).toInt = 0 ∧ u2 = v2 ∧ r2 = -5) ∨ ((v2 0 2).toInt = 1 ∧ (∀ j : Nat, j < 596 → u2 1 j = v2 2 j) ∧ u2 2 = v2 2 ∧ u2 0 = v2 0 ∧ r2 = 1))) : r = 1 ∧ r2 = 1 ∧ RR 1 u u2 := by
  rcases q with ⟨q1, -⟩ | ⟨q1, q2, q3, q4, q5⟩
  · rw [h.2.2.1] at q1
    exact absurd q1 (by decide)
  · obtain ⟨h1, h2, h3, h4⟩ := h
    have hb3 := hQ 2 3 6 (by decide)
    refine ⟨p.2, q5, (h4 rfl).copy p.1.1 q2 hb3.2, by rw [p.1.2 0 (by omega), q4]; exact h2, by rw [q4]; exact h3, fun _ => by rw [q3]; exact (h4 rfl).cgv (fun k a _ => p.1.2 k (Or.inr a))⟩
end RKB
theorem side3 (x : Int32) : x = 0 ∨ x = 1 ∨ ¬ (0 ≤ x.toInt ∧ x.toInt ≤ 1) := by
  by_cases h : 0 ≤ x.toInt ∧ x.toInt ≤ 1
  · rcases t_bool h with q | q
    · exact Or.inl q
    · exact Or.inr (Or.inl q)
  · exact Or.inr (Or.inr h)

theorem RQ_0 : RQ 13 v_0 (m_0 1) := by
  have z : (0 : Int32).toInt = 0 := by decide
  refine ⟨fun k j n h => ?_, fun c hc ha => absurd ha (by show ¬ (c : Int) < (0 : Int32).toInt; omega), fun m hm ha => absurd ha (by show ¬ (m : Int) < (0 : Int32).toInt; omega), fun c hc ha => absurd ha (by show ¬ (c : Int) < (0 : Int32).toInt; omega), fun k hk => absurd hk (by show ¬ (k : Int) < (0 : Int32).toInt; omega)⟩
  have q := lk_k h
  rw [v_0n (by omega)]
  rfl
theorem RR_0 : RR 0 v_0 m_0 := ⟨RQ_0, rfl, rfl, fun q => absurd q (by decide)⟩

set_option maxHeartbeats 4000000 in
set_option maxRecDepth 100000 in
theorem e_X7_offer_o (l : Launch) (dC : Nat → ClassId) (dI : Nat → Nat → Nat) (cy : Nat → ClassId) (sz : Nat) (ad : Nat → Nat) (kv : Value) (N : Nat) (hN : 119 ≤ N) (v : Nat → Nat → Int32) (hv : Iv v) (x0 x1 x2 : Int32) (hs : ¬ (0 ≤ x1.toInt ∧ x1.toInt ≤ 1)) : Met l yX7_offer wsX7_offer ({ frames := 3, cells := 0, slots := 0, locals := 192 }) (va_Pc [.ref (ad 0), .int x0, .int x1, .int x2] (ex_Pre dC dI cy sz (wl ad kv cy N v))) (va_Qi (fun (r : Int32) (u : Nat → Nat → Int32) => Iv u ∧ r = -1 ∧ u = v) (fun u t => ex_Pst dC dI (va_A (wl ad kv cy N v) sz) (wl ad kv cy N u) t) (va_A (wl ad kv cy N v) sz)) 0 0 (va_A (wl ad kv cy N v) sz) := by
  refine Met.ofW (cc := cX7_offer) (maxL := 5) (ret := (some .int)) (by decide) rfl ?_
  intro p e s m args below meth c s₁ B hml hv
  obtain ⟨rfl, hsz, hE, hP, hK, hD0⟩ := hv
  have hx := B.exec
  have hb := B.bytes
  have hr := B.returns
  have hts := atoms_spec (ws := wsX7_offer) B.pre
  have hown : s.vm.findClass RX7 = some m.cls := findClass_of_methodNamed B.named
  have hlocks := B.notSynchronized
  subst hsz
  have hD := hD0.self (sz := s.heap.size)
  generalize hAe : va_A (wl ad kv cy N v) s.heap.size = A at hD ⊢
  have hA : ∀ q : Nat, s.heap.size ≤ q → A q := fun q h => by rw [← hAe]; exact Or.inr h
  have hS : va_S A s.heap s.heap [] := va_S.rf
  have hP : va_P (dC, dI) vwCl (wl ad kv cy N v) s.heap := hP
  have hl := lv_entry ([.ref (ad 0), .int x0, .int x1, .int x2]) (n := 5) (Nat.le_of_ble_eq_true rfl)
  rw [lg_entry_eq]
  generalize (lg_sl ([.ref (ad 0), .int x0, .int x1, .int x2]) ++ List.replicate (5 - (lg_sl ([.ref (ad 0), .int x0, .int x1, .int x2])).length) Slot.unset).toArray = ls at hl ⊢
  have hl : lv_has ls 5 [(0, .ref (ad 0)), (1, .int x0), (2, .int x1), (3, .int x2)] := hl
  refine lv_aload_n hx hb dX7_offer_0 rfl (lv_at hl 0 rfl) ?_
  refine lv_iload_n hx hb dX7_offer_1 rfl (lv_at hl 1 rfl) ?_
  refine yw_i (w1 := fun (u : Nat → Nat → Int32) => wl ad kv cy N u) hD hS hA (va_runV (As := [.int x0]) (rest := []) ⟨hx, hb, hml, hown, hts⟩ (g_X7_isCase l dC dI cy _ ad kv N hN v hv x0) (cwV 1 hts gX7_offer_X7_isCase rfl rfl rfl hd_V_X7_isCase_1 ⟨Nat.le_of_ble_eq_true rfl, Nat.le_of_ble_eq_true rfl⟩) (yw_preV hE hK hP hD (ci := 7) (q := (RX7, TX7, 5)) (q0 := 0) rfl (wl_at (by omega) (ce_0 (by decide)))) rfl rfl hl.1 rfl (lv_room (Nat.le_of_ble_eq_true rfl)) dX7_offer_2 ⟨Nat.le_of_ble_eq_true rfl, Nat.le_of_ble_eq_true rfl⟩) (fun r_1 v_1 H locs hw_1 hP hD hS => ?_)
  obtain ⟨-, hu_1, hw_1⟩ := hw_1
  replace hu_1 := hu_1.symm
  subst hu_1
  rcases hw_1 with ⟨rfl, ha_2⟩ | ⟨rfl, ha_2⟩
  · have hb_2 := hv.at (k := 13) (j := 2) (K := 3) (by decide) rfl
    have hj_2 : 0 ≤ x0.toInt ∧ x0.toInt ≤ 5 := ⟨by omega, by omega⟩
    refine lv_if_eq (tgt := 25) hx hb dX7_offer_5 (by decide) (fun c9 => absurd c9 (by decide)) (fun _ => ?_)
    refine lv_iload_n hx hb dX7_offer_8 rfl (lv_at hl 2 rfl) ?_
    refine yc_p hP hS (va_runS (As := [.int x1]) (rest := []) ⟨hx, hb, hml, hown, hts⟩ (c_X7_isSide l x1) (cwS 1 hts gX7_offer_X7_isSide rfl rfl rfl hd_S_X7_isSide_1 ⟨Nat.le_of_ble_eq_true rfl, Nat.le_of_ble_eq_true rfl⟩) ex_preP rfl rfl hl.1 rfl (lv_room (Nat.le_of_ble_eq_true rfl)) dX7_offer_9 ⟨Nat.le_of_ble_eq_true rfl, Nat.le_of_ble_eq_true rfl⟩) (fun r_3 H locs hw_3 hP hS => ?_)
    rcases wi_ca hw_3 with ⟨rfl, hc_4⟩ | ⟨rfl, hc_4⟩
    · have k_0 : (0 : Int32).toInt = 0 := by decide
      have k_1 : (1 : Int32).toInt = 1 := by decide
      have tc_4 := wi_tl hc_4
      exact absurd ⟨by omega, by omega⟩ hs
    · refine lv_if_eq (tgt := 25) hx hb dX7_offer_12 (by decide) (fun _ => ?_) (fun c9 => absurd c9 (by decide))
      refine lv_iconst (v := (-1)) hx hb dX7_offer_25 (by decide) ?_
      exact W.iret (v := (-1)) hx hb hr (fun t ht hW => ⟨⟨(-1), v, rfl, ⟨hv, rfl, rfl⟩, by rw [ht]; exact hP, hD⟩, hS.F ht⟩) hS.2.2 dX7_offer_26
  · refine lv_if_eq (tgt := 25) hx hb dX7_offer_5 (by decide) (fun _ => ?_) (fun c9 => absurd c9 (by decide))
    refine lv_iconst (v := (-1)) hx hb dX7_offer_25 (by decide) ?_
    exact W.iret (v := (-1)) hx hb hr (fun t ht hW => ⟨⟨(-1), v, rfl, ⟨hv, rfl, rfl⟩, by rw [ht]; exact hP, hD⟩, hS.F ht⟩) hS.2.2 dX7_offer_26

set_option maxHeartbeats 4000000 in
set_option maxRecDepth 100000 in
theorem e_X8_offer_o (l : Launch) (dC : Nat → ClassId) (dI : Nat → Nat → Nat) (cy : Nat → ClassId) (sz : Nat) (ad : Nat → Nat) (v : Nat → Nat → Int32) (hv : Ir v) (x0 x1 x2 : Int32) (hs : ¬ (0 ≤ x1.toInt ∧ x1.toInt ≤ 1)) : Met l yX8_offer wsX8_offer ({ frames := 2, cells := 0, slots := 0, locals := 128 }) (va_Pc [.ref (ad 0), .int x0, .int x1, .int x2] (ex_Pre dC dI cy sz (wm ad cy v))) (va_Qi (fun (r : Int32) (u : Nat → Nat → Int32) => Ir u ∧ r = -1 ∧ u = v) (fun u t => ex_Pst dC dI (va_A (wm ad cy v) sz) (wm ad cy u) t) (va_A (wm ad cy v) sz)) 0 0 (va_A (wm ad cy v) sz) := by
  refine Met.ofW (cc := cX8_offer) (maxL := 7) (ret := (some .int)) (by decide) rfl ?_
  intro p e s m args below meth c s₁ B hml hv
  obtain ⟨rfl, hsz, hE, hP, hK, hD0⟩ := hv
  have hx := B.exec
  have hb := B.bytes
  have hr := B.returns
  have hts := atoms_spec (ws := wsX8_offer) B.pre
  have hown : s.vm.findClass RX8 = some m.cls := findClass_of_methodNamed B.named
  have hlocks := B.notSynchronized
  subst hsz
  have hD := hD0.self (sz := s.heap.size)
  generalize hAe : va_A (wm ad cy v) s.heap.size = A at hD ⊢
  have hA : ∀ q : Nat, s.heap.size ≤ q → A q := fun q h => by rw [← hAe]; exact Or.inr h
  have hS : va_S A s.heap s.heap [] := va_S.rf
  have hP : va_P (dC, dI) vwCl (wm ad cy v) s.heap := hP
  have hl := lv_entry ([.ref (ad 0), .int x0, .int x1, .int x2]) (n := 7) (Nat.le_of_ble_eq_true rfl)
  rw [lg_entry_eq]
  generalize (lg_sl ([.ref (ad 0), .int x0, .int x1, .int x2]) ++ List.replicate (7 - (lg_sl ([.ref (ad 0), .int x0, .int x1, .int x2])).length) Slot.unset).toArray = ls at hl ⊢
  have hl : lv_has ls 7 [(0, .ref (ad 0)), (1, .int x0), (2, .int x1), (3, .int x2)] := hl
  refine lv_aload_n hx hb dX8_offer_0 rfl (lv_at hl 0 rfl) ?_
  refine lv_iload_n hx hb dX8_offer_1 rfl (lv_at hl 1 rfl) ?_
  refine yw_i (w1 := fun (u : Nat → Nat → Int32) => wm ad cy u) hD hS hA (va_runV (As := [.int x0]) (rest := []) ⟨hx, hb, hml, hown, hts⟩ (q_X8_isCase l dC dI cy _ ad v hv x0) (cwV 1 hts gX8_offer_X8_isCase rfl rfl rfl hd_V_X8_isCase_1 ⟨Nat.le_of_ble_eq_true rfl, Nat.le_of_ble_eq_true rfl⟩) (yw_preV hE hK hP hD (ci := 8) (q := (RX8, TX8, 11)) (q0 := 0) rfl (wm_at (by decide) rc_0)) rfl rfl hl.1 rfl (lv_room (Nat.le_of_ble_eq_true rfl)) dX8_offer_2 ⟨Nat.le_of_ble_eq_true rfl, Nat.le_of_ble_eq_true rfl⟩) (fun r_1 v_1 H locs hw_1 hP hD hS => ?_)
  obtain ⟨-, hu_1, hw_1⟩ := hw_1
  replace hu_1 := hu_1.symm
  subst hu_1
  rcases hw_1 with ⟨rfl, ha_2⟩ | ⟨rfl, ha_2⟩
  · have hb_2 := hv 1 2 6 (by decide)
    have hj_2 : 0 ≤ x0.toInt ∧ x0.toInt ≤ 5 := ⟨by omega, by omega⟩
    refine lv_if_eq (tgt := 25) hx hb dX8_offer_5 (by decide) (fun c9 => absurd c9 (by decide)) (fun _ => ?_)
    refine lv_iload_n hx hb dX8_offer_8 rfl (lv_at hl 2 rfl) ?_
    refine yc_p hP hS (va_runS (As := [.int x1]) (rest := []) ⟨hx, hb, hml, hown, hts⟩ (c_X8_isSide l x1) (cwS 1 hts gX8_offer_X8_isSide rfl rfl rfl hd_S_X8_isSide_1 ⟨Nat.le_of_ble_eq_true rfl, Nat.le_of_ble_eq_true rfl⟩) ex_preP rfl rfl hl.1 rfl (lv_room (Nat.le_of_ble_eq_true rfl)) dX8_offer_9 ⟨Nat.le_of_ble_eq_true rfl, Nat.le_of_ble_eq_true rfl⟩) (fun r_3 H locs hw_3 hP hS => ?_)
    rcases wi_ca hw_3 with ⟨rfl, hc_4⟩ | ⟨rfl, hc_4⟩
    · have k_0 : (0 : Int32).toInt = 0 := by decide
      have k_1 : (1 : Int32).toInt = 1 := by decide
      have tc_4 := wi_tl hc_4
      exact absurd ⟨by omega, by omega⟩ hs
    · refine lv_if_eq (tgt := 25) hx hb dX8_offer_12 (by decide) (fun _ => ?_) (fun c9 => absurd c9 (by decide))
      refine lv_iconst (v := (-1)) hx hb dX8_offer_25 (by decide) ?_
      exact W.iret (v := (-1)) hx hb hr (fun t ht hW => ⟨⟨(-1), v, rfl, ⟨hv, rfl, rfl⟩, by rw [ht]; exact hP, hD⟩, hS.F ht⟩) hS.2.2 dX8_offer_26
  · refine lv_if_eq (tgt := 25) hx hb dX8_offer_5 (by decide) (fun _ => ?_) (fun c9 => absurd c9 (by decide))
    refine lv_iconst (v := (-1)) hx hb dX8_offer_25 (by decide) ?_
    exact W.iret (v := (-1)) hx hb hr (fun t ht hW => ⟨⟨(-1), v, rfl, ⟨hv, rfl, rfl⟩, by rw [ht]; exact hP, hD⟩, hS.F ht⟩) hS.2.2 dX8_offer_26

/-- a round over: a asks, g gives; only the last one of a settled case met -/
def od (st sm rd a g : Int32) (j : Nat) : Prop := (0 ≤ a.toInt ∧ a.toInt ≤ 100) ∧ (0 ≤ g.toInt ∧ g.toInt ≤ 100) ∧ (st.toInt = 1 ∧ (j : Int) + 1 = rd.toInt → a.toInt ≤ g.toInt ∧ sm = (a + g) / 2) ∧ (¬ (st.toInt = 1 ∧ (j : Int) + 1 = rd.toInt) → g.toInt < a.toInt)
def OR_ (s : Nat → Int32) (c : Nat) : Prop := ((s (34 + 7 * c)).toInt = 1 → 1 ≤ (s (36 + 7 * c)).toInt) ∧ ∀ j : Nat, j < 5 → (j : Int) < (s (36 + 7 * c)).toInt → od (s (34 + 7 * c)) (s (35 + 7 * c)) (s (36 + 7 * c)) (s (86 + 10 * c + 2 * j)) (s (87 + 10 * c + 2 * j)) j
def OT (s : Nat → Int32) (c : Nat) : Prop := ∀ t : Nat, t < 5 → (t : Int) < (s (38 + 7 * c)).toInt → (s (161 + 25 * c + 5 * t)).toInt ≤ (s (162 + 25 * c + 5 * t)).toInt
def OP (s : Nat → Int32) (c : Nat) : Prop := (0 ≤ (s (32 + 7 * c)).toInt ∧ (s (32 + 7 * c)).toInt < (s 0).toInt) ∧ 0 ≤ (s (33 + 7 * c)).toInt ∧ (s (33 + 7 * c)).toInt < (s 0).toInt
def OW (s : Nat → Int32) (c : Nat) : Prop := 1 ≤ (s (37 + 7 * c)).toInt ∧ (s (37 + 7 * c)).toInt ≤ 9
def OC (s : Nat → Int32) (c : Nat) : Prop := OP s c ∧ OW s c ∧ OR_ s c ∧ OT s c
def RO (s : Nat → Int32) : Prop := ∀ c : Nat, c < 6 → (c : Int) < (s 2).toInt → OC s c
section ROS
variable {s z : Nat → Int32} {c : Nat}
theorem OP.cg (h : OP s c) (h0 : (s 0).toInt ≤ (z 0).toInt) (e : ∀ w : Nat, 32 ≤ w → w < 34 → z (w + 7 * c) = s (w + 7 * c)) : OP z c := by
  unfold OP at h ⊢
  rw [e 32 (by decide) (by decide), e 33 (by decide) (by decide)]
  omega
theorem OW.cg (h : OW s c) (e : z (37 + 7 * c) = s (37 + 7 * c)) : OW z c := by
  unfold OW at h ⊢
  rw [e]
  exact h
theorem OR_.cg (h : OR_ s c) (e : ∀ w : Nat, 34 ≤ w → w < 37 → z (w + 7 * c) = s (w + 7 * c)) (eo : ∀ w : Nat, w < 10 → z (86 + w + 10 * c) = s (86 + w + 10 * c)) : OR_ z c := by
  unfold OR_ at h ⊢
  rw [e 34 (by decide) (by decide), e 35 (by decide) (by decide), e 36 (by decide) (by decide)]
  refine ⟨h.1, fun j hj hr => ?_⟩
  rw [show 86 + 10 * c + 2 * j = 86 + 2 * j + 10 * c from by omega, show 87 + 10 * c + 2 * j = 86 + (2 * j + 1) + 10 * c from by omega, eo (2 * j) (by omega), eo (2 * j + 1) (by omega), show 86 + 2 * j + 10 * c = 86 + 10 * c + 2 * j from by omega, show 86 + (2 * j + 1) + 10 * c = 87 + 10 * c + 2 * j from by omega]
  exact h.2 j hj hr
theorem OT.cg (h : OT s c) (e : z (38 + 7 * c) = s (38 + 7 * c)) (et : ∀ t : Nat, t < 5 → (t : Int) < (s (38 + 7 * c)).toInt → z (161 + 25 * c + 5 * t) = s (161 + 25 * c + 5 * t) ∧ z (162 + 25 * c + 5 * t) = s (162 + 25 * c + 5 * t)) : OT z c := by
  intro t ht hr
  rw [e] at hr
  rw [(et t ht hr).1, (et t ht hr).2]
  exact h t ht hr
end ROS
/-- as RR, with what holds of the cases -/
def RR3 (n : Int32) (v v2 : Nat → Nat → Int32) : Prop := RR n v v2 ∧ RO (v2 1) ∧ (n = 1 → RO (v2 2))
section RR3S
variable {n r r2 : Int32} {v v2 u u2 : Nat → Nat → Int32}
theorem RR3.mv (h : RR3 n v v2) (f : Fz v u) (g : Fq v2 u2) : RR3 n u u2 := ⟨h.1.mv f g, by rw [g.1]; exact h.2.1, fun q => by rw [g.2.1]; exact h.2.2 q⟩
theorem RR3.wr (h : RR3 n v v2) (h1 : r = r2 ∧ RR n u u2) (h2 : RO (u2 1)) (h3 : u2 2 = v2 2) : r = r2 ∧ RR3 n u u2 := ⟨h1.1, h1.2, h2, fun q => by rw [h3]; exact h.2.2 q⟩
theorem RO.copy {s z : Nat → Int32} (h : RO s) (hz : ∀ n : Nat, n < 596 → z n = s n) : RO z := by
  intro c hc ha
  rw [hz 2 (by decide)] at ha
  obtain ⟨h1, h2, h3, h4⟩ := h c hc ha
  exact ⟨h1.cg (by rw [hz 0 (by decide)]; exact Int.le_refl _) (fun w a b => hz _ (by omega)), h2.cg (hz _ (by omega)), h3.cg (fun w a b => hz _ (by omega)) (fun w a => hz _ (by omega)), h4.cg (hz _ (by omega)) (fun t ht _ => ⟨hz _ (by omega), hz _ (by omega)⟩)⟩
end RR3S
theorem RO_0 : RO (m_0 1) := fun c hc ha => absurd ha (by have z : (0 : Int32).toInt = 0 := by decide
                                                          show ¬ (c : Int) < (0 : Int32).toInt; omega)
theorem RR3_0 : RR3 0 v_0 m_0 := ⟨RR_0, RO_0, fun q => absurd q (by decide)⟩

set_option maxHeartbeats 4000000 in
theorem S_weight {n r r2 x0 x1 : Int32} {v u v2 u2 : Nat → Nat → Int32} (hI : Iv v) (hQ : Ir v2) (h0 : RR3 n v v2) (p : (¬ ((0 ≤ x0.toInt ∧ x0.toInt < (v 13 2).toInt) ∧ 1 ≤ x1.toInt ∧ x1.toInt ≤ 9) → r = -1 ∧ u = v) ∧ ((0 ≤ x0.toInt ∧ x0.toInt < (v 13 2).toInt) ∧ 1 ≤ x1.toInt ∧ x1.toInt ≤ 9 → r = v (29 + 15 * x0.toNatClampNeg) 3 ∧ (∀ k j : Nat, u k j = if k = 29 + 15 * x0.toNatClampNeg ∧ j = 3 then x1 else v k j))) (q : (¬ ((0 ≤ x0.toInt ∧ x0.toInt < (v2 1 2).toInt) ∧ 1 ≤ x1.toInt ∧ x1.toInt ≤ 9) → r2 = -1 ∧ u2 = v2) ∧ ((0 ≤ x0.toInt ∧ x0.toInt < (v2 1 2).toInt) ∧ 1 ≤ x1.toInt ∧ x1.toInt ≤ 9 → r2 = v2 1 (37 + 7 * x0.toNatClampNeg) ∧ (∀ n : Nat, u2 1 n = if n = 37 + 7 * x0.toNatClampNeg then x1 else v2 1 n) ∧ (∀ k : Nat, k ≠ 1 → u2 k = v2 k))) : r = r2 ∧ RR3 n u u2 := by
  have h := h0.1
  have hO := h0.2.1
  have hT := T_weight hI hQ h p q
  have hb0 := hQ 1 0 8 (by decide)
  have hb1 := hQ 1 1 4 (by decide)
  have hb2 := hQ 1 2 6 (by decide)
  have hb3 := hQ 1 3 6 (by decide)
  by_cases hC : (0 ≤ x0.toInt ∧ x0.toInt < (v2 1 2).toInt) ∧ 1 ≤ x1.toInt ∧ x1.toInt ≤ 9
  · obtain ⟨-, q2, q3⟩ := q.2 hC
    have zX := t_nn (x := x0) (by omega)
    have hX : x0.toNatClampNeg < 6 := by omega
    have hXa : (x0.toNatClampNeg : Int) < (v2 1 2).toInt := by omega
    refine h0.wr hT ?_ (q3 2 (by decide))
    intro c hc ha
    have E2 : u2 1 2 = v2 1 2 := by rw [q2, if_neg (by omega)]
    rw [E2] at ha
    obtain ⟨a1, a2, a3, a4⟩ := hO c hc ha
    refine ⟨a1.cg (by rw [q2, if_neg (by omega)]; exact Int.le_refl _) (fun w f1 f2 => by rw [q2, if_neg (by omega)]), ?_, a3.cg (fun w f1 f2 => by rw [q2, if_neg (by omega)]) (fun w f1 => by rw [q2, if_neg (by omega)]), a4.cg (by rw [q2, if_neg (by omega)]) (fun t ht hr => ⟨by rw [q2, if_neg (by omega)], by rw [q2, if_neg (by omega)]⟩)⟩
    by_cases e : c = x0.toNatClampNeg
    · unfold OW
      rw [q2, if_pos (by omega)]
      exact hC.2
    · exact a2.cg (by rw [q2, if_neg (by omega)])
  · obtain ⟨-, q2⟩ := q.1 hC
    exact h0.wr hT (by rw [q2]; exact hO) (by rw [q2])

set_option maxHeartbeats 4000000 in
theorem S_log {n r r2 x0 x1 x2 x3 : Int32} {v u v2 u2 : Nat → Nat → Int32} (hI : Iv v) (hQ : Ir v2) (h0 : RR3 n v v2) (p : (¬ ((0 ≤ x0.toInt ∧ x0.toInt < (v 13 2).toInt) ∧ (0 ≤ x1.toInt ∧ x1.toInt ≤ 1) ∧ (0 ≤ x2.toInt ∧ x2.toInt ≤ 23) ∧ 0 ≤ x3.toInt ∧ x3.toInt ≤ 7) → r = -1 ∧ u = v) ∧ ((0 ≤ x0.toInt ∧ x0.toInt < (v 13 2).toInt) ∧ (0 ≤ x1.toInt ∧ x1.toInt ≤ 1) ∧ (0 ≤ x2.toInt ∧ x2.toInt ≤ 23) ∧ 0 ≤ x3.toInt ∧ x3.toInt ≤ 7 → r = v (36 + 15 * x0.toNatClampNeg + x1.toNatClampNeg) x2.toNatClampNeg ∧ (∀ k j : Nat, u k j = if k = 36 + 15 * x0.toNatClampNeg + x1.toNatClampNeg ∧ j = x2.toNatClampNeg then x3 else v k j))) (q : (¬ ((0 ≤ x0.toInt ∧ x0.toInt < (v2 1 2).toInt) ∧ (0 ≤ x1.toInt ∧ x1.toInt ≤ 1) ∧ (0 ≤ x2.toInt ∧ x2.toInt ≤ 23) ∧ 0 ≤ x3.toInt ∧ x3.toInt ≤ 7) → r2 = -1 ∧ u2 = v2) ∧ ((0 ≤ x0.toInt ∧ x0.toInt < (v2 1 2).toInt) ∧ (0 ≤ x1.toInt ∧ x1.toInt ≤ 1) ∧ (0 ≤ x2.toInt ∧ x2.toInt ≤ 23) ∧ 0 ≤ x3.toInt ∧ x3.toInt ≤ 7 → r2 = v2 1 (308 + 48 * x0.toNatClampNeg + 24 * x1.toNatClampNeg + x2.toNatClampNeg) ∧ (∀ n : Nat, u2 1 n = if n = 308 + 48 * x0.toNatClampNeg + 24 * x1.toNatClampNeg + x2.toNatClampNeg then x3 else v2 1 n) ∧ (∀ k : Nat, k ≠ 1 → u2 k = v2 k))) : r = r2 ∧ RR3 n u u2 := by
  have h := h0.1
  have hO := h0.2.1
  have hT := T_log hI hQ h p q
  have hb0 := hQ 1 0 8 (by decide)
  have hb1 := hQ 1 1 4 (by decide)
  have hb2 := hQ 1 2 6 (by decide)
  have hb3 := hQ 1 3 6 (by decide)
  by_cases hC : (0 ≤ x0.toInt ∧ x0.toInt < (v2 1 2).toInt) ∧ (0 ≤ x1.toInt ∧ x1.toInt ≤ 1) ∧ (0 ≤ x2.toInt ∧ x2.toInt ≤ 23) ∧ 0 ≤ x3.toInt ∧ x3.toInt ≤ 7
  · obtain ⟨-, q2, q3⟩ := q.2 hC
    have zX := t_nn (x := x0) (by omega)
    have hX : x0.toNatClampNeg < 6 := by omega
    have hXa : (x0.toNatClampNeg : Int) < (v2 1 2).toInt := by omega
    refine h0.wr hT ?_ (q3 2 (by decide))
    intro c hc ha
    have E2 : u2 1 2 = v2 1 2 := by rw [q2, if_neg (by omega)]
    rw [E2] at ha
    obtain ⟨a1, a2, a3, a4⟩ := hO c hc ha
    exact ⟨a1.cg (by rw [q2, if_neg (by omega)]; exact Int.le_refl _) (fun w f1 f2 => by rw [q2, if_neg (by omega)]), a2.cg (by rw [q2, if_neg (by omega)]), a3.cg (fun w f1 f2 => by rw [q2, if_neg (by omega)]) (fun w f1 => by rw [q2, if_neg (by omega)]), a4.cg (by rw [q2, if_neg (by omega)]) (fun t ht hr => ⟨by rw [q2, if_neg (by omega)], by rw [q2, if_neg (by omega)]⟩)⟩
  · obtain ⟨-, q2⟩ := q.1 hC
    exact h0.wr hT (by rw [q2]; exact hO) (by rw [q2])

set_option maxHeartbeats 4000000 in
theorem S_strike {n r r2 x0 : Int32} {v u v2 u2 : Nat → Nat → Int32} (hI : Iv v) (hQ : Ir v2) (h0 : RR3 n v v2) (p : (¬ (0 ≤ x0.toInt ∧ x0.toInt < (v 13 2).toInt) → r = -1 ∧ u = v) ∧ ((0 ≤ x0.toInt ∧ x0.toInt < (v 13 2).toInt) ∧ (v (29 + 15 * x0.toNatClampNeg) 5).toInt = 0 → r = -5 ∧ u = v) ∧ ((0 ≤ x0.toInt ∧ x0.toInt < (v 13 2).toInt) ∧ (v (29 + 15 * x0.toNatClampNeg) 5).toInt ≠ 0 → r = v (29 + 15 * x0.toNatClampNeg) 5 - 1 ∧ (∀ k j : Nat, u k j = if k = 29 + 15 * x0.toNatClampNeg ∧ j = 5 then v (29 + 15 * x0.toNatClampNeg) 5 - 1 else v k j))) (q : (¬ (0 ≤ x0.toInt ∧ x0.toInt < (v2 1 2).toInt) → r2 = -1 ∧ u2 = v2) ∧ ((0 ≤ x0.toInt ∧ x0.toInt < (v2 1 2).toInt) ∧ (v2 1 (38 + 7 * x0.toNatClampNeg)).toInt = 0 → r2 = -5 ∧ u2 = v2) ∧ ((0 ≤ x0.toInt ∧ x0.toInt < (v2 1 2).toInt) ∧ (v2 1 (38 + 7 * x0.toNatClampNeg)).toInt ≠ 0 → r2 = v2 1 (38 + 7 * x0.toNatClampNeg) - 1 ∧ (∀ n : Nat, u2 1 n = if n = 38 + 7 * x0.toNatClampNeg then v2 1 (38 + 7 * x0.toNatClampNeg) - 1 else v2 1 n) ∧ (∀ k : Nat, k ≠ 1 → u2 k = v2 k))) : r = r2 ∧ RR3 n u u2 := by
  have h := h0.1
  have hO := h0.2.1
  have hT := T_strike hI hQ h p q
  have hb0 := hQ 1 0 8 (by decide)
  have hb1 := hQ 1 1 4 (by decide)
  have hb2 := hQ 1 2 6 (by decide)
  have hb3 := hQ 1 3 6 (by decide)
  by_cases hC : (0 ≤ x0.toInt ∧ x0.toInt < (v2 1 2).toInt)
  · by_cases hD : (v2 1 (38 + 7 * x0.toNatClampNeg)).toInt = 0
    · obtain ⟨-, q2⟩ := q.2.1 ⟨hC, hD⟩
      exact h0.wr hT (by rw [q2]; exact hO) (by rw [q2])
    · obtain ⟨-, q2, q3⟩ := q.2.2 ⟨hC, hD⟩
      have zX := t_nn (x := x0) (by omega)
      have hX : x0.toNatClampNeg < 6 := by omega
      have hXa : (x0.toNatClampNeg : Int) < (v2 1 2).toInt := by omega
      have hb := hQ 1 (38 + 7 * x0.toNatClampNeg) 5 (bS_c (by omega) (by omega))
      have k1 : (1 : Int32).toInt = 1 := by decide
      have hx : (v2 1 (38 + 7 * x0.toNatClampNeg) - 1).toInt = (v2 1 (38 + 7 * x0.toNatClampNeg)).toInt - 1 := by rw [t_sub (by rw [k1]; omega), k1]
      refine h0.wr hT ?_ (q3 2 (by decide))
      intro c hc ha
      have E2 : u2 1 2 = v2 1 2 := by rw [q2, if_neg (by omega)]
      rw [E2] at ha
      obtain ⟨a1, a2, a3, a4⟩ := hO c hc ha
      refine ⟨a1.cg (by rw [q2, if_neg (by omega)]; exact Int.le_refl _) (fun w f1 f2 => by rw [q2, if_neg (by omega)]), a2.cg (by rw [q2, if_neg (by omega)]), a3.cg (fun w f1 f2 => by rw [q2, if_neg (by omega)]) (fun w f1 => by rw [q2, if_neg (by omega)]), ?_⟩
      by_cases e : c = x0.toNatClampNeg
      · subst e
        intro t ht hr
        rw [q2, if_pos (by omega), hx] at hr
        rw [q2 (161 + 25 * x0.toNatClampNeg + 5 * t), if_neg (by omega), q2 (162 + 25 * x0.toNatClampNeg + 5 * t), if_neg (by omega)]
        exact a4 t ht (by omega)
      · exact a4.cg (by rw [q2, if_neg (by omega)]) (fun t ht hr => ⟨by rw [q2, if_neg (by omega)], by rw [q2, if_neg (by omega)]⟩)
  · obtain ⟨-, q2⟩ := q.1 hC
    exact h0.wr hT (by rw [q2]; exact hO) (by rw [q2])

set_option maxHeartbeats 4000000 in
theorem S_close {n r r2 x0 : Int32} {v u v2 u2 : Nat → Nat → Int32} (hI : Iv v) (hQ : Ir v2) (h0 : RR3 n v v2) (p : (¬ (0 ≤ x0.toInt ∧ x0.toInt < (v 13 2).toInt) → r = -1 ∧ u = v) ∧ ((0 ≤ x0.toInt ∧ x0.toInt < (v 13 2).toInt) ∧ (v (29 + 15 * x0.toNatClampNeg) 0).toInt ≠ 0 → r = -4 ∧ u = v) ∧ ((0 ≤ x0.toInt ∧ x0.toInt < (v 13 2).toInt) ∧ (v (29 + 15 * x0.toNatClampNeg) 0).toInt = 0 → r = 1 ∧ (∀ k j : Nat, u k j = if k = 29 + 15 * x0.toNatClampNeg ∧ j = 0 then 2 else v k j))) (q : (¬ (0 ≤ x0.toInt ∧ x0.toInt < (v2 1 2).toInt) → r2 = -1 ∧ u2 = v2) ∧ ((0 ≤ x0.toInt ∧ x0.toInt < (v2 1 2).toInt) ∧ (v2 1 (34 + 7 * x0.toNatClampNeg)).toInt ≠ 0 → r2 = -4 ∧ u2 = v2) ∧ ((0 ≤ x0.toInt ∧ x0.toInt < (v2 1 2).toInt) ∧ (v2 1 (34 + 7 * x0.toNatClampNeg)).toInt = 0 → r2 = 1 ∧ (∀ n : Nat, u2 1 n = if n = 34 + 7 * x0.toNatClampNeg then 2 else v2 1 n) ∧ (∀ k : Nat, k ≠ 1 → u2 k = v2 k))) : r = r2 ∧ RR3 n u u2 := by
  have h := h0.1
  have hO := h0.2.1
  have hT := T_close hI hQ h p q
  have hb0 := hQ 1 0 8 (by decide)
  have hb1 := hQ 1 1 4 (by decide)
  have hb2 := hQ 1 2 6 (by decide)
  have hb3 := hQ 1 3 6 (by decide)
  by_cases hC : (0 ≤ x0.toInt ∧ x0.toInt < (v2 1 2).toInt)
  · by_cases hD : (v2 1 (34 + 7 * x0.toNatClampNeg)).toInt ≠ 0
    · obtain ⟨-, q2⟩ := q.2.1 ⟨hC, hD⟩
      exact h0.wr hT (by rw [q2]; exact hO) (by rw [q2])
    · obtain ⟨-, q2, q3⟩ := q.2.2 ⟨hC, by omega⟩
      have zX := t_nn (x := x0) (by omega)
      have hX : x0.toNatClampNeg < 6 := by omega
      have hXa : (x0.toNatClampNeg : Int) < (v2 1 2).toInt := by omega
      refine h0.wr hT ?_ (q3 2 (by decide))
      intro c hc ha
      have E2 : u2 1 2 = v2 1 2 := by rw [q2, if_neg (by omega)]
      rw [E2] at ha
      obtain ⟨a1, a2, a3, a4⟩ := hO c hc ha
      refine ⟨a1.cg (by rw [q2, if_neg (by omega)]; exact Int.le_refl _) (fun w f1 f2 => by rw [q2, if_neg (by omega)]), a2.cg (by rw [q2, if_neg (by omega)]), ?_, a4.cg (by rw [q2, if_neg (by omega)]) (fun t ht hr => ⟨by rw [q2, if_neg (by omega)], by rw [q2, if_neg (by omega)]⟩)⟩
      by_cases e : c = x0.toNatClampNeg
      · subst e
        have k2 : (2 : Int32).toInt = 2 := by decide
        have f1 : u2 1 (34 + 7 * x0.toNatClampNeg) = 2 := by rw [q2, if_pos rfl]
        unfold OR_
        rw [f1]
        refine ⟨fun w => absurd w (by omega), fun j hj hr => ?_⟩
        rw [q2 (36 + 7 * x0.toNatClampNeg), if_neg (by omega)] at hr
        rw [q2 (36 + 7 * x0.toNatClampNeg), if_neg (by omega), q2 (86 + 10 * x0.toNatClampNeg + 2 * j), if_neg (by omega), q2 (87 + 10 * x0.toNatClampNeg + 2 * j), if_neg (by omega)]
        obtain ⟨d1, d2, d3, d4⟩ := a3.2 j hj hr
        exact ⟨d1, d2, fun w => absurd w.1 (by omega), fun _ => d4 (fun w => absurd w.1 (by omega))⟩
      · exact a3.cg (fun w f1 f2 => by rw [q2, if_neg (by omega)]) (fun w f1 => by rw [q2, if_neg (by omega)])
  · obtain ⟨-, q2⟩ := q.1 hC
    exact h0.wr hT (by rw [q2]; exact hO) (by rw [q2])

set_option maxHeartbeats 4000000 in
theorem S_kin_0 {n r r2 x0 x1 : Int32} {v u v2 u2 : Nat → Nat → Int32} (hI : Iv v) (hQ : Ir v2) (h0 : RR3 n v v2) (p : (¬ ((0 ≤ x0.toInt ∧ x0.toInt < (v 13 1).toInt) ∧ 0 ≤ x1.toInt ∧ x1.toInt < (v 13 0).toInt) → r = -1 ∧ u = v) ∧ (((0 ≤ x0.toInt ∧ x0.toInt < (v 13 1).toInt) ∧ 0 ≤ x1.toInt ∧ x1.toInt < (v 13 0).toInt) ∧ (btx (v (25 + x0.toNatClampNeg) 2) x1).toInt = 1 → r = 1 ∧ (∀ k j : Nat, u k j = if k = 25 + x0.toNatClampNeg ∧ j = 2 then v (25 + x0.toNatClampNeg) 2 ^^^ (1 <<< (x1 &&& 31)) else v k j)) ∧ (((0 ≤ x0.toInt ∧ x0.toInt < (v 13 1).toInt) ∧ 0 ≤ x1.toInt ∧ x1.toInt < (v 13 0).toInt) ∧ (btx (v (25 + x0.toNatClampNeg) 2) x1).toInt ≠ 1 → r = 0 ∧ u = v)) (q : (¬ ((0 ≤ x0.toInt ∧ x0.toInt < (v2 1 1).toInt) ∧ 0 ≤ x1.toInt ∧ x1.toInt < (v2 1 0).toInt) → r2 = -1 ∧ u2 = v2) ∧ (((0 ≤ x0.toInt ∧ x0.toInt < (v2 1 1).toInt) ∧ 0 ≤ x1.toInt ∧ x1.toInt < (v2 1 0).toInt) ∧ (btx (v2 1 (28 + x0.toNatClampNeg)) x1).toInt = 1 → r2 = 1 ∧ (∀ n : Nat, u2 1 n = if n = 28 + x0.toNatClampNeg then v2 1 (28 + x0.toNatClampNeg) &&& ((1 <<< (x1 &&& 31)) ^^^ -1) else v2 1 n) ∧ (∀ k : Nat, k ≠ 1 → u2 k = v2 k)) ∧ (((0 ≤ x0.toInt ∧ x0.toInt < (v2 1 1).toInt) ∧ 0 ≤ x1.toInt ∧ x1.toInt < (v2 1 0).toInt) ∧ (btx (v2 1 (28 + x0.toNatClampNeg)) x1).toInt ≠ 1 → r2 = 0 ∧ (∀ n : Nat, u2 1 n = if n = 28 + x0.toNatClampNeg then v2 1 (28 + x0.toNatClampNeg) &&& ((1 <<< (x1 &&& 31)) ^^^ -1) else v2 1 n) ∧ (∀ k : Nat, k ≠ 1 → u2 k = v2 k))) : r = r2 ∧ RR3 n u u2 := by
  have h := h0.1
  have hO := h0.2.1
  have hT := T_kin_0 hI hQ h p q
  have hb0 := hQ 1 0 8 (by decide)
  have hb1 := hQ 1 1 4 (by decide)
  have hb2 := hQ 1 2 6 (by decide)
  have hb3 := hQ 1 3 6 (by decide)
  by_cases hC : (0 ≤ x0.toInt ∧ x0.toInt < (v2 1 1).toInt) ∧ 0 ≤ x1.toInt ∧ x1.toInt < (v2 1 0).toInt
  · have zX := t_nn (x := x0) (by omega)
    have hX : x0.toNatClampNeg < 4 := by omega
    by_cases hD : (btx (v2 1 (28 + x0.toNatClampNeg)) x1).toInt = 1
    · obtain ⟨-, q2, q3⟩ := q.2.1 ⟨hC, hD⟩
      refine h0.wr hT ?_ (q3 2 (by decide))
      intro c hc ha
      have E2 : u2 1 2 = v2 1 2 := by rw [q2, if_neg (by omega)]
      rw [E2] at ha
      obtain ⟨a1, a2, a3, a4⟩ := hO c hc ha
      exact ⟨a1.cg (by rw [q2, if_neg (by omega)]; exact Int.le_refl _) (fun w f1 f2 => by rw [q2, if_neg (by omega)]), a2.cg (by rw [q2, if_neg (by omega)]), a3.cg (fun w f1 f2 => by rw [q2, if_neg (by omega)]) (fun w f1 => by rw [q2, if_neg (by omega)]), a4.cg (by rw [q2, if_neg (by omega)]) (fun t ht hr => ⟨by rw [q2, if_neg (by omega)], by rw [q2, if_neg (by omega)]⟩)⟩
    · obtain ⟨-, q2, q3⟩ := q.2.2 ⟨hC, hD⟩
      refine h0.wr hT ?_ (q3 2 (by decide))
      intro c hc ha
      have E2 : u2 1 2 = v2 1 2 := by rw [q2, if_neg (by omega)]
      rw [E2] at ha
      obtain ⟨a1, a2, a3, a4⟩ := hO c hc ha
      exact ⟨a1.cg (by rw [q2, if_neg (by omega)]; exact Int.le_refl _) (fun w f1 f2 => by rw [q2, if_neg (by omega)]), a2.cg (by rw [q2, if_neg (by omega)]), a3.cg (fun w f1 f2 => by rw [q2, if_neg (by omega)]) (fun w f1 => by rw [q2, if_neg (by omega)]), a4.cg (by rw [q2, if_neg (by omega)]) (fun t ht hr => ⟨by rw [q2, if_neg (by omega)], by rw [q2, if_neg (by omega)]⟩)⟩
  · obtain ⟨-, q2⟩ := q.1 hC
    exact h0.wr hT (by rw [q2]; exact hO) (by rw [q2])

set_option maxHeartbeats 4000000 in
theorem S_kin_1 {n r r2 x0 x1 : Int32} {v u v2 u2 : Nat → Nat → Int32} (hI : Iv v) (hQ : Ir v2) (h0 : RR3 n v v2) (p : (¬ ((0 ≤ x0.toInt ∧ x0.toInt < (v 13 1).toInt) ∧ 0 ≤ x1.toInt ∧ x1.toInt < (v 13 0).toInt) → r = -1 ∧ u = v) ∧ (((0 ≤ x0.toInt ∧ x0.toInt < (v 13 1).toInt) ∧ 0 ≤ x1.toInt ∧ x1.toInt < (v 13 0).toInt) ∧ (btx (v (25 + x0.toNatClampNeg) 2) x1).toInt = 1 → r = 0 ∧ u = v) ∧ (((0 ≤ x0.toInt ∧ x0.toInt < (v 13 1).toInt) ∧ 0 ≤ x1.toInt ∧ x1.toInt < (v 13 0).toInt) ∧ (btx (v (25 + x0.toNatClampNeg) 2) x1).toInt ≠ 1 → r = 1 ∧ (∀ k j : Nat, u k j = if k = 25 + x0.toNatClampNeg ∧ j = 2 then v (25 + x0.toNatClampNeg) 2 ^^^ (1 <<< (x1 &&& 31)) else v k j))) (q : (¬ ((0 ≤ x0.toInt ∧ x0.toInt < (v2 1 1).toInt) ∧ 0 ≤ x1.toInt ∧ x1.toInt < (v2 1 0).toInt) → r2 = -1 ∧ u2 = v2) ∧ (((0 ≤ x0.toInt ∧ x0.toInt < (v2 1 1).toInt) ∧ 0 ≤ x1.toInt ∧ x1.toInt < (v2 1 0).toInt) ∧ (btx (v2 1 (28 + x0.toNatClampNeg)) x1).toInt = 1 → r2 = 0 ∧ (∀ n : Nat, u2 1 n = if n = 28 + x0.toNatClampNeg then v2 1 (28 + x0.toNatClampNeg) ||| (1 <<< (x1 &&& 31)) else v2 1 n) ∧ (∀ k : Nat, k ≠ 1 → u2 k = v2 k)) ∧ (((0 ≤ x0.toInt ∧ x0.toInt < (v2 1 1).toInt) ∧ 0 ≤ x1.toInt ∧ x1.toInt < (v2 1 0).toInt) ∧ (btx (v2 1 (28 + x0.toNatClampNeg)) x1).toInt ≠ 1 → r2 = 1 ∧ (∀ n : Nat, u2 1 n = if n = 28 + x0.toNatClampNeg then v2 1 (28 + x0.toNatClampNeg) ||| (1 <<< (x1 &&& 31)) else v2 1 n) ∧ (∀ k : Nat, k ≠ 1 → u2 k = v2 k))) : r = r2 ∧ RR3 n u u2 := by
  have h := h0.1
  have hO := h0.2.1
  have hT := T_kin_1 hI hQ h p q
  have hb0 := hQ 1 0 8 (by decide)
  have hb1 := hQ 1 1 4 (by decide)
  have hb2 := hQ 1 2 6 (by decide)
  have hb3 := hQ 1 3 6 (by decide)
  by_cases hC : (0 ≤ x0.toInt ∧ x0.toInt < (v2 1 1).toInt) ∧ 0 ≤ x1.toInt ∧ x1.toInt < (v2 1 0).toInt
  · have zX := t_nn (x := x0) (by omega)
    have hX : x0.toNatClampNeg < 4 := by omega
    by_cases hD : (btx (v2 1 (28 + x0.toNatClampNeg)) x1).toInt = 1
    · obtain ⟨-, q2, q3⟩ := q.2.1 ⟨hC, hD⟩
      refine h0.wr hT ?_ (q3 2 (by decide))
      intro c hc ha
      have E2 : u2 1 2 = v2 1 2 := by rw [q2, if_neg (by omega)]
      rw [E2] at ha
      obtain ⟨a1, a2, a3, a4⟩ := hO c hc ha
      exact ⟨a1.cg (by rw [q2, if_neg (by omega)]; exact Int.le_refl _) (fun w f1 f2 => by rw [q2, if_neg (by omega)]), a2.cg (by rw [q2, if_neg (by omega)]), a3.cg (fun w f1 f2 => by rw [q2, if_neg (by omega)]) (fun w f1 => by rw [q2, if_neg (by omega)]), a4.cg (by rw [q2, if_neg (by omega)]) (fun t ht hr => ⟨by rw [q2, if_neg (by omega)], by rw [q2, if_neg (by omega)]⟩)⟩
    · obtain ⟨-, q2, q3⟩ := q.2.2 ⟨hC, hD⟩
      refine h0.wr hT ?_ (q3 2 (by decide))
      intro c hc ha
      have E2 : u2 1 2 = v2 1 2 := by rw [q2, if_neg (by omega)]
      rw [E2] at ha
      obtain ⟨a1, a2, a3, a4⟩ := hO c hc ha
      exact ⟨a1.cg (by rw [q2, if_neg (by omega)]; exact Int.le_refl _) (fun w f1 f2 => by rw [q2, if_neg (by omega)]), a2.cg (by rw [q2, if_neg (by omega)]), a3.cg (fun w f1 f2 => by rw [q2, if_neg (by omega)]) (fun w f1 => by rw [q2, if_neg (by omega)]), a4.cg (by rw [q2, if_neg (by omega)]) (fun t ht hr => ⟨by rw [q2, if_neg (by omega)], by rw [q2, if_neg (by omega)]⟩)⟩
  · obtain ⟨-, q2⟩ := q.1 hC
    exact h0.wr hT (by rw [q2]; exact hO) (by rw [q2])

set_option maxHeartbeats 4000000 in
theorem S_mediator {n r r2 x0 x1 : Int32} {v u v2 u2 : Nat → Nat → Int32} (hI : Iv v) (hQ : Ir v2) (h0 : RR3 n v v2) (p : (¬ ((0 ≤ x0.toInt ∧ x0.toInt ≤ 9) ∧ 1 ≤ x1.toInt ∧ x1.toInt ≤ 7) → r = -1 ∧ u = v) ∧ (((0 ≤ x0.toInt ∧ x0.toInt ≤ 9) ∧ 1 ≤ x1.toInt ∧ x1.toInt ≤ 7) ∧ 4 ≤ (v 13 1).toInt → r = -2 ∧ u = v) ∧ (((0 ≤ x0.toInt ∧ x0.toInt ≤ 9) ∧ 1 ≤ x1.toInt ∧ x1.toInt ≤ 7) ∧ (v 13 1).toInt < 4 → r = v 13 1 ∧ (∀ k j : Nat, u k j = if k = 13 ∧ j = 1 then v 13 1 + 1 else if k = 25 + (v 13 1).toNatClampNeg ∧ j = 2 then 0 else if k = 25 + (v 13 1).toNatClampNeg ∧ j = 1 then x1 else if k = 25 + (v 13 1).toNatClampNeg ∧ j = 0 then x0 else v k j))) (q : (¬ ((0 ≤ x0.toInt ∧ x0.toInt ≤ 9) ∧ 1 ≤ x1.toInt ∧ x1.toInt ≤ 7) → r2 = -1 ∧ u2 = v2) ∧ (((0 ≤ x0.toInt ∧ x0.toInt ≤ 9) ∧ 1 ≤ x1.toInt ∧ x1.toInt ≤ 7) ∧ (v2 1 1).toInt = 4 → r2 = -2 ∧ u2 = v2) ∧ (((0 ≤ x0.toInt ∧ x0.toInt ≤ 9) ∧ 1 ≤ x1.toInt ∧ x1.toInt ≤ 7) ∧ (v2 1 1).toInt ≠ 4 → r2 = v2 1 1 ∧ (∀ n : Nat, u2 1 n = if n = 1 then v2 1 1 + 1 else if n = 28 + (v2 1 1).toNatClampNeg then 0 else if n = 21 + 2 * (v2 1 1).toNatClampNeg then x1 else if n = 20 + 2 * (v2 1 1).toNatClampNeg then x0 else v2 1 n) ∧ (∀ k : Nat, k ≠ 1 → u2 k = v2 k))) : r = r2 ∧ RR3 n u u2 := by
  have h := h0.1
  have hO := h0.2.1
  have hT := T_mediator hI hQ h p q
  have hb0 := hQ 1 0 8 (by decide)
  have hb1 := hQ 1 1 4 (by decide)
  have hb2 := hQ 1 2 6 (by decide)
  have hb3 := hQ 1 3 6 (by decide)
  by_cases hC : (0 ≤ x0.toInt ∧ x0.toInt ≤ 9) ∧ 1 ≤ x1.toInt ∧ x1.toInt ≤ 7
  · by_cases hD : (v2 1 1).toInt = 4
    · obtain ⟨-, q2⟩ := q.2.1 ⟨hC, hD⟩
      exact h0.wr hT (by rw [q2]; exact hO) (by rw [q2])
    · obtain ⟨-, q2, q3⟩ := q.2.2 ⟨hC, hD⟩
      have zM := t_nn (x := v2 1 1) (by omega)
      refine h0.wr hT ?_ (q3 2 (by decide))
      intro c hc ha
      have E2 : u2 1 2 = v2 1 2 := by rw [q2, if_neg (by omega), if_neg (by omega), if_neg (by omega), if_neg (by omega)]
      rw [E2] at ha
      obtain ⟨a1, a2, a3, a4⟩ := hO c hc ha
      exact ⟨a1.cg (by rw [q2, if_neg (by omega), if_neg (by omega), if_neg (by omega), if_neg (by omega)]; exact Int.le_refl _) (fun w f1 f2 => by rw [q2, if_neg (by omega), if_neg (by omega), if_neg (by omega), if_neg (by omega)]), a2.cg (by rw [q2, if_neg (by omega), if_neg (by omega), if_neg (by omega), if_neg (by omega)]), a3.cg (fun w f1 f2 => by rw [q2, if_neg (by omega), if_neg (by omega), if_neg (by omega), if_neg (by omega)]) (fun w f1 => by rw [q2, if_neg (by omega), if_neg (by omega), if_neg (by omega), if_neg (by omega)]), a4.cg (by rw [q2, if_neg (by omega), if_neg (by omega), if_neg (by omega), if_neg (by omega)]) (fun t ht hr => ⟨by rw [q2, if_neg (by omega), if_neg (by omega), if_neg (by omega), if_neg (by omega)], by rw [q2, if_neg (by omega), if_neg (by omega), if_neg (by omega), if_neg (by omega)]⟩)⟩
  · obtain ⟨-, q2⟩ := q.1 hC
    exact h0.wr hT (by rw [q2]; exact hO) (by rw [q2])

set_option maxHeartbeats 4000000 in
theorem S_party {n r r2 x0 x1 : Int32} {v u v2 u2 : Nat → Nat → Int32} (hI : Iv v) (hQ : Ir v2) (h0 : RR3 n v v2) (p : (¬ ((0 ≤ x0.toInt ∧ x0.toInt ≤ 9) ∧ 0 ≤ x1.toInt ∧ x1.toInt ≤ 2) → r = -1 ∧ u = v) ∧ (((0 ≤ x0.toInt ∧ x0.toInt ≤ 9) ∧ 0 ≤ x1.toInt ∧ x1.toInt ≤ 2) ∧ 8 ≤ (v 13 0).toInt → r = -2 ∧ u = v) ∧ (((0 ≤ x0.toInt ∧ x0.toInt ≤ 9) ∧ 0 ≤ x1.toInt ∧ x1.toInt ≤ 2) ∧ (v 13 0).toInt < 8 → r = v 13 0 ∧ (∀ k j : Nat, u k j = if k = 13 ∧ j = 0 then v 13 0 + 1 else if k = 17 + (v 13 0).toNatClampNeg ∧ j = 1 then x1 else if k = 17 + (v 13 0).toNatClampNeg ∧ j = 0 then x0 else v k j))) (q : (¬ ((0 ≤ x0.toInt ∧ x0.toInt ≤ 9) ∧ 0 ≤ x1.toInt ∧ x1.toInt ≤ 2) → r2 = -1 ∧ u2 = v2) ∧ (((0 ≤ x0.toInt ∧ x0.toInt ≤ 9) ∧ 0 ≤ x1.toInt ∧ x1.toInt ≤ 2) ∧ (v2 1 0).toInt = 8 → r2 = -2 ∧ u2 = v2) ∧ (((0 ≤ x0.toInt ∧ x0.toInt ≤ 9) ∧ 0 ≤ x1.toInt ∧ x1.toInt ≤ 2) ∧ (v2 1 0).toInt ≠ 8 → r2 = v2 1 0 ∧ (∀ n : Nat, u2 1 n = if n = 0 then v2 1 0 + 1 else if 28 ≤ n ∧ (n : Int) < 28 + 4 then (if n = 5 + 2 * (v2 1 0).toNatClampNeg then x1 else if n = 4 + 2 * (v2 1 0).toNatClampNeg then x0 else v2 1 n) &&& ((1 <<< (v2 1 0 &&& 31)) ^^^ -1) else if n = 5 + 2 * (v2 1 0).toNatClampNeg then x1 else if n = 4 + 2 * (v2 1 0).toNatClampNeg then x0 else v2 1 n) ∧ (∀ k : Nat, k ≠ 1 → u2 k = v2 k))) : r = r2 ∧ RR3 n u u2 := by
  have h := h0.1
  have hO := h0.2.1
  have hT := T_party hI hQ h p q
  have hb0 := hQ 1 0 8 (by decide)
  have hb1 := hQ 1 1 4 (by decide)
  have hb2 := hQ 1 2 6 (by decide)
  have hb3 := hQ 1 3 6 (by decide)
  by_cases hC : (0 ≤ x0.toInt ∧ x0.toInt ≤ 9) ∧ 0 ≤ x1.toInt ∧ x1.toInt ≤ 2
  · by_cases hD : (v2 1 0).toInt = 8
    · obtain ⟨-, q2⟩ := q.2.1 ⟨hC, hD⟩
      exact h0.wr hT (by rw [q2]; exact hO) (by rw [q2])
    · obtain ⟨-, q2, q3⟩ := q.2.2 ⟨hC, hD⟩
      have zM := t_nn (x := v2 1 0) (by omega)
      have k1 : (1 : Int32).toInt = 1 := by decide
      have hx : (v2 1 0 + 1).toInt = (v2 1 0).toInt + 1 := by rw [t_add (by rw [k1]; omega), k1]
      refine h0.wr hT ?_ (q3 2 (by decide))
      intro c hc ha
      have E2 : u2 1 2 = v2 1 2 := by rw [q2, if_neg (by omega), if_neg (by omega), if_neg (by omega), if_neg (by omega)]
      rw [E2] at ha
      obtain ⟨a1, a2, a3, a4⟩ := hO c hc ha
      exact ⟨a1.cg (by rw [q2, if_pos rfl, hx]; omega) (fun w f1 f2 => by rw [q2, if_neg (by omega), if_neg (by omega), if_neg (by omega), if_neg (by omega)]), a2.cg (by rw [q2, if_neg (by omega), if_neg (by omega), if_neg (by omega), if_neg (by omega)]), a3.cg (fun w f1 f2 => by rw [q2, if_neg (by omega), if_neg (by omega), if_neg (by omega), if_neg (by omega)]) (fun w f1 => by rw [q2, if_neg (by omega), if_neg (by omega), if_neg (by omega), if_neg (by omega)]), a4.cg (by rw [q2, if_neg (by omega), if_neg (by omega), if_neg (by omega), if_neg (by omega)]) (fun t ht hr => ⟨by rw [q2, if_neg (by omega), if_neg (by omega), if_neg (by omega), if_neg (by omega)], by rw [q2, if_neg (by omega), if_neg (by omega), if_neg (by omega), if_neg (by omega)]⟩)⟩
  · obtain ⟨-, q2⟩ := q.1 hC
    exact h0.wr hT (by rw [q2]; exact hO) (by rw [q2])

set_option maxHeartbeats 4000000 in
theorem S_mark {n r r2 x0 x1 : Int32} {v u v2 u2 : Nat → Nat → Int32} (hI : Iv v) (hQ : Ir v2) (h0 : RR3 n v v2) (p : (¬ ((0 ≤ x0.toInt ∧ x0.toInt < (v 13 2).toInt) ∧ (0 ≤ x1.toInt ∧ x1.toInt < (v 13 2).toInt) ∧ x0.toInt ≠ x1.toInt) → r = -1 ∧ u = v) ∧ (((0 ≤ x0.toInt ∧ x0.toInt < (v 13 2).toInt) ∧ (0 ≤ x1.toInt ∧ x1.toInt < (v 13 2).toInt) ∧ x0.toInt ≠ x1.toInt) ∧ (btx (v (29 + 15 * x0.toNatClampNeg) 4) x1).toInt = 1 → r = -3 ∧ u = v) ∧ (((0 ≤ x0.toInt ∧ x0.toInt < (v 13 2).toInt) ∧ (0 ≤ x1.toInt ∧ x1.toInt < (v 13 2).toInt) ∧ x0.toInt ≠ x1.toInt) ∧ (btx (v (29 + 15 * x0.toNatClampNeg) 4) x1).toInt ≠ 1 ∧ 6 ≤ (v 13 3).toInt → r = -2 ∧ u = v) ∧ (((0 ≤ x0.toInt ∧ x0.toInt < (v 13 2).toInt) ∧ (0 ≤ x1.toInt ∧ x1.toInt < (v 13 2).toInt) ∧ x0.toInt ≠ x1.toInt) ∧ (btx (v (29 + 15 * x0.toNatClampNeg) 4) x1).toInt ≠ 1 ∧ (v 13 3).toInt < 6 → r = v 13 3 + 1 ∧ (∀ k j : Nat, u k j = if k = 13 ∧ j = 3 then v 13 3 + 1 else if k = 29 + 15 * x1.toNatClampNeg ∧ j = 4 then v (29 + 15 * x1.toNatClampNeg) 4 ||| (1 <<< (x0 &&& 31)) else if k = 29 + 15 * x0.toNatClampNeg ∧ j = 4 then v (29 + 15 * x0.toNatClampNeg) 4 ||| (1 <<< (x1 &&& 31)) else v k j))) (q : (¬ ((0 ≤ x0.toInt ∧ x0.toInt < (v2 1 2).toInt) ∧ (0 ≤ x1.toInt ∧ x1.toInt < (v2 1 2).toInt) ∧ x0.toInt ≠ x1.toInt) → r2 = -1 ∧ u2 = v2) ∧ (((0 ≤ x0.toInt ∧ x0.toInt < (v2 1 2).toInt) ∧ (0 ≤ x1.toInt ∧ x1.toInt < (v2 1 2).toInt) ∧ x0.toInt ≠ x1.toInt) ∧ (∃ k : Nat, (k : Int) < (v2 1 3).toInt ∧ mk (v2 1) k x0 x1) → r2 = -3 ∧ u2 = v2) ∧ (((0 ≤ x0.toInt ∧ x0.toInt < (v2 1 2).toInt) ∧ (0 ≤ x1.toInt ∧ x1.toInt < (v2 1 2).toInt) ∧ x0.toInt ≠ x1.toInt) ∧ ¬ (∃ k : Nat, (k : Int) < (v2 1 3).toInt ∧ mk (v2 1) k x0 x1) ∧ (v2 1 3).toInt = 6 → r2 = -2 ∧ u2 = v2) ∧ (((0 ≤ x0.toInt ∧ x0.toInt < (v2 1 2).toInt) ∧ (0 ≤ x1.toInt ∧ x1.toInt < (v2 1 2).toInt) ∧ x0.toInt ≠ x1.toInt) ∧ ¬ (∃ k : Nat, (k : Int) < (v2 1 3).toInt ∧ mk (v2 1) k x0 x1) ∧ (v2 1 3).toInt ≠ 6 → r2 = v2 1 3 + 1 ∧ (∀ n : Nat, u2 1 n = if n = 3 then v2 1 3 + 1 else if n = 147 + 2 * (v2 1 3).toNatClampNeg then x1 else if n = 146 + 2 * (v2 1 3).toNatClampNeg then x0 else v2 1 n) ∧ (∀ k : Nat, k ≠ 1 → u2 k = v2 k))) : r = r2 ∧ RR3 n u u2 := by
  have h := h0.1
  have hO := h0.2.1
  have hT := T_mark hI hQ h p q
  have hb0 := hQ 1 0 8 (by decide)
  have hb1 := hQ 1 1 4 (by decide)
  have hb2 := hQ 1 2 6 (by decide)
  have hb3 := hQ 1 3 6 (by decide)
  by_cases hC : (0 ≤ x0.toInt ∧ x0.toInt < (v2 1 2).toInt) ∧ (0 ≤ x1.toInt ∧ x1.toInt < (v2 1 2).toInt) ∧ x0.toInt ≠ x1.toInt
  · by_cases hW : ∃ k : Nat, (k : Int) < (v2 1 3).toInt ∧ mk (v2 1) k x0 x1
    · obtain ⟨-, q2⟩ := q.2.1 ⟨hC, hW⟩
      exact h0.wr hT (by rw [q2]; exact hO) (by rw [q2])
    · by_cases hD : (v2 1 3).toInt = 6
      · obtain ⟨-, q2⟩ := q.2.2.1 ⟨hC, hW, hD⟩
        exact h0.wr hT (by rw [q2]; exact hO) (by rw [q2])
      · obtain ⟨-, q2, q3⟩ := q.2.2.2 ⟨hC, hW, hD⟩
        clear hW p
        have zM := t_nn (x := v2 1 3) (by omega)
        refine h0.wr hT ?_ (q3 2 (by decide))
        intro c hc ha
        have E2 : u2 1 2 = v2 1 2 := by rw [q2, if_neg (by omega), if_neg (by omega), if_neg (by omega)]
        rw [E2] at ha
        obtain ⟨a1, a2, a3, a4⟩ := hO c hc ha
        exact ⟨a1.cg (by rw [q2, if_neg (by omega), if_neg (by omega), if_neg (by omega)]; exact Int.le_refl _) (fun w f1 f2 => by rw [q2, if_neg (by omega), if_neg (by omega), if_neg (by omega)]), a2.cg (by rw [q2, if_neg (by omega), if_neg (by omega), if_neg (by omega)]), a3.cg (fun w f1 f2 => by rw [q2, if_neg (by omega), if_neg (by omega), if_neg (by omega)]) (fun w f1 => by rw [q2, if_neg (by omega), if_neg (by omega), if_neg (by omega)]), a4.cg (by rw [q2, if_neg (by omega), if_neg (by omega), if_neg (by omega)]) (fun t ht hr => ⟨by rw [q2, if_neg (by omega), if_neg (by omega), if_neg (by omega)], by rw [q2, if_neg (by omega), if_neg (by omega), if_neg (by omega)]⟩)⟩
  · obtain ⟨-, q2⟩ := q.1 hC
    exact h0.wr hT (by rw [q2]; exact hO) (by rw [q2])

set_option maxHeartbeats 4000000 in
theorem S_term_0 {n r r2 x0 x1 x2 x3 x4 : Int32} {v u v2 u2 : Nat → Nat → Int32} (hI : Iv v) (hQ : Ir v2) (h0 : RR3 n v v2) (p : (¬ ((0 ≤ x0.toInt ∧ x0.toInt < (v 13 2).toInt) ∧ (0 ≤ x1.toInt ∧ x1.toInt ≤ 1) ∧ (0 ≤ x2.toInt ∧ x2.toInt ≤ 5) ∧ (0 ≤ x3.toInt ∧ x3.toInt ≤ 23) ∧ x3.toInt ≤ x4.toInt ∧ x4.toInt ≤ 23) → r = -1 ∧ u = v) ∧ (((0 ≤ x0.toInt ∧ x0.toInt < (v 13 2).toInt) ∧ (0 ≤ x1.toInt ∧ x1.toInt ≤ 1) ∧ (0 ≤ x2.toInt ∧ x2.toInt ≤ 5) ∧ (0 ≤ x3.toInt ∧ x3.toInt ≤ 23) ∧ x3.toInt ≤ x4.toInt ∧ x4.toInt ≤ 23) ∧ (v (29 + 15 * x0.toNatClampNeg) 0).toInt ≠ 1 → r = -4 ∧ u = v) ∧ (((0 ≤ x0.toInt ∧ x0.toInt < (v 13 2).toInt) ∧ (0 ≤ x1.toInt ∧ x1.toInt ≤ 1) ∧ (0 ≤ x2.toInt ∧ x2.toInt ≤ 5) ∧ (0 ≤ x3.toInt ∧ x3.toInt ≤ 23) ∧ x3.toInt ≤ x4.toInt ∧ x4.toInt ≤ 23) ∧ (v (29 + 15 * x0.toNatClampNeg) 0).toInt = 1 ∧ 5 ≤ (v (29 + 15 * x0.toNatClampNeg) 5).toInt → r = -2 ∧ u = v) ∧ (((0 ≤ x0.toInt ∧ x0.toInt < (v 13 2).toInt) ∧ (0 ≤ x1.toInt ∧ x1.toInt ≤ 1) ∧ (0 ≤ x2.toInt ∧ x2.toInt ≤ 5) ∧ (0 ≤ x3.toInt ∧ x3.toInt ≤ 23) ∧ x3.toInt ≤ x4.toInt ∧ x4.toInt ≤ 23) ∧ (v (29 + 15 * x0.toNatClampNeg) 0).toInt = 1 ∧ (v (29 + 15 * x0.toNatClampNeg) 5).toInt < 5 → r = v (29 + 15 * x0.toNatClampNeg) 5 ∧ (∀ k j : Nat, u k j = if k = 29 + 15 * x0.toNatClampNeg ∧ j = 5 then v (29 + 15 * x0.toNatClampNeg) 5 + 1 else if k = 39 + 15 * x0.toNatClampNeg + (v (29 + 15 * x0.toNatClampNeg) 5).toNatClampNeg ∧ j = 4 then x4 else if k = 39 + 15 * x0.toNatClampNeg + (v (29 + 15 * x0.toNatClampNeg) 5).toNatClampNeg ∧ j = 3 then x3 else if k = 39 + 15 * x0.toNatClampNeg + (v (29 + 15 * x0.toNatClampNeg) 5).toNatClampNeg ∧ j = 2 then x2 else if k = 39 + 15 * x0.toNatClampNeg + (v (29 + 15 * x0.toNatClampNeg) 5).toNatClampNeg ∧ j = 1 then 0 else if k = 39 + 15 * x0.toNatClampNeg + (v (29 + 15 * x0.toNatClampNeg) 5).toNatClampNeg ∧ j = 0 then x1 else v k j))) (q : (¬ ((0 ≤ x0.toInt ∧ x0.toInt < (v2 1 2).toInt) ∧ (0 ≤ x1.toInt ∧ x1.toInt ≤ 1) ∧ (0 ≤ x2.toInt ∧ x2.toInt ≤ 5) ∧ (0 ≤ x3.toInt ∧ x3.toInt ≤ 23) ∧ x3.toInt ≤ x4.toInt ∧ x4.toInt ≤ 23) → r2 = -1 ∧ u2 = v2) ∧ (((0 ≤ x0.toInt ∧ x0.toInt < (v2 1 2).toInt) ∧ (0 ≤ x1.toInt ∧ x1.toInt ≤ 1) ∧ (0 ≤ x2.toInt ∧ x2.toInt ≤ 5) ∧ (0 ≤ x3.toInt ∧ x3.toInt ≤ 23) ∧ x3.toInt ≤ x4.toInt ∧ x4.toInt ≤ 23) ∧ (v2 1 (34 + 7 * x0.toNatClampNeg)).toInt ≠ 1 → r2 = -4 ∧ u2 = v2) ∧ (((0 ≤ x0.toInt ∧ x0.toInt < (v2 1 2).toInt) ∧ (0 ≤ x1.toInt ∧ x1.toInt ≤ 1) ∧ (0 ≤ x2.toInt ∧ x2.toInt ≤ 5) ∧ (0 ≤ x3.toInt ∧ x3.toInt ≤ 23) ∧ x3.toInt ≤ x4.toInt ∧ x4.toInt ≤ 23) ∧ (v2 1 (34 + 7 * x0.toNatClampNeg)).toInt = 1 ∧ (v2 1 (38 + 7 * x0.toNatClampNeg)).toInt = 5 → r2 = -2 ∧ u2 = v2) ∧ (((0 ≤ x0.toInt ∧ x0.toInt < (v2 1 2).toInt) ∧ (0 ≤ x1.toInt ∧ x1.toInt ≤ 1) ∧ (0 ≤ x2.toInt ∧ x2.toInt ≤ 5) ∧ (0 ≤ x3.toInt ∧ x3.toInt ≤ 23) ∧ x3.toInt ≤ x4.toInt ∧ x4.toInt ≤ 23) ∧ (v2 1 (34 + 7 * x0.toNatClampNeg)).toInt = 1 ∧ (v2 1 (38 + 7 * x0.toNatClampNeg)).toInt ≠ 5 → r2 = v2 1 (38 + 7 * x0.toNatClampNeg) + 1 - 1 ∧ (∀ n : Nat, u2 1 n = if n = 38 + 7 * x0.toNatClampNeg then v2 1 (38 + 7 * x0.toNatClampNeg) + 1 else if n = 162 + 25 * x0.toNatClampNeg + 5 * (v2 1 (38 + 7 * x0.toNatClampNeg)).toNatClampNeg then x4 else if n = 161 + 25 * x0.toNatClampNeg + 5 * (v2 1 (38 + 7 * x0.toNatClampNeg)).toNatClampNeg then x3 else if n = 160 + 25 * x0.toNatClampNeg + 5 * (v2 1 (38 + 7 * x0.toNatClampNeg)).toNatClampNeg then x2 else if n = 159 + 25 * x0.toNatClampNeg + 5 * (v2 1 (38 + 7 * x0.toNatClampNeg)).toNatClampNeg then 0 else if n = 158 + 25 * x0.toNatClampNeg + 5 * (v2 1 (38 + 7 * x0.toNatClampNeg)).toNatClampNeg then x1 else v2 1 n) ∧ (∀ k : Nat, k ≠ 1 → u2 k = v2 k))) : r = r2 ∧ RR3 n u u2 := by
  have h := h0.1
  have hO := h0.2.1
  have hT := T_term_0 hI hQ h p q
  have hb0 := hQ 1 0 8 (by decide)
  have hb1 := hQ 1 1 4 (by decide)
  have hb2 := hQ 1 2 6 (by decide)
  have hb3 := hQ 1 3 6 (by decide)
  by_cases hC : (0 ≤ x0.toInt ∧ x0.toInt < (v2 1 2).toInt) ∧ (0 ≤ x1.toInt ∧ x1.toInt ≤ 1) ∧ (0 ≤ x2.toInt ∧ x2.toInt ≤ 5) ∧ (0 ≤ x3.toInt ∧ x3.toInt ≤ 23) ∧ x3.toInt ≤ x4.toInt ∧ x4.toInt ≤ 23
  · by_cases hD : (v2 1 (34 + 7 * x0.toNatClampNeg)).toInt = 1
    · by_cases hE : (v2 1 (38 + 7 * x0.toNatClampNeg)).toInt = 5
      · obtain ⟨-, q2⟩ := q.2.2.1 ⟨hC, hD, hE⟩
        exact h0.wr hT (by rw [q2]; exact hO) (by rw [q2])
      · obtain ⟨-, q2, q3⟩ := q.2.2.2 ⟨hC, hD, hE⟩
        have zX := t_nn (x := x0) (by omega)
        have hX : x0.toNatClampNeg < 6 := by omega
        have hXa : (x0.toNatClampNeg : Int) < (v2 1 2).toInt := by omega
        have hb := hQ 1 (38 + 7 * x0.toNatClampNeg) 5 (bS_c (by omega) (by omega))
        have zT := t_nn (x := v2 1 (38 + 7 * x0.toNatClampNeg)) (by omega)
        have k1 : (1 : Int32).toInt = 1 := by decide
        have hx : (v2 1 (38 + 7 * x0.toNatClampNeg) + 1).toInt = (v2 1 (38 + 7 * x0.toNatClampNeg)).toInt + 1 := by rw [t_add (by rw [k1]; omega), k1]
        refine h0.wr hT ?_ (q3 2 (by decide))
        intro c hc ha
        have E2 : u2 1 2 = v2 1 2 := by rw [q2, if_neg (by omega), if_neg (by omega), if_neg (by omega), if_neg (by omega), if_neg (by omega), if_neg (by omega)]
        rw [E2] at ha
        obtain ⟨a1, a2, a3, a4⟩ := hO c hc ha
        refine ⟨a1.cg (by rw [q2, if_neg (by omega), if_neg (by omega), if_neg (by omega), if_neg (by omega), if_neg (by omega), if_neg (by omega)]; exact Int.le_refl _) (fun w f1 f2 => by rw [q2, if_neg (by omega), if_neg (by omega), if_neg (by omega), if_neg (by omega), if_neg (by omega), if_neg (by omega)]), a2.cg (by rw [q2, if_neg (by omega), if_neg (by omega), if_neg (by omega), if_neg (by omega), if_neg (by omega), if_neg (by omega)]), a3.cg (fun w f1 f2 => by rw [q2, if_neg (by omega), if_neg (by omega), if_neg (by omega), if_neg (by omega), if_neg (by omega), if_neg (by omega)]) (fun w f1 => by rw [q2, if_neg (by omega), if_neg (by omega), if_neg (by omega), if_neg (by omega), if_neg (by omega), if_neg (by omega)]), ?_⟩
        by_cases e : c = x0.toNatClampNeg
        · subst e
          intro t ht hr
          rw [q2 (38 + 7 * x0.toNatClampNeg), if_pos rfl, hx] at hr
          by_cases f : t = (v2 1 (38 + 7 * x0.toNatClampNeg)).toNatClampNeg
          · rw [q2 (161 + 25 * x0.toNatClampNeg + 5 * t), if_neg (by omega), if_neg (by omega), if_pos (by omega), q2 (162 + 25 * x0.toNatClampNeg + 5 * t), if_neg (by omega), if_pos (by omega)]
            exact hC.2.2.2.2.1
          · rw [q2 (161 + 25 * x0.toNatClampNeg + 5 * t), if_neg (by omega), if_neg (by omega), if_neg (by omega), if_neg (by omega), if_neg (by omega), if_neg (by omega), q2 (162 + 25 * x0.toNatClampNeg + 5 * t), if_neg (by omega), if_neg (by omega), if_neg (by omega), if_neg (by omega), if_neg (by omega), if_neg (by omega)]
            exact a4 t ht (by omega)
        · exact a4.cg (by rw [q2, if_neg (by omega), if_neg (by omega), if_neg (by omega), if_neg (by omega), if_neg (by omega), if_neg (by omega)]) (fun t ht hr => ⟨by rw [q2, if_neg (by omega), if_neg (by omega), if_neg (by omega), if_neg (by omega), if_neg (by omega), if_neg (by omega)], by rw [q2, if_neg (by omega), if_neg (by omega), if_neg (by omega), if_neg (by omega), if_neg (by omega), if_neg (by omega)]⟩)
    · obtain ⟨-, q2⟩ := q.2.1 ⟨hC, hD⟩
      exact h0.wr hT (by rw [q2]; exact hO) (by rw [q2])
  · obtain ⟨-, q2⟩ := q.1 hC
    exact h0.wr hT (by rw [q2]; exact hO) (by rw [q2])

set_option maxHeartbeats 4000000 in
theorem S_term_1 {n r r2 x0 x1 x2 x3 x4 : Int32} {v u v2 u2 : Nat → Nat → Int32} (hI : Iv v) (hQ : Ir v2) (h0 : RR3 n v v2) (p : (¬ ((0 ≤ x0.toInt ∧ x0.toInt < (v 13 2).toInt) ∧ (0 ≤ x1.toInt ∧ x1.toInt ≤ 1) ∧ (0 ≤ x2.toInt ∧ x2.toInt ≤ 5) ∧ (0 ≤ x3.toInt ∧ x3.toInt ≤ 23) ∧ x3.toInt ≤ x4.toInt ∧ x4.toInt ≤ 23) → r = -1 ∧ u = v) ∧ (((0 ≤ x0.toInt ∧ x0.toInt < (v 13 2).toInt) ∧ (0 ≤ x1.toInt ∧ x1.toInt ≤ 1) ∧ (0 ≤ x2.toInt ∧ x2.toInt ≤ 5) ∧ (0 ≤ x3.toInt ∧ x3.toInt ≤ 23) ∧ x3.toInt ≤ x4.toInt ∧ x4.toInt ≤ 23) ∧ (v (29 + 15 * x0.toNatClampNeg) 0).toInt ≠ 1 → r = -4 ∧ u = v) ∧ (((0 ≤ x0.toInt ∧ x0.toInt < (v 13 2).toInt) ∧ (0 ≤ x1.toInt ∧ x1.toInt ≤ 1) ∧ (0 ≤ x2.toInt ∧ x2.toInt ≤ 5) ∧ (0 ≤ x3.toInt ∧ x3.toInt ≤ 23) ∧ x3.toInt ≤ x4.toInt ∧ x4.toInt ≤ 23) ∧ (v (29 + 15 * x0.toNatClampNeg) 0).toInt = 1 ∧ 5 ≤ (v (29 + 15 * x0.toNatClampNeg) 5).toInt → r = -2 ∧ u = v) ∧ (((0 ≤ x0.toInt ∧ x0.toInt < (v 13 2).toInt) ∧ (0 ≤ x1.toInt ∧ x1.toInt ≤ 1) ∧ (0 ≤ x2.toInt ∧ x2.toInt ≤ 5) ∧ (0 ≤ x3.toInt ∧ x3.toInt ≤ 23) ∧ x3.toInt ≤ x4.toInt ∧ x4.toInt ≤ 23) ∧ (v (29 + 15 * x0.toNatClampNeg) 0).toInt = 1 ∧ (v (29 + 15 * x0.toNatClampNeg) 5).toInt < 5 → r = v (29 + 15 * x0.toNatClampNeg) 5 ∧ (∀ k j : Nat, u k j = if k = 29 + 15 * x0.toNatClampNeg ∧ j = 5 then v (29 + 15 * x0.toNatClampNeg) 5 + 1 else if k = 39 + 15 * x0.toNatClampNeg + (v (29 + 15 * x0.toNatClampNeg) 5).toNatClampNeg ∧ j = 4 then x4 else if k = 39 + 15 * x0.toNatClampNeg + (v (29 + 15 * x0.toNatClampNeg) 5).toNatClampNeg ∧ j = 3 then x3 else if k = 39 + 15 * x0.toNatClampNeg + (v (29 + 15 * x0.toNatClampNeg) 5).toNatClampNeg ∧ j = 2 then x2 else if k = 39 + 15 * x0.toNatClampNeg + (v (29 + 15 * x0.toNatClampNeg) 5).toNatClampNeg ∧ j = 1 then 1 else if k = 39 + 15 * x0.toNatClampNeg + (v (29 + 15 * x0.toNatClampNeg) 5).toNatClampNeg ∧ j = 0 then x1 else v k j))) (q : (¬ ((0 ≤ x0.toInt ∧ x0.toInt < (v2 1 2).toInt) ∧ (0 ≤ x1.toInt ∧ x1.toInt ≤ 1) ∧ (0 ≤ x2.toInt ∧ x2.toInt ≤ 5) ∧ (0 ≤ x3.toInt ∧ x3.toInt ≤ 23) ∧ x3.toInt ≤ x4.toInt ∧ x4.toInt ≤ 23) → r2 = -1 ∧ u2 = v2) ∧ (((0 ≤ x0.toInt ∧ x0.toInt < (v2 1 2).toInt) ∧ (0 ≤ x1.toInt ∧ x1.toInt ≤ 1) ∧ (0 ≤ x2.toInt ∧ x2.toInt ≤ 5) ∧ (0 ≤ x3.toInt ∧ x3.toInt ≤ 23) ∧ x3.toInt ≤ x4.toInt ∧ x4.toInt ≤ 23) ∧ (v2 1 (34 + 7 * x0.toNatClampNeg)).toInt ≠ 1 → r2 = -4 ∧ u2 = v2) ∧ (((0 ≤ x0.toInt ∧ x0.toInt < (v2 1 2).toInt) ∧ (0 ≤ x1.toInt ∧ x1.toInt ≤ 1) ∧ (0 ≤ x2.toInt ∧ x2.toInt ≤ 5) ∧ (0 ≤ x3.toInt ∧ x3.toInt ≤ 23) ∧ x3.toInt ≤ x4.toInt ∧ x4.toInt ≤ 23) ∧ (v2 1 (34 + 7 * x0.toNatClampNeg)).toInt = 1 ∧ (v2 1 (38 + 7 * x0.toNatClampNeg)).toInt = 5 → r2 = -2 ∧ u2 = v2) ∧ (((0 ≤ x0.toInt ∧ x0.toInt < (v2 1 2).toInt) ∧ (0 ≤ x1.toInt ∧ x1.toInt ≤ 1) ∧ (0 ≤ x2.toInt ∧ x2.toInt ≤ 5) ∧ (0 ≤ x3.toInt ∧ x3.toInt ≤ 23) ∧ x3.toInt ≤ x4.toInt ∧ x4.toInt ≤ 23) ∧ (v2 1 (34 + 7 * x0.toNatClampNeg)).toInt = 1 ∧ (v2 1 (38 + 7 * x0.toNatClampNeg)).toInt ≠ 5 → r2 = v2 1 (38 + 7 * x0.toNatClampNeg) + 1 - 1 ∧ (∀ n : Nat, u2 1 n = if n = 38 + 7 * x0.toNatClampNeg then v2 1 (38 + 7 * x0.toNatClampNeg) + 1 else if n = 162 + 25 * x0.toNatClampNeg + 5 * (v2 1 (38 + 7 * x0.toNatClampNeg)).toNatClampNeg then x4 else if n = 161 + 25 * x0.toNatClampNeg + 5 * (v2 1 (38 + 7 * x0.toNatClampNeg)).toNatClampNeg then x3 else if n = 160 + 25 * x0.toNatClampNeg + 5 * (v2 1 (38 + 7 * x0.toNatClampNeg)).toNatClampNeg then x2 else if n = 159 + 25 * x0.toNatClampNeg + 5 * (v2 1 (38 + 7 * x0.toNatClampNeg)).toNatClampNeg then 1 else if n = 158 + 25 * x0.toNatClampNeg + 5 * (v2 1 (38 + 7 * x0.toNatClampNeg)).toNatClampNeg then x1 else v2 1 n) ∧ (∀ k : Nat, k ≠ 1 → u2 k = v2 k))) : r = r2 ∧ RR3 n u u2 := by
  have h := h0.1
  have hO := h0.2.1
  have hT := T_term_1 hI hQ h p q
  have hb0 := hQ 1 0 8 (by decide)
  have hb1 := hQ 1 1 4 (by decide)
  have hb2 := hQ 1 2 6 (by decide)
  have hb3 := hQ 1 3 6 (by decide)
  by_cases hC : (0 ≤ x0.toInt ∧ x0.toInt < (v2 1 2).toInt) ∧ (0 ≤ x1.toInt ∧ x1.toInt ≤ 1) ∧ (0 ≤ x2.toInt ∧ x2.toInt ≤ 5) ∧ (0 ≤ x3.toInt ∧ x3.toInt ≤ 23) ∧ x3.toInt ≤ x4.toInt ∧ x4.toInt ≤ 23
  · by_cases hD : (v2 1 (34 + 7 * x0.toNatClampNeg)).toInt = 1
    · by_cases hE : (v2 1 (38 + 7 * x0.toNatClampNeg)).toInt = 5
      · obtain ⟨-, q2⟩ := q.2.2.1 ⟨hC, hD, hE⟩
        exact h0.wr hT (by rw [q2]; exact hO) (by rw [q2])
      · obtain ⟨-, q2, q3⟩ := q.2.2.2 ⟨hC, hD, hE⟩
        have zX := t_nn (x := x0) (by omega)
        have hX : x0.toNatClampNeg < 6 := by omega
        have hXa : (x0.toNatClampNeg : Int) < (v2 1 2).toInt := by omega
        have hb := hQ 1 (38 + 7 * x0.toNatClampNeg) 5 (bS_c (by omega) (by omega))
        have zT := t_nn (x := v2 1 (38 + 7 * x0.toNatClampNeg)) (by omega)
        have k1 : (1 : Int32).toInt = 1 := by decide
        have hx : (v2 1 (38 + 7 * x0.toNatClampNeg) + 1).toInt = (v2 1 (38 + 7 * x0.toNatClampNeg)).toInt + 1 := by rw [t_add (by rw [k1]; omega), k1]
        refine h0.wr hT ?_ (q3 2 (by decide))
        intro c hc ha
        have E2 : u2 1 2 = v2 1 2 := by rw [q2, if_neg (by omega), if_neg (by omega), if_neg (by omega), if_neg (by omega), if_neg (by omega), if_neg (by omega)]
        rw [E2] at ha
        obtain ⟨a1, a2, a3, a4⟩ := hO c hc ha
        refine ⟨a1.cg (by rw [q2, if_neg (by omega), if_neg (by omega), if_neg (by omega), if_neg (by omega), if_neg (by omega), if_neg (by omega)]; exact Int.le_refl _) (fun w f1 f2 => by rw [q2, if_neg (by omega), if_neg (by omega), if_neg (by omega), if_neg (by omega), if_neg (by omega), if_neg (by omega)]), a2.cg (by rw [q2, if_neg (by omega), if_neg (by omega), if_neg (by omega), if_neg (by omega), if_neg (by omega), if_neg (by omega)]), a3.cg (fun w f1 f2 => by rw [q2, if_neg (by omega), if_neg (by omega), if_neg (by omega), if_neg (by omega), if_neg (by omega), if_neg (by omega)]) (fun w f1 => by rw [q2, if_neg (by omega), if_neg (by omega), if_neg (by omega), if_neg (by omega), if_neg (by omega), if_neg (by omega)]), ?_⟩
        by_cases e : c = x0.toNatClampNeg
        · subst e
          intro t ht hr
          rw [q2 (38 + 7 * x0.toNatClampNeg), if_pos rfl, hx] at hr
          by_cases f : t = (v2 1 (38 + 7 * x0.toNatClampNeg)).toNatClampNeg
          · rw [q2 (161 + 25 * x0.toNatClampNeg + 5 * t), if_neg (by omega), if_neg (by omega), if_pos (by omega), q2 (162 + 25 * x0.toNatClampNeg + 5 * t), if_neg (by omega), if_pos (by omega)]
            exact hC.2.2.2.2.1
          · rw [q2 (161 + 25 * x0.toNatClampNeg + 5 * t), if_neg (by omega), if_neg (by omega), if_neg (by omega), if_neg (by omega), if_neg (by omega), if_neg (by omega), q2 (162 + 25 * x0.toNatClampNeg + 5 * t), if_neg (by omega), if_neg (by omega), if_neg (by omega), if_neg (by omega), if_neg (by omega), if_neg (by omega)]
            exact a4 t ht (by omega)
        · exact a4.cg (by rw [q2, if_neg (by omega), if_neg (by omega), if_neg (by omega), if_neg (by omega), if_neg (by omega), if_neg (by omega)]) (fun t ht hr => ⟨by rw [q2, if_neg (by omega), if_neg (by omega), if_neg (by omega), if_neg (by omega), if_neg (by omega), if_neg (by omega)], by rw [q2, if_neg (by omega), if_neg (by omega), if_neg (by omega), if_neg (by omega), if_neg (by omega), if_neg (by omega)]⟩)
    · obtain ⟨-, q2⟩ := q.2.1 ⟨hC, hD⟩
      exact h0.wr hT (by rw [q2]; exact hO) (by rw [q2])
  · obtain ⟨-, q2⟩ := q.1 hC
    exact h0.wr hT (by rw [q2]; exact hO) (by rw [q2])

set_option maxHeartbeats 4000000 in
theorem S_open {n r r2 x0 x1 : Int32} {v u v2 u2 : Nat → Nat → Int32} (hI : Iv v) (hQ : Ir v2) (h0 : RR3 n v v2) (p : (¬ ((0 ≤ x0.toInt ∧ x0.toInt < (v 13 0).toInt) ∧ (0 ≤ x1.toInt ∧ x1.toInt < (v 13 0).toInt) ∧ x0.toInt ≠ x1.toInt) → r = -1 ∧ u = v) ∧ (((0 ≤ x0.toInt ∧ x0.toInt < (v 13 0).toInt) ∧ (0 ≤ x1.toInt ∧ x1.toInt < (v 13 0).toInt) ∧ x0.toInt ≠ x1.toInt) ∧ 6 ≤ (v 13 2).toInt → r = -2 ∧ u = v) ∧ (((0 ≤ x0.toInt ∧ x0.toInt < (v 13 0).toInt) ∧ (0 ≤ x1.toInt ∧ x1.toInt < (v 13 0).toInt) ∧ x0.toInt ≠ x1.toInt) ∧ (v 13 2).toInt < 6 → r = v 13 2 ∧ (∀ k j : Nat, u k j = if k = 13 ∧ j = 2 then v 13 2 + 1 else if 36 + 15 * (v 13 2).toNatClampNeg ≤ k ∧ (k : Int) < 36 + 15 * ((v 13 2).toNatClampNeg : Int) + 2 ∧ j < 24 then 7 else if k = 31 + 15 * (v 13 2).toNatClampNeg ∧ (j : Int) < 2 then -1 else if k = 30 + 15 * (v 13 2).toNatClampNeg ∧ j = 1 then x1 else if k = 30 + 15 * (v 13 2).toNatClampNeg ∧ j = 0 then x0 else if k = 29 + 15 * (v 13 2).toNatClampNeg ∧ j = 5 then 0 else if k = 29 + 15 * (v 13 2).toNatClampNeg ∧ j = 4 then 0 else if k = 29 + 15 * (v 13 2).toNatClampNeg ∧ j = 3 then 1 else if k = 29 + 15 * (v 13 2).toNatClampNeg ∧ j = 2 then 0 else if k = 29 + 15 * (v 13 2).toNatClampNeg ∧ j = 1 then 0 else if k = 29 + 15 * (v 13 2).toNatClampNeg ∧ j = 0 then 0 else v k j))) (q : (¬ ((0 ≤ x0.toInt ∧ x0.toInt < (v2 1 0).toInt) ∧ (0 ≤ x1.toInt ∧ x1.toInt < (v2 1 0).toInt) ∧ x0.toInt ≠ x1.toInt) → r2 = -1 ∧ u2 = v2) ∧ (((0 ≤ x0.toInt ∧ x0.toInt < (v2 1 0).toInt) ∧ (0 ≤ x1.toInt ∧ x1.toInt < (v2 1 0).toInt) ∧ x0.toInt ≠ x1.toInt) ∧ (v2 1 2).toInt = 6 → r2 = -2 ∧ u2 = v2) ∧ (((0 ≤ x0.toInt ∧ x0.toInt < (v2 1 0).toInt) ∧ (0 ≤ x1.toInt ∧ x1.toInt < (v2 1 0).toInt) ∧ x0.toInt ≠ x1.toInt) ∧ (v2 1 2).toInt ≠ 6 → r2 = v2 1 2 ∧ (∀ n : Nat, u2 1 n = if n = 2 then v2 1 2 + 1 else if 308 + 48 * (v2 1 2).toNatClampNeg ≤ n ∧ (n : Int) < 308 + 48 * ((v2 1 2).toNatClampNeg : Int) + 48 then 7 else if n = 75 + 2 * (v2 1 2).toNatClampNeg then -5 else if n = 74 + 2 * (v2 1 2).toNatClampNeg then -5 else if n = 38 + 7 * (v2 1 2).toNatClampNeg then 0 else if n = 37 + 7 * (v2 1 2).toNatClampNeg then 1 else if n = 36 + 7 * (v2 1 2).toNatClampNeg then 0 else if n = 35 + 7 * (v2 1 2).toNatClampNeg then -5 else if n = 34 + 7 * (v2 1 2).toNatClampNeg then 0 else if n = 33 + 7 * (v2 1 2).toNatClampNeg then x1 else if n = 32 + 7 * (v2 1 2).toNatClampNeg then x0 else v2 1 n) ∧ (∀ k : Nat, k ≠ 1 → u2 k = v2 k))) : r = r2 ∧ RR3 n u u2 := by
  have h := h0.1
  have hO := h0.2.1
  have hT := T_open hI hQ h p q
  have hb0 := hQ 1 0 8 (by decide)
  have hb1 := hQ 1 1 4 (by decide)
  have hb2 := hQ 1 2 6 (by decide)
  have hb3 := hQ 1 3 6 (by decide)
  by_cases hC : (0 ≤ x0.toInt ∧ x0.toInt < (v2 1 0).toInt) ∧ (0 ≤ x1.toInt ∧ x1.toInt < (v2 1 0).toInt) ∧ x0.toInt ≠ x1.toInt
  · by_cases hD : (v2 1 2).toInt = 6
    · obtain ⟨-, q2⟩ := q.2.1 ⟨hC, hD⟩
      exact h0.wr hT (by rw [q2]; exact hO) (by rw [q2])
    · obtain ⟨-, q2, q3⟩ := q.2.2 ⟨hC, hD⟩
      have zX := t_nn (x := v2 1 2) (by omega)
      have k1 : (1 : Int32).toInt = 1 := by decide
      have hx : (v2 1 2 + 1).toInt = (v2 1 2).toInt + 1 := by rw [t_add (by rw [k1]; omega), k1]
      refine h0.wr hT ?_ (q3 2 (by decide))
      intro c hc ha
      rw [q2 2, if_pos rfl, hx] at ha
      by_cases e : c = (v2 1 2).toNatClampNeg
      · have g0 : u2 1 (32 + 7 * c) = x0 := by rw [q2, if_neg (by omega), if_neg (by omega), if_neg (by omega), if_neg (by omega), if_neg (by omega), if_neg (by omega), if_neg (by omega), if_neg (by omega), if_neg (by omega), if_neg (by omega), if_pos (by omega)]
        have g1 : u2 1 (33 + 7 * c) = x1 := by rw [q2, if_neg (by omega), if_neg (by omega), if_neg (by omega), if_neg (by omega), if_neg (by omega), if_neg (by omega), if_neg (by omega), if_neg (by omega), if_neg (by omega), if_pos (by omega)]
        have g2 : u2 1 (34 + 7 * c) = 0 := by rw [q2, if_neg (by omega), if_neg (by omega), if_neg (by omega), if_neg (by omega), if_neg (by omega), if_neg (by omega), if_neg (by omega), if_neg (by omega), if_pos (by omega)]
        have g4 : u2 1 (36 + 7 * c) = 0 := by rw [q2, if_neg (by omega), if_neg (by omega), if_neg (by omega), if_neg (by omega), if_neg (by omega), if_neg (by omega), if_pos (by omega)]
        have g5 : u2 1 (37 + 7 * c) = 1 := by rw [q2, if_neg (by omega), if_neg (by omega), if_neg (by omega), if_neg (by omega), if_neg (by omega), if_pos (by omega)]
        have g6 : u2 1 (38 + 7 * c) = 0 := by rw [q2, if_neg (by omega), if_neg (by omega), if_neg (by omega), if_neg (by omega), if_pos (by omega)]
        have gz : u2 1 0 = v2 1 0 := by rw [q2, if_neg (by omega), if_neg (by omega), if_neg (by omega), if_neg (by omega), if_neg (by omega), if_neg (by omega), if_neg (by omega), if_neg (by omega), if_neg (by omega), if_neg (by omega), if_neg (by omega)]
        refine ⟨?_, ?_, ⟨?_, fun j hj hr => ?_⟩, fun t ht hr => ?_⟩
        · unfold OP
          rw [g0, g1, gz]
          exact ⟨hC.1, hC.2.1⟩
        · unfold OW
          rw [g5]
          decide
        · rw [g2]
          exact fun w => absurd w (by decide)
        · rw [g4] at hr
          have k0 : (0 : Int32).toInt = 0 := by decide
          omega
        · rw [g6] at hr
          have k0 : (0 : Int32).toInt = 0 := by decide
          omega
      · obtain ⟨a1, a2, a3, a4⟩ := hO c hc (by omega)
        exact ⟨a1.cg (by rw [q2, if_neg (by omega), if_neg (by omega), if_neg (by omega), if_neg (by omega), if_neg (by omega), if_neg (by omega), if_neg (by omega), if_neg (by omega), if_neg (by omega), if_neg (by omega), if_neg (by omega)]; exact Int.le_refl _) (fun w f1 f2 => by rw [q2, if_neg (by omega), if_neg (by omega), if_neg (by omega), if_neg (by omega), if_neg (by omega), if_neg (by omega), if_neg (by omega), if_neg (by omega), if_neg (by omega), if_neg (by omega), if_neg (by omega)]), a2.cg (by rw [q2, if_neg (by omega), if_neg (by omega), if_neg (by omega), if_neg (by omega), if_neg (by omega), if_neg (by omega), if_neg (by omega), if_neg (by omega), if_neg (by omega), if_neg (by omega), if_neg (by omega)]), a3.cg (fun w f1 f2 => by rw [q2, if_neg (by omega), if_neg (by omega), if_neg (by omega), if_neg (by omega), if_neg (by omega), if_neg (by omega), if_neg (by omega), if_neg (by omega), if_neg (by omega), if_neg (by omega), if_neg (by omega)]) (fun w f1 => by rw [q2, if_neg (by omega), if_neg (by omega), if_neg (by omega), if_neg (by omega), if_neg (by omega), if_neg (by omega), if_neg (by omega), if_neg (by omega), if_neg (by omega), if_neg (by omega), if_neg (by omega)]), a4.cg (by rw [q2, if_neg (by omega), if_neg (by omega), if_neg (by omega), if_neg (by omega), if_neg (by omega), if_neg (by omega), if_neg (by omega), if_neg (by omega), if_neg (by omega), if_neg (by omega), if_neg (by omega)]) (fun t ht hr => ⟨by rw [q2, if_neg (by omega), if_neg (by omega), if_neg (by omega), if_neg (by omega), if_neg (by omega), if_neg (by omega), if_neg (by omega), if_neg (by omega), if_neg (by omega), if_neg (by omega), if_neg (by omega)], by rw [q2, if_neg (by omega), if_neg (by omega), if_neg (by omega), if_neg (by omega), if_neg (by omega), if_neg (by omega), if_neg (by omega), if_neg (by omega), if_neg (by omega), if_neg (by omega), if_neg (by omega)]⟩)⟩
  · obtain ⟨-, q2⟩ := q.1 hC
    exact h0.wr hT (by rw [q2]; exact hO) (by rw [q2])

set_option maxHeartbeats 4000000 in
theorem S_offer_0 {n r r2 x0 x1 : Int32} {v u v2 u2 : Nat → Nat → Int32} (hI : Iv v) (hQ : Ir v2) (h0 : RR3 n v v2) (p : (¬ ((0 ≤ x0.toInt ∧ x0.toInt < (v 13 2).toInt) ∧ 0 ≤ x1.toInt ∧ x1.toInt ≤ 100) → r = -1 ∧ u = v) ∧ (((0 ≤ x0.toInt ∧ x0.toInt < (v 13 2).toInt) ∧ 0 ≤ x1.toInt ∧ x1.toInt ≤ 100) ∧ (v (29 + 15 * x0.toNatClampNeg) 0).toInt ≠ 0 → r = -4 ∧ u = v) ∧ (((0 ≤ x0.toInt ∧ x0.toInt < (v 13 2).toInt) ∧ 0 ≤ x1.toInt ∧ x1.toInt ≤ 100) ∧ (v (29 + 15 * x0.toNatClampNeg) 0).toInt = 0 ∧ (v (31 + 15 * x0.toNatClampNeg) 0).toInt ≠ -1 → r = -3 ∧ u = v) ∧ (((0 ≤ x0.toInt ∧ x0.toInt < (v 13 2).toInt) ∧ 0 ≤ x1.toInt ∧ x1.toInt ≤ 100) ∧ (v (29 + 15 * x0.toNatClampNeg) 0).toInt = 0 ∧ (v (31 + 15 * x0.toNatClampNeg) 0).toInt = -1 ∧ 5 ≤ (v (29 + 15 * x0.toNatClampNeg) 2).toInt → r = -2 ∧ u = v) ∧ (((0 ≤ x0.toInt ∧ x0.toInt < (v 13 2).toInt) ∧ 0 ≤ x1.toInt ∧ x1.toInt ≤ 100) ∧ (v (29 + 15 * x0.toNatClampNeg) 0).toInt = 0 ∧ (v (31 + 15 * x0.toNatClampNeg) 0).toInt = -1 ∧ (v (29 + 15 * x0.toNatClampNeg) 2).toInt < 5 ∧ (v (31 + 15 * x0.toNatClampNeg) 1).toInt = -1 → r = 0 ∧ (∀ k j : Nat, u k j = if k = 31 + 15 * x0.toNatClampNeg ∧ j = 0 then x1 else v k j)) ∧ (((0 ≤ x0.toInt ∧ x0.toInt < (v 13 2).toInt) ∧ 0 ≤ x1.toInt ∧ x1.toInt ≤ 100) ∧ (v (29 + 15 * x0.toNatClampNeg) 0).toInt = 0 ∧ (v (31 + 15 * x0.toNatClampNeg) 0).toInt = -1 ∧ (v (29 + 15 * x0.toNatClampNeg) 2).toInt < 5 ∧ (v (31 + 15 * x0.toNatClampNeg) 1).toInt ≠ -1 ∧ (v (31 + 15 * x0.toNatClampNeg) 1).toInt < x1.toInt → r = 2 ∧ (∀ k j : Nat, u k j = if k = 31 + 15 * x0.toNatClampNeg ∧ j = 1 then -1 else if k = 31 + 15 * x0.toNatClampNeg ∧ j = 0 then -1 else if k = 29 + 15 * x0.toNatClampNeg ∧ j = 2 then v (29 + 15 * x0.toNatClampNeg) 2 + 1 else if k = 33 + 15 * x0.toNatClampNeg + 1 ∧ j = (v (29 + 15 * x0.toNatClampNeg) 2).toNatClampNeg then v (31 + 15 * x0.toNatClampNeg) 1 else if k = 33 + 15 * x0.toNatClampNeg + 0 ∧ j = (v (29 + 15 * x0.toNatClampNeg) 2).toNatClampNeg then x1 else if k = 31 + 15 * x0.toNatClampNeg ∧ j = 0 then x1 else v k j)) ∧ (((0 ≤ x0.toInt ∧ x0.toInt < (v 13 2).toInt) ∧ 0 ≤ x1.toInt ∧ x1.toInt ≤ 100) ∧ (v (29 + 15 * x0.toNatClampNeg) 0).toInt = 0 ∧ (v (31 + 15 * x0.toNatClampNeg) 0).toInt = -1 ∧ (v (29 + 15 * x0.toNatClampNeg) 2).toInt < 5 ∧ (v (31 + 15 * x0.toNatClampNeg) 1).toInt ≠ -1 ∧ x1.toInt ≤ (v (31 + 15 * x0.toNatClampNeg) 1).toInt → r = 1 ∧ (∀ k j : Nat, u k j = if k = 29 + 15 * x0.toNatClampNeg ∧ j = 1 then (x1 + v (31 + 15 * x0.toNatClampNeg) 1) / 2 else if k = 29 + 15 * x0.toNatClampNeg ∧ j = 0 then 1 else if k = 29 + 15 * x0.toNatClampNeg ∧ j = 2 then v (29 + 15 * x0.toNatClampNeg) 2 + 1 else if k = 33 + 15 * x0.toNatClampNeg + 1 ∧ j = (v (29 + 15 * x0.toNatClampNeg) 2).toNatClampNeg then v (31 + 15 * x0.toNatClampNeg) 1 else if k = 33 + 15 * x0.toNatClampNeg + 0 ∧ j = (v (29 + 15 * x0.toNatClampNeg) 2).toNatClampNeg then x1 else if k = 31 + 15 * x0.toNatClampNeg ∧ j = 0 then x1 else v k j))) (q : (¬ ((0 ≤ x0.toInt ∧ x0.toInt < (v2 1 2).toInt) ∧ 0 ≤ x1.toInt ∧ x1.toInt ≤ 100) → r2 = -1 ∧ u2 = v2) ∧ (((0 ≤ x0.toInt ∧ x0.toInt < (v2 1 2).toInt) ∧ 0 ≤ x1.toInt ∧ x1.toInt ≤ 100) ∧ (v2 1 (34 + 7 * x0.toNatClampNeg)).toInt ≠ 0 → r2 = -4 ∧ u2 = v2) ∧ (((0 ≤ x0.toInt ∧ x0.toInt < (v2 1 2).toInt) ∧ 0 ≤ x1.toInt ∧ x1.toInt ≤ 100) ∧ (v2 1 (34 + 7 * x0.toNatClampNeg)).toInt = 0 ∧ 0 ≤ (v2 1 (74 + 2 * x0.toNatClampNeg)).toInt → r2 = -3 ∧ u2 = v2) ∧ (((0 ≤ x0.toInt ∧ x0.toInt < (v2 1 2).toInt) ∧ 0 ≤ x1.toInt ∧ x1.toInt ≤ 100) ∧ (v2 1 (34 + 7 * x0.toNatClampNeg)).toInt = 0 ∧ (v2 1 (74 + 2 * x0.toNatClampNeg)).toInt < 0 ∧ (v2 1 (36 + 7 * x0.toNatClampNeg)).toInt = 5 → r2 = -2 ∧ u2 = v2) ∧ (((0 ≤ x0.toInt ∧ x0.toInt < (v2 1 2).toInt) ∧ 0 ≤ x1.toInt ∧ x1.toInt ≤ 100) ∧ (v2 1 (34 + 7 * x0.toNatClampNeg)).toInt = 0 ∧ (v2 1 (74 + 2 * x0.toNatClampNeg)).toInt < 0 ∧ (v2 1 (36 + 7 * x0.toNatClampNeg)).toInt ≠ 5 ∧ (v2 1 (75 + 2 * x0.toNatClampNeg)).toInt < 0 → r2 = 0 ∧ (∀ n : Nat, u2 1 n = if n = 74 + 2 * x0.toNatClampNeg then x1 else v2 1 n) ∧ (∀ k : Nat, k ≠ 1 → u2 k = v2 k)) ∧ (((0 ≤ x0.toInt ∧ x0.toInt < (v2 1 2).toInt) ∧ 0 ≤ x1.toInt ∧ x1.toInt ≤ 100) ∧ (v2 1 (34 + 7 * x0.toNatClampNeg)).toInt = 0 ∧ (v2 1 (74 + 2 * x0.toNatClampNeg)).toInt < 0 ∧ (v2 1 (36 + 7 * x0.toNatClampNeg)).toInt ≠ 5 ∧ 0 ≤ (v2 1 (75 + 2 * x0.toNatClampNeg)).toInt ∧ (v2 1 (75 + 2 * x0.toNatClampNeg)).toInt < x1.toInt → r2 = 2 ∧ (∀ n : Nat, u2 1 n = if n = 75 + 2 * x0.toNatClampNeg then -5 else if n = 74 + 2 * x0.toNatClampNeg then -5 else if n = 36 + 7 * x0.toNatClampNeg then v2 1 (36 + 7 * x0.toNatClampNeg) + 1 else if n = 87 + 10 * x0.toNatClampNeg + 2 * (v2 1 (36 + 7 * x0.toNatClampNeg)).toNatClampNeg then v2 1 (75 + 2 * x0.toNatClampNeg) else if n = 86 + 10 * x0.toNatClampNeg + 2 * (v2 1 (36 + 7 * x0.toNatClampNeg)).toNatClampNeg then x1 else if n = 74 + 2 * x0.toNatClampNeg then x1 else v2 1 n) ∧ (∀ k : Nat, k ≠ 1 → u2 k = v2 k)) ∧ (((0 ≤ x0.toInt ∧ x0.toInt < (v2 1 2).toInt) ∧ 0 ≤ x1.toInt ∧ x1.toInt ≤ 100) ∧ (v2 1 (34 + 7 * x0.toNatClampNeg)).toInt = 0 ∧ (v2 1 (74 + 2 * x0.toNatClampNeg)).toInt < 0 ∧ (v2 1 (36 + 7 * x0.toNatClampNeg)).toInt ≠ 5 ∧ 0 ≤ (v2 1 (75 + 2 * x0.toNatClampNeg)).toInt ∧ x1.toInt ≤ (v2 1 (75 + 2 * x0.toNatClampNeg)).toInt → r2 = 1 ∧ (∀ n : Nat, u2 1 n = if n = 35 + 7 * x0.toNatClampNeg then (x1 + v2 1 (75 + 2 * x0.toNatClampNeg)) / 2 else if n = 34 + 7 * x0.toNatClampNeg then 1 else if n = 75 + 2 * x0.toNatClampNeg then -5 else if n = 74 + 2 * x0.toNatClampNeg then -5 else if n = 36 + 7 * x0.toNatClampNeg then v2 1 (36 + 7 * x0.toNatClampNeg) + 1 else if n = 87 + 10 * x0.toNatClampNeg + 2 * (v2 1 (36 + 7 * x0.toNatClampNeg)).toNatClampNeg then v2 1 (75 + 2 * x0.toNatClampNeg) else if n = 86 + 10 * x0.toNatClampNeg + 2 * (v2 1 (36 + 7 * x0.toNatClampNeg)).toNatClampNeg then x1 else if n = 74 + 2 * x0.toNatClampNeg then x1 else v2 1 n) ∧ (∀ k : Nat, k ≠ 1 → u2 k = v2 k))) : r = r2 ∧ RR3 n u u2 := by
  have h := h0.1
  have hO := h0.2.1
  have hT := T_offer_0 hI hQ h p q
  have hb0 := hQ 1 0 8 (by decide)
  have hb1 := hQ 1 1 4 (by decide)
  have hb2 := hQ 1 2 6 (by decide)
  have hb3 := hQ 1 3 6 (by decide)
  by_cases hC : (0 ≤ x0.toInt ∧ x0.toInt < (v2 1 2).toInt) ∧ 0 ≤ x1.toInt ∧ x1.toInt ≤ 100
  · have zX := t_nn (x := x0) (by omega)
    have hX : x0.toNatClampNeg < 6 := by omega
    have hXa : (x0.toNatClampNeg : Int) < (v2 1 2).toInt := by omega
    have hb := hQ 1 (36 + 7 * x0.toNatClampNeg) 5 (bS_c (by omega) (by omega))
    by_cases hD : (v2 1 (34 + 7 * x0.toNatClampNeg)).toInt = 0
    · obtain ⟨hx0, hx1⟩ := (h.1.2.1 _ hX hXa).2.2.2 hD
      have ho : (v2 1 (75 + 2 * x0.toNatClampNeg)).toInt < 0 ∨ (0 ≤ (v2 1 (75 + 2 * x0.toNatClampNeg)).toInt ∧ (v2 1 (75 + 2 * x0.toNatClampNeg)).toInt ≤ 100) := by rcases hx1 with ⟨t1, t2⟩ | ⟨t1, t2, t3⟩; exact Or.inl t2; exact Or.inr ⟨t1, t2⟩
      clear hx0 hx1
      by_cases hB : 0 ≤ (v2 1 (74 + 2 * x0.toNatClampNeg)).toInt
      · obtain ⟨-, q2⟩ := q.2.2.1 ⟨hC, hD, hB⟩
        exact h0.wr hT (by rw [q2]; exact hO) (by rw [q2])
      · by_cases hE : (v2 1 (36 + 7 * x0.toNatClampNeg)).toInt = 5
        · obtain ⟨-, q2⟩ := q.2.2.2.1 ⟨hC, hD, by omega, hE⟩
          exact h0.wr hT (by rw [q2]; exact hO) (by rw [q2])
        · by_cases hG : (v2 1 (75 + 2 * x0.toNatClampNeg)).toInt < 0
          · obtain ⟨-, q2, q3⟩ := q.2.2.2.2.1 ⟨hC, hD, by omega, hE, hG⟩
            refine h0.wr hT ?_ (q3 2 (by decide))
            intro c hc ha
            have E2 : u2 1 2 = v2 1 2 := by rw [q2, if_neg (by omega)]
            rw [E2] at ha
            obtain ⟨a1, a2, a3, a4⟩ := hO c hc ha
            exact ⟨a1.cg (by rw [q2, if_neg (by omega)]; exact Int.le_refl _) (fun w f1 f2 => by rw [q2, if_neg (by omega)]), a2.cg (by rw [q2, if_neg (by omega)]), a3.cg (fun w f1 f2 => by rw [q2, if_neg (by omega)]) (fun w f1 => by rw [q2, if_neg (by omega)]), a4.cg (by rw [q2, if_neg (by omega)]) (fun t ht hr => ⟨by rw [q2, if_neg (by omega)], by rw [q2, if_neg (by omega)]⟩)⟩
          · have k1 : (1 : Int32).toInt = 1 := by decide
            have zR := t_nn (x := v2 1 (36 + 7 * x0.toNatClampNeg)) (by omega)
            have hx : (v2 1 (36 + 7 * x0.toNatClampNeg) + 1).toInt = (v2 1 (36 + 7 * x0.toNatClampNeg)).toInt + 1 := by rw [t_add (by rw [k1]; omega), k1]
            by_cases hL : (v2 1 (75 + 2 * x0.toNatClampNeg)).toInt < (x1).toInt
            · obtain ⟨-, q2, q3⟩ := q.2.2.2.2.2.1 ⟨hC, hD, by omega, hE, by omega, hL⟩
              refine h0.wr hT ?_ (q3 2 (by decide))
              intro c hc ha
              have E2 : u2 1 2 = v2 1 2 := by rw [q2, if_neg (by omega), if_neg (by omega), if_neg (by omega), if_neg (by omega), if_neg (by omega), if_neg (by omega)]
              rw [E2] at ha
              obtain ⟨a1, a2, a3, a4⟩ := hO c hc ha
              refine ⟨a1.cg (by rw [q2, if_neg (by omega), if_neg (by omega), if_neg (by omega), if_neg (by omega), if_neg (by omega), if_neg (by omega)]; exact Int.le_refl _) (fun w f1 f2 => by rw [q2, if_neg (by omega), if_neg (by omega), if_neg (by omega), if_neg (by omega), if_neg (by omega), if_neg (by omega)]), a2.cg (by rw [q2, if_neg (by omega), if_neg (by omega), if_neg (by omega), if_neg (by omega), if_neg (by omega), if_neg (by omega)]), ?_, a4.cg (by rw [q2, if_neg (by omega), if_neg (by omega), if_neg (by omega), if_neg (by omega), if_neg (by omega), if_neg (by omega)]) (fun t ht hr => ⟨by rw [q2, if_neg (by omega), if_neg (by omega), if_neg (by omega), if_neg (by omega), if_neg (by omega), if_neg (by omega)], by rw [q2, if_neg (by omega), if_neg (by omega), if_neg (by omega), if_neg (by omega), if_neg (by omega), if_neg (by omega)]⟩)⟩
              by_cases e : c = x0.toNatClampNeg
              · subst e
                have g4 : u2 1 (36 + 7 * x0.toNatClampNeg) = v2 1 (36 + 7 * x0.toNatClampNeg) + 1 := by rw [q2, if_neg (by omega), if_neg (by omega), if_pos (by omega)]
                have g2 : u2 1 (34 + 7 * x0.toNatClampNeg) = v2 1 (34 + 7 * x0.toNatClampNeg) := by rw [q2, if_neg (by omega), if_neg (by omega), if_neg (by omega), if_neg (by omega), if_neg (by omega), if_neg (by omega)]
                have g3 : u2 1 (35 + 7 * x0.toNatClampNeg) = v2 1 (35 + 7 * x0.toNatClampNeg) := by rw [q2, if_neg (by omega), if_neg (by omega), if_neg (by omega), if_neg (by omega), if_neg (by omega), if_neg (by omega)]
                unfold OR_
                rw [g2, g3, g4, hx]
                refine ⟨fun _ => by omega, fun j hj hr => ?_⟩
                by_cases f : j = (v2 1 (36 + 7 * x0.toNatClampNeg)).toNatClampNeg
                · have g6 : u2 1 (86 + 10 * x0.toNatClampNeg + 2 * j) = x1 := by rw [q2, if_neg (by omega), if_neg (by omega), if_neg (by omega), if_neg (by omega), if_pos (by omega)]
                  have g7 : u2 1 (87 + 10 * x0.toNatClampNeg + 2 * j) = v2 1 (75 + 2 * x0.toNatClampNeg) := by rw [q2, if_neg (by omega), if_neg (by omega), if_neg (by omega), if_pos (by omega)]
                  rw [g6, g7]
                  unfold od
                  rw [hx]
                  exact ⟨by omega, by omega, fun w => absurd w.1 (by omega), fun _ => by omega⟩
                · rw [q2 (86 + 10 * x0.toNatClampNeg + 2 * j), if_neg (by omega), if_neg (by omega), if_neg (by omega), if_neg (by omega), if_neg (by omega), if_neg (by omega), q2 (87 + 10 * x0.toNatClampNeg + 2 * j), if_neg (by omega), if_neg (by omega), if_neg (by omega), if_neg (by omega), if_neg (by omega), if_neg (by omega)]
                  obtain ⟨d1, d2, d3, d4⟩ := a3.2 j hj (by omega)
                  unfold od
                  rw [hx]
                  exact ⟨d1, d2, fun w => absurd w (by omega), fun _ => d4 (fun w => absurd w.1 (by omega))⟩
              · exact a3.cg (fun w f1 f2 => by rw [q2, if_neg (by omega), if_neg (by omega), if_neg (by omega), if_neg (by omega), if_neg (by omega), if_neg (by omega)]) (fun w f1 => by rw [q2, if_neg (by omega), if_neg (by omega), if_neg (by omega), if_neg (by omega), if_neg (by omega), if_neg (by omega)])
            · obtain ⟨-, q2, q3⟩ := q.2.2.2.2.2.2 ⟨hC, hD, by omega, hE, by omega, by omega⟩
              refine h0.wr hT ?_ (q3 2 (by decide))
              intro c hc ha
              have E2 : u2 1 2 = v2 1 2 := by rw [q2, if_neg (by omega), if_neg (by omega), if_neg (by omega), if_neg (by omega), if_neg (by omega), if_neg (by omega), if_neg (by omega), if_neg (by omega)]
              rw [E2] at ha
              obtain ⟨a1, a2, a3, a4⟩ := hO c hc ha
              refine ⟨a1.cg (by rw [q2, if_neg (by omega), if_neg (by omega), if_neg (by omega), if_neg (by omega), if_neg (by omega), if_neg (by omega), if_neg (by omega), if_neg (by omega)]; exact Int.le_refl _) (fun w f1 f2 => by rw [q2, if_neg (by omega), if_neg (by omega), if_neg (by omega), if_neg (by omega), if_neg (by omega), if_neg (by omega), if_neg (by omega), if_neg (by omega)]), a2.cg (by rw [q2, if_neg (by omega), if_neg (by omega), if_neg (by omega), if_neg (by omega), if_neg (by omega), if_neg (by omega), if_neg (by omega), if_neg (by omega)]), ?_, a4.cg (by rw [q2, if_neg (by omega), if_neg (by omega), if_neg (by omega), if_neg (by omega), if_neg (by omega), if_neg (by omega), if_neg (by omega), if_neg (by omega)]) (fun t ht hr => ⟨by rw [q2, if_neg (by omega), if_neg (by omega), if_neg (by omega), if_neg (by omega), if_neg (by omega), if_neg (by omega), if_neg (by omega), if_neg (by omega)], by rw [q2, if_neg (by omega), if_neg (by omega), if_neg (by omega), if_neg (by omega), if_neg (by omega), if_neg (by omega), if_neg (by omega), if_neg (by omega)]⟩)⟩
              by_cases e : c = x0.toNatClampNeg
              · subst e
                have g4 : u2 1 (36 + 7 * x0.toNatClampNeg) = v2 1 (36 + 7 * x0.toNatClampNeg) + 1 := by rw [q2, if_neg (by omega), if_neg (by omega), if_neg (by omega), if_neg (by omega), if_pos (by omega)]
                have g2 : u2 1 (34 + 7 * x0.toNatClampNeg) = 1 := by rw [q2, if_neg (by omega), if_pos (by omega)]
                have g3 : u2 1 (35 + 7 * x0.toNatClampNeg) = (x1 + v2 1 (75 + 2 * x0.toNatClampNeg)) / 2 := by rw [q2, if_pos (by omega)]
                unfold OR_
                rw [g2, g3, g4, hx]
                refine ⟨fun _ => by omega, fun j hj hr => ?_⟩
                by_cases f : j = (v2 1 (36 + 7 * x0.toNatClampNeg)).toNatClampNeg
                · have g6 : u2 1 (86 + 10 * x0.toNatClampNeg + 2 * j) = x1 := by rw [q2, if_neg (by omega), if_neg (by omega), if_neg (by omega), if_neg (by omega), if_neg (by omega), if_neg (by omega), if_pos (by omega)]
                  have g7 : u2 1 (87 + 10 * x0.toNatClampNeg + 2 * j) = v2 1 (75 + 2 * x0.toNatClampNeg) := by rw [q2, if_neg (by omega), if_neg (by omega), if_neg (by omega), if_neg (by omega), if_neg (by omega), if_pos (by omega)]
                  rw [g6, g7]
                  unfold od
                  rw [hx]
                  exact ⟨by omega, by omega, fun _ => ⟨by omega, rfl⟩, fun w => absurd ⟨k1, by omega⟩ w⟩
                · rw [q2 (86 + 10 * x0.toNatClampNeg + 2 * j), if_neg (by omega), if_neg (by omega), if_neg (by omega), if_neg (by omega), if_neg (by omega), if_neg (by omega), if_neg (by omega), if_neg (by omega), q2 (87 + 10 * x0.toNatClampNeg + 2 * j), if_neg (by omega), if_neg (by omega), if_neg (by omega), if_neg (by omega), if_neg (by omega), if_neg (by omega), if_neg (by omega), if_neg (by omega)]
                  obtain ⟨d1, d2, d3, d4⟩ := a3.2 j hj (by omega)
                  unfold od
                  rw [hx]
                  exact ⟨d1, d2, fun w => absurd w (by omega), fun _ => d4 (fun w => absurd w.1 (by omega))⟩
              · exact a3.cg (fun w f1 f2 => by rw [q2, if_neg (by omega), if_neg (by omega), if_neg (by omega), if_neg (by omega), if_neg (by omega), if_neg (by omega), if_neg (by omega), if_neg (by omega)]) (fun w f1 => by rw [q2, if_neg (by omega), if_neg (by omega), if_neg (by omega), if_neg (by omega), if_neg (by omega), if_neg (by omega), if_neg (by omega), if_neg (by omega)])
    · obtain ⟨-, q2⟩ := q.2.1 ⟨hC, hD⟩
      exact h0.wr hT (by rw [q2]; exact hO) (by rw [q2])
  · obtain ⟨-, q2⟩ := q.1 hC
    exact h0.wr hT (by rw [q2]; exact hO) (by rw [q2])

set_option maxHeartbeats 4000000 in
theorem S_offer_1 {n r r2 x0 x1 : Int32} {v u v2 u2 : Nat → Nat → Int32} (hI : Iv v) (hQ : Ir v2) (h0 : RR3 n v v2) (p : (¬ ((0 ≤ x0.toInt ∧ x0.toInt < (v 13 2).toInt) ∧ 0 ≤ x1.toInt ∧ x1.toInt ≤ 100) → r = -1 ∧ u = v) ∧ (((0 ≤ x0.toInt ∧ x0.toInt < (v 13 2).toInt) ∧ 0 ≤ x1.toInt ∧ x1.toInt ≤ 100) ∧ (v (29 + 15 * x0.toNatClampNeg) 0).toInt ≠ 0 → r = -4 ∧ u = v) ∧ (((0 ≤ x0.toInt ∧ x0.toInt < (v 13 2).toInt) ∧ 0 ≤ x1.toInt ∧ x1.toInt ≤ 100) ∧ (v (29 + 15 * x0.toNatClampNeg) 0).toInt = 0 ∧ (v (31 + 15 * x0.toNatClampNeg) 1).toInt ≠ -1 → r = -3 ∧ u = v) ∧ (((0 ≤ x0.toInt ∧ x0.toInt < (v 13 2).toInt) ∧ 0 ≤ x1.toInt ∧ x1.toInt ≤ 100) ∧ (v (29 + 15 * x0.toNatClampNeg) 0).toInt = 0 ∧ (v (31 + 15 * x0.toNatClampNeg) 1).toInt = -1 ∧ 5 ≤ (v (29 + 15 * x0.toNatClampNeg) 2).toInt → r = -2 ∧ u = v) ∧ (((0 ≤ x0.toInt ∧ x0.toInt < (v 13 2).toInt) ∧ 0 ≤ x1.toInt ∧ x1.toInt ≤ 100) ∧ (v (29 + 15 * x0.toNatClampNeg) 0).toInt = 0 ∧ (v (31 + 15 * x0.toNatClampNeg) 1).toInt = -1 ∧ (v (29 + 15 * x0.toNatClampNeg) 2).toInt < 5 ∧ (v (31 + 15 * x0.toNatClampNeg) 0).toInt = -1 → r = 0 ∧ (∀ k j : Nat, u k j = if k = 31 + 15 * x0.toNatClampNeg ∧ j = 1 then x1 else v k j)) ∧ (((0 ≤ x0.toInt ∧ x0.toInt < (v 13 2).toInt) ∧ 0 ≤ x1.toInt ∧ x1.toInt ≤ 100) ∧ (v (29 + 15 * x0.toNatClampNeg) 0).toInt = 0 ∧ (v (31 + 15 * x0.toNatClampNeg) 1).toInt = -1 ∧ (v (29 + 15 * x0.toNatClampNeg) 2).toInt < 5 ∧ (v (31 + 15 * x0.toNatClampNeg) 0).toInt ≠ -1 ∧ x1.toInt < (v (31 + 15 * x0.toNatClampNeg) 0).toInt → r = 2 ∧ (∀ k j : Nat, u k j = if k = 31 + 15 * x0.toNatClampNeg ∧ j = 1 then -1 else if k = 31 + 15 * x0.toNatClampNeg ∧ j = 0 then -1 else if k = 29 + 15 * x0.toNatClampNeg ∧ j = 2 then v (29 + 15 * x0.toNatClampNeg) 2 + 1 else if k = 33 + 15 * x0.toNatClampNeg + 1 ∧ j = (v (29 + 15 * x0.toNatClampNeg) 2).toNatClampNeg then x1 else if k = 33 + 15 * x0.toNatClampNeg + 0 ∧ j = (v (29 + 15 * x0.toNatClampNeg) 2).toNatClampNeg then v (31 + 15 * x0.toNatClampNeg) 0 else if k = 31 + 15 * x0.toNatClampNeg ∧ j = 1 then x1 else v k j)) ∧ (((0 ≤ x0.toInt ∧ x0.toInt < (v 13 2).toInt) ∧ 0 ≤ x1.toInt ∧ x1.toInt ≤ 100) ∧ (v (29 + 15 * x0.toNatClampNeg) 0).toInt = 0 ∧ (v (31 + 15 * x0.toNatClampNeg) 1).toInt = -1 ∧ (v (29 + 15 * x0.toNatClampNeg) 2).toInt < 5 ∧ (v (31 + 15 * x0.toNatClampNeg) 0).toInt ≠ -1 ∧ (v (31 + 15 * x0.toNatClampNeg) 0).toInt ≤ x1.toInt → r = 1 ∧ (∀ k j : Nat, u k j = if k = 29 + 15 * x0.toNatClampNeg ∧ j = 1 then (v (31 + 15 * x0.toNatClampNeg) 0 + x1) / 2 else if k = 29 + 15 * x0.toNatClampNeg ∧ j = 0 then 1 else if k = 29 + 15 * x0.toNatClampNeg ∧ j = 2 then v (29 + 15 * x0.toNatClampNeg) 2 + 1 else if k = 33 + 15 * x0.toNatClampNeg + 1 ∧ j = (v (29 + 15 * x0.toNatClampNeg) 2).toNatClampNeg then x1 else if k = 33 + 15 * x0.toNatClampNeg + 0 ∧ j = (v (29 + 15 * x0.toNatClampNeg) 2).toNatClampNeg then v (31 + 15 * x0.toNatClampNeg) 0 else if k = 31 + 15 * x0.toNatClampNeg ∧ j = 1 then x1 else v k j))) (q : (¬ ((0 ≤ x0.toInt ∧ x0.toInt < (v2 1 2).toInt) ∧ 0 ≤ x1.toInt ∧ x1.toInt ≤ 100) → r2 = -1 ∧ u2 = v2) ∧ (((0 ≤ x0.toInt ∧ x0.toInt < (v2 1 2).toInt) ∧ 0 ≤ x1.toInt ∧ x1.toInt ≤ 100) ∧ (v2 1 (34 + 7 * x0.toNatClampNeg)).toInt ≠ 0 → r2 = -4 ∧ u2 = v2) ∧ (((0 ≤ x0.toInt ∧ x0.toInt < (v2 1 2).toInt) ∧ 0 ≤ x1.toInt ∧ x1.toInt ≤ 100) ∧ (v2 1 (34 + 7 * x0.toNatClampNeg)).toInt = 0 ∧ 0 ≤ (v2 1 (75 + 2 * x0.toNatClampNeg)).toInt → r2 = -3 ∧ u2 = v2) ∧ (((0 ≤ x0.toInt ∧ x0.toInt < (v2 1 2).toInt) ∧ 0 ≤ x1.toInt ∧ x1.toInt ≤ 100) ∧ (v2 1 (34 + 7 * x0.toNatClampNeg)).toInt = 0 ∧ (v2 1 (75 + 2 * x0.toNatClampNeg)).toInt < 0 ∧ (v2 1 (36 + 7 * x0.toNatClampNeg)).toInt = 5 → r2 = -2 ∧ u2 = v2) ∧ (((0 ≤ x0.toInt ∧ x0.toInt < (v2 1 2).toInt) ∧ 0 ≤ x1.toInt ∧ x1.toInt ≤ 100) ∧ (v2 1 (34 + 7 * x0.toNatClampNeg)).toInt = 0 ∧ (v2 1 (75 + 2 * x0.toNatClampNeg)).toInt < 0 ∧ (v2 1 (36 + 7 * x0.toNatClampNeg)).toInt ≠ 5 ∧ (v2 1 (74 + 2 * x0.toNatClampNeg)).toInt < 0 → r2 = 0 ∧ (∀ n : Nat, u2 1 n = if n = 75 + 2 * x0.toNatClampNeg then x1 else v2 1 n) ∧ (∀ k : Nat, k ≠ 1 → u2 k = v2 k)) ∧ (((0 ≤ x0.toInt ∧ x0.toInt < (v2 1 2).toInt) ∧ 0 ≤ x1.toInt ∧ x1.toInt ≤ 100) ∧ (v2 1 (34 + 7 * x0.toNatClampNeg)).toInt = 0 ∧ (v2 1 (75 + 2 * x0.toNatClampNeg)).toInt < 0 ∧ (v2 1 (36 + 7 * x0.toNatClampNeg)).toInt ≠ 5 ∧ 0 ≤ (v2 1 (74 + 2 * x0.toNatClampNeg)).toInt ∧ x1.toInt < (v2 1 (74 + 2 * x0.toNatClampNeg)).toInt → r2 = 2 ∧ (∀ n : Nat, u2 1 n = if n = 75 + 2 * x0.toNatClampNeg then -5 else if n = 74 + 2 * x0.toNatClampNeg then -5 else if n = 36 + 7 * x0.toNatClampNeg then v2 1 (36 + 7 * x0.toNatClampNeg) + 1 else if n = 87 + 10 * x0.toNatClampNeg + 2 * (v2 1 (36 + 7 * x0.toNatClampNeg)).toNatClampNeg then x1 else if n = 86 + 10 * x0.toNatClampNeg + 2 * (v2 1 (36 + 7 * x0.toNatClampNeg)).toNatClampNeg then v2 1 (74 + 2 * x0.toNatClampNeg) else if n = 75 + 2 * x0.toNatClampNeg then x1 else v2 1 n) ∧ (∀ k : Nat, k ≠ 1 → u2 k = v2 k)) ∧ (((0 ≤ x0.toInt ∧ x0.toInt < (v2 1 2).toInt) ∧ 0 ≤ x1.toInt ∧ x1.toInt ≤ 100) ∧ (v2 1 (34 + 7 * x0.toNatClampNeg)).toInt = 0 ∧ (v2 1 (75 + 2 * x0.toNatClampNeg)).toInt < 0 ∧ (v2 1 (36 + 7 * x0.toNatClampNeg)).toInt ≠ 5 ∧ 0 ≤ (v2 1 (74 + 2 * x0.toNatClampNeg)).toInt ∧ (v2 1 (74 + 2 * x0.toNatClampNeg)).toInt ≤ x1.toInt → r2 = 1 ∧ (∀ n : Nat, u2 1 n = if n = 35 + 7 * x0.toNatClampNeg then (v2 1 (74 + 2 * x0.toNatClampNeg) + x1) / 2 else if n = 34 + 7 * x0.toNatClampNeg then 1 else if n = 75 + 2 * x0.toNatClampNeg then -5 else if n = 74 + 2 * x0.toNatClampNeg then -5 else if n = 36 + 7 * x0.toNatClampNeg then v2 1 (36 + 7 * x0.toNatClampNeg) + 1 else if n = 87 + 10 * x0.toNatClampNeg + 2 * (v2 1 (36 + 7 * x0.toNatClampNeg)).toNatClampNeg then x1 else if n = 86 + 10 * x0.toNatClampNeg + 2 * (v2 1 (36 + 7 * x0.toNatClampNeg)).toNatClampNeg then v2 1 (74 + 2 * x0.toNatClampNeg) else if n = 75 + 2 * x0.toNatClampNeg then x1 else v2 1 n) ∧ (∀ k : Nat, k ≠ 1 → u2 k = v2 k))) : r = r2 ∧ RR3 n u u2 := by
  have h := h0.1
  have hO := h0.2.1
  have hT := T_offer_1 hI hQ h p q
  have hb0 := hQ 1 0 8 (by decide)
  have hb1 := hQ 1 1 4 (by decide)
  have hb2 := hQ 1 2 6 (by decide)
  have hb3 := hQ 1 3 6 (by decide)
  by_cases hC : (0 ≤ x0.toInt ∧ x0.toInt < (v2 1 2).toInt) ∧ 0 ≤ x1.toInt ∧ x1.toInt ≤ 100
  · have zX := t_nn (x := x0) (by omega)
    have hX : x0.toNatClampNeg < 6 := by omega
    have hXa : (x0.toNatClampNeg : Int) < (v2 1 2).toInt := by omega
    have hb := hQ 1 (36 + 7 * x0.toNatClampNeg) 5 (bS_c (by omega) (by omega))
    by_cases hD : (v2 1 (34 + 7 * x0.toNatClampNeg)).toInt = 0
    · obtain ⟨hx0, hx1⟩ := (h.1.2.1 _ hX hXa).2.2.2 hD
      have ho : (v2 1 (74 + 2 * x0.toNatClampNeg)).toInt < 0 ∨ (0 ≤ (v2 1 (74 + 2 * x0.toNatClampNeg)).toInt ∧ (v2 1 (74 + 2 * x0.toNatClampNeg)).toInt ≤ 100) := by rcases hx0 with ⟨t1, t2⟩ | ⟨t1, t2, t3⟩; exact Or.inl t2; exact Or.inr ⟨t1, t2⟩
      clear hx0 hx1
      by_cases hB : 0 ≤ (v2 1 (75 + 2 * x0.toNatClampNeg)).toInt
      · obtain ⟨-, q2⟩ := q.2.2.1 ⟨hC, hD, hB⟩
        exact h0.wr hT (by rw [q2]; exact hO) (by rw [q2])
      · by_cases hE : (v2 1 (36 + 7 * x0.toNatClampNeg)).toInt = 5
        · obtain ⟨-, q2⟩ := q.2.2.2.1 ⟨hC, hD, by omega, hE⟩
          exact h0.wr hT (by rw [q2]; exact hO) (by rw [q2])
        · by_cases hG : (v2 1 (74 + 2 * x0.toNatClampNeg)).toInt < 0
          · obtain ⟨-, q2, q3⟩ := q.2.2.2.2.1 ⟨hC, hD, by omega, hE, hG⟩
            refine h0.wr hT ?_ (q3 2 (by decide))
            intro c hc ha
            have E2 : u2 1 2 = v2 1 2 := by rw [q2, if_neg (by omega)]
            rw [E2] at ha
            obtain ⟨a1, a2, a3, a4⟩ := hO c hc ha
            exact ⟨a1.cg (by rw [q2, if_neg (by omega)]; exact Int.le_refl _) (fun w f1 f2 => by rw [q2, if_neg (by omega)]), a2.cg (by rw [q2, if_neg (by omega)]), a3.cg (fun w f1 f2 => by rw [q2, if_neg (by omega)]) (fun w f1 => by rw [q2, if_neg (by omega)]), a4.cg (by rw [q2, if_neg (by omega)]) (fun t ht hr => ⟨by rw [q2, if_neg (by omega)], by rw [q2, if_neg (by omega)]⟩)⟩
          · have k1 : (1 : Int32).toInt = 1 := by decide
            have zR := t_nn (x := v2 1 (36 + 7 * x0.toNatClampNeg)) (by omega)
            have hx : (v2 1 (36 + 7 * x0.toNatClampNeg) + 1).toInt = (v2 1 (36 + 7 * x0.toNatClampNeg)).toInt + 1 := by rw [t_add (by rw [k1]; omega), k1]
            by_cases hL : (x1).toInt < (v2 1 (74 + 2 * x0.toNatClampNeg)).toInt
            · obtain ⟨-, q2, q3⟩ := q.2.2.2.2.2.1 ⟨hC, hD, by omega, hE, by omega, hL⟩
              refine h0.wr hT ?_ (q3 2 (by decide))
              intro c hc ha
              have E2 : u2 1 2 = v2 1 2 := by rw [q2, if_neg (by omega), if_neg (by omega), if_neg (by omega), if_neg (by omega), if_neg (by omega), if_neg (by omega)]
              rw [E2] at ha
              obtain ⟨a1, a2, a3, a4⟩ := hO c hc ha
              refine ⟨a1.cg (by rw [q2, if_neg (by omega), if_neg (by omega), if_neg (by omega), if_neg (by omega), if_neg (by omega), if_neg (by omega)]; exact Int.le_refl _) (fun w f1 f2 => by rw [q2, if_neg (by omega), if_neg (by omega), if_neg (by omega), if_neg (by omega), if_neg (by omega), if_neg (by omega)]), a2.cg (by rw [q2, if_neg (by omega), if_neg (by omega), if_neg (by omega), if_neg (by omega), if_neg (by omega), if_neg (by omega)]), ?_, a4.cg (by rw [q2, if_neg (by omega), if_neg (by omega), if_neg (by omega), if_neg (by omega), if_neg (by omega), if_neg (by omega)]) (fun t ht hr => ⟨by rw [q2, if_neg (by omega), if_neg (by omega), if_neg (by omega), if_neg (by omega), if_neg (by omega), if_neg (by omega)], by rw [q2, if_neg (by omega), if_neg (by omega), if_neg (by omega), if_neg (by omega), if_neg (by omega), if_neg (by omega)]⟩)⟩
              by_cases e : c = x0.toNatClampNeg
              · subst e
                have g4 : u2 1 (36 + 7 * x0.toNatClampNeg) = v2 1 (36 + 7 * x0.toNatClampNeg) + 1 := by rw [q2, if_neg (by omega), if_neg (by omega), if_pos (by omega)]
                have g2 : u2 1 (34 + 7 * x0.toNatClampNeg) = v2 1 (34 + 7 * x0.toNatClampNeg) := by rw [q2, if_neg (by omega), if_neg (by omega), if_neg (by omega), if_neg (by omega), if_neg (by omega), if_neg (by omega)]
                have g3 : u2 1 (35 + 7 * x0.toNatClampNeg) = v2 1 (35 + 7 * x0.toNatClampNeg) := by rw [q2, if_neg (by omega), if_neg (by omega), if_neg (by omega), if_neg (by omega), if_neg (by omega), if_neg (by omega)]
                unfold OR_
                rw [g2, g3, g4, hx]
                refine ⟨fun _ => by omega, fun j hj hr => ?_⟩
                by_cases f : j = (v2 1 (36 + 7 * x0.toNatClampNeg)).toNatClampNeg
                · have g6 : u2 1 (86 + 10 * x0.toNatClampNeg + 2 * j) = v2 1 (74 + 2 * x0.toNatClampNeg) := by rw [q2, if_neg (by omega), if_neg (by omega), if_neg (by omega), if_neg (by omega), if_pos (by omega)]
                  have g7 : u2 1 (87 + 10 * x0.toNatClampNeg + 2 * j) = x1 := by rw [q2, if_neg (by omega), if_neg (by omega), if_neg (by omega), if_pos (by omega)]
                  rw [g6, g7]
                  unfold od
                  rw [hx]
                  exact ⟨by omega, by omega, fun w => absurd w.1 (by omega), fun _ => by omega⟩
                · rw [q2 (86 + 10 * x0.toNatClampNeg + 2 * j), if_neg (by omega), if_neg (by omega), if_neg (by omega), if_neg (by omega), if_neg (by omega), if_neg (by omega), q2 (87 + 10 * x0.toNatClampNeg + 2 * j), if_neg (by omega), if_neg (by omega), if_neg (by omega), if_neg (by omega), if_neg (by omega), if_neg (by omega)]
                  obtain ⟨d1, d2, d3, d4⟩ := a3.2 j hj (by omega)
                  unfold od
                  rw [hx]
                  exact ⟨d1, d2, fun w => absurd w (by omega), fun _ => d4 (fun w => absurd w.1 (by omega))⟩
              · exact a3.cg (fun w f1 f2 => by rw [q2, if_neg (by omega), if_neg (by omega), if_neg (by omega), if_neg (by omega), if_neg (by omega), if_neg (by omega)]) (fun w f1 => by rw [q2, if_neg (by omega), if_neg (by omega), if_neg (by omega), if_neg (by omega), if_neg (by omega), if_neg (by omega)])
            · obtain ⟨-, q2, q3⟩ := q.2.2.2.2.2.2 ⟨hC, hD, by omega, hE, by omega, by omega⟩
              refine h0.wr hT ?_ (q3 2 (by decide))
              intro c hc ha
              have E2 : u2 1 2 = v2 1 2 := by rw [q2, if_neg (by omega), if_neg (by omega), if_neg (by omega), if_neg (by omega), if_neg (by omega), if_neg (by omega), if_neg (by omega), if_neg (by omega)]
              rw [E2] at ha
              obtain ⟨a1, a2, a3, a4⟩ := hO c hc ha
              refine ⟨a1.cg (by rw [q2, if_neg (by omega), if_neg (by omega), if_neg (by omega), if_neg (by omega), if_neg (by omega), if_neg (by omega), if_neg (by omega), if_neg (by omega)]; exact Int.le_refl _) (fun w f1 f2 => by rw [q2, if_neg (by omega), if_neg (by omega), if_neg (by omega), if_neg (by omega), if_neg (by omega), if_neg (by omega), if_neg (by omega), if_neg (by omega)]), a2.cg (by rw [q2, if_neg (by omega), if_neg (by omega), if_neg (by omega), if_neg (by omega), if_neg (by omega), if_neg (by omega), if_neg (by omega), if_neg (by omega)]), ?_, a4.cg (by rw [q2, if_neg (by omega), if_neg (by omega), if_neg (by omega), if_neg (by omega), if_neg (by omega), if_neg (by omega), if_neg (by omega), if_neg (by omega)]) (fun t ht hr => ⟨by rw [q2, if_neg (by omega), if_neg (by omega), if_neg (by omega), if_neg (by omega), if_neg (by omega), if_neg (by omega), if_neg (by omega), if_neg (by omega)], by rw [q2, if_neg (by omega), if_neg (by omega), if_neg (by omega), if_neg (by omega), if_neg (by omega), if_neg (by omega), if_neg (by omega), if_neg (by omega)]⟩)⟩
              by_cases e : c = x0.toNatClampNeg
              · subst e
                have g4 : u2 1 (36 + 7 * x0.toNatClampNeg) = v2 1 (36 + 7 * x0.toNatClampNeg) + 1 := by rw [q2, if_neg (by omega), if_neg (by omega), if_neg (by omega), if_neg (by omega), if_pos (by omega)]
                have g2 : u2 1 (34 + 7 * x0.toNatClampNeg) = 1 := by rw [q2, if_neg (by omega), if_pos (by omega)]
                have g3 : u2 1 (35 + 7 * x0.toNatClampNeg) = (v2 1 (74 + 2 * x0.toNatClampNeg) + x1) / 2 := by rw [q2, if_pos (by omega)]
                unfold OR_
                rw [g2, g3, g4, hx]
                refine ⟨fun _ => by omega, fun j hj hr => ?_⟩
                by_cases f : j = (v2 1 (36 + 7 * x0.toNatClampNeg)).toNatClampNeg
                · have g6 : u2 1 (86 + 10 * x0.toNatClampNeg + 2 * j) = v2 1 (74 + 2 * x0.toNatClampNeg) := by rw [q2, if_neg (by omega), if_neg (by omega), if_neg (by omega), if_neg (by omega), if_neg (by omega), if_neg (by omega), if_pos (by omega)]
                  have g7 : u2 1 (87 + 10 * x0.toNatClampNeg + 2 * j) = x1 := by rw [q2, if_neg (by omega), if_neg (by omega), if_neg (by omega), if_neg (by omega), if_neg (by omega), if_pos (by omega)]
                  rw [g6, g7]
                  unfold od
                  rw [hx]
                  exact ⟨by omega, by omega, fun _ => ⟨by omega, rfl⟩, fun w => absurd ⟨k1, by omega⟩ w⟩
                · rw [q2 (86 + 10 * x0.toNatClampNeg + 2 * j), if_neg (by omega), if_neg (by omega), if_neg (by omega), if_neg (by omega), if_neg (by omega), if_neg (by omega), if_neg (by omega), if_neg (by omega), q2 (87 + 10 * x0.toNatClampNeg + 2 * j), if_neg (by omega), if_neg (by omega), if_neg (by omega), if_neg (by omega), if_neg (by omega), if_neg (by omega), if_neg (by omega), if_neg (by omega)]
                  obtain ⟨d1, d2, d3, d4⟩ := a3.2 j hj (by omega)
                  unfold od
                  rw [hx]
                  exact ⟨d1, d2, fun w => absurd w (by omega), fun _ => d4 (fun w => absurd w.1 (by omega))⟩
              · exact a3.cg (fun w f1 f2 => by rw [q2, if_neg (by omega), if_neg (by omega), if_neg (by omega), if_neg (by omega), if_neg (by omega), if_neg (by omega), if_neg (by omega), if_neg (by omega)]) (fun w f1 => by rw [q2, if_neg (by omega), if_neg (by omega), if_neg (by omega), if_neg (by omega), if_neg (by omega), if_neg (by omega), if_neg (by omega), if_neg (by omega)])
    · obtain ⟨-, q2⟩ := q.2.1 ⟨hC, hD⟩
      exact h0.wr hT (by rw [q2]; exact hO) (by rw [q2])
  · obtain ⟨-, q2⟩ := q.1 hC
    exact h0.wr hT (by rw [q2]; exact hO) (by rw [q2])

section RKB3
variable {n r r2 x0 : Int32} {v u v2 u2 : Nat → Nat → Int32}
theorem S_rooms (h : RR3 n v v2) (p : (¬ (1 ≤ x0.toInt ∧ x0.toInt ≤ 2) → r = -1 ∧ u = v) ∧ (1 ≤ x0.toInt ∧ x0.toInt ≤ 2 → r = v 0 4 ∧ (∀ k j : Nat, u k j = if k = 0 ∧ j = 4 then x0 else v k j))) (q : ((¬ (1 ≤ x0.toInt ∧ x0.toInt ≤ 2) ∧ r2 = -1 ∧ u2 = v2) ∨ ((1 ≤ x0.toInt ∧ x0.toInt ≤ 2) ∧ r2 = v2 0 3 ∧ u2 0 3 = x0 ∧ u2 1 = v2 1 ∧ u2 2 = v2 2 ∧ u2 0 2 = v2 0 2))) : r = r2 ∧ RR3 n u u2 := by
  have hT := T_rooms h.1 p q
  refine ⟨hT.1, hT.2, ?_, ?_⟩
  · rcases q with ⟨-, q2, q3⟩ | ⟨q1, q2, q3, q4, q5, q6⟩
    · first | (rw [q2]; exact h.2.1) | (rw [q3]; exact h.2.1)
    · rw [q4]
      exact h.2.1
  · intro w
    rcases q with ⟨-, q2, q3⟩ | ⟨q1, q2, q3, q4, q5, q6⟩
    · first | (rw [q2]; exact h.2.2 w) | (rw [q3]; exact h.2.2 w)
    · rw [q5]
      exact h.2.2 w
theorem S_keep (hQ : Ir v2) (h : RR3 n v v2) (p1 : ∀ o j : Nat, lvH v 13 o j → u (119 + o) j = v (13 + o) j) (p2 : ∀ k : Nat, k < 119 → u k = v k) (q2 : ∀ j : Nat, j < 596 → u2 2 j = v2 1 j) (q3 : u2 1 = v2 1) (q4 : u2 0 2 = 1) (q5 : u2 0 3 = v2 0 3) : RR3 1 u u2 :=
  ⟨T_keep hQ h.1 p1 p2 q2 q3 q4 q5, by rw [q3]; exact h.2.1, fun _ => h.2.1.copy q2⟩
theorem S_back0 (h : RR3 0 v v2) (p : u = v ∧ r = -5) (q : (((v2 0 2).toInt = 0 ∧ u2 = v2 ∧ r2 = -5) ∨ ((v2 0 2).toInt = 1 ∧ (∀ j : Nat, j < 596 → u2 1 j = v2 2 j) ∧ u2 2 = v2 2 ∧ u2 0 = v2 0 ∧ r2 = 1))) : r = -5 ∧ r2 = -5 ∧ RR3 0 u u2 := by
  obtain ⟨t1, t2, t3⟩ := T_back0 h.1 p q
  refine ⟨t1, t2, t3, ?_, fun w => absurd w (by decide)⟩
  rcases q with ⟨q1, q2, q3⟩ | ⟨q1, -⟩
  · rw [q2]
    exact h.2.1
  · rw [h.1.2.2.1] at q1
    exact absurd q1 (by decide)
theorem S_back1 (hQ : Ir v2) (h : RR3 1 v v2) (p : ((∀ o j : Nat, lvH v 119 o j → u (13 + o) j = v (119 + o) j) ∧ (∀ k : Nat, (k < 13 ∨ 119 ≤ k) → u k = v k)) ∧ r = 1) (q : (((v2 0 2).toInt = 0 ∧ u2 = v2 ∧ r2 = -5) ∨ ((v2 0 2).toInt = 1 ∧ (∀ j : Nat, j < 596 → u2 1 j = v2 2 j) ∧ u2 2 = v2 2 ∧ u2 0 = v2 0 ∧ r2 = 1))) : r = 1 ∧ r2 = 1 ∧ RR3 1 u u2 := by
  obtain ⟨t1, t2, t3⟩ := T_back1 hQ h.1 p q
  refine ⟨t1, t2, t3, ?_, fun _ => ?_⟩
  · rcases q with ⟨q1, -⟩ | ⟨q1, q2, q3, q4, q5⟩
    · rw [h.1.2.2.1] at q1
      exact absurd q1 (by decide)
    · exact (h.2.2 rfl).copy q2
  · rcases q with ⟨q1, -⟩ | ⟨q1, q2, q3, q4, q5⟩
    · rw [h.1.2.2.1] at q1
      exact absurd q1 (by decide)
    · rw [q3]
      exact h.2.2 rfl
end RKB3
