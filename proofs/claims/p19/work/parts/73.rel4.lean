
set_option maxHeartbeats 4000000 in
theorem RL_box0 {v u : Nat → Nat → Int32} {s z : Nat → Int32} {X : Nat} {x : Int32} (hX : X < 6) (hu : ∀ k j : Nat, u k j = if k = 31 + 15 * X ∧ j = 0 then x else v k j) (hs : ∀ n : Nat, z n = if n = 74 + 2 * X then x else s n) (hR : RLk 13 v s) : RLk 13 u z := by
  have A0 : (z 0).toInt = (s 0).toInt := by rw [hs, if_neg (by omega)]
  have A1 : (z 1).toInt = (s 1).toInt := by rw [hs, if_neg (by omega)]
  have A2 : (z 2).toInt = (s 2).toInt := by rw [hs, if_neg (by omega)]
  have A36 : ∀ c : Nat, c < 6 → (z (36 + 7 * c)).toInt = (s (36 + 7 * c)).toInt := fun c hc => by rw [hs, if_neg (by omega)]
  have A38 : ∀ c : Nat, c < 6 → (z (38 + 7 * c)).toInt = (s (38 + 7 * c)).toInt := fun c hc => by rw [hs, if_neg (by omega)]
  intro k j n h
  unfold lk at h
  rcases h with ⟨rfl, hj, rfl⟩ | ⟨p, hp, ha, hj, rfl, rfl⟩ | ⟨m, hm, ha, hj, rfl, rfl⟩ | ⟨m, hm, ha, rfl, rfl, rfl⟩ | ⟨c, hc, ha, rfl, rfl, rfl⟩ | ⟨c, hc, ha, rfl, rfl, rfl⟩ | ⟨c, hc, ha, rfl, rfl, rfl⟩ | ⟨c, hc, ha, rfl, rfl, rfl⟩ | ⟨c, hc, ha, hj, rfl, rfl⟩ | ⟨c, i, hc, ha, hi, hj, hr, rfl, rfl⟩ | ⟨c, i, hc, ha, hi, hj, rfl, rfl⟩ | ⟨c, t, hc, ha, ht, hr, hj, rfl, rfl⟩
  · have d1 : u (13) n = v (13) n := by rw [hu, if_neg (by omega)]
    have d2 : z (n) = s (n) := by rw [hs, if_neg (by omega)]
    exact d1.trans ((hR _ _ _ (lk_a hj)).trans d2.symm)
  · have d1 : u (13 + 4 + p) j = v (13 + 4 + p) j := by rw [hu, if_neg (by omega)]
    have d2 : z (4 + 2 * p + j) = s (4 + 2 * p + j) := by rw [hs, if_neg (by omega)]
    exact d1.trans ((hR _ _ _ (lk_p hp (by omega) hj)).trans d2.symm)
  · have d1 : u (13 + 12 + m) j = v (13 + 12 + m) j := by rw [hu, if_neg (by omega)]
    have d2 : z (20 + 2 * m + j) = s (20 + 2 * m + j) := by rw [hs, if_neg (by omega)]
    exact d1.trans ((hR _ _ _ (lk_m hm (by omega) hj)).trans d2.symm)
  · have d1 : u (13 + 12 + m) 2 = v (13 + 12 + m) 2 := by rw [hu, if_neg (by omega)]
    have d2 : z (28 + m) = s (28 + m) := by rw [hs, if_neg (by omega)]
    exact d1.trans ((hR _ _ _ (lk_k_ hm (by omega))).trans d2.symm)
  · have d1 : u (13 + 16 + 15 * c) 0 = v (13 + 16 + 15 * c) 0 := by rw [hu, if_neg (by omega)]
    have d2 : z (34 + 7 * c) = s (34 + 7 * c) := by rw [hs, if_neg (by omega)]
    exact d1.trans ((hR _ _ _ (lk_c0 hc (by omega))).trans d2.symm)
  · have d1 : u (13 + 16 + 15 * c) 2 = v (13 + 16 + 15 * c) 2 := by rw [hu, if_neg (by omega)]
    have d2 : z (36 + 7 * c) = s (36 + 7 * c) := by rw [hs, if_neg (by omega)]
    exact d1.trans ((hR _ _ _ (lk_c2 hc (by omega))).trans d2.symm)
  · have d1 : u (13 + 16 + 15 * c) 3 = v (13 + 16 + 15 * c) 3 := by rw [hu, if_neg (by omega)]
    have d2 : z (37 + 7 * c) = s (37 + 7 * c) := by rw [hs, if_neg (by omega)]
    exact d1.trans ((hR _ _ _ (lk_c3 hc (by omega))).trans d2.symm)
  · have d1 : u (13 + 16 + 15 * c) 5 = v (13 + 16 + 15 * c) 5 := by rw [hu, if_neg (by omega)]
    have d2 : z (38 + 7 * c) = s (38 + 7 * c) := by rw [hs, if_neg (by omega)]
    exact d1.trans ((hR _ _ _ (lk_c5 hc (by omega))).trans d2.symm)
  · have d1 : u (13 + 17 + 15 * c) j = v (13 + 17 + 15 * c) j := by rw [hu, if_neg (by omega)]
    have d2 : z (32 + 7 * c + j) = s (32 + 7 * c + j) := by rw [hs, if_neg (by omega)]
    exact d1.trans ((hR _ _ _ (lk_q hc (by omega) hj)).trans d2.symm)
  · have a36 := A36 c hc
    have d1 : u (13 + 20 + 15 * c + i) j = v (13 + 20 + 15 * c + i) j := by rw [hu, if_neg (by omega)]
    have d2 : z (86 + 10 * c + 2 * j + i) = s (86 + 10 * c + 2 * j + i) := by rw [hs, if_neg (by omega)]
    exact d1.trans ((hR _ _ _ (lk_o hc (by omega) hi hj (by omega))).trans d2.symm)
  · have d1 : u (13 + 23 + 15 * c + i) j = v (13 + 23 + 15 * c + i) j := by rw [hu, if_neg (by omega)]
    have d2 : z (308 + 48 * c + 24 * i + j) = s (308 + 48 * c + 24 * i + j) := by rw [hs, if_neg (by omega)]
    exact d1.trans ((hR _ _ _ (lk_l hc (by omega) hi hj)).trans d2.symm)
  · have a38 := A38 c hc
    have d1 : u (13 + 26 + 15 * c + t) j = v (13 + 26 + 15 * c + t) j := by rw [hu, if_neg (by omega)]
    have d2 : z (158 + 25 * c + 5 * t + j) = s (158 + 25 * c + 5 * t + j) := by rw [hs, if_neg (by omega)]
    exact d1.trans ((hR _ _ _ (lk_t hc (by omega) ht (by omega) hj)).trans d2.symm)

set_option maxHeartbeats 4000000 in
theorem RL_no0 {v u : Nat → Nat → Int32} {s z : Nat → Int32} {X R : Nat} {x y g a : Int32} (hX : X < 6) (hR5 : R < 5) (hn : (s (36 + 7 * X)).toInt = (R : Int)) (hx : y.toInt = (s (36 + 7 * X)).toInt + 1) (hu : ∀ k j : Nat, u k j = if k = 31 + 15 * X ∧ j = 1 then -1 else if k = 31 + 15 * X ∧ j = 0 then -1 else if k = 29 + 15 * X ∧ j = 2 then y else if k = 33 + 15 * X + 1 ∧ j = R then g else if k = 33 + 15 * X + 0 ∧ j = R then a else if k = 31 + 15 * X ∧ j = 0 then x else v k j) (hs : ∀ n : Nat, z n = if n = 75 + 2 * X then -5 else if n = 74 + 2 * X then -5 else if n = 36 + 7 * X then y else if n = 87 + 10 * X + 2 * R then g else if n = 86 + 10 * X + 2 * R then a else if n = 74 + 2 * X then x else s n) (hR : RLk 13 v s) : RLk 13 u z := by
  have A0 : (z 0).toInt = (s 0).toInt := by rw [hs, if_neg (by omega), if_neg (by omega), if_neg (by omega), if_neg (by omega), if_neg (by omega), if_neg (by omega)]
  have A1 : (z 1).toInt = (s 1).toInt := by rw [hs, if_neg (by omega), if_neg (by omega), if_neg (by omega), if_neg (by omega), if_neg (by omega), if_neg (by omega)]
  have A2 : (z 2).toInt = (s 2).toInt := by rw [hs, if_neg (by omega), if_neg (by omega), if_neg (by omega), if_neg (by omega), if_neg (by omega), if_neg (by omega)]
  have A36 : ∀ c : Nat, c < 6 → (z (36 + 7 * c)).toInt = (s (36 + 7 * c)).toInt ∨ (c = X ∧ (z (36 + 7 * c)).toInt = (s (36 + 7 * c)).toInt + 1) := fun c hc => by by_cases q : c = X; subst q; refine Or.inr ⟨rfl, ?_⟩; rw [hs, if_neg (by omega), if_neg (by omega), if_pos rfl]; exact hx; refine Or.inl ?_; rw [hs, if_neg (by omega), if_neg (by omega), if_neg (by omega), if_neg (by omega), if_neg (by omega), if_neg (by omega)]
  have A38 : ∀ c : Nat, c < 6 → (z (38 + 7 * c)).toInt = (s (38 + 7 * c)).toInt := fun c hc => by rw [hs, if_neg (by omega), if_neg (by omega), if_neg (by omega), if_neg (by omega), if_neg (by omega), if_neg (by omega)]
  intro k j n h
  unfold lk at h
  rcases h with ⟨rfl, hj, rfl⟩ | ⟨p, hp, ha, hj, rfl, rfl⟩ | ⟨m, hm, ha, hj, rfl, rfl⟩ | ⟨m, hm, ha, rfl, rfl, rfl⟩ | ⟨c, hc, ha, rfl, rfl, rfl⟩ | ⟨c, hc, ha, rfl, rfl, rfl⟩ | ⟨c, hc, ha, rfl, rfl, rfl⟩ | ⟨c, hc, ha, rfl, rfl, rfl⟩ | ⟨c, hc, ha, hj, rfl, rfl⟩ | ⟨c, i, hc, ha, hi, hj, hr, rfl, rfl⟩ | ⟨c, i, hc, ha, hi, hj, rfl, rfl⟩ | ⟨c, t, hc, ha, ht, hr, hj, rfl, rfl⟩
  · have d1 : u (13) n = v (13) n := by rw [hu, if_neg (by omega), if_neg (by omega), if_neg (by omega), if_neg (by omega), if_neg (by omega), if_neg (by omega)]
    have d2 : z (n) = s (n) := by rw [hs, if_neg (by omega), if_neg (by omega), if_neg (by omega), if_neg (by omega), if_neg (by omega), if_neg (by omega)]
    exact d1.trans ((hR _ _ _ (lk_a hj)).trans d2.symm)
  · have d1 : u (13 + 4 + p) j = v (13 + 4 + p) j := by rw [hu, if_neg (by omega), if_neg (by omega), if_neg (by omega), if_neg (by omega), if_neg (by omega), if_neg (by omega)]
    have d2 : z (4 + 2 * p + j) = s (4 + 2 * p + j) := by rw [hs, if_neg (by omega), if_neg (by omega), if_neg (by omega), if_neg (by omega), if_neg (by omega), if_neg (by omega)]
    exact d1.trans ((hR _ _ _ (lk_p hp (by omega) hj)).trans d2.symm)
  · have d1 : u (13 + 12 + m) j = v (13 + 12 + m) j := by rw [hu, if_neg (by omega), if_neg (by omega), if_neg (by omega), if_neg (by omega), if_neg (by omega), if_neg (by omega)]
    have d2 : z (20 + 2 * m + j) = s (20 + 2 * m + j) := by rw [hs, if_neg (by omega), if_neg (by omega), if_neg (by omega), if_neg (by omega), if_neg (by omega), if_neg (by omega)]
    exact d1.trans ((hR _ _ _ (lk_m hm (by omega) hj)).trans d2.symm)
  · have d1 : u (13 + 12 + m) 2 = v (13 + 12 + m) 2 := by rw [hu, if_neg (by omega), if_neg (by omega), if_neg (by omega), if_neg (by omega), if_neg (by omega), if_neg (by omega)]
    have d2 : z (28 + m) = s (28 + m) := by rw [hs, if_neg (by omega), if_neg (by omega), if_neg (by omega), if_neg (by omega), if_neg (by omega), if_neg (by omega)]
    exact d1.trans ((hR _ _ _ (lk_k_ hm (by omega))).trans d2.symm)
  · have d1 : u (13 + 16 + 15 * c) 0 = v (13 + 16 + 15 * c) 0 := by rw [hu, if_neg (by omega), if_neg (by omega), if_neg (by omega), if_neg (by omega), if_neg (by omega), if_neg (by omega)]
    have d2 : z (34 + 7 * c) = s (34 + 7 * c) := by rw [hs, if_neg (by omega), if_neg (by omega), if_neg (by omega), if_neg (by omega), if_neg (by omega), if_neg (by omega)]
    exact d1.trans ((hR _ _ _ (lk_c0 hc (by omega))).trans d2.symm)
  · by_cases e0 : 13 + 16 + 15 * c = 29 + 15 * X ∧ 2 = 2
    · have d1 : u (13 + 16 + 15 * c) 2 = y := by rw [hu, if_neg (by omega), if_neg (by omega), if_pos (by omega)]
      have d2 : z (36 + 7 * c) = y := by rw [hs, if_neg (by omega), if_neg (by omega), if_pos (by omega)]
      exact d1.trans d2.symm
    · skip
      have d1 : u (13 + 16 + 15 * c) 2 = v (13 + 16 + 15 * c) 2 := by rw [hu, if_neg (by omega), if_neg (by omega), if_neg (by omega), if_neg (by omega), if_neg (by omega), if_neg (by omega)]
      have d2 : z (36 + 7 * c) = s (36 + 7 * c) := by rw [hs, if_neg (by omega), if_neg (by omega), if_neg (by omega), if_neg (by omega), if_neg (by omega), if_neg (by omega)]
      exact d1.trans ((hR _ _ _ (lk_c2 hc (by omega))).trans d2.symm)
  · have d1 : u (13 + 16 + 15 * c) 3 = v (13 + 16 + 15 * c) 3 := by rw [hu, if_neg (by omega), if_neg (by omega), if_neg (by omega), if_neg (by omega), if_neg (by omega), if_neg (by omega)]
    have d2 : z (37 + 7 * c) = s (37 + 7 * c) := by rw [hs, if_neg (by omega), if_neg (by omega), if_neg (by omega), if_neg (by omega), if_neg (by omega), if_neg (by omega)]
    exact d1.trans ((hR _ _ _ (lk_c3 hc (by omega))).trans d2.symm)
  · have d1 : u (13 + 16 + 15 * c) 5 = v (13 + 16 + 15 * c) 5 := by rw [hu, if_neg (by omega), if_neg (by omega), if_neg (by omega), if_neg (by omega), if_neg (by omega), if_neg (by omega)]
    have d2 : z (38 + 7 * c) = s (38 + 7 * c) := by rw [hs, if_neg (by omega), if_neg (by omega), if_neg (by omega), if_neg (by omega), if_neg (by omega), if_neg (by omega)]
    exact d1.trans ((hR _ _ _ (lk_c5 hc (by omega))).trans d2.symm)
  · have d1 : u (13 + 17 + 15 * c) j = v (13 + 17 + 15 * c) j := by rw [hu, if_neg (by omega), if_neg (by omega), if_neg (by omega), if_neg (by omega), if_neg (by omega), if_neg (by omega)]
    have d2 : z (32 + 7 * c + j) = s (32 + 7 * c + j) := by rw [hs, if_neg (by omega), if_neg (by omega), if_neg (by omega), if_neg (by omega), if_neg (by omega), if_neg (by omega)]
    exact d1.trans ((hR _ _ _ (lk_q hc (by omega) hj)).trans d2.symm)
  · have a36 := A36 c hc
    have hnc : c = X → (s (36 + 7 * c)).toInt = (R : Int) := fun q => by rw [q]; exact hn
    by_cases e0 : 13 + 20 + 15 * c + i = 33 + 15 * X + 1 ∧ j = R
    · have d1 : u (13 + 20 + 15 * c + i) j = g := by rw [hu, if_neg (by omega), if_neg (by omega), if_neg (by omega), if_pos (by omega)]
      have d2 : z (86 + 10 * c + 2 * j + i) = g := by rw [hs, if_neg (by omega), if_neg (by omega), if_neg (by omega), if_pos (by omega)]
      exact d1.trans d2.symm
    · skip
      by_cases e1 : 13 + 20 + 15 * c + i = 33 + 15 * X + 0 ∧ j = R
      · have d1 : u (13 + 20 + 15 * c + i) j = a := by rw [hu, if_neg (by omega), if_neg (by omega), if_neg (by omega), if_neg (by omega), if_pos (by omega)]
        have d2 : z (86 + 10 * c + 2 * j + i) = a := by rw [hs, if_neg (by omega), if_neg (by omega), if_neg (by omega), if_neg (by omega), if_pos (by omega)]
        exact d1.trans d2.symm
      · skip
        have d1 : u (13 + 20 + 15 * c + i) j = v (13 + 20 + 15 * c + i) j := by rw [hu, if_neg (by omega), if_neg (by omega), if_neg (by omega), if_neg (by omega), if_neg (by omega), if_neg (by omega)]
        have d2 : z (86 + 10 * c + 2 * j + i) = s (86 + 10 * c + 2 * j + i) := by rw [hs, if_neg (by omega), if_neg (by omega), if_neg (by omega), if_neg (by omega), if_neg (by omega), if_neg (by omega)]
        exact d1.trans ((hR _ _ _ (lk_o hc (by omega) hi hj (by omega))).trans d2.symm)
  · have d1 : u (13 + 23 + 15 * c + i) j = v (13 + 23 + 15 * c + i) j := by rw [hu, if_neg (by omega), if_neg (by omega), if_neg (by omega), if_neg (by omega), if_neg (by omega), if_neg (by omega)]
    have d2 : z (308 + 48 * c + 24 * i + j) = s (308 + 48 * c + 24 * i + j) := by rw [hs, if_neg (by omega), if_neg (by omega), if_neg (by omega), if_neg (by omega), if_neg (by omega), if_neg (by omega)]
    exact d1.trans ((hR _ _ _ (lk_l hc (by omega) hi hj)).trans d2.symm)
  · have a38 := A38 c hc
    have d1 : u (13 + 26 + 15 * c + t) j = v (13 + 26 + 15 * c + t) j := by rw [hu, if_neg (by omega), if_neg (by omega), if_neg (by omega), if_neg (by omega), if_neg (by omega), if_neg (by omega)]
    have d2 : z (158 + 25 * c + 5 * t + j) = s (158 + 25 * c + 5 * t + j) := by rw [hs, if_neg (by omega), if_neg (by omega), if_neg (by omega), if_neg (by omega), if_neg (by omega), if_neg (by omega)]
    exact d1.trans ((hR _ _ _ (lk_t hc (by omega) ht (by omega) hj)).trans d2.symm)

set_option maxHeartbeats 4000000 in
theorem RL_yes0 {v u : Nat → Nat → Int32} {s z : Nat → Int32} {X R : Nat} {x y g a w : Int32} (hX : X < 6) (hR5 : R < 5) (hn : (s (36 + 7 * X)).toInt = (R : Int)) (hx : y.toInt = (s (36 + 7 * X)).toInt + 1) (hu : ∀ k j : Nat, u k j = if k = 29 + 15 * X ∧ j = 1 then w else if k = 29 + 15 * X ∧ j = 0 then 1 else if k = 29 + 15 * X ∧ j = 2 then y else if k = 33 + 15 * X + 1 ∧ j = R then g else if k = 33 + 15 * X + 0 ∧ j = R then a else if k = 31 + 15 * X ∧ j = 0 then x else v k j) (hs : ∀ n : Nat, z n = if n = 35 + 7 * X then w else if n = 34 + 7 * X then 1 else if n = 75 + 2 * X then -5 else if n = 74 + 2 * X then -5 else if n = 36 + 7 * X then y else if n = 87 + 10 * X + 2 * R then g else if n = 86 + 10 * X + 2 * R then a else if n = 74 + 2 * X then x else s n) (hR : RLk 13 v s) : RLk 13 u z := by
  have A0 : (z 0).toInt = (s 0).toInt := by rw [hs, if_neg (by omega), if_neg (by omega), if_neg (by omega), if_neg (by omega), if_neg (by omega), if_neg (by omega), if_neg (by omega), if_neg (by omega)]
  have A1 : (z 1).toInt = (s 1).toInt := by rw [hs, if_neg (by omega), if_neg (by omega), if_neg (by omega), if_neg (by omega), if_neg (by omega), if_neg (by omega), if_neg (by omega), if_neg (by omega)]
  have A2 : (z 2).toInt = (s 2).toInt := by rw [hs, if_neg (by omega), if_neg (by omega), if_neg (by omega), if_neg (by omega), if_neg (by omega), if_neg (by omega), if_neg (by omega), if_neg (by omega)]
  have A36 : ∀ c : Nat, c < 6 → (z (36 + 7 * c)).toInt = (s (36 + 7 * c)).toInt ∨ (c = X ∧ (z (36 + 7 * c)).toInt = (s (36 + 7 * c)).toInt + 1) := fun c hc => by by_cases q : c = X; subst q; refine Or.inr ⟨rfl, ?_⟩; rw [hs, if_neg (by omega), if_neg (by omega), if_neg (by omega), if_neg (by omega), if_pos rfl]; exact hx; refine Or.inl ?_; rw [hs, if_neg (by omega), if_neg (by omega), if_neg (by omega), if_neg (by omega), if_neg (by omega), if_neg (by omega), if_neg (by omega), if_neg (by omega)]
  have A38 : ∀ c : Nat, c < 6 → (z (38 + 7 * c)).toInt = (s (38 + 7 * c)).toInt := fun c hc => by rw [hs, if_neg (by omega), if_neg (by omega), if_neg (by omega), if_neg (by omega), if_neg (by omega), if_neg (by omega), if_neg (by omega), if_neg (by omega)]
  intro k j n h
  unfold lk at h
  rcases h with ⟨rfl, hj, rfl⟩ | ⟨p, hp, ha, hj, rfl, rfl⟩ | ⟨m, hm, ha, hj, rfl, rfl⟩ | ⟨m, hm, ha, rfl, rfl, rfl⟩ | ⟨c, hc, ha, rfl, rfl, rfl⟩ | ⟨c, hc, ha, rfl, rfl, rfl⟩ | ⟨c, hc, ha, rfl, rfl, rfl⟩ | ⟨c, hc, ha, rfl, rfl, rfl⟩ | ⟨c, hc, ha, hj, rfl, rfl⟩ | ⟨c, i, hc, ha, hi, hj, hr, rfl, rfl⟩ | ⟨c, i, hc, ha, hi, hj, rfl, rfl⟩ | ⟨c, t, hc, ha, ht, hr, hj, rfl, rfl⟩
  · have d1 : u (13) n = v (13) n := by rw [hu, if_neg (by omega), if_neg (by omega), if_neg (by omega), if_neg (by omega), if_neg (by omega), if_neg (by omega)]
    have d2 : z (n) = s (n) := by rw [hs, if_neg (by omega), if_neg (by omega), if_neg (by omega), if_neg (by omega), if_neg (by omega), if_neg (by omega), if_neg (by omega), if_neg (by omega)]
    exact d1.trans ((hR _ _ _ (lk_a hj)).trans d2.symm)
  · have d1 : u (13 + 4 + p) j = v (13 + 4 + p) j := by rw [hu, if_neg (by omega), if_neg (by omega), if_neg (by omega), if_neg (by omega), if_neg (by omega), if_neg (by omega)]
    have d2 : z (4 + 2 * p + j) = s (4 + 2 * p + j) := by rw [hs, if_neg (by omega), if_neg (by omega), if_neg (by omega), if_neg (by omega), if_neg (by omega), if_neg (by omega), if_neg (by omega), if_neg (by omega)]
    exact d1.trans ((hR _ _ _ (lk_p hp (by omega) hj)).trans d2.symm)
  · have d1 : u (13 + 12 + m) j = v (13 + 12 + m) j := by rw [hu, if_neg (by omega), if_neg (by omega), if_neg (by omega), if_neg (by omega), if_neg (by omega), if_neg (by omega)]
    have d2 : z (20 + 2 * m + j) = s (20 + 2 * m + j) := by rw [hs, if_neg (by omega), if_neg (by omega), if_neg (by omega), if_neg (by omega), if_neg (by omega), if_neg (by omega), if_neg (by omega), if_neg (by omega)]
    exact d1.trans ((hR _ _ _ (lk_m hm (by omega) hj)).trans d2.symm)
  · have d1 : u (13 + 12 + m) 2 = v (13 + 12 + m) 2 := by rw [hu, if_neg (by omega), if_neg (by omega), if_neg (by omega), if_neg (by omega), if_neg (by omega), if_neg (by omega)]
    have d2 : z (28 + m) = s (28 + m) := by rw [hs, if_neg (by omega), if_neg (by omega), if_neg (by omega), if_neg (by omega), if_neg (by omega), if_neg (by omega), if_neg (by omega), if_neg (by omega)]
    exact d1.trans ((hR _ _ _ (lk_k_ hm (by omega))).trans d2.symm)
  · by_cases e0 : 13 + 16 + 15 * c = 29 + 15 * X ∧ 0 = 0
    · have d1 : u (13 + 16 + 15 * c) 0 = 1 := by rw [hu, if_neg (by omega), if_pos (by omega)]
      have d2 : z (34 + 7 * c) = 1 := by rw [hs, if_neg (by omega), if_pos (by omega)]
      exact d1.trans d2.symm
    · skip
      have d1 : u (13 + 16 + 15 * c) 0 = v (13 + 16 + 15 * c) 0 := by rw [hu, if_neg (by omega), if_neg (by omega), if_neg (by omega), if_neg (by omega), if_neg (by omega), if_neg (by omega)]
      have d2 : z (34 + 7 * c) = s (34 + 7 * c) := by rw [hs, if_neg (by omega), if_neg (by omega), if_neg (by omega), if_neg (by omega), if_neg (by omega), if_neg (by omega), if_neg (by omega), if_neg (by omega)]
      exact d1.trans ((hR _ _ _ (lk_c0 hc (by omega))).trans d2.symm)
  · by_cases e0 : 13 + 16 + 15 * c = 29 + 15 * X ∧ 2 = 2
    · have d1 : u (13 + 16 + 15 * c) 2 = y := by rw [hu, if_neg (by omega), if_neg (by omega), if_pos (by omega)]
      have d2 : z (36 + 7 * c) = y := by rw [hs, if_neg (by omega), if_neg (by omega), if_neg (by omega), if_neg (by omega), if_pos (by omega)]
      exact d1.trans d2.symm
    · skip
      have d1 : u (13 + 16 + 15 * c) 2 = v (13 + 16 + 15 * c) 2 := by rw [hu, if_neg (by omega), if_neg (by omega), if_neg (by omega), if_neg (by omega), if_neg (by omega), if_neg (by omega)]
      have d2 : z (36 + 7 * c) = s (36 + 7 * c) := by rw [hs, if_neg (by omega), if_neg (by omega), if_neg (by omega), if_neg (by omega), if_neg (by omega), if_neg (by omega), if_neg (by omega), if_neg (by omega)]
      exact d1.trans ((hR _ _ _ (lk_c2 hc (by omega))).trans d2.symm)
  · have d1 : u (13 + 16 + 15 * c) 3 = v (13 + 16 + 15 * c) 3 := by rw [hu, if_neg (by omega), if_neg (by omega), if_neg (by omega), if_neg (by omega), if_neg (by omega), if_neg (by omega)]
    have d2 : z (37 + 7 * c) = s (37 + 7 * c) := by rw [hs, if_neg (by omega), if_neg (by omega), if_neg (by omega), if_neg (by omega), if_neg (by omega), if_neg (by omega), if_neg (by omega), if_neg (by omega)]
    exact d1.trans ((hR _ _ _ (lk_c3 hc (by omega))).trans d2.symm)
  · have d1 : u (13 + 16 + 15 * c) 5 = v (13 + 16 + 15 * c) 5 := by rw [hu, if_neg (by omega), if_neg (by omega), if_neg (by omega), if_neg (by omega), if_neg (by omega), if_neg (by omega)]
    have d2 : z (38 + 7 * c) = s (38 + 7 * c) := by rw [hs, if_neg (by omega), if_neg (by omega), if_neg (by omega), if_neg (by omega), if_neg (by omega), if_neg (by omega), if_neg (by omega), if_neg (by omega)]
    exact d1.trans ((hR _ _ _ (lk_c5 hc (by omega))).trans d2.symm)
  · have d1 : u (13 + 17 + 15 * c) j = v (13 + 17 + 15 * c) j := by rw [hu, if_neg (by omega), if_neg (by omega), if_neg (by omega), if_neg (by omega), if_neg (by omega), if_neg (by omega)]
    have d2 : z (32 + 7 * c + j) = s (32 + 7 * c + j) := by rw [hs, if_neg (by omega), if_neg (by omega), if_neg (by omega), if_neg (by omega), if_neg (by omega), if_neg (by omega), if_neg (by omega), if_neg (by omega)]
    exact d1.trans ((hR _ _ _ (lk_q hc (by omega) hj)).trans d2.symm)
  · have a36 := A36 c hc
    have hnc : c = X → (s (36 + 7 * c)).toInt = (R : Int) := fun q => by rw [q]; exact hn
    by_cases e0 : 13 + 20 + 15 * c + i = 33 + 15 * X + 1 ∧ j = R
    · have d1 : u (13 + 20 + 15 * c + i) j = g := by rw [hu, if_neg (by omega), if_neg (by omega), if_neg (by omega), if_pos (by omega)]
      have d2 : z (86 + 10 * c + 2 * j + i) = g := by rw [hs, if_neg (by omega), if_neg (by omega), if_neg (by omega), if_neg (by omega), if_neg (by omega), if_pos (by omega)]
      exact d1.trans d2.symm
    · skip
      by_cases e1 : 13 + 20 + 15 * c + i = 33 + 15 * X + 0 ∧ j = R
      · have d1 : u (13 + 20 + 15 * c + i) j = a := by rw [hu, if_neg (by omega), if_neg (by omega), if_neg (by omega), if_neg (by omega), if_pos (by omega)]
        have d2 : z (86 + 10 * c + 2 * j + i) = a := by rw [hs, if_neg (by omega), if_neg (by omega), if_neg (by omega), if_neg (by omega), if_neg (by omega), if_neg (by omega), if_pos (by omega)]
        exact d1.trans d2.symm
      · skip
        have d1 : u (13 + 20 + 15 * c + i) j = v (13 + 20 + 15 * c + i) j := by rw [hu, if_neg (by omega), if_neg (by omega), if_neg (by omega), if_neg (by omega), if_neg (by omega), if_neg (by omega)]
        have d2 : z (86 + 10 * c + 2 * j + i) = s (86 + 10 * c + 2 * j + i) := by rw [hs, if_neg (by omega), if_neg (by omega), if_neg (by omega), if_neg (by omega), if_neg (by omega), if_neg (by omega), if_neg (by omega), if_neg (by omega)]
        exact d1.trans ((hR _ _ _ (lk_o hc (by omega) hi hj (by omega))).trans d2.symm)
  · have d1 : u (13 + 23 + 15 * c + i) j = v (13 + 23 + 15 * c + i) j := by rw [hu, if_neg (by omega), if_neg (by omega), if_neg (by omega), if_neg (by omega), if_neg (by omega), if_neg (by omega)]
    have d2 : z (308 + 48 * c + 24 * i + j) = s (308 + 48 * c + 24 * i + j) := by rw [hs, if_neg (by omega), if_neg (by omega), if_neg (by omega), if_neg (by omega), if_neg (by omega), if_neg (by omega), if_neg (by omega), if_neg (by omega)]
    exact d1.trans ((hR _ _ _ (lk_l hc (by omega) hi hj)).trans d2.symm)
  · have a38 := A38 c hc
    have d1 : u (13 + 26 + 15 * c + t) j = v (13 + 26 + 15 * c + t) j := by rw [hu, if_neg (by omega), if_neg (by omega), if_neg (by omega), if_neg (by omega), if_neg (by omega), if_neg (by omega)]
    have d2 : z (158 + 25 * c + 5 * t + j) = s (158 + 25 * c + 5 * t + j) := by rw [hs, if_neg (by omega), if_neg (by omega), if_neg (by omega), if_neg (by omega), if_neg (by omega), if_neg (by omega), if_neg (by omega), if_neg (by omega)]
    exact d1.trans ((hR _ _ _ (lk_t hc (by omega) ht (by omega) hj)).trans d2.symm)

set_option maxHeartbeats 4000000 in
theorem RX_box0 {v u : Nat → Nat → Int32} {s z : Nat → Int32} {X : Nat} {x : Int32} (hX : X < 6) (hx : 0 ≤ x.toInt ∧ x.toInt ≤ 100) (hu : ∀ k j : Nat, u k j = if k = 31 + 15 * X ∧ j = 0 then x else v k j) (hs : ∀ n : Nat, z n = if n = 74 + 2 * X then x else s n) (h : RX 13 v s) : RX 13 u z := by
  intro c hc hac
  have a2 : z 2 = s 2 := by rw [hs, if_neg (by omega)]
  have hh := h c hc (by rw [a2] at hac; exact hac)
  by_cases hq : c = X
  · subst hq
    have g0 : u (13 + 16 + 15 * c) 1 = v (13 + 16 + 15 * c) 1 := by rw [hu, if_neg (by omega)]
    have g1 : u (13 + 18 + 15 * c) 0 = x := by rw [hu, if_pos (by omega)]
    have g2 : u (13 + 18 + 15 * c) 1 = v (13 + 18 + 15 * c) 1 := by rw [hu, if_neg (by omega)]
    have g3 : z (34 + 7 * c) = s (34 + 7 * c) := by rw [hs, if_neg (by omega)]
    have g4 : z (35 + 7 * c) = s (35 + 7 * c) := by rw [hs, if_neg (by omega)]
    have g5 : z (74 + 2 * c) = x := by rw [hs, if_pos (by omega)]
    have g6 : z (75 + 2 * c) = s (75 + 2 * c) := by rw [hs, if_neg (by omega)]
    rw [g0, g1, g2, g3, g4, g5, g6]
    obtain ⟨r1, r2, r3, r4⟩ := hh
    exact ⟨r1, r2, r3, fun q => ⟨Or.inr ⟨hx.1, hx.2, rfl⟩, (r4 q).2⟩⟩
  · have d1 : u (13 + 16 + 15 * c) 1 = v (13 + 16 + 15 * c) 1 := by rw [hu, if_neg (by omega)]
    have d2 : u (13 + 18 + 15 * c) 0 = v (13 + 18 + 15 * c) 0 := by rw [hu, if_neg (by omega)]
    have d3 : u (13 + 18 + 15 * c) 1 = v (13 + 18 + 15 * c) 1 := by rw [hu, if_neg (by omega)]
    have f0 : z (34 + 7 * c) = s (34 + 7 * c) := by rw [hs, if_neg (by omega)]
    have f1 : z (35 + 7 * c) = s (35 + 7 * c) := by rw [hs, if_neg (by omega)]
    have f2 : z (74 + 2 * c) = s (74 + 2 * c) := by rw [hs, if_neg (by omega)]
    have f3 : z (75 + 2 * c) = s (75 + 2 * c) := by rw [hs, if_neg (by omega)]
    rw [d1, d2, d3, f0, f1, f2, f3]
    exact hh

set_option maxHeartbeats 4000000 in
theorem RX_no0 {v u : Nat → Nat → Int32} {s z : Nat → Int32} {X R : Nat} {x y g a : Int32} (hX : X < 6) (hR5 : R < 5) (hu : ∀ k j : Nat, u k j = if k = 31 + 15 * X ∧ j = 1 then -1 else if k = 31 + 15 * X ∧ j = 0 then -1 else if k = 29 + 15 * X ∧ j = 2 then y else if k = 33 + 15 * X + 1 ∧ j = R then g else if k = 33 + 15 * X + 0 ∧ j = R then a else if k = 31 + 15 * X ∧ j = 0 then x else v k j) (hs : ∀ n : Nat, z n = if n = 75 + 2 * X then -5 else if n = 74 + 2 * X then -5 else if n = 36 + 7 * X then y else if n = 87 + 10 * X + 2 * R then g else if n = 86 + 10 * X + 2 * R then a else if n = 74 + 2 * X then x else s n) (h : RX 13 v s) : RX 13 u z := by
  intro c hc hac
  have a2 : z 2 = s 2 := by rw [hs, if_neg (by omega), if_neg (by omega), if_neg (by omega), if_neg (by omega), if_neg (by omega), if_neg (by omega)]
  have hh := h c hc (by rw [a2] at hac; exact hac)
  by_cases hq : c = X
  · subst hq
    have g0 : u (13 + 16 + 15 * c) 1 = v (13 + 16 + 15 * c) 1 := by rw [hu, if_neg (by omega), if_neg (by omega), if_neg (by omega), if_neg (by omega), if_neg (by omega), if_neg (by omega)]
    have g1 : u (13 + 18 + 15 * c) 0 = -1 := by rw [hu, if_neg (by omega), if_pos (by omega)]
    have g2 : u (13 + 18 + 15 * c) 1 = -1 := by rw [hu, if_pos (by omega)]
    have g3 : z (34 + 7 * c) = s (34 + 7 * c) := by rw [hs, if_neg (by omega), if_neg (by omega), if_neg (by omega), if_neg (by omega), if_neg (by omega), if_neg (by omega)]
    have g4 : z (35 + 7 * c) = s (35 + 7 * c) := by rw [hs, if_neg (by omega), if_neg (by omega), if_neg (by omega), if_neg (by omega), if_neg (by omega), if_neg (by omega)]
    have g5 : z (74 + 2 * c) = -5 := by rw [hs, if_neg (by omega), if_pos (by omega)]
    have g6 : z (75 + 2 * c) = -5 := by rw [hs, if_pos (by omega)]
    rw [g0, g1, g2, g3, g4, g5, g6]
    obtain ⟨r1, r2, r3, r4⟩ := hh
    exact ⟨r1, r2, r3, fun q => ⟨Or.inl ⟨by decide, by decide⟩, Or.inl ⟨by decide, by decide⟩⟩⟩
  · have d1 : u (13 + 16 + 15 * c) 1 = v (13 + 16 + 15 * c) 1 := by rw [hu, if_neg (by omega), if_neg (by omega), if_neg (by omega), if_neg (by omega), if_neg (by omega), if_neg (by omega)]
    have d2 : u (13 + 18 + 15 * c) 0 = v (13 + 18 + 15 * c) 0 := by rw [hu, if_neg (by omega), if_neg (by omega), if_neg (by omega), if_neg (by omega), if_neg (by omega), if_neg (by omega)]
    have d3 : u (13 + 18 + 15 * c) 1 = v (13 + 18 + 15 * c) 1 := by rw [hu, if_neg (by omega), if_neg (by omega), if_neg (by omega), if_neg (by omega), if_neg (by omega), if_neg (by omega)]
    have f0 : z (34 + 7 * c) = s (34 + 7 * c) := by rw [hs, if_neg (by omega), if_neg (by omega), if_neg (by omega), if_neg (by omega), if_neg (by omega), if_neg (by omega)]
    have f1 : z (35 + 7 * c) = s (35 + 7 * c) := by rw [hs, if_neg (by omega), if_neg (by omega), if_neg (by omega), if_neg (by omega), if_neg (by omega), if_neg (by omega)]
    have f2 : z (74 + 2 * c) = s (74 + 2 * c) := by rw [hs, if_neg (by omega), if_neg (by omega), if_neg (by omega), if_neg (by omega), if_neg (by omega), if_neg (by omega)]
    have f3 : z (75 + 2 * c) = s (75 + 2 * c) := by rw [hs, if_neg (by omega), if_neg (by omega), if_neg (by omega), if_neg (by omega), if_neg (by omega), if_neg (by omega)]
    rw [d1, d2, d3, f0, f1, f2, f3]
    exact hh

set_option maxHeartbeats 4000000 in
theorem RX_yes0 {v u : Nat → Nat → Int32} {s z : Nat → Int32} {X R : Nat} {x y g a w : Int32} (hX : X < 6) (hR5 : R < 5) (hu : ∀ k j : Nat, u k j = if k = 29 + 15 * X ∧ j = 1 then w else if k = 29 + 15 * X ∧ j = 0 then 1 else if k = 29 + 15 * X ∧ j = 2 then y else if k = 33 + 15 * X + 1 ∧ j = R then g else if k = 33 + 15 * X + 0 ∧ j = R then a else if k = 31 + 15 * X ∧ j = 0 then x else v k j) (hs : ∀ n : Nat, z n = if n = 35 + 7 * X then w else if n = 34 + 7 * X then 1 else if n = 75 + 2 * X then -5 else if n = 74 + 2 * X then -5 else if n = 36 + 7 * X then y else if n = 87 + 10 * X + 2 * R then g else if n = 86 + 10 * X + 2 * R then a else if n = 74 + 2 * X then x else s n) (h : RX 13 v s) : RX 13 u z := by
  intro c hc hac
  have a2 : z 2 = s 2 := by rw [hs, if_neg (by omega), if_neg (by omega), if_neg (by omega), if_neg (by omega), if_neg (by omega), if_neg (by omega), if_neg (by omega), if_neg (by omega)]
  have hh := h c hc (by rw [a2] at hac; exact hac)
  by_cases hq : c = X
  · subst hq
    have g0 : u (13 + 16 + 15 * c) 1 = w := by rw [hu, if_pos (by omega)]
    have g1 : u (13 + 18 + 15 * c) 0 = x := by rw [hu, if_neg (by omega), if_neg (by omega), if_neg (by omega), if_neg (by omega), if_neg (by omega), if_pos (by omega)]
    have g2 : u (13 + 18 + 15 * c) 1 = v (13 + 18 + 15 * c) 1 := by rw [hu, if_neg (by omega), if_neg (by omega), if_neg (by omega), if_neg (by omega), if_neg (by omega), if_neg (by omega)]
    have g3 : z (34 + 7 * c) = 1 := by rw [hs, if_neg (by omega), if_pos (by omega)]
    have g4 : z (35 + 7 * c) = w := by rw [hs, if_pos (by omega)]
    have g5 : z (74 + 2 * c) = -5 := by rw [hs, if_neg (by omega), if_neg (by omega), if_neg (by omega), if_pos (by omega)]
    have g6 : z (75 + 2 * c) = -5 := by rw [hs, if_neg (by omega), if_neg (by omega), if_pos (by omega)]
    rw [g0, g1, g2, g3, g4, g5, g6]
    have k1 : (1 : Int32).toInt = 1 := by decide
    exact ⟨by omega, fun _ => rfl, fun q => absurd k1 q, fun q => absurd q (by omega)⟩
  · have d1 : u (13 + 16 + 15 * c) 1 = v (13 + 16 + 15 * c) 1 := by rw [hu, if_neg (by omega), if_neg (by omega), if_neg (by omega), if_neg (by omega), if_neg (by omega), if_neg (by omega)]
    have d2 : u (13 + 18 + 15 * c) 0 = v (13 + 18 + 15 * c) 0 := by rw [hu, if_neg (by omega), if_neg (by omega), if_neg (by omega), if_neg (by omega), if_neg (by omega), if_neg (by omega)]
    have d3 : u (13 + 18 + 15 * c) 1 = v (13 + 18 + 15 * c) 1 := by rw [hu, if_neg (by omega), if_neg (by omega), if_neg (by omega), if_neg (by omega), if_neg (by omega), if_neg (by omega)]
    have f0 : z (34 + 7 * c) = s (34 + 7 * c) := by rw [hs, if_neg (by omega), if_neg (by omega), if_neg (by omega), if_neg (by omega), if_neg (by omega), if_neg (by omega), if_neg (by omega), if_neg (by omega)]
    have f1 : z (35 + 7 * c) = s (35 + 7 * c) := by rw [hs, if_neg (by omega), if_neg (by omega), if_neg (by omega), if_neg (by omega), if_neg (by omega), if_neg (by omega), if_neg (by omega), if_neg (by omega)]
    have f2 : z (74 + 2 * c) = s (74 + 2 * c) := by rw [hs, if_neg (by omega), if_neg (by omega), if_neg (by omega), if_neg (by omega), if_neg (by omega), if_neg (by omega), if_neg (by omega), if_neg (by omega)]
    have f3 : z (75 + 2 * c) = s (75 + 2 * c) := by rw [hs, if_neg (by omega), if_neg (by omega), if_neg (by omega), if_neg (by omega), if_neg (by omega), if_neg (by omega), if_neg (by omega), if_neg (by omega)]
    rw [d1, d2, d3, f0, f1, f2, f3]
    exact hh

set_option maxHeartbeats 4000000 in
theorem T_offer_0 {n r r2 x0 x1 : Int32} {v u v2 u2 : Nat → Nat → Int32} (hI : Iv v) (hQ : Ir v2) (h : RR n v v2) (p : (¬ ((0 ≤ x0.toInt ∧ x0.toInt < (v 13 2).toInt) ∧ 0 ≤ x1.toInt ∧ x1.toInt ≤ 100) → r = -1 ∧ u = v) ∧ (((0 ≤ x0.toInt ∧ x0.toInt < (v 13 2).toInt) ∧ 0 ≤ x1.toInt ∧ x1.toInt ≤ 100) ∧ (v (29 + 15 * x0.toNatClampNeg) 0).toInt ≠ 0 → r = -4 ∧ u = v) ∧ (((0 ≤ x0.toInt ∧ x0.toInt < (v 13 2).toInt) ∧ 0 ≤ x1.toInt ∧ x1.toInt ≤ 100) ∧ (v (29 + 15 * x0.toNatClampNeg) 0).toInt = 0 ∧ (v (31 + 15 * x0.toNatClampNeg) 0).toInt ≠ -1 → r = -3 ∧ u = v) ∧ (((0 ≤ x0.toInt ∧ x0.toInt < (v 13 2).toInt) ∧ 0 ≤ x1.toInt ∧ x1.toInt ≤ 100) ∧ (v (29 + 15 * x0.toNatClampNeg) 0).toInt = 0 ∧ (v (31 + 15 * x0.toNatClampNeg) 0).toInt = -1 ∧ 5 ≤ (v (29 + 15 * x0.toNatClampNeg) 2).toInt → r = -2 ∧ u = v) ∧ (((0 ≤ x0.toInt ∧ x0.toInt < (v 13 2).toInt) ∧ 0 ≤ x1.toInt ∧ x1.toInt ≤ 100) ∧ (v (29 + 15 * x0.toNatClampNeg) 0).toInt = 0 ∧ (v (31 + 15 * x0.toNatClampNeg) 0).toInt = -1 ∧ (v (29 + 15 * x0.toNatClampNeg) 2).toInt < 5 ∧ (v (31 + 15 * x0.toNatClampNeg) 1).toInt = -1 → r = 0 ∧ (∀ k j : Nat, u k j = if k = 31 + 15 * x0.toNatClampNeg ∧ j = 0 then x1 else v k j)) ∧ (((0 ≤ x0.toInt ∧ x0.toInt < (v 13 2).toInt) ∧ 0 ≤ x1.toInt ∧ x1.toInt ≤ 100) ∧ (v (29 + 15 * x0.toNatClampNeg) 0).toInt = 0 ∧ (v (31 + 15 * x0.toNatClampNeg) 0).toInt = -1 ∧ (v (29 + 15 * x0.toNatClampNeg) 2).toInt < 5 ∧ (v (31 + 15 * x0.toNatClampNeg) 1).toInt ≠ -1 ∧ (v (31 + 15 * x0.toNatClampNeg) 1).toInt < x1.toInt → r = 2 ∧ (∀ k j : Nat, u k j = if k = 31 + 15 * x0.toNatClampNeg ∧ j = 1 then -1 else if k = 31 + 15 * x0.toNatClampNeg ∧ j = 0 then -1 else if k = 29 + 15 * x0.toNatClampNeg ∧ j = 2 then v (29 + 15 * x0.toNatClampNeg) 2 + 1 else if k = 33 + 15 * x0.toNatClampNeg + 1 ∧ j = (v (29 + 15 * x0.toNatClampNeg) 2).toNatClampNeg then v (31 + 15 * x0.toNatClampNeg) 1 else if k = 33 + 15 * x0.toNatClampNeg + 0 ∧ j = (v (29 + 15 * x0.toNatClampNeg) 2).toNatClampNeg then x1 else if k = 31 + 15 * x0.toNatClampNeg ∧ j = 0 then x1 else v k j)) ∧ (((0 ≤ x0.toInt ∧ x0.toInt < (v 13 2).toInt) ∧ 0 ≤ x1.toInt ∧ x1.toInt ≤ 100) ∧ (v (29 + 15 * x0.toNatClampNeg) 0).toInt = 0 ∧ (v (31 + 15 * x0.toNatClampNeg) 0).toInt = -1 ∧ (v (29 + 15 * x0.toNatClampNeg) 2).toInt < 5 ∧ (v (31 + 15 * x0.toNatClampNeg) 1).toInt ≠ -1 ∧ x1.toInt ≤ (v (31 + 15 * x0.toNatClampNeg) 1).toInt → r = 1 ∧ (∀ k j : Nat, u k j = if k = 29 + 15 * x0.toNatClampNeg ∧ j = 1 then (x1 + v (31 + 15 * x0.toNatClampNeg) 1) / 2 else if k = 29 + 15 * x0.toNatClampNeg ∧ j = 0 then 1 else if k = 29 + 15 * x0.toNatClampNeg ∧ j = 2 then v (29 + 15 * x0.toNatClampNeg) 2 + 1 else if k = 33 + 15 * x0.toNatClampNeg + 1 ∧ j = (v (29 + 15 * x0.toNatClampNeg) 2).toNatClampNeg then v (31 + 15 * x0.toNatClampNeg) 1 else if k = 33 + 15 * x0.toNatClampNeg + 0 ∧ j = (v (29 + 15 * x0.toNatClampNeg) 2).toNatClampNeg then x1 else if k = 31 + 15 * x0.toNatClampNeg ∧ j = 0 then x1 else v k j))) (q : (¬ ((0 ≤ x0.toInt ∧ x0.toInt < (v2 1 2).toInt) ∧ 0 ≤ x1.toInt ∧ x1.toInt ≤ 100) → r2 = -1 ∧ u2 = v2) ∧ (((0 ≤ x0.toInt ∧ x0.toInt < (v2 1 2).toInt) ∧ 0 ≤ x1.toInt ∧ x1.toInt ≤ 100) ∧ (v2 1 (34 + 7 * x0.toNatClampNeg)).toInt ≠ 0 → r2 = -4 ∧ u2 = v2) ∧ (((0 ≤ x0.toInt ∧ x0.toInt < (v2 1 2).toInt) ∧ 0 ≤ x1.toInt ∧ x1.toInt ≤ 100) ∧ (v2 1 (34 + 7 * x0.toNatClampNeg)).toInt = 0 ∧ 0 ≤ (v2 1 (74 + 2 * x0.toNatClampNeg)).toInt → r2 = -3 ∧ u2 = v2) ∧ (((0 ≤ x0.toInt ∧ x0.toInt < (v2 1 2).toInt) ∧ 0 ≤ x1.toInt ∧ x1.toInt ≤ 100) ∧ (v2 1 (34 + 7 * x0.toNatClampNeg)).toInt = 0 ∧ (v2 1 (74 + 2 * x0.toNatClampNeg)).toInt < 0 ∧ (v2 1 (36 + 7 * x0.toNatClampNeg)).toInt = 5 → r2 = -2 ∧ u2 = v2) ∧ (((0 ≤ x0.toInt ∧ x0.toInt < (v2 1 2).toInt) ∧ 0 ≤ x1.toInt ∧ x1.toInt ≤ 100) ∧ (v2 1 (34 + 7 * x0.toNatClampNeg)).toInt = 0 ∧ (v2 1 (74 + 2 * x0.toNatClampNeg)).toInt < 0 ∧ (v2 1 (36 + 7 * x0.toNatClampNeg)).toInt ≠ 5 ∧ (v2 1 (75 + 2 * x0.toNatClampNeg)).toInt < 0 → r2 = 0 ∧ (∀ n : Nat, u2 1 n = if n = 74 + 2 * x0.toNatClampNeg then x1 else v2 1 n) ∧ (∀ k : Nat, k ≠ 1 → u2 k = v2 k)) ∧ (((0 ≤ x0.toInt ∧ x0.toInt < (v2 1 2).toInt) ∧ 0 ≤ x1.toInt ∧ x1.toInt ≤ 100) ∧ (v2 1 (34 + 7 * x0.toNatClampNeg)).toInt = 0 ∧ (v2 1 (74 + 2 * x0.toNatClampNeg)).toInt < 0 ∧ (v2 1 (36 + 7 * x0.toNatClampNeg)).toInt ≠ 5 ∧ 0 ≤ (v2 1 (75 + 2 * x0.toNatClampNeg)).toInt ∧ (v2 1 (75 + 2 * x0.toNatClampNeg)).toInt < x1.toInt → r2 = 2 ∧ (∀ n : Nat, u2 1 n = if n = 75 + 2 * x0.toNatClampNeg then -5 else if n = 74 + 2 * x0.toNatClampNeg then -5 else if n = 36 + 7 * x0.toNatClampNeg then v2 1 (36 + 7 * x0.toNatClampNeg) + 1 else if n = 87 + 10 * x0.toNatClampNeg + 2 * (v2 1 (36 + 7 * x0.toNatClampNeg)).toNatClampNeg then v2 1 (75 + 2 * x0.toNatClampNeg) else if n = 86 + 10 * x0.toNatClampNeg + 2 * (v2 1 (36 + 7 * x0.toNatClampNeg)).toNatClampNeg then x1 else if n = 74 + 2 * x0.toNatClampNeg then x1 else v2 1 n) ∧ (∀ k : Nat, k ≠ 1 → u2 k = v2 k)) ∧ (((0 ≤ x0.toInt ∧ x0.toInt < (v2 1 2).toInt) ∧ 0 ≤ x1.toInt ∧ x1.toInt ≤ 100) ∧ (v2 1 (34 + 7 * x0.toNatClampNeg)).toInt = 0 ∧ (v2 1 (74 + 2 * x0.toNatClampNeg)).toInt < 0 ∧ (v2 1 (36 + 7 * x0.toNatClampNeg)).toInt ≠ 5 ∧ 0 ≤ (v2 1 (75 + 2 * x0.toNatClampNeg)).toInt ∧ x1.toInt ≤ (v2 1 (75 + 2 * x0.toNatClampNeg)).toInt → r2 = 1 ∧ (∀ n : Nat, u2 1 n = if n = 35 + 7 * x0.toNatClampNeg then (x1 + v2 1 (75 + 2 * x0.toNatClampNeg)) / 2 else if n = 34 + 7 * x0.toNatClampNeg then 1 else if n = 75 + 2 * x0.toNatClampNeg then -5 else if n = 74 + 2 * x0.toNatClampNeg then -5 else if n = 36 + 7 * x0.toNatClampNeg then v2 1 (36 + 7 * x0.toNatClampNeg) + 1 else if n = 87 + 10 * x0.toNatClampNeg + 2 * (v2 1 (36 + 7 * x0.toNatClampNeg)).toNatClampNeg then v2 1 (75 + 2 * x0.toNatClampNeg) else if n = 86 + 10 * x0.toNatClampNeg + 2 * (v2 1 (36 + 7 * x0.toNatClampNeg)).toNatClampNeg then x1 else if n = 74 + 2 * x0.toNatClampNeg then x1 else v2 1 n) ∧ (∀ k : Nat, k ≠ 1 → u2 k = v2 k))) : r = r2 ∧ RR n u u2 := by
  have e0 : v 13 0 = v2 1 0 := h.1.1 _ _ _ (lk_a (by decide))
  have e1 : v 13 1 = v2 1 1 := h.1.1 _ _ _ (lk_a (by decide))
  have e2 : v 13 2 = v2 1 2 := h.1.1 _ _ _ (lk_a (by decide))
  have e3 : v 13 3 = v2 1 3 := h.1.1 _ _ _ (lk_a (by decide))
  have hb0 := hQ 1 0 8 (by decide)
  have hb1 := hQ 1 1 4 (by decide)
  have hb2 := hQ 1 2 6 (by decide)
  have hb3 := hQ 1 3 6 (by decide)
  rw [e2] at p
  by_cases hC : (0 ≤ x0.toInt ∧ x0.toInt < (v2 1 2).toInt) ∧ 0 ≤ x1.toInt ∧ x1.toInt ≤ 100
  · have zX := t_nn (x := x0) (by omega)
    have hX : x0.toNatClampNeg < 6 := by omega
    have ha : (x0.toNatClampNeg : Int) < (v2 1 2).toInt := by omega
    have ev : v (29 + 15 * x0.toNatClampNeg) 0 = v2 1 (34 + 7 * x0.toNatClampNeg) := h.1.1 _ _ _ (lk_c0 hX ha)
    have ew : v (29 + 15 * x0.toNatClampNeg) 2 = v2 1 (36 + 7 * x0.toNatClampNeg) := h.1.1 _ _ _ (lk_c2 hX ha)
    rw [ev, ew] at p
    have hb := hQ 1 (36 + 7 * x0.toNatClampNeg) 5 (bS_c (by omega) (by omega))
    by_cases hD : (v2 1 (34 + 7 * x0.toNatClampNeg)).toInt = 0
    · obtain ⟨hx0, hx1⟩ := (h.1.2.1 _ hX ha).2.2.2 hD
      have hbx : bxr (v (31 + 15 * x0.toNatClampNeg) 0) (v2 1 (74 + 2 * x0.toNatClampNeg)) := hx0
      have hbo : bxr (v (31 + 15 * x0.toNatClampNeg) 1) (v2 1 (75 + 2 * x0.toNatClampNeg)) := hx1
      rcases hbx with ⟨t1, t2⟩ | ⟨t1, t2, t3⟩
      · by_cases hE : (v2 1 (36 + 7 * x0.toNatClampNeg)).toInt = 5
        · obtain ⟨p1, p2⟩ := p.2.2.2.1 ⟨hC, hD, t1, by omega⟩
          obtain ⟨q1, q2⟩ := q.2.2.2.1 ⟨hC, hD, t2, hE⟩
          rw [p1, q1, p2, q2]
          exact ⟨rfl, h⟩
        · rcases hbo with ⟨o1, o2⟩ | ⟨o1, o2, o3⟩
          · obtain ⟨p1, p2⟩ := p.2.2.2.2.1 ⟨hC, hD, t1, by omega, o1⟩
            obtain ⟨q1, q2, q3⟩ := q.2.2.2.2.1 ⟨hC, hD, t2, hE, o2⟩
            exact ⟨by rw [p1, q1], h.wr q3 (funext fun j => by rw [p2, if_neg (by omega)]) (fun k hk => funext fun j => by rw [p2, if_neg (by omega)]) ⟨RL_box0 hX p2 q2 h.1.1, RX_box0 hX hC.2 p2 q2 h.1.2.1, h.1.2.2.1.cg (by rw [q2, if_neg (by omega)]) (by rw [q2, if_neg (by omega)]) (fun m hm => by rw [q2, if_neg (by omega)]), h.1.2.2.2.cg hb3.2 (by rw [q2, if_neg (by omega)]) (by rw [q2, if_neg (by omega)]) (fun n h1 h2 => by rw [q2, if_neg (by omega)]) (fun c hc => by rw [p2, if_neg (by omega)])⟩⟩
          · rw [o3] at p
            have zR := t_nn (x := v2 1 (36 + 7 * x0.toNatClampNeg)) (by omega)
            have k1 : (1 : Int32).toInt = 1 := by decide
            have hx : (v2 1 (36 + 7 * x0.toNatClampNeg) + 1).toInt = (v2 1 (36 + 7 * x0.toNatClampNeg)).toInt + 1 := by rw [t_add (by rw [k1]; omega), k1]
            rcases Int.lt_or_le (v2 1 (75 + 2 * x0.toNatClampNeg)).toInt x1.toInt with hL | hL
            · obtain ⟨p1, p2⟩ := p.2.2.2.2.2.1 ⟨hC, hD, t1, by omega, by omega, hL⟩
              obtain ⟨q1, q2, q3⟩ := q.2.2.2.2.2.1 ⟨hC, hD, t2, hE, o1, hL⟩
              exact ⟨by rw [p1, q1], h.wr q3 (funext fun j => by rw [p2, if_neg (by omega), if_neg (by omega), if_neg (by omega), if_neg (by omega), if_neg (by omega), if_neg (by omega)]) (fun k hk => funext fun j => by rw [p2, if_neg (by omega), if_neg (by omega), if_neg (by omega), if_neg (by omega), if_neg (by omega), if_neg (by omega)]) ⟨RL_no0 hX (by omega) (by omega) hx p2 q2 h.1.1, RX_no0 hX (by omega) p2 q2 h.1.2.1, h.1.2.2.1.cg (by rw [q2, if_neg (by omega), if_neg (by omega), if_neg (by omega), if_neg (by omega), if_neg (by omega), if_neg (by omega)]) (by rw [q2, if_neg (by omega), if_neg (by omega), if_neg (by omega), if_neg (by omega), if_neg (by omega), if_neg (by omega)]) (fun m hm => by rw [q2, if_neg (by omega), if_neg (by omega), if_neg (by omega), if_neg (by omega), if_neg (by omega), if_neg (by omega)]), h.1.2.2.2.cg hb3.2 (by rw [q2, if_neg (by omega), if_neg (by omega), if_neg (by omega), if_neg (by omega), if_neg (by omega), if_neg (by omega)]) (by rw [q2, if_neg (by omega), if_neg (by omega), if_neg (by omega), if_neg (by omega), if_neg (by omega), if_neg (by omega)]) (fun n h1 h2 => by rw [q2, if_neg (by omega), if_neg (by omega), if_neg (by omega), if_neg (by omega), if_neg (by omega), if_neg (by omega)]) (fun c hc => by rw [p2, if_neg (by omega), if_neg (by omega), if_neg (by omega), if_neg (by omega), if_neg (by omega), if_neg (by omega)])⟩⟩
            · obtain ⟨p1, p2⟩ := p.2.2.2.2.2.2 ⟨hC, hD, t1, by omega, by omega, hL⟩
              obtain ⟨q1, q2, q3⟩ := q.2.2.2.2.2.2 ⟨hC, hD, t2, hE, o1, hL⟩
              exact ⟨by rw [p1, q1], h.wr q3 (funext fun j => by rw [p2, if_neg (by omega), if_neg (by omega), if_neg (by omega), if_neg (by omega), if_neg (by omega), if_neg (by omega)]) (fun k hk => funext fun j => by rw [p2, if_neg (by omega), if_neg (by omega), if_neg (by omega), if_neg (by omega), if_neg (by omega), if_neg (by omega)]) ⟨RL_yes0 hX (by omega) (by omega) hx p2 q2 h.1.1, RX_yes0 hX (by omega) p2 q2 h.1.2.1, h.1.2.2.1.cg (by rw [q2, if_neg (by omega), if_neg (by omega), if_neg (by omega), if_neg (by omega), if_neg (by omega), if_neg (by omega), if_neg (by omega), if_neg (by omega)]) (by rw [q2, if_neg (by omega), if_neg (by omega), if_neg (by omega), if_neg (by omega), if_neg (by omega), if_neg (by omega), if_neg (by omega), if_neg (by omega)]) (fun m hm => by rw [q2, if_neg (by omega), if_neg (by omega), if_neg (by omega), if_neg (by omega), if_neg (by omega), if_neg (by omega), if_neg (by omega), if_neg (by omega)]), h.1.2.2.2.cg hb3.2 (by rw [q2, if_neg (by omega), if_neg (by omega), if_neg (by omega), if_neg (by omega), if_neg (by omega), if_neg (by omega), if_neg (by omega), if_neg (by omega)]) (by rw [q2, if_neg (by omega), if_neg (by omega), if_neg (by omega), if_neg (by omega), if_neg (by omega), if_neg (by omega), if_neg (by omega), if_neg (by omega)]) (fun n h1 h2 => by rw [q2, if_neg (by omega), if_neg (by omega), if_neg (by omega), if_neg (by omega), if_neg (by omega), if_neg (by omega), if_neg (by omega), if_neg (by omega)]) (fun c hc => by rw [p2, if_neg (by omega), if_neg (by omega), if_neg (by omega), if_neg (by omega), if_neg (by omega), if_neg (by omega)])⟩⟩
      · rw [t3] at p
        obtain ⟨p1, p2⟩ := p.2.2.1 ⟨hC, hD, by omega⟩
        obtain ⟨q1, q2⟩ := q.2.2.1 ⟨hC, hD, t1⟩
        rw [p1, q1, p2, q2]
        exact ⟨rfl, h⟩
    · obtain ⟨p1, p2⟩ := p.2.1 ⟨hC, hD⟩
      obtain ⟨q1, q2⟩ := q.2.1 ⟨hC, hD⟩
      rw [p1, q1, p2, q2]
      exact ⟨rfl, h⟩
  · obtain ⟨p1, p2⟩ := p.1 hC
    obtain ⟨q1, q2⟩ := q.1 hC
    rw [p1, q1, p2, q2]
    exact ⟨rfl, h⟩

set_option maxHeartbeats 4000000 in
theorem RL_box1 {v u : Nat → Nat → Int32} {s z : Nat → Int32} {X : Nat} {x : Int32} (hX : X < 6) (hu : ∀ k j : Nat, u k j = if k = 31 + 15 * X ∧ j = 1 then x else v k j) (hs : ∀ n : Nat, z n = if n = 75 + 2 * X then x else s n) (hR : RLk 13 v s) : RLk 13 u z := by
  have A0 : (z 0).toInt = (s 0).toInt := by rw [hs, if_neg (by omega)]
  have A1 : (z 1).toInt = (s 1).toInt := by rw [hs, if_neg (by omega)]
  have A2 : (z 2).toInt = (s 2).toInt := by rw [hs, if_neg (by omega)]
  have A36 : ∀ c : Nat, c < 6 → (z (36 + 7 * c)).toInt = (s (36 + 7 * c)).toInt := fun c hc => by rw [hs, if_neg (by omega)]
  have A38 : ∀ c : Nat, c < 6 → (z (38 + 7 * c)).toInt = (s (38 + 7 * c)).toInt := fun c hc => by rw [hs, if_neg (by omega)]
  intro k j n h
  unfold lk at h
  rcases h with ⟨rfl, hj, rfl⟩ | ⟨p, hp, ha, hj, rfl, rfl⟩ | ⟨m, hm, ha, hj, rfl, rfl⟩ | ⟨m, hm, ha, rfl, rfl, rfl⟩ | ⟨c, hc, ha, rfl, rfl, rfl⟩ | ⟨c, hc, ha, rfl, rfl, rfl⟩ | ⟨c, hc, ha, rfl, rfl, rfl⟩ | ⟨c, hc, ha, rfl, rfl, rfl⟩ | ⟨c, hc, ha, hj, rfl, rfl⟩ | ⟨c, i, hc, ha, hi, hj, hr, rfl, rfl⟩ | ⟨c, i, hc, ha, hi, hj, rfl, rfl⟩ | ⟨c, t, hc, ha, ht, hr, hj, rfl, rfl⟩
  · have d1 : u (13) n = v (13) n := by rw [hu, if_neg (by omega)]
    have d2 : z (n) = s (n) := by rw [hs, if_neg (by omega)]
    exact d1.trans ((hR _ _ _ (lk_a hj)).trans d2.symm)
  · have d1 : u (13 + 4 + p) j = v (13 + 4 + p) j := by rw [hu, if_neg (by omega)]
    have d2 : z (4 + 2 * p + j) = s (4 + 2 * p + j) := by rw [hs, if_neg (by omega)]
    exact d1.trans ((hR _ _ _ (lk_p hp (by omega) hj)).trans d2.symm)
  · have d1 : u (13 + 12 + m) j = v (13 + 12 + m) j := by rw [hu, if_neg (by omega)]
    have d2 : z (20 + 2 * m + j) = s (20 + 2 * m + j) := by rw [hs, if_neg (by omega)]
    exact d1.trans ((hR _ _ _ (lk_m hm (by omega) hj)).trans d2.symm)
  · have d1 : u (13 + 12 + m) 2 = v (13 + 12 + m) 2 := by rw [hu, if_neg (by omega)]
    have d2 : z (28 + m) = s (28 + m) := by rw [hs, if_neg (by omega)]
    exact d1.trans ((hR _ _ _ (lk_k_ hm (by omega))).trans d2.symm)
  · have d1 : u (13 + 16 + 15 * c) 0 = v (13 + 16 + 15 * c) 0 := by rw [hu, if_neg (by omega)]
    have d2 : z (34 + 7 * c) = s (34 + 7 * c) := by rw [hs, if_neg (by omega)]
    exact d1.trans ((hR _ _ _ (lk_c0 hc (by omega))).trans d2.symm)
  · have d1 : u (13 + 16 + 15 * c) 2 = v (13 + 16 + 15 * c) 2 := by rw [hu, if_neg (by omega)]
    have d2 : z (36 + 7 * c) = s (36 + 7 * c) := by rw [hs, if_neg (by omega)]
    exact d1.trans ((hR _ _ _ (lk_c2 hc (by omega))).trans d2.symm)
  · have d1 : u (13 + 16 + 15 * c) 3 = v (13 + 16 + 15 * c) 3 := by rw [hu, if_neg (by omega)]
    have d2 : z (37 + 7 * c) = s (37 + 7 * c) := by rw [hs, if_neg (by omega)]
    exact d1.trans ((hR _ _ _ (lk_c3 hc (by omega))).trans d2.symm)
  · have d1 : u (13 + 16 + 15 * c) 5 = v (13 + 16 + 15 * c) 5 := by rw [hu, if_neg (by omega)]
    have d2 : z (38 + 7 * c) = s (38 + 7 * c) := by rw [hs, if_neg (by omega)]
    exact d1.trans ((hR _ _ _ (lk_c5 hc (by omega))).trans d2.symm)
  · have d1 : u (13 + 17 + 15 * c) j = v (13 + 17 + 15 * c) j := by rw [hu, if_neg (by omega)]
    have d2 : z (32 + 7 * c + j) = s (32 + 7 * c + j) := by rw [hs, if_neg (by omega)]
    exact d1.trans ((hR _ _ _ (lk_q hc (by omega) hj)).trans d2.symm)
  · have a36 := A36 c hc
    have d1 : u (13 + 20 + 15 * c + i) j = v (13 + 20 + 15 * c + i) j := by rw [hu, if_neg (by omega)]
    have d2 : z (86 + 10 * c + 2 * j + i) = s (86 + 10 * c + 2 * j + i) := by rw [hs, if_neg (by omega)]
    exact d1.trans ((hR _ _ _ (lk_o hc (by omega) hi hj (by omega))).trans d2.symm)
  · have d1 : u (13 + 23 + 15 * c + i) j = v (13 + 23 + 15 * c + i) j := by rw [hu, if_neg (by omega)]
    have d2 : z (308 + 48 * c + 24 * i + j) = s (308 + 48 * c + 24 * i + j) := by rw [hs, if_neg (by omega)]
    exact d1.trans ((hR _ _ _ (lk_l hc (by omega) hi hj)).trans d2.symm)
  · have a38 := A38 c hc
    have d1 : u (13 + 26 + 15 * c + t) j = v (13 + 26 + 15 * c + t) j := by rw [hu, if_neg (by omega)]
    have d2 : z (158 + 25 * c + 5 * t + j) = s (158 + 25 * c + 5 * t + j) := by rw [hs, if_neg (by omega)]
    exact d1.trans ((hR _ _ _ (lk_t hc (by omega) ht (by omega) hj)).trans d2.symm)

set_option maxHeartbeats 4000000 in
theorem RL_no1 {v u : Nat → Nat → Int32} {s z : Nat → Int32} {X R : Nat} {x y g a : Int32} (hX : X < 6) (hR5 : R < 5) (hn : (s (36 + 7 * X)).toInt = (R : Int)) (hx : y.toInt = (s (36 + 7 * X)).toInt + 1) (hu : ∀ k j : Nat, u k j = if k = 31 + 15 * X ∧ j = 1 then -1 else if k = 31 + 15 * X ∧ j = 0 then -1 else if k = 29 + 15 * X ∧ j = 2 then y else if k = 33 + 15 * X + 1 ∧ j = R then g else if k = 33 + 15 * X + 0 ∧ j = R then a else if k = 31 + 15 * X ∧ j = 1 then x else v k j) (hs : ∀ n : Nat, z n = if n = 75 + 2 * X then -5 else if n = 74 + 2 * X then -5 else if n = 36 + 7 * X then y else if n = 87 + 10 * X + 2 * R then g else if n = 86 + 10 * X + 2 * R then a else if n = 75 + 2 * X then x else s n) (hR : RLk 13 v s) : RLk 13 u z := by
  have A0 : (z 0).toInt = (s 0).toInt := by rw [hs, if_neg (by omega), if_neg (by omega), if_neg (by omega), if_neg (by omega), if_neg (by omega), if_neg (by omega)]
  have A1 : (z 1).toInt = (s 1).toInt := by rw [hs, if_neg (by omega), if_neg (by omega), if_neg (by omega), if_neg (by omega), if_neg (by omega), if_neg (by omega)]
  have A2 : (z 2).toInt = (s 2).toInt := by rw [hs, if_neg (by omega), if_neg (by omega), if_neg (by omega), if_neg (by omega), if_neg (by omega), if_neg (by omega)]
  have A36 : ∀ c : Nat, c < 6 → (z (36 + 7 * c)).toInt = (s (36 + 7 * c)).toInt ∨ (c = X ∧ (z (36 + 7 * c)).toInt = (s (36 + 7 * c)).toInt + 1) := fun c hc => by by_cases q : c = X; subst q; refine Or.inr ⟨rfl, ?_⟩; rw [hs, if_neg (by omega), if_neg (by omega), if_pos rfl]; exact hx; refine Or.inl ?_; rw [hs, if_neg (by omega), if_neg (by omega), if_neg (by omega), if_neg (by omega), if_neg (by omega), if_neg (by omega)]
  have A38 : ∀ c : Nat, c < 6 → (z (38 + 7 * c)).toInt = (s (38 + 7 * c)).toInt := fun c hc => by rw [hs, if_neg (by omega), if_neg (by omega), if_neg (by omega), if_neg (by omega), if_neg (by omega), if_neg (by omega)]
  intro k j n h
  unfold lk at h
  rcases h with ⟨rfl, hj, rfl⟩ | ⟨p, hp, ha, hj, rfl, rfl⟩ | ⟨m, hm, ha, hj, rfl, rfl⟩ | ⟨m, hm, ha, rfl, rfl, rfl⟩ | ⟨c, hc, ha, rfl, rfl, rfl⟩ | ⟨c, hc, ha, rfl, rfl, rfl⟩ | ⟨c, hc, ha, rfl, rfl, rfl⟩ | ⟨c, hc, ha, rfl, rfl, rfl⟩ | ⟨c, hc, ha, hj, rfl, rfl⟩ | ⟨c, i, hc, ha, hi, hj, hr, rfl, rfl⟩ | ⟨c, i, hc, ha, hi, hj, rfl, rfl⟩ | ⟨c, t, hc, ha, ht, hr, hj, rfl, rfl⟩
  · have d1 : u (13) n = v (13) n := by rw [hu, if_neg (by omega), if_neg (by omega), if_neg (by omega), if_neg (by omega), if_neg (by omega), if_neg (by omega)]
    have d2 : z (n) = s (n) := by rw [hs, if_neg (by omega), if_neg (by omega), if_neg (by omega), if_neg (by omega), if_neg (by omega), if_neg (by omega)]
    exact d1.trans ((hR _ _ _ (lk_a hj)).trans d2.symm)
  · have d1 : u (13 + 4 + p) j = v (13 + 4 + p) j := by rw [hu, if_neg (by omega), if_neg (by omega), if_neg (by omega), if_neg (by omega), if_neg (by omega), if_neg (by omega)]
    have d2 : z (4 + 2 * p + j) = s (4 + 2 * p + j) := by rw [hs, if_neg (by omega), if_neg (by omega), if_neg (by omega), if_neg (by omega), if_neg (by omega), if_neg (by omega)]
    exact d1.trans ((hR _ _ _ (lk_p hp (by omega) hj)).trans d2.symm)
  · have d1 : u (13 + 12 + m) j = v (13 + 12 + m) j := by rw [hu, if_neg (by omega), if_neg (by omega), if_neg (by omega), if_neg (by omega), if_neg (by omega), if_neg (by omega)]
    have d2 : z (20 + 2 * m + j) = s (20 + 2 * m + j) := by rw [hs, if_neg (by omega), if_neg (by omega), if_neg (by omega), if_neg (by omega), if_neg (by omega), if_neg (by omega)]
    exact d1.trans ((hR _ _ _ (lk_m hm (by omega) hj)).trans d2.symm)
  · have d1 : u (13 + 12 + m) 2 = v (13 + 12 + m) 2 := by rw [hu, if_neg (by omega), if_neg (by omega), if_neg (by omega), if_neg (by omega), if_neg (by omega), if_neg (by omega)]
    have d2 : z (28 + m) = s (28 + m) := by rw [hs, if_neg (by omega), if_neg (by omega), if_neg (by omega), if_neg (by omega), if_neg (by omega), if_neg (by omega)]
    exact d1.trans ((hR _ _ _ (lk_k_ hm (by omega))).trans d2.symm)
  · have d1 : u (13 + 16 + 15 * c) 0 = v (13 + 16 + 15 * c) 0 := by rw [hu, if_neg (by omega), if_neg (by omega), if_neg (by omega), if_neg (by omega), if_neg (by omega), if_neg (by omega)]
    have d2 : z (34 + 7 * c) = s (34 + 7 * c) := by rw [hs, if_neg (by omega), if_neg (by omega), if_neg (by omega), if_neg (by omega), if_neg (by omega), if_neg (by omega)]
    exact d1.trans ((hR _ _ _ (lk_c0 hc (by omega))).trans d2.symm)
  · by_cases e0 : 13 + 16 + 15 * c = 29 + 15 * X ∧ 2 = 2
    · have d1 : u (13 + 16 + 15 * c) 2 = y := by rw [hu, if_neg (by omega), if_neg (by omega), if_pos (by omega)]
      have d2 : z (36 + 7 * c) = y := by rw [hs, if_neg (by omega), if_neg (by omega), if_pos (by omega)]
      exact d1.trans d2.symm
    · skip
      have d1 : u (13 + 16 + 15 * c) 2 = v (13 + 16 + 15 * c) 2 := by rw [hu, if_neg (by omega), if_neg (by omega), if_neg (by omega), if_neg (by omega), if_neg (by omega), if_neg (by omega)]
      have d2 : z (36 + 7 * c) = s (36 + 7 * c) := by rw [hs, if_neg (by omega), if_neg (by omega), if_neg (by omega), if_neg (by omega), if_neg (by omega), if_neg (by omega)]
      exact d1.trans ((hR _ _ _ (lk_c2 hc (by omega))).trans d2.symm)
  · have d1 : u (13 + 16 + 15 * c) 3 = v (13 + 16 + 15 * c) 3 := by rw [hu, if_neg (by omega), if_neg (by omega), if_neg (by omega), if_neg (by omega), if_neg (by omega), if_neg (by omega)]
    have d2 : z (37 + 7 * c) = s (37 + 7 * c) := by rw [hs, if_neg (by omega), if_neg (by omega), if_neg (by omega), if_neg (by omega), if_neg (by omega), if_neg (by omega)]
    exact d1.trans ((hR _ _ _ (lk_c3 hc (by omega))).trans d2.symm)
  · have d1 : u (13 + 16 + 15 * c) 5 = v (13 + 16 + 15 * c) 5 := by rw [hu, if_neg (by omega), if_neg (by omega), if_neg (by omega), if_neg (by omega), if_neg (by omega), if_neg (by omega)]
    have d2 : z (38 + 7 * c) = s (38 + 7 * c) := by rw [hs, if_neg (by omega), if_neg (by omega), if_neg (by omega), if_neg (by omega), if_neg (by omega), if_neg (by omega)]
    exact d1.trans ((hR _ _ _ (lk_c5 hc (by omega))).trans d2.symm)
  · have d1 : u (13 + 17 + 15 * c) j = v (13 + 17 + 15 * c) j := by rw [hu, if_neg (by omega), if_neg (by omega), if_neg (by omega), if_neg (by omega), if_neg (by omega), if_neg (by omega)]
    have d2 : z (32 + 7 * c + j) = s (32 + 7 * c + j) := by rw [hs, if_neg (by omega), if_neg (by omega), if_neg (by omega), if_neg (by omega), if_neg (by omega), if_neg (by omega)]
    exact d1.trans ((hR _ _ _ (lk_q hc (by omega) hj)).trans d2.symm)
  · have a36 := A36 c hc
    have hnc : c = X → (s (36 + 7 * c)).toInt = (R : Int) := fun q => by rw [q]; exact hn
    by_cases e0 : 13 + 20 + 15 * c + i = 33 + 15 * X + 1 ∧ j = R
    · have d1 : u (13 + 20 + 15 * c + i) j = g := by rw [hu, if_neg (by omega), if_neg (by omega), if_neg (by omega), if_pos (by omega)]
      have d2 : z (86 + 10 * c + 2 * j + i) = g := by rw [hs, if_neg (by omega), if_neg (by omega), if_neg (by omega), if_pos (by omega)]
      exact d1.trans d2.symm
    · skip
      by_cases e1 : 13 + 20 + 15 * c + i = 33 + 15 * X + 0 ∧ j = R
      · have d1 : u (13 + 20 + 15 * c + i) j = a := by rw [hu, if_neg (by omega), if_neg (by omega), if_neg (by omega), if_neg (by omega), if_pos (by omega)]
        have d2 : z (86 + 10 * c + 2 * j + i) = a := by rw [hs, if_neg (by omega), if_neg (by omega), if_neg (by omega), if_neg (by omega), if_pos (by omega)]
        exact d1.trans d2.symm
      · skip
        have d1 : u (13 + 20 + 15 * c + i) j = v (13 + 20 + 15 * c + i) j := by rw [hu, if_neg (by omega), if_neg (by omega), if_neg (by omega), if_neg (by omega), if_neg (by omega), if_neg (by omega)]
        have d2 : z (86 + 10 * c + 2 * j + i) = s (86 + 10 * c + 2 * j + i) := by rw [hs, if_neg (by omega), if_neg (by omega), if_neg (by omega), if_neg (by omega), if_neg (by omega), if_neg (by omega)]
        exact d1.trans ((hR _ _ _ (lk_o hc (by omega) hi hj (by omega))).trans d2.symm)
  · have d1 : u (13 + 23 + 15 * c + i) j = v (13 + 23 + 15 * c + i) j := by rw [hu, if_neg (by omega), if_neg (by omega), if_neg (by omega), if_neg (by omega), if_neg (by omega), if_neg (by omega)]
    have d2 : z (308 + 48 * c + 24 * i + j) = s (308 + 48 * c + 24 * i + j) := by rw [hs, if_neg (by omega), if_neg (by omega), if_neg (by omega), if_neg (by omega), if_neg (by omega), if_neg (by omega)]
    exact d1.trans ((hR _ _ _ (lk_l hc (by omega) hi hj)).trans d2.symm)
  · have a38 := A38 c hc
    have d1 : u (13 + 26 + 15 * c + t) j = v (13 + 26 + 15 * c + t) j := by rw [hu, if_neg (by omega), if_neg (by omega), if_neg (by omega), if_neg (by omega), if_neg (by omega), if_neg (by omega)]
    have d2 : z (158 + 25 * c + 5 * t + j) = s (158 + 25 * c + 5 * t + j) := by rw [hs, if_neg (by omega), if_neg (by omega), if_neg (by omega), if_neg (by omega), if_neg (by omega), if_neg (by omega)]
    exact d1.trans ((hR _ _ _ (lk_t hc (by omega) ht (by omega) hj)).trans d2.symm)

set_option maxHeartbeats 4000000 in
theorem RL_yes1 {v u : Nat → Nat → Int32} {s z : Nat → Int32} {X R : Nat} {x y g a w : Int32} (hX : X < 6) (hR5 : R < 5) (hn : (s (36 + 7 * X)).toInt = (R : Int)) (hx : y.toInt = (s (36 + 7 * X)).toInt + 1) (hu : ∀ k j : Nat, u k j = if k = 29 + 15 * X ∧ j = 1 then w else if k = 29 + 15 * X ∧ j = 0 then 1 else if k = 29 + 15 * X ∧ j = 2 then y else if k = 33 + 15 * X + 1 ∧ j = R then g else if k = 33 + 15 * X + 0 ∧ j = R then a else if k = 31 + 15 * X ∧ j = 1 then x else v k j) (hs : ∀ n : Nat, z n = if n = 35 + 7 * X then w else if n = 34 + 7 * X then 1 else if n = 75 + 2 * X then -5 else if n = 74 + 2 * X then -5 else if n = 36 + 7 * X then y else if n = 87 + 10 * X + 2 * R then g else if n = 86 + 10 * X + 2 * R then a else if n = 75 + 2 * X then x else s n) (hR : RLk 13 v s) : RLk 13 u z := by
  have A0 : (z 0).toInt = (s 0).toInt := by rw [hs, if_neg (by omega), if_neg (by omega), if_neg (by omega), if_neg (by omega), if_neg (by omega), if_neg (by omega), if_neg (by omega), if_neg (by omega)]
  have A1 : (z 1).toInt = (s 1).toInt := by rw [hs, if_neg (by omega), if_neg (by omega), if_neg (by omega), if_neg (by omega), if_neg (by omega), if_neg (by omega), if_neg (by omega), if_neg (by omega)]
  have A2 : (z 2).toInt = (s 2).toInt := by rw [hs, if_neg (by omega), if_neg (by omega), if_neg (by omega), if_neg (by omega), if_neg (by omega), if_neg (by omega), if_neg (by omega), if_neg (by omega)]
  have A36 : ∀ c : Nat, c < 6 → (z (36 + 7 * c)).toInt = (s (36 + 7 * c)).toInt ∨ (c = X ∧ (z (36 + 7 * c)).toInt = (s (36 + 7 * c)).toInt + 1) := fun c hc => by by_cases q : c = X; subst q; refine Or.inr ⟨rfl, ?_⟩; rw [hs, if_neg (by omega), if_neg (by omega), if_neg (by omega), if_neg (by omega), if_pos rfl]; exact hx; refine Or.inl ?_; rw [hs, if_neg (by omega), if_neg (by omega), if_neg (by omega), if_neg (by omega), if_neg (by omega), if_neg (by omega), if_neg (by omega), if_neg (by omega)]
  have A38 : ∀ c : Nat, c < 6 → (z (38 + 7 * c)).toInt = (s (38 + 7 * c)).toInt := fun c hc => by rw [hs, if_neg (by omega), if_neg (by omega), if_neg (by omega), if_neg (by omega), if_neg (by omega), if_neg (by omega), if_neg (by omega), if_neg (by omega)]
  intro k j n h
  unfold lk at h
  rcases h with ⟨rfl, hj, rfl⟩ | ⟨p, hp, ha, hj, rfl, rfl⟩ | ⟨m, hm, ha, hj, rfl, rfl⟩ | ⟨m, hm, ha, rfl, rfl, rfl⟩ | ⟨c, hc, ha, rfl, rfl, rfl⟩ | ⟨c, hc, ha, rfl, rfl, rfl⟩ | ⟨c, hc, ha, rfl, rfl, rfl⟩ | ⟨c, hc, ha, rfl, rfl, rfl⟩ | ⟨c, hc, ha, hj, rfl, rfl⟩ | ⟨c, i, hc, ha, hi, hj, hr, rfl, rfl⟩ | ⟨c, i, hc, ha, hi, hj, rfl, rfl⟩ | ⟨c, t, hc, ha, ht, hr, hj, rfl, rfl⟩
  · have d1 : u (13) n = v (13) n := by rw [hu, if_neg (by omega), if_neg (by omega), if_neg (by omega), if_neg (by omega), if_neg (by omega), if_neg (by omega)]
    have d2 : z (n) = s (n) := by rw [hs, if_neg (by omega), if_neg (by omega), if_neg (by omega), if_neg (by omega), if_neg (by omega), if_neg (by omega), if_neg (by omega), if_neg (by omega)]
    exact d1.trans ((hR _ _ _ (lk_a hj)).trans d2.symm)
  · have d1 : u (13 + 4 + p) j = v (13 + 4 + p) j := by rw [hu, if_neg (by omega), if_neg (by omega), if_neg (by omega), if_neg (by omega), if_neg (by omega), if_neg (by omega)]
    have d2 : z (4 + 2 * p + j) = s (4 + 2 * p + j) := by rw [hs, if_neg (by omega), if_neg (by omega), if_neg (by omega), if_neg (by omega), if_neg (by omega), if_neg (by omega), if_neg (by omega), if_neg (by omega)]
    exact d1.trans ((hR _ _ _ (lk_p hp (by omega) hj)).trans d2.symm)
  · have d1 : u (13 + 12 + m) j = v (13 + 12 + m) j := by rw [hu, if_neg (by omega), if_neg (by omega), if_neg (by omega), if_neg (by omega), if_neg (by omega), if_neg (by omega)]
    have d2 : z (20 + 2 * m + j) = s (20 + 2 * m + j) := by rw [hs, if_neg (by omega), if_neg (by omega), if_neg (by omega), if_neg (by omega), if_neg (by omega), if_neg (by omega), if_neg (by omega), if_neg (by omega)]
    exact d1.trans ((hR _ _ _ (lk_m hm (by omega) hj)).trans d2.symm)
  · have d1 : u (13 + 12 + m) 2 = v (13 + 12 + m) 2 := by rw [hu, if_neg (by omega), if_neg (by omega), if_neg (by omega), if_neg (by omega), if_neg (by omega), if_neg (by omega)]
    have d2 : z (28 + m) = s (28 + m) := by rw [hs, if_neg (by omega), if_neg (by omega), if_neg (by omega), if_neg (by omega), if_neg (by omega), if_neg (by omega), if_neg (by omega), if_neg (by omega)]
    exact d1.trans ((hR _ _ _ (lk_k_ hm (by omega))).trans d2.symm)
  · by_cases e0 : 13 + 16 + 15 * c = 29 + 15 * X ∧ 0 = 0
    · have d1 : u (13 + 16 + 15 * c) 0 = 1 := by rw [hu, if_neg (by omega), if_pos (by omega)]
      have d2 : z (34 + 7 * c) = 1 := by rw [hs, if_neg (by omega), if_pos (by omega)]
      exact d1.trans d2.symm
    · skip
      have d1 : u (13 + 16 + 15 * c) 0 = v (13 + 16 + 15 * c) 0 := by rw [hu, if_neg (by omega), if_neg (by omega), if_neg (by omega), if_neg (by omega), if_neg (by omega), if_neg (by omega)]
      have d2 : z (34 + 7 * c) = s (34 + 7 * c) := by rw [hs, if_neg (by omega), if_neg (by omega), if_neg (by omega), if_neg (by omega), if_neg (by omega), if_neg (by omega), if_neg (by omega), if_neg (by omega)]
      exact d1.trans ((hR _ _ _ (lk_c0 hc (by omega))).trans d2.symm)
  · by_cases e0 : 13 + 16 + 15 * c = 29 + 15 * X ∧ 2 = 2
    · have d1 : u (13 + 16 + 15 * c) 2 = y := by rw [hu, if_neg (by omega), if_neg (by omega), if_pos (by omega)]
      have d2 : z (36 + 7 * c) = y := by rw [hs, if_neg (by omega), if_neg (by omega), if_neg (by omega), if_neg (by omega), if_pos (by omega)]
      exact d1.trans d2.symm
    · skip
      have d1 : u (13 + 16 + 15 * c) 2 = v (13 + 16 + 15 * c) 2 := by rw [hu, if_neg (by omega), if_neg (by omega), if_neg (by omega), if_neg (by omega), if_neg (by omega), if_neg (by omega)]
      have d2 : z (36 + 7 * c) = s (36 + 7 * c) := by rw [hs, if_neg (by omega), if_neg (by omega), if_neg (by omega), if_neg (by omega), if_neg (by omega), if_neg (by omega), if_neg (by omega), if_neg (by omega)]
      exact d1.trans ((hR _ _ _ (lk_c2 hc (by omega))).trans d2.symm)
  · have d1 : u (13 + 16 + 15 * c) 3 = v (13 + 16 + 15 * c) 3 := by rw [hu, if_neg (by omega), if_neg (by omega), if_neg (by omega), if_neg (by omega), if_neg (by omega), if_neg (by omega)]
    have d2 : z (37 + 7 * c) = s (37 + 7 * c) := by rw [hs, if_neg (by omega), if_neg (by omega), if_neg (by omega), if_neg (by omega), if_neg (by omega), if_neg (by omega), if_neg (by omega), if_neg (by omega)]
    exact d1.trans ((hR _ _ _ (lk_c3 hc (by omega))).trans d2.symm)
  · have d1 : u (13 + 16 + 15 * c) 5 = v (13 + 16 + 15 * c) 5 := by rw [hu, if_neg (by omega), if_neg (by omega), if_neg (by omega), if_neg (by omega), if_neg (by omega), if_neg (by omega)]
    have d2 : z (38 + 7 * c) = s (38 + 7 * c) := by rw [hs, if_neg (by omega), if_neg (by omega), if_neg (by omega), if_neg (by omega), if_neg (by omega), if_neg (by omega), if_neg (by omega), if_neg (by omega)]
    exact d1.trans ((hR _ _ _ (lk_c5 hc (by omega))).trans d2.symm)
  · have d1 : u (13 + 17 + 15 * c) j = v (13 + 17 + 15 * c) j := by rw [hu, if_neg (by omega), if_neg (by omega), if_neg (by omega), if_neg (by omega), if_neg (by omega), if_neg (by omega)]
    have d2 : z (32 + 7 * c + j) = s (32 + 7 * c + j) := by rw [hs, if_neg (by omega), if_neg (by omega), if_neg (by omega), if_neg (by omega), if_neg (by omega), if_neg (by omega), if_neg (by omega), if_neg (by omega)]
    exact d1.trans ((hR _ _ _ (lk_q hc (by omega) hj)).trans d2.symm)
  · have a36 := A36 c hc
    have hnc : c = X → (s (36 + 7 * c)).toInt = (R : Int) := fun q => by rw [q]; exact hn
    by_cases e0 : 13 + 20 + 15 * c + i = 33 + 15 * X + 1 ∧ j = R
    · have d1 : u (13 + 20 + 15 * c + i) j = g := by rw [hu, if_neg (by omega), if_neg (by omega), if_neg (by omega), if_pos (by omega)]
      have d2 : z (86 + 10 * c + 2 * j + i) = g := by rw [hs, if_neg (by omega), if_neg (by omega), if_neg (by omega), if_neg (by omega), if_neg (by omega), if_pos (by omega)]
      exact d1.trans d2.symm
    · skip
      by_cases e1 : 13 + 20 + 15 * c + i = 33 + 15 * X + 0 ∧ j = R
      · have d1 : u (13 + 20 + 15 * c + i) j = a := by rw [hu, if_neg (by omega), if_neg (by omega), if_neg (by omega), if_neg (by omega), if_pos (by omega)]
        have d2 : z (86 + 10 * c + 2 * j + i) = a := by rw [hs, if_neg (by omega), if_neg (by omega), if_neg (by omega), if_neg (by omega), if_neg (by omega), if_neg (by omega), if_pos (by omega)]
        exact d1.trans d2.symm
      · skip
        have d1 : u (13 + 20 + 15 * c + i) j = v (13 + 20 + 15 * c + i) j := by rw [hu, if_neg (by omega), if_neg (by omega), if_neg (by omega), if_neg (by omega), if_neg (by omega), if_neg (by omega)]
        have d2 : z (86 + 10 * c + 2 * j + i) = s (86 + 10 * c + 2 * j + i) := by rw [hs, if_neg (by omega), if_neg (by omega), if_neg (by omega), if_neg (by omega), if_neg (by omega), if_neg (by omega), if_neg (by omega), if_neg (by omega)]
        exact d1.trans ((hR _ _ _ (lk_o hc (by omega) hi hj (by omega))).trans d2.symm)
  · have d1 : u (13 + 23 + 15 * c + i) j = v (13 + 23 + 15 * c + i) j := by rw [hu, if_neg (by omega), if_neg (by omega), if_neg (by omega), if_neg (by omega), if_neg (by omega), if_neg (by omega)]
    have d2 : z (308 + 48 * c + 24 * i + j) = s (308 + 48 * c + 24 * i + j) := by rw [hs, if_neg (by omega), if_neg (by omega), if_neg (by omega), if_neg (by omega), if_neg (by omega), if_neg (by omega), if_neg (by omega), if_neg (by omega)]
    exact d1.trans ((hR _ _ _ (lk_l hc (by omega) hi hj)).trans d2.symm)
  · have a38 := A38 c hc
    have d1 : u (13 + 26 + 15 * c + t) j = v (13 + 26 + 15 * c + t) j := by rw [hu, if_neg (by omega), if_neg (by omega), if_neg (by omega), if_neg (by omega), if_neg (by omega), if_neg (by omega)]
    have d2 : z (158 + 25 * c + 5 * t + j) = s (158 + 25 * c + 5 * t + j) := by rw [hs, if_neg (by omega), if_neg (by omega), if_neg (by omega), if_neg (by omega), if_neg (by omega), if_neg (by omega), if_neg (by omega), if_neg (by omega)]
    exact d1.trans ((hR _ _ _ (lk_t hc (by omega) ht (by omega) hj)).trans d2.symm)

set_option maxHeartbeats 4000000 in
theorem RX_box1 {v u : Nat → Nat → Int32} {s z : Nat → Int32} {X : Nat} {x : Int32} (hX : X < 6) (hx : 0 ≤ x.toInt ∧ x.toInt ≤ 100) (hu : ∀ k j : Nat, u k j = if k = 31 + 15 * X ∧ j = 1 then x else v k j) (hs : ∀ n : Nat, z n = if n = 75 + 2 * X then x else s n) (h : RX 13 v s) : RX 13 u z := by
  intro c hc hac
  have a2 : z 2 = s 2 := by rw [hs, if_neg (by omega)]
  have hh := h c hc (by rw [a2] at hac; exact hac)
  by_cases hq : c = X
  · subst hq
    have g0 : u (13 + 16 + 15 * c) 1 = v (13 + 16 + 15 * c) 1 := by rw [hu, if_neg (by omega)]
    have g1 : u (13 + 18 + 15 * c) 0 = v (13 + 18 + 15 * c) 0 := by rw [hu, if_neg (by omega)]
    have g2 : u (13 + 18 + 15 * c) 1 = x := by rw [hu, if_pos (by omega)]
    have g3 : z (34 + 7 * c) = s (34 + 7 * c) := by rw [hs, if_neg (by omega)]
    have g4 : z (35 + 7 * c) = s (35 + 7 * c) := by rw [hs, if_neg (by omega)]
    have g5 : z (74 + 2 * c) = s (74 + 2 * c) := by rw [hs, if_neg (by omega)]
    have g6 : z (75 + 2 * c) = x := by rw [hs, if_pos (by omega)]
    rw [g0, g1, g2, g3, g4, g5, g6]
    obtain ⟨r1, r2, r3, r4⟩ := hh
    exact ⟨r1, r2, r3, fun q => ⟨(r4 q).1, Or.inr ⟨hx.1, hx.2, rfl⟩⟩⟩
  · have d1 : u (13 + 16 + 15 * c) 1 = v (13 + 16 + 15 * c) 1 := by rw [hu, if_neg (by omega)]
    have d2 : u (13 + 18 + 15 * c) 0 = v (13 + 18 + 15 * c) 0 := by rw [hu, if_neg (by omega)]
    have d3 : u (13 + 18 + 15 * c) 1 = v (13 + 18 + 15 * c) 1 := by rw [hu, if_neg (by omega)]
    have f0 : z (34 + 7 * c) = s (34 + 7 * c) := by rw [hs, if_neg (by omega)]
    have f1 : z (35 + 7 * c) = s (35 + 7 * c) := by rw [hs, if_neg (by omega)]
    have f2 : z (74 + 2 * c) = s (74 + 2 * c) := by rw [hs, if_neg (by omega)]
    have f3 : z (75 + 2 * c) = s (75 + 2 * c) := by rw [hs, if_neg (by omega)]
    rw [d1, d2, d3, f0, f1, f2, f3]
    exact hh

set_option maxHeartbeats 4000000 in
theorem RX_no1 {v u : Nat → Nat → Int32} {s z : Nat → Int32} {X R : Nat} {x y g a : Int32} (hX : X < 6) (hR5 : R < 5) (hu : ∀ k j : Nat, u k j = if k = 31 + 15 * X ∧ j = 1 then -1 else if k = 31 + 15 * X ∧ j = 0 then -1 else if k = 29 + 15 * X ∧ j = 2 then y else if k = 33 + 15 * X + 1 ∧ j = R then g else if k = 33 + 15 * X + 0 ∧ j = R then a else if k = 31 + 15 * X ∧ j = 1 then x else v k j) (hs : ∀ n : Nat, z n = if n = 75 + 2 * X then -5 else if n = 74 + 2 * X then -5 else if n = 36 + 7 * X then y else if n = 87 + 10 * X + 2 * R then g else if n = 86 + 10 * X + 2 * R then a else if n = 75 + 2 * X then x else s n) (h : RX 13 v s) : RX 13 u z := by
  intro c hc hac
  have a2 : z 2 = s 2 := by rw [hs, if_neg (by omega), if_neg (by omega), if_neg (by omega), if_neg (by omega), if_neg (by omega), if_neg (by omega)]
  have hh := h c hc (by rw [a2] at hac; exact hac)
  by_cases hq : c = X
  · subst hq
    have g0 : u (13 + 16 + 15 * c) 1 = v (13 + 16 + 15 * c) 1 := by rw [hu, if_neg (by omega), if_neg (by omega), if_neg (by omega), if_neg (by omega), if_neg (by omega), if_neg (by omega)]
    have g1 : u (13 + 18 + 15 * c) 0 = -1 := by rw [hu, if_neg (by omega), if_pos (by omega)]
    have g2 : u (13 + 18 + 15 * c) 1 = -1 := by rw [hu, if_pos (by omega)]
    have g3 : z (34 + 7 * c) = s (34 + 7 * c) := by rw [hs, if_neg (by omega), if_neg (by omega), if_neg (by omega), if_neg (by omega), if_neg (by omega), if_neg (by omega)]
    have g4 : z (35 + 7 * c) = s (35 + 7 * c) := by rw [hs, if_neg (by omega), if_neg (by omega), if_neg (by omega), if_neg (by omega), if_neg (by omega), if_neg (by omega)]
    have g5 : z (74 + 2 * c) = -5 := by rw [hs, if_neg (by omega), if_pos (by omega)]
    have g6 : z (75 + 2 * c) = -5 := by rw [hs, if_pos (by omega)]
    rw [g0, g1, g2, g3, g4, g5, g6]
    obtain ⟨r1, r2, r3, r4⟩ := hh
    exact ⟨r1, r2, r3, fun q => ⟨Or.inl ⟨by decide, by decide⟩, Or.inl ⟨by decide, by decide⟩⟩⟩
  · have d1 : u (13 + 16 + 15 * c) 1 = v (13 + 16 + 15 * c) 1 := by rw [hu, if_neg (by omega), if_neg (by omega), if_neg (by omega), if_neg (by omega), if_neg (by omega), if_neg (by omega)]
    have d2 : u (13 + 18 + 15 * c) 0 = v (13 + 18 + 15 * c) 0 := by rw [hu, if_neg (by omega), if_neg (by omega), if_neg (by omega), if_neg (by omega), if_neg (by omega), if_neg (by omega)]
    have d3 : u (13 + 18 + 15 * c) 1 = v (13 + 18 + 15 * c) 1 := by rw [hu, if_neg (by omega), if_neg (by omega), if_neg (by omega), if_neg (by omega), if_neg (by omega), if_neg (by omega)]
    have f0 : z (34 + 7 * c) = s (34 + 7 * c) := by rw [hs, if_neg (by omega), if_neg (by omega), if_neg (by omega), if_neg (by omega), if_neg (by omega), if_neg (by omega)]
    have f1 : z (35 + 7 * c) = s (35 + 7 * c) := by rw [hs, if_neg (by omega), if_neg (by omega), if_neg (by omega), if_neg (by omega), if_neg (by omega), if_neg (by omega)]
    have f2 : z (74 + 2 * c) = s (74 + 2 * c) := by rw [hs, if_neg (by omega), if_neg (by omega), if_neg (by omega), if_neg (by omega), if_neg (by omega), if_neg (by omega)]
    have f3 : z (75 + 2 * c) = s (75 + 2 * c) := by rw [hs, if_neg (by omega), if_neg (by omega), if_neg (by omega), if_neg (by omega), if_neg (by omega), if_neg (by omega)]
    rw [d1, d2, d3, f0, f1, f2, f3]
    exact hh

set_option maxHeartbeats 4000000 in
theorem RX_yes1 {v u : Nat → Nat → Int32} {s z : Nat → Int32} {X R : Nat} {x y g a w : Int32} (hX : X < 6) (hR5 : R < 5) (hu : ∀ k j : Nat, u k j = if k = 29 + 15 * X ∧ j = 1 then w else if k = 29 + 15 * X ∧ j = 0 then 1 else if k = 29 + 15 * X ∧ j = 2 then y else if k = 33 + 15 * X + 1 ∧ j = R then g else if k = 33 + 15 * X + 0 ∧ j = R then a else if k = 31 + 15 * X ∧ j = 1 then x else v k j) (hs : ∀ n : Nat, z n = if n = 35 + 7 * X then w else if n = 34 + 7 * X then 1 else if n = 75 + 2 * X then -5 else if n = 74 + 2 * X then -5 else if n = 36 + 7 * X then y else if n = 87 + 10 * X + 2 * R then g else if n = 86 + 10 * X + 2 * R then a else if n = 75 + 2 * X then x else s n) (h : RX 13 v s) : RX 13 u z := by
  intro c hc hac
  have a2 : z 2 = s 2 := by rw [hs, if_neg (by omega), if_neg (by omega), if_neg (by omega), if_neg (by omega), if_neg (by omega), if_neg (by omega), if_neg (by omega), if_neg (by omega)]
  have hh := h c hc (by rw [a2] at hac; exact hac)
  by_cases hq : c = X
  · subst hq
    have g0 : u (13 + 16 + 15 * c) 1 = w := by rw [hu, if_pos (by omega)]
    have g1 : u (13 + 18 + 15 * c) 0 = v (13 + 18 + 15 * c) 0 := by rw [hu, if_neg (by omega), if_neg (by omega), if_neg (by omega), if_neg (by omega), if_neg (by omega), if_neg (by omega)]
    have g2 : u (13 + 18 + 15 * c) 1 = x := by rw [hu, if_neg (by omega), if_neg (by omega), if_neg (by omega), if_neg (by omega), if_neg (by omega), if_pos (by omega)]
    have g3 : z (34 + 7 * c) = 1 := by rw [hs, if_neg (by omega), if_pos (by omega)]
    have g4 : z (35 + 7 * c) = w := by rw [hs, if_pos (by omega)]
    have g5 : z (74 + 2 * c) = -5 := by rw [hs, if_neg (by omega), if_neg (by omega), if_neg (by omega), if_pos (by omega)]
    have g6 : z (75 + 2 * c) = -5 := by rw [hs, if_neg (by omega), if_neg (by omega), if_pos (by omega)]
    rw [g0, g1, g2, g3, g4, g5, g6]
    have k1 : (1 : Int32).toInt = 1 := by decide
    exact ⟨by omega, fun _ => rfl, fun q => absurd k1 q, fun q => absurd q (by omega)⟩
  · have d1 : u (13 + 16 + 15 * c) 1 = v (13 + 16 + 15 * c) 1 := by rw [hu, if_neg (by omega), if_neg (by omega), if_neg (by omega), if_neg (by omega), if_neg (by omega), if_neg (by omega)]
    have d2 : u (13 + 18 + 15 * c) 0 = v (13 + 18 + 15 * c) 0 := by rw [hu, if_neg (by omega), if_neg (by omega), if_neg (by omega), if_neg (by omega), if_neg (by omega), if_neg (by omega)]
    have d3 : u (13 + 18 + 15 * c) 1 = v (13 + 18 + 15 * c) 1 := by rw [hu, if_neg (by omega), if_neg (by omega), if_neg (by omega), if_neg (by omega), if_neg (by omega), if_neg (by omega)]
    have f0 : z (34 + 7 * c) = s (34 + 7 * c) := by rw [hs, if_neg (by omega), if_neg (by omega), if_neg (by omega), if_neg (by omega), if_neg (by omega), if_neg (by omega), if_neg (by omega), if_neg (by omega)]
    have f1 : z (35 + 7 * c) = s (35 + 7 * c) := by rw [hs, if_neg (by omega), if_neg (by omega), if_neg (by omega), if_neg (by omega), if_neg (by omega), if_neg (by omega), if_neg (by omega), if_neg (by omega)]
    have f2 : z (74 + 2 * c) = s (74 + 2 * c) := by rw [hs, if_neg (by omega), if_neg (by omega), if_neg (by omega), if_neg (by omega), if_neg (by omega), if_neg (by omega), if_neg (by omega), if_neg (by omega)]
    have f3 : z (75 + 2 * c) = s (75 + 2 * c) := by rw [hs, if_neg (by omega), if_neg (by omega), if_neg (by omega), if_neg (by omega), if_neg (by omega), if_neg (by omega), if_neg (by omega), if_neg (by omega)]
    rw [d1, d2, d3, f0, f1, f2, f3]
    exact hh

set_option maxHeartbeats 4000000 in
theorem T_offer_1 {n r r2 x0 x1 : Int32} {v u v2 u2 : Nat → Nat → Int32} (hI : Iv v) (hQ : Ir v2) (h : RR n v v2) (p : (¬ ((0 ≤ x0.toInt ∧ x0.toInt < (v 13 2).toInt) ∧ 0 ≤ x1.toInt ∧ x1.toInt ≤ 100) → r = -1 ∧ u = v) ∧ (((0 ≤ x0.toInt ∧ x0.toInt < (v 13 2).toInt) ∧ 0 ≤ x1.toInt ∧ x1.toInt ≤ 100) ∧ (v (29 + 15 * x0.toNatClampNeg) 0).toInt ≠ 0 → r = -4 ∧ u = v) ∧ (((0 ≤ x0.toInt ∧ x0.toInt < (v 13 2).toInt) ∧ 0 ≤ x1.toInt ∧ x1.toInt ≤ 100) ∧ (v (29 + 15 * x0.toNatClampNeg) 0).toInt = 0 ∧ (v (31 + 15 * x0.toNatClampNeg) 1).toInt ≠ -1 → r = -3 ∧ u = v) ∧ (((0 ≤ x0.toInt ∧ x0.toInt < (v 13 2).toInt) ∧ 0 ≤ x1.toInt ∧ x1.toInt ≤ 100) ∧ (v (29 + 15 * x0.toNatClampNeg) 0).toInt = 0 ∧ (v (31 + 15 * x0.toNatClampNeg) 1).toInt = -1 ∧ 5 ≤ (v (29 + 15 * x0.toNatClampNeg) 2).toInt → r = -2 ∧ u = v) ∧ (((0 ≤ x0.toInt ∧ x0.toInt < (v 13 2).toInt) ∧ 0 ≤ x1.toInt ∧ x1.toInt ≤ 100) ∧ (v (29 + 15 * x0.toNatClampNeg) 0).toInt = 0 ∧ (v (31 + 15 * x0.toNatClampNeg) 1).toInt = -1 ∧ (v (29 + 15 * x0.toNatClampNeg) 2).toInt < 5 ∧ (v (31 + 15 * x0.toNatClampNeg) 0).toInt = -1 → r = 0 ∧ (∀ k j : Nat, u k j = if k = 31 + 15 * x0.toNatClampNeg ∧ j = 1 then x1 else v k j)) ∧ (((0 ≤ x0.toInt ∧ x0.toInt < (v 13 2).toInt) ∧ 0 ≤ x1.toInt ∧ x1.toInt ≤ 100) ∧ (v (29 + 15 * x0.toNatClampNeg) 0).toInt = 0 ∧ (v (31 + 15 * x0.toNatClampNeg) 1).toInt = -1 ∧ (v (29 + 15 * x0.toNatClampNeg) 2).toInt < 5 ∧ (v (31 + 15 * x0.toNatClampNeg) 0).toInt ≠ -1 ∧ x1.toInt < (v (31 + 15 * x0.toNatClampNeg) 0).toInt → r = 2 ∧ (∀ k j : Nat, u k j = if k = 31 + 15 * x0.toNatClampNeg ∧ j = 1 then -1 else if k = 31 + 15 * x0.toNatClampNeg ∧ j = 0 then -1 else if k = 29 + 15 * x0.toNatClampNeg ∧ j = 2 then v (29 + 15 * x0.toNatClampNeg) 2 + 1 else if k = 33 + 15 * x0.toNatClampNeg + 1 ∧ j = (v (29 + 15 * x0.toNatClampNeg) 2).toNatClampNeg then x1 else if k = 33 + 15 * x0.toNatClampNeg + 0 ∧ j = (v (29 + 15 * x0.toNatClampNeg) 2).toNatClampNeg then v (31 + 15 * x0.toNatClampNeg) 0 else if k = 31 + 15 * x0.toNatClampNeg ∧ j = 1 then x1 else v k j)) ∧ (((0 ≤ x0.toInt ∧ x0.toInt < (v 13 2).toInt) ∧ 0 ≤ x1.toInt ∧ x1.toInt ≤ 100) ∧ (v (29 + 15 * x0.toNatClampNeg) 0).toInt = 0 ∧ (v (31 + 15 * x0.toNatClampNeg) 1).toInt = -1 ∧ (v (29 + 15 * x0.toNatClampNeg) 2).toInt < 5 ∧ (v (31 + 15 * x0.toNatClampNeg) 0).toInt ≠ -1 ∧ (v (31 + 15 * x0.toNatClampNeg) 0).toInt ≤ x1.toInt → r = 1 ∧ (∀ k j : Nat, u k j = if k = 29 + 15 * x0.toNatClampNeg ∧ j = 1 then (v (31 + 15 * x0.toNatClampNeg) 0 + x1) / 2 else if k = 29 + 15 * x0.toNatClampNeg ∧ j = 0 then 1 else if k = 29 + 15 * x0.toNatClampNeg ∧ j = 2 then v (29 + 15 * x0.toNatClampNeg) 2 + 1 else if k = 33 + 15 * x0.toNatClampNeg + 1 ∧ j = (v (29 + 15 * x0.toNatClampNeg) 2).toNatClampNeg then x1 else if k = 33 + 15 * x0.toNatClampNeg + 0 ∧ j = (v (29 + 15 * x0.toNatClampNeg) 2).toNatClampNeg then v (31 + 15 * x0.toNatClampNeg) 0 else if k = 31 + 15 * x0.toNatClampNeg ∧ j = 1 then x1 else v k j))) (q : (¬ ((0 ≤ x0.toInt ∧ x0.toInt < (v2 1 2).toInt) ∧ 0 ≤ x1.toInt ∧ x1.toInt ≤ 100) → r2 = -1 ∧ u2 = v2) ∧ (((0 ≤ x0.toInt ∧ x0.toInt < (v2 1 2).toInt) ∧ 0 ≤ x1.toInt ∧ x1.toInt ≤ 100) ∧ (v2 1 (34 + 7 * x0.toNatClampNeg)).toInt ≠ 0 → r2 = -4 ∧ u2 = v2) ∧ (((0 ≤ x0.toInt ∧ x0.toInt < (v2 1 2).toInt) ∧ 0 ≤ x1.toInt ∧ x1.toInt ≤ 100) ∧ (v2 1 (34 + 7 * x0.toNatClampNeg)).toInt = 0 ∧ 0 ≤ (v2 1 (75 + 2 * x0.toNatClampNeg)).toInt → r2 = -3 ∧ u2 = v2) ∧ (((0 ≤ x0.toInt ∧ x0.toInt < (v2 1 2).toInt) ∧ 0 ≤ x1.toInt ∧ x1.toInt ≤ 100) ∧ (v2 1 (34 + 7 * x0.toNatClampNeg)).toInt = 0 ∧ (v2 1 (75 + 2 * x0.toNatClampNeg)).toInt < 0 ∧ (v2 1 (36 + 7 * x0.toNatClampNeg)).toInt = 5 → r2 = -2 ∧ u2 = v2) ∧ (((0 ≤ x0.toInt ∧ x0.toInt < (v2 1 2).toInt) ∧ 0 ≤ x1.toInt ∧ x1.toInt ≤ 100) ∧ (v2 1 (34 + 7 * x0.toNatClampNeg)).toInt = 0 ∧ (v2 1 (75 + 2 * x0.toNatClampNeg)).toInt < 0 ∧ (v2 1 (36 + 7 * x0.toNatClampNeg)).toInt ≠ 5 ∧ (v2 1 (74 + 2 * x0.toNatClampNeg)).toInt < 0 → r2 = 0 ∧ (∀ n : Nat, u2 1 n = if n = 75 + 2 * x0.toNatClampNeg then x1 else v2 1 n) ∧ (∀ k : Nat, k ≠ 1 → u2 k = v2 k)) ∧ (((0 ≤ x0.toInt ∧ x0.toInt < (v2 1 2).toInt) ∧ 0 ≤ x1.toInt ∧ x1.toInt ≤ 100) ∧ (v2 1 (34 + 7 * x0.toNatClampNeg)).toInt = 0 ∧ (v2 1 (75 + 2 * x0.toNatClampNeg)).toInt < 0 ∧ (v2 1 (36 + 7 * x0.toNatClampNeg)).toInt ≠ 5 ∧ 0 ≤ (v2 1 (74 + 2 * x0.toNatClampNeg)).toInt ∧ x1.toInt < (v2 1 (74 + 2 * x0.toNatClampNeg)).toInt → r2 = 2 ∧ (∀ n : Nat, u2 1 n = if n = 75 + 2 * x0.toNatClampNeg then -5 else if n = 74 + 2 * x0.toNatClampNeg then -5 else if n = 36 + 7 * x0.toNatClampNeg then v2 1 (36 + 7 * x0.toNatClampNeg) + 1 else if n = 87 + 10 * x0.toNatClampNeg + 2 * (v2 1 (36 + 7 * x0.toNatClampNeg)).toNatClampNeg then x1 else if n = 86 + 10 * x0.toNatClampNeg + 2 * (v2 1 (36 + 7 * x0.toNatClampNeg)).toNatClampNeg then v2 1 (74 + 2 * x0.toNatClampNeg) else if n = 75 + 2 * x0.toNatClampNeg then x1 else v2 1 n) ∧ (∀ k : Nat, k ≠ 1 → u2 k = v2 k)) ∧ (((0 ≤ x0.toInt ∧ x0.toInt < (v2 1 2).toInt) ∧ 0 ≤ x1.toInt ∧ x1.toInt ≤ 100) ∧ (v2 1 (34 + 7 * x0.toNatClampNeg)).toInt = 0 ∧ (v2 1 (75 + 2 * x0.toNatClampNeg)).toInt < 0 ∧ (v2 1 (36 + 7 * x0.toNatClampNeg)).toInt ≠ 5 ∧ 0 ≤ (v2 1 (74 + 2 * x0.toNatClampNeg)).toInt ∧ (v2 1 (74 + 2 * x0.toNatClampNeg)).toInt ≤ x1.toInt → r2 = 1 ∧ (∀ n : Nat, u2 1 n = if n = 35 + 7 * x0.toNatClampNeg then (v2 1 (74 + 2 * x0.toNatClampNeg) + x1) / 2 else if n = 34 + 7 * x0.toNatClampNeg then 1 else if n = 75 + 2 * x0.toNatClampNeg then -5 else if n = 74 + 2 * x0.toNatClampNeg then -5 else if n = 36 + 7 * x0.toNatClampNeg then v2 1 (36 + 7 * x0.toNatClampNeg) + 1 else if n = 87 + 10 * x0.toNatClampNeg + 2 * (v2 1 (36 + 7 * x0.toNatClampNeg)).toNatClampNeg then x1 else if n = 86 + 10 * x0.toNatClampNeg + 2 * (v2 1 (36 + 7 * x0.toNatClampNeg)).toNatClampNeg then v2 1 (74 + 2 * x0.toNatClampNeg) else if n = 75 + 2 * x0.toNatClampNeg then x1 else v2 1 n) ∧ (∀ k : Nat, k ≠ 1 → u2 k = v2 k))) : r = r2 ∧ RR n u u2 := by
  have e0 : v 13 0 = v2 1 0 := h.1.1 _ _ _ (lk_a (by decide))
  have e1 : v 13 1 = v2 1 1 := h.1.1 _ _ _ (lk_a (by decide))
  have e2 : v 13 2 = v2 1 2 := h.1.1 _ _ _ (lk_a (by decide))
  have e3 : v 13 3 = v2 1 3 := h.1.1 _ _ _ (lk_a (by decide))
  have hb0 := hQ 1 0 8 (by decide)
  have hb1 := hQ 1 1 4 (by decide)
  have hb2 := hQ 1 2 6 (by decide)
  have hb3 := hQ 1 3 6 (by decide)
  rw [e2] at p
  by_cases hC : (0 ≤ x0.toInt ∧ x0.toInt < (v2 1 2).toInt) ∧ 0 ≤ x1.toInt ∧ x1.toInt ≤ 100
  · have zX := t_nn (x := x0) (by omega)
    have hX : x0.toNatClampNeg < 6 := by omega
    have ha : (x0.toNatClampNeg : Int) < (v2 1 2).toInt := by omega
    have ev : v (29 + 15 * x0.toNatClampNeg) 0 = v2 1 (34 + 7 * x0.toNatClampNeg) := h.1.1 _ _ _ (lk_c0 hX ha)
    have ew : v (29 + 15 * x0.toNatClampNeg) 2 = v2 1 (36 + 7 * x0.toNatClampNeg) := h.1.1 _ _ _ (lk_c2 hX ha)
    rw [ev, ew] at p
    have hb := hQ 1 (36 + 7 * x0.toNatClampNeg) 5 (bS_c (by omega) (by omega))
    by_cases hD : (v2 1 (34 + 7 * x0.toNatClampNeg)).toInt = 0
    · obtain ⟨hx0, hx1⟩ := (h.1.2.1 _ hX ha).2.2.2 hD
      have hbx : bxr (v (31 + 15 * x0.toNatClampNeg) 1) (v2 1 (75 + 2 * x0.toNatClampNeg)) := hx1
      have hbo : bxr (v (31 + 15 * x0.toNatClampNeg) 0) (v2 1 (74 + 2 * x0.toNatClampNeg)) := hx0
      rcases hbx with ⟨t1, t2⟩ | ⟨t1, t2, t3⟩
      · by_cases hE : (v2 1 (36 + 7 * x0.toNatClampNeg)).toInt = 5
        · obtain ⟨p1, p2⟩ := p.2.2.2.1 ⟨hC, hD, t1, by omega⟩
          obtain ⟨q1, q2⟩ := q.2.2.2.1 ⟨hC, hD, t2, hE⟩
          rw [p1, q1, p2, q2]
          exact ⟨rfl, h⟩
        · rcases hbo with ⟨o1, o2⟩ | ⟨o1, o2, o3⟩
          · obtain ⟨p1, p2⟩ := p.2.2.2.2.1 ⟨hC, hD, t1, by omega, o1⟩
            obtain ⟨q1, q2, q3⟩ := q.2.2.2.2.1 ⟨hC, hD, t2, hE, o2⟩
            exact ⟨by rw [p1, q1], h.wr q3 (funext fun j => by rw [p2, if_neg (by omega)]) (fun k hk => funext fun j => by rw [p2, if_neg (by omega)]) ⟨RL_box1 hX p2 q2 h.1.1, RX_box1 hX hC.2 p2 q2 h.1.2.1, h.1.2.2.1.cg (by rw [q2, if_neg (by omega)]) (by rw [q2, if_neg (by omega)]) (fun m hm => by rw [q2, if_neg (by omega)]), h.1.2.2.2.cg hb3.2 (by rw [q2, if_neg (by omega)]) (by rw [q2, if_neg (by omega)]) (fun n h1 h2 => by rw [q2, if_neg (by omega)]) (fun c hc => by rw [p2, if_neg (by omega)])⟩⟩
          · rw [o3] at p
            have zR := t_nn (x := v2 1 (36 + 7 * x0.toNatClampNeg)) (by omega)
            have k1 : (1 : Int32).toInt = 1 := by decide
            have hx : (v2 1 (36 + 7 * x0.toNatClampNeg) + 1).toInt = (v2 1 (36 + 7 * x0.toNatClampNeg)).toInt + 1 := by rw [t_add (by rw [k1]; omega), k1]
            rcases Int.lt_or_le x1.toInt (v2 1 (74 + 2 * x0.toNatClampNeg)).toInt with hL | hL
            · obtain ⟨p1, p2⟩ := p.2.2.2.2.2.1 ⟨hC, hD, t1, by omega, by omega, hL⟩
              obtain ⟨q1, q2, q3⟩ := q.2.2.2.2.2.1 ⟨hC, hD, t2, hE, o1, hL⟩
              exact ⟨by rw [p1, q1], h.wr q3 (funext fun j => by rw [p2, if_neg (by omega), if_neg (by omega), if_neg (by omega), if_neg (by omega), if_neg (by omega), if_neg (by omega)]) (fun k hk => funext fun j => by rw [p2, if_neg (by omega), if_neg (by omega), if_neg (by omega), if_neg (by omega), if_neg (by omega), if_neg (by omega)]) ⟨RL_no1 hX (by omega) (by omega) hx p2 q2 h.1.1, RX_no1 hX (by omega) p2 q2 h.1.2.1, h.1.2.2.1.cg (by rw [q2, if_neg (by omega), if_neg (by omega), if_neg (by omega), if_neg (by omega), if_neg (by omega), if_neg (by omega)]) (by rw [q2, if_neg (by omega), if_neg (by omega), if_neg (by omega), if_neg (by omega), if_neg (by omega), if_neg (by omega)]) (fun m hm => by rw [q2, if_neg (by omega), if_neg (by omega), if_neg (by omega), if_neg (by omega), if_neg (by omega), if_neg (by omega)]), h.1.2.2.2.cg hb3.2 (by rw [q2, if_neg (by omega), if_neg (by omega), if_neg (by omega), if_neg (by omega), if_neg (by omega), if_neg (by omega)]) (by rw [q2, if_neg (by omega), if_neg (by omega), if_neg (by omega), if_neg (by omega), if_neg (by omega), if_neg (by omega)]) (fun n h1 h2 => by rw [q2, if_neg (by omega), if_neg (by omega), if_neg (by omega), if_neg (by omega), if_neg (by omega), if_neg (by omega)]) (fun c hc => by rw [p2, if_neg (by omega), if_neg (by omega), if_neg (by omega), if_neg (by omega), if_neg (by omega), if_neg (by omega)])⟩⟩
            · obtain ⟨p1, p2⟩ := p.2.2.2.2.2.2 ⟨hC, hD, t1, by omega, by omega, hL⟩
              obtain ⟨q1, q2, q3⟩ := q.2.2.2.2.2.2 ⟨hC, hD, t2, hE, o1, hL⟩
              exact ⟨by rw [p1, q1], h.wr q3 (funext fun j => by rw [p2, if_neg (by omega), if_neg (by omega), if_neg (by omega), if_neg (by omega), if_neg (by omega), if_neg (by omega)]) (fun k hk => funext fun j => by rw [p2, if_neg (by omega), if_neg (by omega), if_neg (by omega), if_neg (by omega), if_neg (by omega), if_neg (by omega)]) ⟨RL_yes1 hX (by omega) (by omega) hx p2 q2 h.1.1, RX_yes1 hX (by omega) p2 q2 h.1.2.1, h.1.2.2.1.cg (by rw [q2, if_neg (by omega), if_neg (by omega), if_neg (by omega), if_neg (by omega), if_neg (by omega), if_neg (by omega), if_neg (by omega), if_neg (by omega)]) (by rw [q2, if_neg (by omega), if_neg (by omega), if_neg (by omega), if_neg (by omega), if_neg (by omega), if_neg (by omega), if_neg (by omega), if_neg (by omega)]) (fun m hm => by rw [q2, if_neg (by omega), if_neg (by omega), if_neg (by omega), if_neg (by omega), if_neg (by omega), if_neg (by omega), if_neg (by omega), if_neg (by omega)]), h.1.2.2.2.cg hb3.2 (by rw [q2, if_neg (by omega), if_neg (by omega), if_neg (by omega), if_neg (by omega), if_neg (by omega), if_neg (by omega), if_neg (by omega), if_neg (by omega)]) (by rw [q2, if_neg (by omega), if_neg (by omega), if_neg (by omega), if_neg (by omega), if_neg (by omega), if_neg (by omega), if_neg (by omega), if_neg (by omega)]) (fun n h1 h2 => by rw [q2, if_neg (by omega), if_neg (by omega), if_neg (by omega), if_neg (by omega), if_neg (by omega), if_neg (by omega), if_neg (by omega), if_neg (by omega)]) (fun c hc => by rw [p2, if_neg (by omega), if_neg (by omega), if_neg (by omega), if_neg (by omega), if_neg (by omega), if_neg (by omega)])⟩⟩
      · rw [t3] at p
        obtain ⟨p1, p2⟩ := p.2.2.1 ⟨hC, hD, by omega⟩
        obtain ⟨q1, q2⟩ := q.2.2.1 ⟨hC, hD, t1⟩
        rw [p1, q1, p2, q2]
        exact ⟨rfl, h⟩
    · obtain ⟨p1, p2⟩ := p.2.1 ⟨hC, hD⟩
      obtain ⟨q1, q2⟩ := q.2.1 ⟨hC, hD⟩
      rw [p1, q1, p2, q2]
      exact ⟨rfl, h⟩
  · obtain ⟨p1, p2⟩ := p.1 hC
    obtain ⟨q1, q2⟩ := q.1 hC
    rw [p1, q1, p2, q2]
    exact ⟨rfl, h⟩

set_option maxHeartbeats 4000000 in
theorem RL_open {v u : Nat → Nat → Int32} {s z : Nat → Int32} {X : Nat} {x a b : Int32} (hX : X < 6) (hn : (s 2).toInt = (X : Int)) (hx : x.toInt = (s 2).toInt + 1) (hu : ∀ k j : Nat, u k j = if k = 13 ∧ j = 2 then x else if 36 + 15 * X ≤ k ∧ (k : Int) < 36 + 15 * (X : Int) + 2 ∧ j < 24 then 7 else if k = 31 + 15 * X ∧ (j : Int) < 2 then -1 else if k = 30 + 15 * X ∧ j = 1 then b else if k = 30 + 15 * X ∧ j = 0 then a else if k = 29 + 15 * X ∧ j = 5 then 0 else if k = 29 + 15 * X ∧ j = 4 then 0 else if k = 29 + 15 * X ∧ j = 3 then 1 else if k = 29 + 15 * X ∧ j = 2 then 0 else if k = 29 + 15 * X ∧ j = 1 then 0 else if k = 29 + 15 * X ∧ j = 0 then 0 else v k j) (hs : ∀ n : Nat, z n = if n = 2 then x else if 308 + 48 * X ≤ n ∧ (n : Int) < 308 + 48 * (X : Int) + 48 then 7 else if n = 75 + 2 * X then -5 else if n = 74 + 2 * X then -5 else if n = 38 + 7 * X then 0 else if n = 37 + 7 * X then 1 else if n = 36 + 7 * X then 0 else if n = 35 + 7 * X then -5 else if n = 34 + 7 * X then 0 else if n = 33 + 7 * X then b else if n = 32 + 7 * X then a else s n) (hR : RLk 13 v s) : RLk 13 u z := by
  have A0 : (z 0).toInt = (s 0).toInt := by rw [hs, if_neg (by omega), if_neg (by omega), if_neg (by omega), if_neg (by omega), if_neg (by omega), if_neg (by omega), if_neg (by omega), if_neg (by omega), if_neg (by omega), if_neg (by omega), if_neg (by omega)]
  have A1 : (z 1).toInt = (s 1).toInt := by rw [hs, if_neg (by omega), if_neg (by omega), if_neg (by omega), if_neg (by omega), if_neg (by omega), if_neg (by omega), if_neg (by omega), if_neg (by omega), if_neg (by omega), if_neg (by omega), if_neg (by omega)]
  have A2 : (z 2).toInt = (s 2).toInt + 1 := by rw [hs, if_pos rfl]; exact hx
  have A36 : ∀ c : Nat, c < 6 → (c ≠ X ∧ (z (36 + 7 * c)).toInt = (s (36 + 7 * c)).toInt) ∨ (c = X ∧ (z (36 + 7 * c)).toInt = 0) := fun c hc => by by_cases q : c = X; subst q; refine Or.inr ⟨rfl, ?_⟩; rw [hs, if_neg (by omega), if_neg (by omega), if_neg (by omega), if_neg (by omega), if_neg (by omega), if_neg (by omega), if_pos rfl]; rfl; refine Or.inl ⟨q, ?_⟩; rw [hs, if_neg (by omega), if_neg (by omega), if_neg (by omega), if_neg (by omega), if_neg (by omega), if_neg (by omega), if_neg (by omega), if_neg (by omega), if_neg (by omega), if_neg (by omega), if_neg (by omega)]
  have A38 : ∀ c : Nat, c < 6 → (c ≠ X ∧ (z (38 + 7 * c)).toInt = (s (38 + 7 * c)).toInt) ∨ (c = X ∧ (z (38 + 7 * c)).toInt = 0) := fun c hc => by by_cases q : c = X; subst q; refine Or.inr ⟨rfl, ?_⟩; rw [hs, if_neg (by omega), if_neg (by omega), if_neg (by omega), if_neg (by omega), if_pos rfl]; rfl; refine Or.inl ⟨q, ?_⟩; rw [hs, if_neg (by omega), if_neg (by omega), if_neg (by omega), if_neg (by omega), if_neg (by omega), if_neg (by omega), if_neg (by omega), if_neg (by omega), if_neg (by omega), if_neg (by omega), if_neg (by omega)]
  intro k j n h
  unfold lk at h
  rcases h with ⟨rfl, hj, rfl⟩ | ⟨p, hp, ha, hj, rfl, rfl⟩ | ⟨m, hm, ha, hj, rfl, rfl⟩ | ⟨m, hm, ha, rfl, rfl, rfl⟩ | ⟨c, hc, ha, rfl, rfl, rfl⟩ | ⟨c, hc, ha, rfl, rfl, rfl⟩ | ⟨c, hc, ha, rfl, rfl, rfl⟩ | ⟨c, hc, ha, rfl, rfl, rfl⟩ | ⟨c, hc, ha, hj, rfl, rfl⟩ | ⟨c, i, hc, ha, hi, hj, hr, rfl, rfl⟩ | ⟨c, i, hc, ha, hi, hj, rfl, rfl⟩ | ⟨c, t, hc, ha, ht, hr, hj, rfl, rfl⟩
  · by_cases e0 : 13 = 13 ∧ n = 2
    · have d1 : u (13) n = x := by rw [hu, if_pos (by omega)]
      have d2 : z (n) = x := by rw [hs, if_pos (by omega)]
      exact d1.trans d2.symm
    · skip
      have d1 : u (13) n = v (13) n := by rw [hu, if_neg (by omega), if_neg (by omega), if_neg (by omega), if_neg (by omega), if_neg (by omega), if_neg (by omega), if_neg (by omega), if_neg (by omega), if_neg (by omega), if_neg (by omega), if_neg (by omega)]
      have d2 : z (n) = s (n) := by rw [hs, if_neg (by omega), if_neg (by omega), if_neg (by omega), if_neg (by omega), if_neg (by omega), if_neg (by omega), if_neg (by omega), if_neg (by omega), if_neg (by omega), if_neg (by omega), if_neg (by omega)]
      exact d1.trans ((hR _ _ _ (lk_a hj)).trans d2.symm)
  · have d1 : u (13 + 4 + p) j = v (13 + 4 + p) j := by rw [hu, if_neg (by omega), if_neg (by omega), if_neg (by omega), if_neg (by omega), if_neg (by omega), if_neg (by omega), if_neg (by omega), if_neg (by omega), if_neg (by omega), if_neg (by omega), if_neg (by omega)]
    have d2 : z (4 + 2 * p + j) = s (4 + 2 * p + j) := by rw [hs, if_neg (by omega), if_neg (by omega), if_neg (by omega), if_neg (by omega), if_neg (by omega), if_neg (by omega), if_neg (by omega), if_neg (by omega), if_neg (by omega), if_neg (by omega), if_neg (by omega)]
    exact d1.trans ((hR _ _ _ (lk_p hp (by omega) hj)).trans d2.symm)
  · have d1 : u (13 + 12 + m) j = v (13 + 12 + m) j := by rw [hu, if_neg (by omega), if_neg (by omega), if_neg (by omega), if_neg (by omega), if_neg (by omega), if_neg (by omega), if_neg (by omega), if_neg (by omega), if_neg (by omega), if_neg (by omega), if_neg (by omega)]
    have d2 : z (20 + 2 * m + j) = s (20 + 2 * m + j) := by rw [hs, if_neg (by omega), if_neg (by omega), if_neg (by omega), if_neg (by omega), if_neg (by omega), if_neg (by omega), if_neg (by omega), if_neg (by omega), if_neg (by omega), if_neg (by omega), if_neg (by omega)]
    exact d1.trans ((hR _ _ _ (lk_m hm (by omega) hj)).trans d2.symm)
  · have d1 : u (13 + 12 + m) 2 = v (13 + 12 + m) 2 := by rw [hu, if_neg (by omega), if_neg (by omega), if_neg (by omega), if_neg (by omega), if_neg (by omega), if_neg (by omega), if_neg (by omega), if_neg (by omega), if_neg (by omega), if_neg (by omega), if_neg (by omega)]
    have d2 : z (28 + m) = s (28 + m) := by rw [hs, if_neg (by omega), if_neg (by omega), if_neg (by omega), if_neg (by omega), if_neg (by omega), if_neg (by omega), if_neg (by omega), if_neg (by omega), if_neg (by omega), if_neg (by omega), if_neg (by omega)]
    exact d1.trans ((hR _ _ _ (lk_k_ hm (by omega))).trans d2.symm)
  · by_cases e0 : 13 + 16 + 15 * c = 29 + 15 * X ∧ 0 = 0
    · have d1 : u (13 + 16 + 15 * c) 0 = 0 := by rw [hu, if_neg (by omega), if_neg (by omega), if_neg (by omega), if_neg (by omega), if_neg (by omega), if_neg (by omega), if_neg (by omega), if_neg (by omega), if_neg (by omega), if_neg (by omega), if_pos (by omega)]
      have d2 : z (34 + 7 * c) = 0 := by rw [hs, if_neg (by omega), if_neg (by omega), if_neg (by omega), if_neg (by omega), if_neg (by omega), if_neg (by omega), if_neg (by omega), if_neg (by omega), if_pos (by omega)]
      exact d1.trans d2.symm
    · skip
      have d1 : u (13 + 16 + 15 * c) 0 = v (13 + 16 + 15 * c) 0 := by rw [hu, if_neg (by omega), if_neg (by omega), if_neg (by omega), if_neg (by omega), if_neg (by omega), if_neg (by omega), if_neg (by omega), if_neg (by omega), if_neg (by omega), if_neg (by omega), if_neg (by omega)]
      have d2 : z (34 + 7 * c) = s (34 + 7 * c) := by rw [hs, if_neg (by omega), if_neg (by omega), if_neg (by omega), if_neg (by omega), if_neg (by omega), if_neg (by omega), if_neg (by omega), if_neg (by omega), if_neg (by omega), if_neg (by omega), if_neg (by omega)]
      exact d1.trans ((hR _ _ _ (lk_c0 hc (by omega))).trans d2.symm)
  · by_cases e0 : 13 + 16 + 15 * c = 29 + 15 * X ∧ 2 = 2
    · have d1 : u (13 + 16 + 15 * c) 2 = 0 := by rw [hu, if_neg (by omega), if_neg (by omega), if_neg (by omega), if_neg (by omega), if_neg (by omega), if_neg (by omega), if_neg (by omega), if_neg (by omega), if_pos (by omega)]
      have d2 : z (36 + 7 * c) = 0 := by rw [hs, if_neg (by omega), if_neg (by omega), if_neg (by omega), if_neg (by omega), if_neg (by omega), if_neg (by omega), if_pos (by omega)]
      exact d1.trans d2.symm
    · skip
      have d1 : u (13 + 16 + 15 * c) 2 = v (13 + 16 + 15 * c) 2 := by rw [hu, if_neg (by omega), if_neg (by omega), if_neg (by omega), if_neg (by omega), if_neg (by omega), if_neg (by omega), if_neg (by omega), if_neg (by omega), if_neg (by omega), if_neg (by omega), if_neg (by omega)]
      have d2 : z (36 + 7 * c) = s (36 + 7 * c) := by rw [hs, if_neg (by omega), if_neg (by omega), if_neg (by omega), if_neg (by omega), if_neg (by omega), if_neg (by omega), if_neg (by omega), if_neg (by omega), if_neg (by omega), if_neg (by omega), if_neg (by omega)]
      exact d1.trans ((hR _ _ _ (lk_c2 hc (by omega))).trans d2.symm)
  · by_cases e0 : 13 + 16 + 15 * c = 29 + 15 * X ∧ 3 = 3
    · have d1 : u (13 + 16 + 15 * c) 3 = 1 := by rw [hu, if_neg (by omega), if_neg (by omega), if_neg (by omega), if_neg (by omega), if_neg (by omega), if_neg (by omega), if_neg (by omega), if_pos (by omega)]
      have d2 : z (37 + 7 * c) = 1 := by rw [hs, if_neg (by omega), if_neg (by omega), if_neg (by omega), if_neg (by omega), if_neg (by omega), if_pos (by omega)]
      exact d1.trans d2.symm
    · skip
      have d1 : u (13 + 16 + 15 * c) 3 = v (13 + 16 + 15 * c) 3 := by rw [hu, if_neg (by omega), if_neg (by omega), if_neg (by omega), if_neg (by omega), if_neg (by omega), if_neg (by omega), if_neg (by omega), if_neg (by omega), if_neg (by omega), if_neg (by omega), if_neg (by omega)]
      have d2 : z (37 + 7 * c) = s (37 + 7 * c) := by rw [hs, if_neg (by omega), if_neg (by omega), if_neg (by omega), if_neg (by omega), if_neg (by omega), if_neg (by omega), if_neg (by omega), if_neg (by omega), if_neg (by omega), if_neg (by omega), if_neg (by omega)]
      exact d1.trans ((hR _ _ _ (lk_c3 hc (by omega))).trans d2.symm)
  · by_cases e0 : 13 + 16 + 15 * c = 29 + 15 * X ∧ 5 = 5
    · have d1 : u (13 + 16 + 15 * c) 5 = 0 := by rw [hu, if_neg (by omega), if_neg (by omega), if_neg (by omega), if_neg (by omega), if_neg (by omega), if_pos (by omega)]
      have d2 : z (38 + 7 * c) = 0 := by rw [hs, if_neg (by omega), if_neg (by omega), if_neg (by omega), if_neg (by omega), if_pos (by omega)]
      exact d1.trans d2.symm
    · skip
      have d1 : u (13 + 16 + 15 * c) 5 = v (13 + 16 + 15 * c) 5 := by rw [hu, if_neg (by omega), if_neg (by omega), if_neg (by omega), if_neg (by omega), if_neg (by omega), if_neg (by omega), if_neg (by omega), if_neg (by omega), if_neg (by omega), if_neg (by omega), if_neg (by omega)]
      have d2 : z (38 + 7 * c) = s (38 + 7 * c) := by rw [hs, if_neg (by omega), if_neg (by omega), if_neg (by omega), if_neg (by omega), if_neg (by omega), if_neg (by omega), if_neg (by omega), if_neg (by omega), if_neg (by omega), if_neg (by omega), if_neg (by omega)]
      exact d1.trans ((hR _ _ _ (lk_c5 hc (by omega))).trans d2.symm)
  · by_cases e0 : 13 + 17 + 15 * c = 30 + 15 * X ∧ j = 1
    · have d1 : u (13 + 17 + 15 * c) j = b := by rw [hu, if_neg (by omega), if_neg (by omega), if_neg (by omega), if_pos (by omega)]
      have d2 : z (32 + 7 * c + j) = b := by rw [hs, if_neg (by omega), if_neg (by omega), if_neg (by omega), if_neg (by omega), if_neg (by omega), if_neg (by omega), if_neg (by omega), if_neg (by omega), if_neg (by omega), if_pos (by omega)]
      exact d1.trans d2.symm
    · skip
      by_cases e1 : 13 + 17 + 15 * c = 30 + 15 * X ∧ j = 0
      · have d1 : u (13 + 17 + 15 * c) j = a := by rw [hu, if_neg (by omega), if_neg (by omega), if_neg (by omega), if_neg (by omega), if_pos (by omega)]
        have d2 : z (32 + 7 * c + j) = a := by rw [hs, if_neg (by omega), if_neg (by omega), if_neg (by omega), if_neg (by omega), if_neg (by omega), if_neg (by omega), if_neg (by omega), if_neg (by omega), if_neg (by omega), if_neg (by omega), if_pos (by omega)]
        exact d1.trans d2.symm
      · skip
        have d1 : u (13 + 17 + 15 * c) j = v (13 + 17 + 15 * c) j := by rw [hu, if_neg (by omega), if_neg (by omega), if_neg (by omega), if_neg (by omega), if_neg (by omega), if_neg (by omega), if_neg (by omega), if_neg (by omega), if_neg (by omega), if_neg (by omega), if_neg (by omega)]
        have d2 : z (32 + 7 * c + j) = s (32 + 7 * c + j) := by rw [hs, if_neg (by omega), if_neg (by omega), if_neg (by omega), if_neg (by omega), if_neg (by omega), if_neg (by omega), if_neg (by omega), if_neg (by omega), if_neg (by omega), if_neg (by omega), if_neg (by omega)]
        exact d1.trans ((hR _ _ _ (lk_q hc (by omega) hj)).trans d2.symm)
  · have a36 := A36 c hc
    have d1 : u (13 + 20 + 15 * c + i) j = v (13 + 20 + 15 * c + i) j := by rw [hu, if_neg (by omega), if_neg (by omega), if_neg (by omega), if_neg (by omega), if_neg (by omega), if_neg (by omega), if_neg (by omega), if_neg (by omega), if_neg (by omega), if_neg (by omega), if_neg (by omega)]
    have d2 : z (86 + 10 * c + 2 * j + i) = s (86 + 10 * c + 2 * j + i) := by rw [hs, if_neg (by omega), if_neg (by omega), if_neg (by omega), if_neg (by omega), if_neg (by omega), if_neg (by omega), if_neg (by omega), if_neg (by omega), if_neg (by omega), if_neg (by omega), if_neg (by omega)]
    exact d1.trans ((hR _ _ _ (lk_o hc (by omega) hi hj (by omega))).trans d2.symm)
  · by_cases e0 : 36 + 15 * X ≤ 13 + 23 + 15 * c + i ∧ (13 + 23 + 15 * c + i : Int) < 36 + 15 * (X : Int) + 2 ∧ j < 24
    · have d1 : u (13 + 23 + 15 * c + i) j = 7 := by rw [hu, if_neg (by omega), if_pos (by omega)]
      have d2 : z (308 + 48 * c + 24 * i + j) = 7 := by rw [hs, if_neg (by omega), if_pos (by omega)]
      exact d1.trans d2.symm
    · skip
      have d1 : u (13 + 23 + 15 * c + i) j = v (13 + 23 + 15 * c + i) j := by rw [hu, if_neg (by omega), if_neg (by omega), if_neg (by omega), if_neg (by omega), if_neg (by omega), if_neg (by omega), if_neg (by omega), if_neg (by omega), if_neg (by omega), if_neg (by omega), if_neg (by omega)]
      have d2 : z (308 + 48 * c + 24 * i + j) = s (308 + 48 * c + 24 * i + j) := by rw [hs, if_neg (by omega), if_neg (by omega), if_neg (by omega), if_neg (by omega), if_neg (by omega), if_neg (by omega), if_neg (by omega), if_neg (by omega), if_neg (by omega), if_neg (by omega), if_neg (by omega)]
      exact d1.trans ((hR _ _ _ (lk_l hc (by omega) hi hj)).trans d2.symm)
  · have a38 := A38 c hc
    have d1 : u (13 + 26 + 15 * c + t) j = v (13 + 26 + 15 * c + t) j := by rw [hu, if_neg (by omega), if_neg (by omega), if_neg (by omega), if_neg (by omega), if_neg (by omega), if_neg (by omega), if_neg (by omega), if_neg (by omega), if_neg (by omega), if_neg (by omega), if_neg (by omega)]
    have d2 : z (158 + 25 * c + 5 * t + j) = s (158 + 25 * c + 5 * t + j) := by rw [hs, if_neg (by omega), if_neg (by omega), if_neg (by omega), if_neg (by omega), if_neg (by omega), if_neg (by omega), if_neg (by omega), if_neg (by omega), if_neg (by omega), if_neg (by omega), if_neg (by omega)]
    exact d1.trans ((hR _ _ _ (lk_t hc (by omega) ht (by omega) hj)).trans d2.symm)

set_option maxHeartbeats 4000000 in
theorem RX_open {v u : Nat → Nat → Int32} {s z : Nat → Int32} {X : Nat} {x a b : Int32} (hX : X < 6) (hn : (s 2).toInt = (X : Int)) (hx : x.toInt = (s 2).toInt + 1) (hu : ∀ k j : Nat, u k j = if k = 13 ∧ j = 2 then x else if 36 + 15 * X ≤ k ∧ (k : Int) < 36 + 15 * (X : Int) + 2 ∧ j < 24 then 7 else if k = 31 + 15 * X ∧ (j : Int) < 2 then -1 else if k = 30 + 15 * X ∧ j = 1 then b else if k = 30 + 15 * X ∧ j = 0 then a else if k = 29 + 15 * X ∧ j = 5 then 0 else if k = 29 + 15 * X ∧ j = 4 then 0 else if k = 29 + 15 * X ∧ j = 3 then 1 else if k = 29 + 15 * X ∧ j = 2 then 0 else if k = 29 + 15 * X ∧ j = 1 then 0 else if k = 29 + 15 * X ∧ j = 0 then 0 else v k j) (hs : ∀ n : Nat, z n = if n = 2 then x else if 308 + 48 * X ≤ n ∧ (n : Int) < 308 + 48 * (X : Int) + 48 then 7 else if n = 75 + 2 * X then -5 else if n = 74 + 2 * X then -5 else if n = 38 + 7 * X then 0 else if n = 37 + 7 * X then 1 else if n = 36 + 7 * X then 0 else if n = 35 + 7 * X then -5 else if n = 34 + 7 * X then 0 else if n = 33 + 7 * X then b else if n = 32 + 7 * X then a else s n) (h : RX 13 v s) : RX 13 u z := by
  intro c hc hac
  have A2 : (z 2).toInt = (s 2).toInt + 1 := by rw [hs, if_pos rfl]; exact hx
  by_cases hq : c = X
  · subst hq
    have g0 : u (13 + 16 + 15 * c) 1 = 0 := by rw [hu, if_neg (by omega), if_neg (by omega), if_neg (by omega), if_neg (by omega), if_neg (by omega), if_neg (by omega), if_neg (by omega), if_neg (by omega), if_neg (by omega), if_pos (by omega)]
    have g1 : u (13 + 18 + 15 * c) 0 = -1 := by rw [hu, if_neg (by omega), if_neg (by omega), if_pos (by omega)]
    have g2 : u (13 + 18 + 15 * c) 1 = -1 := by rw [hu, if_neg (by omega), if_neg (by omega), if_pos (by omega)]
    have g3 : z (34 + 7 * c) = 0 := by rw [hs, if_neg (by omega), if_neg (by omega), if_neg (by omega), if_neg (by omega), if_neg (by omega), if_neg (by omega), if_neg (by omega), if_neg (by omega), if_pos rfl]
    have g4 : z (35 + 7 * c) = -5 := by rw [hs, if_neg (by omega), if_neg (by omega), if_neg (by omega), if_neg (by omega), if_neg (by omega), if_neg (by omega), if_neg (by omega), if_pos rfl]
    have g5 : z (74 + 2 * c) = -5 := by rw [hs, if_neg (by omega), if_neg (by omega), if_neg (by omega), if_pos rfl]
    have g6 : z (75 + 2 * c) = -5 := by rw [hs, if_neg (by omega), if_neg (by omega), if_pos rfl]
    rw [g0, g1, g2, g3, g4, g5, g6]
    exact ⟨Or.inl (by decide), fun q => absurd q (by decide), fun _ => rfl, fun _ => ⟨Or.inl ⟨by decide, by decide⟩, Or.inl ⟨by decide, by decide⟩⟩⟩
  · have hh := h c hc (by omega)
    have g0 : u (13 + 16 + 15 * c) 1 = v (13 + 16 + 15 * c) 1 := by rw [hu, if_neg (by omega), if_neg (by omega), if_neg (by omega), if_neg (by omega), if_neg (by omega), if_neg (by omega), if_neg (by omega), if_neg (by omega), if_neg (by omega), if_neg (by omega), if_neg (by omega)]
    have g1 : u (13 + 18 + 15 * c) 0 = v (13 + 18 + 15 * c) 0 := by rw [hu, if_neg (by omega), if_neg (by omega), if_neg (by omega), if_neg (by omega), if_neg (by omega), if_neg (by omega), if_neg (by omega), if_neg (by omega), if_neg (by omega), if_neg (by omega), if_neg (by omega)]
    have g2 : u (13 + 18 + 15 * c) 1 = v (13 + 18 + 15 * c) 1 := by rw [hu, if_neg (by omega), if_neg (by omega), if_neg (by omega), if_neg (by omega), if_neg (by omega), if_neg (by omega), if_neg (by omega), if_neg (by omega), if_neg (by omega), if_neg (by omega), if_neg (by omega)]
    have g3 : z (34 + 7 * c) = s (34 + 7 * c) := by rw [hs, if_neg (by omega), if_neg (by omega), if_neg (by omega), if_neg (by omega), if_neg (by omega), if_neg (by omega), if_neg (by omega), if_neg (by omega), if_neg (by omega), if_neg (by omega), if_neg (by omega)]
    have g4 : z (35 + 7 * c) = s (35 + 7 * c) := by rw [hs, if_neg (by omega), if_neg (by omega), if_neg (by omega), if_neg (by omega), if_neg (by omega), if_neg (by omega), if_neg (by omega), if_neg (by omega), if_neg (by omega), if_neg (by omega), if_neg (by omega)]
    have g5 : z (74 + 2 * c) = s (74 + 2 * c) := by rw [hs, if_neg (by omega), if_neg (by omega), if_neg (by omega), if_neg (by omega), if_neg (by omega), if_neg (by omega), if_neg (by omega), if_neg (by omega), if_neg (by omega), if_neg (by omega), if_neg (by omega)]
    have g6 : z (75 + 2 * c) = s (75 + 2 * c) := by rw [hs, if_neg (by omega), if_neg (by omega), if_neg (by omega), if_neg (by omega), if_neg (by omega), if_neg (by omega), if_neg (by omega), if_neg (by omega), if_neg (by omega), if_neg (by omega), if_neg (by omega)]
    rw [g0, g1, g2, g3, g4, g5, g6]
    exact hh
theorem bt_0 : ∀ d : Fin 6, (btx 0 (Int32.ofNat d.val)).toInt = 0 := by decide +kernel
set_option maxHeartbeats 4000000 in
theorem RG_open {v u : Nat → Nat → Int32} {s z : Nat → Int32} {X : Nat} {x a b : Int32} (hX : X < 6) (hn : (s 2).toInt = (X : Int)) (hx : x.toInt = (s 2).toInt + 1) (h3 : (s 3).toInt ≤ 6) (hu : ∀ k j : Nat, u k j = if k = 13 ∧ j = 2 then x else if 36 + 15 * X ≤ k ∧ (k : Int) < 36 + 15 * (X : Int) + 2 ∧ j < 24 then 7 else if k = 31 + 15 * X ∧ (j : Int) < 2 then -1 else if k = 30 + 15 * X ∧ j = 1 then b else if k = 30 + 15 * X ∧ j = 0 then a else if k = 29 + 15 * X ∧ j = 5 then 0 else if k = 29 + 15 * X ∧ j = 4 then 0 else if k = 29 + 15 * X ∧ j = 3 then 1 else if k = 29 + 15 * X ∧ j = 2 then 0 else if k = 29 + 15 * X ∧ j = 1 then 0 else if k = 29 + 15 * X ∧ j = 0 then 0 else v k j) (hs : ∀ n : Nat, z n = if n = 2 then x else if 308 + 48 * X ≤ n ∧ (n : Int) < 308 + 48 * (X : Int) + 48 then 7 else if n = 75 + 2 * X then -5 else if n = 74 + 2 * X then -5 else if n = 38 + 7 * X then 0 else if n = 37 + 7 * X then 1 else if n = 36 + 7 * X then 0 else if n = 35 + 7 * X then -5 else if n = 34 + 7 * X then 0 else if n = 33 + 7 * X then b else if n = 32 + 7 * X then a else s n) (h : RG 13 v s) : RG 13 u z := by
  have A2 : (z 2).toInt = (s 2).toInt + 1 := by rw [hs, if_pos rfl]; exact hx
  have A3 : z 3 = s 3 := by rw [hs, if_neg (by omega), if_neg (by omega), if_neg (by omega), if_neg (by omega), if_neg (by omega), if_neg (by omega), if_neg (by omega), if_neg (by omega), if_neg (by omega), if_neg (by omega), if_neg (by omega)]
  have em : ∀ n : Nat, 146 ≤ n → n < 158 → z n = s n := fun n h1 h2 => by rw [hs, if_neg (by omega), if_neg (by omega), if_neg (by omega), if_neg (by omega), if_neg (by omega), if_neg (by omega), if_neg (by omega), if_neg (by omega), if_neg (by omega), if_neg (by omega), if_neg (by omega)]
  have key : ∀ k a b : Nat, (k : Int) < (s 3).toInt → (mj z k a b ↔ mj s k a b) := fun k a b hk => by
    unfold mj
    rw [em (146 + 2 * k) (by omega) (by omega), em (147 + 2 * k) (by omega) (by omega)]
  refine ⟨fun c hc ha => ?_, fun k hk => ?_⟩
  · unfold GC
    rw [A3]
    by_cases hq : c = X
    · subst hq
      have g0 : u (13 + 16 + 15 * c) 4 = 0 := by rw [hu, if_neg (by omega), if_neg (by omega), if_neg (by omega), if_neg (by omega), if_neg (by omega), if_neg (by omega), if_pos (by omega)]
      rw [g0]
      refine ⟨by decide, fun d hd => ⟨fun q => absurd q (by rw [bt_0 ⟨d, hd⟩]; decide), fun ⟨k, q1, q2⟩ => ?_⟩⟩
      have w := h.2 k q1
      have q3 := (key k c d q1).mp q2
      unfold mj at q3
      omega
    · have g0 : u (13 + 16 + 15 * c) 4 = v (13 + 16 + 15 * c) 4 := by rw [hu, if_neg (by omega), if_neg (by omega), if_neg (by omega), if_neg (by omega), if_neg (by omega), if_neg (by omega), if_neg (by omega), if_neg (by omega), if_neg (by omega), if_neg (by omega), if_neg (by omega)]
      rw [g0]
      obtain ⟨g1, g2⟩ := h.1 c hc (by omega)
      exact ⟨g1, fun d hd => (g2 d hd).trans ⟨fun ⟨k, q1, q2⟩ => ⟨k, q1, (key k c d q1).mpr q2⟩, fun ⟨k, q1, q2⟩ => ⟨k, q1, (key k c d q1).mp q2⟩⟩⟩
  · rw [A3] at hk
    rw [em (146 + 2 * k) (by omega) (by omega), em (147 + 2 * k) (by omega) (by omega), A2]
    have w := h.2 k hk
    omega

set_option maxHeartbeats 4000000 in
theorem T_open {n r r2 x0 x1 : Int32} {v u v2 u2 : Nat → Nat → Int32} (hI : Iv v) (hQ : Ir v2) (h : RR n v v2) (p : (¬ ((0 ≤ x0.toInt ∧ x0.toInt < (v 13 0).toInt) ∧ (0 ≤ x1.toInt ∧ x1.toInt < (v 13 0).toInt) ∧ x0.toInt ≠ x1.toInt) → r = -1 ∧ u = v) ∧ (((0 ≤ x0.toInt ∧ x0.toInt < (v 13 0).toInt) ∧ (0 ≤ x1.toInt ∧ x1.toInt < (v 13 0).toInt) ∧ x0.toInt ≠ x1.toInt) ∧ 6 ≤ (v 13 2).toInt → r = -2 ∧ u = v) ∧ (((0 ≤ x0.toInt ∧ x0.toInt < (v 13 0).toInt) ∧ (0 ≤ x1.toInt ∧ x1.toInt < (v 13 0).toInt) ∧ x0.toInt ≠ x1.toInt) ∧ (v 13 2).toInt < 6 → r = v 13 2 ∧ (∀ k j : Nat, u k j = if k = 13 ∧ j = 2 then v 13 2 + 1 else if 36 + 15 * (v 13 2).toNatClampNeg ≤ k ∧ (k : Int) < 36 + 15 * ((v 13 2).toNatClampNeg : Int) + 2 ∧ j < 24 then 7 else if k = 31 + 15 * (v 13 2).toNatClampNeg ∧ (j : Int) < 2 then -1 else if k = 30 + 15 * (v 13 2).toNatClampNeg ∧ j = 1 then x1 else if k = 30 + 15 * (v 13 2).toNatClampNeg ∧ j = 0 then x0 else if k = 29 + 15 * (v 13 2).toNatClampNeg ∧ j = 5 then 0 else if k = 29 + 15 * (v 13 2).toNatClampNeg ∧ j = 4 then 0 else if k = 29 + 15 * (v 13 2).toNatClampNeg ∧ j = 3 then 1 else if k = 29 + 15 * (v 13 2).toNatClampNeg ∧ j = 2 then 0 else if k = 29 + 15 * (v 13 2).toNatClampNeg ∧ j = 1 then 0 else if k = 29 + 15 * (v 13 2).toNatClampNeg ∧ j = 0 then 0 else v k j))) (q : (¬ ((0 ≤ x0.toInt ∧ x0.toInt < (v2 1 0).toInt) ∧ (0 ≤ x1.toInt ∧ x1.toInt < (v2 1 0).toInt) ∧ x0.toInt ≠ x1.toInt) → r2 = -1 ∧ u2 = v2) ∧ (((0 ≤ x0.toInt ∧ x0.toInt < (v2 1 0).toInt) ∧ (0 ≤ x1.toInt ∧ x1.toInt < (v2 1 0).toInt) ∧ x0.toInt ≠ x1.toInt) ∧ (v2 1 2).toInt = 6 → r2 = -2 ∧ u2 = v2) ∧ (((0 ≤ x0.toInt ∧ x0.toInt < (v2 1 0).toInt) ∧ (0 ≤ x1.toInt ∧ x1.toInt < (v2 1 0).toInt) ∧ x0.toInt ≠ x1.toInt) ∧ (v2 1 2).toInt ≠ 6 → r2 = v2 1 2 ∧ (∀ n : Nat, u2 1 n = if n = 2 then v2 1 2 + 1 else if 308 + 48 * (v2 1 2).toNatClampNeg ≤ n ∧ (n : Int) < 308 + 48 * ((v2 1 2).toNatClampNeg : Int) + 48 then 7 else if n = 75 + 2 * (v2 1 2).toNatClampNeg then -5 else if n = 74 + 2 * (v2 1 2).toNatClampNeg then -5 else if n = 38 + 7 * (v2 1 2).toNatClampNeg then 0 else if n = 37 + 7 * (v2 1 2).toNatClampNeg then 1 else if n = 36 + 7 * (v2 1 2).toNatClampNeg then 0 else if n = 35 + 7 * (v2 1 2).toNatClampNeg then -5 else if n = 34 + 7 * (v2 1 2).toNatClampNeg then 0 else if n = 33 + 7 * (v2 1 2).toNatClampNeg then x1 else if n = 32 + 7 * (v2 1 2).toNatClampNeg then x0 else v2 1 n) ∧ (∀ k : Nat, k ≠ 1 → u2 k = v2 k))) : r = r2 ∧ RR n u u2 := by
  have e0 : v 13 0 = v2 1 0 := h.1.1 _ _ _ (lk_a (by decide))
  have e1 : v 13 1 = v2 1 1 := h.1.1 _ _ _ (lk_a (by decide))
  have e2 : v 13 2 = v2 1 2 := h.1.1 _ _ _ (lk_a (by decide))
  have e3 : v 13 3 = v2 1 3 := h.1.1 _ _ _ (lk_a (by decide))
  have hb0 := hQ 1 0 8 (by decide)
  have hb1 := hQ 1 1 4 (by decide)
  have hb2 := hQ 1 2 6 (by decide)
  have hb3 := hQ 1 3 6 (by decide)
  rw [e0, e2] at p
  by_cases hC : (0 ≤ x0.toInt ∧ x0.toInt < (v2 1 0).toInt) ∧ (0 ≤ x1.toInt ∧ x1.toInt < (v2 1 0).toInt) ∧ x0.toInt ≠ x1.toInt
  · by_cases hD : (v2 1 2).toInt = 6
    · obtain ⟨p1, p2⟩ := p.2.1 ⟨hC, by omega⟩
      obtain ⟨q1, q2⟩ := q.2.1 ⟨hC, hD⟩
      rw [p1, q1, p2, q2]
      exact ⟨rfl, h⟩
    · obtain ⟨p1, p2⟩ := p.2.2 ⟨hC, by omega⟩
      obtain ⟨q1, q2, q3⟩ := q.2.2 ⟨hC, hD⟩
      have zX := t_nn (x := v2 1 2) (by omega)
      have hX : (v2 1 2).toNatClampNeg < 6 := by omega
      have k1 : (1 : Int32).toInt = 1 := by decide
      have hx : (v2 1 2 + 1).toInt = (v2 1 2).toInt + 1 := by rw [t_add (by rw [k1]; omega), k1]
      exact ⟨by rw [p1, q1], h.wr q3 (funext fun j => by rw [p2, if_neg (by omega), if_neg (by omega), if_neg (by omega), if_neg (by omega), if_neg (by omega), if_neg (by omega), if_neg (by omega), if_neg (by omega), if_neg (by omega), if_neg (by omega), if_neg (by omega)]) (fun k hk => funext fun j => by rw [p2, if_neg (by omega), if_neg (by omega), if_neg (by omega), if_neg (by omega), if_neg (by omega), if_neg (by omega), if_neg (by omega), if_neg (by omega), if_neg (by omega), if_neg (by omega), if_neg (by omega)]) ⟨RL_open hX (by omega) hx p2 q2 h.1.1, RX_open hX (by omega) hx p2 q2 h.1.2.1, h.1.2.2.1.cg (by rw [q2, if_neg (by omega), if_neg (by omega), if_neg (by omega), if_neg (by omega), if_neg (by omega), if_neg (by omega), if_neg (by omega), if_neg (by omega), if_neg (by omega), if_neg (by omega), if_neg (by omega)]) (by rw [q2, if_neg (by omega), if_neg (by omega), if_neg (by omega), if_neg (by omega), if_neg (by omega), if_neg (by omega), if_neg (by omega), if_neg (by omega), if_neg (by omega), if_neg (by omega), if_neg (by omega)]) (fun m hm => by rw [q2, if_neg (by omega), if_neg (by omega), if_neg (by omega), if_neg (by omega), if_neg (by omega), if_neg (by omega), if_neg (by omega), if_neg (by omega), if_neg (by omega), if_neg (by omega), if_neg (by omega)]), RG_open hX (by omega) hx hb3.2 p2 q2 h.1.2.2.2⟩⟩
  · obtain ⟨p1, p2⟩ := p.1 hC
    obtain ⟨q1, q2⟩ := q.1 hC
    rw [p1, q1, p2, q2]
    exact ⟨rfl, h⟩

set_option maxHeartbeats 4000000 in
theorem RL_mark {v u : Nat → Nat → Int32} {s z : Nat → Int32} {X Y M : Nat} {x a b c0 d : Int32} (hX : X < 6) (hY : Y < 6) (hM : M < 6) (hu : ∀ k j : Nat, u k j = if k = 13 ∧ j = 3 then x else if k = 29 + 15 * Y ∧ j = 4 then b else if k = 29 + 15 * X ∧ j = 4 then a else v k j) (hs : ∀ n : Nat, z n = if n = 3 then x else if n = 147 + 2 * M then d else if n = 146 + 2 * M then c0 else s n) (hR : RLk 13 v s) : RLk 13 u z := by
  have A0 : (z 0).toInt = (s 0).toInt := by rw [hs, if_neg (by omega), if_neg (by omega), if_neg (by omega)]
  have A1 : (z 1).toInt = (s 1).toInt := by rw [hs, if_neg (by omega), if_neg (by omega), if_neg (by omega)]
  have A2 : (z 2).toInt = (s 2).toInt := by rw [hs, if_neg (by omega), if_neg (by omega), if_neg (by omega)]
  have A36 : ∀ c : Nat, c < 6 → (z (36 + 7 * c)).toInt = (s (36 + 7 * c)).toInt := fun c hc => by rw [hs, if_neg (by omega), if_neg (by omega), if_neg (by omega)]
  have A38 : ∀ c : Nat, c < 6 → (z (38 + 7 * c)).toInt = (s (38 + 7 * c)).toInt := fun c hc => by rw [hs, if_neg (by omega), if_neg (by omega), if_neg (by omega)]
  intro k j n h
  unfold lk at h
  rcases h with ⟨rfl, hj, rfl⟩ | ⟨p, hp, ha, hj, rfl, rfl⟩ | ⟨m, hm, ha, hj, rfl, rfl⟩ | ⟨m, hm, ha, rfl, rfl, rfl⟩ | ⟨c, hc, ha, rfl, rfl, rfl⟩ | ⟨c, hc, ha, rfl, rfl, rfl⟩ | ⟨c, hc, ha, rfl, rfl, rfl⟩ | ⟨c, hc, ha, rfl, rfl, rfl⟩ | ⟨c, hc, ha, hj, rfl, rfl⟩ | ⟨c, i, hc, ha, hi, hj, hr, rfl, rfl⟩ | ⟨c, i, hc, ha, hi, hj, rfl, rfl⟩ | ⟨c, t, hc, ha, ht, hr, hj, rfl, rfl⟩
  · by_cases e0 : 13 = 13 ∧ n = 3
    · have d1 : u (13) n = x := by rw [hu, if_pos (by omega)]
      have d2 : z (n) = x := by rw [hs, if_pos (by omega)]
      exact d1.trans d2.symm
    · skip
      have d1 : u (13) n = v (13) n := by rw [hu, if_neg (by omega), if_neg (by omega), if_neg (by omega)]
      have d2 : z (n) = s (n) := by rw [hs, if_neg (by omega), if_neg (by omega), if_neg (by omega)]
      exact d1.trans ((hR _ _ _ (lk_a hj)).trans d2.symm)
  · have d1 : u (13 + 4 + p) j = v (13 + 4 + p) j := by rw [hu, if_neg (by omega), if_neg (by omega), if_neg (by omega)]
    have d2 : z (4 + 2 * p + j) = s (4 + 2 * p + j) := by rw [hs, if_neg (by omega), if_neg (by omega), if_neg (by omega)]
    exact d1.trans ((hR _ _ _ (lk_p hp (by omega) hj)).trans d2.symm)
  · have d1 : u (13 + 12 + m) j = v (13 + 12 + m) j := by rw [hu, if_neg (by omega), if_neg (by omega), if_neg (by omega)]
    have d2 : z (20 + 2 * m + j) = s (20 + 2 * m + j) := by rw [hs, if_neg (by omega), if_neg (by omega), if_neg (by omega)]
    exact d1.trans ((hR _ _ _ (lk_m hm (by omega) hj)).trans d2.symm)
  · have d1 : u (13 + 12 + m) 2 = v (13 + 12 + m) 2 := by rw [hu, if_neg (by omega), if_neg (by omega), if_neg (by omega)]
    have d2 : z (28 + m) = s (28 + m) := by rw [hs, if_neg (by omega), if_neg (by omega), if_neg (by omega)]
    exact d1.trans ((hR _ _ _ (lk_k_ hm (by omega))).trans d2.symm)
  · have d1 : u (13 + 16 + 15 * c) 0 = v (13 + 16 + 15 * c) 0 := by rw [hu, if_neg (by omega), if_neg (by omega), if_neg (by omega)]
    have d2 : z (34 + 7 * c) = s (34 + 7 * c) := by rw [hs, if_neg (by omega), if_neg (by omega), if_neg (by omega)]
    exact d1.trans ((hR _ _ _ (lk_c0 hc (by omega))).trans d2.symm)
  · have d1 : u (13 + 16 + 15 * c) 2 = v (13 + 16 + 15 * c) 2 := by rw [hu, if_neg (by omega), if_neg (by omega), if_neg (by omega)]
    have d2 : z (36 + 7 * c) = s (36 + 7 * c) := by rw [hs, if_neg (by omega), if_neg (by omega), if_neg (by omega)]
    exact d1.trans ((hR _ _ _ (lk_c2 hc (by omega))).trans d2.symm)
  · have d1 : u (13 + 16 + 15 * c) 3 = v (13 + 16 + 15 * c) 3 := by rw [hu, if_neg (by omega), if_neg (by omega), if_neg (by omega)]
    have d2 : z (37 + 7 * c) = s (37 + 7 * c) := by rw [hs, if_neg (by omega), if_neg (by omega), if_neg (by omega)]
    exact d1.trans ((hR _ _ _ (lk_c3 hc (by omega))).trans d2.symm)
  · have d1 : u (13 + 16 + 15 * c) 5 = v (13 + 16 + 15 * c) 5 := by rw [hu, if_neg (by omega), if_neg (by omega), if_neg (by omega)]
    have d2 : z (38 + 7 * c) = s (38 + 7 * c) := by rw [hs, if_neg (by omega), if_neg (by omega), if_neg (by omega)]
    exact d1.trans ((hR _ _ _ (lk_c5 hc (by omega))).trans d2.symm)
  · have d1 : u (13 + 17 + 15 * c) j = v (13 + 17 + 15 * c) j := by rw [hu, if_neg (by omega), if_neg (by omega), if_neg (by omega)]
    have d2 : z (32 + 7 * c + j) = s (32 + 7 * c + j) := by rw [hs, if_neg (by omega), if_neg (by omega), if_neg (by omega)]
    exact d1.trans ((hR _ _ _ (lk_q hc (by omega) hj)).trans d2.symm)
  · have a36 := A36 c hc
    have d1 : u (13 + 20 + 15 * c + i) j = v (13 + 20 + 15 * c + i) j := by rw [hu, if_neg (by omega), if_neg (by omega), if_neg (by omega)]
    have d2 : z (86 + 10 * c + 2 * j + i) = s (86 + 10 * c + 2 * j + i) := by rw [hs, if_neg (by omega), if_neg (by omega), if_neg (by omega)]
    exact d1.trans ((hR _ _ _ (lk_o hc (by omega) hi hj (by omega))).trans d2.symm)
  · have d1 : u (13 + 23 + 15 * c + i) j = v (13 + 23 + 15 * c + i) j := by rw [hu, if_neg (by omega), if_neg (by omega), if_neg (by omega)]
    have d2 : z (308 + 48 * c + 24 * i + j) = s (308 + 48 * c + 24 * i + j) := by rw [hs, if_neg (by omega), if_neg (by omega), if_neg (by omega)]
    exact d1.trans ((hR _ _ _ (lk_l hc (by omega) hi hj)).trans d2.symm)
  · have a38 := A38 c hc
    have d1 : u (13 + 26 + 15 * c + t) j = v (13 + 26 + 15 * c + t) j := by rw [hu, if_neg (by omega), if_neg (by omega), if_neg (by omega)]
    have d2 : z (158 + 25 * c + 5 * t + j) = s (158 + 25 * c + 5 * t + j) := by rw [hs, if_neg (by omega), if_neg (by omega), if_neg (by omega)]
    exact d1.trans ((hR _ _ _ (lk_t hc (by omega) ht (by omega) hj)).trans d2.symm)

/-- a mark's bit -/
theorem kb_4 : ∀ x : Fin 64, ∀ p : Fin 6, (0 ≤ (Int32.ofNat x.val ||| (1 <<< (Int32.ofNat p.val &&& 31))).toInt ∧ (Int32.ofNat x.val ||| (1 <<< (Int32.ofNat p.val &&& 31))).toInt < 64) ∧ ∀ d : Fin 6, ((btx (Int32.ofNat x.val ||| (1 <<< (Int32.ofNat p.val &&& 31))) (Int32.ofNat d.val)).toInt = 1 ↔ ((btx (Int32.ofNat x.val) (Int32.ofNat d.val)).toInt = 1 ∨ d.val = p.val)) := by decide +kernel
theorem mk_bit {x y : Int32} {P : Nat} (hx : 0 ≤ x.toInt ∧ x.toInt < 64) (hP : P < 6) (hy : y.toInt = (P : Int)) : (0 ≤ (x ||| (1 <<< (y &&& 31))).toInt ∧ (x ||| (1 <<< (y &&& 31))).toInt < 64) ∧ ∀ d : Nat, d < 6 → ((btx (x ||| (1 <<< (y &&& 31))) (Int32.ofNat d)).toInt = 1 ↔ ((btx x (Int32.ofNat d)).toInt = 1 ∨ d = P)) := by
  have zx := t_nn hx.1
  have zy := t_nn (x := y) (by omega)
  have ex := ofn hx.1
  have ey := ofn (x := y) (by omega)
  have eP : y.toNatClampNeg = P := by omega
  rw [eP] at ey
  have k := kb_4 ⟨x.toNatClampNeg, by omega⟩ ⟨P, hP⟩
  refine ⟨?_, fun d hd => ?_⟩
  · have k1 : 0 ≤ (Int32.ofNat x.toNatClampNeg ||| (1 <<< (Int32.ofNat P &&& 31))).toInt ∧ (Int32.ofNat x.toNatClampNeg ||| (1 <<< (Int32.ofNat P &&& 31))).toInt < 64 := k.1
    rw [← ex, ← ey] at k1
    exact k1
  · have k2 : (btx (Int32.ofNat x.toNatClampNeg ||| (1 <<< (Int32.ofNat P &&& 31))) (Int32.ofNat d)).toInt = 1 ↔ ((btx (Int32.ofNat x.toNatClampNeg) (Int32.ofNat d)).toInt = 1 ∨ d = P) := k.2 ⟨d, hd⟩
    rw [← ex, ← ey] at k2
    exact k2
set_option maxHeartbeats 4000000 in
theorem RG_mark {v u : Nat → Nat → Int32} {s z : Nat → Int32} {X Y M : Nat} {x y0 y1 : Int32} (hX : X < 6) (hY : Y < 6) (hM : M < 6) (hXY : X ≠ Y) (hn : (s 3).toInt = (M : Int)) (hx : x.toInt = (s 3).toInt + 1) (h0 : y0.toInt = (X : Int)) (h1 : y1.toInt = (Y : Int)) (hcX : (X : Int) < (s 2).toInt) (hcY : (Y : Int) < (s 2).toInt) (hu : ∀ k j : Nat, u k j = if k = 13 ∧ j = 3 then x else if k = 29 + 15 * Y ∧ j = 4 then v (29 + 15 * Y) 4 ||| (1 <<< (y0 &&& 31)) else if k = 29 + 15 * X ∧ j = 4 then v (29 + 15 * X) 4 ||| (1 <<< (y1 &&& 31)) else v k j) (hs : ∀ n : Nat, z n = if n = 3 then x else if n = 147 + 2 * M then y1 else if n = 146 + 2 * M then y0 else s n) (h : RG 13 v s) : RG 13 u z := by
  have A2 : z 2 = s 2 := by rw [hs, if_neg (by omega), if_neg (by omega), if_neg (by omega)]
  have A3 : (z 3).toInt = (s 3).toInt + 1 := by rw [hs, if_pos rfl]; exact hx
  have eo : ∀ k : Nat, (k : Int) < (s 3).toInt → z (146 + 2 * k) = s (146 + 2 * k) ∧ z (147 + 2 * k) = s (147 + 2 * k) := fun k hk => ⟨by rw [hs, if_neg (by omega), if_neg (by omega), if_neg (by omega)], by rw [hs, if_neg (by omega), if_neg (by omega), if_neg (by omega)]⟩
  have en : z (146 + 2 * M) = y0 ∧ z (147 + 2 * M) = y1 := ⟨by rw [hs, if_neg (by omega), if_neg (by omega), if_pos rfl], by rw [hs, if_neg (by omega), if_pos rfl]⟩
  have key : ∀ a b : Nat, (∃ k : Nat, (k : Int) < (z 3).toInt ∧ mj z k a b) ↔ ((∃ k : Nat, (k : Int) < (s 3).toInt ∧ mj s k a b) ∨ (a = X ∧ b = Y) ∨ (a = Y ∧ b = X)) := fun a b => by
    refine ⟨fun ⟨k, q1, q2⟩ => ?_, fun q => ?_⟩
    · by_cases hk : (k : Int) < (s 3).toInt
      · refine Or.inl ⟨k, hk, ?_⟩
        unfold mj at q2 ⊢
        rw [(eo k hk).1, (eo k hk).2] at q2
        exact q2
      · have ek : k = M := by omega
        subst ek
        unfold mj at q2
        rw [en.1, en.2, h0, h1] at q2
        omega
    · rcases q with ⟨k, q1, q2⟩ | q
      · refine ⟨k, by omega, ?_⟩
        unfold mj at q2 ⊢
        rw [(eo k q1).1, (eo k q1).2]
        exact q2
      · refine ⟨M, by omega, ?_⟩
        unfold mj
        rw [en.1, en.2, h0, h1]
        omega
  refine ⟨fun c hc ha => ?_, fun k hk => ?_⟩
  · rw [A2] at ha
    obtain ⟨g1, g2⟩ := h.1 c hc ha
    by_cases cX : c = X
    · subst cX
      have g0 : u (13 + 16 + 15 * c) 4 = v (29 + 15 * c) 4 ||| (1 <<< (y1 &&& 31)) := by rw [hu, if_neg (by omega), if_neg (by omega), if_pos (by omega)]
      obtain ⟨b1, b2⟩ := mk_bit (x := v (29 + 15 * c) 4) g1 hY h1
      unfold GC
      rw [g0]
      refine ⟨b1, fun d hd => (b2 d hd).trans (((or_congr (g2 d hd) Iff.rfl).trans ?_).trans (key c d).symm)⟩
      refine or_congr Iff.rfl ⟨fun q => Or.inl ⟨rfl, q⟩, fun q => ?_⟩
      omega
    · by_cases cY : c = Y
      · subst cY
        have g0 : u (13 + 16 + 15 * c) 4 = v (29 + 15 * c) 4 ||| (1 <<< (y0 &&& 31)) := by rw [hu, if_neg (by omega), if_pos (by omega)]
        obtain ⟨b1, b2⟩ := mk_bit (x := v (29 + 15 * c) 4) g1 hX h0
        unfold GC
        rw [g0]
        refine ⟨b1, fun d hd => (b2 d hd).trans (((or_congr (g2 d hd) Iff.rfl).trans ?_).trans (key c d).symm)⟩
        refine or_congr Iff.rfl ⟨fun q => Or.inr ⟨rfl, q⟩, fun q => ?_⟩
        omega
      · have g0 : u (13 + 16 + 15 * c) 4 = v (13 + 16 + 15 * c) 4 := by rw [hu, if_neg (by omega), if_neg (by omega), if_neg (by omega)]
        unfold GC
        rw [g0]
        refine ⟨g1, fun d hd => (g2 d hd).trans (Iff.trans ⟨fun q => Or.inl q, fun q => ?_⟩ (key c d).symm)⟩
        rcases q with q | q
        · exact q
        · exfalso
          omega
  · rw [A2]
    by_cases hk2 : (k : Int) < (s 3).toInt
    · rw [(eo k hk2).1, (eo k hk2).2]
      exact h.2 k hk2
    · have ek : k = M := by omega
      subst ek
      rw [en.1, en.2]
      omega

set_option maxHeartbeats 4000000 in
theorem T_mark {n r r2 x0 x1 : Int32} {v u v2 u2 : Nat → Nat → Int32} (hI : Iv v) (hQ : Ir v2) (h : RR n v v2) (p : (¬ ((0 ≤ x0.toInt ∧ x0.toInt < (v 13 2).toInt) ∧ (0 ≤ x1.toInt ∧ x1.toInt < (v 13 2).toInt) ∧ x0.toInt ≠ x1.toInt) → r = -1 ∧ u = v) ∧ (((0 ≤ x0.toInt ∧ x0.toInt < (v 13 2).toInt) ∧ (0 ≤ x1.toInt ∧ x1.toInt < (v 13 2).toInt) ∧ x0.toInt ≠ x1.toInt) ∧ (btx (v (29 + 15 * x0.toNatClampNeg) 4) x1).toInt = 1 → r = -3 ∧ u = v) ∧ (((0 ≤ x0.toInt ∧ x0.toInt < (v 13 2).toInt) ∧ (0 ≤ x1.toInt ∧ x1.toInt < (v 13 2).toInt) ∧ x0.toInt ≠ x1.toInt) ∧ (btx (v (29 + 15 * x0.toNatClampNeg) 4) x1).toInt ≠ 1 ∧ 6 ≤ (v 13 3).toInt → r = -2 ∧ u = v) ∧ (((0 ≤ x0.toInt ∧ x0.toInt < (v 13 2).toInt) ∧ (0 ≤ x1.toInt ∧ x1.toInt < (v 13 2).toInt) ∧ x0.toInt ≠ x1.toInt) ∧ (btx (v (29 + 15 * x0.toNatClampNeg) 4) x1).toInt ≠ 1 ∧ (v 13 3).toInt < 6 → r = v 13 3 + 1 ∧ (∀ k j : Nat, u k j = if k = 13 ∧ j = 3 then v 13 3 + 1 else if k = 29 + 15 * x1.toNatClampNeg ∧ j = 4 then v (29 + 15 * x1.toNatClampNeg) 4 ||| (1 <<< (x0 &&& 31)) else if k = 29 + 15 * x0.toNatClampNeg ∧ j = 4 then v (29 + 15 * x0.toNatClampNeg) 4 ||| (1 <<< (x1 &&& 31)) else v k j))) (q : (¬ ((0 ≤ x0.toInt ∧ x0.toInt < (v2 1 2).toInt) ∧ (0 ≤ x1.toInt ∧ x1.toInt < (v2 1 2).toInt) ∧ x0.toInt ≠ x1.toInt) → r2 = -1 ∧ u2 = v2) ∧ (((0 ≤ x0.toInt ∧ x0.toInt < (v2 1 2).toInt) ∧ (0 ≤ x1.toInt ∧ x1.toInt < (v2 1 2).toInt) ∧ x0.toInt ≠ x1.toInt) ∧ (∃ k : Nat, (k : Int) < (v2 1 3).toInt ∧ mk (v2 1) k x0 x1) → r2 = -3 ∧ u2 = v2) ∧ (((0 ≤ x0.toInt ∧ x0.toInt < (v2 1 2).toInt) ∧ (0 ≤ x1.toInt ∧ x1.toInt < (v2 1 2).toInt) ∧ x0.toInt ≠ x1.toInt) ∧ ¬ (∃ k : Nat, (k : Int) < (v2 1 3).toInt ∧ mk (v2 1) k x0 x1) ∧ (v2 1 3).toInt = 6 → r2 = -2 ∧ u2 = v2) ∧ (((0 ≤ x0.toInt ∧ x0.toInt < (v2 1 2).toInt) ∧ (0 ≤ x1.toInt ∧ x1.toInt < (v2 1 2).toInt) ∧ x0.toInt ≠ x1.toInt) ∧ ¬ (∃ k : Nat, (k : Int) < (v2 1 3).toInt ∧ mk (v2 1) k x0 x1) ∧ (v2 1 3).toInt ≠ 6 → r2 = v2 1 3 + 1 ∧ (∀ n : Nat, u2 1 n = if n = 3 then v2 1 3 + 1 else if n = 147 + 2 * (v2 1 3).toNatClampNeg then x1 else if n = 146 + 2 * (v2 1 3).toNatClampNeg then x0 else v2 1 n) ∧ (∀ k : Nat, k ≠ 1 → u2 k = v2 k))) : r = r2 ∧ RR n u u2 := by
  have e0 : v 13 0 = v2 1 0 := h.1.1 _ _ _ (lk_a (by decide))
  have e1 : v 13 1 = v2 1 1 := h.1.1 _ _ _ (lk_a (by decide))
  have e2 : v 13 2 = v2 1 2 := h.1.1 _ _ _ (lk_a (by decide))
  have e3 : v 13 3 = v2 1 3 := h.1.1 _ _ _ (lk_a (by decide))
  have hb0 := hQ 1 0 8 (by decide)
  have hb1 := hQ 1 1 4 (by decide)
  have hb2 := hQ 1 2 6 (by decide)
  have hb3 := hQ 1 3 6 (by decide)
  rw [e2, e3] at p
  by_cases hC : (0 ≤ x0.toInt ∧ x0.toInt < (v2 1 2).toInt) ∧ (0 ≤ x1.toInt ∧ x1.toInt < (v2 1 2).toInt) ∧ x0.toInt ≠ x1.toInt
  · have zX := t_nn (x := x0) (by omega)
    have hX : x0.toNatClampNeg < 6 := by omega
    have ha : (x0.toNatClampNeg : Int) < (v2 1 2).toInt := by omega
    have zY := t_nn (x := x1) (by omega)
    have hY : x1.toNatClampNeg < 6 := by omega
    have hb : (x1.toNatClampNeg : Int) < (v2 1 2).toInt := by omega
    have hXY : x0.toNatClampNeg ≠ x1.toNatClampNeg := by omega
    obtain ⟨g1, g2⟩ := h.1.2.2.2.1 _ hX ha
    have g3 := g2 _ hY
    rw [← ofn (x := x1) (by omega)] at g3
    have g4 : (btx (v (29 + 15 * x0.toNatClampNeg) 4) x1).toInt = 1 ↔ ∃ k : Nat, (k : Int) < (v2 1 3).toInt ∧ mk (v2 1) k x0 x1 := g3.trans ⟨fun ⟨k, a, b⟩ => ⟨k, a, by unfold mj at b; unfold mk; omega⟩, fun ⟨k, a, b⟩ => ⟨k, a, by unfold mk at b; unfold mj; omega⟩⟩
    by_cases hT : ∃ k : Nat, (k : Int) < (v2 1 3).toInt ∧ mk (v2 1) k x0 x1
    · obtain ⟨p1, p2⟩ := p.2.1 ⟨hC, g4.mpr hT⟩
      obtain ⟨q1, q2⟩ := q.2.1 ⟨hC, hT⟩
      rw [p1, q1, p2, q2]
      exact ⟨rfl, h⟩
    · have hN : (btx (v (29 + 15 * x0.toNatClampNeg) 4) x1).toInt ≠ 1 := fun w => hT (g4.mp w)
      by_cases hD : (v2 1 3).toInt = 6
      · obtain ⟨p1, p2⟩ := p.2.2.1 ⟨hC, hN, by omega⟩
        obtain ⟨q1, q2⟩ := q.2.2.1 ⟨hC, hT, hD⟩
        rw [p1, q1, p2, q2]
        exact ⟨rfl, h⟩
      · obtain ⟨p1, p2⟩ := p.2.2.2 ⟨hC, hN, by omega⟩
        obtain ⟨q1, q2, q3⟩ := q.2.2.2 ⟨hC, hT, hD⟩
        have zM := t_nn (x := v2 1 3) (by omega)
        have hM : (v2 1 3).toNatClampNeg < 6 := by omega
        have k1 : (1 : Int32).toInt = 1 := by decide
        have hx : (v2 1 3 + 1).toInt = (v2 1 3).toInt + 1 := by rw [t_add (by rw [k1]; omega), k1]
        clear hT hN g4 g3 g2 p q
        exact ⟨by rw [p1, q1], h.wr q3 (funext fun j => by rw [p2, if_neg (by omega), if_neg (by omega), if_neg (by omega)]) (fun k hk => funext fun j => by rw [p2, if_neg (by omega), if_neg (by omega), if_neg (by omega)]) ⟨RL_mark hX hY hM p2 q2 h.1.1, h.1.2.1.cg (by rw [q2, if_neg (by omega), if_neg (by omega), if_neg (by omega)]) (fun c hc => ⟨by rw [p2, if_neg (by omega), if_neg (by omega), if_neg (by omega)], by rw [p2, if_neg (by omega), if_neg (by omega), if_neg (by omega)], by rw [p2, if_neg (by omega), if_neg (by omega), if_neg (by omega)]⟩) (fun c hc => ⟨by rw [q2, if_neg (by omega), if_neg (by omega), if_neg (by omega)], by rw [q2, if_neg (by omega), if_neg (by omega), if_neg (by omega)], by rw [q2, if_neg (by omega), if_neg (by omega), if_neg (by omega)], by rw [q2, if_neg (by omega), if_neg (by omega), if_neg (by omega)]⟩), h.1.2.2.1.cg (by rw [q2, if_neg (by omega), if_neg (by omega), if_neg (by omega)]) (by rw [q2, if_neg (by omega), if_neg (by omega), if_neg (by omega)]) (fun m hm => by rw [q2, if_neg (by omega), if_neg (by omega), if_neg (by omega)]), RG_mark hX hY hM hXY zM.symm hx zX.symm zY.symm ha hb p2 q2 h.1.2.2.2⟩⟩
  · obtain ⟨p1, p2⟩ := p.1 hC
    obtain ⟨q1, q2⟩ := q.1 hC
    rw [p1, q1, p2, q2]
    exact ⟨rfl, h⟩

set_option maxHeartbeats 4000000 in
/-- what is in use is copied: the relation goes with it -/
theorem RQ.copy {b d : Nat} {v u : Nat → Nat → Int32} {s z : Nat → Int32} (h : RQ b v s) (hc0 : ∀ o j : Nat, lvH v b o j → u (d + o) j = v (b + o) j) (hz : ∀ n : Nat, n < 596 → z n = s n) (h3 : (s 3).toInt ≤ 6) : RQ d u z := by
  have e0 : v b 0 = s 0 := h.1 _ _ _ (lk_a (by decide))
  have e1 : v b 1 = s 1 := h.1 _ _ _ (lk_a (by decide))
  have e2 : v b 2 = s 2 := h.1 _ _ _ (lk_a (by decide))
  have hcc : ∀ o j : Nat, lvH v b o j → ∀ K L : Nat, K = d + o → L = b + o → u K j = v L j := fun o j hl K L hK hL => by
    subst hK
    subst hL
    exact hc0 o j hl
  have hca : ∀ c q j : Nat, c < 6 → (c : Int) < (s 2).toInt → lvC (v (b + 16 + 15 * c)) q j → lvH v b (16 + 15 * c + q) j := fun c q j h1 h2 h3 => Or.inr (Or.inr (Or.inr ⟨c, q, h1, by rw [e2]; exact h2, rfl, h3⟩))
  have z0 := hz 0 (by decide)
  have z1 := hz 1 (by decide)
  have z2 := hz 2 (by decide)
  have z3 := hz 3 (by decide)
  refine ⟨?_, ?_, ?_, ?_⟩
  · intro k j n hl
    rw [hz n (lk_k hl).2]
    unfold lk at hl
    rw [z0, z1, z2] at hl
    rcases hl with ⟨rfl, hj, rfl⟩ | ⟨p, hp, ha, hj, rfl, rfl⟩ | ⟨m, hm, ha, hj, rfl, rfl⟩ | ⟨m, hm, ha, rfl, rfl, rfl⟩ | ⟨c, hc, ha, rfl, rfl, rfl⟩ | ⟨c, hc, ha, rfl, rfl, rfl⟩ | ⟨c, hc, ha, rfl, rfl, rfl⟩ | ⟨c, hc, ha, rfl, rfl, rfl⟩ | ⟨c, hc, ha, hj, rfl, rfl⟩ | ⟨c, i, hc, ha, hi, hj, hr, rfl, rfl⟩ | ⟨c, i, hc, ha, hi, hj, rfl, rfl⟩ | ⟨c, t, hc, ha, ht, hr, hj, rfl, rfl⟩
    · exact (hcc 0 n (Or.inl ⟨rfl, hj⟩) _ b rfl rfl).trans (h.1 _ _ _ (lk_a hj))
    · exact (hcc (4 + p) j (Or.inr (Or.inl ⟨by omega, by omega, by rw [e0]; omega, hj⟩)) _ (b + 4 + p) (by omega) (by omega)).trans (h.1 _ _ _ (lk_p hp ha hj))
    · exact (hcc (12 + m) j (Or.inr (Or.inr (Or.inl ⟨by omega, by omega, by rw [e1]; omega, by omega⟩))) _ (b + 12 + m) (by omega) (by omega)).trans (h.1 _ _ _ (lk_m hm ha hj))
    · exact (hcc (12 + m) 2 (Or.inr (Or.inr (Or.inl ⟨by omega, by omega, by rw [e1]; omega, by omega⟩))) _ (b + 12 + m) (by omega) (by omega)).trans (h.1 _ _ _ (lk_k_ hm ha))
    · exact (hcc (16 + 15 * c + 0) 0 (hca c 0 0 hc ha (Or.inl ⟨rfl, by omega⟩)) _ (b + 16 + 15 * c) (by omega) (by omega)).trans (h.1 _ _ _ (lk_c0 hc ha))
    · exact (hcc (16 + 15 * c + 0) 2 (hca c 0 2 hc ha (Or.inl ⟨rfl, by omega⟩)) _ (b + 16 + 15 * c) (by omega) (by omega)).trans (h.1 _ _ _ (lk_c2 hc ha))
    · exact (hcc (16 + 15 * c + 0) 3 (hca c 0 3 hc ha (Or.inl ⟨rfl, by omega⟩)) _ (b + 16 + 15 * c) (by omega) (by omega)).trans (h.1 _ _ _ (lk_c3 hc ha))
    · exact (hcc (16 + 15 * c + 0) 5 (hca c 0 5 hc ha (Or.inl ⟨rfl, by omega⟩)) _ (b + 16 + 15 * c) (by omega) (by omega)).trans (h.1 _ _ _ (lk_c5 hc ha))
    · exact (hcc (16 + 15 * c + 1) j (hca c 1 j hc ha (Or.inr (Or.inl ⟨rfl, hj⟩))) _ (b + 17 + 15 * c) (by omega) (by omega)).trans (h.1 _ _ _ (lk_q hc ha hj))
    · rw [hz (36 + 7 * c) (by omega)] at hr
      have w := h.1 _ _ _ (lk_c2 hc ha)
      exact (hcc (16 + 15 * c + (4 + i)) j (hca c (4 + i) j hc ha (by unfold lvC; rw [w]; omega)) _ (b + 20 + 15 * c + i) (by omega) (by omega)).trans (h.1 _ _ _ (lk_o hc ha hi hj hr))
    · exact (hcc (16 + 15 * c + (7 + i)) j (hca c (7 + i) j hc ha (by unfold lvC; omega)) _ (b + 23 + 15 * c + i) (by omega) (by omega)).trans (h.1 _ _ _ (lk_l hc ha hi hj))
    · rw [hz (38 + 7 * c) (by omega)] at hr
      have w := h.1 _ _ _ (lk_c5 hc ha)
      exact (hcc (16 + 15 * c + (10 + t)) j (hca c (10 + t) j hc ha (by unfold lvC; rw [w]; omega)) _ (b + 26 + 15 * c + t) (by omega) (by omega)).trans (h.1 _ _ _ (lk_t hc ha ht hr hj))
  · intro c hc ha
    rw [z2] at ha
    have g0 := hcc (16 + 15 * c + 0) 1 (hca c 0 1 hc ha (Or.inl ⟨rfl, by omega⟩)) (d + 16 + 15 * c) (b + 16 + 15 * c) (by omega) (by omega)
    have g1 := hcc (16 + 15 * c + 2) 0 (hca c 2 0 hc ha (Or.inr (Or.inr (Or.inl ⟨rfl, by omega⟩)))) (d + 18 + 15 * c) (b + 18 + 15 * c) (by omega) (by omega)
    have g2 := hcc (16 + 15 * c + 2) 1 (hca c 2 1 hc ha (Or.inr (Or.inr (Or.inl ⟨rfl, by omega⟩)))) (d + 18 + 15 * c) (b + 18 + 15 * c) (by omega) (by omega)
    rw [g0, g1, g2, hz (34 + 7 * c) (by omega), hz (35 + 7 * c) (by omega), hz (74 + 2 * c) (by omega), hz (75 + 2 * c) (by omega)]
    exact h.2.1 c hc ha
  · intro m hm ha
    rw [z1] at ha
    rw [z0, hz (28 + m) (by omega)]
    exact h.2.2.1 m hm ha
  · have key : ∀ k a b : Nat, (k : Int) < (s 3).toInt → (mj z k a b ↔ mj s k a b) := fun k a b hk => by
      unfold mj
      rw [hz (146 + 2 * k) (by omega), hz (147 + 2 * k) (by omega)]
    refine ⟨fun c hc ha => ?_, fun k hk => ?_⟩
    · rw [z2] at ha
      have g0 := hcc (16 + 15 * c + 0) 4 (hca c 0 4 hc ha (Or.inl ⟨rfl, by omega⟩)) (d + 16 + 15 * c) (b + 16 + 15 * c) (by omega) (by omega)
      obtain ⟨g1, g2⟩ := h.2.2.2.1 c hc ha
      unfold GC
      rw [g0, z3]
      exact ⟨g1, fun e he => (g2 e he).trans ⟨fun ⟨k, q1, q2⟩ => ⟨k, q1, (key k c e q1).mpr q2⟩, fun ⟨k, q1, q2⟩ => ⟨k, q1, (key k c e q1).mp q2⟩⟩⟩
    · rw [z3] at hk
      rw [z2, hz (146 + 2 * k) (by omega), hz (147 + 2 * k) (by omega)]
      exact h.2.2.2.2 k hk
section RKB
variable {n r r2 x0 : Int32} {v u v2 u2 : Nat → Nat → Int32}
theorem T_rooms (h : RR n v v2) (p : (¬ (1 ≤ x0.toInt ∧ x0.toInt ≤ 2) → r = -1 ∧ u = v) ∧ (1 ≤ x0.toInt ∧ x0.toInt ≤ 2 → r = v 0 4 ∧ (∀ k j : Nat, u k j = if k = 0 ∧ j = 4 then x0 else v k j))) (q : ((¬ (1 ≤ x0.toInt ∧ x0.toInt ≤ 2) ∧ r2 = -1 ∧ u2 = v2) ∨ ((1 ≤ x0.toInt ∧ x0.toInt ≤ 2) ∧ r2 = v2 0 3 ∧ u2 0 3 = x0 ∧ u2 1 = v2 1 ∧ u2 2 = v2 2 ∧ u2 0 2 = v2 0 2))) : r = r2 ∧ RR n u u2 := by
  by_cases hC : 1 ≤ x0.toInt ∧ x0.toInt ≤ 2
  · obtain ⟨p1, p2⟩ := p.2 hC
    rcases q with ⟨q1, -⟩ | ⟨q1, q2, q3, q4, q5, q6⟩
    · exact absurd hC q1
    · have hk : ∀ k : Nat, 13 ≤ k → u k = v k := fun k hk => funext fun j => by rw [p2, if_neg (by omega)]
      obtain ⟨h1, h2, h3, h4⟩ := h
      refine ⟨by rw [p1, q2, h2], by rw [q4]; exact h1.cgv (fun k a _ => hk k a), by rw [p2, if_pos ⟨rfl, rfl⟩, q3], by rw [q6]; exact h3, fun w => by rw [q5]; exact (h4 w).cgv (fun k a _ => hk k (by omega))⟩
  · obtain ⟨p1, p2⟩ := p.1 hC
    rcases q with ⟨-, q2, q3⟩ | ⟨q1, -⟩
    · rw [p1, p2, q2, q3]
      exact ⟨rfl, h⟩
    · exact absurd q1 hC
theorem T_keep (hQ : Ir v2) (h : RR n v v2) (p1 : ∀ o j : Nat, lvH v 13 o j → u (119 + o) j = v (13 + o) j) (p2 : ∀ k : Nat, k < 119 → u k = v k) (q2 : ∀ j : Nat, j < 596 → u2 2 j = v2 1 j) (q3 : u2 1 = v2 1) (q4 : u2 0 2 = 1) (q5 : u2 0 3 = v2 0 3) : RR 1 u u2 := by
  obtain ⟨h1, h2, h3, h4⟩ := h
  have hb3 := hQ 1 3 6 (by decide)
  exact ⟨by rw [q3]; exact h1.cgv (fun k _ a => p2 k (by omega)), by rw [p2 0 (by decide), q5]; exact h2, q4, fun _ => h1.copy p1 q2 hb3.2⟩
theorem T_back0 (h : RR 0 v v2) (p : u = v ∧ r = -5) (q : (((v2 0 2).toInt = 0 ∧ u2 = v2 ∧ r2 = -5) ∨ ((v2 0 2).toInt = 1 ∧ (∀ j : Nat, j < 596 → u2 1 j = v2 2 j) ∧ u2 2 = v2 2 ∧ u2 0 = v2 0 ∧ r2 = 1))) : r = -5 ∧ r2 = -5 ∧ RR 0 u u2 := by
  rcases q with ⟨q1, q2, q3⟩ | ⟨q1, -⟩
  · refine ⟨p.2, q3, ?_⟩
    rw [p.1, q2]
    exact h
  · rw [h.2.2.1] at q1
    exact absurd q1 (by decide)
theorem T_back1 (hQ : Ir v2) (h : RR 1 v v2) (p : ((∀ o j : Nat, lvH v 119 o j → u (13 + o) j = v (119 + o) j) ∧ (∀ k : Nat, (k < 13 ∨ 119 ≤ k) → u k = v k)) ∧ r = 1) (q : (((v2 0 2).toInt = 0 ∧ u2 = v2 ∧ r2 = -5) ∨ ((v2 0 2).toInt = 1 ∧ (∀ j : Nat, j < 596 → u2 1 j = v2 2 j) ∧ u2 2 = v2 2 ∧ u2 0 = v2 0 ∧ r2 = 1))) : r = 1 ∧ r2 = 1 ∧ RR 1 u u2 := by
  rcases q with ⟨q1, -⟩ | ⟨q1, q2, q3, q4, q5⟩
  · rw [h.2.2.1] at q1
    exact absurd q1 (by decide)
  · obtain ⟨h1, h2, h3, h4⟩ := h
    have hb3 := hQ 2 3 6 (by decide)
    refine ⟨p.2, q5, (h4 rfl).copy p.1.1 q2 hb3.2, by rw [p.1.2 0 (by omega), q4]; exact h2, by rw [q4]; exact h3, fun _ => by rw [q3]; exact (h4 rfl).cgv (fun k a _ => p.1.2 k (Or.inr a))⟩
end RKB
theorem side3 (x : Int32) : x = 0 ∨ x = 1 ∨ ¬ (0 ≤ x.toInt ∧ x.toInt ≤ 1) := by
  by_cases h : 0 ≤ x.toInt ∧ x.toInt ≤ 1
  · rcases t_bool h with q | q
    · exact Or.inl q
    · exact Or.inr (Or.inl q)
  · exact Or.inr (Or.inr h)

theorem RQ_0 : RQ 13 v_0 (m_0 1) := by
  have z : (0 : Int32).toInt = 0 := by decide
  refine ⟨fun k j n h => ?_, fun c hc ha => absurd ha (by show ¬ (c : Int) < (0 : Int32).toInt; omega), fun m hm ha => absurd ha (by show ¬ (m : Int) < (0 : Int32).toInt; omega), fun c hc ha => absurd ha (by show ¬ (c : Int) < (0 : Int32).toInt; omega), fun k hk => absurd hk (by show ¬ (k : Int) < (0 : Int32).toInt; omega)⟩
  have q := lk_k h
  rw [v_0n (by omega)]
  rfl
theorem RR_0 : RR 0 v_0 m_0 := ⟨RQ_0, rfl, rfl, fun q => absurd q (by decide)⟩

set_option maxHeartbeats 4000000 in
set_option maxRecDepth 100000 in
theorem e_X7_offer_o (l : Launch) (dC : Nat → ClassId) (dI : Nat → Nat → Nat) (cy : Nat → ClassId) (sz : Nat) (ad : Nat → Nat) (kv : Value) (N : Nat) (hN : 119 ≤ N) (v : Nat → Nat → Int32) (hv : Iv v) (x0 x1 x2 : Int32) (hs : ¬ (0 ≤ x1.toInt ∧ x1.toInt ≤ 1)) : Met l yX7_offer wsX7_offer ({ frames := 3, cells := 0, slots := 0, locals := 192 }) (va_Pc [.ref (ad 0), .int x0, .int x1, .int x2] (ex_Pre dC dI cy sz (wl ad kv cy N v))) (va_Qi (fun (r : Int32) (u : Nat → Nat → Int32) => Iv u ∧ r = -1 ∧ u = v) (fun u t => ex_Pst dC dI (va_A (wl ad kv cy N v) sz) (wl ad kv cy N u) t) (va_A (wl ad kv cy N v) sz)) 0 0 (va_A (wl ad kv cy N v) sz) := by
  refine Met.ofW (cc := cX7_offer) (maxL := 5) (ret := (some .int)) (by decide) rfl ?_
  intro p e s m args below meth c s₁ B hml hv
  obtain ⟨rfl, hsz, hE, hP, hK, hD0⟩ := hv
  have hx := B.exec
  have hb := B.bytes
  have hr := B.returns
  have hts := atoms_spec (ws := wsX7_offer) B.pre
  have hown : s.vm.findClass RX7 = some m.cls := findClass_of_methodNamed B.named
  have hlocks := B.notSynchronized
  subst hsz
  have hD := hD0.self (sz := s.heap.size)
  generalize hAe : va_A (wl ad kv cy N v) s.heap.size = A at hD ⊢
  have hA : ∀ q : Nat, s.heap.size ≤ q → A q := fun q h => by rw [← hAe]; exact Or.inr h
  have hS : va_S A s.heap s.heap [] := va_S.rf
  have hP : va_P (dC, dI) vwCl (wl ad kv cy N v) s.heap := hP
  have hl := lv_entry ([.ref (ad 0), .int x0, .int x1, .int x2]) (n := 5) (Nat.le_of_ble_eq_true rfl)
  rw [lg_entry_eq]
  generalize (lg_sl ([.ref (ad 0), .int x0, .int x1, .int x2]) ++ List.replicate (5 - (lg_sl ([.ref (ad 0), .int x0, .int x1, .int x2])).length) Slot.unset).toArray = ls at hl ⊢
  have hl : lv_has ls 5 [(0, .ref (ad 0)), (1, .int x0), (2, .int x1), (3, .int x2)] := hl
  refine lv_aload_n hx hb dX7_offer_0 rfl (lv_at hl 0 rfl) ?_
  refine lv_iload_n hx hb dX7_offer_1 rfl (lv_at hl 1 rfl) ?_
  refine yw_i (w1 := fun (u : Nat → Nat → Int32) => wl ad kv cy N u) hD hS hA (va_runV (As := [.int x0]) (rest := []) ⟨hx, hb, hml, hown, hts⟩ (g_X7_isCase l dC dI cy _ ad kv N hN v hv x0) (cwV 1 hts gX7_offer_X7_isCase rfl rfl rfl hd_V_X7_isCase_1 ⟨Nat.le_of_ble_eq_true rfl, Nat.le_of_ble_eq_true rfl⟩) (yw_preV hE hK hP hD (ci := 7) (q := (RX7, TX7, 5)) (q0 := 0) rfl (wl_at (by omega) (ce_0 (by decide)))) rfl rfl hl.1 rfl (lv_room (Nat.le_of_ble_eq_true rfl)) dX7_offer_2 ⟨Nat.le_of_ble_eq_true rfl, Nat.le_of_ble_eq_true rfl⟩) (fun r_1 v_1 H locs hw_1 hP hD hS => ?_)
  obtain ⟨-, hu_1, hw_1⟩ := hw_1
  replace hu_1 := hu_1.symm
  subst hu_1
  rcases hw_1 with ⟨rfl, ha_2⟩ | ⟨rfl, ha_2⟩
  · have hb_2 := hv.at (k := 13) (j := 2) (K := 3) (by decide) rfl
    have hj_2 : 0 ≤ x0.toInt ∧ x0.toInt ≤ 5 := ⟨by omega, by omega⟩
    refine lv_if_eq (tgt := 25) hx hb dX7_offer_5 (by decide) (fun c9 => absurd c9 (by decide)) (fun _ => ?_)
    refine lv_iload_n hx hb dX7_offer_8 rfl (lv_at hl 2 rfl) ?_
    refine yc_p hP hS (va_runS (As := [.int x1]) (rest := []) ⟨hx, hb, hml, hown, hts⟩ (c_X7_isSide l x1) (cwS 1 hts gX7_offer_X7_isSide rfl rfl rfl hd_S_X7_isSide_1 ⟨Nat.le_of_ble_eq_true rfl, Nat.le_of_ble_eq_true rfl⟩) ex_preP rfl rfl hl.1 rfl (lv_room (Nat.le_of_ble_eq_true rfl)) dX7_offer_9 ⟨Nat.le_of_ble_eq_true rfl, Nat.le_of_ble_eq_true rfl⟩) (fun r_3 H locs hw_3 hP hS => ?_)
    rcases wi_ca hw_3 with ⟨rfl, hc_4⟩ | ⟨rfl, hc_4⟩
    · have k_0 : (0 : Int32).toInt = 0 := by decide
      have k_1 : (1 : Int32).toInt = 1 := by decide
      have tc_4 := wi_tl hc_4
      exact absurd ⟨by omega, by omega⟩ hs
    · refine lv_if_eq (tgt := 25) hx hb dX7_offer_12 (by decide) (fun _ => ?_) (fun c9 => absurd c9 (by decide))
      refine lv_iconst (v := (-1)) hx hb dX7_offer_25 (by decide) ?_
      exact W.iret (v := (-1)) hx hb hr (fun t ht hW => ⟨⟨(-1), v, rfl, ⟨hv, rfl, rfl⟩, by rw [ht]; exact hP, hD⟩, hS.F ht⟩) hS.2.2 dX7_offer_26
  · refine lv_if_eq (tgt := 25) hx hb dX7_offer_5 (by decide) (fun _ => ?_) (fun c9 => absurd c9 (by decide))
    refine lv_iconst (v := (-1)) hx hb dX7_offer_25 (by decide) ?_
    exact W.iret (v := (-1)) hx hb hr (fun t ht hW => ⟨⟨(-1), v, rfl, ⟨hv, rfl, rfl⟩, by rw [ht]; exact hP, hD⟩, hS.F ht⟩) hS.2.2 dX7_offer_26

set_option maxHeartbeats 4000000 in
set_option maxRecDepth 100000 in
theorem e_X8_offer_o (l : Launch) (dC : Nat → ClassId) (dI : Nat → Nat → Nat) (cy : Nat → ClassId) (sz : Nat) (ad : Nat → Nat) (v : Nat → Nat → Int32) (hv : Ir v) (x0 x1 x2 : Int32) (hs : ¬ (0 ≤ x1.toInt ∧ x1.toInt ≤ 1)) : Met l yX8_offer wsX8_offer ({ frames := 2, cells := 0, slots := 0, locals := 128 }) (va_Pc [.ref (ad 0), .int x0, .int x1, .int x2] (ex_Pre dC dI cy sz (wm ad cy v))) (va_Qi (fun (r : Int32) (u : Nat → Nat → Int32) => Ir u ∧ r = -1 ∧ u = v) (fun u t => ex_Pst dC dI (va_A (wm ad cy v) sz) (wm ad cy u) t) (va_A (wm ad cy v) sz)) 0 0 (va_A (wm ad cy v) sz) := by
  refine Met.ofW (cc := cX8_offer) (maxL := 7) (ret := (some .int)) (by decide) rfl ?_
  intro p e s m args below meth c s₁ B hml hv
  obtain ⟨rfl, hsz, hE, hP, hK, hD0⟩ := hv
  have hx := B.exec
  have hb := B.bytes
  have hr := B.returns
  have hts := atoms_spec (ws := wsX8_offer) B.pre
  have hown : s.vm.findClass RX8 = some m.cls := findClass_of_methodNamed B.named
  have hlocks := B.notSynchronized
  subst hsz
  have hD := hD0.self (sz := s.heap.size)
  generalize hAe : va_A (wm ad cy v) s.heap.size = A at hD ⊢
  have hA : ∀ q : Nat, s.heap.size ≤ q → A q := fun q h => by rw [← hAe]; exact Or.inr h
  have hS : va_S A s.heap s.heap [] := va_S.rf
  have hP : va_P (dC, dI) vwCl (wm ad cy v) s.heap := hP
  have hl := lv_entry ([.ref (ad 0), .int x0, .int x1, .int x2]) (n := 7) (Nat.le_of_ble_eq_true rfl)
  rw [lg_entry_eq]
  generalize (lg_sl ([.ref (ad 0), .int x0, .int x1, .int x2]) ++ List.replicate (7 - (lg_sl ([.ref (ad 0), .int x0, .int x1, .int x2])).length) Slot.unset).toArray = ls at hl ⊢
  have hl : lv_has ls 7 [(0, .ref (ad 0)), (1, .int x0), (2, .int x1), (3, .int x2)] := hl
  refine lv_aload_n hx hb dX8_offer_0 rfl (lv_at hl 0 rfl) ?_
  refine lv_iload_n hx hb dX8_offer_1 rfl (lv_at hl 1 rfl) ?_
  refine yw_i (w1 := fun (u : Nat → Nat → Int32) => wm ad cy u) hD hS hA (va_runV (As := [.int x0]) (rest := []) ⟨hx, hb, hml, hown, hts⟩ (q_X8_isCase l dC dI cy _ ad v hv x0) (cwV 1 hts gX8_offer_X8_isCase rfl rfl rfl hd_V_X8_isCase_1 ⟨Nat.le_of_ble_eq_true rfl, Nat.le_of_ble_eq_true rfl⟩) (yw_preV hE hK hP hD (ci := 8) (q := (RX8, TX8, 11)) (q0 := 0) rfl (wm_at (by decide) rc_0)) rfl rfl hl.1 rfl (lv_room (Nat.le_of_ble_eq_true rfl)) dX8_offer_2 ⟨Nat.le_of_ble_eq_true rfl, Nat.le_of_ble_eq_true rfl⟩) (fun r_1 v_1 H locs hw_1 hP hD hS => ?_)
  obtain ⟨-, hu_1, hw_1⟩ := hw_1
  replace hu_1 := hu_1.symm
  subst hu_1
  rcases hw_1 with ⟨rfl, ha_2⟩ | ⟨rfl, ha_2⟩
  · have hb_2 := hv 1 2 6 (by decide)
    have hj_2 : 0 ≤ x0.toInt ∧ x0.toInt ≤ 5 := ⟨by omega, by omega⟩
    refine lv_if_eq (tgt := 25) hx hb dX8_offer_5 (by decide) (fun c9 => absurd c9 (by decide)) (fun _ => ?_)
    refine lv_iload_n hx hb dX8_offer_8 rfl (lv_at hl 2 rfl) ?_
    refine yc_p hP hS (va_runS (As := [.int x1]) (rest := []) ⟨hx, hb, hml, hown, hts⟩ (c_X8_isSide l x1) (cwS 1 hts gX8_offer_X8_isSide rfl rfl rfl hd_S_X8_isSide_1 ⟨Nat.le_of_ble_eq_true rfl, Nat.le_of_ble_eq_true rfl⟩) ex_preP rfl rfl hl.1 rfl (lv_room (Nat.le_of_ble_eq_true rfl)) dX8_offer_9 ⟨Nat.le_of_ble_eq_true rfl, Nat.le_of_ble_eq_true rfl⟩) (fun r_3 H locs hw_3 hP hS => ?_)
    rcases wi_ca hw_3 with ⟨rfl, hc_4⟩ | ⟨rfl, hc_4⟩
    · have k_0 : (0 : Int32).toInt = 0 := by decide
      have k_1 : (1 : Int32).toInt = 1 := by decide
      have tc_4 := wi_tl hc_4
      exact absurd ⟨by omega, by omega⟩ hs
    · refine lv_if_eq (tgt := 25) hx hb dX8_offer_12 (by decide) (fun _ => ?_) (fun c9 => absurd c9 (by decide))
      refine lv_iconst (v := (-1)) hx hb dX8_offer_25 (by decide) ?_
      exact W.iret (v := (-1)) hx hb hr (fun t ht hW => ⟨⟨(-1), v, rfl, ⟨hv, rfl, rfl⟩, by rw [ht]; exact hP, hD⟩, hS.F ht⟩) hS.2.2 dX8_offer_26
  · refine lv_if_eq (tgt := 25) hx hb dX8_offer_5 (by decide) (fun _ => ?_) (fun c9 => absurd c9 (by decide))
    refine lv_iconst (v := (-1)) hx hb dX8_offer_25 (by decide) ?_
    exact W.iret (v := (-1)) hx hb hr (fun t ht hW => ⟨⟨(-1), v, rfl, ⟨hv, rfl, rfl⟩, by rw [ht]; exact hP, hD⟩, hS.F ht⟩) hS.2.2 dX8_offer_26

set_option maxHeartbeats 4000000 in
set_option maxRecDepth 100000 in
theorem e_X7_isTerm (l : Launch) (dC : Nat → ClassId) (dI : Nat → Nat → Nat) (cy : Nat → ClassId) (sz : Nat) (ad : Nat → Nat) (kv : Value) (N : Nat) (hN : 119 ≤ N) (v : Nat → Nat → Int32) (hv : Iv v) (x0 x1 : Int32) : Met l yX7_isTerm wsX7_isTerm ({ frames := 2, cells := 0, slots := 0, locals := 128 }) (va_Pc [.ref (ad 0), .int x0, .int x1] (ex_Pre dC dI cy sz (wl ad kv cy N v))) (va_Qi (fun (r : Int32) (u : Nat → Nat → Int32) => Iv u ∧ u = v ∧ ((r = 1 ∧ (0 ≤ x0.toInt ∧ x0.toInt < (v 13 2).toInt) ∧ 0 ≤ x1.toInt ∧ x1.toInt < (v (29 + 15 * x0.toNatClampNeg) 5).toInt) ∨ (r = 0 ∧ ¬ ((0 ≤ x0.toInt ∧ x0.toInt < (v 13 2).toInt) ∧ 0 ≤ x1.toInt ∧ x1.toInt < (v (29 + 15 * x0.toNatClampNeg) 5).toInt)))) (fun u t => ex_Pst dC dI (va_A (wl ad kv cy N v) sz) (wl ad kv cy N u) t) (va_A (wl ad kv cy N v) sz)) 0 0 (va_A (wl ad kv cy N v) sz) := by
  refine Met.ofW (cc := cX7_isTerm) (maxL := 3) (ret := (some .boolean)) (by decide) rfl ?_
  intro p e s m args below meth c s₁ B hml hv
  obtain ⟨rfl, hsz, hE, hP, hK, hD0⟩ := hv
  have hx := B.exec
  have hb := B.bytes
  have hr := B.returns
  have hts := atoms_spec (ws := wsX7_isTerm) B.pre
  have hown : s.vm.findClass RX7 = some m.cls := findClass_of_methodNamed B.named
  have hlocks := B.notSynchronized
  subst hsz
  have hD := hD0.self (sz := s.heap.size)
  generalize hAe : va_A (wl ad kv cy N v) s.heap.size = A at hD ⊢
  have hA : ∀ q : Nat, s.heap.size ≤ q → A q := fun q h => by rw [← hAe]; exact Or.inr h
  have hS : va_S A s.heap s.heap [] := va_S.rf
  have hP : va_P (dC, dI) vwCl (wl ad kv cy N v) s.heap := hP
  have hl := lv_entry ([.ref (ad 0), .int x0, .int x1]) (n := 3) (Nat.le_of_ble_eq_true rfl)
  rw [lg_entry_eq]
  generalize (lg_sl ([.ref (ad 0), .int x0, .int x1]) ++ List.replicate (3 - (lg_sl ([.ref (ad 0), .int x0, .int x1])).length) Slot.unset).toArray = ls at hl ⊢
  have hl : lv_has ls 3 [(0, .ref (ad 0)), (1, .int x0), (2, .int x1)] := hl
  refine lv_aload_n hx hb dX7_isTerm_0 rfl (lv_at hl 0 rfl) ?_
  refine lv_iload_n hx hb dX7_isTerm_1 rfl (lv_at hl 1 rfl) ?_
  refine yw_i (w1 := fun (u : Nat → Nat → Int32) => wl ad kv cy N u) hD hS hA (va_runV (As := [.int x0]) (rest := []) ⟨hx, hb, hml, hown, hts⟩ (g_X7_isCase l dC dI cy _ ad kv N hN v hv x0) (cwV 1 hts gX7_isTerm_X7_isCase rfl rfl rfl hd_V_X7_isCase_1 ⟨Nat.le_of_ble_eq_true rfl, Nat.le_of_ble_eq_true rfl⟩) (yw_preV hE hK hP hD (ci := 7) (q := (RX7, TX7, 5)) (q0 := 0) rfl (wl_at (by omega) (ce_0 (by decide)))) rfl rfl hl.1 rfl (lv_room (Nat.le_of_ble_eq_true rfl)) dX7_isTerm_2 ⟨Nat.le_of_ble_eq_true rfl, Nat.le_of_ble_eq_true rfl⟩) (fun r_1 v_1 H locs hw_1 hP hD hS => ?_)
  obtain ⟨-, hu_1, hw_1⟩ := hw_1
  replace hu_1 := hu_1.symm
  subst hu_1
  rcases hw_1 with ⟨rfl, ha_2⟩ | ⟨rfl, ha_2⟩
  · have hb_2 := hv.at (k := 13) (j := 2) (K := 3) (by decide) rfl
    have hj_2 : 0 ≤ x0.toInt ∧ x0.toInt ≤ 5 := ⟨by omega, by omega⟩
    refine lv_if_eq (tgt := 34) hx hb dX7_isTerm_5 (by decide) (fun c9 => absurd c9 (by decide)) (fun _ => ?_)
    refine lv_iload_n hx hb dX7_isTerm_8 rfl (lv_at hl 2 rfl) ?_
    refine lv_iconst (v := 0) hx hb dX7_isTerm_9 (by decide) ?_
    refine lv_aload_n hx hb dX7_isTerm_10 rfl (lv_at hl 0 rfl) ?_
    refine va_get (D := (dC, dI)) (ci := 7) (v := .ref (ad 13)) (C := RX7) (T := TX7) (N := 5) hx hb hts iwX7_isTerm_X7 hown hK hP (0) (wl_at (by omega) (ce_0 (by decide))) rfl 0 (by decide) (hts (.fieldLink RX7 12 "QuietStairs" "now" "LQuietStairs$House;") fwX7_isTerm_1) (fun _ h9 => h9) rfl dX7_isTerm_11 ?_
    refine va_get (D := (dC, dI)) (ci := 1) (v := .ref (ad 16)) (C := RX1) (T := TX1) (N := 7) hx hb hts iwX7_isTerm_X1 hown hK hP (13) (wl_at (by omega) (ce_3 (by decide))) rfl 6 (by decide) (hts (.fieldLink RX7 86 "QuietStairs$House" "cases" "[LQuietStairs$Case;") fwX7_isTerm_2) (fun _ h9 => h9) rfl dX7_isTerm_14 ?_
    refine lv_iload_n hx hb dX7_isTerm_17 rfl (lv_at hl 1 rfl) ?_
    have zn_x0 : (x0.toNatClampNeg : Int) = x0.toInt := t_nn (by omega)
    have hx_3 : x0.toNatClampNeg < 6 := by omega
    refine va_aldq hx hb hK hP (16) 3 (wl_at (by omega) (ce_6 (by decide))) rfl (vp_in_iff.mpr ⟨by omega, by omega⟩) dX7_isTerm_18 ?_
    refine W.eq (g2 := F0 m 19 ls [.ref (ad (29 + 15 * x0.toNatClampNeg)), .int 0, .int x1]) (by rw [if_pos hx_3, show 16 + 13 + 15 * x0.toNatClampNeg = 29 + 15 * x0.toNatClampNeg from by omega]; rfl) ?_
    refine va_get (D := (dC, dI)) (ci := 0) (v := .int (v (29 + 15 * x0.toNatClampNeg) 5)) (C := RX0) (T := TX0) (N := 11) hx hb hts iwX7_isTerm_X0 hown hK hP (29 + 15 * x0.toNatClampNeg) (wl_at (by omega) (ce_9 (kd_c _ hx_3).1.1)) rfl 5 (by decide) (hts (.fieldLink RX7 169 "QuietStairs$Case" "termCount" "I") fwX7_isTerm_3) (fun _ h9 => h9) rfl dX7_isTerm_19 ?_
    refine lv_topi (fun x_4 ex_4 => ?_)
    have bzx_4 : 0 ≤ x_4.toInt ∧ x_4.toInt ≤ 5 := by rw [ex_4]; exact hv.at (K := 9) (kd_c _ hx_3).1.1 rfl
    have qx_4 : x_4.toInt = (v (29 + 15 * x0.toNatClampNeg) (5)).toInt := congrArg Int32.toInt ex_4
    refine lv_iconst (v := 1) hx hb dX7_isTerm_22 (by decide) ?_
    refine lv_isub hx hb dX7_isTerm_23 ?_
    refine lv_topi (fun x_5 ex_5 => ?_)
    have k_1 : (1 : Int32).toInt = 1 := by decide
    have tx_5 : x_5.toInt = x_4.toInt - (1 : Int32).toInt := by rw [ex_5]; exact t_sub ⟨by omega, by omega⟩
    refine yc_p hP hS (va_runS (As := [.int x1, .int 0, .int x_5]) (rest := []) ⟨hx, hb, hml, hown, hts⟩ (c_X7_isWithin l x1 0 x_5) (cwS 3 hts gX7_isTerm_X7_isWithin rfl rfl rfl hd_S_X7_isWithin_3 ⟨Nat.le_of_ble_eq_true rfl, Nat.le_of_ble_eq_true rfl⟩) ex_preP rfl rfl hl.1 rfl (lv_room (Nat.le_of_ble_eq_true rfl)) dX7_isTerm_24 ⟨Nat.le_of_ble_eq_true rfl, Nat.le_of_ble_eq_true rfl⟩) (fun r_6 H locs hw_6 hP hS => ?_)
    rcases wi_ca hw_6 with ⟨rfl, hc_7⟩ | ⟨rfl, hc_7⟩
    · have k_0 : (0 : Int32).toInt = 0 := by decide
      have tc_7 := wi_tl hc_7
      refine lv_if_eq (tgt := 34) hx hb dX7_isTerm_27 (by decide) (fun c9 => absurd c9 (by decide)) (fun _ => ?_)
      refine lv_iconst (v := 1) hx hb dX7_isTerm_30 (by decide) ?_
      refine lv_goto (tgt := 35) hx hb dX7_isTerm_31 (by decide) ?_
      exact W.zret (ty := .boolean) (v := 1) hx hb hr rfl (fun t ht hW => ⟨⟨1, v, rfl, ⟨hv, rfl, Or.inl ⟨rfl, ⟨by omega, by omega⟩, by omega, by omega⟩⟩, by rw [ht]; exact hP, hD⟩, hS.F ht⟩) hS.2.2 dX7_isTerm_35
    · have k_0 : (0 : Int32).toInt = 0 := by decide
      have tc_7 : ¬ ((0 : Int32).toInt ≤ x1.toInt ∧ x1.toInt ≤ x_5.toInt) := fun q => hc_7 ⟨Int32.le_iff_toInt_le.mpr q.1, Int32.le_iff_toInt_le.mpr q.2⟩
      refine lv_if_eq (tgt := 34) hx hb dX7_isTerm_27 (by decide) (fun _ => ?_) (fun c9 => absurd c9 (by decide))
      refine lv_iconst (v := 0) hx hb dX7_isTerm_34 (by decide) ?_
      exact W.zret (ty := .boolean) (v := 0) hx hb hr rfl (fun t ht hW => ⟨⟨0, v, rfl, ⟨hv, rfl, Or.inr ⟨rfl, by omega⟩⟩, by rw [ht]; exact hP, hD⟩, hS.F ht⟩) hS.2.2 dX7_isTerm_35
  · refine lv_if_eq (tgt := 34) hx hb dX7_isTerm_5 (by decide) (fun _ => ?_) (fun c9 => absurd c9 (by decide))
    refine lv_iconst (v := 0) hx hb dX7_isTerm_34 (by decide) ?_
    exact W.zret (ty := .boolean) (v := 0) hx hb hr rfl (fun t ht hW => ⟨⟨0, v, rfl, ⟨hv, rfl, Or.inr ⟨rfl, by omega⟩⟩, by rw [ht]; exact hP, hD⟩, hS.F ht⟩) hS.2.2 dX7_isTerm_35

set_option maxHeartbeats 4000000 in
set_option maxRecDepth 100000 in
theorem e_X8_isTerm (l : Launch) (dC : Nat → ClassId) (dI : Nat → Nat → Nat) (cy : Nat → ClassId) (sz : Nat) (ad : Nat → Nat) (v : Nat → Nat → Int32) (hv : Ir v) (x0 x1 : Int32) : Met l yX8_isTerm wsX8_isTerm ({ frames := 2, cells := 0, slots := 0, locals := 128 }) (va_Pc [.ref (ad 0), .int x0, .int x1] (ex_Pre dC dI cy sz (wm ad cy v))) (va_Qi (fun (r : Int32) (u : Nat → Nat → Int32) => Ir u ∧ u = v ∧ ((r = 1 ∧ (0 ≤ x0.toInt ∧ x0.toInt < (v 1 2).toInt) ∧ 0 ≤ x1.toInt ∧ x1.toInt < (v 1 (38 + 7 * x0.toNatClampNeg)).toInt) ∨ (r = 0 ∧ ¬ ((0 ≤ x0.toInt ∧ x0.toInt < (v 1 2).toInt) ∧ 0 ≤ x1.toInt ∧ x1.toInt < (v 1 (38 + 7 * x0.toNatClampNeg)).toInt)))) (fun u t => ex_Pst dC dI (va_A (wm ad cy v) sz) (wm ad cy u) t) (va_A (wm ad cy v) sz)) 0 0 (va_A (wm ad cy v) sz) := by
  refine Met.ofW (cc := cX8_isTerm) (maxL := 3) (ret := (some .boolean)) (by decide) rfl ?_
  intro p e s m args below meth c s₁ B hml hv
  obtain ⟨rfl, hsz, hE, hP, hK, hD0⟩ := hv
  have hx := B.exec
  have hb := B.bytes
  have hr := B.returns
  have hts := atoms_spec (ws := wsX8_isTerm) B.pre
  have hown : s.vm.findClass RX8 = some m.cls := findClass_of_methodNamed B.named
  have hlocks := B.notSynchronized
  subst hsz
  have hD := hD0.self (sz := s.heap.size)
  generalize hAe : va_A (wm ad cy v) s.heap.size = A at hD ⊢
  have hA : ∀ q : Nat, s.heap.size ≤ q → A q := fun q h => by rw [← hAe]; exact Or.inr h
  have hS : va_S A s.heap s.heap [] := va_S.rf
  have hP : va_P (dC, dI) vwCl (wm ad cy v) s.heap := hP
  have hl := lv_entry ([.ref (ad 0), .int x0, .int x1]) (n := 3) (Nat.le_of_ble_eq_true rfl)
  rw [lg_entry_eq]
  generalize (lg_sl ([.ref (ad 0), .int x0, .int x1]) ++ List.replicate (3 - (lg_sl ([.ref (ad 0), .int x0, .int x1])).length) Slot.unset).toArray = ls at hl ⊢
  have hl : lv_has ls 3 [(0, .ref (ad 0)), (1, .int x0), (2, .int x1)] := hl
  refine lv_aload_n hx hb dX8_isTerm_0 rfl (lv_at hl 0 rfl) ?_
  refine lv_iload_n hx hb dX8_isTerm_1 rfl (lv_at hl 1 rfl) ?_
  refine yw_i (w1 := fun (u : Nat → Nat → Int32) => wm ad cy u) hD hS hA (va_runV (As := [.int x0]) (rest := []) ⟨hx, hb, hml, hown, hts⟩ (q_X8_isCase l dC dI cy _ ad v hv x0) (cwV 1 hts gX8_isTerm_X8_isCase rfl rfl rfl hd_V_X8_isCase_1 ⟨Nat.le_of_ble_eq_true rfl, Nat.le_of_ble_eq_true rfl⟩) (yw_preV hE hK hP hD (ci := 8) (q := (RX8, TX8, 11)) (q0 := 0) rfl (wm_at (by decide) rc_0)) rfl rfl hl.1 rfl (lv_room (Nat.le_of_ble_eq_true rfl)) dX8_isTerm_2 ⟨Nat.le_of_ble_eq_true rfl, Nat.le_of_ble_eq_true rfl⟩) (fun r_1 v_1 H locs hw_1 hP hD hS => ?_)
  obtain ⟨-, hu_1, hw_1⟩ := hw_1
  replace hu_1 := hu_1.symm
  subst hu_1
  rcases hw_1 with ⟨rfl, ha_2⟩ | ⟨rfl, ha_2⟩
  · have hb_2 := hv 1 2 6 (by decide)
    have hj_2 : 0 ≤ x0.toInt ∧ x0.toInt ≤ 5 := ⟨by omega, by omega⟩
    refine lv_if_eq (tgt := 33) hx hb dX8_isTerm_5 (by decide) (fun c9 => absurd c9 (by decide)) (fun _ => ?_)
    refine lv_iload_n hx hb dX8_isTerm_8 rfl (lv_at hl 2 rfl) ?_
    refine lv_iconst (v := 0) hx hb dX8_isTerm_9 (by decide) ?_
    refine lv_aload_n hx hb dX8_isTerm_10 rfl (lv_at hl 0 rfl) ?_
    refine va_get (D := (dC, dI)) (ci := 8) (v := .ref (ad 1)) (C := RX8) (T := TX8) (N := 11) hx hb hts iwX8_isTerm_X8 hown hK hP (0) (wm_at (by decide) rc_0) rfl 0 (by decide) (hts (.fieldLink RX8 7 "QuietStairsModel" "s" "[I") fwX8_isTerm_1) (fun _ h9 => h9) rfl dX8_isTerm_11 ?_
    refine lv_iload_n hx hb dX8_isTerm_14 rfl (lv_at hl 1 rfl) ?_
    refine lv_bipush (v := 6) hx hb dX8_isTerm_15 (by decide) ?_
    refine yc_p hP hS (va_runS (As := [.int x0, .int 6]) (rest := [.ref (ad 1), .int 0, .int x1]) ⟨hx, hb, hml, hown, hts⟩ (c_X8_at l x0 6) (cwS 2 hts gX8_isTerm_X8_at rfl rfl rfl hd_S_X8_at_2 ⟨Nat.le_of_ble_eq_true rfl, Nat.le_of_ble_eq_true rfl⟩) ex_preP rfl rfl hl.1 rfl (lv_room (Nat.le_of_ble_eq_true rfl)) dX8_isTerm_17 ⟨Nat.le_of_ble_eq_true rfl, Nat.le_of_ble_eq_true rfl⟩) (fun r_3 H locs hw_3 hP hS => ?_)
    have k_6 : (6 : Int32).toInt = 6 := by decide
    have tr_3 : r_3.toInt = 32 + 7 * x0.toInt + (6 : Int32).toInt := t_at hw_3 ⟨by omega, by omega⟩ ⟨by omega, by omega⟩
    have zn_x0 : (x0.toNatClampNeg : Int) = x0.toInt := t_nn (by omega)
    have nr_3 : r_3.toNatClampNeg = 38 + 7 * x0.toNatClampNeg := by have z1 := t_nn (x := r_3) (by omega); omega
    refine va_iald hx hb hK hP (1) 0 (wm_at (by decide) rc_1) rfl (vp_in_iff.mpr ⟨by omega, by omega⟩) dX8_isTerm_20 ?_
    refine lv_topi (fun x_4 ex_4 => ?_)
    have bzx_4 : 0 ≤ x_4.toInt ∧ x_4.toInt ≤ 5 := by rw [ex_4]; exact hv 1 _ 5 (bx_4 (i := x0.toInt) (s := 6) (by omega) ⟨by omega, by omega⟩ (by omega))
    rw [nr_3] at ex_4
    have qx_4 : x_4.toInt = (v 1 (38 + 7 * x0.toNatClampNeg)).toInt := congrArg Int32.toInt ex_4
    refine lv_iconst (v := 1) hx hb dX8_isTerm_21 (by decide) ?_
    refine lv_isub hx hb dX8_isTerm_22 ?_
    refine lv_topi (fun x_5 ex_5 => ?_)
    have k_1 : (1 : Int32).toInt = 1 := by decide
    have tx_5 : x_5.toInt = x_4.toInt - (1 : Int32).toInt := by rw [ex_5]; exact t_sub ⟨by omega, by omega⟩
    refine yc_p hP hS (va_runS (As := [.int x1, .int 0, .int x_5]) (rest := []) ⟨hx, hb, hml, hown, hts⟩ (c_X8_in l x1 0 x_5) (cwS 3 hts gX8_isTerm_X8_in rfl rfl rfl hd_S_X8_in_3 ⟨Nat.le_of_ble_eq_true rfl, Nat.le_of_ble_eq_true rfl⟩) ex_preP rfl rfl hl.1 rfl (lv_room (Nat.le_of_ble_eq_true rfl)) dX8_isTerm_23 ⟨Nat.le_of_ble_eq_true rfl, Nat.le_of_ble_eq_true rfl⟩) (fun r_6 H locs hw_6 hP hS => ?_)
    rcases wi_ca hw_6 with ⟨rfl, hc_7⟩ | ⟨rfl, hc_7⟩
    · have k_0 : (0 : Int32).toInt = 0 := by decide
      have tc_7 := wi_tl hc_7
      refine lv_if_eq (tgt := 33) hx hb dX8_isTerm_26 (by decide) (fun c9 => absurd c9 (by decide)) (fun _ => ?_)
      refine lv_iconst (v := 1) hx hb dX8_isTerm_29 (by decide) ?_
      refine lv_goto (tgt := 34) hx hb dX8_isTerm_30 (by decide) ?_
      exact W.zret (ty := .boolean) (v := 1) hx hb hr rfl (fun t ht hW => ⟨⟨1, v, rfl, ⟨hv, rfl, Or.inl ⟨rfl, ⟨by omega, by omega⟩, by omega, by omega⟩⟩, by rw [ht]; exact hP, hD⟩, hS.F ht⟩) hS.2.2 dX8_isTerm_34
    · have k_0 : (0 : Int32).toInt = 0 := by decide
      have tc_7 : ¬ ((0 : Int32).toInt ≤ x1.toInt ∧ x1.toInt ≤ x_5.toInt) := fun q => hc_7 ⟨Int32.le_iff_toInt_le.mpr q.1, Int32.le_iff_toInt_le.mpr q.2⟩
      refine lv_if_eq (tgt := 33) hx hb dX8_isTerm_26 (by decide) (fun _ => ?_) (fun c9 => absurd c9 (by decide))
      refine lv_iconst (v := 0) hx hb dX8_isTerm_33 (by decide) ?_
      exact W.zret (ty := .boolean) (v := 0) hx hb hr rfl (fun t ht hW => ⟨⟨0, v, rfl, ⟨hv, rfl, Or.inr ⟨rfl, by omega⟩⟩, by rw [ht]; exact hP, hD⟩, hS.F ht⟩) hS.2.2 dX8_isTerm_34
  · refine lv_if_eq (tgt := 33) hx hb dX8_isTerm_5 (by decide) (fun _ => ?_) (fun c9 => absurd c9 (by decide))
    refine lv_iconst (v := 0) hx hb dX8_isTerm_33 (by decide) ?_
    exact W.zret (ty := .boolean) (v := 0) hx hb hr rfl (fun t ht hW => ⟨⟨0, v, rfl, ⟨hv, rfl, Or.inr ⟨rfl, by omega⟩⟩, by rw [ht]; exact hP, hD⟩, hS.F ht⟩) hS.2.2 dX8_isTerm_34

set_option maxHeartbeats 4000000 in
set_option maxRecDepth 100000 in
theorem e_X7_termOf (l : Launch) (dC : Nat → ClassId) (dI : Nat → Nat → Nat) (cy : Nat → ClassId) (sz : Nat) (ad : Nat → Nat) (kv : Value) (N : Nat) (hN : 119 ≤ N) (v : Nat → Nat → Int32) (hv : Iv v) (x0 x1 x2 : Int32) : Met l yX7_termOf wsX7_termOf ({ frames := 3, cells := 0, slots := 0, locals := 192 }) (va_Pc [.ref (ad 0), .int x0, .int x1, .int x2] (ex_Pre dC dI cy sz (wl ad kv cy N v))) (va_Qi (fun (r : Int32) (u : Nat → Nat → Int32) => Iv u ∧ (¬ ((0 ≤ x0.toInt ∧ x0.toInt < (v 13 2).toInt) ∧ 0 ≤ x1.toInt ∧ x1.toInt < (v (29 + 15 * x0.toNatClampNeg) 5).toInt) → r = -1 ∧ u = v) ∧ (((0 ≤ x0.toInt ∧ x0.toInt < (v 13 2).toInt) ∧ 0 ≤ x1.toInt ∧ x1.toInt < (v (29 + 15 * x0.toNatClampNeg) 5).toInt) ∧ 0 ≤ x2.toInt ∧ x2.toInt ≤ 4 → r = v (39 + 15 * x0.toNatClampNeg + x1.toNatClampNeg) x2.toNatClampNeg ∧ u = v) ∧ (((0 ≤ x0.toInt ∧ x0.toInt < (v 13 2).toInt) ∧ 0 ≤ x1.toInt ∧ x1.toInt < (v (29 + 15 * x0.toNatClampNeg) 5).toInt) ∧ ¬ (0 ≤ x2.toInt ∧ x2.toInt ≤ 4) → r = -1 ∧ u = v)) (fun u t => ex_Pst dC dI (va_A (wl ad kv cy N v) sz) (wl ad kv cy N u) t) (va_A (wl ad kv cy N v) sz)) 0 0 (va_A (wl ad kv cy N v) sz) := by
  refine Met.ofW (cc := cX7_termOf) (maxL := 5) (ret := (some .int)) (by decide) rfl ?_
  intro p e s m args below meth c s₁ B hml hv
  obtain ⟨rfl, hsz, hE, hP, hK, hD0⟩ := hv
  have hx := B.exec
  have hb := B.bytes
  have hr := B.returns
  have hts := atoms_spec (ws := wsX7_termOf) B.pre
  have hown : s.vm.findClass RX7 = some m.cls := findClass_of_methodNamed B.named
  have hlocks := B.notSynchronized
  subst hsz
  have hD := hD0.self (sz := s.heap.size)
  generalize hAe : va_A (wl ad kv cy N v) s.heap.size = A at hD ⊢
  have hA : ∀ q : Nat, s.heap.size ≤ q → A q := fun q h => by rw [← hAe]; exact Or.inr h
  have hS : va_S A s.heap s.heap [] := va_S.rf
  have hP : va_P (dC, dI) vwCl (wl ad kv cy N v) s.heap := hP
  have hl := lv_entry ([.ref (ad 0), .int x0, .int x1, .int x2]) (n := 5) (Nat.le_of_ble_eq_true rfl)
  rw [lg_entry_eq]
  generalize (lg_sl ([.ref (ad 0), .int x0, .int x1, .int x2]) ++ List.replicate (5 - (lg_sl ([.ref (ad 0), .int x0, .int x1, .int x2])).length) Slot.unset).toArray = ls at hl ⊢
  have hl : lv_has ls 5 [(0, .ref (ad 0)), (1, .int x0), (2, .int x1), (3, .int x2)] := hl
  refine lv_aload_n hx hb dX7_termOf_0 rfl (lv_at hl 0 rfl) ?_
  refine lv_iload_n hx hb dX7_termOf_1 rfl (lv_at hl 1 rfl) ?_
  refine lv_iload_n hx hb dX7_termOf_2 rfl (lv_at hl 2 rfl) ?_
  refine yw_i (w1 := fun (u : Nat → Nat → Int32) => wl ad kv cy N u) hD hS hA (va_runV (As := [.int x0, .int x1]) (rest := []) ⟨hx, hb, hml, hown, hts⟩ (e_X7_isTerm l dC dI cy _ ad kv N hN v hv x0 x1) (cwV 2 hts gX7_termOf_X7_isTerm rfl rfl rfl hd_V_X7_isTerm_2 ⟨Nat.le_of_ble_eq_true rfl, Nat.le_of_ble_eq_true rfl⟩) (yw_preV hE hK hP hD (ci := 7) (q := (RX7, TX7, 5)) (q0 := 0) rfl (wl_at (by omega) (ce_0 (by decide)))) rfl rfl hl.1 rfl (lv_room (Nat.le_of_ble_eq_true rfl)) dX7_termOf_3 ⟨Nat.le_of_ble_eq_true rfl, Nat.le_of_ble_eq_true rfl⟩) (fun r_1 v_1 H locs hw_1 hP hD hS => ?_)
  obtain ⟨-, hu_1, hw_1⟩ := hw_1
  replace hu_1 := hu_1.symm
  subst hu_1
  rcases hw_1 with ⟨rfl, ha_2⟩ | ⟨rfl, ha_2⟩
  · have hb_2 := hv.at (k := 13) (j := 2) (K := 3) (by decide) rfl
    have hj_2 : 0 ≤ x0.toInt ∧ x0.toInt ≤ 5 := ⟨by omega, by omega⟩
    have zn_x0 : (x0.toNatClampNeg : Int) = x0.toInt := t_nn (by omega)
    have hx_3 : x0.toNatClampNeg < 6 := by omega
    have hg_2 := hv.at (k := 29 + 15 * x0.toNatClampNeg) (j := 5) (K := 9) (kd_c _ hx_3).1.1 rfl
    have hl_2 : 0 ≤ x1.toInt ∧ x1.toInt ≤ 4 := ⟨by omega, by omega⟩
    refine lv_if_ne (tgt := 11) hx hb dX7_termOf_6 (by decide) (fun _ => ?_) (fun c9 => absurd c9 (by decide))
    refine lv_aload_n hx hb dX7_termOf_11 rfl (lv_at hl 0 rfl) ?_
    refine va_get (D := (dC, dI)) (ci := 7) (v := .ref (ad 13)) (C := RX7) (T := TX7) (N := 5) hx hb hts iwX7_termOf_X7 hown hK hP (0) (wl_at (by omega) (ce_0 (by decide))) rfl 0 (by decide) (hts (.fieldLink RX7 12 "QuietStairs" "now" "LQuietStairs$House;") fwX7_termOf_1) (fun _ h9 => h9) rfl dX7_termOf_12 ?_
    refine va_get (D := (dC, dI)) (ci := 1) (v := .ref (ad 16)) (C := RX1) (T := TX1) (N := 7) hx hb hts iwX7_termOf_X1 hown hK hP (13) (wl_at (by omega) (ce_3 (by decide))) rfl 6 (by decide) (hts (.fieldLink RX7 86 "QuietStairs$House" "cases" "[LQuietStairs$Case;") fwX7_termOf_2) (fun _ h9 => h9) rfl dX7_termOf_15 ?_
    refine lv_iload_n hx hb dX7_termOf_18 rfl (lv_at hl 1 rfl) ?_
    refine va_aldq hx hb hK hP (16) 3 (wl_at (by omega) (ce_6 (by decide))) rfl (vp_in_iff.mpr ⟨by omega, by omega⟩) dX7_termOf_19 ?_
    refine W.eq (g2 := F0 m 20 ls [.ref (ad (29 + 15 * x0.toNatClampNeg))]) (by rw [if_pos hx_3, show 16 + 13 + 15 * x0.toNatClampNeg = 29 + 15 * x0.toNatClampNeg from by omega]; rfl) ?_
    refine va_get (D := (dC, dI)) (ci := 0) (v := .ref (ad (29 + 15 * x0.toNatClampNeg + 9))) (C := RX0) (T := TX0) (N := 11) hx hb hts iwX7_termOf_X0 hown hK hP (29 + 15 * x0.toNatClampNeg) (wl_at (by omega) (ce_9 (kd_c _ hx_3).1.1)) rfl 10 (by decide) (hts (.fieldLink RX7 172 "QuietStairs$Case" "terms" "[LQuietStairs$Term;") fwX7_termOf_3) (fun _ h9 => h9) rfl dX7_termOf_20 ?_
    refine W.eq (g2 := F0 m 23 ls [.ref (ad (38 + 15 * x0.toNatClampNeg))]) (by rw [show 29 + 15 * x0.toNatClampNeg + 9 = 38 + 15 * x0.toNatClampNeg from by omega]) ?_
    refine lv_iload_n hx hb dX7_termOf_23 rfl (lv_at hl 2 rfl) ?_
    have zn_x1 : (x1.toNatClampNeg : Int) = x1.toInt := t_nn (by omega)
    have hx_4 : x1.toNatClampNeg < 5 := by omega
    refine va_aldq hx hb hK hP (38 + 15 * x0.toNatClampNeg) 4 (wl_at (by omega) (ce_15 (kd_c _ hx_3).1.2.2.2.2.2)) rfl (vp_in_iff.mpr ⟨by omega, by omega⟩) dX7_termOf_24 ?_
    refine W.eq (g2 := F0 m 25 ls [.ref (ad (39 + 15 * x0.toNatClampNeg + x1.toNatClampNeg))]) (by rw [if_pos hx_4, show 38 + 15 * x0.toNatClampNeg + 1 + x1.toNatClampNeg = 39 + 15 * x0.toNatClampNeg + x1.toNatClampNeg from by omega]; rfl) ?_
    refine lv_astore (lv' := [(4, .ref (ad (39 + 15 * x0.toNatClampNeg + x1.toNatClampNeg))), (0, .ref (ad 0)), (1, .int x0), (2, .int x1), (3, .int x2)]) hx hb dX7_termOf_25 hl (by decide) rfl (fun ls hl => ?_)
    refine lv_iload_n hx hb dX7_termOf_27 rfl (lv_at hl 4 rfl) ?_
    rcases sw_5 x2 with hsw | hsw | hsw | hsw | hsw | hsw
    · refine lv_tableOut (tgt := 102) hx hb dX7_termOf_28 hsw (by decide) ?_
      refine lv_iconst (v := (-1)) hx hb dX7_termOf_102 (by decide) ?_
      have hpost : (¬ ((0 ≤ x0.toInt ∧ x0.toInt < (v 13 2).toInt) ∧ 0 ≤ x1.toInt ∧ x1.toInt < (v (29 + 15 * x0.toNatClampNeg) 5).toInt) → ((-1) : Int32) = -1 ∧ v = v) ∧ (((0 ≤ x0.toInt ∧ x0.toInt < (v 13 2).toInt) ∧ 0 ≤ x1.toInt ∧ x1.toInt < (v (29 + 15 * x0.toNatClampNeg) 5).toInt) ∧ 0 ≤ x2.toInt ∧ x2.toInt ≤ 4 → ((-1) : Int32) = v (39 + 15 * x0.toNatClampNeg + x1.toNatClampNeg) x2.toNatClampNeg ∧ v = v) ∧ (((0 ≤ x0.toInt ∧ x0.toInt < (v 13 2).toInt) ∧ 0 ≤ x1.toInt ∧ x1.toInt < (v (29 + 15 * x0.toNatClampNeg) 5).toInt) ∧ ¬ (0 ≤ x2.toInt ∧ x2.toInt ≤ 4) → ((-1) : Int32) = -1 ∧ v = v) := by
        refine ⟨fun hq => ?_, fun hq => ?_, fun hq => ?_⟩
        · exfalso; omega
        · exfalso; omega
        · exact ⟨rfl, rfl⟩
      exact W.iret (v := (-1)) hx hb hr (fun t ht hW => ⟨⟨(-1), v, rfl, ⟨hv, hpost⟩, by rw [ht]; exact hP, hD⟩, hS.F ht⟩) hS.2.2 dX7_termOf_103
    · refine lv_tableIn (off := 36) (tgt := 64) hx hb dX7_termOf_28 (by rw [hsw]; decide) (by rw [hsw]; decide) (by rw [hsw]; decide) (by decide) ?_
      have k_0 : (0 : Int32).toInt = 0 := by decide
      have tsw : x2.toInt = 0 := by rw [hsw]; decide
      refine lv_aload hx hb dX7_termOf_64 (lv_at hl 0 rfl) ?_
      refine va_get (D := (dC, dI)) (ci := 6) (v := .int (v (39 + 15 * x0.toNatClampNeg + x1.toNatClampNeg) 0)) (C := RX6) (T := TX6) (N := 5) hx hb hts iwX7_termOf_X6 hown hK hP (39 + 15 * x0.toNatClampNeg + x1.toNatClampNeg) (wl_at (by omega) (ce_16 (kd_t _ hx_3 _ hx_4).1)) rfl 0 (by decide) (hts (.fieldLink RX7 176 "QuietStairs$Term" "side" "I") fwX7_termOf_4) (fun _ h9 => h9) rfl dX7_termOf_66 ?_
      refine lv_topi (fun x_5 ex_5 => ?_)
      have bzx_5 : 0 ≤ x_5.toInt ∧ x_5.toInt ≤ 1 := by rw [ex_5]; exact hv.at (K := 16) (kd_t _ hx_3 _ hx_4).1 rfl
      have qx_5 : x_5.toInt = (v (39 + 15 * x0.toNatClampNeg + x1.toNatClampNeg) (0)).toInt := congrArg Int32.toInt ex_5
      have hpost : (¬ ((0 ≤ x0.toInt ∧ x0.toInt < (v 13 2).toInt) ∧ 0 ≤ x1.toInt ∧ x1.toInt < (v (29 + 15 * x0.toNatClampNeg) 5).toInt) → x_5 = -1 ∧ v = v) ∧ (((0 ≤ x0.toInt ∧ x0.toInt < (v 13 2).toInt) ∧ 0 ≤ x1.toInt ∧ x1.toInt < (v (29 + 15 * x0.toNatClampNeg) 5).toInt) ∧ 0 ≤ x2.toInt ∧ x2.toInt ≤ 4 → x_5 = v (39 + 15 * x0.toNatClampNeg + x1.toNatClampNeg) x2.toNatClampNeg ∧ v = v) ∧ (((0 ≤ x0.toInt ∧ x0.toInt < (v 13 2).toInt) ∧ 0 ≤ x1.toInt ∧ x1.toInt < (v (29 + 15 * x0.toNatClampNeg) 5).toInt) ∧ ¬ (0 ≤ x2.toInt ∧ x2.toInt ≤ 4) → x_5 = -1 ∧ v = v) := by
        refine ⟨fun hq => ?_, fun hq => ?_, fun hq => ?_⟩
        · exfalso; omega
        · exact ⟨by rw [ex_5, hsw]; rfl, rfl⟩
        · exfalso; omega
      exact W.iret (v := x_5) hx hb hr (fun t ht hW => ⟨⟨x_5, v, rfl, ⟨hv, hpost⟩, by rw [ht]; exact hP, hD⟩, hS.F ht⟩) hS.2.2 dX7_termOf_69
    · refine lv_tableIn (off := 42) (tgt := 70) hx hb dX7_termOf_28 (by rw [hsw]; decide) (by rw [hsw]; decide) (by rw [hsw]; decide) (by decide) ?_
      have k_1 : (1 : Int32).toInt = 1 := by decide
      have tsw : x2.toInt = 1 := by rw [hsw]; decide
      refine lv_aload hx hb dX7_termOf_70 (lv_at hl 0 rfl) ?_
      refine va_get (D := (dC, dI)) (ci := 6) (v := .int (v (39 + 15 * x0.toNatClampNeg + x1.toNatClampNeg) 1)) (C := RX6) (T := TX6) (N := 5) hx hb hts iwX7_termOf_X6 hown hK hP (39 + 15 * x0.toNatClampNeg + x1.toNatClampNeg) (wl_at (by omega) (ce_16 (kd_t _ hx_3 _ hx_4).1)) rfl 1 (by decide) (hts (.fieldLink RX7 181 "QuietStairs$Term" "must" "Z") fwX7_termOf_5) (fun _ h9 => h9) rfl dX7_termOf_72 ?_
      refine lv_topi (fun x_5 ex_5 => ?_)
      have bzx_5 : 0 ≤ x_5.toInt ∧ x_5.toInt ≤ 1 := by rw [ex_5]; exact hv.at (K := 16) (kd_t _ hx_3 _ hx_4).1 rfl
      have qx_5 : x_5.toInt = (v (39 + 15 * x0.toNatClampNeg + x1.toNatClampNeg) (1)).toInt := congrArg Int32.toInt ex_5
      have k_0 : (0 : Int32).toInt = 0 := by decide
      refine lv_if_eq (tgt := 82) hx hb dX7_termOf_75 (by decide) (fun c_6 => ?_) (fun c_6 => ?_)
      · have tc_6 : x_5.toInt = (0 : Int32).toInt := by rw [c_6]
        refine lv_iconst (v := 0) hx hb dX7_termOf_82 (by decide) ?_
        have hpost : (¬ ((0 ≤ x0.toInt ∧ x0.toInt < (v 13 2).toInt) ∧ 0 ≤ x1.toInt ∧ x1.toInt < (v (29 + 15 * x0.toNatClampNeg) 5).toInt) → (0 : Int32) = -1 ∧ v = v) ∧ (((0 ≤ x0.toInt ∧ x0.toInt < (v 13 2).toInt) ∧ 0 ≤ x1.toInt ∧ x1.toInt < (v (29 + 15 * x0.toNatClampNeg) 5).toInt) ∧ 0 ≤ x2.toInt ∧ x2.toInt ≤ 4 → (0 : Int32) = v (39 + 15 * x0.toNatClampNeg + x1.toNatClampNeg) x2.toNatClampNeg ∧ v = v) ∧ (((0 ≤ x0.toInt ∧ x0.toInt < (v 13 2).toInt) ∧ 0 ≤ x1.toInt ∧ x1.toInt < (v (29 + 15 * x0.toNatClampNeg) 5).toInt) ∧ ¬ (0 ≤ x2.toInt ∧ x2.toInt ≤ 4) → (0 : Int32) = -1 ∧ v = v) := by
          refine ⟨fun hq => ?_, fun hq => ?_, fun hq => ?_⟩
          · exfalso; omega
          · exact ⟨by rw [hsw]; show (0 : Int32) = v (39 + 15 * x0.toNatClampNeg + x1.toNatClampNeg) 1; exact Int32.toInt_inj.mp (by rw [← qx_5]; omega), rfl⟩
          · exfalso; omega
        exact W.iret (v := 0) hx hb hr (fun t ht hW => ⟨⟨0, v, rfl, ⟨hv, hpost⟩, by rw [ht]; exact hP, hD⟩, hS.F ht⟩) hS.2.2 dX7_termOf_83
      · have tc_6 : x_5.toInt ≠ (0 : Int32).toInt := fun q => absurd (Int32.toInt_inj.mp q) c_6
        refine lv_iconst (v := 1) hx hb dX7_termOf_78 (by decide) ?_
        refine lv_goto (tgt := 83) hx hb dX7_termOf_79 (by decide) ?_
        have hpost : (¬ ((0 ≤ x0.toInt ∧ x0.toInt < (v 13 2).toInt) ∧ 0 ≤ x1.toInt ∧ x1.toInt < (v (29 + 15 * x0.toNatClampNeg) 5).toInt) → (1 : Int32) = -1 ∧ v = v) ∧ (((0 ≤ x0.toInt ∧ x0.toInt < (v 13 2).toInt) ∧ 0 ≤ x1.toInt ∧ x1.toInt < (v (29 + 15 * x0.toNatClampNeg) 5).toInt) ∧ 0 ≤ x2.toInt ∧ x2.toInt ≤ 4 → (1 : Int32) = v (39 + 15 * x0.toNatClampNeg + x1.toNatClampNeg) x2.toNatClampNeg ∧ v = v) ∧ (((0 ≤ x0.toInt ∧ x0.toInt < (v 13 2).toInt) ∧ 0 ≤ x1.toInt ∧ x1.toInt < (v (29 + 15 * x0.toNatClampNeg) 5).toInt) ∧ ¬ (0 ≤ x2.toInt ∧ x2.toInt ≤ 4) → (1 : Int32) = -1 ∧ v = v) := by
          refine ⟨fun hq => ?_, fun hq => ?_, fun hq => ?_⟩
          · exfalso; omega
          · exact ⟨by rw [hsw]; show (1 : Int32) = v (39 + 15 * x0.toNatClampNeg + x1.toNatClampNeg) 1; exact Int32.toInt_inj.mp (by rw [← qx_5]; omega), rfl⟩
          · exfalso; omega
        exact W.iret (v := 1) hx hb hr (fun t ht hW => ⟨⟨1, v, rfl, ⟨hv, hpost⟩, by rw [ht]; exact hP, hD⟩, hS.F ht⟩) hS.2.2 dX7_termOf_83
    · refine lv_tableIn (off := 56) (tgt := 84) hx hb dX7_termOf_28 (by rw [hsw]; decide) (by rw [hsw]; decide) (by rw [hsw]; decide) (by decide) ?_
      have k_2 : (2 : Int32).toInt = 2 := by decide
      have tsw : x2.toInt = 2 := by rw [hsw]; decide
      refine lv_aload hx hb dX7_termOf_84 (lv_at hl 0 rfl) ?_
      refine va_get (D := (dC, dI)) (ci := 6) (v := .int (v (39 + 15 * x0.toNatClampNeg + x1.toNatClampNeg) 2)) (C := RX6) (T := TX6) (N := 5) hx hb hts iwX7_termOf_X6 hown hK hP (39 + 15 * x0.toNatClampNeg + x1.toNatClampNeg) (wl_at (by omega) (ce_16 (kd_t _ hx_3 _ hx_4).1)) rfl 2 (by decide) (hts (.fieldLink RX7 185 "QuietStairs$Term" "act" "I") fwX7_termOf_6) (fun _ h9 => h9) rfl dX7_termOf_86 ?_
      refine lv_topi (fun x_5 ex_5 => ?_)
      have qx_5 : x_5.toInt = (v (39 + 15 * x0.toNatClampNeg + x1.toNatClampNeg) (2)).toInt := congrArg Int32.toInt ex_5
      have hpost : (¬ ((0 ≤ x0.toInt ∧ x0.toInt < (v 13 2).toInt) ∧ 0 ≤ x1.toInt ∧ x1.toInt < (v (29 + 15 * x0.toNatClampNeg) 5).toInt) → x_5 = -1 ∧ v = v) ∧ (((0 ≤ x0.toInt ∧ x0.toInt < (v 13 2).toInt) ∧ 0 ≤ x1.toInt ∧ x1.toInt < (v (29 + 15 * x0.toNatClampNeg) 5).toInt) ∧ 0 ≤ x2.toInt ∧ x2.toInt ≤ 4 → x_5 = v (39 + 15 * x0.toNatClampNeg + x1.toNatClampNeg) x2.toNatClampNeg ∧ v = v) ∧ (((0 ≤ x0.toInt ∧ x0.toInt < (v 13 2).toInt) ∧ 0 ≤ x1.toInt ∧ x1.toInt < (v (29 + 15 * x0.toNatClampNeg) 5).toInt) ∧ ¬ (0 ≤ x2.toInt ∧ x2.toInt ≤ 4) → x_5 = -1 ∧ v = v) := by
        refine ⟨fun hq => ?_, fun hq => ?_, fun hq => ?_⟩
        · exfalso; omega
        · exact ⟨by rw [ex_5, hsw]; rfl, rfl⟩
        · exfalso; omega
      exact W.iret (v := x_5) hx hb hr (fun t ht hW => ⟨⟨x_5, v, rfl, ⟨hv, hpost⟩, by rw [ht]; exact hP, hD⟩, hS.F ht⟩) hS.2.2 dX7_termOf_89
    · refine lv_tableIn (off := 62) (tgt := 90) hx hb dX7_termOf_28 (by rw [hsw]; decide) (by rw [hsw]; decide) (by rw [hsw]; decide) (by decide) ?_
      have k_3 : (3 : Int32).toInt = 3 := by decide
      have tsw : x2.toInt = 3 := by rw [hsw]; decide
      refine lv_aload hx hb dX7_termOf_90 (lv_at hl 0 rfl) ?_
      refine va_get (D := (dC, dI)) (ci := 6) (v := .int (v (39 + 15 * x0.toNatClampNeg + x1.toNatClampNeg) 3)) (C := RX6) (T := TX6) (N := 5) hx hb hts iwX7_termOf_X6 hown hK hP (39 + 15 * x0.toNatClampNeg + x1.toNatClampNeg) (wl_at (by omega) (ce_16 (kd_t _ hx_3 _ hx_4).1)) rfl 3 (by decide) (hts (.fieldLink RX7 188 "QuietStairs$Term" "first" "I") fwX7_termOf_7) (fun _ h9 => h9) rfl dX7_termOf_92 ?_
      refine lv_topi (fun x_5 ex_5 => ?_)
      have bzx_5 : 0 ≤ x_5.toInt ∧ x_5.toInt ≤ 23 := by rw [ex_5]; exact hv.at (K := 16) (kd_t _ hx_3 _ hx_4).1 rfl
      have qx_5 : x_5.toInt = (v (39 + 15 * x0.toNatClampNeg + x1.toNatClampNeg) (3)).toInt := congrArg Int32.toInt ex_5
      have hpost : (¬ ((0 ≤ x0.toInt ∧ x0.toInt < (v 13 2).toInt) ∧ 0 ≤ x1.toInt ∧ x1.toInt < (v (29 + 15 * x0.toNatClampNeg) 5).toInt) → x_5 = -1 ∧ v = v) ∧ (((0 ≤ x0.toInt ∧ x0.toInt < (v 13 2).toInt) ∧ 0 ≤ x1.toInt ∧ x1.toInt < (v (29 + 15 * x0.toNatClampNeg) 5).toInt) ∧ 0 ≤ x2.toInt ∧ x2.toInt ≤ 4 → x_5 = v (39 + 15 * x0.toNatClampNeg + x1.toNatClampNeg) x2.toNatClampNeg ∧ v = v) ∧ (((0 ≤ x0.toInt ∧ x0.toInt < (v 13 2).toInt) ∧ 0 ≤ x1.toInt ∧ x1.toInt < (v (29 + 15 * x0.toNatClampNeg) 5).toInt) ∧ ¬ (0 ≤ x2.toInt ∧ x2.toInt ≤ 4) → x_5 = -1 ∧ v = v) := by
        refine ⟨fun hq => ?_, fun hq => ?_, fun hq => ?_⟩
        · exfalso; omega
        · exact ⟨by rw [ex_5, hsw]; rfl, rfl⟩
        · exfalso; omega
      exact W.iret (v := x_5) hx hb hr (fun t ht hW => ⟨⟨x_5, v, rfl, ⟨hv, hpost⟩, by rw [ht]; exact hP, hD⟩, hS.F ht⟩) hS.2.2 dX7_termOf_95
    · refine lv_tableIn (off := 68) (tgt := 96) hx hb dX7_termOf_28 (by rw [hsw]; decide) (by rw [hsw]; decide) (by rw [hsw]; decide) (by decide) ?_
      have k_4 : (4 : Int32).toInt = 4 := by decide
      have tsw : x2.toInt = 4 := by rw [hsw]; decide
      refine lv_aload hx hb dX7_termOf_96 (lv_at hl 0 rfl) ?_
      refine va_get (D := (dC, dI)) (ci := 6) (v := .int (v (39 + 15 * x0.toNatClampNeg + x1.toNatClampNeg) 4)) (C := RX6) (T := TX6) (N := 5) hx hb hts iwX7_termOf_X6 hown hK hP (39 + 15 * x0.toNatClampNeg + x1.toNatClampNeg) (wl_at (by omega) (ce_16 (kd_t _ hx_3 _ hx_4).1)) rfl 4 (by decide) (hts (.fieldLink RX7 191 "QuietStairs$Term" "last" "I") fwX7_termOf_8) (fun _ h9 => h9) rfl dX7_termOf_98 ?_
      refine lv_topi (fun x_5 ex_5 => ?_)
      have bzx_5 : 0 ≤ x_5.toInt ∧ x_5.toInt ≤ 23 := by rw [ex_5]; exact hv.at (K := 16) (kd_t _ hx_3 _ hx_4).1 rfl
      have qx_5 : x_5.toInt = (v (39 + 15 * x0.toNatClampNeg + x1.toNatClampNeg) (4)).toInt := congrArg Int32.toInt ex_5
      have hpost : (¬ ((0 ≤ x0.toInt ∧ x0.toInt < (v 13 2).toInt) ∧ 0 ≤ x1.toInt ∧ x1.toInt < (v (29 + 15 * x0.toNatClampNeg) 5).toInt) → x_5 = -1 ∧ v = v) ∧ (((0 ≤ x0.toInt ∧ x0.toInt < (v 13 2).toInt) ∧ 0 ≤ x1.toInt ∧ x1.toInt < (v (29 + 15 * x0.toNatClampNeg) 5).toInt) ∧ 0 ≤ x2.toInt ∧ x2.toInt ≤ 4 → x_5 = v (39 + 15 * x0.toNatClampNeg + x1.toNatClampNeg) x2.toNatClampNeg ∧ v = v) ∧ (((0 ≤ x0.toInt ∧ x0.toInt < (v 13 2).toInt) ∧ 0 ≤ x1.toInt ∧ x1.toInt < (v (29 + 15 * x0.toNatClampNeg) 5).toInt) ∧ ¬ (0 ≤ x2.toInt ∧ x2.toInt ≤ 4) → x_5 = -1 ∧ v = v) := by
        refine ⟨fun hq => ?_, fun hq => ?_, fun hq => ?_⟩
        · exfalso; omega
        · exact ⟨by rw [ex_5, hsw]; rfl, rfl⟩
        · exfalso; omega
      exact W.iret (v := x_5) hx hb hr (fun t ht hW => ⟨⟨x_5, v, rfl, ⟨hv, hpost⟩, by rw [ht]; exact hP, hD⟩, hS.F ht⟩) hS.2.2 dX7_termOf_101
  · refine lv_if_ne (tgt := 11) hx hb dX7_termOf_6 (by decide) (fun c9 => absurd c9 (by decide)) (fun _ => ?_)
    refine lv_iconst (v := (-1)) hx hb dX7_termOf_9 (by decide) ?_
    have hpost : (¬ ((0 ≤ x0.toInt ∧ x0.toInt < (v 13 2).toInt) ∧ 0 ≤ x1.toInt ∧ x1.toInt < (v (29 + 15 * x0.toNatClampNeg) 5).toInt) → ((-1) : Int32) = -1 ∧ v = v) ∧ (((0 ≤ x0.toInt ∧ x0.toInt < (v 13 2).toInt) ∧ 0 ≤ x1.toInt ∧ x1.toInt < (v (29 + 15 * x0.toNatClampNeg) 5).toInt) ∧ 0 ≤ x2.toInt ∧ x2.toInt ≤ 4 → ((-1) : Int32) = v (39 + 15 * x0.toNatClampNeg + x1.toNatClampNeg) x2.toNatClampNeg ∧ v = v) ∧ (((0 ≤ x0.toInt ∧ x0.toInt < (v 13 2).toInt) ∧ 0 ≤ x1.toInt ∧ x1.toInt < (v (29 + 15 * x0.toNatClampNeg) 5).toInt) ∧ ¬ (0 ≤ x2.toInt ∧ x2.toInt ≤ 4) → ((-1) : Int32) = -1 ∧ v = v) := by
      refine ⟨fun hq => ?_, fun hq => ?_, fun hq => ?_⟩
      · exact ⟨rfl, rfl⟩
      · exfalso; omega
      · exfalso; omega
    exact W.iret (v := (-1)) hx hb hr (fun t ht hW => ⟨⟨(-1), v, rfl, ⟨hv, hpost⟩, by rw [ht]; exact hP, hD⟩, hS.F ht⟩) hS.2.2 dX7_termOf_10

set_option maxHeartbeats 4000000 in
set_option maxRecDepth 100000 in
theorem e_X8_termOf (l : Launch) (dC : Nat → ClassId) (dI : Nat → Nat → Nat) (cy : Nat → ClassId) (sz : Nat) (ad : Nat → Nat) (v : Nat → Nat → Int32) (hv : Ir v) (x0 x1 x2 : Int32) : Met l yX8_termOf wsX8_termOf ({ frames := 3, cells := 0, slots := 0, locals := 192 }) (va_Pc [.ref (ad 0), .int x0, .int x1, .int x2] (ex_Pre dC dI cy sz (wm ad cy v))) (va_Qi (fun (r : Int32) (u : Nat → Nat → Int32) => Ir u ∧ (¬ ((0 ≤ x0.toInt ∧ x0.toInt < (v 1 2).toInt) ∧ 0 ≤ x1.toInt ∧ x1.toInt < (v 1 (38 + 7 * x0.toNatClampNeg)).toInt) → r = -1 ∧ u = v) ∧ (((0 ≤ x0.toInt ∧ x0.toInt < (v 1 2).toInt) ∧ 0 ≤ x1.toInt ∧ x1.toInt < (v 1 (38 + 7 * x0.toNatClampNeg)).toInt) ∧ 0 ≤ x2.toInt ∧ x2.toInt ≤ 4 → r = v 1 (158 + 25 * x0.toNatClampNeg + 5 * x1.toNatClampNeg + x2.toNatClampNeg) ∧ u = v) ∧ (((0 ≤ x0.toInt ∧ x0.toInt < (v 1 2).toInt) ∧ 0 ≤ x1.toInt ∧ x1.toInt < (v 1 (38 + 7 * x0.toNatClampNeg)).toInt) ∧ ¬ (0 ≤ x2.toInt ∧ x2.toInt ≤ 4) → r = -1 ∧ u = v)) (fun u t => ex_Pst dC dI (va_A (wm ad cy v) sz) (wm ad cy u) t) (va_A (wm ad cy v) sz)) 0 0 (va_A (wm ad cy v) sz) := by
  refine Met.ofW (cc := cX8_termOf) (maxL := 4) (ret := (some .int)) (by decide) rfl ?_
  intro p e s m args below meth c s₁ B hml hv
  obtain ⟨rfl, hsz, hE, hP, hK, hD0⟩ := hv
  have hx := B.exec
  have hb := B.bytes
  have hr := B.returns
  have hts := atoms_spec (ws := wsX8_termOf) B.pre
  have hown : s.vm.findClass RX8 = some m.cls := findClass_of_methodNamed B.named
  have hlocks := B.notSynchronized
  subst hsz
  have hD := hD0.self (sz := s.heap.size)
  generalize hAe : va_A (wm ad cy v) s.heap.size = A at hD ⊢
  have hA : ∀ q : Nat, s.heap.size ≤ q → A q := fun q h => by rw [← hAe]; exact Or.inr h
  have hS : va_S A s.heap s.heap [] := va_S.rf
  have hP : va_P (dC, dI) vwCl (wm ad cy v) s.heap := hP
  have hl := lv_entry ([.ref (ad 0), .int x0, .int x1, .int x2]) (n := 4) (Nat.le_of_ble_eq_true rfl)
  rw [lg_entry_eq]
  generalize (lg_sl ([.ref (ad 0), .int x0, .int x1, .int x2]) ++ List.replicate (4 - (lg_sl ([.ref (ad 0), .int x0, .int x1, .int x2])).length) Slot.unset).toArray = ls at hl ⊢
  have hl : lv_has ls 4 [(0, .ref (ad 0)), (1, .int x0), (2, .int x1), (3, .int x2)] := hl
  refine lv_aload_n hx hb dX8_termOf_0 rfl (lv_at hl 0 rfl) ?_
  refine lv_iload_n hx hb dX8_termOf_1 rfl (lv_at hl 1 rfl) ?_
  refine lv_iload_n hx hb dX8_termOf_2 rfl (lv_at hl 2 rfl) ?_
  refine yw_i (w1 := fun (u : Nat → Nat → Int32) => wm ad cy u) hD hS hA (va_runV (As := [.int x0, .int x1]) (rest := []) ⟨hx, hb, hml, hown, hts⟩ (e_X8_isTerm l dC dI cy _ ad v hv x0 x1) (cwV 2 hts gX8_termOf_X8_isTerm rfl rfl rfl hd_V_X8_isTerm_2 ⟨Nat.le_of_ble_eq_true rfl, Nat.le_of_ble_eq_true rfl⟩) (yw_preV hE hK hP hD (ci := 8) (q := (RX8, TX8, 11)) (q0 := 0) rfl (wm_at (by decide) rc_0)) rfl rfl hl.1 rfl (lv_room (Nat.le_of_ble_eq_true rfl)) dX8_termOf_3 ⟨Nat.le_of_ble_eq_true rfl, Nat.le_of_ble_eq_true rfl⟩) (fun r_1 v_1 H locs hw_1 hP hD hS => ?_)
  obtain ⟨-, hu_1, hw_1⟩ := hw_1
  replace hu_1 := hu_1.symm
  subst hu_1
  rcases hw_1 with ⟨rfl, ha_2⟩ | ⟨rfl, ha_2⟩
  · have hb_2 := hv 1 2 6 (by decide)
    have hj_2 : 0 ≤ x0.toInt ∧ x0.toInt ≤ 5 := ⟨by omega, by omega⟩
    have zn_x0 : (x0.toNatClampNeg : Int) = x0.toInt := t_nn (by omega)
    have hg_2 := hv 1 (38 + 7 * x0.toNatClampNeg) 5 (bS_c (by omega) (by omega))
    have hl_2 : 0 ≤ x1.toInt ∧ x1.toInt ≤ 4 := ⟨by omega, by omega⟩
    refine lv_if_eq (tgt := 33) hx hb dX8_termOf_6 (by decide) (fun c9 => absurd c9 (by decide)) (fun _ => ?_)
    refine lv_iload_n hx hb dX8_termOf_9 rfl (lv_at hl 3 rfl) ?_
    refine lv_iconst (v := 0) hx hb dX8_termOf_10 (by decide) ?_
    refine lv_iconst (v := 4) hx hb dX8_termOf_11 (by decide) ?_
    refine yc_p hP hS (va_runS (As := [.int x2, .int 0, .int 4]) (rest := []) ⟨hx, hb, hml, hown, hts⟩ (c_X8_in l x2 0 4) (cwS 3 hts gX8_termOf_X8_in rfl rfl rfl hd_S_X8_in_3 ⟨Nat.le_of_ble_eq_true rfl, Nat.le_of_ble_eq_true rfl⟩) ex_preP rfl rfl hl.1 rfl (lv_room (Nat.le_of_ble_eq_true rfl)) dX8_termOf_12 ⟨Nat.le_of_ble_eq_true rfl, Nat.le_of_ble_eq_true rfl⟩) (fun r_3 H locs hw_3 hP hS => ?_)
    rcases wi_ca hw_3 with ⟨rfl, hc_4⟩ | ⟨rfl, hc_4⟩
    · have k_0 : (0 : Int32).toInt = 0 := by decide
      have k_4 : (4 : Int32).toInt = 4 := by decide
      have tc_4 := wi_tl hc_4
      refine lv_if_eq (tgt := 33) hx hb dX8_termOf_15 (by decide) (fun c9 => absurd c9 (by decide)) (fun _ => ?_)
      refine lv_aload_n hx hb dX8_termOf_18 rfl (lv_at hl 0 rfl) ?_
      refine va_get (D := (dC, dI)) (ci := 8) (v := .ref (ad 1)) (C := RX8) (T := TX8) (N := 11) hx hb hts iwX8_termOf_X8 hown hK hP (0) (wm_at (by decide) rc_0) rfl 0 (by decide) (hts (.fieldLink RX8 7 "QuietStairsModel" "s" "[I") fwX8_termOf_1) (fun _ h9 => h9) rfl dX8_termOf_19 ?_
      refine lv_iload_n hx hb dX8_termOf_22 rfl (lv_at hl 1 rfl) ?_
      refine lv_iload_n hx hb dX8_termOf_23 rfl (lv_at hl 2 rfl) ?_
      refine yc_p hP hS (va_runS (As := [.int x0, .int x1]) (rest := [.ref (ad 1)]) ⟨hx, hb, hml, hown, hts⟩ (c_X8_termAt l x0 x1) (cwS 2 hts gX8_termOf_X8_termAt rfl rfl rfl hd_S_X8_termAt_2 ⟨Nat.le_of_ble_eq_true rfl, Nat.le_of_ble_eq_true rfl⟩) ex_preP rfl rfl hl.1 rfl (lv_room (Nat.le_of_ble_eq_true rfl)) dX8_termOf_24 ⟨Nat.le_of_ble_eq_true rfl, Nat.le_of_ble_eq_true rfl⟩) (fun r_5 H locs hw_5 hP hS => ?_)
      have tr_5 : r_5.toInt = 158 + 25 * x0.toInt + 5 * x1.toInt := t_tm hw_5 ⟨by omega, by omega⟩ ⟨by omega, by omega⟩
      refine lv_iload_n hx hb dX8_termOf_27 rfl (lv_at hl 3 rfl) ?_
      refine lv_iadd hx hb dX8_termOf_28 ?_
      refine lv_topi (fun x_6 ex_6 => ?_)
      have tx_6 : x_6.toInt = r_5.toInt + x2.toInt := by rw [ex_6]; exact t_add ⟨by omega, by omega⟩
      have zn_x1 : (x1.toNatClampNeg : Int) = x1.toInt := t_nn (by omega)
      have zn_x2 : (x2.toNatClampNeg : Int) = x2.toInt := t_nn (by omega)
      have nx_6 : x_6.toNatClampNeg = 158 + 25 * x0.toNatClampNeg + 5 * x1.toNatClampNeg + x2.toNatClampNeg := by have z1 := t_nn (x := x_6) (by omega); omega
      refine va_iald hx hb hK hP (1) 0 (wm_at (by decide) rc_1) rfl (vp_in_iff.mpr ⟨by omega, by omega⟩) dX8_termOf_29 ?_
      refine lv_topi (fun x_7 ex_7 => ?_)
      rw [nx_6] at ex_7
      have qx_7 : x_7.toInt = (v 1 (158 + 25 * x0.toNatClampNeg + 5 * x1.toNatClampNeg + x2.toNatClampNeg)).toInt := congrArg Int32.toInt ex_7
      refine lv_goto (tgt := 34) hx hb dX8_termOf_30 (by decide) ?_
      have hpost : (¬ ((0 ≤ x0.toInt ∧ x0.toInt < (v 1 2).toInt) ∧ 0 ≤ x1.toInt ∧ x1.toInt < (v 1 (38 + 7 * x0.toNatClampNeg)).toInt) → x_7 = -1 ∧ v = v) ∧ (((0 ≤ x0.toInt ∧ x0.toInt < (v 1 2).toInt) ∧ 0 ≤ x1.toInt ∧ x1.toInt < (v 1 (38 + 7 * x0.toNatClampNeg)).toInt) ∧ 0 ≤ x2.toInt ∧ x2.toInt ≤ 4 → x_7 = v 1 (158 + 25 * x0.toNatClampNeg + 5 * x1.toNatClampNeg + x2.toNatClampNeg) ∧ v = v) ∧ (((0 ≤ x0.toInt ∧ x0.toInt < (v 1 2).toInt) ∧ 0 ≤ x1.toInt ∧ x1.toInt < (v 1 (38 + 7 * x0.toNatClampNeg)).toInt) ∧ ¬ (0 ≤ x2.toInt ∧ x2.toInt ≤ 4) → x_7 = -1 ∧ v = v) := by
        refine ⟨fun hq => ?_, fun hq => ?_, fun hq => ?_⟩
        · exfalso; omega
        · exact ⟨by rw [ex_7], rfl⟩
        · exfalso; omega
      exact W.iret (v := x_7) hx hb hr (fun t ht hW => ⟨⟨x_7, v, rfl, ⟨hv, hpost⟩, by rw [ht]; exact hP, hD⟩, hS.F ht⟩) hS.2.2 dX8_termOf_34
    · have k_0 : (0 : Int32).toInt = 0 := by decide
      have k_4 : (4 : Int32).toInt = 4 := by decide
      have tc_4 : ¬ ((0 : Int32).toInt ≤ x2.toInt ∧ x2.toInt ≤ (4 : Int32).toInt) := fun q => hc_4 ⟨Int32.le_iff_toInt_le.mpr q.1, Int32.le_iff_toInt_le.mpr q.2⟩
      refine lv_if_eq (tgt := 33) hx hb dX8_termOf_15 (by decide) (fun _ => ?_) (fun c9 => absurd c9 (by decide))
      refine lv_iconst (v := (-1)) hx hb dX8_termOf_33 (by decide) ?_
      have hpost : (¬ ((0 ≤ x0.toInt ∧ x0.toInt < (v 1 2).toInt) ∧ 0 ≤ x1.toInt ∧ x1.toInt < (v 1 (38 + 7 * x0.toNatClampNeg)).toInt) → ((-1) : Int32) = -1 ∧ v = v) ∧ (((0 ≤ x0.toInt ∧ x0.toInt < (v 1 2).toInt) ∧ 0 ≤ x1.toInt ∧ x1.toInt < (v 1 (38 + 7 * x0.toNatClampNeg)).toInt) ∧ 0 ≤ x2.toInt ∧ x2.toInt ≤ 4 → ((-1) : Int32) = v 1 (158 + 25 * x0.toNatClampNeg + 5 * x1.toNatClampNeg + x2.toNatClampNeg) ∧ v = v) ∧ (((0 ≤ x0.toInt ∧ x0.toInt < (v 1 2).toInt) ∧ 0 ≤ x1.toInt ∧ x1.toInt < (v 1 (38 + 7 * x0.toNatClampNeg)).toInt) ∧ ¬ (0 ≤ x2.toInt ∧ x2.toInt ≤ 4) → ((-1) : Int32) = -1 ∧ v = v) := by
        refine ⟨fun hq => ?_, fun hq => ?_, fun hq => ?_⟩
        · exfalso; omega
        · exfalso; omega
        · exact ⟨rfl, rfl⟩
      exact W.iret (v := (-1)) hx hb hr (fun t ht hW => ⟨⟨(-1), v, rfl, ⟨hv, hpost⟩, by rw [ht]; exact hP, hD⟩, hS.F ht⟩) hS.2.2 dX8_termOf_34
  · refine lv_if_eq (tgt := 33) hx hb dX8_termOf_6 (by decide) (fun _ => ?_) (fun c9 => absurd c9 (by decide))
    refine lv_iconst (v := (-1)) hx hb dX8_termOf_33 (by decide) ?_
    have hpost : (¬ ((0 ≤ x0.toInt ∧ x0.toInt < (v 1 2).toInt) ∧ 0 ≤ x1.toInt ∧ x1.toInt < (v 1 (38 + 7 * x0.toNatClampNeg)).toInt) → ((-1) : Int32) = -1 ∧ v = v) ∧ (((0 ≤ x0.toInt ∧ x0.toInt < (v 1 2).toInt) ∧ 0 ≤ x1.toInt ∧ x1.toInt < (v 1 (38 + 7 * x0.toNatClampNeg)).toInt) ∧ 0 ≤ x2.toInt ∧ x2.toInt ≤ 4 → ((-1) : Int32) = v 1 (158 + 25 * x0.toNatClampNeg + 5 * x1.toNatClampNeg + x2.toNatClampNeg) ∧ v = v) ∧ (((0 ≤ x0.toInt ∧ x0.toInt < (v 1 2).toInt) ∧ 0 ≤ x1.toInt ∧ x1.toInt < (v 1 (38 + 7 * x0.toNatClampNeg)).toInt) ∧ ¬ (0 ≤ x2.toInt ∧ x2.toInt ≤ 4) → ((-1) : Int32) = -1 ∧ v = v) := by
      refine ⟨fun hq => ?_, fun hq => ?_, fun hq => ?_⟩
      · exact ⟨rfl, rfl⟩
      · exfalso; omega
      · exfalso; omega
    exact W.iret (v := (-1)) hx hb hr (fun t ht hW => ⟨⟨(-1), v, rfl, ⟨hv, hpost⟩, by rw [ht]; exact hP, hD⟩, hS.F ht⟩) hS.2.2 dX8_termOf_34

set_option maxHeartbeats 4000000 in
theorem T_termOf {n r r2 x0 x1 x2 : Int32} {v u v2 u2 : Nat → Nat → Int32} (hI : Iv v) (hQ : Ir v2) (h : RR n v v2) (p : (¬ ((0 ≤ x0.toInt ∧ x0.toInt < (v 13 2).toInt) ∧ 0 ≤ x1.toInt ∧ x1.toInt < (v (29 + 15 * x0.toNatClampNeg) 5).toInt) → r = -1 ∧ u = v) ∧ (((0 ≤ x0.toInt ∧ x0.toInt < (v 13 2).toInt) ∧ 0 ≤ x1.toInt ∧ x1.toInt < (v (29 + 15 * x0.toNatClampNeg) 5).toInt) ∧ 0 ≤ x2.toInt ∧ x2.toInt ≤ 4 → r = v (39 + 15 * x0.toNatClampNeg + x1.toNatClampNeg) x2.toNatClampNeg ∧ u = v) ∧ (((0 ≤ x0.toInt ∧ x0.toInt < (v 13 2).toInt) ∧ 0 ≤ x1.toInt ∧ x1.toInt < (v (29 + 15 * x0.toNatClampNeg) 5).toInt) ∧ ¬ (0 ≤ x2.toInt ∧ x2.toInt ≤ 4) → r = -1 ∧ u = v)) (q : (¬ ((0 ≤ x0.toInt ∧ x0.toInt < (v2 1 2).toInt) ∧ 0 ≤ x1.toInt ∧ x1.toInt < (v2 1 (38 + 7 * x0.toNatClampNeg)).toInt) → r2 = -1 ∧ u2 = v2) ∧ (((0 ≤ x0.toInt ∧ x0.toInt < (v2 1 2).toInt) ∧ 0 ≤ x1.toInt ∧ x1.toInt < (v2 1 (38 + 7 * x0.toNatClampNeg)).toInt) ∧ 0 ≤ x2.toInt ∧ x2.toInt ≤ 4 → r2 = v2 1 (158 + 25 * x0.toNatClampNeg + 5 * x1.toNatClampNeg + x2.toNatClampNeg) ∧ u2 = v2) ∧ (((0 ≤ x0.toInt ∧ x0.toInt < (v2 1 2).toInt) ∧ 0 ≤ x1.toInt ∧ x1.toInt < (v2 1 (38 + 7 * x0.toNatClampNeg)).toInt) ∧ ¬ (0 ≤ x2.toInt ∧ x2.toInt ≤ 4) → r2 = -1 ∧ u2 = v2)) : r = r2 ∧ RR n u u2 := by
  have e0 : v 13 0 = v2 1 0 := h.1.1 _ _ _ (lk_a (by decide))
  have e1 : v 13 1 = v2 1 1 := h.1.1 _ _ _ (lk_a (by decide))
  have e2 : v 13 2 = v2 1 2 := h.1.1 _ _ _ (lk_a (by decide))
  have e3 : v 13 3 = v2 1 3 := h.1.1 _ _ _ (lk_a (by decide))
  have hb0 := hQ 1 0 8 (by decide)
  have hb1 := hQ 1 1 4 (by decide)
  have hb2 := hQ 1 2 6 (by decide)
  have hb3 := hQ 1 3 6 (by decide)
  rw [e2] at p
  by_cases hC : (0 ≤ x0.toInt ∧ x0.toInt < (v2 1 2).toInt)
  · have zX := t_nn (x := x0) (by omega)
    have hX : x0.toNatClampNeg < 6 := by omega
    have ha : (x0.toNatClampNeg : Int) < (v2 1 2).toInt := by omega
    have ev : v (29 + 15 * x0.toNatClampNeg) 5 = v2 1 (38 + 7 * x0.toNatClampNeg) := h.1.1 _ _ _ (lk_c5 hX ha)
    rw [ev] at p
    have hb := hQ 1 (38 + 7 * x0.toNatClampNeg) 5 (bS_c (by omega) (by omega))
    by_cases hT : 0 ≤ x1.toInt ∧ x1.toInt < (v2 1 (38 + 7 * x0.toNatClampNeg)).toInt
    · by_cases hW : 0 ≤ x2.toInt ∧ x2.toInt ≤ 4
      · obtain ⟨p1, p2⟩ := p.2.1 ⟨⟨hC, hT⟩, hW⟩
        obtain ⟨q1, q2⟩ := q.2.1 ⟨⟨hC, hT⟩, hW⟩
        have zT := t_nn (x := x1) (by omega)
        have zW := t_nn (x := x2) (by omega)
        refine ⟨?_, by rw [p2, q2]; exact h⟩
        rw [p1, q1]
        exact h.1.1 _ _ _ (lk_t hX ha (by omega) (by omega) (by omega))
      · obtain ⟨p1, p2⟩ := p.2.2 ⟨⟨hC, hT⟩, hW⟩
        obtain ⟨q1, q2⟩ := q.2.2 ⟨⟨hC, hT⟩, hW⟩
        exact ⟨by rw [p1, q1], by rw [p2, q2]; exact h⟩
    · obtain ⟨p1, p2⟩ := p.1 (fun w => hT w.2)
      obtain ⟨q1, q2⟩ := q.1 (fun w => hT w.2)
      exact ⟨by rw [p1, q1], by rw [p2, q2]; exact h⟩
  · obtain ⟨p1, p2⟩ := p.1 (fun w => hC w.1)
    obtain ⟨q1, q2⟩ := q.1 (fun w => hC w.1)
    exact ⟨by rw [p1, q1], by rw [p2, q2]; exact h⟩
noncomputable def wsL_law_r1 : List Cond := [Cond.classLink RL 7 RX7, Cond.instantiable RX7 5, Cond.initialized RX7, Cond.classLink RL 10 RX8, Cond.instantiable RX8 11, Cond.initialized RX8, Cond.methodLink RL 9 yX7_init, Cond.instanceMethod yX7_init, Cond.code yX7_init cX7_init 1 none, Cond.methodLink RX7 3 objectInit, Cond.instanceMethod objectInit, Cond.code objectInit ⟨#[0xb1]⟩ 1 none, Cond.classLink RX7 9 RX1, Cond.instantiable RX1 7, Cond.initialized RX1, Cond.fieldLink RX7 12 "QuietStairs" "now" "LQuietStairs$House;", Cond.classLink RX7 16 RX4, Cond.instantiable RX4 11, Cond.initialized RX4, Cond.fieldLink RX7 19 "QuietStairs" "planner" "LQuietStairs$Planner;", Cond.classLink RX7 23 RX5, Cond.instantiable RX5 3, Cond.initialized RX5, Cond.fieldLink RX7 26 "QuietStairs" "table" "LQuietStairs$Table;"]
noncomputable def wsL_law_r2 : List Cond := [Cond.fieldLink RX7 30 "QuietStairs" "kept" "LQuietStairs$House;", Cond.fieldLink RX7 33 "QuietStairs" "roomCount" "I", Cond.methodLink RX7 11 yX1_init, Cond.instanceMethod yX1_init, Cond.code yX1_init cX1_init 2 none, Cond.methodLink RX1 3 objectInit, Cond.classLink RX1 9 RX3, Cond.fieldLink RX1 11 "QuietStairs$House" "parties" "[LQuietStairs$Party;", Cond.classLink RX1 17 RX2, Cond.fieldLink RX1 19 "QuietStairs$House" "mediators" "[LQuietStairs$Mediator;", Cond.classLink RX1 23 RX0, Cond.fieldLink RX1 25 "QuietStairs$House" "cases" "[LQuietStairs$Case;", Cond.instantiable RX3 2, Cond.initialized RX3, Cond.instantiable RX2 3, Cond.initialized RX2, Cond.instantiable RX0 11, Cond.initialized RX0, Cond.instanceMethod yX3_init, Cond.code yX3_init cX3_init 1 none, Cond.methodLink RX3 1 objectInit, Cond.instanceMethod yX2_init, Cond.code yX2_init cX2_init 1 none, Cond.methodLink RX2 1 objectInit]
noncomputable def wsL_law_r3 : List Cond := [Cond.methodLink RX1 31 yX0_init, Cond.instanceMethod yX0_init, Cond.code yX0_init cX0_init 2 none, Cond.methodLink RX0 3 objectInit, Cond.arrayClass .int, Cond.fieldLink RX0 9 "QuietStairs$Case" "parties" "[I", Cond.fieldLink RX0 15 "QuietStairs$Case" "box" "[I", Cond.classLink RX0 18 "[[I", Cond.fieldLink RX0 20 "QuietStairs$Case" "offers" "[[I", Cond.fieldLink RX0 23 "QuietStairs$Case" "logs" "[[I", Cond.classLink RX0 26 RX6, Cond.fieldLink RX0 28 "QuietStairs$Case" "terms" "[LQuietStairs$Term;", Cond.instantiable RX6 5, Cond.initialized RX6, Cond.instanceMethod yX6_init, Cond.code yX6_init cX6_init 1 none, Cond.methodLink RX6 1 objectInit, Cond.instanceMethod yX4_init, Cond.code yX4_init cX4_init 1 none, Cond.methodLink RX4 3 objectInit, Cond.fieldLink RX4 9 "QuietStairs$Planner" "numbers" "[I", Cond.fieldLink RX4 15 "QuietStairs$Planner" "weights" "[I", Cond.fieldLink RX4 18 "QuietStairs$Planner" "pairBits" "[I", Cond.fieldLink RX4 21 "QuietStairs$Planner" "heaviestFirst" "[I"]
noncomputable def wsL_law_r4 : List Cond := [Cond.fieldLink RX4 24 "QuietStairs$Planner" "seats" "[I", Cond.fieldLink RX4 27 "QuietStairs$Planner" "bestSeats" "[I", Cond.fieldLink RX4 30 "QuietStairs$Planner" "busyBits" "[I", Cond.fieldLink RX4 33 "QuietStairs$Planner" "sittings" "[I", Cond.instanceMethod yX5_init, Cond.code yX5_init cX5_init 1 none, Cond.methodLink RX5 3 objectInit, Cond.fieldLink RX5 9 "QuietStairs$Table" "musts" "[I", Cond.fieldLink RX5 15 "QuietStairs$Table" "hourBits" "[I", Cond.methodLink RL 12 yX8_init, Cond.instanceMethod yX8_init, Cond.code yX8_init cX8_init 1 none, Cond.methodLink RX8 1 objectInit, Cond.fieldLink RX8 7 "QuietStairsModel" "s" "[I", Cond.fieldLink RX8 13 "QuietStairsModel" "kept" "[I", Cond.fieldLink RX8 16 "QuietStairsModel" "rooms" "I", Cond.fieldLink RX8 20 "QuietStairsModel" "headOf" "[I", Cond.fieldLink RX8 23 "QuietStairsModel" "planned" "[I", Cond.fieldLink RX8 26 "QuietStairsModel" "tried" "[I", Cond.fieldLink RX8 29 "QuietStairsModel" "best" "[I", Cond.fieldLink RX8 32 "QuietStairsModel" "hours" "[I", Cond.methodLink RL 13 yX7_party, Cond.instanceMethod yX7_party, Cond.selects RX7 yX7_party yX7_party]
noncomputable def wsL_law_r5 : List Cond := [Cond.code yX7_party cX7_party 4 (some .int), Cond.fieldLink RX7 41 "QuietStairs$House" "partyCount" "I", Cond.fieldLink RX7 44 "QuietStairs$House" "parties" "[LQuietStairs$Party;", Cond.fieldLink RX7 48 "QuietStairs$Party" "floor" "I", Cond.fieldLink RX7 53 "QuietStairs$Party" "tongue" "I", Cond.methodLink RX7 37 yX7_isWithin, Cond.static yX7_isWithin, Cond.code yX7_isWithin cX7_isWithin 3 (some .boolean), Cond.methodLink RL 17 yX8_party, Cond.instanceMethod yX8_party, Cond.selects RX8 yX8_party yX8_party, Cond.code yX8_party cX8_party 5 (some .int), Cond.methodLink RX8 35 yX8_in, Cond.static yX8_in, Cond.code yX8_in cX8_in 3 (some .boolean), Cond.methodLink RL 18 yX7_mediator, Cond.instanceMethod yX7_mediator, Cond.selects RX7 yX7_mediator yX7_mediator, Cond.code yX7_mediator cX7_mediator 4 (some .int), Cond.fieldLink RX7 56 "QuietStairs$House" "mediatorCount" "I", Cond.fieldLink RX7 59 "QuietStairs$House" "mediators" "[LQuietStairs$Mediator;", Cond.fieldLink RX7 63 "QuietStairs$Mediator" "floor" "I", Cond.fieldLink RX7 66 "QuietStairs$Mediator" "tongues" "I", Cond.fieldLink RX7 69 "QuietStairs$Mediator" "kinBits" "I"]
noncomputable def wsL_law_r6 : List Cond := [Cond.methodLink RL 21 yX8_mediator, Cond.instanceMethod yX8_mediator, Cond.selects RX8 yX8_mediator yX8_mediator, Cond.code yX8_mediator cX8_mediator 4 (some .int), Cond.methodLink RL 22 yX7_kin, Cond.instanceMethod yX7_kin, Cond.selects RX7 yX7_kin yX7_kin, Cond.code yX7_kin cX7_kin 5 (some .int), Cond.methodLink RX7 72 yX7_isMediator, Cond.instanceMethod yX7_isMediator, Cond.selects RX7 yX7_isMediator yX7_isMediator, Cond.code yX7_isMediator cX7_isMediator 2 (some .boolean), Cond.methodLink RX7 76 yX7_isParty, Cond.instanceMethod yX7_isParty, Cond.selects RX7 yX7_isParty yX7_isParty, Cond.code yX7_isParty cX7_isParty 2 (some .boolean), Cond.methodLink RX7 79 yX7_hasBit, Cond.static yX7_hasBit, Cond.code yX7_hasBit cX7_hasBit 2 (some .boolean), Cond.methodLink RL 26 yX8_kin, Cond.instanceMethod yX8_kin, Cond.selects RX8 yX8_kin yX8_kin, Cond.code yX8_kin cX8_kin 5 (some .int), Cond.methodLink RX8 39 yX8_isMediator]
noncomputable def wsL_law_r7 : List Cond := [Cond.instanceMethod yX8_isMediator, Cond.selects RX8 yX8_isMediator yX8_isMediator, Cond.code yX8_isMediator cX8_isMediator 2 (some .boolean), Cond.methodLink RX8 43 yX8_isParty, Cond.instanceMethod yX8_isParty, Cond.selects RX8 yX8_isParty yX8_isParty, Cond.code yX8_isParty cX8_isParty 2 (some .boolean), Cond.methodLink RL 27 yX7_open, Cond.instanceMethod yX7_open, Cond.selects RX7 yX7_open yX7_open, Cond.code yX7_open cX7_open 3 (some .int), Cond.fieldLink RX7 83 "QuietStairs$House" "caseCount" "I", Cond.fieldLink RX7 86 "QuietStairs$House" "cases" "[LQuietStairs$Case;", Cond.methodLink RX7 90 yX0_begin, Cond.instanceMethod yX0_begin, Cond.selects RX0 yX0_begin yX0_begin, Cond.code yX0_begin cX0_begin 5 none, Cond.fieldLink RX0 33 "QuietStairs$Case" "state" "I", Cond.fieldLink RX0 37 "QuietStairs$Case" "sum" "I", Cond.fieldLink RX0 40 "QuietStairs$Case" "roundsOver" "I", Cond.fieldLink RX0 43 "QuietStairs$Case" "weight" "I", Cond.fieldLink RX0 46 "QuietStairs$Case" "markedBits" "I", Cond.fieldLink RX0 49 "QuietStairs$Case" "termCount" "I", Cond.methodLink RL 30 yX8_open]
noncomputable def wsL_law_r8 : List Cond := [Cond.instanceMethod yX8_open, Cond.selects RX8 yX8_open yX8_open, Cond.code yX8_open cX8_open 5 (some .int), Cond.methodLink RX8 46 yX8_at, Cond.static yX8_at, Cond.code yX8_at cX8_at 2 (some .int), Cond.methodLink RL 31 yX7_close, Cond.instanceMethod yX7_close, Cond.selects RX7 yX7_close yX7_close, Cond.code yX7_close cX7_close 2 (some .int), Cond.fieldLink RX7 99 "QuietStairs$Case" "state" "I", Cond.methodLink RX7 96 yX7_isCase, Cond.instanceMethod yX7_isCase, Cond.selects RX7 yX7_isCase yX7_isCase, Cond.code yX7_isCase cX7_isCase 2 (some .boolean), Cond.methodLink RL 35 yX8_close, Cond.instanceMethod yX8_close, Cond.selects RX8 yX8_close yX8_close, Cond.code yX8_close cX8_close 2 (some .int), Cond.methodLink RX8 50 yX8_isCase, Cond.instanceMethod yX8_isCase, Cond.selects RX8 yX8_isCase yX8_isCase, Cond.code yX8_isCase cX8_isCase 2 (some .boolean), Cond.methodLink RL 36 yX7_weight]
noncomputable def wsL_law_r9 : List Cond := [Cond.instanceMethod yX7_weight, Cond.selects RX7 yX7_weight yX7_weight, Cond.code yX7_weight cX7_weight 4 (some .int), Cond.fieldLink RX7 102 "QuietStairs$Case" "weight" "I", Cond.methodLink RL 39 yX8_weight, Cond.instanceMethod yX8_weight, Cond.selects RX8 yX8_weight yX8_weight, Cond.code yX8_weight cX8_weight 4 (some .int), Cond.methodLink RL 40 yX7_mark, Cond.instanceMethod yX7_mark, Cond.selects RX7 yX7_mark yX7_mark, Cond.code yX7_mark cX7_mark 3 (some .int), Cond.fieldLink RX7 105 "QuietStairs$Case" "markedBits" "I", Cond.fieldLink RX7 108 "QuietStairs$House" "markCount" "I", Cond.methodLink RL 43 yX8_mark, Cond.instanceMethod yX8_mark, Cond.selects RX8 yX8_mark yX8_mark, Cond.code yX8_mark cX8_mark 6 (some .int), Cond.methodLink RL 44 yX7_of, Cond.instanceMethod yX7_of, Cond.selects RX7 yX7_of yX7_of, Cond.code yX7_of cX7_of 4 (some .int), Cond.fieldLink RX7 111 "QuietStairs$Case" "parties" "[I", Cond.fieldLink RX7 114 "QuietStairs$Case" "sum" "I"]
noncomputable def wsL_law_r10 : List Cond := [Cond.fieldLink RX7 117 "QuietStairs$Case" "roundsOver" "I", Cond.methodLink RX7 120 yX1_headOfQuarrel, Cond.instanceMethod yX1_headOfQuarrel, Cond.selects RX1 yX1_headOfQuarrel yX1_headOfQuarrel, Cond.code yX1_headOfQuarrel cX1_headOfQuarrel 4 (some .int), Cond.methodLink RX1 72 yX1_quarrelBits, Cond.instanceMethod yX1_quarrelBits, Cond.selects RX1 yX1_quarrelBits yX1_quarrelBits, Cond.code yX1_quarrelBits cX1_quarrelBits 5 (some .int), Cond.fieldLink RX1 66 "QuietStairs$House" "caseCount" "I", Cond.fieldLink RX1 69 "QuietStairs$Case" "markedBits" "I", Cond.methodLink RX7 124 yX1_quarrelBits, Cond.methodLink RX7 127 yJ6_bitCount_0f7a4, Cond.static yJ6_bitCount_0f7a4, Cond.initialized RJ6, Cond.code yJ6_bitCount_0f7a4 cJ6_bitCount_0f7a4 1 (some .int), Cond.constant RJ6 265 (1431655765), Cond.constant RJ6 266 (858993459), Cond.constant RJ6 267 (252645135), Cond.methodLink RL 47 yX8_of, Cond.instanceMethod yX8_of, Cond.selects RX8 yX8_of yX8_of, Cond.code yX8_of cX8_of 3 (some .int), Cond.methodLink RX8 53 yX8_findHeads]
noncomputable def wsL_law_r11 : List Cond := [Cond.instanceMethod yX8_findHeads, Cond.selects RX8 yX8_findHeads yX8_findHeads, Cond.code yX8_findHeads cX8_findHeads 6 none, Cond.methodLink RX8 56 yX8_joined, Cond.instanceMethod yX8_joined, Cond.selects RX8 yX8_joined yX8_joined, Cond.code yX8_joined cX8_joined 4 (some .int), Cond.methodLink RL 48 yX7_offer, Cond.instanceMethod yX7_offer, Cond.selects RX7 yX7_offer yX7_offer, Cond.code yX7_offer cX7_offer 5 (some .int), Cond.fieldLink RX7 135 "QuietStairs$Case" "box" "[I", Cond.methodLink RX7 132 yX7_isSide, Cond.static yX7_isSide, Cond.code yX7_isSide cX7_isSide 1 (some .boolean), Cond.methodLink RX7 138 yX0_endRound, Cond.instanceMethod yX0_endRound, Cond.selects RX0 yX0_endRound yX0_endRound, Cond.code yX0_endRound cX0_endRound 3 (some .boolean), Cond.methodLink RL 52 yX8_offer, Cond.instanceMethod yX8_offer, Cond.selects RX8 yX8_offer yX8_offer, Cond.code yX8_offer cX8_offer 7 (some .int), Cond.methodLink RX8 60 yX8_isSide]
noncomputable def wsL_law_r12 : List Cond := [Cond.static yX8_isSide, Cond.code yX8_isSide cX8_isSide 1 (some .boolean), Cond.methodLink RL 53 yX7_put, Cond.instanceMethod yX7_put, Cond.selects RX7 yX7_put yX7_put, Cond.code yX7_put cX7_put 3 (some .int), Cond.methodLink RL 56 yX8_put, Cond.instanceMethod yX8_put, Cond.selects RX8 yX8_put yX8_put, Cond.code yX8_put cX8_put 3 (some .int), Cond.methodLink RL 57 yX7_learns, Cond.instanceMethod yX7_learns, Cond.selects RX7 yX7_learns yX7_learns, Cond.code yX7_learns cX7_learns 6 (some .int), Cond.methodLink RX7 142 yX0_greatestOfOther, Cond.instanceMethod yX0_greatestOfOther, Cond.selects RX0 yX0_greatestOfOther yX0_greatestOfOther, Cond.code yX0_greatestOfOther cX0_greatestOfOther 5 (some .int), Cond.methodLink RX0 62 Lib.Math.min.name, Cond.static Lib.Math.min.name, Cond.initialized "java/lang/Math", Cond.code Lib.Math.min.name Lib.Math.min.code 2 (some .int), Cond.methodLink RX0 52 yX0_hasMet, Cond.instanceMethod yX0_hasMet]
noncomputable def wsL_law_r13 : List Cond := [Cond.selects RX0 yX0_hasMet yX0_hasMet, Cond.code yX0_hasMet cX0_hasMet 2 (some .boolean), Cond.methodLink RX7 146 yX0_leastOfOther, Cond.instanceMethod yX0_leastOfOther, Cond.selects RX0 yX0_leastOfOther yX0_leastOfOther, Cond.code yX0_leastOfOther cX0_leastOfOther 5 (some .int), Cond.methodLink RX0 56 Lib.Math.max.name, Cond.static Lib.Math.max.name, Cond.code Lib.Math.max.name Lib.Math.max.code 2 (some .int), Cond.methodLink RL 61 yX8_learns, Cond.instanceMethod yX8_learns, Cond.selects RX8 yX8_learns yX8_learns, Cond.code yX8_learns cX8_learns 14 (some .int), Cond.methodLink RL 62 yX7_maySit, Cond.instanceMethod yX7_maySit, Cond.selects RX7 yX7_maySit yX7_maySit, Cond.code yX7_maySit cX7_maySit 3 (some .int), Cond.methodLink RX7 149 yX1_hasPair, Cond.instanceMethod yX1_hasPair, Cond.selects RX1 yX1_hasPair yX1_hasPair, Cond.code yX1_hasPair cX1_hasPair 2 (some .boolean), Cond.fieldLink RX1 36 "QuietStairs$House" "mediatorCount" "I", Cond.methodLink RX7 152 yX1_pairFits, Cond.instanceMethod yX1_pairFits]
noncomputable def wsL_law_r14 : List Cond := [Cond.selects RX1 yX1_pairFits yX1_pairFits, Cond.code yX1_pairFits cX1_pairFits 8 (some .boolean), Cond.fieldLink RX1 43 "QuietStairs$Mediator" "tongues" "I", Cond.fieldLink RX1 46 "QuietStairs$Case" "parties" "[I", Cond.fieldLink RX1 48 "QuietStairs$Party" "tongue" "I", Cond.methodLink RX1 55 yX1_isNear, Cond.instanceMethod yX1_isNear, Cond.selects RX1 yX1_isNear yX1_isNear, Cond.code yX1_isNear cX1_isNear 3 (some .boolean), Cond.fieldLink RX1 59 "QuietStairs$Mediator" "kinBits" "I", Cond.fieldLink RX1 62 "QuietStairs$Mediator" "floor" "I", Cond.fieldLink RX1 65 "QuietStairs$Party" "floor" "I", Cond.methodLink RL 65 yX8_maySit, Cond.instanceMethod yX8_maySit, Cond.selects RX8 yX8_maySit yX8_maySit, Cond.code yX8_maySit cX8_maySit 3 (some .int), Cond.methodLink RX8 73 yX8_isPair, Cond.instanceMethod yX8_isPair, Cond.selects RX8 yX8_isPair yX8_isPair, Cond.code yX8_isPair cX8_isPair 2 (some .boolean), Cond.methodLink RX8 63 yX8_otherOf, Cond.static yX8_otherOf, Cond.code yX8_otherOf cX8_otherOf 1 (some .int), Cond.methodLink RX8 76 yX8_may]
noncomputable def wsL_law_r15 : List Cond := [Cond.instanceMethod yX8_may, Cond.selects RX8 yX8_may yX8_may, Cond.code yX8_may cX8_may 9 (some .boolean), Cond.methodLink RX8 66 yX8_oneOf, Cond.static yX8_oneOf, Cond.code yX8_oneOf cX8_oneOf 1 (some .int), Cond.methodLink RX8 69 yX8_mayMeet, Cond.instanceMethod yX8_mayMeet, Cond.selects RX8 yX8_mayMeet yX8_mayMeet, Cond.code yX8_mayMeet cX8_mayMeet 3 (some .boolean), Cond.methodLink RL 66 yX7_rooms, Cond.instanceMethod yX7_rooms, Cond.selects RX7 yX7_rooms yX7_rooms, Cond.code yX7_rooms cX7_rooms 3 (some .int), Cond.methodLink RL 69 yX8_rooms, Cond.instanceMethod yX8_rooms, Cond.selects RX8 yX8_rooms yX8_rooms, Cond.code yX8_rooms cX8_rooms 3 (some .int), Cond.methodLink RL 70 yX7_plan, Cond.instanceMethod yX7_plan, Cond.selects RX7 yX7_plan yX7_plan, Cond.code yX7_plan cX7_plan 2 (some .int), Cond.methodLink RX7 156 yX4_findPlan, Cond.instanceMethod yX4_findPlan]
noncomputable def wsL_law_r16 : List Cond := [Cond.selects RX4 yX4_findPlan yX4_findPlan, Cond.code yX4_findPlan cX4_findPlan 4 none, Cond.fieldLink RX4 36 "QuietStairs$House" "mediatorCount" "I", Cond.methodLink RX4 42 Lib.Math.min.name, Cond.fieldLink RX4 48 "QuietStairs$Planner" "seatsADay" "I", Cond.fieldLink RX4 58 "QuietStairs$Planner" "leastWait" "I", Cond.fieldLink RX4 61 "QuietStairs$Planner" "count" "I", Cond.methodLink RX4 51 yX4_gather, Cond.instanceMethod yX4_gather, Cond.selects RX4 yX4_gather yX4_gather, Cond.code yX4_gather cX4_gather 4 none, Cond.fieldLink RX4 68 "QuietStairs$House" "caseCount" "I", Cond.fieldLink RX4 71 "QuietStairs$House" "cases" "[LQuietStairs$Case;", Cond.fieldLink RX4 75 "QuietStairs$Case" "state" "I", Cond.fieldLink RX4 80 "QuietStairs$Case" "weight" "I", Cond.methodLink RX4 83 yX4_fittingPairs, Cond.static yX4_fittingPairs, Cond.code yX4_fittingPairs cX4_fittingPairs 4 (some .int), Cond.methodLink RX4 87 yX1_hasPair, Cond.methodLink RX4 91 yX1_pairFits, Cond.methodLink RX4 55 yX4_sortByWeight, Cond.instanceMethod yX4_sortByWeight, Cond.selects RX4 yX4_sortByWeight yX4_sortByWeight, Cond.code yX4_sortByWeight cX4_sortByWeight 3 none]
noncomputable def wsL_law_r17 : List Cond := [Cond.methodLink RX4 64 yX4_search, Cond.instanceMethod yX4_search, Cond.selects RX4 yX4_search yX4_search, Cond.code yX4_search cX4_search 4 none, Cond.methodLink RX4 99 arraycopyName, Cond.native arraycopyName, Cond.static arraycopyName, Cond.initialized "java/lang/System", Cond.methodLink RX4 95 yX4_leastBehind, Cond.instanceMethod yX4_leastBehind, Cond.selects RX4 yX4_leastBehind yX4_leastBehind, Cond.code yX4_leastBehind cX4_leastBehind 8 (some .int), Cond.methodLink RX4 105 yX4_searchDay, Cond.instanceMethod yX4_searchDay, Cond.selects RX4 yX4_searchDay yX4_searchDay, Cond.code yX4_searchDay cX4_searchDay 6 none, Cond.methodLink RX7 160 yX4_seatOf, Cond.instanceMethod yX4_seatOf, Cond.selects RX4 yX4_seatOf yX4_seatOf, Cond.code yX4_seatOf cX4_seatOf 3 (some .int), Cond.methodLink RL 73 yX8_plan, Cond.instanceMethod yX8_plan, Cond.selects RX8 yX8_plan yX8_plan, Cond.code yX8_plan cX8_plan 3 (some .int)]
noncomputable def wsL_law_r18 : List Cond := [Cond.fieldLink RX8 79 "QuietStairsModel" "many" "I", Cond.methodLink RX8 95 yX8_makePlan, Cond.instanceMethod yX8_makePlan, Cond.selects RX8 yX8_makePlan yX8_makePlan, Cond.code yX8_makePlan cX8_makePlan 2 none, Cond.constant RX8 88 (1000000), Cond.fieldLink RX8 85 "QuietStairsModel" "least" "I", Cond.methodLink RX8 89 yX8_note, Cond.instanceMethod yX8_note, Cond.selects RX8 yX8_note yX8_note, Cond.code yX8_note cX8_note 3 none, Cond.methodLink RX8 82 yX8_waitsOf, Cond.instanceMethod yX8_waitsOf, Cond.selects RX8 yX8_waitsOf yX8_waitsOf, Cond.code yX8_waitsOf cX8_waitsOf 4 (some .int), Cond.methodLink RX8 92 yX8_fits, Cond.instanceMethod yX8_fits, Cond.selects RX8 yX8_fits yX8_fits, Cond.code yX8_fits cX8_fits 8 (some .boolean), Cond.methodLink RL 74 yX7_waits, Cond.instanceMethod yX7_waits, Cond.selects RX7 yX7_waits yX7_waits, Cond.code yX7_waits cX7_waits 1 (some .int), Cond.fieldLink RX7 163 "QuietStairs$Planner" "leastWait" "I"]
noncomputable def wsL_law_r19 : List Cond := [Cond.methodLink RL 78 yX8_waits, Cond.instanceMethod yX8_waits, Cond.selects RX8 yX8_waits yX8_waits, Cond.code yX8_waits cX8_waits 1 (some .int), Cond.methodLink RL 79 yX7_term, Cond.instanceMethod yX7_term, Cond.selects RX7 yX7_term yX7_term, Cond.code yX7_term cX7_term 9 (some .int), Cond.fieldLink RX7 169 "QuietStairs$Case" "termCount" "I", Cond.fieldLink RX7 172 "QuietStairs$Case" "terms" "[LQuietStairs$Term;", Cond.fieldLink RX7 176 "QuietStairs$Term" "side" "I", Cond.fieldLink RX7 181 "QuietStairs$Term" "must" "Z", Cond.fieldLink RX7 185 "QuietStairs$Term" "act" "I", Cond.fieldLink RX7 188 "QuietStairs$Term" "first" "I", Cond.fieldLink RX7 191 "QuietStairs$Term" "last" "I", Cond.methodLink RX7 166 yX7_isHour, Cond.static yX7_isHour, Cond.code yX7_isHour cX7_isHour 1 (some .boolean), Cond.methodLink RL 83 yX8_term, Cond.instanceMethod yX8_term, Cond.selects RX8 yX8_term yX8_term, Cond.code yX8_term cX8_term 8 (some .int), Cond.methodLink RX8 98 yX8_termAt, Cond.static yX8_termAt]
noncomputable def wsL_law_r20 : List Cond := [Cond.code yX8_termAt cX8_termAt 2 (some .int), Cond.methodLink RL 84 yX7_strike, Cond.instanceMethod yX7_strike, Cond.selects RX7 yX7_strike yX7_strike, Cond.code yX7_strike cX7_strike 2 (some .int), Cond.methodLink RL 87 yX8_strike, Cond.instanceMethod yX8_strike, Cond.selects RX8 yX8_strike yX8_strike, Cond.code yX8_strike cX8_strike 2 (some .int), Cond.methodLink RL 88 yX7_termOf, Cond.instanceMethod yX7_termOf, Cond.selects RX7 yX7_termOf yX7_termOf, Cond.code yX7_termOf cX7_termOf 5 (some .int), Cond.methodLink RX7 194 yX7_isTerm, Cond.instanceMethod yX7_isTerm, Cond.selects RX7 yX7_isTerm yX7_isTerm, Cond.code yX7_isTerm cX7_isTerm 3 (some .boolean), Cond.methodLink RL 91 yX8_termOf, Cond.instanceMethod yX8_termOf, Cond.selects RX8 yX8_termOf yX8_termOf, Cond.code yX8_termOf cX8_termOf 4 (some .int), Cond.methodLink RX8 101 yX8_isTerm, Cond.instanceMethod yX8_isTerm, Cond.selects RX8 yX8_isTerm yX8_isTerm]
noncomputable def wsL_law_r21 : List Cond := [Cond.code yX8_isTerm cX8_isTerm 3 (some .boolean), Cond.methodLink RL 92 yX7_hour, Cond.instanceMethod yX7_hour, Cond.selects RX7 yX7_hour yX7_hour, Cond.code yX7_hour cX7_hour 4 (some .int), Cond.methodLink RX7 197 yX5_read, Cond.instanceMethod yX5_read, Cond.selects RX5 yX5_read yX5_read, Cond.code yX5_read cX5_read 6 none, Cond.fieldLink RX5 18 "QuietStairs$Table" "count" "I", Cond.fieldLink RX5 22 "QuietStairs$Case" "terms" "[LQuietStairs$Term;", Cond.fieldLink RX5 28 "QuietStairs$Term" "side" "I", Cond.fieldLink RX5 33 "QuietStairs$Term" "must" "Z", Cond.methodLink RX5 37 yX5_allowedHours, Cond.static yX5_allowedHours, Cond.code yX5_allowedHours cX5_allowedHours 6 (some .int), Cond.fieldLink RX5 44 "QuietStairs$Term" "act" "I", Cond.methodLink RX5 41 yX6_hourBits, Cond.instanceMethod yX6_hourBits, Cond.selects RX6 yX6_hourBits yX6_hourBits, Cond.code yX6_hourBits cX6_hourBits 1 (some .int), Cond.fieldLink RX6 7 "QuietStairs$Term" "last" "I", Cond.fieldLink RX6 13 "QuietStairs$Term" "first" "I", Cond.methodLink RX7 201 yX5_stands]
noncomputable def wsL_law_r22 : List Cond := [Cond.instanceMethod yX5_stands, Cond.selects RX5 yX5_stands yX5_stands, Cond.code yX5_stands cX5_stands 4 (some .boolean), Cond.methodLink RX5 51 yJ6_bitCount_0f7a4, Cond.methodLink RX7 204 yX5_hourOf, Cond.instanceMethod yX5_hourOf, Cond.selects RX5 yX5_hourOf yX5_hourOf, Cond.code yX5_hourOf cX5_hourOf 4 (some .int), Cond.methodLink RX5 57 yX5_pinLeastHour, Cond.instanceMethod yX5_pinLeastHour, Cond.selects RX5 yX5_pinLeastHour yX5_pinLeastHour, Cond.code yX5_pinLeastHour cX5_pinLeastHour 4 (some .int), Cond.methodLink RX5 60 yX5_stands, Cond.methodLink RL 95 yX8_hour, Cond.instanceMethod yX8_hour, Cond.selects RX8 yX8_hour yX8_hour, Cond.code yX8_hour cX8_hour 4 (some .int), Cond.methodLink RX8 118 yX8_makeTable, Cond.instanceMethod yX8_makeTable, Cond.selects RX8 yX8_makeTable yX8_makeTable, Cond.code yX8_makeTable cX8_makeTable 7 (some .boolean), Cond.methodLink RX8 111 yX8_next, Cond.instanceMethod yX8_next, Cond.selects RX8 yX8_next yX8_next]
noncomputable def wsL_law_r23 : List Cond := [Cond.code yX8_next cX8_next 7 (some .int), Cond.methodLink RX8 108 yX8_isOwn, Cond.instanceMethod yX8_isOwn, Cond.selects RX8 yX8_isOwn yX8_isOwn, Cond.code yX8_isOwn cX8_isOwn 4 (some .boolean), Cond.methodLink RX8 115 yX8_hourFrom, Cond.instanceMethod yX8_hourFrom, Cond.selects RX8 yX8_hourFrom yX8_hourFrom, Cond.code yX8_hourFrom cX8_hourFrom 6 (some .int), Cond.methodLink RX8 104 yX8_mayBe, Cond.instanceMethod yX8_mayBe, Cond.selects RX8 yX8_mayBe yX8_mayBe, Cond.code yX8_mayBe cX8_mayBe 9 (some .boolean), Cond.methodLink RL 96 yX7_canHold, Cond.instanceMethod yX7_canHold, Cond.selects RX7 yX7_canHold yX7_canHold, Cond.code yX7_canHold cX7_canHold 3 (some .int), Cond.methodLink RL 99 yX8_canHold, Cond.instanceMethod yX8_canHold, Cond.selects RX8 yX8_canHold yX8_canHold, Cond.code yX8_canHold cX8_canHold 3 (some .int), Cond.methodLink RL 100 yX7_breaks, Cond.instanceMethod yX7_breaks, Cond.selects RX7 yX7_breaks yX7_breaks]
noncomputable def wsL_law_r24 : List Cond := [Cond.code yX7_breaks cX7_breaks 5 (some .int), Cond.methodLink RL 103 yX8_breaks, Cond.instanceMethod yX8_breaks, Cond.selects RX8 yX8_breaks yX8_breaks, Cond.code yX8_breaks cX8_breaks 4 (some .int), Cond.methodLink RL 104 yX7_log, Cond.instanceMethod yX7_log, Cond.selects RX7 yX7_log yX7_log, Cond.code yX7_log cX7_log 7 (some .int), Cond.fieldLink RX7 207 "QuietStairs$Case" "logs" "[[I", Cond.methodLink RL 108 yX8_log, Cond.instanceMethod yX8_log, Cond.selects RX8 yX8_log yX8_log, Cond.code yX8_log cX8_log 7 (some .int), Cond.methodLink RL 109 yX7_judged, Cond.instanceMethod yX7_judged, Cond.selects RX7 yX7_judged yX7_judged, Cond.code yX7_judged cX7_judged 3 (some .int), Cond.methodLink RX7 211 yX0_judge, Cond.instanceMethod yX0_judge, Cond.selects RX0 yX0_judge yX0_judge, Cond.code yX0_judge cX0_judge 6 (some .int), Cond.fieldLink RX0 65 "QuietStairs$Term" "first" "I", Cond.fieldLink RX0 68 "QuietStairs$Term" "last" "I"]
noncomputable def wsL_law_r25 : List Cond := [Cond.fieldLink RX0 71 "QuietStairs$Term" "side" "I", Cond.fieldLink RX0 74 "QuietStairs$Term" "act" "I", Cond.fieldLink RX0 77 "QuietStairs$Term" "must" "Z", Cond.methodLink RL 112 yX8_judged, Cond.instanceMethod yX8_judged, Cond.selects RX8 yX8_judged yX8_judged, Cond.code yX8_judged cX8_judged 3 (some .int), Cond.methodLink RX8 121 yX8_judge, Cond.instanceMethod yX8_judge, Cond.selects RX8 yX8_judge yX8_judge, Cond.code yX8_judge cX8_judge 8 (some .int), Cond.methodLink RL 113 yX7_many, Cond.instanceMethod yX7_many, Cond.selects RX7 yX7_many yX7_many, Cond.code yX7_many cX7_many 2 (some .int), Cond.methodLink RX7 214 yX1_countState, Cond.instanceMethod yX1_countState, Cond.selects RX1 yX1_countState yX1_countState, Cond.code yX1_countState cX1_countState 4 (some .int), Cond.fieldLink RX1 79 "QuietStairs$Case" "state" "I", Cond.methodLink RX7 217 yX1_countQuarrels, Cond.instanceMethod yX1_countQuarrels, Cond.selects RX1 yX1_countQuarrels yX1_countQuarrels, Cond.code yX1_countQuarrels cX1_countQuarrels 3 (some .int)]
noncomputable def wsL_law_r26 : List Cond := [Cond.methodLink RX1 76 yX1_headOfQuarrel, Cond.methodLink RX7 221 yX1_countTerms, Cond.instanceMethod yX1_countTerms, Cond.selects RX1 yX1_countTerms yX1_countTerms, Cond.code yX1_countTerms cX1_countTerms 3 (some .int), Cond.fieldLink RX1 82 "QuietStairs$Case" "termCount" "I", Cond.methodLink RX7 224 yX1_countJudged, Cond.instanceMethod yX1_countJudged, Cond.selects RX1 yX1_countJudged yX1_countJudged, Cond.code yX1_countJudged cX1_countJudged 5 (some .int), Cond.methodLink RX1 85 yX0_judge, Cond.methodLink RL 116 yX8_many, Cond.instanceMethod yX8_many, Cond.selects RX8 yX8_many yX8_many, Cond.code yX8_many cX8_many 2 (some .int), Cond.methodLink RX8 124 yX8_casesThat, Cond.instanceMethod yX8_casesThat, Cond.selects RX8 yX8_casesThat yX8_casesThat, Cond.code yX8_casesThat cX8_casesThat 4 (some .int), Cond.methodLink RX8 127 yX8_quarrels, Cond.instanceMethod yX8_quarrels, Cond.selects RX8 yX8_quarrels yX8_quarrels, Cond.code yX8_quarrels cX8_quarrels 3 (some .int), Cond.methodLink RX8 131 yX8_termsThat]
noncomputable def wsL_law_r27 : List Cond := [Cond.instanceMethod yX8_termsThat, Cond.selects RX8 yX8_termsThat yX8_termsThat, Cond.code yX8_termsThat cX8_termsThat 5 (some .int), Cond.methodLink RL 117 yX7_keep, Cond.instanceMethod yX7_keep, Cond.selects RX7 yX7_keep yX7_keep, Cond.code yX7_keep cX7_keep 1 (some .int), Cond.methodLink RX7 227 yX1_copyFrom, Cond.instanceMethod yX1_copyFrom, Cond.selects RX1 yX1_copyFrom yX1_copyFrom, Cond.code yX1_copyFrom cX1_copyFrom 3 none, Cond.fieldLink RX1 88 "QuietStairs$House" "partyCount" "I", Cond.fieldLink RX1 91 "QuietStairs$House" "markCount" "I", Cond.methodLink RX1 94 yX3_copyFrom, Cond.instanceMethod yX3_copyFrom, Cond.selects RX3 yX3_copyFrom yX3_copyFrom, Cond.code yX3_copyFrom cX3_copyFrom 2 none, Cond.fieldLink RX3 7 "QuietStairs$Party" "floor" "I", Cond.fieldLink RX3 13 "QuietStairs$Party" "tongue" "I", Cond.methodLink RX1 98 yX2_copyFrom, Cond.instanceMethod yX2_copyFrom, Cond.selects RX2 yX2_copyFrom yX2_copyFrom, Cond.code yX2_copyFrom cX2_copyFrom 2 none, Cond.fieldLink RX2 7 "QuietStairs$Mediator" "floor" "I"]
noncomputable def wsL_law_r28 : List Cond := [Cond.fieldLink RX2 13 "QuietStairs$Mediator" "tongues" "I", Cond.fieldLink RX2 16 "QuietStairs$Mediator" "kinBits" "I", Cond.methodLink RX1 101 yX0_copyFrom, Cond.instanceMethod yX0_copyFrom, Cond.selects RX0 yX0_copyFrom yX0_copyFrom, Cond.code yX0_copyFrom cX0_copyFrom 3 none, Cond.methodLink RX0 81 arraycopyName, Cond.methodLink RX0 87 yX6_copyFrom, Cond.instanceMethod yX6_copyFrom, Cond.selects RX6 yX6_copyFrom yX6_copyFrom, Cond.code yX6_copyFrom cX6_copyFrom 2 none, Cond.fieldLink RX6 16 "QuietStairs$Term" "side" "I", Cond.fieldLink RX6 19 "QuietStairs$Term" "must" "Z", Cond.fieldLink RX6 23 "QuietStairs$Term" "act" "I", Cond.methodLink RL 120 yX8_keep, Cond.instanceMethod yX8_keep, Cond.selects RX8 yX8_keep yX8_keep, Cond.code yX8_keep cX8_keep 2 (some .int), Cond.fieldLink RX8 134 "QuietStairsModel" "isKept" "Z", Cond.methodLink RL 121 yX7_back, Cond.instanceMethod yX7_back, Cond.selects RX7 yX7_back yX7_back, Cond.code yX7_back cX7_back 1 (some .int), Cond.methodLink RL 124 yX8_back]
noncomputable def wsL_law_r29 : List Cond := [Cond.instanceMethod yX8_back, Cond.selects RX8 yX8_back yX8_back, Cond.code yX8_back cX8_back 2 (some .int)]
noncomputable def wsL_law : List Cond := (wsL_law_r1 ++ (wsL_law_r2 ++ (wsL_law_r3 ++ (wsL_law_r4 ++ (wsL_law_r5 ++ (wsL_law_r6 ++ (wsL_law_r7 ++ (wsL_law_r8 ++ (wsL_law_r9 ++ (wsL_law_r10 ++ (wsL_law_r11 ++ (wsL_law_r12 ++ (wsL_law_r13 ++ (wsL_law_r14 ++ (wsL_law_r15 ++ (wsL_law_r16 ++ (wsL_law_r17 ++ (wsL_law_r18 ++ (wsL_law_r19 ++ (wsL_law_r20 ++ (wsL_law_r21 ++ (wsL_law_r22 ++ (wsL_law_r23 ++ (wsL_law_r24 ++ (wsL_law_r25 ++ (wsL_law_r26 ++ (wsL_law_r27 ++ (wsL_law_r28 ++ wsL_law_r29)))))))))))))))))))))))))))) ++ wsX70 ++ wsX80 ++ wsX10 ++ wsX40 ++ wsX50 ++ wsX30 ++ wsX20 ++ wsX00 ++ wsX60 ++ ([] : List Cond)
theorem mem_r {big : List Cond} (ws : List Cond) (ps : List Nat) (hp : ws = ps.filterMap (fun i => big[i]?)) : ∀ w ∈ ws, w ∈ big := by
  intro w hw
  rw [hp] at hw
  obtain ⟨i, -, hi⟩ := List.mem_filterMap.mp hw
  exact List.mem_of_getElem? hi
set_option maxRecDepth 20000 in
theorem wl_r1 : GoodIn lw_tbl wsL_law_r1 := goodIn_r _ [45, 46, 33, 601, 602, 41, 47, 48, 49, 50, 51, 52, 53, 54, 34, 286, 229, 230, 39, 287, 270, 271, 40, 288] rfl (by decide +kernel)
set_option maxRecDepth 20000 in
theorem wl_r2 : GoodIn lw_tbl wsL_law_r2 := goodIn_r _ [289, 290, 55, 56, 57, 58, 59, 207, 61, 209, 63, 211, 65, 35, 81, 36, 102, 37, 67, 68, 69, 83, 84, 85] rfl (by decide +kernel)
set_option maxRecDepth 20000 in
theorem wl_r3 : GoodIn lw_tbl wsL_law_r3 := goodIn_r _ [103, 104, 105, 106, 145, 163, 166, 107, 168, 169, 109, 171, 111, 38, 113, 114, 115, 232, 233, 234, 239, 240, 241, 242] rfl (by decide +kernel)
set_option maxRecDepth 20000 in
theorem wl_r4 : GoodIn lw_tbl wsL_law_r4 := goodIn_r _ [243, 244, 245, 246, 273, 274, 275, 277, 278, 603, 604, 605, 606, 607, 608, 610, 611, 613, 614, 615, 617, 302, 303, 304] rfl (by decide +kernel)
set_option maxRecDepth 20000 in
theorem wl_r5 : GoodIn lw_tbl wsL_law_r5 := goodIn_r _ [305, 197, 208, 71, 74, 306, 307, 308, 641, 642, 643, 644, 645, 646, 647, 309, 310, 311, 312, 201, 210, 87, 91, 93] rfl (by decide +kernel)
set_option maxRecDepth 20000 in
theorem wl_r6 : GoodIn lw_tbl wsL_law_r6 := goodIn_r _ [648, 649, 650, 651, 313, 314, 315, 316, 317, 319, 0, 320, 321, 323, 1, 324, 325, 326, 327, 652, 653, 654, 655, 656] rfl (by decide +kernel)
set_option maxRecDepth 20000 in
theorem wl_r7 : GoodIn lw_tbl wsL_law_r7 := goodIn_r _ [658, 10, 659, 660, 662, 11, 663, 328, 329, 330, 331, 204, 213, 332, 333, 334, 335, 146, 150, 152, 154, 157, 160, 664] rfl (by decide +kernel)
set_option maxRecDepth 20000 in
theorem wl_r8 : GoodIn lw_tbl wsL_law_r8 := goodIn_r _ [665, 666, 667, 668, 669, 670, 336, 337, 338, 339, 148, 340, 342, 2, 343, 671, 672, 673, 674, 675, 677, 12, 678, 344] rfl (by decide +kernel)
set_option maxRecDepth 20000 in
theorem wl_r9 : GoodIn lw_tbl wsL_law_r9 := goodIn_r _ [345, 346, 347, 156, 679, 680, 681, 682, 348, 349, 350, 351, 159, 205, 683, 684, 685, 686, 352, 353, 354, 355, 165, 151] rfl (by decide +kernel)
set_option maxRecDepth 20000 in
theorem wl_r10 : GoodIn lw_tbl wsL_law_r10 := goodIn_r _ [153, 356, 357, 358, 359, 360, 361, 362, 363, 203, 158, 365, 366, 367, 42, 368, 369, 370, 371, 687, 688, 689, 690, 691] rfl (by decide +kernel)
set_option maxRecDepth 20000 in
theorem wl_r11 : GoodIn lw_tbl wsL_law_r11 := goodIn_r _ [693, 13, 694, 695, 697, 14, 698, 372, 373, 374, 375, 167, 376, 377, 378, 379, 380, 381, 382, 699, 700, 701, 702, 703] rfl (by decide +kernel)
set_option maxRecDepth 20000 in
theorem wl_r12 : GoodIn lw_tbl wsL_law_r12 := goodIn_r _ [704, 705, 383, 384, 385, 386, 706, 707, 708, 709, 387, 388, 389, 390, 391, 392, 393, 394, 399, 400, 43, 401, 395, 396] rfl (by decide +kernel)
set_option maxRecDepth 20000 in
theorem wl_r13 : GoodIn lw_tbl wsL_law_r13 := goodIn_r _ [397, 398, 402, 403, 404, 405, 406, 407, 408, 710, 711, 712, 713, 409, 410, 411, 412, 413, 414, 415, 416, 200, 419, 420] rfl (by decide +kernel)
set_option maxRecDepth 20000 in
theorem wl_r14 : GoodIn lw_tbl wsL_law_r14 := goodIn_r _ [421, 422, 90, 164, 75, 425, 426, 427, 428, 94, 88, 72, 714, 715, 716, 717, 718, 720, 15, 721, 722, 723, 724, 725] rfl (by decide +kernel)
set_option maxRecDepth 20000 in
theorem wl_r15 : GoodIn lw_tbl wsL_law_r15 := goodIn_r _ [727, 16, 728, 729, 730, 731, 732, 734, 17, 735, 429, 430, 431, 432, 736, 737, 738, 739, 433, 434, 435, 436, 437, 438] rfl (by decide +kernel)
set_option maxRecDepth 20000 in
theorem wl_r16 : GoodIn lw_tbl wsL_law_r16 := goodIn_r _ [439, 440, 199, 441, 238, 235, 237, 442, 444, 3, 445, 202, 212, 147, 155, 446, 447, 448, 449, 450, 451, 453, 4, 454] rfl (by decide +kernel)
set_option maxRecDepth 20000 in
theorem wl_r17 : GoodIn lw_tbl wsL_law_r17 := goodIn_r _ [455, 457, 5, 458, 463, 465, 464, 44, 459, 461, 6, 462, 466, 468, 7, 469, 473, 474, 475, 476, 740, 741, 742, 743] rfl (by decide +kernel)
set_option maxRecDepth 20000 in
theorem wl_r18 : GoodIn lw_tbl wsL_law_r18 := goodIn_r _ [612, 744, 746, 18, 747, 748, 616, 749, 751, 19, 752, 753, 755, 20, 756, 757, 759, 21, 760, 477, 478, 479, 480, 236] rfl (by decide +kernel)
set_option maxRecDepth 20000 in
theorem wl_r19 : GoodIn lw_tbl wsL_law_r19 := goodIn_r _ [761, 762, 763, 764, 481, 482, 483, 484, 162, 173, 119, 123, 127, 130, 133, 485, 486, 487, 765, 766, 767, 768, 769, 770] rfl (by decide +kernel)
set_option maxRecDepth 20000 in
theorem wl_r20 : GoodIn lw_tbl wsL_law_r20 := goodIn_r _ [771, 488, 489, 490, 491, 772, 773, 774, 775, 492, 493, 494, 495, 496, 498, 8, 499, 776, 777, 778, 779, 780, 782, 22] rfl (by decide +kernel)
set_option maxRecDepth 20000 in
theorem wl_r21 : GoodIn lw_tbl wsL_law_r21 := goodIn_r _ [783, 500, 501, 502, 503, 504, 505, 506, 507, 276, 172, 116, 120, 508, 509, 510, 125, 511, 512, 513, 514, 131, 128, 515] rfl (by decide +kernel)
set_option maxRecDepth 20000 in
theorem wl_r22 : GoodIn lw_tbl wsL_law_r22 := goodIn_r _ [516, 517, 518, 520, 521, 522, 523, 524, 525, 527, 9, 528, 529, 784, 785, 786, 787, 788, 790, 23, 791, 792, 794, 24] rfl (by decide +kernel)
set_option maxRecDepth 20000 in
theorem wl_r23 : GoodIn lw_tbl wsL_law_r23 := goodIn_r _ [795, 796, 798, 25, 799, 800, 802, 26, 803, 804, 806, 27, 807, 530, 531, 532, 533, 808, 809, 810, 811, 534, 535, 536] rfl (by decide +kernel)
set_option maxRecDepth 20000 in
theorem wl_r24 : GoodIn lw_tbl wsL_law_r24 := goodIn_r _ [537, 812, 813, 814, 815, 538, 539, 540, 541, 170, 816, 817, 818, 819, 542, 543, 544, 545, 546, 547, 548, 549, 129, 132] rfl (by decide +kernel)
set_option maxRecDepth 20000 in
theorem wl_r25 : GoodIn lw_tbl wsL_law_r25 := goodIn_r _ [118, 126, 122, 820, 821, 822, 823, 824, 826, 28, 827, 550, 551, 552, 553, 554, 555, 556, 557, 149, 558, 559, 560, 561] rfl (by decide +kernel)
set_option maxRecDepth 20000 in
theorem wl_r26 : GoodIn lw_tbl wsL_law_r26 := goodIn_r _ [562, 563, 564, 565, 566, 161, 567, 568, 569, 570, 571, 828, 829, 830, 831, 832, 834, 29, 835, 836, 838, 30, 839, 840] rfl (by decide +kernel)
set_option maxRecDepth 20000 in
theorem wl_r27 : GoodIn lw_tbl wsL_law_r27 := goodIn_r _ [842, 31, 843, 572, 573, 574, 575, 576, 577, 578, 579, 198, 206, 580, 581, 582, 583, 70, 73, 584, 585, 586, 587, 86] rfl (by decide +kernel)
set_option maxRecDepth 20000 in
theorem wl_r28 : GoodIn lw_tbl wsL_law_r28 := goodIn_r _ [89, 92, 588, 589, 590, 591, 592, 593, 594, 595, 596, 117, 121, 124, 844, 845, 846, 847, 609, 597, 598, 599, 600, 848] rfl (by decide +kernel)
set_option maxRecDepth 20000 in
theorem wl_r29 : GoodIn lw_tbl wsL_law_r29 := goodIn_r _ [849, 850, 851] rfl (by decide +kernel)
set_option maxRecDepth 20000 in
theorem wl_wsX70 : ∀ w ∈ wsX70, w ∈ lw_tbl := mem_r _ [291, 293, 295, 297, 299] rfl
set_option maxRecDepth 20000 in
theorem wl_wsX80 : ∀ w ∈ wsX80, w ∈ lw_tbl := mem_r _ [618, 620, 622, 624, 626, 628, 630, 632, 634, 636, 638] rfl
set_option maxRecDepth 20000 in
theorem wl_wsX10 : ∀ w ∈ wsX10, w ∈ lw_tbl := mem_r _ [214, 216, 218, 220, 222, 224, 226] rfl
set_option maxRecDepth 20000 in
theorem wl_wsX40 : ∀ w ∈ wsX40, w ∈ lw_tbl := mem_r _ [247, 249, 251, 253, 255, 257, 259, 261, 263, 265, 267] rfl
set_option maxRecDepth 20000 in
theorem wl_wsX50 : ∀ w ∈ wsX50, w ∈ lw_tbl := mem_r _ [279, 281, 283] rfl
set_option maxRecDepth 20000 in
theorem wl_wsX30 : ∀ w ∈ wsX30, w ∈ lw_tbl := mem_r _ [76, 78] rfl
set_option maxRecDepth 20000 in
theorem wl_wsX20 : ∀ w ∈ wsX20, w ∈ lw_tbl := mem_r _ [95, 97, 99] rfl
set_option maxRecDepth 20000 in
theorem wl_wsX00 : ∀ w ∈ wsX00, w ∈ lw_tbl := mem_r _ [174, 176, 178, 180, 182, 184, 186, 188, 190, 192, 194] rfl
set_option maxRecDepth 20000 in
theorem wl_wsX60 : ∀ w ∈ wsX60, w ∈ lw_tbl := mem_r _ [134, 136, 138, 140, 142] rfl
theorem wsL_law_in : ∀ w ∈ wsL_law, w ∈ lw_tbl := (fun w h => (List.mem_append.mp h).elim ((fun w h => (List.mem_append.mp h).elim ((fun w h => (List.mem_append.mp h).elim ((fun w h => (List.mem_append.mp h).elim ((fun w h => (List.mem_append.mp h).elim ((fun w h => (List.mem_append.mp h).elim ((fun w h => (List.mem_append.mp h).elim ((fun w h => (List.mem_append.mp h).elim ((fun w h => (List.mem_append.mp h).elim ((fun w h => (List.mem_append.mp h).elim ((fun w h => (List.mem_append.mp h).elim (fun h => (wl_r1 w h).1) ((fun w h => (List.mem_append.mp h).elim (fun h => (wl_r2 w h).1) ((fun w h => (List.mem_append.mp h).elim (fun h => (wl_r3 w h).1) ((fun w h => (List.mem_append.mp h).elim (fun h => (wl_r4 w h).1) ((fun w h => (List.mem_append.mp h).elim (fun h => (wl_r5 w h).1) ((fun w h => (List.mem_append.mp h).elim (fun h => (wl_r6 w h).1) ((fun w h => (List.mem_append.mp h).elim (fun h => (wl_r7 w h).1) ((fun w h => (List.mem_append.mp h).elim (fun h => (wl_r8 w h).1) ((fun w h => (List.mem_append.mp h).elim (fun h => (wl_r9 w h).1) ((fun w h => (List.mem_append.mp h).elim (fun h => (wl_r10 w h).1) ((fun w h => (List.mem_append.mp h).elim (fun h => (wl_r11 w h).1) ((fun w h => (List.mem_append.mp h).elim (fun h => (wl_r12 w h).1) ((fun w h => (List.mem_append.mp h).elim (fun h => (wl_r13 w h).1) ((fun w h => (List.mem_append.mp h).elim (fun h => (wl_r14 w h).1) ((fun w h => (List.mem_append.mp h).elim (fun h => (wl_r15 w h).1) ((fun w h => (List.mem_append.mp h).elim (fun h => (wl_r16 w h).1) ((fun w h => (List.mem_append.mp h).elim (fun h => (wl_r17 w h).1) ((fun w h => (List.mem_append.mp h).elim (fun h => (wl_r18 w h).1) ((fun w h => (List.mem_append.mp h).elim (fun h => (wl_r19 w h).1) ((fun w h => (List.mem_append.mp h).elim (fun h => (wl_r20 w h).1) ((fun w h => (List.mem_append.mp h).elim (fun h => (wl_r21 w h).1) ((fun w h => (List.mem_append.mp h).elim (fun h => (wl_r22 w h).1) ((fun w h => (List.mem_append.mp h).elim (fun h => (wl_r23 w h).1) ((fun w h => (List.mem_append.mp h).elim (fun h => (wl_r24 w h).1) ((fun w h => (List.mem_append.mp h).elim (fun h => (wl_r25 w h).1) ((fun w h => (List.mem_append.mp h).elim (fun h => (wl_r26 w h).1) ((fun w h => (List.mem_append.mp h).elim (fun h => (wl_r27 w h).1) ((fun w h => (List.mem_append.mp h).elim (fun h => (wl_r28 w h).1) ((fun w h => (wl_r29 w h).1) w)) w)) w)) w)) w)) w)) w)) w)) w)) w)) w)) w)) w)) w)) w)) w)) w)) w)) w)) w)) w)) w)) w)) w)) w)) w)) w)) w)) w) (wl_wsX70 w)) w) (wl_wsX80 w)) w) (wl_wsX10 w)) w) (wl_wsX40 w)) w) (wl_wsX50 w)) w) (wl_wsX30 w)) w) (wl_wsX20 w)) w) (wl_wsX00 w)) w) (wl_wsX60 w)) w) (fun h => absurd h List.not_mem_nil))
theorem inlX0 : ∀ w ∈ wsX00, w ∈ wsL_law := fun _ h => List.mem_append_left _ (List.mem_append_left _ (List.mem_append_right _ h))
theorem inX0 : ∀ w ∈ wsX00, w ∈ lw_tbl := fun w h => wsL_law_in w (inlX0 w h)
theorem inlX1 : ∀ w ∈ wsX10, w ∈ wsL_law := fun _ h => List.mem_append_left _ (List.mem_append_left _ (List.mem_append_left _ (List.mem_append_left _ (List.mem_append_left _ (List.mem_append_left _ (List.mem_append_left _ (List.mem_append_right _ h)))))))
theorem inX1 : ∀ w ∈ wsX10, w ∈ lw_tbl := fun w h => wsL_law_in w (inlX1 w h)
theorem inlX2 : ∀ w ∈ wsX20, w ∈ wsL_law := fun _ h => List.mem_append_left _ (List.mem_append_left _ (List.mem_append_left _ (List.mem_append_right _ h)))
theorem inX2 : ∀ w ∈ wsX20, w ∈ lw_tbl := fun w h => wsL_law_in w (inlX2 w h)
theorem inlX3 : ∀ w ∈ wsX30, w ∈ wsL_law := fun _ h => List.mem_append_left _ (List.mem_append_left _ (List.mem_append_left _ (List.mem_append_left _ (List.mem_append_right _ h))))
theorem inX3 : ∀ w ∈ wsX30, w ∈ lw_tbl := fun w h => wsL_law_in w (inlX3 w h)
theorem inlX4 : ∀ w ∈ wsX40, w ∈ wsL_law := fun _ h => List.mem_append_left _ (List.mem_append_left _ (List.mem_append_left _ (List.mem_append_left _ (List.mem_append_left _ (List.mem_append_left _ (List.mem_append_right _ h))))))
theorem inX4 : ∀ w ∈ wsX40, w ∈ lw_tbl := fun w h => wsL_law_in w (inlX4 w h)
theorem inlX5 : ∀ w ∈ wsX50, w ∈ wsL_law := fun _ h => List.mem_append_left _ (List.mem_append_left _ (List.mem_append_left _ (List.mem_append_left _ (List.mem_append_left _ (List.mem_append_right _ h)))))
theorem inX5 : ∀ w ∈ wsX50, w ∈ lw_tbl := fun w h => wsL_law_in w (inlX5 w h)
theorem inlX6 : ∀ w ∈ wsX60, w ∈ wsL_law := fun _ h => List.mem_append_left _ (List.mem_append_right _ h)
theorem inX6 : ∀ w ∈ wsX60, w ∈ lw_tbl := fun w h => wsL_law_in w (inlX6 w h)
theorem inlX7 : ∀ w ∈ wsX70, w ∈ wsL_law := fun _ h => List.mem_append_left _ (List.mem_append_left _ (List.mem_append_left _ (List.mem_append_left _ (List.mem_append_left _ (List.mem_append_left _ (List.mem_append_left _ (List.mem_append_left _ (List.mem_append_left _ (List.mem_append_right _ h)))))))))
theorem inX7 : ∀ w ∈ wsX70, w ∈ lw_tbl := fun w h => wsL_law_in w (inlX7 w h)
theorem inlX8 : ∀ w ∈ wsX80, w ∈ wsL_law := fun _ h => List.mem_append_left _ (List.mem_append_left _ (List.mem_append_left _ (List.mem_append_left _ (List.mem_append_left _ (List.mem_append_left _ (List.mem_append_left _ (List.mem_append_left _ (List.mem_append_right _ h))))))))
theorem inX8 : ∀ w ∈ wsX80, w ∈ lw_tbl := fun w h => wsL_law_in w (inlX8 w h)
theorem inJ6 : ∀ w ∈ wsJ60, w ∈ lw_tbl := by decide +kernel
theorem inJ9 : ∀ w ∈ wsJ90, w ∈ lw_tbl := by decide +kernel
theorem inJ10 : ∀ w ∈ wsJ100, w ∈ lw_tbl := by decide +kernel
noncomputable def lw_ch (k j : Nat) : Option Cond := match k with
  | 0 => wsL_law_r1[j]?
  | 1 => wsL_law_r2[j]?
  | 2 => wsL_law_r3[j]?
  | 3 => wsL_law_r4[j]?
  | 4 => wsL_law_r5[j]?
  | 5 => wsL_law_r6[j]?
  | 6 => wsL_law_r7[j]?
  | 7 => wsL_law_r8[j]?
  | 8 => wsL_law_r9[j]?
  | 9 => wsL_law_r10[j]?
  | 10 => wsL_law_r11[j]?
  | 11 => wsL_law_r12[j]?
  | 12 => wsL_law_r13[j]?
  | 13 => wsL_law_r14[j]?
  | 14 => wsL_law_r15[j]?
  | 15 => wsL_law_r16[j]?
  | 16 => wsL_law_r17[j]?
  | 17 => wsL_law_r18[j]?
  | 18 => wsL_law_r19[j]?
  | 19 => wsL_law_r20[j]?
  | 20 => wsL_law_r21[j]?
  | 21 => wsL_law_r22[j]?
  | 22 => wsL_law_r23[j]?
  | 23 => wsL_law_r24[j]?
  | 24 => wsL_law_r25[j]?
  | 25 => wsL_law_r26[j]?
  | 26 => wsL_law_r27[j]?
  | 27 => wsL_law_r28[j]?
  | 28 => wsL_law_r29[j]?
  | 29 => wsX70[j]?
  | 30 => wsX80[j]?
  | 31 => wsX10[j]?
  | 32 => wsX40[j]?
  | 33 => wsX50[j]?
  | 34 => wsX30[j]?
  | 35 => wsX20[j]?
  | 36 => wsX00[j]?
  | _ => wsX60[j]?
theorem lw_chin : ∀ (k j : Nat) (c : Cond), lw_ch k j = some c → c ∈ wsL_law
  | 0, _, _, h => List.mem_append_left _ (List.mem_append_left _ (List.mem_append_left _ (List.mem_append_left _ (List.mem_append_left _ (List.mem_append_left _ (List.mem_append_left _ (List.mem_append_left _ (List.mem_append_left _ (List.mem_append_left _ (List.mem_append_left _ (List.mem_of_getElem? h)))))))))))
  | 1, _, _, h => List.mem_append_left _ (List.mem_append_left _ (List.mem_append_left _ (List.mem_append_left _ (List.mem_append_left _ (List.mem_append_left _ (List.mem_append_left _ (List.mem_append_left _ (List.mem_append_left _ (List.mem_append_left _ (List.mem_append_right _ (List.mem_append_left _ (List.mem_of_getElem? h))))))))))))
  | 2, _, _, h => List.mem_append_left _ (List.mem_append_left _ (List.mem_append_left _ (List.mem_append_left _ (List.mem_append_left _ (List.mem_append_left _ (List.mem_append_left _ (List.mem_append_left _ (List.mem_append_left _ (List.mem_append_left _ (List.mem_append_right _ (List.mem_append_right _ (List.mem_append_left _ (List.mem_of_getElem? h)))))))))))))
  | 3, _, _, h => List.mem_append_left _ (List.mem_append_left _ (List.mem_append_left _ (List.mem_append_left _ (List.mem_append_left _ (List.mem_append_left _ (List.mem_append_left _ (List.mem_append_left _ (List.mem_append_left _ (List.mem_append_left _ (List.mem_append_right _ (List.mem_append_right _ (List.mem_append_right _ (List.mem_append_left _ (List.mem_of_getElem? h))))))))))))))
  | 4, _, _, h => List.mem_append_left _ (List.mem_append_left _ (List.mem_append_left _ (List.mem_append_left _ (List.mem_append_left _ (List.mem_append_left _ (List.mem_append_left _ (List.mem_append_left _ (List.mem_append_left _ (List.mem_append_left _ (List.mem_append_right _ (List.mem_append_right _ (List.mem_append_right _ (List.mem_append_right _ (List.mem_append_left _ (List.mem_of_getElem? h)))))))))))))))
  | 5, _, _, h => List.mem_append_left _ (List.mem_append_left _ (List.mem_append_left _ (List.mem_append_left _ (List.mem_append_left _ (List.mem_append_left _ (List.mem_append_left _ (List.mem_append_left _ (List.mem_append_left _ (List.mem_append_left _ (List.mem_append_right _ (List.mem_append_right _ (List.mem_append_right _ (List.mem_append_right _ (List.mem_append_right _ (List.mem_append_left _ (List.mem_of_getElem? h))))))))))))))))
  | 6, _, _, h => List.mem_append_left _ (List.mem_append_left _ (List.mem_append_left _ (List.mem_append_left _ (List.mem_append_left _ (List.mem_append_left _ (List.mem_append_left _ (List.mem_append_left _ (List.mem_append_left _ (List.mem_append_left _ (List.mem_append_right _ (List.mem_append_right _ (List.mem_append_right _ (List.mem_append_right _ (List.mem_append_right _ (List.mem_append_right _ (List.mem_append_left _ (List.mem_of_getElem? h)))))))))))))))))
  | 7, _, _, h => List.mem_append_left _ (List.mem_append_left _ (List.mem_append_left _ (List.mem_append_left _ (List.mem_append_left _ (List.mem_append_left _ (List.mem_append_left _ (List.mem_append_left _ (List.mem_append_left _ (List.mem_append_left _ (List.mem_append_right _ (List.mem_append_right _ (List.mem_append_right _ (List.mem_append_right _ (List.mem_append_right _ (List.mem_append_right _ (List.mem_append_right _ (List.mem_append_left _ (List.mem_of_getElem? h))))))))))))))))))
  | 8, _, _, h => List.mem_append_left _ (List.mem_append_left _ (List.mem_append_left _ (List.mem_append_left _ (List.mem_append_left _ (List.mem_append_left _ (List.mem_append_left _ (List.mem_append_left _ (List.mem_append_left _ (List.mem_append_left _ (List.mem_append_right _ (List.mem_append_right _ (List.mem_append_right _ (List.mem_append_right _ (List.mem_append_right _ (List.mem_append_right _ (List.mem_append_right _ (List.mem_append_right _ (List.mem_append_left _ (List.mem_of_getElem? h)))))))))))))))))))
  | 9, _, _, h => List.mem_append_left _ (List.mem_append_left _ (List.mem_append_left _ (List.mem_append_left _ (List.mem_append_left _ (List.mem_append_left _ (List.mem_append_left _ (List.mem_append_left _ (List.mem_append_left _ (List.mem_append_left _ (List.mem_append_right _ (List.mem_append_right _ (List.mem_append_right _ (List.mem_append_right _ (List.mem_append_right _ (List.mem_append_right _ (List.mem_append_right _ (List.mem_append_right _ (List.mem_append_right _ (List.mem_append_left _ (List.mem_of_getElem? h))))))))))))))))))))
  | 10, _, _, h => List.mem_append_left _ (List.mem_append_left _ (List.mem_append_left _ (List.mem_append_left _ (List.mem_append_left _ (List.mem_append_left _ (List.mem_append_left _ (List.mem_append_left _ (List.mem_append_left _ (List.mem_append_left _ (List.mem_append_right _ (List.mem_append_right _ (List.mem_append_right _ (List.mem_append_right _ (List.mem_append_right _ (List.mem_append_right _ (List.mem_append_right _ (List.mem_append_right _ (List.mem_append_right _ (List.mem_append_right _ (List.mem_append_left _ (List.mem_of_getElem? h)))))))))))))))))))))
  | 11, _, _, h => List.mem_append_left _ (List.mem_append_left _ (List.mem_append_left _ (List.mem_append_left _ (List.mem_append_left _ (List.mem_append_left _ (List.mem_append_left _ (List.mem_append_left _ (List.mem_append_left _ (List.mem_append_left _ (List.mem_append_right _ (List.mem_append_right _ (List.mem_append_right _ (List.mem_append_right _ (List.mem_append_right _ (List.mem_append_right _ (List.mem_append_right _ (List.mem_append_right _ (List.mem_append_right _ (List.mem_append_right _ (List.mem_append_right _ (List.mem_append_left _ (List.mem_of_getElem? h))))))))))))))))))))))
  | 12, _, _, h => List.mem_append_left _ (List.mem_append_left _ (List.mem_append_left _ (List.mem_append_left _ (List.mem_append_left _ (List.mem_append_left _ (List.mem_append_left _ (List.mem_append_left _ (List.mem_append_left _ (List.mem_append_left _ (List.mem_append_right _ (List.mem_append_right _ (List.mem_append_right _ (List.mem_append_right _ (List.mem_append_right _ (List.mem_append_right _ (List.mem_append_right _ (List.mem_append_right _ (List.mem_append_right _ (List.mem_append_right _ (List.mem_append_right _ (List.mem_append_right _ (List.mem_append_left _ (List.mem_of_getElem? h)))))))))))))))))))))))
  | 13, _, _, h => List.mem_append_left _ (List.mem_append_left _ (List.mem_append_left _ (List.mem_append_left _ (List.mem_append_left _ (List.mem_append_left _ (List.mem_append_left _ (List.mem_append_left _ (List.mem_append_left _ (List.mem_append_left _ (List.mem_append_right _ (List.mem_append_right _ (List.mem_append_right _ (List.mem_append_right _ (List.mem_append_right _ (List.mem_append_right _ (List.mem_append_right _ (List.mem_append_right _ (List.mem_append_right _ (List.mem_append_right _ (List.mem_append_right _ (List.mem_append_right _ (List.mem_append_right _ (List.mem_append_left _ (List.mem_of_getElem? h))))))))))))))))))))))))
  | 14, _, _, h => List.mem_append_left _ (List.mem_append_left _ (List.mem_append_left _ (List.mem_append_left _ (List.mem_append_left _ (List.mem_append_left _ (List.mem_append_left _ (List.mem_append_left _ (List.mem_append_left _ (List.mem_append_left _ (List.mem_append_right _ (List.mem_append_right _ (List.mem_append_right _ (List.mem_append_right _ (List.mem_append_right _ (List.mem_append_right _ (List.mem_append_right _ (List.mem_append_right _ (List.mem_append_right _ (List.mem_append_right _ (List.mem_append_right _ (List.mem_append_right _ (List.mem_append_right _ (List.mem_append_right _ (List.mem_append_left _ (List.mem_of_getElem? h)))))))))))))))))))))))))
  | 15, _, _, h => List.mem_append_left _ (List.mem_append_left _ (List.mem_append_left _ (List.mem_append_left _ (List.mem_append_left _ (List.mem_append_left _ (List.mem_append_left _ (List.mem_append_left _ (List.mem_append_left _ (List.mem_append_left _ (List.mem_append_right _ (List.mem_append_right _ (List.mem_append_right _ (List.mem_append_right _ (List.mem_append_right _ (List.mem_append_right _ (List.mem_append_right _ (List.mem_append_right _ (List.mem_append_right _ (List.mem_append_right _ (List.mem_append_right _ (List.mem_append_right _ (List.mem_append_right _ (List.mem_append_right _ (List.mem_append_right _ (List.mem_append_left _ (List.mem_of_getElem? h))))))))))))))))))))))))))
  | 16, _, _, h => List.mem_append_left _ (List.mem_append_left _ (List.mem_append_left _ (List.mem_append_left _ (List.mem_append_left _ (List.mem_append_left _ (List.mem_append_left _ (List.mem_append_left _ (List.mem_append_left _ (List.mem_append_left _ (List.mem_append_right _ (List.mem_append_right _ (List.mem_append_right _ (List.mem_append_right _ (List.mem_append_right _ (List.mem_append_right _ (List.mem_append_right _ (List.mem_append_right _ (List.mem_append_right _ (List.mem_append_right _ (List.mem_append_right _ (List.mem_append_right _ (List.mem_append_right _ (List.mem_append_right _ (List.mem_append_right _ (List.mem_append_right _ (List.mem_append_left _ (List.mem_of_getElem? h)))))))))))))))))))))))))))
  | 17, _, _, h => List.mem_append_left _ (List.mem_append_left _ (List.mem_append_left _ (List.mem_append_left _ (List.mem_append_left _ (List.mem_append_left _ (List.mem_append_left _ (List.mem_append_left _ (List.mem_append_left _ (List.mem_append_left _ (List.mem_append_right _ (List.mem_append_right _ (List.mem_append_right _ (List.mem_append_right _ (List.mem_append_right _ (List.mem_append_right _ (List.mem_append_right _ (List.mem_append_right _ (List.mem_append_right _ (List.mem_append_right _ (List.mem_append_right _ (List.mem_append_right _ (List.mem_append_right _ (List.mem_append_right _ (List.mem_append_right _ (List.mem_append_right _ (List.mem_append_right _ (List.mem_append_left _ (List.mem_of_getElem? h))))))))))))))))))))))))))))
  | 18, _, _, h => List.mem_append_left _ (List.mem_append_left _ (List.mem_append_left _ (List.mem_append_left _ (List.mem_append_left _ (List.mem_append_left _ (List.mem_append_left _ (List.mem_append_left _ (List.mem_append_left _ (List.mem_append_left _ (List.mem_append_right _ (List.mem_append_right _ (List.mem_append_right _ (List.mem_append_right _ (List.mem_append_right _ (List.mem_append_right _ (List.mem_append_right _ (List.mem_append_right _ (List.mem_append_right _ (List.mem_append_right _ (List.mem_append_right _ (List.mem_append_right _ (List.mem_append_right _ (List.mem_append_right _ (List.mem_append_right _ (List.mem_append_right _ (List.mem_append_right _ (List.mem_append_right _ (List.mem_append_left _ (List.mem_of_getElem? h)))))))))))))))))))))))))))))
  | 19, _, _, h => List.mem_append_left _ (List.mem_append_left _ (List.mem_append_left _ (List.mem_append_left _ (List.mem_append_left _ (List.mem_append_left _ (List.mem_append_left _ (List.mem_append_left _ (List.mem_append_left _ (List.mem_append_left _ (List.mem_append_right _ (List.mem_append_right _ (List.mem_append_right _ (List.mem_append_right _ (List.mem_append_right _ (List.mem_append_right _ (List.mem_append_right _ (List.mem_append_right _ (List.mem_append_right _ (List.mem_append_right _ (List.mem_append_right _ (List.mem_append_right _ (List.mem_append_right _ (List.mem_append_right _ (List.mem_append_right _ (List.mem_append_right _ (List.mem_append_right _ (List.mem_append_right _ (List.mem_append_right _ (List.mem_append_left _ (List.mem_of_getElem? h))))))))))))))))))))))))))))))
  | 20, _, _, h => List.mem_append_left _ (List.mem_append_left _ (List.mem_append_left _ (List.mem_append_left _ (List.mem_append_left _ (List.mem_append_left _ (List.mem_append_left _ (List.mem_append_left _ (List.mem_append_left _ (List.mem_append_left _ (List.mem_append_right _ (List.mem_append_right _ (List.mem_append_right _ (List.mem_append_right _ (List.mem_append_right _ (List.mem_append_right _ (List.mem_append_right _ (List.mem_append_right _ (List.mem_append_right _ (List.mem_append_right _ (List.mem_append_right _ (List.mem_append_right _ (List.mem_append_right _ (List.mem_append_right _ (List.mem_append_right _ (List.mem_append_right _ (List.mem_append_right _ (List.mem_append_right _ (List.mem_append_right _ (List.mem_append_right _ (List.mem_append_left _ (List.mem_of_getElem? h)))))))))))))))))))))))))))))))
  | 21, _, _, h => List.mem_append_left _ (List.mem_append_left _ (List.mem_append_left _ (List.mem_append_left _ (List.mem_append_left _ (List.mem_append_left _ (List.mem_append_left _ (List.mem_append_left _ (List.mem_append_left _ (List.mem_append_left _ (List.mem_append_right _ (List.mem_append_right _ (List.mem_append_right _ (List.mem_append_right _ (List.mem_append_right _ (List.mem_append_right _ (List.mem_append_right _ (List.mem_append_right _ (List.mem_append_right _ (List.mem_append_right _ (List.mem_append_right _ (List.mem_append_right _ (List.mem_append_right _ (List.mem_append_right _ (List.mem_append_right _ (List.mem_append_right _ (List.mem_append_right _ (List.mem_append_right _ (List.mem_append_right _ (List.mem_append_right _ (List.mem_append_right _ (List.mem_append_left _ (List.mem_of_getElem? h))))))))))))))))))))))))))))))))
  | 22, _, _, h => List.mem_append_left _ (List.mem_append_left _ (List.mem_append_left _ (List.mem_append_left _ (List.mem_append_left _ (List.mem_append_left _ (List.mem_append_left _ (List.mem_append_left _ (List.mem_append_left _ (List.mem_append_left _ (List.mem_append_right _ (List.mem_append_right _ (List.mem_append_right _ (List.mem_append_right _ (List.mem_append_right _ (List.mem_append_right _ (List.mem_append_right _ (List.mem_append_right _ (List.mem_append_right _ (List.mem_append_right _ (List.mem_append_right _ (List.mem_append_right _ (List.mem_append_right _ (List.mem_append_right _ (List.mem_append_right _ (List.mem_append_right _ (List.mem_append_right _ (List.mem_append_right _ (List.mem_append_right _ (List.mem_append_right _ (List.mem_append_right _ (List.mem_append_right _ (List.mem_append_left _ (List.mem_of_getElem? h)))))))))))))))))))))))))))))))))
  | 23, _, _, h => List.mem_append_left _ (List.mem_append_left _ (List.mem_append_left _ (List.mem_append_left _ (List.mem_append_left _ (List.mem_append_left _ (List.mem_append_left _ (List.mem_append_left _ (List.mem_append_left _ (List.mem_append_left _ (List.mem_append_right _ (List.mem_append_right _ (List.mem_append_right _ (List.mem_append_right _ (List.mem_append_right _ (List.mem_append_right _ (List.mem_append_right _ (List.mem_append_right _ (List.mem_append_right _ (List.mem_append_right _ (List.mem_append_right _ (List.mem_append_right _ (List.mem_append_right _ (List.mem_append_right _ (List.mem_append_right _ (List.mem_append_right _ (List.mem_append_right _ (List.mem_append_right _ (List.mem_append_right _ (List.mem_append_right _ (List.mem_append_right _ (List.mem_append_right _ (List.mem_append_right _ (List.mem_append_left _ (List.mem_of_getElem? h))))))))))))))))))))))))))))))))))
  | 24, _, _, h => List.mem_append_left _ (List.mem_append_left _ (List.mem_append_left _ (List.mem_append_left _ (List.mem_append_left _ (List.mem_append_left _ (List.mem_append_left _ (List.mem_append_left _ (List.mem_append_left _ (List.mem_append_left _ (List.mem_append_right _ (List.mem_append_right _ (List.mem_append_right _ (List.mem_append_right _ (List.mem_append_right _ (List.mem_append_right _ (List.mem_append_right _ (List.mem_append_right _ (List.mem_append_right _ (List.mem_append_right _ (List.mem_append_right _ (List.mem_append_right _ (List.mem_append_right _ (List.mem_append_right _ (List.mem_append_right _ (List.mem_append_right _ (List.mem_append_right _ (List.mem_append_right _ (List.mem_append_right _ (List.mem_append_right _ (List.mem_append_right _ (List.mem_append_right _ (List.mem_append_right _ (List.mem_append_right _ (List.mem_append_left _ (List.mem_of_getElem? h)))))))))))))))))))))))))))))))))))
  | 25, _, _, h => List.mem_append_left _ (List.mem_append_left _ (List.mem_append_left _ (List.mem_append_left _ (List.mem_append_left _ (List.mem_append_left _ (List.mem_append_left _ (List.mem_append_left _ (List.mem_append_left _ (List.mem_append_left _ (List.mem_append_right _ (List.mem_append_right _ (List.mem_append_right _ (List.mem_append_right _ (List.mem_append_right _ (List.mem_append_right _ (List.mem_append_right _ (List.mem_append_right _ (List.mem_append_right _ (List.mem_append_right _ (List.mem_append_right _ (List.mem_append_right _ (List.mem_append_right _ (List.mem_append_right _ (List.mem_append_right _ (List.mem_append_right _ (List.mem_append_right _ (List.mem_append_right _ (List.mem_append_right _ (List.mem_append_right _ (List.mem_append_right _ (List.mem_append_right _ (List.mem_append_right _ (List.mem_append_right _ (List.mem_append_right _ (List.mem_append_left _ (List.mem_of_getElem? h))))))))))))))))))))))))))))))))))))
  | 26, _, _, h => List.mem_append_left _ (List.mem_append_left _ (List.mem_append_left _ (List.mem_append_left _ (List.mem_append_left _ (List.mem_append_left _ (List.mem_append_left _ (List.mem_append_left _ (List.mem_append_left _ (List.mem_append_left _ (List.mem_append_right _ (List.mem_append_right _ (List.mem_append_right _ (List.mem_append_right _ (List.mem_append_right _ (List.mem_append_right _ (List.mem_append_right _ (List.mem_append_right _ (List.mem_append_right _ (List.mem_append_right _ (List.mem_append_right _ (List.mem_append_right _ (List.mem_append_right _ (List.mem_append_right _ (List.mem_append_right _ (List.mem_append_right _ (List.mem_append_right _ (List.mem_append_right _ (List.mem_append_right _ (List.mem_append_right _ (List.mem_append_right _ (List.mem_append_right _ (List.mem_append_right _ (List.mem_append_right _ (List.mem_append_right _ (List.mem_append_right _ (List.mem_append_left _ (List.mem_of_getElem? h)))))))))))))))))))))))))))))))))))))
  | 27, _, _, h => List.mem_append_left _ (List.mem_append_left _ (List.mem_append_left _ (List.mem_append_left _ (List.mem_append_left _ (List.mem_append_left _ (List.mem_append_left _ (List.mem_append_left _ (List.mem_append_left _ (List.mem_append_left _ (List.mem_append_right _ (List.mem_append_right _ (List.mem_append_right _ (List.mem_append_right _ (List.mem_append_right _ (List.mem_append_right _ (List.mem_append_right _ (List.mem_append_right _ (List.mem_append_right _ (List.mem_append_right _ (List.mem_append_right _ (List.mem_append_right _ (List.mem_append_right _ (List.mem_append_right _ (List.mem_append_right _ (List.mem_append_right _ (List.mem_append_right _ (List.mem_append_right _ (List.mem_append_right _ (List.mem_append_right _ (List.mem_append_right _ (List.mem_append_right _ (List.mem_append_right _ (List.mem_append_right _ (List.mem_append_right _ (List.mem_append_right _ (List.mem_append_right _ (List.mem_append_left _ (List.mem_of_getElem? h))))))))))))))))))))))))))))))))))))))
  | 28, _, _, h => List.mem_append_left _ (List.mem_append_left _ (List.mem_append_left _ (List.mem_append_left _ (List.mem_append_left _ (List.mem_append_left _ (List.mem_append_left _ (List.mem_append_left _ (List.mem_append_left _ (List.mem_append_left _ (List.mem_append_right _ (List.mem_append_right _ (List.mem_append_right _ (List.mem_append_right _ (List.mem_append_right _ (List.mem_append_right _ (List.mem_append_right _ (List.mem_append_right _ (List.mem_append_right _ (List.mem_append_right _ (List.mem_append_right _ (List.mem_append_right _ (List.mem_append_right _ (List.mem_append_right _ (List.mem_append_right _ (List.mem_append_right _ (List.mem_append_right _ (List.mem_append_right _ (List.mem_append_right _ (List.mem_append_right _ (List.mem_append_right _ (List.mem_append_right _ (List.mem_append_right _ (List.mem_append_right _ (List.mem_append_right _ (List.mem_append_right _ (List.mem_append_right _ (List.mem_append_right _ (List.mem_of_getElem? h))))))))))))))))))))))))))))))))))))))
  | 29, _, _, h => List.mem_append_left _ (List.mem_append_left _ (List.mem_append_left _ (List.mem_append_left _ (List.mem_append_left _ (List.mem_append_left _ (List.mem_append_left _ (List.mem_append_left _ (List.mem_append_left _ (List.mem_append_right _ (List.mem_of_getElem? h))))))))))
  | 30, _, _, h => List.mem_append_left _ (List.mem_append_left _ (List.mem_append_left _ (List.mem_append_left _ (List.mem_append_left _ (List.mem_append_left _ (List.mem_append_left _ (List.mem_append_left _ (List.mem_append_right _ (List.mem_of_getElem? h)))))))))
  | 31, _, _, h => List.mem_append_left _ (List.mem_append_left _ (List.mem_append_left _ (List.mem_append_left _ (List.mem_append_left _ (List.mem_append_left _ (List.mem_append_left _ (List.mem_append_right _ (List.mem_of_getElem? h))))))))
  | 32, _, _, h => List.mem_append_left _ (List.mem_append_left _ (List.mem_append_left _ (List.mem_append_left _ (List.mem_append_left _ (List.mem_append_left _ (List.mem_append_right _ (List.mem_of_getElem? h)))))))
  | 33, _, _, h => List.mem_append_left _ (List.mem_append_left _ (List.mem_append_left _ (List.mem_append_left _ (List.mem_append_left _ (List.mem_append_right _ (List.mem_of_getElem? h))))))
  | 34, _, _, h => List.mem_append_left _ (List.mem_append_left _ (List.mem_append_left _ (List.mem_append_left _ (List.mem_append_right _ (List.mem_of_getElem? h)))))
  | 35, _, _, h => List.mem_append_left _ (List.mem_append_left _ (List.mem_append_left _ (List.mem_append_right _ (List.mem_of_getElem? h))))
  | 36, _, _, h => List.mem_append_left _ (List.mem_append_left _ (List.mem_append_right _ (List.mem_of_getElem? h)))
  | _ + 37, _, _, h => List.mem_append_left _ (List.mem_append_right _ (List.mem_of_getElem? h))
theorem goodIn_ch (ws : List Cond) (ps : List (Nat × Nat)) (hp : ws = ps.filterMap (fun p => lw_ch p.1 p.2)) (h : ws.all goodWord = true) : GoodIn wsL_law ws := by
  intro w hw
  have h1 := List.all_eq_true.mp h w hw
  rw [hp] at hw
  obtain ⟨p, -, hi⟩ := List.mem_filterMap.mp hw
  exact ⟨lw_chin _ _ _ hi, good_of_word h1⟩
/-! THE CLAIM OUT OF ONE WALK OF THE LAW'S BODY. Your part is whole_start (and what it stands on); all else here is the same for every law, but numbers. -/
def R_law : String := "QuietStairsLaw"
def lw_P (b : Addr) (xs : List Int32) (args : Array Value) (s : State) : Prop := args = #[.ref b] ∧ s.IntsAt b xs ∧ xs.length ≤ 3584 ∧ (Jvm.Cond.and given_1 narrow_1).before args s = true
def lw_Q (_ : Array Value) (s : State) (o : Outcome) (t : State) : Prop := o = .returned (some (.int 1)) ∧ Framed s o t [] 656374 7133126
def lw_Z (below : List Frame) (a : Array Value) (s : State) : State → Prop := fun t => ∃ o, t.status = .running ∧ Ended t below o ∧ lw_Q a s o t
/-- the law's own end, with 1 on the stack, nothing written that was there before, its room as the claim has it -/
theorem lw_ret {p : Program} {l : Launch} {e : Env} {s : State} {m : MethodId} {below : List Frame} {meth : Method} {c : Code} {b : Nat} (hx : p.tables.exec = Jvm.exec) (hb : c.code = code) (hr : meth.sig.returnType = ret) (hlocks : meth.locks = false) {pc : Nat} {H : Heap} {ls : Array Slot} (hdg : decode code pc = .ok (.ireturn, 1)) : W p l e room_1 s m #[Value.ref b] below meth c H [] 656374 7133126 (lw_Z below #[Value.ref b] s) (F0 m pc ls [.int 1]) := by
  intro T hT X
  obtain ⟨fs, hret, hrun, hended, hW, hframe⟩ := X.leave (v := some (.int 1)) (hlocks := hlocks) (fun h => by rw [hr] at h; cases h)
  have hmeth' : T.vm.method? m = some meth := X.method'
  refine ⟨T.setFrames fs, ?_, .returned (some (.int 1)), hrun, hended, rfl, ⟨_, rfl⟩, hW, hframe⟩
  jvm_step X.here [X.here.top, hx, hb, hdg, hmeth', hr, ret, narrow_b1]
  (try refine ⟨rfl, ?_⟩); (try refine ⟨rfl, ?_⟩)
  first | (intro acts; rw [hret _ acts rfl rfl rfl]) | rw [hret _ _ rfl rfl rfl]
  exact Steps.refl _
/-- what holds at the law's entry: the machine, the code, the tables' words (any of lw_tbl by 'hts w (by decide +kernel)'), the script of L ints xs at the cell b, what the Statement gives of the start (any of its parts by flat_of_before) -/
def lw_At (p : Program) (s : State) (m : MethodId) (meth : Method) (c : Code) (b L : Nat) (xs : Nat → Int32) : Prop :=
  p.tables.exec = Jvm.exec ∧ c.code = code ∧ meth.sig.returnType = ret ∧ c.maxLocals = 4 ∧ s.vm.findClass R_law = some m.cls ∧ (∀ w ∈ lw_tbl, w.before #[Value.ref b] s = true) ∧ va_X b L xs s s.heap ∧ b < s.heap.size ∧ meth.locks = false ∧ (Jvm.Cond.and given_1 narrow_1).before #[Value.ref b] s = true
theorem tb_ex {b : Nat} {s : State} (hts : ∀ w ∈ lw_tbl, w.before #[Value.ref b] s = true) : ex_K s :=
  ⟨va_Nw.of rfl (hts (.methodLinkNest RX1 29 yX3_init RX7) (by decide +kernel)), va_Nw.of rfl (hts (.methodLinkNest RX1 30 yX2_init RX7) (by decide +kernel)), va_Nw.of rfl (hts (.methodLinkNest RX0 32 yX6_init RX7) (by decide +kernel)), va_Nw.of rfl (hts (.methodLinkNest RX7 18 yX4_init RX7) (by decide +kernel)), va_Nw.of rfl (hts (.methodLinkNest RX7 25 yX5_init RX7) (by decide +kernel)),
   va_AO.of (hts (.arrayOver (.object RX3)) (by decide +kernel)), va_AO.of (hts (.arrayOver (.object RX2)) (by decide +kernel)), va_AO.of (hts (.arrayOver (.object RX0)) (by decide +kernel)), va_AO.of (hts (.arrayOver (.object RX6)) (by decide +kernel)), hts (.arrayOver (.array .int)) (by decide +kernel), ⟨va_Nw.of rfl (hts (.methodLinkNest RX1 51 yX7_hasBit RX7) (by decide +kernel)), va_Nw.of rfl (hts (.methodLinkNest RX4 115 yX7_hasBit RX7) (by decide +kernel)), va_Nw.of rfl (hts (.methodLinkNest RX5 47 yX7_hasBit RX7) (by decide +kernel)), va_Nw.of rfl (hts (.fieldLinkNest RX1 32 RX7 "OTHER_OF_PAIR" "[I" RX7) (by decide +kernel)), va_Nw.of rfl (hts (.fieldLinkNest RX1 40 RX7 "LESSER_OF_PAIR" "[I" RX7) (by decide +kernel)), va_Nw.of rfl (hts (.fieldLinkNest RX4 109 RX7 "LESSER_OF_PAIR" "[I" RX7) (by decide +kernel)), va_Nw.of rfl (hts (.fieldLinkNest RX4 112 RX7 "OTHER_OF_PAIR" "[I" RX7) (by decide +kernel))⟩⟩

set_option maxHeartbeats 4000000 in
set_option maxRecDepth 100000 in
theorem tb_K {b : Nat} {s : State} (hts : ∀ w ∈ lw_tbl, w.before #[Value.ref b] s = true) : ∃ (dC : Nat → ClassId) (dI : Nat → Nat → Nat) (cy : Nat → ClassId), va_K (dC, dI) vwCl (ty_L cy) s := by
  obtain ⟨c0, j0, hk0⟩ := u_known (C := RX0) (T := TX0) (N := 11) (n := 11) hts inX0 (hts (.instantiable RX0 11) (by decide +kernel))
  obtain ⟨c1, j1, hk1⟩ := u_known (C := RX1) (T := TX1) (N := 7) (n := 7) hts inX1 (hts (.instantiable RX1 7) (by decide +kernel))
  obtain ⟨c2, j2, hk2⟩ := u_known (C := RX2) (T := TX2) (N := 3) (n := 3) hts inX2 (hts (.instantiable RX2 3) (by decide +kernel))
  obtain ⟨c3, j3, hk3⟩ := u_known (C := RX3) (T := TX3) (N := 2) (n := 2) hts inX3 (hts (.instantiable RX3 2) (by decide +kernel))
  obtain ⟨c4, j4, hk4⟩ := u_known (C := RX4) (T := TX4) (N := 11) (n := 11) hts inX4 (hts (.instantiable RX4 11) (by decide +kernel))
  obtain ⟨c5, j5, hk5⟩ := u_known (C := RX5) (T := TX5) (N := 3) (n := 3) hts inX5 (hts (.instantiable RX5 3) (by decide +kernel))
  obtain ⟨c6, j6, hk6⟩ := u_known (C := RX6) (T := TX6) (N := 5) (n := 5) hts inX6 (hts (.instantiable RX6 5) (by decide +kernel))
  obtain ⟨c7, j7, hk7⟩ := u_known (C := RX7) (T := TX7) (N := 5) (n := 5) hts inX7 (hts (.instantiable RX7 5) (by decide +kernel))
  obtain ⟨c8, j8, hk8⟩ := u_known (C := RX8) (T := TX8) (N := 11) (n := 11) hts inX8 (hts (.instantiable RX8 11) (by decide +kernel))
  obtain ⟨y0, z0, w0, a1, a2, a3⟩ := Cond.arrayClass_spec (hts (.arrayClass .int) (by decide +kernel))
  obtain ⟨w1, y1, z1, b11, b12, b13, b14, b15⟩ := Cond.arrayOver_spec (hts (.arrayOver (.object RX3)) (by decide +kernel))
  obtain ⟨w2, y2, z2, b21, b22, b23, b24, b25⟩ := Cond.arrayOver_spec (hts (.arrayOver (.object RX2)) (by decide +kernel))
  obtain ⟨w3, y3, z3, b31, b32, b33, b34, b35⟩ := Cond.arrayOver_spec (hts (.arrayOver (.object RX0)) (by decide +kernel))
  obtain ⟨w4, y4, z4, b41, b42, b43, b44, b45⟩ := Cond.arrayOver_spec (hts (.arrayOver (.object RX6)) (by decide +kernel))
  obtain ⟨w5, y5, z5, b51, b52, b53, b54, b55⟩ := (show ao_A s from hts (.arrayOver (.array .int)) (by decide +kernel)).spec
  refine ⟨fun k => if k = 0 then c0 else if k = 1 then c1 else if k = 2 then c2 else if k = 3 then c3 else if k = 4 then c4 else if k = 5 then c5 else if k = 6 then c6 else if k = 7 then c7 else c8, fun k => if k = 0 then j0 else if k = 1 then j1 else if k = 2 then j2 else if k = 3 then j3 else if k = 4 then j4 else if k = 5 then j5 else if k = 6 then j6 else if k = 7 then j7 else j8, fun k => if k = 0 then y0 else if k = 1 then y1 else if k = 2 then y2 else if k = 3 then y3 else if k = 4 then y4 else y5, ?_, ?_⟩
  · intro k q hq
    match k, hq with
    | 0, hq => cases hq; exact hk0
    | 1, hq => cases hq; exact hk1
    | 2, hq => cases hq; exact hk2
    | 3, hq => cases hq; exact hk3
    | 4, hq => cases hq; exact hk4
    | 5, hq => cases hq; exact hk5
    | 6, hq => cases hq; exact hk6
    | 7, hq => cases hq; exact hk7
    | 8, hq => cases hq; exact hk8
    | k + 9, hq => simp [vwCl] at hq
  · intro k q hq
    match k, hq with
    | 0, hq => cases hq; exact ⟨fun N z => ⟨(fun q hq => by cases hq), z0, a2, w0, a3⟩, a1⟩
    | 1, hq => cases hq; exact ⟨fun N z => ⟨(fun q hq => by cases hq), z1, b13, w1, b14⟩, z1, w1, b13, b14, b11, b15⟩
    | 2, hq => cases hq; exact ⟨fun N z => ⟨(fun q hq => by cases hq), z2, b23, w2, b24⟩, z2, w2, b23, b24, b21, b25⟩
    | 3, hq => cases hq; exact ⟨fun N z => ⟨(fun q hq => by cases hq), z3, b33, w3, b34⟩, z3, w3, b33, b34, b31, b35⟩
    | 4, hq => cases hq; exact ⟨fun N z => ⟨(fun q hq => by cases hq), z4, b43, w4, b44⟩, z4, w4, b43, b44, b41, b45⟩
    | 5, hq => cases hq; exact ⟨fun N z => ⟨(fun q hq => by cases hq), z5, b53, w5, b54⟩, b55⟩
    | k + 6, hq => simp [ty_L] at hq

set_option maxHeartbeats 4000000 in
set_option maxRecDepth 100000 in
theorem tb_st_o {b : Nat} {s : State} (hts : ∀ w ∈ lw_tbl, w.before #[Value.ref b] s = true) (hgv : (Jvm.Cond.and given_1 narrow_1).before #[Value.ref b] s = true) : ∃ t, va_Z RX7 "OTHER_OF_PAIR" "[I" (.ref t) (fun q : Nat => s.heap.size ≤ q) s s.heap ∧ va_T .int t 6 (fun j => .int (st_o j)) (fun q : Nat => s.heap.size ≤ q) s s.heap := by
  have hs := flat_of_before _ hgv
  have hA : ∀ a : Nat, a < s.heap.size → ¬ (fun q : Nat => s.heap.size ≤ q) a := fun a h => Nat.not_le.mpr h
  have harr : (Cond.arrayOf (.static "QuietStairs" "OTHER_OF_PAIR" "[I") .int).before #[Value.ref b] s = true := hs _ (by decide +kernel)
  have hl6 : (Cond.eq (.length (.static "QuietStairs" "OTHER_OF_PAIR" "[I")) (.int 6)).before #[Value.ref b] s = true := hs _ (by decide +kernel)
  have e0 : (Cond.eq (.elem (.static "QuietStairs" "OTHER_OF_PAIR" "[I") (.int 0)) (.int 1)).before #[Value.ref b] s = true := hs _ (by decide +kernel)
  have e1 : (Cond.eq (.elem (.static "QuietStairs" "OTHER_OF_PAIR" "[I") (.int 1)) (.int 2)).before #[Value.ref b] s = true := hs _ (by decide +kernel)
  have e2 : (Cond.eq (.elem (.static "QuietStairs" "OTHER_OF_PAIR" "[I") (.int 2)) (.int 3)).before #[Value.ref b] s = true := hs _ (by decide +kernel)
  have e3 : (Cond.eq (.elem (.static "QuietStairs" "OTHER_OF_PAIR" "[I") (.int 3)) (.int 2)).before #[Value.ref b] s = true := hs _ (by decide +kernel)
  have e4 : (Cond.eq (.elem (.static "QuietStairs" "OTHER_OF_PAIR" "[I") (.int 4)) (.int 3)).before #[Value.ref b] s = true := hs _ (by decide +kernel)
  have e5 : (Cond.eq (.elem (.static "QuietStairs" "OTHER_OF_PAIR" "[I") (.int 5)) (.int 3)).before #[Value.ref b] s = true := hs _ (by decide +kernel)
  obtain ⟨t, ht, hT⟩ := va_Tof (N := 6) (f := fun j => .int (st_o j)) (A := fun q : Nat => s.heap.size ≤ q) (by decide) harr (va_eqt hl6) (fun j hj => by
    rcases (show j = 0 ∨ j = 1 ∨ j = 2 ∨ j = 3 ∨ j = 4 ∨ j = 5 by omega) with rfl | rfl | rfl | rfl | rfl | rfl
    · exact va_eqt e0
    · exact va_eqt e1
    · exact va_eqt e2
    · exact va_eqt e3
    · exact va_eqt e4
    · exact va_eqt e5) hA
  exact ⟨t, va_Zof (hts (.laysStatic RX7 "OTHER_OF_PAIR" "[I") (by decide +kernel)) (hts (.initialized RX7) (by decide +kernel)) ht hA, hT⟩

set_option maxHeartbeats 4000000 in
set_option maxRecDepth 100000 in
theorem tb_st_l {b : Nat} {s : State} (hts : ∀ w ∈ lw_tbl, w.before #[Value.ref b] s = true) (hgv : (Jvm.Cond.and given_1 narrow_1).before #[Value.ref b] s = true) : ∃ t, va_Z RX7 "LESSER_OF_PAIR" "[I" (.ref t) (fun q : Nat => s.heap.size ≤ q) s s.heap ∧ va_T .int t 6 (fun j => .int (st_l j)) (fun q : Nat => s.heap.size ≤ q) s s.heap := by
  have hs := flat_of_before _ hgv
  have hA : ∀ a : Nat, a < s.heap.size → ¬ (fun q : Nat => s.heap.size ≤ q) a := fun a h => Nat.not_le.mpr h
  have harr : (Cond.arrayOf (.static "QuietStairs" "LESSER_OF_PAIR" "[I") .int).before #[Value.ref b] s = true := hs _ (by decide +kernel)
  have hl6 : (Cond.eq (.length (.static "QuietStairs" "LESSER_OF_PAIR" "[I")) (.int 6)).before #[Value.ref b] s = true := hs _ (by decide +kernel)
  have e0 : (Cond.eq (.elem (.static "QuietStairs" "LESSER_OF_PAIR" "[I") (.int 0)) (.int 0)).before #[Value.ref b] s = true := hs _ (by decide +kernel)
  have e1 : (Cond.eq (.elem (.static "QuietStairs" "LESSER_OF_PAIR" "[I") (.int 1)) (.int 0)).before #[Value.ref b] s = true := hs _ (by decide +kernel)
  have e2 : (Cond.eq (.elem (.static "QuietStairs" "LESSER_OF_PAIR" "[I") (.int 2)) (.int 0)).before #[Value.ref b] s = true := hs _ (by decide +kernel)
  have e3 : (Cond.eq (.elem (.static "QuietStairs" "LESSER_OF_PAIR" "[I") (.int 3)) (.int 1)).before #[Value.ref b] s = true := hs _ (by decide +kernel)
  have e4 : (Cond.eq (.elem (.static "QuietStairs" "LESSER_OF_PAIR" "[I") (.int 4)) (.int 1)).before #[Value.ref b] s = true := hs _ (by decide +kernel)
  have e5 : (Cond.eq (.elem (.static "QuietStairs" "LESSER_OF_PAIR" "[I") (.int 5)) (.int 2)).before #[Value.ref b] s = true := hs _ (by decide +kernel)
  obtain ⟨t, ht, hT⟩ := va_Tof (N := 6) (f := fun j => .int (st_l j)) (A := fun q : Nat => s.heap.size ≤ q) (by decide) harr (va_eqt hl6) (fun j hj => by
    rcases (show j = 0 ∨ j = 1 ∨ j = 2 ∨ j = 3 ∨ j = 4 ∨ j = 5 by omega) with rfl | rfl | rfl | rfl | rfl | rfl
    · exact va_eqt e0
    · exact va_eqt e1
    · exact va_eqt e2
    · exact va_eqt e3
    · exact va_eqt e4
    · exact va_eqt e5) hA
  exact ⟨t, va_Zof (hts (.laysStatic RX7 "LESSER_OF_PAIR" "[I") (by decide +kernel)) (hts (.initialized RX7) (by decide +kernel)) ht hA, hT⟩
