
set_option maxHeartbeats 4000000 in
theorem RL_box0 {v u : Nat → Nat → Int32} {s z : Nat → Int32} {X : Nat} {x : Int32} (hX : X < 6) (hu : ∀ k j : Nat, u k j = if k = 31 + 15 * X ∧ j = 0 then x else v k j) (hs : ∀ n : Nat, z n = if n = 74 + 2 * X then x else s n) (hR : RLk 13 v s) : RLk 13 u z := by
  have A0 : (z 0).toInt = (s 0).toInt := by rw [hs, if_neg (by omega)]
  have A1 : (z 1).toInt = (s 1).toInt := by rw [hs, if_neg (by omega)]
  have A2 : (z 2).toInt = (s 2).toInt := by rw [hs, if_neg (by omega)]
  have A36 : ∀ c : Nat, c < 6 → (z (36 + 7 * c)).toInt = (s (36 + 7 * c)).toInt := fun c hc => by rw [hs, if_neg (by omega)]
  have A38 : ∀ c : Nat, c < 6 → (z (38 + 7 * c)).toInt = (s (38 + 7 * c)).toInt := fun c hc => by rw [hs, if_neg (by omega)]
  intro k j n h
  unfold lk at h
  rcases h with ⟨rfl, hj, rfl⟩ | ⟨p, hp, ha, hj, rfl, rfl⟩ | ⟨m, hm, ha, hj, rfl, rfl⟩ | ⟨m, hm, ha, rfl, rfl, rfl⟩ | ⟨c, hc, ha, rfl, rfl, rfl⟩ | ⟨c, hc, ha, rfl, rfl, rfl⟩ | ⟨c, hc, ha, rfl, rfl, rfl⟩ | ⟨c, hc, ha, rfl, rfl, rfl⟩ | ⟨c, hc, ha, hj, rfl, rfl⟩ | ⟨c, i, hc, ha, hi, hj, hr, rfl, rfl⟩ | ⟨c, i, hc, ha, hi, hj, rfl, rfl⟩ | ⟨c, t, hc, ha, ht, hr, hj, rfl, rfl⟩
  · have d1 : u (13) n = v (13) n := by rw [hu, if_neg (by omega)]
    have d2 : z (n) = s (n) := by rw [hs, if_neg (by omega)]
    exact d1.trans ((hR _ _ _ (lk_a hj)).trans d2.symm)
  · have d1 : u (13 + 4 + p) j = v (13 + 4 + p) j := by rw [hu, if_neg (by omega)]
    have d2 : z (4 + 2 * p + j) = s (4 + 2 * p + j) := by rw [hs, if_neg (by omega)]
    exact d1.trans ((hR _ _ _ (lk_p hp (by omega) hj)).trans d2.symm)
  · have d1 : u (13 + 12 + m) j = v (13 + 12 + m) j := by rw [hu, if_neg (by omega)]
    have d2 : z (20 + 2 * m + j) = s (20 + 2 * m + j) := by rw [hs, if_neg (by omega)]
    exact d1.trans ((hR _ _ _ (lk_m hm (by omega) hj)).trans d2.symm)
  · have d1 : u (13 + 12 + m) 2 = v (13 + 12 + m) 2 := by rw [hu, if_neg (by omega)]
    have d2 : z (28 + m) = s (28 + m) := by rw [hs, if_neg (by omega)]
    exact d1.trans ((hR _ _ _ (lk_k_ hm (by omega))).trans d2.symm)
  · have d1 : u (13 + 16 + 15 * c) 0 = v (13 + 16 + 15 * c) 0 := by rw [hu, if_neg (by omega)]
    have d2 : z (34 + 7 * c) = s (34 + 7 * c) := by rw [hs, if_neg (by omega)]
    exact d1.trans ((hR _ _ _ (lk_c0 hc (by omega))).trans d2.symm)
  · have d1 : u (13 + 16 + 15 * c) 2 = v (13 + 16 + 15 * c) 2 := by rw [hu, if_neg (by omega)]
    have d2 : z (36 + 7 * c) = s (36 + 7 * c) := by rw [hs, if_neg (by omega)]
    exact d1.trans ((hR _ _ _ (lk_c2 hc (by omega))).trans d2.symm)
  · have d1 : u (13 + 16 + 15 * c) 3 = v (13 + 16 + 15 * c) 3 := by rw [hu, if_neg (by omega)]
    have d2 : z (37 + 7 * c) = s (37 + 7 * c) := by rw [hs, if_neg (by omega)]
    exact d1.trans ((hR _ _ _ (lk_c3 hc (by omega))).trans d2.symm)
  · have d1 : u (13 + 16 + 15 * c) 5 = v (13 + 16 + 15 * c) 5 := by rw [hu, if_neg (by omega)]
    have d2 : z (38 + 7 * c) = s (38 + 7 * c) := by rw [hs, if_neg (by omega)]
    exact d1.trans ((hR _ _ _ (lk_c5 hc (by omega))).trans d2.symm)
  · have d1 : u (13 + 17 + 15 * c) j = v (13 + 17 + 15 * c) j := by rw [hu, if_neg (by omega)]
    have d2 : z (32 + 7 * c + j) = s (32 + 7 * c + j) := by rw [hs, if_neg (by omega)]
    exact d1.trans ((hR _ _ _ (lk_q hc (by omega) hj)).trans d2.symm)
  · have a36 := A36 c hc
    have d1 : u (13 + 20 + 15 * c + i) j = v (13 + 20 + 15 * c + i) j := by rw [hu, if_neg (by omega)]
    have d2 : z (86 + 10 * c + 2 * j + i) = s (86 + 10 * c + 2 * j + i) := by rw [hs, if_neg (by omega)]
    exact d1.trans ((hR _ _ _ (lk_o hc (by omega) hi hj (by omega))).trans d2.symm)
  · have d1 : u (13 + 23 + 15 * c + i) j = v (13 + 23 + 15 * c + i) j := by rw [hu, if_neg (by omega)]
    have d2 : z (308 + 48 * c + 24 * i + j) = s (308 + 48 * c + 24 * i + j) := by rw [hs, if_neg (by omega)]
    exact d1.trans ((hR _ _ _ (lk_l hc (by omega) hi hj)).trans d2.symm)
  · have a38 := A38 c hc
    have d1 : u (13 + 26 + 15 * c + t) j = v (13 + 26 + 15 * c + t) j := by rw [hu, if_neg (by omega)]
    have d2 : z (158 + 25 * c + 5 * t + j) = s (158 + 25 * c + 5 * t + j) := by rw [hs, if_neg (by omega)]
    exact d1.trans ((hR _ _ _ (lk_t hc (by omega) ht (by omega) hj)).trans d2.symm)

set_option maxHeartbeats 4000000 in
theorem RL_no0 {v u : Nat → Nat → Int32} {s z : Nat → Int32} {X R : Nat} {x y g a : Int32} (hX : X < 6) (hR5 : R < 5) (hn : (s (36 + 7 * X)).toInt = (R : Int)) (hx : y.toInt = (s (36 + 7 * X)).toInt + 1) (hu : ∀ k j : Nat, u k j = if k = 31 + 15 * X ∧ j = 1 then -1 else if k = 31 + 15 * X ∧ j = 0 then -1 else if k = 29 + 15 * X ∧ j = 2 then y else if k = 33 + 15 * X + 1 ∧ j = R then g else if k = 33 + 15 * X + 0 ∧ j = R then a else if k = 31 + 15 * X ∧ j = 0 then x else v k j) (hs : ∀ n : Nat, z n = if n = 75 + 2 * X then -5 else if n = 74 + 2 * X then -5 else if n = 36 + 7 * X then y else if n = 87 + 10 * X + 2 * R then g else if n = 86 + 10 * X + 2 * R then a else if n = 74 + 2 * X then x else s n) (hR : RLk 13 v s) : RLk 13 u z := by
  have A0 : (z 0).toInt = (s 0).toInt := by rw [hs, if_neg (by omega), if_neg (by omega), if_neg (by omega), if_neg (by omega), if_neg (by omega), if_neg (by omega)]
  have A1 : (z 1).toInt = (s 1).toInt := by rw [hs, if_neg (by omega), if_neg (by omega), if_neg (by omega), if_neg (by omega), if_neg (by omega), if_neg (by omega)]
  have A2 : (z 2).toInt = (s 2).toInt := by rw [hs, if_neg (by omega), if_neg (by omega), if_neg (by omega), if_neg (by omega), if_neg (by omega), if_neg (by omega)]
  have A36 : ∀ c : Nat, c < 6 → (z (36 + 7 * c)).toInt = (s (36 + 7 * c)).toInt ∨ (c = X ∧ (z (36 + 7 * c)).toInt = (s (36 + 7 * c)).toInt + 1) := fun c hc => by by_cases q : c = X; subst q; refine Or.inr ⟨rfl, ?_⟩; rw [hs, if_neg (by omega), if_neg (by omega), if_pos rfl]; exact hx; refine Or.inl ?_; rw [hs, if_neg (by omega), if_neg (by omega), if_neg (by omega), if_neg (by omega), if_neg (by omega), if_neg (by omega)]
  have A38 : ∀ c : Nat, c < 6 → (z (38 + 7 * c)).toInt = (s (38 + 7 * c)).toInt := fun c hc => by rw [hs, if_neg (by omega), if_neg (by omega), if_neg (by omega), if_neg (by omega), if_neg (by omega), if_neg (by omega)]
  intro k j n h
  unfold lk at h
  rcases h with ⟨rfl, hj, rfl⟩ | ⟨p, hp, ha, hj, rfl, rfl⟩ | ⟨m, hm, ha, hj, rfl, rfl⟩ | ⟨m, hm, ha, rfl, rfl, rfl⟩ | ⟨c, hc, ha, rfl, rfl, rfl⟩ | ⟨c, hc, ha, rfl, rfl, rfl⟩ | ⟨c, hc, ha, rfl, rfl, rfl⟩ | ⟨c, hc, ha, rfl, rfl, rfl⟩ | ⟨c, hc, ha, hj, rfl, rfl⟩ | ⟨c, i, hc, ha, hi, hj, hr, rfl, rfl⟩ | ⟨c, i, hc, ha, hi, hj, rfl, rfl⟩ | ⟨c, t, hc, ha, ht, hr, hj, rfl, rfl⟩
  · have d1 : u (13) n = v (13) n := by rw [hu, if_neg (by omega), if_neg (by omega), if_neg (by omega), if_neg (by omega), if_neg (by omega), if_neg (by omega)]
    have d2 : z (n) = s (n) := by rw [hs, if_neg (by omega), if_neg (by omega), if_neg (by omega), if_neg (by omega), if_neg (by omega), if_neg (by omega)]
    exact d1.trans ((hR _ _ _ (lk_a hj)).trans d2.symm)
  · have d1 : u (13 + 4 + p) j = v (13 + 4 + p) j := by rw [hu, if_neg (by omega), if_neg (by omega), if_neg (by omega), if_neg (by omega), if_neg (by omega), if_neg (by omega)]
    have d2 : z (4 + 2 * p + j) = s (4 + 2 * p + j) := by rw [hs, if_neg (by omega), if_neg (by omega), if_neg (by omega), if_neg (by omega), if_neg (by omega), if_neg (by omega)]
    exact d1.trans ((hR _ _ _ (lk_p hp (by omega) hj)).trans d2.symm)
  · have d1 : u (13 + 12 + m) j = v (13 + 12 + m) j := by rw [hu, if_neg (by omega), if_neg (by omega), if_neg (by omega), if_neg (by omega), if_neg (by omega), if_neg (by omega)]
    have d2 : z (20 + 2 * m + j) = s (20 + 2 * m + j) := by rw [hs, if_neg (by omega), if_neg (by omega), if_neg (by omega), if_neg (by omega), if_neg (by omega), if_neg (by omega)]
    exact d1.trans ((hR _ _ _ (lk_m hm (by omega) hj)).trans d2.symm)
  · have d1 : u (13 + 12 + m) 2 = v (13 + 12 + m) 2 := by rw [hu, if_neg (by omega), if_neg (by omega), if_neg (by omega), if_neg (by omega), if_neg (by omega), if_neg (by omega)]
    have d2 : z (28 + m) = s (28 + m) := by rw [hs, if_neg (by omega), if_neg (by omega), if_neg (by omega), if_neg (by omega), if_neg (by omega), if_neg (by omega)]
    exact d1.trans ((hR _ _ _ (lk_k_ hm (by omega))).trans d2.symm)
  · have d1 : u (13 + 16 + 15 * c) 0 = v (13 + 16 + 15 * c) 0 := by rw [hu, if_neg (by omega), if_neg (by omega), if_neg (by omega), if_neg (by omega), if_neg (by omega), if_neg (by omega)]
    have d2 : z (34 + 7 * c) = s (34 + 7 * c) := by rw [hs, if_neg (by omega), if_neg (by omega), if_neg (by omega), if_neg (by omega), if_neg (by omega), if_neg (by omega)]
    exact d1.trans ((hR _ _ _ (lk_c0 hc (by omega))).trans d2.symm)
  · by_cases e0 : 13 + 16 + 15 * c = 29 + 15 * X ∧ 2 = 2
    · have d1 : u (13 + 16 + 15 * c) 2 = y := by rw [hu, if_neg (by omega), if_neg (by omega), if_pos (by omega)]
      have d2 : z (36 + 7 * c) = y := by rw [hs, if_neg (by omega), if_neg (by omega), if_pos (by omega)]
      exact d1.trans d2.symm
    · skip
      have d1 : u (13 + 16 + 15 * c) 2 = v (13 + 16 + 15 * c) 2 := by rw [hu, if_neg (by omega), if_neg (by omega), if_neg (by omega), if_neg (by omega), if_neg (by omega), if_neg (by omega)]
      have d2 : z (36 + 7 * c) = s (36 + 7 * c) := by rw [hs, if_neg (by omega), if_neg (by omega), if_neg (by omega), if_neg (by omega), if_neg (by omega), if_neg (by omega)]
      exact d1.trans ((hR _ _ _ (lk_c2 hc (by omega))).trans d2.symm)
  · have d1 : u (13 + 16 + 15 * c) 3 = v (13 + 16 + 15 * c) 3 := by rw [hu, if_neg (by omega), if_neg (by omega), if_neg (by omega), if_neg (by omega), if_neg (by omega), if_neg (by omega)]
    have d2 : z (37 + 7 * c) = s (37 + 7 * c) := by rw [hs, if_neg (by omega), if_neg (by omega), if_neg (by omega), if_neg (by omega), if_neg (by omega), if_neg (by omega)]
    exact d1.trans ((hR _ _ _ (lk_c3 hc (by omega))).trans d2.symm)
  · have d1 : u (13 + 16 + 15 * c) 5 = v (13 + 16 + 15 * c) 5 := by rw [hu, if_neg (by omega), if_neg (by omega), if_neg (by omega), if_neg (by omega), if_neg (by omega), if_neg (by omega)]
    have d2 : z (38 + 7 * c) = s (38 + 7 * c) := by rw [hs, if_neg (by omega), if_neg (by omega), if_neg (by omega), if_neg (by omega), if_neg (by omega), if_neg (by omega)]
    exact d1.trans ((hR _ _ _ (lk_c5 hc (by omega))).trans d2.symm)
  · have d1 : u (13 + 17 + 15 * c) j = v (13 + 17 + 15 * c) j := by rw [hu, if_neg (by omega), if_neg (by omega), if_neg (by omega), if_neg (by omega), if_neg (by omega), if_neg (by omega)]
    have d2 : z (32 + 7 * c + j) = s (32 + 7 * c + j) := by rw [hs, if_neg (by omega), if_neg (by omega), if_neg (by omega), if_neg (by omega), if_neg (by omega), if_neg (by omega)]
    exact d1.trans ((hR _ _ _ (lk_q hc (by omega) hj)).trans d2.symm)
  · have a36 := A36 c hc
    have hnc : c = X → (s (36 + 7 * c)).toInt = (R : Int) := fun q => by rw [q]; exact hn
    by_cases e0 : 13 + 20 + 15 * c + i = 33 + 15 * X + 1 ∧ j = R
    · have d1 : u (13 + 20 + 15 * c + i) j = g := by rw [hu, if_neg (by omega), if_neg (by omega), if_neg (by omega), if_pos (by omega)]
      have d2 : z (86 + 10 * c + 2 * j + i) = g := by rw [hs, if_neg (by omega), if_neg (by omega), if_neg (by omega), if_pos (by omega)]
      exact d1.trans d2.symm
    · skip
      by_cases e1 : 13 + 20 + 15 * c + i = 33 + 15 * X + 0 ∧ j = R
      · have d1 : u (13 + 20 + 15 * c + i) j = a := by rw [hu, if_neg (by omega), if_neg (by omega), if_neg (by omega), if_neg (by omega), if_pos (by omega)]
        have d2 : z (86 + 10 * c + 2 * j + i) = a := by rw [hs, if_neg (by omega), if_neg (by omega), if_neg (by omega), if_neg (by omega), if_pos (by omega)]
        exact d1.trans d2.symm
      · skip
        have d1 : u (13 + 20 + 15 * c + i) j = v (13 + 20 + 15 * c + i) j := by rw [hu, if_neg (by omega), if_neg (by omega), if_neg (by omega), if_neg (by omega), if_neg (by omega), if_neg (by omega)]
        have d2 : z (86 + 10 * c + 2 * j + i) = s (86 + 10 * c + 2 * j + i) := by rw [hs, if_neg (by omega), if_neg (by omega), if_neg (by omega), if_neg (by omega), if_neg (by omega), if_neg (by omega)]
        exact d1.trans ((hR _ _ _ (lk_o hc (by omega) hi hj (by omega))).trans d2.symm)
  · have d1 : u (13 + 23 + 15 * c + i) j = v (13 + 23 + 15 * c + i) j := by rw [hu, if_neg (by omega), if_neg (by omega), if_neg (by omega), if_neg (by omega), if_neg (by omega), if_neg (by omega)]
    have d2 : z (308 + 48 * c + 24 * i + j) = s (308 + 48 * c + 24 * i + j) := by rw [hs, if_neg (by omega), if_neg (by omega), if_neg (by omega), if_neg (by omega), if_neg (by omega), if_neg (by omega)]
    exact d1.trans ((hR _ _ _ (lk_l hc (by omega) hi hj)).trans d2.symm)
  · have a38 := A38 c hc
    have d1 : u (13 + 26 + 15 * c + t) j = v (13 + 26 + 15 * c + t) j := by rw [hu, if_neg (by omega), if_neg (by omega), if_neg (by omega), if_neg (by omega), if_neg (by omega), if_neg (by omega)]
    have d2 : z (158 + 25 * c + 5 * t + j) = s (158 + 25 * c + 5 * t + j) := by rw [hs, if_neg (by omega), if_neg (by omega), if_neg (by omega), if_neg (by omega), if_neg (by omega), if_neg (by omega)]
    exact d1.trans ((hR _ _ _ (lk_t hc (by omega) ht (by omega) hj)).trans d2.symm)

set_option maxHeartbeats 4000000 in
theorem RL_yes0 {v u : Nat → Nat → Int32} {s z : Nat → Int32} {X R : Nat} {x y g a w : Int32} (hX : X < 6) (hR5 : R < 5) (hn : (s (36 + 7 * X)).toInt = (R : Int)) (hx : y.toInt = (s (36 + 7 * X)).toInt + 1) (hu : ∀ k j : Nat, u k j = if k = 29 + 15 * X ∧ j = 1 then w else if k = 29 + 15 * X ∧ j = 0 then 1 else if k = 29 + 15 * X ∧ j = 2 then y else if k = 33 + 15 * X + 1 ∧ j = R then g else if k = 33 + 15 * X + 0 ∧ j = R then a else if k = 31 + 15 * X ∧ j = 0 then x else v k j) (hs : ∀ n : Nat, z n = if n = 35 + 7 * X then w else if n = 34 + 7 * X then 1 else if n = 75 + 2 * X then -5 else if n = 74 + 2 * X then -5 else if n = 36 + 7 * X then y else if n = 87 + 10 * X + 2 * R then g else if n = 86 + 10 * X + 2 * R then a else if n = 74 + 2 * X then x else s n) (hR : RLk 13 v s) : RLk 13 u z := by
  have A0 : (z 0).toInt = (s 0).toInt := by rw [hs, if_neg (by omega), if_neg (by omega), if_neg (by omega), if_neg (by omega), if_neg (by omega), if_neg (by omega), if_neg (by omega), if_neg (by omega)]
  have A1 : (z 1).toInt = (s 1).toInt := by rw [hs, if_neg (by omega), if_neg (by omega), if_neg (by omega), if_neg (by omega), if_neg (by omega), if_neg (by omega), if_neg (by omega), if_neg (by omega)]
  have A2 : (z 2).toInt = (s 2).toInt := by rw [hs, if_neg (by omega), if_neg (by omega), if_neg (by omega), if_neg (by omega), if_neg (by omega), if_neg (by omega), if_neg (by omega), if_neg (by omega)]
  have A36 : ∀ c : Nat, c < 6 → (z (36 + 7 * c)).toInt = (s (36 + 7 * c)).toInt ∨ (c = X ∧ (z (36 + 7 * c)).toInt = (s (36 + 7 * c)).toInt + 1) := fun c hc => by by_cases q : c = X; subst q; refine Or.inr ⟨rfl, ?_⟩; rw [hs, if_neg (by omega), if_neg (by omega), if_neg (by omega), if_neg (by omega), if_pos rfl]; exact hx; refine Or.inl ?_; rw [hs, if_neg (by omega), if_neg (by omega), if_neg (by omega), if_neg (by omega), if_neg (by omega), if_neg (by omega), if_neg (by omega), if_neg (by omega)]
  have A38 : ∀ c : Nat, c < 6 → (z (38 + 7 * c)).toInt = (s (38 + 7 * c)).toInt := fun c hc => by rw [hs, if_neg (by omega), if_neg (by omega), if_neg (by omega), if_neg (by omega), if_neg (by omega), if_neg (by omega), if_neg (by omega), if_neg (by omega)]
  intro k j n h
  unfold lk at h
  rcases h with ⟨rfl, hj, rfl⟩ | ⟨p, hp, ha, hj, rfl, rfl⟩ | ⟨m, hm, ha, hj, rfl, rfl⟩ | ⟨m, hm, ha, rfl, rfl, rfl⟩ | ⟨c, hc, ha, rfl, rfl, rfl⟩ | ⟨c, hc, ha, rfl, rfl, rfl⟩ | ⟨c, hc, ha, rfl, rfl, rfl⟩ | ⟨c, hc, ha, rfl, rfl, rfl⟩ | ⟨c, hc, ha, hj, rfl, rfl⟩ | ⟨c, i, hc, ha, hi, hj, hr, rfl, rfl⟩ | ⟨c, i, hc, ha, hi, hj, rfl, rfl⟩ | ⟨c, t, hc, ha, ht, hr, hj, rfl, rfl⟩
  · have d1 : u (13) n = v (13) n := by rw [hu, if_neg (by omega), if_neg (by omega), if_neg (by omega), if_neg (by omega), if_neg (by omega), if_neg (by omega)]
    have d2 : z (n) = s (n) := by rw [hs, if_neg (by omega), if_neg (by omega), if_neg (by omega), if_neg (by omega), if_neg (by omega), if_neg (by omega), if_neg (by omega), if_neg (by omega)]
    exact d1.trans ((hR _ _ _ (lk_a hj)).trans d2.symm)
  · have d1 : u (13 + 4 + p) j = v (13 + 4 + p) j := by rw [hu, if_neg (by omega), if_neg (by omega), if_neg (by omega), if_neg (by omega), if_neg (by omega), if_neg (by omega)]
    have d2 : z (4 + 2 * p + j) = s (4 + 2 * p + j) := by rw [hs, if_neg (by omega), if_neg (by omega), if_neg (by omega), if_neg (by omega), if_neg (by omega), if_neg (by omega), if_neg (by omega), if_neg (by omega)]
    exact d1.trans ((hR _ _ _ (lk_p hp (by omega) hj)).trans d2.symm)
  · have d1 : u (13 + 12 + m) j = v (13 + 12 + m) j := by rw [hu, if_neg (by omega), if_neg (by omega), if_neg (by omega), if_neg (by omega), if_neg (by omega), if_neg (by omega)]
    have d2 : z (20 + 2 * m + j) = s (20 + 2 * m + j) := by rw [hs, if_neg (by omega), if_neg (by omega), if_neg (by omega), if_neg (by omega), if_neg (by omega), if_neg (by omega), if_neg (by omega), if_neg (by omega)]
    exact d1.trans ((hR _ _ _ (lk_m hm (by omega) hj)).trans d2.symm)
  · have d1 : u (13 + 12 + m) 2 = v (13 + 12 + m) 2 := by rw [hu, if_neg (by omega), if_neg (by omega), if_neg (by omega), if_neg (by omega), if_neg (by omega), if_neg (by omega)]
    have d2 : z (28 + m) = s (28 + m) := by rw [hs, if_neg (by omega), if_neg (by omega), if_neg (by omega), if_neg (by omega), if_neg (by omega), if_neg (by omega), if_neg (by omega), if_neg (by omega)]
    exact d1.trans ((hR _ _ _ (lk_k_ hm (by omega))).trans d2.symm)
  · by_cases e0 : 13 + 16 + 15 * c = 29 + 15 * X ∧ 0 = 0
    · have d1 : u (13 + 16 + 15 * c) 0 = 1 := by rw [hu, if_neg (by omega), if_pos (by omega)]
      have d2 : z (34 + 7 * c) = 1 := by rw [hs, if_neg (by omega), if_pos (by omega)]
      exact d1.trans d2.symm
    · skip
      have d1 : u (13 + 16 + 15 * c) 0 = v (13 + 16 + 15 * c) 0 := by rw [hu, if_neg (by omega), if_neg (by omega), if_neg (by omega), if_neg (by omega), if_neg (by omega), if_neg (by omega)]
      have d2 : z (34 + 7 * c) = s (34 + 7 * c) := by rw [hs, if_neg (by omega), if_neg (by omega), if_neg (by omega), if_neg (by omega), if_neg (by omega), if_neg (by omega), if_neg (by omega), if_neg (by omega)]
      exact d1.trans ((hR _ _ _ (lk_c0 hc (by omega))).trans d2.symm)
  · by_cases e0 : 13 + 16 + 15 * c = 29 + 15 * X ∧ 2 = 2
    · have d1 : u (13 + 16 + 15 * c) 2 = y := by rw [hu, if_neg (by omega), if_neg (by omega), if_pos (by omega)]
      have d2 : z (36 + 7 * c) = y := by rw [hs, if_neg (by omega), if_neg (by omega), if_neg (by omega), if_neg (by omega), if_pos (by omega)]
      exact d1.trans d2.symm
    · skip
      have d1 : u (13 + 16 + 15 * c) 2 = v (13 + 16 + 15 * c) 2 := by rw [hu, if_neg (by omega), if_neg (by omega), if_neg (by omega), if_neg (by omega), if_neg (by omega), if_neg (by omega)]
      have d2 : z (36 + 7 * c) = s (36 + 7 * c) := by rw [hs, if_neg (by omega), if_neg (by omega), if_neg (by omega), if_neg (by omega), if_neg (by omega), if_neg (by omega), if_neg (by omega), if_neg (by omega)]
      exact d1.trans ((hR _ _ _ (lk_c2 hc (by omega))).trans d2.symm)
  · have d1 : u (13 + 16 + 15 * c) 3 = v (13 + 16 + 15 * c) 3 := by rw [hu, if_neg (by omega), if_neg (by omega), if_neg (by omega), if_neg (by omega), if_neg (by omega), if_neg (by omega)]
    have d2 : z (37 + 7 * c) = s (37 + 7 * c) := by rw [hs, if_neg (by omega), if_neg (by omega), if_neg (by omega), if_neg (by omega), if_neg (by omega), if_neg (by omega), if_neg (by omega), if_neg (by omega)]
    exact d1.trans ((hR _ _ _ (lk_c3 hc (by omega))).trans d2.symm)
  · have d1 : u (13 + 16 + 15 * c) 5 = v (13 + 16 + 15 * c) 5 := by rw [hu, if_neg (by omega), if_neg (by omega), if_neg (by omega), if_neg (by omega), if_neg (by omega), if_neg (by omega)]
    have d2 : z (38 + 7 * c) = s (38 + 7 * c) := by rw [hs, if_neg (by omega), if_neg (by omega), if_neg (by omega), if_neg (by omega), if_neg (by omega), if_neg (by omega), if_neg (by omega), if_neg (by omega)]
    exact d1.trans ((hR _ _ _ (lk_c5 hc (by omega))).trans d2.symm)
  · have d1 : u (13 + 17 + 15 * c) j = v (13 + 17 + 15 * c) j := by rw [hu, if_neg (by omega), if_neg (by omega), if_neg (by omega), if_neg (by omega), if_neg (by omega), if_neg (by omega)]
    have d2 : z (32 + 7 * c + j) = s (32 + 7 * c + j) := by rw [hs, if_neg (by omega), if_neg (by omega), if_neg (by omega), if_neg (by omega), if_neg (by omega), if_neg (by omega), if_neg (by omega), if_neg (by omega)]
    exact d1.trans ((hR _ _ _ (lk_q hc (by omega) hj)).trans d2.symm)
  · have a36 := A36 c hc
    have hnc : c = X → (s (36 + 7 * c)).toInt = (R : Int) := fun q => by rw [q]; exact hn
    by_cases e0 : 13 + 20 + 15 * c + i = 33 + 15 * X + 1 ∧ j = R
    · have d1 : u (13 + 20 + 15 * c + i) j = g := by rw [hu, if_neg (by omega), if_neg (by omega), if_neg (by omega), if_pos (by omega)]
      have d2 : z (86 + 10 * c + 2 * j + i) = g := by rw [hs, if_neg (by omega), if_neg (by omega), if_neg (by omega), if_neg (by omega), if_neg (by omega), if_pos (by omega)]
      exact d1.trans d2.symm
    · skip
      by_cases e1 : 13 + 20 + 15 * c + i = 33 + 15 * X + 0 ∧ j = R
      · have d1 : u (13 + 20 + 15 * c + i) j = a := by rw [hu, if_neg (by omega), if_neg (by omega), if_neg (by omega), if_neg (by omega), if_pos (by omega)]
        have d2 : z (86 + 10 * c + 2 * j + i) = a := by rw [hs, if_neg (by omega), if_neg (by omega), if_neg (by omega), if_neg (by omega), if_neg (by omega), if_neg (by omega), if_pos (by omega)]
        exact d1.trans d2.symm
      · skip
        have d1 : u (13 + 20 + 15 * c + i) j = v (13 + 20 + 15 * c + i) j := by rw [hu, if_neg (by omega), if_neg (by omega), if_neg (by omega), if_neg (by omega), if_neg (by omega), if_neg (by omega)]
        have d2 : z (86 + 10 * c + 2 * j + i) = s (86 + 10 * c + 2 * j + i) := by rw [hs, if_neg (by omega), if_neg (by omega), if_neg (by omega), if_neg (by omega), if_neg (by omega), if_neg (by omega), if_neg (by omega), if_neg (by omega)]
        exact d1.trans ((hR _ _ _ (lk_o hc (by omega) hi hj (by omega))).trans d2.symm)
  · have d1 : u (13 + 23 + 15 * c + i) j = v (13 + 23 + 15 * c + i) j := by rw [hu, if_neg (by omega), if_neg (by omega), if_neg (by omega), if_neg (by omega), if_neg (by omega), if_neg (by omega)]
    have d2 : z (308 + 48 * c + 24 * i + j) = s (308 + 48 * c + 24 * i + j) := by rw [hs, if_neg (by omega), if_neg (by omega), if_neg (by omega), if_neg (by omega), if_neg (by omega), if_neg (by omega), if_neg (by omega), if_neg (by omega)]
    exact d1.trans ((hR _ _ _ (lk_l hc (by omega) hi hj)).trans d2.symm)
  · have a38 := A38 c hc
    have d1 : u (13 + 26 + 15 * c + t) j = v (13 + 26 + 15 * c + t) j := by rw [hu, if_neg (by omega), if_neg (by omega), if_neg (by omega), if_neg (by omega), if_neg (by omega), if_neg (by omega)]
    have d2 : z (158 + 25 * c + 5 * t + j) = s (158 + 25 * c + 5 * t + j) := by rw [hs, if_neg (by omega), if_neg (by omega), if_neg (by omega), if_neg (by omega), if_neg (by omega), if_neg (by omega), if_neg (by omega), if_neg (by omega)]
    exact d1.trans ((hR _ _ _ (lk_t hc (by omega) ht (by omega) hj)).trans d2.symm)

set_option maxHeartbeats 4000000 in
theorem RX_box0 {v u : Nat → Nat → Int32} {s z : Nat → Int32} {X : Nat} {x : Int32} (hX : X < 6) (hx : 0 ≤ x.toInt ∧ x.toInt ≤ 100) (hu : ∀ k j : Nat, u k j = if k = 31 + 15 * X ∧ j = 0 then x else v k j) (hs : ∀ n : Nat, z n = if n = 74 + 2 * X then x else s n) (h : RX 13 v s) : RX 13 u z := by
  intro c hc hac
  have a2 : z 2 = s 2 := by rw [hs, if_neg (by omega)]
  have hh := h c hc (by rw [a2] at hac; exact hac)
  by_cases hq : c = X
  · subst hq
    have g0 : u (13 + 16 + 15 * c) 1 = v (13 + 16 + 15 * c) 1 := by rw [hu, if_neg (by omega)]
    have g1 : u (13 + 18 + 15 * c) 0 = x := by rw [hu, if_pos (by omega)]
    have g2 : u (13 + 18 + 15 * c) 1 = v (13 + 18 + 15 * c) 1 := by rw [hu, if_neg (by omega)]
    have g3 : z (34 + 7 * c) = s (34 + 7 * c) := by rw [hs, if_neg (by omega)]
    have g4 : z (35 + 7 * c) = s (35 + 7 * c) := by rw [hs, if_neg (by omega)]
    have g5 : z (74 + 2 * c) = x := by rw [hs, if_pos (by omega)]
    have g6 : z (75 + 2 * c) = s (75 + 2 * c) := by rw [hs, if_neg (by omega)]
    rw [g0, g1, g2, g3, g4, g5, g6]
    obtain ⟨r1, r2, r3, r4⟩ := hh
    exact ⟨r1, r2, r3, fun q => ⟨Or.inr ⟨hx.1, hx.2, rfl⟩, (r4 q).2⟩⟩
  · have d1 : u (13 + 16 + 15 * c) 1 = v (13 + 16 + 15 * c) 1 := by rw [hu, if_neg (by omega)]
    have d2 : u (13 + 18 + 15 * c) 0 = v (13 + 18 + 15 * c) 0 := by rw [hu, if_neg (by omega)]
    have d3 : u (13 + 18 + 15 * c) 1 = v (13 + 18 + 15 * c) 1 := by rw [hu, if_neg (by omega)]
    have f0 : z (34 + 7 * c) = s (34 + 7 * c) := by rw [hs, if_neg (by omega)]
    have f1 : z (35 + 7 * c) = s (35 + 7 * c) := by rw [hs, if_neg (by omega)]
    have f2 : z (74 + 2 * c) = s (74 + 2 * c) := by rw [hs, if_neg (by omega)]
    have f3 : z (75 + 2 * c) = s (75 + 2 * c) := by rw [hs, if_neg (by omega)]
    rw [d1, d2, d3, f0, f1, f2, f3]
    exact hh

set_option maxHeartbeats 4000000 in
theorem RX_no0 {v u : Nat → Nat → Int32} {s z : Nat → Int32} {X R : Nat} {x y g a : Int32} (hX : X < 6) (hR5 : R < 5) (hu : ∀ k j : Nat, u k j = if k = 31 + 15 * X ∧ j = 1 then -1 else if k = 31 + 15 * X ∧ j = 0 then -1 else if k = 29 + 15 * X ∧ j = 2 then y else if k = 33 + 15 * X + 1 ∧ j = R then g else if k = 33 + 15 * X + 0 ∧ j = R then a else if k = 31 + 15 * X ∧ j = 0 then x else v k j) (hs : ∀ n : Nat, z n = if n = 75 + 2 * X then -5 else if n = 74 + 2 * X then -5 else if n = 36 + 7 * X then y else if n = 87 + 10 * X + 2 * R then g else if n = 86 + 10 * X + 2 * R then a else if n = 74 + 2 * X then x else s n) (h : RX 13 v s) : RX 13 u z := by
  intro c hc hac
  have a2 : z 2 = s 2 := by rw [hs, if_neg (by omega), if_neg (by omega), if_neg (by omega), if_neg (by omega), if_neg (by omega), if_neg (by omega)]
  have hh := h c hc (by rw [a2] at hac; exact hac)
  by_cases hq : c = X
  · subst hq
    have g0 : u (13 + 16 + 15 * c) 1 = v (13 + 16 + 15 * c) 1 := by rw [hu, if_neg (by omega), if_neg (by omega), if_neg (by omega), if_neg (by omega), if_neg (by omega), if_neg (by omega)]
    have g1 : u (13 + 18 + 15 * c) 0 = -1 := by rw [hu, if_neg (by omega), if_pos (by omega)]
    have g2 : u (13 + 18 + 15 * c) 1 = -1 := by rw [hu, if_pos (by omega)]
    have g3 : z (34 + 7 * c) = s (34 + 7 * c) := by rw [hs, if_neg (by omega), if_neg (by omega), if_neg (by omega), if_neg (by omega), if_neg (by omega), if_neg (by omega)]
    have g4 : z (35 + 7 * c) = s (35 + 7 * c) := by rw [hs, if_neg (by omega), if_neg (by omega), if_neg (by omega), if_neg (by omega), if_neg (by omega), if_neg (by omega)]
    have g5 : z (74 + 2 * c) = -5 := by rw [hs, if_neg (by omega), if_pos (by omega)]
    have g6 : z (75 + 2 * c) = -5 := by rw [hs, if_pos (by omega)]
    rw [g0, g1, g2, g3, g4, g5, g6]
    obtain ⟨r1, r2, r3, r4⟩ := hh
    exact ⟨r1, r2, r3, fun q => ⟨Or.inl ⟨by decide, by decide⟩, Or.inl ⟨by decide, by decide⟩⟩⟩
  · have d1 : u (13 + 16 + 15 * c) 1 = v (13 + 16 + 15 * c) 1 := by rw [hu, if_neg (by omega), if_neg (by omega), if_neg (by omega), if_neg (by omega), if_neg (by omega), if_neg (by omega)]
    have d2 : u (13 + 18 + 15 * c) 0 = v (13 + 18 + 15 * c) 0 := by rw [hu, if_neg (by omega), if_neg (by omega), if_neg (by omega), if_neg (by omega), if_neg (by omega), if_neg (by omega)]
    have d3 : u (13 + 18 + 15 * c) 1 = v (13 + 18 + 15 * c) 1 := by rw [hu, if_neg (by omega), if_neg (by omega), if_neg (by omega), if_neg (by omega), if_neg (by omega), if_neg (by omega)]
    have f0 : z (34 + 7 * c) = s (34 + 7 * c) := by rw [hs, if_neg (by omega), if_neg (by omega), if_neg (by omega), if_neg (by omega), if_neg (by omega), if_neg (by omega)]
    have f1 : z (35 + 7 * c) = s (35 + 7 * c) := by rw [hs, if_neg (by omega), if_neg (by omega), if_neg (by omega), if_neg (by omega), if_neg (by omega), if_neg (by omega)]
    have f2 : z (74 + 2 * c) = s (74 + 2 * c) := by rw [hs, if_neg (by omega), if_neg (by omega), if_neg (by omega), if_neg (by omega), if_neg (by omega), if_neg (by omega)]
    have f3 : z (75 + 2 * c) = s (75 + 2 * c) := by rw [hs, if_neg (by omega), if_neg (by omega), if_neg (by omega), if_neg (by omega), if_neg (by omega), if_neg (by omega)]
    rw [d1, d2, d3, f0, f1, f2, f3]
    exact hh

set_option maxHeartbeats 4000000 in
theorem RX_yes0 {v u : Nat → Nat → Int32} {s z : Nat → Int32} {X R : Nat} {x y g a w : Int32} (hX : X < 6) (hR5 : R < 5) (hu : ∀ k j : Nat, u k j = if k = 29 + 15 * X ∧ j = 1 then w else if k = 29 + 15 * X ∧ j = 0 then 1 else if k = 29 + 15 * X ∧ j = 2 then y else if k = 33 + 15 * X + 1 ∧ j = R then g else if k = 33 + 15 * X + 0 ∧ j = R then a else if k = 31 + 15 * X ∧ j = 0 then x else v k j) (hs : ∀ n : Nat, z n = if n = 35 + 7 * X then w else if n = 34 + 7 * X then 1 else if n = 75 + 2 * X then -5 else if n = 74 + 2 * X then -5 else if n = 36 + 7 * X then y else if n = 87 + 10 * X + 2 * R then g else if n = 86 + 10 * X + 2 * R then a else if n = 74 + 2 * X then x else s n) (h : RX 13 v s) : RX 13 u z := by
  intro c hc hac
  have a2 : z 2 = s 2 := by rw [hs, if_neg (by omega), if_neg (by omega), if_neg (by omega), if_neg (by omega), if_neg (by omega), if_neg (by omega), if_neg (by omega), if_neg (by omega)]
  have hh := h c hc (by rw [a2] at hac; exact hac)
  by_cases hq : c = X
  · subst hq
    have g0 : u (13 + 16 + 15 * c) 1 = w := by rw [hu, if_pos (by omega)]
    have g1 : u (13 + 18 + 15 * c) 0 = x := by rw [hu, if_neg (by omega), if_neg (by omega), if_neg (by omega), if_neg (by omega), if_neg (by omega), if_pos (by omega)]
    have g2 : u (13 + 18 + 15 * c) 1 = v (13 + 18 + 15 * c) 1 := by rw [hu, if_neg (by omega), if_neg (by omega), if_neg (by omega), if_neg (by omega), if_neg (by omega), if_neg (by omega)]
    have g3 : z (34 + 7 * c) = 1 := by rw [hs, if_neg (by omega), if_pos (by omega)]
    have g4 : z (35 + 7 * c) = w := by rw [hs, if_pos (by omega)]
    have g5 : z (74 + 2 * c) = -5 := by rw [hs, if_neg (by omega), if_neg (by omega), if_neg (by omega), if_pos (by omega)]
    have g6 : z (75 + 2 * c) = -5 := by rw [hs, if_neg (by omega), if_neg (by omega), if_pos (by omega)]
    rw [g0, g1, g2, g3, g4, g5, g6]
    have k1 : (1 : Int32).toInt = 1 := by decide
    exact ⟨by omega, fun _ => rfl, fun q => absurd k1 q, fun q => absurd q (by omega)⟩
  · have d1 : u (13 + 16 + 15 * c) 1 = v (13 + 16 + 15 * c) 1 := by rw [hu, if_neg (by omega), if_neg (by omega), if_neg (by omega), if_neg (by omega), if_neg (by omega), if_neg (by omega)]
    have d2 : u (13 + 18 + 15 * c) 0 = v (13 + 18 + 15 * c) 0 := by rw [hu, if_neg (by omega), if_neg (by omega), if_neg (by omega), if_neg (by omega), if_neg (by omega), if_neg (by omega)]
    have d3 : u (13 + 18 + 15 * c) 1 = v (13 + 18 + 15 * c) 1 := by rw [hu, if_neg (by omega), if_neg (by omega), if_neg (by omega), if_neg (by omega), if_neg (by omega), if_neg (by omega)]
    have f0 : z (34 + 7 * c) = s (34 + 7 * c) := by rw [hs, if_neg (by omega), if_neg (by omega), if_neg (by omega), if_neg (by omega), if_neg (by omega), if_neg (by omega), if_neg (by omega), if_neg (by omega)]
    have f1 : z (35 + 7 * c) = s (35 + 7 * c) := by rw [hs, if_neg (by omega), if_neg (by omega), if_neg (by omega), if_neg (by omega), if_neg (by omega), if_neg (by omega), if_neg (by omega), if_neg (by omega)]
    have f2 : z (74 + 2 * c) = s (74 + 2 * c) := by rw [hs, if_neg (by omega), if_neg (by omega), if_neg (by omega), if_neg (by omega), if_neg (by omega), if_neg (by omega), if_neg (by omega), if_neg (by omega)]
    have f3 : z (75 + 2 * c) = s (75 + 2 * c) := by rw [hs, if_neg (by omega), if_neg (by omega), if_neg (by omega), if_neg (by omega), if_neg (by omega), if_neg (by omega), if_neg (by omega), if_neg (by omega)]
    rw [d1, d2, d3, f0, f1, f2, f3]
    exact hh

set_option maxHeartbeats 4000000 in
theorem T_offer_0 {n r r2 x0 x1 : Int32} {v u v2 u2 : Nat → Nat → Int32} (hI : Iv v) (hQ : Ir v2) (h : RR n v v2) (p : (¬ ((0 ≤ x0.toInt ∧ x0.toInt < (v 13 2).toInt) ∧ 0 ≤ x1.toInt ∧ x1.toInt ≤ 100) → r = -1 ∧ u = v) ∧ (((0 ≤ x0.toInt ∧ x0.toInt < (v 13 2).toInt) ∧ 0 ≤ x1.toInt ∧ x1.toInt ≤ 100) ∧ (v (29 + 15 * x0.toNatClampNeg) 0).toInt ≠ 0 → r = -4 ∧ u = v) ∧ (((0 ≤ x0.toInt ∧ x0.toInt < (v 13 2).toInt) ∧ 0 ≤ x1.toInt ∧ x1.toInt ≤ 100) ∧ (v (29 + 15 * x0.toNatClampNeg) 0).toInt = 0 ∧ (v (31 + 15 * x0.toNatClampNeg) 0).toInt ≠ -1 → r = -3 ∧ u = v) ∧ (((0 ≤ x0.toInt ∧ x0.toInt < (v 13 2).toInt) ∧ 0 ≤ x1.toInt ∧ x1.toInt ≤ 100) ∧ (v (29 + 15 * x0.toNatClampNeg) 0).toInt = 0 ∧ (v (31 + 15 * x0.toNatClampNeg) 0).toInt = -1 ∧ 5 ≤ (v (29 + 15 * x0.toNatClampNeg) 2).toInt → r = -2 ∧ u = v) ∧ (((0 ≤ x0.toInt ∧ x0.toInt < (v 13 2).toInt) ∧ 0 ≤ x1.toInt ∧ x1.toInt ≤ 100) ∧ (v (29 + 15 * x0.toNatClampNeg) 0).toInt = 0 ∧ (v (31 + 15 * x0.toNatClampNeg) 0).toInt = -1 ∧ (v (29 + 15 * x0.toNatClampNeg) 2).toInt < 5 ∧ (v (31 + 15 * x0.toNatClampNeg) 1).toInt = -1 → r = 0 ∧ (∀ k j : Nat, u k j = if k = 31 + 15 * x0.toNatClampNeg ∧ j = 0 then x1 else v k j)) ∧ (((0 ≤ x0.toInt ∧ x0.toInt < (v 13 2).toInt) ∧ 0 ≤ x1.toInt ∧ x1.toInt ≤ 100) ∧ (v (29 + 15 * x0.toNatClampNeg) 0).toInt = 0 ∧ (v (31 + 15 * x0.toNatClampNeg) 0).toInt = -1 ∧ (v (29 + 15 * x0.toNatClampNeg) 2).toInt < 5 ∧ (v (31 + 15 * x0.toNatClampNeg) 1).toInt ≠ -1 ∧ (v (31 + 15 * x0.toNatClampNeg) 1).toInt < x1.toInt → r = 2 ∧ (∀ k j : Nat, u k j = if k = 31 + 15 * x0.toNatClampNeg ∧ j = 1 then -1 else if k = 31 + 15 * x0.toNatClampNeg ∧ j = 0 then -1 else if k = 29 + 15 * x0.toNatClampNeg ∧ j = 2 then v (29 + 15 * x0.toNatClampNeg) 2 + 1 else if k = 33 + 15 * x0.toNatClampNeg + 1 ∧ j = (v (29 + 15 * x0.toNatClampNeg) 2).toNatClampNeg then v (31 + 15 * x0.toNatClampNeg) 1 else if k = 33 + 15 * x0.toNatClampNeg + 0 ∧ j = (v (29 + 15 * x0.toNatClampNeg) 2).toNatClampNeg then x1 else if k = 31 + 15 * x0.toNatClampNeg ∧ j = 0 then x1 else v k j)) ∧ (((0 ≤ x0.toInt ∧ x0.toInt < (v 13 2).toInt) ∧ 0 ≤ x1.toInt ∧ x1.toInt ≤ 100) ∧ (v (29 + 15 * x0.toNatClampNeg) 0).toInt = 0 ∧ (v (31 + 15 * x0.toNatClampNeg) 0).toInt = -1 ∧ (v (29 + 15 * x0.toNatClampNeg) 2).toInt < 5 ∧ (v (31 + 15 * x0.toNatClampNeg) 1).toInt ≠ -1 ∧ x1.toInt ≤ (v (31 + 15 * x0.toNatClampNeg) 1).toInt → r = 1 ∧ (∀ k j : Nat, u k j = if k = 29 + 15 * x0.toNatClampNeg ∧ j = 1 then (x1 + v (31 + 15 * x0.toNatClampNeg) 1) / 2 else if k = 29 + 15 * x0.toNatClampNeg ∧ j = 0 then 1 else if k = 29 + 15 * x0.toNatClampNeg ∧ j = 2 then v (29 + 15 * x0.toNatClampNeg) 2 + 1 else if k = 33 + 15 * x0.toNatClampNeg + 1 ∧ j = (v (29 + 15 * x0.toNatClampNeg) 2).toNatClampNeg then v (31 + 15 * x0.toNatClampNeg) 1 else if k = 33 + 15 * x0.toNatClampNeg + 0 ∧ j = (v (29 + 15 * x0.toNatClampNeg) 2).toNatClampNeg then x1 else if k = 31 + 15 * x0.toNatClampNeg ∧ j = 0 then x1 else v k j))) (q : (¬ ((0 ≤ x0.toInt ∧ x0.toInt < (v2 1 2).toInt) ∧ 0 ≤ x1.toInt ∧ x1.toInt ≤ 100) → r2 = -1 ∧ u2 = v2) ∧ (((0 ≤ x0.toInt ∧ x0.toInt < (v2 1 2).toInt) ∧ 0 ≤ x1.toInt ∧ x1.toInt ≤ 100) ∧ (v2 1 (34 + 7 * x0.toNatClampNeg)).toInt ≠ 0 → r2 = -4 ∧ u2 = v2) ∧ (((0 ≤ x0.toInt ∧ x0.toInt < (v2 1 2).toInt) ∧ 0 ≤ x1.toInt ∧ x1.toInt ≤ 100) ∧ (v2 1 (34 + 7 * x0.toNatClampNeg)).toInt = 0 ∧ 0 ≤ (v2 1 (74 + 2 * x0.toNatClampNeg)).toInt → r2 = -3 ∧ u2 = v2) ∧ (((0 ≤ x0.toInt ∧ x0.toInt < (v2 1 2).toInt) ∧ 0 ≤ x1.toInt ∧ x1.toInt ≤ 100) ∧ (v2 1 (34 + 7 * x0.toNatClampNeg)).toInt = 0 ∧ (v2 1 (74 + 2 * x0.toNatClampNeg)).toInt < 0 ∧ (v2 1 (36 + 7 * x0.toNatClampNeg)).toInt = 5 → r2 = -2 ∧ u2 = v2) ∧ (((0 ≤ x0.toInt ∧ x0.toInt < (v2 1 2).toInt) ∧ 0 ≤ x1.toInt ∧ x1.toInt ≤ 100) ∧ (v2 1 (34 + 7 * x0.toNatClampNeg)).toInt = 0 ∧ (v2 1 (74 + 2 * x0.toNatClampNeg)).toInt < 0 ∧ (v2 1 (36 + 7 * x0.toNatClampNeg)).toInt ≠ 5 ∧ (v2 1 (75 + 2 * x0.toNatClampNeg)).toInt < 0 → r2 = 0 ∧ (∀ n : Nat, u2 1 n = if n = 74 + 2 * x0.toNatClampNeg then x1 else v2 1 n) ∧ (∀ k : Nat, k ≠ 1 → u2 k = v2 k)) ∧ (((0 ≤ x0.toInt ∧ x0.toInt < (v2 1 2).toInt) ∧ 0 ≤ x1.toInt ∧ x1.toInt ≤ 100) ∧ (v2 1 (34 + 7 * x0.toNatClampNeg)).toInt = 0 ∧ (v2 1 (74 + 2 * x0.toNatClampNeg)).toInt < 0 ∧ (v2 1 (36 + 7 * x0.toNatClampNeg)).toInt ≠ 5 ∧ 0 ≤ (v2 1 (75 + 2 * x0.toNatClampNeg)).toInt ∧ (v2 1 (75 + 2 * x0.toNatClampNeg)).toInt < x1.toInt → r2 = 2 ∧ (∀ n : Nat, u2 1 n = if n = 75 + 2 * x0.toNatClampNeg then -5 else if n = 74 + 2 * x0.toNatClampNeg then -5 else if n = 36 + 7 * x0.toNatClampNeg then v2 1 (36 + 7 * x0.toNatClampNeg) + 1 else if n = 87 + 10 * x0.toNatClampNeg + 2 * (v2 1 (36 + 7 * x0.toNatClampNeg)).toNatClampNeg then v2 1 (75 + 2 * x0.toNatClampNeg) else if n = 86 + 10 * x0.toNatClampNeg + 2 * (v2 1 (36 + 7 * x0.toNatClampNeg)).toNatClampNeg then x1 else if n = 74 + 2 * x0.toNatClampNeg then x1 else v2 1 n) ∧ (∀ k : Nat, k ≠ 1 → u2 k = v2 k)) ∧ (((0 ≤ x0.toInt ∧ x0.toInt < (v2 1 2).toInt) ∧ 0 ≤ x1.toInt ∧ x1.toInt ≤ 100) ∧ (v2 1 (34 + 7 * x0.toNatClampNeg)).toInt = 0 ∧ (v2 1 (74 + 2 * x0.toNatClampNeg)).toInt < 0 ∧ (v2 1 (36 + 7 * x0.toNatClampNeg)).toInt ≠ 5 ∧ 0 ≤ (v2 1 (75 + 2 * x0.toNatClampNeg)).toInt ∧ x1.toInt ≤ (v2 1 (75 + 2 * x0.toNatClampNeg)).toInt → r2 = 1 ∧ (∀ n : Nat, u2 1 n = if n = 35 + 7 * x0.toNatClampNeg then (x1 + v2 1 (75 + 2 * x0.toNatClampNeg)) / 2 else if n = 34 + 7 * x0.toNatClampNeg then 1 else if n = 75 + 2 * x0.toNatClampNeg then -5 else if n = 74 + 2 * x0.toNatClampNeg then -5 else if n = 36 + 7 * x0.toNatClampNeg then v2 1 (36 + 7 * x0.toNatClampNeg) + 1 else if n = 87 + 10 * x0.toNatClampNeg + 2 * (v2 1 (36 + 7 * x0.toNatClampNeg)).toNatClampNeg then v2 1 (75 + 2 * x0.toNatClampNeg) else if n = 86 + 10 * x0.toNatClampNeg + 2 * (v2 1 (36 + 7 * x0.toNatClampNeg)).toNatClampNeg then x1 else if n = 74 + 2 * x0.toNatClampNeg then x1 else v2 1 n) ∧ (∀ k : Nat, k ≠ 1 → u2 k = v2 k))) : r = r2 ∧ RR n u u2 := by
  have e0 : v 13 0 = v2 1 0 := h.1.1 _ _ _ (lk_a (by decide))
  have e1 : v 13 1 = v2 1 1 := h.1.1 _ _ _ (lk_a (by decide))
  have e2 : v 13 2 = v2 1 2 := h.1.1 _ _ _ (lk_a (by decide))
  have e3 : v 13 3 = v2 1 3 := h.1.1 _ _ _ (lk_a (by decide))
  have hb0 := hQ 1 0 8 (by decide)
  have hb1 := hQ 1 1 4 (by decide)
  have hb2 := hQ 1 2 6 (by decide)
  have hb3 := hQ 1 3 6 (by decide)
  rw [e2] at p
  by_cases hC : (0 ≤ x0.toInt ∧ x0.toInt < (v2 1 2).toInt) ∧ 0 ≤ x1.toInt ∧ x1.toInt ≤ 100
  · have zX := t_nn (x := x0) (by omega)
    have hX : x0.toNatClampNeg < 6 := by omega
    have ha : (x0.toNatClampNeg : Int) < (v2 1 2).toInt := by omega
    have ev : v (29 + 15 * x0.toNatClampNeg) 0 = v2 1 (34 + 7 * x0.toNatClampNeg) := h.1.1 _ _ _ (lk_c0 hX ha)
    have ew : v (29 + 15 * x0.toNatClampNeg) 2 = v2 1 (36 + 7 * x0.toNatClampNeg) := h.1.1 _ _ _ (lk_c2 hX ha)
    rw [ev, ew] at p
    have hb := hQ 1 (36 + 7 * x0.toNatClampNeg) 5 (bS_c (by omega) (by omega))
    by_cases hD : (v2 1 (34 + 7 * x0.toNatClampNeg)).toInt = 0
    · obtain ⟨hx0, hx1⟩ := (h.1.2.1 _ hX ha).2.2.2 hD
      have hbx : bxr (v (31 + 15 * x0.toNatClampNeg) 0) (v2 1 (74 + 2 * x0.toNatClampNeg)) := hx0
      have hbo : bxr (v (31 + 15 * x0.toNatClampNeg) 1) (v2 1 (75 + 2 * x0.toNatClampNeg)) := hx1
      rcases hbx with ⟨t1, t2⟩ | ⟨t1, t2, t3⟩
      · by_cases hE : (v2 1 (36 + 7 * x0.toNatClampNeg)).toInt = 5
        · obtain ⟨p1, p2⟩ := p.2.2.2.1 ⟨hC, hD, t1, by omega⟩
          obtain ⟨q1, q2⟩ := q.2.2.2.1 ⟨hC, hD, t2, hE⟩
          rw [p1, q1, p2, q2]
          exact ⟨rfl, h⟩
        · rcases hbo with ⟨o1, o2⟩ | ⟨o1, o2, o3⟩
          · obtain ⟨p1, p2⟩ := p.2.2.2.2.1 ⟨hC, hD, t1, by omega, o1⟩
            obtain ⟨q1, q2, q3⟩ := q.2.2.2.2.1 ⟨hC, hD, t2, hE, o2⟩
            exact ⟨by rw [p1, q1], h.wr q3 (funext fun j => by rw [p2, if_neg (by omega)]) (fun k hk => funext fun j => by rw [p2, if_neg (by omega)]) ⟨RL_box0 hX p2 q2 h.1.1, RX_box0 hX hC.2 p2 q2 h.1.2.1, h.1.2.2.1.cg (by rw [q2, if_neg (by omega)]) (by rw [q2, if_neg (by omega)]) (fun m hm => by rw [q2, if_neg (by omega)]), h.1.2.2.2.cg hb3.2 (by rw [q2, if_neg (by omega)]) (by rw [q2, if_neg (by omega)]) (fun n h1 h2 => by rw [q2, if_neg (by omega)]) (fun c hc => by rw [p2, if_neg (by omega)])⟩⟩
          · rw [o3] at p
            have zR := t_nn (x := v2 1 (36 + 7 * x0.toNatClampNeg)) (by omega)
            have k1 : (1 : Int32).toInt = 1 := by decide
            have hx : (v2 1 (36 + 7 * x0.toNatClampNeg) + 1).toInt = (v2 1 (36 + 7 * x0.toNatClampNeg)).toInt + 1 := by rw [t_add (by rw [k1]; omega), k1]
            rcases Int.lt_or_le (v2 1 (75 + 2 * x0.toNatClampNeg)).toInt x1.toInt with hL | hL
            · obtain ⟨p1, p2⟩ := p.2.2.2.2.2.1 ⟨hC, hD, t1, by omega, by omega, hL⟩
              obtain ⟨q1, q2, q3⟩ := q.2.2.2.2.2.1 ⟨hC, hD, t2, hE, o1, hL⟩
              exact ⟨by rw [p1, q1], h.wr q3 (funext fun j => by rw [p2, if_neg (by omega), if_neg (by omega), if_neg (by omega), if_neg (by omega), if_neg (by omega), if_neg (by omega)]) (fun k hk => funext fun j => by rw [p2, if_neg (by omega), if_neg (by omega), if_neg (by omega), if_neg (by omega), if_neg (by omega), if_neg (by omega)]) ⟨RL_no0 hX (by omega) (by omega) hx p2 q2 h.1.1, RX_no0 hX (by omega) p2 q2 h.1.2.1, h.1.2.2.1.cg (by rw [q2, if_neg (by omega), if_neg (by omega), if_neg (by omega), if_neg (by omega), if_neg (by omega), if_neg (by omega)]) (by rw [q2, if_neg (by omega), if_neg (by omega), if_neg (by omega), if_neg (by omega), if_neg (by omega), if_neg (by omega)]) (fun m hm => by rw [q2, if_neg (by omega), if_neg (by omega), if_neg (by omega), if_neg (by omega), if_neg (by omega), if_neg (by omega)]), h.1.2.2.2.cg hb3.2 (by rw [q2, if_neg (by omega), if_neg (by omega), if_neg (by omega), if_neg (by omega), if_neg (by omega), if_neg (by omega)]) (by rw [q2, if_neg (by omega), if_neg (by omega), if_neg (by omega), if_neg (by omega), if_neg (by omega), if_neg (by omega)]) (fun n h1 h2 => by rw [q2, if_neg (by omega), if_neg (by omega), if_neg (by omega), if_neg (by omega), if_neg (by omega), if_neg (by omega)]) (fun c hc => by rw [p2, if_neg (by omega), if_neg (by omega), if_neg (by omega), if_neg (by omega), if_neg (by omega), if_neg (by omega)])⟩⟩
            · obtain ⟨p1, p2⟩ := p.2.2.2.2.2.2 ⟨hC, hD, t1, by omega, by omega, hL⟩
              obtain ⟨q1, q2, q3⟩ := q.2.2.2.2.2.2 ⟨hC, hD, t2, hE, o1, hL⟩
              exact ⟨by rw [p1, q1], h.wr q3 (funext fun j => by rw [p2, if_neg (by omega), if_neg (by omega), if_neg (by omega), if_neg (by omega), if_neg (by omega), if_neg (by omega)]) (fun k hk => funext fun j => by rw [p2, if_neg (by omega), if_neg (by omega), if_neg (by omega), if_neg (by omega), if_neg (by omega), if_neg (by omega)]) ⟨RL_yes0 hX (by omega) (by omega) hx p2 q2 h.1.1, RX_yes0 hX (by omega) p2 q2 h.1.2.1, h.1.2.2.1.cg (by rw [q2, if_neg (by omega), if_neg (by omega), if_neg (by omega), if_neg (by omega), if_neg (by omega), if_neg (by omega), if_neg (by omega), if_neg (by omega)]) (by rw [q2, if_neg (by omega), if_neg (by omega), if_neg (by omega), if_neg (by omega), if_neg (by omega), if_neg (by omega), if_neg (by omega), if_neg (by omega)]) (fun m hm => by rw [q2, if_neg (by omega), if_neg (by omega), if_neg (by omega), if_neg (by omega), if_neg (by omega), if_neg (by omega), if_neg (by omega), if_neg (by omega)]), h.1.2.2.2.cg hb3.2 (by rw [q2, if_neg (by omega), if_neg (by omega), if_neg (by omega), if_neg (by omega), if_neg (by omega), if_neg (by omega), if_neg (by omega), if_neg (by omega)]) (by rw [q2, if_neg (by omega), if_neg (by omega), if_neg (by omega), if_neg (by omega), if_neg (by omega), if_neg (by omega), if_neg (by omega), if_neg (by omega)]) (fun n h1 h2 => by rw [q2, if_neg (by omega), if_neg (by omega), if_neg (by omega), if_neg (by omega), if_neg (by omega), if_neg (by omega), if_neg (by omega), if_neg (by omega)]) (fun c hc => by rw [p2, if_neg (by omega), if_neg (by omega), if_neg (by omega), if_neg (by omega), if_neg (by omega), if_neg (by omega)])⟩⟩
      · rw [t3] at p
        obtain ⟨p1, p2⟩ := p.2.2.1 ⟨hC, hD, by omega⟩
        obtain ⟨q1, q2⟩ := q.2.2.1 ⟨hC, hD, t1⟩
        rw [p1, q1, p2, q2]
        exact ⟨rfl, h⟩
    · obtain ⟨p1, p2⟩ := p.2.1 ⟨hC, hD⟩
      obtain ⟨q1, q2⟩ := q.2.1 ⟨hC, hD⟩
      rw [p1, q1, p2, q2]
      exact ⟨rfl, h⟩
  · obtain ⟨p1, p2⟩ := p.1 hC
    obtain ⟨q1, q2⟩ := q.1 hC
    rw [p1, q1, p2, q2]
    exact ⟨rfl, h⟩

set_option maxHeartbeats 4000000 in
theorem RL_box1 {v u : Nat → Nat → Int32} {s z : Nat → Int32} {X : Nat} {x : Int32} (hX : X < 6) (hu : ∀ k j : Nat, u k j = if k = 31 + 15 * X ∧ j = 1 then x else v k j) (hs : ∀ n : Nat, z n = if n = 75 + 2 * X then x else s n) (hR : RLk 13 v s) : RLk 13 u z := by
  have A0 : (z 0).toInt = (s 0).toInt := by rw [hs, if_neg (by omega)]
  have A1 : (z 1).toInt = (s 1).toInt := by rw [hs, if_neg (by omega)]
  have A2 : (z 2).toInt = (s 2).toInt := by rw [hs, if_neg (by omega)]
  have A36 : ∀ c : Nat, c < 6 → (z (36 + 7 * c)).toInt = (s (36 + 7 * c)).toInt := fun c hc => by rw [hs, if_neg (by omega)]
  have A38 : ∀ c : Nat, c < 6 → (z (38 + 7 * c)).toInt = (s (38 + 7 * c)).toInt := fun c hc => by rw [hs, if_neg (by omega)]
  intro k j n h
  unfold lk at h
  rcases h with ⟨rfl, hj, rfl⟩ | ⟨p, hp, ha, hj, rfl, rfl⟩ | ⟨m, hm, ha, hj, rfl, rfl⟩ | ⟨m, hm, ha, rfl, rfl, rfl⟩ | ⟨c, hc, ha, rfl, rfl, rfl⟩ | ⟨c, hc, ha, rfl, rfl, rfl⟩ | ⟨c, hc, ha, rfl, rfl, rfl⟩ | ⟨c, hc, ha, rfl, rfl, rfl⟩ | ⟨c, hc, ha, hj, rfl, rfl⟩ | ⟨c, i, hc, ha, hi, hj, hr, rfl, rfl⟩ | ⟨c, i, hc, ha, hi, hj, rfl, rfl⟩ | ⟨c, t, hc, ha, ht, hr, hj, rfl, rfl⟩
  · have d1 : u (13) n = v (13) n := by rw [hu, if_neg (by omega)]
    have d2 : z (n) = s (n) := by rw [hs, if_neg (by omega)]
    exact d1.trans ((hR _ _ _ (lk_a hj)).trans d2.symm)
  · have d1 : u (13 + 4 + p) j = v (13 + 4 + p) j := by rw [hu, if_neg (by omega)]
    have d2 : z (4 + 2 * p + j) = s (4 + 2 * p + j) := by rw [hs, if_neg (by omega)]
    exact d1.trans ((hR _ _ _ (lk_p hp (by omega) hj)).trans d2.symm)
  · have d1 : u (13 + 12 + m) j = v (13 + 12 + m) j := by rw [hu, if_neg (by omega)]
    have d2 : z (20 + 2 * m + j) = s (20 + 2 * m + j) := by rw [hs, if_neg (by omega)]
    exact d1.trans ((hR _ _ _ (lk_m hm (by omega) hj)).trans d2.symm)
  · have d1 : u (13 + 12 + m) 2 = v (13 + 12 + m) 2 := by rw [hu, if_neg (by omega)]
    have d2 : z (28 + m) = s (28 + m) := by rw [hs, if_neg (by omega)]
    exact d1.trans ((hR _ _ _ (lk_k_ hm (by omega))).trans d2.symm)
  · have d1 : u (13 + 16 + 15 * c) 0 = v (13 + 16 + 15 * c) 0 := by rw [hu, if_neg (by omega)]
    have d2 : z (34 + 7 * c) = s (34 + 7 * c) := by rw [hs, if_neg (by omega)]
    exact d1.trans ((hR _ _ _ (lk_c0 hc (by omega))).trans d2.symm)
  · have d1 : u (13 + 16 + 15 * c) 2 = v (13 + 16 + 15 * c) 2 := by rw [hu, if_neg (by omega)]
    have d2 : z (36 + 7 * c) = s (36 + 7 * c) := by rw [hs, if_neg (by omega)]
    exact d1.trans ((hR _ _ _ (lk_c2 hc (by omega))).trans d2.symm)
  · have d1 : u (13 + 16 + 15 * c) 3 = v (13 + 16 + 15 * c) 3 := by rw [hu, if_neg (by omega)]
    have d2 : z (37 + 7 * c) = s (37 + 7 * c) := by rw [hs, if_neg (by omega)]
    exact d1.trans ((hR _ _ _ (lk_c3 hc (by omega))).trans d2.symm)
  · have d1 : u (13 + 16 + 15 * c) 5 = v (13 + 16 + 15 * c) 5 := by rw [hu, if_neg (by omega)]
    have d2 : z (38 + 7 * c) = s (38 + 7 * c) := by rw [hs, if_neg (by omega)]
    exact d1.trans ((hR _ _ _ (lk_c5 hc (by omega))).trans d2.symm)
  · have d1 : u (13 + 17 + 15 * c) j = v (13 + 17 + 15 * c) j := by rw [hu, if_neg (by omega)]
    have d2 : z (32 + 7 * c + j) = s (32 + 7 * c + j) := by rw [hs, if_neg (by omega)]
    exact d1.trans ((hR _ _ _ (lk_q hc (by omega) hj)).trans d2.symm)
  · have a36 := A36 c hc
    have d1 : u (13 + 20 + 15 * c + i) j = v (13 + 20 + 15 * c + i) j := by rw [hu, if_neg (by omega)]
    have d2 : z (86 + 10 * c + 2 * j + i) = s (86 + 10 * c + 2 * j + i) := by rw [hs, if_neg (by omega)]
    exact d1.trans ((hR _ _ _ (lk_o hc (by omega) hi hj (by omega))).trans d2.symm)
  · have d1 : u (13 + 23 + 15 * c + i) j = v (13 + 23 + 15 * c + i) j := by rw [hu, if_neg (by omega)]
    have d2 : z (308 + 48 * c + 24 * i + j) = s (308 + 48 * c + 24 * i + j) := by rw [hs, if_neg (by omega)]
    exact d1.trans ((hR _ _ _ (lk_l hc (by omega) hi hj)).trans d2.symm)
  · have a38 := A38 c hc
    have d1 : u (13 + 26 + 15 * c + t) j = v (13 + 26 + 15 * c + t) j := by rw [hu, if_neg (by omega)]
    have d2 : z (158 + 25 * c + 5 * t + j) = s (158 + 25 * c + 5 * t + j) := by rw [hs, if_neg (by omega)]
    exact d1.trans ((hR _ _ _ (lk_t hc (by omega) ht (by omega) hj)).trans d2.symm)

set_option maxHeartbeats 4000000 in
theorem RL_no1 {v u : Nat → Nat → Int32} {s z : Nat → Int32} {X R : Nat} {x y g a : Int32} (hX : X < 6) (hR5 : R < 5) (hn : (s (36 + 7 * X)).toInt = (R : Int)) (hx : y.toInt = (s (36 + 7 * X)).toInt + 1) (hu : ∀ k j : Nat, u k j = if k = 31 + 15 * X ∧ j = 1 then -1 else if k = 31 + 15 * X ∧ j = 0 then -1 else if k = 29 + 15 * X ∧ j = 2 then y else if k = 33 + 15 * X + 1 ∧ j = R then g else if k = 33 + 15 * X + 0 ∧ j = R then a else if k = 31 + 15 * X ∧ j = 1 then x else v k j) (hs : ∀ n : Nat, z n = if n = 75 + 2 * X then -5 else if n = 74 + 2 * X then -5 else if n = 36 + 7 * X then y else if n = 87 + 10 * X + 2 * R then g else if n = 86 + 10 * X + 2 * R then a else if n = 75 + 2 * X then x else s n) (hR : RLk 13 v s) : RLk 13 u z := by
  have A0 : (z 0).toInt = (s 0).toInt := by rw [hs, if_neg (by omega), if_neg (by omega), if_neg (by omega), if_neg (by omega), if_neg (by omega), if_neg (by omega)]
  have A1 : (z 1).toInt = (s 1).toInt := by rw [hs, if_neg (by omega), if_neg (by omega), if_neg (by omega), if_neg (by omega), if_neg (by omega), if_neg (by omega)]
  have A2 : (z 2).toInt = (s 2).toInt := by rw [hs, if_neg (by omega), if_neg (by omega), if_neg (by omega), if_neg (by omega), if_neg (by omega), if_neg (by omega)]
  have A36 : ∀ c : Nat, c < 6 → (z (36 + 7 * c)).toInt = (s (36 + 7 * c)).toInt ∨ (c = X ∧ (z (36 + 7 * c)).toInt = (s (36 + 7 * c)).toInt + 1) := fun c hc => by by_cases q : c = X; subst q; refine Or.inr ⟨rfl, ?_⟩; rw [hs, if_neg (by omega), if_neg (by omega), if_pos rfl]; exact hx; refine Or.inl ?_; rw [hs, if_neg (by omega), if_neg (by omega), if_neg (by omega), if_neg (by omega), if_neg (by omega), if_neg (by omega)]
  have A38 : ∀ c : Nat, c < 6 → (z (38 + 7 * c)).toInt = (s (38 + 7 * c)).toInt := fun c hc => by rw [hs, if_neg (by omega), if_neg (by omega), if_neg (by omega), if_neg (by omega), if_neg (by omega), if_neg (by omega)]
  intro k j n h
  unfold lk at h
  rcases h with ⟨rfl, hj, rfl⟩ | ⟨p, hp, ha, hj, rfl, rfl⟩ | ⟨m, hm, ha, hj, rfl, rfl⟩ | ⟨m, hm, ha, rfl, rfl, rfl⟩ | ⟨c, hc, ha, rfl, rfl, rfl⟩ | ⟨c, hc, ha, rfl, rfl, rfl⟩ | ⟨c, hc, ha, rfl, rfl, rfl⟩ | ⟨c, hc, ha, rfl, rfl, rfl⟩ | ⟨c, hc, ha, hj, rfl, rfl⟩ | ⟨c, i, hc, ha, hi, hj, hr, rfl, rfl⟩ | ⟨c, i, hc, ha, hi, hj, rfl, rfl⟩ | ⟨c, t, hc, ha, ht, hr, hj, rfl, rfl⟩
  · have d1 : u (13) n = v (13) n := by rw [hu, if_neg (by omega), if_neg (by omega), if_neg (by omega), if_neg (by omega), if_neg (by omega), if_neg (by omega)]
    have d2 : z (n) = s (n) := by rw [hs, if_neg (by omega), if_neg (by omega), if_neg (by omega), if_neg (by omega), if_neg (by omega), if_neg (by omega)]
    exact d1.trans ((hR _ _ _ (lk_a hj)).trans d2.symm)
  · have d1 : u (13 + 4 + p) j = v (13 + 4 + p) j := by rw [hu, if_neg (by omega), if_neg (by omega), if_neg (by omega), if_neg (by omega), if_neg (by omega), if_neg (by omega)]
    have d2 : z (4 + 2 * p + j) = s (4 + 2 * p + j) := by rw [hs, if_neg (by omega), if_neg (by omega), if_neg (by omega), if_neg (by omega), if_neg (by omega), if_neg (by omega)]
    exact d1.trans ((hR _ _ _ (lk_p hp (by omega) hj)).trans d2.symm)
  · have d1 : u (13 + 12 + m) j = v (13 + 12 + m) j := by rw [hu, if_neg (by omega), if_neg (by omega), if_neg (by omega), if_neg (by omega), if_neg (by omega), if_neg (by omega)]
    have d2 : z (20 + 2 * m + j) = s (20 + 2 * m + j) := by rw [hs, if_neg (by omega), if_neg (by omega), if_neg (by omega), if_neg (by omega), if_neg (by omega), if_neg (by omega)]
    exact d1.trans ((hR _ _ _ (lk_m hm (by omega) hj)).trans d2.symm)
  · have d1 : u (13 + 12 + m) 2 = v (13 + 12 + m) 2 := by rw [hu, if_neg (by omega), if_neg (by omega), if_neg (by omega), if_neg (by omega), if_neg (by omega), if_neg (by omega)]
    have d2 : z (28 + m) = s (28 + m) := by rw [hs, if_neg (by omega), if_neg (by omega), if_neg (by omega), if_neg (by omega), if_neg (by omega), if_neg (by omega)]
    exact d1.trans ((hR _ _ _ (lk_k_ hm (by omega))).trans d2.symm)
  · have d1 : u (13 + 16 + 15 * c) 0 = v (13 + 16 + 15 * c) 0 := by rw [hu, if_neg (by omega), if_neg (by omega), if_neg (by omega), if_neg (by omega), if_neg (by omega), if_neg (by omega)]
    have d2 : z (34 + 7 * c) = s (34 + 7 * c) := by rw [hs, if_neg (by omega), if_neg (by omega), if_neg (by omega), if_neg (by omega), if_neg (by omega), if_neg (by omega)]
    exact d1.trans ((hR _ _ _ (lk_c0 hc (by omega))).trans d2.symm)
  · by_cases e0 : 13 + 16 + 15 * c = 29 + 15 * X ∧ 2 = 2
    · have d1 : u (13 + 16 + 15 * c) 2 = y := by rw [hu, if_neg (by omega), if_neg (by omega), if_pos (by omega)]
      have d2 : z (36 + 7 * c) = y := by rw [hs, if_neg (by omega), if_neg (by omega), if_pos (by omega)]
      exact d1.trans d2.symm
    · skip
      have d1 : u (13 + 16 + 15 * c) 2 = v (13 + 16 + 15 * c) 2 := by rw [hu, if_neg (by omega), if_neg (by omega), if_neg (by omega), if_neg (by omega), if_neg (by omega), if_neg (by omega)]
      have d2 : z (36 + 7 * c) = s (36 + 7 * c) := by rw [hs, if_neg (by omega), if_neg (by omega), if_neg (by omega), if_neg (by omega), if_neg (by omega), if_neg (by omega)]
      exact d1.trans ((hR _ _ _ (lk_c2 hc (by omega))).trans d2.symm)
  · have d1 : u (13 + 16 + 15 * c) 3 = v (13 + 16 + 15 * c) 3 := by rw [hu, if_neg (by omega), if_neg (by omega), if_neg (by omega), if_neg (by omega), if_neg (by omega), if_neg (by omega)]
    have d2 : z (37 + 7 * c) = s (37 + 7 * c) := by rw [hs, if_neg (by omega), if_neg (by omega), if_neg (by omega), if_neg (by omega), if_neg (by omega), if_neg (by omega)]
    exact d1.trans ((hR _ _ _ (lk_c3 hc (by omega))).trans d2.symm)
  · have d1 : u (13 + 16 + 15 * c) 5 = v (13 + 16 + 15 * c) 5 := by rw [hu, if_neg (by omega), if_neg (by omega), if_neg (by omega), if_neg (by omega), if_neg (by omega), if_neg (by omega)]
    have d2 : z (38 + 7 * c) = s (38 + 7 * c) := by rw [hs, if_neg (by omega), if_neg (by omega), if_neg (by omega), if_neg (by omega), if_neg (by omega), if_neg (by omega)]
    exact d1.trans ((hR _ _ _ (lk_c5 hc (by omega))).trans d2.symm)
  · have d1 : u (13 + 17 + 15 * c) j = v (13 + 17 + 15 * c) j := by rw [hu, if_neg (by omega), if_neg (by omega), if_neg (by omega), if_neg (by omega), if_neg (by omega), if_neg (by omega)]
    have d2 : z (32 + 7 * c + j) = s (32 + 7 * c + j) := by rw [hs, if_neg (by omega), if_neg (by omega), if_neg (by omega), if_neg (by omega), if_neg (by omega), if_neg (by omega)]
    exact d1.trans ((hR _ _ _ (lk_q hc (by omega) hj)).trans d2.symm)
  · have a36 := A36 c hc
    have hnc : c = X → (s (36 + 7 * c)).toInt = (R : Int) := fun q => by rw [q]; exact hn
    by_cases e0 : 13 + 20 + 15 * c + i = 33 + 15 * X + 1 ∧ j = R
    · have d1 : u (13 + 20 + 15 * c + i) j = g := by rw [hu, if_neg (by omega), if_neg (by omega), if_neg (by omega), if_pos (by omega)]
      have d2 : z (86 + 10 * c + 2 * j + i) = g := by rw [hs, if_neg (by omega), if_neg (by omega), if_neg (by omega), if_pos (by omega)]
      exact d1.trans d2.symm
    · skip
      by_cases e1 : 13 + 20 + 15 * c + i = 33 + 15 * X + 0 ∧ j = R
      · have d1 : u (13 + 20 + 15 * c + i) j = a := by rw [hu, if_neg (by omega), if_neg (by omega), if_neg (by omega), if_neg (by omega), if_pos (by omega)]
        have d2 : z (86 + 10 * c + 2 * j + i) = a := by rw [hs, if_neg (by omega), if_neg (by omega), if_neg (by omega), if_neg (by omega), if_pos (by omega)]
        exact d1.trans d2.symm
      · skip
        have d1 : u (13 + 20 + 15 * c + i) j = v (13 + 20 + 15 * c + i) j := by rw [hu, if_neg (by omega), if_neg (by omega), if_neg (by omega), if_neg (by omega), if_neg (by omega), if_neg (by omega)]
        have d2 : z (86 + 10 * c + 2 * j + i) = s (86 + 10 * c + 2 * j + i) := by rw [hs, if_neg (by omega), if_neg (by omega), if_neg (by omega), if_neg (by omega), if_neg (by omega), if_neg (by omega)]
        exact d1.trans ((hR _ _ _ (lk_o hc (by omega) hi hj (by omega))).trans d2.symm)
  · have d1 : u (13 + 23 + 15 * c + i) j = v (13 + 23 + 15 * c + i) j := by rw [hu, if_neg (by omega), if_neg (by omega), if_neg (by omega), if_neg (by omega), if_neg (by omega), if_neg (by omega)]
    have d2 : z (308 + 48 * c + 24 * i + j) = s (308 + 48 * c + 24 * i + j) := by rw [hs, if_neg (by omega), if_neg (by omega), if_neg (by omega), if_neg (by omega), if_neg (by omega), if_neg (by omega)]
    exact d1.trans ((hR _ _ _ (lk_l hc (by omega) hi hj)).trans d2.symm)
  · have a38 := A38 c hc
    have d1 : u (13 + 26 + 15 * c + t) j = v (13 + 26 + 15 * c + t) j := by rw [hu, if_neg (by omega), if_neg (by omega), if_neg (by omega), if_neg (by omega), if_neg (by omega), if_neg (by omega)]
    have d2 : z (158 + 25 * c + 5 * t + j) = s (158 + 25 * c + 5 * t + j) := by rw [hs, if_neg (by omega), if_neg (by omega), if_neg (by omega), if_neg (by omega), if_neg (by omega), if_neg (by omega)]
    exact d1.trans ((hR _ _ _ (lk_t hc (by omega) ht (by omega) hj)).trans d2.symm)

set_option maxHeartbeats 4000000 in
theorem RL_yes1 {v u : Nat → Nat → Int32} {s z : Nat → Int32} {X R : Nat} {x y g a w : Int32} (hX : X < 6) (hR5 : R < 5) (hn : (s (36 + 7 * X)).toInt = (R : Int)) (hx : y.toInt = (s (36 + 7 * X)).toInt + 1) (hu : ∀ k j : Nat, u k j = if k = 29 + 15 * X ∧ j = 1 then w else if k = 29 + 15 * X ∧ j = 0 then 1 else if k = 29 + 15 * X ∧ j = 2 then y else if k = 33 + 15 * X + 1 ∧ j = R then g else if k = 33 + 15 * X + 0 ∧ j = R then a else if k = 31 + 15 * X ∧ j = 1 then x else v k j) (hs : ∀ n : Nat, z n = if n = 35 + 7 * X then w else if n = 34 + 7 * X then 1 else if n = 75 + 2 * X then -5 else if n = 74 + 2 * X then -5 else if n = 36 + 7 * X then y else if n = 87 + 10 * X + 2 * R then g else if n = 86 + 10 * X + 2 * R then a else if n = 75 + 2 * X then x else s n) (hR : RLk 13 v s) : RLk 13 u z := by
  have A0 : (z 0).toInt = (s 0).toInt := by rw [hs, if_neg (by omega), if_neg (by omega), if_neg (by omega), if_neg (by omega), if_neg (by omega), if_neg (by omega), if_neg (by omega), if_neg (by omega)]
  have A1 : (z 1).toInt = (s 1).toInt := by rw [hs, if_neg (by omega), if_neg (by omega), if_neg (by omega), if_neg (by omega), if_neg (by omega), if_neg (by omega), if_neg (by omega), if_neg (by omega)]
  have A2 : (z 2).toInt = (s 2).toInt := by rw [hs, if_neg (by omega), if_neg (by omega), if_neg (by omega), if_neg (by omega), if_neg (by omega), if_neg (by omega), if_neg (by omega), if_neg (by omega)]
  have A36 : ∀ c : Nat, c < 6 → (z (36 + 7 * c)).toInt = (s (36 + 7 * c)).toInt ∨ (c = X ∧ (z (36 + 7 * c)).toInt = (s (36 + 7 * c)).toInt + 1) := fun c hc => by by_cases q : c = X; subst q; refine Or.inr ⟨rfl, ?_⟩; rw [hs, if_neg (by omega), if_neg (by omega), if_neg (by omega), if_neg (by omega), if_pos rfl]; exact hx; refine Or.inl ?_; rw [hs, if_neg (by omega), if_neg (by omega), if_neg (by omega), if_neg (by omega), if_neg (by omega), if_neg (by omega), if_neg (by omega), if_neg (by omega)]
  have A38 : ∀ c : Nat, c < 6 → (z (38 + 7 * c)).toInt = (s (38 + 7 * c)).toInt := fun c hc => by rw [hs, if_neg (by omega), if_neg (by omega), if_neg (by omega), if_neg (by omega), if_neg (by omega), if_neg (by omega), if_neg (by omega), if_neg (by omega)]
  intro k j n h
  unfold lk at h
  rcases h with ⟨rfl, hj, rfl⟩ | ⟨p, hp, ha, hj, rfl, rfl⟩ | ⟨m, hm, ha, hj, rfl, rfl⟩ | ⟨m, hm, ha, rfl, rfl, rfl⟩ | ⟨c, hc, ha, rfl, rfl, rfl⟩ | ⟨c, hc, ha, rfl, rfl, rfl⟩ | ⟨c, hc, ha, rfl, rfl, rfl⟩ | ⟨c, hc, ha, rfl, rfl, rfl⟩ | ⟨c, hc, ha, hj, rfl, rfl⟩ | ⟨c, i, hc, ha, hi, hj, hr, rfl, rfl⟩ | ⟨c, i, hc, ha, hi, hj, rfl, rfl⟩ | ⟨c, t, hc, ha, ht, hr, hj, rfl, rfl⟩
  · have d1 : u (13) n = v (13) n := by rw [hu, if_neg (by omega), if_neg (by omega), if_neg (by omega), if_neg (by omega), if_neg (by omega), if_neg (by omega)]
    have d2 : z (n) = s (n) := by rw [hs, if_neg (by omega), if_neg (by omega), if_neg (by omega), if_neg (by omega), if_neg (by omega), if_neg (by omega), if_neg (by omega), if_neg (by omega)]
    exact d1.trans ((hR _ _ _ (lk_a hj)).trans d2.symm)
  · have d1 : u (13 + 4 + p) j = v (13 + 4 + p) j := by rw [hu, if_neg (by omega), if_neg (by omega), if_neg (by omega), if_neg (by omega), if_neg (by omega), if_neg (by omega)]
    have d2 : z (4 + 2 * p + j) = s (4 + 2 * p + j) := by rw [hs, if_neg (by omega), if_neg (by omega), if_neg (by omega), if_neg (by omega), if_neg (by omega), if_neg (by omega), if_neg (by omega), if_neg (by omega)]
    exact d1.trans ((hR _ _ _ (lk_p hp (by omega) hj)).trans d2.symm)
  · have d1 : u (13 + 12 + m) j = v (13 + 12 + m) j := by rw [hu, if_neg (by omega), if_neg (by omega), if_neg (by omega), if_neg (by omega), if_neg (by omega), if_neg (by omega)]
    have d2 : z (20 + 2 * m + j) = s (20 + 2 * m + j) := by rw [hs, if_neg (by omega), if_neg (by omega), if_neg (by omega), if_neg (by omega), if_neg (by omega), if_neg (by omega), if_neg (by omega), if_neg (by omega)]
    exact d1.trans ((hR _ _ _ (lk_m hm (by omega) hj)).trans d2.symm)
  · have d1 : u (13 + 12 + m) 2 = v (13 + 12 + m) 2 := by rw [hu, if_neg (by omega), if_neg (by omega), if_neg (by omega), if_neg (by omega), if_neg (by omega), if_neg (by omega)]
    have d2 : z (28 + m) = s (28 + m) := by rw [hs, if_neg (by omega), if_neg (by omega), if_neg (by omega), if_neg (by omega), if_neg (by omega), if_neg (by omega), if_neg (by omega), if_neg (by omega)]
    exact d1.trans ((hR _ _ _ (lk_k_ hm (by omega))).trans d2.symm)
  · by_cases e0 : 13 + 16 + 15 * c = 29 + 15 * X ∧ 0 = 0
    · have d1 : u (13 + 16 + 15 * c) 0 = 1 := by rw [hu, if_neg (by omega), if_pos (by omega)]
      have d2 : z (34 + 7 * c) = 1 := by rw [hs, if_neg (by omega), if_pos (by omega)]
      exact d1.trans d2.symm
    · skip
      have d1 : u (13 + 16 + 15 * c) 0 = v (13 + 16 + 15 * c) 0 := by rw [hu, if_neg (by omega), if_neg (by omega), if_neg (by omega), if_neg (by omega), if_neg (by omega), if_neg (by omega)]
      have d2 : z (34 + 7 * c) = s (34 + 7 * c) := by rw [hs, if_neg (by omega), if_neg (by omega), if_neg (by omega), if_neg (by omega), if_neg (by omega), if_neg (by omega), if_neg (by omega), if_neg (by omega)]
      exact d1.trans ((hR _ _ _ (lk_c0 hc (by omega))).trans d2.symm)
  · by_cases e0 : 13 + 16 + 15 * c = 29 + 15 * X ∧ 2 = 2
    · have d1 : u (13 + 16 + 15 * c) 2 = y := by rw [hu, if_neg (by omega), if_neg (by omega), if_pos (by omega)]
      have d2 : z (36 + 7 * c) = y := by rw [hs, if_neg (by omega), if_neg (by omega), if_neg (by omega), if_neg (by omega), if_pos (by omega)]
      exact d1.trans d2.symm
    · skip
      have d1 : u (13 + 16 + 15 * c) 2 = v (13 + 16 + 15 * c) 2 := by rw [hu, if_neg (by omega), if_neg (by omega), if_neg (by omega), if_neg (by omega), if_neg (by omega), if_neg (by omega)]
      have d2 : z (36 + 7 * c) = s (36 + 7 * c) := by rw [hs, if_neg (by omega), if_neg (by omega), if_neg (by omega), if_neg (by omega), if_neg (by omega), if_neg (by omega), if_neg (by omega), if_neg (by omega)]
      exact d1.trans ((hR _ _ _ (lk_c2 hc (by omega))).trans d2.symm)
  · have d1 : u (13 + 16 + 15 * c) 3 = v (13 + 16 + 15 * c) 3 := by rw [hu, if_neg (by omega), if_neg (by omega), if_neg (by omega), if_neg (by omega), if_neg (by omega), if_neg (by omega)]
    have d2 : z (37 + 7 * c) = s (37 + 7 * c) := by rw [hs, if_neg (by omega), if_neg (by omega), if_neg (by omega), if_neg (by omega), if_neg (by omega), if_neg (by omega), if_neg (by omega), if_neg (by omega)]
    exact d1.trans ((hR _ _ _ (lk_c3 hc (by omega))).trans d2.symm)
  · have d1 : u (13 + 16 + 15 * c) 5 = v (13 + 16 + 15 * c) 5 := by rw [hu, if_neg (by omega), if_neg (by omega), if_neg (by omega), if_neg (by omega), if_neg (by omega), if_neg (by omega)]
    have d2 : z (38 + 7 * c) = s (38 + 7 * c) := by rw [hs, if_neg (by omega), if_neg (by omega), if_neg (by omega), if_neg (by omega), if_neg (by omega), if_neg (by omega), if_neg (by omega), if_neg (by omega)]
    exact d1.trans ((hR _ _ _ (lk_c5 hc (by omega))).trans d2.symm)
  · have d1 : u (13 + 17 + 15 * c) j = v (13 + 17 + 15 * c) j := by rw [hu, if_neg (by omega), if_neg (by omega), if_neg (by omega), if_neg (by omega), if_neg (by omega), if_neg (by omega)]
    have d2 : z (32 + 7 * c + j) = s (32 + 7 * c + j) := by rw [hs, if_neg (by omega), if_neg (by omega), if_neg (by omega), if_neg (by omega), if_neg (by omega), if_neg (by omega), if_neg (by omega), if_neg (by omega)]
    exact d1.trans ((hR _ _ _ (lk_q hc (by omega) hj)).trans d2.symm)
  · have a36 := A36 c hc
    have hnc : c = X → (s (36 + 7 * c)).toInt = (R : Int) := fun q => by rw [q]; exact hn
    by_cases e0 : 13 + 20 + 15 * c + i = 33 + 15 * X + 1 ∧ j = R
    · have d1 : u (13 + 20 + 15 * c + i) j = g := by rw [hu, if_neg (by omega), if_neg (by omega), if_neg (by omega), if_pos (by omega)]
      have d2 : z (86 + 10 * c + 2 * j + i) = g := by rw [hs, if_neg (by omega), if_neg (by omega), if_neg (by omega), if_neg (by omega), if_neg (by omega), if_pos (by omega)]
      exact d1.trans d2.symm
    · skip
      by_cases e1 : 13 + 20 + 15 * c + i = 33 + 15 * X + 0 ∧ j = R
      · have d1 : u (13 + 20 + 15 * c + i) j = a := by rw [hu, if_neg (by omega), if_neg (by omega), if_neg (by omega), if_neg (by omega), if_pos (by omega)]
        have d2 : z (86 + 10 * c + 2 * j + i) = a := by rw [hs, if_neg (by omega), if_neg (by omega), if_neg (by omega), if_neg (by omega), if_neg (by omega), if_neg (by omega), if_pos (by omega)]
        exact d1.trans d2.symm
      · skip
        have d1 : u (13 + 20 + 15 * c + i) j = v (13 + 20 + 15 * c + i) j := by rw [hu, if_neg (by omega), if_neg (by omega), if_neg (by omega), if_neg (by omega), if_neg (by omega), if_neg (by omega)]
        have d2 : z (86 + 10 * c + 2 * j + i) = s (86 + 10 * c + 2 * j + i) := by rw [hs, if_neg (by omega), if_neg (by omega), if_neg (by omega), if_neg (by omega), if_neg (by omega), if_neg (by omega), if_neg (by omega), if_neg (by omega)]
        exact d1.trans ((hR _ _ _ (lk_o hc (by omega) hi hj (by omega))).trans d2.symm)
  · have d1 : u (13 + 23 + 15 * c + i) j = v (13 + 23 + 15 * c + i) j := by rw [hu, if_neg (by omega), if_neg (by omega), if_neg (by omega), if_neg (by omega), if_neg (by omega), if_neg (by omega)]
    have d2 : z (308 + 48 * c + 24 * i + j) = s (308 + 48 * c + 24 * i + j) := by rw [hs, if_neg (by omega), if_neg (by omega), if_neg (by omega), if_neg (by omega), if_neg (by omega), if_neg (by omega), if_neg (by omega), if_neg (by omega)]
    exact d1.trans ((hR _ _ _ (lk_l hc (by omega) hi hj)).trans d2.symm)
  · have a38 := A38 c hc
    have d1 : u (13 + 26 + 15 * c + t) j = v (13 + 26 + 15 * c + t) j := by rw [hu, if_neg (by omega), if_neg (by omega), if_neg (by omega), if_neg (by omega), if_neg (by omega), if_neg (by omega)]
    have d2 : z (158 + 25 * c + 5 * t + j) = s (158 + 25 * c + 5 * t + j) := by rw [hs, if_neg (by omega), if_neg (by omega), if_neg (by omega), if_neg (by omega), if_neg (by omega), if_neg (by omega), if_neg (by omega), if_neg (by omega)]
    exact d1.trans ((hR _ _ _ (lk_t hc (by omega) ht (by omega) hj)).trans d2.symm)

set_option maxHeartbeats 4000000 in
theorem RX_box1 {v u : Nat → Nat → Int32} {s z : Nat → Int32} {X : Nat} {x : Int32} (hX : X < 6) (hx : 0 ≤ x.toInt ∧ x.toInt ≤ 100) (hu : ∀ k j : Nat, u k j = if k = 31 + 15 * X ∧ j = 1 then x else v k j) (hs : ∀ n : Nat, z n = if n = 75 + 2 * X then x else s n) (h : RX 13 v s) : RX 13 u z := by
  intro c hc hac
  have a2 : z 2 = s 2 := by rw [hs, if_neg (by omega)]
  have hh := h c hc (by rw [a2] at hac; exact hac)
  by_cases hq : c = X
  · subst hq
    have g0 : u (13 + 16 + 15 * c) 1 = v (13 + 16 + 15 * c) 1 := by rw [hu, if_neg (by omega)]
    have g1 : u (13 + 18 + 15 * c) 0 = v (13 + 18 + 15 * c) 0 := by rw [hu, if_neg (by omega)]
    have g2 : u (13 + 18 + 15 * c) 1 = x := by rw [hu, if_pos (by omega)]
    have g3 : z (34 + 7 * c) = s (34 + 7 * c) := by rw [hs, if_neg (by omega)]
    have g4 : z (35 + 7 * c) = s (35 + 7 * c) := by rw [hs, if_neg (by omega)]
    have g5 : z (74 + 2 * c) = s (74 + 2 * c) := by rw [hs, if_neg (by omega)]
    have g6 : z (75 + 2 * c) = x := by rw [hs, if_pos (by omega)]
    rw [g0, g1, g2, g3, g4, g5, g6]
    obtain ⟨r1, r2, r3, r4⟩ := hh
    exact ⟨r1, r2, r3, fun q => ⟨(r4 q).1, Or.inr ⟨hx.1, hx.2, rfl⟩⟩⟩
  · have d1 : u (13 + 16 + 15 * c) 1 = v (13 + 16 + 15 * c) 1 := by rw [hu, if_neg (by omega)]
    have d2 : u (13 + 18 + 15 * c) 0 = v (13 + 18 + 15 * c) 0 := by rw [hu, if_neg (by omega)]
    have d3 : u (13 + 18 + 15 * c) 1 = v (13 + 18 + 15 * c) 1 := by rw [hu, if_neg (by omega)]
    have f0 : z (34 + 7 * c) = s (34 + 7 * c) := by rw [hs, if_neg (by omega)]
    have f1 : z (35 + 7 * c) = s (35 + 7 * c) := by rw [hs, if_neg (by omega)]
    have f2 : z (74 + 2 * c) = s (74 + 2 * c) := by rw [hs, if_neg (by omega)]
    have f3 : z (75 + 2 * c) = s (75 + 2 * c) := by rw [hs, if_neg (by omega)]
    rw [d1, d2, d3, f0, f1, f2, f3]
    exact hh

set_option maxHeartbeats 4000000 in
theorem RX_no1 {v u : Nat → Nat → Int32} {s z : Nat → Int32} {X R : Nat} {x y g a : Int32} (hX : X < 6) (hR5 : R < 5) (hu : ∀ k j : Nat, u k j = if k = 31 + 15 * X ∧ j = 1 then -1 else if k = 31 + 15 * X ∧ j = 0 then -1 else if k = 29 + 15 * X ∧ j = 2 then y else if k = 33 + 15 * X + 1 ∧ j = R then g else if k = 33 + 15 * X + 0 ∧ j = R then a else if k = 31 + 15 * X ∧ j = 1 then x else v k j) (hs : ∀ n : Nat, z n = if n = 75 + 2 * X then -5 else if n = 74 + 2 * X then -5 else if n = 36 + 7 * X then y else if n = 87 + 10 * X + 2 * R then g else if n = 86 + 10 * X + 2 * R then a else if n = 75 + 2 * X then x else s n) (h : RX 13 v s) : RX 13 u z := by
  intro c hc hac
  have a2 : z 2 = s 2 := by rw [hs, if_neg (by omega), if_neg (by omega), if_neg (by omega), if_neg (by omega), if_neg (by omega), if_neg (by omega)]
  have hh := h c hc (by rw [a2] at hac; exact hac)
  by_cases hq : c = X
  · subst hq
    have g0 : u (13 + 16 + 15 * c) 1 = v (13 + 16 + 15 * c) 1 := by rw [hu, if_neg (by omega), if_neg (by omega), if_neg (by omega), if_neg (by omega), if_neg (by omega), if_neg (by omega)]
    have g1 : u (13 + 18 + 15 * c) 0 = -1 := by rw [hu, if_neg (by omega), if_pos (by omega)]
    have g2 : u (13 + 18 + 15 * c) 1 = -1 := by rw [hu, if_pos (by omega)]
    have g3 : z (34 + 7 * c) = s (34 + 7 * c) := by rw [hs, if_neg (by omega), if_neg (by omega), if_neg (by omega), if_neg (by omega), if_neg (by omega), if_neg (by omega)]
    have g4 : z (35 + 7 * c) = s (35 + 7 * c) := by rw [hs, if_neg (by omega), if_neg (by omega), if_neg (by omega), if_neg (by omega), if_neg (by omega), if_neg (by omega)]
    have g5 : z (74 + 2 * c) = -5 := by rw [hs, if_neg (by omega), if_pos (by omega)]
    have g6 : z (75 + 2 * c) = -5 := by rw [hs, if_pos (by omega)]
    rw [g0, g1, g2, g3, g4, g5, g6]
    obtain ⟨r1, r2, r3, r4⟩ := hh
    exact ⟨r1, r2, r3, fun q => ⟨Or.inl ⟨by decide, by decide⟩, Or.inl ⟨by decide, by decide⟩⟩⟩
  · have d1 : u (13 + 16 + 15 * c) 1 = v (13 + 16 + 15 * c) 1 := by rw [hu, if_neg (by omega), if_neg (by omega), if_neg (by omega), if_neg (by omega), if_neg (by omega), if_neg (by omega)]
    have d2 : u (13 + 18 + 15 * c) 0 = v (13 + 18 + 15 * c) 0 := by rw [hu, if_neg (by omega), if_neg (by omega), if_neg (by omega), if_neg (by omega), if_neg (by omega), if_neg (by omega)]
    have d3 : u (13 + 18 + 15 * c) 1 = v (13 + 18 + 15 * c) 1 := by rw [hu, if_neg (by omega), if_neg (by omega), if_neg (by omega), if_neg (by omega), if_neg (by omega), if_neg (by omega)]
    have f0 : z (34 + 7 * c) = s (34 + 7 * c) := by rw [hs, if_neg (by omega), if_neg (by omega), if_neg (by omega), if_neg (by omega), if_neg (by omega), if_neg (by omega)]
    have f1 : z (35 + 7 * c) = s (35 + 7 * c) := by rw [hs, if_neg (by omega), if_neg (by omega), if_neg (by omega), if_neg (by omega), if_neg (by omega), if_neg (by omega)]
    have f2 : z (74 + 2 * c) = s (74 + 2 * c) := by rw [hs, if_neg (by omega), if_neg (by omega), if_neg (by omega), if_neg (by omega), if_neg (by omega), if_neg (by omega)]
    have f3 : z (75 + 2 * c) = s (75 + 2 * c) := by rw [hs, if_neg (by omega), if_neg (by omega), if_neg (by omega), if_neg (by omega), if_neg (by omega), if_neg (by omega)]
    rw [d1, d2, d3, f0, f1, f2, f3]
    exact hh

set_option maxHeartbeats 4000000 in
theorem RX_yes1 {v u : Nat → Nat → Int32} {s z : Nat → Int32} {X R : Nat} {x y g a w : Int32} (hX : X < 6) (hR5 : R < 5) (hu : ∀ k j : Nat, u k j = if k = 29 + 15 * X ∧ j = 1 then w else if k = 29 + 15 * X ∧ j = 0 then 1 else if k = 29 + 15 * X ∧ j = 2 then y else if k = 33 + 15 * X + 1 ∧ j = R then g else if k = 33 + 15 * X + 0 ∧ j = R then a else if k = 31 + 15 * X ∧ j = 1 then x else v k j) (hs : ∀ n : Nat, z n = if n = 35 + 7 * X then w else if n = 34 + 7 * X then 1 else if n = 75 + 2 * X then -5 else if n = 74 + 2 * X then -5 else if n = 36 + 7 * X then y else if n = 87 + 10 * X + 2 * R then g else if n = 86 + 10 * X + 2 * R then a else if n = 75 + 2 * X then x else s n) (h : RX 13 v s) : RX 13 u z := by
  intro c hc hac
  have a2 : z 2 = s 2 := by rw [hs, if_neg (by omega), if_neg (by omega), if_neg (by omega), if_neg (by omega), if_neg (by omega), if_neg (by omega), if_neg (by omega), if_neg (by omega)]
  have hh := h c hc (by rw [a2] at hac; exact hac)
  by_cases hq : c = X
  · subst hq
    have g0 : u (13 + 16 + 15 * c) 1 = w := by rw [hu, if_pos (by omega)]
    have g1 : u (13 + 18 + 15 * c) 0 = v (13 + 18 + 15 * c) 0 := by rw [hu, if_neg (by omega), if_neg (by omega), if_neg (by omega), if_neg (by omega), if_neg (by omega), if_neg (by omega)]
    have g2 : u (13 + 18 + 15 * c) 1 = x := by rw [hu, if_neg (by omega), if_neg (by omega), if_neg (by omega), if_neg (by omega), if_neg (by omega), if_pos (by omega)]
    have g3 : z (34 + 7 * c) = 1 := by rw [hs, if_neg (by omega), if_pos (by omega)]
    have g4 : z (35 + 7 * c) = w := by rw [hs, if_pos (by omega)]
    have g5 : z (74 + 2 * c) = -5 := by rw [hs, if_neg (by omega), if_neg (by omega), if_neg (by omega), if_pos (by omega)]
    have g6 : z (75 + 2 * c) = -5 := by rw [hs, if_neg (by omega), if_neg (by omega), if_pos (by omega)]
    rw [g0, g1, g2, g3, g4, g5, g6]
    have k1 : (1 : Int32).toInt = 1 := by decide
    exact ⟨by omega, fun _ => rfl, fun q => absurd k1 q, fun q => absurd q (by omega)⟩
  · have d1 : u (13 + 16 + 15 * c) 1 = v (13 + 16 + 15 * c) 1 := by rw [hu, if_neg (by omega), if_neg (by omega), if_neg (by omega), if_neg (by omega), if_neg (by omega), if_neg (by omega)]
    have d2 : u (13 + 18 + 15 * c) 0 = v (13 + 18 + 15 * c) 0 := by rw [hu, if_neg (by omega), if_neg (by omega), if_neg (by omega), if_neg (by omega), if_neg (by omega), if_neg (by omega)]
    have d3 : u (13 + 18 + 15 * c) 1 = v (13 + 18 + 15 * c) 1 := by rw [hu, if_neg (by omega), if_neg (by omega), if_neg (by omega), if_neg (by omega), if_neg (by omega), if_neg (by omega)]
    have f0 : z (34 + 7 * c) = s (34 + 7 * c) := by rw [hs, if_neg (by omega), if_neg (by omega), if_neg (by omega), if_neg (by omega), if_neg (by omega), if_neg (by omega), if_neg (by omega), if_neg (by omega)]
    have f1 : z (35 + 7 * c) = s (35 + 7 * c) := by rw [hs, if_neg (by omega), if_neg (by omega), if_neg (by omega), if_neg (by omega), if_neg (by omega), if_neg (by omega), if_neg (by omega), if_neg (by omega)]
    have f2 : z (74 + 2 * c) = s (74 + 2 * c) := by rw [hs, if_neg (by omega), if_neg (by omega), if_neg (by omega), if_neg (by omega), if_neg (by omega), if_neg (by omega), if_neg (by omega), if_neg (by omega)]
    have f3 : z (75 + 2 * c) = s (75 + 2 * c) := by rw [hs, if_neg (by omega), if_neg (by omega), if_neg (by omega), if_neg (by omega), if_neg (by omega), if_neg (by omega), if_neg (by omega), if_neg (by omega)]
    rw [d1, d2, d3, f0, f1, f2, f3]
    exact hh

set_option maxHeartbeats 4000000 in
theorem T_offer_1 {n r r2 x0 x1 : Int32} {v u v2 u2 : Nat → Nat → Int32} (hI : Iv v) (hQ : Ir v2) (h : RR n v v2) (p : (¬ ((0 ≤ x0.toInt ∧ x0.toInt < (v 13 2).toInt) ∧ 0 ≤ x1.toInt ∧ x1.toInt ≤ 100) → r = -1 ∧ u = v) ∧ (((0 ≤ x0.toInt ∧ x0.toInt < (v 13 2).toInt) ∧ 0 ≤ x1.toInt ∧ x1.toInt ≤ 100) ∧ (v (29 + 15 * x0.toNatClampNeg) 0).toInt ≠ 0 → r = -4 ∧ u = v) ∧ (((0 ≤ x0.toInt ∧ x0.toInt < (v 13 2).toInt) ∧ 0 ≤ x1.toInt ∧ x1.toInt ≤ 100) ∧ (v (29 + 15 * x0.toNatClampNeg) 0).toInt = 0 ∧ (v (31 + 15 * x0.toNatClampNeg) 1).toInt ≠ -1 → r = -3 ∧ u = v) ∧ (((0 ≤ x0.toInt ∧ x0.toInt < (v 13 2).toInt) ∧ 0 ≤ x1.toInt ∧ x1.toInt ≤ 100) ∧ (v (29 + 15 * x0.toNatClampNeg) 0).toInt = 0 ∧ (v (31 + 15 * x0.toNatClampNeg) 1).toInt = -1 ∧ 5 ≤ (v (29 + 15 * x0.toNatClampNeg) 2).toInt → r = -2 ∧ u = v) ∧ (((0 ≤ x0.toInt ∧ x0.toInt < (v 13 2).toInt) ∧ 0 ≤ x1.toInt ∧ x1.toInt ≤ 100) ∧ (v (29 + 15 * x0.toNatClampNeg) 0).toInt = 0 ∧ (v (31 + 15 * x0.toNatClampNeg) 1).toInt = -1 ∧ (v (29 + 15 * x0.toNatClampNeg) 2).toInt < 5 ∧ (v (31 + 15 * x0.toNatClampNeg) 0).toInt = -1 → r = 0 ∧ (∀ k j : Nat, u k j = if k = 31 + 15 * x0.toNatClampNeg ∧ j = 1 then x1 else v k j)) ∧ (((0 ≤ x0.toInt ∧ x0.toInt < (v 13 2).toInt) ∧ 0 ≤ x1.toInt ∧ x1.toInt ≤ 100) ∧ (v (29 + 15 * x0.toNatClampNeg) 0).toInt = 0 ∧ (v (31 + 15 * x0.toNatClampNeg) 1).toInt = -1 ∧ (v (29 + 15 * x0.toNatClampNeg) 2).toInt < 5 ∧ (v (31 + 15 * x0.toNatClampNeg) 0).toInt ≠ -1 ∧ x1.toInt < (v (31 + 15 * x0.toNatClampNeg) 0).toInt → r = 2 ∧ (∀ k j : Nat, u k j = if k = 31 + 15 * x0.toNatClampNeg ∧ j = 1 then -1 else if k = 31 + 15 * x0.toNatClampNeg ∧ j = 0 then -1 else if k = 29 + 15 * x0.toNatClampNeg ∧ j = 2 then v (29 + 15 * x0.toNatClampNeg) 2 + 1 else if k = 33 + 15 * x0.toNatClampNeg + 1 ∧ j = (v (29 + 15 * x0.toNatClampNeg) 2).toNatClampNeg then x1 else if k = 33 + 15 * x0.toNatClampNeg + 0 ∧ j = (v (29 + 15 * x0.toNatClampNeg) 2).toNatClampNeg then v (31 + 15 * x0.toNatClampNeg) 0 else if k = 31 + 15 * x0.toNatClampNeg ∧ j = 1 then x1 else v k j)) ∧ (((0 ≤ x0.toInt ∧ x0.toInt < (v 13 2).toInt) ∧ 0 ≤ x1.toInt ∧ x1.toInt ≤ 100) ∧ (v (29 + 15 * x0.toNatClampNeg) 0).toInt = 0 ∧ (v (31 + 15 * x0.toNatClampNeg) 1).toInt = -1 ∧ (v (29 + 15 * x0.toNatClampNeg) 2).toInt < 5 ∧ (v (31 + 15 * x0.toNatClampNeg) 0).toInt ≠ -1 ∧ (v (31 + 15 * x0.toNatClampNeg) 0).toInt ≤ x1.toInt → r = 1 ∧ (∀ k j : Nat, u k j = if k = 29 + 15 * x0.toNatClampNeg ∧ j = 1 then (v (31 + 15 * x0.toNatClampNeg) 0 + x1) / 2 else if k = 29 + 15 * x0.toNatClampNeg ∧ j = 0 then 1 else if k = 29 + 15 * x0.toNatClampNeg ∧ j = 2 then v (29 + 15 * x0.toNatClampNeg) 2 + 1 else if k = 33 + 15 * x0.toNatClampNeg + 1 ∧ j = (v (29 + 15 * x0.toNatClampNeg) 2).toNatClampNeg then x1 else if k = 33 + 15 * x0.toNatClampNeg + 0 ∧ j = (v (29 + 15 * x0.toNatClampNeg) 2).toNatClampNeg then v (31 + 15 * x0.toNatClampNeg) 0 else if k = 31 + 15 * x0.toNatClampNeg ∧ j = 1 then x1 else v k j))) (q : (¬ ((0 ≤ x0.toInt ∧ x0.toInt < (v2 1 2).toInt) ∧ 0 ≤ x1.toInt ∧ x1.toInt ≤ 100) → r2 = -1 ∧ u2 = v2) ∧ (((0 ≤ x0.toInt ∧ x0.toInt < (v2 1 2).toInt) ∧ 0 ≤ x1.toInt ∧ x1.toInt ≤ 100) ∧ (v2 1 (34 + 7 * x0.toNatClampNeg)).toInt ≠ 0 → r2 = -4 ∧ u2 = v2) ∧ (((0 ≤ x0.toInt ∧ x0.toInt < (v2 1 2).toInt) ∧ 0 ≤ x1.toInt ∧ x1.toInt ≤ 100) ∧ (v2 1 (34 + 7 * x0.toNatClampNeg)).toInt = 0 ∧ 0 ≤ (v2 1 (75 + 2 * x0.toNatClampNeg)).toInt → r2 = -3 ∧ u2 = v2) ∧ (((0 ≤ x0.toInt ∧ x0.toInt < (v2 1 2).toInt) ∧ 0 ≤ x1.toInt ∧ x1.toInt ≤ 100) ∧ (v2 1 (34 + 7 * x0.toNatClampNeg)).toInt = 0 ∧ (v2 1 (75 + 2 * x0.toNatClampNeg)).toInt < 0 ∧ (v2 1 (36 + 7 * x0.toNatClampNeg)).toInt = 5 → r2 = -2 ∧ u2 = v2) ∧ (((0 ≤ x0.toInt ∧ x0.toInt < (v2 1 2).toInt) ∧ 0 ≤ x1.toInt ∧ x1.toInt ≤ 100) ∧ (v2 1 (34 + 7 * x0.toNatClampNeg)).toInt = 0 ∧ (v2 1 (75 + 2 * x0.toNatClampNeg)).toInt < 0 ∧ (v2 1 (36 + 7 * x0.toNatClampNeg)).toInt ≠ 5 ∧ (v2 1 (74 + 2 * x0.toNatClampNeg)).toInt < 0 → r2 = 0 ∧ (∀ n : Nat, u2 1 n = if n = 75 + 2 * x0.toNatClampNeg then x1 else v2 1 n) ∧ (∀ k : Nat, k ≠ 1 → u2 k = v2 k)) ∧ (((0 ≤ x0.toInt ∧ x0.toInt < (v2 1 2).toInt) ∧ 0 ≤ x1.toInt ∧ x1.toInt ≤ 100) ∧ (v2 1 (34 + 7 * x0.toNatClampNeg)).toInt = 0 ∧ (v2 1 (75 + 2 * x0.toNatClampNeg)).toInt < 0 ∧ (v2 1 (36 + 7 * x0.toNatClampNeg)).toInt ≠ 5 ∧ 0 ≤ (v2 1 (74 + 2 * x0.toNatClampNeg)).toInt ∧ x1.toInt < (v2 1 (74 + 2 * x0.toNatClampNeg)).toInt → r2 = 2 ∧ (∀ n : Nat, u2 1 n = if n = 75 + 2 * x0.toNatClampNeg then -5 else if n = 74 + 2 * x0.toNatClampNeg then -5 else if n = 36 + 7 * x0.toNatClampNeg then v2 1 (36 + 7 * x0.toNatClampNeg) + 1 else if n = 87 + 10 * x0.toNatClampNeg + 2 * (v2 1 (36 + 7 * x0.toNatClampNeg)).toNatClampNeg then x1 else if n = 86 + 10 * x0.toNatClampNeg + 2 * (v2 1 (36 + 7 * x0.toNatClampNeg)).toNatClampNeg then v2 1 (74 + 2 * x0.toNatClampNeg) else if n = 75 + 2 * x0.toNatClampNeg then x1 else v2 1 n) ∧ (∀ k : Nat, k ≠ 1 → u2 k = v2 k)) ∧ (((0 ≤ x0.toInt ∧ x0.toInt < (v2 1 2).toInt) ∧ 0 ≤ x1.toInt ∧ x1.toInt ≤ 100) ∧ (v2 1 (34 + 7 * x0.toNatClampNeg)).toInt = 0 ∧ (v2 1 (75 + 2 * x0.toNatClampNeg)).toInt < 0 ∧ (v2 1 (36 + 7 * x0.toNatClampNeg)).toInt ≠ 5 ∧ 0 ≤ (v2 1 (74 + 2 * x0.toNatClampNeg)).toInt ∧ (v2 1 (74 + 2 * x0.toNatClampNeg)).toInt ≤ x1.toInt → r2 = 1 ∧ (∀ n : Nat, u2 1 n = if n = 35 + 7 * x0.toNatClampNeg then (v2 1 (74 + 2 * x0.toNatClampNeg) + x1) / 2 else if n = 34 + 7 * x0.toNatClampNeg then 1 else if n = 75 + 2 * x0.toNatClampNeg then -5 else if n = 74 + 2 * x0.toNatClampNeg then -5 else if n = 36 + 7 * x0.toNatClampNeg then v2 1 (36 + 7 * x0.toNatClampNeg) + 1 else if n = 87 + 10 * x0.toNatClampNeg + 2 * (v2 1 (36 + 7 * x0.toNatClampNeg)).toNatClampNeg then x1 else if n = 86 + 10 * x0.toNatClampNeg + 2 * (v2 1 (36 + 7 * x0.toNatClampNeg)).toNatClampNeg then v2 1 (74 + 2 * x0.toNatClampNeg) else if n = 75 + 2 * x0.toNatClampNeg then x1 else v2 1 n) ∧ (∀ k : Nat, k ≠ 1 → u2 k = v2 k))) : r = r2 ∧ RR n u u2 := by
  have e0 : v 13 0 = v2 1 0 := h.1.1 _ _ _ (lk_a (by decide))
  have e1 : v 13 1 = v2 1 1 := h.1.1 _ _ _ (lk_a (by decide))
  have e2 : v 13 2 = v2 1 2 := h.1.1 _ _ _ (lk_a (by decide))
  have e3 : v 13 3 = v2 1 3 := h.1.1 _ _ _ (lk_a (by decide))
  have hb0 := hQ 1 0 8 (by decide)
  have hb1 := hQ 1 1 4 (by decide)
  have hb2 := hQ 1 2 6 (by decide)
  have hb3 := hQ 1 3 6 (by decide)
  rw [e2] at p
  by_cases hC : (0 ≤ x0.toInt ∧ x0.toInt < (v2 1 2).toInt) ∧ 0 ≤ x1.toInt ∧ x1.toInt ≤ 100
  · have zX := t_nn (x := x0) (by omega)
    have hX : x0.toNatClampNeg < 6 := by omega
    have ha : (x0.toNatClampNeg : Int) < (v2 1 2).toInt := by omega
    have ev : v (29 + 15 * x0.toNatClampNeg) 0 = v2 1 (34 + 7 * x0.toNatClampNeg) := h.1.1 _ _ _ (lk_c0 hX ha)
    have ew : v (29 + 15 * x0.toNatClampNeg) 2 = v2 1 (36 + 7 * x0.toNatClampNeg) := h.1.1 _ _ _ (lk_c2 hX ha)
    rw [ev, ew] at p
    have hb := hQ 1 (36 + 7 * x0.toNatClampNeg) 5 (bS_c (by omega) (by omega))
    by_cases hD : (v2 1 (34 + 7 * x0.toNatClampNeg)).toInt = 0
    · obtain ⟨hx0, hx1⟩ := (h.1.2.1 _ hX ha).2.2.2 hD
      have hbx : bxr (v (31 + 15 * x0.toNatClampNeg) 1) (v2 1 (75 + 2 * x0.toNatClampNeg)) := hx1
      have hbo : bxr (v (31 + 15 * x0.toNatClampNeg) 0) (v2 1 (74 + 2 * x0.toNatClampNeg)) := hx0
      rcases hbx with ⟨t1, t2⟩ | ⟨t1, t2, t3⟩
      · by_cases hE : (v2 1 (36 + 7 * x0.toNatClampNeg)).toInt = 5
        · obtain ⟨p1, p2⟩ := p.2.2.2.1 ⟨hC, hD, t1, by omega⟩
          obtain ⟨q1, q2⟩ := q.2.2.2.1 ⟨hC, hD, t2, hE⟩
          rw [p1, q1, p2, q2]
          exact ⟨rfl, h⟩
        · rcases hbo with ⟨o1, o2⟩ | ⟨o1, o2, o3⟩
          · obtain ⟨p1, p2⟩ := p.2.2.2.2.1 ⟨hC, hD, t1, by omega, o1⟩
            obtain ⟨q1, q2, q3⟩ := q.2.2.2.2.1 ⟨hC, hD, t2, hE, o2⟩
            exact ⟨by rw [p1, q1], h.wr q3 (funext fun j => by rw [p2, if_neg (by omega)]) (fun k hk => funext fun j => by rw [p2, if_neg (by omega)]) ⟨RL_box1 hX p2 q2 h.1.1, RX_box1 hX hC.2 p2 q2 h.1.2.1, h.1.2.2.1.cg (by rw [q2, if_neg (by omega)]) (by rw [q2, if_neg (by omega)]) (fun m hm => by rw [q2, if_neg (by omega)]), h.1.2.2.2.cg hb3.2 (by rw [q2, if_neg (by omega)]) (by rw [q2, if_neg (by omega)]) (fun n h1 h2 => by rw [q2, if_neg (by omega)]) (fun c hc => by rw [p2, if_neg (by omega)])⟩⟩
          · rw [o3] at p
            have zR := t_nn (x := v2 1 (36 + 7 * x0.toNatClampNeg)) (by omega)
            have k1 : (1 : Int32).toInt = 1 := by decide
            have hx : (v2 1 (36 + 7 * x0.toNatClampNeg) + 1).toInt = (v2 1 (36 + 7 * x0.toNatClampNeg)).toInt + 1 := by rw [t_add (by rw [k1]; omega), k1]
            rcases Int.lt_or_le x1.toInt (v2 1 (74 + 2 * x0.toNatClampNeg)).toInt with hL | hL
            · obtain ⟨p1, p2⟩ := p.2.2.2.2.2.1 ⟨hC, hD, t1, by omega, by omega, hL⟩
              obtain ⟨q1, q2, q3⟩ := q.2.2.2.2.2.1 ⟨hC, hD, t2, hE, o1, hL⟩
              exact ⟨by rw [p1, q1], h.wr q3 (funext fun j => by rw [p2, if_neg (by omega), if_neg (by omega), if_neg (by omega), if_neg (by omega), if_neg (by omega), if_neg (by omega)]) (fun k hk => funext fun j => by rw [p2, if_neg (by omega), if_neg (by omega), if_neg (by omega), if_neg (by omega), if_neg (by omega), if_neg (by omega)]) ⟨RL_no1 hX (by omega) (by omega) hx p2 q2 h.1.1, RX_no1 hX (by omega) p2 q2 h.1.2.1, h.1.2.2.1.cg (by rw [q2, if_neg (by omega), if_neg (by omega), if_neg (by omega), if_neg (by omega), if_neg (by omega), if_neg (by omega)]) (by rw [q2, if_neg (by omega), if_neg (by omega), if_neg (by omega), if_neg (by omega), if_neg (by omega), if_neg (by omega)]) (fun m hm => by rw [q2, if_neg (by omega), if_neg (by omega), if_neg (by omega), if_neg (by omega), if_neg (by omega), if_neg (by omega)]), h.1.2.2.2.cg hb3.2 (by rw [q2, if_neg (by omega), if_neg (by omega), if_neg (by omega), if_neg (by omega), if_neg (by omega), if_neg (by omega)]) (by rw [q2, if_neg (by omega), if_neg (by omega), if_neg (by omega), if_neg (by omega), if_neg (by omega), if_neg (by omega)]) (fun n h1 h2 => by rw [q2, if_neg (by omega), if_neg (by omega), if_neg (by omega), if_neg (by omega), if_neg (by omega), if_neg (by omega)]) (fun c hc => by rw [p2, if_neg (by omega), if_neg (by omega), if_neg (by omega), if_neg (by omega), if_neg (by omega), if_neg (by omega)])⟩⟩
            · obtain ⟨p1, p2⟩ := p.2.2.2.2.2.2 ⟨hC, hD, t1, by omega, by omega, hL⟩
              obtain ⟨q1, q2, q3⟩ := q.2.2.2.2.2.2 ⟨hC, hD, t2, hE, o1, hL⟩
              exact ⟨by rw [p1, q1], h.wr q3 (funext fun j => by rw [p2, if_neg (by omega), if_neg (by omega), if_neg (by omega), if_neg (by omega), if_neg (by omega), if_neg (by omega)]) (fun k hk => funext fun j => by rw [p2, if_neg (by omega), if_neg (by omega), if_neg (by omega), if_neg (by omega), if_neg (by omega), if_neg (by omega)]) ⟨RL_yes1 hX (by omega) (by omega) hx p2 q2 h.1.1, RX_yes1 hX (by omega) p2 q2 h.1.2.1, h.1.2.2.1.cg (by rw [q2, if_neg (by omega), if_neg (by omega), if_neg (by omega), if_neg (by omega), if_neg (by omega), if_neg (by omega), if_neg (by omega), if_neg (by omega)]) (by rw [q2, if_neg (by omega), if_neg (by omega), if_neg (by omega), if_neg (by omega), if_neg (by omega), if_neg (by omega), if_neg (by omega), if_neg (by omega)]) (fun m hm => by rw [q2, if_neg (by omega), if_neg (by omega), if_neg (by omega), if_neg (by omega), if_neg (by omega), if_neg (by omega), if_neg (by omega), if_neg (by omega)]), h.1.2.2.2.cg hb3.2 (by rw [q2, if_neg (by omega), if_neg (by omega), if_neg (by omega), if_neg (by omega), if_neg (by omega), if_neg (by omega), if_neg (by omega), if_neg (by omega)]) (by rw [q2, if_neg (by omega), if_neg (by omega), if_neg (by omega), if_neg (by omega), if_neg (by omega), if_neg (by omega), if_neg (by omega), if_neg (by omega)]) (fun n h1 h2 => by rw [q2, if_neg (by omega), if_neg (by omega), if_neg (by omega), if_neg (by omega), if_neg (by omega), if_neg (by omega), if_neg (by omega), if_neg (by omega)]) (fun c hc => by rw [p2, if_neg (by omega), if_neg (by omega), if_neg (by omega), if_neg (by omega), if_neg (by omega), if_neg (by omega)])⟩⟩
      · rw [t3] at p
        obtain ⟨p1, p2⟩ := p.2.2.1 ⟨hC, hD, by omega⟩
        obtain ⟨q1, q2⟩ := q.2.2.1 ⟨hC, hD, t1⟩
        rw [p1, q1, p2, q2]
        exact ⟨rfl, h⟩
    · obtain ⟨p1, p2⟩ := p.2.1 ⟨hC, hD⟩
      obtain ⟨q1, q2⟩ := q.2.1 ⟨hC, hD⟩
      rw [p1, q1, p2, q2]
      exact ⟨rfl, h⟩
  · obtain ⟨p1, p2⟩ := p.1 hC
    obtain ⟨q1, q2⟩ := q.1 hC
    rw [p1, q1, p2, q2]
    exact ⟨rfl, h⟩

set_option maxHeartbeats 4000000 in
theorem RL_open {v u : Nat → Nat → Int32} {s z : Nat → Int32} {X : Nat} {x a b : Int32} (hX : X < 6) (hn : (s 2).toInt = (X : Int)) (hx : x.toInt = (s 2).toInt + 1) (hu : ∀ k j : Nat, u k j = if k = 13 ∧ j = 2 then x else if 36 + 15 * X ≤ k ∧ (k : Int) < 36 + 15 * (X : Int) + 2 ∧ j < 24 then 7 else if k = 31 + 15 * X ∧ (j : Int) < 2 then -1 else if k = 30 + 15 * X ∧ j = 1 then b else if k = 30 + 15 * X ∧ j = 0 then a else if k = 29 + 15 * X ∧ j = 5 then 0 else if k = 29 + 15 * X ∧ j = 4 then 0 else if k = 29 + 15 * X ∧ j = 3 then 1 else if k = 29 + 15 * X ∧ j = 2 then 0 else if k = 29 + 15 * X ∧ j = 1 then 0 else if k = 29 + 15 * X ∧ j = 0 then 0 else v k j) (hs : ∀ n : Nat, z n = if n = 2 then x else if 308 + 48 * X ≤ n ∧ (n : Int) < 308 + 48 * (X : Int) + 48 then 7 else if n = 75 + 2 * X then -5 else if n = 74 + 2 * X then -5 else if n = 38 + 7 * X then 0 else if n = 37 + 7 * X then 1 else if n = 36 + 7 * X then 0 else if n = 35 + 7 * X then -5 else if n = 34 + 7 * X then 0 else if n = 33 + 7 * X then b else if n = 32 + 7 * X then a else s n) (hR : RLk 13 v s) : RLk 13 u z := by
  have A0 : (z 0).toInt = (s 0).toInt := by rw [hs, if_neg (by omega), if_neg (by omega), if_neg (by omega), if_neg (by omega), if_neg (by omega), if_neg (by omega), if_neg (by omega), if_neg (by omega), if_neg (by omega), if_neg (by omega), if_neg (by omega)]
  have A1 : (z 1).toInt = (s 1).toInt := by rw [hs, if_neg (by omega), if_neg (by omega), if_neg (by omega), if_neg (by omega), if_neg (by omega), if_neg (by omega), if_neg (by omega), if_neg (by omega), if_neg (by omega), if_neg (by omega), if_neg (by omega)]
  have A2 : (z 2).toInt = (s 2).toInt + 1 := by rw [hs, if_pos rfl]; exact hx
  have A36 : ∀ c : Nat, c < 6 → (c ≠ X ∧ (z (36 + 7 * c)).toInt = (s (36 + 7 * c)).toInt) ∨ (c = X ∧ (z (36 + 7 * c)).toInt = 0) := fun c hc => by by_cases q : c = X; subst q; refine Or.inr ⟨rfl, ?_⟩; rw [hs, if_neg (by omega), if_neg (by omega), if_neg (by omega), if_neg (by omega), if_neg (by omega), if_neg (by omega), if_pos rfl]; rfl; refine Or.inl ⟨q, ?_⟩; rw [hs, if_neg (by omega), if_neg (by omega), if_neg (by omega), if_neg (by omega), if_neg (by omega), if_neg (by omega), if_neg (by omega), if_neg (by omega), if_neg (by omega), if_neg (by omega), if_neg (by omega)]
  have A38 : ∀ c : Nat, c < 6 → (c ≠ X ∧ (z (38 + 7 * c)).toInt = (s (38 + 7 * c)).toInt) ∨ (c = X ∧ (z (38 + 7 * c)).toInt = 0) := fun c hc => by by_cases q : c = X; subst q; refine Or.inr ⟨rfl, ?_⟩; rw [hs, if_neg (by omega), if_neg (by omega), if_neg (by omega), if_neg (by omega), if_pos rfl]; rfl; refine Or.inl ⟨q, ?_⟩; rw [hs, if_neg (by omega), if_neg (by omega), if_neg (by omega), if_neg (by omega), if_neg (by omega), if_neg (by omega), if_neg (by omega), if_neg (by omega), if_neg (by omega), if_neg (by omega), if_neg (by omega)]
  intro k j n h
  unfold lk at h
  rcases h with ⟨rfl, hj, rfl⟩ | ⟨p, hp, ha, hj, rfl, rfl⟩ | ⟨m, hm, ha, hj, rfl, rfl⟩ | ⟨m, hm, ha, rfl, rfl, rfl⟩ | ⟨c, hc, ha, rfl, rfl, rfl⟩ | ⟨c, hc, ha, rfl, rfl, rfl⟩ | ⟨c, hc, ha, rfl, rfl, rfl⟩ | ⟨c, hc, ha, rfl, rfl, rfl⟩ | ⟨c, hc, ha, hj, rfl, rfl⟩ | ⟨c, i, hc, ha, hi, hj, hr, rfl, rfl⟩ | ⟨c, i, hc, ha, hi, hj, rfl, rfl⟩ | ⟨c, t, hc, ha, ht, hr, hj, rfl, rfl⟩
  · by_cases e0 : 13 = 13 ∧ n = 2
    · have d1 : u (13) n = x := by rw [hu, if_pos (by omega)]
      have d2 : z (n) = x := by rw [hs, if_pos (by omega)]
      exact d1.trans d2.symm
    · skip
      have d1 : u (13) n = v (13) n := by rw [hu, if_neg (by omega), if_neg (by omega), if_neg (by omega), if_neg (by omega), if_neg (by omega), if_neg (by omega), if_neg (by omega), if_neg (by omega), if_neg (by omega), if_neg (by omega), if_neg (by omega)]
      have d2 : z (n) = s (n) := by rw [hs, if_neg (by omega), if_neg (by omega), if_neg (by omega), if_neg (by omega), if_neg (by omega), if_neg (by omega), if_neg (by omega), if_neg (by omega), if_neg (by omega), if_neg (by omega), if_neg (by omega)]
      exact d1.trans ((hR _ _ _ (lk_a hj)).trans d2.symm)
  · have d1 : u (13 + 4 + p) j = v (13 + 4 + p) j := by rw [hu, if_neg (by omega), if_neg (by omega), if_neg (by omega), if_neg (by omega), if_neg (by omega), if_neg (by omega), if_neg (by omega), if_neg (by omega), if_neg (by omega), if_neg (by omega), if_neg (by omega)]
    have d2 : z (4 + 2 * p + j) = s (4 + 2 * p + j) := by rw [hs, if_neg (by omega), if_neg (by omega), if_neg (by omega), if_neg (by omega), if_neg (by omega), if_neg (by omega), if_neg (by omega), if_neg (by omega), if_neg (by omega), if_neg (by omega), if_neg (by omega)]
    exact d1.trans ((hR _ _ _ (lk_p hp (by omega) hj)).trans d2.symm)
  · have d1 : u (13 + 12 + m) j = v (13 + 12 + m) j := by rw [hu, if_neg (by omega), if_neg (by omega), if_neg (by omega), if_neg (by omega), if_neg (by omega), if_neg (by omega), if_neg (by omega), if_neg (by omega), if_neg (by omega), if_neg (by omega), if_neg (by omega)]
    have d2 : z (20 + 2 * m + j) = s (20 + 2 * m + j) := by rw [hs, if_neg (by omega), if_neg (by omega), if_neg (by omega), if_neg (by omega), if_neg (by omega), if_neg (by omega), if_neg (by omega), if_neg (by omega), if_neg (by omega), if_neg (by omega), if_neg (by omega)]
    exact d1.trans ((hR _ _ _ (lk_m hm (by omega) hj)).trans d2.symm)
  · have d1 : u (13 + 12 + m) 2 = v (13 + 12 + m) 2 := by rw [hu, if_neg (by omega), if_neg (by omega), if_neg (by omega), if_neg (by omega), if_neg (by omega), if_neg (by omega), if_neg (by omega), if_neg (by omega), if_neg (by omega), if_neg (by omega), if_neg (by omega)]
    have d2 : z (28 + m) = s (28 + m) := by rw [hs, if_neg (by omega), if_neg (by omega), if_neg (by omega), if_neg (by omega), if_neg (by omega), if_neg (by omega), if_neg (by omega), if_neg (by omega), if_neg (by omega), if_neg (by omega), if_neg (by omega)]
    exact d1.trans ((hR _ _ _ (lk_k_ hm (by omega))).trans d2.symm)
  · by_cases e0 : 13 + 16 + 15 * c = 29 + 15 * X ∧ 0 = 0
    · have d1 : u (13 + 16 + 15 * c) 0 = 0 := by rw [hu, if_neg (by omega), if_neg (by omega), if_neg (by omega), if_neg (by omega), if_neg (by omega), if_neg (by omega), if_neg (by omega), if_neg (by omega), if_neg (by omega), if_neg (by omega), if_pos (by omega)]
      have d2 : z (34 + 7 * c) = 0 := by rw [hs, if_neg (by omega), if_neg (by omega), if_neg (by omega), if_neg (by omega), if_neg (by omega), if_neg (by omega), if_neg (by omega), if_neg (by omega), if_pos (by omega)]
      exact d1.trans d2.symm
    · skip
      have d1 : u (13 + 16 + 15 * c) 0 = v (13 + 16 + 15 * c) 0 := by rw [hu, if_neg (by omega), if_neg (by omega), if_neg (by omega), if_neg (by omega), if_neg (by omega), if_neg (by omega), if_neg (by omega), if_neg (by omega), if_neg (by omega), if_neg (by omega), if_neg (by omega)]
      have d2 : z (34 + 7 * c) = s (34 + 7 * c) := by rw [hs, if_neg (by omega), if_neg (by omega), if_neg (by omega), if_neg (by omega), if_neg (by omega), if_neg (by omega), if_neg (by omega), if_neg (by omega), if_neg (by omega), if_neg (by omega), if_neg (by omega)]
      exact d1.trans ((hR _ _ _ (lk_c0 hc (by omega))).trans d2.symm)
  · by_cases e0 : 13 + 16 + 15 * c = 29 + 15 * X ∧ 2 = 2
    · have d1 : u (13 + 16 + 15 * c) 2 = 0 := by rw [hu, if_neg (by omega), if_neg (by omega), if_neg (by omega), if_neg (by omega), if_neg (by omega), if_neg (by omega), if_neg (by omega), if_neg (by omega), if_pos (by omega)]
      have d2 : z (36 + 7 * c) = 0 := by rw [hs, if_neg (by omega), if_neg (by omega), if_neg (by omega), if_neg (by omega), if_neg (by omega), if_neg (by omega), if_pos (by omega)]
      exact d1.trans d2.symm
    · skip
      have d1 : u (13 + 16 + 15 * c) 2 = v (13 + 16 + 15 * c) 2 := by rw [hu, if_neg (by omega), if_neg (by omega), if_neg (by omega), if_neg (by omega), if_neg (by omega), if_neg (by omega), if_neg (by omega), if_neg (by omega), if_neg (by omega), if_neg (by omega), if_neg (by omega)]
      have d2 : z (36 + 7 * c) = s (36 + 7 * c) := by rw [hs, if_neg (by omega), if_neg (by omega), if_neg (by omega), if_neg (by omega), if_neg (by omega), if_neg (by omega), if_neg (by omega), if_neg (by omega), if_neg (by omega), if_neg (by omega), if_neg (by omega)]
      exact d1.trans ((hR _ _ _ (lk_c2 hc (by omega))).trans d2.symm)
  · by_cases e0 : 13 + 16 + 15 * c = 29 + 15 * X ∧ 3 = 3
    · have d1 : u (13 + 16 + 15 * c) 3 = 1 := by rw [hu, if_neg (by omega), if_neg (by omega), if_neg (by omega), if_neg (by omega), if_neg (by omega), if_neg (by omega), if_neg (by omega), if_pos (by omega)]
      have d2 : z (37 + 7 * c) = 1 := by rw [hs, if_neg (by omega), if_neg (by omega), if_neg (by omega), if_neg (by omega), if_neg (by omega), if_pos (by omega)]
      exact d1.trans d2.symm
    · skip
      have d1 : u (13 + 16 + 15 * c) 3 = v (13 + 16 + 15 * c) 3 := by rw [hu, if_neg (by omega), if_neg (by omega), if_neg (by omega), if_neg (by omega), if_neg (by omega), if_neg (by omega), if_neg (by omega), if_neg (by omega), if_neg (by omega), if_neg (by omega), if_neg (by omega)]
      have d2 : z (37 + 7 * c) = s (37 + 7 * c) := by rw [hs, if_neg (by omega), if_neg (by omega), if_neg (by omega), if_neg (by omega), if_neg (by omega), if_neg (by omega), if_neg (by omega), if_neg (by omega), if_neg (by omega), if_neg (by omega), if_neg (by omega)]
      exact d1.trans ((hR _ _ _ (lk_c3 hc (by omega))).trans d2.symm)
  · by_cases e0 : 13 + 16 + 15 * c = 29 + 15 * X ∧ 5 = 5
    · have d1 : u (13 + 16 + 15 * c) 5 = 0 := by rw [hu, if_neg (by omega), if_neg (by omega), if_neg (by omega), if_neg (by omega), if_neg (by omega), if_pos (by omega)]
      have d2 : z (38 + 7 * c) = 0 := by rw [hs, if_neg (by omega), if_neg (by omega), if_neg (by omega), if_neg (by omega), if_pos (by omega)]
      exact d1.trans d2.symm
    · skip
      have d1 : u (13 + 16 + 15 * c) 5 = v (13 + 16 + 15 * c) 5 := by rw [hu, if_neg (by omega), if_neg (by omega), if_neg (by omega), if_neg (by omega), if_neg (by omega), if_neg (by omega), if_neg (by omega), if_neg (by omega), if_neg (by omega), if_neg (by omega), if_neg (by omega)]
      have d2 : z (38 + 7 * c) = s (38 + 7 * c) := by rw [hs, if_neg (by omega), if_neg (by omega), if_neg (by omega), if_neg (by omega), if_neg (by omega), if_neg (by omega), if_neg (by omega), if_neg (by omega), if_neg (by omega), if_neg (by omega), if_neg (by omega)]
      exact d1.trans ((hR _ _ _ (lk_c5 hc (by omega))).trans d2.symm)
  · by_cases e0 : 13 + 17 + 15 * c = 30 + 15 * X ∧ j = 1
    · have d1 : u (13 + 17 + 15 * c) j = b := by rw [hu, if_neg (by omega), if_neg (by omega), if_neg (by omega), if_pos (by omega)]
      have d2 : z (32 + 7 * c + j) = b := by rw [hs, if_neg (by omega), if_neg (by omega), if_neg (by omega), if_neg (by omega), if_neg (by omega), if_neg (by omega), if_neg (by omega), if_neg (by omega), if_neg (by omega), if_pos (by omega)]
      exact d1.trans d2.symm
    · skip
      by_cases e1 : 13 + 17 + 15 * c = 30 + 15 * X ∧ j = 0
      · have d1 : u (13 + 17 + 15 * c) j = a := by rw [hu, if_neg (by omega), if_neg (by omega), if_neg (by omega), if_neg (by omega), if_pos (by omega)]
        have d2 : z (32 + 7 * c + j) = a := by rw [hs, if_neg (by omega), if_neg (by omega), if_neg (by omega), if_neg (by omega), if_neg (by omega), if_neg (by omega), if_neg (by omega), if_neg (by omega), if_neg (by omega), if_neg (by omega), if_pos (by omega)]
        exact d1.trans d2.symm
      · skip
        have d1 : u (13 + 17 + 15 * c) j = v (13 + 17 + 15 * c) j := by rw [hu, if_neg (by omega), if_neg (by omega), if_neg (by omega), if_neg (by omega), if_neg (by omega), if_neg (by omega), if_neg (by omega), if_neg (by omega), if_neg (by omega), if_neg (by omega), if_neg (by omega)]
        have d2 : z (32 + 7 * c + j) = s (32 + 7 * c + j) := by rw [hs, if_neg (by omega), if_neg (by omega), if_neg (by omega), if_neg (by omega), if_neg (by omega), if_neg (by omega), if_neg (by omega), if_neg (by omega), if_neg (by omega), if_neg (by omega), if_neg (by omega)]
        exact d1.trans ((hR _ _ _ (lk_q hc (by omega) hj)).trans d2.symm)
  · have a36 := A36 c hc
    have d1 : u (13 + 20 + 15 * c + i) j = v (13 + 20 + 15 * c + i) j := by rw [hu, if_neg (by omega), if_neg (by omega), if_neg (by omega), if_neg (by omega), if_neg (by omega), if_neg (by omega), if_neg (by omega), if_neg (by omega), if_neg (by omega), if_neg (by omega), if_neg (by omega)]
    have d2 : z (86 + 10 * c + 2 * j + i) = s (86 + 10 * c + 2 * j + i) := by rw [hs, if_neg (by omega), if_neg (by omega), if_neg (by omega), if_neg (by omega), if_neg (by omega), if_neg (by omega), if_neg (by omega), if_neg (by omega), if_neg (by omega), if_neg (by omega), if_neg (by omega)]
    exact d1.trans ((hR _ _ _ (lk_o hc (by omega) hi hj (by omega))).trans d2.symm)
  · by_cases e0 : 36 + 15 * X ≤ 13 + 23 + 15 * c + i ∧ (13 + 23 + 15 * c + i : Int) < 36 + 15 * (X : Int) + 2 ∧ j < 24
    · have d1 : u (13 + 23 + 15 * c + i) j = 7 := by rw [hu, if_neg (by omega), if_pos (by omega)]
      have d2 : z (308 + 48 * c + 24 * i + j) = 7 := by rw [hs, if_neg (by omega), if_pos (by omega)]
      exact d1.trans d2.symm
    · skip
      have d1 : u (13 + 23 + 15 * c + i) j = v (13 + 23 + 15 * c + i) j := by rw [hu, if_neg (by omega), if_neg (by omega), if_neg (by omega), if_neg (by omega), if_neg (by omega), if_neg (by omega), if_neg (by omega), if_neg (by omega), if_neg (by omega), if_neg (by omega), if_neg (by omega)]
      have d2 : z (308 + 48 * c + 24 * i + j) = s (308 + 48 * c + 24 * i + j) := by rw [hs, if_neg (by omega), if_neg (by omega), if_neg (by omega), if_neg (by omega), if_neg (by omega), if_neg (by omega), if_neg (by omega), if_neg (by omega), if_neg (by omega), if_neg (by omega), if_neg (by omega)]
      exact d1.trans ((hR _ _ _ (lk_l hc (by omega) hi hj)).trans d2.symm)
  · have a38 := A38 c hc
    have d1 : u (13 + 26 + 15 * c + t) j = v (13 + 26 + 15 * c + t) j := by rw [hu, if_neg (by omega), if_neg (by omega), if_neg (by omega), if_neg (by omega), if_neg (by omega), if_neg (by omega), if_neg (by omega), if_neg (by omega), if_neg (by omega), if_neg (by omega), if_neg (by omega)]
    have d2 : z (158 + 25 * c + 5 * t + j) = s (158 + 25 * c + 5 * t + j) := by rw [hs, if_neg (by omega), if_neg (by omega), if_neg (by omega), if_neg (by omega), if_neg (by omega), if_neg (by omega), if_neg (by omega), if_neg (by omega), if_neg (by omega), if_neg (by omega), if_neg (by omega)]
    exact d1.trans ((hR _ _ _ (lk_t hc (by omega) ht (by omega) hj)).trans d2.symm)

set_option maxHeartbeats 4000000 in
theorem RX_open {v u : Nat → Nat → Int32} {s z : Nat → Int32} {X : Nat} {x a b : Int32} (hX : X < 6) (hn : (s 2).toInt = (X : Int)) (hx : x.toInt = (s 2).toInt + 1) (hu : ∀ k j : Nat, u k j = if k = 13 ∧ j = 2 then x else if 36 + 15 * X ≤ k ∧ (k : Int) < 36 + 15 * (X : Int) + 2 ∧ j < 24 then 7 else if k = 31 + 15 * X ∧ (j : Int) < 2 then -1 else if k = 30 + 15 * X ∧ j = 1 then b else if k = 30 + 15 * X ∧ j = 0 then a else if k = 29 + 15 * X ∧ j = 5 then 0 else if k = 29 + 15 * X ∧ j = 4 then 0 else if k = 29 + 15 * X ∧ j = 3 then 1 else if k = 29 + 15 * X ∧ j = 2 then 0 else if k = 29 + 15 * X ∧ j = 1 then 0 else if k = 29 + 15 * X ∧ j = 0 then 0 else v k j) (hs : ∀ n : Nat, z n = if n = 2 then x else if 308 + 48 * X ≤ n ∧ (n : Int) < 308 + 48 * (X : Int) + 48 then 7 else if n = 75 + 2 * X then -5 else if n = 74 + 2 * X then -5 else if n = 38 + 7 * X then 0 else if n = 37 + 7 * X then 1 else if n = 36 + 7 * X then 0 else if n = 35 + 7 * X then -5 else if n = 34 + 7 * X then 0 else if n = 33 + 7 * X then b else if n = 32 + 7 * X then a else s n) (h : RX 13 v s) : RX 13 u z := by
  intro c hc hac
  have A2 : (z 2).toInt = (s 2).toInt + 1 := by rw [hs, if_pos rfl]; exact hx
  by_cases hq : c = X
  · subst hq
    have g0 : u (13 + 16 + 15 * c) 1 = 0 := by rw [hu, if_neg (by omega), if_neg (by omega), if_neg (by omega), if_neg (by omega), if_neg (by omega), if_neg (by omega), if_neg (by omega), if_neg (by omega), if_neg (by omega), if_pos (by omega)]
    have g1 : u (13 + 18 + 15 * c) 0 = -1 := by rw [hu, if_neg (by omega), if_neg (by omega), if_pos (by omega)]
    have g2 : u (13 + 18 + 15 * c) 1 = -1 := by rw [hu, if_neg (by omega), if_neg (by omega), if_pos (by omega)]
    have g3 : z (34 + 7 * c) = 0 := by rw [hs, if_neg (by omega), if_neg (by omega), if_neg (by omega), if_neg (by omega), if_neg (by omega), if_neg (by omega), if_neg (by omega), if_neg (by omega), if_pos rfl]
    have g4 : z (35 + 7 * c) = -5 := by rw [hs, if_neg (by omega), if_neg (by omega), if_neg (by omega), if_neg (by omega), if_neg (by omega), if_neg (by omega), if_neg (by omega), if_pos rfl]
    have g5 : z (74 + 2 * c) = -5 := by rw [hs, if_neg (by omega), if_neg (by omega), if_neg (by omega), if_pos rfl]
    have g6 : z (75 + 2 * c) = -5 := by rw [hs, if_neg (by omega), if_neg (by omega), if_pos rfl]
    rw [g0, g1, g2, g3, g4, g5, g6]
    exact ⟨Or.inl (by decide), fun q => absurd q (by decide), fun _ => rfl, fun _ => ⟨Or.inl ⟨by decide, by decide⟩, Or.inl ⟨by decide, by decide⟩⟩⟩
  · have hh := h c hc (by omega)
    have g0 : u (13 + 16 + 15 * c) 1 = v (13 + 16 + 15 * c) 1 := by rw [hu, if_neg (by omega), if_neg (by omega), if_neg (by omega), if_neg (by omega), if_neg (by omega), if_neg (by omega), if_neg (by omega), if_neg (by omega), if_neg (by omega), if_neg (by omega), if_neg (by omega)]
    have g1 : u (13 + 18 + 15 * c) 0 = v (13 + 18 + 15 * c) 0 := by rw [hu, if_neg (by omega), if_neg (by omega), if_neg (by omega), if_neg (by omega), if_neg (by omega), if_neg (by omega), if_neg (by omega), if_neg (by omega), if_neg (by omega), if_neg (by omega), if_neg (by omega)]
    have g2 : u (13 + 18 + 15 * c) 1 = v (13 + 18 + 15 * c) 1 := by rw [hu, if_neg (by omega), if_neg (by omega), if_neg (by omega), if_neg (by omega), if_neg (by omega), if_neg (by omega), if_neg (by omega), if_neg (by omega), if_neg (by omega), if_neg (by omega), if_neg (by omega)]
    have g3 : z (34 + 7 * c) = s (34 + 7 * c) := by rw [hs, if_neg (by omega), if_neg (by omega), if_neg (by omega), if_neg (by omega), if_neg (by omega), if_neg (by omega), if_neg (by omega), if_neg (by omega), if_neg (by omega), if_neg (by omega), if_neg (by omega)]
    have g4 : z (35 + 7 * c) = s (35 + 7 * c) := by rw [hs, if_neg (by omega), if_neg (by omega), if_neg (by omega), if_neg (by omega), if_neg (by omega), if_neg (by omega), if_neg (by omega), if_neg (by omega), if_neg (by omega), if_neg (by omega), if_neg (by omega)]
    have g5 : z (74 + 2 * c) = s (74 + 2 * c) := by rw [hs, if_neg (by omega), if_neg (by omega), if_neg (by omega), if_neg (by omega), if_neg (by omega), if_neg (by omega), if_neg (by omega), if_neg (by omega), if_neg (by omega), if_neg (by omega), if_neg (by omega)]
    have g6 : z (75 + 2 * c) = s (75 + 2 * c) := by rw [hs, if_neg (by omega), if_neg (by omega), if_neg (by omega), if_neg (by omega), if_neg (by omega), if_neg (by omega), if_neg (by omega), if_neg (by omega), if_neg (by omega), if_neg (by omega), if_neg (by omega)]
    rw [g0, g1, g2, g3, g4, g5, g6]
    exact hh
theorem bt_0 : ∀ d : Fin 6, (btx 0 (Int32.ofNat d.val)).toInt = 0 := by decide +kernel
set_option maxHeartbeats 4000000 in
theorem RG_open {v u : Nat → Nat → Int32} {s z : Nat → Int32} {X : Nat} {x a b : Int32} (hX : X < 6) (hn : (s 2).toInt = (X : Int)) (hx : x.toInt = (s 2).toInt + 1) (h3 : (s 3).toInt ≤ 6) (hu : ∀ k j : Nat, u k j = if k = 13 ∧ j = 2 then x else if 36 + 15 * X ≤ k ∧ (k : Int) < 36 + 15 * (X : Int) + 2 ∧ j < 24 then 7 else if k = 31 + 15 * X ∧ (j : Int) < 2 then -1 else if k = 30 + 15 * X ∧ j = 1 then b else if k = 30 + 15 * X ∧ j = 0 then a else if k = 29 + 15 * X ∧ j = 5 then 0 else if k = 29 + 15 * X ∧ j = 4 then 0 else if k = 29 + 15 * X ∧ j = 3 then 1 else if k = 29 + 15 * X ∧ j = 2 then 0 else if k = 29 + 15 * X ∧ j = 1 then 0 else if k = 29 + 15 * X ∧ j = 0 then 0 else v k j) (hs : ∀ n : Nat, z n = if n = 2 then x else if 308 + 48 * X ≤ n ∧ (n : Int) < 308 + 48 * (X : Int) + 48 then 7 else if n = 75 + 2 * X then -5 else if n = 74 + 2 * X then -5 else if n = 38 + 7 * X then 0 else if n = 37 + 7 * X then 1 else if n = 36 + 7 * X then 0 else if n = 35 + 7 * X then -5 else if n = 34 + 7 * X then 0 else if n = 33 + 7 * X then b else if n = 32 + 7 * X then a else s n) (h : RG 13 v s) : RG 13 u z := by
  have A2 : (z 2).toInt = (s 2).toInt + 1 := by rw [hs, if_pos rfl]; exact hx
  have A3 : z 3 = s 3 := by rw [hs, if_neg (by omega), if_neg (by omega), if_neg (by omega), if_neg (by omega), if_neg (by omega), if_neg (by omega), if_neg (by omega), if_neg (by omega), if_neg (by omega), if_neg (by omega), if_neg (by omega)]
  have em : ∀ n : Nat, 146 ≤ n → n < 158 → z n = s n := fun n h1 h2 => by rw [hs, if_neg (by omega), if_neg (by omega), if_neg (by omega), if_neg (by omega), if_neg (by omega), if_neg (by omega), if_neg (by omega), if_neg (by omega), if_neg (by omega), if_neg (by omega), if_neg (by omega)]
  have key : ∀ k a b : Nat, (k : Int) < (s 3).toInt → (mj z k a b ↔ mj s k a b) := fun k a b hk => by
    unfold mj
    rw [em (146 + 2 * k) (by omega) (by omega), em (147 + 2 * k) (by omega) (by omega)]
  refine ⟨fun c hc ha => ?_, fun k hk => ?_⟩
  · unfold GC
    rw [A3]
    by_cases hq : c = X
    · subst hq
      have g0 : u (13 + 16 + 15 * c) 4 = 0 := by rw [hu, if_neg (by omega), if_neg (by omega), if_neg (by omega), if_neg (by omega), if_neg (by omega), if_neg (by omega), if_pos (by omega)]
      rw [g0]
      refine ⟨by decide, fun d hd => ⟨fun q => absurd q (by rw [bt_0 ⟨d, hd⟩]; decide), fun ⟨k, q1, q2⟩ => ?_⟩⟩
      have w := h.2 k q1
      have q3 := (key k c d q1).mp q2
      unfold mj at q3
      omega
    · have g0 : u (13 + 16 + 15 * c) 4 = v (13 + 16 + 15 * c) 4 := by rw [hu, if_neg (by omega), if_neg (by omega), if_neg (by omega), if_neg (by omega), if_neg (by omega), if_neg (by omega), if_neg (by omega), if_neg (by omega), if_neg (by omega), if_neg (by omega), if_neg (by omega)]
      rw [g0]
      obtain ⟨g1, g2⟩ := h.1 c hc (by omega)
      exact ⟨g1, fun d hd => (g2 d hd).trans ⟨fun ⟨k, q1, q2⟩ => ⟨k, q1, (key k c d q1).mpr q2⟩, fun ⟨k, q1, q2⟩ => ⟨k, q1, (key k c d q1).mp q2⟩⟩⟩
  · rw [A3] at hk
    rw [em (146 + 2 * k) (by omega) (by omega), em (147 + 2 * k) (by omega) (by omega), A2]
    have w := h.2 k hk
    omega

set_option maxHeartbeats 4000000 in
theorem T_open {n r r2 x0 x1 : Int32} {v u v2 u2 : Nat → Nat → Int32} (hI : Iv v) (hQ : Ir v2) (h : RR n v v2) (p : (¬ ((0 ≤ x0.toInt ∧ x0.toInt < (v 13 0).toInt) ∧ (0 ≤ x1.toInt ∧ x1.toInt < (v 13 0).toInt) ∧ x0.toInt ≠ x1.toInt) → r = -1 ∧ u = v) ∧ (((0 ≤ x0.toInt ∧ x0.toInt < (v 13 0).toInt) ∧ (0 ≤ x1.toInt ∧ x1.toInt < (v 13 0).toInt) ∧ x0.toInt ≠ x1.toInt) ∧ 6 ≤ (v 13 2).toInt → r = -2 ∧ u = v) ∧ (((0 ≤ x0.toInt ∧ x0.toInt < (v 13 0).toInt) ∧ (0 ≤ x1.toInt ∧ x1.toInt < (v 13 0).toInt) ∧ x0.toInt ≠ x1.toInt) ∧ (v 13 2).toInt < 6 → r = v 13 2 ∧ (∀ k j : Nat, u k j = if k = 13 ∧ j = 2 then v 13 2 + 1 else if 36 + 15 * (v 13 2).toNatClampNeg ≤ k ∧ (k : Int) < 36 + 15 * ((v 13 2).toNatClampNeg : Int) + 2 ∧ j < 24 then 7 else if k = 31 + 15 * (v 13 2).toNatClampNeg ∧ (j : Int) < 2 then -1 else if k = 30 + 15 * (v 13 2).toNatClampNeg ∧ j = 1 then x1 else if k = 30 + 15 * (v 13 2).toNatClampNeg ∧ j = 0 then x0 else if k = 29 + 15 * (v 13 2).toNatClampNeg ∧ j = 5 then 0 else if k = 29 + 15 * (v 13 2).toNatClampNeg ∧ j = 4 then 0 else if k = 29 + 15 * (v 13 2).toNatClampNeg ∧ j = 3 then 1 else if k = 29 + 15 * (v 13 2).toNatClampNeg ∧ j = 2 then 0 else if k = 29 + 15 * (v 13 2).toNatClampNeg ∧ j = 1 then 0 else if k = 29 + 15 * (v 13 2).toNatClampNeg ∧ j = 0 then 0 else v k j))) (q : (¬ ((0 ≤ x0.toInt ∧ x0.toInt < (v2 1 0).toInt) ∧ (0 ≤ x1.toInt ∧ x1.toInt < (v2 1 0).toInt) ∧ x0.toInt ≠ x1.toInt) → r2 = -1 ∧ u2 = v2) ∧ (((0 ≤ x0.toInt ∧ x0.toInt < (v2 1 0).toInt) ∧ (0 ≤ x1.toInt ∧ x1.toInt < (v2 1 0).toInt) ∧ x0.toInt ≠ x1.toInt) ∧ (v2 1 2).toInt = 6 → r2 = -2 ∧ u2 = v2) ∧ (((0 ≤ x0.toInt ∧ x0.toInt < (v2 1 0).toInt) ∧ (0 ≤ x1.toInt ∧ x1.toInt < (v2 1 0).toInt) ∧ x0.toInt ≠ x1.toInt) ∧ (v2 1 2).toInt ≠ 6 → r2 = v2 1 2 ∧ (∀ n : Nat, u2 1 n = if n = 2 then v2 1 2 + 1 else if 308 + 48 * (v2 1 2).toNatClampNeg ≤ n ∧ (n : Int) < 308 + 48 * ((v2 1 2).toNatClampNeg : Int) + 48 then 7 else if n = 75 + 2 * (v2 1 2).toNatClampNeg then -5 else if n = 74 + 2 * (v2 1 2).toNatClampNeg then -5 else if n = 38 + 7 * (v2 1 2).toNatClampNeg then 0 else if n = 37 + 7 * (v2 1 2).toNatClampNeg then 1 else if n = 36 + 7 * (v2 1 2).toNatClampNeg then 0 else if n = 35 + 7 * (v2 1 2).toNatClampNeg then -5 else if n = 34 + 7 * (v2 1 2).toNatClampNeg then 0 else if n = 33 + 7 * (v2 1 2).toNatClampNeg then x1 else if n = 32 + 7 * (v2 1 2).toNatClampNeg then x0 else v2 1 n) ∧ (∀ k : Nat, k ≠ 1 → u2 k = v2 k))) : r = r2 ∧ RR n u u2 := by
  have e0 : v 13 0 = v2 1 0 := h.1.1 _ _ _ (lk_a (by decide))
  have e1 : v 13 1 = v2 1 1 := h.1.1 _ _ _ (lk_a (by decide))
  have e2 : v 13 2 = v2 1 2 := h.1.1 _ _ _ (lk_a (by decide))
  have e3 : v 13 3 = v2 1 3 := h.1.1 _ _ _ (lk_a (by decide))
  have hb0 := hQ 1 0 8 (by decide)
  have hb1 := hQ 1 1 4 (by decide)
  have hb2 := hQ 1 2 6 (by decide)
  have hb3 := hQ 1 3 6 (by decide)
  rw [e0, e2] at p
  by_cases hC : (0 ≤ x0.toInt ∧ x0.toInt < (v2 1 0).toInt) ∧ (0 ≤ x1.toInt ∧ x1.toInt < (v2 1 0).toInt) ∧ x0.toInt ≠ x1.toInt
  · by_cases hD : (v2 1 2).toInt = 6
    · obtain ⟨p1, p2⟩ := p.2.1 ⟨hC, by omega⟩
      obtain ⟨q1, q2⟩ := q.2.1 ⟨hC, hD⟩
      rw [p1, q1, p2, q2]
      exact ⟨rfl, h⟩
    · obtain ⟨p1, p2⟩ := p.2.2 ⟨hC, by omega⟩
      obtain ⟨q1, q2, q3⟩ := q.2.2 ⟨hC, hD⟩
      have zX := t_nn (x := v2 1 2) (by omega)
      have hX : (v2 1 2).toNatClampNeg < 6 := by omega
      have k1 : (1 : Int32).toInt = 1 := by decide
      have hx : (v2 1 2 + 1).toInt = (v2 1 2).toInt + 1 := by rw [t_add (by rw [k1]; omega), k1]
      exact ⟨by rw [p1, q1], h.wr q3 (funext fun j => by rw [p2, if_neg (by omega), if_neg (by omega), if_neg (by omega), if_neg (by omega), if_neg (by omega), if_neg (by omega), if_neg (by omega), if_neg (by omega), if_neg (by omega), if_neg (by omega), if_neg (by omega)]) (fun k hk => funext fun j => by rw [p2, if_neg (by omega), if_neg (by omega), if_neg (by omega), if_neg (by omega), if_neg (by omega), if_neg (by omega), if_neg (by omega), if_neg (by omega), if_neg (by omega), if_neg (by omega), if_neg (by omega)]) ⟨RL_open hX (by omega) hx p2 q2 h.1.1, RX_open hX (by omega) hx p2 q2 h.1.2.1, h.1.2.2.1.cg (by rw [q2, if_neg (by omega), if_neg (by omega), if_neg (by omega), if_neg (by omega), if_neg (by omega), if_neg (by omega), if_neg (by omega), if_neg (by omega), if_neg (by omega), if_neg (by omega), if_neg (by omega)]) (by rw [q2, if_neg (by omega), if_neg (by omega), if_neg (by omega), if_neg (by omega), if_neg (by omega), if_neg (by omega), if_neg (by omega), if_neg (by omega), if_neg (by omega), if_neg (by omega), if_neg (by omega)]) (fun m hm => by rw [q2, if_neg (by omega), if_neg (by omega), if_neg (by omega), if_neg (by omega), if_neg (by omega), if_neg (by omega), if_neg (by omega), if_neg (by omega), if_neg (by omega), if_neg (by omega), if_neg (by omega)]), RG_open hX (by omega) hx hb3.2 p2 q2 h.1.2.2.2⟩⟩
  · obtain ⟨p1, p2⟩ := p.1 hC
    obtain ⟨q1, q2⟩ := q.1 hC
    rw [p1, q1, p2, q2]
    exact ⟨rfl, h⟩

set_option maxHeartbeats 4000000 in
theorem RL_mark {v u : Nat → Nat → Int32} {s z : Nat → Int32} {X Y M : Nat} {x a b c0 d : Int32} (hX : X < 6) (hY : Y < 6) (hM : M < 6) (hu : ∀ k j : Nat, u k j = if k = 13 ∧ j = 3 then x else if k = 29 + 15 * Y ∧ j = 4 then b else if k = 29 + 15 * X ∧ j = 4 then a else v k j) (hs : ∀ n : Nat, z n = if n = 3 then x else if n = 147 + 2 * M then d else if n = 146 + 2 * M then c0 else s n) (hR : RLk 13 v s) : RLk 13 u z := by
  have A0 : (z 0).toInt = (s 0).toInt := by rw [hs, if_neg (by omega), if_neg (by omega), if_neg (by omega)]
  have A1 : (z 1).toInt = (s 1).toInt := by rw [hs, if_neg (by omega), if_neg (by omega), if_neg (by omega)]
  have A2 : (z 2).toInt = (s 2).toInt := by rw [hs, if_neg (by omega), if_neg (by omega), if_neg (by omega)]
  have A36 : ∀ c : Nat, c < 6 → (z (36 + 7 * c)).toInt = (s (36 + 7 * c)).toInt := fun c hc => by rw [hs, if_neg (by omega), if_neg (by omega), if_neg (by omega)]
  have A38 : ∀ c : Nat, c < 6 → (z (38 + 7 * c)).toInt = (s (38 + 7 * c)).toInt := fun c hc => by rw [hs, if_neg (by omega), if_neg (by omega), if_neg (by omega)]
  intro k j n h
  unfold lk at h
  rcases h with ⟨rfl, hj, rfl⟩ | ⟨p, hp, ha, hj, rfl, rfl⟩ | ⟨m, hm, ha, hj, rfl, rfl⟩ | ⟨m, hm, ha, rfl, rfl, rfl⟩ | ⟨c, hc, ha, rfl, rfl, rfl⟩ | ⟨c, hc, ha, rfl, rfl, rfl⟩ | ⟨c, hc, ha, rfl, rfl, rfl⟩ | ⟨c, hc, ha, rfl, rfl, rfl⟩ | ⟨c, hc, ha, hj, rfl, rfl⟩ | ⟨c, i, hc, ha, hi, hj, hr, rfl, rfl⟩ | ⟨c, i, hc, ha, hi, hj, rfl, rfl⟩ | ⟨c, t, hc, ha, ht, hr, hj, rfl, rfl⟩
  · by_cases e0 : 13 = 13 ∧ n = 3
    · have d1 : u (13) n = x := by rw [hu, if_pos (by omega)]
      have d2 : z (n) = x := by rw [hs, if_pos (by omega)]
      exact d1.trans d2.symm
    · skip
      have d1 : u (13) n = v (13) n := by rw [hu, if_neg (by omega), if_neg (by omega), if_neg (by omega)]
      have d2 : z (n) = s (n) := by rw [hs, if_neg (by omega), if_neg (by omega), if_neg (by omega)]
      exact d1.trans ((hR _ _ _ (lk_a hj)).trans d2.symm)
  · have d1 : u (13 + 4 + p) j = v (13 + 4 + p) j := by rw [hu, if_neg (by omega), if_neg (by omega), if_neg (by omega)]
    have d2 : z (4 + 2 * p + j) = s (4 + 2 * p + j) := by rw [hs, if_neg (by omega), if_neg (by omega), if_neg (by omega)]
    exact d1.trans ((hR _ _ _ (lk_p hp (by omega) hj)).trans d2.symm)
  · have d1 : u (13 + 12 + m) j = v (13 + 12 + m) j := by rw [hu, if_neg (by omega), if_neg (by omega), if_neg (by omega)]
    have d2 : z (20 + 2 * m + j) = s (20 + 2 * m + j) := by rw [hs, if_neg (by omega), if_neg (by omega), if_neg (by omega)]
    exact d1.trans ((hR _ _ _ (lk_m hm (by omega) hj)).trans d2.symm)
  · have d1 : u (13 + 12 + m) 2 = v (13 + 12 + m) 2 := by rw [hu, if_neg (by omega), if_neg (by omega), if_neg (by omega)]
    have d2 : z (28 + m) = s (28 + m) := by rw [hs, if_neg (by omega), if_neg (by omega), if_neg (by omega)]
    exact d1.trans ((hR _ _ _ (lk_k_ hm (by omega))).trans d2.symm)
  · have d1 : u (13 + 16 + 15 * c) 0 = v (13 + 16 + 15 * c) 0 := by rw [hu, if_neg (by omega), if_neg (by omega), if_neg (by omega)]
    have d2 : z (34 + 7 * c) = s (34 + 7 * c) := by rw [hs, if_neg (by omega), if_neg (by omega), if_neg (by omega)]
    exact d1.trans ((hR _ _ _ (lk_c0 hc (by omega))).trans d2.symm)
  · have d1 : u (13 + 16 + 15 * c) 2 = v (13 + 16 + 15 * c) 2 := by rw [hu, if_neg (by omega), if_neg (by omega), if_neg (by omega)]
    have d2 : z (36 + 7 * c) = s (36 + 7 * c) := by rw [hs, if_neg (by omega), if_neg (by omega), if_neg (by omega)]
    exact d1.trans ((hR _ _ _ (lk_c2 hc (by omega))).trans d2.symm)
  · have d1 : u (13 + 16 + 15 * c) 3 = v (13 + 16 + 15 * c) 3 := by rw [hu, if_neg (by omega), if_neg (by omega), if_neg (by omega)]
    have d2 : z (37 + 7 * c) = s (37 + 7 * c) := by rw [hs, if_neg (by omega), if_neg (by omega), if_neg (by omega)]
    exact d1.trans ((hR _ _ _ (lk_c3 hc (by omega))).trans d2.symm)
  · have d1 : u (13 + 16 + 15 * c) 5 = v (13 + 16 + 15 * c) 5 := by rw [hu, if_neg (by omega), if_neg (by omega), if_neg (by omega)]
    have d2 : z (38 + 7 * c) = s (38 + 7 * c) := by rw [hs, if_neg (by omega), if_neg (by omega), if_neg (by omega)]
    exact d1.trans ((hR _ _ _ (lk_c5 hc (by omega))).trans d2.symm)
  · have d1 : u (13 + 17 + 15 * c) j = v (13 + 17 + 15 * c) j := by rw [hu, if_neg (by omega), if_neg (by omega), if_neg (by omega)]
    have d2 : z (32 + 7 * c + j) = s (32 + 7 * c + j) := by rw [hs, if_neg (by omega), if_neg (by omega), if_neg (by omega)]
    exact d1.trans ((hR _ _ _ (lk_q hc (by omega) hj)).trans d2.symm)
  · have a36 := A36 c hc
    have d1 : u (13 + 20 + 15 * c + i) j = v (13 + 20 + 15 * c + i) j := by rw [hu, if_neg (by omega), if_neg (by omega), if_neg (by omega)]
    have d2 : z (86 + 10 * c + 2 * j + i) = s (86 + 10 * c + 2 * j + i) := by rw [hs, if_neg (by omega), if_neg (by omega), if_neg (by omega)]
    exact d1.trans ((hR _ _ _ (lk_o hc (by omega) hi hj (by omega))).trans d2.symm)
  · have d1 : u (13 + 23 + 15 * c + i) j = v (13 + 23 + 15 * c + i) j := by rw [hu, if_neg (by omega), if_neg (by omega), if_neg (by omega)]
    have d2 : z (308 + 48 * c + 24 * i + j) = s (308 + 48 * c + 24 * i + j) := by rw [hs, if_neg (by omega), if_neg (by omega), if_neg (by omega)]
    exact d1.trans ((hR _ _ _ (lk_l hc (by omega) hi hj)).trans d2.symm)
  · have a38 := A38 c hc
    have d1 : u (13 + 26 + 15 * c + t) j = v (13 + 26 + 15 * c + t) j := by rw [hu, if_neg (by omega), if_neg (by omega), if_neg (by omega)]
    have d2 : z (158 + 25 * c + 5 * t + j) = s (158 + 25 * c + 5 * t + j) := by rw [hs, if_neg (by omega), if_neg (by omega), if_neg (by omega)]
    exact d1.trans ((hR _ _ _ (lk_t hc (by omega) ht (by omega) hj)).trans d2.symm)

/-- a mark's bit -/
theorem kb_4 : ∀ x : Fin 64, ∀ p : Fin 6, (0 ≤ (Int32.ofNat x.val ||| (1 <<< (Int32.ofNat p.val &&& 31))).toInt ∧ (Int32.ofNat x.val ||| (1 <<< (Int32.ofNat p.val &&& 31))).toInt < 64) ∧ ∀ d : Fin 6, ((btx (Int32.ofNat x.val ||| (1 <<< (Int32.ofNat p.val &&& 31))) (Int32.ofNat d.val)).toInt = 1 ↔ ((btx (Int32.ofNat x.val) (Int32.ofNat d.val)).toInt = 1 ∨ d.val = p.val)) := by decide +kernel
theorem mk_bit {x y : Int32} {P : Nat} (hx : 0 ≤ x.toInt ∧ x.toInt < 64) (hP : P < 6) (hy : y.toInt = (P : Int)) : (0 ≤ (x ||| (1 <<< (y &&& 31))).toInt ∧ (x ||| (1 <<< (y &&& 31))).toInt < 64) ∧ ∀ d : Nat, d < 6 → ((btx (x ||| (1 <<< (y &&& 31))) (Int32.ofNat d)).toInt = 1 ↔ ((btx x (Int32.ofNat d)).toInt = 1 ∨ d = P)) := by
  have zx := t_nn hx.1
  have zy := t_nn (x := y) (by omega)
  have ex := ofn hx.1
  have ey := ofn (x := y) (by omega)
  have eP : y.toNatClampNeg = P := by omega
  rw [eP] at ey
  have k := kb_4 ⟨x.toNatClampNeg, by omega⟩ ⟨P, hP⟩
  refine ⟨?_, fun d hd => ?_⟩
  · have k1 : 0 ≤ (Int32.ofNat x.toNatClampNeg ||| (1 <<< (Int32.ofNat P &&& 31))).toInt ∧ (Int32.ofNat x.toNatClampNeg ||| (1 <<< (Int32.ofNat P &&& 31))).toInt < 64 := k.1
    rw [← ex, ← ey] at k1
    exact k1
  · have k2 : (btx (Int32.ofNat x.toNatClampNeg ||| (1 <<< (Int32.ofNat P &&& 31))) (Int32.ofNat d)).toInt = 1 ↔ ((btx (Int32.ofNat x.toNatClampNeg) (Int32.ofNat d)).toInt = 1 ∨ d = P) := k.2 ⟨d, hd⟩
    rw [← ex, ← ey] at k2
    exact k2
set_option maxHeartbeats 4000000 in
theorem RG_mark {v u : Nat → Nat → Int32} {s z : Nat → Int32} {X Y M : Nat} {x y0 y1 : Int32} (hX : X < 6) (hY : Y < 6) (hM : M < 6) (hXY : X ≠ Y) (hn : (s 3).toInt = (M : Int)) (hx : x.toInt = (s 3).toInt + 1) (h0 : y0.toInt = (X : Int)) (h1 : y1.toInt = (Y : Int)) (hcX : (X : Int) < (s 2).toInt) (hcY : (Y : Int) < (s 2).toInt) (hu : ∀ k j : Nat, u k j = if k = 13 ∧ j = 3 then x else if k = 29 + 15 * Y ∧ j = 4 then v (29 + 15 * Y) 4 ||| (1 <<< (y0 &&& 31)) else if k = 29 + 15 * X ∧ j = 4 then v (29 + 15 * X) 4 ||| (1 <<< (y1 &&& 31)) else v k j) (hs : ∀ n : Nat, z n = if n = 3 then x else if n = 147 + 2 * M then y1 else if n = 146 + 2 * M then y0 else s n) (h : RG 13 v s) : RG 13 u z := by
  have A2 : z 2 = s 2 := by rw [hs, if_neg (by omega), if_neg (by omega), if_neg (by omega)]
  have A3 : (z 3).toInt = (s 3).toInt + 1 := by rw [hs, if_pos rfl]; exact hx
  have eo : ∀ k : Nat, (k : Int) < (s 3).toInt → z (146 + 2 * k) = s (146 + 2 * k) ∧ z (147 + 2 * k) = s (147 + 2 * k) := fun k hk => ⟨by rw [hs, if_neg (by omega), if_neg (by omega), if_neg (by omega)], by rw [hs, if_neg (by omega), if_neg (by omega), if_neg (by omega)]⟩
  have en : z (146 + 2 * M) = y0 ∧ z (147 + 2 * M) = y1 := ⟨by rw [hs, if_neg (by omega), if_neg (by omega), if_pos rfl], by rw [hs, if_neg (by omega), if_pos rfl]⟩
  have key : ∀ a b : Nat, (∃ k : Nat, (k : Int) < (z 3).toInt ∧ mj z k a b) ↔ ((∃ k : Nat, (k : Int) < (s 3).toInt ∧ mj s k a b) ∨ (a = X ∧ b = Y) ∨ (a = Y ∧ b = X)) := fun a b => by
    refine ⟨fun ⟨k, q1, q2⟩ => ?_, fun q => ?_⟩
    · by_cases hk : (k : Int) < (s 3).toInt
      · refine Or.inl ⟨k, hk, ?_⟩
        unfold mj at q2 ⊢
        rw [(eo k hk).1, (eo k hk).2] at q2
        exact q2
      · have ek : k = M := by omega
        subst ek
        unfold mj at q2
        rw [en.1, en.2, h0, h1] at q2
        omega
    · rcases q with ⟨k, q1, q2⟩ | q
      · refine ⟨k, by omega, ?_⟩
        unfold mj at q2 ⊢
        rw [(eo k q1).1, (eo k q1).2]
        exact q2
      · refine ⟨M, by omega, ?_⟩
        unfold mj
        rw [en.1, en.2, h0, h1]
        omega
  refine ⟨fun c hc ha => ?_, fun k hk => ?_⟩
  · rw [A2] at ha
    obtain ⟨g1, g2⟩ := h.1 c hc ha
    by_cases cX : c = X
    · subst cX
      have g0 : u (13 + 16 + 15 * c) 4 = v (29 + 15 * c) 4 ||| (1 <<< (y1 &&& 31)) := by rw [hu, if_neg (by omega), if_neg (by omega), if_pos (by omega)]
      obtain ⟨b1, b2⟩ := mk_bit (x := v (29 + 15 * c) 4) g1 hY h1
      unfold GC
      rw [g0]
      refine ⟨b1, fun d hd => (b2 d hd).trans (((or_congr (g2 d hd) Iff.rfl).trans ?_).trans (key c d).symm)⟩
      refine or_congr Iff.rfl ⟨fun q => Or.inl ⟨rfl, q⟩, fun q => ?_⟩
      omega
    · by_cases cY : c = Y
      · subst cY
        have g0 : u (13 + 16 + 15 * c) 4 = v (29 + 15 * c) 4 ||| (1 <<< (y0 &&& 31)) := by rw [hu, if_neg (by omega), if_pos (by omega)]
        obtain ⟨b1, b2⟩ := mk_bit (x := v (29 + 15 * c) 4) g1 hX h0
        unfold GC
        rw [g0]
        refine ⟨b1, fun d hd => (b2 d hd).trans (((or_congr (g2 d hd) Iff.rfl).trans ?_).trans (key c d).symm)⟩
        refine or_congr Iff.rfl ⟨fun q => Or.inr ⟨rfl, q⟩, fun q => ?_⟩
        omega
      · have g0 : u (13 + 16 + 15 * c) 4 = v (13 + 16 + 15 * c) 4 := by rw [hu, if_neg (by omega), if_neg (by omega), if_neg (by omega)]
        unfold GC
        rw [g0]
        refine ⟨g1, fun d hd => (g2 d hd).trans (Iff.trans ⟨fun q => Or.inl q, fun q => ?_⟩ (key c d).symm)⟩
        rcases q with q | q
        · exact q
        · exfalso
          omega
  · rw [A2]
    by_cases hk2 : (k : Int) < (s 3).toInt
    · rw [(eo k hk2).1, (eo k hk2).2]
      exact h.2 k hk2
    · have ek : k = M := by omega
      subst ek
      rw [en.1, en.2]
      omega

set_option maxHeartbeats 4000000 in
theorem T_mark {n r r2 x0 x1 : Int32} {v u v2 u2 : Nat → Nat → Int32} (hI : Iv v) (hQ : Ir v2) (h : RR n v v2) (p : (¬ ((0 ≤ x0.toInt ∧ x0.toInt < (v 13 2).toInt) ∧ (0 ≤ x1.toInt ∧ x1.toInt < (v 13 2).toInt) ∧ x0.toInt ≠ x1.toInt) → r = -1 ∧ u = v) ∧ (((0 ≤ x0.toInt ∧ x0.toInt < (v 13 2).toInt) ∧ (0 ≤ x1.toInt ∧ x1.toInt < (v 13 2).toInt) ∧ x0.toInt ≠ x1.toInt) ∧ (btx (v (29 + 15 * x0.toNatClampNeg) 4) x1).toInt = 1 → r = -3 ∧ u = v) ∧ (((0 ≤ x0.toInt ∧ x0.toInt < (v 13 2).toInt) ∧ (0 ≤ x1.toInt ∧ x1.toInt < (v 13 2).toInt) ∧ x0.toInt ≠ x1.toInt) ∧ (btx (v (29 + 15 * x0.toNatClampNeg) 4) x1).toInt ≠ 1 ∧ 6 ≤ (v 13 3).toInt → r = -2 ∧ u = v) ∧ (((0 ≤ x0.toInt ∧ x0.toInt < (v 13 2).toInt) ∧ (0 ≤ x1.toInt ∧ x1.toInt < (v 13 2).toInt) ∧ x0.toInt ≠ x1.toInt) ∧ (btx (v (29 + 15 * x0.toNatClampNeg) 4) x1).toInt ≠ 1 ∧ (v 13 3).toInt < 6 → r = v 13 3 + 1 ∧ (∀ k j : Nat, u k j = if k = 13 ∧ j = 3 then v 13 3 + 1 else if k = 29 + 15 * x1.toNatClampNeg ∧ j = 4 then v (29 + 15 * x1.toNatClampNeg) 4 ||| (1 <<< (x0 &&& 31)) else if k = 29 + 15 * x0.toNatClampNeg ∧ j = 4 then v (29 + 15 * x0.toNatClampNeg) 4 ||| (1 <<< (x1 &&& 31)) else v k j))) (q : (¬ ((0 ≤ x0.toInt ∧ x0.toInt < (v2 1 2).toInt) ∧ (0 ≤ x1.toInt ∧ x1.toInt < (v2 1 2).toInt) ∧ x0.toInt ≠ x1.toInt) → r2 = -1 ∧ u2 = v2) ∧ (((0 ≤ x0.toInt ∧ x0.toInt < (v2 1 2).toInt) ∧ (0 ≤ x1.toInt ∧ x1.toInt < (v2 1 2).toInt) ∧ x0.toInt ≠ x1.toInt) ∧ (∃ k : Nat, (k : Int) < (v2 1 3).toInt ∧ mk (v2 1) k x0 x1) → r2 = -3 ∧ u2 = v2) ∧ (((0 ≤ x0.toInt ∧ x0.toInt < (v2 1 2).toInt) ∧ (0 ≤ x1.toInt ∧ x1.toInt < (v2 1 2).toInt) ∧ x0.toInt ≠ x1.toInt) ∧ ¬ (∃ k : Nat, (k : Int) < (v2 1 3).toInt ∧ mk (v2 1) k x0 x1) ∧ (v2 1 3).toInt = 6 → r2 = -2 ∧ u2 = v2) ∧ (((0 ≤ x0.toInt ∧ x0.toInt < (v2 1 2).toInt) ∧ (0 ≤ x1.toInt ∧ x1.toInt < (v2 1 2).toInt) ∧ x0.toInt ≠ x1.toInt) ∧ ¬ (∃ k : Nat, (k : Int) < (v2 1 3).toInt ∧ mk (v2 1) k x0 x1) ∧ (v2 1 3).toInt ≠ 6 → r2 = v2 1 3 + 1 ∧ (∀ n : Nat, u2 1 n = if n = 3 then v2 1 3 + 1 else if n = 147 + 2 * (v2 1 3).toNatClampNeg then x1 else if n = 146 + 2 * (v2 1 3).toNatClampNeg then x0 else v2 1 n) ∧ (∀ k : Nat, k ≠ 1 → u2 k = v2 k))) : r = r2 ∧ RR n u u2 := by
  have e0 : v 13 0 = v2 1 0 := h.1.1 _ _ _ (lk_a (by decide))
  have e1 : v 13 1 = v2 1 1 := h.1.1 _ _ _ (lk_a (by decide))
  have e2 : v 13 2 = v2 1 2 := h.1.1 _ _ _ (lk_a (by decide))
  have e3 : v 13 3 = v2 1 3 := h.1.1 _ _ _ (lk_a (by decide))
  have hb0 := hQ 1 0 8 (by decide)
  have hb1 := hQ 1 1 4 (by decide)
  have hb2 := hQ 1 2 6 (by decide)
  have hb3 := hQ 1 3 6 (by decide)
  rw [e2, e3] at p
  by_cases hC : (0 ≤ x0.toInt ∧ x0.toInt < (v2 1 2).toInt) ∧ (0 ≤ x1.toInt ∧ x1.toInt < (v2 1 2).toInt) ∧ x0.toInt ≠ x1.toInt
  · have zX := t_nn (x := x0) (by omega)
    have hX : x0.toNatClampNeg < 6 := by omega
    have ha : (x0.toNatClampNeg : Int) < (v2 1 2).toInt := by omega
    have zY := t_nn (x := x1) (by omega)
    have hY : x1.toNatClampNeg < 6 := by omega
    have hb : (x1.toNatClampNeg : Int) < (v2 1 2).toInt := by omega
    have hXY : x0.toNatClampNeg ≠ x1.toNatClampNeg := by omega
    obtain ⟨g1, g2⟩ := h.1.2.2.2.1 _ hX ha
    have g3 := g2 _ hY
    rw [← ofn (x := x1) (by omega)] at g3
    have g4 : (btx (v (29 + 15 * x0.toNatClampNeg) 4) x1).toInt = 1 ↔ ∃ k : Nat, (k : Int) < (v2 1 3).toInt ∧ mk (v2 1) k x0 x1 := g3.trans ⟨fun ⟨k, a, b⟩ => ⟨k, a, by unfold mj at b; unfold mk; omega⟩, fun ⟨k, a, b⟩ => ⟨k, a, by unfold mk at b; unfold mj; omega⟩⟩
    by_cases hT : ∃ k : Nat, (k : Int) < (v2 1 3).toInt ∧ mk (v2 1) k x0 x1
    · obtain ⟨p1, p2⟩ := p.2.1 ⟨hC, g4.mpr hT⟩
      obtain ⟨q1, q2⟩ := q.2.1 ⟨hC, hT⟩
      rw [p1, q1, p2, q2]
      exact ⟨rfl, h⟩
    · have hN : (btx (v (29 + 15 * x0.toNatClampNeg) 4) x1).toInt ≠ 1 := fun w => hT (g4.mp w)
      by_cases hD : (v2 1 3).toInt = 6
      · obtain ⟨p1, p2⟩ := p.2.2.1 ⟨hC, hN, by omega⟩
        obtain ⟨q1, q2⟩ := q.2.2.1 ⟨hC, hT, hD⟩
        rw [p1, q1, p2, q2]
        exact ⟨rfl, h⟩
      · obtain ⟨p1, p2⟩ := p.2.2.2 ⟨hC, hN, by omega⟩
        obtain ⟨q1, q2, q3⟩ := q.2.2.2 ⟨hC, hT, hD⟩
        have zM := t_nn (x := v2 1 3) (by omega)
        have hM : (v2 1 3).toNatClampNeg < 6 := by omega
        have k1 : (1 : Int32).toInt = 1 := by decide
        have hx : (v2 1 3 + 1).toInt = (v2 1 3).toInt + 1 := by rw [t_add (by rw [k1]; omega), k1]
        clear hT hN g4 g3 g2 p q
        exact ⟨by rw [p1, q1], h.wr q3 (funext fun j => by rw [p2, if_neg (by omega), if_neg (by omega), if_neg (by omega)]) (fun k hk => funext fun j => by rw [p2, if_neg (by omega), if_neg (by omega), if_neg (by omega)]) ⟨RL_mark hX hY hM p2 q2 h.1.1, h.1.2.1.cg (by rw [q2, if_neg (by omega), if_neg (by omega), if_neg (by omega)]) (fun c hc => ⟨by rw [p2, if_neg (by omega), if_neg (by omega), if_neg (by omega)], by rw [p2, if_neg (by omega), if_neg (by omega), if_neg (by omega)], by rw [p2, if_neg (by omega), if_neg (by omega), if_neg (by omega)]⟩) (fun c hc => ⟨by rw [q2, if_neg (by omega), if_neg (by omega), if_neg (by omega)], by rw [q2, if_neg (by omega), if_neg (by omega), if_neg (by omega)], by rw [q2, if_neg (by omega), if_neg (by omega), if_neg (by omega)], by rw [q2, if_neg (by omega), if_neg (by omega), if_neg (by omega)]⟩), h.1.2.2.1.cg (by rw [q2, if_neg (by omega), if_neg (by omega), if_neg (by omega)]) (by rw [q2, if_neg (by omega), if_neg (by omega), if_neg (by omega)]) (fun m hm => by rw [q2, if_neg (by omega), if_neg (by omega), if_neg (by omega)]), RG_mark hX hY hM hXY zM.symm hx zX.symm zY.symm ha hb p2 q2 h.1.2.2.2⟩⟩
  · obtain ⟨p1, p2⟩ := p.1 hC
    obtain ⟨q1, q2⟩ := q.1 hC
    rw [p1, q1, p2, q2]
    exact ⟨rfl, h⟩

set_option maxHeartbeats 4000000 in
/-- what is in use is copied: the relation goes with it -/
theorem RQ.copy {b d : Nat} {v u : Nat → Nat → Int32} {s z : Nat → Int32} (h : RQ b v s) (hc0 : ∀ o j : Nat, lvH v b o j → u (d + o) j = v (b + o) j) (hz : ∀ n : Nat, n < 596 → z n = s n) (h3 : (s 3).toInt ≤ 6) : RQ d u z := by
  have e0 : v b 0 = s 0 := h.1 _ _ _ (lk_a (by decide))
  have e1 : v b 1 = s 1 := h.1 _ _ _ (lk_a (by decide))
  have e2 : v b 2 = s 2 := h.1 _ _ _ (lk_a (by decide))
  have hcc : ∀ o j : Nat, lvH v b o j → ∀ K L : Nat, K = d + o → L = b + o → u K j = v L j := fun o j hl K L hK hL => by
    subst hK
    subst hL
    exact hc0 o j hl
  have hca : ∀ c q j : Nat, c < 6 → (c : Int) < (s 2).toInt → lvC (v (b + 16 + 15 * c)) q j → lvH v b (16 + 15 * c + q) j := fun c q j h1 h2 h3 => Or.inr (Or.inr (Or.inr ⟨c, q, h1, by rw [e2]; exact h2, rfl, h3⟩))
  have z0 := hz 0 (by decide)
  have z1 := hz 1 (by decide)
  have z2 := hz 2 (by decide)
  have z3 := hz 3 (by decide)
  refine ⟨?_, ?_, ?_, ?_⟩
  · intro k j n hl
    rw [hz n (lk_k hl).2]
    unfold lk at hl
    rw [z0, z1, z2] at hl
    rcases hl with ⟨rfl, hj, rfl⟩ | ⟨p, hp, ha, hj, rfl, rfl⟩ | ⟨m, hm, ha, hj, rfl, rfl⟩ | ⟨m, hm, ha, rfl, rfl, rfl⟩ | ⟨c, hc, ha, rfl, rfl, rfl⟩ | ⟨c, hc, ha, rfl, rfl, rfl⟩ | ⟨c, hc, ha, rfl, rfl, rfl⟩ | ⟨c, hc, ha, rfl, rfl, rfl⟩ | ⟨c, hc, ha, hj, rfl, rfl⟩ | ⟨c, i, hc, ha, hi, hj, hr, rfl, rfl⟩ | ⟨c, i, hc, ha, hi, hj, rfl, rfl⟩ | ⟨c, t, hc, ha, ht, hr, hj, rfl, rfl⟩
    · exact (hcc 0 n (Or.inl ⟨rfl, hj⟩) _ b rfl rfl).trans (h.1 _ _ _ (lk_a hj))
    · exact (hcc (4 + p) j (Or.inr (Or.inl ⟨by omega, by omega, by rw [e0]; omega, hj⟩)) _ (b + 4 + p) (by omega) (by omega)).trans (h.1 _ _ _ (lk_p hp ha hj))
    · exact (hcc (12 + m) j (Or.inr (Or.inr (Or.inl ⟨by omega, by omega, by rw [e1]; omega, by omega⟩))) _ (b + 12 + m) (by omega) (by omega)).trans (h.1 _ _ _ (lk_m hm ha hj))
    · exact (hcc (12 + m) 2 (Or.inr (Or.inr (Or.inl ⟨by omega, by omega, by rw [e1]; omega, by omega⟩))) _ (b + 12 + m) (by omega) (by omega)).trans (h.1 _ _ _ (lk_k_ hm ha))
    · exact (hcc (16 + 15 * c + 0) 0 (hca c 0 0 hc ha (Or.inl ⟨rfl, by omega⟩)) _ (b + 16 + 15 * c) (by omega) (by omega)).trans (h.1 _ _ _ (lk_c0 hc ha))
    · exact (hcc (16 + 15 * c + 0) 2 (hca c 0 2 hc ha (Or.inl ⟨rfl, by omega⟩)) _ (b + 16 + 15 * c) (by omega) (by omega)).trans (h.1 _ _ _ (lk_c2 hc ha))
    · exact (hcc (16 + 15 * c + 0) 3 (hca c 0 3 hc ha (Or.inl ⟨rfl, by omega⟩)) _ (b + 16 + 15 * c) (by omega) (by omega)).trans (h.1 _ _ _ (lk_c3 hc ha))
    · exact (hcc (16 + 15 * c + 0) 5 (hca c 0 5 hc ha (Or.inl ⟨rfl, by omega⟩)) _ (b + 16 + 15 * c) (by omega) (by omega)).trans (h.1 _ _ _ (lk_c5 hc ha))
    · exact (hcc (16 + 15 * c + 1) j (hca c 1 j hc ha (Or.inr (Or.inl ⟨rfl, hj⟩))) _ (b + 17 + 15 * c) (by omega) (by omega)).trans (h.1 _ _ _ (lk_q hc ha hj))
    · rw [hz (36 + 7 * c) (by omega)] at hr
      have w := h.1 _ _ _ (lk_c2 hc ha)
      exact (hcc (16 + 15 * c + (4 + i)) j (hca c (4 + i) j hc ha (by unfold lvC; rw [w]; omega)) _ (b + 20 + 15 * c + i) (by omega) (by omega)).trans (h.1 _ _ _ (lk_o hc ha hi hj hr))
    · exact (hcc (16 + 15 * c + (7 + i)) j (hca c (7 + i) j hc ha (by unfold lvC; omega)) _ (b + 23 + 15 * c + i) (by omega) (by omega)).trans (h.1 _ _ _ (lk_l hc ha hi hj))
    · rw [hz (38 + 7 * c) (by omega)] at hr
      have w := h.1 _ _ _ (lk_c5 hc ha)
      exact (hcc (16 + 15 * c + (10 + t)) j (hca c (10 + t) j hc ha (by unfold lvC; rw [w]; omega)) _ (b + 26 + 15 * c + t) (by omega) (by omega)).trans (h.1 _ _ _ (lk_t hc ha ht hr hj))
  · intro c hc ha
    rw [z2] at ha
    have g0 := hcc (16 + 15 * c + 0) 1 (hca c 0 1 hc ha (Or.inl ⟨rfl, by omega⟩)) (d + 16 + 15 * c) (b + 16 + 15 * c) (by omega) (by omega)
    have g1 := hcc (16 + 15 * c + 2) 0 (hca c 2 0 hc ha (Or.inr (Or.inr (Or.inl ⟨rfl, by omega⟩)))) (d + 18 + 15 * c) (b + 18 + 15 * c) (by omega) (by omega)
    have g2 := hcc (16 + 15 * c + 2) 1 (hca c 2 1 hc ha (Or.inr (Or.inr (Or.inl ⟨rfl, by omega⟩)))) (d + 18 + 15 * c) (b + 18 + 15 * c) (by omega) (by omega)
    rw [g0, g1, g2, hz (34 + 7 * c) (by omega), hz (35 + 7 * c) (by omega), hz (74 + 2 * c) (by omega), hz (75 + 2 * c) (by omega)]
    exact h.2.1 c hc ha
  · intro m hm ha
    rw [z1] at ha
    rw [z0, hz (28 + m) (by omega)]
    exact h.2.2.1 m hm ha
  · have key : ∀ k a b : Nat, (k : Int) < (s 3).toInt → (mj z k a b ↔ mj s k a b) := fun k a b hk => by
      unfold mj
      rw [hz (146 + 2 * k) (by omega), hz (147 + 2 * k) (by omega)]
    refine ⟨fun c hc ha => ?_, fun k hk => ?_⟩
    · rw [z2] at ha
      have g0 := hcc (16 + 15 * c + 0) 4 (hca c 0 4 hc ha (Or.inl ⟨rfl, by omega⟩)) (d + 16 + 15 * c) (b + 16 + 15 * c) (by omega) (by omega)
      obtain ⟨g1, g2⟩ := h.2.2.2.1 c hc ha
      unfold GC
      rw [g0, z3]
      exact ⟨g1, fun e he => (g2 e he).trans ⟨fun ⟨k, q1, q2⟩ => ⟨k, q1, (key k c e q1).mpr q2⟩, fun ⟨k, q1, q2⟩ => ⟨k, q1, (key k c e q1).mp q2⟩⟩⟩
    · rw [z3] at hk
      rw [z2, hz (146 + 2 * k) (by omega), hz (147 + 2 * k) (by omega)]
      exact h.2.2.2.2 k hk
section RKB
variable {n r r2 x0 : Int32} {v u v2 u2 : Nat → Nat → Int32}
theorem T_rooms (h : RR n v v2) (p : (¬ (1 ≤ x0.toInt ∧ x0.toInt ≤ 2) → r = -1 ∧ u = v) ∧ (1 ≤ x0.toInt ∧ x0.toInt ≤ 2 → r = v 0 4 ∧ (∀ k j : Nat, u k j = if k = 0 ∧ j = 4 then x0 else v k j))) (q : ((¬ (1 ≤ x0.toInt ∧ x0.toInt ≤ 2) ∧ r2 = -1 ∧ u2 = v2) ∨ ((1 ≤ x0.toInt ∧ x0.toInt ≤ 2) ∧ r2 = v2 0 3 ∧ u2 0 3 = x0 ∧ u2 1 = v2 1 ∧ u2 2 = v2 2 ∧ u2 0 2 = v2 0 2))) : r = r2 ∧ RR n u u2 := by
  by_cases hC : 1 ≤ x0.toInt ∧ x0.toInt ≤ 2
  · obtain ⟨p1, p2⟩ := p.2 hC
    rcases q with ⟨q1, -⟩ | ⟨q1, q2, q3, q4, q5, q6⟩
    · exact absurd hC q1
    · have hk : ∀ k : Nat, 13 ≤ k → u k = v k := fun k hk => funext fun j => by rw [p2, if_neg (by omega)]
      obtain ⟨h1, h2, h3, h4⟩ := h
      refine ⟨by rw [p1, q2, h2], by rw [q4]; exact h1.cgv (fun k a _ => hk k a), by rw [p2, if_pos ⟨rfl, rfl⟩, q3], by rw [q6]; exact h3, fun w => by rw [q5]; exact (h4 w).cgv (fun k a _ => hk k (by omega))⟩
  · obtain ⟨p1, p2⟩ := p.1 hC
    rcases q with ⟨-, q2, q3⟩ | ⟨q1, -⟩
    · rw [p1, p2, q2, q3]
      exact ⟨rfl, h⟩
    · exact absurd q1 hC
theorem T_keep (hQ : Ir v2) (h : RR n v v2) (p1 : ∀ o j : Nat, lvH v 13 o j → u (119 + o) j = v (13 + o) j) (p2 : ∀ k : Nat, k < 119 → u k = v k) (q2 : ∀ j : Nat, j < 596 → u2 2 j = v2 1 j) (q3 : u2 1 = v2 1) (q4 : u2 0 2 = 1) (q5 : u2 0 3 = v2 0 3) : RR 1 u u2 := by
  obtain ⟨h1, h2, h3, h4⟩ := h
  have hb3 := hQ 1 3 6 (by decide)
  exact ⟨by rw [q3]; exact h1.cgv (fun k _ a => p2 k (by omega)), by rw [p2 0 (by decide), q5]; exact h2, q4, fun _ => h1.copy p1 q2 hb3.2⟩
theorem T_back0 (h : RR 0 v v2) (p : u = v ∧ r = -5) (q : (((v2 0 2).toInt = 0 ∧ u2 = v2 ∧ r2 = -5) ∨ ((v2 0 2).toInt = 1 ∧ (∀ j : Nat, j < 596 → u2 1 j = v2 2 j) ∧ u2 2 = v2 2 ∧ u2 0 = v2 0 ∧ r2 = 1))) : r = -5 ∧ r2 = -5 ∧ RR 0 u u2 := by
  rcases q with ⟨q1, q2, q3⟩ | ⟨q1, -⟩
  · refine ⟨p.2, q3, ?_⟩
    rw [p.1, q2]
    exact h
  · rw [h.2.2.1] at q1
    exact absurd q1 (by decide)
theorem T_back1 (hQ : Ir v2) (h : RR 1 v v2) (p : ((∀ o j : Nat, lvH v 119 o j → u (13 + o) j = v (119 + o) j) ∧ (∀ k : Nat, (k < 13 ∨ 119 ≤ k) → u k = v k)) ∧ r = 1) (q : (((v2 0 2).toInt = 0 ∧ u2 = v2 ∧ r2 = -5) ∨ ((v2 0 2).toInt = 1 ∧ (∀ j : Nat, j < 596 → u2 1 j = v2 2 j) ∧ u2 2 = v2 2 ∧ u2 0 = v2 0 ∧ r2 = 1))) : r = 1 ∧ r2 = 1 ∧ RR 1 u u2 := by
  rcases q with ⟨q1, -⟩ | ⟨q1, q2, q3, q4, q5⟩
  · rw [h.2.2.1] at q1
    exact absurd q1 (by decide)
  · obtain ⟨h1, h2, h3, h4⟩ := h
    have hb3 := hQ 2 3 6 (by decide)
    refine ⟨p.2, q5, (h4 rfl).copy p.1.1 q2 hb3.2, by rw [p.1.2 0 (by omega), q4]; exact h2, by rw [q4]; exact h3, fun _ => by rw [q3]; exact (h4 rfl).cgv (fun k a _ => p.1.2 k (Or.inr a))⟩
end RKB
theorem side3 (x : Int32) : x = 0 ∨ x = 1 ∨ ¬ (0 ≤ x.toInt ∧ x.toInt ≤ 1) := by
  by_cases h : 0 ≤ x.toInt ∧ x.toInt ≤ 1
  · rcases t_bool h with q | q
    · exact Or.inl q
    · exact Or.inr (Or.inl q)
  · exact Or.inr (Or.inr h)

theorem RQ_0 : RQ 13 v_0 (m_0 1) := by
  have z : (0 : Int32).toInt = 0 := by decide
  refine ⟨fun k j n h => ?_, fun c hc ha => absurd ha (by show ¬ (c : Int) < (0 : Int32).toInt; omega), fun m hm ha => absurd ha (by show ¬ (m : Int) < (0 : Int32).toInt; omega), fun c hc ha => absurd ha (by show ¬ (c : Int) < (0 : Int32).toInt; omega), fun k hk => absurd hk (by show ¬ (k : Int) < (0 : Int32).toInt; omega)⟩
  have q := lk_k h
  rw [v_0n (by omega)]
  rfl
theorem RR_0 : RR 0 v_0 m_0 := ⟨RQ_0, rfl, rfl, fun q => absurd q (by decide)⟩

set_option maxHeartbeats 4000000 in
set_option maxRecDepth 100000 in
theorem e_X7_offer_o (l : Launch) (dC : Nat → ClassId) (dI : Nat → Nat → Nat) (cy : Nat → ClassId) (sz : Nat) (ad : Nat → Nat) (kv : Value) (N : Nat) (hN : 119 ≤ N) (v : Nat → Nat → Int32) (hv : Iv v) (x0 x1 x2 : Int32) (hs : ¬ (0 ≤ x1.toInt ∧ x1.toInt ≤ 1)) : Met l yX7_offer wsX7_offer ({ frames := 3, cells := 0, slots := 0, locals := 192 }) (va_Pc [.ref (ad 0), .int x0, .int x1, .int x2] (ex_Pre dC dI cy sz (wl ad kv cy N v))) (va_Qi (fun (r : Int32) (u : Nat → Nat → Int32) => Iv u ∧ r = -1 ∧ u = v) (fun u t => ex_Pst dC dI (va_A (wl ad kv cy N v) sz) (wl ad kv cy N u) t) (va_A (wl ad kv cy N v) sz)) 0 0 (va_A (wl ad kv cy N v) sz) := by
  refine Met.ofW (cc := cX7_offer) (maxL := 5) (ret := (some .int)) (by decide) rfl ?_
  intro p e s m args below meth c s₁ B hml hv
  obtain ⟨rfl, hsz, hE, hP, hK, hD0⟩ := hv
  have hx := B.exec
  have hb := B.bytes
  have hr := B.returns
  have hts := atoms_spec (ws := wsX7_offer) B.pre
  have hown : s.vm.findClass RX7 = some m.cls := findClass_of_methodNamed B.named
  have hlocks := B.notSynchronized
  subst hsz
  have hD := hD0.self (sz := s.heap.size)
  generalize hAe : va_A (wl ad kv cy N v) s.heap.size = A at hD ⊢
  have hA : ∀ q : Nat, s.heap.size ≤ q → A q := fun q h => by rw [← hAe]; exact Or.inr h
  have hS : va_S A s.heap s.heap [] := va_S.rf
  have hP : va_P (dC, dI) vwCl (wl ad kv cy N v) s.heap := hP
  have hl := lv_entry ([.ref (ad 0), .int x0, .int x1, .int x2]) (n := 5) (Nat.le_of_ble_eq_true rfl)
  rw [lg_entry_eq]
  generalize (lg_sl ([.ref (ad 0), .int x0, .int x1, .int x2]) ++ List.replicate (5 - (lg_sl ([.ref (ad 0), .int x0, .int x1, .int x2])).length) Slot.unset).toArray = ls at hl ⊢
  have hl : lv_has ls 5 [(0, .ref (ad 0)), (1, .int x0), (2, .int x1), (3, .int x2)] := hl
  refine lv_aload_n hx hb dX7_offer_0 rfl (lv_at hl 0 rfl) ?_
  refine lv_iload_n hx hb dX7_offer_1 rfl (lv_at hl 1 rfl) ?_
  refine yw_i (w1 := fun (u : Nat → Nat → Int32) => wl ad kv cy N u) hD hS hA (va_runV (As := [.int x0]) (rest := []) ⟨hx, hb, hml, hown, hts⟩ (g_X7_isCase l dC dI cy _ ad kv N hN v hv x0) (cwV 1 hts gX7_offer_X7_isCase rfl rfl rfl hd_V_X7_isCase_1 ⟨Nat.le_of_ble_eq_true rfl, Nat.le_of_ble_eq_true rfl⟩) (yw_preV hE hK hP hD (ci := 7) (q := (RX7, TX7, 5)) (q0 := 0) rfl (wl_at (by omega) (ce_0 (by decide)))) rfl rfl hl.1 rfl (lv_room (Nat.le_of_ble_eq_true rfl)) dX7_offer_2 ⟨Nat.le_of_ble_eq_true rfl, Nat.le_of_ble_eq_true rfl⟩) (fun r_1 v_1 H locs hw_1 hP hD hS => ?_)
  obtain ⟨-, hu_1, hw_1⟩ := hw_1
  replace hu_1 := hu_1.symm
  subst hu_1
  rcases hw_1 with ⟨rfl, ha_2⟩ | ⟨rfl, ha_2⟩
  · have hb_2 := hv.at (k := 13) (j := 2) (K := 3) (by decide) rfl
    have hj_2 : 0 ≤ x0.toInt ∧ x0.toInt ≤ 5 := ⟨by omega, by omega⟩
    refine lv_if_eq (tgt := 25) hx hb dX7_offer_5 (by decide) (fun c9 => absurd c9 (by decide)) (fun _ => ?_)
    refine lv_iload_n hx hb dX7_offer_8 rfl (lv_at hl 2 rfl) ?_
    refine yc_p hP hS (va_runS (As := [.int x1]) (rest := []) ⟨hx, hb, hml, hown, hts⟩ (c_X7_isSide l x1) (cwS 1 hts gX7_offer_X7_isSide rfl rfl rfl hd_S_X7_isSide_1 ⟨Nat.le_of_ble_eq_true rfl, Nat.le_of_ble_eq_true rfl⟩) ex_preP rfl rfl hl.1 rfl (lv_room (Nat.le_of_ble_eq_true rfl)) dX7_offer_9 ⟨Nat.le_of_ble_eq_true rfl, Nat.le_of_ble_eq_true rfl⟩) (fun r_3 H locs hw_3 hP hS => ?_)
    rcases wi_ca hw_3 with ⟨rfl, hc_4⟩ | ⟨rfl, hc_4⟩
    · have k_0 : (0 : Int32).toInt = 0 := by decide
      have k_1 : (1 : Int32).toInt = 1 := by decide
      have tc_4 := wi_tl hc_4
      exact absurd ⟨by omega, by omega⟩ hs
    · refine lv_if_eq (tgt := 25) hx hb dX7_offer_12 (by decide) (fun _ => ?_) (fun c9 => absurd c9 (by decide))
      refine lv_iconst (v := (-1)) hx hb dX7_offer_25 (by decide) ?_
      exact W.iret (v := (-1)) hx hb hr (fun t ht hW => ⟨⟨(-1), v, rfl, ⟨hv, rfl, rfl⟩, by rw [ht]; exact hP, hD⟩, hS.F ht⟩) hS.2.2 dX7_offer_26
  · refine lv_if_eq (tgt := 25) hx hb dX7_offer_5 (by decide) (fun _ => ?_) (fun c9 => absurd c9 (by decide))
    refine lv_iconst (v := (-1)) hx hb dX7_offer_25 (by decide) ?_
    exact W.iret (v := (-1)) hx hb hr (fun t ht hW => ⟨⟨(-1), v, rfl, ⟨hv, rfl, rfl⟩, by rw [ht]; exact hP, hD⟩, hS.F ht⟩) hS.2.2 dX7_offer_26

set_option maxHeartbeats 4000000 in
set_option maxRecDepth 100000 in
theorem e_X8_offer_o (l : Launch) (dC : Nat → ClassId) (dI : Nat → Nat → Nat) (cy : Nat → ClassId) (sz : Nat) (ad : Nat → Nat) (v : Nat → Nat → Int32) (hv : Ir v) (x0 x1 x2 : Int32) (hs : ¬ (0 ≤ x1.toInt ∧ x1.toInt ≤ 1)) : Met l yX8_offer wsX8_offer ({ frames := 2, cells := 0, slots := 0, locals := 128 }) (va_Pc [.ref (ad 0), .int x0, .int x1, .int x2] (ex_Pre dC dI cy sz (wm ad cy v))) (va_Qi (fun (r : Int32) (u : Nat → Nat → Int32) => Ir u ∧ r = -1 ∧ u = v) (fun u t => ex_Pst dC dI (va_A (wm ad cy v) sz) (wm ad cy u) t) (va_A (wm ad cy v) sz)) 0 0 (va_A (wm ad cy v) sz) := by
  refine Met.ofW (cc := cX8_offer) (maxL := 7) (ret := (some .int)) (by decide) rfl ?_
  intro p e s m args below meth c s₁ B hml hv
  obtain ⟨rfl, hsz, hE, hP, hK, hD0⟩ := hv
  have hx := B.exec
  have hb := B.bytes
  have hr := B.returns
  have hts := atoms_spec (ws := wsX8_offer) B.pre
  have hown : s.vm.findClass RX8 = some m.cls := findClass_of_methodNamed B.named
  have hlocks := B.notSynchronized
  subst hsz
  have hD := hD0.self (sz := s.heap.size)
  generalize hAe : va_A (wm ad cy v) s.heap.size = A at hD ⊢
  have hA : ∀ q : Nat, s.heap.size ≤ q → A q := fun q h => by rw [← hAe]; exact Or.inr h
  have hS : va_S A s.heap s.heap [] := va_S.rf
  have hP : va_P (dC, dI) vwCl (wm ad cy v) s.heap := hP
  have hl := lv_entry ([.ref (ad 0), .int x0, .int x1, .int x2]) (n := 7) (Nat.le_of_ble_eq_true rfl)
  rw [lg_entry_eq]
  generalize (lg_sl ([.ref (ad 0), .int x0, .int x1, .int x2]) ++ List.replicate (7 - (lg_sl ([.ref (ad 0), .int x0, .int x1, .int x2])).length) Slot.unset).toArray = ls at hl ⊢
  have hl : lv_has ls 7 [(0, .ref (ad 0)), (1, .int x0), (2, .int x1), (3, .int x2)] := hl
  refine lv_aload_n hx hb dX8_offer_0 rfl (lv_at hl 0 rfl) ?_
  refine lv_iload_n hx hb dX8_offer_1 rfl (lv_at hl 1 rfl) ?_
  refine yw_i (w1 := fun (u : Nat → Nat → Int32) => wm ad cy u) hD hS hA (va_runV (As := [.int x0]) (rest := []) ⟨hx, hb, hml, hown, hts⟩ (q_X8_isCase l dC dI cy _ ad v hv x0) (cwV 1 hts gX8_offer_X8_isCase rfl rfl rfl hd_V_X8_isCase_1 ⟨Nat.le_of_ble_eq_true rfl, Nat.le_of_ble_eq_true rfl⟩) (yw_preV hE hK hP hD (ci := 8) (q := (RX8, TX8, 11)) (q0 := 0) rfl (wm_at (by decide) rc_0)) rfl rfl hl.1 rfl (lv_room (Nat.le_of_ble_eq_true rfl)) dX8_offer_2 ⟨Nat.le_of_ble_eq_true rfl, Nat.le_of_ble_eq_true rfl⟩) (fun r_1 v_1 H locs hw_1 hP hD hS => ?_)
  obtain ⟨-, hu_1, hw_1⟩ := hw_1
  replace hu_1 := hu_1.symm
  subst hu_1
  rcases hw_1 with ⟨rfl, ha_2⟩ | ⟨rfl, ha_2⟩
  · have hb_2 := hv 1 2 6 (by decide)
    have hj_2 : 0 ≤ x0.toInt ∧ x0.toInt ≤ 5 := ⟨by omega, by omega⟩
    refine lv_if_eq (tgt := 25) hx hb dX8_offer_5 (by decide) (fun c9 => absurd c9 (by decide)) (fun _ => ?_)
    refine lv_iload_n hx hb dX8_offer_8 rfl (lv_at hl 2 rfl) ?_
    refine yc_p hP hS (va_runS (As := [.int x1]) (rest := []) ⟨hx, hb, hml, hown, hts⟩ (c_X8_isSide l x1) (cwS 1 hts gX8_offer_X8_isSide rfl rfl rfl hd_S_X8_isSide_1 ⟨Nat.le_of_ble_eq_true rfl, Nat.le_of_ble_eq_true rfl⟩) ex_preP rfl rfl hl.1 rfl (lv_room (Nat.le_of_ble_eq_true rfl)) dX8_offer_9 ⟨Nat.le_of_ble_eq_true rfl, Nat.le_of_ble_eq_true rfl⟩) (fun r_3 H locs hw_3 hP hS => ?_)
    rcases wi_ca hw_3 with ⟨rfl, hc_4⟩ | ⟨rfl, hc_4⟩
    · have k_0 : (0 : Int32).toInt = 0 := by decide
      have k_1 : (1 : Int32).toInt = 1 := by decide
      have tc_4 := wi_tl hc_4
      exact absurd ⟨by omega, by omega⟩ hs
    · refine lv_if_eq (tgt := 25) hx hb dX8_offer_12 (by decide) (fun _ => ?_) (fun c9 => absurd c9 (by decide))
      refine lv_iconst (v := (-1)) hx hb dX8_offer_25 (by decide) ?_
      exact W.iret (v := (-1)) hx hb hr (fun t ht hW => ⟨⟨(-1), v, rfl, ⟨hv, rfl, rfl⟩, by rw [ht]; exact hP, hD⟩, hS.F ht⟩) hS.2.2 dX8_offer_26
  · refine lv_if_eq (tgt := 25) hx hb dX8_offer_5 (by decide) (fun _ => ?_) (fun c9 => absurd c9 (by decide))
    refine lv_iconst (v := (-1)) hx hb dX8_offer_25 (by decide) ?_
    exact W.iret (v := (-1)) hx hb hr (fun t ht hW => ⟨⟨(-1), v, rfl, ⟨hv, rfl, rfl⟩, by rw [ht]; exact hP, hD⟩, hS.F ht⟩) hS.2.2 dX8_offer_26

set_option maxHeartbeats 4000000 in
set_option maxRecDepth 100000 in
theorem e_X7_isTerm (l : Launch) (dC : Nat → ClassId) (dI : Nat → Nat → Nat) (cy : Nat → ClassId) (sz : Nat) (ad : Nat → Nat) (kv : Value) (N : Nat) (hN : 119 ≤ N) (v : Nat → Nat → Int32) (hv : Iv v) (x0 x1 : Int32) : Met l yX7_isTerm wsX7_isTerm ({ frames := 2, cells := 0, slots := 0, locals := 128 }) (va_Pc [.ref (ad 0), .int x0, .int x1] (ex_Pre dC dI cy sz (wl ad kv cy N v))) (va_Qi (fun (r : Int32) (u : Nat → Nat → Int32) => Iv u ∧ u = v ∧ ((r = 1 ∧ (0 ≤ x0.toInt ∧ x0.toInt < (v 13 2).toInt) ∧ 0 ≤ x1.toInt ∧ x1.toInt < (v (29 + 15 * x0.toNatClampNeg) 5).toInt) ∨ (r = 0 ∧ ¬ ((0 ≤ x0.toInt ∧ x0.toInt < (v 13 2).toInt) ∧ 0 ≤ x1.toInt ∧ x1.toInt < (v (29 + 15 * x0.toNatClampNeg) 5).toInt)))) (fun u t => ex_Pst dC dI (va_A (wl ad kv cy N v) sz) (wl ad kv cy N u) t) (va_A (wl ad kv cy N v) sz)) 0 0 (va_A (wl ad kv cy N v) sz) := by
  refine Met.ofW (cc := cX7_isTerm) (maxL := 3) (ret := (some .boolean)) (by decide) rfl ?_
  intro p e s m args below meth c s₁ B hml hv
  obtain ⟨rfl, hsz, hE, hP, hK, hD0⟩ := hv
  have hx := B.exec
  have hb := B.bytes
  have hr := B.returns
  have hts := atoms_spec (ws := wsX7_isTerm) B.pre
  have hown : s.vm.findClass RX7 = some m.cls := findClass_of_methodNamed B.named
  have hlocks := B.notSynchronized
  subst hsz
  have hD := hD0.self (sz := s.heap.size)
  generalize hAe : va_A (wl ad kv cy N v) s.heap.size = A at hD ⊢
  have hA : ∀ q : Nat, s.heap.size ≤ q → A q := fun q h => by rw [← hAe]; exact Or.inr h
  have hS : va_S A s.heap s.heap [] := va_S.rf
  have hP : va_P (dC, dI) vwCl (wl ad kv cy N v) s.heap := hP
  have hl := lv_entry ([.ref (ad 0), .int x0, .int x1]) (n := 3) (Nat.le_of_ble_eq_true rfl)
  rw [lg_entry_eq]
  generalize (lg_sl ([.ref (ad 0), .int x0, .int x1]) ++ List.replicate (3 - (lg_sl ([.ref (ad 0), .int x0, .int x1])).length) Slot.unset).toArray = ls at hl ⊢
  have hl : lv_has ls 3 [(0, .ref (ad 0)), (1, .int x0), (2, .int x1)] := hl
  refine lv_aload_n hx hb dX7_isTerm_0 rfl (lv_at hl 0 rfl) ?_
  refine lv_iload_n hx hb dX7_isTerm_1 rfl (lv_at hl 1 rfl) ?_
  refine yw_i (w1 := fun (u : Nat → Nat → Int32) => wl ad kv cy N u) hD hS hA (va_runV (As := [.int x0]) (rest := []) ⟨hx, hb, hml, hown, hts⟩ (g_X7_isCase l dC dI cy _ ad kv N hN v hv x0) (cwV 1 hts gX7_isTerm_X7_isCase rfl rfl rfl hd_V_X7_isCase_1 ⟨Nat.le_of_ble_eq_true rfl, Nat.le_of_ble_eq_true rfl⟩) (yw_preV hE hK hP hD (ci := 7) (q := (RX7, TX7, 5)) (q0 := 0) rfl (wl_at (by omega) (ce_0 (by decide)))) rfl rfl hl.1 rfl (lv_room (Nat.le_of_ble_eq_true rfl)) dX7_isTerm_2 ⟨Nat.le_of_ble_eq_true rfl, Nat.le_of_ble_eq_true rfl⟩) (fun r_1 v_1 H locs hw_1 hP hD hS => ?_)
  obtain ⟨-, hu_1, hw_1⟩ := hw_1
  replace hu_1 := hu_1.symm
  subst hu_1
  rcases hw_1 with ⟨rfl, ha_2⟩ | ⟨rfl, ha_2⟩
  · have hb_2 := hv.at (k := 13) (j := 2) (K := 3) (by decide) rfl
    have hj_2 : 0 ≤ x0.toInt ∧ x0.toInt ≤ 5 := ⟨by omega, by omega⟩
    refine lv_if_eq (tgt := 34) hx hb dX7_isTerm_5 (by decide) (fun c9 => absurd c9 (by decide)) (fun _ => ?_)
    refine lv_iload_n hx hb dX7_isTerm_8 rfl (lv_at hl 2 rfl) ?_
    refine lv_iconst (v := 0) hx hb dX7_isTerm_9 (by decide) ?_
    refine lv_aload_n hx hb dX7_isTerm_10 rfl (lv_at hl 0 rfl) ?_
    refine va_get (D := (dC, dI)) (ci := 7) (v := .ref (ad 13)) (C := RX7) (T := TX7) (N := 5) hx hb hts iwX7_isTerm_X7 hown hK hP (0) (wl_at (by omega) (ce_0 (by decide))) rfl 0 (by decide) (hts (.fieldLink RX7 12 "QuietStairs" "now" "LQuietStairs$House;") fwX7_isTerm_1) (fun _ h9 => h9) rfl dX7_isTerm_11 ?_
    refine va_get (D := (dC, dI)) (ci := 1) (v := .ref (ad 16)) (C := RX1) (T := TX1) (N := 7) hx hb hts iwX7_isTerm_X1 hown hK hP (13) (wl_at (by omega) (ce_3 (by decide))) rfl 6 (by decide) (hts (.fieldLink RX7 86 "QuietStairs$House" "cases" "[LQuietStairs$Case;") fwX7_isTerm_2) (fun _ h9 => h9) rfl dX7_isTerm_14 ?_
    refine lv_iload_n hx hb dX7_isTerm_17 rfl (lv_at hl 1 rfl) ?_
    have zn_x0 : (x0.toNatClampNeg : Int) = x0.toInt := t_nn (by omega)
    have hx_3 : x0.toNatClampNeg < 6 := by omega
    refine va_aldq hx hb hK hP (16) 3 (wl_at (by omega) (ce_6 (by decide))) rfl (vp_in_iff.mpr ⟨by omega, by omega⟩) dX7_isTerm_18 ?_
    refine W.eq (g2 := F0 m 19 ls [.ref (ad (29 + 15 * x0.toNatClampNeg)), .int 0, .int x1]) (by rw [if_pos hx_3, show 16 + 13 + 15 * x0.toNatClampNeg = 29 + 15 * x0.toNatClampNeg from by omega]; rfl) ?_
    refine va_get (D := (dC, dI)) (ci := 0) (v := .int (v (29 + 15 * x0.toNatClampNeg) 5)) (C := RX0) (T := TX0) (N := 11) hx hb hts iwX7_isTerm_X0 hown hK hP (29 + 15 * x0.toNatClampNeg) (wl_at (by omega) (ce_9 (kd_c _ hx_3).1.1)) rfl 5 (by decide) (hts (.fieldLink RX7 169 "QuietStairs$Case" "termCount" "I") fwX7_isTerm_3) (fun _ h9 => h9) rfl dX7_isTerm_19 ?_
    refine lv_topi (fun x_4 ex_4 => ?_)
    have bzx_4 : 0 ≤ x_4.toInt ∧ x_4.toInt ≤ 5 := by rw [ex_4]; exact hv.at (K := 9) (kd_c _ hx_3).1.1 rfl
    have qx_4 : x_4.toInt = (v (29 + 15 * x0.toNatClampNeg) (5)).toInt := congrArg Int32.toInt ex_4
    refine lv_iconst (v := 1) hx hb dX7_isTerm_22 (by decide) ?_
    refine lv_isub hx hb dX7_isTerm_23 ?_
    refine lv_topi (fun x_5 ex_5 => ?_)
    have k_1 : (1 : Int32).toInt = 1 := by decide
    have tx_5 : x_5.toInt = x_4.toInt - (1 : Int32).toInt := by rw [ex_5]; exact t_sub ⟨by omega, by omega⟩
    refine yc_p hP hS (va_runS (As := [.int x1, .int 0, .int x_5]) (rest := []) ⟨hx, hb, hml, hown, hts⟩ (c_X7_isWithin l x1 0 x_5) (cwS 3 hts gX7_isTerm_X7_isWithin rfl rfl rfl hd_S_X7_isWithin_3 ⟨Nat.le_of_ble_eq_true rfl, Nat.le_of_ble_eq_true rfl⟩) ex_preP rfl rfl hl.1 rfl (lv_room (Nat.le_of_ble_eq_true rfl)) dX7_isTerm_24 ⟨Nat.le_of_ble_eq_true rfl, Nat.le_of_ble_eq_true rfl⟩) (fun r_6 H locs hw_6 hP hS => ?_)
    rcases wi_ca hw_6 with ⟨rfl, hc_7⟩ | ⟨rfl, hc_7⟩
    · have k_0 : (0 : Int32).toInt = 0 := by decide
      have tc_7 := wi_tl hc_7
      refine lv_if_eq (tgt := 34) hx hb dX7_isTerm_27 (by decide) (fun c9 => absurd c9 (by decide)) (fun _ => ?_)
      refine lv_iconst (v := 1) hx hb dX7_isTerm_30 (by decide) ?_
      refine lv_goto (tgt := 35) hx hb dX7_isTerm_31 (by decide) ?_
      exact W.zret (ty := .boolean) (v := 1) hx hb hr rfl (fun t ht hW => ⟨⟨1, v, rfl, ⟨hv, rfl, Or.inl ⟨rfl, ⟨by omega, by omega⟩, by omega, by omega⟩⟩, by rw [ht]; exact hP, hD⟩, hS.F ht⟩) hS.2.2 dX7_isTerm_35
    · have k_0 : (0 : Int32).toInt = 0 := by decide
      have tc_7 : ¬ ((0 : Int32).toInt ≤ x1.toInt ∧ x1.toInt ≤ x_5.toInt) := fun q => hc_7 ⟨Int32.le_iff_toInt_le.mpr q.1, Int32.le_iff_toInt_le.mpr q.2⟩
      refine lv_if_eq (tgt := 34) hx hb dX7_isTerm_27 (by decide) (fun _ => ?_) (fun c9 => absurd c9 (by decide))
      refine lv_iconst (v := 0) hx hb dX7_isTerm_34 (by decide) ?_
      exact W.zret (ty := .boolean) (v := 0) hx hb hr rfl (fun t ht hW => ⟨⟨0, v, rfl, ⟨hv, rfl, Or.inr ⟨rfl, by omega⟩⟩, by rw [ht]; exact hP, hD⟩, hS.F ht⟩) hS.2.2 dX7_isTerm_35
  · refine lv_if_eq (tgt := 34) hx hb dX7_isTerm_5 (by decide) (fun _ => ?_) (fun c9 => absurd c9 (by decide))
    refine lv_iconst (v := 0) hx hb dX7_isTerm_34 (by decide) ?_
    exact W.zret (ty := .boolean) (v := 0) hx hb hr rfl (fun t ht hW => ⟨⟨0, v, rfl, ⟨hv, rfl, Or.inr ⟨rfl, by omega⟩⟩, by rw [ht]; exact hP, hD⟩, hS.F ht⟩) hS.2.2 dX7_isTerm_35

set_option maxHeartbeats 4000000 in
set_option maxRecDepth 100000 in
theorem e_X8_isTerm (l : Launch) (dC : Nat → ClassId) (dI : Nat → Nat → Nat) (cy : Nat → ClassId) (sz : Nat) (ad : Nat → Nat) (v : Nat → Nat → Int32) (hv : Ir v) (x0 x1 : Int32) : Met l yX8_isTerm wsX8_isTerm ({ frames := 2, cells := 0, slots := 0, locals := 128 }) (va_Pc [.ref (ad 0), .int x0, .int x1] (ex_Pre dC dI cy sz (wm ad cy v))) (va_Qi (fun (r : Int32) (u : Nat → Nat → Int32) => Ir u ∧ u = v ∧ ((r = 1 ∧ (0 ≤ x0.toInt ∧ x0.toInt < (v 1 2).toInt) ∧ 0 ≤ x1.toInt ∧ x1.toInt < (v 1 (38 + 7 * x0.toNatClampNeg)).toInt) ∨ (r = 0 ∧ ¬ ((0 ≤ x0.toInt ∧ x0.toInt < (v 1 2).toInt) ∧ 0 ≤ x1.toInt ∧ x1.toInt < (v 1 (38 + 7 * x0.toNatClampNeg)).toInt)))) (fun u t => ex_Pst dC dI (va_A (wm ad cy v) sz) (wm ad cy u) t) (va_A (wm ad cy v) sz)) 0 0 (va_A (wm ad cy v) sz) := by
  refine Met.ofW (cc := cX8_isTerm) (maxL := 3) (ret := (some .boolean)) (by decide) rfl ?_
  intro p e s m args below meth c s₁ B hml hv
  obtain ⟨rfl, hsz, hE, hP, hK, hD0⟩ := hv
  have hx := B.exec
  have hb := B.bytes
  have hr := B.returns
  have hts := atoms_spec (ws := wsX8_isTerm) B.pre
  have hown : s.vm.findClass RX8 = some m.cls := findClass_of_methodNamed B.named
  have hlocks := B.notSynchronized
  subst hsz
  have hD := hD0.self (sz := s.heap.size)
  generalize hAe : va_A (wm ad cy v) s.heap.size = A at hD ⊢
  have hA : ∀ q : Nat, s.heap.size ≤ q → A q := fun q h => by rw [← hAe]; exact Or.inr h
  have hS : va_S A s.heap s.heap [] := va_S.rf
  have hP : va_P (dC, dI) vwCl (wm ad cy v) s.heap := hP
  have hl := lv_entry ([.ref (ad 0), .int x0, .int x1]) (n := 3) (Nat.le_of_ble_eq_true rfl)
  rw [lg_entry_eq]
  generalize (lg_sl ([.ref (ad 0), .int x0, .int x1]) ++ List.replicate (3 - (lg_sl ([.ref (ad 0), .int x0, .int x1])).length) Slot.unset).toArray = ls at hl ⊢
  have hl : lv_has ls 3 [(0, .ref (ad 0)), (1, .int x0), (2, .int x1)] := hl
  refine lv_aload_n hx hb dX8_isTerm_0 rfl (lv_at hl 0 rfl) ?_
  refine lv_iload_n hx hb dX8_isTerm_1 rfl (lv_at hl 1 rfl) ?_
  refine yw_i (w1 := fun (u : Nat → Nat → Int32) => wm ad cy u) hD hS hA (va_runV (As := [.int x0]) (rest := []) ⟨hx, hb, hml, hown, hts⟩ (q_X8_isCase l dC dI cy _ ad v hv x0) (cwV 1 hts gX8_isTerm_X8_isCase rfl rfl rfl hd_V_X8_isCase_1 ⟨Nat.le_of_ble_eq_true rfl, Nat.le_of_ble_eq_true rfl⟩) (yw_preV hE hK hP hD (ci := 8) (q := (RX8, TX8, 11)) (q0 := 0) rfl (wm_at (by decide) rc_0)) rfl rfl hl.1 rfl (lv_room (Nat.le_of_ble_eq_true rfl)) dX8_isTerm_2 ⟨Nat.le_of_ble_eq_true rfl, Nat.le_of_ble_eq_true rfl⟩) (fun r_1 v_1 H locs hw_1 hP hD hS => ?_)
  obtain ⟨-, hu_1, hw_1⟩ := hw_1
  replace hu_1 := hu_1.symm
  subst hu_1
  rcases hw_1 with ⟨rfl, ha_2⟩ | ⟨rfl, ha_2⟩
  · have hb_2 := hv 1 2 6 (by decide)
    have hj_2 : 0 ≤ x0.toInt ∧ x0.toInt ≤ 5 := ⟨by omega, by omega⟩
    refine lv_if_eq (tgt := 33) hx hb dX8_isTerm_5 (by decide) (fun c9 => absurd c9 (by decide)) (fun _ => ?_)
    refine lv_iload_n hx hb dX8_isTerm_8 rfl (lv_at hl 2 rfl) ?_
    refine lv_iconst (v := 0) hx hb dX8_isTerm_9 (by decide) ?_
    refine lv_aload_n hx hb dX8_isTerm_10 rfl (lv_at hl 0 rfl) ?_
    refine va_get (D := (dC, dI)) (ci := 8) (v := .ref (ad 1)) (C := RX8) (T := TX8) (N := 11) hx hb hts iwX8_isTerm_X8 hown hK hP (0) (wm_at (by decide) rc_0) rfl 0 (by decide) (hts (.fieldLink RX8 7 "QuietStairsModel" "s" "[I") fwX8_isTerm_1) (fun _ h9 => h9) rfl dX8_isTerm_11 ?_
    refine lv_iload_n hx hb dX8_isTerm_14 rfl (lv_at hl 1 rfl) ?_
    refine lv_bipush (v := 6) hx hb dX8_isTerm_15 (by decide) ?_
    refine yc_p hP hS (va_runS (As := [.int x0, .int 6]) (rest := [.ref (ad 1), .int 0, .int x1]) ⟨hx, hb, hml, hown, hts⟩ (c_X8_at l x0 6) (cwS 2 hts gX8_isTerm_X8_at rfl rfl rfl hd_S_X8_at_2 ⟨Nat.le_of_ble_eq_true rfl, Nat.le_of_ble_eq_true rfl⟩) ex_preP rfl rfl hl.1 rfl (lv_room (Nat.le_of_ble_eq_true rfl)) dX8_isTerm_17 ⟨Nat.le_of_ble_eq_true rfl, Nat.le_of_ble_eq_true rfl⟩) (fun r_3 H locs hw_3 hP hS => ?_)
    have k_6 : (6 : Int32).toInt = 6 := by decide
    have tr_3 : r_3.toInt = 32 + 7 * x0.toInt + (6 : Int32).toInt := t_at hw_3 ⟨by omega, by omega⟩ ⟨by omega, by omega⟩
    have zn_x0 : (x0.toNatClampNeg : Int) = x0.toInt := t_nn (by omega)
    have nr_3 : r_3.toNatClampNeg = 38 + 7 * x0.toNatClampNeg := by have z1 := t_nn (x := r_3) (by omega); omega
    refine va_iald hx hb hK hP (1) 0 (wm_at (by decide) rc_1) rfl (vp_in_iff.mpr ⟨by omega, by omega⟩) dX8_isTerm_20 ?_
    refine lv_topi (fun x_4 ex_4 => ?_)
    have bzx_4 : 0 ≤ x_4.toInt ∧ x_4.toInt ≤ 5 := by rw [ex_4]; exact hv 1 _ 5 (bx_4 (i := x0.toInt) (s := 6) (by omega) ⟨by omega, by omega⟩ (by omega))
    rw [nr_3] at ex_4
    have qx_4 : x_4.toInt = (v 1 (38 + 7 * x0.toNatClampNeg)).toInt := congrArg Int32.toInt ex_4
    refine lv_iconst (v := 1) hx hb dX8_isTerm_21 (by decide) ?_
    refine lv_isub hx hb dX8_isTerm_22 ?_
    refine lv_topi (fun x_5 ex_5 => ?_)
    have k_1 : (1 : Int32).toInt = 1 := by decide
    have tx_5 : x_5.toInt = x_4.toInt - (1 : Int32).toInt := by rw [ex_5]; exact t_sub ⟨by omega, by omega⟩
    refine yc_p hP hS (va_runS (As := [.int x1, .int 0, .int x_5]) (rest := []) ⟨hx, hb, hml, hown, hts⟩ (c_X8_in l x1 0 x_5) (cwS 3 hts gX8_isTerm_X8_in rfl rfl rfl hd_S_X8_in_3 ⟨Nat.le_of_ble_eq_true rfl, Nat.le_of_ble_eq_true rfl⟩) ex_preP rfl rfl hl.1 rfl (lv_room (Nat.le_of_ble_eq_true rfl)) dX8_isTerm_23 ⟨Nat.le_of_ble_eq_true rfl, Nat.le_of_ble_eq_true rfl⟩) (fun r_6 H locs hw_6 hP hS => ?_)
    rcases wi_ca hw_6 with ⟨rfl, hc_7⟩ | ⟨rfl, hc_7⟩
    · have k_0 : (0 : Int32).toInt = 0 := by decide
      have tc_7 := wi_tl hc_7
      refine lv_if_eq (tgt := 33) hx hb dX8_isTerm_26 (by decide) (fun c9 => absurd c9 (by decide)) (fun _ => ?_)
      refine lv_iconst (v := 1) hx hb dX8_isTerm_29 (by decide) ?_
      refine lv_goto (tgt := 34) hx hb dX8_isTerm_30 (by decide) ?_
      exact W.zret (ty := .boolean) (v := 1) hx hb hr rfl (fun t ht hW => ⟨⟨1, v, rfl, ⟨hv, rfl, Or.inl ⟨rfl, ⟨by omega, by omega⟩, by omega, by omega⟩⟩, by rw [ht]; exact hP, hD⟩, hS.F ht⟩) hS.2.2 dX8_isTerm_34
    · have k_0 : (0 : Int32).toInt = 0 := by decide
      have tc_7 : ¬ ((0 : Int32).toInt ≤ x1.toInt ∧ x1.toInt ≤ x_5.toInt) := fun q => hc_7 ⟨Int32.le_iff_toInt_le.mpr q.1, Int32.le_iff_toInt_le.mpr q.2⟩
      refine lv_if_eq (tgt := 33) hx hb dX8_isTerm_26 (by decide) (fun _ => ?_) (fun c9 => absurd c9 (by decide))
      refine lv_iconst (v := 0) hx hb dX8_isTerm_33 (by decide) ?_
      exact W.zret (ty := .boolean) (v := 0) hx hb hr rfl (fun t ht hW => ⟨⟨0, v, rfl, ⟨hv, rfl, Or.inr ⟨rfl, by omega⟩⟩, by rw [ht]; exact hP, hD⟩, hS.F ht⟩) hS.2.2 dX8_isTerm_34
  · refine lv_if_eq (tgt := 33) hx hb dX8_isTerm_5 (by decide) (fun _ => ?_) (fun c9 => absurd c9 (by decide))
    refine lv_iconst (v := 0) hx hb dX8_isTerm_33 (by decide) ?_
    exact W.zret (ty := .boolean) (v := 0) hx hb hr rfl (fun t ht hW => ⟨⟨0, v, rfl, ⟨hv, rfl, Or.inr ⟨rfl, by omega⟩⟩, by rw [ht]; exact hP, hD⟩, hS.F ht⟩) hS.2.2 dX8_isTerm_34

set_option maxHeartbeats 4000000 in
set_option maxRecDepth 100000 in
theorem e_X7_termOf (l : Launch) (dC : Nat → ClassId) (dI : Nat → Nat → Nat) (cy : Nat → ClassId) (sz : Nat) (ad : Nat → Nat) (kv : Value) (N : Nat) (hN : 119 ≤ N) (v : Nat → Nat → Int32) (hv : Iv v) (x0 x1 x2 : Int32) : Met l yX7_termOf wsX7_termOf ({ frames := 3, cells := 0, slots := 0, locals := 192 }) (va_Pc [.ref (ad 0), .int x0, .int x1, .int x2] (ex_Pre dC dI cy sz (wl ad kv cy N v))) (va_Qi (fun (r : Int32) (u : Nat → Nat → Int32) => Iv u ∧ (¬ ((0 ≤ x0.toInt ∧ x0.toInt < (v 13 2).toInt) ∧ 0 ≤ x1.toInt ∧ x1.toInt < (v (29 + 15 * x0.toNatClampNeg) 5).toInt) → r = -1 ∧ u = v) ∧ (((0 ≤ x0.toInt ∧ x0.toInt < (v 13 2).toInt) ∧ 0 ≤ x1.toInt ∧ x1.toInt < (v (29 + 15 * x0.toNatClampNeg) 5).toInt) ∧ 0 ≤ x2.toInt ∧ x2.toInt ≤ 4 → r = v (39 + 15 * x0.toNatClampNeg + x1.toNatClampNeg) x2.toNatClampNeg ∧ u = v) ∧ (((0 ≤ x0.toInt ∧ x0.toInt < (v 13 2).toInt) ∧ 0 ≤ x1.toInt ∧ x1.toInt < (v (29 + 15 * x0.toNatClampNeg) 5).toInt) ∧ ¬ (0 ≤ x2.toInt ∧ x2.toInt ≤ 4) → r = -1 ∧ u = v)) (fun u t => ex_Pst dC dI (va_A (wl ad kv cy N v) sz) (wl ad kv cy N u) t) (va_A (wl ad kv cy N v) sz)) 0 0 (va_A (wl ad kv cy N v) sz) := by
  refine Met.ofW (cc := cX7_termOf) (maxL := 5) (ret := (some .int)) (by decide) rfl ?_
  intro p e s m args below meth c s₁ B hml hv
  obtain ⟨rfl, hsz, hE, hP, hK, hD0⟩ := hv
  have hx := B.exec
  have hb := B.bytes
  have hr := B.returns
  have hts := atoms_spec (ws := wsX7_termOf) B.pre
  have hown : s.vm.findClass RX7 = some m.cls := findClass_of_methodNamed B.named
  have hlocks := B.notSynchronized
  subst hsz
  have hD := hD0.self (sz := s.heap.size)
  generalize hAe : va_A (wl ad kv cy N v) s.heap.size = A at hD ⊢
  have hA : ∀ q : Nat, s.heap.size ≤ q → A q := fun q h => by rw [← hAe]; exact Or.inr h
  have hS : va_S A s.heap s.heap [] := va_S.rf
  have hP : va_P (dC, dI) vwCl (wl ad kv cy N v) s.heap := hP
  have hl := lv_entry ([.ref (ad 0), .int x0, .int x1, .int x2]) (n := 5) (Nat.le_of_ble_eq_true rfl)
  rw [lg_entry_eq]
  generalize (lg_sl ([.ref (ad 0), .int x0, .int x1, .int x2]) ++ List.replicate (5 - (lg_sl ([.ref (ad 0), .int x0, .int x1, .int x2])).length) Slot.unset).toArray = ls at hl ⊢
  have hl : lv_has ls 5 [(0, .ref (ad 0)), (1, .int x0), (2, .int x1), (3, .int x2)] := hl
  refine lv_aload_n hx hb dX7_termOf_0 rfl (lv_at hl 0 rfl) ?_
  refine lv_iload_n hx hb dX7_termOf_1 rfl (lv_at hl 1 rfl) ?_
  refine lv_iload_n hx hb dX7_termOf_2 rfl (lv_at hl 2 rfl) ?_
  refine yw_i (w1 := fun (u : Nat → Nat → Int32) => wl ad kv cy N u) hD hS hA (va_runV (As := [.int x0, .int x1]) (rest := []) ⟨hx, hb, hml, hown, hts⟩ (e_X7_isTerm l dC dI cy _ ad kv N hN v hv x0 x1) (cwV 2 hts gX7_termOf_X7_isTerm rfl rfl rfl hd_V_X7_isTerm_2 ⟨Nat.le_of_ble_eq_true rfl, Nat.le_of_ble_eq_true rfl⟩) (yw_preV hE hK hP hD (ci := 7) (q := (RX7, TX7, 5)) (q0 := 0) rfl (wl_at (by omega) (ce_0 (by decide)))) rfl rfl hl.1 rfl (lv_room (Nat.le_of_ble_eq_true rfl)) dX7_termOf_3 ⟨Nat.le_of_ble_eq_true rfl, Nat.le_of_ble_eq_true rfl⟩) (fun r_1 v_1 H locs hw_1 hP hD hS => ?_)
  obtain ⟨-, hu_1, hw_1⟩ := hw_1
  replace hu_1 := hu_1.symm
  subst hu_1
  rcases hw_1 with ⟨rfl, ha_2⟩ | ⟨rfl, ha_2⟩
  · have hb_2 := hv.at (k := 13) (j := 2) (K := 3) (by decide) rfl
    have hj_2 : 0 ≤ x0.toInt ∧ x0.toInt ≤ 5 := ⟨by omega, by omega⟩
    have zn_x0 : (x0.toNatClampNeg : Int) = x0.toInt := t_nn (by omega)
    have hx_3 : x0.toNatClampNeg < 6 := by omega
    have hg_2 := hv.at (k := 29 + 15 * x0.toNatClampNeg) (j := 5) (K := 9) (kd_c _ hx_3).1.1 rfl
    have hl_2 : 0 ≤ x1.toInt ∧ x1.toInt ≤ 4 := ⟨by omega, by omega⟩
    refine lv_if_ne (tgt := 11) hx hb dX7_termOf_6 (by decide) (fun _ => ?_) (fun c9 => absurd c9 (by decide))
    refine lv_aload_n hx hb dX7_termOf_11 rfl (lv_at hl 0 rfl) ?_
    refine va_get (D := (dC, dI)) (ci := 7) (v := .ref (ad 13)) (C := RX7) (T := TX7) (N := 5) hx hb hts iwX7_termOf_X7 hown hK hP (0) (wl_at (by omega) (ce_0 (by decide))) rfl 0 (by decide) (hts (.fieldLink RX7 12 "QuietStairs" "now" "LQuietStairs$House;") fwX7_termOf_1) (fun _ h9 => h9) rfl dX7_termOf_12 ?_
    refine va_get (D := (dC, dI)) (ci := 1) (v := .ref (ad 16)) (C := RX1) (T := TX1) (N := 7) hx hb hts iwX7_termOf_X1 hown hK hP (13) (wl_at (by omega) (ce_3 (by decide))) rfl 6 (by decide) (hts (.fieldLink RX7 86 "QuietStairs$House" "cases" "[LQuietStairs$Case;") fwX7_termOf_2) (fun _ h9 => h9) rfl dX7_termOf_15 ?_
    refine lv_iload_n hx hb dX7_termOf_18 rfl (lv_at hl 1 rfl) ?_
    refine va_aldq hx hb hK hP (16) 3 (wl_at (by omega) (ce_6 (by decide))) rfl (vp_in_iff.mpr ⟨by omega, by omega⟩) dX7_termOf_19 ?_
    refine W.eq (g2 := F0 m 20 ls [.ref (ad (29 + 15 * x0.toNatClampNeg))]) (by rw [if_pos hx_3, show 16 + 13 + 15 * x0.toNatClampNeg = 29 + 15 * x0.toNatClampNeg from by omega]; rfl) ?_
    refine va_get (D := (dC, dI)) (ci := 0) (v := .ref (ad (29 + 15 * x0.toNatClampNeg + 9))) (C := RX0) (T := TX0) (N := 11) hx hb hts iwX7_termOf_X0 hown hK hP (29 + 15 * x0.toNatClampNeg) (wl_at (by omega) (ce_9 (kd_c _ hx_3).1.1)) rfl 10 (by decide) (hts (.fieldLink RX7 172 "QuietStairs$Case" "terms" "[LQuietStairs$Term;") fwX7_termOf_3) (fun _ h9 => h9) rfl dX7_termOf_20 ?_
    refine W.eq (g2 := F0 m 23 ls [.ref (ad (38 + 15 * x0.toNatClampNeg))]) (by rw [show 29 + 15 * x0.toNatClampNeg + 9 = 38 + 15 * x0.toNatClampNeg from by omega]) ?_
    refine lv_iload_n hx hb dX7_termOf_23 rfl (lv_at hl 2 rfl) ?_
    have zn_x1 : (x1.toNatClampNeg : Int) = x1.toInt := t_nn (by omega)
    have hx_4 : x1.toNatClampNeg < 5 := by omega
    refine va_aldq hx hb hK hP (38 + 15 * x0.toNatClampNeg) 4 (wl_at (by omega) (ce_15 (kd_c _ hx_3).1.2.2.2.2.2)) rfl (vp_in_iff.mpr ⟨by omega, by omega⟩) dX7_termOf_24 ?_
    refine W.eq (g2 := F0 m 25 ls [.ref (ad (39 + 15 * x0.toNatClampNeg + x1.toNatClampNeg))]) (by rw [if_pos hx_4, show 38 + 15 * x0.toNatClampNeg + 1 + x1.toNatClampNeg = 39 + 15 * x0.toNatClampNeg + x1.toNatClampNeg from by omega]; rfl) ?_
    refine lv_astore (lv' := [(4, .ref (ad (39 + 15 * x0.toNatClampNeg + x1.toNatClampNeg))), (0, .ref (ad 0)), (1, .int x0), (2, .int x1), (3, .int x2)]) hx hb dX7_termOf_25 hl (by decide) rfl (fun ls hl => ?_)
    refine lv_iload_n hx hb dX7_termOf_27 rfl (lv_at hl 4 rfl) ?_
    rcases sw_5 x2 with hsw | hsw | hsw | hsw | hsw | hsw
    · refine lv_tableOut (tgt := 102) hx hb dX7_termOf_28 hsw (by decide) ?_
      refine lv_iconst (v := (-1)) hx hb dX7_termOf_102 (by decide) ?_
      have hpost : (¬ ((0 ≤ x0.toInt ∧ x0.toInt < (v 13 2).toInt) ∧ 0 ≤ x1.toInt ∧ x1.toInt < (v (29 + 15 * x0.toNatClampNeg) 5).toInt) → ((-1) : Int32) = -1 ∧ v = v) ∧ (((0 ≤ x0.toInt ∧ x0.toInt < (v 13 2).toInt) ∧ 0 ≤ x1.toInt ∧ x1.toInt < (v (29 + 15 * x0.toNatClampNeg) 5).toInt) ∧ 0 ≤ x2.toInt ∧ x2.toInt ≤ 4 → ((-1) : Int32) = v (39 + 15 * x0.toNatClampNeg + x1.toNatClampNeg) x2.toNatClampNeg ∧ v = v) ∧ (((0 ≤ x0.toInt ∧ x0.toInt < (v 13 2).toInt) ∧ 0 ≤ x1.toInt ∧ x1.toInt < (v (29 + 15 * x0.toNatClampNeg) 5).toInt) ∧ ¬ (0 ≤ x2.toInt ∧ x2.toInt ≤ 4) → ((-1) : Int32) = -1 ∧ v = v) := by
        refine ⟨fun hq => ?_, fun hq => ?_, fun hq => ?_⟩
        · exfalso; omega
        · exfalso; omega
        · exact ⟨rfl, rfl⟩
      exact W.iret (v := (-1)) hx hb hr (fun t ht hW => ⟨⟨(-1), v, rfl, ⟨hv, hpost⟩, by rw [ht]; exact hP, hD⟩, hS.F ht⟩) hS.2.2 dX7_termOf_103
    · refine lv_tableIn (off := 36) (tgt := 64) hx hb dX7_termOf_28 (by rw [hsw]; decide) (by rw [hsw]; decide) (by rw [hsw]; decide) (by decide) ?_
      have k_0 : (0 : Int32).toInt = 0 := by decide
      have tsw : x2.toInt = 0 := by rw [hsw]; decide
      refine lv_aload hx hb dX7_termOf_64 (lv_at hl 0 rfl) ?_
      refine va_get (D := (dC, dI)) (ci := 6) (v := .int (v (39 + 15 * x0.toNatClampNeg + x1.toNatClampNeg) 0)) (C := RX6) (T := TX6) (N := 5) hx hb hts iwX7_termOf_X6 hown hK hP (39 + 15 * x0.toNatClampNeg + x1.toNatClampNeg) (wl_at (by omega) (ce_16 (kd_t _ hx_3 _ hx_4).1)) rfl 0 (by decide) (hts (.fieldLink RX7 176 "QuietStairs$Term" "side" "I") fwX7_termOf_4) (fun _ h9 => h9) rfl dX7_termOf_66 ?_
      refine lv_topi (fun x_5 ex_5 => ?_)
      have bzx_5 : 0 ≤ x_5.toInt ∧ x_5.toInt ≤ 1 := by rw [ex_5]; exact hv.at (K := 16) (kd_t _ hx_3 _ hx_4).1 rfl
      have qx_5 : x_5.toInt = (v (39 + 15 * x0.toNatClampNeg + x1.toNatClampNeg) (0)).toInt := congrArg Int32.toInt ex_5
      have hpost : (¬ ((0 ≤ x0.toInt ∧ x0.toInt < (v 13 2).toInt) ∧ 0 ≤ x1.toInt ∧ x1.toInt < (v (29 + 15 * x0.toNatClampNeg) 5).toInt) → x_5 = -1 ∧ v = v) ∧ (((0 ≤ x0.toInt ∧ x0.toInt < (v 13 2).toInt) ∧ 0 ≤ x1.toInt ∧ x1.toInt < (v (29 + 15 * x0.toNatClampNeg) 5).toInt) ∧ 0 ≤ x2.toInt ∧ x2.toInt ≤ 4 → x_5 = v (39 + 15 * x0.toNatClampNeg + x1.toNatClampNeg) x2.toNatClampNeg ∧ v = v) ∧ (((0 ≤ x0.toInt ∧ x0.toInt < (v 13 2).toInt) ∧ 0 ≤ x1.toInt ∧ x1.toInt < (v (29 + 15 * x0.toNatClampNeg) 5).toInt) ∧ ¬ (0 ≤ x2.toInt ∧ x2.toInt ≤ 4) → x_5 = -1 ∧ v = v) := by
        refine ⟨fun hq => ?_, fun hq => ?_, fun hq => ?_⟩
        · exfalso; omega
        · exact ⟨by rw [ex_5, hsw]; rfl, rfl⟩
        · exfalso; omega
      exact W.iret (v := x_5) hx hb hr (fun t ht hW => ⟨⟨x_5, v, rfl, ⟨hv, hpost⟩, by rw [ht]; exact hP, hD⟩, hS.F ht⟩) hS.2.2 dX7_termOf_69
    · refine lv_tableIn (off := 42) (tgt := 70) hx hb dX7_termOf_28 (by rw [hsw]; decide) (by rw [hsw]; decide) (by rw [hsw]; decide) (by decide) ?_
      have k_1 : (1 : Int32).toInt = 1 := by decide
      have tsw : x2.toInt = 1 := by rw [hsw]; decide
      refine lv_aload hx hb dX7_termOf_70 (lv_at hl 0 rfl) ?_
      refine va_get (D := (dC, dI)) (ci := 6) (v := .int (v (39 + 15 * x0.toNatClampNeg + x1.toNatClampNeg) 1)) (C := RX6) (T := TX6) (N := 5) hx hb hts iwX7_termOf_X6 hown hK hP (39 + 15 * x0.toNatClampNeg + x1.toNatClampNeg) (wl_at (by omega) (ce_16 (kd_t _ hx_3 _ hx_4).1)) rfl 1 (by decide) (hts (.fieldLink RX7 181 "QuietStairs$Term" "must" "Z") fwX7_termOf_5) (fun _ h9 => h9) rfl dX7_termOf_72 ?_
      refine lv_topi (fun x_5 ex_5 => ?_)
      have bzx_5 : 0 ≤ x_5.toInt ∧ x_5.toInt ≤ 1 := by rw [ex_5]; exact hv.at (K := 16) (kd_t _ hx_3 _ hx_4).1 rfl
      have qx_5 : x_5.toInt = (v (39 + 15 * x0.toNatClampNeg + x1.toNatClampNeg) (1)).toInt := congrArg Int32.toInt ex_5
      have k_0 : (0 : Int32).toInt = 0 := by decide
      refine lv_if_eq (tgt := 82) hx hb dX7_termOf_75 (by decide) (fun c_6 => ?_) (fun c_6 => ?_)
      · have tc_6 : x_5.toInt = (0 : Int32).toInt := by rw [c_6]
        refine lv_iconst (v := 0) hx hb dX7_termOf_82 (by decide) ?_
        have hpost : (¬ ((0 ≤ x0.toInt ∧ x0.toInt < (v 13 2).toInt) ∧ 0 ≤ x1.toInt ∧ x1.toInt < (v (29 + 15 * x0.toNatClampNeg) 5).toInt) → (0 : Int32) = -1 ∧ v = v) ∧ (((0 ≤ x0.toInt ∧ x0.toInt < (v 13 2).toInt) ∧ 0 ≤ x1.toInt ∧ x1.toInt < (v (29 + 15 * x0.toNatClampNeg) 5).toInt) ∧ 0 ≤ x2.toInt ∧ x2.toInt ≤ 4 → (0 : Int32) = v (39 + 15 * x0.toNatClampNeg + x1.toNatClampNeg) x2.toNatClampNeg ∧ v = v) ∧ (((0 ≤ x0.toInt ∧ x0.toInt < (v 13 2).toInt) ∧ 0 ≤ x1.toInt ∧ x1.toInt < (v (29 + 15 * x0.toNatClampNeg) 5).toInt) ∧ ¬ (0 ≤ x2.toInt ∧ x2.toInt ≤ 4) → (0 : Int32) = -1 ∧ v = v) := by
          refine ⟨fun hq => ?_, fun hq => ?_, fun hq => ?_⟩
          · exfalso; omega
          · exact ⟨by rw [hsw]; show (0 : Int32) = v (39 + 15 * x0.toNatClampNeg + x1.toNatClampNeg) 1; exact Int32.toInt_inj.mp (by rw [← qx_5]; omega), rfl⟩
          · exfalso; omega
        exact W.iret (v := 0) hx hb hr (fun t ht hW => ⟨⟨0, v, rfl, ⟨hv, hpost⟩, by rw [ht]; exact hP, hD⟩, hS.F ht⟩) hS.2.2 dX7_termOf_83
      · have tc_6 : x_5.toInt ≠ (0 : Int32).toInt := fun q => absurd (Int32.toInt_inj.mp q) c_6
        refine lv_iconst (v := 1) hx hb dX7_termOf_78 (by decide) ?_
        refine lv_goto (tgt := 83) hx hb dX7_termOf_79 (by decide) ?_
        have hpost : (¬ ((0 ≤ x0.toInt ∧ x0.toInt < (v 13 2).toInt) ∧ 0 ≤ x1.toInt ∧ x1.toInt < (v (29 + 15 * x0.toNatClampNeg) 5).toInt) → (1 : Int32) = -1 ∧ v = v) ∧ (((0 ≤ x0.toInt ∧ x0.toInt < (v 13 2).toInt) ∧ 0 ≤ x1.toInt ∧ x1.toInt < (v (29 + 15 * x0.toNatClampNeg) 5).toInt) ∧ 0 ≤ x2.toInt ∧ x2.toInt ≤ 4 → (1 : Int32) = v (39 + 15 * x0.toNatClampNeg + x1.toNatClampNeg) x2.toNatClampNeg ∧ v = v) ∧ (((0 ≤ x0.toInt ∧ x0.toInt < (v 13 2).toInt) ∧ 0 ≤ x1.toInt ∧ x1.toInt < (v (29 + 15 * x0.toNatClampNeg) 5).toInt) ∧ ¬ (0 ≤ x2.toInt ∧ x2.toInt ≤ 4) → (1 : Int32) = -1 ∧ v = v) := by
          refine ⟨fun hq => ?_, fun hq => ?_, fun hq => ?_⟩
          · exfalso; omega
          · exact ⟨by rw [hsw]; show (1 : Int32) = v (39 + 15 * x0.toNatClampNeg + x1.toNatClampNeg) 1; exact Int32.toInt_inj.mp (by rw [← qx_5]; omega), rfl⟩
          · exfalso; omega
        exact W.iret (v := 1) hx hb hr (fun t ht hW => ⟨⟨1, v, rfl, ⟨hv, hpost⟩, by rw [ht]; exact hP, hD⟩, hS.F ht⟩) hS.2.2 dX7_termOf_83
    · refine lv_tableIn (off := 56) (tgt := 84) hx hb dX7_termOf_28 (by rw [hsw]; decide) (by rw [hsw]; decide) (by rw [hsw]; decide) (by decide) ?_
      have k_2 : (2 : Int32).toInt = 2 := by decide
      have tsw : x2.toInt = 2 := by rw [hsw]; decide
      refine lv_aload hx hb dX7_termOf_84 (lv_at hl 0 rfl) ?_
      refine va_get (D := (dC, dI)) (ci := 6) (v := .int (v (39 + 15 * x0.toNatClampNeg + x1.toNatClampNeg) 2)) (C := RX6) (T := TX6) (N := 5) hx hb hts iwX7_termOf_X6 hown hK hP (39 + 15 * x0.toNatClampNeg + x1.toNatClampNeg) (wl_at (by omega) (ce_16 (kd_t _ hx_3 _ hx_4).1)) rfl 2 (by decide) (hts (.fieldLink RX7 185 "QuietStairs$Term" "act" "I") fwX7_termOf_6) (fun _ h9 => h9) rfl dX7_termOf_86 ?_
      refine lv_topi (fun x_5 ex_5 => ?_)
      have qx_5 : x_5.toInt = (v (39 + 15 * x0.toNatClampNeg + x1.toNatClampNeg) (2)).toInt := congrArg Int32.toInt ex_5
      have hpost : (¬ ((0 ≤ x0.toInt ∧ x0.toInt < (v 13 2).toInt) ∧ 0 ≤ x1.toInt ∧ x1.toInt < (v (29 + 15 * x0.toNatClampNeg) 5).toInt) → x_5 = -1 ∧ v = v) ∧ (((0 ≤ x0.toInt ∧ x0.toInt < (v 13 2).toInt) ∧ 0 ≤ x1.toInt ∧ x1.toInt < (v (29 + 15 * x0.toNatClampNeg) 5).toInt) ∧ 0 ≤ x2.toInt ∧ x2.toInt ≤ 4 → x_5 = v (39 + 15 * x0.toNatClampNeg + x1.toNatClampNeg) x2.toNatClampNeg ∧ v = v) ∧ (((0 ≤ x0.toInt ∧ x0.toInt < (v 13 2).toInt) ∧ 0 ≤ x1.toInt ∧ x1.toInt < (v (29 + 15 * x0.toNatClampNeg) 5).toInt) ∧ ¬ (0 ≤ x2.toInt ∧ x2.toInt ≤ 4) → x_5 = -1 ∧ v = v) := by
        refine ⟨fun hq => ?_, fun hq => ?_, fun hq => ?_⟩
        · exfalso; omega
        · exact ⟨by rw [ex_5, hsw]; rfl, rfl⟩
        · exfalso; omega
      exact W.iret (v := x_5) hx hb hr (fun t ht hW => ⟨⟨x_5, v, rfl, ⟨hv, hpost⟩, by rw [ht]; exact hP, hD⟩, hS.F ht⟩) hS.2.2 dX7_termOf_89
    · refine lv_tableIn (off := 62) (tgt := 90) hx hb dX7_termOf_28 (by rw [hsw]; decide) (by rw [hsw]; decide) (by rw [hsw]; decide) (by decide) ?_
      have k_3 : (3 : Int32).toInt = 3 := by decide
      have tsw : x2.toInt = 3 := by rw [hsw]; decide
      refine lv_aload hx hb dX7_termOf_90 (lv_at hl 0 rfl) ?_
      refine va_get (D := (dC, dI)) (ci := 6) (v := .int (v (39 + 15 * x0.toNatClampNeg + x1.toNatClampNeg) 3)) (C := RX6) (T := TX6) (N := 5) hx hb hts iwX7_termOf_X6 hown hK hP (39 + 15 * x0.toNatClampNeg + x1.toNatClampNeg) (wl_at (by omega) (ce_16 (kd_t _ hx_3 _ hx_4).1)) rfl 3 (by decide) (hts (.fieldLink RX7 188 "QuietStairs$Term" "first" "I") fwX7_termOf_7) (fun _ h9 => h9) rfl dX7_termOf_92 ?_
      refine lv_topi (fun x_5 ex_5 => ?_)
      have bzx_5 : 0 ≤ x_5.toInt ∧ x_5.toInt ≤ 23 := by rw [ex_5]; exact hv.at (K := 16) (kd_t _ hx_3 _ hx_4).1 rfl
      have qx_5 : x_5.toInt = (v (39 + 15 * x0.toNatClampNeg + x1.toNatClampNeg) (3)).toInt := congrArg Int32.toInt ex_5
      have hpost : (¬ ((0 ≤ x0.toInt ∧ x0.toInt < (v 13 2).toInt) ∧ 0 ≤ x1.toInt ∧ x1.toInt < (v (29 + 15 * x0.toNatClampNeg) 5).toInt) → x_5 = -1 ∧ v = v) ∧ (((0 ≤ x0.toInt ∧ x0.toInt < (v 13 2).toInt) ∧ 0 ≤ x1.toInt ∧ x1.toInt < (v (29 + 15 * x0.toNatClampNeg) 5).toInt) ∧ 0 ≤ x2.toInt ∧ x2.toInt ≤ 4 → x_5 = v (39 + 15 * x0.toNatClampNeg + x1.toNatClampNeg) x2.toNatClampNeg ∧ v = v) ∧ (((0 ≤ x0.toInt ∧ x0.toInt < (v 13 2).toInt) ∧ 0 ≤ x1.toInt ∧ x1.toInt < (v (29 + 15 * x0.toNatClampNeg) 5).toInt) ∧ ¬ (0 ≤ x2.toInt ∧ x2.toInt ≤ 4) → x_5 = -1 ∧ v = v) := by
        refine ⟨fun hq => ?_, fun hq => ?_, fun hq => ?_⟩
        · exfalso; omega
        · exact ⟨by rw [ex_5, hsw]; rfl, rfl⟩
        · exfalso; omega
      exact W.iret (v := x_5) hx hb hr (fun t ht hW => ⟨⟨x_5, v, rfl, ⟨hv, hpost⟩, by rw [ht]; exact hP, hD⟩, hS.F ht⟩) hS.2.2 dX7_termOf_95
    · refine lv_tableIn (off := 68) (tgt := 96) hx hb dX7_termOf_28 (by rw [hsw]; decide) (by rw [hsw]; decide) (by rw [hsw]; decide) (by decide) ?_
      have k_4 : (4 : Int32).toInt = 4 := by decide
      have tsw : x2.toInt = 4 := by rw [hsw]; decide
      refine lv_aload hx hb dX7_termOf_96 (lv_at hl 0 rfl) ?_
      refine va_get (D := (dC, dI)) (ci := 6) (v := .int (v (39 + 15 * x0.toNatClampNeg + x1.toNatClampNeg) 4)) (C := RX6) (T := TX6) (N := 5) hx hb hts iwX7_termOf_X6 hown hK hP (39 + 15 * x0.toNatClampNeg + x1.toNatClampNeg) (wl_at (by omega) (ce_16 (kd_t _ hx_3 _ hx_4).1)) rfl 4 (by decide) (hts (.fieldLink RX7 191 "QuietStairs$Term" "last" "I") fwX7_termOf_8) (fun _ h9 => h9) rfl dX7_termOf_98 ?_
      refine lv_topi (fun x_5 ex_5 => ?_)
      have bzx_5 : 0 ≤ x_5.toInt ∧ x_5.toInt ≤ 23 := by rw [ex_5]; exact hv.at (K := 16) (kd_t _ hx_3 _ hx_4).1 rfl
      have qx_5 : x_5.toInt = (v (39 + 15 * x0.toNatClampNeg + x1.toNatClampNeg) (4)).toInt := congrArg Int32.toInt ex_5
      have hpost : (¬ ((0 ≤ x0.toInt ∧ x0.toInt < (v 13 2).toInt) ∧ 0 ≤ x1.toInt ∧ x1.toInt < (v (29 + 15 * x0.toNatClampNeg) 5).toInt) → x_5 = -1 ∧ v = v) ∧ (((0 ≤ x0.toInt ∧ x0.toInt < (v 13 2).toInt) ∧ 0 ≤ x1.toInt ∧ x1.toInt < (v (29 + 15 * x0.toNatClampNeg) 5).toInt) ∧ 0 ≤ x2.toInt ∧ x2.toInt ≤ 4 → x_5 = v (39 + 15 * x0.toNatClampNeg + x1.toNatClampNeg) x2.toNatClampNeg ∧ v = v) ∧ (((0 ≤ x0.toInt ∧ x0.toInt < (v 13 2).toInt) ∧ 0 ≤ x1.toInt ∧ x1.toInt < (v (29 + 15 * x0.toNatClampNeg) 5).toInt) ∧ ¬ (0 ≤ x2.toInt ∧ x2.toInt ≤ 4) → x_5 = -1 ∧ v = v) := by
        refine ⟨fun hq => ?_, fun hq => ?_, fun hq => ?_⟩
        · exfalso; omega
        · exact ⟨by rw [ex_5, hsw]; rfl, rfl⟩
        · exfalso; omega
      exact W.iret (v := x_5) hx hb hr (fun t ht hW => ⟨⟨x_5, v, rfl, ⟨hv, hpost⟩, by rw [ht]; exact hP, hD⟩, hS.F ht⟩) hS.2.2 dX7_termOf_101
  · refine lv_if_ne (tgt := 11) hx hb dX7_termOf_6 (by decide) (fun c9 => absurd c9 (by decide)) (fun _ => ?_)
    refine lv_iconst (v := (-1)) hx hb dX7_termOf_9 (by decide) ?_
    have hpost : (¬ ((0 ≤ x0.toInt ∧ x0.toInt < (v 13 2).toInt) ∧ 0 ≤ x1.toInt ∧ x1.toInt < (v (29 + 15 * x0.toNatClampNeg) 5).toInt) → ((-1) : Int32) = -1 ∧ v = v) ∧ (((0 ≤ x0.toInt ∧ x0.toInt < (v 13 2).toInt) ∧ 0 ≤ x1.toInt ∧ x1.toInt < (v (29 + 15 * x0.toNatClampNeg) 5).toInt) ∧ 0 ≤ x2.toInt ∧ x2.toInt ≤ 4 → ((-1) : Int32) = v (39 + 15 * x0.toNatClampNeg + x1.toNatClampNeg) x2.toNatClampNeg ∧ v = v) ∧ (((0 ≤ x0.toInt ∧ x0.toInt < (v 13 2).toInt) ∧ 0 ≤ x1.toInt ∧ x1.toInt < (v (29 + 15 * x0.toNatClampNeg) 5).toInt) ∧ ¬ (0 ≤ x2.toInt ∧ x2.toInt ≤ 4) → ((-1) : Int32) = -1 ∧ v = v) := by
      refine ⟨fun hq => ?_, fun hq => ?_, fun hq => ?_⟩
      · exact ⟨rfl, rfl⟩
      · exfalso; omega
      · exfalso; omega
    exact W.iret (v := (-1)) hx hb hr (fun t ht hW => ⟨⟨(-1), v, rfl, ⟨hv, hpost⟩, by rw [ht]; exact hP, hD⟩, hS.F ht⟩) hS.2.2 dX7_termOf_10

set_option maxHeartbeats 4000000 in
set_option maxRecDepth 100000 in
theorem e_X8_termOf (l : Launch) (dC : Nat → ClassId) (dI : Nat → Nat → Nat) (cy : Nat → ClassId) (sz : Nat) (ad : Nat → Nat) (v : Nat → Nat → Int32) (hv : Ir v) (x0 x1 x2 : Int32) : Met l yX8_termOf wsX8_termOf ({ frames := 3, cells := 0, slots := 0, locals := 192 }) (va_Pc [.ref (ad 0), .int x0, .int x1, .int x2] (ex_Pre dC dI cy sz (wm ad cy v))) (va_Qi (fun (r : Int32) (u : Nat → Nat → Int32) => Ir u ∧ (¬ ((0 ≤ x0.toInt ∧ x0.toInt < (v 1 2).toInt) ∧ 0 ≤ x1.toInt ∧ x1.toInt < (v 1 (38 + 7 * x0.toNatClampNeg)).toInt) → r = -1 ∧ u = v) ∧ (((0 ≤ x0.toInt ∧ x0.toInt < (v 1 2).toInt) ∧ 0 ≤ x1.toInt ∧ x1.toInt < (v 1 (38 + 7 * x0.toNatClampNeg)).toInt) ∧ 0 ≤ x2.toInt ∧ x2.toInt ≤ 4 → r = v 1 (158 + 25 * x0.toNatClampNeg + 5 * x1.toNatClampNeg + x2.toNatClampNeg) ∧ u = v) ∧ (((0 ≤ x0.toInt ∧ x0.toInt < (v 1 2).toInt) ∧ 0 ≤ x1.toInt ∧ x1.toInt < (v 1 (38 + 7 * x0.toNatClampNeg)).toInt) ∧ ¬ (0 ≤ x2.toInt ∧ x2.toInt ≤ 4) → r = -1 ∧ u = v)) (fun u t => ex_Pst dC dI (va_A (wm ad cy v) sz) (wm ad cy u) t) (va_A (wm ad cy v) sz)) 0 0 (va_A (wm ad cy v) sz) := by
  refine Met.ofW (cc := cX8_termOf) (maxL := 4) (ret := (some .int)) (by decide) rfl ?_
  intro p e s m args below meth c s₁ B hml hv
  obtain ⟨rfl, hsz, hE, hP, hK, hD0⟩ := hv
  have hx := B.exec
  have hb := B.bytes
  have hr := B.returns
  have hts := atoms_spec (ws := wsX8_termOf) B.pre
  have hown : s.vm.findClass RX8 = some m.cls := findClass_of_methodNamed B.named
  have hlocks := B.notSynchronized
  subst hsz
  have hD := hD0.self (sz := s.heap.size)
  generalize hAe : va_A (wm ad cy v) s.heap.size = A at hD ⊢
  have hA : ∀ q : Nat, s.heap.size ≤ q → A q := fun q h => by rw [← hAe]; exact Or.inr h
  have hS : va_S A s.heap s.heap [] := va_S.rf
  have hP : va_P (dC, dI) vwCl (wm ad cy v) s.heap := hP
  have hl := lv_entry ([.ref (ad 0), .int x0, .int x1, .int x2]) (n := 4) (Nat.le_of_ble_eq_true rfl)
  rw [lg_entry_eq]
  generalize (lg_sl ([.ref (ad 0), .int x0, .int x1, .int x2]) ++ List.replicate (4 - (lg_sl ([.ref (ad 0), .int x0, .int x1, .int x2])).length) Slot.unset).toArray = ls at hl ⊢
  have hl : lv_has ls 4 [(0, .ref (ad 0)), (1, .int x0), (2, .int x1), (3, .int x2)] := hl
  refine lv_aload_n hx hb dX8_termOf_0 rfl (lv_at hl 0 rfl) ?_
  refine lv_iload_n hx hb dX8_termOf_1 rfl (lv_at hl 1 rfl) ?_
  refine lv_iload_n hx hb dX8_termOf_2 rfl (lv_at hl 2 rfl) ?_
  refine yw_i (w1 := fun (u : Nat → Nat → Int32) => wm ad cy u) hD hS hA (va_runV (As := [.int x0, .int x1]) (rest := []) ⟨hx, hb, hml, hown, hts⟩ (e_X8_isTerm l dC dI cy _ ad v hv x0 x1) (cwV 2 hts gX8_termOf_X8_isTerm rfl rfl rfl hd_V_X8_isTerm_2 ⟨Nat.le_of_ble_eq_true rfl, Nat.le_of_ble_eq_true rfl⟩) (yw_preV hE hK hP hD (ci := 8) (q := (RX8, TX8, 11)) (q0 := 0) rfl (wm_at (by decide) rc_0)) rfl rfl hl.1 rfl (lv_room (Nat.le_of_ble_eq_true rfl)) dX8_termOf_3 ⟨Nat.le_of_ble_eq_true rfl, Nat.le_of_ble_eq_true rfl⟩) (fun r_1 v_1 H locs hw_1 hP hD hS => ?_)
  obtain ⟨-, hu_1, hw_1⟩ := hw_1
  replace hu_1 := hu_1.symm
  subst hu_1
  rcases hw_1 with ⟨rfl, ha_2⟩ | ⟨rfl, ha_2⟩
  · have hb_2 := hv 1 2 6 (by decide)
    have hj_2 : 0 ≤ x0.toInt ∧ x0.toInt ≤ 5 := ⟨by omega, by omega⟩
    have zn_x0 : (x0.toNatClampNeg : Int) = x0.toInt := t_nn (by omega)
    have hg_2 := hv 1 (38 + 7 * x0.toNatClampNeg) 5 (bS_c (by omega) (by omega))
    have hl_2 : 0 ≤ x1.toInt ∧ x1.toInt ≤ 4 := ⟨by omega, by omega⟩
    refine lv_if_eq (tgt := 33) hx hb dX8_termOf_6 (by decide) (fun c9 => absurd c9 (by decide)) (fun _ => ?_)
    refine lv_iload_n hx hb dX8_termOf_9 rfl (lv_at hl 3 rfl) ?_
    refine lv_iconst (v := 0) hx hb dX8_termOf_10 (by decide) ?_
    refine lv_iconst (v := 4) hx hb dX8_termOf_11 (by decide) ?_
    refine yc_p hP hS (va_runS (As := [.int x2, .int 0, .int 4]) (rest := []) ⟨hx, hb, hml, hown, hts⟩ (c_X8_in l x2 0 4) (cwS 3 hts gX8_termOf_X8_in rfl rfl rfl hd_S_X8_in_3 ⟨Nat.le_of_ble_eq_true rfl, Nat.le_of_ble_eq_true rfl⟩) ex_preP rfl rfl hl.1 rfl (lv_room (Nat.le_of_ble_eq_true rfl)) dX8_termOf_12 ⟨Nat.le_of_ble_eq_true rfl, Nat.le_of_ble_eq_true rfl⟩) (fun r_3 H locs hw_3 hP hS => ?_)
    rcases wi_ca hw_3 with ⟨rfl, hc_4⟩ | ⟨rfl, hc_4⟩
    · have k_0 : (0 : Int32).toInt = 0 := by decide
      have k_4 : (4 : Int32).toInt = 4 := by decide
      have tc_4 := wi_tl hc_4
      refine lv_if_eq (tgt := 33) hx hb dX8_termOf_15 (by decide) (fun c9 => absurd c9 (by decide)) (fun _ => ?_)
      refine lv_aload_n hx hb dX8_termOf_18 rfl (lv_at hl 0 rfl) ?_
      refine va_get (D := (dC, dI)) (ci := 8) (v := .ref (ad 1)) (C := RX8) (T := TX8) (N := 11) hx hb hts iwX8_termOf_X8 hown hK hP (0) (wm_at (by decide) rc_0) rfl 0 (by decide) (hts (.fieldLink RX8 7 "QuietStairsModel" "s" "[I") fwX8_termOf_1) (fun _ h9 => h9) rfl dX8_termOf_19 ?_
      refine lv_iload_n hx hb dX8_termOf_22 rfl (lv_at hl 1 rfl) ?_
      refine lv_iload_n hx hb dX8_termOf_23 rfl (lv_at hl 2 rfl) ?_
      refine yc_p hP hS (va_runS (As := [.int x0, .int x1]) (rest := [.ref (ad 1)]) ⟨hx, hb, hml, hown, hts⟩ (c_X8_termAt l x0 x1) (cwS 2 hts gX8_termOf_X8_termAt rfl rfl rfl hd_S_X8_termAt_2 ⟨Nat.le_of_ble_eq_true rfl, Nat.le_of_ble_eq_true rfl⟩) ex_preP rfl rfl hl.1 rfl (lv_room (Nat.le_of_ble_eq_true rfl)) dX8_termOf_24 ⟨Nat.le_of_ble_eq_true rfl, Nat.le_of_ble_eq_true rfl⟩) (fun r_5 H locs hw_5 hP hS => ?_)
      have tr_5 : r_5.toInt = 158 + 25 * x0.toInt + 5 * x1.toInt := t_tm hw_5 ⟨by omega, by omega⟩ ⟨by omega, by omega⟩
      refine lv_iload_n hx hb dX8_termOf_27 rfl (lv_at hl 3 rfl) ?_
      refine lv_iadd hx hb dX8_termOf_28 ?_
      refine lv_topi (fun x_6 ex_6 => ?_)
      have tx_6 : x_6.toInt = r_5.toInt + x2.toInt := by rw [ex_6]; exact t_add ⟨by omega, by omega⟩
      have zn_x1 : (x1.toNatClampNeg : Int) = x1.toInt := t_nn (by omega)
      have zn_x2 : (x2.toNatClampNeg : Int) = x2.toInt := t_nn (by omega)
      have nx_6 : x_6.toNatClampNeg = 158 + 25 * x0.toNatClampNeg + 5 * x1.toNatClampNeg + x2.toNatClampNeg := by have z1 := t_nn (x := x_6) (by omega); omega
      refine va_iald hx hb hK hP (1) 0 (wm_at (by decide) rc_1) rfl (vp_in_iff.mpr ⟨by omega, by omega⟩) dX8_termOf_29 ?_
      refine lv_topi (fun x_7 ex_7 => ?_)
      rw [nx_6] at ex_7
      have qx_7 : x_7.toInt = (v 1 (158 + 25 * x0.toNatClampNeg + 5 * x1.toNatClampNeg + x2.toNatClampNeg)).toInt := congrArg Int32.toInt ex_7
      refine lv_goto (tgt := 34) hx hb dX8_termOf_30 (by decide) ?_
      have hpost : (¬ ((0 ≤ x0.toInt ∧ x0.toInt < (v 1 2).toInt) ∧ 0 ≤ x1.toInt ∧ x1.toInt < (v 1 (38 + 7 * x0.toNatClampNeg)).toInt) → x_7 = -1 ∧ v = v) ∧ (((0 ≤ x0.toInt ∧ x0.toInt < (v 1 2).toInt) ∧ 0 ≤ x1.toInt ∧ x1.toInt < (v 1 (38 + 7 * x0.toNatClampNeg)).toInt) ∧ 0 ≤ x2.toInt ∧ x2.toInt ≤ 4 → x_7 = v 1 (158 + 25 * x0.toNatClampNeg + 5 * x1.toNatClampNeg + x2.toNatClampNeg) ∧ v = v) ∧ (((0 ≤ x0.toInt ∧ x0.toInt < (v 1 2).toInt) ∧ 0 ≤ x1.toInt ∧ x1.toInt < (v 1 (38 + 7 * x0.toNatClampNeg)).toInt) ∧ ¬ (0 ≤ x2.toInt ∧ x2.toInt ≤ 4) → x_7 = -1 ∧ v = v) := by
        refine ⟨fun hq => ?_, fun hq => ?_, fun hq => ?_⟩
        · exfalso; omega
        · exact ⟨by rw [ex_7], rfl⟩
        · exfalso; omega
      exact W.iret (v := x_7) hx hb hr (fun t ht hW => ⟨⟨x_7, v, rfl, ⟨hv, hpost⟩, by rw [ht]; exact hP, hD⟩, hS.F ht⟩) hS.2.2 dX8_termOf_34
    · have k_0 : (0 : Int32).toInt = 0 := by decide
      have k_4 : (4 : Int32).toInt = 4 := by decide
      have tc_4 : ¬ ((0 : Int32).toInt ≤ x2.toInt ∧ x2.toInt ≤ (4 : Int32).toInt) := fun q => hc_4 ⟨Int32.le_iff_toInt_le.mpr q.1, Int32.le_iff_toInt_le.mpr q.2⟩
      refine lv_if_eq (tgt := 33) hx hb dX8_termOf_15 (by decide) (fun _ => ?_) (fun c9 => absurd c9 (by decide))
      refine lv_iconst (v := (-1)) hx hb dX8_termOf_33 (by decide) ?_
      have hpost : (¬ ((0 ≤ x0.toInt ∧ x0.toInt < (v 1 2).toInt) ∧ 0 ≤ x1.toInt ∧ x1.toInt < (v 1 (38 + 7 * x0.toNatClampNeg)).toInt) → ((-1) : Int32) = -1 ∧ v = v) ∧ (((0 ≤ x0.toInt ∧ x0.toInt < (v 1 2).toInt) ∧ 0 ≤ x1.toInt ∧ x1.toInt < (v 1 (38 + 7 * x0.toNatClampNeg)).toInt) ∧ 0 ≤ x2.toInt ∧ x2.toInt ≤ 4 → ((-1) : Int32) = v 1 (158 + 25 * x0.toNatClampNeg + 5 * x1.toNatClampNeg + x2.toNatClampNeg) ∧ v = v) ∧ (((0 ≤ x0.toInt ∧ x0.toInt < (v 1 2).toInt) ∧ 0 ≤ x1.toInt ∧ x1.toInt < (v 1 (38 + 7 * x0.toNatClampNeg)).toInt) ∧ ¬ (0 ≤ x2.toInt ∧ x2.toInt ≤ 4) → ((-1) : Int32) = -1 ∧ v = v) := by
        refine ⟨fun hq => ?_, fun hq => ?_, fun hq => ?_⟩
        · exfalso; omega
        · exfalso; omega
        · exact ⟨rfl, rfl⟩
      exact W.iret (v := (-1)) hx hb hr (fun t ht hW => ⟨⟨(-1), v, rfl, ⟨hv, hpost⟩, by rw [ht]; exact hP, hD⟩, hS.F ht⟩) hS.2.2 dX8_termOf_34
  · refine lv_if_eq (tgt := 33) hx hb dX8_termOf_6 (by decide) (fun _ => ?_) (fun c9 => absurd c9 (by decide))
    refine lv_iconst (v := (-1)) hx hb dX8_termOf_33 (by decide) ?_
    have hpost : (¬ ((0 ≤ x0.toInt ∧ x0.toInt < (v 1 2).toInt) ∧ 0 ≤ x1.toInt ∧ x1.toInt < (v 1 (38 + 7 * x0.toNatClampNeg)).toInt) → ((-1) : Int32) = -1 ∧ v = v) ∧ (((0 ≤ x0.toInt ∧ x0.toInt < (v 1 2).toInt) ∧ 0 ≤ x1.toInt ∧ x1.toInt < (v 1 (38 + 7 * x0.toNatClampNeg)).toInt) ∧ 0 ≤ x2.toInt ∧ x2.toInt ≤ 4 → ((-1) : Int32) = v 1 (158 + 25 * x0.toNatClampNeg + 5 * x1.toNatClampNeg + x2.toNatClampNeg) ∧ v = v) ∧ (((0 ≤ x0.toInt ∧ x0.toInt < (v 1 2).toInt) ∧ 0 ≤ x1.toInt ∧ x1.toInt < (v 1 (38 + 7 * x0.toNatClampNeg)).toInt) ∧ ¬ (0 ≤ x2.toInt ∧ x2.toInt ≤ 4) → ((-1) : Int32) = -1 ∧ v = v) := by
      refine ⟨fun hq => ?_, fun hq => ?_, fun hq => ?_⟩
      · exact ⟨rfl, rfl⟩
      · exfalso; omega
      · exfalso; omega
    exact W.iret (v := (-1)) hx hb hr (fun t ht hW => ⟨⟨(-1), v, rfl, ⟨hv, hpost⟩, by rw [ht]; exact hP, hD⟩, hS.F ht⟩) hS.2.2 dX8_termOf_34

set_option maxHeartbeats 4000000 in
theorem T_termOf {n r r2 x0 x1 x2 : Int32} {v u v2 u2 : Nat → Nat → Int32} (hI : Iv v) (hQ : Ir v2) (h : RR n v v2) (p : (¬ ((0 ≤ x0.toInt ∧ x0.toInt < (v 13 2).toInt) ∧ 0 ≤ x1.toInt ∧ x1.toInt < (v (29 + 15 * x0.toNatClampNeg) 5).toInt) → r = -1 ∧ u = v) ∧ (((0 ≤ x0.toInt ∧ x0.toInt < (v 13 2).toInt) ∧ 0 ≤ x1.toInt ∧ x1.toInt < (v (29 + 15 * x0.toNatClampNeg) 5).toInt) ∧ 0 ≤ x2.toInt ∧ x2.toInt ≤ 4 → r = v (39 + 15 * x0.toNatClampNeg + x1.toNatClampNeg) x2.toNatClampNeg ∧ u = v) ∧ (((0 ≤ x0.toInt ∧ x0.toInt < (v 13 2).toInt) ∧ 0 ≤ x1.toInt ∧ x1.toInt < (v (29 + 15 * x0.toNatClampNeg) 5).toInt) ∧ ¬ (0 ≤ x2.toInt ∧ x2.toInt ≤ 4) → r = -1 ∧ u = v)) (q : (¬ ((0 ≤ x0.toInt ∧ x0.toInt < (v2 1 2).toInt) ∧ 0 ≤ x1.toInt ∧ x1.toInt < (v2 1 (38 + 7 * x0.toNatClampNeg)).toInt) → r2 = -1 ∧ u2 = v2) ∧ (((0 ≤ x0.toInt ∧ x0.toInt < (v2 1 2).toInt) ∧ 0 ≤ x1.toInt ∧ x1.toInt < (v2 1 (38 + 7 * x0.toNatClampNeg)).toInt) ∧ 0 ≤ x2.toInt ∧ x2.toInt ≤ 4 → r2 = v2 1 (158 + 25 * x0.toNatClampNeg + 5 * x1.toNatClampNeg + x2.toNatClampNeg) ∧ u2 = v2) ∧ (((0 ≤ x0.toInt ∧ x0.toInt < (v2 1 2).toInt) ∧ 0 ≤ x1.toInt ∧ x1.toInt < (v2 1 (38 + 7 * x0.toNatClampNeg)).toInt) ∧ ¬ (0 ≤ x2.toInt ∧ x2.toInt ≤ 4) → r2 = -1 ∧ u2 = v2)) : r = r2 ∧ RR n u u2 := by
  have e0 : v 13 0 = v2 1 0 := h.1.1 _ _ _ (lk_a (by decide))
  have e1 : v 13 1 = v2 1 1 := h.1.1 _ _ _ (lk_a (by decide))
  have e2 : v 13 2 = v2 1 2 := h.1.1 _ _ _ (lk_a (by decide))
  have e3 : v 13 3 = v2 1 3 := h.1.1 _ _ _ (lk_a (by decide))
  have hb0 := hQ 1 0 8 (by decide)
  have hb1 := hQ 1 1 4 (by decide)
  have hb2 := hQ 1 2 6 (by decide)
  have hb3 := hQ 1 3 6 (by decide)
  rw [e2] at p
  by_cases hC : (0 ≤ x0.toInt ∧ x0.toInt < (v2 1 2).toInt)
  · have zX := t_nn (x := x0) (by omega)
    have hX : x0.toNatClampNeg < 6 := by omega
    have ha : (x0.toNatClampNeg : Int) < (v2 1 2).toInt := by omega
    have ev : v (29 + 15 * x0.toNatClampNeg) 5 = v2 1 (38 + 7 * x0.toNatClampNeg) := h.1.1 _ _ _ (lk_c5 hX ha)
    rw [ev] at p
    have hb := hQ 1 (38 + 7 * x0.toNatClampNeg) 5 (bS_c (by omega) (by omega))
    by_cases hT : 0 ≤ x1.toInt ∧ x1.toInt < (v2 1 (38 + 7 * x0.toNatClampNeg)).toInt
    · by_cases hW : 0 ≤ x2.toInt ∧ x2.toInt ≤ 4
      · obtain ⟨p1, p2⟩ := p.2.1 ⟨⟨hC, hT⟩, hW⟩
        obtain ⟨q1, q2⟩ := q.2.1 ⟨⟨hC, hT⟩, hW⟩
        have zT := t_nn (x := x1) (by omega)
        have zW := t_nn (x := x2) (by omega)
        refine ⟨?_, by rw [p2, q2]; exact h⟩
        rw [p1, q1]
        exact h.1.1 _ _ _ (lk_t hX ha (by omega) (by omega) (by omega))
      · obtain ⟨p1, p2⟩ := p.2.2 ⟨⟨hC, hT⟩, hW⟩
        obtain ⟨q1, q2⟩ := q.2.2 ⟨⟨hC, hT⟩, hW⟩
        exact ⟨by rw [p1, q1], by rw [p2, q2]; exact h⟩
    · obtain ⟨p1, p2⟩ := p.1 (fun w => hT w.2)
      obtain ⟨q1, q2⟩ := q.1 (fun w => hT w.2)
      exact ⟨by rw [p1, q1], by rw [p2, q2]; exact h⟩
  · obtain ⟨p1, p2⟩ := p.1 (fun w => hC w.1)
    obtain ⟨q1, q2⟩ := q.1 (fun w => hC w.1)
    exact ⟨by rw [p1, q1], by rw [p2, q2]; exact h⟩

/-- a round over: a asks, g gives; only the last one of a settled case met -/
def od (st sm rd a g : Int32) (j : Nat) : Prop := (0 ≤ a.toInt ∧ a.toInt ≤ 100) ∧ (0 ≤ g.toInt ∧ g.toInt ≤ 100) ∧ (st.toInt = 1 ∧ (j : Int) + 1 = rd.toInt → a.toInt ≤ g.toInt ∧ sm = (a + g) / 2) ∧ (¬ (st.toInt = 1 ∧ (j : Int) + 1 = rd.toInt) → g.toInt < a.toInt)
def OR_ (s : Nat → Int32) (c : Nat) : Prop := ((s (34 + 7 * c)).toInt = 1 → 1 ≤ (s (36 + 7 * c)).toInt) ∧ ∀ j : Nat, j < 5 → (j : Int) < (s (36 + 7 * c)).toInt → od (s (34 + 7 * c)) (s (35 + 7 * c)) (s (36 + 7 * c)) (s (86 + 10 * c + 2 * j)) (s (87 + 10 * c + 2 * j)) j
def OT (s : Nat → Int32) (c : Nat) : Prop := ∀ t : Nat, t < 5 → (t : Int) < (s (38 + 7 * c)).toInt → (s (161 + 25 * c + 5 * t)).toInt ≤ (s (162 + 25 * c + 5 * t)).toInt
def OP (s : Nat → Int32) (c : Nat) : Prop := (0 ≤ (s (32 + 7 * c)).toInt ∧ (s (32 + 7 * c)).toInt < (s 0).toInt) ∧ 0 ≤ (s (33 + 7 * c)).toInt ∧ (s (33 + 7 * c)).toInt < (s 0).toInt
def OW (s : Nat → Int32) (c : Nat) : Prop := 1 ≤ (s (37 + 7 * c)).toInt ∧ (s (37 + 7 * c)).toInt ≤ 9
def OC (s : Nat → Int32) (c : Nat) : Prop := OP s c ∧ OW s c ∧ OR_ s c ∧ OT s c
def RO (s : Nat → Int32) : Prop := ∀ c : Nat, c < 6 → (c : Int) < (s 2).toInt → OC s c
section ROS
variable {s z : Nat → Int32} {c : Nat}
theorem OP.cg (h : OP s c) (h0 : (s 0).toInt ≤ (z 0).toInt) (e : ∀ w : Nat, 32 ≤ w → w < 34 → z (w + 7 * c) = s (w + 7 * c)) : OP z c := by
  unfold OP at h ⊢
  rw [e 32 (by decide) (by decide), e 33 (by decide) (by decide)]
  omega
theorem OW.cg (h : OW s c) (e : z (37 + 7 * c) = s (37 + 7 * c)) : OW z c := by
  unfold OW at h ⊢
  rw [e]
  exact h
theorem OR_.cg (h : OR_ s c) (e : ∀ w : Nat, 34 ≤ w → w < 37 → z (w + 7 * c) = s (w + 7 * c)) (eo : ∀ w : Nat, w < 10 → z (86 + w + 10 * c) = s (86 + w + 10 * c)) : OR_ z c := by
  unfold OR_ at h ⊢
  rw [e 34 (by decide) (by decide), e 35 (by decide) (by decide), e 36 (by decide) (by decide)]
  refine ⟨h.1, fun j hj hr => ?_⟩
  rw [show 86 + 10 * c + 2 * j = 86 + 2 * j + 10 * c from by omega, show 87 + 10 * c + 2 * j = 86 + (2 * j + 1) + 10 * c from by omega, eo (2 * j) (by omega), eo (2 * j + 1) (by omega), show 86 + 2 * j + 10 * c = 86 + 10 * c + 2 * j from by omega, show 86 + (2 * j + 1) + 10 * c = 87 + 10 * c + 2 * j from by omega]
  exact h.2 j hj hr
theorem OT.cg (h : OT s c) (e : z (38 + 7 * c) = s (38 + 7 * c)) (et : ∀ t : Nat, t < 5 → (t : Int) < (s (38 + 7 * c)).toInt → z (161 + 25 * c + 5 * t) = s (161 + 25 * c + 5 * t) ∧ z (162 + 25 * c + 5 * t) = s (162 + 25 * c + 5 * t)) : OT z c := by
  intro t ht hr
  rw [e] at hr
  rw [(et t ht hr).1, (et t ht hr).2]
  exact h t ht hr
end ROS
/-- as RR, with what holds of the cases -/
def RR3 (n : Int32) (v v2 : Nat → Nat → Int32) : Prop := RR n v v2 ∧ RO (v2 1) ∧ (n = 1 → RO (v2 2))
section RR3S
variable {n r r2 : Int32} {v v2 u u2 : Nat → Nat → Int32}
theorem RR3.mv (h : RR3 n v v2) (f : Fz v u) (g : Fq v2 u2) : RR3 n u u2 := ⟨h.1.mv f g, by rw [g.1]; exact h.2.1, fun q => by rw [g.2.1]; exact h.2.2 q⟩
theorem RR3.wr (h : RR3 n v v2) (h1 : r = r2 ∧ RR n u u2) (h2 : RO (u2 1)) (h3 : u2 2 = v2 2) : r = r2 ∧ RR3 n u u2 := ⟨h1.1, h1.2, h2, fun q => by rw [h3]; exact h.2.2 q⟩
theorem RO.copy {s z : Nat → Int32} (h : RO s) (hz : ∀ n : Nat, n < 596 → z n = s n) : RO z := by
  intro c hc ha
  rw [hz 2 (by decide)] at ha
  obtain ⟨h1, h2, h3, h4⟩ := h c hc ha
  exact ⟨h1.cg (by rw [hz 0 (by decide)]; exact Int.le_refl _) (fun w a b => hz _ (by omega)), h2.cg (hz _ (by omega)), h3.cg (fun w a b => hz _ (by omega)) (fun w a => hz _ (by omega)), h4.cg (hz _ (by omega)) (fun t ht _ => ⟨hz _ (by omega), hz _ (by omega)⟩)⟩
end RR3S
theorem RO_0 : RO (m_0 1) := fun c hc ha => absurd ha (by have z : (0 : Int32).toInt = 0 := by decide
                                                          show ¬ (c : Int) < (0 : Int32).toInt; omega)
theorem RR3_0 : RR3 0 v_0 m_0 := ⟨RR_0, RO_0, fun q => absurd q (by decide)⟩

set_option maxHeartbeats 4000000 in
theorem S_weight {n r r2 x0 x1 : Int32} {v u v2 u2 : Nat → Nat → Int32} (hI : Iv v) (hQ : Ir v2) (h0 : RR3 n v v2) (p : (¬ ((0 ≤ x0.toInt ∧ x0.toInt < (v 13 2).toInt) ∧ 1 ≤ x1.toInt ∧ x1.toInt ≤ 9) → r = -1 ∧ u = v) ∧ ((0 ≤ x0.toInt ∧ x0.toInt < (v 13 2).toInt) ∧ 1 ≤ x1.toInt ∧ x1.toInt ≤ 9 → r = v (29 + 15 * x0.toNatClampNeg) 3 ∧ (∀ k j : Nat, u k j = if k = 29 + 15 * x0.toNatClampNeg ∧ j = 3 then x1 else v k j))) (q : (¬ ((0 ≤ x0.toInt ∧ x0.toInt < (v2 1 2).toInt) ∧ 1 ≤ x1.toInt ∧ x1.toInt ≤ 9) → r2 = -1 ∧ u2 = v2) ∧ ((0 ≤ x0.toInt ∧ x0.toInt < (v2 1 2).toInt) ∧ 1 ≤ x1.toInt ∧ x1.toInt ≤ 9 → r2 = v2 1 (37 + 7 * x0.toNatClampNeg) ∧ (∀ n : Nat, u2 1 n = if n = 37 + 7 * x0.toNatClampNeg then x1 else v2 1 n) ∧ (∀ k : Nat, k ≠ 1 → u2 k = v2 k))) : r = r2 ∧ RR3 n u u2 := by
  have h := h0.1
  have hO := h0.2.1
  have hT := T_weight hI hQ h p q
  have hb0 := hQ 1 0 8 (by decide)
  have hb1 := hQ 1 1 4 (by decide)
  have hb2 := hQ 1 2 6 (by decide)
  have hb3 := hQ 1 3 6 (by decide)
  by_cases hC : (0 ≤ x0.toInt ∧ x0.toInt < (v2 1 2).toInt) ∧ 1 ≤ x1.toInt ∧ x1.toInt ≤ 9
  · obtain ⟨-, q2, q3⟩ := q.2 hC
    have zX := t_nn (x := x0) (by omega)
    have hX : x0.toNatClampNeg < 6 := by omega
    have hXa : (x0.toNatClampNeg : Int) < (v2 1 2).toInt := by omega
    refine h0.wr hT ?_ (q3 2 (by decide))
    intro c hc ha
    have E2 : u2 1 2 = v2 1 2 := by rw [q2, if_neg (by omega)]
    rw [E2] at ha
    obtain ⟨a1, a2, a3, a4⟩ := hO c hc ha
    refine ⟨a1.cg (by rw [q2, if_neg (by omega)]; exact Int.le_refl _) (fun w f1 f2 => by rw [q2, if_neg (by omega)]), ?_, a3.cg (fun w f1 f2 => by rw [q2, if_neg (by omega)]) (fun w f1 => by rw [q2, if_neg (by omega)]), a4.cg (by rw [q2, if_neg (by omega)]) (fun t ht hr => ⟨by rw [q2, if_neg (by omega)], by rw [q2, if_neg (by omega)]⟩)⟩
    by_cases e : c = x0.toNatClampNeg
    · unfold OW
      rw [q2, if_pos (by omega)]
      exact hC.2
    · exact a2.cg (by rw [q2, if_neg (by omega)])
  · obtain ⟨-, q2⟩ := q.1 hC
    exact h0.wr hT (by rw [q2]; exact hO) (by rw [q2])

set_option maxHeartbeats 4000000 in
theorem S_log {n r r2 x0 x1 x2 x3 : Int32} {v u v2 u2 : Nat → Nat → Int32} (hI : Iv v) (hQ : Ir v2) (h0 : RR3 n v v2) (p : (¬ ((0 ≤ x0.toInt ∧ x0.toInt < (v 13 2).toInt) ∧ (0 ≤ x1.toInt ∧ x1.toInt ≤ 1) ∧ (0 ≤ x2.toInt ∧ x2.toInt ≤ 23) ∧ 0 ≤ x3.toInt ∧ x3.toInt ≤ 7) → r = -1 ∧ u = v) ∧ ((0 ≤ x0.toInt ∧ x0.toInt < (v 13 2).toInt) ∧ (0 ≤ x1.toInt ∧ x1.toInt ≤ 1) ∧ (0 ≤ x2.toInt ∧ x2.toInt ≤ 23) ∧ 0 ≤ x3.toInt ∧ x3.toInt ≤ 7 → r = v (36 + 15 * x0.toNatClampNeg + x1.toNatClampNeg) x2.toNatClampNeg ∧ (∀ k j : Nat, u k j = if k = 36 + 15 * x0.toNatClampNeg + x1.toNatClampNeg ∧ j = x2.toNatClampNeg then x3 else v k j))) (q : (¬ ((0 ≤ x0.toInt ∧ x0.toInt < (v2 1 2).toInt) ∧ (0 ≤ x1.toInt ∧ x1.toInt ≤ 1) ∧ (0 ≤ x2.toInt ∧ x2.toInt ≤ 23) ∧ 0 ≤ x3.toInt ∧ x3.toInt ≤ 7) → r2 = -1 ∧ u2 = v2) ∧ ((0 ≤ x0.toInt ∧ x0.toInt < (v2 1 2).toInt) ∧ (0 ≤ x1.toInt ∧ x1.toInt ≤ 1) ∧ (0 ≤ x2.toInt ∧ x2.toInt ≤ 23) ∧ 0 ≤ x3.toInt ∧ x3.toInt ≤ 7 → r2 = v2 1 (308 + 48 * x0.toNatClampNeg + 24 * x1.toNatClampNeg + x2.toNatClampNeg) ∧ (∀ n : Nat, u2 1 n = if n = 308 + 48 * x0.toNatClampNeg + 24 * x1.toNatClampNeg + x2.toNatClampNeg then x3 else v2 1 n) ∧ (∀ k : Nat, k ≠ 1 → u2 k = v2 k))) : r = r2 ∧ RR3 n u u2 := by
  have h := h0.1
  have hO := h0.2.1
  have hT := T_log hI hQ h p q
  have hb0 := hQ 1 0 8 (by decide)
  have hb1 := hQ 1 1 4 (by decide)
  have hb2 := hQ 1 2 6 (by decide)
  have hb3 := hQ 1 3 6 (by decide)
  by_cases hC : (0 ≤ x0.toInt ∧ x0.toInt < (v2 1 2).toInt) ∧ (0 ≤ x1.toInt ∧ x1.toInt ≤ 1) ∧ (0 ≤ x2.toInt ∧ x2.toInt ≤ 23) ∧ 0 ≤ x3.toInt ∧ x3.toInt ≤ 7
  · obtain ⟨-, q2, q3⟩ := q.2 hC
    have zX := t_nn (x := x0) (by omega)
    have hX : x0.toNatClampNeg < 6 := by omega
    have hXa : (x0.toNatClampNeg : Int) < (v2 1 2).toInt := by omega
    refine h0.wr hT ?_ (q3 2 (by decide))
    intro c hc ha
    have E2 : u2 1 2 = v2 1 2 := by rw [q2, if_neg (by omega)]
    rw [E2] at ha
    obtain ⟨a1, a2, a3, a4⟩ := hO c hc ha
    exact ⟨a1.cg (by rw [q2, if_neg (by omega)]; exact Int.le_refl _) (fun w f1 f2 => by rw [q2, if_neg (by omega)]), a2.cg (by rw [q2, if_neg (by omega)]), a3.cg (fun w f1 f2 => by rw [q2, if_neg (by omega)]) (fun w f1 => by rw [q2, if_neg (by omega)]), a4.cg (by rw [q2, if_neg (by omega)]) (fun t ht hr => ⟨by rw [q2, if_neg (by omega)], by rw [q2, if_neg (by omega)]⟩)⟩
  · obtain ⟨-, q2⟩ := q.1 hC
    exact h0.wr hT (by rw [q2]; exact hO) (by rw [q2])

set_option maxHeartbeats 4000000 in
theorem S_strike {n r r2 x0 : Int32} {v u v2 u2 : Nat → Nat → Int32} (hI : Iv v) (hQ : Ir v2) (h0 : RR3 n v v2) (p : (¬ (0 ≤ x0.toInt ∧ x0.toInt < (v 13 2).toInt) → r = -1 ∧ u = v) ∧ ((0 ≤ x0.toInt ∧ x0.toInt < (v 13 2).toInt) ∧ (v (29 + 15 * x0.toNatClampNeg) 5).toInt = 0 → r = -5 ∧ u = v) ∧ ((0 ≤ x0.toInt ∧ x0.toInt < (v 13 2).toInt) ∧ (v (29 + 15 * x0.toNatClampNeg) 5).toInt ≠ 0 → r = v (29 + 15 * x0.toNatClampNeg) 5 - 1 ∧ (∀ k j : Nat, u k j = if k = 29 + 15 * x0.toNatClampNeg ∧ j = 5 then v (29 + 15 * x0.toNatClampNeg) 5 - 1 else v k j))) (q : (¬ (0 ≤ x0.toInt ∧ x0.toInt < (v2 1 2).toInt) → r2 = -1 ∧ u2 = v2) ∧ ((0 ≤ x0.toInt ∧ x0.toInt < (v2 1 2).toInt) ∧ (v2 1 (38 + 7 * x0.toNatClampNeg)).toInt = 0 → r2 = -5 ∧ u2 = v2) ∧ ((0 ≤ x0.toInt ∧ x0.toInt < (v2 1 2).toInt) ∧ (v2 1 (38 + 7 * x0.toNatClampNeg)).toInt ≠ 0 → r2 = v2 1 (38 + 7 * x0.toNatClampNeg) - 1 ∧ (∀ n : Nat, u2 1 n = if n = 38 + 7 * x0.toNatClampNeg then v2 1 (38 + 7 * x0.toNatClampNeg) - 1 else v2 1 n) ∧ (∀ k : Nat, k ≠ 1 → u2 k = v2 k))) : r = r2 ∧ RR3 n u u2 := by
  have h := h0.1
  have hO := h0.2.1
  have hT := T_strike hI hQ h p q
  have hb0 := hQ 1 0 8 (by decide)
  have hb1 := hQ 1 1 4 (by decide)
  have hb2 := hQ 1 2 6 (by decide)
  have hb3 := hQ 1 3 6 (by decide)
  by_cases hC : (0 ≤ x0.toInt ∧ x0.toInt < (v2 1 2).toInt)
  · by_cases hD : (v2 1 (38 + 7 * x0.toNatClampNeg)).toInt = 0
    · obtain ⟨-, q2⟩ := q.2.1 ⟨hC, hD⟩
      exact h0.wr hT (by rw [q2]; exact hO) (by rw [q2])
    · obtain ⟨-, q2, q3⟩ := q.2.2 ⟨hC, hD⟩
      have zX := t_nn (x := x0) (by omega)
      have hX : x0.toNatClampNeg < 6 := by omega
      have hXa : (x0.toNatClampNeg : Int) < (v2 1 2).toInt := by omega
      have hb := hQ 1 (38 + 7 * x0.toNatClampNeg) 5 (bS_c (by omega) (by omega))
      have k1 : (1 : Int32).toInt = 1 := by decide
      have hx : (v2 1 (38 + 7 * x0.toNatClampNeg) - 1).toInt = (v2 1 (38 + 7 * x0.toNatClampNeg)).toInt - 1 := by rw [t_sub (by rw [k1]; omega), k1]
      refine h0.wr hT ?_ (q3 2 (by decide))
      intro c hc ha
      have E2 : u2 1 2 = v2 1 2 := by rw [q2, if_neg (by omega)]
      rw [E2] at ha
      obtain ⟨a1, a2, a3, a4⟩ := hO c hc ha
      refine ⟨a1.cg (by rw [q2, if_neg (by omega)]; exact Int.le_refl _) (fun w f1 f2 => by rw [q2, if_neg (by omega)]), a2.cg (by rw [q2, if_neg (by omega)]), a3.cg (fun w f1 f2 => by rw [q2, if_neg (by omega)]) (fun w f1 => by rw [q2, if_neg (by omega)]), ?_⟩
      by_cases e : c = x0.toNatClampNeg
      · subst e
        intro t ht hr
        rw [q2, if_pos (by omega), hx] at hr
        rw [q2 (161 + 25 * x0.toNatClampNeg + 5 * t), if_neg (by omega), q2 (162 + 25 * x0.toNatClampNeg + 5 * t), if_neg (by omega)]
        exact a4 t ht (by omega)
      · exact a4.cg (by rw [q2, if_neg (by omega)]) (fun t ht hr => ⟨by rw [q2, if_neg (by omega)], by rw [q2, if_neg (by omega)]⟩)
  · obtain ⟨-, q2⟩ := q.1 hC
    exact h0.wr hT (by rw [q2]; exact hO) (by rw [q2])

set_option maxHeartbeats 4000000 in
theorem S_close {n r r2 x0 : Int32} {v u v2 u2 : Nat → Nat → Int32} (hI : Iv v) (hQ : Ir v2) (h0 : RR3 n v v2) (p : (¬ (0 ≤ x0.toInt ∧ x0.toInt < (v 13 2).toInt) → r = -1 ∧ u = v) ∧ ((0 ≤ x0.toInt ∧ x0.toInt < (v 13 2).toInt) ∧ (v (29 + 15 * x0.toNatClampNeg) 0).toInt ≠ 0 → r = -4 ∧ u = v) ∧ ((0 ≤ x0.toInt ∧ x0.toInt < (v 13 2).toInt) ∧ (v (29 + 15 * x0.toNatClampNeg) 0).toInt = 0 → r = 1 ∧ (∀ k j : Nat, u k j = if k = 29 + 15 * x0.toNatClampNeg ∧ j = 0 then 2 else v k j))) (q : (¬ (0 ≤ x0.toInt ∧ x0.toInt < (v2 1 2).toInt) → r2 = -1 ∧ u2 = v2) ∧ ((0 ≤ x0.toInt ∧ x0.toInt < (v2 1 2).toInt) ∧ (v2 1 (34 + 7 * x0.toNatClampNeg)).toInt ≠ 0 → r2 = -4 ∧ u2 = v2) ∧ ((0 ≤ x0.toInt ∧ x0.toInt < (v2 1 2).toInt) ∧ (v2 1 (34 + 7 * x0.toNatClampNeg)).toInt = 0 → r2 = 1 ∧ (∀ n : Nat, u2 1 n = if n = 34 + 7 * x0.toNatClampNeg then 2 else v2 1 n) ∧ (∀ k : Nat, k ≠ 1 → u2 k = v2 k))) : r = r2 ∧ RR3 n u u2 := by
  have h := h0.1
  have hO := h0.2.1
  have hT := T_close hI hQ h p q
  have hb0 := hQ 1 0 8 (by decide)
  have hb1 := hQ 1 1 4 (by decide)
  have hb2 := hQ 1 2 6 (by decide)
  have hb3 := hQ 1 3 6 (by decide)
  by_cases hC : (0 ≤ x0.toInt ∧ x0.toInt < (v2 1 2).toInt)
  · by_cases hD : (v2 1 (34 + 7 * x0.toNatClampNeg)).toInt ≠ 0
    · obtain ⟨-, q2⟩ := q.2.1 ⟨hC, hD⟩
      exact h0.wr hT (by rw [q2]; exact hO) (by rw [q2])
    · obtain ⟨-, q2, q3⟩ := q.2.2 ⟨hC, by omega⟩
      have zX := t_nn (x := x0) (by omega)
      have hX : x0.toNatClampNeg < 6 := by omega
      have hXa : (x0.toNatClampNeg : Int) < (v2 1 2).toInt := by omega
      refine h0.wr hT ?_ (q3 2 (by decide))
      intro c hc ha
      have E2 : u2 1 2 = v2 1 2 := by rw [q2, if_neg (by omega)]
      rw [E2] at ha
      obtain ⟨a1, a2, a3, a4⟩ := hO c hc ha
      refine ⟨a1.cg (by rw [q2, if_neg (by omega)]; exact Int.le_refl _) (fun w f1 f2 => by rw [q2, if_neg (by omega)]), a2.cg (by rw [q2, if_neg (by omega)]), ?_, a4.cg (by rw [q2, if_neg (by omega)]) (fun t ht hr => ⟨by rw [q2, if_neg (by omega)], by rw [q2, if_neg (by omega)]⟩)⟩
      by_cases e : c = x0.toNatClampNeg
      · subst e
        have k2 : (2 : Int32).toInt = 2 := by decide
        have f1 : u2 1 (34 + 7 * x0.toNatClampNeg) = 2 := by rw [q2, if_pos rfl]
        unfold OR_
        rw [f1]
        refine ⟨fun w => absurd w (by omega), fun j hj hr => ?_⟩
        rw [q2 (36 + 7 * x0.toNatClampNeg), if_neg (by omega)] at hr
        rw [q2 (36 + 7 * x0.toNatClampNeg), if_neg (by omega), q2 (86 + 10 * x0.toNatClampNeg + 2 * j), if_neg (by omega), q2 (87 + 10 * x0.toNatClampNeg + 2 * j), if_neg (by omega)]
        obtain ⟨d1, d2, d3, d4⟩ := a3.2 j hj hr
        exact ⟨d1, d2, fun w => absurd w.1 (by omega), fun _ => d4 (fun w => absurd w.1 (by omega))⟩
      · exact a3.cg (fun w f1 f2 => by rw [q2, if_neg (by omega)]) (fun w f1 => by rw [q2, if_neg (by omega)])
  · obtain ⟨-, q2⟩ := q.1 hC
    exact h0.wr hT (by rw [q2]; exact hO) (by rw [q2])

set_option maxHeartbeats 4000000 in
theorem S_kin_0 {n r r2 x0 x1 : Int32} {v u v2 u2 : Nat → Nat → Int32} (hI : Iv v) (hQ : Ir v2) (h0 : RR3 n v v2) (p : (¬ ((0 ≤ x0.toInt ∧ x0.toInt < (v 13 1).toInt) ∧ 0 ≤ x1.toInt ∧ x1.toInt < (v 13 0).toInt) → r = -1 ∧ u = v) ∧ (((0 ≤ x0.toInt ∧ x0.toInt < (v 13 1).toInt) ∧ 0 ≤ x1.toInt ∧ x1.toInt < (v 13 0).toInt) ∧ (btx (v (25 + x0.toNatClampNeg) 2) x1).toInt = 1 → r = 1 ∧ (∀ k j : Nat, u k j = if k = 25 + x0.toNatClampNeg ∧ j = 2 then v (25 + x0.toNatClampNeg) 2 ^^^ (1 <<< (x1 &&& 31)) else v k j)) ∧ (((0 ≤ x0.toInt ∧ x0.toInt < (v 13 1).toInt) ∧ 0 ≤ x1.toInt ∧ x1.toInt < (v 13 0).toInt) ∧ (btx (v (25 + x0.toNatClampNeg) 2) x1).toInt ≠ 1 → r = 0 ∧ u = v)) (q : (¬ ((0 ≤ x0.toInt ∧ x0.toInt < (v2 1 1).toInt) ∧ 0 ≤ x1.toInt ∧ x1.toInt < (v2 1 0).toInt) → r2 = -1 ∧ u2 = v2) ∧ (((0 ≤ x0.toInt ∧ x0.toInt < (v2 1 1).toInt) ∧ 0 ≤ x1.toInt ∧ x1.toInt < (v2 1 0).toInt) ∧ (btx (v2 1 (28 + x0.toNatClampNeg)) x1).toInt = 1 → r2 = 1 ∧ (∀ n : Nat, u2 1 n = if n = 28 + x0.toNatClampNeg then v2 1 (28 + x0.toNatClampNeg) &&& ((1 <<< (x1 &&& 31)) ^^^ -1) else v2 1 n) ∧ (∀ k : Nat, k ≠ 1 → u2 k = v2 k)) ∧ (((0 ≤ x0.toInt ∧ x0.toInt < (v2 1 1).toInt) ∧ 0 ≤ x1.toInt ∧ x1.toInt < (v2 1 0).toInt) ∧ (btx (v2 1 (28 + x0.toNatClampNeg)) x1).toInt ≠ 1 → r2 = 0 ∧ (∀ n : Nat, u2 1 n = if n = 28 + x0.toNatClampNeg then v2 1 (28 + x0.toNatClampNeg) &&& ((1 <<< (x1 &&& 31)) ^^^ -1) else v2 1 n) ∧ (∀ k : Nat, k ≠ 1 → u2 k = v2 k))) : r = r2 ∧ RR3 n u u2 := by
  have h := h0.1
  have hO := h0.2.1
  have hT := T_kin_0 hI hQ h p q
  have hb0 := hQ 1 0 8 (by decide)
  have hb1 := hQ 1 1 4 (by decide)
  have hb2 := hQ 1 2 6 (by decide)
  have hb3 := hQ 1 3 6 (by decide)
  by_cases hC : (0 ≤ x0.toInt ∧ x0.toInt < (v2 1 1).toInt) ∧ 0 ≤ x1.toInt ∧ x1.toInt < (v2 1 0).toInt
  · have zX := t_nn (x := x0) (by omega)
    have hX : x0.toNatClampNeg < 4 := by omega
    by_cases hD : (btx (v2 1 (28 + x0.toNatClampNeg)) x1).toInt = 1
    · obtain ⟨-, q2, q3⟩ := q.2.1 ⟨hC, hD⟩
      refine h0.wr hT ?_ (q3 2 (by decide))
      intro c hc ha
      have E2 : u2 1 2 = v2 1 2 := by rw [q2, if_neg (by omega)]
      rw [E2] at ha
      obtain ⟨a1, a2, a3, a4⟩ := hO c hc ha
      exact ⟨a1.cg (by rw [q2, if_neg (by omega)]; exact Int.le_refl _) (fun w f1 f2 => by rw [q2, if_neg (by omega)]), a2.cg (by rw [q2, if_neg (by omega)]), a3.cg (fun w f1 f2 => by rw [q2, if_neg (by omega)]) (fun w f1 => by rw [q2, if_neg (by omega)]), a4.cg (by rw [q2, if_neg (by omega)]) (fun t ht hr => ⟨by rw [q2, if_neg (by omega)], by rw [q2, if_neg (by omega)]⟩)⟩
    · obtain ⟨-, q2, q3⟩ := q.2.2 ⟨hC, hD⟩
      refine h0.wr hT ?_ (q3 2 (by decide))
      intro c hc ha
      have E2 : u2 1 2 = v2 1 2 := by rw [q2, if_neg (by omega)]
      rw [E2] at ha
      obtain ⟨a1, a2, a3, a4⟩ := hO c hc ha
      exact ⟨a1.cg (by rw [q2, if_neg (by omega)]; exact Int.le_refl _) (fun w f1 f2 => by rw [q2, if_neg (by omega)]), a2.cg (by rw [q2, if_neg (by omega)]), a3.cg (fun w f1 f2 => by rw [q2, if_neg (by omega)]) (fun w f1 => by rw [q2, if_neg (by omega)]), a4.cg (by rw [q2, if_neg (by omega)]) (fun t ht hr => ⟨by rw [q2, if_neg (by omega)], by rw [q2, if_neg (by omega)]⟩)⟩
  · obtain ⟨-, q2⟩ := q.1 hC
    exact h0.wr hT (by rw [q2]; exact hO) (by rw [q2])

set_option maxHeartbeats 4000000 in
theorem S_kin_1 {n r r2 x0 x1 : Int32} {v u v2 u2 : Nat → Nat → Int32} (hI : Iv v) (hQ : Ir v2) (h0 : RR3 n v v2) (p : (¬ ((0 ≤ x0.toInt ∧ x0.toInt < (v 13 1).toInt) ∧ 0 ≤ x1.toInt ∧ x1.toInt < (v 13 0).toInt) → r = -1 ∧ u = v) ∧ (((0 ≤ x0.toInt ∧ x0.toInt < (v 13 1).toInt) ∧ 0 ≤ x1.toInt ∧ x1.toInt < (v 13 0).toInt) ∧ (btx (v (25 + x0.toNatClampNeg) 2) x1).toInt = 1 → r = 0 ∧ u = v) ∧ (((0 ≤ x0.toInt ∧ x0.toInt < (v 13 1).toInt) ∧ 0 ≤ x1.toInt ∧ x1.toInt < (v 13 0).toInt) ∧ (btx (v (25 + x0.toNatClampNeg) 2) x1).toInt ≠ 1 → r = 1 ∧ (∀ k j : Nat, u k j = if k = 25 + x0.toNatClampNeg ∧ j = 2 then v (25 + x0.toNatClampNeg) 2 ^^^ (1 <<< (x1 &&& 31)) else v k j))) (q : (¬ ((0 ≤ x0.toInt ∧ x0.toInt < (v2 1 1).toInt) ∧ 0 ≤ x1.toInt ∧ x1.toInt < (v2 1 0).toInt) → r2 = -1 ∧ u2 = v2) ∧ (((0 ≤ x0.toInt ∧ x0.toInt < (v2 1 1).toInt) ∧ 0 ≤ x1.toInt ∧ x1.toInt < (v2 1 0).toInt) ∧ (btx (v2 1 (28 + x0.toNatClampNeg)) x1).toInt = 1 → r2 = 0 ∧ (∀ n : Nat, u2 1 n = if n = 28 + x0.toNatClampNeg then v2 1 (28 + x0.toNatClampNeg) ||| (1 <<< (x1 &&& 31)) else v2 1 n) ∧ (∀ k : Nat, k ≠ 1 → u2 k = v2 k)) ∧ (((0 ≤ x0.toInt ∧ x0.toInt < (v2 1 1).toInt) ∧ 0 ≤ x1.toInt ∧ x1.toInt < (v2 1 0).toInt) ∧ (btx (v2 1 (28 + x0.toNatClampNeg)) x1).toInt ≠ 1 → r2 = 1 ∧ (∀ n : Nat, u2 1 n = if n = 28 + x0.toNatClampNeg then v2 1 (28 + x0.toNatClampNeg) ||| (1 <<< (x1 &&& 31)) else v2 1 n) ∧ (∀ k : Nat, k ≠ 1 → u2 k = v2 k))) : r = r2 ∧ RR3 n u u2 := by
  have h := h0.1
  have hO := h0.2.1
  have hT := T_kin_1 hI hQ h p q
  have hb0 := hQ 1 0 8 (by decide)
  have hb1 := hQ 1 1 4 (by decide)
  have hb2 := hQ 1 2 6 (by decide)
  have hb3 := hQ 1 3 6 (by decide)
  by_cases hC : (0 ≤ x0.toInt ∧ x0.toInt < (v2 1 1).toInt) ∧ 0 ≤ x1.toInt ∧ x1.toInt < (v2 1 0).toInt
  · have zX := t_nn (x := x0) (by omega)
    have hX : x0.toNatClampNeg < 4 := by omega
    by_cases hD : (btx (v2 1 (28 + x0.toNatClampNeg)) x1).toInt = 1
    · obtain ⟨-, q2, q3⟩ := q.2.1 ⟨hC, hD⟩
      refine h0.wr hT ?_ (q3 2 (by decide))
      intro c hc ha
      have E2 : u2 1 2 = v2 1 2 := by rw [q2, if_neg (by omega)]
      rw [E2] at ha
      obtain ⟨a1, a2, a3, a4⟩ := hO c hc ha
      exact ⟨a1.cg (by rw [q2, if_neg (by omega)]; exact Int.le_refl _) (fun w f1 f2 => by rw [q2, if_neg (by omega)]), a2.cg (by rw [q2, if_neg (by omega)]), a3.cg (fun w f1 f2 => by rw [q2, if_neg (by omega)]) (fun w f1 => by rw [q2, if_neg (by omega)]), a4.cg (by rw [q2, if_neg (by omega)]) (fun t ht hr => ⟨by rw [q2, if_neg (by omega)], by rw [q2, if_neg (by omega)]⟩)⟩
    · obtain ⟨-, q2, q3⟩ := q.2.2 ⟨hC, hD⟩
      refine h0.wr hT ?_ (q3 2 (by decide))
      intro c hc ha
      have E2 : u2 1 2 = v2 1 2 := by rw [q2, if_neg (by omega)]
      rw [E2] at ha
      obtain ⟨a1, a2, a3, a4⟩ := hO c hc ha
      exact ⟨a1.cg (by rw [q2, if_neg (by omega)]; exact Int.le_refl _) (fun w f1 f2 => by rw [q2, if_neg (by omega)]), a2.cg (by rw [q2, if_neg (by omega)]), a3.cg (fun w f1 f2 => by rw [q2, if_neg (by omega)]) (fun w f1 => by rw [q2, if_neg (by omega)]), a4.cg (by rw [q2, if_neg (by omega)]) (fun t ht hr => ⟨by rw [q2, if_neg (by omega)], by rw [q2, if_neg (by omega)]⟩)⟩
  · obtain ⟨-, q2⟩ := q.1 hC
    exact h0.wr hT (by rw [q2]; exact hO) (by rw [q2])

set_option maxHeartbeats 4000000 in
theorem S_mediator {n r r2 x0 x1 : Int32} {v u v2 u2 : Nat → Nat → Int32} (hI : Iv v) (hQ : Ir v2) (h0 : RR3 n v v2) (p : (¬ ((0 ≤ x0.toInt ∧ x0.toInt ≤ 9) ∧ 1 ≤ x1.toInt ∧ x1.toInt ≤ 7) → r = -1 ∧ u = v) ∧ (((0 ≤ x0.toInt ∧ x0.toInt ≤ 9) ∧ 1 ≤ x1.toInt ∧ x1.toInt ≤ 7) ∧ 4 ≤ (v 13 1).toInt → r = -2 ∧ u = v) ∧ (((0 ≤ x0.toInt ∧ x0.toInt ≤ 9) ∧ 1 ≤ x1.toInt ∧ x1.toInt ≤ 7) ∧ (v 13 1).toInt < 4 → r = v 13 1 ∧ (∀ k j : Nat, u k j = if k = 13 ∧ j = 1 then v 13 1 + 1 else if k = 25 + (v 13 1).toNatClampNeg ∧ j = 2 then 0 else if k = 25 + (v 13 1).toNatClampNeg ∧ j = 1 then x1 else if k = 25 + (v 13 1).toNatClampNeg ∧ j = 0 then x0 else v k j))) (q : (¬ ((0 ≤ x0.toInt ∧ x0.toInt ≤ 9) ∧ 1 ≤ x1.toInt ∧ x1.toInt ≤ 7) → r2 = -1 ∧ u2 = v2) ∧ (((0 ≤ x0.toInt ∧ x0.toInt ≤ 9) ∧ 1 ≤ x1.toInt ∧ x1.toInt ≤ 7) ∧ (v2 1 1).toInt = 4 → r2 = -2 ∧ u2 = v2) ∧ (((0 ≤ x0.toInt ∧ x0.toInt ≤ 9) ∧ 1 ≤ x1.toInt ∧ x1.toInt ≤ 7) ∧ (v2 1 1).toInt ≠ 4 → r2 = v2 1 1 ∧ (∀ n : Nat, u2 1 n = if n = 1 then v2 1 1 + 1 else if n = 28 + (v2 1 1).toNatClampNeg then 0 else if n = 21 + 2 * (v2 1 1).toNatClampNeg then x1 else if n = 20 + 2 * (v2 1 1).toNatClampNeg then x0 else v2 1 n) ∧ (∀ k : Nat, k ≠ 1 → u2 k = v2 k))) : r = r2 ∧ RR3 n u u2 := by
  have h := h0.1
  have hO := h0.2.1
  have hT := T_mediator hI hQ h p q
  have hb0 := hQ 1 0 8 (by decide)
  have hb1 := hQ 1 1 4 (by decide)
  have hb2 := hQ 1 2 6 (by decide)
  have hb3 := hQ 1 3 6 (by decide)
  by_cases hC : (0 ≤ x0.toInt ∧ x0.toInt ≤ 9) ∧ 1 ≤ x1.toInt ∧ x1.toInt ≤ 7
  · by_cases hD : (v2 1 1).toInt = 4
    · obtain ⟨-, q2⟩ := q.2.1 ⟨hC, hD⟩
      exact h0.wr hT (by rw [q2]; exact hO) (by rw [q2])
    · obtain ⟨-, q2, q3⟩ := q.2.2 ⟨hC, hD⟩
      have zM := t_nn (x := v2 1 1) (by omega)
      refine h0.wr hT ?_ (q3 2 (by decide))
      intro c hc ha
      have E2 : u2 1 2 = v2 1 2 := by rw [q2, if_neg (by omega), if_neg (by omega), if_neg (by omega), if_neg (by omega)]
      rw [E2] at ha
      obtain ⟨a1, a2, a3, a4⟩ := hO c hc ha
      exact ⟨a1.cg (by rw [q2, if_neg (by omega), if_neg (by omega), if_neg (by omega), if_neg (by omega)]; exact Int.le_refl _) (fun w f1 f2 => by rw [q2, if_neg (by omega), if_neg (by omega), if_neg (by omega), if_neg (by omega)]), a2.cg (by rw [q2, if_neg (by omega), if_neg (by omega), if_neg (by omega), if_neg (by omega)]), a3.cg (fun w f1 f2 => by rw [q2, if_neg (by omega), if_neg (by omega), if_neg (by omega), if_neg (by omega)]) (fun w f1 => by rw [q2, if_neg (by omega), if_neg (by omega), if_neg (by omega), if_neg (by omega)]), a4.cg (by rw [q2, if_neg (by omega), if_neg (by omega), if_neg (by omega), if_neg (by omega)]) (fun t ht hr => ⟨by rw [q2, if_neg (by omega), if_neg (by omega), if_neg (by omega), if_neg (by omega)], by rw [q2, if_neg (by omega), if_neg (by omega), if_neg (by omega), if_neg (by omega)]⟩)⟩
  · obtain ⟨-, q2⟩ := q.1 hC
    exact h0.wr hT (by rw [q2]; exact hO) (by rw [q2])

set_option maxHeartbeats 4000000 in
theorem S_party {n r r2 x0 x1 : Int32} {v u v2 u2 : Nat → Nat → Int32} (hI : Iv v) (hQ : Ir v2) (h0 : RR3 n v v2) (p : (¬ ((0 ≤ x0.toInt ∧ x0.toInt ≤ 9) ∧ 0 ≤ x1.toInt ∧ x1.toInt ≤ 2) → r = -1 ∧ u = v) ∧ (((0 ≤ x0.toInt ∧ x0.toInt ≤ 9) ∧ 0 ≤ x1.toInt ∧ x1.toInt ≤ 2) ∧ 8 ≤ (v 13 0).toInt → r = -2 ∧ u = v) ∧ (((0 ≤ x0.toInt ∧ x0.toInt ≤ 9) ∧ 0 ≤ x1.toInt ∧ x1.toInt ≤ 2) ∧ (v 13 0).toInt < 8 → r = v 13 0 ∧ (∀ k j : Nat, u k j = if k = 13 ∧ j = 0 then v 13 0 + 1 else if k = 17 + (v 13 0).toNatClampNeg ∧ j = 1 then x1 else if k = 17 + (v 13 0).toNatClampNeg ∧ j = 0 then x0 else v k j))) (q : (¬ ((0 ≤ x0.toInt ∧ x0.toInt ≤ 9) ∧ 0 ≤ x1.toInt ∧ x1.toInt ≤ 2) → r2 = -1 ∧ u2 = v2) ∧ (((0 ≤ x0.toInt ∧ x0.toInt ≤ 9) ∧ 0 ≤ x1.toInt ∧ x1.toInt ≤ 2) ∧ (v2 1 0).toInt = 8 → r2 = -2 ∧ u2 = v2) ∧ (((0 ≤ x0.toInt ∧ x0.toInt ≤ 9) ∧ 0 ≤ x1.toInt ∧ x1.toInt ≤ 2) ∧ (v2 1 0).toInt ≠ 8 → r2 = v2 1 0 ∧ (∀ n : Nat, u2 1 n = if n = 0 then v2 1 0 + 1 else if 28 ≤ n ∧ (n : Int) < 28 + 4 then (if n = 5 + 2 * (v2 1 0).toNatClampNeg then x1 else if n = 4 + 2 * (v2 1 0).toNatClampNeg then x0 else v2 1 n) &&& ((1 <<< (v2 1 0 &&& 31)) ^^^ -1) else if n = 5 + 2 * (v2 1 0).toNatClampNeg then x1 else if n = 4 + 2 * (v2 1 0).toNatClampNeg then x0 else v2 1 n) ∧ (∀ k : Nat, k ≠ 1 → u2 k = v2 k))) : r = r2 ∧ RR3 n u u2 := by
  have h := h0.1
  have hO := h0.2.1
  have hT := T_party hI hQ h p q
  have hb0 := hQ 1 0 8 (by decide)
  have hb1 := hQ 1 1 4 (by decide)
  have hb2 := hQ 1 2 6 (by decide)
  have hb3 := hQ 1 3 6 (by decide)
  by_cases hC : (0 ≤ x0.toInt ∧ x0.toInt ≤ 9) ∧ 0 ≤ x1.toInt ∧ x1.toInt ≤ 2
  · by_cases hD : (v2 1 0).toInt = 8
    · obtain ⟨-, q2⟩ := q.2.1 ⟨hC, hD⟩
      exact h0.wr hT (by rw [q2]; exact hO) (by rw [q2])
    · obtain ⟨-, q2, q3⟩ := q.2.2 ⟨hC, hD⟩
      have zM := t_nn (x := v2 1 0) (by omega)
      have k1 : (1 : Int32).toInt = 1 := by decide
      have hx : (v2 1 0 + 1).toInt = (v2 1 0).toInt + 1 := by rw [t_add (by rw [k1]; omega), k1]
      refine h0.wr hT ?_ (q3 2 (by decide))
      intro c hc ha
      have E2 : u2 1 2 = v2 1 2 := by rw [q2, if_neg (by omega), if_neg (by omega), if_neg (by omega), if_neg (by omega)]
      rw [E2] at ha
      obtain ⟨a1, a2, a3, a4⟩ := hO c hc ha
      exact ⟨a1.cg (by rw [q2, if_pos rfl, hx]; omega) (fun w f1 f2 => by rw [q2, if_neg (by omega), if_neg (by omega), if_neg (by omega), if_neg (by omega)]), a2.cg (by rw [q2, if_neg (by omega), if_neg (by omega), if_neg (by omega), if_neg (by omega)]), a3.cg (fun w f1 f2 => by rw [q2, if_neg (by omega), if_neg (by omega), if_neg (by omega), if_neg (by omega)]) (fun w f1 => by rw [q2, if_neg (by omega), if_neg (by omega), if_neg (by omega), if_neg (by omega)]), a4.cg (by rw [q2, if_neg (by omega), if_neg (by omega), if_neg (by omega), if_neg (by omega)]) (fun t ht hr => ⟨by rw [q2, if_neg (by omega), if_neg (by omega), if_neg (by omega), if_neg (by omega)], by rw [q2, if_neg (by omega), if_neg (by omega), if_neg (by omega), if_neg (by omega)]⟩)⟩
  · obtain ⟨-, q2⟩ := q.1 hC
    exact h0.wr hT (by rw [q2]; exact hO) (by rw [q2])

set_option maxHeartbeats 4000000 in
theorem S_mark {n r r2 x0 x1 : Int32} {v u v2 u2 : Nat → Nat → Int32} (hI : Iv v) (hQ : Ir v2) (h0 : RR3 n v v2) (p : (¬ ((0 ≤ x0.toInt ∧ x0.toInt < (v 13 2).toInt) ∧ (0 ≤ x1.toInt ∧ x1.toInt < (v 13 2).toInt) ∧ x0.toInt ≠ x1.toInt) → r = -1 ∧ u = v) ∧ (((0 ≤ x0.toInt ∧ x0.toInt < (v 13 2).toInt) ∧ (0 ≤ x1.toInt ∧ x1.toInt < (v 13 2).toInt) ∧ x0.toInt ≠ x1.toInt) ∧ (btx (v (29 + 15 * x0.toNatClampNeg) 4) x1).toInt = 1 → r = -3 ∧ u = v) ∧ (((0 ≤ x0.toInt ∧ x0.toInt < (v 13 2).toInt) ∧ (0 ≤ x1.toInt ∧ x1.toInt < (v 13 2).toInt) ∧ x0.toInt ≠ x1.toInt) ∧ (btx (v (29 + 15 * x0.toNatClampNeg) 4) x1).toInt ≠ 1 ∧ 6 ≤ (v 13 3).toInt → r = -2 ∧ u = v) ∧ (((0 ≤ x0.toInt ∧ x0.toInt < (v 13 2).toInt) ∧ (0 ≤ x1.toInt ∧ x1.toInt < (v 13 2).toInt) ∧ x0.toInt ≠ x1.toInt) ∧ (btx (v (29 + 15 * x0.toNatClampNeg) 4) x1).toInt ≠ 1 ∧ (v 13 3).toInt < 6 → r = v 13 3 + 1 ∧ (∀ k j : Nat, u k j = if k = 13 ∧ j = 3 then v 13 3 + 1 else if k = 29 + 15 * x1.toNatClampNeg ∧ j = 4 then v (29 + 15 * x1.toNatClampNeg) 4 ||| (1 <<< (x0 &&& 31)) else if k = 29 + 15 * x0.toNatClampNeg ∧ j = 4 then v (29 + 15 * x0.toNatClampNeg) 4 ||| (1 <<< (x1 &&& 31)) else v k j))) (q : (¬ ((0 ≤ x0.toInt ∧ x0.toInt < (v2 1 2).toInt) ∧ (0 ≤ x1.toInt ∧ x1.toInt < (v2 1 2).toInt) ∧ x0.toInt ≠ x1.toInt) → r2 = -1 ∧ u2 = v2) ∧ (((0 ≤ x0.toInt ∧ x0.toInt < (v2 1 2).toInt) ∧ (0 ≤ x1.toInt ∧ x1.toInt < (v2 1 2).toInt) ∧ x0.toInt ≠ x1.toInt) ∧ (∃ k : Nat, (k : Int) < (v2 1 3).toInt ∧ mk (v2 1) k x0 x1) → r2 = -3 ∧ u2 = v2) ∧ (((0 ≤ x0.toInt ∧ x0.toInt < (v2 1 2).toInt) ∧ (0 ≤ x1.toInt ∧ x1.toInt < (v2 1 2).toInt) ∧ x0.toInt ≠ x1.toInt) ∧ ¬ (∃ k : Nat, (k : Int) < (v2 1 3).toInt ∧ mk (v2 1) k x0 x1) ∧ (v2 1 3).toInt = 6 → r2 = -2 ∧ u2 = v2) ∧ (((0 ≤ x0.toInt ∧ x0.toInt < (v2 1 2).toInt) ∧ (0 ≤ x1.toInt ∧ x1.toInt < (v2 1 2).toInt) ∧ x0.toInt ≠ x1.toInt) ∧ ¬ (∃ k : Nat, (k : Int) < (v2 1 3).toInt ∧ mk (v2 1) k x0 x1) ∧ (v2 1 3).toInt ≠ 6 → r2 = v2 1 3 + 1 ∧ (∀ n : Nat, u2 1 n = if n = 3 then v2 1 3 + 1 else if n = 147 + 2 * (v2 1 3).toNatClampNeg then x1 else if n = 146 + 2 * (v2 1 3).toNatClampNeg then x0 else v2 1 n) ∧ (∀ k : Nat, k ≠ 1 → u2 k = v2 k))) : r = r2 ∧ RR3 n u u2 := by
  have h := h0.1
  have hO := h0.2.1
  have hT := T_mark hI hQ h p q
  have hb0 := hQ 1 0 8 (by decide)
  have hb1 := hQ 1 1 4 (by decide)
  have hb2 := hQ 1 2 6 (by decide)
  have hb3 := hQ 1 3 6 (by decide)
  by_cases hC : (0 ≤ x0.toInt ∧ x0.toInt < (v2 1 2).toInt) ∧ (0 ≤ x1.toInt ∧ x1.toInt < (v2 1 2).toInt) ∧ x0.toInt ≠ x1.toInt
  · by_cases hW : ∃ k : Nat, (k : Int) < (v2 1 3).toInt ∧ mk (v2 1) k x0 x1
    · obtain ⟨-, q2⟩ := q.2.1 ⟨hC, hW⟩
      exact h0.wr hT (by rw [q2]; exact hO) (by rw [q2])
    · by_cases hD : (v2 1 3).toInt = 6
      · obtain ⟨-, q2⟩ := q.2.2.1 ⟨hC, hW, hD⟩
        exact h0.wr hT (by rw [q2]; exact hO) (by rw [q2])
      · obtain ⟨-, q2, q3⟩ := q.2.2.2 ⟨hC, hW, hD⟩
        clear hW p
        have zM := t_nn (x := v2 1 3) (by omega)
        refine h0.wr hT ?_ (q3 2 (by decide))
        intro c hc ha
        have E2 : u2 1 2 = v2 1 2 := by rw [q2, if_neg (by omega), if_neg (by omega), if_neg (by omega)]
        rw [E2] at ha
        obtain ⟨a1, a2, a3, a4⟩ := hO c hc ha
        exact ⟨a1.cg (by rw [q2, if_neg (by omega), if_neg (by omega), if_neg (by omega)]; exact Int.le_refl _) (fun w f1 f2 => by rw [q2, if_neg (by omega), if_neg (by omega), if_neg (by omega)]), a2.cg (by rw [q2, if_neg (by omega), if_neg (by omega), if_neg (by omega)]), a3.cg (fun w f1 f2 => by rw [q2, if_neg (by omega), if_neg (by omega), if_neg (by omega)]) (fun w f1 => by rw [q2, if_neg (by omega), if_neg (by omega), if_neg (by omega)]), a4.cg (by rw [q2, if_neg (by omega), if_neg (by omega), if_neg (by omega)]) (fun t ht hr => ⟨by rw [q2, if_neg (by omega), if_neg (by omega), if_neg (by omega)], by rw [q2, if_neg (by omega), if_neg (by omega), if_neg (by omega)]⟩)⟩
  · obtain ⟨-, q2⟩ := q.1 hC
    exact h0.wr hT (by rw [q2]; exact hO) (by rw [q2])

set_option maxHeartbeats 4000000 in
theorem S_term_0 {n r r2 x0 x1 x2 x3 x4 : Int32} {v u v2 u2 : Nat → Nat → Int32} (hI : Iv v) (hQ : Ir v2) (h0 : RR3 n v v2) (p : (¬ ((0 ≤ x0.toInt ∧ x0.toInt < (v 13 2).toInt) ∧ (0 ≤ x1.toInt ∧ x1.toInt ≤ 1) ∧ (0 ≤ x2.toInt ∧ x2.toInt ≤ 5) ∧ (0 ≤ x3.toInt ∧ x3.toInt ≤ 23) ∧ x3.toInt ≤ x4.toInt ∧ x4.toInt ≤ 23) → r = -1 ∧ u = v) ∧ (((0 ≤ x0.toInt ∧ x0.toInt < (v 13 2).toInt) ∧ (0 ≤ x1.toInt ∧ x1.toInt ≤ 1) ∧ (0 ≤ x2.toInt ∧ x2.toInt ≤ 5) ∧ (0 ≤ x3.toInt ∧ x3.toInt ≤ 23) ∧ x3.toInt ≤ x4.toInt ∧ x4.toInt ≤ 23) ∧ (v (29 + 15 * x0.toNatClampNeg) 0).toInt ≠ 1 → r = -4 ∧ u = v) ∧ (((0 ≤ x0.toInt ∧ x0.toInt < (v 13 2).toInt) ∧ (0 ≤ x1.toInt ∧ x1.toInt ≤ 1) ∧ (0 ≤ x2.toInt ∧ x2.toInt ≤ 5) ∧ (0 ≤ x3.toInt ∧ x3.toInt ≤ 23) ∧ x3.toInt ≤ x4.toInt ∧ x4.toInt ≤ 23) ∧ (v (29 + 15 * x0.toNatClampNeg) 0).toInt = 1 ∧ 5 ≤ (v (29 + 15 * x0.toNatClampNeg) 5).toInt → r = -2 ∧ u = v) ∧ (((0 ≤ x0.toInt ∧ x0.toInt < (v 13 2).toInt) ∧ (0 ≤ x1.toInt ∧ x1.toInt ≤ 1) ∧ (0 ≤ x2.toInt ∧ x2.toInt ≤ 5) ∧ (0 ≤ x3.toInt ∧ x3.toInt ≤ 23) ∧ x3.toInt ≤ x4.toInt ∧ x4.toInt ≤ 23) ∧ (v (29 + 15 * x0.toNatClampNeg) 0).toInt = 1 ∧ (v (29 + 15 * x0.toNatClampNeg) 5).toInt < 5 → r = v (29 + 15 * x0.toNatClampNeg) 5 ∧ (∀ k j : Nat, u k j = if k = 29 + 15 * x0.toNatClampNeg ∧ j = 5 then v (29 + 15 * x0.toNatClampNeg) 5 + 1 else if k = 39 + 15 * x0.toNatClampNeg + (v (29 + 15 * x0.toNatClampNeg) 5).toNatClampNeg ∧ j = 4 then x4 else if k = 39 + 15 * x0.toNatClampNeg + (v (29 + 15 * x0.toNatClampNeg) 5).toNatClampNeg ∧ j = 3 then x3 else if k = 39 + 15 * x0.toNatClampNeg + (v (29 + 15 * x0.toNatClampNeg) 5).toNatClampNeg ∧ j = 2 then x2 else if k = 39 + 15 * x0.toNatClampNeg + (v (29 + 15 * x0.toNatClampNeg) 5).toNatClampNeg ∧ j = 1 then 0 else if k = 39 + 15 * x0.toNatClampNeg + (v (29 + 15 * x0.toNatClampNeg) 5).toNatClampNeg ∧ j = 0 then x1 else v k j))) (q : (¬ ((0 ≤ x0.toInt ∧ x0.toInt < (v2 1 2).toInt) ∧ (0 ≤ x1.toInt ∧ x1.toInt ≤ 1) ∧ (0 ≤ x2.toInt ∧ x2.toInt ≤ 5) ∧ (0 ≤ x3.toInt ∧ x3.toInt ≤ 23) ∧ x3.toInt ≤ x4.toInt ∧ x4.toInt ≤ 23) → r2 = -1 ∧ u2 = v2) ∧ (((0 ≤ x0.toInt ∧ x0.toInt < (v2 1 2).toInt) ∧ (0 ≤ x1.toInt ∧ x1.toInt ≤ 1) ∧ (0 ≤ x2.toInt ∧ x2.toInt ≤ 5) ∧ (0 ≤ x3.toInt ∧ x3.toInt ≤ 23) ∧ x3.toInt ≤ x4.toInt ∧ x4.toInt ≤ 23) ∧ (v2 1 (34 + 7 * x0.toNatClampNeg)).toInt ≠ 1 → r2 = -4 ∧ u2 = v2) ∧ (((0 ≤ x0.toInt ∧ x0.toInt < (v2 1 2).toInt) ∧ (0 ≤ x1.toInt ∧ x1.toInt ≤ 1) ∧ (0 ≤ x2.toInt ∧ x2.toInt ≤ 5) ∧ (0 ≤ x3.toInt ∧ x3.toInt ≤ 23) ∧ x3.toInt ≤ x4.toInt ∧ x4.toInt ≤ 23) ∧ (v2 1 (34 + 7 * x0.toNatClampNeg)).toInt = 1 ∧ (v2 1 (38 + 7 * x0.toNatClampNeg)).toInt = 5 → r2 = -2 ∧ u2 = v2) ∧ (((0 ≤ x0.toInt ∧ x0.toInt < (v2 1 2).toInt) ∧ (0 ≤ x1.toInt ∧ x1.toInt ≤ 1) ∧ (0 ≤ x2.toInt ∧ x2.toInt ≤ 5) ∧ (0 ≤ x3.toInt ∧ x3.toInt ≤ 23) ∧ x3.toInt ≤ x4.toInt ∧ x4.toInt ≤ 23) ∧ (v2 1 (34 + 7 * x0.toNatClampNeg)).toInt = 1 ∧ (v2 1 (38 + 7 * x0.toNatClampNeg)).toInt ≠ 5 → r2 = v2 1 (38 + 7 * x0.toNatClampNeg) + 1 - 1 ∧ (∀ n : Nat, u2 1 n = if n = 38 + 7 * x0.toNatClampNeg then v2 1 (38 + 7 * x0.toNatClampNeg) + 1 else if n = 162 + 25 * x0.toNatClampNeg + 5 * (v2 1 (38 + 7 * x0.toNatClampNeg)).toNatClampNeg then x4 else if n = 161 + 25 * x0.toNatClampNeg + 5 * (v2 1 (38 + 7 * x0.toNatClampNeg)).toNatClampNeg then x3 else if n = 160 + 25 * x0.toNatClampNeg + 5 * (v2 1 (38 + 7 * x0.toNatClampNeg)).toNatClampNeg then x2 else if n = 159 + 25 * x0.toNatClampNeg + 5 * (v2 1 (38 + 7 * x0.toNatClampNeg)).toNatClampNeg then 0 else if n = 158 + 25 * x0.toNatClampNeg + 5 * (v2 1 (38 + 7 * x0.toNatClampNeg)).toNatClampNeg then x1 else v2 1 n) ∧ (∀ k : Nat, k ≠ 1 → u2 k = v2 k))) : r = r2 ∧ RR3 n u u2 := by
  have h := h0.1
  have hO := h0.2.1
  have hT := T_term_0 hI hQ h p q
  have hb0 := hQ 1 0 8 (by decide)
  have hb1 := hQ 1 1 4 (by decide)
  have hb2 := hQ 1 2 6 (by decide)
  have hb3 := hQ 1 3 6 (by decide)
  by_cases hC : (0 ≤ x0.toInt ∧ x0.toInt < (v2 1 2).toInt) ∧ (0 ≤ x1.toInt ∧ x1.toInt ≤ 1) ∧ (0 ≤ x2.toInt ∧ x2.toInt ≤ 5) ∧ (0 ≤ x3.toInt ∧ x3.toInt ≤ 23) ∧ x3.toInt ≤ x4.toInt ∧ x4.toInt ≤ 23
  · by_cases hD : (v2 1 (34 + 7 * x0.toNatClampNeg)).toInt = 1
    · by_cases hE : (v2 1 (38 + 7 * x0.toNatClampNeg)).toInt = 5
      · obtain ⟨-, q2⟩ := q.2.2.1 ⟨hC, hD, hE⟩
        exact h0.wr hT (by rw [q2]; exact hO) (by rw [q2])
      · obtain ⟨-, q2, q3⟩ := q.2.2.2 ⟨hC, hD, hE⟩
        have zX := t_nn (x := x0) (by omega)
        have hX : x0.toNatClampNeg < 6 := by omega
        have hXa : (x0.toNatClampNeg : Int) < (v2 1 2).toInt := by omega
        have hb := hQ 1 (38 + 7 * x0.toNatClampNeg) 5 (bS_c (by omega) (by omega))
        have zT := t_nn (x := v2 1 (38 + 7 * x0.toNatClampNeg)) (by omega)
        have k1 : (1 : Int32).toInt = 1 := by decide
        have hx : (v2 1 (38 + 7 * x0.toNatClampNeg) + 1).toInt = (v2 1 (38 + 7 * x0.toNatClampNeg)).toInt + 1 := by rw [t_add (by rw [k1]; omega), k1]
        refine h0.wr hT ?_ (q3 2 (by decide))
        intro c hc ha
        have E2 : u2 1 2 = v2 1 2 := by rw [q2, if_neg (by omega), if_neg (by omega), if_neg (by omega), if_neg (by omega), if_neg (by omega), if_neg (by omega)]
        rw [E2] at ha
        obtain ⟨a1, a2, a3, a4⟩ := hO c hc ha
        refine ⟨a1.cg (by rw [q2, if_neg (by omega), if_neg (by omega), if_neg (by omega), if_neg (by omega), if_neg (by omega), if_neg (by omega)]; exact Int.le_refl _) (fun w f1 f2 => by rw [q2, if_neg (by omega), if_neg (by omega), if_neg (by omega), if_neg (by omega), if_neg (by omega), if_neg (by omega)]), a2.cg (by rw [q2, if_neg (by omega), if_neg (by omega), if_neg (by omega), if_neg (by omega), if_neg (by omega), if_neg (by omega)]), a3.cg (fun w f1 f2 => by rw [q2, if_neg (by omega), if_neg (by omega), if_neg (by omega), if_neg (by omega), if_neg (by omega), if_neg (by omega)]) (fun w f1 => by rw [q2, if_neg (by omega), if_neg (by omega), if_neg (by omega), if_neg (by omega), if_neg (by omega), if_neg (by omega)]), ?_⟩
        by_cases e : c = x0.toNatClampNeg
        · subst e
          intro t ht hr
          rw [q2 (38 + 7 * x0.toNatClampNeg), if_pos rfl, hx] at hr
          by_cases f : t = (v2 1 (38 + 7 * x0.toNatClampNeg)).toNatClampNeg
          · rw [q2 (161 + 25 * x0.toNatClampNeg + 5 * t), if_neg (by omega), if_neg (by omega), if_pos (by omega), q2 (162 + 25 * x0.toNatClampNeg + 5 * t), if_neg (by omega), if_pos (by omega)]
            exact hC.2.2.2.2.1
          · rw [q2 (161 + 25 * x0.toNatClampNeg + 5 * t), if_neg (by omega), if_neg (by omega), if_neg (by omega), if_neg (by omega), if_neg (by omega), if_neg (by omega), q2 (162 + 25 * x0.toNatClampNeg + 5 * t), if_neg (by omega), if_neg (by omega), if_neg (by omega), if_neg (by omega), if_neg (by omega), if_neg (by omega)]
            exact a4 t ht (by omega)
        · exact a4.cg (by rw [q2, if_neg (by omega), if_neg (by omega), if_neg (by omega), if_neg (by omega), if_neg (by omega), if_neg (by omega)]) (fun t ht hr => ⟨by rw [q2, if_neg (by omega), if_neg (by omega), if_neg (by omega), if_neg (by omega), if_neg (by omega), if_neg (by omega)], by rw [q2, if_neg (by omega), if_neg (by omega), if_neg (by omega), if_neg (by omega), if_neg (by omega), if_neg (by omega)]⟩)
    · obtain ⟨-, q2⟩ := q.2.1 ⟨hC, hD⟩
      exact h0.wr hT (by rw [q2]; exact hO) (by rw [q2])
  · obtain ⟨-, q2⟩ := q.1 hC
    exact h0.wr hT (by rw [q2]; exact hO) (by rw [q2])

set_option maxHeartbeats 4000000 in
theorem S_term_1 {n r r2 x0 x1 x2 x3 x4 : Int32} {v u v2 u2 : Nat → Nat → Int32} (hI : Iv v) (hQ : Ir v2) (h0 : RR3 n v v2) (p : (¬ ((0 ≤ x0.toInt ∧ x0.toInt < (v 13 2).toInt) ∧ (0 ≤ x1.toInt ∧ x1.toInt ≤ 1) ∧ (0 ≤ x2.toInt ∧ x2.toInt ≤ 5) ∧ (0 ≤ x3.toInt ∧ x3.toInt ≤ 23) ∧ x3.toInt ≤ x4.toInt ∧ x4.toInt ≤ 23) → r = -1 ∧ u = v) ∧ (((0 ≤ x0.toInt ∧ x0.toInt < (v 13 2).toInt) ∧ (0 ≤ x1.toInt ∧ x1.toInt ≤ 1) ∧ (0 ≤ x2.toInt ∧ x2.toInt ≤ 5) ∧ (0 ≤ x3.toInt ∧ x3.toInt ≤ 23) ∧ x3.toInt ≤ x4.toInt ∧ x4.toInt ≤ 23) ∧ (v (29 + 15 * x0.toNatClampNeg) 0).toInt ≠ 1 → r = -4 ∧ u = v) ∧ (((0 ≤ x0.toInt ∧ x0.toInt < (v 13 2).toInt) ∧ (0 ≤ x1.toInt ∧ x1.toInt ≤ 1) ∧ (0 ≤ x2.toInt ∧ x2.toInt ≤ 5) ∧ (0 ≤ x3.toInt ∧ x3.toInt ≤ 23) ∧ x3.toInt ≤ x4.toInt ∧ x4.toInt ≤ 23) ∧ (v (29 + 15 * x0.toNatClampNeg) 0).toInt = 1 ∧ 5 ≤ (v (29 + 15 * x0.toNatClampNeg) 5).toInt → r = -2 ∧ u = v) ∧ (((0 ≤ x0.toInt ∧ x0.toInt < (v 13 2).toInt) ∧ (0 ≤ x1.toInt ∧ x1.toInt ≤ 1) ∧ (0 ≤ x2.toInt ∧ x2.toInt ≤ 5) ∧ (0 ≤ x3.toInt ∧ x3.toInt ≤ 23) ∧ x3.toInt ≤ x4.toInt ∧ x4.toInt ≤ 23) ∧ (v (29 + 15 * x0.toNatClampNeg) 0).toInt = 1 ∧ (v (29 + 15 * x0.toNatClampNeg) 5).toInt < 5 → r = v (29 + 15 * x0.toNatClampNeg) 5 ∧ (∀ k j : Nat, u k j = if k = 29 + 15 * x0.toNatClampNeg ∧ j = 5 then v (29 + 15 * x0.toNatClampNeg) 5 + 1 else if k = 39 + 15 * x0.toNatClampNeg + (v (29 + 15 * x0.toNatClampNeg) 5).toNatClampNeg ∧ j = 4 then x4 else if k = 39 + 15 * x0.toNatClampNeg + (v (29 + 15 * x0.toNatClampNeg) 5).toNatClampNeg ∧ j = 3 then x3 else if k = 39 + 15 * x0.toNatClampNeg + (v (29 + 15 * x0.toNatClampNeg) 5).toNatClampNeg ∧ j = 2 then x2 else if k = 39 + 15 * x0.toNatClampNeg + (v (29 + 15 * x0.toNatClampNeg) 5).toNatClampNeg ∧ j = 1 then 1 else if k = 39 + 15 * x0.toNatClampNeg + (v (29 + 15 * x0.toNatClampNeg) 5).toNatClampNeg ∧ j = 0 then x1 else v k j))) (q : (¬ ((0 ≤ x0.toInt ∧ x0.toInt < (v2 1 2).toInt) ∧ (0 ≤ x1.toInt ∧ x1.toInt ≤ 1) ∧ (0 ≤ x2.toInt ∧ x2.toInt ≤ 5) ∧ (0 ≤ x3.toInt ∧ x3.toInt ≤ 23) ∧ x3.toInt ≤ x4.toInt ∧ x4.toInt ≤ 23) → r2 = -1 ∧ u2 = v2) ∧ (((0 ≤ x0.toInt ∧ x0.toInt < (v2 1 2).toInt) ∧ (0 ≤ x1.toInt ∧ x1.toInt ≤ 1) ∧ (0 ≤ x2.toInt ∧ x2.toInt ≤ 5) ∧ (0 ≤ x3.toInt ∧ x3.toInt ≤ 23) ∧ x3.toInt ≤ x4.toInt ∧ x4.toInt ≤ 23) ∧ (v2 1 (34 + 7 * x0.toNatClampNeg)).toInt ≠ 1 → r2 = -4 ∧ u2 = v2) ∧ (((0 ≤ x0.toInt ∧ x0.toInt < (v2 1 2).toInt) ∧ (0 ≤ x1.toInt ∧ x1.toInt ≤ 1) ∧ (0 ≤ x2.toInt ∧ x2.toInt ≤ 5) ∧ (0 ≤ x3.toInt ∧ x3.toInt ≤ 23) ∧ x3.toInt ≤ x4.toInt ∧ x4.toInt ≤ 23) ∧ (v2 1 (34 + 7 * x0.toNatClampNeg)).toInt = 1 ∧ (v2 1 (38 + 7 * x0.toNatClampNeg)).toInt = 5 → r2 = -2 ∧ u2 = v2) ∧ (((0 ≤ x0.toInt ∧ x0.toInt < (v2 1 2).toInt) ∧ (0 ≤ x1.toInt ∧ x1.toInt ≤ 1) ∧ (0 ≤ x2.toInt ∧ x2.toInt ≤ 5) ∧ (0 ≤ x3.toInt ∧ x3.toInt ≤ 23) ∧ x3.toInt ≤ x4.toInt ∧ x4.toInt ≤ 23) ∧ (v2 1 (34 + 7 * x0.toNatClampNeg)).toInt = 1 ∧ (v2 1 (38 + 7 * x0.toNatClampNeg)).toInt ≠ 5 → r2 = v2 1 (38 + 7 * x0.toNatClampNeg) + 1 - 1 ∧ (∀ n : Nat, u2 1 n = if n = 38 + 7 * x0.toNatClampNeg then v2 1 (38 + 7 * x0.toNatClampNeg) + 1 else if n = 162 + 25 * x0.toNatClampNeg + 5 * (v2 1 (38 + 7 * x0.toNatClampNeg)).toNatClampNeg then x4 else if n = 161 + 25 * x0.toNatClampNeg + 5 * (v2 1 (38 + 7 * x0.toNatClampNeg)).toNatClampNeg then x3 else if n = 160 + 25 * x0.toNatClampNeg + 5 * (v2 1 (38 + 7 * x0.toNatClampNeg)).toNatClampNeg then x2 else if n = 159 + 25 * x0.toNatClampNeg + 5 * (v2 1 (38 + 7 * x0.toNatClampNeg)).toNatClampNeg then 1 else if n = 158 + 25 * x0.toNatClampNeg + 5 * (v2 1 (38 + 7 * x0.toNatClampNeg)).toNatClampNeg then x1 else v2 1 n) ∧ (∀ k : Nat, k ≠ 1 → u2 k = v2 k))) : r = r2 ∧ RR3 n u u2 := by
  have h := h0.1
  have hO := h0.2.1
  have hT := T_term_1 hI hQ h p q
  have hb0 := hQ 1 0 8 (by decide)
  have hb1 := hQ 1 1 4 (by decide)
  have hb2 := hQ 1 2 6 (by decide)
  have hb3 := hQ 1 3 6 (by decide)
  by_cases hC : (0 ≤ x0.toInt ∧ x0.toInt < (v2 1 2).toInt) ∧ (0 ≤ x1.toInt ∧ x1.toInt ≤ 1) ∧ (0 ≤ x2.toInt ∧ x2.toInt ≤ 5) ∧ (0 ≤ x3.toInt ∧ x3.toInt ≤ 23) ∧ x3.toInt ≤ x4.toInt ∧ x4.toInt ≤ 23
  · by_cases hD : (v2 1 (34 + 7 * x0.toNatClampNeg)).toInt = 1
    · by_cases hE : (v2 1 (38 + 7 * x0.toNatClampNeg)).toInt = 5
      · obtain ⟨-, q2⟩ := q.2.2.1 ⟨hC, hD, hE⟩
        exact h0.wr hT (by rw [q2]; exact hO) (by rw [q2])
      · obtain ⟨-, q2, q3⟩ := q.2.2.2 ⟨hC, hD, hE⟩
        have zX := t_nn (x := x0) (by omega)
        have hX : x0.toNatClampNeg < 6 := by omega
        have hXa : (x0.toNatClampNeg : Int) < (v2 1 2).toInt := by omega
        have hb := hQ 1 (38 + 7 * x0.toNatClampNeg) 5 (bS_c (by omega) (by omega))
        have zT := t_nn (x := v2 1 (38 + 7 * x0.toNatClampNeg)) (by omega)
        have k1 : (1 : Int32).toInt = 1 := by decide
        have hx : (v2 1 (38 + 7 * x0.toNatClampNeg) + 1).toInt = (v2 1 (38 + 7 * x0.toNatClampNeg)).toInt + 1 := by rw [t_add (by rw [k1]; omega), k1]
        refine h0.wr hT ?_ (q3 2 (by decide))
        intro c hc ha
        have E2 : u2 1 2 = v2 1 2 := by rw [q2, if_neg (by omega), if_neg (by omega), if_neg (by omega), if_neg (by omega), if_neg (by omega), if_neg (by omega)]
        rw [E2] at ha
        obtain ⟨a1, a2, a3, a4⟩ := hO c hc ha
        refine ⟨a1.cg (by rw [q2, if_neg (by omega), if_neg (by omega), if_neg (by omega), if_neg (by omega), if_neg (by omega), if_neg (by omega)]; exact Int.le_refl _) (fun w f1 f2 => by rw [q2, if_neg (by omega), if_neg (by omega), if_neg (by omega), if_neg (by omega), if_neg (by omega), if_neg (by omega)]), a2.cg (by rw [q2, if_neg (by omega), if_neg (by omega), if_neg (by omega), if_neg (by omega), if_neg (by omega), if_neg (by omega)]), a3.cg (fun w f1 f2 => by rw [q2, if_neg (by omega), if_neg (by omega), if_neg (by omega), if_neg (by omega), if_neg (by omega), if_neg (by omega)]) (fun w f1 => by rw [q2, if_neg (by omega), if_neg (by omega), if_neg (by omega), if_neg (by omega), if_neg (by omega), if_neg (by omega)]), ?_⟩
        by_cases e : c = x0.toNatClampNeg
        · subst e
          intro t ht hr
          rw [q2 (38 + 7 * x0.toNatClampNeg), if_pos rfl, hx] at hr
          by_cases f : t = (v2 1 (38 + 7 * x0.toNatClampNeg)).toNatClampNeg
          · rw [q2 (161 + 25 * x0.toNatClampNeg + 5 * t), if_neg (by omega), if_neg (by omega), if_pos (by omega), q2 (162 + 25 * x0.toNatClampNeg + 5 * t), if_neg (by omega), if_pos (by omega)]
            exact hC.2.2.2.2.1
          · rw [q2 (161 + 25 * x0.toNatClampNeg + 5 * t), if_neg (by omega), if_neg (by omega), if_neg (by omega), if_neg (by omega), if_neg (by omega), if_neg (by omega), q2 (162 + 25 * x0.toNatClampNeg + 5 * t), if_neg (by omega), if_neg (by omega), if_neg (by omega), if_neg (by omega), if_neg (by omega), if_neg (by omega)]
            exact a4 t ht (by omega)
        · exact a4.cg (by rw [q2, if_neg (by omega), if_neg (by omega), if_neg (by omega), if_neg (by omega), if_neg (by omega), if_neg (by omega)]) (fun t ht hr => ⟨by rw [q2, if_neg (by omega), if_neg (by omega), if_neg (by omega), if_neg (by omega), if_neg (by omega), if_neg (by omega)], by rw [q2, if_neg (by omega), if_neg (by omega), if_neg (by omega), if_neg (by omega), if_neg (by omega), if_neg (by omega)]⟩)
    · obtain ⟨-, q2⟩ := q.2.1 ⟨hC, hD⟩
      exact h0.wr hT (by rw [q2]; exact hO) (by rw [q2])
  · obtain ⟨-, q2⟩ := q.1 hC
    exact h0.wr hT (by rw [q2]; exact hO) (by rw [q2])

set_option maxHeartbeats 4000000 in
theorem S_open {n r r2 x0 x1 : Int32} {v u v2 u2 : Nat → Nat → Int32} (hI : Iv v) (hQ : Ir v2) (h0 : RR3 n v v2) (p : (¬ ((0 ≤ x0.toInt ∧ x0.toInt < (v 13 0).toInt) ∧ (0 ≤ x1.toInt ∧ x1.toInt < (v 13 0).toInt) ∧ x0.toInt ≠ x1.toInt) → r = -1 ∧ u = v) ∧ (((0 ≤ x0.toInt ∧ x0.toInt < (v 13 0).toInt) ∧ (0 ≤ x1.toInt ∧ x1.toInt < (v 13 0).toInt) ∧ x0.toInt ≠ x1.toInt) ∧ 6 ≤ (v 13 2).toInt → r = -2 ∧ u = v) ∧ (((0 ≤ x0.toInt ∧ x0.toInt < (v 13 0).toInt) ∧ (0 ≤ x1.toInt ∧ x1.toInt < (v 13 0).toInt) ∧ x0.toInt ≠ x1.toInt) ∧ (v 13 2).toInt < 6 → r = v 13 2 ∧ (∀ k j : Nat, u k j = if k = 13 ∧ j = 2 then v 13 2 + 1 else if 36 + 15 * (v 13 2).toNatClampNeg ≤ k ∧ (k : Int) < 36 + 15 * ((v 13 2).toNatClampNeg : Int) + 2 ∧ j < 24 then 7 else if k = 31 + 15 * (v 13 2).toNatClampNeg ∧ (j : Int) < 2 then -1 else if k = 30 + 15 * (v 13 2).toNatClampNeg ∧ j = 1 then x1 else if k = 30 + 15 * (v 13 2).toNatClampNeg ∧ j = 0 then x0 else if k = 29 + 15 * (v 13 2).toNatClampNeg ∧ j = 5 then 0 else if k = 29 + 15 * (v 13 2).toNatClampNeg ∧ j = 4 then 0 else if k = 29 + 15 * (v 13 2).toNatClampNeg ∧ j = 3 then 1 else if k = 29 + 15 * (v 13 2).toNatClampNeg ∧ j = 2 then 0 else if k = 29 + 15 * (v 13 2).toNatClampNeg ∧ j = 1 then 0 else if k = 29 + 15 * (v 13 2).toNatClampNeg ∧ j = 0 then 0 else v k j))) (q : (¬ ((0 ≤ x0.toInt ∧ x0.toInt < (v2 1 0).toInt) ∧ (0 ≤ x1.toInt ∧ x1.toInt < (v2 1 0).toInt) ∧ x0.toInt ≠ x1.toInt) → r2 = -1 ∧ u2 = v2) ∧ (((0 ≤ x0.toInt ∧ x0.toInt < (v2 1 0).toInt) ∧ (0 ≤ x1.toInt ∧ x1.toInt < (v2 1 0).toInt) ∧ x0.toInt ≠ x1.toInt) ∧ (v2 1 2).toInt = 6 → r2 = -2 ∧ u2 = v2) ∧ (((0 ≤ x0.toInt ∧ x0.toInt < (v2 1 0).toInt) ∧ (0 ≤ x1.toInt ∧ x1.toInt < (v2 1 0).toInt) ∧ x0.toInt ≠ x1.toInt) ∧ (v2 1 2).toInt ≠ 6 → r2 = v2 1 2 ∧ (∀ n : Nat, u2 1 n = if n = 2 then v2 1 2 + 1 else if 308 + 48 * (v2 1 2).toNatClampNeg ≤ n ∧ (n : Int) < 308 + 48 * ((v2 1 2).toNatClampNeg : Int) + 48 then 7 else if n = 75 + 2 * (v2 1 2).toNatClampNeg then -5 else if n = 74 + 2 * (v2 1 2).toNatClampNeg then -5 else if n = 38 + 7 * (v2 1 2).toNatClampNeg then 0 else if n = 37 + 7 * (v2 1 2).toNatClampNeg then 1 else if n = 36 + 7 * (v2 1 2).toNatClampNeg then 0 else if n = 35 + 7 * (v2 1 2).toNatClampNeg then -5 else if n = 34 + 7 * (v2 1 2).toNatClampNeg then 0 else if n = 33 + 7 * (v2 1 2).toNatClampNeg then x1 else if n = 32 + 7 * (v2 1 2).toNatClampNeg then x0 else v2 1 n) ∧ (∀ k : Nat, k ≠ 1 → u2 k = v2 k))) : r = r2 ∧ RR3 n u u2 := by
  have h := h0.1
  have hO := h0.2.1
  have hT := T_open hI hQ h p q
  have hb0 := hQ 1 0 8 (by decide)
  have hb1 := hQ 1 1 4 (by decide)
  have hb2 := hQ 1 2 6 (by decide)
  have hb3 := hQ 1 3 6 (by decide)
  by_cases hC : (0 ≤ x0.toInt ∧ x0.toInt < (v2 1 0).toInt) ∧ (0 ≤ x1.toInt ∧ x1.toInt < (v2 1 0).toInt) ∧ x0.toInt ≠ x1.toInt
  · by_cases hD : (v2 1 2).toInt = 6
    · obtain ⟨-, q2⟩ := q.2.1 ⟨hC, hD⟩
      exact h0.wr hT (by rw [q2]; exact hO) (by rw [q2])
    · obtain ⟨-, q2, q3⟩ := q.2.2 ⟨hC, hD⟩
      have zX := t_nn (x := v2 1 2) (by omega)
      have k1 : (1 : Int32).toInt = 1 := by decide
      have hx : (v2 1 2 + 1).toInt = (v2 1 2).toInt + 1 := by rw [t_add (by rw [k1]; omega), k1]
      refine h0.wr hT ?_ (q3 2 (by decide))
      intro c hc ha
      rw [q2 2, if_pos rfl, hx] at ha
      by_cases e : c = (v2 1 2).toNatClampNeg
      · have g0 : u2 1 (32 + 7 * c) = x0 := by rw [q2, if_neg (by omega), if_neg (by omega), if_neg (by omega), if_neg (by omega), if_neg (by omega), if_neg (by omega), if_neg (by omega), if_neg (by omega), if_neg (by omega), if_neg (by omega), if_pos (by omega)]
        have g1 : u2 1 (33 + 7 * c) = x1 := by rw [q2, if_neg (by omega), if_neg (by omega), if_neg (by omega), if_neg (by omega), if_neg (by omega), if_neg (by omega), if_neg (by omega), if_neg (by omega), if_neg (by omega), if_pos (by omega)]
        have g2 : u2 1 (34 + 7 * c) = 0 := by rw [q2, if_neg (by omega), if_neg (by omega), if_neg (by omega), if_neg (by omega), if_neg (by omega), if_neg (by omega), if_neg (by omega), if_neg (by omega), if_pos (by omega)]
        have g4 : u2 1 (36 + 7 * c) = 0 := by rw [q2, if_neg (by omega), if_neg (by omega), if_neg (by omega), if_neg (by omega), if_neg (by omega), if_neg (by omega), if_pos (by omega)]
        have g5 : u2 1 (37 + 7 * c) = 1 := by rw [q2, if_neg (by omega), if_neg (by omega), if_neg (by omega), if_neg (by omega), if_neg (by omega), if_pos (by omega)]
        have g6 : u2 1 (38 + 7 * c) = 0 := by rw [q2, if_neg (by omega), if_neg (by omega), if_neg (by omega), if_neg (by omega), if_pos (by omega)]
        have gz : u2 1 0 = v2 1 0 := by rw [q2, if_neg (by omega), if_neg (by omega), if_neg (by omega), if_neg (by omega), if_neg (by omega), if_neg (by omega), if_neg (by omega), if_neg (by omega), if_neg (by omega), if_neg (by omega), if_neg (by omega)]
        refine ⟨?_, ?_, ⟨?_, fun j hj hr => ?_⟩, fun t ht hr => ?_⟩
        · unfold OP
          rw [g0, g1, gz]
          exact ⟨hC.1, hC.2.1⟩
        · unfold OW
          rw [g5]
          decide
        · rw [g2]
          exact fun w => absurd w (by decide)
        · rw [g4] at hr
          have k0 : (0 : Int32).toInt = 0 := by decide
          omega
        · rw [g6] at hr
          have k0 : (0 : Int32).toInt = 0 := by decide
          omega
      · obtain ⟨a1, a2, a3, a4⟩ := hO c hc (by omega)
        exact ⟨a1.cg (by rw [q2, if_neg (by omega), if_neg (by omega), if_neg (by omega), if_neg (by omega), if_neg (by omega), if_neg (by omega), if_neg (by omega), if_neg (by omega), if_neg (by omega), if_neg (by omega), if_neg (by omega)]; exact Int.le_refl _) (fun w f1 f2 => by rw [q2, if_neg (by omega), if_neg (by omega), if_neg (by omega), if_neg (by omega), if_neg (by omega), if_neg (by omega), if_neg (by omega), if_neg (by omega), if_neg (by omega), if_neg (by omega), if_neg (by omega)]), a2.cg (by rw [q2, if_neg (by omega), if_neg (by omega), if_neg (by omega), if_neg (by omega), if_neg (by omega), if_neg (by omega), if_neg (by omega), if_neg (by omega), if_neg (by omega), if_neg (by omega), if_neg (by omega)]), a3.cg (fun w f1 f2 => by rw [q2, if_neg (by omega), if_neg (by omega), if_neg (by omega), if_neg (by omega), if_neg (by omega), if_neg (by omega), if_neg (by omega), if_neg (by omega), if_neg (by omega), if_neg (by omega), if_neg (by omega)]) (fun w f1 => by rw [q2, if_neg (by omega), if_neg (by omega), if_neg (by omega), if_neg (by omega), if_neg (by omega), if_neg (by omega), if_neg (by omega), if_neg (by omega), if_neg (by omega), if_neg (by omega), if_neg (by omega)]), a4.cg (by rw [q2, if_neg (by omega), if_neg (by omega), if_neg (by omega), if_neg (by omega), if_neg (by omega), if_neg (by omega), if_neg (by omega), if_neg (by omega), if_neg (by omega), if_neg (by omega), if_neg (by omega)]) (fun t ht hr => ⟨by rw [q2, if_neg (by omega), if_neg (by omega), if_neg (by omega), if_neg (by omega), if_neg (by omega), if_neg (by omega), if_neg (by omega), if_neg (by omega), if_neg (by omega), if_neg (by omega), if_neg (by omega)], by rw [q2, if_neg (by omega), if_neg (by omega), if_neg (by omega), if_neg (by omega), if_neg (by omega), if_neg (by omega), if_neg (by omega), if_neg (by omega), if_neg (by omega), if_neg (by omega), if_neg (by omega)]⟩)⟩
  · obtain ⟨-, q2⟩ := q.1 hC
    exact h0.wr hT (by rw [q2]; exact hO) (by rw [q2])

set_option maxHeartbeats 4000000 in
theorem S_offer_0 {n r r2 x0 x1 : Int32} {v u v2 u2 : Nat → Nat → Int32} (hI : Iv v) (hQ : Ir v2) (h0 : RR3 n v v2) (p : (¬ ((0 ≤ x0.toInt ∧ x0.toInt < (v 13 2).toInt) ∧ 0 ≤ x1.toInt ∧ x1.toInt ≤ 100) → r = -1 ∧ u = v) ∧ (((0 ≤ x0.toInt ∧ x0.toInt < (v 13 2).toInt) ∧ 0 ≤ x1.toInt ∧ x1.toInt ≤ 100) ∧ (v (29 + 15 * x0.toNatClampNeg) 0).toInt ≠ 0 → r = -4 ∧ u = v) ∧ (((0 ≤ x0.toInt ∧ x0.toInt < (v 13 2).toInt) ∧ 0 ≤ x1.toInt ∧ x1.toInt ≤ 100) ∧ (v (29 + 15 * x0.toNatClampNeg) 0).toInt = 0 ∧ (v (31 + 15 * x0.toNatClampNeg) 0).toInt ≠ -1 → r = -3 ∧ u = v) ∧ (((0 ≤ x0.toInt ∧ x0.toInt < (v 13 2).toInt) ∧ 0 ≤ x1.toInt ∧ x1.toInt ≤ 100) ∧ (v (29 + 15 * x0.toNatClampNeg) 0).toInt = 0 ∧ (v (31 + 15 * x0.toNatClampNeg) 0).toInt = -1 ∧ 5 ≤ (v (29 + 15 * x0.toNatClampNeg) 2).toInt → r = -2 ∧ u = v) ∧ (((0 ≤ x0.toInt ∧ x0.toInt < (v 13 2).toInt) ∧ 0 ≤ x1.toInt ∧ x1.toInt ≤ 100) ∧ (v (29 + 15 * x0.toNatClampNeg) 0).toInt = 0 ∧ (v (31 + 15 * x0.toNatClampNeg) 0).toInt = -1 ∧ (v (29 + 15 * x0.toNatClampNeg) 2).toInt < 5 ∧ (v (31 + 15 * x0.toNatClampNeg) 1).toInt = -1 → r = 0 ∧ (∀ k j : Nat, u k j = if k = 31 + 15 * x0.toNatClampNeg ∧ j = 0 then x1 else v k j)) ∧ (((0 ≤ x0.toInt ∧ x0.toInt < (v 13 2).toInt) ∧ 0 ≤ x1.toInt ∧ x1.toInt ≤ 100) ∧ (v (29 + 15 * x0.toNatClampNeg) 0).toInt = 0 ∧ (v (31 + 15 * x0.toNatClampNeg) 0).toInt = -1 ∧ (v (29 + 15 * x0.toNatClampNeg) 2).toInt < 5 ∧ (v (31 + 15 * x0.toNatClampNeg) 1).toInt ≠ -1 ∧ (v (31 + 15 * x0.toNatClampNeg) 1).toInt < x1.toInt → r = 2 ∧ (∀ k j : Nat, u k j = if k = 31 + 15 * x0.toNatClampNeg ∧ j = 1 then -1 else if k = 31 + 15 * x0.toNatClampNeg ∧ j = 0 then -1 else if k = 29 + 15 * x0.toNatClampNeg ∧ j = 2 then v (29 + 15 * x0.toNatClampNeg) 2 + 1 else if k = 33 + 15 * x0.toNatClampNeg + 1 ∧ j = (v (29 + 15 * x0.toNatClampNeg) 2).toNatClampNeg then v (31 + 15 * x0.toNatClampNeg) 1 else if k = 33 + 15 * x0.toNatClampNeg + 0 ∧ j = (v (29 + 15 * x0.toNatClampNeg) 2).toNatClampNeg then x1 else if k = 31 + 15 * x0.toNatClampNeg ∧ j = 0 then x1 else v k j)) ∧ (((0 ≤ x0.toInt ∧ x0.toInt < (v 13 2).toInt) ∧ 0 ≤ x1.toInt ∧ x1.toInt ≤ 100) ∧ (v (29 + 15 * x0.toNatClampNeg) 0).toInt = 0 ∧ (v (31 + 15 * x0.toNatClampNeg) 0).toInt = -1 ∧ (v (29 + 15 * x0.toNatClampNeg) 2).toInt < 5 ∧ (v (31 + 15 * x0.toNatClampNeg) 1).toInt ≠ -1 ∧ x1.toInt ≤ (v (31 + 15 * x0.toNatClampNeg) 1).toInt → r = 1 ∧ (∀ k j : Nat, u k j = if k = 29 + 15 * x0.toNatClampNeg ∧ j = 1 then (x1 + v (31 + 15 * x0.toNatClampNeg) 1) / 2 else if k = 29 + 15 * x0.toNatClampNeg ∧ j = 0 then 1 else if k = 29 + 15 * x0.toNatClampNeg ∧ j = 2 then v (29 + 15 * x0.toNatClampNeg) 2 + 1 else if k = 33 + 15 * x0.toNatClampNeg + 1 ∧ j = (v (29 + 15 * x0.toNatClampNeg) 2).toNatClampNeg then v (31 + 15 * x0.toNatClampNeg) 1 else if k = 33 + 15 * x0.toNatClampNeg + 0 ∧ j = (v (29 + 15 * x0.toNatClampNeg) 2).toNatClampNeg then x1 else if k = 31 + 15 * x0.toNatClampNeg ∧ j = 0 then x1 else v k j))) (q : (¬ ((0 ≤ x0.toInt ∧ x0.toInt < (v2 1 2).toInt) ∧ 0 ≤ x1.toInt ∧ x1.toInt ≤ 100) → r2 = -1 ∧ u2 = v2) ∧ (((0 ≤ x0.toInt ∧ x0.toInt < (v2 1 2).toInt) ∧ 0 ≤ x1.toInt ∧ x1.toInt ≤ 100) ∧ (v2 1 (34 + 7 * x0.toNatClampNeg)).toInt ≠ 0 → r2 = -4 ∧ u2 = v2) ∧ (((0 ≤ x0.toInt ∧ x0.toInt < (v2 1 2).toInt) ∧ 0 ≤ x1.toInt ∧ x1.toInt ≤ 100) ∧ (v2 1 (34 + 7 * x0.toNatClampNeg)).toInt = 0 ∧ 0 ≤ (v2 1 (74 + 2 * x0.toNatClampNeg)).toInt → r2 = -3 ∧ u2 = v2) ∧ (((0 ≤ x0.toInt ∧ x0.toInt < (v2 1 2).toInt) ∧ 0 ≤ x1.toInt ∧ x1.toInt ≤ 100) ∧ (v2 1 (34 + 7 * x0.toNatClampNeg)).toInt = 0 ∧ (v2 1 (74 + 2 * x0.toNatClampNeg)).toInt < 0 ∧ (v2 1 (36 + 7 * x0.toNatClampNeg)).toInt = 5 → r2 = -2 ∧ u2 = v2) ∧ (((0 ≤ x0.toInt ∧ x0.toInt < (v2 1 2).toInt) ∧ 0 ≤ x1.toInt ∧ x1.toInt ≤ 100) ∧ (v2 1 (34 + 7 * x0.toNatClampNeg)).toInt = 0 ∧ (v2 1 (74 + 2 * x0.toNatClampNeg)).toInt < 0 ∧ (v2 1 (36 + 7 * x0.toNatClampNeg)).toInt ≠ 5 ∧ (v2 1 (75 + 2 * x0.toNatClampNeg)).toInt < 0 → r2 = 0 ∧ (∀ n : Nat, u2 1 n = if n = 74 + 2 * x0.toNatClampNeg then x1 else v2 1 n) ∧ (∀ k : Nat, k ≠ 1 → u2 k = v2 k)) ∧ (((0 ≤ x0.toInt ∧ x0.toInt < (v2 1 2).toInt) ∧ 0 ≤ x1.toInt ∧ x1.toInt ≤ 100) ∧ (v2 1 (34 + 7 * x0.toNatClampNeg)).toInt = 0 ∧ (v2 1 (74 + 2 * x0.toNatClampNeg)).toInt < 0 ∧ (v2 1 (36 + 7 * x0.toNatClampNeg)).toInt ≠ 5 ∧ 0 ≤ (v2 1 (75 + 2 * x0.toNatClampNeg)).toInt ∧ (v2 1 (75 + 2 * x0.toNatClampNeg)).toInt < x1.toInt → r2 = 2 ∧ (∀ n : Nat, u2 1 n = if n = 75 + 2 * x0.toNatClampNeg then -5 else if n = 74 + 2 * x0.toNatClampNeg then -5 else if n = 36 + 7 * x0.toNatClampNeg then v2 1 (36 + 7 * x0.toNatClampNeg) + 1 else if n = 87 + 10 * x0.toNatClampNeg + 2 * (v2 1 (36 + 7 * x0.toNatClampNeg)).toNatClampNeg then v2 1 (75 + 2 * x0.toNatClampNeg) else if n = 86 + 10 * x0.toNatClampNeg + 2 * (v2 1 (36 + 7 * x0.toNatClampNeg)).toNatClampNeg then x1 else if n = 74 + 2 * x0.toNatClampNeg then x1 else v2 1 n) ∧ (∀ k : Nat, k ≠ 1 → u2 k = v2 k)) ∧ (((0 ≤ x0.toInt ∧ x0.toInt < (v2 1 2).toInt) ∧ 0 ≤ x1.toInt ∧ x1.toInt ≤ 100) ∧ (v2 1 (34 + 7 * x0.toNatClampNeg)).toInt = 0 ∧ (v2 1 (74 + 2 * x0.toNatClampNeg)).toInt < 0 ∧ (v2 1 (36 + 7 * x0.toNatClampNeg)).toInt ≠ 5 ∧ 0 ≤ (v2 1 (75 + 2 * x0.toNatClampNeg)).toInt ∧ x1.toInt ≤ (v2 1 (75 + 2 * x0.toNatClampNeg)).toInt → r2 = 1 ∧ (∀ n : Nat, u2 1 n = if n = 35 + 7 * x0.toNatClampNeg then (x1 + v2 1 (75 + 2 * x0.toNatClampNeg)) / 2 else if n = 34 + 7 * x0.toNatClampNeg then 1 else if n = 75 + 2 * x0.toNatClampNeg then -5 else if n = 74 + 2 * x0.toNatClampNeg then -5 else if n = 36 + 7 * x0.toNatClampNeg then v2 1 (36 + 7 * x0.toNatClampNeg) + 1 else if n = 87 + 10 * x0.toNatClampNeg + 2 * (v2 1 (36 + 7 * x0.toNatClampNeg)).toNatClampNeg then v2 1 (75 + 2 * x0.toNatClampNeg) else if n = 86 + 10 * x0.toNatClampNeg + 2 * (v2 1 (36 + 7 * x0.toNatClampNeg)).toNatClampNeg then x1 else if n = 74 + 2 * x0.toNatClampNeg then x1 else v2 1 n) ∧ (∀ k : Nat, k ≠ 1 → u2 k = v2 k))) : r = r2 ∧ RR3 n u u2 := by
  have h := h0.1
  have hO := h0.2.1
  have hT := T_offer_0 hI hQ h p q
  have hb0 := hQ 1 0 8 (by decide)
  have hb1 := hQ 1 1 4 (by decide)
  have hb2 := hQ 1 2 6 (by decide)
  have hb3 := hQ 1 3 6 (by decide)
  by_cases hC : (0 ≤ x0.toInt ∧ x0.toInt < (v2 1 2).toInt) ∧ 0 ≤ x1.toInt ∧ x1.toInt ≤ 100
  · have zX := t_nn (x := x0) (by omega)
    have hX : x0.toNatClampNeg < 6 := by omega
    have hXa : (x0.toNatClampNeg : Int) < (v2 1 2).toInt := by omega
    have hb := hQ 1 (36 + 7 * x0.toNatClampNeg) 5 (bS_c (by omega) (by omega))
    by_cases hD : (v2 1 (34 + 7 * x0.toNatClampNeg)).toInt = 0
    · obtain ⟨hx0, hx1⟩ := (h.1.2.1 _ hX hXa).2.2.2 hD
      have ho : (v2 1 (75 + 2 * x0.toNatClampNeg)).toInt < 0 ∨ (0 ≤ (v2 1 (75 + 2 * x0.toNatClampNeg)).toInt ∧ (v2 1 (75 + 2 * x0.toNatClampNeg)).toInt ≤ 100) := by rcases hx1 with ⟨t1, t2⟩ | ⟨t1, t2, t3⟩; exact Or.inl t2; exact Or.inr ⟨t1, t2⟩
      clear hx0 hx1
      by_cases hB : 0 ≤ (v2 1 (74 + 2 * x0.toNatClampNeg)).toInt
      · obtain ⟨-, q2⟩ := q.2.2.1 ⟨hC, hD, hB⟩
        exact h0.wr hT (by rw [q2]; exact hO) (by rw [q2])
      · by_cases hE : (v2 1 (36 + 7 * x0.toNatClampNeg)).toInt = 5
        · obtain ⟨-, q2⟩ := q.2.2.2.1 ⟨hC, hD, by omega, hE⟩
          exact h0.wr hT (by rw [q2]; exact hO) (by rw [q2])
        · by_cases hG : (v2 1 (75 + 2 * x0.toNatClampNeg)).toInt < 0
          · obtain ⟨-, q2, q3⟩ := q.2.2.2.2.1 ⟨hC, hD, by omega, hE, hG⟩
            refine h0.wr hT ?_ (q3 2 (by decide))
            intro c hc ha
            have E2 : u2 1 2 = v2 1 2 := by rw [q2, if_neg (by omega)]
            rw [E2] at ha
            obtain ⟨a1, a2, a3, a4⟩ := hO c hc ha
            exact ⟨a1.cg (by rw [q2, if_neg (by omega)]; exact Int.le_refl _) (fun w f1 f2 => by rw [q2, if_neg (by omega)]), a2.cg (by rw [q2, if_neg (by omega)]), a3.cg (fun w f1 f2 => by rw [q2, if_neg (by omega)]) (fun w f1 => by rw [q2, if_neg (by omega)]), a4.cg (by rw [q2, if_neg (by omega)]) (fun t ht hr => ⟨by rw [q2, if_neg (by omega)], by rw [q2, if_neg (by omega)]⟩)⟩
          · have k1 : (1 : Int32).toInt = 1 := by decide
            have zR := t_nn (x := v2 1 (36 + 7 * x0.toNatClampNeg)) (by omega)
            have hx : (v2 1 (36 + 7 * x0.toNatClampNeg) + 1).toInt = (v2 1 (36 + 7 * x0.toNatClampNeg)).toInt + 1 := by rw [t_add (by rw [k1]; omega), k1]
            by_cases hL : (v2 1 (75 + 2 * x0.toNatClampNeg)).toInt < (x1).toInt
            · obtain ⟨-, q2, q3⟩ := q.2.2.2.2.2.1 ⟨hC, hD, by omega, hE, by omega, hL⟩
              refine h0.wr hT ?_ (q3 2 (by decide))
              intro c hc ha
              have E2 : u2 1 2 = v2 1 2 := by rw [q2, if_neg (by omega), if_neg (by omega), if_neg (by omega), if_neg (by omega), if_neg (by omega), if_neg (by omega)]
              rw [E2] at ha
              obtain ⟨a1, a2, a3, a4⟩ := hO c hc ha
              refine ⟨a1.cg (by rw [q2, if_neg (by omega), if_neg (by omega), if_neg (by omega), if_neg (by omega), if_neg (by omega), if_neg (by omega)]; exact Int.le_refl _) (fun w f1 f2 => by rw [q2, if_neg (by omega), if_neg (by omega), if_neg (by omega), if_neg (by omega), if_neg (by omega), if_neg (by omega)]), a2.cg (by rw [q2, if_neg (by omega), if_neg (by omega), if_neg (by omega), if_neg (by omega), if_neg (by omega), if_neg (by omega)]), ?_, a4.cg (by rw [q2, if_neg (by omega), if_neg (by omega), if_neg (by omega), if_neg (by omega), if_neg (by omega), if_neg (by omega)]) (fun t ht hr => ⟨by rw [q2, if_neg (by omega), if_neg (by omega), if_neg (by omega), if_neg (by omega), if_neg (by omega), if_neg (by omega)], by rw [q2, if_neg (by omega), if_neg (by omega), if_neg (by omega), if_neg (by omega), if_neg (by omega), if_neg (by omega)]⟩)⟩
              by_cases e : c = x0.toNatClampNeg
              · subst e
                have g4 : u2 1 (36 + 7 * x0.toNatClampNeg) = v2 1 (36 + 7 * x0.toNatClampNeg) + 1 := by rw [q2, if_neg (by omega), if_neg (by omega), if_pos (by omega)]
                have g2 : u2 1 (34 + 7 * x0.toNatClampNeg) = v2 1 (34 + 7 * x0.toNatClampNeg) := by rw [q2, if_neg (by omega), if_neg (by omega), if_neg (by omega), if_neg (by omega), if_neg (by omega), if_neg (by omega)]
                have g3 : u2 1 (35 + 7 * x0.toNatClampNeg) = v2 1 (35 + 7 * x0.toNatClampNeg) := by rw [q2, if_neg (by omega), if_neg (by omega), if_neg (by omega), if_neg (by omega), if_neg (by omega), if_neg (by omega)]
                unfold OR_
                rw [g2, g3, g4, hx]
                refine ⟨fun _ => by omega, fun j hj hr => ?_⟩
                by_cases f : j = (v2 1 (36 + 7 * x0.toNatClampNeg)).toNatClampNeg
                · have g6 : u2 1 (86 + 10 * x0.toNatClampNeg + 2 * j) = x1 := by rw [q2, if_neg (by omega), if_neg (by omega), if_neg (by omega), if_neg (by omega), if_pos (by omega)]
                  have g7 : u2 1 (87 + 10 * x0.toNatClampNeg + 2 * j) = v2 1 (75 + 2 * x0.toNatClampNeg) := by rw [q2, if_neg (by omega), if_neg (by omega), if_neg (by omega), if_pos (by omega)]
                  rw [g6, g7]
                  unfold od
                  rw [hx]
                  exact ⟨by omega, by omega, fun w => absurd w.1 (by omega), fun _ => by omega⟩
                · rw [q2 (86 + 10 * x0.toNatClampNeg + 2 * j), if_neg (by omega), if_neg (by omega), if_neg (by omega), if_neg (by omega), if_neg (by omega), if_neg (by omega), q2 (87 + 10 * x0.toNatClampNeg + 2 * j), if_neg (by omega), if_neg (by omega), if_neg (by omega), if_neg (by omega), if_neg (by omega), if_neg (by omega)]
                  obtain ⟨d1, d2, d3, d4⟩ := a3.2 j hj (by omega)
                  unfold od
                  rw [hx]
                  exact ⟨d1, d2, fun w => absurd w (by omega), fun _ => d4 (fun w => absurd w.1 (by omega))⟩
              · exact a3.cg (fun w f1 f2 => by rw [q2, if_neg (by omega), if_neg (by omega), if_neg (by omega), if_neg (by omega), if_neg (by omega), if_neg (by omega)]) (fun w f1 => by rw [q2, if_neg (by omega), if_neg (by omega), if_neg (by omega), if_neg (by omega), if_neg (by omega), if_neg (by omega)])
            · obtain ⟨-, q2, q3⟩ := q.2.2.2.2.2.2 ⟨hC, hD, by omega, hE, by omega, by omega⟩
              refine h0.wr hT ?_ (q3 2 (by decide))
              intro c hc ha
              have E2 : u2 1 2 = v2 1 2 := by rw [q2, if_neg (by omega), if_neg (by omega), if_neg (by omega), if_neg (by omega), if_neg (by omega), if_neg (by omega), if_neg (by omega), if_neg (by omega)]
              rw [E2] at ha
              obtain ⟨a1, a2, a3, a4⟩ := hO c hc ha
              refine ⟨a1.cg (by rw [q2, if_neg (by omega), if_neg (by omega), if_neg (by omega), if_neg (by omega), if_neg (by omega), if_neg (by omega), if_neg (by omega), if_neg (by omega)]; exact Int.le_refl _) (fun w f1 f2 => by rw [q2, if_neg (by omega), if_neg (by omega), if_neg (by omega), if_neg (by omega), if_neg (by omega), if_neg (by omega), if_neg (by omega), if_neg (by omega)]), a2.cg (by rw [q2, if_neg (by omega), if_neg (by omega), if_neg (by omega), if_neg (by omega), if_neg (by omega), if_neg (by omega), if_neg (by omega), if_neg (by omega)]), ?_, a4.cg (by rw [q2, if_neg (by omega), if_neg (by omega), if_neg (by omega), if_neg (by omega), if_neg (by omega), if_neg (by omega), if_neg (by omega), if_neg (by omega)]) (fun t ht hr => ⟨by rw [q2, if_neg (by omega), if_neg (by omega), if_neg (by omega), if_neg (by omega), if_neg (by omega), if_neg (by omega), if_neg (by omega), if_neg (by omega)], by rw [q2, if_neg (by omega), if_neg (by omega), if_neg (by omega), if_neg (by omega), if_neg (by omega), if_neg (by omega), if_neg (by omega), if_neg (by omega)]⟩)⟩
              by_cases e : c = x0.toNatClampNeg
              · subst e
                have g4 : u2 1 (36 + 7 * x0.toNatClampNeg) = v2 1 (36 + 7 * x0.toNatClampNeg) + 1 := by rw [q2, if_neg (by omega), if_neg (by omega), if_neg (by omega), if_neg (by omega), if_pos (by omega)]
                have g2 : u2 1 (34 + 7 * x0.toNatClampNeg) = 1 := by rw [q2, if_neg (by omega), if_pos (by omega)]
                have g3 : u2 1 (35 + 7 * x0.toNatClampNeg) = (x1 + v2 1 (75 + 2 * x0.toNatClampNeg)) / 2 := by rw [q2, if_pos (by omega)]
                unfold OR_
                rw [g2, g3, g4, hx]
                refine ⟨fun _ => by omega, fun j hj hr => ?_⟩
                by_cases f : j = (v2 1 (36 + 7 * x0.toNatClampNeg)).toNatClampNeg
                · have g6 : u2 1 (86 + 10 * x0.toNatClampNeg + 2 * j) = x1 := by rw [q2, if_neg (by omega), if_neg (by omega), if_neg (by omega), if_neg (by omega), if_neg (by omega), if_neg (by omega), if_pos (by omega)]
                  have g7 : u2 1 (87 + 10 * x0.toNatClampNeg + 2 * j) = v2 1 (75 + 2 * x0.toNatClampNeg) := by rw [q2, if_neg (by omega), if_neg (by omega), if_neg (by omega), if_neg (by omega), if_neg (by omega), if_pos (by omega)]
                  rw [g6, g7]
                  unfold od
                  rw [hx]
                  exact ⟨by omega, by omega, fun _ => ⟨by omega, rfl⟩, fun w => absurd ⟨k1, by omega⟩ w⟩
                · rw [q2 (86 + 10 * x0.toNatClampNeg + 2 * j), if_neg (by omega), if_neg (by omega), if_neg (by omega), if_neg (by omega), if_neg (by omega), if_neg (by omega), if_neg (by omega), if_neg (by omega), q2 (87 + 10 * x0.toNatClampNeg + 2 * j), if_neg (by omega), if_neg (by omega), if_neg (by omega), if_neg (by omega), if_neg (by omega), if_neg (by omega), if_neg (by omega), if_neg (by omega)]
                  obtain ⟨d1, d2, d3, d4⟩ := a3.2 j hj (by omega)
                  unfold od
                  rw [hx]
                  exact ⟨d1, d2, fun w => absurd w (by omega), fun _ => d4 (fun w => absurd w.1 (by omega))⟩
              · exact a3.cg (fun w f1 f2 => by rw [q2, if_neg (by omega), if_neg (by omega), if_neg (by omega), if_neg (by omega), if_neg (by omega), if_neg (by omega), if_neg (by omega), if_neg (by omega)]) (fun w f1 => by rw [q2, if_neg (by omega), if_neg (by omega), if_neg (by omega), if_neg (by omega), if_neg (by omega), if_neg (by omega), if_neg (by omega), if_neg (by omega)])
    · obtain ⟨-, q2⟩ := q.2.1 ⟨hC, hD⟩
      exact h0.wr hT (by rw [q2]; exact hO) (by rw [q2])
  · obtain ⟨-, q2⟩ := q.1 hC
    exact h0.wr hT (by rw [q2]; exact hO) (by rw [q2])

set_option maxHeartbeats 4000000 in
theorem S_offer_1 {n r r2 x0 x1 : Int32} {v u v2 u2 : Nat → Nat → Int32} (hI : Iv v) (hQ : Ir v2) (h0 : RR3 n v v2) (p : (¬ ((0 ≤ x0.toInt ∧ x0.toInt < (v 13 2).toInt) ∧ 0 ≤ x1.toInt ∧ x1.toInt ≤ 100) → r = -1 ∧ u = v) ∧ (((0 ≤ x0.toInt ∧ x0.toInt < (v 13 2).toInt) ∧ 0 ≤ x1.toInt ∧ x1.toInt ≤ 100) ∧ (v (29 + 15 * x0.toNatClampNeg) 0).toInt ≠ 0 → r = -4 ∧ u = v) ∧ (((0 ≤ x0.toInt ∧ x0.toInt < (v 13 2).toInt) ∧ 0 ≤ x1.toInt ∧ x1.toInt ≤ 100) ∧ (v (29 + 15 * x0.toNatClampNeg) 0).toInt = 0 ∧ (v (31 + 15 * x0.toNatClampNeg) 1).toInt ≠ -1 → r = -3 ∧ u = v) ∧ (((0 ≤ x0.toInt ∧ x0.toInt < (v 13 2).toInt) ∧ 0 ≤ x1.toInt ∧ x1.toInt ≤ 100) ∧ (v (29 + 15 * x0.toNatClampNeg) 0).toInt = 0 ∧ (v (31 + 15 * x0.toNatClampNeg) 1).toInt = -1 ∧ 5 ≤ (v (29 + 15 * x0.toNatClampNeg) 2).toInt → r = -2 ∧ u = v) ∧ (((0 ≤ x0.toInt ∧ x0.toInt < (v 13 2).toInt) ∧ 0 ≤ x1.toInt ∧ x1.toInt ≤ 100) ∧ (v (29 + 15 * x0.toNatClampNeg) 0).toInt = 0 ∧ (v (31 + 15 * x0.toNatClampNeg) 1).toInt = -1 ∧ (v (29 + 15 * x0.toNatClampNeg) 2).toInt < 5 ∧ (v (31 + 15 * x0.toNatClampNeg) 0).toInt = -1 → r = 0 ∧ (∀ k j : Nat, u k j = if k = 31 + 15 * x0.toNatClampNeg ∧ j = 1 then x1 else v k j)) ∧ (((0 ≤ x0.toInt ∧ x0.toInt < (v 13 2).toInt) ∧ 0 ≤ x1.toInt ∧ x1.toInt ≤ 100) ∧ (v (29 + 15 * x0.toNatClampNeg) 0).toInt = 0 ∧ (v (31 + 15 * x0.toNatClampNeg) 1).toInt = -1 ∧ (v (29 + 15 * x0.toNatClampNeg) 2).toInt < 5 ∧ (v (31 + 15 * x0.toNatClampNeg) 0).toInt ≠ -1 ∧ x1.toInt < (v (31 + 15 * x0.toNatClampNeg) 0).toInt → r = 2 ∧ (∀ k j : Nat, u k j = if k = 31 + 15 * x0.toNatClampNeg ∧ j = 1 then -1 else if k = 31 + 15 * x0.toNatClampNeg ∧ j = 0 then -1 else if k = 29 + 15 * x0.toNatClampNeg ∧ j = 2 then v (29 + 15 * x0.toNatClampNeg) 2 + 1 else if k = 33 + 15 * x0.toNatClampNeg + 1 ∧ j = (v (29 + 15 * x0.toNatClampNeg) 2).toNatClampNeg then x1 else if k = 33 + 15 * x0.toNatClampNeg + 0 ∧ j = (v (29 + 15 * x0.toNatClampNeg) 2).toNatClampNeg then v (31 + 15 * x0.toNatClampNeg) 0 else if k = 31 + 15 * x0.toNatClampNeg ∧ j = 1 then x1 else v k j)) ∧ (((0 ≤ x0.toInt ∧ x0.toInt < (v 13 2).toInt) ∧ 0 ≤ x1.toInt ∧ x1.toInt ≤ 100) ∧ (v (29 + 15 * x0.toNatClampNeg) 0).toInt = 0 ∧ (v (31 + 15 * x0.toNatClampNeg) 1).toInt = -1 ∧ (v (29 + 15 * x0.toNatClampNeg) 2).toInt < 5 ∧ (v (31 + 15 * x0.toNatClampNeg) 0).toInt ≠ -1 ∧ (v (31 + 15 * x0.toNatClampNeg) 0).toInt ≤ x1.toInt → r = 1 ∧ (∀ k j : Nat, u k j = if k = 29 + 15 * x0.toNatClampNeg ∧ j = 1 then (v (31 + 15 * x0.toNatClampNeg) 0 + x1) / 2 else if k = 29 + 15 * x0.toNatClampNeg ∧ j = 0 then 1 else if k = 29 + 15 * x0.toNatClampNeg ∧ j = 2 then v (29 + 15 * x0.toNatClampNeg) 2 + 1 else if k = 33 + 15 * x0.toNatClampNeg + 1 ∧ j = (v (29 + 15 * x0.toNatClampNeg) 2).toNatClampNeg then x1 else if k = 33 + 15 * x0.toNatClampNeg + 0 ∧ j = (v (29 + 15 * x0.toNatClampNeg) 2).toNatClampNeg then v (31 + 15 * x0.toNatClampNeg) 0 else if k = 31 + 15 * x0.toNatClampNeg ∧ j = 1 then x1 else v k j))) (q : (¬ ((0 ≤ x0.toInt ∧ x0.toInt < (v2 1 2).toInt) ∧ 0 ≤ x1.toInt ∧ x1.toInt ≤ 100) → r2 = -1 ∧ u2 = v2) ∧ (((0 ≤ x0.toInt ∧ x0.toInt < (v2 1 2).toInt) ∧ 0 ≤ x1.toInt ∧ x1.toInt ≤ 100) ∧ (v2 1 (34 + 7 * x0.toNatClampNeg)).toInt ≠ 0 → r2 = -4 ∧ u2 = v2) ∧ (((0 ≤ x0.toInt ∧ x0.toInt < (v2 1 2).toInt) ∧ 0 ≤ x1.toInt ∧ x1.toInt ≤ 100) ∧ (v2 1 (34 + 7 * x0.toNatClampNeg)).toInt = 0 ∧ 0 ≤ (v2 1 (75 + 2 * x0.toNatClampNeg)).toInt → r2 = -3 ∧ u2 = v2) ∧ (((0 ≤ x0.toInt ∧ x0.toInt < (v2 1 2).toInt) ∧ 0 ≤ x1.toInt ∧ x1.toInt ≤ 100) ∧ (v2 1 (34 + 7 * x0.toNatClampNeg)).toInt = 0 ∧ (v2 1 (75 + 2 * x0.toNatClampNeg)).toInt < 0 ∧ (v2 1 (36 + 7 * x0.toNatClampNeg)).toInt = 5 → r2 = -2 ∧ u2 = v2) ∧ (((0 ≤ x0.toInt ∧ x0.toInt < (v2 1 2).toInt) ∧ 0 ≤ x1.toInt ∧ x1.toInt ≤ 100) ∧ (v2 1 (34 + 7 * x0.toNatClampNeg)).toInt = 0 ∧ (v2 1 (75 + 2 * x0.toNatClampNeg)).toInt < 0 ∧ (v2 1 (36 + 7 * x0.toNatClampNeg)).toInt ≠ 5 ∧ (v2 1 (74 + 2 * x0.toNatClampNeg)).toInt < 0 → r2 = 0 ∧ (∀ n : Nat, u2 1 n = if n = 75 + 2 * x0.toNatClampNeg then x1 else v2 1 n) ∧ (∀ k : Nat, k ≠ 1 → u2 k = v2 k)) ∧ (((0 ≤ x0.toInt ∧ x0.toInt < (v2 1 2).toInt) ∧ 0 ≤ x1.toInt ∧ x1.toInt ≤ 100) ∧ (v2 1 (34 + 7 * x0.toNatClampNeg)).toInt = 0 ∧ (v2 1 (75 + 2 * x0.toNatClampNeg)).toInt < 0 ∧ (v2 1 (36 + 7 * x0.toNatClampNeg)).toInt ≠ 5 ∧ 0 ≤ (v2 1 (74 + 2 * x0.toNatClampNeg)).toInt ∧ x1.toInt < (v2 1 (74 + 2 * x0.toNatClampNeg)).toInt → r2 = 2 ∧ (∀ n : Nat, u2 1 n = if n = 75 + 2 * x0.toNatClampNeg then -5 else if n = 74 + 2 * x0.toNatClampNeg then -5 else if n = 36 + 7 * x0.toNatClampNeg then v2 1 (36 + 7 * x0.toNatClampNeg) + 1 else if n = 87 + 10 * x0.toNatClampNeg + 2 * (v2 1 (36 + 7 * x0.toNatClampNeg)).toNatClampNeg then x1 else if n = 86 + 10 * x0.toNatClampNeg + 2 * (v2 1 (36 + 7 * x0.toNatClampNeg)).toNatClampNeg then v2 1 (74 + 2 * x0.toNatClampNeg) else if n = 75 + 2 * x0.toNatClampNeg then x1 else v2 1 n) ∧ (∀ k : Nat, k ≠ 1 → u2 k = v2 k)) ∧ (((0 ≤ x0.toInt ∧ x0.toInt < (v2 1 2).toInt) ∧ 0 ≤ x1.toInt ∧ x1.toInt ≤ 100) ∧ (v2 1 (34 + 7 * x0.toNatClampNeg)).toInt = 0 ∧ (v2 1 (75 + 2 * x0.toNatClampNeg)).toInt < 0 ∧ (v2 1 (36 + 7 * x0.toNatClampNeg)).toInt ≠ 5 ∧ 0 ≤ (v2 1 (74 + 2 * x0.toNatClampNeg)).toInt ∧ (v2 1 (74 + 2 * x0.toNatClampNeg)).toInt ≤ x1.toInt → r2 = 1 ∧ (∀ n : Nat, u2 1 n = if n = 35 + 7 * x0.toNatClampNeg then (v2 1 (74 + 2 * x0.toNatClampNeg) + x1) / 2 else if n = 34 + 7 * x0.toNatClampNeg then 1 else if n = 75 + 2 * x0.toNatClampNeg then -5 else if n = 74 + 2 * x0.toNatClampNeg then -5 else if n = 36 + 7 * x0.toNatClampNeg then v2 1 (36 + 7 * x0.toNatClampNeg) + 1 else if n = 87 + 10 * x0.toNatClampNeg + 2 * (v2 1 (36 + 7 * x0.toNatClampNeg)).toNatClampNeg then x1 else if n = 86 + 10 * x0.toNatClampNeg + 2 * (v2 1 (36 + 7 * x0.toNatClampNeg)).toNatClampNeg then v2 1 (74 + 2 * x0.toNatClampNeg) else if n = 75 + 2 * x0.toNatClampNeg then x1 else v2 1 n) ∧ (∀ k : Nat, k ≠ 1 → u2 k = v2 k))) : r = r2 ∧ RR3 n u u2 := by
  have h := h0.1
  have hO := h0.2.1
  have hT := T_offer_1 hI hQ h p q
  have hb0 := hQ 1 0 8 (by decide)
  have hb1 := hQ 1 1 4 (by decide)
  have hb2 := hQ 1 2 6 (by decide)
  have hb3 := hQ 1 3 6 (by decide)
  by_cases hC : (0 ≤ x0.toInt ∧ x0.toInt < (v2 1 2).toInt) ∧ 0 ≤ x1.toInt ∧ x1.toInt ≤ 100
  · have zX := t_nn (x := x0) (by omega)
    have hX : x0.toNatClampNeg < 6 := by omega
    have hXa : (x0.toNatClampNeg : Int) < (v2 1 2).toInt := by omega
    have hb := hQ 1 (36 + 7 * x0.toNatClampNeg) 5 (bS_c (by omega) (by omega))
    by_cases hD : (v2 1 (34 + 7 * x0.toNatClampNeg)).toInt = 0
    · obtain ⟨hx0, hx1⟩ := (h.1.2.1 _ hX hXa).2.2.2 hD
      have ho : (v2 1 (74 + 2 * x0.toNatClampNeg)).toInt < 0 ∨ (0 ≤ (v2 1 (74 + 2 * x0.toNatClampNeg)).toInt ∧ (v2 1 (74 + 2 * x0.toNatClampNeg)).toInt ≤ 100) := by rcases hx0 with ⟨t1, t2⟩ | ⟨t1, t2, t3⟩; exact Or.inl t2; exact Or.inr ⟨t1, t2⟩
      clear hx0 hx1
      by_cases hB : 0 ≤ (v2 1 (75 + 2 * x0.toNatClampNeg)).toInt
      · obtain ⟨-, q2⟩ := q.2.2.1 ⟨hC, hD, hB⟩
        exact h0.wr hT (by rw [q2]; exact hO) (by rw [q2])
      · by_cases hE : (v2 1 (36 + 7 * x0.toNatClampNeg)).toInt = 5
        · obtain ⟨-, q2⟩ := q.2.2.2.1 ⟨hC, hD, by omega, hE⟩
          exact h0.wr hT (by rw [q2]; exact hO) (by rw [q2])
        · by_cases hG : (v2 1 (74 + 2 * x0.toNatClampNeg)).toInt < 0
          · obtain ⟨-, q2, q3⟩ := q.2.2.2.2.1 ⟨hC, hD, by omega, hE, hG⟩
            refine h0.wr hT ?_ (q3 2 (by decide))
            intro c hc ha
            have E2 : u2 1 2 = v2 1 2 := by rw [q2, if_neg (by omega)]
            rw [E2] at ha
            obtain ⟨a1, a2, a3, a4⟩ := hO c hc ha
            exact ⟨a1.cg (by rw [q2, if_neg (by omega)]; exact Int.le_refl _) (fun w f1 f2 => by rw [q2, if_neg (by omega)]), a2.cg (by rw [q2, if_neg (by omega)]), a3.cg (fun w f1 f2 => by rw [q2, if_neg (by omega)]) (fun w f1 => by rw [q2, if_neg (by omega)]), a4.cg (by rw [q2, if_neg (by omega)]) (fun t ht hr => ⟨by rw [q2, if_neg (by omega)], by rw [q2, if_neg (by omega)]⟩)⟩
          · have k1 : (1 : Int32).toInt = 1 := by decide
            have zR := t_nn (x := v2 1 (36 + 7 * x0.toNatClampNeg)) (by omega)
            have hx : (v2 1 (36 + 7 * x0.toNatClampNeg) + 1).toInt = (v2 1 (36 + 7 * x0.toNatClampNeg)).toInt + 1 := by rw [t_add (by rw [k1]; omega), k1]
            by_cases hL : (x1).toInt < (v2 1 (74 + 2 * x0.toNatClampNeg)).toInt
            · obtain ⟨-, q2, q3⟩ := q.2.2.2.2.2.1 ⟨hC, hD, by omega, hE, by omega, hL⟩
              refine h0.wr hT ?_ (q3 2 (by decide))
              intro c hc ha
              have E2 : u2 1 2 = v2 1 2 := by rw [q2, if_neg (by omega), if_neg (by omega), if_neg (by omega), if_neg (by omega), if_neg (by omega), if_neg (by omega)]
              rw [E2] at ha
              obtain ⟨a1, a2, a3, a4⟩ := hO c hc ha
              refine ⟨a1.cg (by rw [q2, if_neg (by omega), if_neg (by omega), if_neg (by omega), if_neg (by omega), if_neg (by omega), if_neg (by omega)]; exact Int.le_refl _) (fun w f1 f2 => by rw [q2, if_neg (by omega), if_neg (by omega), if_neg (by omega), if_neg (by omega), if_neg (by omega), if_neg (by omega)]), a2.cg (by rw [q2, if_neg (by omega), if_neg (by omega), if_neg (by omega), if_neg (by omega), if_neg (by omega), if_neg (by omega)]), ?_, a4.cg (by rw [q2, if_neg (by omega), if_neg (by omega), if_neg (by omega), if_neg (by omega), if_neg (by omega), if_neg (by omega)]) (fun t ht hr => ⟨by rw [q2, if_neg (by omega), if_neg (by omega), if_neg (by omega), if_neg (by omega), if_neg (by omega), if_neg (by omega)], by rw [q2, if_neg (by omega), if_neg (by omega), if_neg (by omega), if_neg (by omega), if_neg (by omega), if_neg (by omega)]⟩)⟩
              by_cases e : c = x0.toNatClampNeg
              · subst e
                have g4 : u2 1 (36 + 7 * x0.toNatClampNeg) = v2 1 (36 + 7 * x0.toNatClampNeg) + 1 := by rw [q2, if_neg (by omega), if_neg (by omega), if_pos (by omega)]
                have g2 : u2 1 (34 + 7 * x0.toNatClampNeg) = v2 1 (34 + 7 * x0.toNatClampNeg) := by rw [q2, if_neg (by omega), if_neg (by omega), if_neg (by omega), if_neg (by omega), if_neg (by omega), if_neg (by omega)]
                have g3 : u2 1 (35 + 7 * x0.toNatClampNeg) = v2 1 (35 + 7 * x0.toNatClampNeg) := by rw [q2, if_neg (by omega), if_neg (by omega), if_neg (by omega), if_neg (by omega), if_neg (by omega), if_neg (by omega)]
                unfold OR_
                rw [g2, g3, g4, hx]
                refine ⟨fun _ => by omega, fun j hj hr => ?_⟩
                by_cases f : j = (v2 1 (36 + 7 * x0.toNatClampNeg)).toNatClampNeg
                · have g6 : u2 1 (86 + 10 * x0.toNatClampNeg + 2 * j) = v2 1 (74 + 2 * x0.toNatClampNeg) := by rw [q2, if_neg (by omega), if_neg (by omega), if_neg (by omega), if_neg (by omega), if_pos (by omega)]
                  have g7 : u2 1 (87 + 10 * x0.toNatClampNeg + 2 * j) = x1 := by rw [q2, if_neg (by omega), if_neg (by omega), if_neg (by omega), if_pos (by omega)]
                  rw [g6, g7]
                  unfold od
                  rw [hx]
                  exact ⟨by omega, by omega, fun w => absurd w.1 (by omega), fun _ => by omega⟩
                · rw [q2 (86 + 10 * x0.toNatClampNeg + 2 * j), if_neg (by omega), if_neg (by omega), if_neg (by omega), if_neg (by omega), if_neg (by omega), if_neg (by omega), q2 (87 + 10 * x0.toNatClampNeg + 2 * j), if_neg (by omega), if_neg (by omega), if_neg (by omega), if_neg (by omega), if_neg (by omega), if_neg (by omega)]
                  obtain ⟨d1, d2, d3, d4⟩ := a3.2 j hj (by omega)
                  unfold od
                  rw [hx]
                  exact ⟨d1, d2, fun w => absurd w (by omega), fun _ => d4 (fun w => absurd w.1 (by omega))⟩
              · exact a3.cg (fun w f1 f2 => by rw [q2, if_neg (by omega), if_neg (by omega), if_neg (by omega), if_neg (by omega), if_neg (by omega), if_neg (by omega)]) (fun w f1 => by rw [q2, if_neg (by omega), if_neg (by omega), if_neg (by omega), if_neg (by omega), if_neg (by omega), if_neg (by omega)])
            · obtain ⟨-, q2, q3⟩ := q.2.2.2.2.2.2 ⟨hC, hD, by omega, hE, by omega, by omega⟩
              refine h0.wr hT ?_ (q3 2 (by decide))
              intro c hc ha
              have E2 : u2 1 2 = v2 1 2 := by rw [q2, if_neg (by omega), if_neg (by omega), if_neg (by omega), if_neg (by omega), if_neg (by omega), if_neg (by omega), if_neg (by omega), if_neg (by omega)]
              rw [E2] at ha
              obtain ⟨a1, a2, a3, a4⟩ := hO c hc ha
              refine ⟨a1.cg (by rw [q2, if_neg (by omega), if_neg (by omega), if_neg (by omega), if_neg (by omega), if_neg (by omega), if_neg (by omega), if_neg (by omega), if_neg (by omega)]; exact Int.le_refl _) (fun w f1 f2 => by rw [q2, if_neg (by omega), if_neg (by omega), if_neg (by omega), if_neg (by omega), if_neg (by omega), if_neg (by omega), if_neg (by omega), if_neg (by omega)]), a2.cg (by rw [q2, if_neg (by omega), if_neg (by omega), if_neg (by omega), if_neg (by omega), if_neg (by omega), if_neg (by omega), if_neg (by omega), if_neg (by omega)]), ?_, a4.cg (by rw [q2, if_neg (by omega), if_neg (by omega), if_neg (by omega), if_neg (by omega), if_neg (by omega), if_neg (by omega), if_neg (by omega), if_neg (by omega)]) (fun t ht hr => ⟨by rw [q2, if_neg (by omega), if_neg (by omega), if_neg (by omega), if_neg (by omega), if_neg (by omega), if_neg (by omega), if_neg (by omega), if_neg (by omega)], by rw [q2, if_neg (by omega), if_neg (by omega), if_neg (by omega), if_neg (by omega), if_neg (by omega), if_neg (by omega), if_neg (by omega), if_neg (by omega)]⟩)⟩
              by_cases e : c = x0.toNatClampNeg
              · subst e
                have g4 : u2 1 (36 + 7 * x0.toNatClampNeg) = v2 1 (36 + 7 * x0.toNatClampNeg) + 1 := by rw [q2, if_neg (by omega), if_neg (by omega), if_neg (by omega), if_neg (by omega), if_pos (by omega)]
                have g2 : u2 1 (34 + 7 * x0.toNatClampNeg) = 1 := by rw [q2, if_neg (by omega), if_pos (by omega)]
                have g3 : u2 1 (35 + 7 * x0.toNatClampNeg) = (v2 1 (74 + 2 * x0.toNatClampNeg) + x1) / 2 := by rw [q2, if_pos (by omega)]
                unfold OR_
                rw [g2, g3, g4, hx]
                refine ⟨fun _ => by omega, fun j hj hr => ?_⟩
                by_cases f : j = (v2 1 (36 + 7 * x0.toNatClampNeg)).toNatClampNeg
                · have g6 : u2 1 (86 + 10 * x0.toNatClampNeg + 2 * j) = v2 1 (74 + 2 * x0.toNatClampNeg) := by rw [q2, if_neg (by omega), if_neg (by omega), if_neg (by omega), if_neg (by omega), if_neg (by omega), if_neg (by omega), if_pos (by omega)]
                  have g7 : u2 1 (87 + 10 * x0.toNatClampNeg + 2 * j) = x1 := by rw [q2, if_neg (by omega), if_neg (by omega), if_neg (by omega), if_neg (by omega), if_neg (by omega), if_pos (by omega)]
                  rw [g6, g7]
                  unfold od
                  rw [hx]
                  exact ⟨by omega, by omega, fun _ => ⟨by omega, rfl⟩, fun w => absurd ⟨k1, by omega⟩ w⟩
                · rw [q2 (86 + 10 * x0.toNatClampNeg + 2 * j), if_neg (by omega), if_neg (by omega), if_neg (by omega), if_neg (by omega), if_neg (by omega), if_neg (by omega), if_neg (by omega), if_neg (by omega), q2 (87 + 10 * x0.toNatClampNeg + 2 * j), if_neg (by omega), if_neg (by omega), if_neg (by omega), if_neg (by omega), if_neg (by omega), if_neg (by omega), if_neg (by omega), if_neg (by omega)]
                  obtain ⟨d1, d2, d3, d4⟩ := a3.2 j hj (by omega)
                  unfold od
                  rw [hx]
                  exact ⟨d1, d2, fun w => absurd w (by omega), fun _ => d4 (fun w => absurd w.1 (by omega))⟩
              · exact a3.cg (fun w f1 f2 => by rw [q2, if_neg (by omega), if_neg (by omega), if_neg (by omega), if_neg (by omega), if_neg (by omega), if_neg (by omega), if_neg (by omega), if_neg (by omega)]) (fun w f1 => by rw [q2, if_neg (by omega), if_neg (by omega), if_neg (by omega), if_neg (by omega), if_neg (by omega), if_neg (by omega), if_neg (by omega), if_neg (by omega)])
    · obtain ⟨-, q2⟩ := q.2.1 ⟨hC, hD⟩
      exact h0.wr hT (by rw [q2]; exact hO) (by rw [q2])
  · obtain ⟨-, q2⟩ := q.1 hC
    exact h0.wr hT (by rw [q2]; exact hO) (by rw [q2])

section RKB3
variable {n r r2 x0 : Int32} {v u v2 u2 : Nat → Nat → Int32}
theorem S_rooms (h : RR3 n v v2) (p : (¬ (1 ≤ x0.toInt ∧ x0.toInt ≤ 2) → r = -1 ∧ u = v) ∧ (1 ≤ x0.toInt ∧ x0.toInt ≤ 2 → r = v 0 4 ∧ (∀ k j : Nat, u k j = if k = 0 ∧ j = 4 then x0 else v k j))) (q : ((¬ (1 ≤ x0.toInt ∧ x0.toInt ≤ 2) ∧ r2 = -1 ∧ u2 = v2) ∨ ((1 ≤ x0.toInt ∧ x0.toInt ≤ 2) ∧ r2 = v2 0 3 ∧ u2 0 3 = x0 ∧ u2 1 = v2 1 ∧ u2 2 = v2 2 ∧ u2 0 2 = v2 0 2))) : r = r2 ∧ RR3 n u u2 := by
  have hT := T_rooms h.1 p q
  refine ⟨hT.1, hT.2, ?_, ?_⟩
  · rcases q with ⟨-, q2, q3⟩ | ⟨q1, q2, q3, q4, q5, q6⟩
    · first | (rw [q2]; exact h.2.1) | (rw [q3]; exact h.2.1)
    · rw [q4]
      exact h.2.1
  · intro w
    rcases q with ⟨-, q2, q3⟩ | ⟨q1, q2, q3, q4, q5, q6⟩
    · first | (rw [q2]; exact h.2.2 w) | (rw [q3]; exact h.2.2 w)
    · rw [q5]
      exact h.2.2 w
theorem S_keep (hQ : Ir v2) (h : RR3 n v v2) (p1 : ∀ o j : Nat, lvH v 13 o j → u (119 + o) j = v (13 + o) j) (p2 : ∀ k : Nat, k < 119 → u k = v k) (q2 : ∀ j : Nat, j < 596 → u2 2 j = v2 1 j) (q3 : u2 1 = v2 1) (q4 : u2 0 2 = 1) (q5 : u2 0 3 = v2 0 3) : RR3 1 u u2 :=
  ⟨T_keep hQ h.1 p1 p2 q2 q3 q4 q5, by rw [q3]; exact h.2.1, fun _ => h.2.1.copy q2⟩
theorem S_back0 (h : RR3 0 v v2) (p : u = v ∧ r = -5) (q : (((v2 0 2).toInt = 0 ∧ u2 = v2 ∧ r2 = -5) ∨ ((v2 0 2).toInt = 1 ∧ (∀ j : Nat, j < 596 → u2 1 j = v2 2 j) ∧ u2 2 = v2 2 ∧ u2 0 = v2 0 ∧ r2 = 1))) : r = -5 ∧ r2 = -5 ∧ RR3 0 u u2 := by
  obtain ⟨t1, t2, t3⟩ := T_back0 h.1 p q
  refine ⟨t1, t2, t3, ?_, fun w => absurd w (by decide)⟩
  rcases q with ⟨q1, q2, q3⟩ | ⟨q1, -⟩
  · rw [q2]
    exact h.2.1
  · rw [h.1.2.2.1] at q1
    exact absurd q1 (by decide)
theorem S_back1 (hQ : Ir v2) (h : RR3 1 v v2) (p : ((∀ o j : Nat, lvH v 119 o j → u (13 + o) j = v (119 + o) j) ∧ (∀ k : Nat, (k < 13 ∨ 119 ≤ k) → u k = v k)) ∧ r = 1) (q : (((v2 0 2).toInt = 0 ∧ u2 = v2 ∧ r2 = -5) ∨ ((v2 0 2).toInt = 1 ∧ (∀ j : Nat, j < 596 → u2 1 j = v2 2 j) ∧ u2 2 = v2 2 ∧ u2 0 = v2 0 ∧ r2 = 1))) : r = 1 ∧ r2 = 1 ∧ RR3 1 u u2 := by
  obtain ⟨t1, t2, t3⟩ := T_back1 hQ h.1 p q
  refine ⟨t1, t2, t3, ?_, fun _ => ?_⟩
  · rcases q with ⟨q1, -⟩ | ⟨q1, q2, q3, q4, q5⟩
    · rw [h.1.2.2.1] at q1
      exact absurd q1 (by decide)
    · exact (h.2.2 rfl).copy q2
  · rcases q with ⟨q1, -⟩ | ⟨q1, q2, q3, q4, q5⟩
    · rw [h.1.2.2.1] at q1
      exact absurd q1 (by decide)
    · rw [q3]
      exact h.2.2 rfl
end RKB3

/-- counts -/
def cN (f : Nat → Int) : Nat → Int
  | 0 => 0
  | n + 1 => cN f n + f n
theorem cN_cg {f g : Nat → Int} : ∀ {n : Nat}, (∀ i : Nat, i < n → f i = g i) → cN f n = cN g n
  | 0, _ => rfl
  | n + 1, h => by
    show cN f n + f n = cN g n + g n
    rw [cN_cg (f := f) (g := g) (n := n) (fun i hi => h i (by omega)), h n (by omega)]
theorem cN_le {f g : Nat → Int} : ∀ {n : Nat}, (∀ i : Nat, i < n → f i ≤ g i) → cN f n ≤ cN g n
  | 0, _ => Int.le_refl _
  | n + 1, h => by
    show cN f n + f n ≤ cN g n + g n
    have a := cN_le (f := f) (g := g) (n := n) (fun i hi => h i (by omega))
    have b := h n (by omega)
    omega
theorem cN_lt {f g : Nat → Int} {j : Nat} : ∀ {n : Nat}, (∀ i : Nat, i < n → f i ≤ g i) → j < n → f j < g j → cN f n < cN g n
  | 0, _, h, _ => absurd h (Nat.not_lt_zero _)
  | n + 1, h, hj, hl => by
    show cN f n + f n < cN g n + g n
    have b := h n (by omega)
    by_cases e : j = n
    · subst e
      have a := cN_le (f := f) (g := g) (n := j) (fun i hi => h i (by omega))
      omega
    · have a := cN_lt (f := f) (g := g) (n := n) (fun i hi => h i (by omega)) (by omega) hl
      omega
theorem cN_b {f : Nat → Int} : ∀ {n : Nat}, (∀ i : Nat, i < n → 0 ≤ f i ∧ f i ≤ 1) → 0 ≤ cN f n ∧ cN f n ≤ n
  | 0, _ => by
    show 0 ≤ (0 : Int) ∧ (0 : Int) ≤ ((0 : Nat) : Int)
    omega
  | n + 1, h => by
    show 0 ≤ cN f n + f n ∧ cN f n + f n ≤ ((n + 1 : Nat) : Int)
    have a := cN_b (f := f) (n := n) (fun i hi => h i (by omega))
    have b := h n (by omega)
    omega
theorem cN_full {f : Nat → Int} : ∀ {n : Nat}, (∀ i : Nat, i < n → 0 ≤ f i ∧ f i ≤ 1) → (n : Int) ≤ cN f n → ∀ i : Nat, i < n → f i = 1
  | 0, _, _, i, hi => absurd hi (Nat.not_lt_zero _)
  | n + 1, h, hn, i, hi => by
    have hn2 : ((n + 1 : Nat) : Int) ≤ cN f n + f n := hn
    have a := cN_b (f := f) (n := n) (fun i hi => h i (by omega))
    have b := h n (by omega)
    by_cases e : i = n
    · subst e
      omega
    · exact cN_full (f := f) (n := n) (fun i hi => h i (by omega)) (by omega) i (by omega)
theorem cN_ext {f : Nat → Int} {n : Nat} : ∀ {m : Nat}, n ≤ m → (∀ i : Nat, n ≤ i → i < m → f i = 0) → cN f m = cN f n
  | 0, h, _ => by rw [show n = 0 from by omega]
  | m + 1, h, h0 => by
    by_cases e : n = m + 1
    · rw [e]
    · show cN f m + f m = cN f n
      rw [cN_ext (f := f) (m := m) (by omega) (fun i a b => h0 i a (by omega)), h0 m (by omega) (by omega)]
      omega
/-- marks as a graph -/
def adj (s : Nat → Int32) (a b : Nat) : Prop := ∃ k : Nat, (k : Int) < (s 3).toInt ∧ mj s k a b
def conn (s : Nat → Int32) (a b : Nat) : Prop := ∀ P : Nat → Prop, P a → (∀ x y : Nat, adj s x y → P x → P y) → P b
/-- heads that stand for their cases, as far as n -/
def HI (s h : Nat → Int32) (n : Int) : Prop := ∀ c : Nat, (c : Int) < n → (0 ≤ (h c).toInt ∧ (h c).toInt ≤ (c : Int)) ∧ conn s c (h c).toNatClampNeg
def MG (s : Nat → Int32) : Prop := ∀ k : Nat, (k : Int) < (s 3).toInt → (0 ≤ (s (146 + 2 * k)).toInt ∧ (s (146 + 2 * k)).toInt < (s 2).toInt) ∧ 0 ≤ (s (147 + 2 * k)).toInt ∧ (s (147 + 2 * k)).toInt < (s 2).toInt
def ME_ (s h : Nat → Int32) (k : Nat) : Prop := h (s (146 + 2 * k)).toNatClampNeg = h (s (147 + 2 * k)).toNatClampNeg
def HD (s h : Nat → Int32) : Prop := HI s h (s 2).toInt ∧ ∀ k : Nat, (k : Int) < (s 3).toInt → ME_ s h k
section GRA
variable {s f : Nat → Int32} {a b c d : Nat}
theorem adj_s (h : adj s a b) : adj s b a := by
  obtain ⟨k, h1, h2⟩ := h
  refine ⟨k, h1, ?_⟩
  unfold mj at h2 ⊢
  omega
theorem conn_r : conn s a a := fun P h _ => h
theorem conn_t (h1 : conn s a b) (h2 : conn s b c) : conn s a c := fun P h k => h2 P (h1 P h k) k
theorem conn_1 (h : adj s a b) : conn s a b := fun P h0 k => k a b h h0
theorem conn_s (h : conn s a b) : conn s b a := h (fun x => conn s x a) conn_r (fun x y hxy hx => conn_t (conn_1 (adj_s hxy)) hx)
theorem adj_b (hG : MG s) (h : adj s a b) : (a : Int) < (s 2).toInt ∧ (b : Int) < (s 2).toInt := by
  obtain ⟨k, h1, h2⟩ := h
  have g := hG k h1
  unfold mj at h2
  omega
theorem conn_b (hG : MG s) (ha : (a : Int) < (s 2).toInt) (h : conn s a b) : (b : Int) < (s 2).toInt := h (fun x => (x : Int) < (s 2).toInt) ha (fun x y hxy _ => (adj_b hG hxy).2)
theorem HI_0 {n : Int} (h : n ≤ 0) : HI s f n := fun c hc => absurd hc (by omega)
theorem HI_dn {n m : Int} (h : HI s f n) (hm : m ≤ n) : HI s f m := fun c hc => h c (by omega)
theorem HI_new {y z : Int32} (hy : 0 ≤ y.toInt) (hz : z.toInt = y.toInt + 1) (h : HI s f y.toInt) : HI s (upd f y.toNatClampNeg y) z.toInt := by
  intro c hc
  have q := t_nn hy
  by_cases e : c = y.toNatClampNeg
  · rw [e, pk_us]
    exact ⟨⟨hy, by omega⟩, conn_r⟩
  · rw [pk_un e]
    exact h c (by omega)
theorem HI_up {n : Int} {p q x : Int32} (hp : 0 ≤ p.toInt ∧ p.toInt < n) (hq : 0 ≤ q.toInt ∧ q.toInt < n) (h : HI s f n) (hab : adj s p.toNatClampNeg q.toNatClampNeg) (hx : x = f p.toNatClampNeg ∨ x = f q.toNatClampNeg) (h1 : x.toInt ≤ (f p.toNatClampNeg).toInt) (h2 : x.toInt ≤ (f q.toNatClampNeg).toInt) : HI s (upd (upd f p.toNatClampNeg x) q.toNatClampNeg x) n := by
  have zp := t_nn hp.1
  have zq := t_nn hq.1
  obtain ⟨A1, A2⟩ := h p.toNatClampNeg (by omega)
  obtain ⟨B1, B2⟩ := h q.toNatClampNeg (by omega)
  have hcx : conn s p.toNatClampNeg x.toNatClampNeg ∧ 0 ≤ x.toInt := by
    rcases hx with e | e
    · rw [e]
      exact ⟨A2, A1.1⟩
    · rw [e]
      exact ⟨conn_t (conn_1 hab) B2, B1.1⟩
  intro c hc
  by_cases e : c = q.toNatClampNeg
  · rw [e, pk_us]
    exact ⟨⟨hcx.2, by omega⟩, conn_t (conn_1 (adj_s hab)) hcx.1⟩
  · rw [pk_un e]
    by_cases e2 : c = p.toNatClampNeg
    · rw [e2, pk_us]
      exact ⟨⟨hcx.2, by omega⟩, hcx.1⟩
    · rw [pk_un e2]
      exact h c hc
theorem HD_eq (h : HD s f) (hc : conn s a b) : f a = f b := by
  refine hc (fun x => f a = f x) rfl (fun x y hxy hx => ?_)
  obtain ⟨k, h1, h2⟩ := hxy
  have q : f (s (146 + 2 * k)).toNatClampNeg = f (s (147 + 2 * k)).toNatClampNeg := h.2 k h1
  unfold mj at h2
  rcases h2 with ⟨e1, e2⟩ | ⟨e1, e2⟩
  · rw [nt e1, nt e2] at q
    exact hx.trans q
  · rw [nt e1, nt e2] at q
    exact hx.trans q.symm
theorem HD_iff (h : HD s f) (ha : (a : Int) < (s 2).toInt) (hb : (b : Int) < (s 2).toInt) : f a = f b ↔ conn s a b := by
  refine ⟨fun e => ?_, fun e => HD_eq h e⟩
  have h1 := (h.1 a ha).2
  have h2 := (h.1 b hb).2
  rw [e] at h1
  exact conn_t h1 (conn_s h2)
end GRA
/-- sets of cases, as bits -/
def bt (x : Int32) (d : Nat) : Prop := (btx x (Int32.ofNat d)).toInt = 1
def ok6 (x : Int32) : Prop := 0 ≤ x.toInt ∧ x.toInt < 64
theorem or_n : ∀ x y : Fin 64, Int32.ofNat x.val ||| Int32.ofNat y.val = Int32.ofNat (x.val ||| y.val) ∧ x.val ||| y.val < 64 := by decide +kernel
theorem bt_n : ∀ x : Fin 64, ∀ d : Fin 6, (btx (Int32.ofNat x.val) (Int32.ofNat d.val)).toInt = 1 ↔ x.val.testBit d.val = true := by decide +kernel
theorem bt_nn {x : Int32} (h : ok6 x) {d : Nat} (hd : d < 6) : bt x d ↔ x.toNatClampNeg.testBit d = true := by
  have z := t_nn h.1
  have e := ofn h.1
  have k : (btx (Int32.ofNat x.toNatClampNeg) (Int32.ofNat d)).toInt = 1 ↔ x.toNatClampNeg.testBit d = true := bt_n ⟨x.toNatClampNeg, by have := h.2; omega⟩ ⟨d, hd⟩
  rw [← e] at k
  exact k
theorem or_bt {x y : Int32} (hx : ok6 x) (hy : ok6 y) : ok6 (x ||| y) ∧ ∀ d : Nat, d < 6 → (bt (x ||| y) d ↔ (bt x d ∨ bt y d)) := by
  have zx := t_nn hx.1
  have zy := t_nn hy.1
  have lx := hx.2
  have ly := hy.2
  have k : Int32.ofNat x.toNatClampNeg ||| Int32.ofNat y.toNatClampNeg = Int32.ofNat (x.toNatClampNeg ||| y.toNatClampNeg) ∧ x.toNatClampNeg ||| y.toNatClampNeg < 64 := or_n ⟨x.toNatClampNeg, by omega⟩ ⟨y.toNatClampNeg, by omega⟩
  rw [← ofn hx.1, ← ofn hy.1] at k
  have kz : (x ||| y).toInt = ((x.toNatClampNeg ||| y.toNatClampNeg : Nat) : Int) := by
    rw [k.1]
    exact Int32.toInt_ofNat_of_lt (by omega)
  have ko : ok6 (x ||| y) := ⟨by omega, by omega⟩
  refine ⟨ko, fun d hd => ?_⟩
  rw [bt_nn ko hd, bt_nn hx hd, bt_nn hy hd, nt kz, Nat.testBit_or, Bool.or_eq_true]
def qI (M : Nat → Int32) : Nat → Int32 → Int32
  | 0, b => b
  | n + 1, b => if (btx (qI M n b) (Int32.ofNat n)).toInt = 1 then qI M n b ||| M n else qI M n b
def qO (M : Nat → Int32) (n : Nat) : Nat → Int32 → Int32
  | 0, b => b
  | k + 1, b => qI M n (qO M n k b)
theorem qI_p {M : Nat → Int32} {n : Nat} {b : Int32} (h : (btx (qI M n b) (Int32.ofNat n)).toInt = 1) : qI M (n + 1) b = qI M n b ||| M n := if_pos h
theorem qI_n {M : Nat → Int32} {n : Nat} {b : Int32} (h : ¬ (btx (qI M n b) (Int32.ofNat n)).toInt = 1) : qI M (n + 1) b = qI M n b := if_neg h
section QIS
variable {M : Nat → Int32} {b : Int32}
theorem qI_ok (hb : ok6 b) : ∀ {n : Nat}, (∀ c : Nat, c < n → ok6 (M c)) → ok6 (qI M n b)
  | 0, _ => hb
  | n + 1, hM => by
    have h := qI_ok hb (n := n) (fun c hc => hM c (by omega))
    by_cases e : (btx (qI M n b) (Int32.ofNat n)).toInt = 1
    · rw [qI_p e]
      exact (or_bt h (hM n (by omega))).1
    · rw [qI_n e]
      exact h
theorem qI_1 (hb : ok6 b) {n d : Nat} (hM : ∀ c : Nat, c < n + 1 → ok6 (M c)) (hd : d < 6) (h : bt (qI M n b) d) : bt (qI M (n + 1) b) d := by
  by_cases e : (btx (qI M n b) (Int32.ofNat n)).toInt = 1
  · rw [qI_p e]
    exact ((or_bt (qI_ok hb (fun c hc => hM c (by omega))) (hM n (by omega))).2 d hd).mpr (Or.inl h)
  · rw [qI_n e]
    exact h
theorem qI_up (hb : ok6 b) {d : Nat} (hd : d < 6) (h : bt b d) : ∀ {n : Nat}, (∀ c : Nat, c < n → ok6 (M c)) → bt (qI M n b) d
  | 0, _ => h
  | n + 1, hM => qI_1 hb hM hd (qI_up hb hd h (n := n) (fun c hc => hM c (by omega)))
theorem qI_c (hb : ok6 b) {i d : Nat} (hd : d < 6) (h : bt b i) (hm : bt (M i) d) : ∀ {n : Nat}, n ≤ 6 → (∀ c : Nat, c < n → ok6 (M c)) → i < n → bt (qI M n b) d
  | 0, _, _, hi => absurd hi (Nat.not_lt_zero _)
  | n + 1, hn, hM, hi => by
    by_cases e : i = n
    · have q : (btx (qI M n b) (Int32.ofNat n)).toInt = 1 := by
        rw [e] at h
        exact qI_up hb (by omega) h (fun c hc => hM c (by omega))
      rw [qI_p q]
      rw [e] at hm
      exact ((or_bt (qI_ok hb (fun c hc => hM c (by omega))) (hM n (by omega))).2 d hd).mpr (Or.inr hm)
    · exact qI_1 hb hM hd (qI_c hb hd h hm (n := n) (by omega) (fun c hc => hM c (by omega)) (by omega))
theorem qI_d (hb : ok6 b) {C : Nat → Prop} (hC : ∀ d : Nat, d < 6 → bt b d → C d) : ∀ {n : Nat}, n ≤ 6 → (∀ c : Nat, c < n → ok6 (M c)) → (∀ c d : Nat, c < n → d < 6 → bt (M c) d → C c → C d) → ∀ d : Nat, d < 6 → bt (qI M n b) d → C d
  | 0, _, _, _ => hC
  | n + 1, hn, hM, hS => fun d hd h => by
    have ih := qI_d hb hC (n := n) (by omega) (fun c hc => hM c (by omega)) (fun c d hc => hS c d (by omega))
    by_cases e : (btx (qI M n b) (Int32.ofNat n)).toInt = 1
    · rw [qI_p e] at h
      rcases ((or_bt (qI_ok hb (fun c hc => hM c (by omega))) (hM n (by omega))).2 d hd).mp h with q | q
      · exact ih d hd q
      · exact hS n d (by omega) hd q (ih n (by omega) e)
    · rw [qI_n e] at h
      exact ih d hd h
end QIS
def bi (x : Int32) (d : Nat) : Int := if (btx x (Int32.ofNat d)).toInt = 1 then 1 else 0
theorem bi_1 {x : Int32} {d : Nat} (h : bt x d) : bi x d = 1 := if_pos h
theorem bi_0 {x : Int32} {d : Nat} (h : ¬ bt x d) : bi x d = 0 := if_neg h
theorem bi_b (x : Int32) (d : Nat) : 0 ≤ bi x d ∧ bi x d ≤ 1 := by
  by_cases h : bt x d
  · rw [bi_1 h]
    decide
  · rw [bi_0 h]
    decide
def clo (M : Nat → Int32) (n : Nat) (b : Int32) : Prop := ∀ i d : Nat, i < n → d < 6 → bt b i → bt (M i) d → bt b d
theorem qO_ok {M : Nat → Int32} {n : Nat} {b : Int32} (hM : ∀ c : Nat, c < n → ok6 (M c)) (hb : ok6 b) : ∀ k : Nat, ok6 (qO M n k b)
  | 0 => hb
  | k + 1 => qI_ok (qO_ok hM hb k) hM
theorem qO_clo {M : Nat → Int32} {n : Nat} {b : Int32} (hn : n ≤ 6) (hM : ∀ c : Nat, c < n → ok6 (M c)) (hS : ∀ c d : Nat, c < n → d < 6 → bt (M c) d → d < n) (hb : ok6 b) {o : Nat} (ho : o < n) (h1 : bt b o) : ∀ k : Nat, clo M n (qO M n k b) ∨ (k : Int) + 1 ≤ cN (bi (qO M n k b)) n
  | 0 => by
    refine Or.inr ?_
    have q : cN (fun _ => 0) n < cN (bi b) n := cN_lt (j := o) (fun i _ => (bi_b b i).1) ho (by show (0 : Int) < bi b o; rw [bi_1 h1]; decide)
    have z : ∀ m : Nat, cN (fun _ => 0) m = 0 := fun m => by
      induction m with
      | zero => rfl
      | succ m ih =>
        show cN (fun _ => 0) m + 0 = 0
        omega
    rw [z] at q
    show ((0 : Nat) : Int) + 1 ≤ cN (bi b) n
    omega
  | k + 1 => by
    have ok := qO_ok hM hb k
    have up : ∀ d : Nat, d < 6 → bt (qO M n k b) d → bt (qO M n (k + 1) b) d := fun d hd h => qI_up ok hd h hM
    by_cases hc : clo M n (qO M n k b)
    · refine Or.inl (fun i d hi hd h1 h2 => ?_)
      have back : ∀ d : Nat, d < 6 → bt (qO M n (k + 1) b) d → bt (qO M n k b) d := qI_d ok (C := fun d => bt (qO M n k b) d) (fun d _ h => h) hn hM (fun c d hc1 hd h1 h2 => hc c d hc1 hd h2 h1)
      exact up d hd (hc i d hi hd (back i (by omega) h1) h2)
    · rcases qO_clo hn hM hS hb ho h1 k with q | q
      · exact absurd q hc
      · refine Or.inr ?_
        have ⟨i, d, hi, hd, g1, g2, g3⟩ : ∃ i d : Nat, i < n ∧ d < 6 ∧ bt (qO M n k b) i ∧ bt (M i) d ∧ ¬ bt (qO M n k b) d := by
          refine Classical.byContradiction (fun hx => hc (fun i d hi hd g1 g2 => Classical.byContradiction (fun g3 => hx ⟨i, d, hi, hd, g1, g2, g3⟩)))
        have lt : cN (bi (qO M n k b)) n < cN (bi (qO M n (k + 1) b)) n := by
          refine cN_lt (j := d) (fun i hi => ?_) (hS i d hi hd g2) ?_
          · by_cases e : bt (qO M n k b) i
            · rw [bi_1 e, bi_1 (up i (by omega) e)]
              exact Int.le_refl _
            · rw [bi_0 e]
              exact (bi_b _ _).1
          · rw [bi_0 g3, show bi (qO M n (k + 1) b) d = 1 from bi_1 (qI_c ok hd g1 g2 hn hM hi)]
            decide
        omega
theorem qO_d {M : Nat → Int32} {n : Nat} {b : Int32} (hn : n ≤ 6) (hM : ∀ c : Nat, c < n → ok6 (M c)) (hb : ok6 b) {C : Nat → Prop} (hC : ∀ d : Nat, d < 6 → bt b d → C d) (hS : ∀ c d : Nat, c < n → d < 6 → bt (M c) d → C c → C d) : ∀ k : Nat, ∀ d : Nat, d < 6 → bt (qO M n k b) d → C d
  | 0 => hC
  | k + 1 => qI_d (qO_ok hM hb k) (qO_d hn hM hb hC hS k) hn hM hS
theorem qO_up {M : Nat → Int32} {n : Nat} {b : Int32} (hM : ∀ c : Nat, c < n → ok6 (M c)) (hb : ok6 b) {d : Nat} (hd : d < 6) (h : bt b d) : ∀ k : Nat, bt (qO M n k b) d
  | 0 => h
  | k + 1 => qI_up (qO_ok hM hb k) hd (qO_up hM hb hd h k) hM
theorem qO_full {M : Nat → Int32} {n : Nat} {b : Int32} (hn : n ≤ 6) (hM : ∀ c : Nat, c < n → ok6 (M c)) (hS : ∀ c d : Nat, c < n → d < 6 → bt (M c) d → d < n) (hb : ok6 b) {o : Nat} (ho : o < n) (h1 : bt b o) : clo M n (qO M n (n - 1) b) := by
  rcases qO_clo hn hM hS hb ho h1 (n - 1) with q | q
  · exact q
  · intro i d hi hd g1 g2
    have f := cN_full (f := bi (qO M n (n - 1) b)) (fun i _ => bi_b (qO M n (n - 1) b) i) (by omega) d (hS i d hi hd g2)
    refine Classical.byContradiction (fun g3 => ?_)
    rw [bi_0 g3] at f
    exact absurd f (by decide)
theorem sh_1 : ∀ o : Fin 6, (0 ≤ ((1 : Int32) <<< (Int32.ofNat o.val &&& 31)).toInt ∧ ((1 : Int32) <<< (Int32.ofNat o.val &&& 31)).toInt < 64) ∧ ∀ d : Fin 6, ((btx ((1 : Int32) <<< (Int32.ofNat o.val &&& 31)) (Int32.ofNat d.val)).toInt = 1 ↔ d.val = o.val) := by decide +kernel
/-- the quarrel of a case -/
def qB (M : Nat → Int32) (n : Nat) (x : Int32) : Int32 := qO M n (n - 1) (1 <<< (x &&& 31))
theorem qB_conn {s M : Nat → Int32} (hG : MG s) (h2 : (s 2).toInt ≤ 6) {n : Nat} (hn : (n : Int) = (s 2).toInt) (hM : ∀ c : Nat, c < n → ok6 (M c) ∧ ∀ d : Nat, d < 6 → (bt (M c) d ↔ adj s c d)) {x : Int32} {o : Nat} (hx : x.toInt = (o : Int)) (ho : o < n) : ok6 (qB M n x) ∧ ∀ d : Nat, d < 6 → (bt (qB M n x) d ↔ conn s o d) := by
  have ex : x = Int32.ofNat o := by
    have e := ofn (x := x) (by omega)
    rw [nt hx] at e
    exact e
  have hb := sh_1 ⟨o, by omega⟩
  have hb1 : ok6 (1 <<< (x &&& 31)) := by
    rw [ex]
    exact hb.1
  have hb2 : ∀ d : Nat, d < 6 → (bt (1 <<< (x &&& 31)) d ↔ d = o) := fun d hd => by
    rw [ex]
    exact hb.2 ⟨d, hd⟩
  have hMo : ∀ c : Nat, c < n → ok6 (M c) := fun c hc => (hM c hc).1
  have hS : ∀ c d : Nat, c < n → d < 6 → bt (M c) d → d < n := fun c d hc hd h => by
    have q := (adj_b hG (((hM c hc).2 d hd).mp h)).2
    omega
  have hup : bt (qB M n x) o := qO_up hMo hb1 (by omega) ((hb2 o (by omega)).mpr rfl) (n - 1)
  have hcl := qO_full (by omega) hMo hS hb1 ho ((hb2 o (by omega)).mpr rfl)
  refine ⟨qO_ok hMo hb1 (n - 1), fun d hd => ⟨fun h => ?_, fun h => ?_⟩⟩
  · refine qO_d (by omega) hMo hb1 (C := fun d => conn s o d) (fun d hd h => ?_) (fun c d hc hd h1 h2 => conn_t h2 (conn_1 (((hM c hc).2 d hd).mp h1))) (n - 1) d hd h
    rw [(hb2 d hd).mp h]
    exact conn_r
  · have q : d < n ∧ bt (qB M n x) d := h (fun d => d < n ∧ bt (qB M n x) d) ⟨ho, hup⟩ (fun y z hyz hy => by
      have w := adj_b hG hyz
      exact ⟨by omega, hcl y z hy.1 (by omega) hy.2 (((hM y hy.1).2 z (by omega)).mpr hyz)⟩)
    exact q.2
/-- the first of n that is there, or n -/
def hF (b : Int32) : Nat → Nat
  | 0 => 0
  | n + 1 => if hF b n < n then hF b n else if (btx b (Int32.ofNat n)).toInt = 1 then n else n + 1
theorem hF_s (b : Int32) (n : Nat) : hF b (n + 1) = if hF b n < n then hF b n else if (btx b (Int32.ofNat n)).toInt = 1 then n else n + 1 := rfl
theorem hF_le (b : Int32) : ∀ n : Nat, hF b n ≤ n
  | 0 => Nat.le_refl _
  | n + 1 => by
    rw [hF_s]
    have h := hF_le b n
    split
    · omega
    · split <;> omega
theorem hF_no {b : Int32} {n : Nat} (h : hF b n = n) (hb : ¬ bt b n) : hF b (n + 1) = n + 1 := by
  rw [hF_s, if_neg (by omega), if_neg (show ¬ (btx b (Int32.ofNat n)).toInt = 1 from hb)]
theorem hF_hit {b : Int32} {y : Nat} (h : hF b y = y) (hb : bt b y) : ∀ n : Nat, y < n → hF b n = y
  | 0, hn => absurd hn (Nat.not_lt_zero _)
  | n + 1, hn => by
    rw [hF_s]
    by_cases e : y = n
    · subst e
      rw [if_neg (by omega), if_pos (show (btx b (Int32.ofNat y)).toInt = 1 from hb)]
    · rw [hF_hit h hb n (by omega), if_pos (by omega)]
theorem hF_sp (b : Int32) : ∀ n : Nat, (hF b n < n → bt b (hF b n)) ∧ ∀ i : Nat, i < hF b n → ¬ bt b i
  | 0 => ⟨fun h => absurd h (Nat.not_lt_zero _), fun i h => absurd h (Nat.not_lt_zero _)⟩
  | n + 1 => by
    obtain ⟨h1, h2⟩ := hF_sp b n
    have hl := hF_le b n
    rw [hF_s]
    by_cases e : hF b n < n
    · rw [if_pos e]
      exact ⟨fun _ => h1 e, h2⟩
    · rw [if_neg e]
      have en : hF b n = n := by omega
      rw [en] at h2
      by_cases g : (btx b (Int32.ofNat n)).toInt = 1
      · rw [if_pos g]
        exact ⟨fun _ => g, h2⟩
      · rw [if_neg g]
        refine ⟨fun q => absurd q (by omega), fun i hi => ?_⟩
        by_cases e2 : i = n
        · rw [e2]
          exact g
        · exact h2 i (by omega)
/-- the heads of both sides -/
theorem head_eq {s f M : Nat → Int32} (hG : MG s) (h2 : (s 2).toInt ≤ 6) (hD : HD s f) {n : Nat} (hn : (n : Int) = (s 2).toInt) (hM : ∀ c : Nat, c < n → ok6 (M c) ∧ ∀ d : Nat, d < 6 → (bt (M c) d ↔ adj s c d)) {x : Int32} {o : Nat} (hx : x.toInt = (o : Int)) (ho : o < n) : ((hF (qB M n x) o : Nat) : Int) = (f o).toInt := by
  obtain ⟨-, hq⟩ := qB_conn hG h2 hn hM hx ho
  obtain ⟨⟨b1, b2⟩, b3⟩ := hD.1 o (by omega)
  have z := t_nn b1
  have hl := hF_le (qB M n x) o
  obtain ⟨s1, s2⟩ := hF_sp (qB M n x) o
  have hg : bt (qB M n x) (f o).toNatClampNeg := (hq _ (by omega)).mpr b3
  have l1 : hF (qB M n x) o ≤ (f o).toNatClampNeg := Nat.le_of_not_lt (fun q => s2 _ q hg)
  have hc : conn s o (hF (qB M n x) o) := by
    by_cases e : hF (qB M n x) o < o
    · exact (hq _ (by omega)).mp (s1 e)
    · rw [show hF (qB M n x) o = o from by omega]
      exact conn_r
  have l2 := (hD.1 (hF (qB M n x) o) (by omega)).1.2
  rw [← HD_eq hD hc] at l2
  omega
theorem many_eq {s f M : Nat → Int32} (hG : MG s) (h2 : (s 2).toInt ≤ 6) (hD : HD s f) {n : Nat} (hn : (n : Int) = (s 2).toInt) (hM : ∀ c : Nat, c < n → ok6 (M c) ∧ ∀ d : Nat, d < 6 → (bt (M c) d ↔ adj s c d)) {x : Int32} {o : Nat} (hx : x.toInt = (o : Int)) (ho : o < n) : cN (bi (qB M n x)) 6 = cN (fun c => if (f c).toInt = (f o).toInt then 1 else 0) n := by
  obtain ⟨-, hq⟩ := qB_conn hG h2 hn hM hx ho
  rw [cN_ext (n := n) (by omega) (fun i h1 h3 => bi_0 (fun h => by have q := conn_b hG (by omega) ((hq i h3).mp h); omega))]
  refine cN_cg (fun i hi => ?_)
  by_cases e : conn s o i
  · rw [bi_1 ((hq i (by omega)).mpr e)]
    show 1 = if (f i).toInt = (f o).toInt then (1 : Int) else 0
    rw [if_pos (by rw [HD_eq hD e])]
  · rw [bi_0 (fun h => e ((hq i (by omega)).mp h))]
    show 0 = if (f i).toInt = (f o).toInt then (1 : Int) else 0
    rw [if_neg (fun h => e ((HD_iff hD (by omega) (by omega)).mp (Int32.toInt_inj.mp h).symm))]

def us (x y : Int32) : Int32 := (x.toUInt32 >>> (y.toUInt32 &&& Int32.toUInt32 31)).toInt32
def bc1 (x : Int32) : Int32 := x - (us x 1 &&& 1431655765)
def bc2 (x : Int32) : Int32 := (x &&& 858993459) + (us x 2 &&& 858993459)
def bc3 (x : Int32) : Int32 := (x + us x 4) &&& 252645135
def bc4 (x : Int32) : Int32 := x + us x 8
def bc5 (x : Int32) : Int32 := x + us x 16
def bcF (x : Int32) : Int32 := bc5 (bc4 (bc3 (bc2 (bc1 x)))) &&& 63
theorem bc_6 : ∀ x : Fin 64, (bcF (Int32.ofNat x.val)).toInt = 0 + bi (Int32.ofNat x.val) 0 + bi (Int32.ofNat x.val) 1 + bi (Int32.ofNat x.val) 2 + bi (Int32.ofNat x.val) 3 + bi (Int32.ofNat x.val) 4 + bi (Int32.ofNat x.val) 5 := by decide +kernel
theorem bc_n {x : Int32} (h : ok6 x) : (bcF x).toInt = cN (bi x) 6 := by
  have z := t_nn h.1
  have l := h.2
  have k := bc_6 ⟨x.toNatClampNeg, by omega⟩
  have e := ofn h.1
  have k2 : (bcF (Int32.ofNat x.toNatClampNeg)).toInt = cN (bi (Int32.ofNat x.toNatClampNeg)) 6 := k
  rw [← e] at k2
  exact k2

set_option maxHeartbeats 4000000 in
set_option maxRecDepth 100000 in
theorem e_bitCount (l : Launch) (x0 : Int32) : Met l yJ6_bitCount_0f7a4 wsJ6_bitCount_0f7a4 ({ frames := 0, cells := 0, slots := 0, locals := 0 }) (va_Pc [.int x0] (fun _ => True)) (va_Qi (fun (r : Int32) (_ : Unit) => r = bcF x0) (fun _ _ => True) (fun _ => False)) 0 0 (fun _ => False) := by
  refine Met.ofW (cc := cJ6_bitCount_0f7a4) (maxL := 1) (ret := (some .int)) (by decide) rfl ?_
  intro p e s m args below meth c s₁ B hml hv
  obtain ⟨rfl, -⟩ := hv
  have hx := B.exec
  have hb := B.bytes
  have hr := B.returns
  have hts := atoms_spec (ws := wsJ6_bitCount_0f7a4) B.pre
  have hown : s.vm.findClass RJ6 = some m.cls := findClass_of_methodNamed B.named
  have hlocks := B.notSynchronized
  have hl := lv_entry ([.int x0]) (n := 1) (Nat.le_of_ble_eq_true rfl)
  rw [lg_entry_eq]
  generalize (lg_sl ([.int x0]) ++ List.replicate (1 - (lg_sl ([.int x0])).length) Slot.unset).toArray = ls at hl ⊢
  have hl : lv_has ls 1 [(0, .int x0)] := hl
  have hS : va_S (fun _ => False) s.heap s.heap [] := va_S.rf
  refine lv_iload_n hx hb dJ6_bitCount_0f7a4_0 rfl (lv_at hl 0 rfl) ?_
  refine lv_iload_n hx hb dJ6_bitCount_0f7a4_1 rfl (lv_at hl 0 rfl) ?_
  refine lv_iconst (v := 1) hx hb dJ6_bitCount_0f7a4_2 (by decide) ?_
  refine lv_iushr (v := _) hx hb dJ6_bitCount_0f7a4_3 rfl ?_
  refine lv_topi (fun x_1 ex_1 => ?_)
  refine lv_ldcw hx hb hown (hts (.constant RJ6 265 (1431655765)) fwJ6_bitCount_0f7a4_1) dJ6_bitCount_0f7a4_4 ?_
  refine lv_iand hx hb dJ6_bitCount_0f7a4_7 ?_
  refine lv_topi (fun x_2 ex_2 => ?_)
  refine lv_isub hx hb dJ6_bitCount_0f7a4_8 ?_
  refine lv_topi (fun x_3 ex_3 => ?_)
  refine lv_istore_n (lv' := [(0, .int x_3)]) hx hb dJ6_bitCount_0f7a4_9 rfl hl (by decide) rfl (fun ls hl => ?_)
  refine lv_iload_n hx hb dJ6_bitCount_0f7a4_10 rfl (lv_at hl 0 rfl) ?_
  refine lv_ldcw hx hb hown (hts (.constant RJ6 266 (858993459)) fwJ6_bitCount_0f7a4_2) dJ6_bitCount_0f7a4_11 ?_
  refine lv_iand hx hb dJ6_bitCount_0f7a4_14 ?_
  refine lv_topi (fun x_4 ex_4 => ?_)
  refine lv_iload_n hx hb dJ6_bitCount_0f7a4_15 rfl (lv_at hl 0 rfl) ?_
  refine lv_iconst (v := 2) hx hb dJ6_bitCount_0f7a4_16 (by decide) ?_
  refine lv_iushr (v := _) hx hb dJ6_bitCount_0f7a4_17 rfl ?_
  refine lv_topi (fun x_5 ex_5 => ?_)
  refine lv_ldcw hx hb hown (hts (.constant RJ6 266 (858993459)) fwJ6_bitCount_0f7a4_2) dJ6_bitCount_0f7a4_18 ?_
  refine lv_iand hx hb dJ6_bitCount_0f7a4_21 ?_
  refine lv_topi (fun x_6 ex_6 => ?_)
  refine lv_iadd hx hb dJ6_bitCount_0f7a4_22 ?_
  refine lv_topi (fun x_7 ex_7 => ?_)
  refine lv_istore_n (lv' := [(0, .int x_7)]) hx hb dJ6_bitCount_0f7a4_23 rfl hl (by decide) rfl (fun ls hl => ?_)
  refine lv_iload_n hx hb dJ6_bitCount_0f7a4_24 rfl (lv_at hl 0 rfl) ?_
  refine lv_iload_n hx hb dJ6_bitCount_0f7a4_25 rfl (lv_at hl 0 rfl) ?_
  refine lv_iconst (v := 4) hx hb dJ6_bitCount_0f7a4_26 (by decide) ?_
  refine lv_iushr (v := _) hx hb dJ6_bitCount_0f7a4_27 rfl ?_
  refine lv_topi (fun x_8 ex_8 => ?_)
  refine lv_iadd hx hb dJ6_bitCount_0f7a4_28 ?_
  refine lv_topi (fun x_9 ex_9 => ?_)
  refine lv_ldcw hx hb hown (hts (.constant RJ6 267 (252645135)) fwJ6_bitCount_0f7a4_3) dJ6_bitCount_0f7a4_29 ?_
  refine lv_iand hx hb dJ6_bitCount_0f7a4_32 ?_
  refine lv_topi (fun x_10 ex_10 => ?_)
  refine lv_istore_n (lv' := [(0, .int x_10)]) hx hb dJ6_bitCount_0f7a4_33 rfl hl (by decide) rfl (fun ls hl => ?_)
  refine lv_iload_n hx hb dJ6_bitCount_0f7a4_34 rfl (lv_at hl 0 rfl) ?_
  refine lv_iload_n hx hb dJ6_bitCount_0f7a4_35 rfl (lv_at hl 0 rfl) ?_
  refine lv_bipush (v := 8) hx hb dJ6_bitCount_0f7a4_36 (by decide) ?_
  refine lv_iushr (v := _) hx hb dJ6_bitCount_0f7a4_38 rfl ?_
  refine lv_topi (fun x_11 ex_11 => ?_)
  refine lv_iadd hx hb dJ6_bitCount_0f7a4_39 ?_
  refine lv_topi (fun x_12 ex_12 => ?_)
  refine lv_istore_n (lv' := [(0, .int x_12)]) hx hb dJ6_bitCount_0f7a4_40 rfl hl (by decide) rfl (fun ls hl => ?_)
  refine lv_iload_n hx hb dJ6_bitCount_0f7a4_41 rfl (lv_at hl 0 rfl) ?_
  refine lv_iload_n hx hb dJ6_bitCount_0f7a4_42 rfl (lv_at hl 0 rfl) ?_
  refine lv_bipush (v := 16) hx hb dJ6_bitCount_0f7a4_43 (by decide) ?_
  refine lv_iushr (v := _) hx hb dJ6_bitCount_0f7a4_45 rfl ?_
  refine lv_topi (fun x_13 ex_13 => ?_)
  refine lv_iadd hx hb dJ6_bitCount_0f7a4_46 ?_
  refine lv_topi (fun x_14 ex_14 => ?_)
  refine lv_istore_n (lv' := [(0, .int x_14)]) hx hb dJ6_bitCount_0f7a4_47 rfl hl (by decide) rfl (fun ls hl => ?_)
  refine lv_iload_n hx hb dJ6_bitCount_0f7a4_48 rfl (lv_at hl 0 rfl) ?_
  refine lv_bipush (v := 63) hx hb dJ6_bitCount_0f7a4_49 (by decide) ?_
  refine lv_iand hx hb dJ6_bitCount_0f7a4_51 ?_
  refine lv_topi (fun x_15 ex_15 => ?_)
  exact W.iret (v := x_15) hx hb hr (fun t ht hW => ⟨⟨x_15, (), rfl, by rw [ex_15, ex_14, ex_13, ex_12, ex_11, ex_10, ex_9, ex_8, ex_7, ex_6, ex_5, ex_4, ex_3, ex_2, ex_1]; rfl, trivial⟩, hS.F ht⟩) hS.2.2 dJ6_bitCount_0f7a4_52

/-- any bit of any number -/
theorem bt_g (x : Int32) {d : Nat} (hd : d < 32) : bt x d ↔ x.toBitVec.getLsbD d = true := by
  have h : ∀ d : Fin 32, ((Int32.ofNat d.val &&& 31).toBitVec.smod 32).toNat = d.val := by decide +kernel
  have e : (x >>> (Int32.ofNat d &&& 31)).toBitVec = x.toBitVec.sshiftRight d := by
    show x.toBitVec.sshiftRight ((Int32.ofNat d &&& 31).toBitVec.smod 32).toNat = _
    rw [h ⟨d, hd⟩]
  have g : (btx x (Int32.ofNat d)).toBitVec = BitVec.setWidth 32 (BitVec.ofBool (x.toBitVec.getLsbD d)) := by
    show (x >>> (Int32.ofNat d &&& 31)).toBitVec &&& 1#32 = _
    rw [e, BitVec.and_one_eq_setWidth_ofBool_getLsbD, BitVec.getLsbD_sshiftRight]
    simp [hd]
  have t : (btx x (Int32.ofNat d)).toInt = (BitVec.setWidth 32 (BitVec.ofBool (x.toBitVec.getLsbD d))).toInt := by
    rw [← g]
    rfl
  unfold bt
  rw [t]
  cases x.toBitVec.getLsbD d <;> decide
theorem bt_or (x y : Int32) {d : Nat} (hd : d < 32) : bt (x ||| y) d ↔ (bt x d ∨ bt y d) := by
  rw [bt_g _ hd, bt_g _ hd, bt_g _ hd]
  show (x.toBitVec ||| y.toBitVec).getLsbD d = true ↔ _
  rw [BitVec.getLsbD_or, Bool.or_eq_true]
theorem bt_and (x y : Int32) {d : Nat} (hd : d < 32) : bt (x &&& y) d ↔ (bt x d ∧ bt y d) := by
  rw [bt_g _ hd, bt_g _ hd, bt_g _ hd]
  show (x.toBitVec &&& y.toBitVec).getLsbD d = true ↔ _
  rw [BitVec.getLsbD_and, Bool.and_eq_true]
theorem bt_not (x : Int32) {d : Nat} (hd : d < 32) : bt (x ^^^ -1) d ↔ ¬ bt x d := by
  rw [bt_g _ hd, bt_g _ hd]
  show (x.toBitVec ^^^ BitVec.allOnes 32).getLsbD d = true ↔ _
  rw [BitVec.getLsbD_xor, BitVec.getLsbD_allOnes]
  cases x.toBitVec.getLsbD d <;> simp [hd]
/-- numbers of 24 bits -/
def ok24 (x : Int32) : Prop := 0 ≤ x.toInt ∧ x.toInt < 16777216
theorem bt_t (x : Int32) {d : Nat} (hd : d < 32) : bt x d ↔ x.toBitVec.toNat.testBit d = true := by
  rw [bt_g x hd]
  rfl
theorem ti_n {x : Int32} (h : x.toBitVec.toNat < 2147483648) : x.toInt = (x.toBitVec.toNat : Int) := by
  have q : x.toInt = x.toBitVec.toInt := rfl
  rw [q, BitVec.toInt_eq_toNat_cond, if_pos (by omega)]
theorem bv_n {x : Int32} (h : 0 ≤ x.toInt) : x.toBitVec.toNat = x.toNatClampNeg := by
  have z := t_nn h
  have q : x.toInt = x.toBitVec.toInt := rfl
  have c := BitVec.toInt_eq_toNat_cond x.toBitVec
  rw [← q] at c
  have b := x.toBitVec.isLt
  split at c <;> omega
theorem ok24_or {x y : Int32} (hx : ok24 x) (hy : ok24 y) : ok24 (x ||| y) := by
  have zx := bv_n hx.1
  have zy := bv_n hy.1
  have ax := t_nn hx.1
  have ay := t_nn hy.1
  have lx := hx.2
  have ly := hy.2
  have b : x.toBitVec.toNat ||| y.toBitVec.toNat < 2 ^ 24 := Nat.or_lt_two_pow (by omega) (by omega)
  have e : (x ||| y).toBitVec.toNat = x.toBitVec.toNat ||| y.toBitVec.toNat := BitVec.toNat_or ..
  have i := ti_n (x := x ||| y) (by omega)
  exact ⟨by omega, by omega⟩
theorem ok24_and {x y : Int32} (hx : ok24 x) : ok24 (x &&& y) := by
  have zx := bv_n hx.1
  have ax := t_nn hx.1
  have lx := hx.2
  have b : x.toBitVec.toNat &&& y.toBitVec.toNat ≤ x.toBitVec.toNat := Nat.and_le_left
  have e : (x &&& y).toBitVec.toNat = x.toBitVec.toNat &&& y.toBitVec.toNat := BitVec.toNat_and ..
  have i := ti_n (x := x &&& y) (by omega)
  exact ⟨by omega, by omega⟩

/-- counting bits by halves, byte by byte -/
def n1 (x M : Nat) : Nat := x - ((x >>> 1) &&& M)
def n2 (x M : Nat) : Nat := (x &&& M) + ((x >>> 2) &&& M)
def n3 (x M : Nat) : Nat := (x + (x >>> 4)) &&& M
def tb (a d : Nat) : Nat := if a.testBit d = true then 1 else 0
def p8 (a : Nat) : Nat := tb a 0 + tb a 1 + tb a 2 + tb a 3 + tb a 4 + tb a 5 + tb a 6 + tb a 7
theorem land_sp {p q r s : Nat} (hp : p < 256) (hr : r < 256) : (p + 256 * q) &&& (r + 256 * s) = (p &&& r) + 256 * (q &&& s) := by
  have hpr : p &&& r < 2 ^ 8 := Nat.and_lt_two_pow p (by omega)
  refine Nat.eq_of_testBit_eq (fun i => ?_)
  rw [Nat.testBit_and, show p + 256 * q = 2 ^ 8 * q + p from by omega, show r + 256 * s = 2 ^ 8 * s + r from by omega, show (p &&& r) + 256 * (q &&& s) = 2 ^ 8 * (q &&& s) + (p &&& r) from by omega, Nat.testBit_two_pow_mul_add q (by omega), Nat.testBit_two_pow_mul_add s (by omega), Nat.testBit_two_pow_mul_add (q &&& s) hpr]
  by_cases h : i < 8
  · rw [if_pos h, if_pos h, if_pos h, Nat.testBit_and]
  · rw [if_neg h, if_neg h, if_neg h, Nat.testBit_and]
theorem sh_d (x k : Nat) : x >>> k = x / 2 ^ k := Nat.shiftRight_eq_div_pow x k
theorem tb_1 : ∀ a : Fin 256, ∀ e : Fin 2, (a.val / 2 + 128 * e.val) &&& 85 = (a.val / 2) &&& 85 ∧ (a.val / 2) &&& 85 ≤ a.val := by decide +kernel
theorem tb_2 : ∀ a : Fin 256, ∀ e : Fin 4, (a.val / 4 + 64 * e.val) &&& 51 = (a.val / 4) &&& 51 := by decide +kernel
theorem tb_3 : ∀ a : Fin 256, ∀ e : Fin 16, (a.val + a.val / 16 + 16 * e.val) &&& 15 = (a.val + a.val / 16) &&& 15 := by decide +kernel
theorem tb_8 : ∀ a : Fin 256, (n1 a.val 85 < 256 ∧ n2 (n1 a.val 85) 51 % 16 ≤ 4 ∧ n2 (n1 a.val 85) 51 / 16 ≤ 4) ∧ n3 (n2 (n1 a.val 85) 51) 15 = p8 a.val ∧ p8 a.val ≤ 8 := by decide +kernel
theorem n1_sp {a y M : Nat} (ha : a < 256) : n1 (a + 256 * y) (85 + 256 * M) = n1 a 85 + 256 * n1 y M := by
  unfold n1
  obtain ⟨t1, t2⟩ := tb_1 ⟨a, ha⟩ ⟨y % 2, by omega⟩
  have t1 : (a / 2 + 128 * (y % 2)) &&& 85 = (a / 2) &&& 85 := t1
  have t2 : (a / 2) &&& 85 ≤ a := t2
  have e : (a + 256 * y) >>> 1 = (a / 2 + 128 * (y % 2)) + 256 * (y / 2) := by
    rw [sh_d]
    omega
  have ea : a >>> 1 = a / 2 := by
    rw [sh_d]
  have ey : y >>> 1 = y / 2 := by
    rw [sh_d]
  rw [e, land_sp (by omega) (by decide), t1, ea, ey]
  have q : (y / 2) &&& M ≤ y / 2 := Nat.and_le_left
  omega
theorem n2_sp {a y M : Nat} (ha : a < 256) : n2 (a + 256 * y) (51 + 256 * M) = n2 a 51 + 256 * n2 y M := by
  unfold n2
  have t1 : (a / 4 + 64 * (y % 4)) &&& 51 = (a / 4) &&& 51 := tb_2 ⟨a, ha⟩ ⟨y % 4, by omega⟩
  have e : (a + 256 * y) >>> 2 = (a / 4 + 64 * (y % 4)) + 256 * (y / 4) := by
    rw [sh_d]
    omega
  have ea : a >>> 2 = a / 4 := by
    rw [sh_d]
  have ey : y >>> 2 = y / 4 := by
    rw [sh_d]
  rw [e, land_sp (p := a) (q := y) (r := 51) (s := M) ha (by decide), land_sp (p := a / 4 + 64 * (y % 4)) (q := y / 4) (r := 51) (s := M) (by omega) (by decide), t1, ea, ey]
  omega
theorem n3_sp {a y M : Nat} (ha : a % 16 ≤ 4 ∧ a / 16 ≤ 4) (hy : y % 16 ≤ 4) : n3 (a + 256 * y) (15 + 256 * M) = n3 a 15 + 256 * n3 y M := by
  unfold n3
  have t1 : (a + a / 16 + 16 * (y % 16)) &&& 15 = (a + a / 16) &&& 15 := tb_3 ⟨a, by omega⟩ ⟨y % 16, by omega⟩
  have e : a + 256 * y + (a + 256 * y) >>> 4 = (a + a / 16 + 16 * (y % 16)) + 256 * (y + y / 16) := by
    rw [sh_d]
    omega
  have ea : a >>> 4 = a / 16 := by
    rw [sh_d]
  have ey : y >>> 4 = y / 16 := by
    rw [sh_d]
  rw [e, land_sp (by omega) (by decide), t1, ea, ey]
/-- three bytes -/
theorem n_sp {a b c : Nat} (ha : a < 256) (hb : b < 256) (hc : c < 256) : n3 (n2 (n1 (a + 256 * (b + 256 * c)) 1431655765) 858993459) 252645135 = p8 a + 256 * (p8 b + 256 * p8 c) := by
  obtain ⟨⟨a1, a2, a3⟩, a4, a5⟩ := tb_8 ⟨a, ha⟩
  obtain ⟨⟨b1, b2, b3⟩, b4, b5⟩ := tb_8 ⟨b, hb⟩
  obtain ⟨⟨c1, c2, c3⟩, c4, c5⟩ := tb_8 ⟨c, hc⟩
  have a1 : n1 a 85 < 256 := a1
  have b1 : n1 b 85 < 256 := b1
  have c1 : n1 c 85 < 256 := c1
  have a2 : n2 (n1 a 85) 51 % 16 ≤ 4 := a2
  have b2 : n2 (n1 b 85) 51 % 16 ≤ 4 := b2
  have c2 : n2 (n1 c 85) 51 % 16 ≤ 4 := c2
  have z1 : n1 c 21845 = n1 c 85 := by
    have q := n1_sp (a := c) (y := 0) (M := 85) hc
    rw [show n1 0 85 = 0 from rfl] at q
    exact q
  have z2 : n2 (n1 c 85) 13107 = n2 (n1 c 85) 51 := by
    have q := n2_sp (a := n1 c 85) (y := 0) (M := 51) c1
    rw [show n2 0 51 = 0 from rfl] at q
    exact q
  have z3 : n3 (n2 (n1 c 85) 51) 3855 = n3 (n2 (n1 c 85) 51) 15 := by
    have q := n3_sp (a := n2 (n1 c 85) 51) (y := 0) (M := 15) ⟨c2, c3⟩ (by decide)
    rw [show n3 0 15 = 0 from rfl] at q
    exact q
  have x1 : n1 (a + 256 * (b + 256 * c)) 1431655765 = n1 a 85 + 256 * (n1 b 85 + 256 * n1 c 85) := by
    have q := n1_sp (a := a) (y := b + 256 * c) (M := 5592405) ha
    have r := n1_sp (a := b) (y := c) (M := 21845) hb
    rw [z1] at r
    have r2 : n1 (b + 256 * c) 5592405 = n1 b 85 + 256 * n1 c 85 := r
    rw [r2] at q
    exact q
  have x2 : n2 (n1 a 85 + 256 * (n1 b 85 + 256 * n1 c 85)) 858993459 = n2 (n1 a 85) 51 + 256 * (n2 (n1 b 85) 51 + 256 * n2 (n1 c 85) 51) := by
    have q := n2_sp (a := n1 a 85) (y := n1 b 85 + 256 * n1 c 85) (M := 3355443) a1
    have r := n2_sp (a := n1 b 85) (y := n1 c 85) (M := 13107) b1
    rw [z2] at r
    have r2 : n2 (n1 b 85 + 256 * n1 c 85) 3355443 = n2 (n1 b 85) 51 + 256 * n2 (n1 c 85) 51 := r
    rw [r2] at q
    exact q
  have x3 : n3 (n2 (n1 a 85) 51 + 256 * (n2 (n1 b 85) 51 + 256 * n2 (n1 c 85) 51)) 252645135 = n3 (n2 (n1 a 85) 51) 15 + 256 * (n3 (n2 (n1 b 85) 51) 15 + 256 * n3 (n2 (n1 c 85) 51) 15) := by
    have q := n3_sp (a := n2 (n1 a 85) 51) (y := n2 (n1 b 85) 51 + 256 * n2 (n1 c 85) 51) (M := 986895) ⟨a2, a3⟩ (by omega)
    have r := n3_sp (a := n2 (n1 b 85) 51) (y := n2 (n1 c 85) 51) (M := 3855) ⟨b2, b3⟩ c2
    rw [z3] at r
    have r2 : n3 (n2 (n1 b 85) 51 + 256 * n2 (n1 c 85) 51) 986895 = n3 (n2 (n1 b 85) 51) 15 + 256 * n3 (n2 (n1 c 85) 51) 15 := r
    rw [r2] at q
    exact q
  have a4 : n3 (n2 (n1 a 85) 51) 15 = p8 a := a4
  have b4 : n3 (n2 (n1 b 85) 51) 15 = p8 b := b4
  have c4 : n3 (n2 (n1 c 85) 51) 15 = p8 c := c4
  rw [x1, x2, x3, a4, b4, c4]
theorem us_n (x : Int32) : (us x 1).toBitVec.toNat = x.toBitVec.toNat >>> 1 ∧ (us x 2).toBitVec.toNat = x.toBitVec.toNat >>> 2 ∧ (us x 4).toBitVec.toNat = x.toBitVec.toNat >>> 4 ∧ (us x 8).toBitVec.toNat = x.toBitVec.toNat >>> 8 ∧ (us x 16).toBitVec.toNat = x.toBitVec.toNat >>> 16 := ⟨rfl, rfl, rfl, rfl, rfl⟩
theorem an_n (x y : Int32) : (x &&& y).toBitVec.toNat = x.toBitVec.toNat &&& y.toBitVec.toNat := BitVec.toNat_and ..
theorem ad_n (x y : Int32) : (x + y).toBitVec.toNat = (x.toBitVec.toNat + y.toBitVec.toNat) % 2 ^ 32 := BitVec.toNat_add ..
theorem su_n (x y : Int32) : (x - y).toBitVec.toNat = (2 ^ 32 - y.toBitVec.toNat + x.toBitVec.toNat) % 2 ^ 32 := BitVec.toNat_sub ..
theorem bc_s {x : Int32} {X : Nat} (hx : x.toBitVec.toNat = X) (hX : X < 16777216) : (bcF x).toInt = ((p8 (X % 256) + p8 (X / 256 % 256) + p8 (X / 65536) : Nat) : Int) := by
  have c1 : (1431655765 : Int32).toBitVec.toNat = 1431655765 := rfl
  have c2 : (858993459 : Int32).toBitVec.toNat = 858993459 := rfl
  have c3 : (252645135 : Int32).toBitVec.toNat = 252645135 := rfl
  have c4 : (63 : Int32).toBitVec.toNat = 63 := rfl
  have sp := n_sp (a := X % 256) (b := X / 256 % 256) (c := X / 65536) (by omega) (by omega) (by omega)
  rw [show X % 256 + 256 * (X / 256 % 256 + 256 * (X / 65536)) = X from by omega] at sp
  have l1 : (X >>> 1) &&& 1431655765 ≤ X >>> 1 := Nat.and_le_left
  have d1 : X >>> 1 = X / 2 := by rw [sh_d]
  have h1 : (bc1 x).toBitVec.toNat = n1 X 1431655765 := by
    unfold bc1 n1
    rw [su_n, an_n, (us_n x).1, c1, hx]
    omega
  have b1 : n1 X 1431655765 ≤ X := Nat.sub_le _ _
  obtain ⟨Y, hY⟩ : ∃ Y : Nat, Y = n1 X 1431655765 := ⟨_, rfl⟩
  rw [← hY] at h1 b1 sp
  have l2 : Y &&& 858993459 ≤ Y := Nat.and_le_left
  have l3 : (Y >>> 2) &&& 858993459 ≤ Y >>> 2 := Nat.and_le_left
  have d2 : Y >>> 2 = Y / 4 := by rw [sh_d]
  have h2 : (bc2 (bc1 x)).toBitVec.toNat = n2 Y 858993459 := by
    unfold bc2 n2
    rw [ad_n, an_n, an_n, (us_n _).2.1, c2, h1]
    omega
  have b2 : n2 Y 858993459 < 33554432 := by
    unfold n2
    omega
  obtain ⟨Z, hZ⟩ : ∃ Z : Nat, Z = n2 Y 858993459 := ⟨_, rfl⟩
  rw [← hZ] at h2 b2 sp
  have d3 : Z >>> 4 = Z / 16 := by rw [sh_d]
  have h3 : (bc3 (bc2 (bc1 x))).toBitVec.toNat = n3 Z 252645135 := by
    unfold bc3 n3
    rw [an_n, ad_n, (us_n _).2.2.1, c3, h2, show (Z + Z >>> 4) % 2 ^ 32 = Z + Z >>> 4 from by omega]
  rw [sp] at h3
  have q1 := (tb_8 ⟨X % 256, by omega⟩).2.2
  have q2 := (tb_8 ⟨X / 256 % 256, by omega⟩).2.2
  have q3 := (tb_8 ⟨X / 65536, by omega⟩).2.2
  obtain ⟨A, hA⟩ : ∃ A : Nat, A = p8 (X % 256) := ⟨_, rfl⟩
  obtain ⟨B, hB⟩ : ∃ B : Nat, B = p8 (X / 256 % 256) := ⟨_, rfl⟩
  obtain ⟨C, hC⟩ : ∃ C : Nat, C = p8 (X / 65536) := ⟨_, rfl⟩
  have q1 : A ≤ 8 := by rw [hA]; exact q1
  have q2 : B ≤ 8 := by rw [hB]; exact q2
  have q3 : C ≤ 8 := by rw [hC]; exact q3
  rw [← hA, ← hB, ← hC] at h3 ⊢
  obtain ⟨w, hw⟩ : ∃ w : Int32, w = bc3 (bc2 (bc1 x)) := ⟨_, rfl⟩
  rw [← hw] at h3
  have h4 : (bc4 w).toBitVec.toNat = (A + B) + 256 * (B + C) + 65536 * C := by
    unfold bc4
    rw [ad_n, (us_n _).2.2.2.1, h3, sh_d]
    omega
  have h5 : (bc5 (bc4 w)).toBitVec.toNat = (A + B + C) + 256 * (B + C) + 65536 * C := by
    have d5 : (A + B + 256 * (B + C) + 65536 * C) >>> 16 = C := by
      rw [sh_d]
      omega
    unfold bc5
    rw [ad_n, (us_n _).2.2.2.2, h4, d5]
    omega
  have h6 : (bcF x).toBitVec.toNat = A + B + C := by
    unfold bcF
    rw [← hw, an_n, h5, c4, show 63 = 2 ^ 6 - 1 from rfl, Nat.and_two_pow_sub_one_eq_mod]
    omega
  rw [ti_n (by omega), h6]
theorem bi_t (x : Int32) {d : Nat} (hd : d < 32) : bi x d = ((tb x.toBitVec.toNat d : Nat) : Int) := by
  by_cases h : bt x d
  · rw [bi_1 h]
    unfold tb
    rw [if_pos ((bt_t x hd).mp h)]
    rfl
  · rw [bi_0 h]
    unfold tb
    rw [if_neg (fun q => h ((bt_t x hd).mpr q))]
    rfl
theorem tb_lo {X d : Nat} (hd : d < 8) : tb X d = tb (X % 256) d := by
  unfold tb
  rw [show X % 256 = X % 2 ^ 8 from rfl, Nat.testBit_mod_two_pow]
  simp [hd]
theorem tb_hi {X d k : Nat} : tb X (k + d) = tb (X / 2 ^ k) d := by
  unfold tb
  rw [← Nat.shiftRight_eq_div_pow, Nat.testBit_shiftRight]
theorem bc_24 {x : Int32} (h : ok24 x) : (bcF x).toInt = cN (bi x) 24 := by
  have z := bv_n h.1
  have a := t_nn h.1
  have l := h.2
  rw [bc_s z (by omega)]
  show _ = 0 + bi x 0 + bi x 1 + bi x 2 + bi x 3 + bi x 4 + bi x 5 + bi x 6 + bi x 7 + bi x 8 + bi x 9 + bi x 10 + bi x 11 + bi x 12 + bi x 13 + bi x 14 + bi x 15 + bi x 16 + bi x 17 + bi x 18 + bi x 19 + bi x 20 + bi x 21 + bi x 22 + bi x 23
  have lo : ∀ d : Nat, d < 8 → bi x d = ((tb (x.toNatClampNeg % 256) d : Nat) : Int) := fun d hd => by
    rw [bi_t x (by omega), z, tb_lo hd]
  have mi : ∀ d : Nat, d < 8 → bi x (8 + d) = ((tb (x.toNatClampNeg / 256 % 256) d : Nat) : Int) := fun d hd => by
    rw [bi_t x (by omega), z, tb_hi (k := 8), tb_lo hd]
  have hi : ∀ d : Nat, d < 8 → bi x (16 + d) = ((tb (x.toNatClampNeg / 65536) d : Nat) : Int) := fun d hd => by
    rw [bi_t x (by omega), z, tb_hi (k := 16)]
  have k0 := lo 0 (by decide)
  have k1 := lo 1 (by decide)
  have k2 := lo 2 (by decide)
  have k3 := lo 3 (by decide)
  have k4 := lo 4 (by decide)
  have k5 := lo 5 (by decide)
  have k6 := lo 6 (by decide)
  have k7 := lo 7 (by decide)
  have k8 := mi 0 (by decide)
  have k9 := mi 1 (by decide)
  have k10 := mi 2 (by decide)
  have k11 := mi 3 (by decide)
  have k12 := mi 4 (by decide)
  have k13 := mi 5 (by decide)
  have k14 := mi 6 (by decide)
  have k15 := mi 7 (by decide)
  have k16 := hi 0 (by decide)
  have k17 := hi 1 (by decide)
  have k18 := hi 2 (by decide)
  have k19 := hi 3 (by decide)
  have k20 := hi 4 (by decide)
  have k21 := hi 5 (by decide)
  have k22 := hi 6 (by decide)
  have k23 := hi 7 (by decide)
  rw [k0, k1, k2, k3, k4, k5, k6, k7, show bi x 8 = _ from k8, show bi x 9 = _ from k9, show bi x 10 = _ from k10, show bi x 11 = _ from k11, show bi x 12 = _ from k12, show bi x 13 = _ from k13, show bi x 14 = _ from k14, show bi x 15 = _ from k15, show bi x 16 = _ from k16, show bi x 17 = _ from k17, show bi x 18 = _ from k18, show bi x 19 = _ from k19, show bi x 20 = _ from k20, show bi x 21 = _ from k21, show bi x 22 = _ from k22, show bi x 23 = _ from k23]
  unfold p8
  omega

/-- marriage: counts of what holds -/
noncomputable def ind (P : Prop) : Int := @ite _ P (Classical.propDecidable P) 1 0
theorem ind_1 {P : Prop} (h : P) : ind P = 1 := if_pos h
theorem ind_0 {P : Prop} (h : ¬ P) : ind P = 0 := if_neg h
theorem ind_b (P : Prop) : 0 ≤ ind P ∧ ind P ≤ 1 := by
  by_cases h : P
  · rw [ind_1 h]
    decide
  · rw [ind_0 h]
    decide
theorem ind_le {P Q : Prop} (h : P → Q) : ind P ≤ ind Q := by
  by_cases p : P
  · rw [ind_1 p, ind_1 (h p)]
    exact Int.le_refl _
  · rw [ind_0 p]
    exact (ind_b Q).1
theorem ind_cg {P Q : Prop} (h : P ↔ Q) : ind P = ind Q := by
  rw [show P = Q from propext h]
theorem cN_add {f g : Nat → Int} : ∀ n : Nat, cN (fun i => f i + g i) n = cN f n + cN g n
  | 0 => rfl
  | n + 1 => by
    show cN (fun i => f i + g i) n + (f n + g n) = cN f n + f n + (cN g n + g n)
    rw [cN_add n]
    omega
theorem cN_z {f : Nat → Int} : ∀ {n : Nat}, (∀ i : Nat, i < n → f i = 0) → cN f n = 0
  | 0, _ => rfl
  | n + 1, h => by
    show cN f n + f n = 0
    rw [cN_z (f := f) (n := n) (fun i hi => h i (by omega)), h n (by omega)]
    rfl
theorem cN_ex {P : Nat → Prop} {n : Nat} (h : 0 < cN (fun i => ind (P i)) n) : ∃ i : Nat, i < n ∧ P i := by
  refine Classical.byContradiction (fun q => ?_)
  rw [cN_z (f := fun i => ind (P i)) (n := n) (fun i hi => ind_0 (fun p => q ⟨i, hi, p⟩))] at h
  exact absurd h (by decide)
theorem cN_1 {P : Nat → Prop} {n i : Nat} (hi : i < n) (h : P i) : 0 < cN (fun i => ind (P i)) n := by
  have q : cN (fun _ => 0) n < cN (fun i => ind (P i)) n := cN_lt (j := i) (fun k _ => (ind_b (P k)).1) hi (by show (0 : Int) < ind (P i); rw [ind_1 h]; decide)
  rw [cN_z (f := fun _ => 0) (n := n) (fun _ _ => rfl)] at q
  exact q
section HAL
variable {k m : Nat}
/-- how many of k; how many of m are met -/
noncomputable def crd (k : Nat) (G : Nat → Prop) : Int := cN (fun i => ind (G i)) k
def met (k : Nat) (A : Nat → Nat → Prop) (G : Nat → Prop) (h : Nat) : Prop := ∃ i : Nat, i < k ∧ G i ∧ A i h
noncomputable def nb (k m : Nat) (A : Nat → Nat → Prop) (G : Nat → Prop) : Int := cN (fun h => ind (met k A G h)) m
def hall (k m : Nat) (A : Nat → Nat → Prop) (I : Nat → Prop) : Prop := ∀ G : Nat → Prop, (∀ i : Nat, G i → I i) → crd k G ≤ nb k m A G
def sdr (k m : Nat) (A : Nat → Nat → Prop) (I : Nat → Prop) (S : Nat → Nat) : Prop := ∀ i : Nat, i < k → I i → (S i < m ∧ A i (S i)) ∧ ∀ j : Nat, j < k → I j → i ≠ j → S i ≠ S j
theorem crd_or {G H : Nat → Prop} (hd : ∀ i : Nat, G i → ¬ H i) : crd k (fun i => G i ∨ H i) = crd k G + crd k H := by
  unfold crd
  rw [← cN_add]
  refine cN_cg (fun i _ => ?_)
  show ind (G i ∨ H i) = ind (G i) + ind (H i)
  by_cases g : G i
  · rw [ind_1 (Or.inl g), ind_1 g, ind_0 (hd i g)]
    rfl
  · by_cases h : H i
    · rw [ind_1 (Or.inr h), ind_0 g, ind_1 h]
      rfl
    · rw [ind_0 (fun q => q.elim g h), ind_0 g, ind_0 h]
      rfl
theorem crd_lt {G I : Nat → Prop} (hs : ∀ i : Nat, G i → I i) {j : Nat} (hj : j < k) (h1 : I j) (h2 : ¬ G j) : crd k G < crd k I :=
  cN_lt (j := j) (fun i _ => ind_le (hs i)) hj (by show ind (G j) < ind (I j); rw [ind_0 h2, ind_1 h1]; decide)
theorem hall_sdr : ∀ (n : Nat) (A : Nat → Nat → Prop) (I : Nat → Prop), crd k I < (n : Int) → hall k m A I → ∃ S : Nat → Nat, sdr k m A I S
  | 0, A, I, hn, _ => absurd hn (by have q := (cN_b (f := fun i => ind (I i)) (n := k) (fun i _ => ind_b (I i))).1; show ¬ cN (fun i => ind (I i)) k < ((0 : Nat) : Int); omega)
  | n + 1, A, I, hn, hH => by
    by_cases he : ∃ i : Nat, i < k ∧ I i
    · obtain ⟨i0, hi0, hI0⟩ := he
      by_cases ht : ∃ G : Nat → Prop, (∀ i : Nat, G i → I i) ∧ (∃ i : Nat, i < k ∧ G i) ∧ (∃ i : Nat, i < k ∧ I i ∧ ¬ G i) ∧ nb k m A G ≤ crd k G
      · obtain ⟨G, g1, g2, ⟨j, j1, j2, j3⟩, g4⟩ := ht
        have lt := crd_lt g1 j1 j2 j3
        obtain ⟨S1, s1⟩ := hall_sdr n A G (by omega) (fun F hF => hH F (fun i h => g1 i (hF i h)))
        have hI2 : ∀ i : Nat, (I i ∧ ¬ G i) → I i := fun i h => h.1
        obtain ⟨x, x1, x2⟩ := g2
        have lt2 : crd k (fun i => I i ∧ ¬ G i) < crd k I := crd_lt hI2 x1 (g1 x x2) (fun q => q.2 x2)
        obtain ⟨S2, s2⟩ := hall_sdr n (fun i h => A i h ∧ ¬ met k A G h) (fun i => I i ∧ ¬ G i) (by omega) (fun F hF => by
          have c1 := crd_or (k := k) (G := F) (H := G) (fun i h => (hF i h).2)
          have c2 := hH (fun i => F i ∨ G i) (fun i h => h.elim (fun q => (hF i q).1) (g1 i))
          have c3 : nb k m A (fun i => F i ∨ G i) = nb k m (fun i h => A i h ∧ ¬ met k A G h) F + nb k m A G := by
            unfold nb
            rw [← cN_add]
            refine cN_cg (fun h _ => ?_)
            show ind (met k A (fun i => F i ∨ G i) h) = ind (met k (fun i h => A i h ∧ ¬ met k A G h) F h) + ind (met k A G h)
            by_cases q : met k A G h
            · have z : ¬ met k (fun i h => A i h ∧ ¬ met k A G h) F h := fun ⟨i, _, _, a⟩ => a.2 q
              obtain ⟨i, a1, a2, a3⟩ := id q
              rw [ind_1 (show met k A (fun i => F i ∨ G i) h from ⟨i, a1, Or.inr a2, a3⟩), ind_0 z, ind_1 q]
              rfl
            · by_cases p : met k (fun i h => A i h ∧ ¬ met k A G h) F h
              · obtain ⟨i, a1, a2, a3⟩ := id p
                rw [ind_1 (show met k A (fun i => F i ∨ G i) h from ⟨i, a1, Or.inl a2, a3.1⟩), ind_1 p, ind_0 q]
                rfl
              · have z : ¬ met k A (fun i => F i ∨ G i) h := fun ⟨i, a1, a2, a3⟩ => a2.elim (fun f => p ⟨i, a1, f, a3, q⟩) (fun g => q ⟨i, a1, g, a3⟩)
                rw [ind_0 z, ind_0 p, ind_0 q]
                rfl
          omega)
        refine ⟨fun i => @ite _ (G i) (Classical.propDecidable _) (S1 i) (S2 i), fun i hi hIi => ?_⟩
        by_cases gi : G i
        · have e : @ite _ (G i) (Classical.propDecidable _) (S1 i) (S2 i) = S1 i := if_pos gi
          refine ⟨by show (@ite _ (G i) (Classical.propDecidable _) (S1 i) (S2 i)) < m ∧ A i (@ite _ (G i) (Classical.propDecidable _) (S1 i) (S2 i)); rw [e]; exact (s1 i hi gi).1, fun j hj hIj hij => ?_⟩
          show @ite _ (G i) (Classical.propDecidable _) (S1 i) (S2 i) ≠ @ite _ (G j) (Classical.propDecidable _) (S1 j) (S2 j)
          rw [e]
          by_cases gj : G j
          · rw [show @ite _ (G j) (Classical.propDecidable _) (S1 j) (S2 j) = S1 j from if_pos gj]
            exact (s1 i hi gi).2 j hj gj hij
          · rw [show @ite _ (G j) (Classical.propDecidable _) (S1 j) (S2 j) = S2 j from if_neg gj]
            intro q
            have a := (s2 j hj ⟨hIj, gj⟩).1.2.2
            rw [← q] at a
            exact a ⟨i, hi, gi, (s1 i hi gi).1.2⟩
        · have e : @ite _ (G i) (Classical.propDecidable _) (S1 i) (S2 i) = S2 i := if_neg gi
          refine ⟨by show (@ite _ (G i) (Classical.propDecidable _) (S1 i) (S2 i)) < m ∧ A i (@ite _ (G i) (Classical.propDecidable _) (S1 i) (S2 i)); rw [e]; exact ⟨(s2 i hi ⟨hIi, gi⟩).1.1, (s2 i hi ⟨hIi, gi⟩).1.2.1⟩, fun j hj hIj hij => ?_⟩
          show @ite _ (G i) (Classical.propDecidable _) (S1 i) (S2 i) ≠ @ite _ (G j) (Classical.propDecidable _) (S1 j) (S2 j)
          rw [e]
          by_cases gj : G j
          · rw [show @ite _ (G j) (Classical.propDecidable _) (S1 j) (S2 j) = S1 j from if_pos gj]
            intro q
            have a := (s2 i hi ⟨hIi, gi⟩).1.2.2
            rw [q] at a
            exact a ⟨j, hj, gj, (s1 j hj gj).1.2⟩
          · rw [show @ite _ (G j) (Classical.propDecidable _) (S1 j) (S2 j) = S2 j from if_neg gj]
            exact (s2 i hi ⟨hIi, gi⟩).2 j hj ⟨hIj, gj⟩ hij
      · -- every group has more than it needs
        have c0 : crd k (fun i => i = i0) ≤ nb k m A (fun i => i = i0) := hH _ (fun i h => by rw [h]; exact hI0)
        have p0 : 0 < crd k (fun i => i = i0) := cN_1 (P := fun i => i = i0) hi0 rfl
        obtain ⟨h0, l0, i1, i2, i3, a0⟩ := cN_ex (P := met k A (fun i => i = i0)) (n := m) (by show 0 < nb k m A (fun i => i = i0); omega)
        rw [i3] at a0
        have lt : crd k (fun i => I i ∧ i ≠ i0) < crd k I := crd_lt (fun i h => h.1) hi0 hI0 (fun q => q.2 rfl)
        obtain ⟨S, s⟩ := hall_sdr n (fun i h => A i h ∧ h ≠ h0) (fun i => I i ∧ i ≠ i0) (by omega) (fun F hF => by
          by_cases fe : ∃ i : Nat, i < k ∧ F i
          · have c1 : crd k F < nb k m A F := by
              refine Int.not_le.mp (fun q => ht ⟨F, fun i h => (hF i h).1, fe, ⟨i0, hi0, hI0, fun q => (hF i0 q).2 rfl⟩, q⟩)
            have c2 : nb k m A F ≤ nb k m (fun i h => A i h ∧ h ≠ h0) F + cN (fun h => ind (h = h0)) m := by
              unfold nb
              rw [← cN_add]
              refine cN_le (fun h _ => ?_)
              show ind (met k A F h) ≤ ind (met k (fun i h => A i h ∧ h ≠ h0) F h) + ind (h = h0)
              by_cases e : h = h0
              · rw [ind_1 e]
                have b1 := (ind_b (met k A F h)).2
                have b2 := (ind_b (met k (fun i h => A i h ∧ h ≠ h0) F h)).1
                omega
              · rw [ind_0 e, ind_cg (show met k A F h ↔ met k (fun i h => A i h ∧ h ≠ h0) F h from ⟨fun ⟨i, a1, a2, a3⟩ => ⟨i, a1, a2, a3, e⟩, fun ⟨i, a1, a2, a3⟩ => ⟨i, a1, a2, a3.1⟩⟩)]
                omega
            have c3 : ∀ n : Nat, cN (fun h => ind (h = h0)) n ≤ 1 := fun n => by
              induction n with
              | zero =>
                show (0 : Int) ≤ 1
                decide
              | succ n ih =>
                show cN (fun h => ind (h = h0)) n + ind (n = h0) ≤ 1
                by_cases e : n = h0
                · rw [cN_z (f := fun h => ind (h = h0)) (n := n) (fun i hi => ind_0 (by omega)), ind_1 e]
                  decide
                · rw [ind_0 e]
                  omega
            have c4 := c3 m
            omega
          · have z : crd k F = 0 := cN_z (fun i hi => ind_0 (fun q => fe ⟨i, hi, q⟩))
            rw [z]
            exact (cN_b (fun h _ => ind_b _)).1)
        refine ⟨fun i => if i = i0 then h0 else S i, fun i hi hIi => ?_⟩
        by_cases e : i = i0
        · refine ⟨by show (if i = i0 then h0 else S i) < m ∧ A i (if i = i0 then h0 else S i); rw [if_pos e]; exact ⟨l0, by rw [e]; exact a0⟩, fun j hj hIj hij => ?_⟩
          show (if i = i0 then h0 else S i) ≠ if j = i0 then h0 else S j
          rw [if_pos e, if_neg (fun q => hij (e.trans q.symm))]
          exact fun q => (s j hj ⟨hIj, fun q => hij (e.trans q.symm)⟩).1.2.2 q.symm
        · refine ⟨by show (if i = i0 then h0 else S i) < m ∧ A i (if i = i0 then h0 else S i); rw [if_neg e]; exact ⟨(s i hi ⟨hIi, e⟩).1.1, (s i hi ⟨hIi, e⟩).1.2.1⟩, fun j hj hIj hij => ?_⟩
          show (if i = i0 then h0 else S i) ≠ if j = i0 then h0 else S j
          rw [if_neg e]
          by_cases f : j = i0
          · rw [if_pos f]
            exact (s i hi ⟨hIi, e⟩).1.2.2
          · rw [if_neg f]
            exact (s i hi ⟨hIi, e⟩).2 j hj ⟨hIj, f⟩ hij
    · exact ⟨fun _ => 0, fun i hi hIi => absurd ⟨i, hi, hIi⟩ he⟩
/-- the other way -/
theorem sdr_hall {A : Nat → Nat → Prop} {I : Nat → Prop} {S : Nat → Nat} (h : sdr k m A I S) : hall k m A I := by
  intro G hG
  have key : ∀ n : Nat, n ≤ k → cN (fun i => ind (G i)) n ≤ cN (fun h => ind (∃ i : Nat, i < n ∧ G i ∧ S i = h)) m := fun n => by
    induction n with
    | zero =>
      intro _
      show (0 : Int) ≤ _
      exact (cN_b (fun h _ => ind_b _)).1
    | succ n ih =>
      intro hn
      have q := ih (by omega)
      show cN (fun i => ind (G i)) n + ind (G n) ≤ _
      by_cases g : G n
      · rw [ind_1 g]
        obtain ⟨⟨b1, b2⟩, b3⟩ := h n (by omega) (hG n g)
        have lt : cN (fun h => ind (∃ i : Nat, i < n ∧ G i ∧ S i = h)) m < cN (fun h => ind (∃ i : Nat, i < n + 1 ∧ G i ∧ S i = h)) m := by
          refine cN_lt (j := S n) (fun x _ => ind_le (fun ⟨i, a1, a2, a3⟩ => ⟨i, by omega, a2, a3⟩)) b1 ?_
          show ind (∃ i : Nat, i < n ∧ G i ∧ S i = S n) < ind (∃ i : Nat, i < n + 1 ∧ G i ∧ S i = S n)
          rw [ind_0 (fun ⟨i, a1, a2, a3⟩ => b3 i (by omega) (hG i a2) (by omega) a3.symm), ind_1 ⟨n, by omega, g, rfl⟩]
          decide
        omega
      · rw [ind_0 g]
        have le : cN (fun h => ind (∃ i : Nat, i < n ∧ G i ∧ S i = h)) m ≤ cN (fun h => ind (∃ i : Nat, i < n + 1 ∧ G i ∧ S i = h)) m := cN_le (fun x _ => ind_le (fun ⟨i, a1, a2, a3⟩ => ⟨i, by omega, a2, a3⟩))
        omega
  refine Int.le_trans (key k (Nat.le_refl k)) (cN_le (fun x _ => ind_le (fun ⟨i, a1, a2, a3⟩ => ⟨i, a1, a2, ?_⟩)))
  rw [← a3]
  exact (h i a1 (hG i a2)).1.2
end HAL

/-- the terms of a case as numbers: term, then side, must, act, first, last -/
def own (D : Nat → Nat → Int) (sd : Int) (t : Nat) : Prop := D t 0 = sd ∧ D t 1 = 1
def bro (D : Nat → Nat → Int) (sd : Int) (t o : Nat) (h : Int) : Prop := (D o 0 = sd ∧ D o 1 = 0 ∧ D o 2 = D t 2) ∧ D o 3 ≤ h ∧ h ≤ D o 4
def bar (D : Nat → Nat → Int) (sd : Int) (n : Int) (t : Nat) (h : Int) : Prop := ∃ o : Nat, (o : Int) < n ∧ bro D sd t o h
def alw (D : Nat → Nat → Int) (sd : Int) (n : Int) (t : Nat) (h : Nat) : Prop := (D t 3 ≤ (h : Int) ∧ (h : Int) ≤ D t 4) ∧ ¬ bar D sd n t h
def lx (n : Nat) (I : Nat → Prop) (P S : Nat → Nat) : Prop := ∀ t : Nat, t < n → I t → (∀ q : Nat, q < t → I q → S q = P q) → P t ≤ S t
def lmin (k : Nat) (A : Nat → Nat → Prop) (I : Nat → Prop) (M : Nat → Nat) : Prop := sdr k 24 A I M ∧ ∀ S : Nat → Nat, sdr k 24 A I S → lx k I M S
theorem bar_0 {D : Nat → Nat → Int} {sd n h : Int} {t : Nat} (hn : n ≤ 0) : ¬ bar D sd n t h := fun ⟨o, h1, _⟩ => by omega
theorem bar_s {D : Nat → Nat → Int} {sd n m h : Int} {t o : Nat} (ho : (o : Int) = n) (hm : m = n + 1) : bar D sd m t h ↔ (bar D sd n t h ∨ bro D sd t o h) := by
  refine ⟨fun ⟨x, h1, h2⟩ => ?_, fun q => ?_⟩
  · by_cases e : (x : Int) < n
    · exact Or.inl ⟨x, e, h2⟩
    · rw [show x = o from by omega] at h2
      exact Or.inr h2
  · rcases q with ⟨x, h1, h2⟩ | q
    · exact ⟨x, by omega, h2⟩
    · exact ⟨o, by omega, q⟩
/-- the hours of a group of musts -/
def uI (H : Nat → Int32) (g : Int32) : Nat → Int32
  | 0 => 0
  | n + 1 => if (btx g (Int32.ofNat n)).toInt = 1 then uI H g n ||| H n else uI H g n
theorem uI_p {H : Nat → Int32} {g : Int32} {n : Nat} (h : (btx g (Int32.ofNat n)).toInt = 1) : uI H g (n + 1) = uI H g n ||| H n := if_pos h
theorem uI_n {H : Nat → Int32} {g : Int32} {n : Nat} (h : ¬ (btx g (Int32.ofNat n)).toInt = 1) : uI H g (n + 1) = uI H g n := if_neg h
def HL (k : Int32) (H : Nat → Int32) : Prop := ∀ g : Int32, 1 ≤ g.toInt → g.toInt < ((1 : Int32) <<< (k &&& 31)).toInt → (bcF g).toInt ≤ (bcF (uI H g k.toNatClampNeg)).toInt
theorem ok24_0 : ok24 0 := by
  unfold ok24
  decide
theorem bt_z {h : Nat} (hh : h < 32) : ¬ bt 0 h := by
  rw [bt_t _ hh]
  show ¬ Nat.testBit 0 h = true
  simp
theorem uI_ok {H : Nat → Int32} {g : Int32} : ∀ {n : Nat}, (∀ i : Nat, i < n → ok24 (H i)) → ok24 (uI H g n)
  | 0, _ => ok24_0
  | n + 1, hH => by
    have h := uI_ok (H := H) (g := g) (n := n) (fun i hi => hH i (by omega))
    by_cases e : (btx g (Int32.ofNat n)).toInt = 1
    · rw [uI_p e]
      exact ok24_or h (hH n (by omega))
    · rw [uI_n e]
      exact h
theorem uI_bt {H : Nat → Int32} {g : Int32} {h : Nat} (hh : h < 32) : ∀ {n : Nat}, bt (uI H g n) h ↔ ∃ i : Nat, i < n ∧ bt g i ∧ bt (H i) h
  | 0 => ⟨fun q => absurd q (bt_z hh), fun ⟨i, a, _⟩ => absurd a (Nat.not_lt_zero _)⟩
  | n + 1 => by
    have ih := uI_bt (H := H) (g := g) hh (n := n)
    by_cases e : (btx g (Int32.ofNat n)).toInt = 1
    · rw [uI_p e, bt_or _ _ hh, ih]
      refine ⟨fun q => ?_, fun ⟨i, a1, a2, a3⟩ => ?_⟩
      · rcases q with ⟨i, a1, a2, a3⟩ | q
        · exact ⟨i, by omega, a2, a3⟩
        · exact ⟨n, by omega, e, q⟩
      · by_cases f : i = n
        · rw [f] at a3
          exact Or.inr a3
        · exact Or.inl ⟨i, by omega, a2, a3⟩
    · rw [uI_n e, ih]
      refine ⟨fun ⟨i, a1, a2, a3⟩ => ⟨i, by omega, a2, a3⟩, fun ⟨i, a1, a2, a3⟩ => ?_⟩
      by_cases f : i = n
      · rw [f] at a2
        exact absurd a2 e
      · exact ⟨i, by omega, a2, a3⟩
theorem bi_i (x : Int32) (d : Nat) : bi x d = ind (bt x d) := by
  by_cases h : bt x d
  · rw [bi_1 h, ind_1 h]
  · rw [bi_0 h, ind_0 h]
/-- a group as a number -/
noncomputable def msk (G : Nat → Prop) : Nat → Nat
  | 0 => 0
  | n + 1 => 2 ^ n * (@ite _ (G n) (Classical.propDecidable _) 1 0) + msk G n
theorem msk_b (G : Nat → Prop) : ∀ n : Nat, msk G n < 2 ^ n
  | 0 => by
    show 0 < 2 ^ 0
    decide
  | n + 1 => by
    show 2 ^ n * (@ite _ (G n) (Classical.propDecidable _) 1 0) + msk G n < 2 ^ (n + 1)
    have h := msk_b G n
    have p : 2 ^ (n + 1) = 2 * 2 ^ n := by rw [Nat.pow_succ]; omega
    by_cases g : G n
    · rw [show @ite _ (G n) (Classical.propDecidable _) 1 0 = 1 from if_pos g]
      omega
    · rw [show @ite _ (G n) (Classical.propDecidable _) 1 0 = 0 from if_neg g]
      omega
theorem msk_t (G : Nat → Prop) : ∀ (n i : Nat), (msk G n).testBit i = true ↔ (i < n ∧ G i)
  | 0, i => by
    show Nat.testBit 0 i = true ↔ _
    simp
  | n + 1, i => by
    show (2 ^ n * (@ite _ (G n) (Classical.propDecidable _) 1 0) + msk G n).testBit i = true ↔ _
    rw [Nat.testBit_two_pow_mul_add _ (msk_b G n)]
    by_cases h : i < n
    · rw [if_pos h, msk_t G n i]
      exact ⟨fun q => ⟨by omega, q.2⟩, fun q => ⟨h, q.2⟩⟩
    · rw [if_neg h]
      by_cases e : i = n
      · rw [e, Nat.sub_self]
        by_cases g : G n
        · rw [show @ite _ (G n) (Classical.propDecidable _) 1 0 = 1 from if_pos g]
          exact ⟨fun _ => ⟨by omega, g⟩, fun _ => by decide⟩
        · rw [show @ite _ (G n) (Classical.propDecidable _) 1 0 = 0 from if_neg g]
          exact ⟨fun q => absurd q (by decide), fun q => absurd q.2 g⟩
      · have z : ∀ b : Nat, b ≤ 1 → b.testBit (i - n) = false := fun b hb => Nat.testBit_lt_two_pow (Nat.lt_of_le_of_lt hb (Nat.one_lt_two_pow (by omega)))
        have b1 : @ite _ (G n) (Classical.propDecidable _) 1 0 ≤ 1 := by
          by_cases g : G n
          · rw [show @ite _ (G n) (Classical.propDecidable _) 1 0 = 1 from if_pos g]
            exact Nat.le_refl 1
          · rw [show @ite _ (G n) (Classical.propDecidable _) 1 0 = 0 from if_neg g]
            exact Nat.zero_le 1
        rw [z _ b1]
        exact ⟨fun q => absurd q (by decide), fun q => absurd q.1 (by omega)⟩
theorem sh_k : ∀ k : Fin 6, ((1 : Int32) <<< (Int32.ofNat k.val &&& 31)).toInt = ((2 ^ k.val : Nat) : Int) := by decide +kernel
theorem p2_32 {k : Nat} (h : k ≤ 5) : 2 ^ k ≤ 32 := by
  rcases (show k = 0 ∨ k = 1 ∨ k = 2 ∨ k = 3 ∨ k = 4 ∨ k = 5 by omega) with rfl | rfl | rfl | rfl | rfl | rfl <;> decide
theorem HL_sdr {k : Int32} {K : Nat} (hk : k.toInt = (K : Int)) (hK : K ≤ 5) {H : Nat → Int32} (hH : ∀ i : Nat, i < K → ok24 (H i)) : HL k H ↔ ∃ S : Nat → Nat, sdr K 24 (fun i h => bt (H i) h) (fun _ => True) S := by
  have ek : k = Int32.ofNat K := by
    have e := ofn (x := k) (by omega)
    rw [nt hk] at e
    exact e
  have sk : ((1 : Int32) <<< (k &&& 31)).toInt = ((2 ^ K : Nat) : Int) := by
    rw [ek]
    exact sh_k ⟨K, by omega⟩
  have p2 := p2_32 hK
  have nbe : ∀ (g : Int32) (G : Nat → Prop), (∀ i : Nat, i < K → (bt g i ↔ G i)) → (bcF (uI H g K)).toInt = nb K 24 (fun i h => bt (H i) h) G := fun g G hg => by
    rw [bc_24 (uI_ok hH)]
    refine cN_cg (fun h hh => ?_)
    rw [bi_i]
    refine ind_cg ((uI_bt (by omega)).trans ⟨fun ⟨i, a1, a2, a3⟩ => ⟨i, a1, (hg i a1).mp a2, a3⟩, fun ⟨i, a1, a2, a3⟩ => ⟨i, a1, (hg i a1).mpr a2, a3⟩⟩)
  have cre : ∀ (g : Int32) (G : Nat → Prop), 0 ≤ g.toInt → g.toInt < ((2 ^ K : Nat) : Int) → (∀ i : Nat, i < K → (bt g i ↔ G i)) → (bcF g).toInt = crd K G := fun g G h0 h1 hg => by
    have zg := t_nn h0
    rw [bc_24 ⟨h0, by omega⟩, cN_ext (n := K) (by omega) (fun i h2 h3 => bi_0 (fun q => by
      have w := (bt_t g (by omega)).mp q
      rw [bv_n h0, Nat.testBit_lt_two_pow (Nat.lt_of_lt_of_le (show g.toNatClampNeg < 2 ^ K by omega) (Nat.pow_le_pow_right (by decide) h2))] at w
      exact absurd w (by decide)))]
    refine cN_cg (fun i hi => ?_)
    rw [bi_i]
    exact ind_cg (hg i hi)
  refine ⟨fun hL => ?_, fun ⟨S, hS⟩ => ?_⟩
  · have b := cN_b (f := fun i => ind True) (n := K) (fun i _ => ind_b True)
    refine hall_sdr (K + 1) _ _ (by show cN (fun i => ind True) K < ((K + 1 : Nat) : Int); omega) (fun G _ => ?_)
    by_cases z : msk G K = 0
    · have c0 : crd K G = 0 := cN_z (fun i hi => ind_0 (fun q => by
        have w := (msk_t G K i).mpr ⟨hi, q⟩
        rw [z] at w
        simp at w))
      rw [c0]
      exact (cN_b (fun h _ => ind_b _)).1
    · have mb := msk_b G K
      have gi : (Int32.ofNat (msk G K)).toInt = ((msk G K : Nat) : Int) := Int32.toInt_ofNat_of_lt (by omega)
      have hg : ∀ i : Nat, i < K → (bt (Int32.ofNat (msk G K)) i ↔ G i) := fun i hi => by
        rw [bt_t _ (by omega), bv_n (by omega), nt gi, msk_t]
        exact ⟨fun q => q.2, fun q => ⟨hi, q⟩⟩
      have l := hL (Int32.ofNat (msk G K)) (by omega) (by rw [sk]; omega)
      rw [nt hk, nbe _ G hg, cre _ G (by omega) (by omega) hg] at l
      exact l
  · intro g h1 h2
    rw [sk] at h2
    rw [nt hk, nbe g (fun i => bt g i) (fun _ _ => Iff.rfl), cre g (fun i => bt g i) (by omega) h2 (fun _ _ => Iff.rfl)]
    exact sdr_hall hS _ (fun _ _ => trivial)
/-- what read gathers: k musts, their terms m, their hours H -/
def RD (D : Nat → Nat → Int) (sd n : Int) (K : Nat) (m : Nat → Nat) (H : Nat → Int32) : Prop := ((K : Int) ≤ n ∧ ∀ i : Nat, i < K → (((m i : Nat) : Int) < n ∧ own D sd (m i)) ∧ ok24 (H i) ∧ ∀ h : Nat, h < 24 → (bt (H i) h ↔ alw D sd n (m i) h)) ∧ (∀ i j : Nat, i < j → j < K → m i < m j) ∧ ∀ t : Nat, (t : Int) < n → own D sd t → ∃ i : Nat, i < K ∧ m i = t
section RDS
variable {D : Nat → Nat → Int} {sd : Int} {n K : Nat} {m : Nat → Nat} {H : Nat → Int32}
theorem RD_in (h : RD D sd n K m H) {i j : Nat} (hi : i < K) (hj : j < K) (e : m i = m j) : i = j := by
  rcases Nat.lt_trichotomy i j with q | q | q
  · have := h.2.1 i j q hj
    omega
  · exact q
  · have := h.2.1 j i q hi
    omega
theorem RD_lt (h : RD D sd n K m H) {i j : Nat} (hi : i < K) (hj : j < K) (e : m i < m j) : i < j := by
  rcases Nat.lt_trichotomy i j with q | q | q
  · exact q
  · rw [q] at e
    omega
  · have := h.2.1 j i q hi
    omega
/-- from musts to terms -/
noncomputable def upS (K : Nat) (m S : Nat → Nat) (t : Nat) : Nat := S (Classical.epsilon (fun i => i < K ∧ m i = t))
theorem upS_m (h : RD D sd n K m H) {S : Nat → Nat} {i : Nat} (hi : i < K) : upS K m S (m i) = S i := by
  have q : Classical.epsilon (fun x => x < K ∧ m x = m i) < K ∧ m (Classical.epsilon (fun x => x < K ∧ m x = m i)) = m i := Classical.epsilon_spec (p := fun x => x < K ∧ m x = m i) ⟨i, hi, rfl⟩
  unfold upS
  rw [RD_in h q.1 hi q.2]
theorem sdr_up (h : RD D sd n K m H) {S : Nat → Nat} (hS : sdr K 24 (fun i x => bt (H i) x) (fun _ => True) S) : sdr n 24 (alw D sd n) (own D sd) (upS K m S) := by
  intro t ht hO
  obtain ⟨i, hi, rfl⟩ := h.2.2 t (by omega) hO
  rw [upS_m h hi]
  obtain ⟨⟨s1, s2⟩, s3⟩ := hS i hi trivial
  refine ⟨⟨s1, ((h.1.2 i hi).2.2 _ s1).mp s2⟩, fun t2 ht2 hO2 hne => ?_⟩
  obtain ⟨j, hj, rfl⟩ := h.2.2 t2 (by omega) hO2
  rw [upS_m h hj]
  exact s3 j hj trivial (fun q => hne (by rw [q]))
theorem sdr_dn (h : RD D sd n K m H) {S : Nat → Nat} (hS : sdr n 24 (alw D sd n) (own D sd) S) : sdr K 24 (fun i x => bt (H i) x) (fun _ => True) (fun i => S (m i)) := by
  intro i hi _
  obtain ⟨⟨a1, a2⟩, a3, a4⟩ := h.1.2 i hi
  obtain ⟨⟨s1, s2⟩, s3⟩ := hS (m i) (by omega) a2
  refine ⟨⟨s1, (a4 _ s1).mpr s2⟩, fun j hj _ hne => ?_⟩
  obtain ⟨⟨b1, b2⟩, -⟩ := h.1.2 j hj
  exact s3 (m j) (by omega) b2 (fun q => hne (RD_in h hi hj q))
theorem RD_iff (h : RD D sd n K m H) : (∃ S : Nat → Nat, sdr K 24 (fun i x => bt (H i) x) (fun _ => True) S) ↔ ∃ S : Nat → Nat, sdr n 24 (alw D sd n) (own D sd) S := ⟨fun ⟨S, q⟩ => ⟨_, sdr_up h q⟩, fun ⟨S, q⟩ => ⟨_, sdr_dn h q⟩⟩
theorem lmin_dn (h : RD D sd n K m H) {M : Nat → Nat} (hM : lmin n (alw D sd n) (own D sd) M) : lmin K (fun i x => bt (H i) x) (fun _ => True) (fun i => M (m i)) := by
  refine ⟨sdr_dn h hM.1, fun S hS => ?_⟩
  have l := hM.2 _ (sdr_up h hS)
  intro i hi _ hp
  obtain ⟨⟨a1, a2⟩, -⟩ := h.1.2 i hi
  have q := l (m i) (by omega) a2 (fun x hx hO => by
    obtain ⟨j, hj, rfl⟩ := h.2.2 x (by omega) hO
    rw [upS_m h hj]
    exact hp j (RD_lt h hj hi hx) trivial)
  rw [upS_m h hi] at q
  exact q
end RDS

/-- the hours of a term as bits -/
def hB (a b : Int32) : Int32 := (1 <<< ((b + 1) &&& 31)) - (1 <<< (a &&& 31))
theorem hB_n : ∀ a b : Fin 24, a.val ≤ b.val → (0 ≤ (hB (Int32.ofNat a.val) (Int32.ofNat b.val)).toInt ∧ (hB (Int32.ofNat a.val) (Int32.ofNat b.val)).toInt < 16777216) ∧ ∀ h : Fin 24, ((btx (hB (Int32.ofNat a.val) (Int32.ofNat b.val)) (Int32.ofNat h.val)).toInt = 1 ↔ (a.val ≤ h.val ∧ h.val ≤ b.val)) := by decide +kernel
theorem hB_b {a b : Int32} (ha : 0 ≤ a.toInt) (hab : a.toInt ≤ b.toInt) (hb : b.toInt ≤ 23) : ok24 (hB a b) ∧ ∀ h : Nat, h < 24 → (bt (hB a b) h ↔ (a.toInt ≤ (h : Int) ∧ (h : Int) ≤ b.toInt)) := by
  have za := t_nn ha
  have zb := t_nn (x := b) (by omega)
  have k := hB_n ⟨a.toNatClampNeg, by omega⟩ ⟨b.toNatClampNeg, by omega⟩ (by show a.toNatClampNeg ≤ b.toNatClampNeg; omega)
  have ea := ofn ha
  have eb := ofn (x := b) (by omega)
  have k1 : ok24 (hB (Int32.ofNat a.toNatClampNeg) (Int32.ofNat b.toNatClampNeg)) := k.1
  have k2 : ∀ h : Nat, h < 24 → (bt (hB (Int32.ofNat a.toNatClampNeg) (Int32.ofNat b.toNatClampNeg)) h ↔ (a.toNatClampNeg ≤ h ∧ h ≤ b.toNatClampNeg)) := fun h hh => k.2 ⟨h, hh⟩
  rw [← ea, ← eb] at k1 k2
  refine ⟨k1, fun h hh => (k2 h hh).trans ⟨fun q => ⟨by omega, by omega⟩, fun q => ⟨by omega, by omega⟩⟩⟩
def AL (D : Nat → Nat → Int) (sd : Int) (t : Nat) (b : Int32) (n : Int) : Prop := ok24 b ∧ ∀ h : Nat, h < 24 → (bt b h ↔ ((D t 3 ≤ (h : Int) ∧ (h : Int) ≤ D t 4) ∧ ¬ bar D sd n t h))
section ALS
variable {D : Nat → Nat → Int} {sd n m : Int} {t o : Nat} {b x : Int32}
theorem AL_0 (h : ok24 b ∧ ∀ h : Nat, h < 24 → (bt b h ↔ (D t 3 ≤ (h : Int) ∧ (h : Int) ≤ D t 4))) (hn : n ≤ 0) : AL D sd t b n := ⟨h.1, fun x hx => (h.2 x hx).trans ⟨fun q => ⟨q, bar_0 hn⟩, fun q => q.1⟩⟩
theorem AL_no (ho : (o : Int) = n) (hm : m = n + 1) (hn : ¬ (D o 0 = sd ∧ D o 1 = 0 ∧ D o 2 = D t 2)) (h : AL D sd t b n) : AL D sd t b m := by
  refine ⟨h.1, fun x hx => (h.2 x hx).trans (and_congr Iff.rfl (not_congr ?_))⟩
  rw [bar_s ho hm]
  exact ⟨Or.inl, fun q => q.elim id (fun w => absurd w.1 hn)⟩
theorem AL_yes (ho : (o : Int) = n) (hm : m = n + 1) (hc : D o 0 = sd ∧ D o 1 = 0 ∧ D o 2 = D t 2) (hx : ∀ h : Nat, h < 24 → (bt x h ↔ (D o 3 ≤ (h : Int) ∧ (h : Int) ≤ D o 4))) (h : AL D sd t b n) : AL D sd t (b &&& (x ^^^ -1)) m := by
  refine ⟨ok24_and h.1, fun y hy => ?_⟩
  rw [bt_and _ _ (by omega), bt_not _ (by omega), h.2 y hy, hx y hy, bar_s ho hm]
  unfold bro
  exact ⟨fun ⟨⟨a, c⟩, d⟩ => ⟨a, fun q => q.elim c (fun w => d w.2)⟩, fun ⟨a, c⟩ => ⟨⟨a, fun q => c (Or.inl q)⟩, fun q => c (Or.inr ⟨hc, q⟩)⟩⟩
end ALS
/-- read, as far as term y -/
def RDp (D : Nat → Nat → Int) (sd n y : Int) (K : Nat) (m : Nat → Nat) (H : Nat → Int32) : Prop := ((K : Int) ≤ y ∧ ∀ i : Nat, i < K → (((m i : Nat) : Int) < y ∧ own D sd (m i)) ∧ ok24 (H i) ∧ ∀ h : Nat, h < 24 → (bt (H i) h ↔ alw D sd n (m i) h)) ∧ (∀ i j : Nat, i < j → j < K → m i < m j) ∧ ∀ t : Nat, (t : Int) < y → own D sd t → ∃ i : Nat, i < K ∧ m i = t
section RDP
variable {D : Nat → Nat → Int} {sd n y z : Int} {K L : Nat} {m p : Nat → Nat} {H G : Nat → Int32}
theorem RDp_0 (hK : K = 0) (hy : y = 0) : RDp D sd n y K m H := ⟨⟨by omega, fun i hi => absurd hi (by omega)⟩, fun i j h1 h2 => absurd h2 (by omega), fun t ht => absurd ht (by omega)⟩
theorem RDp_cg (h : RDp D sd n y K m H) (hL : L = K) (hp : ∀ i : Nat, i < K → p i = m i) (hG : ∀ i : Nat, i < K → G i = H i) : RDp D sd n y L p G := by
  rw [hL]
  refine ⟨⟨h.1.1, fun i hi => ?_⟩, fun i j h1 h2 => ?_, fun t ht hO => ?_⟩
  · rw [hp i hi, hG i hi]
    exact h.1.2 i hi
  · rw [hp i (by omega), hp j h2]
    exact h.2.1 i j h1 h2
  · obtain ⟨i, a1, a2⟩ := h.2.2 t ht hO
    exact ⟨i, a1, by rw [hp i a1]; exact a2⟩
theorem RDp_no {t : Nat} (ht : (t : Int) = y) (hz : z = y + 1) (hn : ¬ own D sd t) (h : RDp D sd n y K m H) : RDp D sd n z K m H := by
  refine ⟨⟨by have := h.1.1; omega, fun i hi => ⟨⟨by have := (h.1.2 i hi).1.1; omega, (h.1.2 i hi).1.2⟩, (h.1.2 i hi).2⟩⟩, h.2.1, fun q hq hO => ?_⟩
  by_cases e : (q : Int) < y
  · exact h.2.2 q e hO
  · rw [show q = t from by omega] at hO
    exact absurd hO hn
theorem RDp_new {t : Nat} {b : Int32} (ht : (t : Int) = y) (hz : z = y + 1) (hO : own D sd t) (hb : ok24 b ∧ ∀ h : Nat, h < 24 → (bt b h ↔ alw D sd n t h)) (h : RDp D sd n y K m H) (hL : L = K + 1) (hp : ∀ i : Nat, i < K → p i = m i) (hpK : p K = t) (hG : ∀ i : Nat, i < K → G i = H i) (hGK : G K = b) : RDp D sd n z L p G := by
  rw [hL]
  have h1 := h.1.1
  refine ⟨⟨by omega, fun i hi => ?_⟩, fun i j q1 q2 => ?_, fun q hq hw => ?_⟩
  · by_cases e : i = K
    · rw [e, hpK, hGK]
      exact ⟨⟨by omega, hO⟩, hb⟩
    · rw [hp i (by omega), hG i (by omega)]
      obtain ⟨⟨a1, a2⟩, a3⟩ := h.1.2 i (by omega)
      exact ⟨⟨by omega, a2⟩, a3⟩
  · rw [hp i (by omega)]
    by_cases e : j = K
    · rw [e, hpK]
      have := (h.1.2 i (by omega)).1.1
      omega
    · rw [hp j (by omega)]
      exact h.2.1 i j q1 (by omega)
  · by_cases e : (q : Int) < y
    · obtain ⟨i, a1, a2⟩ := h.2.2 q e hw
      exact ⟨i, by omega, by rw [hp i a1]; exact a2⟩
    · exact ⟨K, by omega, by rw [hpK]; omega⟩
end RDP
/-- a single hour -/
theorem pn_n : ∀ x : Fin 24, (0 ≤ ((1 : Int32) <<< (Int32.ofNat x.val &&& 31)).toInt ∧ ((1 : Int32) <<< (Int32.ofNat x.val &&& 31)).toInt < 16777216) ∧ ∀ d : Fin 24, ((btx ((1 : Int32) <<< (Int32.ofNat x.val &&& 31)) (Int32.ofNat d.val)).toInt = 1 ↔ d.val = x.val) := by decide +kernel
def pin (x : Nat) : Int32 := 1 <<< (Int32.ofNat x &&& 31)
theorem pin_b {x : Nat} (hx : x < 24) : ok24 (pin x) ∧ ∀ d : Nat, d < 24 → (bt (pin x) d ↔ d = x) := ⟨(pn_n ⟨x, hx⟩).1, fun d hd => (pn_n ⟨x, hx⟩).2 ⟨d, hd⟩⟩
section PIN
variable {k : Int32} {K y : Nat} {H G : Nat → Int32} {M : Nat → Nat}
/-- the musts before y stand where M has them -/
def pnd (K y : Nat) (H G : Nat → Int32) (M : Nat → Nat) : Prop := (∀ j : Nat, j < y → G j = pin (M j)) ∧ ∀ j : Nat, y ≤ j → j < K → G j = H j
theorem pnd_ok (hH : ∀ i : Nat, i < K → ok24 (H i)) (hM : lmin K (fun i x => bt (H i) x) (fun _ => True) M) (hG : pnd K y H G M) (hy : y < K) {r : Nat} (hr : r < 24) : ∀ i : Nat, i < K → ok24 (upd G y (pin r) i) := fun i hi => by
  by_cases e : i = y
  · rw [e, pk_us]
    exact (pin_b hr).1
  · rw [pk_un e]
    by_cases l : i < y
    · rw [hG.1 i l]
      exact (pin_b (hM.1 i hi trivial).1.1).1
    · rw [hG.2 i (by omega) hi]
      exact hH i hi
theorem pnd_M (hk : k.toInt = (K : Int)) (hK : K ≤ 5) (hH : ∀ i : Nat, i < K → ok24 (H i)) (hM : lmin K (fun i x => bt (H i) x) (fun _ => True) M) (hG : pnd K y H G M) (hy : y < K) : (M y < 24 ∧ bt (G y) (M y)) ∧ HL k (upd G y (pin (M y))) := by
  have hMy := (hM.1 y hy trivial).1
  refine ⟨⟨hMy.1, by rw [hG.2 y (Nat.le_refl y) hy]; exact hMy.2⟩, (HL_sdr hk hK (pnd_ok hH hM hG hy hMy.1)).mpr ⟨M, fun i hi _ => ?_⟩⟩
  have hMi := hM.1 i hi trivial
  refine ⟨⟨hMi.1.1, ?_⟩, hMi.2⟩
  show bt (upd G y (pin (M y)) i) (M i)
  by_cases e : i = y
  · rw [e, pk_us]
    exact ((pin_b hMy.1).2 _ hMy.1).mpr rfl
  · rw [pk_un e]
    by_cases l : i < y
    · rw [hG.1 i l]
      exact ((pin_b hMi.1.1).2 _ hMi.1.1).mpr rfl
    · rw [hG.2 i (by omega) hi]
      exact hMi.1.2
theorem pnd_r (hk : k.toInt = (K : Int)) (hK : K ≤ 5) (hH : ∀ i : Nat, i < K → ok24 (H i)) (hM : lmin K (fun i x => bt (H i) x) (fun _ => True) M) (hG : pnd K y H G M) (hy : y < K) {r : Nat} (hr : r < 24) (hb : bt (G y) r) (hL : HL k (upd G y (pin r))) (hn : ∀ h : Nat, h < r → bt (G y) h → ¬ HL k (upd G y (pin h))) : r = M y := by
  obtain ⟨⟨m1, m2⟩, m3⟩ := pnd_M hk hK hH hM hG hy
  have l1 : r ≤ M y := Nat.le_of_not_lt (fun q => hn (M y) q m2 m3)
  obtain ⟨S, hS⟩ := (HL_sdr hk hK (pnd_ok hH hM hG hy hr)).mp hL
  have hSj : ∀ j : Nat, j < y → S j = M j := fun j hj => by
    have q : bt (upd G y (pin r) j) (S j) := (hS j (by omega) trivial).1.2
    rw [pk_un (by omega), hG.1 j hj] at q
    exact ((pin_b (hM.1 j (by omega) trivial).1.1).2 _ (hS j (by omega) trivial).1.1).mp q
  have hSy : S y = r := by
    have q : bt (upd G y (pin r) y) (S y) := (hS y hy trivial).1.2
    rw [pk_us] at q
    exact ((pin_b hr).2 _ (hS y hy trivial).1.1).mp q
  have hSH : sdr K 24 (fun i x => bt (H i) x) (fun _ => True) S := fun i hi _ => by
    refine ⟨⟨(hS i hi trivial).1.1, ?_⟩, (hS i hi trivial).2⟩
    show bt (H i) (S i)
    by_cases l : i < y
    · rw [hSj i l]
      exact (hM.1 i hi trivial).1.2
    · by_cases e : i = y
      · rw [e, hSy, ← hG.2 y (Nat.le_refl y) hy]
        exact hb
      · have q : bt (upd G y (pin r) i) (S i) := (hS i hi trivial).1.2
        rw [pk_un e, hG.2 i (by omega) hi] at q
        exact q
  have l2 := hM.2 S hSH y hy trivial (fun q hq _ => hSj q hq)
  omega
theorem pnd_s (hG : pnd K y H G M) {F : Nat → Int32} (hF : ∀ j : Nat, F j = if j = y then pin (M y) else G j) : pnd K (y + 1) H F M := by
  refine ⟨fun j hj => ?_, fun j h1 h2 => ?_⟩
  · rw [hF]
    by_cases e : j = y
    · rw [if_pos e, e]
    · rw [if_neg e]
      exact hG.1 j (by omega)
  · rw [hF, if_neg (by omega)]
    exact hG.2 j (by omega) h2
end PIN
