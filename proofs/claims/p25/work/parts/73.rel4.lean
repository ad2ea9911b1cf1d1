
set_option maxHeartbeats 4000000 in
theorem RL_box0 {v u : Nat → Nat → Int32} {s z : Nat → Int32} {X : Nat} {x : Int32} (hX : X < 6) (hu : ∀ k j : Nat, u k j = if k = 31 + 15 * X ∧ j = 0 then x else v k j) (hs : ∀ n : Nat, z n = if n = 74 + 2 * X then x else s n) (hR : RLk 13 v s) : RLk 13 u z := by
  have A0 : (z 0).toInt = (s 0).toInt := by rw [hs, if_neg (by omega)]
  have A1 : (z 1).toInt = (s 1).toInt := by rw [hs, if_neg (by omega)]
  have A2 : (z 2).toInt = (s 2).toInt := by rw [hs, if_neg (by omega)]
  have A36 : ∀ c : Nat, c < 6 → (z (36 + 7 * c)).toInt = (s (36 + 7 * c)).toInt := fun c hc => by rw [hs, if_neg (by omega)]
  have A38 : ∀ c : Nat, c < 6 → (z (38 + 7 * c)).toInt = (s (38 + 7 * c)).toInt := fun c hc => by rw [hs, if_neg (by omega)]
  intro k j n h
  unfold lk at h
  rcases h with ⟨rfl, hj, rfl⟩ | ⟨p, hp, ha, hj, rfl, rfl⟩ | ⟨m, hm, ha, hj, rfl, rfl⟩ | ⟨m, hm, ha, rfl, rfl, rfl⟩ | ⟨c, hc, ha, rfl, rfl, rfl⟩ | ⟨c, hc, ha, rfl, rfl, rfl⟩ | ⟨c, hc, ha, rfl, rfl, rfl⟩ | ⟨c, hc, ha, rfl, rfl, rfl⟩ | ⟨c, hc, ha, hj, rfl, rfl⟩ | ⟨c, i, hc, ha, hi, hj, hr, rfl, rfl⟩ | ⟨c, i, hc, ha, hi, hj, rfl, rfl⟩ | ⟨c, t, hc, ha, ht, hr, hj, rfl, rfl⟩
  · have d1 : u (13) n = v (13) n := by rw [hu, if_neg (by omega)]
    have d2 : z (n) = s (n) := by rw [hs, if_neg (by omega)]
    exact d1.trans ((hR _ _ _ (lk_a hj)).trans d2.symm)
  · have d1 : u (13 + 4 + p) j = v (13 + 4 + p) j := by rw [hu, if_neg (by omega)]
    have d2 : z (4 + 2 * p + j) = s (4 + 2 * p + j) := by rw [hs, if_neg (by omega)]
    exact d1.trans ((hR _ _ _ (lk_p hp (by omega) hj)).trans d2.symm)
  · have d1 : u (13 + 12 + m) j = v (13 + 12 + m) j := by rw [hu, if_neg (by omega)]
    have d2 : z (20 + 2 * m + j) = s (20 + 2 * m + j) := by rw [hs, if_neg (by omega)]
    exact d1.trans ((hR _ _ _ (lk_m hm (by omega) hj)).trans d2.symm)
  · have d1 : u (13 + 12 + m) 2 = v (13 + 12 + m) 2 := by rw [hu, if_neg (by omega)]
    have d2 : z (28 + m) = s (28 + m) := by rw [hs, if_neg (by omega)]
    exact d1.trans ((hR _ _ _ (lk_k_ hm (by omega))).trans d2.symm)
  · have d1 : u (13 + 16 + 15 * c) 0 = v (13 + 16 + 15 * c) 0 := by rw [hu, if_neg (by omega)]
    have d2 : z (34 + 7 * c) = s (34 + 7 * c) := by rw [hs, if_neg (by omega)]
    exact d1.trans ((hR _ _ _ (lk_c0 hc (by omega))).trans d2.symm)
  · have d1 : u (13 + 16 + 15 * c) 2 = v (13 + 16 + 15 * c) 2 := by rw [hu, if_neg (by omega)]
    have d2 : z (36 + 7 * c) = s (36 + 7 * c) := by rw [hs, if_neg (by omega)]
    exact d1.trans ((hR _ _ _ (lk_c2 hc (by omega))).trans d2.symm)
  · have d1 : u (13 + 16 + 15 * c) 3 = v (13 + 16 + 15 * c) 3 := by rw [hu, if_neg (by omega)]
    have d2 : z (37 + 7 * c) = s (37 + 7 * c) := by rw [hs, if_neg (by omega)]
    exact d1.trans ((hR _ _ _ (lk_c3 hc (by omega))).trans d2.symm)
  · have d1 : u (13 + 16 + 15 * c) 5 = v (13 + 16 + 15 * c) 5 := by rw [hu, if_neg (by omega)]
    have d2 : z (38 + 7 * c) = s (38 + 7 * c) := by rw [hs, if_neg (by omega)]
    exact d1.trans ((hR _ _ _ (lk_c5 hc (by omega))).trans d2.symm)
  · have d1 : u (13 + 17 + 15 * c) j = v (13 + 17 + 15 * c) j := by rw [hu, if_neg (by omega)]
    have d2 : z (32 + 7 * c + j) = s (32 + 7 * c + j) := by rw [hs, if_neg (by omega)]
    exact d1.trans ((hR _ _ _ (lk_q hc (by omega) hj)).trans d2.symm)
  · have a36 := A36 c hc
    have d1 : u (13 + 20 + 15 * c + i) j = v (13 + 20 + 15 * c + i) j := by rw [hu, if_neg (by omega)]
    have d2 : z (86 + 10 * c + 2 * j + i) = s (86 + 10 * c + 2 * j + i) := by rw [hs, if_neg (by omega)]
    exact d1.trans ((hR _ _ _ (lk_o hc (by omega) hi hj (by omega))).trans d2.symm)
  · have d1 : u (13 + 23 + 15 * c + i) j = v (13 + 23 + 15 * c + i) j := by rw [hu, if_neg (by omega)]
    have d2 : z (308 + 48 * c + 24 * i + j) = s (308 + 48 * c + 24 * i + j) := by rw [hs, if_neg (by omega)]
    exact d1.trans ((hR _ _ _ (lk_l hc (by omega) hi hj)).trans d2.symm)
  · have a38 := A38 c hc
    have d1 : u (13 + 26 + 15 * c + t) j = v (13 + 26 + 15 * c + t) j := by rw [hu, if_neg (by omega)]
    have d2 : z (158 + 25 * c + 5 * t + j) = s (158 + 25 * c + 5 * t + j) := by rw [hs, if_neg (by omega)]
    exact d1.trans ((hR _ _ _ (lk_t hc (by omega) ht (by omega) hj)).trans d2.symm)

set_option maxHeartbeats 4000000 in
theorem RL_no0 {v u : Nat → Nat → Int32} {s z : Nat → Int32} {X R : Nat} {x y g a : Int32} (hX : X < 6) (hR5 : R < 5) (hn : (s (36 + 7 * X)).toInt = (R : Int)) (hx : y.toInt = (s (36 + 7 * X)).toInt + 1) (hu : ∀ k j : Nat, u k j = if k = 31 + 15 * X ∧ j = 1 then -1 else if k = 31 + 15 * X ∧ j = 0 then -1 else if k = 29 + 15 * X ∧ j = 2 then y else if k = 33 + 15 * X + 1 ∧ j = R then g else if k = 33 + 15 * X + 0 ∧ j = R then a else if k = 31 + 15 * X ∧ j = 0 then x else v k j) (hs : ∀ n : Nat, z n = if n = 75 + 2 * X then -5 else if n = 74 + 2 * X then -5 else if n = 36 + 7 * X then y else if n = 87 + 10 * X + 2 * R then g else if n = 86 + 10 * X + 2 * R then a else if n = 74 + 2 * X then x else s n) (hR : RLk 13 v s) : RLk 13 u z := by
  have A0 : (z 0).toInt = (s 0).toInt := by rw [hs, if_neg (by omega), if_neg (by omega), if_neg (by omega), if_neg (by omega), if_neg (by omega), if_neg (by omega)]
  have A1 : (z 1).toInt = (s 1).toInt := by rw [hs, if_neg (by omega), if_neg (by omega), if_neg (by omega), if_neg (by omega), if_neg (by omega), if_neg (by omega)]
  have A2 : (z 2).toInt = (s 2).toInt := by rw [hs, if_neg (by omega), if_neg (by omega), if_neg (by omega), if_neg (by omega), if_neg (by omega), if_neg (by omega)]
  have A36 : ∀ c : Nat, c < 6 → (z (36 + 7 * c)).toInt = (s (36 + 7 * c)).toInt ∨ (c = X ∧ (z (36 + 7 * c)).toInt = (s (36 + 7 * c)).toInt + 1) := fun c hc => by by_cases q : c = X; subst q; refine Or.inr ⟨rfl, ?_⟩; rw [hs, if_neg (by omega), if_neg (by omega), if_pos rfl]; exact hx; refine Or.inl ?_; rw [hs, if_neg (by omega), if_neg (by omega), if_neg (by omega), if_neg (by omega), if_neg (by omega), if_neg (by omega)]
  have A38 : ∀ c : Nat, c < 6 → (z (38 + 7 * c)).toInt = (s (38 + 7 * c)).toInt := fun c hc => by rw [hs, if_neg (by omega), if_neg (by omega), if_neg (by omega), if_neg (by omega), if_neg (by omega), if_neg (by omega)]
  intro k j n h
  unfold lk at h
  rcases h with ⟨rfl, hj, rfl⟩ | ⟨p, hp, ha, hj, rfl, rfl⟩ | ⟨m, hm, ha, hj, rfl, rfl⟩ | ⟨m, hm, ha, rfl, rfl, rfl⟩ | ⟨c, hc, ha, rfl, rfl, rfl⟩ | ⟨c, hc, ha, rfl, rfl, rfl⟩ | ⟨c, hc, ha, rfl, rfl, rfl⟩ | ⟨c, hc, ha, rfl, rfl, rfl⟩ | ⟨c, hc, ha, hj, rfl, rfl⟩ | ⟨c, i, hc, ha, hi, hj, hr, rfl, rfl⟩ | ⟨c, i, hc, ha, hi, hj, rfl, rfl⟩ | ⟨c, t, hc, ha, ht, hr, hj, rfl, rfl⟩
  · have d1 : u (13) n = v (13) n := by rw [hu, if_neg (by omega), if_neg (by omega), if_neg (by omega), if_neg (by omega), if_neg (by omega), if_neg (by omega)]
    have d2 : z (n) = s (n) := by rw [hs, if_neg (by omega), if_neg (by omega), if_neg (by omega), if_neg (by omega), if_neg (by omega), if_neg (by omega)]
    exact d1.trans ((hR _ _ _ (lk_a hj)).trans d2.symm)
  · have d1 : u (13 + 4 + p) j = v (13 + 4 + p) j := by rw [hu, if_neg (by omega), if_neg (by omega), if_neg (by omega), if_neg (by omega), if_neg (by omega), if_neg (by omega)]
    have d2 : z (4 + 2 * p + j) = s (4 + 2 * p + j) := by rw [hs, if_neg (by omega), if_neg (by omega), if_neg (by omega), if_neg (by omega), if_neg (by omega), if_neg (by omega)]
    exact d1.trans ((hR _ _ _ (lk_p hp (by omega) hj)).trans d2.symm)
  · have d1 : u (13 + 12 + m) j = v (13 + 12 + m) j := by rw [hu, if_neg (by omega), if_neg (by omega), if_neg (by omega), if_neg (by omega), if_neg (by omega), if_neg (by omega)]
    have d2 : z (20 + 2 * m + j) = s (20 + 2 * m + j) := by rw [hs, if_neg (by omega), if_neg (by omega), if_neg (by omega), if_neg (by omega), if_neg (by omega), if_neg (by omega)]
    exact d1.trans ((hR _ _ _ (lk_m hm (by omega) hj)).trans d2.symm)
  · have d1 : u (13 + 12 + m) 2 = v (13 + 12 + m) 2 := by rw [hu, if_neg (by omega), if_neg (by omega), if_neg (by omega), if_neg (by omega), if_neg (by omega), if_neg (by omega)]
    have d2 : z (28 + m) = s (28 + m) := by rw [hs, if_neg (by omega), if_neg (by omega), if_neg (by omega), if_neg (by omega), if_neg (by omega), if_neg (by omega)]
    exact d1.trans ((hR _ _ _ (lk_k_ hm (by omega))).trans d2.symm)
  · have d1 : u (13 + 16 + 15 * c) 0 = v (13 + 16 + 15 * c) 0 := by rw [hu, if_neg (by omega), if_neg (by omega), if_neg (by omega), if_neg (by omega), if_neg (by omega), if_neg (by omega)]
    have d2 : z (34 + 7 * c) = s (34 + 7 * c) := by rw [hs, if_neg (by omega), if_neg (by omega), if_neg (by omega), if_neg (by omega), if_neg (by omega), if_neg (by omega)]
    exact d1.trans ((hR _ _ _ (lk_c0 hc (by omega))).trans d2.symm)
  · by_cases e0 : 13 + 16 + 15 * c = 29 + 15 * X ∧ 2 = 2
    · have d1 : u (13 + 16 + 15 * c) 2 = y := by rw [hu, if_neg (by omega), if_neg (by omega), if_pos (by omega)]
      have d2 : z (36 + 7 * c) = y := by rw [hs, if_neg (by omega), if_neg (by omega), if_pos (by omega)]
      exact d1.trans d2.symm
    · skip
      have d1 : u (13 + 16 + 15 * c) 2 = v (13 + 16 + 15 * c) 2 := by rw [hu, if_neg (by omega), if_neg (by omega), if_neg (by omega), if_neg (by omega), if_neg (by omega), if_neg (by omega)]
      have d2 : z (36 + 7 * c) = s (36 + 7 * c) := by rw [hs, if_neg (by omega), if_neg (by omega), if_neg (by omega), if_neg (by omega), if_neg (by omega), if_neg (by omega)]
      exact d1.trans ((hR _ _ _ (lk_c2 hc (by omega))).trans d2.symm)
  · have d1 : u (13 + 16 + 15 * c) 3 = v (13 + 16 + 15 * c) 3 := by rw [hu, if_neg (by omega), if_neg (by omega), if_neg (by omega), if_neg (by omega), if_neg (by omega), if_neg (by omega)]
    have d2 : z (37 + 7 * c) = s (37 + 7 * c) := by rw [hs, if_neg (by omega), if_neg (by omega), if_neg (by omega), if_neg (by omega), if_neg (by omega), if_neg (by omega)]
    exact d1.trans ((hR _ _ _ (lk_c3 hc (by omega))).trans d2.symm)
  · have d1 : u (13 + 16 + 15 * c) 5 = v (13 + 16 + 15 * c) 5 := by rw [hu, if_neg (by omega), if_neg (by omega), if_neg (by omega), if_neg (by omega), if_neg (by omega), if_neg (by omega)]
    have d2 : z (38 + 7 * c) = s (38 + 7 * c) := by rw [hs, if_neg (by omega), if_neg (by omega), if_neg (by omega), if_neg (by omega), if_neg (by omega), if_neg (by omega)]
    exact d1.trans ((hR _ _ _ (lk_c5 hc (by omega))).trans d2.symm)
  · have d1 : u (13 + 17 + 15 * c) j = v (13 + 17 + 15 * c) j := by rw [hu, if_neg (by omega), if_neg (by omega), if_neg (by omega), if_neg (by omega), if_neg (by omega), if_neg (by omega)]
    have d2 : z (32 + 7 * c + j) = s (32 + 7 * c + j) := by rw [hs, if_neg (by omega), if_neg (by omega), if_neg (by omega), if_neg (by omega), if_neg (by omega), if_neg (by omega)]
    exact d1.trans ((hR _ _ _ (lk_q hc (by omega) hj)).trans d2.symm)
  · have a36 := A36 c hc
    have hnc : c = X → (s (36 + 7 * c)).toInt = (R : Int) := fun q => by rw [q]; exact hn
    by_cases e0 : 13 + 20 + 15 * c + i = 33 + 15 * X + 1 ∧ j = R
    · have d1 : u (13 + 20 + 15 * c + i) j = g := by rw [hu, if_neg (by omega), if_neg (by omega), if_neg (by omega), if_pos (by omega)]
      have d2 : z (86 + 10 * c + 2 * j + i) = g := by rw [hs, if_neg (by omega), if_neg (by omega), if_neg (by omega), if_pos (by omega)]
      exact d1.trans d2.symm
    · skip
      by_cases e1 : 13 + 20 + 15 * c + i = 33 + 15 * X + 0 ∧ j = R
      · have d1 : u (13 + 20 + 15 * c + i) j = a := by rw [hu, if_neg (by omega), if_neg (by omega), if_neg (by omega), if_neg (by omega), if_pos (by omega)]
        have d2 : z (86 + 10 * c + 2 * j + i) = a := by rw [hs, if_neg (by omega), if_neg (by omega), if_neg (by omega), if_neg (by omega), if_pos (by omega)]
        exact d1.trans d2.symm
      · skip
        have d1 : u (13 + 20 + 15 * c + i) j = v (13 + 20 + 15 * c + i) j := by rw [hu, if_neg (by omega), if_neg (by omega), if_neg (by omega), if_neg (by omega), if_neg (by omega), if_neg (by omega)]
        have d2 : z (86 + 10 * c + 2 * j + i) = s (86 + 10 * c + 2 * j + i) := by rw [hs, if_neg (by omega), if_neg (by omega), if_neg (by omega), if_neg (by omega), if_neg (by omega), if_neg (by omega)]
        exact d1.trans ((hR _ _ _ (lk_o hc (by omega) hi hj (by omega))).trans d2.symm)
  · have d1 : u (13 + 23 + 15 * c + i) j = v (13 + 23 + 15 * c + i) j := by rw [hu, if_neg (by omega), if_neg (by omega), if_neg (by omega), if_neg (by omega), if_neg (by omega), if_neg (by omega)]
    have d2 : z (308 + 48 * c + 24 * i + j) = s (308 + 48 * c + 24 * i + j) := by rw [hs, if_neg (by omega), if_neg (by omega), if_neg (by omega), if_neg (by omega), if_neg (by omega), if_neg (by omega)]
    exact d1.trans ((hR _ _ _ (lk_l hc (by omega) hi hj)).trans d2.symm)
  · have a38 := A38 c hc
    have d1 : u (13 + 26 + 15 * c + t) j = v (13 + 26 + 15 * c + t) j := by rw [hu, if_neg (by omega), if_neg (by omega), if_neg (by omega), if_neg (by omega), if_neg (by omega), if_neg (by omega)]
    have d2 : z (158 + 25 * c + 5 * t + j) = s (158 + 25 * c + 5 * t + j) := by rw [hs, if_neg (by omega), if_neg (by omega), if_neg (by omega), if_neg (by omega), if_neg (by omega), if_neg (by omega)]
    exact d1.trans ((hR _ _ _ (lk_t hc (by omega) ht (by omega) hj)).trans d2.symm)

set_option maxHeartbeats 4000000 in
theorem RL_yes0 {v u : Nat → Nat → Int32} {s z : Nat → Int32} {X R : Nat} {x y g a w : Int32} (hX : X < 6) (hR5 : R < 5) (hn : (s (36 + 7 * X)).toInt = (R : Int)) (hx : y.toInt = (s (36 + 7 * X)).toInt + 1) (hu : ∀ k j : Nat, u k j = if k = 29 + 15 * X ∧ j = 1 then w else if k = 29 + 15 * X ∧ j = 0 then 1 else if k = 29 + 15 * X ∧ j = 2 then y else if k = 33 + 15 * X + 1 ∧ j = R then g else if k = 33 + 15 * X + 0 ∧ j = R then a else if k = 31 + 15 * X ∧ j = 0 then x else v k j) (hs : ∀ n : Nat, z n = if n = 35 + 7 * X then w else if n = 34 + 7 * X then 1 else if n = 75 + 2 * X then -5 else if n = 74 + 2 * X then -5 else if n = 36 + 7 * X then y else if n = 87 + 10 * X + 2 * R then g else if n = 86 + 10 * X + 2 * R then a else if n = 74 + 2 * X then x else s n) (hR : RLk 13 v s) : RLk 13 u z := by
  have A0 : (z 0).toInt = (s 0).toInt := by rw [hs, if_neg (by omega), if_neg (by omega), if_neg (by omega), if_neg (by omega), if_neg (by omega), if_neg (by omega), if_neg (by omega), if_neg (by omega)]
  have A1 : (z 1).toInt = (s 1).toInt := by rw [hs, if_neg (by omega), if_neg (by omega), if_neg (by omega), if_neg (by omega), if_neg (by omega), if_neg (by omega), if_neg (by omega), if_neg (by omega)]
  have A2 : (z 2).toInt = (s 2).toInt := by rw [hs, if_neg (by omega), if_neg (by omega), if_neg (by omega), if_neg (by omega), if_neg (by omega), if_neg (by omega), if_neg (by omega), if_neg (by omega)]
  have A36 : ∀ c : Nat, c < 6 → (z (36 + 7 * c)).toInt = (s (36 + 7 * c)).toInt ∨ (c = X ∧ (z (36 + 7 * c)).toInt = (s (36 + 7 * c)).toInt + 1) := fun c hc => by by_cases q : c = X; subst q; refine Or.inr ⟨rfl, ?_⟩; rw [hs, if_neg (by omega), if_neg (by omega), if_neg (by omega), if_neg (by omega), if_pos rfl]; exact hx; refine Or.inl ?_; rw [hs, if_neg (by omega), if_neg (by omega), if_neg (by omega), if_neg (by omega), if_neg (by omega), if_neg (by omega), if_neg (by omega), if_neg (by omega)]
  have A38 : ∀ c : Nat, c < 6 → (z (38 + 7 * c)).toInt = (s (38 + 7 * c)).toInt := fun c hc => by rw [hs, if_neg (by omega), if_neg (by omega), if_neg (by omega), if_neg (by omega), if_neg (by omega), if_neg (by omega), if_neg (by omega), if_neg (by omega)]
  intro k j n h
  unfold lk at h
  rcases h with ⟨rfl, hj, rfl⟩ | ⟨p, hp, ha, hj, rfl, rfl⟩ | ⟨m, hm, ha, hj, rfl, rfl⟩ | ⟨m, hm, ha, rfl, rfl, rfl⟩ | ⟨c, hc, ha, rfl, rfl, rfl⟩ | ⟨c, hc, ha, rfl, rfl, rfl⟩ | ⟨c, hc, ha, rfl, rfl, rfl⟩ | ⟨c, hc, ha, rfl, rfl, rfl⟩ | ⟨c, hc, ha, hj, rfl, rfl⟩ | ⟨c, i, hc, ha, hi, hj, hr, rfl, rfl⟩ | ⟨c, i, hc, ha, hi, hj, rfl, rfl⟩ | ⟨c, t, hc, ha, ht, hr, hj, rfl, rfl⟩
  · have d1 : u (13) n = v (13) n := by rw [hu, if_neg (by omega), if_neg (by omega), if_neg (by omega), if_neg (by omega), if_neg (by omega), if_neg (by omega)]
    have d2 : z (n) = s (n) := by rw [hs, if_neg (by omega), if_neg (by omega), if_neg (by omega), if_neg (by omega), if_neg (by omega), if_neg (by omega), if_neg (by omega), if_neg (by omega)]
    exact d1.trans ((hR _ _ _ (lk_a hj)).trans d2.symm)
  · have d1 : u (13 + 4 + p) j = v (13 + 4 + p) j := by rw [hu, if_neg (by omega), if_neg (by omega), if_neg (by omega), if_neg (by omega), if_neg (by omega), if_neg (by omega)]
    have d2 : z (4 + 2 * p + j) = s (4 + 2 * p + j) := by rw [hs, if_neg (by omega), if_neg (by omega), if_neg (by omega), if_neg (by omega), if_neg (by omega), if_neg (by omega), if_neg (by omega), if_neg (by omega)]
    exact d1.trans ((hR _ _ _ (lk_p hp (by omega) hj)).trans d2.symm)
  · have d1 : u (13 + 12 + m) j = v (13 + 12 + m) j := by rw [hu, if_neg (by omega), if_neg (by omega), if_neg (by omega), if_neg (by omega), if_neg (by omega), if_neg (by omega)]
    have d2 : z (20 + 2 * m + j) = s (20 + 2 * m + j) := by rw [hs, if_neg (by omega), if_neg (by omega), if_neg (by omega), if_neg (by omega), if_neg (by omega), if_neg (by omega), if_neg (by omega), if_neg (by omega)]
    exact d1.trans ((hR _ _ _ (lk_m hm (by omega) hj)).trans d2.symm)
  · have d1 : u (13 + 12 + m) 2 = v (13 + 12 + m) 2 := by rw [hu, if_neg (by omega), if_neg (by omega), if_neg (by omega), if_neg (by omega), if_neg (by omega), if_neg (by omega)]
    have d2 : z (28 + m) = s (28 + m) := by rw [hs, if_neg (by omega), if_neg (by omega), if_neg (by omega), if_neg (by omega), if_neg (by omega), if_neg (by omega), if_neg (by omega), if_neg (by omega)]
    exact d1.trans ((hR _ _ _ (lk_k_ hm (by omega))).trans d2.symm)
  · by_cases e0 : 13 + 16 + 15 * c = 29 + 15 * X ∧ 0 = 0
    · have d1 : u (13 + 16 + 15 * c) 0 = 1 := by rw [hu, if_neg (by omega), if_pos (by omega)]
      have d2 : z (34 + 7 * c) = 1 := by rw [hs, if_neg (by omega), if_pos (by omega)]
      exact d1.trans d2.symm
    · skip
      have d1 : u (13 + 16 + 15 * c) 0 = v (13 + 16 + 15 * c) 0 := by rw [hu, if_neg (by omega), if_neg (by omega), if_neg (by omega), if_neg (by omega), if_neg (by omega), if_neg (by omega)]
      have d2 : z (34 + 7 * c) = s (34 + 7 * c) := by rw [hs, if_neg (by omega), if_neg (by omega), if_neg (by omega), if_neg (by omega), if_neg (by omega), if_neg (by omega), if_neg (by omega), if_neg (by omega)]
      exact d1.trans ((hR _ _ _ (lk_c0 hc (by omega))).trans d2.symm)
  · by_cases e0 : 13 + 16 + 15 * c = 29 + 15 * X ∧ 2 = 2
    · have d1 : u (13 + 16 + 15 * c) 2 = y := by rw [hu, if_neg (by omega), if_neg (by omega), if_pos (by omega)]
      have d2 : z (36 + 7 * c) = y := by rw [hs, if_neg (by omega), if_neg (by omega), if_neg (by omega), if_neg (by omega), if_pos (by omega)]
      exact d1.trans d2.symm
    · skip
      have d1 : u (13 + 16 + 15 * c) 2 = v (13 + 16 + 15 * c) 2 := by rw [hu, if_neg (by omega), if_neg (by omega), if_neg (by omega), if_neg (by omega), if_neg (by omega), if_neg (by omega)]
      have d2 : z (36 + 7 * c) = s (36 + 7 * c) := by rw [hs, if_neg (by omega), if_neg (by omega), if_neg (by omega), if_neg (by omega), if_neg (by omega), if_neg (by omega), if_neg (by omega), if_neg (by omega)]
      exact d1.trans ((hR _ _ _ (lk_c2 hc (by omega))).trans d2.symm)
  · have d1 : u (13 + 16 + 15 * c) 3 = v (13 + 16 + 15 * c) 3 := by rw [hu, if_neg (by omega), if_neg (by omega), if_neg (by omega), if_neg (by omega), if_neg (by omega), if_neg (by omega)]
    have d2 : z (37 + 7 * c) = s (37 + 7 * c) := by rw [hs, if_neg (by omega), if_neg (by omega), if_neg (by omega), if_neg (by omega), if_neg (by omega), if_neg (by omega), if_neg (by omega), if_neg (by omega)]
    exact d1.trans ((hR _ _ _ (lk_c3 hc (by omega))).trans d2.symm)
  · have d1 : u (13 + 16 + 15 * c) 5 = v (13 + 16 + 15 * c) 5 := by rw [hu, if_neg (by omega), if_neg (by omega), if_neg (by omega), if_neg (by omega), if_neg (by omega), if_neg (by omega)]
    have d2 : z (38 + 7 * c) = s (38 + 7 * c) := by rw [hs, if_neg (by omega), if_neg (by omega), if_neg (by omega), if_neg (by omega), if_neg (by omega), if_neg (by omega), if_neg (by omega), if_neg (by omega)]
    exact d1.trans ((hR _ _ _ (lk_c5 hc (by omega))).trans d2.symm)
  · have d1 : u (13 + 17 + 15 * c) j = v (13 + 17 + 15 * c) j := by rw [hu, if_neg (by omega), if_neg (by omega), if_neg (by omega), if_neg (by omega), if_neg (by omega), if_neg (by omega)]
    have d2 : z (32 + 7 * c + j) = s (32 + 7 * c + j) := by rw [hs, if_neg (by omega), if_neg (by omega), if_neg (by omega), if_neg (by omega), if_neg (by omega), if_neg (by omega), if_neg (by omega), if_neg (by omega)]
    exact d1.trans ((hR _ _ _ (lk_q hc (by omega) hj)).trans d2.symm)
  · have a36 := A36 c hc
    have hnc : c = X → (s (36 + 7 * c)).toInt = (R : Int) := fun q => by rw [q]; exact hn
    by_cases e0 : 13 + 20 + 15 * c + i = 33 + 15 * X + 1 ∧ j = R
    · have d1 : u (13 + 20 + 15 * c + i) j = g := by rw [hu, if_neg (by omega), if_neg (by omega), if_neg (by omega), if_pos (by omega)]
      have d2 : z (86 + 10 * c + 2 * j + i) = g := by rw [hs, if_neg (by omega), if_neg (by omega), if_neg (by omega), if_neg (by omega), if_neg (by omega), if_pos (by omega)]
      exact d1.trans d2.symm
    · skip
      by_cases e1 : 13 + 20 + 15 * c + i = 33 + 15 * X + 0 ∧ j = R
      · have d1 : u (13 + 20 + 15 * c + i) j = a := by rw [hu, if_neg (by omega), if_neg (by omega), if_neg (by omega), if_neg (by omega), if_pos (by omega)]
        have d2 : z (86 + 10 * c + 2 * j + i) = a := by rw [hs, if_neg (by omega), if_neg (by omega), if_neg (by omega), if_neg (by omega), if_neg (by omega), if_neg (by omega), if_pos (by omega)]
        exact d1.trans d2.symm
      · skip
        have d1 : u (13 + 20 + 15 * c + i) j = v (13 + 20 + 15 * c + i) j := by rw [hu, if_neg (by omega), if_neg (by omega), if_neg (by omega), if_neg (by omega), if_neg (by omega), if_neg (by omega)]
        have d2 : z (86 + 10 * c + 2 * j + i) = s (86 + 10 * c + 2 * j + i) := by rw [hs, if_neg (by omega), if_neg (by omega), if_neg (by omega), if_neg (by omega), if_neg (by omega), if_neg (by omega), if_neg (by omega), if_neg (by omega)]
        exact d1.trans ((hR _ _ _ (lk_o hc (by omega) hi hj (by omega))).trans d2.symm)
  · have d1 : u (13 + 23 + 15 * c + i) j = v (13 + 23 + 15 * c + i) j := by rw [hu, if_neg (by omega), if_neg (by omega), if_neg (by omega), if_neg (by omega), if_neg (by omega), if_neg (by omega)]
    have d2 : z (308 + 48 * c + 24 * i + j) = s (308 + 48 * c + 24 * i + j) := by rw [hs, if_neg (by omega), if_neg (by omega), if_neg (by omega), if_neg (by omega), if_neg (by omega), if_neg (by omega), if_neg (by omega), if_neg (by omega)]
    exact d1.trans ((hR _ _ _ (lk_l hc (by omega) hi hj)).trans d2.symm)
  · have a38 := A38 c hc
    have d1 : u (13 + 26 + 15 * c + t) j = v (13 + 26 + 15 * c + t) j := by rw [hu, if_neg (by omega), if_neg (by omega), if_neg (by omega), if_neg (by omega), if_neg (by omega), if_neg (by omega)]
    have d2 : z (158 + 25 * c + 5 * t + j) = s (158 + 25 * c + 5 * t + j) := by rw [hs, if_neg (by omega), if_neg (by omega), if_neg (by omega), if_neg (by omega), if_neg (by omega), if_neg (by omega), if_neg (by omega), if_neg (by omega)]
    exact d1.trans ((hR _ _ _ (lk_t hc (by omega) ht (by omega) hj)).trans d2.symm)

set_option maxHeartbeats 4000000 in
theorem RX_box0 {v u : Nat → Nat → Int32} {s z : Nat → Int32} {X : Nat} {x : Int32} (hX : X < 6) (hx : 0 ≤ x.toInt ∧ x.toInt ≤ 100) (hu : ∀ k j : Nat, u k j = if k = 31 + 15 * X ∧ j = 0 then x else v k j) (hs : ∀ n : Nat, z n = if n = 74 + 2 * X then x else s n) (h : RX 13 v s) : RX 13 u z := by
  intro c hc hac
  have a2 : z 2 = s 2 := by rw [hs, if_neg (by omega)]
  have hh := h c hc (by rw [a2] at hac; exact hac)
  by_cases hq : c = X
  · subst hq
    have g0 : u (13 + 16 + 15 * c) 1 = v (13 + 16 + 15 * c) 1 := by rw [hu, if_neg (by omega)]
    have g1 : u (13 + 18 + 15 * c) 0 = x := by rw [hu, if_pos (by omega)]
    have g2 : u (13 + 18 + 15 * c) 1 = v (13 + 18 + 15 * c) 1 := by rw [hu, if_neg (by omega)]
    have g3 : z (34 + 7 * c) = s (34 + 7 * c) := by rw [hs, if_neg (by omega)]
    have g4 : z (35 + 7 * c) = s (35 + 7 * c) := by rw [hs, if_neg (by omega)]
    have g5 : z (74 + 2 * c) = x := by rw [hs, if_pos (by omega)]
    have g6 : z (75 + 2 * c) = s (75 + 2 * c) := by rw [hs, if_neg (by omega)]
    rw [g0, g1, g2, g3, g4, g5, g6]
    obtain ⟨r1, r2, r3, r4⟩ := hh
    exact ⟨r1, r2, r3, fun q => ⟨Or.inr ⟨hx.1, hx.2, rfl⟩, (r4 q).2⟩⟩
  · have d1 : u (13 + 16 + 15 * c) 1 = v (13 + 16 + 15 * c) 1 := by rw [hu, if_neg (by omega)]
    have d2 : u (13 + 18 + 15 * c) 0 = v (13 + 18 + 15 * c) 0 := by rw [hu, if_neg (by omega)]
    have d3 : u (13 + 18 + 15 * c) 1 = v (13 + 18 + 15 * c) 1 := by rw [hu, if_neg (by omega)]
    have f0 : z (34 + 7 * c) = s (34 + 7 * c) := by rw [hs, if_neg (by omega)]
    have f1 : z (35 + 7 * c) = s (35 + 7 * c) := by rw [hs, if_neg (by omega)]
    have f2 : z (74 + 2 * c) = s (74 + 2 * c) := by rw [hs, if_neg (by omega)]
    have f3 : z (75 + 2 * c) = s (75 + 2 * c) := by rw [hs, if_neg (by omega)]
    rw [d1, d2, d3, f0, f1, f2, f3]
    exact hh

set_option maxHeartbeats 4000000 in
theorem RX_no0 {v u : Nat → Nat → Int32} {s z : Nat → Int32} {X R : Nat} {x y g a : Int32} (hX : X < 6) (hR5 : R < 5) (hu : ∀ k j : Nat, u k j = if k = 31 + 15 * X ∧ j = 1 then -1 else if k = 31 + 15 * X ∧ j = 0 then -1 else if k = 29 + 15 * X ∧ j = 2 then y else if k = 33 + 15 * X + 1 ∧ j = R then g else if k = 33 + 15 * X + 0 ∧ j = R then a else if k = 31 + 15 * X ∧ j = 0 then x else v k j) (hs : ∀ n : Nat, z n = if n = 75 + 2 * X then -5 else if n = 74 + 2 * X then -5 else if n = 36 + 7 * X then y else if n = 87 + 10 * X + 2 * R then g else if n = 86 + 10 * X + 2 * R then a else if n = 74 + 2 * X then x else s n) (h : RX 13 v s) : RX 13 u z := by
  intro c hc hac
  have a2 : z 2 = s 2 := by rw [hs, if_neg (by omega), if_neg (by omega), if_neg (by omega), if_neg (by omega), if_neg (by omega), if_neg (by omega)]
  have hh := h c hc (by rw [a2] at hac; exact hac)
  by_cases hq : c = X
  · subst hq
    have g0 : u (13 + 16 + 15 * c) 1 = v (13 + 16 + 15 * c) 1 := by rw [hu, if_neg (by omega), if_neg (by omega), if_neg (by omega), if_neg (by omega), if_neg (by omega), if_neg (by omega)]
    have g1 : u (13 + 18 + 15 * c) 0 = -1 := by rw [hu, if_neg (by omega), if_pos (by omega)]
    have g2 : u (13 + 18 + 15 * c) 1 = -1 := by rw [hu, if_pos (by omega)]
    have g3 : z (34 + 7 * c) = s (34 + 7 * c) := by rw [hs, if_neg (by omega), if_neg (by omega), if_neg (by omega), if_neg (by omega), if_neg (by omega), if_neg (by omega)]
    have g4 : z (35 + 7 * c) = s (35 + 7 * c) := by rw [hs, if_neg (by omega), if_neg (by omega), if_neg (by omega), if_neg (by omega), if_neg (by omega), if_neg (by omega)]
    have g5 : z (74 + 2 * c) = -5 := by rw [hs, if_neg (by omega), if_pos (by omega)]
    have g6 : z (75 + 2 * c) = -5 := by rw [hs, if_pos (by omega)]
    rw [g0, g1, g2, g3, g4, g5, g6]
    obtain ⟨r1, r2, r3, r4⟩ := hh
    exact ⟨r1, r2, r3, fun q => ⟨Or.inl ⟨by decide, by decide⟩, Or.inl ⟨by decide, by decide⟩⟩⟩
  · have d1 : u (13 + 16 + 15 * c) 1 = v (13 + 16 + 15 * c) 1 := by rw [hu, if_neg (by omega), if_neg (by omega), if_neg (by omega), if_neg (by omega), if_neg (by omega), if_neg (by omega)]
    have d2 : u (13 + 18 + 15 * c) 0 = v (13 + 18 + 15 * c) 0 := by rw [hu, if_neg (by omega), if_neg (by omega), if_neg (by omega), if_neg (by omega), if_neg (by omega), if_neg (by omega)]
    have d3 : u (13 + 18 + 15 * c) 1 = v (13 + 18 + 15 * c) 1 := by rw [hu, if_neg (by omega), if_neg (by omega), if_neg (by omega), if_neg (by omega), if_neg (by omega), if_neg (by omega)]
    have f0 : z (34 + 7 * c) = s (34 + 7 * c) := by rw [hs, if_neg (by omega), if_neg (by omega), if_neg (by omega), if_neg (by omega), if_neg (by omega), if_neg (by omega)]
    have f1 : z (35 + 7 * c) = s (35 + 7 * c) := by rw [hs, if_neg (by omega), if_neg (by omega), if_neg (by omega), if_neg (by omega), if_neg (by omega), if_neg (by omega)]
    have f2 : z (74 + 2 * c) = s (74 + 2 * c) := by rw [hs, if_neg (by omega), if_neg (by omega), if_neg (by omega), if_neg (by omega), if_neg (by omega), if_neg (by omega)]
    have f3 : z (75 + 2 * c) = s (75 + 2 * c) := by rw [hs, if_neg (by omega), if_neg (by omega), if_neg (by omega), if_neg (by omega), if_neg (by omega), if_neg (by omega)]
    rw [d1, d2, d3, f0, f1, f2, f3]
    exact hh

set_option maxHeartbeats 4000000 in
theorem RX_yes0 {v u : Nat → Nat → Int32} {s z : Nat → Int32} {X R : Nat} {x y g a w : Int32} (hX : X < 6) (hR5 : R < 5) (hu : ∀ k j : Nat, u k j = if k = 29 + 15 * X ∧ j = 1 then w else if k = 29 + 15 * X ∧ j = 0 then 1 else if k = 29 + 15 * X ∧ j = 2 then y else if k = 33 + 15 * X + 1 ∧ j = R then g else if k = 33 + 15 * X + 0 ∧ j = R then a else if k = 31 + 15 * X ∧ j = 0 then x else v k j) (hs : ∀ n : Nat, z n = if n = 35 + 7 * X then w else if n = 34 + 7 * X then 1 else if n = 75 + 2 * X then -5 else if n = 74 + 2 * X then -5 else if n = 36 + 7 * X then y else if n = 87 + 10 * X + 2 * R then g else if n = 86 + 10 * X + 2 * R then a else if n = 74 + 2 * X then x else s n) (h : RX 13 v s) : RX 13 u z := by
  intro c hc hac
  have a2 : z 2 = s 2 := by rw [hs, if_neg (by omega), if_neg (by omega), if_neg (by omega), if_neg (by omega), if_neg (by omega), if_neg (by omega), if_neg (by omega), if_neg (by omega)]
  have hh := h c hc (by rw [a2] at hac; exact hac)
  by_cases hq : c = X
  · subst hq
    have g0 : u (13 + 16 + 15 * c) 1 = w := by rw [hu, if_pos (by omega)]
    have g1 : u (13 + 18 + 15 * c) 0 = x := by rw [hu, if_neg (by omega), if_neg (by omega), if_neg (by omega), if_neg (by omega), if_neg (by omega), if_pos (by omega)]
    have g2 : u (13 + 18 + 15 * c) 1 = v (13 + 18 + 15 * c) 1 := by rw [hu, if_neg (by omega), if_neg (by omega), if_neg (by omega), if_neg (by omega), if_neg (by omega), if_neg (by omega)]
    have g3 : z (34 + 7 * c) = 1 := by rw [hs, if_neg (by omega), if_pos (by omega)]
    have g4 : z (35 + 7 * c) = w := by rw [hs, if_pos (by omega)]
    have g5 : z (74 + 2 * c) = -5 := by rw [hs, if_neg (by omega), if_neg (by omega), if_neg (by omega), if_pos (by omega)]
    have g6 : z (75 + 2 * c) = -5 := by rw [hs, if_neg (by omega), if_neg (by omega), if_pos (by omega)]
    rw [g0, g1, g2, g3, g4, g5, g6]
    have k1 : (1 : Int32).toInt = 1 := by decide
    exact ⟨by omega, fun _ => rfl, fun q => absurd k1 q, fun q => absurd q (by omega)⟩
  · have d1 : u (13 + 16 + 15 * c) 1 = v (13 + 16 + 15 * c) 1 := by rw [hu, if_neg (by omega), if_neg (by omega), if_neg (by omega), if_neg (by omega), if_neg (by omega), if_neg (by omega)]
    have d2 : u (13 + 18 + 15 * c) 0 = v (13 + 18 + 15 * c) 0 := by rw [hu, if_neg (by omega), if_neg (by omega), if_neg (by omega), if_neg (by omega), if_neg (by omega), if_neg (by omega)]
    have d3 : u (13 + 18 + 15 * c) 1 = v (13 + 18 + 15 * c) 1 := by rw [hu, if_neg (by omega), if_neg (by omega), if_neg (by omega), if_neg (by omega), if_neg (by omega), if_neg (by omega)]
    have f0 : z (34 + 7 * c) = s (34 + 7 * c) := by rw [hs, if_neg (by omega), if_neg (by omega), if_neg (by omega), if_neg (by omega), if_neg (by omega), if_neg (by omega), if_neg (by omega), if_neg (by omega)]
    have f1 : z (35 + 7 * c) = s (35 + 7 * c) := by rw [hs, if_neg (by omega), if_neg (by omega), if_neg (by omega), if_neg (by omega), if_neg (by omega), if_neg (by omega), if_neg (by omega), if_neg (by omega)]
    have f2 : z (74 + 2 * c) = s (74 + 2 * c) := by rw [hs, if_neg (by omega), if_neg (by omega), if_neg (by omega), if_neg (by omega), if_neg (by omega), if_neg (by omega), if_neg (by omega), if_neg (by omega)]
    have f3 : z (75 + 2 * c) = s (75 + 2 * c) := by rw [hs, if_neg (by omega), if_neg (by omega), if_neg (by omega), if_neg (by omega), if_neg (by omega), if_neg (by omega), if_neg (by omega), if_neg (by omega)]
    rw [d1, d2, d3, f0, f1, f2, f3]
    exact hh

set_option maxHeartbeats 4000000 in
theorem T_offer_0 {n r r2 x0 x1 : Int32} {v u v2 u2 : Nat → Nat → Int32} (hI : Iv v) (hQ : Ir v2) (h : RR n v v2) (p : (¬ ((0 ≤ x0.toInt ∧ x0.toInt < (v 13 2).toInt) ∧ 0 ≤ x1.toInt ∧ x1.toInt ≤ 100) → r = -1 ∧ u = v) ∧ (((0 ≤ x0.toInt ∧ x0.toInt < (v 13 2).toInt) ∧ 0 ≤ x1.toInt ∧ x1.toInt ≤ 100) ∧ (v (29 + 15 * x0.toNatClampNeg) 0).toInt ≠ 0 → r = -4 ∧ u = v) ∧ (((0 ≤ x0.toInt ∧ x0.toInt < (v 13 2).toInt) ∧ 0 ≤ x1.toInt ∧ x1.toInt ≤ 100) ∧ (v (29 + 15 * x0.toNatClampNeg) 0).toInt = 0 ∧ (v (31 + 15 * x0.toNatClampNeg) 0).toInt ≠ -1 → r = -3 ∧ u = v) ∧ (((0 ≤ x0.toInt ∧ x0.toInt < (v 13 2).toInt) ∧ 0 ≤ x1.toInt ∧ x1.toInt ≤ 100) ∧ (v (29 + 15 * x0.toNatClampNeg) 0).toInt = 0 ∧ (v (31 + 15 * x0.toNatClampNeg) 0).toInt = -1 ∧ 5 ≤ (v (29 + 15 * x0.toNatClampNeg) 2).toInt → r = -2 ∧ u = v) ∧ (((0 ≤ x0.toInt ∧ x0.toInt < (v 13 2).toInt) ∧ 0 ≤ x1.toInt ∧ x1.toInt ≤ 100) ∧ (v (29 + 15 * x0.toNatClampNeg) 0).toInt = 0 ∧ (v (31 + 15 * x0.toNatClampNeg) 0).toInt = -1 ∧ (v (29 + 15 * x0.toNatClampNeg) 2).toInt < 5 ∧ (v (31 + 15 * x0.toNatClampNeg) 1).toInt = -1 → r = 0 ∧ (∀ k j : Nat, u k j = if k = 31 + 15 * x0.toNatClampNeg ∧ j = 0 then x1 else v k j)) ∧ (((0 ≤ x0.toInt ∧ x0.toInt < (v 13 2).toInt) ∧ 0 ≤ x1.toInt ∧ x1.toInt ≤ 100) ∧ (v (29 + 15 * x0.toNatClampNeg) 0).toInt = 0 ∧ (v (31 + 15 * x0.toNatClampNeg) 0).toInt = -1 ∧ (v (29 + 15 * x0.toNatClampNeg) 2).toInt < 5 ∧ (v (31 + 15 * x0.toNatClampNeg) 1).toInt ≠ -1 ∧ (v (31 + 15 * x0.toNatClampNeg) 1).toInt < x1.toInt → r = 2 ∧ (∀ k j : Nat, u k j = if k = 31 + 15 * x0.toNatClampNeg ∧ j = 1 then -1 else if k = 31 + 15 * x0.toNatClampNeg ∧ j = 0 then -1 else if k = 29 + 15 * x0.toNatClampNeg ∧ j = 2 then v (29 + 15 * x0.toNatClampNeg) 2 + 1 else if k = 33 + 15 * x0.toNatClampNeg + 1 ∧ j = (v (29 + 15 * x0.toNatClampNeg) 2).toNatClampNeg then v (31 + 15 * x0.toNatClampNeg) 1 else if k = 33 + 15 * x0.toNatClampNeg + 0 ∧ j = (v (29 + 15 * x0.toNatClampNeg) 2).toNatClampNeg then x1 else if k = 31 + 15 * x0.toNatClampNeg ∧ j = 0 then x1 else v k j)) ∧ (((0 ≤ x0.toInt ∧ x0.toInt < (v 13 2).toInt) ∧ 0 ≤ x1.toInt ∧ x1.toInt ≤ 100) ∧ (v (29 + 15 * x0.toNatClampNeg) 0).toInt = 0 ∧ (v (31 + 15 * x0.toNatClampNeg) 0).toInt = -1 ∧ (v (29 + 15 * x0.toNatClampNeg) 2).toInt < 5 ∧ (v (31 + 15 * x0.toNatClampNeg) 1).toInt ≠ -1 ∧ x1.toInt ≤ (v (31 + 15 * x0.toNatClampNeg) 1).toInt → r = 1 ∧ (∀ k j : Nat, u k j = if k = 29 + 15 * x0.toNatClampNeg ∧ j = 1 then (x1 + v (31 + 15 * x0.toNatClampNeg) 1) / 2 else if k = 29 + 15 * x0.toNatClampNeg ∧ j = 0 then 1 else if k = 29 + 15 * x0.toNatClampNeg ∧ j = 2 then v (29 + 15 * x0.toNatClampNeg) 2 + 1 else if k = 33 + 15 * x0.toNatClampNeg + 1 ∧ j = (v (29 + 15 * x0.toNatClampNeg) 2).toNatClampNeg then v (31 + 15 * x0.toNatClampNeg) 1 else if k = 33 + 15 * x0.toNatClampNeg + 0 ∧ j = (v (29 + 15 * x0.toNatClampNeg) 2).toNatClampNeg then x1 else if k = 31 + 15 * x0.toNatClampNeg ∧ j = 0 then x1 else v k j))) (q : (¬ ((0 ≤ x0.toInt ∧ x0.toInt < (v2 1 2).toInt) ∧ 0 ≤ x1.toInt ∧ x1.toInt ≤ 100) → r2 = -1 ∧ u2 = v2) ∧ (((0 ≤ x0.toInt ∧ x0.toInt < (v2 1 2).toInt) ∧ 0 ≤ x1.toInt ∧ x1.toInt ≤ 100) ∧ (v2 1 (34 + 7 * x0.toNatClampNeg)).toInt ≠ 0 → r2 = -4 ∧ u2 = v2) ∧ (((0 ≤ x0.toInt ∧ x0.toInt < (v2 1 2).toInt) ∧ 0 ≤ x1.toInt ∧ x1.toInt ≤ 100) ∧ (v2 1 (34 + 7 * x0.toNatClampNeg)).toInt = 0 ∧ 0 ≤ (v2 1 (74 + 2 * x0.toNatClampNeg)).toInt → r2 = -3 ∧ u2 = v2) ∧ (((0 ≤ x0.toInt ∧ x0.toInt < (v2 1 2).toInt) ∧ 0 ≤ x1.toInt ∧ x1.toInt ≤ 100) ∧ (v2 1 (34 + 7 * x0.toNatClampNeg)).toInt = 0 ∧ (v2 1 (74 + 2 * x0.toNatClampNeg)).toInt < 0 ∧ (v2 1 (36 + 7 * x0.toNatClampNeg)).toInt = 5 → r2 = -2 ∧ u2 = v2) ∧ (((0 ≤ x0.toInt ∧ x0.toInt < (v2 1 2).toInt) ∧ 0 ≤ x1.toInt ∧ x1.toInt ≤ 100) ∧ (v2 1 (34 + 7 * x0.toNatClampNeg)).toInt = 0 ∧ (v2 1 (74 + 2 * x0.toNatClampNeg)).toInt < 0 ∧ (v2 1 (36 + 7 * x0.toNatClampNeg)).toInt ≠ 5 ∧ (v2 1 (75 + 2 * x0.toNatClampNeg)).toInt < 0 → r2 = 0 ∧ (∀ n : Nat, u2 1 n = if n = 74 + 2 * x0.toNatClampNeg then x1 else v2 1 n) ∧ (∀ k : Nat, k ≠ 1 → u2 k = v2 k)) ∧ (((0 ≤ x0.toInt ∧ x0.toInt < (v2 1 2).toInt) ∧ 0 ≤ x1.toInt ∧ x1.toInt ≤ 100) ∧ (v2 1 (34 + 7 * x0.toNatClampNeg)).toInt = 0 ∧ (v2 1 (74 + 2 * x0.toNatClampNeg)).toInt < 0 ∧ (v2 1 (36 + 7 * x0.toNatClampNeg)).toInt ≠ 5 ∧ 0 ≤ (v2 1 (75 + 2 * x0.toNatClampNeg)).toInt ∧ (v2 1 (75 + 2 * x0.toNatClampNeg)).toInt < x1.toInt → r2 = 2 ∧ (∀ n : Nat, u2 1 n = if n = 75 + 2 * x0.toNatClampNeg then -5 else if n = 74 + 2 * x0.toNatClampNeg then -5 else if n = 36 + 7 * x0.toNatClampNeg then v2 1 (36 + 7 * x0.toNatClampNeg) + 1 else if n = 87 + 10 * x0.toNatClampNeg + 2 * (v2 1 (36 + 7 * x0.toNatClampNeg)).toNatClampNeg then v2 1 (75 + 2 * x0.toNatClampNeg) else if n = 86 + 10 * x0.toNatClampNeg + 2 * (v2 1 (36 + 7 * x0.toNatClampNeg)).toNatClampNeg then x1 else if n = 74 + 2 * x0.toNatClampNeg then x1 else v2 1 n) ∧ (∀ k : Nat, k ≠ 1 → u2 k = v2 k)) ∧ (((0 ≤ x0.toInt ∧ x0.toInt < (v2 1 2).toInt) ∧ 0 ≤ x1.toInt ∧ x1.toInt ≤ 100) ∧ (v2 1 (34 + 7 * x0.toNatClampNeg)).toInt = 0 ∧ (v2 1 (74 + 2 * x0.toNatClampNeg)).toInt < 0 ∧ (v2 1 (36 + 7 * x0.toNatClampNeg)).toInt ≠ 5 ∧ 0 ≤ (v2 1 (75 + 2 * x0.toNatClampNeg)).toInt ∧ x1.toInt ≤ (v2 1 (75 + 2 * x0.toNatClampNeg)).toInt → r2 = 1 ∧ (∀ n : Nat, u2 1 n = if n = 35 + 7 * x0.toNatClampNeg then (x1 + v2 1 (75 + 2 * x0.toNatClampNeg)) / 2 else if n = 34 + 7 * x0.toNatClampNeg then 1 else if n = 75 + 2 * x0.toNatClampNeg then -5 else if n = 74 + 2 * x0.toNatClampNeg then -5 else if n = 36 + 7 * x0.toNatClampNeg then v2 1 (36 + 7 * x0.toNatClampNeg) + 1 else if n = 87 + 10 * x0.toNatClampNeg + 2 * (v2 1 (36 + 7 * x0.toNatClampNeg)).toNatClampNeg then v2 1 (75 + 2 * x0.toNatClampNeg) else if n = 86 + 10 * x0.toNatClampNeg + 2 * (v2 1 (36 + 7 * x0.toNatClampNeg)).toNatClampNeg then x1 else if n = 74 + 2 * x0.toNatClampNeg then x1 else v2 1 n) ∧ (∀ k : Nat, k ≠ 1 → u2 k = v2 k))) : r = r2 ∧ RR n u u2 := by
  have e0 : v 13 0 = v2 1 0 := h.1.1 _ _ _ (lk_a (by decide))
  have e1 : v 13 1 = v2 1 1 := h.1.1 _ _ _ (lk_a (by decide))
  have e2 : v 13 2 = v2 1 2 := h.1.1 _ _ _ (lk_a (by decide))
  have e3 : v 13 3 = v2 1 3 := h.1.1 _ _ _ (lk_a (by decide))
  have hb0 := hQ 1 0 8 (by decide)
  have hb1 := hQ 1 1 4 (by decide)
  have hb2 := hQ 1 2 6 (by decide)
  have hb3 := hQ 1 3 6 (by decide)
  rw [e2] at p
  by_cases hC : (0 ≤ x0.toInt ∧ x0.toInt < (v2 1 2).toInt) ∧ 0 ≤ x1.toInt ∧ x1.toInt ≤ 100
  · have zX := t_nn (x := x0) (by omega)
    have hX : x0.toNatClampNeg < 6 := by omega
    have ha : (x0.toNatClampNeg : Int) < (v2 1 2).toInt := by omega
    have ev : v (29 + 15 * x0.toNatClampNeg) 0 = v2 1 (34 + 7 * x0.toNatClampNeg) := h.1.1 _ _ _ (lk_c0 hX ha)
    have ew : v (29 + 15 * x0.toNatClampNeg) 2 = v2 1 (36 + 7 * x0.toNatClampNeg) := h.1.1 _ _ _ (lk_c2 hX ha)
    rw [ev, ew] at p
    have hb := hQ 1 (36 + 7 * x0.toNatClampNeg) 5 (bS_c (by omega) (by omega))
    by_cases hD : (v2 1 (34 + 7 * x0.toNatClampNeg)).toInt = 0
    · obtain ⟨hx0, hx1⟩ := (h.1.2.1 _ hX ha).2.2.2 hD
      have hbx : bxr (v (31 + 15 * x0.toNatClampNeg) 0) (v2 1 (74 + 2 * x0.toNatClampNeg)) := hx0
      have hbo : bxr (v (31 + 15 * x0.toNatClampNeg) 1) (v2 1 (75 + 2 * x0.toNatClampNeg)) := hx1
      rcases hbx with ⟨t1, t2⟩ | ⟨t1, t2, t3⟩
      · by_cases hE : (v2 1 (36 + 7 * x0.toNatClampNeg)).toInt = 5
        · obtain ⟨p1, p2⟩ := p.2.2.2.1 ⟨hC, hD, t1, by omega⟩
          obtain ⟨q1, q2⟩ := q.2.2.2.1 ⟨hC, hD, t2, hE⟩
          rw [p1, q1, p2, q2]
          exact ⟨rfl, h⟩
        · rcases hbo with ⟨o1, o2⟩ | ⟨o1, o2, o3⟩
          · obtain ⟨p1, p2⟩ := p.2.2.2.2.1 ⟨hC, hD, t1, by omega, o1⟩
            obtain ⟨q1, q2, q3⟩ := q.2.2.2.2.1 ⟨hC, hD, t2, hE, o2⟩
            exact ⟨by rw [p1, q1], h.wr q3 (funext fun j => by rw [p2, if_neg (by omega)]) (fun k hk => funext fun j => by rw [p2, if_neg (by omega)]) ⟨RL_box0 hX p2 q2 h.1.1, RX_box0 hX hC.2 p2 q2 h.1.2.1, h.1.2.2.1.cg (by rw [q2, if_neg (by omega)]) (by rw [q2, if_neg (by omega)]) (fun m hm => by rw [q2, if_neg (by omega)]), h.1.2.2.2.cg hb3.2 (by rw [q2, if_neg (by omega)]) (by rw [q2, if_neg (by omega)]) (fun n h1 h2 => by rw [q2, if_neg (by omega)]) (fun c hc => by rw [p2, if_neg (by omega)])⟩⟩
          · rw [o3] at p
            have zR := t_nn (x := v2 1 (36 + 7 * x0.toNatClampNeg)) (by omega)
            have k1 : (1 : Int32).toInt = 1 := by decide
            have hx : (v2 1 (36 + 7 * x0.toNatClampNeg) + 1).toInt = (v2 1 (36 + 7 * x0.toNatClampNeg)).toInt + 1 := by rw [t_add (by rw [k1]; omega), k1]
            rcases Int.lt_or_le (v2 1 (75 + 2 * x0.toNatClampNeg)).toInt x1.toInt with hL | hL
            · obtain ⟨p1, p2⟩ := p.2.2.2.2.2.1 ⟨hC, hD, t1, by omega, by omega, hL⟩
              obtain ⟨q1, q2, q3⟩ := q.2.2.2.2.2.1 ⟨hC, hD, t2, hE, o1, hL⟩
              exact ⟨by rw [p1, q1], h.wr q3 (funext fun j => by rw [p2, if_neg (by omega), if_neg (by omega), if_neg (by omega), if_neg (by omega), if_neg (by omega), if_neg (by omega)]) (fun k hk => funext fun j => by rw [p2, if_neg (by omega), if_neg (by omega), if_neg (by omega), if_neg (by omega), if_neg (by omega), if_neg (by omega)]) ⟨RL_no0 hX (by omega) (by omega) hx p2 q2 h.1.1, RX_no0 hX (by omega) p2 q2 h.1.2.1, h.1.2.2.1.cg (by rw [q2, if_neg (by omega), if_neg (by omega), if_neg (by omega), if_neg (by omega), if_neg (by omega), if_neg (by omega)]) (by rw [q2, if_neg (by omega), if_neg (by omega), if_neg (by omega), if_neg (by omega), if_neg (by omega), if_neg (by omega)]) (fun m hm => by rw [q2, if_neg (by omega), if_neg (by omega), if_neg (by omega), if_neg (by omega), if_neg (by omega), if_neg (by omega)]), h.1.2.2.2.cg hb3.2 (by rw [q2, if_neg (by omega), if_neg (by omega), if_neg (by omega), if_neg (by omega), if_neg (by omega), if_neg (by omega)]) (by rw [q2, if_neg (by omega), if_neg (by omega), if_neg (by omega), if_neg (by omega), if_neg (by omega), if_neg (by omega)]) (fun n h1 h2 => by rw [q2, if_neg (by omega), if_neg (by omega), if_neg (by omega), if_neg (by omega), if_neg (by omega), if_neg (by omega)]) (fun c hc => by rw [p2, if_neg (by omega), if_neg (by omega), if_neg (by omega), if_neg (by omega), if_neg (by omega), if_neg (by omega)])⟩⟩
            · obtain ⟨p1, p2⟩ := p.2.2.2.2.2.2 ⟨hC, hD, t1, by omega, by omega, hL⟩
              obtain ⟨q1, q2, q3⟩ := q.2.2.2.2.2.2 ⟨hC, hD, t2, hE, o1, hL⟩
              exact ⟨by rw [p1, q1], h.wr q3 (funext fun j => by rw [p2, if_neg (by omega), if_neg (by omega), if_neg (by omega), if_neg (by omega), if_neg (by omega), if_neg (by omega)]) (fun k hk => funext fun j => by rw [p2, if_neg (by omega), if_neg (by omega), if_neg (by omega), if_neg (by omega), if_neg (by omega), if_neg (by omega)]) ⟨RL_yes0 hX (by omega) (by omega) hx p2 q2 h.1.1, RX_yes0 hX (by omega) p2 q2 h.1.2.1, h.1.2.2.1.cg (by rw [q2, if_neg (by omega), if_neg (by omega), if_neg (by omega), if_neg (by omega), if_neg (by omega), if_neg (by omega), if_neg (by omega), if_neg (by omega)]) (by rw [q2, if_neg (by omega), if_neg (by omega), if_neg (by omega), if_neg (by omega), if_neg (by omega), if_neg (by omega), if_neg (by omega), if_neg (by omega)]) (fun m hm => by rw [q2, if_neg (by omega), if_neg (by omega), if_neg (by omega), if_neg (by omega), if_neg (by omega), if_neg (by omega), if_neg (by omega), if_neg (by omega)]), h.1.2.2.2.cg hb3.2 (by rw [q2, if_neg (by omega), if_neg (by omega), if_neg (by omega), if_neg (by omega), if_neg (by omega), if_neg (by omega), if_neg (by omega), if_neg (by omega)]) (by rw [q2, if_neg (by omega), if_neg (by omega), if_neg (by omega), if_neg (by omega), if_neg (by omega), if_neg (by omega), if_neg (by omega), if_neg (by omega)]) (fun n h1 h2 => by rw [q2, if_neg (by omega), if_neg (by omega), if_neg (by omega), if_neg (by omega), if_neg (by omega), if_neg (by omega), if_neg (by omega), if_neg (by omega)]) (fun c hc => by rw [p2, if_neg (by omega), if_neg (by omega), if_neg (by omega), if_neg (by omega), if_neg (by omega), if_neg (by omega)])⟩⟩
      · rw [t3] at p
        obtain ⟨p1, p2⟩ := p.2.2.1 ⟨hC, hD, by omega⟩
        obtain ⟨q1, q2⟩ := q.2.2.1 ⟨hC, hD, t1⟩
        rw [p1, q1, p2, q2]
        exact ⟨rfl, h⟩
    · obtain ⟨p1, p2⟩ := p.2.1 ⟨hC, hD⟩
      obtain ⟨q1, q2⟩ := q.2.1 ⟨hC, hD⟩
      rw [p1, q1, p2, q2]
      exact ⟨rfl, h⟩
  · obtain ⟨p1, p2⟩ := p.1 hC
    obtain ⟨q1, q2⟩ := q.1 hC
    rw [p1, q1, p2, q2]
    exact ⟨rfl, h⟩

set_option maxHeartbeats 4000000 in
theorem RL_box1 {v u : Nat → Nat → Int32} {s z : Nat → Int32} {X : Nat} {x : Int32} (hX : X < 6) (hu : ∀ k j : Nat, u k j = if k = 31 + 15 * X ∧ j = 1 then x else v k j) (hs : ∀ n : Nat, z n = if n = 75 + 2 * X then x else s n) (hR : RLk 13 v s) : RLk 13 u z := by
  have A0 : (z 0).toInt = (s 0).toInt := by rw [hs, if_neg (by omega)]
  have A1 : (z 1).toInt = (s 1).toInt := by rw [hs, if_neg (by omega)]
  have A2 : (z 2).toInt = (s 2).toInt := by rw [hs, if_neg (by omega)]
  have A36 : ∀ c : Nat, c < 6 → (z (36 + 7 * c)).toInt = (s (36 + 7 * c)).toInt := fun c hc => by rw [hs, if_neg (by omega)]
  have A38 : ∀ c : Nat, c < 6 → (z (38 + 7 * c)).toInt = (s (38 + 7 * c)).toInt := fun c hc => by rw [hs, if_neg (by omega)]
  intro k j n h
  unfold lk at h
  rcases h with ⟨rfl, hj, rfl⟩ | ⟨p, hp, ha, hj, rfl, rfl⟩ | ⟨m, hm, ha, hj, rfl, rfl⟩ | ⟨m, hm, ha, rfl, rfl, rfl⟩ | ⟨c, hc, ha, rfl, rfl, rfl⟩ | ⟨c, hc, ha, rfl, rfl, rfl⟩ | ⟨c, hc, ha, rfl, rfl, rfl⟩ | ⟨c, hc, ha, rfl, rfl, rfl⟩ | ⟨c, hc, ha, hj, rfl, rfl⟩ | ⟨c, i, hc, ha, hi, hj, hr, rfl, rfl⟩ | ⟨c, i, hc, ha, hi, hj, rfl, rfl⟩ | ⟨c, t, hc, ha, ht, hr, hj, rfl, rfl⟩
  · have d1 : u (13) n = v (13) n := by rw [hu, if_neg (by omega)]
    have d2 : z (n) = s (n) := by rw [hs, if_neg (by omega)]
    exact d1.trans ((hR _ _ _ (lk_a hj)).trans d2.symm)
  · have d1 : u (13 + 4 + p) j = v (13 + 4 + p) j := by rw [hu, if_neg (by omega)]
    have d2 : z (4 + 2 * p + j) = s (4 + 2 * p + j) := by rw [hs, if_neg (by omega)]
    exact d1.trans ((hR _ _ _ (lk_p hp (by omega) hj)).trans d2.symm)
  · have d1 : u (13 + 12 + m) j = v (13 + 12 + m) j := by rw [hu, if_neg (by omega)]
    have d2 : z (20 + 2 * m + j) = s (20 + 2 * m + j) := by rw [hs, if_neg (by omega)]
    exact d1.trans ((hR _ _ _ (lk_m hm (by omega) hj)).trans d2.symm)
  · have d1 : u (13 + 12 + m) 2 = v (13 + 12 + m) 2 := by rw [hu, if_neg (by omega)]
    have d2 : z (28 + m) = s (28 + m) := by rw [hs, if_neg (by omega)]
    exact d1.trans ((hR _ _ _ (lk_k_ hm (by omega))).trans d2.symm)
  · have d1 : u (13 + 16 + 15 * c) 0 = v (13 + 16 + 15 * c) 0 := by rw [hu, if_neg (by omega)]
    have d2 : z (34 + 7 * c) = s (34 + 7 * c) := by rw [hs, if_neg (by omega)]
    exact d1.trans ((hR _ _ _ (lk_c0 hc (by omega))).trans d2.symm)
  · have d1 : u (13 + 16 + 15 * c) 2 = v (13 + 16 + 15 * c) 2 := by rw [hu, if_neg (by omega)]
    have d2 : z (36 + 7 * c) = s (36 + 7 * c) := by rw [hs, if_neg (by omega)]
    exact d1.trans ((hR _ _ _ (lk_c2 hc (by omega))).trans d2.symm)
  · have d1 : u (13 + 16 + 15 * c) 3 = v (13 + 16 + 15 * c) 3 := by rw [hu, if_neg (by omega)]
    have d2 : z (37 + 7 * c) = s (37 + 7 * c) := by rw [hs, if_neg (by omega)]
    exact d1.trans ((hR _ _ _ (lk_c3 hc (by omega))).trans d2.symm)
  · have d1 : u (13 + 16 + 15 * c) 5 = v (13 + 16 + 15 * c) 5 := by rw [hu, if_neg (by omega)]
    have d2 : z (38 + 7 * c) = s (38 + 7 * c) := by rw [hs, if_neg (by omega)]
    exact d1.trans ((hR _ _ _ (lk_c5 hc (by omega))).trans d2.symm)
  · have d1 : u (13 + 17 + 15 * c) j = v (13 + 17 + 15 * c) j := by rw [hu, if_neg (by omega)]
    have d2 : z (32 + 7 * c + j) = s (32 + 7 * c + j) := by rw [hs, if_neg (by omega)]
    exact d1.trans ((hR _ _ _ (lk_q hc (by omega) hj)).trans d2.symm)
  · have a36 := A36 c hc
    have d1 : u (13 + 20 + 15 * c + i) j = v (13 + 20 + 15 * c + i) j := by rw [hu, if_neg (by omega)]
    have d2 : z (86 + 10 * c + 2 * j + i) = s (86 + 10 * c + 2 * j + i) := by rw [hs, if_neg (by omega)]
    exact d1.trans ((hR _ _ _ (lk_o hc (by omega) hi hj (by omega))).trans d2.symm)
  · have d1 : u (13 + 23 + 15 * c + i) j = v (13 + 23 + 15 * c + i) j := by rw [hu, if_neg (by omega)]
    have d2 : z (308 + 48 * c + 24 * i + j) = s (308 + 48 * c + 24 * i + j) := by rw [hs, if_neg (by omega)]
    exact d1.trans ((hR _ _ _ (lk_l hc (by omega) hi hj)).trans d2.symm)
  · have a38 := A38 c hc
    have d1 : u (13 + 26 + 15 * c + t) j = v (13 + 26 + 15 * c + t) j := by rw [hu, if_neg (by omega)]
    have d2 : z (158 + 25 * c + 5 * t + j) = s (158 + 25 * c + 5 * t + j) := by rw [hs, if_neg (by omega)]
    exact d1.trans ((hR _ _ _ (lk_t hc (by omega) ht (by omega) hj)).trans d2.symm)

set_option maxHeartbeats 4000000 in
theorem RL_no1 {v u : Nat → Nat → Int32} {s z : Nat → Int32} {X R : Nat} {x y g a : Int32} (hX : X < 6) (hR5 : R < 5) (hn : (s (36 + 7 * X)).toInt = (R : Int)) (hx : y.toInt = (s (36 + 7 * X)).toInt + 1) (hu : ∀ k j : Nat, u k j = if k = 31 + 15 * X ∧ j = 1 then -1 else if k = 31 + 15 * X ∧ j = 0 then -1 else if k = 29 + 15 * X ∧ j = 2 then y else if k = 33 + 15 * X + 1 ∧ j = R then g else if k = 33 + 15 * X + 0 ∧ j = R then a else if k = 31 + 15 * X ∧ j = 1 then x else v k j) (hs : ∀ n : Nat, z n = if n = 75 + 2 * X then -5 else if n = 74 + 2 * X then -5 else if n = 36 + 7 * X then y else if n = 87 + 10 * X + 2 * R then g else if n = 86 + 10 * X + 2 * R then a else if n = 75 + 2 * X then x else s n) (hR : RLk 13 v s) : RLk 13 u z := by
  have A0 : (z 0).toInt = (s 0).toInt := by rw [hs, if_neg (by omega), if_neg (by omega), if_neg (by omega), if_neg (by omega), if_neg (by omega), if_neg (by omega)]
  have A1 : (z 1).toInt = (s 1).toInt := by rw [hs, if_neg (by omega), if_neg (by omega), if_neg (by omega), if_neg (by omega), if_neg (by omega), if_neg (by omega)]
  have A2 : (z 2).toInt = (s 2).toInt := by rw [hs, if_neg (by omega), if_neg (by omega), if_neg (by omega), if_neg (by omega), if_neg (by omega), if_neg (by omega)]
  have A36 : ∀ c : Nat, c < 6 → (z (36 + 7 * c)).toInt = (s (36 + 7 * c)).toInt ∨ (c = X ∧ (z (36 + 7 * c)).toInt = (s (36 + 7 * c)).toInt + 1) := fun c hc => by by_cases q : c = X; subst q; refine Or.inr ⟨rfl, ?_⟩; rw [hs, if_neg (by omega), if_neg (by omega), if_pos rfl]; exact hx; refine Or.inl ?_; rw [hs, if_neg (by omega), if_neg (by omega), if_neg (by omega), if_neg (by omega), if_neg (by omega), if_neg (by omega)]
  have A38 : ∀ c : Nat, c < 6 → (z (38 + 7 * c)).toInt = (s (38 + 7 * c)).toInt := fun c hc => by rw [hs, if_neg (by omega), if_neg (by omega), if_neg (by omega), if_neg (by omega), if_neg (by omega), if_neg (by omega)]
  intro k j n h
  unfold lk at h
  rcases h with ⟨rfl, hj, rfl⟩ | ⟨p, hp, ha, hj, rfl, rfl⟩ | ⟨m, hm, ha, hj, rfl, rfl⟩ | ⟨m, hm, ha, rfl, rfl, rfl⟩ | ⟨c, hc, ha, rfl, rfl, rfl⟩ | ⟨c, hc, ha, rfl, rfl, rfl⟩ | ⟨c, hc, ha, rfl, rfl, rfl⟩ | ⟨c, hc, ha, rfl, rfl, rfl⟩ | ⟨c, hc, ha, hj, rfl, rfl⟩ | ⟨c, i, hc, ha, hi, hj, hr, rfl, rfl⟩ | ⟨c, i, hc, ha, hi, hj, rfl, rfl⟩ | ⟨c, t, hc, ha, ht, hr, hj, rfl, rfl⟩
  · have d1 : u (13) n = v (13) n := by rw [hu, if_neg (by omega), if_neg (by omega), if_neg (by omega), if_neg (by omega), if_neg (by omega), if_neg (by omega)]
    have d2 : z (n) = s (n) := by rw [hs, if_neg (by omega), if_neg (by omega), if_neg (by omega), if_neg (by omega), if_neg (by omega), if_neg (by omega)]
    exact d1.trans ((hR _ _ _ (lk_a hj)).trans d2.symm)
  · have d1 : u (13 + 4 + p) j = v (13 + 4 + p) j := by rw [hu, if_neg (by omega), if_neg (by omega), if_neg (by omega), if_neg (by omega), if_neg (by omega), if_neg (by omega)]
    have d2 : z (4 + 2 * p + j) = s (4 + 2 * p + j) := by rw [hs, if_neg (by omega), if_neg (by omega), if_neg (by omega), if_neg (by omega), if_neg (by omega), if_neg (by omega)]
    exact d1.trans ((hR _ _ _ (lk_p hp (by omega) hj)).trans d2.symm)
  · have d1 : u (13 + 12 + m) j = v (13 + 12 + m) j := by rw [hu, if_neg (by omega), if_neg (by omega), if_neg (by omega), if_neg (by omega), if_neg (by omega), if_neg (by omega)]
    have d2 : z (20 + 2 * m + j) = s (20 + 2 * m + j) := by rw [hs, if_neg (by omega), if_neg (by omega), if_neg (by omega), if_neg (by omega), if_neg (by omega), if_neg (by omega)]
    exact d1.trans ((hR _ _ _ (lk_m hm (by omega) hj)).trans d2.symm)
  · have d1 : u (13 + 12 + m) 2 = v (13 + 12 + m) 2 := by rw [hu, if_neg (by omega), if_neg (by omega), if_neg (by omega), if_neg (by omega), if_neg (by omega), if_neg (by omega)]
    have d2 : z (28 + m) = s (28 + m) := by rw [hs, if_neg (by omega), if_neg (by omega), if_neg (by omega), if_neg (by omega), if_neg (by omega), if_neg (by omega)]
    exact d1.trans ((hR _ _ _ (lk_k_ hm (by omega))).trans d2.symm)
  · have d1 : u (13 + 16 + 15 * c) 0 = v (13 + 16 + 15 * c) 0 := by rw [hu, if_neg (by omega), if_neg (by omega), if_neg (by omega), if_neg (by omega), if_neg (by omega), if_neg (by omega)]
    have d2 : z (34 + 7 * c) = s (34 + 7 * c) := by rw [hs, if_neg (by omega), if_neg (by omega), if_neg (by omega), if_neg (by omega), if_neg (by omega), if_neg (by omega)]
    exact d1.trans ((hR _ _ _ (lk_c0 hc (by omega))).trans d2.symm)
  · by_cases e0 : 13 + 16 + 15 * c = 29 + 15 * X ∧ 2 = 2
    · have d1 : u (13 + 16 + 15 * c) 2 = y := by rw [hu, if_neg (by omega), if_neg (by omega), if_pos (by omega)]
      have d2 : z (36 + 7 * c) = y := by rw [hs, if_neg (by omega), if_neg (by omega), if_pos (by omega)]
      exact d1.trans d2.symm
    · skip
      have d1 : u (13 + 16 + 15 * c) 2 = v (13 + 16 + 15 * c) 2 := by rw [hu, if_neg (by omega), if_neg (by omega), if_neg (by omega), if_neg (by omega), if_neg (by omega), if_neg (by omega)]
      have d2 : z (36 + 7 * c) = s (36 + 7 * c) := by rw [hs, if_neg (by omega), if_neg (by omega), if_neg (by omega), if_neg (by omega), if_neg (by omega), if_neg (by omega)]
      exact d1.trans ((hR _ _ _ (lk_c2 hc (by omega))).trans d2.symm)
  · have d1 : u (13 + 16 + 15 * c) 3 = v (13 + 16 + 15 * c) 3 := by rw [hu, if_neg (by omega), if_neg (by omega), if_neg (by omega), if_neg (by omega), if_neg (by omega), if_neg (by omega)]
    have d2 : z (37 + 7 * c) = s (37 + 7 * c) := by rw [hs, if_neg (by omega), if_neg (by omega), if_neg (by omega), if_neg (by omega), if_neg (by omega), if_neg (by omega)]
    exact d1.trans ((hR _ _ _ (lk_c3 hc (by omega))).trans d2.symm)
  · have d1 : u (13 + 16 + 15 * c) 5 = v (13 + 16 + 15 * c) 5 := by rw [hu, if_neg (by omega), if_neg (by omega), if_neg (by omega), if_neg (by omega), if_neg (by omega), if_neg (by omega)]
    have d2 : z (38 + 7 * c) = s (38 + 7 * c) := by rw [hs, if_neg (by omega), if_neg (by omega), if_neg (by omega), if_neg (by omega), if_neg (by omega), if_neg (by omega)]
    exact d1.trans ((hR _ _ _ (lk_c5 hc (by omega))).trans d2.symm)
  · have d1 : u (13 + 17 + 15 * c) j = v (13 + 17 + 15 * c) j := by rw [hu, if_neg (by omega), if_neg (by omega), if_neg (by omega), if_neg (by omega), if_neg (by omega), if_neg (by omega)]
    have d2 : z (32 + 7 * c + j) = s (32 + 7 * c + j) := by rw [hs, if_neg (by omega), if_neg (by omega), if_neg (by omega), if_neg (by omega), if_neg (by omega), if_neg (by omega)]
    exact d1.trans ((hR _ _ _ (lk_q hc (by omega) hj)).trans d2.symm)
  · have a36 := A36 c hc
    have hnc : c = X → (s (36 + 7 * c)).toInt = (R : Int) := fun q => by rw [q]; exact hn
    by_cases e0 : 13 + 20 + 15 * c + i = 33 + 15 * X + 1 ∧ j = R
    · have d1 : u (13 + 20 + 15 * c + i) j = g := by rw [hu, if_neg (by omega), if_neg (by omega), if_neg (by omega), if_pos (by omega)]
      have d2 : z (86 + 10 * c + 2 * j + i) = g := by rw [hs, if_neg (by omega), if_neg (by omega), if_neg (by omega), if_pos (by omega)]
      exact d1.trans d2.symm
    · skip
      by_cases e1 : 13 + 20 + 15 * c + i = 33 + 15 * X + 0 ∧ j = R
      · have d1 : u (13 + 20 + 15 * c + i) j = a := by rw [hu, if_neg (by omega), if_neg (by omega), if_neg (by omega), if_neg (by omega), if_pos (by omega)]
        have d2 : z (86 + 10 * c + 2 * j + i) = a := by rw [hs, if_neg (by omega), if_neg (by omega), if_neg (by omega), if_neg (by omega), if_pos (by omega)]
        exact d1.trans d2.symm
      · skip
        have d1 : u (13 + 20 + 15 * c + i) j = v (13 + 20 + 15 * c + i) j := by rw [hu, if_neg (by omega), if_neg (by omega), if_neg (by omega), if_neg (by omega), if_neg (by omega), if_neg (by omega)]
        have d2 : z (86 + 10 * c + 2 * j + i) = s (86 + 10 * c + 2 * j + i) := by rw [hs, if_neg (by omega), if_neg (by omega), if_neg (by omega), if_neg (by omega), if_neg (by omega), if_neg (by omega)]
        exact d1.trans ((hR _ _ _ (lk_o hc (by omega) hi hj (by omega))).trans d2.symm)
  · have d1 : u (13 + 23 + 15 * c + i) j = v (13 + 23 + 15 * c + i) j := by rw [hu, if_neg (by omega), if_neg (by omega), if_neg (by omega), if_neg (by omega), if_neg (by omega), if_neg (by omega)]
    have d2 : z (308 + 48 * c + 24 * i + j) = s (308 + 48 * c + 24 * i + j) := by rw [hs, if_neg (by omega), if_neg (by omega), if_neg (by omega), if_neg (by omega), if_neg (by omega), if_neg (by omega)]
    exact d1.trans ((hR _ _ _ (lk_l hc (by omega) hi hj)).trans d2.symm)
  · have a38 := A38 c hc
    have d1 : u (13 + 26 + 15 * c + t) j = v (13 + 26 + 15 * c + t) j := by rw [hu, if_neg (by omega), if_neg (by omega), if_neg (by omega), if_neg (by omega), if_neg (by omega), if_neg (by omega)]
    have d2 : z (158 + 25 * c + 5 * t + j) = s (158 + 25 * c + 5 * t + j) := by rw [hs, if_neg (by omega), if_neg (by omega), if_neg (by omega), if_neg (by omega), if_neg (by omega), if_neg (by omega)]
    exact d1.trans ((hR _ _ _ (lk_t hc (by omega) ht (by omega) hj)).trans d2.symm)

set_option maxHeartbeats 4000000 in
theorem RL_yes1 {v u : Nat → Nat → Int32} {s z : Nat → Int32} {X R : Nat} {x y g a w : Int32} (hX : X < 6) (hR5 : R < 5) (hn : (s (36 + 7 * X)).toInt = (R : Int)) (hx : y.toInt = (s (36 + 7 * X)).toInt + 1) (hu : ∀ k j : Nat, u k j = if k = 29 + 15 * X ∧ j = 1 then w else if k = 29 + 15 * X ∧ j = 0 then 1 else if k = 29 + 15 * X ∧ j = 2 then y else if k = 33 + 15 * X + 1 ∧ j = R then g else if k = 33 + 15 * X + 0 ∧ j = R then a else if k = 31 + 15 * X ∧ j = 1 then x else v k j) (hs : ∀ n : Nat, z n = if n = 35 + 7 * X then w else if n = 34 + 7 * X then 1 else if n = 75 + 2 * X then -5 else if n = 74 + 2 * X then -5 else if n = 36 + 7 * X then y else if n = 87 + 10 * X + 2 * R then g else if n = 86 + 10 * X + 2 * R then a else if n = 75 + 2 * X then x else s n) (hR : RLk 13 v s) : RLk 13 u z := by
  have A0 : (z 0).toInt = (s 0).toInt := by rw [hs, if_neg (by omega), if_neg (by omega), if_neg (by omega), if_neg (by omega), if_neg (by omega), if_neg (by omega), if_neg (by omega), if_neg (by omega)]
  have A1 : (z 1).toInt = (s 1).toInt := by rw [hs, if_neg (by omega), if_neg (by omega), if_neg (by omega), if_neg (by omega), if_neg (by omega), if_neg (by omega), if_neg (by omega), if_neg (by omega)]
  have A2 : (z 2).toInt = (s 2).toInt := by rw [hs, if_neg (by omega), if_neg (by omega), if_neg (by omega), if_neg (by omega), if_neg (by omega), if_neg (by omega), if_neg (by omega), if_neg (by omega)]
  have A36 : ∀ c : Nat, c < 6 → (z (36 + 7 * c)).toInt = (s (36 + 7 * c)).toInt ∨ (c = X ∧ (z (36 + 7 * c)).toInt = (s (36 + 7 * c)).toInt + 1) := fun c hc => by by_cases q : c = X; subst q; refine Or.inr ⟨rfl, ?_⟩; rw [hs, if_neg (by omega), if_neg (by omega), if_neg (by omega), if_neg (by omega), if_pos rfl]; exact hx; refine Or.inl ?_; rw [hs, if_neg (by omega), if_neg (by omega), if_neg (by omega), if_neg (by omega), if_neg (by omega), if_neg (by omega), if_neg (by omega), if_neg (by omega)]
  have A38 : ∀ c : Nat, c < 6 → (z (38 + 7 * c)).toInt = (s (38 + 7 * c)).toInt := fun c hc => by rw [hs, if_neg (by omega), if_neg (by omega), if_neg (by omega), if_neg (by omega), if_neg (by omega), if_neg (by omega), if_neg (by omega), if_neg (by omega)]
  intro k j n h
  unfold lk at h
  rcases h with ⟨rfl, hj, rfl⟩ | ⟨p, hp, ha, hj, rfl, rfl⟩ | ⟨m, hm, ha, hj, rfl, rfl⟩ | ⟨m, hm, ha, rfl, rfl, rfl⟩ | ⟨c, hc, ha, rfl, rfl, rfl⟩ | ⟨c, hc, ha, rfl, rfl, rfl⟩ | ⟨c, hc, ha, rfl, rfl, rfl⟩ | ⟨c, hc, ha, rfl, rfl, rfl⟩ | ⟨c, hc, ha, hj, rfl, rfl⟩ | ⟨c, i, hc, ha, hi, hj, hr, rfl, rfl⟩ | ⟨c, i, hc, ha, hi, hj, rfl, rfl⟩ | ⟨c, t, hc, ha, ht, hr, hj, rfl, rfl⟩
  · have d1 : u (13) n = v (13) n := by rw [hu, if_neg (by omega), if_neg (by omega), if_neg (by omega), if_neg (by omega), if_neg (by omega), if_neg (by omega)]
    have d2 : z (n) = s (n) := by rw [hs, if_neg (by omega), if_neg (by omega), if_neg (by omega), if_neg (by omega), if_neg (by omega), if_neg (by omega), if_neg (by omega), if_neg (by omega)]
    exact d1.trans ((hR _ _ _ (lk_a hj)).trans d2.symm)
  · have d1 : u (13 + 4 + p) j = v (13 + 4 + p) j := by rw [hu, if_neg (by omega), if_neg (by omega), if_neg (by omega), if_neg (by omega), if_neg (by omega), if_neg (by omega)]
    have d2 : z (4 + 2 * p + j) = s (4 + 2 * p + j) := by rw [hs, if_neg (by omega), if_neg (by omega), if_neg (by omega), if_neg (by omega), if_neg (by omega), if_neg (by omega), if_neg (by omega), if_neg (by omega)]
    exact d1.trans ((hR _ _ _ (lk_p hp (by omega) hj)).trans d2.symm)
  · have d1 : u (13 + 12 + m) j = v (13 + 12 + m) j := by rw [hu, if_neg (by omega), if_neg (by omega), if_neg (by omega), if_neg (by omega), if_neg (by omega), if_neg (by omega)]
    have d2 : z (20 + 2 * m + j) = s (20 + 2 * m + j) := by rw [hs, if_neg (by omega), if_neg (by omega), if_neg (by omega), if_neg (by omega), if_neg (by omega), if_neg (by omega), if_neg (by omega), if_neg (by omega)]
    exact d1.trans ((hR _ _ _ (lk_m hm (by omega) hj)).trans d2.symm)
  · have d1 : u (13 + 12 + m) 2 = v (13 + 12 + m) 2 := by rw [hu, if_neg (by omega), if_neg (by omega), if_neg (by omega), if_neg (by omega), if_neg (by omega), if_neg (by omega)]
    have d2 : z (28 + m) = s (28 + m) := by rw [hs, if_neg (by omega), if_neg (by omega), if_neg (by omega), if_neg (by omega), if_neg (by omega), if_neg (by omega), if_neg (by omega), if_neg (by omega)]
    exact d1.trans ((hR _ _ _ (lk_k_ hm (by omega))).trans d2.symm)
  · by_cases e0 : 13 + 16 + 15 * c = 29 + 15 * X ∧ 0 = 0
    · have d1 : u (13 + 16 + 15 * c) 0 = 1 := by rw [hu, if_neg (by omega), if_pos (by omega)]
      have d2 : z (34 + 7 * c) = 1 := by rw [hs, if_neg (by omega), if_pos (by omega)]
      exact d1.trans d2.symm
    · skip
      have d1 : u (13 + 16 + 15 * c) 0 = v (13 + 16 + 15 * c) 0 := by rw [hu, if_neg (by omega), if_neg (by omega), if_neg (by omega), if_neg (by omega), if_neg (by omega), if_neg (by omega)]
      have d2 : z (34 + 7 * c) = s (34 + 7 * c) := by rw [hs, if_neg (by omega), if_neg (by omega), if_neg (by omega), if_neg (by omega), if_neg (by omega), if_neg (by omega), if_neg (by omega), if_neg (by omega)]
      exact d1.trans ((hR _ _ _ (lk_c0 hc (by omega))).trans d2.symm)
  · by_cases e0 : 13 + 16 + 15 * c = 29 + 15 * X ∧ 2 = 2
    · have d1 : u (13 + 16 + 15 * c) 2 = y := by rw [hu, if_neg (by omega), if_neg (by omega), if_pos (by omega)]
      have d2 : z (36 + 7 * c) = y := by rw [hs, if_neg (by omega), if_neg (by omega), if_neg (by omega), if_neg (by omega), if_pos (by omega)]
      exact d1.trans d2.symm
    · skip
      have d1 : u (13 + 16 + 15 * c) 2 = v (13 + 16 + 15 * c) 2 := by rw [hu, if_neg (by omega), if_neg (by omega), if_neg (by omega), if_neg (by omega), if_neg (by omega), if_neg (by omega)]
      have d2 : z (36 + 7 * c) = s (36 + 7 * c) := by rw [hs, if_neg (by omega), if_neg (by omega), if_neg (by omega), if_neg (by omega), if_neg (by omega), if_neg (by omega), if_neg (by omega), if_neg (by omega)]
      exact d1.trans ((hR _ _ _ (lk_c2 hc (by omega))).trans d2.symm)
  · have d1 : u (13 + 16 + 15 * c) 3 = v (13 + 16 + 15 * c) 3 := by rw [hu, if_neg (by omega), if_neg (by omega), if_neg (by omega), if_neg (by omega), if_neg (by omega), if_neg (by omega)]
    have d2 : z (37 + 7 * c) = s (37 + 7 * c) := by rw [hs, if_neg (by omega), if_neg (by omega), if_neg (by omega), if_neg (by omega), if_neg (by omega), if_neg (by omega), if_neg (by omega), if_neg (by omega)]
    exact d1.trans ((hR _ _ _ (lk_c3 hc (by omega))).trans d2.symm)
  · have d1 : u (13 + 16 + 15 * c) 5 = v (13 + 16 + 15 * c) 5 := by rw [hu, if_neg (by omega), if_neg (by omega), if_neg (by omega), if_neg (by omega), if_neg (by omega), if_neg (by omega)]
    have d2 : z (38 + 7 * c) = s (38 + 7 * c) := by rw [hs, if_neg (by omega), if_neg (by omega), if_neg (by omega), if_neg (by omega), if_neg (by omega), if_neg (by omega), if_neg (by omega), if_neg (by omega)]
    exact d1.trans ((hR _ _ _ (lk_c5 hc (by omega))).trans d2.symm)
  · have d1 : u (13 + 17 + 15 * c) j = v (13 + 17 + 15 * c) j := by rw [hu, if_neg (by omega), if_neg (by omega), if_neg (by omega), if_neg (by omega), if_neg (by omega), if_neg (by omega)]
    have d2 : z (32 + 7 * c + j) = s (32 + 7 * c + j) := by rw [hs, if_neg (by omega), if_neg (by omega), if_neg (by omega), if_neg (by omega), if_neg (by omega), if_neg (by omega), if_neg (by omega), if_neg (by omega)]
    exact d1.trans ((hR _ _ _ (lk_q hc (by omega) hj)).trans d2.symm)
  · have a36 := A36 c hc
    have hnc : c = X → (s (36 + 7 * c)).toInt = (R : Int) := fun q => by rw [q]; exact hn
    by_cases e0 : 13 + 20 + 15 * c + i = 33 + 15 * X + 1 ∧ j = R
    · have d1 : u (13 + 20 + 15 * c + i) j = g := by rw [hu, if_neg (by omega), if_neg (by omega), if_neg (by omega), if_pos (by omega)]
      have d2 : z (86 + 10 * c + 2 * j + i) = g := by rw [hs, if_neg (by omega), if_neg (by omega), if_neg (by omega), if_neg (by omega), if_neg (by omega), if_pos (by omega)]
      exact d1.trans d2.symm
    · skip
      by_cases e1 : 13 + 20 + 15 * c + i = 33 + 15 * X + 0 ∧ j = R
      · have d1 : u (13 + 20 + 15 * c + i) j = a := by rw [hu, if_neg (by omega), if_neg (by omega), if_neg (by omega), if_neg (by omega), if_pos (by omega)]
        have d2 : z (86 + 10 * c + 2 * j + i) = a := by rw [hs, if_neg (by omega), if_neg (by omega), if_neg (by omega), if_neg (by omega), if_neg (by omega), if_neg (by omega), if_pos (by omega)]
        exact d1.trans d2.symm
      · skip
        have d1 : u (13 + 20 + 15 * c + i) j = v (13 + 20 + 15 * c + i) j := by rw [hu, if_neg (by omega), if_neg (by omega), if_neg (by omega), if_neg (by omega), if_neg (by omega), if_neg (by omega)]
        have d2 : z (86 + 10 * c + 2 * j + i) = s (86 + 10 * c + 2 * j + i) := by rw [hs, if_neg (by omega), if_neg (by omega), if_neg (by omega), if_neg (by omega), if_neg (by omega), if_neg (by omega), if_neg (by omega), if_neg (by omega)]
        exact d1.trans ((hR _ _ _ (lk_o hc (by omega) hi hj (by omega))).trans d2.symm)
  · have d1 : u (13 + 23 + 15 * c + i) j = v (13 + 23 + 15 * c + i) j := by rw [hu, if_neg (by omega), if_neg (by omega), if_neg (by omega), if_neg (by omega), if_neg (by omega), if_neg (by omega)]
    have d2 : z (308 + 48 * c + 24 * i + j) = s (308 + 48 * c + 24 * i + j) := by rw [hs, if_neg (by omega), if_neg (by omega), if_neg (by omega), if_neg (by omega), if_neg (by omega), if_neg (by omega), if_neg (by omega), if_neg (by omega)]
    exact d1.trans ((hR _ _ _ (lk_l hc (by omega) hi hj)).trans d2.symm)
  · have a38 := A38 c hc
    have d1 : u (13 + 26 + 15 * c + t) j = v (13 + 26 + 15 * c + t) j := by rw [hu, if_neg (by omega), if_neg (by omega), if_neg (by omega), if_neg (by omega), if_neg (by omega), if_neg (by omega)]
    have d2 : z (158 + 25 * c + 5 * t + j) = s (158 + 25 * c + 5 * t + j) := by rw [hs, if_neg (by omega), if_neg (by omega), if_neg (by omega), if_neg (by omega), if_neg (by omega), if_neg (by omega), if_neg (by omega), if_neg (by omega)]
    exact d1.trans ((hR _ _ _ (lk_t hc (by omega) ht (by omega) hj)).trans d2.symm)

set_option maxHeartbeats 4000000 in
theorem RX_box1 {v u : Nat → Nat → Int32} {s z : Nat → Int32} {X : Nat} {x : Int32} (hX : X < 6) (hx : 0 ≤ x.toInt ∧ x.toInt ≤ 100) (hu : ∀ k j : Nat, u k j = if k = 31 + 15 * X ∧ j = 1 then x else v k j) (hs : ∀ n : Nat, z n = if n = 75 + 2 * X then x else s n) (h : RX 13 v s) : RX 13 u z := by
  intro c hc hac
  have a2 : z 2 = s 2 := by rw [hs, if_neg (by omega)]
  have hh := h c hc (by rw [a2] at hac; exact hac)
  by_cases hq : c = X
  · subst hq
    have g0 : u (13 + 16 + 15 * c) 1 = v (13 + 16 + 15 * c) 1 := by rw [hu, if_neg (by omega)]
    have g1 : u (13 + 18 + 15 * c) 0 = v (13 + 18 + 15 * c) 0 := by rw [hu, if_neg (by omega)]
    have g2 : u (13 + 18 + 15 * c) 1 = x := by rw [hu, if_pos (by omega)]
    have g3 : z (34 + 7 * c) = s (34 + 7 * c) := by rw [hs, if_neg (by omega)]
    have g4 : z (35 + 7 * c) = s (35 + 7 * c) := by rw [hs, if_neg (by omega)]
    have g5 : z (74 + 2 * c) = s (74 + 2 * c) := by rw [hs, if_neg (by omega)]
    have g6 : z (75 + 2 * c) = x := by rw [hs, if_pos (by omega)]
    rw [g0, g1, g2, g3, g4, g5, g6]
    obtain ⟨r1, r2, r3, r4⟩ := hh
    exact ⟨r1, r2, r3, fun q => ⟨(r4 q).1, Or.inr ⟨hx.1, hx.2, rfl⟩⟩⟩
  · have d1 : u (13 + 16 + 15 * c) 1 = v (13 + 16 + 15 * c) 1 := by rw [hu, if_neg (by omega)]
    have d2 : u (13 + 18 + 15 * c) 0 = v (13 + 18 + 15 * c) 0 := by rw [hu, if_neg (by omega)]
    have d3 : u (13 + 18 + 15 * c) 1 = v (13 + 18 + 15 * c) 1 := by rw [hu, if_neg (by omega)]
    have f0 : z (34 + 7 * c) = s (34 + 7 * c) := by rw [hs, if_neg (by omega)]
    have f1 : z (35 + 7 * c) = s (35 + 7 * c) := by rw [hs, if_neg (by omega)]
    have f2 : z (74 + 2 * c) = s (74 + 2 * c) := by rw [hs, if_neg (by omega)]
    have f3 : z (75 + 2 * c) = s (75 + 2 * c) := by rw [hs, if_neg (by omega)]
    rw [d1, d2, d3, f0, f1, f2, f3]
    exact hh

set_option maxHeartbeats 4000000 in
theorem RX_no1 {v u : Nat → Nat → Int32} {s z : Nat → Int32} {X R : Nat} {x y g a : Int32} (hX : X < 6) (hR5 : R < 5) (hu : ∀ k j : Nat, u k j = if k = 31 + 15 * X ∧ j = 1 then -1 else if k = 31 + 15 * X ∧ j = 0 then -1 else if k = 29 + 15 * X ∧ j = 2 then y else if k = 33 + 15 * X + 1 ∧ j = R then g else if k = 33 + 15 * X + 0 ∧ j = R then a else if k = 31 + 15 * X ∧ j = 1 then x else v k j) (hs : ∀ n : Nat, z n = if n = 75 + 2 * X then -5 else if n = 74 + 2 * X then -5 else if n = 36 + 7 * X then y else if n = 87 + 10 * X + 2 * R then g else if n = 86 + 10 * X + 2 * R then a else if n = 75 + 2 * X then x else s n) (h : RX 13 v s) : RX 13 u z := by
  intro c hc hac
  have a2 : z 2 = s 2 := by rw [hs, if_neg (by omega), if_neg (by omega), if_neg (by omega), if_neg (by omega), if_neg (by omega), if_neg (by omega)]
  have hh := h c hc (by rw [a2] at hac; exact hac)
  by_cases hq : c = X
  · subst hq
    have g0 : u (13 + 16 + 15 * c) 1 = v (13 + 16 + 15 * c) 1 := by rw [hu, if_neg (by omega), if_neg (by omega), if_neg (by omega), if_neg (by omega), if_neg (by omega), if_neg (by omega)]
    have g1 : u (13 + 18 + 15 * c) 0 = -1 := by rw [hu, if_neg (by omega), if_pos (by omega)]
    have g2 : u (13 + 18 + 15 * c) 1 = -1 := by rw [hu, if_pos (by omega)]
    have g3 : z (34 + 7 * c) = s (34 + 7 * c) := by rw [hs, if_neg (by omega), if_neg (by omega), if_neg (by omega), if_neg (by omega), if_neg (by omega), if_neg (by omega)]
    have g4 : z (35 + 7 * c) = s (35 + 7 * c) := by rw [hs, if_neg (by omega), if_neg (by omega), if_neg (by omega), if_neg (by omega), if_neg (by omega), if_neg (by omega)]
    have g5 : z (74 + 2 * c) = -5 := by rw [hs, if_neg (by omega), if_pos (by omega)]
    have g6 : z (75 + 2 * c) = -5 := by rw [hs, if_pos (by omega)]
    rw [g0, g1, g2, g3, g4, g5, g6]
    obtain ⟨r1, r2, r3, r4⟩ := hh
    exact ⟨r1, r2, r3, fun q => ⟨Or.inl ⟨by decide, by decide⟩, Or.inl ⟨by decide, by decide⟩⟩⟩
  · have d1 : u (13 + 16 + 15 * c) 1 = v (13 + 16 + 15 * c) 1 := by rw [hu, if_neg (by omega), if_neg (by omega), if_neg (by omega), if_neg (by omega), if_neg (by omega), if_neg (by omega)]
    have d2 : u (13 + 18 + 15 * c) 0 = v (13 + 18 + 15 * c) 0 := by rw [hu, if_neg (by omega), if_neg (by omega), if_neg (by omega), if_neg (by omega), if_neg (by omega), if_neg (by omega)]
    have d3 : u (13 + 18 + 15 * c) 1 = v (13 + 18 + 15 * c) 1 := by rw [hu, if_neg (by omega), if_neg (by omega), if_neg (by omega), if_neg (by omega), if_neg (by omega), if_neg (by omega)]
    have f0 : z (34 + 7 * c) = s (34 + 7 * c) := by rw [hs, if_neg (by omega), if_neg (by omega), if_neg (by omega), if_neg (by omega), if_neg (by omega), if_neg (by omega)]
    have f1 : z (35 + 7 * c) = s (35 + 7 * c) := by rw [hs, if_neg (by omega), if_neg (by omega), if_neg (by omega), if_neg (by omega), if_neg (by omega), if_neg (by omega)]
    have f2 : z (74 + 2 * c) = s (74 + 2 * c) := by rw [hs, if_neg (by omega), if_neg (by omega), if_neg (by omega), if_neg (by omega), if_neg (by omega), if_neg (by omega)]
    have f3 : z (75 + 2 * c) = s (75 + 2 * c) := by rw [hs, if_neg (by omega), if_neg (by omega), if_neg (by omega), if_neg (by omega), if_neg (by omega), if_neg (by omega)]
    rw [d1, d2, d3, f0, f1, f2, f3]
    exact hh

set_option maxHeartbeats 4000000 in
theorem RX_yes1 {v u : Nat → Nat → Int32} {s z : Nat → Int32} {X R : Nat} {x y g a w : Int32} (hX : X < 6) (hR5 : R < 5) (hu : ∀ k j : Nat, u k j = if k = 29 + 15 * X ∧ j = 1 then w else if k = 29 + 15 * X ∧ j = 0 then 1 else if k = 29 + 15 * X ∧ j = 2 then y else if k = 33 + 15 * X + 1 ∧ j = R then g else if k = 33 + 15 * X + 0 ∧ j = R then a else if k = 31 + 15 * X ∧ j = 1 then x else v k j) (hs : ∀ n : Nat, z n = if n = 35 + 7 * X then w else if n = 34 + 7 * X then 1 else if n = 75 + 2 * X then -5 else if n = 74 + 2 * X then -5 else if n = 36 + 7 * X then y else if n = 87 + 10 * X + 2 * R then g else if n = 86 + 10 * X + 2 * R then a else if n = 75 + 2 * X then x else s n) (h : RX 13 v s) : RX 13 u z := by
  intro c hc hac
  have a2 : z 2 = s 2 := by rw [hs, if_neg (by omega), if_neg (by omega), if_neg (by omega), if_neg (by omega), if_neg (by omega), if_neg (by omega), if_neg (by omega), if_neg (by omega)]
  have hh := h c hc (by rw [a2] at hac; exact hac)
  by_cases hq : c = X
  · subst hq
    have g0 : u (13 + 16 + 15 * c) 1 = w := by rw [hu, if_pos (by omega)]
    have g1 : u (13 + 18 + 15 * c) 0 = v (13 + 18 + 15 * c) 0 := by rw [hu, if_neg (by omega), if_neg (by omega), if_neg (by omega), if_neg (by omega), if_neg (by omega), if_neg (by omega)]
    have g2 : u (13 + 18 + 15 * c) 1 = x := by rw [hu, if_neg (by omega), if_neg (by omega), if_neg (by omega), if_neg (by omega), if_neg (by omega), if_pos (by omega)]
    have g3 : z (34 + 7 * c) = 1 := by rw [hs, if_neg (by omega), if_pos (by omega)]
    have g4 : z (35 + 7 * c) = w := by rw [hs, if_pos (by omega)]
    have g5 : z (74 + 2 * c) = -5 := by rw [hs, if_neg (by omega), if_neg (by omega), if_neg (by omega), if_pos (by omega)]
    have g6 : z (75 + 2 * c) = -5 := by rw [hs, if_neg (by omega), if_neg (by omega), if_pos (by omega)]
    rw [g0, g1, g2, g3, g4, g5, g6]
    have k1 : (1 : Int32).toInt = 1 := by decide
    exact ⟨by omega, fun _ => rfl, fun q => absurd k1 q, fun q => absurd q (by omega)⟩
  · have d1 : u (13 + 16 + 15 * c) 1 = v (13 + 16 + 15 * c) 1 := by rw [hu, if_neg (by omega), if_neg (by omega), if_neg (by omega), if_neg (by omega), if_neg (by omega), if_neg (by omega)]
    have d2 : u (13 + 18 + 15 * c) 0 = v (13 + 18 + 15 * c) 0 := by rw [hu, if_neg (by omega), if_neg (by omega), if_neg (by omega), if_neg (by omega), if_neg (by omega), if_neg (by omega)]
    have d3 : u (13 + 18 + 15 * c) 1 = v (13 + 18 + 15 * c) 1 := by rw [hu, if_neg (by omega), if_neg (by omega), if_neg (by omega), if_neg (by omega), if_neg (by omega), if_neg (by omega)]
    have f0 : z (34 + 7 * c) = s (34 + 7 * c) := by rw [hs, if_neg (by omega), if_neg (by omega), if_neg (by omega), if_neg (by omega), if_neg (by omega), if_neg (by omega), if_neg (by omega), if_neg (by omega)]
    have f1 : z (35 + 7 * c) = s (35 + 7 * c) := by rw [hs, if_neg (by omega), if_neg (by omega), if_neg (by omega), if_neg (by omega), if_neg (by omega), if_neg (by omega), if_neg (by omega), if_neg (by omega)]
    have f2 : z (74 + 2 * c) = s (74 + 2 * c) := by rw [hs, if_neg (by omega), if_neg (by omega), if_neg (by omega), if_neg (by omega), if_neg (by omega), if_neg (by omega), if_neg (by omega), if_neg (by omega)]
    have f3 : z (75 + 2 * c) = s (75 + 2 * c) := by rw [hs, if_neg (by omega), if_neg (by omega), if_neg (by omega), if_neg (by omega), if_neg (by omega), if_neg (by omega), if_neg (by omega), if_neg (by omega)]
    rw [d1, d2, d3, f0, f1, f2, f3]
    exact hh

set_option maxHeartbeats 4000000 in
theorem T_offer_1 {n r r2 x0 x1 : Int32} {v u v2 u2 : Nat → Nat → Int32} (hI : Iv v) (hQ : Ir v2) (h : RR n v v2) (p : (¬ ((0 ≤ x0.toInt ∧ x0.toInt < (v 13 2).toInt) ∧ 0 ≤ x1.toInt ∧ x1.toInt ≤ 100) → r = -1 ∧ u = v) ∧ (((0 ≤ x0.toInt ∧ x0.toInt < (v 13 2).toInt) ∧ 0 ≤ x1.toInt ∧ x1.toInt ≤ 100) ∧ (v (29 + 15 * x0.toNatClampNeg) 0).toInt ≠ 0 → r = -4 ∧ u = v) ∧ (((0 ≤ x0.toInt ∧ x0.toInt < (v 13 2).toInt) ∧ 0 ≤ x1.toInt ∧ x1.toInt ≤ 100) ∧ (v (29 + 15 * x0.toNatClampNeg) 0).toInt = 0 ∧ (v (31 + 15 * x0.toNatClampNeg) 1).toInt ≠ -1 → r = -3 ∧ u = v) ∧ (((0 ≤ x0.toInt ∧ x0.toInt < (v 13 2).toInt) ∧ 0 ≤ x1.toInt ∧ x1.toInt ≤ 100) ∧ (v (29 + 15 * x0.toNatClampNeg) 0).toInt = 0 ∧ (v (31 + 15 * x0.toNatClampNeg) 1).toInt = -1 ∧ 5 ≤ (v (29 + 15 * x0.toNatClampNeg) 2).toInt → r = -2 ∧ u = v) ∧ (((0 ≤ x0.toInt ∧ x0.toInt < (v 13 2).toInt) ∧ 0 ≤ x1.toInt ∧ x1.toInt ≤ 100) ∧ (v (29 + 15 * x0.toNatClampNeg) 0).toInt = 0 ∧ (v (31 + 15 * x0.toNatClampNeg) 1).toInt = -1 ∧ (v (29 + 15 * x0.toNatClampNeg) 2).toInt < 5 ∧ (v (31 + 15 * x0.toNatClampNeg) 0).toInt = -1 → r = 0 ∧ (∀ k j : Nat, u k j = if k = 31 + 15 * x0.toNatClampNeg ∧ j = 1 then x1 else v k j)) ∧ (((0 ≤ x0.toInt ∧ x0.toInt < (v 13 2).toInt) ∧ 0 ≤ x1.toInt ∧ x1.toInt ≤ 100) ∧ (v (29 + 15 * x0.toNatClampNeg) 0).toInt = 0 ∧ (v (31 + 15 * x0.toNatClampNeg) 1).toInt = -1 ∧ (v (29 + 15 * x0.toNatClampNeg) 2).toInt < 5 ∧ (v (31 + 15 * x0.toNatClampNeg) 0).toInt ≠ -1 ∧ x1.toInt < (v (31 + 15 * x0.toNatClampNeg) 0).toInt → r = 2 ∧ (∀ k j : Nat, u k j = if k = 31 + 15 * x0.toNatClampNeg ∧ j = 1 then -1 else if k = 31 + 15 * x0.toNatClampNeg ∧ j = 0 then -1 else if k = 29 + 15 * x0.toNatClampNeg ∧ j = 2 then v (29 + 15 * x0.toNatClampNeg) 2 + 1 else if k = 33 + 15 * x0.toNatClampNeg + 1 ∧ j = (v (29 + 15 * x0.toNatClampNeg) 2).toNatClampNeg then x1 else if k = 33 + 15 * x0.toNatClampNeg + 0 ∧ j = (v (29 + 15 * x0.toNatClampNeg) 2).toNatClampNeg then v (31 + 15 * x0.toNatClampNeg) 0 else if k = 31 + 15 * x0.toNatClampNeg ∧ j = 1 then x1 else v k j)) ∧ (((0 ≤ x0.toInt ∧ x0.toInt < (v 13 2).toInt) ∧ 0 ≤ x1.toInt ∧ x1.toInt ≤ 100) ∧ (v (29 + 15 * x0.toNatClampNeg) 0).toInt = 0 ∧ (v (31 + 15 * x0.toNatClampNeg) 1).toInt = -1 ∧ (v (29 + 15 * x0.toNatClampNeg) 2).toInt < 5 ∧ (v (31 + 15 * x0.toNatClampNeg) 0).toInt ≠ -1 ∧ (v (31 + 15 * x0.toNatClampNeg) 0).toInt ≤ x1.toInt → r = 1 ∧ (∀ k j : Nat, u k j = if k = 29 + 15 * x0.toNatClampNeg ∧ j = 1 then (v (31 + 15 * x0.toNatClampNeg) 0 + x1) / 2 else if k = 29 + 15 * x0.toNatClampNeg ∧ j = 0 then 1 else if k = 29 + 15 * x0.toNatClampNeg ∧ j = 2 then v (29 + 15 * x0.toNatClampNeg) 2 + 1 else if k = 33 + 15 * x0.toNatClampNeg + 1 ∧ j = (v (29 + 15 * x0.toNatClampNeg) 2).toNatClampNeg then x1 else if k = 33 + 15 * x0.toNatClampNeg + 0 ∧ j = (v (29 + 15 * x0.toNatClampNeg) 2).toNatClampNeg then v (31 + 15 * x0.toNatClampNeg) 0 else if k = 31 + 15 * x0.toNatClampNeg ∧ j = 1 then x1 else v k j))) (q : (¬ ((0 ≤ x0.toInt ∧ x0.toInt < (v2 1 2).toInt) ∧ 0 ≤ x1.toInt ∧ x1.toInt ≤ 100) → r2 = -1 ∧ u2 = v2) ∧ (((0 ≤ x0.toInt ∧ x0.toInt < (v2 1 2).toInt) ∧ 0 ≤ x1.toInt ∧ x1.toInt ≤ 100) ∧ (v2 1 (34 + 7 * x0.toNatClampNeg)).toInt ≠ 0 → r2 = -4 ∧ u2 = v2) ∧ (((0 ≤ x0.toInt ∧ x0.toInt < (v2 1 2).toInt) ∧ 0 ≤ x1.toInt ∧ x1.toInt ≤ 100) ∧ (v2 1 (34 + 7 * x0.toNatClampNeg)).toInt = 0 ∧ 0 ≤ (v2 1 (75 + 2 * x0.toNatClampNeg)).toInt → r2 = -3 ∧ u2 = v2) ∧ (((0 ≤ x0.toInt ∧ x0.toInt < (v2 1 2).toInt) ∧ 0 ≤ x1.toInt ∧ x1.toInt ≤ 100) ∧ (v2 1 (34 + 7 * x0.toNatClampNeg)).toInt = 0 ∧ (v2 1 (75 + 2 * x0.toNatClampNeg)).toInt < 0 ∧ (v2 1 (36 + 7 * x0.toNatClampNeg)).toInt = 5 → r2 = -2 ∧ u2 = v2) ∧ (((0 ≤ x0.toInt ∧ x0.toInt < (v2 1 2).toInt) ∧ 0 ≤ x1.toInt ∧ x1.toInt ≤ 100) ∧ (v2 1 (34 + 7 * x0.toNatClampNeg)).toInt = 0 ∧ (v2 1 (75 + 2 * x0.toNatClampNeg)).toInt < 0 ∧ (v2 1 (36 + 7 * x0.toNatClampNeg)).toInt ≠ 5 ∧ (v2 1 (74 + 2 * x0.toNatClampNeg)).toInt < 0 → r2 = 0 ∧ (∀ n : Nat, u2 1 n = if n = 75 + 2 * x0.toNatClampNeg then x1 else v2 1 n) ∧ (∀ k : Nat, k ≠ 1 → u2 k = v2 k)) ∧ (((0 ≤ x0.toInt ∧ x0.toInt < (v2 1 2).toInt) ∧ 0 ≤ x1.toInt ∧ x1.toInt ≤ 100) ∧ (v2 1 (34 + 7 * x0.toNatClampNeg)).toInt = 0 ∧ (v2 1 (75 + 2 * x0.toNatClampNeg)).toInt < 0 ∧ (v2 1 (36 + 7 * x0.toNatClampNeg)).toInt ≠ 5 ∧ 0 ≤ (v2 1 (74 + 2 * x0.toNatClampNeg)).toInt ∧ x1.toInt < (v2 1 (74 + 2 * x0.toNatClampNeg)).toInt → r2 = 2 ∧ (∀ n : Nat, u2 1 n = if n = 75 + 2 * x0.toNatClampNeg then -5 else if n = 74 + 2 * x0.toNatClampNeg then -5 else if n = 36 + 7 * x0.toNatClampNeg then v2 1 (36 + 7 * x0.toNatClampNeg) + 1 else if n = 87 + 10 * x0.toNatClampNeg + 2 * (v2 1 (36 + 7 * x0.toNatClampNeg)).toNatClampNeg then x1 else if n = 86 + 10 * x0.toNatClampNeg + 2 * (v2 1 (36 + 7 * x0.toNatClampNeg)).toNatClampNeg then v2 1 (74 + 2 * x0.toNatClampNeg) else if n = 75 + 2 * x0.toNatClampNeg then x1 else v2 1 n) ∧ (∀ k : Nat, k ≠ 1 → u2 k = v2 k)) ∧ (((0 ≤ x0.toInt ∧ x0.toInt < (v2 1 2).toInt) ∧ 0 ≤ x1.toInt ∧ x1.toInt ≤ 100) ∧ (v2 1 (34 + 7 * x0.toNatClampNeg)).toInt = 0 ∧ (v2 1 (75 + 2 * x0.toNatClampNeg)).toInt < 0 ∧ (v2 1 (36 + 7 * x0.toNatClampNeg)).toInt ≠ 5 ∧ 0 ≤ (v2 1 (74 + 2 * x0.toNatClampNeg)).toInt ∧ (v2 1 (74 + 2 * x0.toNatClampNeg)).toInt ≤ x1.toInt → r2 = 1 ∧ (∀ n : Nat, u2 1 n = if n = 35 + 7 * x0.toNatClampNeg then (v2 1 (74 + 2 * x0.toNatClampNeg) + x1) / 2 else if n = 34 + 7 * x0.toNatClampNeg then 1 else if n = 75 + 2 * x0.toNatClampNeg then -5 else if n = 74 + 2 * x0.toNatClampNeg then -5 else if n = 36 + 7 * x0.toNatClampNeg then v2 1 (36 + 7 * x0.toNatClampNeg) + 1 else if n = 87 + 10 * x0.toNatClampNeg + 2 * (v2 1 (36 + 7 * x0.toNatClampNeg)).toNatClampNeg then x1 else if n = 86 + 10 * x0.toNatClampNeg + 2 * (v2 1 (36 + 7 * x0.toNatClampNeg)).toNatClampNeg then v2 1 (74 + 2 * x0.toNatClampNeg) else if n = 75 + 2 * x0.toNatClampNeg then x1 else v2 1 n) ∧ (∀ k : Nat, k ≠ 1 → u2 k = v2 k))) : r = r2 ∧ RR n u u2 := by
  have e0 : v 13 0 = v2 1 0 := h.1.1 _ _ _ (lk_a (by decide))
  have e1 : v 13 1 = v2 1 1 := h.1.1 _ _ _ (lk_a (by decide))
  have e2 : v 13 2 = v2 1 2 := h.1.1 _ _ _ (lk_a (by decide))
  have e3 : v 13 3 = v2 1 3 := h.1.1 _ _ _ (lk_a (by decide))
  have hb0 := hQ 1 0 8 (by decide)
  have hb1 := hQ 1 1 4 (by decide)
  have hb2 := hQ 1 2 6 (by decide)
  have hb3 := hQ 1 3 6 (by decide)
  rw [e2] at p
  by_cases hC : (0 ≤ x0.toInt ∧ x0.toInt < (v2 1 2).toInt) ∧ 0 ≤ x1.toInt ∧ x1.toInt ≤ 100
  · have zX := t_nn (x := x0) (by omega)
    have hX : x0.toNatClampNeg < 6 := by omega
    have ha : (x0.toNatClampNeg : Int) < (v2 1 2).toInt := by omega
    have ev : v (29 + 15 * x0.toNatClampNeg) 0 = v2 1 (34 + 7 * x0.toNatClampNeg) := h.1.1 _ _ _ (lk_c0 hX ha)
    have ew : v (29 + 15 * x0.toNatClampNeg) 2 = v2 1 (36 + 7 * x0.toNatClampNeg) := h.1.1 _ _ _ (lk_c2 hX ha)
    rw [ev, ew] at p
    have hb := hQ 1 (36 + 7 * x0.toNatClampNeg) 5 (bS_c (by omega) (by omega))
    by_cases hD : (v2 1 (34 + 7 * x0.toNatClampNeg)).toInt = 0
    · obtain ⟨hx0, hx1⟩ := (h.1.2.1 _ hX ha).2.2.2 hD
      have hbx : bxr (v (31 + 15 * x0.toNatClampNeg) 1) (v2 1 (75 + 2 * x0.toNatClampNeg)) := hx1
      have hbo : bxr (v (31 + 15 * x0.toNatClampNeg) 0) (v2 1 (74 + 2 * x0.toNatClampNeg)) := hx0
      rcases hbx with ⟨t1, t2⟩ | ⟨t1, t2, t3⟩
      · by_cases hE : (v2 1 (36 + 7 * x0.toNatClampNeg)).toInt = 5
        · obtain ⟨p1, p2⟩ := p.2.2.2.1 ⟨hC, hD, t1, by omega⟩
          obtain ⟨q1, q2⟩ := q.2.2.2.1 ⟨hC, hD, t2, hE⟩
          rw [p1, q1, p2, q2]
          exact ⟨rfl, h⟩
        · rcases hbo with ⟨o1, o2⟩ | ⟨o1, o2, o3⟩
          · obtain ⟨p1, p2⟩ := p.2.2.2.2.1 ⟨hC, hD, t1, by omega, o1⟩
            obtain ⟨q1, q2, q3⟩ := q.2.2.2.2.1 ⟨hC, hD, t2, hE, o2⟩
            exact ⟨by rw [p1, q1], h.wr q3 (funext fun j => by rw [p2, if_neg (by omega)]) (fun k hk => funext fun j => by rw [p2, if_neg (by omega)]) ⟨RL_box1 hX p2 q2 h.1.1, RX_box1 hX hC.2 p2 q2 h.1.2.1, h.1.2.2.1.cg (by rw [q2, if_neg (by omega)]) (by rw [q2, if_neg (by omega)]) (fun m hm => by rw [q2, if_neg (by omega)]), h.1.2.2.2.cg hb3.2 (by rw [q2, if_neg (by omega)]) (by rw [q2, if_neg (by omega)]) (fun n h1 h2 => by rw [q2, if_neg (by omega)]) (fun c hc => by rw [p2, if_neg (by omega)])⟩⟩
          · rw [o3] at p
            have zR := t_nn (x := v2 1 (36 + 7 * x0.toNatClampNeg)) (by omega)
            have k1 : (1 : Int32).toInt = 1 := by decide
            have hx : (v2 1 (36 + 7 * x0.toNatClampNeg) + 1).toInt = (v2 1 (36 + 7 * x0.toNatClampNeg)).toInt + 1 := by rw [t_add (by rw [k1]; omega), k1]
            rcases Int.lt_or_le x1.toInt (v2 1 (74 + 2 * x0.toNatClampNeg)).toInt with hL | hL
            · obtain ⟨p1, p2⟩ := p.2.2.2.2.2.1 ⟨hC, hD, t1, by omega, by omega, hL⟩
              obtain ⟨q1, q2, q3⟩ := q.2.2.2.2.2.1 ⟨hC, hD, t2, hE, o1, hL⟩
              exact ⟨by rw [p1, q1], h.wr q3 (funext fun j => by rw [p2, if_neg (by omega), if_neg (by omega), if_neg (by omega), if_neg (by omega), if_neg (by omega), if_neg (by omega)]) (fun k hk => funext fun j => by rw [p2, if_neg (by omega), if_neg (by omega), if_neg (by omega), if_neg (by omega), if_neg (by omega), if_neg (by omega)]) ⟨RL_no1 hX (by omega) (by omega) hx p2 q2 h.1.1, RX_no1 hX (by omega) p2 q2 h.1.2.1, h.1.2.2.1.cg (by rw [q2, if_neg (by omega), if_neg (by omega), if_neg (by omega), if_neg (by omega), if_neg (by omega), if_neg (by omega)]) (by rw [q2, if_neg (by omega), if_neg (by omega), if_neg (by omega), if_neg (by omega), if_neg (by omega), if_neg (by omega)]) (fun m hm => by rw [q2, if_neg (by omega), if_neg (by omega), if_neg (by omega), if_neg (by omega), if_neg (by omega), if_neg (by omega)]), h.1.2.2.2.cg hb3.2 (by rw [q2, if_neg (by omega), if_neg (by omega), if_neg (by omega), if_neg (by omega), if_neg (by omega), if_neg (by omega)]) (by rw [q2, if_neg (by omega), if_neg (by omega), if_neg (by omega), if_neg (by omega), if_neg (by omega), if_neg (by omega)]) (fun n h1 h2 => by rw [q2, if_neg (by omega), if_neg (by omega), if_neg (by omega), if_neg (by omega), if_neg (by omega), if_neg (by omega)]) (fun c hc => by rw [p2, if_neg (by omega), if_neg (by omega), if_neg (by omega), if_neg (by omega), if_neg (by omega), if_neg (by omega)])⟩⟩
            · obtain ⟨p1, p2⟩ := p.2.2.2.2.2.2 ⟨hC, hD, t1, by omega, by omega, hL⟩
              obtain ⟨q1, q2, q3⟩ := q.2.2.2.2.2.2 ⟨hC, hD, t2, hE, o1, hL⟩
              exact ⟨by rw [p1, q1], h.wr q3 (funext fun j => by rw [p2, if_neg (by omega), if_neg (by omega), if_neg (by omega), if_neg (by omega), if_neg (by omega), if_neg (by omega)]) (fun k hk => funext fun j => by rw [p2, if_neg (by omega), if_neg (by omega), if_neg (by omega), if_neg (by omega), if_neg (by omega), if_neg (by omega)]) ⟨RL_yes1 hX (by omega) (by omega) hx p2 q2 h.1.1, RX_yes1 hX (by omega) p2 q2 h.1.2.1, h.1.2.2.1.cg (by rw [q2, if_neg (by omega), if_neg (by omega), if_neg (by omega), if_neg (by omega), if_neg (by omega), if_neg (by omega), if_neg (by omega), if_neg (by omega)]) (by rw [q2, if_neg (by omega), if_neg (by omega), if_neg (by omega), if_neg (by omega), if_neg (by omega), if_neg (by omega), if_neg (by omega), if_neg (by omega)]) (fun m hm => by rw [q2, if_neg (by omega), if_neg (by omega), if_neg (by omega), if_neg (by omega), if_neg (by omega), if_neg (by omega), if_neg (by omega), if_neg (by omega)]), h.1.2.2.2.cg hb3.2 (by rw [q2, if_neg (by omega), if_neg (by omega), if_neg (by omega), if_neg (by omega), if_neg (by omega), if_neg (by omega), if_neg (by omega), if_neg (by omega)]) (by rw [q2, if_neg (by omega), if_neg (by omega), if_neg (by omega), if_neg (by omega), if_neg (by omega), if_neg (by omega), if_neg (by omega), if_neg (by omega)]) (fun n h1 h2 => by rw [q2, if_neg (by omega), if_neg (by omega), if_neg (by omega), if_neg (by omega), if_neg (by omega), if_neg (by omega), if_neg (by omega), if_neg (by omega)]) (fun c hc => by rw [p2, if_neg (by omega), if_neg (by omega), if_neg (by omega), if_neg (by omega), if_neg (by omega), if_neg (by omega)])⟩⟩
      · rw [t3] at p
        obtain ⟨p1, p2⟩ := p.2.2.1 ⟨hC, hD, by omega⟩
        obtain ⟨q1, q2⟩ := q.2.2.1 ⟨hC, hD, t1⟩
        rw [p1, q1, p2, q2]
        exact ⟨rfl, h⟩
    · obtain ⟨p1, p2⟩ := p.2.1 ⟨hC, hD⟩
      obtain ⟨q1, q2⟩ := q.2.1 ⟨hC, hD⟩
      rw [p1, q1, p2, q2]
      exact ⟨rfl, h⟩
  · obtain ⟨p1, p2⟩ := p.1 hC
    obtain ⟨q1, q2⟩ := q.1 hC
    rw [p1, q1, p2, q2]
    exact ⟨rfl, h⟩

set_option maxHeartbeats 4000000 in
theorem RL_open {v u : Nat → Nat → Int32} {s z : Nat → Int32} {X : Nat} {x a b : Int32} (hX : X < 6) (hn : (s 2).toInt = (X : Int)) (hx : x.toInt = (s 2).toInt + 1) (hu : ∀ k j : Nat, u k j = if k = 13 ∧ j = 2 then x else if 36 + 15 * X ≤ k ∧ (k : Int) < 36 + 15 * (X : Int) + 2 ∧ j < 24 then 7 else if k = 31 + 15 * X ∧ (j : Int) < 2 then -1 else if k = 30 + 15 * X ∧ j = 1 then b else if k = 30 + 15 * X ∧ j = 0 then a else if k = 29 + 15 * X ∧ j = 5 then 0 else if k = 29 + 15 * X ∧ j = 4 then 0 else if k = 29 + 15 * X ∧ j = 3 then 1 else if k = 29 + 15 * X ∧ j = 2 then 0 else if k = 29 + 15 * X ∧ j = 1 then 0 else if k = 29 + 15 * X ∧ j = 0 then 0 else v k j) (hs : ∀ n : Nat, z n = if n = 2 then x else if 308 + 48 * X ≤ n ∧ (n : Int) < 308 + 48 * (X : Int) + 48 then 7 else if n = 75 + 2 * X then -5 else if n = 74 + 2 * X then -5 else if n = 38 + 7 * X then 0 else if n = 37 + 7 * X then 1 else if n = 36 + 7 * X then 0 else if n = 35 + 7 * X then -5 else if n = 34 + 7 * X then 0 else if n = 33 + 7 * X then b else if n = 32 + 7 * X then a else s n) (hR : RLk 13 v s) : RLk 13 u z := by
  have A0 : (z 0).toInt = (s 0).toInt := by rw [hs, if_neg (by omega), if_neg (by omega), if_neg (by omega), if_neg (by omega), if_neg (by omega), if_neg (by omega), if_neg (by omega), if_neg (by omega), if_neg (by omega), if_neg (by omega), if_neg (by omega)]
  have A1 : (z 1).toInt = (s 1).toInt := by rw [hs, if_neg (by omega), if_neg (by omega), if_neg (by omega), if_neg (by omega), if_neg (by omega), if_neg (by omega), if_neg (by omega), if_neg (by omega), if_neg (by omega), if_neg (by omega), if_neg (by omega)]
  have A2 : (z 2).toInt = (s 2).toInt + 1 := by rw [hs, if_pos rfl]; exact hx
  have A36 : ∀ c : Nat, c < 6 → (c ≠ X ∧ (z (36 + 7 * c)).toInt = (s (36 + 7 * c)).toInt) ∨ (c = X ∧ (z (36 + 7 * c)).toInt = 0) := fun c hc => by by_cases q : c = X; subst q; refine Or.inr ⟨rfl, ?_⟩; rw [hs, if_neg (by omega), if_neg (by omega), if_neg (by omega), if_neg (by omega), if_neg (by omega), if_neg (by omega), if_pos rfl]; rfl; refine Or.inl ⟨q, ?_⟩; rw [hs, if_neg (by omega), if_neg (by omega), if_neg (by omega), if_neg (by omega), if_neg (by omega), if_neg (by omega), if_neg (by omega), if_neg (by omega), if_neg (by omega), if_neg (by omega), if_neg (by omega)]
  have A38 : ∀ c : Nat, c < 6 → (c ≠ X ∧ (z (38 + 7 * c)).toInt = (s (38 + 7 * c)).toInt) ∨ (c = X ∧ (z (38 + 7 * c)).toInt = 0) := fun c hc => by by_cases q : c = X; subst q; refine Or.inr ⟨rfl, ?_⟩; rw [hs, if_neg (by omega), if_neg (by omega), if_neg (by omega), if_neg (by omega), if_pos rfl]; rfl; refine Or.inl ⟨q, ?_⟩; rw [hs, if_neg (by omega), if_neg (by omega), if_neg (by omega), if_neg (by omega), if_neg (by omega), if_neg (by omega), if_neg (by omega), if_neg (by omega), if_neg (by omega), if_neg (by omega), if_neg (by omega)]
  intro k j n h
  unfold lk at h
  rcases h with ⟨rfl, hj, rfl⟩ | ⟨p, hp, ha, hj, rfl, rfl⟩ | ⟨m, hm, ha, hj, rfl, rfl⟩ | ⟨m, hm, ha, rfl, rfl, rfl⟩ | ⟨c, hc, ha, rfl, rfl, rfl⟩ | ⟨c, hc, ha, rfl, rfl, rfl⟩ | ⟨c, hc, ha, rfl, rfl, rfl⟩ | ⟨c, hc, ha, rfl, rfl, rfl⟩ | ⟨c, hc, ha, hj, rfl, rfl⟩ | ⟨c, i, hc, ha, hi, hj, hr, rfl, rfl⟩ | ⟨c, i, hc, ha, hi, hj, rfl, rfl⟩ | ⟨c, t, hc, ha, ht, hr, hj, rfl, rfl⟩
  · by_cases e0 : 13 = 13 ∧ n = 2
    · have d1 : u (13) n = x := by rw [hu, if_pos (by omega)]
      have d2 : z (n) = x := by rw [hs, if_pos (by omega)]
      exact d1.trans d2.symm
    · skip
      have d1 : u (13) n = v (13) n := by rw [hu, if_neg (by omega), if_neg (by omega), if_neg (by omega), if_neg (by omega), if_neg (by omega), if_neg (by omega), if_neg (by omega), if_neg (by omega), if_neg (by omega), if_neg (by omega), if_neg (by omega)]
      have d2 : z (n) = s (n) := by rw [hs, if_neg (by omega), if_neg (by omega), if_neg (by omega), if_neg (by omega), if_neg (by omega), if_neg (by omega), if_neg (by omega), if_neg (by omega), if_neg (by omega), if_neg (by omega), if_neg (by omega)]
      exact d1.trans ((hR _ _ _ (lk_a hj)).trans d2.symm)
  · have d1 : u (13 + 4 + p) j = v (13 + 4 + p) j := by rw [hu, if_neg (by omega), if_neg (by omega), if_neg (by omega), if_neg (by omega), if_neg (by omega), if_neg (by omega), if_neg (by omega), if_neg (by omega), if_neg (by omega), if_neg (by omega), if_neg (by omega)]
    have d2 : z (4 + 2 * p + j) = s (4 + 2 * p + j) := by rw [hs, if_neg (by omega), if_neg (by omega), if_neg (by omega), if_neg (by omega), if_neg (by omega), if_neg (by omega), if_neg (by omega), if_neg (by omega), if_neg (by omega), if_neg (by omega), if_neg (by omega)]
    exact d1.trans ((hR _ _ _ (lk_p hp (by omega) hj)).trans d2.symm)
  · have d1 : u (13 + 12 + m) j = v (13 + 12 + m) j := by rw [hu, if_neg (by omega), if_neg (by omega), if_neg (by omega), if_neg (by omega), if_neg (by omega), if_neg (by omega), if_neg (by omega), if_neg (by omega), if_neg (by omega), if_neg (by omega), if_neg (by omega)]
    have d2 : z (20 + 2 * m + j) = s (20 + 2 * m + j) := by rw [hs, if_neg (by omega), if_neg (by omega), if_neg (by omega), if_neg (by omega), if_neg (by omega), if_neg (by omega), if_neg (by omega), if_neg (by omega), if_neg (by omega), if_neg (by omega), if_neg (by omega)]
    exact d1.trans ((hR _ _ _ (lk_m hm (by omega) hj)).trans d2.symm)
  · have d1 : u (13 + 12 + m) 2 = v (13 + 12 + m) 2 := by rw [hu, if_neg (by omega), if_neg (by omega), if_neg (by omega), if_neg (by omega), if_neg (by omega), if_neg (by omega), if_neg (by omega), if_neg (by omega), if_neg (by omega), if_neg (by omega), if_neg (by omega)]
    have d2 : z (28 + m) = s (28 + m) := by rw [hs, if_neg (by omega), if_neg (by omega), if_neg (by omega), if_neg (by omega), if_neg (by omega), if_neg (by omega), if_neg (by omega), if_neg (by omega), if_neg (by omega), if_neg (by omega), if_neg (by omega)]
    exact d1.trans ((hR _ _ _ (lk_k_ hm (by omega))).trans d2.symm)
  · by_cases e0 : 13 + 16 + 15 * c = 29 + 15 * X ∧ 0 = 0
    · have d1 : u (13 + 16 + 15 * c) 0 = 0 := by rw [hu, if_neg (by omega), if_neg (by omega), if_neg (by omega), if_neg (by omega), if_neg (by omega), if_neg (by omega), if_neg (by omega), if_neg (by omega), if_neg (by omega), if_neg (by omega), if_pos (by omega)]
      have d2 : z (34 + 7 * c) = 0 := by rw [hs, if_neg (by omega), if_neg (by omega), if_neg (by omega), if_neg (by omega), if_neg (by omega), if_neg (by omega), if_neg (by omega), if_neg (by omega), if_pos (by omega)]
      exact d1.trans d2.symm
    · skip
      have d1 : u (13 + 16 + 15 * c) 0 = v (13 + 16 + 15 * c) 0 := by rw [hu, if_neg (by omega), if_neg (by omega), if_neg (by omega), if_neg (by omega), if_neg (by omega), if_neg (by omega), if_neg (by omega), if_neg (by omega), if_neg (by omega), if_neg (by omega), if_neg (by omega)]
      have d2 : z (34 + 7 * c) = s (34 + 7 * c) := by rw [hs, if_neg (by omega), if_neg (by omega), if_neg (by omega), if_neg (by omega), if_neg (by omega), if_neg (by omega), if_neg (by omega), if_neg (by omega), if_neg (by omega), if_neg (by omega), if_neg (by omega)]
      exact d1.trans ((hR _ _ _ (lk_c0 hc (by omega))).trans d2.symm)
  · by_cases e0 : 13 + 16 + 15 * c = 29 + 15 * X ∧ 2 = 2
    · have d1 : u (13 + 16 + 15 * c) 2 = 0 := by rw [hu, if_neg (by omega), if_neg (by omega), if_neg (by omega), if_neg (by omega), if_neg (by omega), if_neg (by omega), if_neg (by omega), if_neg (by omega), if_pos (by omega)]
      have d2 : z (36 + 7 * c) = 0 := by rw [hs, if_neg (by omega), if_neg (by omega), if_neg (by omega), if_neg (by omega), if_neg (by omega), if_neg (by omega), if_pos (by omega)]
      exact d1.trans d2.symm
    · skip
      have d1 : u (13 + 16 + 15 * c) 2 = v (13 + 16 + 15 * c) 2 := by rw [hu, if_neg (by omega), if_neg (by omega), if_neg (by omega), if_neg (by omega), if_neg (by omega), if_neg (by omega), if_neg (by omega), if_neg (by omega), if_neg (by omega), if_neg (by omega), if_neg (by omega)]
      have d2 : z (36 + 7 * c) = s (36 + 7 * c) := by rw [hs, if_neg (by omega), if_neg (by omega), if_neg (by omega), if_neg (by omega), if_neg (by omega), if_neg (by omega), if_neg (by omega), if_neg (by omega), if_neg (by omega), if_neg (by omega), if_neg (by omega)]
      exact d1.trans ((hR _ _ _ (lk_c2 hc (by omega))).trans d2.symm)
  · by_cases e0 : 13 + 16 + 15 * c = 29 + 15 * X ∧ 3 = 3
    · have d1 : u (13 + 16 + 15 * c) 3 = 1 := by rw [hu, if_neg (by omega), if_neg (by omega), if_neg (by omega), if_neg (by omega), if_neg (by omega), if_neg (by omega), if_neg (by omega), if_pos (by omega)]
      have d2 : z (37 + 7 * c) = 1 := by rw [hs, if_neg (by omega), if_neg (by omega), if_neg (by omega), if_neg (by omega), if_neg (by omega), if_pos (by omega)]
      exact d1.trans d2.symm
    · skip
      have d1 : u (13 + 16 + 15 * c) 3 = v (13 + 16 + 15 * c) 3 := by rw [hu, if_neg (by omega), if_neg (by omega), if_neg (by omega), if_neg (by omega), if_neg (by omega), if_neg (by omega), if_neg (by omega), if_neg (by omega), if_neg (by omega), if_neg (by omega), if_neg (by omega)]
      have d2 : z (37 + 7 * c) = s (37 + 7 * c) := by rw [hs, if_neg (by omega), if_neg (by omega), if_neg (by omega), if_neg (by omega), if_neg (by omega), if_neg (by omega), if_neg (by omega), if_neg (by omega), if_neg (by omega), if_neg (by omega), if_neg (by omega)]
      exact d1.trans ((hR _ _ _ (lk_c3 hc (by omega))).trans d2.symm)
  · by_cases e0 : 13 + 16 + 15 * c = 29 + 15 * X ∧ 5 = 5
    · have d1 : u (13 + 16 + 15 * c) 5 = 0 := by rw [hu, if_neg (by omega), if_neg (by omega), if_neg (by omega), if_neg (by omega), if_neg (by omega), if_pos (by omega)]
      have d2 : z (38 + 7 * c) = 0 := by rw [hs, if_neg (by omega), if_neg (by omega), if_neg (by omega), if_neg (by omega), if_pos (by omega)]
      exact d1.trans d2.symm
    · skip
      have d1 : u (13 + 16 + 15 * c) 5 = v (13 + 16 + 15 * c) 5 := by rw [hu, if_neg (by omega), if_neg (by omega), if_neg (by omega), if_neg (by omega), if_neg (by omega), if_neg (by omega), if_neg (by omega), if_neg (by omega), if_neg (by omega), if_neg (by omega), if_neg (by omega)]
      have d2 : z (38 + 7 * c) = s (38 + 7 * c) := by rw [hs, if_neg (by omega), if_neg (by omega), if_neg (by omega), if_neg (by omega), if_neg (by omega), if_neg (by omega), if_neg (by omega), if_neg (by omega), if_neg (by omega), if_neg (by omega), if_neg (by omega)]
      exact d1.trans ((hR _ _ _ (lk_c5 hc (by omega))).trans d2.symm)
  · by_cases e0 : 13 + 17 + 15 * c = 30 + 15 * X ∧ j = 1
    · have d1 : u (13 + 17 + 15 * c) j = b := by rw [hu, if_neg (by omega), if_neg (by omega), if_neg (by omega), if_pos (by omega)]
      have d2 : z (32 + 7 * c + j) = b := by rw [hs, if_neg (by omega), if_neg (by omega), if_neg (by omega), if_neg (by omega), if_neg (by omega), if_neg (by omega), if_neg (by omega), if_neg (by omega), if_neg (by omega), if_pos (by omega)]
      exact d1.trans d2.symm
    · skip
      by_cases e1 : 13 + 17 + 15 * c = 30 + 15 * X ∧ j = 0
      · have d1 : u (13 + 17 + 15 * c) j = a := by rw [hu, if_neg (by omega), if_neg (by omega), if_neg (by omega), if_neg (by omega), if_pos (by omega)]
        have d2 : z (32 + 7 * c + j) = a := by rw [hs, if_neg (by omega), if_neg (by omega), if_neg (by omega), if_neg (by omega), if_neg (by omega), if_neg (by omega), if_neg (by omega), if_neg (by omega), if_neg (by omega), if_neg (by omega), if_pos (by omega)]
        exact d1.trans d2.symm
      · skip
        have d1 : u (13 + 17 + 15 * c) j = v (13 + 17 + 15 * c) j := by rw [hu, if_neg (by omega), if_neg (by omega), if_neg (by omega), if_neg (by omega), if_neg (by omega), if_neg (by omega), if_neg (by omega), if_neg (by omega), if_neg (by omega), if_neg (by omega), if_neg (by omega)]
        have d2 : z (32 + 7 * c + j) = s (32 + 7 * c + j) := by rw [hs, if_neg (by omega), if_neg (by omega), if_neg (by omega), if_neg (by omega), if_neg (by omega), if_neg (by omega), if_neg (by omega), if_neg (by omega), if_neg (by omega), if_neg (by omega), if_neg (by omega)]
        exact d1.trans ((hR _ _ _ (lk_q hc (by omega) hj)).trans d2.symm)
  · have a36 := A36 c hc
    have d1 : u (13 + 20 + 15 * c + i) j = v (13 + 20 + 15 * c + i) j := by rw [hu, if_neg (by omega), if_neg (by omega), if_neg (by omega), if_neg (by omega), if_neg (by omega), if_neg (by omega), if_neg (by omega), if_neg (by omega), if_neg (by omega), if_neg (by omega), if_neg (by omega)]
    have d2 : z (86 + 10 * c + 2 * j + i) = s (86 + 10 * c + 2 * j + i) := by rw [hs, if_neg (by omega), if_neg (by omega), if_neg (by omega), if_neg (by omega), if_neg (by omega), if_neg (by omega), if_neg (by omega), if_neg (by omega), if_neg (by omega), if_neg (by omega), if_neg (by omega)]
    exact d1.trans ((hR _ _ _ (lk_o hc (by omega) hi hj (by omega))).trans d2.symm)
  · by_cases e0 : 36 + 15 * X ≤ 13 + 23 + 15 * c + i ∧ (13 + 23 + 15 * c + i : Int) < 36 + 15 * (X : Int) + 2 ∧ j < 24
    · have d1 : u (13 + 23 + 15 * c + i) j = 7 := by rw [hu, if_neg (by omega), if_pos (by omega)]
      have d2 : z (308 + 48 * c + 24 * i + j) = 7 := by rw [hs, if_neg (by omega), if_pos (by omega)]
      exact d1.trans d2.symm
    · skip
      have d1 : u (13 + 23 + 15 * c + i) j = v (13 + 23 + 15 * c + i) j := by rw [hu, if_neg (by omega), if_neg (by omega), if_neg (by omega), if_neg (by omega), if_neg (by omega), if_neg (by omega), if_neg (by omega), if_neg (by omega), if_neg (by omega), if_neg (by omega), if_neg (by omega)]
      have d2 : z (308 + 48 * c + 24 * i + j) = s (308 + 48 * c + 24 * i + j) := by rw [hs, if_neg (by omega), if_neg (by omega), if_neg (by omega), if_neg (by omega), if_neg (by omega), if_neg (by omega), if_neg (by omega), if_neg (by omega), if_neg (by omega), if_neg (by omega), if_neg (by omega)]
      exact d1.trans ((hR _ _ _ (lk_l hc (by omega) hi hj)).trans d2.symm)
  · have a38 := A38 c hc
    have d1 : u (13 + 26 + 15 * c + t) j = v (13 + 26 + 15 * c + t) j := by rw [hu, if_neg (by omega), if_neg (by omega), if_neg (by omega), if_neg (by omega), if_neg (by omega), if_neg (by omega), if_neg (by omega), if_neg (by omega), if_neg (by omega), if_neg (by omega), if_neg (by omega)]
    have d2 : z (158 + 25 * c + 5 * t + j) = s (158 + 25 * c + 5 * t + j) := by rw [hs, if_neg (by omega), if_neg (by omega), if_neg (by omega), if_neg (by omega), if_neg (by omega), if_neg (by omega), if_neg (by omega), if_neg (by omega), if_neg (by omega), if_neg (by omega), if_neg (by omega)]
    exact d1.trans ((hR _ _ _ (lk_t hc (by omega) ht (by omega) hj)).trans d2.symm)

set_option maxHeartbeats 4000000 in
theorem RX_open {v u : Nat → Nat → Int32} {s z : Nat → Int32} {X : Nat} {x a b : Int32} (hX : X < 6) (hn : (s 2).toInt = (X : Int)) (hx : x.toInt = (s 2).toInt + 1) (hu : ∀ k j : Nat, u k j = if k = 13 ∧ j = 2 then x else if 36 + 15 * X ≤ k ∧ (k : Int) < 36 + 15 * (X : Int) + 2 ∧ j < 24 then 7 else if k = 31 + 15 * X ∧ (j : Int) < 2 then -1 else if k = 30 + 15 * X ∧ j = 1 then b else if k = 30 + 15 * X ∧ j = 0 then a else if k = 29 + 15 * X ∧ j = 5 then 0 else if k = 29 + 15 * X ∧ j = 4 then 0 else if k = 29 + 15 * X ∧ j = 3 then 1 else if k = 29 + 15 * X ∧ j = 2 then 0 else if k = 29 + 15 * X ∧ j = 1 then 0 else if k = 29 + 15 * X ∧ j = 0 then 0 else v k j) (hs : ∀ n : Nat, z n = if n = 2 then x else if 308 + 48 * X ≤ n ∧ (n : Int) < 308 + 48 * (X : Int) + 48 then 7 else if n = 75 + 2 * X then -5 else if n = 74 + 2 * X then -5 else if n = 38 + 7 * X then 0 else if n = 37 + 7 * X then 1 else if n = 36 + 7 * X then 0 else if n = 35 + 7 * X then -5 else if n = 34 + 7 * X then 0 else if n = 33 + 7 * X then b else if n = 32 + 7 * X then a else s n) (h : RX 13 v s) : RX 13 u z := by
  intro c hc hac
  have A2 : (z 2).toInt = (s 2).toInt + 1 := by rw [hs, if_pos rfl]; exact hx
  by_cases hq : c = X
  · subst hq
    have g0 : u (13 + 16 + 15 * c) 1 = 0 := by rw [hu, if_neg (by omega), if_neg (by omega), if_neg (by omega), if_neg (by omega), if_neg (by omega), if_neg (by omega), if_neg (by omega), if_neg (by omega), if_neg (by omega), if_pos (by omega)]
    have g1 : u (13 + 18 + 15 * c) 0 = -1 := by rw [hu, if_neg (by omega), if_neg (by omega), if_pos (by omega)]
    have g2 : u (13 + 18 + 15 * c) 1 = -1 := by rw [hu, if_neg (by omega), if_neg (by omega), if_pos (by omega)]
    have g3 : z (34 + 7 * c) = 0 := by rw [hs, if_neg (by omega), if_neg (by omega), if_neg (by omega), if_neg (by omega), if_neg (by omega), if_neg (by omega), if_neg (by omega), if_neg (by omega), if_pos rfl]
    have g4 : z (35 + 7 * c) = -5 := by rw [hs, if_neg (by omega), if_neg (by omega), if_neg (by omega), if_neg (by omega), if_neg (by omega), if_neg (by omega), if_neg (by omega), if_pos rfl]
    have g5 : z (74 + 2 * c) = -5 := by rw [hs, if_neg (by omega), if_neg (by omega), if_neg (by omega), if_pos rfl]
    have g6 : z (75 + 2 * c) = -5 := by rw [hs, if_neg (by omega), if_neg (by omega), if_pos rfl]
    rw [g0, g1, g2, g3, g4, g5, g6]
    exact ⟨Or.inl (by decide), fun q => absurd q (by decide), fun _ => rfl, fun _ => ⟨Or.inl ⟨by decide, by decide⟩, Or.inl ⟨by decide, by decide⟩⟩⟩
  · have hh := h c hc (by omega)
    have g0 : u (13 + 16 + 15 * c) 1 = v (13 + 16 + 15 * c) 1 := by rw [hu, if_neg (by omega), if_neg (by omega), if_neg (by omega), if_neg (by omega), if_neg (by omega), if_neg (by omega), if_neg (by omega), if_neg (by omega), if_neg (by omega), if_neg (by omega), if_neg (by omega)]
    have g1 : u (13 + 18 + 15 * c) 0 = v (13 + 18 + 15 * c) 0 := by rw [hu, if_neg (by omega), if_neg (by omega), if_neg (by omega), if_neg (by omega), if_neg (by omega), if_neg (by omega), if_neg (by omega), if_neg (by omega), if_neg (by omega), if_neg (by omega), if_neg (by omega)]
    have g2 : u (13 + 18 + 15 * c) 1 = v (13 + 18 + 15 * c) 1 := by rw [hu, if_neg (by omega), if_neg (by omega), if_neg (by omega), if_neg (by omega), if_neg (by omega), if_neg (by omega), if_neg (by omega), if_neg (by omega), if_neg (by omega), if_neg (by omega), if_neg (by omega)]
    have g3 : z (34 + 7 * c) = s (34 + 7 * c) := by rw [hs, if_neg (by omega), if_neg (by omega), if_neg (by omega), if_neg (by omega), if_neg (by omega), if_neg (by omega), if_neg (by omega), if_neg (by omega), if_neg (by omega), if_neg (by omega), if_neg (by omega)]
    have g4 : z (35 + 7 * c) = s (35 + 7 * c) := by rw [hs, if_neg (by omega), if_neg (by omega), if_neg (by omega), if_neg (by omega), if_neg (by omega), if_neg (by omega), if_neg (by omega), if_neg (by omega), if_neg (by omega), if_neg (by omega), if_neg (by omega)]
    have g5 : z (74 + 2 * c) = s (74 + 2 * c) := by rw [hs, if_neg (by omega), if_neg (by omega), if_neg (by omega), if_neg (by omega), if_neg (by omega), if_neg (by omega), if_neg (by omega), if_neg (by omega), if_neg (by omega), if_neg (by omega), if_neg (by omega)]
    have g6 : z (75 + 2 * c) = s (75 + 2 * c) := by rw [hs, if_neg (by omega), if_neg (by omega), if_neg (by omega), if_neg (by omega), if_neg (by omega), if_neg (by omega), if_neg (by omega), if_neg (by omega), if_neg (by omega), if_neg (by omega), if_neg (by omega)]
    rw [g0, g1, g2, g3, g4, g5, g6]
    exact hh
theorem bt_0 : ∀ d : Fin 6, (btx 0 (Int32.ofNat d.val)).toInt = 0 := by decide +kernel
set_option maxHeartbeats 4000000 in
theorem RG_open {v u : Nat → Nat → Int32} {s z : Nat → Int32} {X : Nat} {x a b : Int32} (hX : X < 6) (hn : (s 2).toInt = (X : Int)) (hx : x.toInt = (s 2).toInt + 1) (h3 : (s 3).toInt ≤ 6) (hu : ∀ k j : Nat, u k j = if k = 13 ∧ j = 2 then x else if 36 + 15 * X ≤ k ∧ (k : Int) < 36 + 15 * (X : Int) + 2 ∧ j < 24 then 7 else if k = 31 + 15 * X ∧ (j : Int) < 2 then -1 else if k = 30 + 15 * X ∧ j = 1 then b else if k = 30 + 15 * X ∧ j = 0 then a else if k = 29 + 15 * X ∧ j = 5 then 0 else if k = 29 + 15 * X ∧ j = 4 then 0 else if k = 29 + 15 * X ∧ j = 3 then 1 else if k = 29 + 15 * X ∧ j = 2 then 0 else if k = 29 + 15 * X ∧ j = 1 then 0 else if k = 29 + 15 * X ∧ j = 0 then 0 else v k j) (hs : ∀ n : Nat, z n = if n = 2 then x else if 308 + 48 * X ≤ n ∧ (n : Int) < 308 + 48 * (X : Int) + 48 then 7 else if n = 75 + 2 * X then -5 else if n = 74 + 2 * X then -5 else if n = 38 + 7 * X then 0 else if n = 37 + 7 * X then 1 else if n = 36 + 7 * X then 0 else if n = 35 + 7 * X then -5 else if n = 34 + 7 * X then 0 else if n = 33 + 7 * X then b else if n = 32 + 7 * X then a else s n) (h : RG 13 v s) : RG 13 u z := by
  have A2 : (z 2).toInt = (s 2).toInt + 1 := by rw [hs, if_pos rfl]; exact hx
  have A3 : z 3 = s 3 := by rw [hs, if_neg (by omega), if_neg (by omega), if_neg (by omega), if_neg (by omega), if_neg (by omega), if_neg (by omega), if_neg (by omega), if_neg (by omega), if_neg (by omega), if_neg (by omega), if_neg (by omega)]
  have em : ∀ n : Nat, 146 ≤ n → n < 158 → z n = s n := fun n h1 h2 => by rw [hs, if_neg (by omega), if_neg (by omega), if_neg (by omega), if_neg (by omega), if_neg (by omega), if_neg (by omega), if_neg (by omega), if_neg (by omega), if_neg (by omega), if_neg (by omega), if_neg (by omega)]
  have key : ∀ k a b : Nat, (k : Int) < (s 3).toInt → (mj z k a b ↔ mj s k a b) := fun k a b hk => by
    unfold mj
    rw [em (146 + 2 * k) (by omega) (by omega), em (147 + 2 * k) (by omega) (by omega)]
  refine ⟨fun c hc ha => ?_, fun k hk => ?_⟩
  · unfold GC
    rw [A3]
    by_cases hq : c = X
    · subst hq
      have g0 : u (13 + 16 + 15 * c) 4 = 0 := by rw [hu, if_neg (by omega), if_neg (by omega), if_neg (by omega), if_neg (by omega), if_neg (by omega), if_neg (by omega), if_pos (by omega)]
      rw [g0]
      refine ⟨by decide, fun d hd => ⟨fun q => absurd q (by rw [bt_0 ⟨d, hd⟩]; decide), fun ⟨k, q1, q2⟩ => ?_⟩⟩
      have w := h.2 k q1
      have q3 := (key k c d q1).mp q2
      unfold mj at q3
      omega
    · have g0 : u (13 + 16 + 15 * c) 4 = v (13 + 16 + 15 * c) 4 := by rw [hu, if_neg (by omega), if_neg (by omega), if_neg (by omega), if_neg (by omega), if_neg (by omega), if_neg (by omega), if_neg (by omega), if_neg (by omega), if_neg (by omega), if_neg (by omega), if_neg (by omega)]
      rw [g0]
      obtain ⟨g1, g2⟩ := h.1 c hc (by omega)
      exact ⟨g1, fun d hd => (g2 d hd).trans ⟨fun ⟨k, q1, q2⟩ => ⟨k, q1, (key k c d q1).mpr q2⟩, fun ⟨k, q1, q2⟩ => ⟨k, q1, (key k c d q1).mp q2⟩⟩⟩
  · rw [A3] at hk
    rw [em (146 + 2 * k) (by omega) (by omega), em (147 + 2 * k) (by omega) (by omega), A2]
    have w := h.2 k hk
    omega

set_option maxHeartbeats 4000000 in
theorem T_open {n r r2 x0 x1 : Int32} {v u v2 u2 : Nat → Nat → Int32} (hI : Iv v) (hQ : Ir v2) (h : RR n v v2) (p : (¬ ((0 ≤ x0.toInt ∧ x0.toInt < (v 13 0).toInt) ∧ (0 ≤ x1.toInt ∧ x1.toInt < (v 13 0).toInt) ∧ x0.toInt ≠ x1.toInt) → r = -1 ∧ u = v) ∧ (((0 ≤ x0.toInt ∧ x0.toInt < (v 13 0).toInt) ∧ (0 ≤ x1.toInt ∧ x1.toInt < (v 13 0).toInt) ∧ x0.toInt ≠ x1.toInt) ∧ 6 ≤ (v 13 2).toInt → r = -2 ∧ u = v) ∧ (((0 ≤ x0.toInt ∧ x0.toInt < (v 13 0).toInt) ∧ (0 ≤ x1.toInt ∧ x1.toInt < (v 13 0).toInt) ∧ x0.toInt ≠ x1.toInt) ∧ (v 13 2).toInt < 6 → r = v 13 2 ∧ (∀ k j : Nat, u k j = if k = 13 ∧ j = 2 then v 13 2 + 1 else if 36 + 15 * (v 13 2).toNatClampNeg ≤ k ∧ (k : Int) < 36 + 15 * ((v 13 2).toNatClampNeg : Int) + 2 ∧ j < 24 then 7 else if k = 31 + 15 * (v 13 2).toNatClampNeg ∧ (j : Int) < 2 then -1 else if k = 30 + 15 * (v 13 2).toNatClampNeg ∧ j = 1 then x1 else if k = 30 + 15 * (v 13 2).toNatClampNeg ∧ j = 0 then x0 else if k = 29 + 15 * (v 13 2).toNatClampNeg ∧ j = 5 then 0 else if k = 29 + 15 * (v 13 2).toNatClampNeg ∧ j = 4 then 0 else if k = 29 + 15 * (v 13 2).toNatClampNeg ∧ j = 3 then 1 else if k = 29 + 15 * (v 13 2).toNatClampNeg ∧ j = 2 then 0 else if k = 29 + 15 * (v 13 2).toNatClampNeg ∧ j = 1 then 0 else if k = 29 + 15 * (v 13 2).toNatClampNeg ∧ j = 0 then 0 else v k j))) (q : (¬ ((0 ≤ x0.toInt ∧ x0.toInt < (v2 1 0).toInt) ∧ (0 ≤ x1.toInt ∧ x1.toInt < (v2 1 0).toInt) ∧ x0.toInt ≠ x1.toInt) → r2 = -1 ∧ u2 = v2) ∧ (((0 ≤ x0.toInt ∧ x0.toInt < (v2 1 0).toInt) ∧ (0 ≤ x1.toInt ∧ x1.toInt < (v2 1 0).toInt) ∧ x0.toInt ≠ x1.toInt) ∧ (v2 1 2).toInt = 6 → r2 = -2 ∧ u2 = v2) ∧ (((0 ≤ x0.toInt ∧ x0.toInt < (v2 1 0).toInt) ∧ (0 ≤ x1.toInt ∧ x1.toInt < (v2 1 0).toInt) ∧ x0.toInt ≠ x1.toInt) ∧ (v2 1 2).toInt ≠ 6 → r2 = v2 1 2 ∧ (∀ n : Nat, u2 1 n = if n = 2 then v2 1 2 + 1 else if 308 + 48 * (v2 1 2).toNatClampNeg ≤ n ∧ (n : Int) < 308 + 48 * ((v2 1 2).toNatClampNeg : Int) + 48 then 7 else if n = 75 + 2 * (v2 1 2).toNatClampNeg then -5 else if n = 74 + 2 * (v2 1 2).toNatClampNeg then -5 else if n = 38 + 7 * (v2 1 2).toNatClampNeg then 0 else if n = 37 + 7 * (v2 1 2).toNatClampNeg then 1 else if n = 36 + 7 * (v2 1 2).toNatClampNeg then 0 else if n = 35 + 7 * (v2 1 2).toNatClampNeg then -5 else if n = 34 + 7 * (v2 1 2).toNatClampNeg then 0 else if n = 33 + 7 * (v2 1 2).toNatClampNeg then x1 else if n = 32 + 7 * (v2 1 2).toNatClampNeg then x0 else v2 1 n) ∧ (∀ k : Nat, k ≠ 1 → u2 k = v2 k))) : r = r2 ∧ RR n u u2 := by
  have e0 : v 13 0 = v2 1 0 := h.1.1 _ _ _ (lk_a (by decide))
  have e1 : v 13 1 = v2 1 1 := h.1.1 _ _ _ (lk_a (by decide))
  have e2 : v 13 2 = v2 1 2 := h.1.1 _ _ _ (lk_a (by decide))
  have e3 : v 13 3 = v2 1 3 := h.1.1 _ _ _ (lk_a (by decide))
  have hb0 := hQ 1 0 8 (by decide)
  have hb1 := hQ 1 1 4 (by decide)
  have hb2 := hQ 1 2 6 (by decide)
  have hb3 := hQ 1 3 6 (by decide)
  rw [e0, e2] at p
  by_cases hC : (0 ≤ x0.toInt ∧ x0.toInt < (v2 1 0).toInt) ∧ (0 ≤ x1.toInt ∧ x1.toInt < (v2 1 0).toInt) ∧ x0.toInt ≠ x1.toInt
  · by_cases hD : (v2 1 2).toInt = 6
    · obtain ⟨p1, p2⟩ := p.2.1 ⟨hC, by omega⟩
      obtain ⟨q1, q2⟩ := q.2.1 ⟨hC, hD⟩
      rw [p1, q1, p2, q2]
      exact ⟨rfl, h⟩
    · obtain ⟨p1, p2⟩ := p.2.2 ⟨hC, by omega⟩
      obtain ⟨q1, q2, q3⟩ := q.2.2 ⟨hC, hD⟩
      have zX := t_nn (x := v2 1 2) (by omega)
      have hX : (v2 1 2).toNatClampNeg < 6 := by omega
      have k1 : (1 : Int32).toInt = 1 := by decide
      have hx : (v2 1 2 + 1).toInt = (v2 1 2).toInt + 1 := by rw [t_add (by rw [k1]; omega), k1]
      exact ⟨by rw [p1, q1], h.wr q3 (funext fun j => by rw [p2, if_neg (by omega), if_neg (by omega), if_neg (by omega), if_neg (by omega), if_neg (by omega), if_neg (by omega), if_neg (by omega), if_neg (by omega), if_neg (by omega), if_neg (by omega), if_neg (by omega)]) (fun k hk => funext fun j => by rw [p2, if_neg (by omega), if_neg (by omega), if_neg (by omega), if_neg (by omega), if_neg (by omega), if_neg (by omega), if_neg (by omega), if_neg (by omega), if_neg (by omega), if_neg (by omega), if_neg (by omega)]) ⟨RL_open hX (by omega) hx p2 q2 h.1.1, RX_open hX (by omega) hx p2 q2 h.1.2.1, h.1.2.2.1.cg (by rw [q2, if_neg (by omega), if_neg (by omega), if_neg (by omega), if_neg (by omega), if_neg (by omega), if_neg (by omega), if_neg (by omega), if_neg (by omega), if_neg (by omega), if_neg (by omega), if_neg (by omega)]) (by rw [q2, if_neg (by omega), if_neg (by omega), if_neg (by omega), if_neg (by omega), if_neg (by omega), if_neg (by omega), if_neg (by omega), if_neg (by omega), if_neg (by omega), if_neg (by omega), if_neg (by omega)]) (fun m hm => by rw [q2, if_neg (by omega), if_neg (by omega), if_neg (by omega), if_neg (by omega), if_neg (by omega), if_neg (by omega), if_neg (by omega), if_neg (by omega), if_neg (by omega), if_neg (by omega), if_neg (by omega)]), RG_open hX (by omega) hx hb3.2 p2 q2 h.1.2.2.2⟩⟩
  · obtain ⟨p1, p2⟩ := p.1 hC
    obtain ⟨q1, q2⟩ := q.1 hC
    rw [p1, q1, p2, q2]
    exact ⟨rfl, h⟩

set_option maxHeartbeats 4000000 in
theorem RL_mark {v u : Nat → Nat → Int32} {s z : Nat → Int32} {X Y M : Nat} {x a b c0 d : Int32} (hX : X < 6) (hY : Y < 6) (hM : M < 6) (hu : ∀ k j : Nat, u k j = if k = 13 ∧ j = 3 then x else if k = 29 + 15 * Y ∧ j = 4 then b else if k = 29 + 15 * X ∧ j = 4 then a else v k j) (hs : ∀ n : Nat, z n = if n = 3 then x else if n = 147 + 2 * M then d else if n = 146 + 2 * M then c0 else s n) (hR : RLk 13 v s) : RLk 13 u z := by
  have A0 : (z 0).toInt = (s 0).toInt := by rw [hs, if_neg (by omega), if_neg (by omega), if_neg (by omega)]
  have A1 : (z 1).toInt = (s 1).toInt := by rw [hs, if_neg (by omega), if_neg (by omega), if_neg (by omega)]
  have A2 : (z 2).toInt = (s 2).toInt := by rw [hs, if_neg (by omega), if_neg (by omega), if_neg (by omega)]
  have A36 : ∀ c : Nat, c < 6 → (z (36 + 7 * c)).toInt = (s (36 + 7 * c)).toInt := fun c hc => by rw [hs, if_neg (by omega), if_neg (by omega), if_neg (by omega)]
  have A38 : ∀ c : Nat, c < 6 → (z (38 + 7 * c)).toInt = (s (38 + 7 * c)).toInt := fun c hc => by rw [hs, if_neg (by omega), if_neg (by omega), if_neg (by omega)]
  intro k j n h
  unfold lk at h
  rcases h with ⟨rfl, hj, rfl⟩ | ⟨p, hp, ha, hj, rfl, rfl⟩ | ⟨m, hm, ha, hj, rfl, rfl⟩ | ⟨m, hm, ha, rfl, rfl, rfl⟩ | ⟨c, hc, ha, rfl, rfl, rfl⟩ | ⟨c, hc, ha, rfl, rfl, rfl⟩ | ⟨c, hc, ha, rfl, rfl, rfl⟩ | ⟨c, hc, ha, rfl, rfl, rfl⟩ | ⟨c, hc, ha, hj, rfl, rfl⟩ | ⟨c, i, hc, ha, hi, hj, hr, rfl, rfl⟩ | ⟨c, i, hc, ha, hi, hj, rfl, rfl⟩ | ⟨c, t, hc, ha, ht, hr, hj, rfl, rfl⟩
  · by_cases e0 : 13 = 13 ∧ n = 3
    · have d1 : u (13) n = x := by rw [hu, if_pos (by omega)]
      have d2 : z (n) = x := by rw [hs, if_pos (by omega)]
      exact d1.trans d2.symm
    · skip
      have d1 : u (13) n = v (13) n := by rw [hu, if_neg (by omega), if_neg (by omega), if_neg (by omega)]
      have d2 : z (n) = s (n) := by rw [hs, if_neg (by omega), if_neg (by omega), if_neg (by omega)]
      exact d1.trans ((hR _ _ _ (lk_a hj)).trans d2.symm)
  · have d1 : u (13 + 4 + p) j = v (13 + 4 + p) j := by rw [hu, if_neg (by omega), if_neg (by omega), if_neg (by omega)]
    have d2 : z (4 + 2 * p + j) = s (4 + 2 * p + j) := by rw [hs, if_neg (by omega), if_neg (by omega), if_neg (by omega)]
    exact d1.trans ((hR _ _ _ (lk_p hp (by omega) hj)).trans d2.symm)
  · have d1 : u (13 + 12 + m) j = v (13 + 12 + m) j := by rw [hu, if_neg (by omega), if_neg (by omega), if_neg (by omega)]
    have d2 : z (20 + 2 * m + j) = s (20 + 2 * m + j) := by rw [hs, if_neg (by omega), if_neg (by omega), if_neg (by omega)]
    exact d1.trans ((hR _ _ _ (lk_m hm (by omega) hj)).trans d2.symm)
  · have d1 : u (13 + 12 + m) 2 = v (13 + 12 + m) 2 := by rw [hu, if_neg (by omega), if_neg (by omega), if_neg (by omega)]
    have d2 : z (28 + m) = s (28 + m) := by rw [hs, if_neg (by omega), if_neg (by omega), if_neg (by omega)]
    exact d1.trans ((hR _ _ _ (lk_k_ hm (by omega))).trans d2.symm)
  · have d1 : u (13 + 16 + 15 * c) 0 = v (13 + 16 + 15 * c) 0 := by rw [hu, if_neg (by omega), if_neg (by omega), if_neg (by omega)]
    have d2 : z (34 + 7 * c) = s (34 + 7 * c) := by rw [hs, if_neg (by omega), if_neg (by omega), if_neg (by omega)]
    exact d1.trans ((hR _ _ _ (lk_c0 hc (by omega))).trans d2.symm)
  · have d1 : u (13 + 16 + 15 * c) 2 = v (13 + 16 + 15 * c) 2 := by rw [hu, if_neg (by omega), if_neg (by omega), if_neg (by omega)]
    have d2 : z (36 + 7 * c) = s (36 + 7 * c) := by rw [hs, if_neg (by omega), if_neg (by omega), if_neg (by omega)]
    exact d1.trans ((hR _ _ _ (lk_c2 hc (by omega))).trans d2.symm)
  · have d1 : u (13 + 16 + 15 * c) 3 = v (13 + 16 + 15 * c) 3 := by rw [hu, if_neg (by omega), if_neg (by omega), if_neg (by omega)]
    have d2 : z (37 + 7 * c) = s (37 + 7 * c) := by rw [hs, if_neg (by omega), if_neg (by omega), if_neg (by omega)]
    exact d1.trans ((hR _ _ _ (lk_c3 hc (by omega))).trans d2.symm)
  · have d1 : u (13 + 16 + 15 * c) 5 = v (13 + 16 + 15 * c) 5 := by rw [hu, if_neg (by omega), if_neg (by omega), if_neg (by omega)]
    have d2 : z (38 + 7 * c) = s (38 + 7 * c) := by rw [hs, if_neg (by omega), if_neg (by omega), if_neg (by omega)]
    exact d1.trans ((hR _ _ _ (lk_c5 hc (by omega))).trans d2.symm)
  · have d1 : u (13 + 17 + 15 * c) j = v (13 + 17 + 15 * c) j := by rw [hu, if_neg (by omega), if_neg (by omega), if_neg (by omega)]
    have d2 : z (32 + 7 * c + j) = s (32 + 7 * c + j) := by rw [hs, if_neg (by omega), if_neg (by omega), if_neg (by omega)]
    exact d1.trans ((hR _ _ _ (lk_q hc (by omega) hj)).trans d2.symm)
  · have a36 := A36 c hc
    have d1 : u (13 + 20 + 15 * c + i) j = v (13 + 20 + 15 * c + i) j := by rw [hu, if_neg (by omega), if_neg (by omega), if_neg (by omega)]
    have d2 : z (86 + 10 * c + 2 * j + i) = s (86 + 10 * c + 2 * j + i) := by rw [hs, if_neg (by omega), if_neg (by omega), if_neg (by omega)]
    exact d1.trans ((hR _ _ _ (lk_o hc (by omega) hi hj (by omega))).trans d2.symm)
  · have d1 : u (13 + 23 + 15 * c + i) j = v (13 + 23 + 15 * c + i) j := by rw [hu, if_neg (by omega), if_neg (by omega), if_neg (by omega)]
    have d2 : z (308 + 48 * c + 24 * i + j) = s (308 + 48 * c + 24 * i + j) := by rw [hs, if_neg (by omega), if_neg (by omega), if_neg (by omega)]
    exact d1.trans ((hR _ _ _ (lk_l hc (by omega) hi hj)).trans d2.symm)
  · have a38 := A38 c hc
    have d1 : u (13 + 26 + 15 * c + t) j = v (13 + 26 + 15 * c + t) j := by rw [hu, if_neg (by omega), if_neg (by omega), if_neg (by omega)]
    have d2 : z (158 + 25 * c + 5 * t + j) = s (158 + 25 * c + 5 * t + j) := by rw [hs, if_neg (by omega), if_neg (by omega), if_neg (by omega)]
    exact d1.trans ((hR _ _ _ (lk_t hc (by omega) ht (by omega) hj)).trans d2.symm)

/-- a mark's bit -/
theorem kb_4 : ∀ x : Fin 64, ∀ p : Fin 6, (0 ≤ (Int32.ofNat x.val ||| (1 <<< (Int32.ofNat p.val &&& 31))).toInt ∧ (Int32.ofNat x.val ||| (1 <<< (Int32.ofNat p.val &&& 31))).toInt < 64) ∧ ∀ d : Fin 6, ((btx (Int32.ofNat x.val ||| (1 <<< (Int32.ofNat p.val &&& 31))) (Int32.ofNat d.val)).toInt = 1 ↔ ((btx (Int32.ofNat x.val) (Int32.ofNat d.val)).toInt = 1 ∨ d.val = p.val)) := by decide +kernel
theorem mk_bit {x y : Int32} {P : Nat} (hx : 0 ≤ x.toInt ∧ x.toInt < 64) (hP : P < 6) (hy : y.toInt = (P : Int)) : (0 ≤ (x ||| (1 <<< (y &&& 31))).toInt ∧ (x ||| (1 <<< (y &&& 31))).toInt < 64) ∧ ∀ d : Nat, d < 6 → ((btx (x ||| (1 <<< (y &&& 31))) (Int32.ofNat d)).toInt = 1 ↔ ((btx x (Int32.ofNat d)).toInt = 1 ∨ d = P)) := by
  have zx := t_nn hx.1
  have zy := t_nn (x := y) (by omega)
  have ex := ofn hx.1
  have ey := ofn (x := y) (by omega)
  have eP : y.toNatClampNeg = P := by omega
  rw [eP] at ey
  have k := kb_4 ⟨x.toNatClampNeg, by omega⟩ ⟨P, hP⟩
  refine ⟨?_, fun d hd => ?_⟩
  · have k1 : 0 ≤ (Int32.ofNat x.toNatClampNeg ||| (1 <<< (Int32.ofNat P &&& 31))).toInt ∧ (Int32.ofNat x.toNatClampNeg ||| (1 <<< (Int32.ofNat P &&& 31))).toInt < 64 := k.1
    rw [← ex, ← ey] at k1
    exact k1
  · have k2 : (btx (Int32.ofNat x.toNatClampNeg ||| (1 <<< (Int32.ofNat P &&& 31))) (Int32.ofNat d)).toInt = 1 ↔ ((btx (Int32.ofNat x.toNatClampNeg) (Int32.ofNat d)).toInt = 1 ∨ d = P) := k.2 ⟨d, hd⟩
    rw [← ex, ← ey] at k2
    exact k2
set_option maxHeartbeats 4000000 in
theorem RG_mark {v u : Nat → Nat → Int32} {s z : Nat → Int32} {X Y M : Nat} {x y0 y1 : Int32} (hX : X < 6) (hY : Y < 6) (hM : M < 6) (hXY : X ≠ Y) (hn : (s 3).toInt = (M : Int)) (hx : x.toInt = (s 3).toInt + 1) (h0 : y0.toInt = (X : Int)) (h1 : y1.toInt = (Y : Int)) (hcX : (X : Int) < (s 2).toInt) (hcY : (Y : Int) < (s 2).toInt) (hu : ∀ k j : Nat, u k j = if k = 13 ∧ j = 3 then x else if k = 29 + 15 * Y ∧ j = 4 then v (29 + 15 * Y) 4 ||| (1 <<< (y0 &&& 31)) else if k = 29 + 15 * X ∧ j = 4 then v (29 + 15 * X) 4 ||| (1 <<< (y1 &&& 31)) else v k j) (hs : ∀ n : Nat, z n = if n = 3 then x else if n = 147 + 2 * M then y1 else if n = 146 + 2 * M then y0 else s n) (h : RG 13 v s) : RG 13 u z := by
  have A2 : z 2 = s 2 := by rw [hs, if_neg (by omega), if_neg (by omega), if_neg (by omega)]
  have A3 : (z 3).toInt = (s 3).toInt + 1 := by rw [hs, if_pos rfl]; exact hx
  have eo : ∀ k : Nat, (k : Int) < (s 3).toInt → z (146 + 2 * k) = s (146 + 2 * k) ∧ z (147 + 2 * k) = s (147 + 2 * k) := fun k hk => ⟨by rw [hs, if_neg (by omega), if_neg (by omega), if_neg (by omega)], by rw [hs, if_neg (by omega), if_neg (by omega), if_neg (by omega)]⟩
  have en : z (146 + 2 * M) = y0 ∧ z (147 + 2 * M) = y1 := ⟨by rw [hs, if_neg (by omega), if_neg (by omega), if_pos rfl], by rw [hs, if_neg (by omega), if_pos rfl]⟩
  have key : ∀ a b : Nat, (∃ k : Nat, (k : Int) < (z 3).toInt ∧ mj z k a b) ↔ ((∃ k : Nat, (k : Int) < (s 3).toInt ∧ mj s k a b) ∨ (a = X ∧ b = Y) ∨ (a = Y ∧ b = X)) := fun a b => by
    refine ⟨fun ⟨k, q1, q2⟩ => ?_, fun q => ?_⟩
    · by_cases hk : (k : Int) < (s 3).toInt
      · refine Or.inl ⟨k, hk, ?_⟩
        unfold mj at q2 ⊢
        rw [(eo k hk).1, (eo k hk).2] at q2
        exact q2
      · have ek : k = M := by omega
        subst ek
        unfold mj at q2
        rw [en.1, en.2, h0, h1] at q2
        omega
    · rcases q with ⟨k, q1, q2⟩ | q
      · refine ⟨k, by omega, ?_⟩
        unfold mj at q2 ⊢
        rw [(eo k q1).1, (eo k q1).2]
        exact q2
      · refine ⟨M, by omega, ?_⟩
        unfold mj
        rw [en.1, en.2, h0, h1]
        omega
  refine ⟨fun c hc ha => ?_, fun k hk => ?_⟩
  · rw [A2] at ha
    obtain ⟨g1, g2⟩ := h.1 c hc ha
    by_cases cX : c = X
    · subst cX
      have g0 : u (13 + 16 + 15 * c) 4 = v (29 + 15 * c) 4 ||| (1 <<< (y1 &&& 31)) := by rw [hu, if_neg (by omega), if_neg (by omega), if_pos (by omega)]
      obtain ⟨b1, b2⟩ := mk_bit (x := v (29 + 15 * c) 4) g1 hY h1
      unfold GC
      rw [g0]
      refine ⟨b1, fun d hd => (b2 d hd).trans (((or_congr (g2 d hd) Iff.rfl).trans ?_).trans (key c d).symm)⟩
      refine or_congr Iff.rfl ⟨fun q => Or.inl ⟨rfl, q⟩, fun q => ?_⟩
      omega
    · by_cases cY : c = Y
      · subst cY
        have g0 : u (13 + 16 + 15 * c) 4 = v (29 + 15 * c) 4 ||| (1 <<< (y0 &&& 31)) := by rw [hu, if_neg (by omega), if_pos (by omega)]
        obtain ⟨b1, b2⟩ := mk_bit (x := v (29 + 15 * c) 4) g1 hX h0
        unfold GC
        rw [g0]
        refine ⟨b1, fun d hd => (b2 d hd).trans (((or_congr (g2 d hd) Iff.rfl).trans ?_).trans (key c d).symm)⟩
        refine or_congr Iff.rfl ⟨fun q => Or.inr ⟨rfl, q⟩, fun q => ?_⟩
        omega
      · have g0 : u (13 + 16 + 15 * c) 4 = v (13 + 16 + 15 * c) 4 := by rw [hu, if_neg (by omega), if_neg (by omega), if_neg (by omega)]
        unfold GC
        rw [g0]
        refine ⟨g1, fun d hd => (g2 d hd).trans (Iff.trans ⟨fun q => Or.inl q, fun q => ?_⟩ (key c d).symm)⟩
        rcases q with q | q
        · exact q
        · exfalso
          omega
  · rw [A2]
    by_cases hk2 : (k : Int) < (s 3).toInt
    · rw [(eo k hk2).1, (eo k hk2).2]
      exact h.2 k hk2
    · have ek : k = M := by omega
      subst ek
      rw [en.1, en.2]
      omega

set_option maxHeartbeats 4000000 in
theorem T_mark {n r r2 x0 x1 : Int32} {v u v2 u2 : Nat → Nat → Int32} (hI : Iv v) (hQ : Ir v2) (h : RR n v v2) (p : (¬ ((0 ≤ x0.toInt ∧ x0.toInt < (v 13 2).toInt) ∧ (0 ≤ x1.toInt ∧ x1.toInt < (v 13 2).toInt) ∧ x0.toInt ≠ x1.toInt) → r = -1 ∧ u = v) ∧ (((0 ≤ x0.toInt ∧ x0.toInt < (v 13 2).toInt) ∧ (0 ≤ x1.toInt ∧ x1.toInt < (v 13 2).toInt) ∧ x0.toInt ≠ x1.toInt) ∧ (btx (v (29 + 15 * x0.toNatClampNeg) 4) x1).toInt = 1 → r = -3 ∧ u = v) ∧ (((0 ≤ x0.toInt ∧ x0.toInt < (v 13 2).toInt) ∧ (0 ≤ x1.toInt ∧ x1.toInt < (v 13 2).toInt) ∧ x0.toInt ≠ x1.toInt) ∧ (btx (v (29 + 15 * x0.toNatClampNeg) 4) x1).toInt ≠ 1 ∧ 6 ≤ (v 13 3).toInt → r = -2 ∧ u = v) ∧ (((0 ≤ x0.toInt ∧ x0.toInt < (v 13 2).toInt) ∧ (0 ≤ x1.toInt ∧ x1.toInt < (v 13 2).toInt) ∧ x0.toInt ≠ x1.toInt) ∧ (btx (v (29 + 15 * x0.toNatClampNeg) 4) x1).toInt ≠ 1 ∧ (v 13 3).toInt < 6 → r = v 13 3 + 1 ∧ (∀ k j : Nat, u k j = if k = 13 ∧ j = 3 then v 13 3 + 1 else if k = 29 + 15 * x1.toNatClampNeg ∧ j = 4 then v (29 + 15 * x1.toNatClampNeg) 4 ||| (1 <<< (x0 &&& 31)) else if k = 29 + 15 * x0.toNatClampNeg ∧ j = 4 then v (29 + 15 * x0.toNatClampNeg) 4 ||| (1 <<< (x1 &&& 31)) else v k j))) (q : (¬ ((0 ≤ x0.toInt ∧ x0.toInt < (v2 1 2).toInt) ∧ (0 ≤ x1.toInt ∧ x1.toInt < (v2 1 2).toInt) ∧ x0.toInt ≠ x1.toInt) → r2 = -1 ∧ u2 = v2) ∧ (((0 ≤ x0.toInt ∧ x0.toInt < (v2 1 2).toInt) ∧ (0 ≤ x1.toInt ∧ x1.toInt < (v2 1 2).toInt) ∧ x0.toInt ≠ x1.toInt) ∧ (∃ k : Nat, (k : Int) < (v2 1 3).toInt ∧ mk (v2 1) k x0 x1) → r2 = -3 ∧ u2 = v2) ∧ (((0 ≤ x0.toInt ∧ x0.toInt < (v2 1 2).toInt) ∧ (0 ≤ x1.toInt ∧ x1.toInt < (v2 1 2).toInt) ∧ x0.toInt ≠ x1.toInt) ∧ ¬ (∃ k : Nat, (k : Int) < (v2 1 3).toInt ∧ mk (v2 1) k x0 x1) ∧ (v2 1 3).toInt = 6 → r2 = -2 ∧ u2 = v2) ∧ (((0 ≤ x0.toInt ∧ x0.toInt < (v2 1 2).toInt) ∧ (0 ≤ x1.toInt ∧ x1.toInt < (v2 1 2).toInt) ∧ x0.toInt ≠ x1.toInt) ∧ ¬ (∃ k : Nat, (k : Int) < (v2 1 3).toInt ∧ mk (v2 1) k x0 x1) ∧ (v2 1 3).toInt ≠ 6 → r2 = v2 1 3 + 1 ∧ (∀ n : Nat, u2 1 n = if n = 3 then v2 1 3 + 1 else if n = 147 + 2 * (v2 1 3).toNatClampNeg then x1 else if n = 146 + 2 * (v2 1 3).toNatClampNeg then x0 else v2 1 n) ∧ (∀ k : Nat, k ≠ 1 → u2 k = v2 k))) : r = r2 ∧ RR n u u2 := by
  have e0 : v 13 0 = v2 1 0 := h.1.1 _ _ _ (lk_a (by decide))
  have e1 : v 13 1 = v2 1 1 := h.1.1 _ _ _ (lk_a (by decide))
  have e2 : v 13 2 = v2 1 2 := h.1.1 _ _ _ (lk_a (by decide))
  have e3 : v 13 3 = v2 1 3 := h.1.1 _ _ _ (lk_a (by decide))
  have hb0 := hQ 1 0 8 (by decide)
  have hb1 := hQ 1 1 4 (by decide)
  have hb2 := hQ 1 2 6 (by decide)
  have hb3 := hQ 1 3 6 (by decide)
  rw [e2, e3] at p
  by_cases hC : (0 ≤ x0.toInt ∧ x0.toInt < (v2 1 2).toInt) ∧ (0 ≤ x1.toInt ∧ x1.toInt < (v2 1 2).toInt) ∧ x0.toInt ≠ x1.toInt
  · have zX := t_nn (x := x0) (by omega)
    have hX : x0.toNatClampNeg < 6 := by omega
    have ha : (x0.toNatClampNeg : Int) < (v2 1 2).toInt := by omega
    have zY := t_nn (x := x1) (by omega)
    have hY : x1.toNatClampNeg < 6 := by omega
    have hb : (x1.toNatClampNeg : Int) < (v2 1 2).toInt := by omega
    have hXY : x0.toNatClampNeg ≠ x1.toNatClampNeg := by omega
    obtain ⟨g1, g2⟩ := h.1.2.2.2.1 _ hX ha
    have g3 := g2 _ hY
    rw [← ofn (x := x1) (by omega)] at g3
    have g4 : (btx (v (29 + 15 * x0.toNatClampNeg) 4) x1).toInt = 1 ↔ ∃ k : Nat, (k : Int) < (v2 1 3).toInt ∧ mk (v2 1) k x0 x1 := g3.trans ⟨fun ⟨k, a, b⟩ => ⟨k, a, by unfold mj at b; unfold mk; omega⟩, fun ⟨k, a, b⟩ => ⟨k, a, by unfold mk at b; unfold mj; omega⟩⟩
    by_cases hT : ∃ k : Nat, (k : Int) < (v2 1 3).toInt ∧ mk (v2 1) k x0 x1
    · obtain ⟨p1, p2⟩ := p.2.1 ⟨hC, g4.mpr hT⟩
      obtain ⟨q1, q2⟩ := q.2.1 ⟨hC, hT⟩
      rw [p1, q1, p2, q2]
      exact ⟨rfl, h⟩
    · have hN : (btx (v (29 + 15 * x0.toNatClampNeg) 4) x1).toInt ≠ 1 := fun w => hT (g4.mp w)
      by_cases hD : (v2 1 3).toInt = 6
      · obtain ⟨p1, p2⟩ := p.2.2.1 ⟨hC, hN, by omega⟩
        obtain ⟨q1, q2⟩ := q.2.2.1 ⟨hC, hT, hD⟩
        rw [p1, q1, p2, q2]
        exact ⟨rfl, h⟩
      · obtain ⟨p1, p2⟩ := p.2.2.2 ⟨hC, hN, by omega⟩
        obtain ⟨q1, q2, q3⟩ := q.2.2.2 ⟨hC, hT, hD⟩
        have zM := t_nn (x := v2 1 3) (by omega)
        have hM : (v2 1 3).toNatClampNeg < 6 := by omega
        have k1 : (1 : Int32).toInt = 1 := by decide
        have hx : (v2 1 3 + 1).toInt = (v2 1 3).toInt + 1 := by rw [t_add (by rw [k1]; omega), k1]
        clear hT hN g4 g3 g2 p q
        exact ⟨by rw [p1, q1], h.wr q3 (funext fun j => by rw [p2, if_neg (by omega), if_neg (by omega), if_neg (by omega)]) (fun k hk => funext fun j => by rw [p2, if_neg (by omega), if_neg (by omega), if_neg (by omega)]) ⟨RL_mark hX hY hM p2 q2 h.1.1, h.1.2.1.cg (by rw [q2, if_neg (by omega), if_neg (by omega), if_neg (by omega)]) (fun c hc => ⟨by rw [p2, if_neg (by omega), if_neg (by omega), if_neg (by omega)], by rw [p2, if_neg (by omega), if_neg (by omega), if_neg (by omega)], by rw [p2, if_neg (by omega), if_neg (by omega), if_neg (by omega)]⟩) (fun c hc => ⟨by rw [q2, if_neg (by omega), if_neg (by omega), if_neg (by omega)], by rw [q2, if_neg (by omega), if_neg (by omega), if_neg (by omega)], by rw [q2, if_neg (by omega), if_neg (by omega), if_neg (by omega)], by rw [q2, if_neg (by omega), if_neg (by omega), if_neg (by omega)]⟩), h.1.2.2.1.cg (by rw [q2, if_neg (by omega), if_neg (by omega), if_neg (by omega)]) (by rw [q2, if_neg (by omega), if_neg (by omega), if_neg (by omega)]) (fun m hm => by rw [q2, if_neg (by omega), if_neg (by omega), if_neg (by omega)]), RG_mark hX hY hM hXY zM.symm hx zX.symm zY.symm ha hb p2 q2 h.1.2.2.2⟩⟩
  · obtain ⟨p1, p2⟩ := p.1 hC
    obtain ⟨q1, q2⟩ := q.1 hC
    rw [p1, q1, p2, q2]
    exact ⟨rfl, h⟩

set_option maxHeartbeats 4000000 in
/-- what is in use is copied: the relation goes with it -/
theorem RQ.copy {b d : Nat} {v u : Nat → Nat → Int32} {s z : Nat → Int32} (h : RQ b v s) (hc0 : ∀ o j : Nat, lvH v b o j → u (d + o) j = v (b + o) j) (hz : ∀ n : Nat, n < 596 → z n = s n) (h3 : (s 3).toInt ≤ 6) : RQ d u z := by
  have e0 : v b 0 = s 0 := h.1 _ _ _ (lk_a (by decide))
  have e1 : v b 1 = s 1 := h.1 _ _ _ (lk_a (by decide))
  have e2 : v b 2 = s 2 := h.1 _ _ _ (lk_a (by decide))
  have hcc : ∀ o j : Nat, lvH v b o j → ∀ K L : Nat, K = d + o → L = b + o → u K j = v L j := fun o j hl K L hK hL => by
    subst hK
    subst hL
    exact hc0 o j hl
  have hca : ∀ c q j : Nat, c < 6 → (c : Int) < (s 2).toInt → lvC (v (b + 16 + 15 * c)) q j → lvH v b (16 + 15 * c + q) j := fun c q j h1 h2 h3 => Or.inr (Or.inr (Or.inr ⟨c, q, h1, by rw [e2]; exact h2, rfl, h3⟩))
  have z0 := hz 0 (by decide)
  have z1 := hz 1 (by decide)
  have z2 := hz 2 (by decide)
  have z3 := hz 3 (by decide)
  refine ⟨?_, ?_, ?_, ?_⟩
  · intro k j n hl
    rw [hz n (lk_k hl).2]
    unfold lk at hl
    rw [z0, z1, z2] at hl
    rcases hl with ⟨rfl, hj, rfl⟩ | ⟨p, hp, ha, hj, rfl, rfl⟩ | ⟨m, hm, ha, hj, rfl, rfl⟩ | ⟨m, hm, ha, rfl, rfl, rfl⟩ | ⟨c, hc, ha, rfl, rfl, rfl⟩ | ⟨c, hc, ha, rfl, rfl, rfl⟩ | ⟨c, hc, ha, rfl, rfl, rfl⟩ | ⟨c, hc, ha, rfl, rfl, rfl⟩ | ⟨c, hc, ha, hj, rfl, rfl⟩ | ⟨c, i, hc, ha, hi, hj, hr, rfl, rfl⟩ | ⟨c, i, hc, ha, hi, hj, rfl, rfl⟩ | ⟨c, t, hc, ha, ht, hr, hj, rfl, rfl⟩
    · exact (hcc 0 n (Or.inl ⟨rfl, hj⟩) _ b rfl rfl).trans (h.1 _ _ _ (lk_a hj))
    · exact (hcc (4 + p) j (Or.inr (Or.inl ⟨by omega, by omega, by rw [e0]; omega, hj⟩)) _ (b + 4 + p) (by omega) (by omega)).trans (h.1 _ _ _ (lk_p hp ha hj))
    · exact (hcc (12 + m) j (Or.inr (Or.inr (Or.inl ⟨by omega, by omega, by rw [e1]; omega, by omega⟩))) _ (b + 12 + m) (by omega) (by omega)).trans (h.1 _ _ _ (lk_m hm ha hj))
    · exact (hcc (12 + m) 2 (Or.inr (Or.inr (Or.inl ⟨by omega, by omega, by rw [e1]; omega, by omega⟩))) _ (b + 12 + m) (by omega) (by omega)).trans (h.1 _ _ _ (lk_k_ hm ha))
    · exact (hcc (16 + 15 * c + 0) 0 (hca c 0 0 hc ha (Or.inl ⟨rfl, by omega⟩)) _ (b + 16 + 15 * c) (by omega) (by omega)).trans (h.1 _ _ _ (lk_c0 hc ha))
    · exact (hcc (16 + 15 * c + 0) 2 (hca c 0 2 hc ha (Or.inl ⟨rfl, by omega⟩)) _ (b + 16 + 15 * c) (by omega) (by omega)).trans (h.1 _ _ _ (lk_c2 hc ha))
    · exact (hcc (16 + 15 * c + 0) 3 (hca c 0 3 hc ha (Or.inl ⟨rfl, by omega⟩)) _ (b + 16 + 15 * c) (by omega) (by omega)).trans (h.1 _ _ _ (lk_c3 hc ha))
    · exact (hcc (16 + 15 * c + 0) 5 (hca c 0 5 hc ha (Or.inl ⟨rfl, by omega⟩)) _ (b + 16 + 15 * c) (by omega) (by omega)).trans (h.1 _ _ _ (lk_c5 hc ha))
    · exact (hcc (16 + 15 * c + 1) j (hca c 1 j hc ha (Or.inr (Or.inl ⟨rfl, hj⟩))) _ (b + 17 + 15 * c) (by omega) (by omega)).trans (h.1 _ _ _ (lk_q hc ha hj))
    · rw [hz (36 + 7 * c) (by omega)] at hr
      have w := h.1 _ _ _ (lk_c2 hc ha)
      exact (hcc (16 + 15 * c + (4 + i)) j (hca c (4 + i) j hc ha (by unfold lvC; rw [w]; omega)) _ (b + 20 + 15 * c + i) (by omega) (by omega)).trans (h.1 _ _ _ (lk_o hc ha hi hj hr))
    · exact (hcc (16 + 15 * c + (7 + i)) j (hca c (7 + i) j hc ha (by unfold lvC; omega)) _ (b + 23 + 15 * c + i) (by omega) (by omega)).trans (h.1 _ _ _ (lk_l hc ha hi hj))
    · rw [hz (38 + 7 * c) (by omega)] at hr
      have w := h.1 _ _ _ (lk_c5 hc ha)
      exact (hcc (16 + 15 * c + (10 + t)) j (hca c (10 + t) j hc ha (by unfold lvC; rw [w]; omega)) _ (b + 26 + 15 * c + t) (by omega) (by omega)).trans (h.1 _ _ _ (lk_t hc ha ht hr hj))
  · intro c hc ha
    rw [z2] at ha
    have g0 := hcc (16 + 15 * c + 0) 1 (hca c 0 1 hc ha (Or.inl ⟨rfl, by omega⟩)) (d + 16 + 15 * c) (b + 16 + 15 * c) (by omega) (by omega)
    have g1 := hcc (16 + 15 * c + 2) 0 (hca c 2 0 hc ha (Or.inr (Or.inr (Or.inl ⟨rfl, by omega⟩)))) (d + 18 + 15 * c) (b + 18 + 15 * c) (by omega) (by omega)
    have g2 := hcc (16 + 15 * c + 2) 1 (hca c 2 1 hc ha (Or.inr (Or.inr (Or.inl ⟨rfl, by omega⟩)))) (d + 18 + 15 * c) (b + 18 + 15 * c) (by omega) (by omega)
    rw [g0, g1, g2, hz (34 + 7 * c) (by omega), hz (35 + 7 * c) (by omega), hz (74 + 2 * c) (by omega), hz (75 + 2 * c) (by omega)]
    exact h.2.1 c hc ha
  · intro m hm ha
    rw [z1] at ha
    rw [z0, hz (28 + m) (by omega)]
    exact h.2.2.1 m hm ha
  · have key : ∀ k a b : Nat, (k : Int) < (s 3).toInt → (mj z k a b ↔ mj s k a b) := fun k a b hk => by
      unfold mj
      rw [hz (146 + 2 * k) (by omega), hz (147 + 2 * k) (by omega)]
    refine ⟨fun c hc ha => ?_, fun k hk => ?_⟩
    · rw [z2] at ha
      have g0 := hcc (16 + 15 * c + 0) 4 (hca c 0 4 hc ha (Or.inl ⟨rfl, by omega⟩)) (d + 16 + 15 * c) (b + 16 + 15 * c) (by omega) (by omega)
      obtain ⟨g1, g2⟩ := h.2.2.2.1 c hc ha
      unfold GC
      rw [g0, z3]
      exact ⟨g1, fun e he => (g2 e he).trans ⟨fun ⟨k, q1, q2⟩ => ⟨k, q1, (key k c e q1).mpr q2⟩, fun ⟨k, q1, q2⟩ => ⟨k, q1, (key k c e q1).mp q2⟩⟩⟩
    · rw [z3] at hk
      rw [z2, hz (146 + 2 * k) (by omega), hz (147 + 2 * k) (by omega)]
      exact h.2.2.2.2 k hk
section RKB
variable {n r r2 x0 : Int32} {v u v2 u2 : Nat → Nat → Int32}
theorem T_rooms (h : RR n v v2) (p : (¬ (1 ≤ x0.toInt ∧ x0.toInt ≤ 2) → r = -1 ∧ u = v) ∧ (1 ≤ x0.toInt ∧ x0.toInt ≤ 2 → r = v 0 4 ∧ (∀ k j : Nat, u k j = if k = 0 ∧ j = 4 then x0 else v k j))) (q : ((¬ (1 ≤ x0.toInt ∧ x0.toInt ≤ 2) ∧ r2 = -1 ∧ u2 = v2) ∨ ((1 ≤ x0.toInt ∧ x0.toInt ≤ 2) ∧ r2 = v2 0 3 ∧ u2 0 3 = x0 ∧ u2 1 = v2 1 ∧ u2 2 = v2 2 ∧ u2 0 2 = v2 0 2))) : r = r2 ∧ RR n u u2 := by
  by_cases hC : 1 ≤ x0.toInt ∧ x0.toInt ≤ 2
  · obtain ⟨p1, p2⟩ := p.2 hC
    rcases q with ⟨q1, -⟩ | ⟨q1, q2, q3, q4, q5, q6⟩
    · exact absurd hC q1
    · have hk : ∀ k : Nat, 13 ≤ k → u k = v k := fun k hk => funext fun j => by rw [p2, if_neg (by omega)]
      obtain ⟨h1, h2, h3, h4⟩ := h
      refine ⟨by rw [p1, q2, h2], by rw [q4]; exact h1.cgv (fun k a _ => hk k a), by rw [p2, if_pos ⟨rfl, rfl⟩, q3], by rw [q6]; exact h3, fun w => by rw [q5]; exact (h4 w).cgv (fun k a _ => hk k (by omega))⟩
  · obtain ⟨p1, p2⟩ := p.1 hC
    rcases q with ⟨-, q2, q3⟩ | ⟨q1, -⟩
    · rw [p1, p2, q2, q3]
      exact ⟨rfl, h⟩
    · exact absurd q1 hC
theorem T_keep (hQ : Ir v2) (h : RR n v v2) (p1 : ∀ o j : Nat, lvH v 13 o j → u (119 + o) j = v (13 + o) j) (p2 : ∀ k : Nat, k < 119 → u k = v k) (q2 : ∀ j : Nat, j < 596 → u2 2 j = v2 1 j) (q3 : u2 1 = v2 1) (q4 : u2 0 2 = 1) (q5 : u2 0 3 = v2 0 3) : RR 1 u u2 := by
  obtain ⟨h1, h2, h3, h4⟩ := h
  have hb3 := hQ 1 3 6 (by decide)
  exact ⟨by rw [q3]; exact h1.cgv (fun k _ a => p2 k (by omega)), by rw [p2 0 (by decide), q5]; exact h2, q4, fun _ => h1.copy p1 q2 hb3.2⟩
theorem T_back0 (h : RR 0 v v2) (p : u = v ∧ r = -5) (q : (((v2 0 2).toInt = 0 ∧ u2 = v2 ∧ r2 = -5) ∨ ((v2 0 2).toInt = 1 ∧ (∀ j : Nat, j < 596 → u2 1 j = v2 2 j) ∧ u2 2 = v2 2 ∧ u2 0 = v2 0 ∧ r2 = 1))) : r = -5 ∧ r2 = -5 ∧ RR 0 u u2 := by
  rcases q with ⟨q1, q2, q3⟩ | ⟨q1, -⟩
  · refine ⟨p.2, q3, ?_⟩
    rw [p.1, q2]
    exact h
  · rw [h.2.2.1] at q1
    exact absurd q1 (by decide)
theorem T_back1 (hQ : Ir v2) (h : RR 1 v v2) (p : ((∀ o j : Nat, lvH v 119 o j → u (13 + o) j = v (119 + o) j) ∧ (∀ k : Nat, (k < 13 ∨ 119 ≤ k) → u k = v k)) ∧ r = 1) (q : (((v2 0 2).toInt = 0 ∧ u2 = v2 ∧ r2 = -5) ∨ ((v2 0 2).toInt = 1 ∧ (∀ j : Nat, j < 596 → u2 1 j = v2 2 j) ∧ u2 2 = v2 2 ∧ u2 0 = v2 0 ∧ r2 = 1))) : r = 1 ∧ r2 = 1 ∧ RR 1 u u2 := by
  rcases q with ⟨q1, -⟩ | ⟨q1, q2, q3, q4, q5⟩
  · rw [h.2.2.1] at q1
    exact absurd q1 (by decide)
  · obtain ⟨h1, h2, h3, h4⟩ := h
    have hb3 := hQ 2 3 6 (by decide)
    refine ⟨p.2, q5, (h4 rfl).copy p.1.1 q2 hb3.2, by rw [p.1.2 0 (by omega), q4]; exact h2, by rw [q4]; exact h3, fun _ => by rw [q3]; exact (h4 rfl).cgv (fun k a _ => p.1.2 k (Or.inr a))⟩
end RKB
theorem side3 (x : Int32) : x = 0 ∨ x = 1 ∨ ¬ (0 ≤ x.toInt ∧ x.toInt ≤ 1) := by
  by_cases h : 0 ≤ x.toInt ∧ x.toInt ≤ 1
  · rcases t_bool h with q | q
    · exact Or.inl q
    · exact Or.inr (Or.inl q)
  · exact Or.inr (Or.inr h)

theorem RQ_0 : RQ 13 v_0 (m_0 1) := by
  have z : (0 : Int32).toInt = 0 := by decide
  refine ⟨fun k j n h => ?_, fun c hc ha => absurd ha (by show ¬ (c : Int) < (0 : Int32).toInt; omega), fun m hm ha => absurd ha (by show ¬ (m : Int) < (0 : Int32).toInt; omega), fun c hc ha => absurd ha (by show ¬ (c : Int) < (0 : Int32).toInt; omega), fun k hk => absurd hk (by show ¬ (k : Int) < (0 : Int32).toInt; omega)⟩
  have q := lk_k h
  rw [v_0n (by omega)]
  rfl
theorem RR_0 : RR 0 v_0 m_0 := ⟨RQ_0, rfl, rfl, fun q => absurd q (by decide)⟩

set_option maxHeartbeats 4000000 in
set_option maxRecDepth 100000 in
theorem e_X7_offer_o (l : Launch) (dC : Nat → ClassId) (dI : Nat → Nat → Nat) (cy : Nat → ClassId) (sz : Nat) (ad : Nat → Nat) (kv : Value) (N : Nat) (hN : 119 ≤ N) (v : Nat → Nat → Int32) (hv : Iv v) (x0 x1 x2 : Int32) (hs : ¬ (0 ≤ x1.toInt ∧ x1.toInt ≤ 1)) : Met l yX7_offer wsX7_offer ({ frames := 3, cells := 0, slots := 0, locals := 192 }) (va_Pc [.ref (ad 0), .int x0, .int x1, .int x2] (ex_Pre dC dI cy sz (wl ad kv cy N v))) (va_Qi (fun (r : Int32) (u : Nat → Nat → Int32) => Iv u ∧ r = -1 ∧ u = v) (fun u t => ex_Pst dC dI (va_A (wl ad kv cy N v) sz) (wl ad kv cy N u) t) (va_A (wl ad kv cy N v) sz)) 0 0 (va_A (wl ad kv cy N v) sz) := by
  refine Met.ofW (cc := cX7_offer) (maxL := 5) (ret := (some .int)) (by decide) rfl ?_
  intro p e s m args below meth c s₁ B hml hv
  obtain ⟨rfl, hsz, hE, hP, hK, hD0⟩ := hv
  have hx := B.exec
  have hb := B.bytes
  have hr := B.returns
  have hts := atoms_spec (ws := wsX7_offer) B.pre
  have hown : s.vm.findClass RX7 = some m.cls := findClass_of_methodNamed B.named
  have hlocks := B.notSynchronized
  subst hsz
  have hD := hD0.self (sz := s.heap.size)
  generalize hAe : va_A (wl ad kv cy N v) s.heap.size = A at hD ⊢
  have hA : ∀ q : Nat, s.heap.size ≤ q → A q := fun q h => by rw [← hAe]; exact Or.inr h
  have hS : va_S A s.heap s.heap [] := va_S.rf
  have hP : va_P (dC, dI) vwCl (wl ad kv cy N v) s.heap := hP
  have hl := lv_entry ([.ref (ad 0), .int x0, .int x1, .int x2]) (n := 5) (Nat.le_of_ble_eq_true rfl)
  rw [lg_entry_eq]
  generalize (lg_sl ([.ref (ad 0), .int x0, .int x1, .int x2]) ++ List.replicate (5 - (lg_sl ([.ref (ad 0), .int x0, .int x1, .int x2])).length) Slot.unset).toArray = ls at hl ⊢
  have hl : lv_has ls 5 [(0, .ref (ad 0)), (1, .int x0), (2, .int x1), (3, .int x2)] := hl
  refine lv_aload_n hx hb dX7_offer_0 rfl (lv_at hl 0 rfl) ?_
  refine lv_iload_n hx hb dX7_offer_1 rfl (lv_at hl 1 rfl) ?_
  refine yw_i (w1 := fun (u : Nat → Nat → Int32) => wl ad kv cy N u) hD hS hA (va_runV (As := [.int x0]) (rest := []) ⟨hx, hb, hml, hown, hts⟩ (g_X7_isCase l dC dI cy _ ad kv N hN v hv x0) (cwV 1 hts gX7_offer_X7_isCase rfl rfl rfl hd_V_X7_isCase_1 ⟨Nat.le_of_ble_eq_true rfl, Nat.le_of_ble_eq_true rfl⟩) (yw_preV hE hK hP hD (ci := 7) (q := (RX7, TX7, 5)) (q0 := 0) rfl (wl_at (by omega) (ce_0 (by decide)))) rfl rfl hl.1 rfl (lv_room (Nat.le_of_ble_eq_true rfl)) dX7_offer_2 ⟨Nat.le_of_ble_eq_true rfl, Nat.le_of_ble_eq_true rfl⟩) (fun r_1 v_1 H locs hw_1 hP hD hS => ?_)
  obtain ⟨-, hu_1, hw_1⟩ := hw_1
  replace hu_1 := hu_1.symm
  subst hu_1
  rcases hw_1 with ⟨rfl, ha_2⟩ | ⟨rfl, ha_2⟩
  · have hb_2 := hv.at (k := 13) (j := 2) (K := 3) (by decide) rfl
    have hj_2 : 0 ≤ x0.toInt ∧ x0.toInt ≤ 5 := ⟨by omega, by omega⟩
    refine lv_if_eq (tgt := 25) hx hb dX7_offer_5 (by decide) (fun c9 => absurd c9 (by decide)) (fun _ => ?_)
    refine lv_iload_n hx hb dX7_offer_8 rfl (lv_at hl 2 rfl) ?_
    refine yc_p hP hS (va_runS (As := [.int x1]) (rest := []) ⟨hx, hb, hml, hown, hts⟩ (c_X7_isSide l x1) (cwS 1 hts gX7_offer_X7_isSide rfl rfl rfl hd_S_X7_isSide_1 ⟨Nat.le_of_ble_eq_true rfl, Nat.le_of_ble_eq_true rfl⟩) ex_preP rfl rfl hl.1 rfl (lv_room (Nat.le_of_ble_eq_true rfl)) dX7_offer_9 ⟨Nat.le_of_ble_eq_true rfl, Nat.le_of_ble_eq_true rfl⟩) (fun r_3 H locs hw_3 hP hS => ?_)
    rcases wi_ca hw_3 with ⟨rfl, hc_4⟩ | ⟨rfl, hc_4⟩
    · have k_0 : (0 : Int32).toInt = 0 := by decide
      have k_1 : (1 : Int32).toInt = 1 := by decide
      have tc_4 := wi_tl hc_4
      exact absurd ⟨by omega, by omega⟩ hs
    · refine lv_if_eq (tgt := 25) hx hb dX7_offer_12 (by decide) (fun _ => ?_) (fun c9 => absurd c9 (by decide))
      refine lv_iconst (v := (-1)) hx hb dX7_offer_25 (by decide) ?_
      exact W.iret (v := (-1)) hx hb hr (fun t ht hW => ⟨⟨(-1), v, rfl, ⟨hv, rfl, rfl⟩, by rw [ht]; exact hP, hD⟩, hS.F ht⟩) hS.2.2 dX7_offer_26
  · refine lv_if_eq (tgt := 25) hx hb dX7_offer_5 (by decide) (fun _ => ?_) (fun c9 => absurd c9 (by decide))
    refine lv_iconst (v := (-1)) hx hb dX7_offer_25 (by decide) ?_
    exact W.iret (v := (-1)) hx hb hr (fun t ht hW => ⟨⟨(-1), v, rfl, ⟨hv, rfl, rfl⟩, by rw [ht]; exact hP, hD⟩, hS.F ht⟩) hS.2.2 dX7_offer_26

set_option maxHeartbeats 4000000 in
set_option maxRecDepth 100000 in
theorem e_X8_offer_o (l : Launch) (dC : Nat → ClassId) (dI : Nat → Nat → Nat) (cy : Nat → ClassId) (sz : Nat) (ad : Nat → Nat) (v : Nat → Nat → Int32) (hv : Ir v) (x0 x1 x2 : Int32) (hs : ¬ (0 ≤ x1.toInt ∧ x1.toInt ≤ 1)) : Met l yX8_offer wsX8_offer ({ frames := 2, cells := 0, slots := 0, locals := 128 }) (va_Pc [.ref (ad 0), .int x0, .int x1, .int x2] (ex_Pre dC dI cy sz (wm ad cy v))) (va_Qi (fun (r : Int32) (u : Nat → Nat → Int32) => Ir u ∧ r = -1 ∧ u = v) (fun u t => ex_Pst dC dI (va_A (wm ad cy v) sz) (wm ad cy u) t) (va_A (wm ad cy v) sz)) 0 0 (va_A (wm ad cy v) sz) := by
  refine Met.ofW (cc := cX8_offer) (maxL := 7) (ret := (some .int)) (by decide) rfl ?_
  intro p e s m args below meth c s₁ B hml hv
  obtain ⟨rfl, hsz, hE, hP, hK, hD0⟩ := hv
  have hx := B.exec
  have hb := B.bytes
  have hr := B.returns
  have hts := atoms_spec (ws := wsX8_offer) B.pre
  have hown : s.vm.findClass RX8 = some m.cls := findClass_of_methodNamed B.named
  have hlocks := B.notSynchronized
  subst hsz
  have hD := hD0.self (sz := s.heap.size)
  generalize hAe : va_A (wm ad cy v) s.heap.size = A at hD ⊢
  have hA : ∀ q : Nat, s.heap.size ≤ q → A q := fun q h => by rw [← hAe]; exact Or.inr h
  have hS : va_S A s.heap s.heap [] := va_S.rf
  have hP : va_P (dC, dI) vwCl (wm ad cy v) s.heap := hP
  have hl := lv_entry ([.ref (ad 0), .int x0, .int x1, .int x2]) (n := 7) (Nat.le_of_ble_eq_true rfl)
  rw [lg_entry_eq]
  generalize (lg_sl ([.ref (ad 0), .int x0, .int x1, .int x2]) ++ List.replicate (7 - (lg_sl ([.ref (ad 0), .int x0, .int x1, .int x2])).length) Slot.unset).toArray = ls at hl ⊢
  have hl : lv_has ls 7 [(0, .ref (ad 0)), (1, .int x0), (2, .int x1), (3, .int x2)] := hl
  refine lv_aload_n hx hb dX8_offer_0 rfl (lv_at hl 0 rfl) ?_
  refine lv_iload_n hx hb dX8_offer_1 rfl (lv_at hl 1 rfl) ?_
  refine yw_i (w1 := fun (u : Nat → Nat → Int32) => wm ad cy u) hD hS hA (va_runV (As := [.int x0]) (rest := []) ⟨hx, hb, hml, hown, hts⟩ (q_X8_isCase l dC dI cy _ ad v hv x0) (cwV 1 hts gX8_offer_X8_isCase rfl rfl rfl hd_V_X8_isCase_1 ⟨Nat.le_of_ble_eq_true rfl, Nat.le_of_ble_eq_true rfl⟩) (yw_preV hE hK hP hD (ci := 8) (q := (RX8, TX8, 11)) (q0 := 0) rfl (wm_at (by decide) rc_0)) rfl rfl hl.1 rfl (lv_room (Nat.le_of_ble_eq_true rfl)) dX8_offer_2 ⟨Nat.le_of_ble_eq_true rfl, Nat.le_of_ble_eq_true rfl⟩) (fun r_1 v_1 H locs hw_1 hP hD hS => ?_)
  obtain ⟨-, hu_1, hw_1⟩ := hw_1
  replace hu_1 := hu_1.symm
  subst hu_1
  rcases hw_1 with ⟨rfl, ha_2⟩ | ⟨rfl, ha_2⟩
  · have hb_2 := hv 1 2 6 (by decide)
    have hj_2 : 0 ≤ x0.toInt ∧ x0.toInt ≤ 5 := ⟨by omega, by omega⟩
    refine lv_if_eq (tgt := 25) hx hb dX8_offer_5 (by decide) (fun c9 => absurd c9 (by decide)) (fun _ => ?_)
    refine lv_iload_n hx hb dX8_offer_8 rfl (lv_at hl 2 rfl) ?_
    refine yc_p hP hS (va_runS (As := [.int x1]) (rest := []) ⟨hx, hb, hml, hown, hts⟩ (c_X8_isSide l x1) (cwS 1 hts gX8_offer_X8_isSide rfl rfl rfl hd_S_X8_isSide_1 ⟨Nat.le_of_ble_eq_true rfl, Nat.le_of_ble_eq_true rfl⟩) ex_preP rfl rfl hl.1 rfl (lv_room (Nat.le_of_ble_eq_true rfl)) dX8_offer_9 ⟨Nat.le_of_ble_eq_true rfl, Nat.le_of_ble_eq_true rfl⟩) (fun r_3 H locs hw_3 hP hS => ?_)
    rcases wi_ca hw_3 with ⟨rfl, hc_4⟩ | ⟨rfl, hc_4⟩
    · have k_0 : (0 : Int32).toInt = 0 := by decide
      have k_1 : (1 : Int32).toInt = 1 := by decide
      have tc_4 := wi_tl hc_4
      exact absurd ⟨by omega, by omega⟩ hs
    · refine lv_if_eq (tgt := 25) hx hb dX8_offer_12 (by decide) (fun _ => ?_) (fun c9 => absurd c9 (by decide))
      refine lv_iconst (v := (-1)) hx hb dX8_offer_25 (by decide) ?_
      exact W.iret (v := (-1)) hx hb hr (fun t ht hW => ⟨⟨(-1), v, rfl, ⟨hv, rfl, rfl⟩, by rw [ht]; exact hP, hD⟩, hS.F ht⟩) hS.2.2 dX8_offer_26
  · refine lv_if_eq (tgt := 25) hx hb dX8_offer_5 (by decide) (fun _ => ?_) (fun c9 => absurd c9 (by decide))
    refine lv_iconst (v := (-1)) hx hb dX8_offer_25 (by decide) ?_
    exact W.iret (v := (-1)) hx hb hr (fun t ht hW => ⟨⟨(-1), v, rfl, ⟨hv, rfl, rfl⟩, by rw [ht]; exact hP, hD⟩, hS.F ht⟩) hS.2.2 dX8_offer_26

set_option maxHeartbeats 4000000 in
set_option maxRecDepth 100000 in
theorem e_X7_isTerm (l : Launch) (dC : Nat → ClassId) (dI : Nat → Nat → Nat) (cy : Nat → ClassId) (sz : Nat) (ad : Nat → Nat) (kv : Value) (N : Nat) (hN : 119 ≤ N) (v : Nat → Nat → Int32) (hv : Iv v) (x0 x1 : Int32) : Met l yX7_isTerm wsX7_isTerm ({ frames := 2, cells := 0, slots := 0, locals := 128 }) (va_Pc [.ref (ad 0), .int x0, .int x1] (ex_Pre dC dI cy sz (wl ad kv cy N v))) (va_Qi (fun (r : Int32) (u : Nat → Nat → Int32) => Iv u ∧ u = v ∧ ((r = 1 ∧ (0 ≤ x0.toInt ∧ x0.toInt < (v 13 2).toInt) ∧ 0 ≤ x1.toInt ∧ x1.toInt < (v (29 + 15 * x0.toNatClampNeg) 5).toInt) ∨ (r = 0 ∧ ¬ ((0 ≤ x0.toInt ∧ x0.toInt < (v 13 2).toInt) ∧ 0 ≤ x1.toInt ∧ x1.toInt < (v (29 + 15 * x0.toNatClampNeg) 5).toInt)))) (fun u t => ex_Pst dC dI (va_A (wl ad kv cy N v) sz) (wl ad kv cy N u) t) (va_A (wl ad kv cy N v) sz)) 0 0 (va_A (wl ad kv cy N v) sz) := by
  refine Met.ofW (cc := cX7_isTerm) (maxL := 3) (ret := (some .boolean)) (by decide) rfl ?_
  intro p e s m args below meth c s₁ B hml hv
  obtain ⟨rfl, hsz, hE, hP, hK, hD0⟩ := hv
  have hx := B.exec
  have hb := B.bytes
  have hr := B.returns
  have hts := atoms_spec (ws := wsX7_isTerm) B.pre
  have hown : s.vm.findClass RX7 = some m.cls := findClass_of_methodNamed B.named
  have hlocks := B.notSynchronized
  subst hsz
  have hD := hD0.self (sz := s.heap.size)
  generalize hAe : va_A (wl ad kv cy N v) s.heap.size = A at hD ⊢
  have hA : ∀ q : Nat, s.heap.size ≤ q → A q := fun q h => by rw [← hAe]; exact Or.inr h
  have hS : va_S A s.heap s.heap [] := va_S.rf
  have hP : va_P (dC, dI) vwCl (wl ad kv cy N v) s.heap := hP
  have hl := lv_entry ([.ref (ad 0), .int x0, .int x1]) (n := 3) (Nat.le_of_ble_eq_true rfl)
  rw [lg_entry_eq]
  generalize (lg_sl ([.ref (ad 0), .int x0, .int x1]) ++ List.replicate (3 - (lg_sl ([.ref (ad 0), .int x0, .int x1])).length) Slot.unset).toArray = ls at hl ⊢
  have hl : lv_has ls 3 [(0, .ref (ad 0)), (1, .int x0), (2, .int x1)] := hl
  refine lv_aload_n hx hb dX7_isTerm_0 rfl (lv_at hl 0 rfl) ?_
  refine lv_iload_n hx hb dX7_isTerm_1 rfl (lv_at hl 1 rfl) ?_
  refine yw_i (w1 := fun (u : Nat → Nat → Int32) => wl ad kv cy N u) hD hS hA (va_runV (As := [.int x0]) (rest := []) ⟨hx, hb, hml, hown, hts⟩ (g_X7_isCase l dC dI cy _ ad kv N hN v hv x0) (cwV 1 hts gX7_isTerm_X7_isCase rfl rfl rfl hd_V_X7_isCase_1 ⟨Nat.le_of_ble_eq_true rfl, Nat.le_of_ble_eq_true rfl⟩) (yw_preV hE hK hP hD (ci := 7) (q := (RX7, TX7, 5)) (q0 := 0) rfl (wl_at (by omega) (ce_0 (by decide)))) rfl rfl hl.1 rfl (lv_room (Nat.le_of_ble_eq_true rfl)) dX7_isTerm_2 ⟨Nat.le_of_ble_eq_true rfl, Nat.le_of_ble_eq_true rfl⟩) (fun r_1 v_1 H locs hw_1 hP hD hS => ?_)
  obtain ⟨-, hu_1, hw_1⟩ := hw_1
  replace hu_1 := hu_1.symm
  subst hu_1
  rcases hw_1 with ⟨rfl, ha_2⟩ | ⟨rfl, ha_2⟩
  · have hb_2 := hv.at (k := 13) (j := 2) (K := 3) (by decide) rfl
    have hj_2 : 0 ≤ x0.toInt ∧ x0.toInt ≤ 5 := ⟨by omega, by omega⟩
    refine lv_if_eq (tgt := 34) hx hb dX7_isTerm_5 (by decide) (fun c9 => absurd c9 (by decide)) (fun _ => ?_)
    refine lv_iload_n hx hb dX7_isTerm_8 rfl (lv_at hl 2 rfl) ?_
    refine lv_iconst (v := 0) hx hb dX7_isTerm_9 (by decide) ?_
    refine lv_aload_n hx hb dX7_isTerm_10 rfl (lv_at hl 0 rfl) ?_
    refine va_get (D := (dC, dI)) (ci := 7) (v := .ref (ad 13)) (C := RX7) (T := TX7) (N := 5) hx hb hts iwX7_isTerm_X7 hown hK hP (0) (wl_at (by omega) (ce_0 (by decide))) rfl 0 (by decide) (hts (.fieldLink RX7 12 "QuietStairs" "now" "LQuietStairs$House;") fwX7_isTerm_1) (fun _ h9 => h9) rfl dX7_isTerm_11 ?_
    refine va_get (D := (dC, dI)) (ci := 1) (v := .ref (ad 16)) (C := RX1) (T := TX1) (N := 7) hx hb hts iwX7_isTerm_X1 hown hK hP (13) (wl_at (by omega) (ce_3 (by decide))) rfl 6 (by decide) (hts (.fieldLink RX7 86 "QuietStairs$House" "cases" "[LQuietStairs$Case;") fwX7_isTerm_2) (fun _ h9 => h9) rfl dX7_isTerm_14 ?_
    refine lv_iload_n hx hb dX7_isTerm_17 rfl (lv_at hl 1 rfl) ?_
    have zn_x0 : (x0.toNatClampNeg : Int) = x0.toInt := t_nn (by omega)
    have hx_3 : x0.toNatClampNeg < 6 := by omega
    refine va_aldq hx hb hK hP (16) 3 (wl_at (by omega) (ce_6 (by decide))) rfl (vp_in_iff.mpr ⟨by omega, by omega⟩) dX7_isTerm_18 ?_
    refine W.eq (g2 := F0 m 19 ls [.ref (ad (29 + 15 * x0.toNatClampNeg)), .int 0, .int x1]) (by rw [if_pos hx_3, show 16 + 13 + 15 * x0.toNatClampNeg = 29 + 15 * x0.toNatClampNeg from by omega]; rfl) ?_
    refine va_get (D := (dC, dI)) (ci := 0) (v := .int (v (29 + 15 * x0.toNatClampNeg) 5)) (C := RX0) (T := TX0) (N := 11) hx hb hts iwX7_isTerm_X0 hown hK hP (29 + 15 * x0.toNatClampNeg) (wl_at (by omega) (ce_9 (kd_c _ hx_3).1.1)) rfl 5 (by decide) (hts (.fieldLink RX7 169 "QuietStairs$Case" "termCount" "I") fwX7_isTerm_3) (fun _ h9 => h9) rfl dX7_isTerm_19 ?_
    refine lv_topi (fun x_4 ex_4 => ?_)
    have bzx_4 : 0 ≤ x_4.toInt ∧ x_4.toInt ≤ 5 := by rw [ex_4]; exact hv.at (K := 9) (kd_c _ hx_3).1.1 rfl
    have qx_4 : x_4.toInt = (v (29 + 15 * x0.toNatClampNeg) (5)).toInt := congrArg Int32.toInt ex_4
    refine lv_iconst (v := 1) hx hb dX7_isTerm_22 (by decide) ?_
    refine lv_isub hx hb dX7_isTerm_23 ?_
    refine lv_topi (fun x_5 ex_5 => ?_)
    have k_1 : (1 : Int32).toInt = 1 := by decide
    have tx_5 : x_5.toInt = x_4.toInt - (1 : Int32).toInt := by rw [ex_5]; exact t_sub ⟨by omega, by omega⟩
    refine yc_p hP hS (va_runS (As := [.int x1, .int 0, .int x_5]) (rest := []) ⟨hx, hb, hml, hown, hts⟩ (c_X7_isWithin l x1 0 x_5) (cwS 3 hts gX7_isTerm_X7_isWithin rfl rfl rfl hd_S_X7_isWithin_3 ⟨Nat.le_of_ble_eq_true rfl, Nat.le_of_ble_eq_true rfl⟩) ex_preP rfl rfl hl.1 rfl (lv_room (Nat.le_of_ble_eq_true rfl)) dX7_isTerm_24 ⟨Nat.le_of_ble_eq_true rfl, Nat.le_of_ble_eq_true rfl⟩) (fun r_6 H locs hw_6 hP hS => ?_)
    rcases wi_ca hw_6 with ⟨rfl, hc_7⟩ | ⟨rfl, hc_7⟩
    · have k_0 : (0 : Int32).toInt = 0 := by decide
      have tc_7 := wi_tl hc_7
      refine lv_if_eq (tgt := 34) hx hb dX7_isTerm_27 (by decide) (fun c9 => absurd c9 (by decide)) (fun _ => ?_)
      refine lv_iconst (v := 1) hx hb dX7_isTerm_30 (by decide) ?_
      refine lv_goto (tgt := 35) hx hb dX7_isTerm_31 (by decide) ?_
      exact W.zret (ty := .boolean) (v := 1) hx hb hr rfl (fun t ht hW => ⟨⟨1, v, rfl, ⟨hv, rfl, Or.inl ⟨rfl, ⟨by omega, by omega⟩, by omega, by omega⟩⟩, by rw [ht]; exact hP, hD⟩, hS.F ht⟩) hS.2.2 dX7_isTerm_35
    · have k_0 : (0 : Int32).toInt = 0 := by decide
      have tc_7 : ¬ ((0 : Int32).toInt ≤ x1.toInt ∧ x1.toInt ≤ x_5.toInt) := fun q => hc_7 ⟨Int32.le_iff_toInt_le.mpr q.1, Int32.le_iff_toInt_le.mpr q.2⟩
      refine lv_if_eq (tgt := 34) hx hb dX7_isTerm_27 (by decide) (fun _ => ?_) (fun c9 => absurd c9 (by decide))
      refine lv_iconst (v := 0) hx hb dX7_isTerm_34 (by decide) ?_
      exact W.zret (ty := .boolean) (v := 0) hx hb hr rfl (fun t ht hW => ⟨⟨0, v, rfl, ⟨hv, rfl, Or.inr ⟨rfl, by omega⟩⟩, by rw [ht]; exact hP, hD⟩, hS.F ht⟩) hS.2.2 dX7_isTerm_35
  · refine lv_if_eq (tgt := 34) hx hb dX7_isTerm_5 (by decide) (fun _ => ?_) (fun c9 => absurd c9 (by decide))
    refine lv_iconst (v := 0) hx hb dX7_isTerm_34 (by decide) ?_
    exact W.zret (ty := .boolean) (v := 0) hx hb hr rfl (fun t ht hW => ⟨⟨0, v, rfl, ⟨hv, rfl, Or.inr ⟨rfl, by omega⟩⟩, by rw [ht]; exact hP, hD⟩, hS.F ht⟩) hS.2.2 dX7_isTerm_35

set_option maxHeartbeats 4000000 in
set_option maxRecDepth 100000 in
theorem e_X8_isTerm (l : Launch) (dC : Nat → ClassId) (dI : Nat → Nat → Nat) (cy : Nat → ClassId) (sz : Nat) (ad : Nat → Nat) (v : Nat → Nat → Int32) (hv : Ir v) (x0 x1 : Int32) : Met l yX8_isTerm wsX8_isTerm ({ frames := 2, cells := 0, slots := 0, locals := 128 }) (va_Pc [.ref (ad 0), .int x0, .int x1] (ex_Pre dC dI cy sz (wm ad cy v))) (va_Qi (fun (r : Int32) (u : Nat → Nat → Int32) => Ir u ∧ u = v ∧ ((r = 1 ∧ (0 ≤ x0.toInt ∧ x0.toInt < (v 1 2).toInt) ∧ 0 ≤ x1.toInt ∧ x1.toInt < (v 1 (38 + 7 * x0.toNatClampNeg)).toInt) ∨ (r = 0 ∧ ¬ ((0 ≤ x0.toInt ∧ x0.toInt < (v 1 2).toInt) ∧ 0 ≤ x1.toInt ∧ x1.toInt < (v 1 (38 + 7 * x0.toNatClampNeg)).toInt)))) (fun u t => ex_Pst dC dI (va_A (wm ad cy v) sz) (wm ad cy u) t) (va_A (wm ad cy v) sz)) 0 0 (va_A (wm ad cy v) sz) := by
  refine Met.ofW (cc := cX8_isTerm) (maxL := 3) (ret := (some .boolean)) (by decide) rfl ?_
  intro p e s m args below meth c s₁ B hml hv
  obtain ⟨rfl, hsz, hE, hP, hK, hD0⟩ := hv
  have hx := B.exec
  have hb := B.bytes
  have hr := B.returns
  have hts := atoms_spec (ws := wsX8_isTerm) B.pre
  have hown : s.vm.findClass RX8 = some m.cls := findClass_of_methodNamed B.named
  have hlocks := B.notSynchronized
  subst hsz
  have hD := hD0.self (sz := s.heap.size)
  generalize hAe : va_A (wm ad cy v) s.heap.size = A at hD ⊢
  have hA : ∀ q : Nat, s.heap.size ≤ q → A q := fun q h => by rw [← hAe]; exact Or.inr h
  have hS : va_S A s.heap s.heap [] := va_S.rf
  have hP : va_P (dC, dI) vwCl (wm ad cy v) s.heap := hP
  have hl := lv_entry ([.ref (ad 0), .int x0, .int x1]) (n := 3) (Nat.le_of_ble_eq_true rfl)
  rw [lg_entry_eq]
  generalize (lg_sl ([.ref (ad 0), .int x0, .int x1]) ++ List.replicate (3 - (lg_sl ([.ref (ad 0), .int x0, .int x1])).length) Slot.unset).toArray = ls at hl ⊢
  have hl : lv_has ls 3 [(0, .ref (ad 0)), (1, .int x0), (2, .int x1)] := hl
  refine lv_aload_n hx hb dX8_isTerm_0 rfl (lv_at hl 0 rfl) ?_
  refine lv_iload_n hx hb dX8_isTerm_1 rfl (lv_at hl 1 rfl) ?_
  refine yw_i (w1 := fun (u : Nat → Nat → Int32) => wm ad cy u) hD hS hA (va_runV (As := [.int x0]) (rest := []) ⟨hx, hb, hml, hown, hts⟩ (q_X8_isCase l dC dI cy _ ad v hv x0) (cwV 1 hts gX8_isTerm_X8_isCase rfl rfl rfl hd_V_X8_isCase_1 ⟨Nat.le_of_ble_eq_true rfl, Nat.le_of_ble_eq_true rfl⟩) (yw_preV hE hK hP hD (ci := 8) (q := (RX8, TX8, 11)) (q0 := 0) rfl (wm_at (by decide) rc_0)) rfl rfl hl.1 rfl (lv_room (Nat.le_of_ble_eq_true rfl)) dX8_isTerm_2 ⟨Nat.le_of_ble_eq_true rfl, Nat.le_of_ble_eq_true rfl⟩) (fun r_1 v_1 H locs hw_1 hP hD hS => ?_)
  obtain ⟨-, hu_1, hw_1⟩ := hw_1
  replace hu_1 := hu_1.symm
  subst hu_1
  rcases hw_1 with ⟨rfl, ha_2⟩ | ⟨rfl, ha_2⟩
  · have hb_2 := hv 1 2 6 (by decide)
    have hj_2 : 0 ≤ x0.toInt ∧ x0.toInt ≤ 5 := ⟨by omega, by omega⟩
    refine lv_if_eq (tgt := 33) hx hb dX8_isTerm_5 (by decide) (fun c9 => absurd c9 (by decide)) (fun _ => ?_)
    refine lv_iload_n hx hb dX8_isTerm_8 rfl (lv_at hl 2 rfl) ?_
    refine lv_iconst (v := 0) hx hb dX8_isTerm_9 (by decide) ?_
    refine lv_aload_n hx hb dX8_isTerm_10 rfl (lv_at hl 0 rfl) ?_
    refine va_get (D := (dC, dI)) (ci := 8) (v := .ref (ad 1)) (C := RX8) (T := TX8) (N := 11) hx hb hts iwX8_isTerm_X8 hown hK hP (0) (wm_at (by decide) rc_0) rfl 0 (by decide) (hts (.fieldLink RX8 7 "QuietStairsModel" "s" "[I") fwX8_isTerm_1) (fun _ h9 => h9) rfl dX8_isTerm_11 ?_
    refine lv_iload_n hx hb dX8_isTerm_14 rfl (lv_at hl 1 rfl) ?_
    refine lv_bipush (v := 6) hx hb dX8_isTerm_15 (by decide) ?_
    refine yc_p hP hS (va_runS (As := [.int x0, .int 6]) (rest := [.ref (ad 1), .int 0, .int x1]) ⟨hx, hb, hml, hown, hts⟩ (c_X8_at l x0 6) (cwS 2 hts gX8_isTerm_X8_at rfl rfl rfl hd_S_X8_at_2 ⟨Nat.le_of_ble_eq_true rfl, Nat.le_of_ble_eq_true rfl⟩) ex_preP rfl rfl hl.1 rfl (lv_room (Nat.le_of_ble_eq_true rfl)) dX8_isTerm_17 ⟨Nat.le_of_ble_eq_true rfl, Nat.le_of_ble_eq_true rfl⟩) (fun r_3 H locs hw_3 hP hS => ?_)
    have k_6 : (6 : Int32).toInt = 6 := by decide
    have tr_3 : r_3.toInt = 32 + 7 * x0.toInt + (6 : Int32).toInt := t_at hw_3 ⟨by omega, by omega⟩ ⟨by omega, by omega⟩
    have zn_x0 : (x0.toNatClampNeg : Int) = x0.toInt := t_nn (by omega)
    have nr_3 : r_3.toNatClampNeg = 38 + 7 * x0.toNatClampNeg := by have z1 := t_nn (x := r_3) (by omega); omega
    refine va_iald hx hb hK hP (1) 0 (wm_at (by decide) rc_1) rfl (vp_in_iff.mpr ⟨by omega, by omega⟩) dX8_isTerm_20 ?_
    refine lv_topi (fun x_4 ex_4 => ?_)
    have bzx_4 : 0 ≤ x_4.toInt ∧ x_4.toInt ≤ 5 := by rw [ex_4]; exact hv 1 _ 5 (bx_4 (i := x0.toInt) (s := 6) (by omega) ⟨by omega, by omega⟩ (by omega))
    rw [nr_3] at ex_4
    have qx_4 : x_4.toInt = (v 1 (38 + 7 * x0.toNatClampNeg)).toInt := congrArg Int32.toInt ex_4
    refine lv_iconst (v := 1) hx hb dX8_isTerm_21 (by decide) ?_
    refine lv_isub hx hb dX8_isTerm_22 ?_
    refine lv_topi (fun x_5 ex_5 => ?_)
    have k_1 : (1 : Int32).toInt = 1 := by decide
    have tx_5 : x_5.toInt = x_4.toInt - (1 : Int32).toInt := by rw [ex_5]; exact t_sub ⟨by omega, by omega⟩
    refine yc_p hP hS (va_runS (As := [.int x1, .int 0, .int x_5]) (rest := []) ⟨hx, hb, hml, hown, hts⟩ (c_X8_in l x1 0 x_5) (cwS 3 hts gX8_isTerm_X8_in rfl rfl rfl hd_S_X8_in_3 ⟨Nat.le_of_ble_eq_true rfl, Nat.le_of_ble_eq_true rfl⟩) ex_preP rfl rfl hl.1 rfl (lv_room (Nat.le_of_ble_eq_true rfl)) dX8_isTerm_23 ⟨Nat.le_of_ble_eq_true rfl, Nat.le_of_ble_eq_true rfl⟩) (fun r_6 H locs hw_6 hP hS => ?_)
    rcases wi_ca hw_6 with ⟨rfl, hc_7⟩ | ⟨rfl, hc_7⟩
    · have k_0 : (0 : Int32).toInt = 0 := by decide
      have tc_7 := wi_tl hc_7
      refine lv_if_eq (tgt := 33) hx hb dX8_isTerm_26 (by decide) (fun c9 => absurd c9 (by decide)) (fun _ => ?_)
      refine lv_iconst (v := 1) hx hb dX8_isTerm_29 (by decide) ?_
      refine lv_goto (tgt := 34) hx hb dX8_isTerm_30 (by decide) ?_
      exact W.zret (ty := .boolean) (v := 1) hx hb hr rfl (fun t ht hW => ⟨⟨1, v, rfl, ⟨hv, rfl, Or.inl ⟨rfl, ⟨by omega, by omega⟩, by omega, by omega⟩⟩, by rw [ht]; exact hP, hD⟩, hS.F ht⟩) hS.2.2 dX8_isTerm_34
    · have k_0 : (0 : Int32).toInt = 0 := by decide
      have tc_7 : ¬ ((0 : Int32).toInt ≤ x1.toInt ∧ x1.toInt ≤ x_5.toInt) := fun q => hc_7 ⟨Int32.le_iff_toInt_le.mpr q.1, Int32.le_iff_toInt_le.mpr q.2⟩
      refine lv_if_eq (tgt := 33) hx hb dX8_isTerm_26 (by decide) (fun _ => ?_) (fun c9 => absurd c9 (by decide))
      refine lv_iconst (v := 0) hx hb dX8_isTerm_33 (by decide) ?_
      exact W.zret (ty := .boolean) (v := 0) hx hb hr rfl (fun t ht hW => ⟨⟨0, v, rfl, ⟨hv, rfl, Or.inr ⟨rfl, by omega⟩⟩, by rw [ht]; exact hP, hD⟩, hS.F ht⟩) hS.2.2 dX8_isTerm_34
  · refine lv_if_eq (tgt := 33) hx hb dX8_isTerm_5 (by decide) (fun _ => ?_) (fun c9 => absurd c9 (by decide))
    refine lv_iconst (v := 0) hx hb dX8_isTerm_33 (by decide) ?_
    exact W.zret (ty := .boolean) (v := 0) hx hb hr rfl (fun t ht hW => ⟨⟨0, v, rfl, ⟨hv, rfl, Or.inr ⟨rfl, by omega⟩⟩, by rw [ht]; exact hP, hD⟩, hS.F ht⟩) hS.2.2 dX8_isTerm_34

set_option maxHeartbeats 4000000 in
set_option maxRecDepth 100000 in
theorem e_X7_termOf (l : Launch) (dC : Nat → ClassId) (dI : Nat → Nat → Nat) (cy : Nat → ClassId) (sz : Nat) (ad : Nat → Nat) (kv : Value) (N : Nat) (hN : 119 ≤ N) (v : Nat → Nat → Int32) (hv : Iv v) (x0 x1 x2 : Int32) : Met l yX7_termOf wsX7_termOf ({ frames := 3, cells := 0, slots := 0, locals := 192 }) (va_Pc [.ref (ad 0), .int x0, .int x1, .int x2] (ex_Pre dC dI cy sz (wl ad kv cy N v))) (va_Qi (fun (r : Int32) (u : Nat → Nat → Int32) => Iv u ∧ (¬ ((0 ≤ x0.toInt ∧ x0.toInt < (v 13 2).toInt) ∧ 0 ≤ x1.toInt ∧ x1.toInt < (v (29 + 15 * x0.toNatClampNeg) 5).toInt) → r = -1 ∧ u = v) ∧ (((0 ≤ x0.toInt ∧ x0.toInt < (v 13 2).toInt) ∧ 0 ≤ x1.toInt ∧ x1.toInt < (v (29 + 15 * x0.toNatClampNeg) 5).toInt) ∧ 0 ≤ x2.toInt ∧ x2.toInt ≤ 4 → r = v (39 + 15 * x0.toNatClampNeg + x1.toNatClampNeg) x2.toNatClampNeg ∧ u = v) ∧ (((0 ≤ x0.toInt ∧ x0.toInt < (v 13 2).toInt) ∧ 0 ≤ x1.toInt ∧ x1.toInt < (v (29 + 15 * x0.toNatClampNeg) 5).toInt) ∧ ¬ (0 ≤ x2.toInt ∧ x2.toInt ≤ 4) → r = -1 ∧ u = v)) (fun u t => ex_Pst dC dI (va_A (wl ad kv cy N v) sz) (wl ad kv cy N u) t) (va_A (wl ad kv cy N v) sz)) 0 0 (va_A (wl ad kv cy N v) sz) := by
  refine Met.ofW (cc := cX7_termOf) (maxL := 5) (ret := (some .int)) (by decide) rfl ?_
  intro p e s m args below meth c s₁ B hml hv
  obtain ⟨rfl, hsz, hE, hP, hK, hD0⟩ := hv
  have hx := B.exec
  have hb := B.bytes
  have hr := B.returns
  have hts := atoms_spec (ws := wsX7_termOf) B.pre
  have hown : s.vm.findClass RX7 = some m.cls := findClass_of_methodNamed B.named
  have hlocks := B.notSynchronized
  subst hsz
  have hD := hD0.self (sz := s.heap.size)
  generalize hAe : va_A (wl ad kv cy N v) s.heap.size = A at hD ⊢
  have hA : ∀ q : Nat, s.heap.size ≤ q → A q := fun q h => by rw [← hAe]; exact Or.inr h
  have hS : va_S A s.heap s.heap [] := va_S.rf
  have hP : va_P (dC, dI) vwCl (wl ad kv cy N v) s.heap := hP
  have hl := lv_entry ([.ref (ad 0), .int x0, .int x1, .int x2]) (n := 5) (Nat.le_of_ble_eq_true rfl)
  rw [lg_entry_eq]
  generalize (lg_sl ([.ref (ad 0), .int x0, .int x1, .int x2]) ++ List.replicate (5 - (lg_sl ([.ref (ad 0), .int x0, .int x1, .int x2])).length) Slot.unset).toArray = ls at hl ⊢
  have hl : lv_has ls 5 [(0, .ref (ad 0)), (1, .int x0), (2, .int x1), (3, .int x2)] := hl
  refine lv_aload_n hx hb dX7_termOf_0 rfl (lv_at hl 0 rfl) ?_
  refine lv_iload_n hx hb dX7_termOf_1 rfl (lv_at hl 1 rfl) ?_
  refine lv_iload_n hx hb dX7_termOf_2 rfl (lv_at hl 2 rfl) ?_
  refine yw_i (w1 := fun (u : Nat → Nat → Int32) => wl ad kv cy N u) hD hS hA (va_runV (As := [.int x0, .int x1]) (rest := []) ⟨hx, hb, hml, hown, hts⟩ (e_X7_isTerm l dC dI cy _ ad kv N hN v hv x0 x1) (cwV 2 hts gX7_termOf_X7_isTerm rfl rfl rfl hd_V_X7_isTerm_2 ⟨Nat.le_of_ble_eq_true rfl, Nat.le_of_ble_eq_true rfl⟩) (yw_preV hE hK hP hD (ci := 7) (q := (RX7, TX7, 5)) (q0 := 0) rfl (wl_at (by omega) (ce_0 (by decide)))) rfl rfl hl.1 rfl (lv_room (Nat.le_of_ble_eq_true rfl)) dX7_termOf_3 ⟨Nat.le_of_ble_eq_true rfl, Nat.le_of_ble_eq_true rfl⟩) (fun r_1 v_1 H locs hw_1 hP hD hS => ?_)
  obtain ⟨-, hu_1, hw_1⟩ := hw_1
  replace hu_1 := hu_1.symm
  subst hu_1
  rcases hw_1 with ⟨rfl, ha_2⟩ | ⟨rfl, ha_2⟩
  · have hb_2 := hv.at (k := 13) (j := 2) (K := 3) (by decide) rfl
    have hj_2 : 0 ≤ x0.toInt ∧ x0.toInt ≤ 5 := ⟨by omega, by omega⟩
    have zn_x0 : (x0.toNatClampNeg : Int) = x0.toInt := t_nn (by omega)
    have hx_3 : x0.toNatClampNeg < 6 := by omega
    have hg_2 := hv.at (k := 29 + 15 * x0.toNatClampNeg) (j := 5) (K := 9) (kd_c _ hx_3).1.1 rfl
    have hl_2 : 0 ≤ x1.toInt ∧ x1.toInt ≤ 4 := ⟨by omega, by omega⟩
    refine lv_if_ne (tgt := 11) hx hb dX7_termOf_6 (by decide) (fun _ => ?_) (fun c9 => absurd c9 (by decide))
    refine lv_aload_n hx hb dX7_termOf_11 rfl (lv_at hl 0 rfl) ?_
    refine va_get (D := (dC, dI)) (ci := 7) (v := .ref (ad 13)) (C := RX7) (T := TX7) (N := 5) hx hb hts iwX7_termOf_X7 hown hK hP (0) (wl_at (by omega) (ce_0 (by decide))) rfl 0 (by decide) (hts (.fieldLink RX7 12 "QuietStairs" "now" "LQuietStairs$House;") fwX7_termOf_1) (fun _ h9 => h9) rfl dX7_termOf_12 ?_
    refine va_get (D := (dC, dI)) (ci := 1) (v := .ref (ad 16)) (C := RX1) (T := TX1) (N := 7) hx hb hts iwX7_termOf_X1 hown hK hP (13) (wl_at (by omega) (ce_3 (by decide))) rfl 6 (by decide) (hts (.fieldLink RX7 86 "QuietStairs$House" "cases" "[LQuietStairs$Case;") fwX7_termOf_2) (fun _ h9 => h9) rfl dX7_termOf_15 ?_
    refine lv_iload_n hx hb dX7_termOf_18 rfl (lv_at hl 1 rfl) ?_
    refine va_aldq hx hb hK hP (16) 3 (wl_at (by omega) (ce_6 (by decide))) rfl (vp_in_iff.mpr ⟨by omega, by omega⟩) dX7_termOf_19 ?_
    refine W.eq (g2 := F0 m 20 ls [.ref (ad (29 + 15 * x0.toNatClampNeg))]) (by rw [if_pos hx_3, show 16 + 13 + 15 * x0.toNatClampNeg = 29 + 15 * x0.toNatClampNeg from by omega]; rfl) ?_
    refine va_get (D := (dC, dI)) (ci := 0) (v := .ref (ad (29 + 15 * x0.toNatClampNeg + 9))) (C := RX0) (T := TX0) (N := 11) hx hb hts iwX7_termOf_X0 hown hK hP (29 + 15 * x0.toNatClampNeg) (wl_at (by omega) (ce_9 (kd_c _ hx_3).1.1)) rfl 10 (by decide) (hts (.fieldLink RX7 172 "QuietStairs$Case" "terms" "[LQuietStairs$Term;") fwX7_termOf_3) (fun _ h9 => h9) rfl dX7_termOf_20 ?_
    refine W.eq (g2 := F0 m 23 ls [.ref (ad (38 + 15 * x0.toNatClampNeg))]) (by rw [show 29 + 15 * x0.toNatClampNeg + 9 = 38 + 15 * x0.toNatClampNeg from by omega]) ?_
    refine lv_iload_n hx hb dX7_termOf_23 rfl (lv_at hl 2 rfl) ?_
    have zn_x1 : (x1.toNatClampNeg : Int) = x1.toInt := t_nn (by omega)
    have hx_4 : x1.toNatClampNeg < 5 := by omega
    refine va_aldq hx hb hK hP (38 + 15 * x0.toNatClampNeg) 4 (wl_at (by omega) (ce_15 (kd_c _ hx_3).1.2.2.2.2.2)) rfl (vp_in_iff.mpr ⟨by omega, by omega⟩) dX7_termOf_24 ?_
    refine W.eq (g2 := F0 m 25 ls [.ref (ad (39 + 15 * x0.toNatClampNeg + x1.toNatClampNeg))]) (by rw [if_pos hx_4, show 38 + 15 * x0.toNatClampNeg + 1 + x1.toNatClampNeg = 39 + 15 * x0.toNatClampNeg + x1.toNatClampNeg from by omega]; rfl) ?_
    refine lv_astore (lv' := [(4, .ref (ad (39 + 15 * x0.toNatClampNeg + x1.toNatClampNeg))), (0, .ref (ad 0)), (1, .int x0), (2, .int x1), (3, .int x2)]) hx hb dX7_termOf_25 hl (by decide) rfl (fun ls hl => ?_)
    refine lv_iload_n hx hb dX7_termOf_27 rfl (lv_at hl 4 rfl) ?_
    rcases sw_5 x2 with hsw | hsw | hsw | hsw | hsw | hsw
    · refine lv_tableOut (tgt := 102) hx hb dX7_termOf_28 hsw (by decide) ?_
      refine lv_iconst (v := (-1)) hx hb dX7_termOf_102 (by decide) ?_
      have hpost : (¬ ((0 ≤ x0.toInt ∧ x0.toInt < (v 13 2).toInt) ∧ 0 ≤ x1.toInt ∧ x1.toInt < (v (29 + 15 * x0.toNatClampNeg) 5).toInt) → ((-1) : Int32) = -1 ∧ v = v) ∧ (((0 ≤ x0.toInt ∧ x0.toInt < (v 13 2).toInt) ∧ 0 ≤ x1.toInt ∧ x1.toInt < (v (29 + 15 * x0.toNatClampNeg) 5).toInt) ∧ 0 ≤ x2.toInt ∧ x2.toInt ≤ 4 → ((-1) : Int32) = v (39 + 15 * x0.toNatClampNeg + x1.toNatClampNeg) x2.toNatClampNeg ∧ v = v) ∧ (((0 ≤ x0.toInt ∧ x0.toInt < (v 13 2).toInt) ∧ 0 ≤ x1.toInt ∧ x1.toInt < (v (29 + 15 * x0.toNatClampNeg) 5).toInt) ∧ ¬ (0 ≤ x2.toInt ∧ x2.toInt ≤ 4) → ((-1) : Int32) = -1 ∧ v = v) := by
        refine ⟨fun hq => ?_, fun hq => ?_, fun hq => ?_⟩
        · exfalso; omega
        · exfalso; omega
        · exact ⟨rfl, rfl⟩
      exact W.iret (v := (-1)) hx hb hr (fun t ht hW => ⟨⟨(-1), v, rfl, ⟨hv, hpost⟩, by rw [ht]; exact hP, hD⟩, hS.F ht⟩) hS.2.2 dX7_termOf_103
    · refine lv_tableIn (off := 36) (tgt := 64) hx hb dX7_termOf_28 (by rw [hsw]; decide) (by rw [hsw]; decide) (by rw [hsw]; decide) (by decide) ?_
      have k_0 : (0 : Int32).toInt = 0 := by decide
      have tsw : x2.toInt = 0 := by rw [hsw]; decide
      refine lv_aload hx hb dX7_termOf_64 (lv_at hl 0 rfl) ?_
      refine va_get (D := (dC, dI)) (ci := 6) (v := .int (v (39 + 15 * x0.toNatClampNeg + x1.toNatClampNeg) 0)) (C := RX6) (T := TX6) (N := 5) hx hb hts iwX7_termOf_X6 hown hK hP (39 + 15 * x0.toNatClampNeg + x1.toNatClampNeg) (wl_at (by omega) (ce_16 (kd_t _ hx_3 _ hx_4).1)) rfl 0 (by decide) (hts (.fieldLink RX7 176 "QuietStairs$Term" "side" "I") fwX7_termOf_4) (fun _ h9 => h9) rfl dX7_termOf_66 ?_
      refine lv_topi (fun x_5 ex_5 => ?_)
      have bzx_5 : 0 ≤ x_5.toInt ∧ x_5.toInt ≤ 1 := by rw [ex_5]; exact hv.at (K := 16) (kd_t _ hx_3 _ hx_4).1 rfl
      have qx_5 : x_5.toInt = (v (39 + 15 * x0.toNatClampNeg + x1.toNatClampNeg) (0)).toInt := congrArg Int32.toInt ex_5
      have hpost : (¬ ((0 ≤ x0.toInt ∧ x0.toInt < (v 13 2).toInt) ∧ 0 ≤ x1.toInt ∧ x1.toInt < (v (29 + 15 * x0.toNatClampNeg) 5).toInt) → x_5 = -1 ∧ v = v) ∧ (((0 ≤ x0.toInt ∧ x0.toInt < (v 13 2).toInt) ∧ 0 ≤ x1.toInt ∧ x1.toInt < (v (29 + 15 * x0.toNatClampNeg) 5).toInt) ∧ 0 ≤ x2.toInt ∧ x2.toInt ≤ 4 → x_5 = v (39 + 15 * x0.toNatClampNeg + x1.toNatClampNeg) x2.toNatClampNeg ∧ v = v) ∧ (((0 ≤ x0.toInt ∧ x0.toInt < (v 13 2).toInt) ∧ 0 ≤ x1.toInt ∧ x1.toInt < (v (29 + 15 * x0.toNatClampNeg) 5).toInt) ∧ ¬ (0 ≤ x2.toInt ∧ x2.toInt ≤ 4) → x_5 = -1 ∧ v = v) := by
        refine ⟨fun hq => ?_, fun hq => ?_, fun hq => ?_⟩
        · exfalso; omega
        · exact ⟨by rw [ex_5, hsw]; rfl, rfl⟩
        · exfalso; omega
      exact W.iret (v := x_5) hx hb hr (fun t ht hW => ⟨⟨x_5, v, rfl, ⟨hv, hpost⟩, by rw [ht]; exact hP, hD⟩, hS.F ht⟩) hS.2.2 dX7_termOf_69
    · refine lv_tableIn (off := 42) (tgt := 70) hx hb dX7_termOf_28 (by rw [hsw]; decide) (by rw [hsw]; decide) (by rw [hsw]; decide) (by decide) ?_
      have k_1 : (1 : Int32).toInt = 1 := by decide
      have tsw : x2.toInt = 1 := by rw [hsw]; decide
      refine lv_aload hx hb dX7_termOf_70 (lv_at hl 0 rfl) ?_
      refine va_get (D := (dC, dI)) (ci := 6) (v := .int (v (39 + 15 * x0.toNatClampNeg + x1.toNatClampNeg) 1)) (C := RX6) (T := TX6) (N := 5) hx hb hts iwX7_termOf_X6 hown hK hP (39 + 15 * x0.toNatClampNeg + x1.toNatClampNeg) (wl_at (by omega) (ce_16 (kd_t _ hx_3 _ hx_4).1)) rfl 1 (by decide) (hts (.fieldLink RX7 181 "QuietStairs$Term" "must" "Z") fwX7_termOf_5) (fun _ h9 => h9) rfl dX7_termOf_72 ?_
      refine lv_topi (fun x_5 ex_5 => ?_)
      have bzx_5 : 0 ≤ x_5.toInt ∧ x_5.toInt ≤ 1 := by rw [ex_5]; exact hv.at (K := 16) (kd_t _ hx_3 _ hx_4).1 rfl
      have qx_5 : x_5.toInt = (v (39 + 15 * x0.toNatClampNeg + x1.toNatClampNeg) (1)).toInt := congrArg Int32.toInt ex_5
      have k_0 : (0 : Int32).toInt = 0 := by decide
      refine lv_if_eq (tgt := 82) hx hb dX7_termOf_75 (by decide) (fun c_6 => ?_) (fun c_6 => ?_)
      · have tc_6 : x_5.toInt = (0 : Int32).toInt := by rw [c_6]
        refine lv_iconst (v := 0) hx hb dX7_termOf_82 (by decide) ?_
        have hpost : (¬ ((0 ≤ x0.toInt ∧ x0.toInt < (v 13 2).toInt) ∧ 0 ≤ x1.toInt ∧ x1.toInt < (v (29 + 15 * x0.toNatClampNeg) 5).toInt) → (0 : Int32) = -1 ∧ v = v) ∧ (((0 ≤ x0.toInt ∧ x0.toInt < (v 13 2).toInt) ∧ 0 ≤ x1.toInt ∧ x1.toInt < (v (29 + 15 * x0.toNatClampNeg) 5).toInt) ∧ 0 ≤ x2.toInt ∧ x2.toInt ≤ 4 → (0 : Int32) = v (39 + 15 * x0.toNatClampNeg + x1.toNatClampNeg) x2.toNatClampNeg ∧ v = v) ∧ (((0 ≤ x0.toInt ∧ x0.toInt < (v 13 2).toInt) ∧ 0 ≤ x1.toInt ∧ x1.toInt < (v (29 + 15 * x0.toNatClampNeg) 5).toInt) ∧ ¬ (0 ≤ x2.toInt ∧ x2.toInt ≤ 4) → (0 : Int32) = -1 ∧ v = v) := by
          refine ⟨fun hq => ?_, fun hq => ?_, fun hq => ?_⟩
          · exfalso; omega
          · exact ⟨by rw [hsw]; show (0 : Int32) = v (39 + 15 * x0.toNatClampNeg + x1.toNatClampNeg) 1; exact Int32.toInt_inj.mp (by rw [← qx_5]; omega), rfl⟩
          · exfalso; omega
        exact W.iret (v := 0) hx hb hr (fun t ht hW => ⟨⟨0, v, rfl, ⟨hv, hpost⟩, by rw [ht]; exact hP, hD⟩, hS.F ht⟩) hS.2.2 dX7_termOf_83
      · have tc_6 : x_5.toInt ≠ (0 : Int32).toInt := fun q => absurd (Int32.toInt_inj.mp q) c_6
        refine lv_iconst (v := 1) hx hb dX7_termOf_78 (by decide) ?_
        refine lv_goto (tgt := 83) hx hb dX7_termOf_79 (by decide) ?_
        have hpost : (¬ ((0 ≤ x0.toInt ∧ x0.toInt < (v 13 2).toInt) ∧ 0 ≤ x1.toInt ∧ x1.toInt < (v (29 + 15 * x0.toNatClampNeg) 5).toInt) → (1 : Int32) = -1 ∧ v = v) ∧ (((0 ≤ x0.toInt ∧ x0.toInt < (v 13 2).toInt) ∧ 0 ≤ x1.toInt ∧ x1.toInt < (v (29 + 15 * x0.toNatClampNeg) 5).toInt) ∧ 0 ≤ x2.toInt ∧ x2.toInt ≤ 4 → (1 : Int32) = v (39 + 15 * x0.toNatClampNeg + x1.toNatClampNeg) x2.toNatClampNeg ∧ v = v) ∧ (((0 ≤ x0.toInt ∧ x0.toInt < (v 13 2).toInt) ∧ 0 ≤ x1.toInt ∧ x1.toInt < (v (29 + 15 * x0.toNatClampNeg) 5).toInt) ∧ ¬ (0 ≤ x2.toInt ∧ x2.toInt ≤ 4) → (1 : Int32) = -1 ∧ v = v) := by
          refine ⟨fun hq => ?_, fun hq => ?_, fun hq => ?_⟩
          · exfalso; omega
          · exact ⟨by rw [hsw]; show (1 : Int32) = v (39 + 15 * x0.toNatClampNeg + x1.toNatClampNeg) 1; exact Int32.toInt_inj.mp (by rw [← qx_5]; omega), rfl⟩
          · exfalso; omega
        exact W.iret (v := 1) hx hb hr (fun t ht hW => ⟨⟨1, v, rfl, ⟨hv, hpost⟩, by rw [ht]; exact hP, hD⟩, hS.F ht⟩) hS.2.2 dX7_termOf_83
    · refine lv_tableIn (off := 56) (tgt := 84) hx hb dX7_termOf_28 (by rw [hsw]; decide) (by rw [hsw]; decide) (by rw [hsw]; decide) (by decide) ?_
      have k_2 : (2 : Int32).toInt = 2 := by decide
      have tsw : x2.toInt = 2 := by rw [hsw]; decide
      refine lv_aload hx hb dX7_termOf_84 (lv_at hl 0 rfl) ?_
      refine va_get (D := (dC, dI)) (ci := 6) (v := .int (v (39 + 15 * x0.toNatClampNeg + x1.toNatClampNeg) 2)) (C := RX6) (T := TX6) (N := 5) hx hb hts iwX7_termOf_X6 hown hK hP (39 + 15 * x0.toNatClampNeg + x1.toNatClampNeg) (wl_at (by omega) (ce_16 (kd_t _ hx_3 _ hx_4).1)) rfl 2 (by decide) (hts (.fieldLink RX7 185 "QuietStairs$Term" "act" "I") fwX7_termOf_6) (fun _ h9 => h9) rfl dX7_termOf_86 ?_
      refine lv_topi (fun x_5 ex_5 => ?_)
      have qx_5 : x_5.toInt = (v (39 + 15 * x0.toNatClampNeg + x1.toNatClampNeg) (2)).toInt := congrArg Int32.toInt ex_5
      have hpost : (¬ ((0 ≤ x0.toInt ∧ x0.toInt < (v 13 2).toInt) ∧ 0 ≤ x1.toInt ∧ x1.toInt < (v (29 + 15 * x0.toNatClampNeg) 5).toInt) → x_5 = -1 ∧ v = v) ∧ (((0 ≤ x0.toInt ∧ x0.toInt < (v 13 2).toInt) ∧ 0 ≤ x1.toInt ∧ x1.toInt < (v (29 + 15 * x0.toNatClampNeg) 5).toInt) ∧ 0 ≤ x2.toInt ∧ x2.toInt ≤ 4 → x_5 = v (39 + 15 * x0.toNatClampNeg + x1.toNatClampNeg) x2.toNatClampNeg ∧ v = v) ∧ (((0 ≤ x0.toInt ∧ x0.toInt < (v 13 2).toInt) ∧ 0 ≤ x1.toInt ∧ x1.toInt < (v (29 + 15 * x0.toNatClampNeg) 5).toInt) ∧ ¬ (0 ≤ x2.toInt ∧ x2.toInt ≤ 4) → x_5 = -1 ∧ v = v) := by
        refine ⟨fun hq => ?_, fun hq => ?_, fun hq => ?_⟩
        · exfalso; omega
        · exact ⟨by rw [ex_5, hsw]; rfl, rfl⟩
        · exfalso; omega
      exact W.iret (v := x_5) hx hb hr (fun t ht hW => ⟨⟨x_5, v, rfl, ⟨hv, hpost⟩, by rw [ht]; exact hP, hD⟩, hS.F ht⟩) hS.2.2 dX7_termOf_89
    · refine lv_tableIn (off := 62) (tgt := 90) hx hb dX7_termOf_28 (by rw [hsw]; decide) (by rw [hsw]; decide) (by rw [hsw]; decide) (by decide) ?_
      have k_3 : (3 : Int32).toInt = 3 := by decide
      have tsw : x2.toInt = 3 := by rw [hsw]; decide
      refine lv_aload hx hb dX7_termOf_90 (lv_at hl 0 rfl) ?_
      refine va_get (D := (dC, dI)) (ci := 6) (v := .int (v (39 + 15 * x0.toNatClampNeg + x1.toNatClampNeg) 3)) (C := RX6) (T := TX6) (N := 5) hx hb hts iwX7_termOf_X6 hown hK hP (39 + 15 * x0.toNatClampNeg + x1.toNatClampNeg) (wl_at (by omega) (ce_16 (kd_t _ hx_3 _ hx_4).1)) rfl 3 (by decide) (hts (.fieldLink RX7 188 "QuietStairs$Term" "first" "I") fwX7_termOf_7) (fun _ h9 => h9) rfl dX7_termOf_92 ?_
      refine lv_topi (fun x_5 ex_5 => ?_)
      have bzx_5 : 0 ≤ x_5.toInt ∧ x_5.toInt ≤ 23 := by rw [ex_5]; exact hv.at (K := 16) (kd_t _ hx_3 _ hx_4).1 rfl
      have qx_5 : x_5.toInt = (v (39 + 15 * x0.toNatClampNeg + x1.toNatClampNeg) (3)).toInt := congrArg Int32.toInt ex_5
      have hpost : (¬ ((0 ≤ x0.toInt ∧ x0.toInt < (v 13 2).toInt) ∧ 0 ≤ x1.toInt ∧ x1.toInt < (v (29 + 15 * x0.toNatClampNeg) 5).toInt) → x_5 = -1 ∧ v = v) ∧ (((0 ≤ x0.toInt ∧ x0.toInt < (v 13 2).toInt) ∧ 0 ≤ x1.toInt ∧ x1.toInt < (v (29 + 15 * x0.toNatClampNeg) 5).toInt) ∧ 0 ≤ x2.toInt ∧ x2.toInt ≤ 4 → x_5 = v (39 + 15 * x0.toNatClampNeg + x1.toNatClampNeg) x2.toNatClampNeg ∧ v = v) ∧ (((0 ≤ x0.toInt ∧ x0.toInt < (v 13 2).toInt) ∧ 0 ≤ x1.toInt ∧ x1.toInt < (v (29 + 15 * x0.toNatClampNeg) 5).toInt) ∧ ¬ (0 ≤ x2.toInt ∧ x2.toInt ≤ 4) → x_5 = -1 ∧ v = v) := by
        refine ⟨fun hq => ?_, fun hq => ?_, fun hq => ?_⟩
        · exfalso; omega
        · exact ⟨by rw [ex_5, hsw]; rfl, rfl⟩
        · exfalso; omega
      exact W.iret (v := x_5) hx hb hr (fun t ht hW => ⟨⟨x_5, v, rfl, ⟨hv, hpost⟩, by rw [ht]; exact hP, hD⟩, hS.F ht⟩) hS.2.2 dX7_termOf_95
    · refine lv_tableIn (off := 68) (tgt := 96) hx hb dX7_termOf_28 (by rw [hsw]; decide) (by rw [hsw]; decide) (by rw [hsw]; decide) (by decide) ?_
      have k_4 : (4 : Int32).toInt = 4 := by decide
      have tsw : x2.toInt = 4 := by rw [hsw]; decide
      refine lv_aload hx hb dX7_termOf_96 (lv_at hl 0 rfl) ?_
      refine va_get (D := (dC, dI)) (ci := 6) (v := .int (v (39 + 15 * x0.toNatClampNeg + x1.toNatClampNeg) 4)) (C := RX6) (T := TX6) (N := 5) hx hb hts iwX7_termOf_X6 hown hK hP (39 + 15 * x0.toNatClampNeg + x1.toNatClampNeg) (wl_at (by omega) (ce_16 (kd_t _ hx_3 _ hx_4).1)) rfl 4 (by decide) (hts (.fieldLink RX7 191 "QuietStairs$Term" "last" "I") fwX7_termOf_8) (fun _ h9 => h9) rfl dX7_termOf_98 ?_
      refine lv_topi (fun x_5 ex_5 => ?_)
      have bzx_5 : 0 ≤ x_5.toInt ∧ x_5.toInt ≤ 23 := by rw [ex_5]; exact hv.at (K := 16) (kd_t _ hx_3 _ hx_4).1 rfl
      have qx_5 : x_5.toInt = (v (39 + 15 * x0.toNatClampNeg + x1.toNatClampNeg) (4)).toInt := congrArg Int32.toInt ex_5
      have hpost : (¬ ((0 ≤ x0.toInt ∧ x0.toInt < (v 13 2).toInt) ∧ 0 ≤ x1.toInt ∧ x1.toInt < (v (29 + 15 * x0.toNatClampNeg) 5).toInt) → x_5 = -1 ∧ v = v) ∧ (((0 ≤ x0.toInt ∧ x0.toInt < (v 13 2).toInt) ∧ 0 ≤ x1.toInt ∧ x1.toInt < (v (29 + 15 * x0.toNatClampNeg) 5).toInt) ∧ 0 ≤ x2.toInt ∧ x2.toInt ≤ 4 → x_5 = v (39 + 15 * x0.toNatClampNeg + x1.toNatClampNeg) x2.toNatClampNeg ∧ v = v) ∧ (((0 ≤ x0.toInt ∧ x0.toInt < (v 13 2).toInt) ∧ 0 ≤ x1.toInt ∧ x1.toInt < (v (29 + 15 * x0.toNatClampNeg) 5).toInt) ∧ ¬ (0 ≤ x2.toInt ∧ x2.toInt ≤ 4) → x_5 = -1 ∧ v = v) := by
        refine ⟨fun hq => ?_, fun hq => ?_, fun hq => ?_⟩
        · exfalso; omega
        · exact ⟨by rw [ex_5, hsw]; rfl, rfl⟩
        · exfalso; omega
      exact W.iret (v := x_5) hx hb hr (fun t ht hW => ⟨⟨x_5, v, rfl, ⟨hv, hpost⟩, by rw [ht]; exact hP, hD⟩, hS.F ht⟩) hS.2.2 dX7_termOf_101
  · refine lv_if_ne (tgt := 11) hx hb dX7_termOf_6 (by decide) (fun c9 => absurd c9 (by decide)) (fun _ => ?_)
    refine lv_iconst (v := (-1)) hx hb dX7_termOf_9 (by decide) ?_
    have hpost : (¬ ((0 ≤ x0.toInt ∧ x0.toInt < (v 13 2).toInt) ∧ 0 ≤ x1.toInt ∧ x1.toInt < (v (29 + 15 * x0.toNatClampNeg) 5).toInt) → ((-1) : Int32) = -1 ∧ v = v) ∧ (((0 ≤ x0.toInt ∧ x0.toInt < (v 13 2).toInt) ∧ 0 ≤ x1.toInt ∧ x1.toInt < (v (29 + 15 * x0.toNatClampNeg) 5).toInt) ∧ 0 ≤ x2.toInt ∧ x2.toInt ≤ 4 → ((-1) : Int32) = v (39 + 15 * x0.toNatClampNeg + x1.toNatClampNeg) x2.toNatClampNeg ∧ v = v) ∧ (((0 ≤ x0.toInt ∧ x0.toInt < (v 13 2).toInt) ∧ 0 ≤ x1.toInt ∧ x1.toInt < (v (29 + 15 * x0.toNatClampNeg) 5).toInt) ∧ ¬ (0 ≤ x2.toInt ∧ x2.toInt ≤ 4) → ((-1) : Int32) = -1 ∧ v = v) := by
      refine ⟨fun hq => ?_, fun hq => ?_, fun hq => ?_⟩
      · exact ⟨rfl, rfl⟩
      · exfalso; omega
      · exfalso; omega
    exact W.iret (v := (-1)) hx hb hr (fun t ht hW => ⟨⟨(-1), v, rfl, ⟨hv, hpost⟩, by rw [ht]; exact hP, hD⟩, hS.F ht⟩) hS.2.2 dX7_termOf_10

set_option maxHeartbeats 4000000 in
set_option maxRecDepth 100000 in
theorem e_X8_termOf (l : Launch) (dC : Nat → ClassId) (dI : Nat → Nat → Nat) (cy : Nat → ClassId) (sz : Nat) (ad : Nat → Nat) (v : Nat → Nat → Int32) (hv : Ir v) (x0 x1 x2 : Int32) : Met l yX8_termOf wsX8_termOf ({ frames := 3, cells := 0, slots := 0, locals := 192 }) (va_Pc [.ref (ad 0), .int x0, .int x1, .int x2] (ex_Pre dC dI cy sz (wm ad cy v))) (va_Qi (fun (r : Int32) (u : Nat → Nat → Int32) => Ir u ∧ (¬ ((0 ≤ x0.toInt ∧ x0.toInt < (v 1 2).toInt) ∧ 0 ≤ x1.toInt ∧ x1.toInt < (v 1 (38 + 7 * x0.toNatClampNeg)).toInt) → r = -1 ∧ u = v) ∧ (((0 ≤ x0.toInt ∧ x0.toInt < (v 1 2).toInt) ∧ 0 ≤ x1.toInt ∧ x1.toInt < (v 1 (38 + 7 * x0.toNatClampNeg)).toInt) ∧ 0 ≤ x2.toInt ∧ x2.toInt ≤ 4 → r = v 1 (158 + 25 * x0.toNatClampNeg + 5 * x1.toNatClampNeg + x2.toNatClampNeg) ∧ u = v) ∧ (((0 ≤ x0.toInt ∧ x0.toInt < (v 1 2).toInt) ∧ 0 ≤ x1.toInt ∧ x1.toInt < (v 1 (38 + 7 * x0.toNatClampNeg)).toInt) ∧ ¬ (0 ≤ x2.toInt ∧ x2.toInt ≤ 4) → r = -1 ∧ u = v)) (fun u t => ex_Pst dC dI (va_A (wm ad cy v) sz) (wm ad cy u) t) (va_A (wm ad cy v) sz)) 0 0 (va_A (wm ad cy v) sz) := by
  refine Met.ofW (cc := cX8_termOf) (maxL := 4) (ret := (some .int)) (by decide) rfl ?_
  intro p e s m args below meth c s₁ B hml hv
  obtain ⟨rfl, hsz, hE, hP, hK, hD0⟩ := hv
  have hx := B.exec
  have hb := B.bytes
  have hr := B.returns
  have hts := atoms_spec (ws := wsX8_termOf) B.pre
  have hown : s.vm.findClass RX8 = some m.cls := findClass_of_methodNamed B.named
  have hlocks := B.notSynchronized
  subst hsz
  have hD := hD0.self (sz := s.heap.size)
  generalize hAe : va_A (wm ad cy v) s.heap.size = A at hD ⊢
  have hA : ∀ q : Nat, s.heap.size ≤ q → A q := fun q h => by rw [← hAe]; exact Or.inr h
  have hS : va_S A s.heap s.heap [] := va_S.rf
  have hP : va_P (dC, dI) vwCl (wm ad cy v) s.heap := hP
  have hl := lv_entry ([.ref (ad 0), .int x0, .int x1, .int x2]) (n := 4) (Nat.le_of_ble_eq_true rfl)
  rw [lg_entry_eq]
  generalize (lg_sl ([.ref (ad 0), .int x0, .int x1, .int x2]) ++ List.replicate (4 - (lg_sl ([.ref (ad 0), .int x0, .int x1, .int x2])).length) Slot.unset).toArray = ls at hl ⊢
  have hl : lv_has ls 4 [(0, .ref (ad 0)), (1, .int x0), (2, .int x1), (3, .int x2)] := hl
  refine lv_aload_n hx hb dX8_termOf_0 rfl (lv_at hl 0 rfl) ?_
  refine lv_iload_n hx hb dX8_termOf_1 rfl (lv_at hl 1 rfl) ?_
  refine lv_iload_n hx hb dX8_termOf_2 rfl (lv_at hl 2 rfl) ?_
  refine yw_i (w1 := fun (u : Nat → Nat → Int32) => wm ad cy u) hD hS hA (va_runV (As := [.int x0, .int x1]) (rest := []) ⟨hx, hb, hml, hown, hts⟩ (e_X8_isTerm l dC dI cy _ ad v hv x0 x1) (cwV 2 hts gX8_termOf_X8_isTerm rfl rfl rfl hd_V_X8_isTerm_2 ⟨Nat.le_of_ble_eq_true rfl, Nat.le_of_ble_eq_true rfl⟩) (yw_preV hE hK hP hD (ci := 8) (q := (RX8, TX8, 11)) (q0 := 0) rfl (wm_at (by decide) rc_0)) rfl rfl hl.1 rfl (lv_room (Nat.le_of_ble_eq_true rfl)) dX8_termOf_3 ⟨Nat.le_of_ble_eq_true rfl, Nat.le_of_ble_eq_true rfl⟩) (fun r_1 v_1 H locs hw_1 hP hD hS => ?_)
  obtain ⟨-, hu_1, hw_1⟩ := hw_1
  replace hu_1 := hu_1.symm
  subst hu_1
  rcases hw_1 with ⟨rfl, ha_2⟩ | ⟨rfl, ha_2⟩
  · have hb_2 := hv 1 2 6 (by decide)
    have hj_2 : 0 ≤ x0.toInt ∧ x0.toInt ≤ 5 := ⟨by omega, by omega⟩
    have zn_x0 : (x0.toNatClampNeg : Int) = x0.toInt := t_nn (by omega)
    have hg_2 := hv 1 (38 + 7 * x0.toNatClampNeg) 5 (bS_c (by omega) (by omega))
    have hl_2 : 0 ≤ x1.toInt ∧ x1.toInt ≤ 4 := ⟨by omega, by omega⟩
    refine lv_if_eq (tgt := 33) hx hb dX8_termOf_6 (by decide) (fun c9 => absurd c9 (by decide)) (fun _ => ?_)
    refine lv_iload_n hx hb dX8_termOf_9 rfl (lv_at hl 3 rfl) ?_
    refine lv_iconst (v := 0) hx hb dX8_termOf_10 (by decide) ?_
    refine lv_iconst (v := 4) hx hb dX8_termOf_11 (by decide) ?_
    refine yc_p hP hS (va_runS (As := [.int x2, .int 0, .int 4]) (rest := []) ⟨hx, hb, hml, hown, hts⟩ (c_X8_in l x2 0 4) (cwS 3 hts gX8_termOf_X8_in rfl rfl rfl hd_S_X8_in_3 ⟨Nat.le_of_ble_eq_true rfl, Nat.le_of_ble_eq_true rfl⟩) ex_preP rfl rfl hl.1 rfl (lv_room (Nat.le_of_ble_eq_true rfl)) dX8_termOf_12 ⟨Nat.le_of_ble_eq_true rfl, Nat.le_of_ble_eq_true rfl⟩) (fun r_3 H locs hw_3 hP hS => ?_)
    rcases wi_ca hw_3 with ⟨rfl, hc_4⟩ | ⟨rfl, hc_4⟩
    · have k_0 : (0 : Int32).toInt = 0 := by decide
      have k_4 : (4 : Int32).toInt = 4 := by decide
      have tc_4 := wi_tl hc_4
      refine lv_if_eq (tgt := 33) hx hb dX8_termOf_15 (by decide) (fun c9 => absurd c9 (by decide)) (fun _ => ?_)
      refine lv_aload_n hx hb dX8_termOf_18 rfl (lv_at hl 0 rfl) ?_
      refine va_get (D := (dC, dI)) (ci := 8) (v := .ref (ad 1)) (C := RX8) (T := TX8) (N := 11) hx hb hts iwX8_termOf_X8 hown hK hP (0) (wm_at (by decide) rc_0) rfl 0 (by decide) (hts (.fieldLink RX8 7 "QuietStairsModel" "s" "[I") fwX8_termOf_1) (fun _ h9 => h9) rfl dX8_termOf_19 ?_
      refine lv_iload_n hx hb dX8_termOf_22 rfl (lv_at hl 1 rfl) ?_
      refine lv_iload_n hx hb dX8_termOf_23 rfl (lv_at hl 2 rfl) ?_
      refine yc_p hP hS (va_runS (As := [.int x0, .int x1]) (rest := [.ref (ad 1)]) ⟨hx, hb, hml, hown, hts⟩ (c_X8_termAt l x0 x1) (cwS 2 hts gX8_termOf_X8_termAt rfl rfl rfl hd_S_X8_termAt_2 ⟨Nat.le_of_ble_eq_true rfl, Nat.le_of_ble_eq_true rfl⟩) ex_preP rfl rfl hl.1 rfl (lv_room (Nat.le_of_ble_eq_true rfl)) dX8_termOf_24 ⟨Nat.le_of_ble_eq_true rfl, Nat.le_of_ble_eq_true rfl⟩) (fun r_5 H locs hw_5 hP hS => ?_)
      have tr_5 : r_5.toInt = 158 + 25 * x0.toInt + 5 * x1.toInt := t_tm hw_5 ⟨by omega, by omega⟩ ⟨by omega, by omega⟩
      refine lv_iload_n hx hb dX8_termOf_27 rfl (lv_at hl 3 rfl) ?_
      refine lv_iadd hx hb dX8_termOf_28 ?_
      refine lv_topi (fun x_6 ex_6 => ?_)
      have tx_6 : x_6.toInt = r_5.toInt + x2.toInt := by rw [ex_6]; exact t_add ⟨by omega, by omega⟩
      have zn_x1 : (x1.toNatClampNeg : Int) = x1.toInt := t_nn (by omega)
      have zn_x2 : (x2.toNatClampNeg : Int) = x2.toInt := t_nn (by omega)
      have nx_6 : x_6.toNatClampNeg = 158 + 25 * x0.toNatClampNeg + 5 * x1.toNatClampNeg + x2.toNatClampNeg := by have z1 := t_nn (x := x_6) (by omega); omega
      refine va_iald hx hb hK hP (1) 0 (wm_at (by decide) rc_1) rfl (vp_in_iff.mpr ⟨by omega, by omega⟩) dX8_termOf_29 ?_
      refine lv_topi (fun x_7 ex_7 => ?_)
      rw [nx_6] at ex_7
      have qx_7 : x_7.toInt = (v 1 (158 + 25 * x0.toNatClampNeg + 5 * x1.toNatClampNeg + x2.toNatClampNeg)).toInt := congrArg Int32.toInt ex_7
      refine lv_goto (tgt := 34) hx hb dX8_termOf_30 (by decide) ?_
      have hpost : (¬ ((0 ≤ x0.toInt ∧ x0.toInt < (v 1 2).toInt) ∧ 0 ≤ x1.toInt ∧ x1.toInt < (v 1 (38 + 7 * x0.toNatClampNeg)).toInt) → x_7 = -1 ∧ v = v) ∧ (((0 ≤ x0.toInt ∧ x0.toInt < (v 1 2).toInt) ∧ 0 ≤ x1.toInt ∧ x1.toInt < (v 1 (38 + 7 * x0.toNatClampNeg)).toInt) ∧ 0 ≤ x2.toInt ∧ x2.toInt ≤ 4 → x_7 = v 1 (158 + 25 * x0.toNatClampNeg + 5 * x1.toNatClampNeg + x2.toNatClampNeg) ∧ v = v) ∧ (((0 ≤ x0.toInt ∧ x0.toInt < (v 1 2).toInt) ∧ 0 ≤ x1.toInt ∧ x1.toInt < (v 1 (38 + 7 * x0.toNatClampNeg)).toInt) ∧ ¬ (0 ≤ x2.toInt ∧ x2.toInt ≤ 4) → x_7 = -1 ∧ v = v) := by
        refine ⟨fun hq => ?_, fun hq => ?_, fun hq => ?_⟩
        · exfalso; omega
        · exact ⟨by rw [ex_7], rfl⟩
        · exfalso; omega
      exact W.iret (v := x_7) hx hb hr (fun t ht hW => ⟨⟨x_7, v, rfl, ⟨hv, hpost⟩, by rw [ht]; exact hP, hD⟩, hS.F ht⟩) hS.2.2 dX8_termOf_34
    · have k_0 : (0 : Int32).toInt = 0 := by decide
      have k_4 : (4 : Int32).toInt = 4 := by decide
      have tc_4 : ¬ ((0 : Int32).toInt ≤ x2.toInt ∧ x2.toInt ≤ (4 : Int32).toInt) := fun q => hc_4 ⟨Int32.le_iff_toInt_le.mpr q.1, Int32.le_iff_toInt_le.mpr q.2⟩
      refine lv_if_eq (tgt := 33) hx hb dX8_termOf_15 (by decide) (fun _ => ?_) (fun c9 => absurd c9 (by decide))
      refine lv_iconst (v := (-1)) hx hb dX8_termOf_33 (by decide) ?_
      have hpost : (¬ ((0 ≤ x0.toInt ∧ x0.toInt < (v 1 2).toInt) ∧ 0 ≤ x1.toInt ∧ x1.toInt < (v 1 (38 + 7 * x0.toNatClampNeg)).toInt) → ((-1) : Int32) = -1 ∧ v = v) ∧ (((0 ≤ x0.toInt ∧ x0.toInt < (v 1 2).toInt) ∧ 0 ≤ x1.toInt ∧ x1.toInt < (v 1 (38 + 7 * x0.toNatClampNeg)).toInt) ∧ 0 ≤ x2.toInt ∧ x2.toInt ≤ 4 → ((-1) : Int32) = v 1 (158 + 25 * x0.toNatClampNeg + 5 * x1.toNatClampNeg + x2.toNatClampNeg) ∧ v = v) ∧ (((0 ≤ x0.toInt ∧ x0.toInt < (v 1 2).toInt) ∧ 0 ≤ x1.toInt ∧ x1.toInt < (v 1 (38 + 7 * x0.toNatClampNeg)).toInt) ∧ ¬ (0 ≤ x2.toInt ∧ x2.toInt ≤ 4) → ((-1) : Int32) = -1 ∧ v = v) := by
        refine ⟨fun hq => ?_, fun hq => ?_, fun hq => ?_⟩
        · exfalso; omega
        · exfalso; omega
        · exact ⟨rfl, rfl⟩
      exact W.iret (v := (-1)) hx hb hr (fun t ht hW => ⟨⟨(-1), v, rfl, ⟨hv, hpost⟩, by rw [ht]; exact hP, hD⟩, hS.F ht⟩) hS.2.2 dX8_termOf_34
  · refine lv_if_eq (tgt := 33) hx hb dX8_termOf_6 (by decide) (fun _ => ?_) (fun c9 => absurd c9 (by decide))
    refine lv_iconst (v := (-1)) hx hb dX8_termOf_33 (by decide) ?_
    have hpost : (¬ ((0 ≤ x0.toInt ∧ x0.toInt < (v 1 2).toInt) ∧ 0 ≤ x1.toInt ∧ x1.toInt < (v 1 (38 + 7 * x0.toNatClampNeg)).toInt) → ((-1) : Int32) = -1 ∧ v = v) ∧ (((0 ≤ x0.toInt ∧ x0.toInt < (v 1 2).toInt) ∧ 0 ≤ x1.toInt ∧ x1.toInt < (v 1 (38 + 7 * x0.toNatClampNeg)).toInt) ∧ 0 ≤ x2.toInt ∧ x2.toInt ≤ 4 → ((-1) : Int32) = v 1 (158 + 25 * x0.toNatClampNeg + 5 * x1.toNatClampNeg + x2.toNatClampNeg) ∧ v = v) ∧ (((0 ≤ x0.toInt ∧ x0.toInt < (v 1 2).toInt) ∧ 0 ≤ x1.toInt ∧ x1.toInt < (v 1 (38 + 7 * x0.toNatClampNeg)).toInt) ∧ ¬ (0 ≤ x2.toInt ∧ x2.toInt ≤ 4) → ((-1) : Int32) = -1 ∧ v = v) := by
      refine ⟨fun hq => ?_, fun hq => ?_, fun hq => ?_⟩
      · exact ⟨rfl, rfl⟩
      · exfalso; omega
      · exfalso; omega
    exact W.iret (v := (-1)) hx hb hr (fun t ht hW => ⟨⟨(-1), v, rfl, ⟨hv, hpost⟩, by rw [ht]; exact hP, hD⟩, hS.F ht⟩) hS.2.2 dX8_termOf_34

set_option maxHeartbeats 4000000 in
theorem T_termOf {n r r2 x0 x1 x2 : Int32} {v u v2 u2 : Nat → Nat → Int32} (hI : Iv v) (hQ : Ir v2) (h : RR n v v2) (p : (¬ ((0 ≤ x0.toInt ∧ x0.toInt < (v 13 2).toInt) ∧ 0 ≤ x1.toInt ∧ x1.toInt < (v (29 + 15 * x0.toNatClampNeg) 5).toInt) → r = -1 ∧ u = v) ∧ (((0 ≤ x0.toInt ∧ x0.toInt < (v 13 2).toInt) ∧ 0 ≤ x1.toInt ∧ x1.toInt < (v (29 + 15 * x0.toNatClampNeg) 5).toInt) ∧ 0 ≤ x2.toInt ∧ x2.toInt ≤ 4 → r = v (39 + 15 * x0.toNatClampNeg + x1.toNatClampNeg) x2.toNatClampNeg ∧ u = v) ∧ (((0 ≤ x0.toInt ∧ x0.toInt < (v 13 2).toInt) ∧ 0 ≤ x1.toInt ∧ x1.toInt < (v (29 + 15 * x0.toNatClampNeg) 5).toInt) ∧ ¬ (0 ≤ x2.toInt ∧ x2.toInt ≤ 4) → r = -1 ∧ u = v)) (q : (¬ ((0 ≤ x0.toInt ∧ x0.toInt < (v2 1 2).toInt) ∧ 0 ≤ x1.toInt ∧ x1.toInt < (v2 1 (38 + 7 * x0.toNatClampNeg)).toInt) → r2 = -1 ∧ u2 = v2) ∧ (((0 ≤ x0.toInt ∧ x0.toInt < (v2 1 2).toInt) ∧ 0 ≤ x1.toInt ∧ x1.toInt < (v2 1 (38 + 7 * x0.toNatClampNeg)).toInt) ∧ 0 ≤ x2.toInt ∧ x2.toInt ≤ 4 → r2 = v2 1 (158 + 25 * x0.toNatClampNeg + 5 * x1.toNatClampNeg + x2.toNatClampNeg) ∧ u2 = v2) ∧ (((0 ≤ x0.toInt ∧ x0.toInt < (v2 1 2).toInt) ∧ 0 ≤ x1.toInt ∧ x1.toInt < (v2 1 (38 + 7 * x0.toNatClampNeg)).toInt) ∧ ¬ (0 ≤ x2.toInt ∧ x2.toInt ≤ 4) → r2 = -1 ∧ u2 = v2)) : r = r2 ∧ RR n u u2 := by
  have e0 : v 13 0 = v2 1 0 := h.1.1 _ _ _ (lk_a (by decide))
  have e1 : v 13 1 = v2 1 1 := h.1.1 _ _ _ (lk_a (by decide))
  have e2 : v 13 2 = v2 1 2 := h.1.1 _ _ _ (lk_a (by decide))
  have e3 : v 13 3 = v2 1 3 := h.1.1 _ _ _ (lk_a (by decide))
  have hb0 := hQ 1 0 8 (by decide)
  have hb1 := hQ 1 1 4 (by decide)
  have hb2 := hQ 1 2 6 (by decide)
  have hb3 := hQ 1 3 6 (by decide)
  rw [e2] at p
  by_cases hC : (0 ≤ x0.toInt ∧ x0.toInt < (v2 1 2).toInt)
  · have zX := t_nn (x := x0) (by omega)
    have hX : x0.toNatClampNeg < 6 := by omega
    have ha : (x0.toNatClampNeg : Int) < (v2 1 2).toInt := by omega
    have ev : v (29 + 15 * x0.toNatClampNeg) 5 = v2 1 (38 + 7 * x0.toNatClampNeg) := h.1.1 _ _ _ (lk_c5 hX ha)
    rw [ev] at p
    have hb := hQ 1 (38 + 7 * x0.toNatClampNeg) 5 (bS_c (by omega) (by omega))
    by_cases hT : 0 ≤ x1.toInt ∧ x1.toInt < (v2 1 (38 + 7 * x0.toNatClampNeg)).toInt
    · by_cases hW : 0 ≤ x2.toInt ∧ x2.toInt ≤ 4
      · obtain ⟨p1, p2⟩ := p.2.1 ⟨⟨hC, hT⟩, hW⟩
        obtain ⟨q1, q2⟩ := q.2.1 ⟨⟨hC, hT⟩, hW⟩
        have zT := t_nn (x := x1) (by omega)
        have zW := t_nn (x := x2) (by omega)
        refine ⟨?_, by rw [p2, q2]; exact h⟩
        rw [p1, q1]
        exact h.1.1 _ _ _ (lk_t hX ha (by omega) (by omega) (by omega))
      · obtain ⟨p1, p2⟩ := p.2.2 ⟨⟨hC, hT⟩, hW⟩
        obtain ⟨q1, q2⟩ := q.2.2 ⟨⟨hC, hT⟩, hW⟩
        exact ⟨by rw [p1, q1], by rw [p2, q2]; exact h⟩
    · obtain ⟨p1, p2⟩ := p.1 (fun w => hT w.2)
      obtain ⟨q1, q2⟩ := q.1 (fun w => hT w.2)
      exact ⟨by rw [p1, q1], by rw [p2, q2]; exact h⟩
  · obtain ⟨p1, p2⟩ := p.1 (fun w => hC w.1)
    obtain ⟨q1, q2⟩ := q.1 (fun w => hC w.1)
    exact ⟨by rw [p1, q1], by rw [p2, q2]; exact h⟩

/-- the log has x at an hour of a .. b (b not among them) -/
def jE (L : Nat → Int32) (a b x : Int) : Prop := ∃ h : Nat, a ≤ (h : Int) ∧ (h : Int) < b ∧ (L h).toInt = x
section JES
variable {L M : Nat → Int32} {a b x : Int}
theorem jE_in {y : Int32} (hy : 0 ≤ y.toInt) (h1 : a ≤ y.toInt) (h2 : y.toInt < b) (h : (L y.toNatClampNeg).toInt = x) : jE L a b x := by
  have z := t_nn hy
  exact ⟨y.toNatClampNeg, by omega, by omega, h⟩
theorem jE_up {c : Int} (h : jE L a b x) (hc : b ≤ c) : jE L a c x := by
  obtain ⟨k, h1, h2, h3⟩ := h
  exact ⟨k, h1, by omega, h3⟩
theorem jE_no {y z : Int32} (hy : 0 ≤ y.toInt) (hz : z.toInt = y.toInt + 1) (h : ¬ jE L a y.toInt x) (hn : (L y.toNatClampNeg).toInt ≠ x) : ¬ jE L a z.toInt x := by
  intro ⟨k, h1, h2, h3⟩
  have q := t_nn hy
  by_cases e : (k : Int) < y.toInt
  · exact h ⟨k, h1, e, h3⟩
  · rw [show k = y.toNatClampNeg from by omega] at h3
    exact hn h3
theorem jE_non (h : b ≤ a) : ¬ jE L a b x := fun ⟨k, h1, h2, _⟩ => by omega
theorem jE_end {c : Int} (h1 : c ≤ b) (h2 : b ≤ c ∨ b ≤ a) : jE L a b x ↔ jE L a c x := by
  rcases h2 with h2 | h2
  · rw [show b = c from by omega]
  · exact ⟨fun q => absurd q (jE_non h2), fun q => absurd q (jE_non (by omega))⟩
theorem jE_cg (h : ∀ k : Nat, (k : Int) < b → L k = M k) : jE L a b x ↔ jE M a b x :=
  ⟨fun ⟨k, h1, h2, h3⟩ => ⟨k, h1, h2, by rw [← h k h2]; exact h3⟩, fun ⟨k, h1, h2, h3⟩ => ⟨k, h1, h2, by rw [h k h2]; exact h3⟩⟩
end JES
/-- how a term is judged: m: it is a must -/
noncomputable def jF (m : Int32) (L : Nat → Int32) (a b x : Int32) : Int32 := @ite _ (jE L a.toInt (b.toInt + 1) x.toInt) (Classical.propDecidable _) m (@ite _ (jE L a.toInt (b.toInt + 1) 7) (Classical.propDecidable _) 2 (1 - m))
section JFS
variable {L M : Nat → Int32} {m a b x : Int32}
theorem jF_1 (h : jE L a.toInt (b.toInt + 1) x.toInt) : jF m L a b x = m := if_pos h
theorem jF_2 (h : ¬ jE L a.toInt (b.toInt + 1) x.toInt) (h7 : jE L a.toInt (b.toInt + 1) 7) : jF m L a b x = 2 := (if_neg h).trans (if_pos h7)
theorem jF_3 (h : ¬ jE L a.toInt (b.toInt + 1) x.toInt) (h7 : ¬ jE L a.toInt (b.toInt + 1) 7) : jF m L a b x = 1 - m := (if_neg h).trans (if_neg h7)
theorem jF_cg (h : ∀ k : Nat, (k : Int) < b.toInt + 1 → L k = M k) : jF m L a b x = jF m M a b x := by
  by_cases h1 : jE L a.toInt (b.toInt + 1) x.toInt
  · rw [jF_1 h1, jF_1 ((jE_cg h).mp h1)]
  · by_cases h2 : jE L a.toInt (b.toInt + 1) 7
    · rw [jF_2 h1 h2, jF_2 (fun q => h1 ((jE_cg h).mpr q)) ((jE_cg h).mp h2)]
    · rw [jF_3 h1 h2, jF_3 (fun q => h1 ((jE_cg h).mpr q)) (fun q => h2 ((jE_cg h).mpr q))]
end JFS

set_option maxHeartbeats 4000000 in
set_option maxRecDepth 100000 in
theorem e_X0_judge (l : Launch) (dC : Nat → ClassId) (dI : Nat → Nat → Nat) (cy : Nat → ClassId) (sz : Nat) (ad : Nat → Nat) (kv : Value) (N : Nat) (hN : 119 ≤ N) (v : Nat → Nat → Int32) (hv : Iv v) (i : Nat) (hi : i < 6) (x0 : Int32) (ht : 0 ≤ x0.toInt ∧ x0.toInt ≤ 4) : Met l yX0_judge wsX0_judge ({ frames := 1, cells := 0, slots := 0, locals := 64 }) (va_Pc [.ref (ad (29 + 15 * i)), .int x0] (ex_Pre dC dI cy sz (wl ad kv cy N v))) (va_Qi (fun (r : Int32) (u : Nat → Nat → Int32) => Iv u ∧ u = v ∧ r = jF (v (39 + 15 * i + x0.toNatClampNeg) 1) (v (36 + 15 * i + (v (39 + 15 * i + x0.toNatClampNeg) 0).toNatClampNeg)) (v (39 + 15 * i + x0.toNatClampNeg) 3) (v (39 + 15 * i + x0.toNatClampNeg) 4) (v (39 + 15 * i + x0.toNatClampNeg) 2)) (fun u t => ex_Pst dC dI (va_A (wl ad kv cy N v) sz) (wl ad kv cy N u) t) (va_A (wl ad kv cy N v) sz)) 0 0 (va_A (wl ad kv cy N v) sz) := by
  refine Met.ofW (cc := cX0_judge) (maxL := 6) (ret := (some .int)) (by decide) rfl ?_
  intro p e s m args below meth c s₁ B hml hv
  obtain ⟨rfl, hsz, hE, hP, hK, hD0⟩ := hv
  have hx := B.exec
  have hb := B.bytes
  have hr := B.returns
  have hts := atoms_spec (ws := wsX0_judge) B.pre
  have hown : s.vm.findClass RX0 = some m.cls := findClass_of_methodNamed B.named
  have hlocks := B.notSynchronized
  subst hsz
  have hD := hD0.self (sz := s.heap.size)
  generalize hAe : va_A (wl ad kv cy N v) s.heap.size = A at hD ⊢
  have hA : ∀ q : Nat, s.heap.size ≤ q → A q := fun q h => by rw [← hAe]; exact Or.inr h
  have hS : va_S A s.heap s.heap [] := va_S.rf
  have hP : va_P (dC, dI) vwCl (wl ad kv cy N v) s.heap := hP
  have hl := lv_entry ([.ref (ad (29 + 15 * i)), .int x0]) (n := 6) (Nat.le_of_ble_eq_true rfl)
  rw [lg_entry_eq]
  generalize (lg_sl ([.ref (ad (29 + 15 * i)), .int x0]) ++ List.replicate (6 - (lg_sl ([.ref (ad (29 + 15 * i)), .int x0])).length) Slot.unset).toArray = ls at hl ⊢
  have hl : lv_has ls 6 [(0, .ref (ad (29 + 15 * i))), (1, .int x0)] := hl
  have zn_x0 : (x0.toNatClampNeg : Int) = x0.toInt := t_nn (by omega)
  have hx5 : x0.toNatClampNeg < 5 := by omega
  obtain ⟨sd, esd⟩ : ∃ z : Int32, z = v (39 + 15 * i + x0.toNatClampNeg) 0 := ⟨_, rfl⟩
  have hbsd : 0 ≤ sd.toInt ∧ sd.toInt ≤ 1 := by rw [esd]; exact hv.at (K := 16) (kd_t _ hi _ hx5).1 rfl
  obtain ⟨mu, emu⟩ : ∃ z : Int32, z = v (39 + 15 * i + x0.toNatClampNeg) 1 := ⟨_, rfl⟩
  have hbmu : 0 ≤ mu.toInt ∧ mu.toInt ≤ 1 := by rw [emu]; exact hv.at (K := 16) (kd_t _ hi _ hx5).1 rfl
  obtain ⟨ac, eac⟩ : ∃ z : Int32, z = v (39 + 15 * i + x0.toNatClampNeg) 2 := ⟨_, rfl⟩
  obtain ⟨fi, efi⟩ : ∃ z : Int32, z = v (39 + 15 * i + x0.toNatClampNeg) 3 := ⟨_, rfl⟩
  have hbfi : 0 ≤ fi.toInt ∧ fi.toInt ≤ 23 := by rw [efi]; exact hv.at (K := 16) (kd_t _ hi _ hx5).1 rfl
  obtain ⟨la, ela⟩ : ∃ z : Int32, z = v (39 + 15 * i + x0.toNatClampNeg) 4 := ⟨_, rfl⟩
  have hbla : 0 ≤ la.toInt ∧ la.toInt ≤ 23 := by rw [ela]; exact hv.at (K := 16) (kd_t _ hi _ hx5).1 rfl
  obtain ⟨LL, eLL⟩ : ∃ f : Nat → Int32, f = v (36 + 15 * i + sd.toNatClampNeg) := ⟨_, rfl⟩
  refine lv_aload_n hx hb dX0_judge_0 rfl (lv_at hl 0 rfl) ?_
  refine va_get (D := (dC, dI)) (ci := 0) (v := .ref (ad (29 + 15 * i + 9))) (C := RX0) (T := TX0) (N := 11) hx hb hts iwX0_judge_X0 hown hK hP (29 + 15 * i) (wl_at (by omega) (ce_9 (kd_c _ hi).1.1)) rfl 10 (by decide) (hts (.fieldLink RX0 28 "QuietStairs$Case" "terms" "[LQuietStairs$Term;") fwX0_judge_1) (fun _ h9 => h9) rfl dX0_judge_1 ?_
  refine W.eq (g2 := F0 m 4 ls [.ref (ad (38 + 15 * i))]) (by rw [show 29 + 15 * i + 9 = 38 + 15 * i from by omega]) ?_
  refine lv_iload_n hx hb dX0_judge_4 rfl (lv_at hl 1 rfl) ?_
  refine va_aldq hx hb hK hP (38 + 15 * i) 4 (wl_at (by omega) (ce_15 (kd_c _ hi).1.2.2.2.2.2)) rfl (vp_in_iff.mpr ⟨by omega, by omega⟩) dX0_judge_5 ?_
  refine W.eq (g2 := F0 m 6 ls [.ref (ad (39 + 15 * i + x0.toNatClampNeg))]) (by rw [if_pos hx5, show 38 + 15 * i + 1 + x0.toNatClampNeg = 39 + 15 * i + x0.toNatClampNeg from by omega]; rfl) ?_
  refine lv_astore_n (lv' := [(2, .ref (ad (39 + 15 * i + x0.toNatClampNeg))), (0, .ref (ad (29 + 15 * i))), (1, .int x0)]) hx hb dX0_judge_6 rfl hl (by decide) rfl (fun ls hl => ?_)
  refine lv_iconst (v := 1) hx hb dX0_judge_7 (by decide) ?_
  refine lv_istore_n (lv' := [(3, .int 1), (2, .ref (ad (39 + 15 * i + x0.toNatClampNeg))), (0, .ref (ad (29 + 15 * i))), (1, .int x0)]) hx hb dX0_judge_8 rfl hl (by decide) rfl (fun ls hl => ?_)
  refine lv_aload_n hx hb dX0_judge_9 rfl (lv_at hl 1 rfl) ?_
  refine va_get (D := (dC, dI)) (ci := 6) (v := .int (v (39 + 15 * i + x0.toNatClampNeg) 3)) (C := RX6) (T := TX6) (N := 5) hx hb hts iwX0_judge_X6 hown hK hP (39 + 15 * i + x0.toNatClampNeg) (wl_at (by omega) (ce_16 (kd_t _ hi _ hx5).1)) rfl 3 (by decide) (hts (.fieldLink RX0 65 "QuietStairs$Term" "first" "I") fwX0_judge_2) (fun _ h9 => h9) rfl dX0_judge_10 ?_
  refine lv_topi (fun x_1 ex_1 => ?_)
  have bzx_1 : 0 ≤ x_1.toInt ∧ x_1.toInt ≤ 23 := by rw [ex_1]; exact hv.at (K := 16) (kd_t _ hi _ hx5).1 rfl
  obtain rfl : fi = x_1 := (ex_1.trans efi.symm).symm
  refine lv_istore (lv' := [(4, .int fi), (3, .int 1), (2, .ref (ad (39 + 15 * i + x0.toNatClampNeg))), (0, .ref (ad (29 + 15 * i))), (1, .int x0)]) hx hb dX0_judge_13 hl (by decide) rfl (fun ls hl => ?_)
  have hc_2 : ∀ (n : Nat) (y2_4 y2_3 : Int32) (H : Heap) (locs : List Loc), 0 ≤ y2_4.toInt → y2_4.toInt ≤ 24 → 0 ≤ y2_3.toInt → y2_3.toInt ≤ 1 → (¬ jE LL fi.toInt y2_4.toInt ac.toInt) → ((y2_3.toInt = 1 ∧ ¬ jE LL fi.toInt y2_4.toInt 7) ∨ (y2_3.toInt = 0 ∧ jE LL fi.toInt y2_4.toInt 7)) → (y2_4.toInt ≤ la.toInt + 1 ∨ y2_4.toInt ≤ fi.toInt) → (fi.toInt ≤ y2_4.toInt) → (24 - y2_4.toInt).toNat < n → va_P (dC, dI) vwCl (wl ad kv cy N v) H → va_D A (wl ad kv cy N v) → va_S A s.heap H locs → ∀ ls : Array Slot, lv_has ls 6 [(4, .int y2_4), (3, .int y2_3), (2, .ref (ad (39 + 15 * i + x0.toNatClampNeg))), (0, .ref (ad (29 + 15 * i))), (1, .int x0)] → W p l e (headSpec wsX0_judge ({ frames := 1, cells := 0, slots := 0, locals := 64 })).room s m [Value.ref (ad (29 + 15 * i)), Value.int x0].toArray below meth c H locs 0 0 (MQ below (va_Qi (fun (r : Int32) (u : Nat → Nat → Int32) => Iv u ∧ u = v ∧ r = jF (v (39 + 15 * i + x0.toNatClampNeg) 1) (v (36 + 15 * i + (v (39 + 15 * i + x0.toNatClampNeg) 0).toNatClampNeg)) (v (39 + 15 * i + x0.toNatClampNeg) 3) (v (39 + 15 * i + x0.toNatClampNeg) 4) (v (39 + 15 * i + x0.toNatClampNeg) 2)) (fun u t => ex_Pst dC dI A (wl ad kv cy N u) t) A) [Value.ref (ad (29 + 15 * i)), Value.int x0].toArray s 0 0 A) (F0 m 15 ls []) := by
    intro n
    induction n with
    | zero =>
      intro y2_4 y2_3 H locs ay2_4 by2_4 ay2_3 by2_3 hi2_0 hi2_1 hi2_2 hi2_3 hm_2 hP hD hS ls hl
      exact absurd hm_2 (by omega)
    | succ n ih_2 =>
      intro y2_4 y2_3 H locs ay2_4 by2_4 ay2_3 by2_3 hi2_0 hi2_1 hi2_2 hi2_3 hm_2 hP hD hS ls hl
      refine lv_iload hx hb dX0_judge_15 (lv_at hl 0 rfl) ?_
      refine lv_aload_n hx hb dX0_judge_17 rfl (lv_at hl 2 rfl) ?_
      refine va_get (D := (dC, dI)) (ci := 6) (v := .int (v (39 + 15 * i + x0.toNatClampNeg) 4)) (C := RX6) (T := TX6) (N := 5) hx hb hts iwX0_judge_X6 hown hK hP (39 + 15 * i + x0.toNatClampNeg) (wl_at (by omega) (ce_16 (kd_t _ hi _ hx5).1)) rfl 4 (by decide) (hts (.fieldLink RX0 68 "QuietStairs$Term" "last" "I") fwX0_judge_3) (fun _ h9 => h9) rfl dX0_judge_18 ?_
      refine lv_topi (fun x_3 ex_3 => ?_)
      have bzx_3 : 0 ≤ x_3.toInt ∧ x_3.toInt ≤ 23 := by rw [ex_3]; exact hv.at (K := 16) (kd_t _ hi _ hx5).1 rfl
      obtain rfl : la = x_3 := (ex_3.trans ela.symm).symm
      refine lv_icmp_gt (tgt := 75) hx hb dX0_judge_21 (by decide) (fun c_4 => ?_) (fun c_4 => ?_)
      · have tc_4 : y2_4.toInt > la.toInt := Int32.lt_iff_toInt_lt.mp c_4
        refine lv_iload_n hx hb dX0_judge_75 rfl (lv_at hl 1 rfl) ?_
        have k_0 : (0 : Int32).toInt = 0 := by decide
        refine lv_if_ne (tgt := 81) hx hb dX0_judge_76 (by decide) (fun c_5 => ?_) (fun c_5 => ?_)
        · have tc_5 : y2_3.toInt ≠ (0 : Int32).toInt := fun q => absurd (Int32.toInt_inj.mp q) c_5
          refine lv_aload_n hx hb dX0_judge_81 rfl (lv_at hl 2 rfl) ?_
          refine va_get (D := (dC, dI)) (ci := 6) (v := .int (v (39 + 15 * i + x0.toNatClampNeg) 1)) (C := RX6) (T := TX6) (N := 5) hx hb hts iwX0_judge_X6 hown hK hP (39 + 15 * i + x0.toNatClampNeg) (wl_at (by omega) (ce_16 (kd_t _ hi _ hx5).1)) rfl 1 (by decide) (hts (.fieldLink RX0 77 "QuietStairs$Term" "must" "Z") fwX0_judge_7) (fun _ h9 => h9) rfl dX0_judge_82 ?_
          refine lv_topi (fun x_6 ex_6 => ?_)
          have bzx_6 : 0 ≤ x_6.toInt ∧ x_6.toInt ≤ 1 := by rw [ex_6]; exact hv.at (K := 16) (kd_t _ hi _ hx5).1 rfl
          obtain rfl : mu = x_6 := (ex_6.trans emu.symm).symm
          refine lv_if_eq (tgt := 92) hx hb dX0_judge_85 (by decide) (fun c_7 => ?_) (fun c_7 => ?_)
          · have tc_7 : mu.toInt = (0 : Int32).toInt := by rw [c_7]
            refine lv_iconst (v := 1) hx hb dX0_judge_92 (by decide) ?_
            have k_1 : (1 : Int32).toInt = 1 := by decide
            have hE1 : ¬ jE LL fi.toInt (la.toInt + 1) ac.toInt := fun q => hi2_0 ((jE_end (by omega) (by omega)).mpr q)
            have hm1 : (1 - mu).toInt = 1 - mu.toInt := by rw [t_sub (by rw [k_1]; omega), k_1]
            exact W.iret (v := 1) hx hb hr (fun t ht hW => ⟨⟨1, v, rfl, ⟨hv, rfl, by rw [← esd, ← emu, ← eac, ← efi, ← ela, ← eLL, jF_3 hE1 (by rcases hi2_1 with ⟨q1, q2⟩ | ⟨q1, q2⟩; exact fun q => q2 ((jE_end (by omega) (by omega)).mpr q); exact absurd q1 (by omega))]; exact Int32.toInt_inj.mp (by omega)⟩, by rw [ht]; exact hP, hD⟩, hS.F ht⟩) hS.2.2 dX0_judge_93
          · have tc_7 : mu.toInt ≠ (0 : Int32).toInt := fun q => absurd (Int32.toInt_inj.mp q) c_7
            refine lv_iconst (v := 0) hx hb dX0_judge_88 (by decide) ?_
            refine lv_goto (tgt := 93) hx hb dX0_judge_89 (by decide) ?_
            have k_1 : (1 : Int32).toInt = 1 := by decide
            have hE1 : ¬ jE LL fi.toInt (la.toInt + 1) ac.toInt := fun q => hi2_0 ((jE_end (by omega) (by omega)).mpr q)
            have hm1 : (1 - mu).toInt = 1 - mu.toInt := by rw [t_sub (by rw [k_1]; omega), k_1]
            exact W.iret (v := 0) hx hb hr (fun t ht hW => ⟨⟨0, v, rfl, ⟨hv, rfl, by rw [← esd, ← emu, ← eac, ← efi, ← ela, ← eLL, jF_3 hE1 (by rcases hi2_1 with ⟨q1, q2⟩ | ⟨q1, q2⟩; exact fun q => q2 ((jE_end (by omega) (by omega)).mpr q); exact absurd q1 (by omega))]; exact Int32.toInt_inj.mp (by omega)⟩, by rw [ht]; exact hP, hD⟩, hS.F ht⟩) hS.2.2 dX0_judge_93
        · have tc_5 : y2_3.toInt = (0 : Int32).toInt := by rw [c_5]
          refine lv_iconst (v := 2) hx hb dX0_judge_79 (by decide) ?_
          have k_2 : (2 : Int32).toInt = 2 := by decide
          have k_1 : (1 : Int32).toInt = 1 := by decide
          have hE1 : ¬ jE LL fi.toInt (la.toInt + 1) ac.toInt := fun q => hi2_0 ((jE_end (by omega) (by omega)).mpr q)
          exact W.iret (v := 2) hx hb hr (fun t ht hW => ⟨⟨2, v, rfl, ⟨hv, rfl, by rw [← esd, ← emu, ← eac, ← efi, ← ela, ← eLL, jF_2 hE1 (by rcases hi2_1 with ⟨q1, q2⟩ | ⟨q1, q2⟩; exact absurd q1 (by omega); exact (jE_end (by omega) (by omega)).mp q2)]⟩, by rw [ht]; exact hP, hD⟩, hS.F ht⟩) hS.2.2 dX0_judge_80
      · have tc_4 : y2_4.toInt ≤ la.toInt := Int32.le_iff_toInt_le.mp (Int32.not_lt.mp c_4)
        refine lv_aload_n hx hb dX0_judge_24 rfl (lv_at hl 3 rfl) ?_
        refine va_get (D := (dC, dI)) (ci := 0) (v := .ref (ad (29 + 15 * i + 6))) (C := RX0) (T := TX0) (N := 11) hx hb hts iwX0_judge_X0 hown hK hP (29 + 15 * i) (wl_at (by omega) (ce_9 (kd_c _ hi).1.1)) rfl 9 (by decide) (hts (.fieldLink RX0 23 "QuietStairs$Case" "logs" "[[I") fwX0_judge_4) (fun _ h9 => h9) rfl dX0_judge_25 ?_
        refine W.eq (g2 := F0 m 28 ls [.ref (ad (35 + 15 * i))]) (by rw [show 29 + 15 * i + 6 = 35 + 15 * i from by omega]) ?_
        refine lv_aload_n hx hb dX0_judge_28 rfl (lv_at hl 2 rfl) ?_
        refine va_get (D := (dC, dI)) (ci := 6) (v := .int (v (39 + 15 * i + x0.toNatClampNeg) 0)) (C := RX6) (T := TX6) (N := 5) hx hb hts iwX0_judge_X6 hown hK hP (39 + 15 * i + x0.toNatClampNeg) (wl_at (by omega) (ce_16 (kd_t _ hi _ hx5).1)) rfl 0 (by decide) (hts (.fieldLink RX0 71 "QuietStairs$Term" "side" "I") fwX0_judge_5) (fun _ h9 => h9) rfl dX0_judge_29 ?_
        refine lv_topi (fun x_5 ex_5 => ?_)
        have bzx_5 : 0 ≤ x_5.toInt ∧ x_5.toInt ≤ 1 := by rw [ex_5]; exact hv.at (K := 16) (kd_t _ hi _ hx5).1 rfl
        obtain rfl : sd = x_5 := (ex_5.trans esd.symm).symm
        have zn_sd : (sd.toNatClampNeg : Int) = sd.toInt := t_nn (by omega)
        have hx_6 : sd.toNatClampNeg < 2 := by omega
        refine ya_ald hx hb hK hP (35 + 15 * i) (wl_at (by omega) (ce_13 (kd_c _ hi).1.2.2.2.2.1)) (vp_in_iff.mpr ⟨by omega, by omega⟩) dX0_judge_32 ?_
        refine W.eq (g2 := F0 m 33 ls [.ref (ad (36 + 15 * i + sd.toNatClampNeg))]) (by rw [if_pos hx_6, show 35 + 15 * i + 1 + sd.toNatClampNeg = 36 + 15 * i + sd.toNatClampNeg from by omega]; rfl) ?_
        refine lv_iload hx hb dX0_judge_33 (lv_at hl 0 rfl) ?_
        have zn_y2_4 : (y2_4.toNatClampNeg : Int) = y2_4.toInt := t_nn (by omega)
        have hx_7 : y2_4.toNatClampNeg < 24 := by omega
        refine va_iald hx hb hK hP (36 + 15 * i + sd.toNatClampNeg) 0 (wl_at (by omega) (ce_14 (kd_o _ hi _ hx_6).1.2)) rfl (vp_in_iff.mpr ⟨by omega, by omega⟩) dX0_judge_35 ?_
        refine lv_topi (fun x_8 ex_8 => ?_)
        have qx_8 : x_8.toInt = (v (36 + 15 * i + sd.toNatClampNeg) (y2_4.toNatClampNeg)).toInt := congrArg Int32.toInt ex_8
        have hLL : (LL y2_4.toNatClampNeg).toInt = x_8.toInt := by rw [eLL, ex_8]
        refine lv_istore (lv' := [(5, .int x_8), (4, .int y2_4), (3, .int y2_3), (2, .ref (ad (39 + 15 * i + x0.toNatClampNeg))), (0, .ref (ad (29 + 15 * i))), (1, .int x0)]) hx hb dX0_judge_36 hl (by decide) rfl (fun ls hl => ?_)
        refine lv_iload hx hb dX0_judge_38 (lv_at hl 0 rfl) ?_
        refine lv_aload_n hx hb dX0_judge_40 rfl (lv_at hl 3 rfl) ?_
        refine va_get (D := (dC, dI)) (ci := 6) (v := .int (v (39 + 15 * i + x0.toNatClampNeg) 2)) (C := RX6) (T := TX6) (N := 5) hx hb hts iwX0_judge_X6 hown hK hP (39 + 15 * i + x0.toNatClampNeg) (wl_at (by omega) (ce_16 (kd_t _ hi _ hx5).1)) rfl 2 (by decide) (hts (.fieldLink RX0 74 "QuietStairs$Term" "act" "I") fwX0_judge_6) (fun _ h9 => h9) rfl dX0_judge_41 ?_
        refine lv_topi (fun x_9 ex_9 => ?_)
        obtain rfl : ac = x_9 := (ex_9.trans eac.symm).symm
        refine lv_icmp_ne (tgt := 60) hx hb dX0_judge_44 (by decide) (fun c_10 => ?_) (fun c_10 => ?_)
        · have tc_10 : x_8.toInt ≠ ac.toInt := fun q => absurd (Int32.toInt_inj.mp q) c_10
          refine lv_iload hx hb dX0_judge_60 (lv_at hl 0 rfl) ?_
          refine lv_bipush (v := 7) hx hb dX0_judge_62 (by decide) ?_
          have k_7 : (7 : Int32).toInt = 7 := by decide
          refine lv_icmp_ne (tgt := 69) hx hb dX0_judge_64 (by decide) (fun c_11 => ?_) (fun c_11 => ?_)
          · have tc_11 : x_8.toInt ≠ (7 : Int32).toInt := fun q => absurd (Int32.toInt_inj.mp q) c_11
            obtain ⟨x_12, ex_12⟩ : ∃ y : Int32, y = y2_4 + 1 := ⟨_, rfl⟩
            refine lv_iinc (v := x_12) (lv' := [(4, .int x_12), (5, .int x_8), (3, .int y2_3), (2, .ref (ad (39 + 15 * i + x0.toNatClampNeg))), (0, .ref (ad (29 + 15 * i))), (1, .int x0)]) hx hb dX0_judge_69 hl (k := 1) rfl (by rw [ex_12]; rfl) (by decide) rfl (fun ls hl => ?_)
            have k_1 : (1 : Int32).toInt = 1 := by decide
            have tx_12 : x_12.toInt = y2_4.toInt + (1 : Int32).toInt := by rw [ex_12]; exact t_add ⟨by omega, by omega⟩
            refine lv_goto (tgt := 15) hx hb dX0_judge_72 (by decide) ?_
            exact ih_2 x_12 y2_3 _ _ (by omega) (by omega) (by omega) (by omega) (jE_no (by omega) (by omega) hi2_0 (by omega)) (by rcases hi2_1 with ⟨q1, q2⟩ | ⟨q1, q2⟩; exact Or.inl ⟨q1, jE_no (y := y2_4) (by omega) (by omega) q2 (by omega)⟩; exact Or.inr ⟨q1, jE_up q2 (by omega)⟩) (by omega) (by omega) (by omega) hP hD hS ls (lv_sub hl [0, 2, 3, 4, 5] rfl)
          · have tc_11 : x_8.toInt = (7 : Int32).toInt := by rw [c_11]
            refine lv_iconst (v := 0) hx hb dX0_judge_67 (by decide) ?_
            refine lv_istore_n (lv' := [(3, .int 0), (5, .int x_8), (4, .int y2_4), (2, .ref (ad (39 + 15 * i + x0.toNatClampNeg))), (0, .ref (ad (29 + 15 * i))), (1, .int x0)]) hx hb dX0_judge_68 rfl hl (by decide) rfl (fun ls hl => ?_)
            obtain ⟨x_12, ex_12⟩ : ∃ y : Int32, y = y2_4 + 1 := ⟨_, rfl⟩
            refine lv_iinc (v := x_12) (lv' := [(4, .int x_12), (3, .int 0), (5, .int x_8), (2, .ref (ad (39 + 15 * i + x0.toNatClampNeg))), (0, .ref (ad (29 + 15 * i))), (1, .int x0)]) hx hb dX0_judge_69 hl (k := 2) rfl (by rw [ex_12]; rfl) (by decide) rfl (fun ls hl => ?_)
            have k_1 : (1 : Int32).toInt = 1 := by decide
            have tx_12 : x_12.toInt = y2_4.toInt + (1 : Int32).toInt := by rw [ex_12]; exact t_add ⟨by omega, by omega⟩
            refine lv_goto (tgt := 15) hx hb dX0_judge_72 (by decide) ?_
            have k_0 : (0 : Int32).toInt = 0 := by decide
            exact ih_2 x_12 0 _ _ (by omega) (by omega) (by omega) (by omega) (jE_no (by omega) (by omega) hi2_0 (by omega)) (Or.inr ⟨by decide, jE_in (y := y2_4) (by omega) (by omega) (by omega) (by omega)⟩) (by omega) (by omega) (by omega) hP hD hS ls (lv_sub hl [0, 1, 3, 4, 5] rfl)
        · have tc_10 : x_8.toInt = ac.toInt := by rw [c_10]
          refine lv_aload_n hx hb dX0_judge_47 rfl (lv_at hl 3 rfl) ?_
          refine va_get (D := (dC, dI)) (ci := 6) (v := .int (v (39 + 15 * i + x0.toNatClampNeg) 1)) (C := RX6) (T := TX6) (N := 5) hx hb hts iwX0_judge_X6 hown hK hP (39 + 15 * i + x0.toNatClampNeg) (wl_at (by omega) (ce_16 (kd_t _ hi _ hx5).1)) rfl 1 (by decide) (hts (.fieldLink RX0 77 "QuietStairs$Term" "must" "Z") fwX0_judge_7) (fun _ h9 => h9) rfl dX0_judge_48 ?_
          refine lv_topi (fun x_11 ex_11 => ?_)
          have bzx_11 : 0 ≤ x_11.toInt ∧ x_11.toInt ≤ 1 := by rw [ex_11]; exact hv.at (K := 16) (kd_t _ hi _ hx5).1 rfl
          obtain rfl : mu = x_11 := (ex_11.trans emu.symm).symm
          have k_0 : (0 : Int32).toInt = 0 := by decide
          refine lv_if_eq (tgt := 58) hx hb dX0_judge_51 (by decide) (fun c_12 => ?_) (fun c_12 => ?_)
          · have tc_12 : mu.toInt = (0 : Int32).toInt := by rw [c_12]
            refine lv_iconst (v := 0) hx hb dX0_judge_58 (by decide) ?_
            have k_1 : (1 : Int32).toInt = 1 := by decide
            exact W.iret (v := 0) hx hb hr (fun t ht hW => ⟨⟨0, v, rfl, ⟨hv, rfl, by rw [← esd, ← emu, ← eac, ← efi, ← ela, ← eLL, jF_1 (jE_in (y := y2_4) (by omega) (by omega) (by omega) (by omega))]; exact Int32.toInt_inj.mp (by omega)⟩, by rw [ht]; exact hP, hD⟩, hS.F ht⟩) hS.2.2 dX0_judge_59
          · have tc_12 : mu.toInt ≠ (0 : Int32).toInt := fun q => absurd (Int32.toInt_inj.mp q) c_12
            refine lv_iconst (v := 1) hx hb dX0_judge_54 (by decide) ?_
            refine lv_goto (tgt := 59) hx hb dX0_judge_55 (by decide) ?_
            have k_1 : (1 : Int32).toInt = 1 := by decide
            exact W.iret (v := 1) hx hb hr (fun t ht hW => ⟨⟨1, v, rfl, ⟨hv, rfl, by rw [← esd, ← emu, ← eac, ← efi, ← ela, ← eLL, jF_1 (jE_in (y := y2_4) (by omega) (by omega) (by omega) (by omega))]; exact Int32.toInt_inj.mp (by omega)⟩, by rw [ht]; exact hP, hD⟩, hS.F ht⟩) hS.2.2 dX0_judge_59
  have k_1 : (1 : Int32).toInt = 1 := by decide
  exact hc_2 ((24 - fi.toInt).toNat + 1) fi 1 _ _ (by omega) (by omega) (by omega) (by omega) (jE_non (by omega)) (Or.inl ⟨by decide, jE_non (by omega)⟩) (by omega) (by omega) (by omega) hP hD hS ls (lv_sub hl [0, 1, 2, 3, 4] rfl)

theorem bS_t {c t w : Nat} (hc : c < 6) (ht : t < 5) (hw : w = 158 ∨ w = 159) : bS (w + 25 * c + 5 * t) = some 1 := by
  unfold bS
  repeat' split
  all_goals first | rfl | (exfalso; omega)
theorem bS_u {c t w : Nat} (hc : c < 6) (ht : t < 5) (hw : w = 161 ∨ w = 162) : bS (w + 25 * c + 5 * t) = some 23 := by
  unfold bS
  repeat' split
  all_goals first | rfl | (exfalso; omega)

set_option maxHeartbeats 4000000 in
set_option maxRecDepth 100000 in
theorem e_X8_judge (l : Launch) (dC : Nat → ClassId) (dI : Nat → Nat → Nat) (cy : Nat → ClassId) (sz : Nat) (ad : Nat → Nat) (v : Nat → Nat → Int32) (hv : Ir v) (x0 x1 : Int32) (hc : 0 ≤ x0.toInt ∧ x0.toInt ≤ 5) (ht : 0 ≤ x1.toInt ∧ x1.toInt ≤ 4) : Met l yX8_judge wsX8_judge ({ frames := 1, cells := 0, slots := 0, locals := 64 }) (va_Pc [.ref (ad 0), .int x0, .int x1] (ex_Pre dC dI cy sz (wm ad cy v))) (va_Qi (fun (r : Int32) (u : Nat → Nat → Int32) => Ir u ∧ u = v ∧ r = jF (v 1 (159 + 25 * x0.toNatClampNeg + 5 * x1.toNatClampNeg)) (fun h => v 1 (308 + 48 * x0.toNatClampNeg + 24 * (v 1 (158 + 25 * x0.toNatClampNeg + 5 * x1.toNatClampNeg)).toNatClampNeg + h)) (v 1 (161 + 25 * x0.toNatClampNeg + 5 * x1.toNatClampNeg)) (v 1 (162 + 25 * x0.toNatClampNeg + 5 * x1.toNatClampNeg)) (v 1 (160 + 25 * x0.toNatClampNeg + 5 * x1.toNatClampNeg))) (fun u t => ex_Pst dC dI (va_A (wm ad cy v) sz) (wm ad cy u) t) (va_A (wm ad cy v) sz)) 0 0 (va_A (wm ad cy v) sz) := by
  refine Met.ofW (cc := cX8_judge) (maxL := 8) (ret := (some .int)) (by decide) rfl ?_
  intro p e s m args below meth c s₁ B hml hv
  obtain ⟨rfl, hsz, hE, hP, hK, hD0⟩ := hv
  have hx := B.exec
  have hb := B.bytes
  have hr := B.returns
  have hts := atoms_spec (ws := wsX8_judge) B.pre
  have hown : s.vm.findClass RX8 = some m.cls := findClass_of_methodNamed B.named
  have hlocks := B.notSynchronized
  subst hsz
  have hD := hD0.self (sz := s.heap.size)
  generalize hAe : va_A (wm ad cy v) s.heap.size = A at hD ⊢
  have hA : ∀ q : Nat, s.heap.size ≤ q → A q := fun q h => by rw [← hAe]; exact Or.inr h
  have hS : va_S A s.heap s.heap [] := va_S.rf
  have hP : va_P (dC, dI) vwCl (wm ad cy v) s.heap := hP
  have hl := lv_entry ([.ref (ad 0), .int x0, .int x1]) (n := 8) (Nat.le_of_ble_eq_true rfl)
  rw [lg_entry_eq]
  generalize (lg_sl ([.ref (ad 0), .int x0, .int x1]) ++ List.replicate (8 - (lg_sl ([.ref (ad 0), .int x0, .int x1])).length) Slot.unset).toArray = ls at hl ⊢
  have hl : lv_has ls 8 [(0, .ref (ad 0)), (1, .int x0), (2, .int x1)] := hl
  have zn_x0 : (x0.toNatClampNeg : Int) = x0.toInt := t_nn (by omega)
  have zn_x1 : (x1.toNatClampNeg : Int) = x1.toInt := t_nn (by omega)
  obtain ⟨sd, esd⟩ : ∃ z : Int32, z = v 1 (158 + 25 * x0.toNatClampNeg + 5 * x1.toNatClampNeg) := ⟨_, rfl⟩
  have hbsd : 0 ≤ sd.toInt ∧ sd.toInt ≤ 1 := by rw [esd]; exact hv 1 _ 1 (bS_t (by omega) (by omega) (by omega))
  obtain ⟨mu, emu⟩ : ∃ z : Int32, z = v 1 (159 + 25 * x0.toNatClampNeg + 5 * x1.toNatClampNeg) := ⟨_, rfl⟩
  have hbmu : 0 ≤ mu.toInt ∧ mu.toInt ≤ 1 := by rw [emu]; exact hv 1 _ 1 (bS_t (by omega) (by omega) (by omega))
  obtain ⟨ac, eac⟩ : ∃ z : Int32, z = v 1 (160 + 25 * x0.toNatClampNeg + 5 * x1.toNatClampNeg) := ⟨_, rfl⟩
  obtain ⟨fi, efi⟩ : ∃ z : Int32, z = v 1 (161 + 25 * x0.toNatClampNeg + 5 * x1.toNatClampNeg) := ⟨_, rfl⟩
  have hbfi : 0 ≤ fi.toInt ∧ fi.toInt ≤ 23 := by rw [efi]; exact hv 1 _ 23 (bS_u (by omega) (by omega) (by omega))
  obtain ⟨la, ela⟩ : ∃ z : Int32, z = v 1 (162 + 25 * x0.toNatClampNeg + 5 * x1.toNatClampNeg) := ⟨_, rfl⟩
  have hbla : 0 ≤ la.toInt ∧ la.toInt ≤ 23 := by rw [ela]; exact hv 1 _ 23 (bS_u (by omega) (by omega) (by omega))
  have zn_sd : (sd.toNatClampNeg : Int) = sd.toInt := t_nn (by omega)
  obtain ⟨LL, eLL⟩ : ∃ f : Nat → Int32, f = fun h => v 1 (308 + 48 * x0.toNatClampNeg + 24 * sd.toNatClampNeg + h) := ⟨_, rfl⟩
  refine lv_iload_n hx hb dX8_judge_0 rfl (lv_at hl 1 rfl) ?_
  refine lv_iload_n hx hb dX8_judge_1 rfl (lv_at hl 2 rfl) ?_
  refine yc_p hP hS (va_runS (As := [.int x0, .int x1]) (rest := []) ⟨hx, hb, hml, hown, hts⟩ (c_X8_termAt l x0 x1) (cwS 2 hts gX8_judge_X8_termAt rfl rfl rfl hd_S_X8_termAt_2 ⟨Nat.le_of_ble_eq_true rfl, Nat.le_of_ble_eq_true rfl⟩) ex_preP rfl rfl hl.1 rfl (lv_room (Nat.le_of_ble_eq_true rfl)) dX8_judge_2 ⟨Nat.le_of_ble_eq_true rfl, Nat.le_of_ble_eq_true rfl⟩) (fun r_1 H locs hw_1 hP hS => ?_)
  have tr_1 : r_1.toInt = 158 + 25 * x0.toInt + 5 * x1.toInt := t_tm hw_1 ⟨by omega, by omega⟩ ⟨by omega, by omega⟩
  refine lv_istore_n (lv' := [(3, .int r_1), (0, .ref (ad 0)), (1, .int x0), (2, .int x1)]) hx hb dX8_judge_5 rfl hl (by decide) rfl (fun ls hl => ?_)
  refine lv_iconst (v := 0) hx hb dX8_judge_6 (by decide) ?_
  refine lv_istore (lv' := [(4, .int 0), (3, .int r_1), (0, .ref (ad 0)), (1, .int x0), (2, .int x1)]) hx hb dX8_judge_7 hl (by decide) rfl (fun ls hl => ?_)
  refine lv_iconst (v := 1) hx hb dX8_judge_9 (by decide) ?_
  refine lv_istore (lv' := [(5, .int 1), (4, .int 0), (3, .int r_1), (0, .ref (ad 0)), (1, .int x0), (2, .int x1)]) hx hb dX8_judge_10 hl (by decide) rfl (fun ls hl => ?_)
  refine lv_aload_n hx hb dX8_judge_12 rfl (lv_at hl 3 rfl) ?_
  refine va_get (D := (dC, dI)) (ci := 8) (v := .ref (ad 1)) (C := RX8) (T := TX8) (N := 11) hx hb hts iwX8_judge_X8 hown hK hP (0) (wm_at (by decide) rc_0) rfl 0 (by decide) (hts (.fieldLink RX8 7 "QuietStairsModel" "s" "[I") fwX8_judge_1) (fun _ h9 => h9) rfl dX8_judge_13 ?_
  refine lv_iload_n hx hb dX8_judge_16 rfl (lv_at hl 2 rfl) ?_
  refine lv_iconst (v := 3) hx hb dX8_judge_17 (by decide) ?_
  refine lv_iadd hx hb dX8_judge_18 ?_
  refine lv_topi (fun x_2 ex_2 => ?_)
  have k_3 : (3 : Int32).toInt = 3 := by decide
  have tx_2 : x_2.toInt = r_1.toInt + (3 : Int32).toInt := by rw [ex_2]; exact t_add ⟨by omega, by omega⟩
  have nx_2 : x_2.toNatClampNeg = 161 + 25 * x0.toNatClampNeg + 5 * x1.toNatClampNeg := by have z1 := t_nn (x := x_2) (by omega); omega
  refine va_iald hx hb hK hP (1) 0 (wm_at (by decide) rc_1) rfl (vp_in_iff.mpr ⟨by omega, by omega⟩) dX8_judge_19 ?_
  refine lv_topi (fun x_3 ex_3 => ?_)
  have bzx_3 : 0 ≤ x_3.toInt ∧ x_3.toInt ≤ 23 := by rw [ex_3]; exact hv 1 _ 23 (bx_t3 (i := 5 * x0.toInt + x1.toInt) (s := 3) (by omega) ⟨by omega, by omega⟩ (by omega))
  rw [nx_2] at ex_3
  obtain rfl : fi = x_3 := (ex_3.trans efi.symm).symm
  refine lv_istore (lv' := [(6, .int fi), (5, .int 1), (4, .int 0), (3, .int r_1), (0, .ref (ad 0)), (1, .int x0), (2, .int x1)]) hx hb dX8_judge_20 hl (by decide) rfl (fun ls hl => ?_)
  have hc_4 : ∀ (n : Nat) (y4_6 y4_4 y4_5 : Int32) (H : Heap) (locs : List Loc), 0 ≤ y4_6.toInt → y4_6.toInt ≤ 24 → 0 ≤ y4_4.toInt → y4_4.toInt ≤ 1 → 0 ≤ y4_5.toInt → y4_5.toInt ≤ 1 → ((y4_4.toInt = 1 ∧ jE LL fi.toInt y4_6.toInt ac.toInt) ∨ (y4_4.toInt = 0 ∧ ¬ jE LL fi.toInt y4_6.toInt ac.toInt)) → ((y4_5.toInt = 1 ∧ ¬ jE LL fi.toInt y4_6.toInt 7) ∨ (y4_5.toInt = 0 ∧ jE LL fi.toInt y4_6.toInt 7)) → (y4_6.toInt ≤ la.toInt + 1 ∨ y4_6.toInt ≤ fi.toInt) → (fi.toInt ≤ y4_6.toInt) → (24 - y4_6.toInt).toNat < n → va_P (dC, dI) vwCl (wm ad cy v) H → va_D A (wm ad cy v) → va_S A s.heap H locs → ∀ ls : Array Slot, lv_has ls 8 [(6, .int y4_6), (5, .int y4_5), (4, .int y4_4), (3, .int r_1), (0, .ref (ad 0)), (1, .int x0), (2, .int x1)] → W p l e (headSpec wsX8_judge ({ frames := 1, cells := 0, slots := 0, locals := 64 })).room s m [Value.ref (ad 0), Value.int x0, Value.int x1].toArray below meth c H locs 0 0 (MQ below (va_Qi (fun (r : Int32) (u : Nat → Nat → Int32) => Ir u ∧ u = v ∧ r = jF (v 1 (159 + 25 * x0.toNatClampNeg + 5 * x1.toNatClampNeg)) (fun h => v 1 (308 + 48 * x0.toNatClampNeg + 24 * (v 1 (158 + 25 * x0.toNatClampNeg + 5 * x1.toNatClampNeg)).toNatClampNeg + h)) (v 1 (161 + 25 * x0.toNatClampNeg + 5 * x1.toNatClampNeg)) (v 1 (162 + 25 * x0.toNatClampNeg + 5 * x1.toNatClampNeg)) (v 1 (160 + 25 * x0.toNatClampNeg + 5 * x1.toNatClampNeg))) (fun u t => ex_Pst dC dI A (wm ad cy u) t) A) [Value.ref (ad 0), Value.int x0, Value.int x1].toArray s 0 0 A) (F0 m 22 ls []) := by
    intro n
    induction n with
    | zero =>
      intro y4_6 y4_4 y4_5 H locs ay4_6 by4_6 ay4_4 by4_4 ay4_5 by4_5 hi4_0 hi4_1 hi4_2 hi4_3 hm_4 hP hD hS ls hl
      exact absurd hm_4 (by omega)
    | succ n ih_4 =>
      intro y4_6 y4_4 y4_5 H locs ay4_6 by4_6 ay4_4 by4_4 ay4_5 by4_5 hi4_0 hi4_1 hi4_2 hi4_3 hm_4 hP hD hS ls hl
      refine lv_iload hx hb dX8_judge_22 (lv_at hl 0 rfl) ?_
      refine lv_aload_n hx hb dX8_judge_24 rfl (lv_at hl 4 rfl) ?_
      refine va_get (D := (dC, dI)) (ci := 8) (v := .ref (ad 1)) (C := RX8) (T := TX8) (N := 11) hx hb hts iwX8_judge_X8 hown hK hP (0) (wm_at (by decide) rc_0) rfl 0 (by decide) (hts (.fieldLink RX8 7 "QuietStairsModel" "s" "[I") fwX8_judge_1) (fun _ h9 => h9) rfl dX8_judge_25 ?_
      refine lv_iload_n hx hb dX8_judge_28 rfl (lv_at hl 3 rfl) ?_
      refine lv_iconst (v := 4) hx hb dX8_judge_29 (by decide) ?_
      refine lv_iadd hx hb dX8_judge_30 ?_
      refine lv_topi (fun x_5 ex_5 => ?_)
      have k_4 : (4 : Int32).toInt = 4 := by decide
      have tx_5 : x_5.toInt = r_1.toInt + (4 : Int32).toInt := by rw [ex_5]; exact t_add ⟨by omega, by omega⟩
      have nx_5 : x_5.toNatClampNeg = 162 + 25 * x0.toNatClampNeg + 5 * x1.toNatClampNeg := by have z1 := t_nn (x := x_5) (by omega); omega
      refine va_iald hx hb hK hP (1) 0 (wm_at (by decide) rc_1) rfl (vp_in_iff.mpr ⟨by omega, by omega⟩) dX8_judge_31 ?_
      refine lv_topi (fun x_6 ex_6 => ?_)
      have bzx_6 : 0 ≤ x_6.toInt ∧ x_6.toInt ≤ 23 := by rw [ex_6]; exact hv 1 _ 23 (bx_t3 (i := 5 * x0.toInt + x1.toInt) (s := 4) (by omega) ⟨by omega, by omega⟩ (by omega))
      rw [nx_5] at ex_6
      obtain rfl : la = x_6 := (ex_6.trans ela.symm).symm
      refine lv_icmp_gt (tgt := 112) hx hb dX8_judge_32 (by decide) (fun c_7 => ?_) (fun c_7 => ?_)
      · have tc_7 : y4_6.toInt > la.toInt := Int32.lt_iff_toInt_lt.mp c_7
        refine lv_aload_n hx hb dX8_judge_112 rfl (lv_at hl 4 rfl) ?_
        refine va_get (D := (dC, dI)) (ci := 8) (v := .ref (ad 1)) (C := RX8) (T := TX8) (N := 11) hx hb hts iwX8_judge_X8 hown hK hP (0) (wm_at (by decide) rc_0) rfl 0 (by decide) (hts (.fieldLink RX8 7 "QuietStairsModel" "s" "[I") fwX8_judge_1) (fun _ h9 => h9) rfl dX8_judge_113 ?_
        refine lv_iload_n hx hb dX8_judge_116 rfl (lv_at hl 3 rfl) ?_
        refine lv_iconst (v := 1) hx hb dX8_judge_117 (by decide) ?_
        refine lv_iadd hx hb dX8_judge_118 ?_
        refine lv_topi (fun x_8 ex_8 => ?_)
        have k_1 : (1 : Int32).toInt = 1 := by decide
        have tx_8 : x_8.toInt = r_1.toInt + (1 : Int32).toInt := by rw [ex_8]; exact t_add ⟨by omega, by omega⟩
        have nx_8 : x_8.toNatClampNeg = 159 + 25 * x0.toNatClampNeg + 5 * x1.toNatClampNeg := by have z1 := t_nn (x := x_8) (by omega); omega
        refine va_iald hx hb hK hP (1) 0 (wm_at (by decide) rc_1) rfl (vp_in_iff.mpr ⟨by omega, by omega⟩) dX8_judge_119 ?_
        refine lv_topi (fun x_9 ex_9 => ?_)
        have bzx_9 : 0 ≤ x_9.toInt ∧ x_9.toInt ≤ 1 := by rw [ex_9]; exact hv 1 _ 1 (bx_t0 (i := 5 * x0.toInt + x1.toInt) (s := 1) (by omega) ⟨by omega, by omega⟩ (by omega))
        rw [nx_8] at ex_9
        obtain rfl : mu = x_9 := (ex_9.trans emu.symm).symm
        refine lv_iconst (v := 1) hx hb dX8_judge_120 (by decide) ?_
        refine lv_icmp_ne (tgt := 144) hx hb dX8_judge_121 (by decide) (fun c_10 => ?_) (fun c_10 => ?_)
        · have tc_10 : mu.toInt ≠ (1 : Int32).toInt := fun q => absurd (Int32.toInt_inj.mp q) c_10
          refine lv_iload hx hb dX8_judge_144 (lv_at hl 2 rfl) ?_
          have k_0 : (0 : Int32).toInt = 0 := by decide
          refine lv_if_eq (tgt := 153) hx hb dX8_judge_146 (by decide) (fun c_11 => ?_) (fun c_11 => ?_)
          · have tc_11 : y4_4.toInt = (0 : Int32).toInt := by rw [c_11]
            refine lv_iload hx hb dX8_judge_153 (lv_at hl 1 rfl) ?_
            refine lv_if_eq (tgt := 162) hx hb dX8_judge_155 (by decide) (fun c_12 => ?_) (fun c_12 => ?_)
            · have tc_12 : y4_5.toInt = (0 : Int32).toInt := by rw [c_12]
              refine lv_iconst (v := 2) hx hb dX8_judge_162 (by decide) ?_
              have k_2 : (2 : Int32).toInt = 2 := by decide
              have hE1 : jE LL fi.toInt y4_6.toInt ac.toInt ↔ jE LL fi.toInt (la.toInt + 1) ac.toInt := jE_end (by omega) (by omega)
              have hE7 : jE LL fi.toInt y4_6.toInt 7 ↔ jE LL fi.toInt (la.toInt + 1) 7 := jE_end (by omega) (by omega)
              have hm1 : (1 - mu).toInt = 1 - mu.toInt := by rw [t_sub (by rw [k_1]; omega), k_1]
              exact W.iret (v := 2) hx hb hr (fun t ht hW => ⟨⟨2, v, rfl, ⟨hv, rfl, by rw [← esd, ← emu, ← eac, ← efi, ← ela, ← eLL]; rcases hi4_0 with ⟨q1, q2⟩ | ⟨q1, q2⟩; (first | (exfalso; omega) | (rw [jF_1 (hE1.mp q2)]; exact Int32.toInt_inj.mp (by omega))); rcases hi4_1 with ⟨q3, q4⟩ | ⟨q3, q4⟩; (first | (exfalso; omega) | (rw [jF_3 (fun q => q2 (hE1.mpr q)) (fun q => q4 (hE7.mpr q))]; exact Int32.toInt_inj.mp (by omega))); (first | (exfalso; omega) | (rw [jF_2 (fun q => q2 (hE1.mpr q)) (hE7.mp q4)]))⟩, by rw [ht]; exact hP, hD⟩, hS.F ht⟩) hS.2.2 dX8_judge_163
            · have tc_12 : y4_5.toInt ≠ (0 : Int32).toInt := fun q => absurd (Int32.toInt_inj.mp q) c_12
              refine lv_iconst (v := 1) hx hb dX8_judge_158 (by decide) ?_
              refine lv_goto (tgt := 163) hx hb dX8_judge_159 (by decide) ?_
              have hE1 : jE LL fi.toInt y4_6.toInt ac.toInt ↔ jE LL fi.toInt (la.toInt + 1) ac.toInt := jE_end (by omega) (by omega)
              have hE7 : jE LL fi.toInt y4_6.toInt 7 ↔ jE LL fi.toInt (la.toInt + 1) 7 := jE_end (by omega) (by omega)
              have hm1 : (1 - mu).toInt = 1 - mu.toInt := by rw [t_sub (by rw [k_1]; omega), k_1]
              exact W.iret (v := 1) hx hb hr (fun t ht hW => ⟨⟨1, v, rfl, ⟨hv, rfl, by rw [← esd, ← emu, ← eac, ← efi, ← ela, ← eLL]; rcases hi4_0 with ⟨q1, q2⟩ | ⟨q1, q2⟩; (first | (exfalso; omega) | (rw [jF_1 (hE1.mp q2)]; exact Int32.toInt_inj.mp (by omega))); rcases hi4_1 with ⟨q3, q4⟩ | ⟨q3, q4⟩; (first | (exfalso; omega) | (rw [jF_3 (fun q => q2 (hE1.mpr q)) (fun q => q4 (hE7.mpr q))]; exact Int32.toInt_inj.mp (by omega))); (first | (exfalso; omega) | (rw [jF_2 (fun q => q2 (hE1.mpr q)) (hE7.mp q4)]))⟩, by rw [ht]; exact hP, hD⟩, hS.F ht⟩) hS.2.2 dX8_judge_163
          · have tc_11 : y4_4.toInt ≠ (0 : Int32).toInt := fun q => absurd (Int32.toInt_inj.mp q) c_11
            refine lv_iconst (v := 0) hx hb dX8_judge_149 (by decide) ?_
            refine lv_goto (tgt := 163) hx hb dX8_judge_150 (by decide) ?_
            have hE1 : jE LL fi.toInt y4_6.toInt ac.toInt ↔ jE LL fi.toInt (la.toInt + 1) ac.toInt := jE_end (by omega) (by omega)
            have hE7 : jE LL fi.toInt y4_6.toInt 7 ↔ jE LL fi.toInt (la.toInt + 1) 7 := jE_end (by omega) (by omega)
            have hm1 : (1 - mu).toInt = 1 - mu.toInt := by rw [t_sub (by rw [k_1]; omega), k_1]
            exact W.iret (v := 0) hx hb hr (fun t ht hW => ⟨⟨0, v, rfl, ⟨hv, rfl, by rw [← esd, ← emu, ← eac, ← efi, ← ela, ← eLL]; rcases hi4_0 with ⟨q1, q2⟩ | ⟨q1, q2⟩; (first | (exfalso; omega) | (rw [jF_1 (hE1.mp q2)]; exact Int32.toInt_inj.mp (by omega))); rcases hi4_1 with ⟨q3, q4⟩ | ⟨q3, q4⟩; (first | (exfalso; omega) | (rw [jF_3 (fun q => q2 (hE1.mpr q)) (fun q => q4 (hE7.mpr q))]; exact Int32.toInt_inj.mp (by omega))); (first | (exfalso; omega) | (rw [jF_2 (fun q => q2 (hE1.mpr q)) (hE7.mp q4)]))⟩, by rw [ht]; exact hP, hD⟩, hS.F ht⟩) hS.2.2 dX8_judge_163
        · have tc_10 : mu.toInt = (1 : Int32).toInt := by rw [c_10]
          refine lv_iload hx hb dX8_judge_124 (lv_at hl 2 rfl) ?_
          have k_0 : (0 : Int32).toInt = 0 := by decide
          refine lv_if_eq (tgt := 133) hx hb dX8_judge_126 (by decide) (fun c_11 => ?_) (fun c_11 => ?_)
          · have tc_11 : y4_4.toInt = (0 : Int32).toInt := by rw [c_11]
            refine lv_iload hx hb dX8_judge_133 (lv_at hl 1 rfl) ?_
            refine lv_if_eq (tgt := 142) hx hb dX8_judge_135 (by decide) (fun c_12 => ?_) (fun c_12 => ?_)
            · have tc_12 : y4_5.toInt = (0 : Int32).toInt := by rw [c_12]
              refine lv_iconst (v := 2) hx hb dX8_judge_142 (by decide) ?_
              have k_2 : (2 : Int32).toInt = 2 := by decide
              have hE1 : jE LL fi.toInt y4_6.toInt ac.toInt ↔ jE LL fi.toInt (la.toInt + 1) ac.toInt := jE_end (by omega) (by omega)
              have hE7 : jE LL fi.toInt y4_6.toInt 7 ↔ jE LL fi.toInt (la.toInt + 1) 7 := jE_end (by omega) (by omega)
              have hm1 : (1 - mu).toInt = 1 - mu.toInt := by rw [t_sub (by rw [k_1]; omega), k_1]
              exact W.iret (v := 2) hx hb hr (fun t ht hW => ⟨⟨2, v, rfl, ⟨hv, rfl, by rw [← esd, ← emu, ← eac, ← efi, ← ela, ← eLL]; rcases hi4_0 with ⟨q1, q2⟩ | ⟨q1, q2⟩; (first | (exfalso; omega) | (rw [jF_1 (hE1.mp q2)]; exact Int32.toInt_inj.mp (by omega))); rcases hi4_1 with ⟨q3, q4⟩ | ⟨q3, q4⟩; (first | (exfalso; omega) | (rw [jF_3 (fun q => q2 (hE1.mpr q)) (fun q => q4 (hE7.mpr q))]; exact Int32.toInt_inj.mp (by omega))); (first | (exfalso; omega) | (rw [jF_2 (fun q => q2 (hE1.mpr q)) (hE7.mp q4)]))⟩, by rw [ht]; exact hP, hD⟩, hS.F ht⟩) hS.2.2 dX8_judge_143
            · have tc_12 : y4_5.toInt ≠ (0 : Int32).toInt := fun q => absurd (Int32.toInt_inj.mp q) c_12
              refine lv_iconst (v := 0) hx hb dX8_judge_138 (by decide) ?_
              refine lv_goto (tgt := 143) hx hb dX8_judge_139 (by decide) ?_
              have hE1 : jE LL fi.toInt y4_6.toInt ac.toInt ↔ jE LL fi.toInt (la.toInt + 1) ac.toInt := jE_end (by omega) (by omega)
              have hE7 : jE LL fi.toInt y4_6.toInt 7 ↔ jE LL fi.toInt (la.toInt + 1) 7 := jE_end (by omega) (by omega)
              have hm1 : (1 - mu).toInt = 1 - mu.toInt := by rw [t_sub (by rw [k_1]; omega), k_1]
              exact W.iret (v := 0) hx hb hr (fun t ht hW => ⟨⟨0, v, rfl, ⟨hv, rfl, by rw [← esd, ← emu, ← eac, ← efi, ← ela, ← eLL]; rcases hi4_0 with ⟨q1, q2⟩ | ⟨q1, q2⟩; (first | (exfalso; omega) | (rw [jF_1 (hE1.mp q2)]; exact Int32.toInt_inj.mp (by omega))); rcases hi4_1 with ⟨q3, q4⟩ | ⟨q3, q4⟩; (first | (exfalso; omega) | (rw [jF_3 (fun q => q2 (hE1.mpr q)) (fun q => q4 (hE7.mpr q))]; exact Int32.toInt_inj.mp (by omega))); (first | (exfalso; omega) | (rw [jF_2 (fun q => q2 (hE1.mpr q)) (hE7.mp q4)]))⟩, by rw [ht]; exact hP, hD⟩, hS.F ht⟩) hS.2.2 dX8_judge_143
          · have tc_11 : y4_4.toInt ≠ (0 : Int32).toInt := fun q => absurd (Int32.toInt_inj.mp q) c_11
            refine lv_iconst (v := 1) hx hb dX8_judge_129 (by decide) ?_
            refine lv_goto (tgt := 143) hx hb dX8_judge_130 (by decide) ?_
            have hE1 : jE LL fi.toInt y4_6.toInt ac.toInt ↔ jE LL fi.toInt (la.toInt + 1) ac.toInt := jE_end (by omega) (by omega)
            have hE7 : jE LL fi.toInt y4_6.toInt 7 ↔ jE LL fi.toInt (la.toInt + 1) 7 := jE_end (by omega) (by omega)
            have hm1 : (1 - mu).toInt = 1 - mu.toInt := by rw [t_sub (by rw [k_1]; omega), k_1]
            exact W.iret (v := 1) hx hb hr (fun t ht hW => ⟨⟨1, v, rfl, ⟨hv, rfl, by rw [← esd, ← emu, ← eac, ← efi, ← ela, ← eLL]; rcases hi4_0 with ⟨q1, q2⟩ | ⟨q1, q2⟩; (first | (exfalso; omega) | (rw [jF_1 (hE1.mp q2)]; exact Int32.toInt_inj.mp (by omega))); rcases hi4_1 with ⟨q3, q4⟩ | ⟨q3, q4⟩; (first | (exfalso; omega) | (rw [jF_3 (fun q => q2 (hE1.mpr q)) (fun q => q4 (hE7.mpr q))]; exact Int32.toInt_inj.mp (by omega))); (first | (exfalso; omega) | (rw [jF_2 (fun q => q2 (hE1.mpr q)) (hE7.mp q4)]))⟩, by rw [ht]; exact hP, hD⟩, hS.F ht⟩) hS.2.2 dX8_judge_143
      · have tc_7 : y4_6.toInt ≤ la.toInt := Int32.le_iff_toInt_le.mp (Int32.not_lt.mp c_7)
        refine lv_aload_n hx hb dX8_judge_35 rfl (lv_at hl 4 rfl) ?_
        refine va_get (D := (dC, dI)) (ci := 8) (v := .ref (ad 1)) (C := RX8) (T := TX8) (N := 11) hx hb hts iwX8_judge_X8 hown hK hP (0) (wm_at (by decide) rc_0) rfl 0 (by decide) (hts (.fieldLink RX8 7 "QuietStairsModel" "s" "[I") fwX8_judge_1) (fun _ h9 => h9) rfl dX8_judge_36 ?_
        refine lv_sipush (v := 308) hx hb dX8_judge_39 (by decide) ?_
        refine lv_bipush (v := 24) hx hb dX8_judge_42 (by decide) ?_
        refine lv_iconst (v := 2) hx hb dX8_judge_44 (by decide) ?_
        refine lv_iload_n hx hb dX8_judge_45 rfl (lv_at hl 5 rfl) ?_
        refine lv_imul hx hb dX8_judge_46 ?_
        refine lv_topi (fun x_8 ex_8 => ?_)
        have k_2 : (2 : Int32).toInt = 2 := by decide
        have tx_8 : x_8.toInt = 2 * x0.toInt := by rw [ex_8, t_mul (by rw [k_2]; omega), k_2]
        refine lv_aload_n hx hb dX8_judge_47 rfl (lv_at hl 4 rfl) ?_
        refine va_get (D := (dC, dI)) (ci := 8) (v := .ref (ad 1)) (C := RX8) (T := TX8) (N := 11) hx hb hts iwX8_judge_X8 hown hK hP (0) (wm_at (by decide) rc_0) rfl 0 (by decide) (hts (.fieldLink RX8 7 "QuietStairsModel" "s" "[I") fwX8_judge_1) (fun _ h9 => h9) rfl dX8_judge_48 ?_
        refine lv_iload_n hx hb dX8_judge_51 rfl (lv_at hl 3 rfl) ?_
        have nr_1 : r_1.toNatClampNeg = 158 + 25 * x0.toNatClampNeg + 5 * x1.toNatClampNeg := by have z1 := t_nn (x := r_1) (by omega); omega
        refine va_iald hx hb hK hP (1) 0 (wm_at (by decide) rc_1) rfl (vp_in_iff.mpr ⟨by omega, by omega⟩) dX8_judge_52 ?_
        refine lv_topi (fun x_9 ex_9 => ?_)
        have bzx_9 : 0 ≤ x_9.toInt ∧ x_9.toInt ≤ 1 := by rw [ex_9]; exact hv 1 _ 1 (bx_t0 (i := 5 * x0.toInt + x1.toInt) (s := 0) (by omega) ⟨by omega, by omega⟩ (by omega))
        rw [nr_1] at ex_9
        obtain rfl : sd = x_9 := (ex_9.trans esd.symm).symm
        refine lv_iadd hx hb dX8_judge_53 ?_
        refine lv_topi (fun x_10 ex_10 => ?_)
        have tx_10 : x_10.toInt = x_8.toInt + sd.toInt := by rw [ex_10]; exact t_add ⟨by omega, by omega⟩
        refine lv_imul hx hb dX8_judge_54 ?_
        refine lv_topi (fun x_11 ex_11 => ?_)
        have k_24 : (24 : Int32).toInt = 24 := by decide
        have tx_11 : x_11.toInt = 24 * x_10.toInt := by rw [ex_11, t_mul (by rw [k_24]; omega), k_24]
        refine lv_iadd hx hb dX8_judge_55 ?_
        refine lv_topi (fun x_12 ex_12 => ?_)
        have k_308 : (308 : Int32).toInt = 308 := by decide
        have tx_12 : x_12.toInt = (308 : Int32).toInt + x_11.toInt := by rw [ex_12]; exact t_add ⟨by omega, by omega⟩
        refine lv_iload hx hb dX8_judge_56 (lv_at hl 0 rfl) ?_
        refine lv_iadd hx hb dX8_judge_58 ?_
        refine lv_topi (fun x_13 ex_13 => ?_)
        have tx_13 : x_13.toInt = x_12.toInt + y4_6.toInt := by rw [ex_13]; exact t_add ⟨by omega, by omega⟩
        have zn_y4_6 : (y4_6.toNatClampNeg : Int) = y4_6.toInt := t_nn (by omega)
        have nx_13 : x_13.toNatClampNeg = 308 + 48 * x0.toNatClampNeg + 24 * sd.toNatClampNeg + y4_6.toNatClampNeg := by have z1 := t_nn (x := x_13) (by omega); omega
        refine va_iald hx hb hK hP (1) 0 (wm_at (by decide) rc_1) rfl (vp_in_iff.mpr ⟨by omega, by omega⟩) dX8_judge_59 ?_
        refine lv_topi (fun x_14 ex_14 => ?_)
        rw [nx_13] at ex_14
        have qx_14 : x_14.toInt = (v 1 (308 + 48 * x0.toNatClampNeg + 24 * sd.toNatClampNeg + y4_6.toNatClampNeg)).toInt := congrArg Int32.toInt ex_14
        have hLL : (LL y4_6.toNatClampNeg).toInt = x_14.toInt := by rw [eLL, ex_14]
        refine lv_istore (lv' := [(7, .int x_14), (6, .int y4_6), (5, .int y4_5), (4, .int y4_4), (3, .int r_1), (0, .ref (ad 0)), (1, .int x0), (2, .int x1)]) hx hb dX8_judge_60 hl (by decide) rfl (fun ls hl => ?_)
        refine lv_iload hx hb dX8_judge_62 (lv_at hl 3 rfl) ?_
        have k_0 : (0 : Int32).toInt = 0 := by decide
        refine lv_if_ne (tgt := 80) hx hb dX8_judge_64 (by decide) (fun c_15 => ?_) (fun c_15 => ?_)
        · have tc_15 : y4_4.toInt ≠ (0 : Int32).toInt := fun q => absurd (Int32.toInt_inj.mp q) c_15
          refine lv_iconst (v := 1) hx hb dX8_judge_80 (by decide) ?_
          refine lv_goto (tgt := 85) hx hb dX8_judge_81 (by decide) ?_
          refine lv_istore (lv' := [(4, .int 1), (7, .int x_14), (6, .int y4_6), (5, .int y4_5), (3, .int r_1), (0, .ref (ad 0)), (1, .int x0), (2, .int x1)]) hx hb dX8_judge_85 hl (by decide) rfl (fun ls hl => ?_)
          refine lv_iload hx hb dX8_judge_87 (lv_at hl 3 rfl) ?_
          refine lv_if_eq (tgt := 103) hx hb dX8_judge_89 (by decide) (fun c_16 => ?_) (fun c_16 => ?_)
          · have tc_16 : y4_5.toInt = (0 : Int32).toInt := by rw [c_16]
            refine lv_iconst (v := 0) hx hb dX8_judge_103 (by decide) ?_
            refine lv_istore (lv' := [(5, .int 0), (4, .int 1), (7, .int x_14), (6, .int y4_6), (3, .int r_1), (0, .ref (ad 0)), (1, .int x0), (2, .int x1)]) hx hb dX8_judge_104 hl (by decide) rfl (fun ls hl => ?_)
            obtain ⟨x_17, ex_17⟩ : ∃ y : Int32, y = y4_6 + 1 := ⟨_, rfl⟩
            refine lv_iinc (v := x_17) (lv' := [(6, .int x_17), (5, .int 0), (4, .int 1), (7, .int x_14), (3, .int r_1), (0, .ref (ad 0)), (1, .int x0), (2, .int x1)]) hx hb dX8_judge_106 hl (k := 3) rfl (by rw [ex_17]; rfl) (by decide) rfl (fun ls hl => ?_)
            have k_1 : (1 : Int32).toInt = 1 := by decide
            have tx_17 : x_17.toInt = y4_6.toInt + (1 : Int32).toInt := by rw [ex_17]; exact t_add ⟨by omega, by omega⟩
            refine lv_goto (tgt := 22) hx hb dX8_judge_109 (by decide) ?_
            exact ih_4 x_17 1 0 _ _ (by omega) (by omega) (by omega) (by omega) (by omega) (by omega) (by rcases hi4_0 with ⟨q1, q2⟩ | ⟨q1, q2⟩; exact Or.inl ⟨by decide, jE_up q2 (by omega)⟩; exact Or.inl ⟨by decide, jE_in (y := y4_6) (by omega) (by omega) (by omega) (by omega)⟩) (by rcases hi4_1 with ⟨q1, q2⟩ | ⟨q1, q2⟩; exact Or.inr ⟨by decide, jE_in (y := y4_6) (by omega) (by omega) (by omega) (by omega)⟩; exact Or.inr ⟨by decide, jE_up q2 (by omega)⟩) (by omega) (by omega) (by omega) hP hD hS ls (lv_sub hl [0, 1, 2, 4, 5, 6, 7] rfl)
          · have tc_16 : y4_5.toInt ≠ (0 : Int32).toInt := fun q => absurd (Int32.toInt_inj.mp q) c_16
            refine lv_iload hx hb dX8_judge_92 (lv_at hl 1 rfl) ?_
            refine lv_bipush (v := 7) hx hb dX8_judge_94 (by decide) ?_
            have k_7 : (7 : Int32).toInt = 7 := by decide
            refine lv_icmp_eq (tgt := 103) hx hb dX8_judge_96 (by decide) (fun c_17 => ?_) (fun c_17 => ?_)
            · have tc_17 : x_14.toInt = (7 : Int32).toInt := by rw [c_17]
              refine lv_iconst (v := 0) hx hb dX8_judge_103 (by decide) ?_
              refine lv_istore (lv' := [(5, .int 0), (4, .int 1), (7, .int x_14), (6, .int y4_6), (3, .int r_1), (0, .ref (ad 0)), (1, .int x0), (2, .int x1)]) hx hb dX8_judge_104 hl (by decide) rfl (fun ls hl => ?_)
              obtain ⟨x_18, ex_18⟩ : ∃ y : Int32, y = y4_6 + 1 := ⟨_, rfl⟩
              refine lv_iinc (v := x_18) (lv' := [(6, .int x_18), (5, .int 0), (4, .int 1), (7, .int x_14), (3, .int r_1), (0, .ref (ad 0)), (1, .int x0), (2, .int x1)]) hx hb dX8_judge_106 hl (k := 3) rfl (by rw [ex_18]; rfl) (by decide) rfl (fun ls hl => ?_)
              have k_1 : (1 : Int32).toInt = 1 := by decide
              have tx_18 : x_18.toInt = y4_6.toInt + (1 : Int32).toInt := by rw [ex_18]; exact t_add ⟨by omega, by omega⟩
              refine lv_goto (tgt := 22) hx hb dX8_judge_109 (by decide) ?_
              exact ih_4 x_18 1 0 _ _ (by omega) (by omega) (by omega) (by omega) (by omega) (by omega) (by rcases hi4_0 with ⟨q1, q2⟩ | ⟨q1, q2⟩; exact Or.inl ⟨by decide, jE_up q2 (by omega)⟩; exact Or.inl ⟨by decide, jE_in (y := y4_6) (by omega) (by omega) (by omega) (by omega)⟩) (by rcases hi4_1 with ⟨q1, q2⟩ | ⟨q1, q2⟩; exact Or.inr ⟨by decide, jE_in (y := y4_6) (by omega) (by omega) (by omega) (by omega)⟩; exact Or.inr ⟨by decide, jE_up q2 (by omega)⟩) (by omega) (by omega) (by omega) hP hD hS ls (lv_sub hl [0, 1, 2, 4, 5, 6, 7] rfl)
            · have tc_17 : x_14.toInt ≠ (7 : Int32).toInt := fun q => absurd (Int32.toInt_inj.mp q) c_17
              refine lv_iconst (v := 1) hx hb dX8_judge_99 (by decide) ?_
              refine lv_goto (tgt := 104) hx hb dX8_judge_100 (by decide) ?_
              refine lv_istore (lv' := [(5, .int 1), (4, .int 1), (7, .int x_14), (6, .int y4_6), (3, .int r_1), (0, .ref (ad 0)), (1, .int x0), (2, .int x1)]) hx hb dX8_judge_104 hl (by decide) rfl (fun ls hl => ?_)
              obtain ⟨x_18, ex_18⟩ : ∃ y : Int32, y = y4_6 + 1 := ⟨_, rfl⟩
              refine lv_iinc (v := x_18) (lv' := [(6, .int x_18), (5, .int 1), (4, .int 1), (7, .int x_14), (3, .int r_1), (0, .ref (ad 0)), (1, .int x0), (2, .int x1)]) hx hb dX8_judge_106 hl (k := 3) rfl (by rw [ex_18]; rfl) (by decide) rfl (fun ls hl => ?_)
              have k_1 : (1 : Int32).toInt = 1 := by decide
              have tx_18 : x_18.toInt = y4_6.toInt + (1 : Int32).toInt := by rw [ex_18]; exact t_add ⟨by omega, by omega⟩
              refine lv_goto (tgt := 22) hx hb dX8_judge_109 (by decide) ?_
              exact ih_4 x_18 1 1 _ _ (by omega) (by omega) (by omega) (by omega) (by omega) (by omega) (by rcases hi4_0 with ⟨q1, q2⟩ | ⟨q1, q2⟩; exact Or.inl ⟨by decide, jE_up q2 (by omega)⟩; exact Or.inl ⟨by decide, jE_in (y := y4_6) (by omega) (by omega) (by omega) (by omega)⟩) (by rcases hi4_1 with ⟨q1, q2⟩ | ⟨q1, q2⟩; exact Or.inl ⟨by decide, jE_no (y := y4_6) (by omega) (by omega) q2 (by omega)⟩; exact absurd q1 (by omega)) (by omega) (by omega) (by omega) hP hD hS ls (lv_sub hl [0, 1, 2, 4, 5, 6, 7] rfl)
        · have tc_15 : y4_4.toInt = (0 : Int32).toInt := by rw [c_15]
          refine lv_iload hx hb dX8_judge_67 (lv_at hl 0 rfl) ?_
          refine lv_aload_n hx hb dX8_judge_69 rfl (lv_at hl 5 rfl) ?_
          refine va_get (D := (dC, dI)) (ci := 8) (v := .ref (ad 1)) (C := RX8) (T := TX8) (N := 11) hx hb hts iwX8_judge_X8 hown hK hP (0) (wm_at (by decide) rc_0) rfl 0 (by decide) (hts (.fieldLink RX8 7 "QuietStairsModel" "s" "[I") fwX8_judge_1) (fun _ h9 => h9) rfl dX8_judge_70 ?_
          refine lv_iload_n hx hb dX8_judge_73 rfl (lv_at hl 4 rfl) ?_
          refine lv_iconst (v := 2) hx hb dX8_judge_74 (by decide) ?_
          refine lv_iadd hx hb dX8_judge_75 ?_
          refine lv_topi (fun x_16 ex_16 => ?_)
          have tx_16 : x_16.toInt = r_1.toInt + (2 : Int32).toInt := by rw [ex_16]; exact t_add ⟨by omega, by omega⟩
          have nx_16 : x_16.toNatClampNeg = 160 + 25 * x0.toNatClampNeg + 5 * x1.toNatClampNeg := by have z1 := t_nn (x := x_16) (by omega); omega
          refine va_iald hx hb hK hP (1) 0 (wm_at (by decide) rc_1) rfl (vp_in_iff.mpr ⟨by omega, by omega⟩) dX8_judge_76 ?_
          refine lv_topi (fun x_17 ex_17 => ?_)
          rw [nx_16] at ex_17
          obtain rfl : ac = x_17 := (ex_17.trans eac.symm).symm
          refine lv_icmp_ne (tgt := 84) hx hb dX8_judge_77 (by decide) (fun c_18 => ?_) (fun c_18 => ?_)
          · have tc_18 : x_14.toInt ≠ ac.toInt := fun q => absurd (Int32.toInt_inj.mp q) c_18
            refine lv_iconst (v := 0) hx hb dX8_judge_84 (by decide) ?_
            refine lv_istore (lv' := [(4, .int 0), (7, .int x_14), (6, .int y4_6), (5, .int y4_5), (3, .int r_1), (0, .ref (ad 0)), (1, .int x0), (2, .int x1)]) hx hb dX8_judge_85 hl (by decide) rfl (fun ls hl => ?_)
            refine lv_iload hx hb dX8_judge_87 (lv_at hl 3 rfl) ?_
            refine lv_if_eq (tgt := 103) hx hb dX8_judge_89 (by decide) (fun c_19 => ?_) (fun c_19 => ?_)
            · have tc_19 : y4_5.toInt = (0 : Int32).toInt := by rw [c_19]
              refine lv_iconst (v := 0) hx hb dX8_judge_103 (by decide) ?_
              refine lv_istore (lv' := [(5, .int 0), (4, .int 0), (7, .int x_14), (6, .int y4_6), (3, .int r_1), (0, .ref (ad 0)), (1, .int x0), (2, .int x1)]) hx hb dX8_judge_104 hl (by decide) rfl (fun ls hl => ?_)
              obtain ⟨x_20, ex_20⟩ : ∃ y : Int32, y = y4_6 + 1 := ⟨_, rfl⟩
              refine lv_iinc (v := x_20) (lv' := [(6, .int x_20), (5, .int 0), (4, .int 0), (7, .int x_14), (3, .int r_1), (0, .ref (ad 0)), (1, .int x0), (2, .int x1)]) hx hb dX8_judge_106 hl (k := 3) rfl (by rw [ex_20]; rfl) (by decide) rfl (fun ls hl => ?_)
              have k_1 : (1 : Int32).toInt = 1 := by decide
              have tx_20 : x_20.toInt = y4_6.toInt + (1 : Int32).toInt := by rw [ex_20]; exact t_add ⟨by omega, by omega⟩
              refine lv_goto (tgt := 22) hx hb dX8_judge_109 (by decide) ?_
              exact ih_4 x_20 0 0 _ _ (by omega) (by omega) (by omega) (by omega) (by omega) (by omega) (by rcases hi4_0 with ⟨q1, q2⟩ | ⟨q1, q2⟩; exact absurd q1 (by omega); exact Or.inr ⟨by decide, jE_no (y := y4_6) (by omega) (by omega) q2 (by omega)⟩) (by rcases hi4_1 with ⟨q1, q2⟩ | ⟨q1, q2⟩; exact Or.inr ⟨by decide, jE_in (y := y4_6) (by omega) (by omega) (by omega) (by omega)⟩; exact Or.inr ⟨by decide, jE_up q2 (by omega)⟩) (by omega) (by omega) (by omega) hP hD hS ls (lv_sub hl [0, 1, 2, 4, 5, 6, 7] rfl)
            · have tc_19 : y4_5.toInt ≠ (0 : Int32).toInt := fun q => absurd (Int32.toInt_inj.mp q) c_19
              refine lv_iload hx hb dX8_judge_92 (lv_at hl 1 rfl) ?_
              refine lv_bipush (v := 7) hx hb dX8_judge_94 (by decide) ?_
              have k_7 : (7 : Int32).toInt = 7 := by decide
              refine lv_icmp_eq (tgt := 103) hx hb dX8_judge_96 (by decide) (fun c_20 => ?_) (fun c_20 => ?_)
              · have tc_20 : x_14.toInt = (7 : Int32).toInt := by rw [c_20]
                refine lv_iconst (v := 0) hx hb dX8_judge_103 (by decide) ?_
                refine lv_istore (lv' := [(5, .int 0), (4, .int 0), (7, .int x_14), (6, .int y4_6), (3, .int r_1), (0, .ref (ad 0)), (1, .int x0), (2, .int x1)]) hx hb dX8_judge_104 hl (by decide) rfl (fun ls hl => ?_)
                obtain ⟨x_21, ex_21⟩ : ∃ y : Int32, y = y4_6 + 1 := ⟨_, rfl⟩
                refine lv_iinc (v := x_21) (lv' := [(6, .int x_21), (5, .int 0), (4, .int 0), (7, .int x_14), (3, .int r_1), (0, .ref (ad 0)), (1, .int x0), (2, .int x1)]) hx hb dX8_judge_106 hl (k := 3) rfl (by rw [ex_21]; rfl) (by decide) rfl (fun ls hl => ?_)
                have k_1 : (1 : Int32).toInt = 1 := by decide
                have tx_21 : x_21.toInt = y4_6.toInt + (1 : Int32).toInt := by rw [ex_21]; exact t_add ⟨by omega, by omega⟩
                refine lv_goto (tgt := 22) hx hb dX8_judge_109 (by decide) ?_
                exact ih_4 x_21 0 0 _ _ (by omega) (by omega) (by omega) (by omega) (by omega) (by omega) (by rcases hi4_0 with ⟨q1, q2⟩ | ⟨q1, q2⟩; exact absurd q1 (by omega); exact Or.inr ⟨by decide, jE_no (y := y4_6) (by omega) (by omega) q2 (by omega)⟩) (by rcases hi4_1 with ⟨q1, q2⟩ | ⟨q1, q2⟩; exact Or.inr ⟨by decide, jE_in (y := y4_6) (by omega) (by omega) (by omega) (by omega)⟩; exact Or.inr ⟨by decide, jE_up q2 (by omega)⟩) (by omega) (by omega) (by omega) hP hD hS ls (lv_sub hl [0, 1, 2, 4, 5, 6, 7] rfl)
              · have tc_20 : x_14.toInt ≠ (7 : Int32).toInt := fun q => absurd (Int32.toInt_inj.mp q) c_20
                refine lv_iconst (v := 1) hx hb dX8_judge_99 (by decide) ?_
                refine lv_goto (tgt := 104) hx hb dX8_judge_100 (by decide) ?_
                refine lv_istore (lv' := [(5, .int 1), (4, .int 0), (7, .int x_14), (6, .int y4_6), (3, .int r_1), (0, .ref (ad 0)), (1, .int x0), (2, .int x1)]) hx hb dX8_judge_104 hl (by decide) rfl (fun ls hl => ?_)
                obtain ⟨x_21, ex_21⟩ : ∃ y : Int32, y = y4_6 + 1 := ⟨_, rfl⟩
                refine lv_iinc (v := x_21) (lv' := [(6, .int x_21), (5, .int 1), (4, .int 0), (7, .int x_14), (3, .int r_1), (0, .ref (ad 0)), (1, .int x0), (2, .int x1)]) hx hb dX8_judge_106 hl (k := 3) rfl (by rw [ex_21]; rfl) (by decide) rfl (fun ls hl => ?_)
                have k_1 : (1 : Int32).toInt = 1 := by decide
                have tx_21 : x_21.toInt = y4_6.toInt + (1 : Int32).toInt := by rw [ex_21]; exact t_add ⟨by omega, by omega⟩
                refine lv_goto (tgt := 22) hx hb dX8_judge_109 (by decide) ?_
                exact ih_4 x_21 0 1 _ _ (by omega) (by omega) (by omega) (by omega) (by omega) (by omega) (by rcases hi4_0 with ⟨q1, q2⟩ | ⟨q1, q2⟩; exact absurd q1 (by omega); exact Or.inr ⟨by decide, jE_no (y := y4_6) (by omega) (by omega) q2 (by omega)⟩) (by rcases hi4_1 with ⟨q1, q2⟩ | ⟨q1, q2⟩; exact Or.inl ⟨by decide, jE_no (y := y4_6) (by omega) (by omega) q2 (by omega)⟩; exact absurd q1 (by omega)) (by omega) (by omega) (by omega) hP hD hS ls (lv_sub hl [0, 1, 2, 4, 5, 6, 7] rfl)
          · have tc_18 : x_14.toInt = ac.toInt := by rw [c_18]
            refine lv_iconst (v := 1) hx hb dX8_judge_80 (by decide) ?_
            refine lv_goto (tgt := 85) hx hb dX8_judge_81 (by decide) ?_
            refine lv_istore (lv' := [(4, .int 1), (7, .int x_14), (6, .int y4_6), (5, .int y4_5), (3, .int r_1), (0, .ref (ad 0)), (1, .int x0), (2, .int x1)]) hx hb dX8_judge_85 hl (by decide) rfl (fun ls hl => ?_)
            refine lv_iload hx hb dX8_judge_87 (lv_at hl 3 rfl) ?_
            refine lv_if_eq (tgt := 103) hx hb dX8_judge_89 (by decide) (fun c_19 => ?_) (fun c_19 => ?_)
            · have tc_19 : y4_5.toInt = (0 : Int32).toInt := by rw [c_19]
              refine lv_iconst (v := 0) hx hb dX8_judge_103 (by decide) ?_
              refine lv_istore (lv' := [(5, .int 0), (4, .int 1), (7, .int x_14), (6, .int y4_6), (3, .int r_1), (0, .ref (ad 0)), (1, .int x0), (2, .int x1)]) hx hb dX8_judge_104 hl (by decide) rfl (fun ls hl => ?_)
              obtain ⟨x_20, ex_20⟩ : ∃ y : Int32, y = y4_6 + 1 := ⟨_, rfl⟩
              refine lv_iinc (v := x_20) (lv' := [(6, .int x_20), (5, .int 0), (4, .int 1), (7, .int x_14), (3, .int r_1), (0, .ref (ad 0)), (1, .int x0), (2, .int x1)]) hx hb dX8_judge_106 hl (k := 3) rfl (by rw [ex_20]; rfl) (by decide) rfl (fun ls hl => ?_)
              have k_1 : (1 : Int32).toInt = 1 := by decide
              have tx_20 : x_20.toInt = y4_6.toInt + (1 : Int32).toInt := by rw [ex_20]; exact t_add ⟨by omega, by omega⟩
              refine lv_goto (tgt := 22) hx hb dX8_judge_109 (by decide) ?_
              exact ih_4 x_20 1 0 _ _ (by omega) (by omega) (by omega) (by omega) (by omega) (by omega) (by rcases hi4_0 with ⟨q1, q2⟩ | ⟨q1, q2⟩; exact Or.inl ⟨by decide, jE_up q2 (by omega)⟩; exact Or.inl ⟨by decide, jE_in (y := y4_6) (by omega) (by omega) (by omega) (by omega)⟩) (by rcases hi4_1 with ⟨q1, q2⟩ | ⟨q1, q2⟩; exact Or.inr ⟨by decide, jE_in (y := y4_6) (by omega) (by omega) (by omega) (by omega)⟩; exact Or.inr ⟨by decide, jE_up q2 (by omega)⟩) (by omega) (by omega) (by omega) hP hD hS ls (lv_sub hl [0, 1, 2, 4, 5, 6, 7] rfl)
            · have tc_19 : y4_5.toInt ≠ (0 : Int32).toInt := fun q => absurd (Int32.toInt_inj.mp q) c_19
              refine lv_iload hx hb dX8_judge_92 (lv_at hl 1 rfl) ?_
              refine lv_bipush (v := 7) hx hb dX8_judge_94 (by decide) ?_
              have k_7 : (7 : Int32).toInt = 7 := by decide
              refine lv_icmp_eq (tgt := 103) hx hb dX8_judge_96 (by decide) (fun c_20 => ?_) (fun c_20 => ?_)
              · have tc_20 : x_14.toInt = (7 : Int32).toInt := by rw [c_20]
                refine lv_iconst (v := 0) hx hb dX8_judge_103 (by decide) ?_
                refine lv_istore (lv' := [(5, .int 0), (4, .int 1), (7, .int x_14), (6, .int y4_6), (3, .int r_1), (0, .ref (ad 0)), (1, .int x0), (2, .int x1)]) hx hb dX8_judge_104 hl (by decide) rfl (fun ls hl => ?_)
                obtain ⟨x_21, ex_21⟩ : ∃ y : Int32, y = y4_6 + 1 := ⟨_, rfl⟩
                refine lv_iinc (v := x_21) (lv' := [(6, .int x_21), (5, .int 0), (4, .int 1), (7, .int x_14), (3, .int r_1), (0, .ref (ad 0)), (1, .int x0), (2, .int x1)]) hx hb dX8_judge_106 hl (k := 3) rfl (by rw [ex_21]; rfl) (by decide) rfl (fun ls hl => ?_)
                have k_1 : (1 : Int32).toInt = 1 := by decide
                have tx_21 : x_21.toInt = y4_6.toInt + (1 : Int32).toInt := by rw [ex_21]; exact t_add ⟨by omega, by omega⟩
                refine lv_goto (tgt := 22) hx hb dX8_judge_109 (by decide) ?_
                exact ih_4 x_21 1 0 _ _ (by omega) (by omega) (by omega) (by omega) (by omega) (by omega) (by rcases hi4_0 with ⟨q1, q2⟩ | ⟨q1, q2⟩; exact Or.inl ⟨by decide, jE_up q2 (by omega)⟩; exact Or.inl ⟨by decide, jE_in (y := y4_6) (by omega) (by omega) (by omega) (by omega)⟩) (by rcases hi4_1 with ⟨q1, q2⟩ | ⟨q1, q2⟩; exact Or.inr ⟨by decide, jE_in (y := y4_6) (by omega) (by omega) (by omega) (by omega)⟩; exact Or.inr ⟨by decide, jE_up q2 (by omega)⟩) (by omega) (by omega) (by omega) hP hD hS ls (lv_sub hl [0, 1, 2, 4, 5, 6, 7] rfl)
              · have tc_20 : x_14.toInt ≠ (7 : Int32).toInt := fun q => absurd (Int32.toInt_inj.mp q) c_20
                refine lv_iconst (v := 1) hx hb dX8_judge_99 (by decide) ?_
                refine lv_goto (tgt := 104) hx hb dX8_judge_100 (by decide) ?_
                refine lv_istore (lv' := [(5, .int 1), (4, .int 1), (7, .int x_14), (6, .int y4_6), (3, .int r_1), (0, .ref (ad 0)), (1, .int x0), (2, .int x1)]) hx hb dX8_judge_104 hl (by decide) rfl (fun ls hl => ?_)
                obtain ⟨x_21, ex_21⟩ : ∃ y : Int32, y = y4_6 + 1 := ⟨_, rfl⟩
                refine lv_iinc (v := x_21) (lv' := [(6, .int x_21), (5, .int 1), (4, .int 1), (7, .int x_14), (3, .int r_1), (0, .ref (ad 0)), (1, .int x0), (2, .int x1)]) hx hb dX8_judge_106 hl (k := 3) rfl (by rw [ex_21]; rfl) (by decide) rfl (fun ls hl => ?_)
                have k_1 : (1 : Int32).toInt = 1 := by decide
                have tx_21 : x_21.toInt = y4_6.toInt + (1 : Int32).toInt := by rw [ex_21]; exact t_add ⟨by omega, by omega⟩
                refine lv_goto (tgt := 22) hx hb dX8_judge_109 (by decide) ?_
                exact ih_4 x_21 1 1 _ _ (by omega) (by omega) (by omega) (by omega) (by omega) (by omega) (by rcases hi4_0 with ⟨q1, q2⟩ | ⟨q1, q2⟩; exact Or.inl ⟨by decide, jE_up q2 (by omega)⟩; exact Or.inl ⟨by decide, jE_in (y := y4_6) (by omega) (by omega) (by omega) (by omega)⟩) (by rcases hi4_1 with ⟨q1, q2⟩ | ⟨q1, q2⟩; exact Or.inl ⟨by decide, jE_no (y := y4_6) (by omega) (by omega) q2 (by omega)⟩; exact absurd q1 (by omega)) (by omega) (by omega) (by omega) hP hD hS ls (lv_sub hl [0, 1, 2, 4, 5, 6, 7] rfl)
  have k_0 : (0 : Int32).toInt = 0 := by decide
  have k_1 : (1 : Int32).toInt = 1 := by decide
  exact hc_4 ((24 - fi.toInt).toNat + 1) fi 0 1 _ _ (by omega) (by omega) (by omega) (by omega) (by omega) (by omega) (Or.inr ⟨by decide, jE_non (by omega)⟩) (Or.inl ⟨by decide, jE_non (by omega)⟩) (by omega) (by omega) (by omega) hP hD hS ls (lv_sub hl [0, 1, 2, 3, 4, 5, 6] rfl)

set_option maxHeartbeats 4000000 in
set_option maxRecDepth 100000 in
theorem e_X7_judged (l : Launch) (dC : Nat → ClassId) (dI : Nat → Nat → Nat) (cy : Nat → ClassId) (sz : Nat) (ad : Nat → Nat) (kv : Value) (N : Nat) (hN : 119 ≤ N) (v : Nat → Nat → Int32) (hv : Iv v) (x0 x1 : Int32) : Met l yX7_judged wsX7_judged ({ frames := 3, cells := 0, slots := 0, locals := 192 }) (va_Pc [.ref (ad 0), .int x0, .int x1] (ex_Pre dC dI cy sz (wl ad kv cy N v))) (va_Qi (fun (r : Int32) (u : Nat → Nat → Int32) => Iv u ∧ (¬ ((0 ≤ x0.toInt ∧ x0.toInt < (v 13 2).toInt) ∧ 0 ≤ x1.toInt ∧ x1.toInt < (v (29 + 15 * x0.toNatClampNeg) 5).toInt) → r = -1 ∧ u = v) ∧ ((0 ≤ x0.toInt ∧ x0.toInt < (v 13 2).toInt) ∧ 0 ≤ x1.toInt ∧ x1.toInt < (v (29 + 15 * x0.toNatClampNeg) 5).toInt → r = jF (v (39 + 15 * x0.toNatClampNeg + x1.toNatClampNeg) 1) (v (36 + 15 * x0.toNatClampNeg + (v (39 + 15 * x0.toNatClampNeg + x1.toNatClampNeg) 0).toNatClampNeg)) (v (39 + 15 * x0.toNatClampNeg + x1.toNatClampNeg) 3) (v (39 + 15 * x0.toNatClampNeg + x1.toNatClampNeg) 4) (v (39 + 15 * x0.toNatClampNeg + x1.toNatClampNeg) 2) ∧ u = v)) (fun u t => ex_Pst dC dI (va_A (wl ad kv cy N v) sz) (wl ad kv cy N u) t) (va_A (wl ad kv cy N v) sz)) 0 0 (va_A (wl ad kv cy N v) sz) := by
  refine Met.ofW (cc := cX7_judged) (maxL := 3) (ret := (some .int)) (by decide) rfl ?_
  intro p e s m args below meth c s₁ B hml hv
  obtain ⟨rfl, hsz, hE, hP, hK, hD0⟩ := hv
  have hx := B.exec
  have hb := B.bytes
  have hr := B.returns
  have hts := atoms_spec (ws := wsX7_judged) B.pre
  have hown : s.vm.findClass RX7 = some m.cls := findClass_of_methodNamed B.named
  have hlocks := B.notSynchronized
  subst hsz
  have hD := hD0.self (sz := s.heap.size)
  generalize hAe : va_A (wl ad kv cy N v) s.heap.size = A at hD ⊢
  have hA : ∀ q : Nat, s.heap.size ≤ q → A q := fun q h => by rw [← hAe]; exact Or.inr h
  have hS : va_S A s.heap s.heap [] := va_S.rf
  have hP : va_P (dC, dI) vwCl (wl ad kv cy N v) s.heap := hP
  have hl := lv_entry ([.ref (ad 0), .int x0, .int x1]) (n := 3) (Nat.le_of_ble_eq_true rfl)
  rw [lg_entry_eq]
  generalize (lg_sl ([.ref (ad 0), .int x0, .int x1]) ++ List.replicate (3 - (lg_sl ([.ref (ad 0), .int x0, .int x1])).length) Slot.unset).toArray = ls at hl ⊢
  have hl : lv_has ls 3 [(0, .ref (ad 0)), (1, .int x0), (2, .int x1)] := hl
  refine lv_aload_n hx hb dX7_judged_0 rfl (lv_at hl 0 rfl) ?_
  refine lv_iload_n hx hb dX7_judged_1 rfl (lv_at hl 1 rfl) ?_
  refine lv_iload_n hx hb dX7_judged_2 rfl (lv_at hl 2 rfl) ?_
  refine yw_i (w1 := fun (u : Nat → Nat → Int32) => wl ad kv cy N u) hD hS hA (va_runV (As := [.int x0, .int x1]) (rest := []) ⟨hx, hb, hml, hown, hts⟩ (e_X7_isTerm l dC dI cy _ ad kv N hN v hv x0 x1) (cwV 2 hts gX7_judged_X7_isTerm rfl rfl rfl hd_V_X7_isTerm_2 ⟨Nat.le_of_ble_eq_true rfl, Nat.le_of_ble_eq_true rfl⟩) (yw_preV hE hK hP hD (ci := 7) (q := (RX7, TX7, 5)) (q0 := 0) rfl (wl_at (by omega) (ce_0 (by decide)))) rfl rfl hl.1 rfl (lv_room (Nat.le_of_ble_eq_true rfl)) dX7_judged_3 ⟨Nat.le_of_ble_eq_true rfl, Nat.le_of_ble_eq_true rfl⟩) (fun r_1 v_1 H locs hw_1 hP hD hS => ?_)
  obtain ⟨-, hu_1, hw_1⟩ := hw_1
  replace hu_1 := hu_1.symm
  subst hu_1
  rcases hw_1 with ⟨rfl, ha_2⟩ | ⟨rfl, ha_2⟩
  · have hb_2 := hv.at (k := 13) (j := 2) (K := 3) (by decide) rfl
    have hj_2 : 0 ≤ x0.toInt ∧ x0.toInt ≤ 5 := ⟨by omega, by omega⟩
    have zn_x0 : (x0.toNatClampNeg : Int) = x0.toInt := t_nn (by omega)
    have hx_3 : x0.toNatClampNeg < 6 := by omega
    have hg_2 := hv.at (k := 29 + 15 * x0.toNatClampNeg) (j := 5) (K := 9) (kd_c _ hx_3).1.1 rfl
    have hl_2 : 0 ≤ x1.toInt ∧ x1.toInt ≤ 4 := ⟨by omega, by omega⟩
    refine lv_if_ne (tgt := 11) hx hb dX7_judged_6 (by decide) (fun _ => ?_) (fun c9 => absurd c9 (by decide))
    refine lv_aload_n hx hb dX7_judged_11 rfl (lv_at hl 0 rfl) ?_
    refine va_get (D := (dC, dI)) (ci := 7) (v := .ref (ad 13)) (C := RX7) (T := TX7) (N := 5) hx hb hts iwX7_judged_X7 hown hK hP (0) (wl_at (by omega) (ce_0 (by decide))) rfl 0 (by decide) (hts (.fieldLink RX7 12 "QuietStairs" "now" "LQuietStairs$House;") fwX7_judged_1) (fun _ h9 => h9) rfl dX7_judged_12 ?_
    refine va_get (D := (dC, dI)) (ci := 1) (v := .ref (ad 16)) (C := RX1) (T := TX1) (N := 7) hx hb hts iwX7_judged_X1 hown hK hP (13) (wl_at (by omega) (ce_3 (by decide))) rfl 6 (by decide) (hts (.fieldLink RX7 86 "QuietStairs$House" "cases" "[LQuietStairs$Case;") fwX7_judged_2) (fun _ h9 => h9) rfl dX7_judged_15 ?_
    refine lv_iload_n hx hb dX7_judged_18 rfl (lv_at hl 1 rfl) ?_
    refine va_aldq hx hb hK hP (16) 3 (wl_at (by omega) (ce_6 (by decide))) rfl (vp_in_iff.mpr ⟨by omega, by omega⟩) dX7_judged_19 ?_
    refine W.eq (g2 := F0 m 20 ls [.ref (ad (29 + 15 * x0.toNatClampNeg))]) (by rw [if_pos hx_3, show 16 + 13 + 15 * x0.toNatClampNeg = 29 + 15 * x0.toNatClampNeg from by omega]; rfl) ?_
    refine lv_iload_n hx hb dX7_judged_20 rfl (lv_at hl 2 rfl) ?_
    refine yw_i (w1 := fun (u : Nat → Nat → Int32) => wl ad kv cy N u) hD hS hA (va_runV (As := [.int x1]) (rest := []) ⟨hx, hb, hml, hown, hts⟩ (e_X0_judge l dC dI cy _ ad kv N hN v hv x0.toNatClampNeg hx_3 x1 ⟨by omega, by omega⟩) (cwV 1 hts gX7_judged_X0_judge rfl rfl rfl hd_V_X0_judge_1 ⟨Nat.le_of_ble_eq_true rfl, Nat.le_of_ble_eq_true rfl⟩) (yw_preV hE hK hP hD (ci := 0) (q := (RX0, TX0, 11)) (q0 := (29 + 15 * x0.toNatClampNeg)) rfl (wl_at (by omega) (ce_9 (kd_c _ hx_3).1.1))) rfl rfl hl.1 rfl (lv_room (Nat.le_of_ble_eq_true rfl)) dX7_judged_21 ⟨Nat.le_of_ble_eq_true rfl, Nat.le_of_ble_eq_true rfl⟩) (fun r_4 v_4 H locs hw_4 hP hD hS => ?_)
    obtain ⟨-, hu_4, hw_4⟩ := hw_4
    replace hu_4 := hu_4.symm
    subst hu_4
    have hpost : (¬ ((0 ≤ x0.toInt ∧ x0.toInt < (v 13 2).toInt) ∧ 0 ≤ x1.toInt ∧ x1.toInt < (v (29 + 15 * x0.toNatClampNeg) 5).toInt) → r_4 = -1 ∧ v = v) ∧ ((0 ≤ x0.toInt ∧ x0.toInt < (v 13 2).toInt) ∧ 0 ≤ x1.toInt ∧ x1.toInt < (v (29 + 15 * x0.toNatClampNeg) 5).toInt → r_4 = jF (v (39 + 15 * x0.toNatClampNeg + x1.toNatClampNeg) 1) (v (36 + 15 * x0.toNatClampNeg + (v (39 + 15 * x0.toNatClampNeg + x1.toNatClampNeg) 0).toNatClampNeg)) (v (39 + 15 * x0.toNatClampNeg + x1.toNatClampNeg) 3) (v (39 + 15 * x0.toNatClampNeg + x1.toNatClampNeg) 4) (v (39 + 15 * x0.toNatClampNeg + x1.toNatClampNeg) 2) ∧ v = v) := by
      refine ⟨fun hq => ?_, fun hq => ?_⟩
      · exfalso; omega
      · exact ⟨hw_4, rfl⟩
    exact W.iret (v := r_4) hx hb hr (fun t ht hW => ⟨⟨r_4, v, rfl, ⟨hv, hpost⟩, by rw [ht]; exact hP, hD⟩, hS.F ht⟩) hS.2.2 dX7_judged_24
  · refine lv_if_ne (tgt := 11) hx hb dX7_judged_6 (by decide) (fun c9 => absurd c9 (by decide)) (fun _ => ?_)
    refine lv_iconst (v := (-1)) hx hb dX7_judged_9 (by decide) ?_
    have hpost : (¬ ((0 ≤ x0.toInt ∧ x0.toInt < (v 13 2).toInt) ∧ 0 ≤ x1.toInt ∧ x1.toInt < (v (29 + 15 * x0.toNatClampNeg) 5).toInt) → ((-1) : Int32) = -1 ∧ v = v) ∧ ((0 ≤ x0.toInt ∧ x0.toInt < (v 13 2).toInt) ∧ 0 ≤ x1.toInt ∧ x1.toInt < (v (29 + 15 * x0.toNatClampNeg) 5).toInt → ((-1) : Int32) = jF (v (39 + 15 * x0.toNatClampNeg + x1.toNatClampNeg) 1) (v (36 + 15 * x0.toNatClampNeg + (v (39 + 15 * x0.toNatClampNeg + x1.toNatClampNeg) 0).toNatClampNeg)) (v (39 + 15 * x0.toNatClampNeg + x1.toNatClampNeg) 3) (v (39 + 15 * x0.toNatClampNeg + x1.toNatClampNeg) 4) (v (39 + 15 * x0.toNatClampNeg + x1.toNatClampNeg) 2) ∧ v = v) := by
      refine ⟨fun hq => ?_, fun hq => ?_⟩
      · exact ⟨rfl, rfl⟩
      · exfalso; omega
    exact W.iret (v := (-1)) hx hb hr (fun t ht hW => ⟨⟨(-1), v, rfl, ⟨hv, hpost⟩, by rw [ht]; exact hP, hD⟩, hS.F ht⟩) hS.2.2 dX7_judged_10

set_option maxHeartbeats 4000000 in
set_option maxRecDepth 100000 in
theorem e_X8_judged (l : Launch) (dC : Nat → ClassId) (dI : Nat → Nat → Nat) (cy : Nat → ClassId) (sz : Nat) (ad : Nat → Nat) (v : Nat → Nat → Int32) (hv : Ir v) (x0 x1 : Int32) : Met l yX8_judged wsX8_judged ({ frames := 3, cells := 0, slots := 0, locals := 192 }) (va_Pc [.ref (ad 0), .int x0, .int x1] (ex_Pre dC dI cy sz (wm ad cy v))) (va_Qi (fun (r : Int32) (u : Nat → Nat → Int32) => Ir u ∧ (¬ ((0 ≤ x0.toInt ∧ x0.toInt < (v 1 2).toInt) ∧ 0 ≤ x1.toInt ∧ x1.toInt < (v 1 (38 + 7 * x0.toNatClampNeg)).toInt) → r = -1 ∧ u = v) ∧ ((0 ≤ x0.toInt ∧ x0.toInt < (v 1 2).toInt) ∧ 0 ≤ x1.toInt ∧ x1.toInt < (v 1 (38 + 7 * x0.toNatClampNeg)).toInt → r = jF (v 1 (159 + 25 * x0.toNatClampNeg + 5 * x1.toNatClampNeg)) (fun h => v 1 (308 + 48 * x0.toNatClampNeg + 24 * (v 1 (158 + 25 * x0.toNatClampNeg + 5 * x1.toNatClampNeg)).toNatClampNeg + h)) (v 1 (161 + 25 * x0.toNatClampNeg + 5 * x1.toNatClampNeg)) (v 1 (162 + 25 * x0.toNatClampNeg + 5 * x1.toNatClampNeg)) (v 1 (160 + 25 * x0.toNatClampNeg + 5 * x1.toNatClampNeg)) ∧ u = v)) (fun u t => ex_Pst dC dI (va_A (wm ad cy v) sz) (wm ad cy u) t) (va_A (wm ad cy v) sz)) 0 0 (va_A (wm ad cy v) sz) := by
  refine Met.ofW (cc := cX8_judged) (maxL := 3) (ret := (some .int)) (by decide) rfl ?_
  intro p e s m args below meth c s₁ B hml hv
  obtain ⟨rfl, hsz, hE, hP, hK, hD0⟩ := hv
  have hx := B.exec
  have hb := B.bytes
  have hr := B.returns
  have hts := atoms_spec (ws := wsX8_judged) B.pre
  have hown : s.vm.findClass RX8 = some m.cls := findClass_of_methodNamed B.named
  have hlocks := B.notSynchronized
  subst hsz
  have hD := hD0.self (sz := s.heap.size)
  generalize hAe : va_A (wm ad cy v) s.heap.size = A at hD ⊢
  have hA : ∀ q : Nat, s.heap.size ≤ q → A q := fun q h => by rw [← hAe]; exact Or.inr h
  have hS : va_S A s.heap s.heap [] := va_S.rf
  have hP : va_P (dC, dI) vwCl (wm ad cy v) s.heap := hP
  have hl := lv_entry ([.ref (ad 0), .int x0, .int x1]) (n := 3) (Nat.le_of_ble_eq_true rfl)
  rw [lg_entry_eq]
  generalize (lg_sl ([.ref (ad 0), .int x0, .int x1]) ++ List.replicate (3 - (lg_sl ([.ref (ad 0), .int x0, .int x1])).length) Slot.unset).toArray = ls at hl ⊢
  have hl : lv_has ls 3 [(0, .ref (ad 0)), (1, .int x0), (2, .int x1)] := hl
  refine lv_aload_n hx hb dX8_judged_0 rfl (lv_at hl 0 rfl) ?_
  refine lv_iload_n hx hb dX8_judged_1 rfl (lv_at hl 1 rfl) ?_
  refine lv_iload_n hx hb dX8_judged_2 rfl (lv_at hl 2 rfl) ?_
  refine yw_i (w1 := fun (u : Nat → Nat → Int32) => wm ad cy u) hD hS hA (va_runV (As := [.int x0, .int x1]) (rest := []) ⟨hx, hb, hml, hown, hts⟩ (e_X8_isTerm l dC dI cy _ ad v hv x0 x1) (cwV 2 hts gX8_judged_X8_isTerm rfl rfl rfl hd_V_X8_isTerm_2 ⟨Nat.le_of_ble_eq_true rfl, Nat.le_of_ble_eq_true rfl⟩) (yw_preV hE hK hP hD (ci := 8) (q := (RX8, TX8, 11)) (q0 := 0) rfl (wm_at (by decide) rc_0)) rfl rfl hl.1 rfl (lv_room (Nat.le_of_ble_eq_true rfl)) dX8_judged_3 ⟨Nat.le_of_ble_eq_true rfl, Nat.le_of_ble_eq_true rfl⟩) (fun r_1 v_1 H locs hw_1 hP hD hS => ?_)
  obtain ⟨-, hu_1, hw_1⟩ := hw_1
  replace hu_1 := hu_1.symm
  subst hu_1
  rcases hw_1 with ⟨rfl, ha_2⟩ | ⟨rfl, ha_2⟩
  · have hb_2 := hv 1 2 6 (by decide)
    have hj_2 : 0 ≤ x0.toInt ∧ x0.toInt ≤ 5 := ⟨by omega, by omega⟩
    have zn_x0 : (x0.toNatClampNeg : Int) = x0.toInt := t_nn (by omega)
    have hg_2 := hv 1 (38 + 7 * x0.toNatClampNeg) 5 (bS_c (by omega) (by omega))
    have hl_2 : 0 ≤ x1.toInt ∧ x1.toInt ≤ 4 := ⟨by omega, by omega⟩
    refine lv_if_eq (tgt := 18) hx hb dX8_judged_6 (by decide) (fun c9 => absurd c9 (by decide)) (fun _ => ?_)
    refine lv_aload_n hx hb dX8_judged_9 rfl (lv_at hl 0 rfl) ?_
    refine lv_iload_n hx hb dX8_judged_10 rfl (lv_at hl 1 rfl) ?_
    refine lv_iload_n hx hb dX8_judged_11 rfl (lv_at hl 2 rfl) ?_
    refine yw_i (w1 := fun (u : Nat → Nat → Int32) => wm ad cy u) hD hS hA (va_runV (As := [.int x0, .int x1]) (rest := []) ⟨hx, hb, hml, hown, hts⟩ (e_X8_judge l dC dI cy _ ad v hv x0 x1 ⟨by omega, by omega⟩ ⟨by omega, by omega⟩) (cwV 2 hts gX8_judged_X8_judge rfl rfl rfl hd_V_X8_judge_2 ⟨Nat.le_of_ble_eq_true rfl, Nat.le_of_ble_eq_true rfl⟩) (yw_preV hE hK hP hD (ci := 8) (q := (RX8, TX8, 11)) (q0 := 0) rfl (wm_at (by decide) rc_0)) rfl rfl hl.1 rfl (lv_room (Nat.le_of_ble_eq_true rfl)) dX8_judged_12 ⟨Nat.le_of_ble_eq_true rfl, Nat.le_of_ble_eq_true rfl⟩) (fun r_3 v_3 H locs hw_3 hP hD hS => ?_)
    obtain ⟨-, hu_3, hw_3⟩ := hw_3
    replace hu_3 := hu_3.symm
    subst hu_3
    refine lv_goto (tgt := 19) hx hb dX8_judged_15 (by decide) ?_
    have hpost : (¬ ((0 ≤ x0.toInt ∧ x0.toInt < (v 1 2).toInt) ∧ 0 ≤ x1.toInt ∧ x1.toInt < (v 1 (38 + 7 * x0.toNatClampNeg)).toInt) → r_3 = -1 ∧ v = v) ∧ ((0 ≤ x0.toInt ∧ x0.toInt < (v 1 2).toInt) ∧ 0 ≤ x1.toInt ∧ x1.toInt < (v 1 (38 + 7 * x0.toNatClampNeg)).toInt → r_3 = jF (v 1 (159 + 25 * x0.toNatClampNeg + 5 * x1.toNatClampNeg)) (fun h => v 1 (308 + 48 * x0.toNatClampNeg + 24 * (v 1 (158 + 25 * x0.toNatClampNeg + 5 * x1.toNatClampNeg)).toNatClampNeg + h)) (v 1 (161 + 25 * x0.toNatClampNeg + 5 * x1.toNatClampNeg)) (v 1 (162 + 25 * x0.toNatClampNeg + 5 * x1.toNatClampNeg)) (v 1 (160 + 25 * x0.toNatClampNeg + 5 * x1.toNatClampNeg)) ∧ v = v) := by
      refine ⟨fun hq => ?_, fun hq => ?_⟩
      · exfalso; omega
      · exact ⟨hw_3, rfl⟩
    exact W.iret (v := r_3) hx hb hr (fun t ht hW => ⟨⟨r_3, v, rfl, ⟨hv, hpost⟩, by rw [ht]; exact hP, hD⟩, hS.F ht⟩) hS.2.2 dX8_judged_19
  · refine lv_if_eq (tgt := 18) hx hb dX8_judged_6 (by decide) (fun _ => ?_) (fun c9 => absurd c9 (by decide))
    refine lv_iconst (v := (-1)) hx hb dX8_judged_18 (by decide) ?_
    have hpost : (¬ ((0 ≤ x0.toInt ∧ x0.toInt < (v 1 2).toInt) ∧ 0 ≤ x1.toInt ∧ x1.toInt < (v 1 (38 + 7 * x0.toNatClampNeg)).toInt) → ((-1) : Int32) = -1 ∧ v = v) ∧ ((0 ≤ x0.toInt ∧ x0.toInt < (v 1 2).toInt) ∧ 0 ≤ x1.toInt ∧ x1.toInt < (v 1 (38 + 7 * x0.toNatClampNeg)).toInt → ((-1) : Int32) = jF (v 1 (159 + 25 * x0.toNatClampNeg + 5 * x1.toNatClampNeg)) (fun h => v 1 (308 + 48 * x0.toNatClampNeg + 24 * (v 1 (158 + 25 * x0.toNatClampNeg + 5 * x1.toNatClampNeg)).toNatClampNeg + h)) (v 1 (161 + 25 * x0.toNatClampNeg + 5 * x1.toNatClampNeg)) (v 1 (162 + 25 * x0.toNatClampNeg + 5 * x1.toNatClampNeg)) (v 1 (160 + 25 * x0.toNatClampNeg + 5 * x1.toNatClampNeg)) ∧ v = v) := by
      refine ⟨fun hq => ?_, fun hq => ?_⟩
      · exact ⟨rfl, rfl⟩
      · exfalso; omega
    exact W.iret (v := (-1)) hx hb hr (fun t ht hW => ⟨⟨(-1), v, rfl, ⟨hv, hpost⟩, by rw [ht]; exact hP, hD⟩, hS.F ht⟩) hS.2.2 dX8_judged_19

/-- the same judgement on both sides -/
theorem jF_rel {B : Nat} {v : Nat → Nat → Int32} {s : Nat → Int32} (hs : ∀ c t : Nat, c < 6 → t < 5 → (0 ≤ (s (158 + 25 * c + 5 * t)).toInt ∧ (s (158 + 25 * c + 5 * t)).toInt ≤ 1) ∧ (s (162 + 25 * c + 5 * t)).toInt ≤ 23) (h : RLk B v s) {c t : Nat} (hc : c < 6) (ha : (c : Int) < (s 2).toInt) (ht : t < 5) (hr : (t : Int) < (s (38 + 7 * c)).toInt) : jF (v (B + 26 + 15 * c + t) 1) (v (B + 23 + 15 * c + (v (B + 26 + 15 * c + t) 0).toNatClampNeg)) (v (B + 26 + 15 * c + t) 3) (v (B + 26 + 15 * c + t) 4) (v (B + 26 + 15 * c + t) 2) = jF (s (159 + 25 * c + 5 * t)) (fun h => s (308 + 48 * c + 24 * (s (158 + 25 * c + 5 * t)).toNatClampNeg + h)) (s (161 + 25 * c + 5 * t)) (s (162 + 25 * c + 5 * t)) (s (160 + 25 * c + 5 * t)) := by
  have e0 : v (B + 26 + 15 * c + t) 0 = s (158 + 25 * c + 5 * t) := h _ _ _ (lk_t hc ha ht hr (j := 0) (by decide))
  have e1 : v (B + 26 + 15 * c + t) 1 = s (159 + 25 * c + 5 * t) := (h _ _ _ (lk_t hc ha ht hr (j := 1) (by decide))).trans (congrArg s (by omega))
  have e2 : v (B + 26 + 15 * c + t) 2 = s (160 + 25 * c + 5 * t) := (h _ _ _ (lk_t hc ha ht hr (j := 2) (by decide))).trans (congrArg s (by omega))
  have e3 : v (B + 26 + 15 * c + t) 3 = s (161 + 25 * c + 5 * t) := (h _ _ _ (lk_t hc ha ht hr (j := 3) (by decide))).trans (congrArg s (by omega))
  have e4 : v (B + 26 + 15 * c + t) 4 = s (162 + 25 * c + 5 * t) := (h _ _ _ (lk_t hc ha ht hr (j := 4) (by decide))).trans (congrArg s (by omega))
  rw [e0, e1, e2, e3, e4]
  obtain ⟨b0, b4⟩ := hs c t hc ht
  have z := t_nn b0.1
  exact jF_cg (fun k hk => h _ _ _ (lk_l hc ha (by omega) (by omega)))
theorem Ir_t {v2 : Nat → Nat → Int32} (hQ : Ir v2) : ∀ c t : Nat, c < 6 → t < 5 → (0 ≤ (v2 1 (158 + 25 * c + 5 * t)).toInt ∧ (v2 1 (158 + 25 * c + 5 * t)).toInt ≤ 1) ∧ (v2 1 (162 + 25 * c + 5 * t)).toInt ≤ 23 := fun c t hc ht => ⟨hQ 1 _ 1 (bS_t hc ht (by omega)), (hQ 1 _ 23 (bS_u hc ht (by omega))).2⟩

set_option maxHeartbeats 4000000 in
theorem T_judged {n r r2 x0 x1 : Int32} {v u v2 u2 : Nat → Nat → Int32} (hI : Iv v) (hQ : Ir v2) (h : RR n v v2) (p : (¬ ((0 ≤ x0.toInt ∧ x0.toInt < (v 13 2).toInt) ∧ 0 ≤ x1.toInt ∧ x1.toInt < (v (29 + 15 * x0.toNatClampNeg) 5).toInt) → r = -1 ∧ u = v) ∧ ((0 ≤ x0.toInt ∧ x0.toInt < (v 13 2).toInt) ∧ 0 ≤ x1.toInt ∧ x1.toInt < (v (29 + 15 * x0.toNatClampNeg) 5).toInt → r = jF (v (39 + 15 * x0.toNatClampNeg + x1.toNatClampNeg) 1) (v (36 + 15 * x0.toNatClampNeg + (v (39 + 15 * x0.toNatClampNeg + x1.toNatClampNeg) 0).toNatClampNeg)) (v (39 + 15 * x0.toNatClampNeg + x1.toNatClampNeg) 3) (v (39 + 15 * x0.toNatClampNeg + x1.toNatClampNeg) 4) (v (39 + 15 * x0.toNatClampNeg + x1.toNatClampNeg) 2) ∧ u = v)) (q : (¬ ((0 ≤ x0.toInt ∧ x0.toInt < (v2 1 2).toInt) ∧ 0 ≤ x1.toInt ∧ x1.toInt < (v2 1 (38 + 7 * x0.toNatClampNeg)).toInt) → r2 = -1 ∧ u2 = v2) ∧ ((0 ≤ x0.toInt ∧ x0.toInt < (v2 1 2).toInt) ∧ 0 ≤ x1.toInt ∧ x1.toInt < (v2 1 (38 + 7 * x0.toNatClampNeg)).toInt → r2 = jF (v2 1 (159 + 25 * x0.toNatClampNeg + 5 * x1.toNatClampNeg)) (fun h => v2 1 (308 + 48 * x0.toNatClampNeg + 24 * (v2 1 (158 + 25 * x0.toNatClampNeg + 5 * x1.toNatClampNeg)).toNatClampNeg + h)) (v2 1 (161 + 25 * x0.toNatClampNeg + 5 * x1.toNatClampNeg)) (v2 1 (162 + 25 * x0.toNatClampNeg + 5 * x1.toNatClampNeg)) (v2 1 (160 + 25 * x0.toNatClampNeg + 5 * x1.toNatClampNeg)) ∧ u2 = v2)) : r = r2 ∧ RR n u u2 := by
  have e0 : v 13 0 = v2 1 0 := h.1.1 _ _ _ (lk_a (by decide))
  have e1 : v 13 1 = v2 1 1 := h.1.1 _ _ _ (lk_a (by decide))
  have e2 : v 13 2 = v2 1 2 := h.1.1 _ _ _ (lk_a (by decide))
  have e3 : v 13 3 = v2 1 3 := h.1.1 _ _ _ (lk_a (by decide))
  have hb0 := hQ 1 0 8 (by decide)
  have hb1 := hQ 1 1 4 (by decide)
  have hb2 := hQ 1 2 6 (by decide)
  have hb3 := hQ 1 3 6 (by decide)
  rw [e2] at p
  by_cases hC : (0 ≤ x0.toInt ∧ x0.toInt < (v2 1 2).toInt)
  · have zX := t_nn (x := x0) (by omega)
    have hX : x0.toNatClampNeg < 6 := by omega
    have ha : (x0.toNatClampNeg : Int) < (v2 1 2).toInt := by omega
    have ev : v (29 + 15 * x0.toNatClampNeg) 5 = v2 1 (38 + 7 * x0.toNatClampNeg) := h.1.1 _ _ _ (lk_c5 hX ha)
    rw [ev] at p
    have hb := hQ 1 (38 + 7 * x0.toNatClampNeg) 5 (bS_c (by omega) (by omega))
    by_cases hT : 0 ≤ x1.toInt ∧ x1.toInt < (v2 1 (38 + 7 * x0.toNatClampNeg)).toInt
    · obtain ⟨p1, p2⟩ := p.2 ⟨hC, hT⟩
      obtain ⟨q1, q2⟩ := q.2 ⟨hC, hT⟩
      have zT := t_nn (x := x1) (by omega)
      refine ⟨?_, by rw [p2, q2]; exact h⟩
      rw [p1, q1]
      exact jF_rel (B := 13) (s := v2 1) (Ir_t hQ) h.1.1 hX ha (by omega) (by omega)
    · obtain ⟨p1, p2⟩ := p.1 (fun w => hT w.2)
      obtain ⟨q1, q2⟩ := q.1 (fun w => hT w.2)
      rw [p1, q1, p2, q2]
      exact ⟨rfl, h⟩
  · obtain ⟨p1, p2⟩ := p.1 (fun w => hC w.1)
    obtain ⟨q1, q2⟩ := q.1 (fun w => hC w.1)
    rw [p1, q1, p2, q2]
    exact ⟨rfl, h⟩

/-- counts -/
def cN (f : Nat → Int) : Nat → Int
  | 0 => 0
  | n + 1 => cN f n + f n
theorem cN_cg {f g : Nat → Int} : ∀ {n : Nat}, (∀ i : Nat, i < n → f i = g i) → cN f n = cN g n
  | 0, _ => rfl
  | n + 1, h => by
    show cN f n + f n = cN g n + g n
    rw [cN_cg (f := f) (g := g) (n := n) (fun i hi => h i (by omega)), h n (by omega)]
theorem cN_le {f g : Nat → Int} : ∀ {n : Nat}, (∀ i : Nat, i < n → f i ≤ g i) → cN f n ≤ cN g n
  | 0, _ => Int.le_refl _
  | n + 1, h => by
    show cN f n + f n ≤ cN g n + g n
    have a := cN_le (f := f) (g := g) (n := n) (fun i hi => h i (by omega))
    have b := h n (by omega)
    omega
theorem cN_lt {f g : Nat → Int} {j : Nat} : ∀ {n : Nat}, (∀ i : Nat, i < n → f i ≤ g i) → j < n → f j < g j → cN f n < cN g n
  | 0, _, h, _ => absurd h (Nat.not_lt_zero _)
  | n + 1, h, hj, hl => by
    show cN f n + f n < cN g n + g n
    have b := h n (by omega)
    by_cases e : j = n
    · subst e
      have a := cN_le (f := f) (g := g) (n := j) (fun i hi => h i (by omega))
      omega
    · have a := cN_lt (f := f) (g := g) (n := n) (fun i hi => h i (by omega)) (by omega) hl
      omega
theorem cN_b {f : Nat → Int} : ∀ {n : Nat}, (∀ i : Nat, i < n → 0 ≤ f i ∧ f i ≤ 1) → 0 ≤ cN f n ∧ cN f n ≤ n
  | 0, _ => by
    show 0 ≤ (0 : Int) ∧ (0 : Int) ≤ ((0 : Nat) : Int)
    omega
  | n + 1, h => by
    show 0 ≤ cN f n + f n ∧ cN f n + f n ≤ ((n + 1 : Nat) : Int)
    have a := cN_b (f := f) (n := n) (fun i hi => h i (by omega))
    have b := h n (by omega)
    omega
theorem cN_full {f : Nat → Int} : ∀ {n : Nat}, (∀ i : Nat, i < n → 0 ≤ f i ∧ f i ≤ 1) → (n : Int) ≤ cN f n → ∀ i : Nat, i < n → f i = 1
  | 0, _, _, i, hi => absurd hi (Nat.not_lt_zero _)
  | n + 1, h, hn, i, hi => by
    have hn2 : ((n + 1 : Nat) : Int) ≤ cN f n + f n := hn
    have a := cN_b (f := f) (n := n) (fun i hi => h i (by omega))
    have b := h n (by omega)
    by_cases e : i = n
    · subst e
      omega
    · exact cN_full (f := f) (n := n) (fun i hi => h i (by omega)) (by omega) i (by omega)
theorem cN_ext {f : Nat → Int} {n : Nat} : ∀ {m : Nat}, n ≤ m → (∀ i : Nat, n ≤ i → i < m → f i = 0) → cN f m = cN f n
  | 0, h, _ => by rw [show n = 0 from by omega]
  | m + 1, h, h0 => by
    by_cases e : n = m + 1
    · rw [e]
    · show cN f m + f m = cN f n
      rw [cN_ext (f := f) (m := m) (by omega) (fun i a b => h0 i a (by omega)), h0 m (by omega) (by omega)]
      omega
/-- marks as a graph -/
def adj (s : Nat → Int32) (a b : Nat) : Prop := ∃ k : Nat, (k : Int) < (s 3).toInt ∧ mj s k a b
def conn (s : Nat → Int32) (a b : Nat) : Prop := ∀ P : Nat → Prop, P a → (∀ x y : Nat, adj s x y → P x → P y) → P b
/-- heads that stand for their cases, as far as n -/
def HI (s h : Nat → Int32) (n : Int) : Prop := ∀ c : Nat, (c : Int) < n → (0 ≤ (h c).toInt ∧ (h c).toInt ≤ (c : Int)) ∧ conn s c (h c).toNatClampNeg
def MG (s : Nat → Int32) : Prop := ∀ k : Nat, (k : Int) < (s 3).toInt → (0 ≤ (s (146 + 2 * k)).toInt ∧ (s (146 + 2 * k)).toInt < (s 2).toInt) ∧ 0 ≤ (s (147 + 2 * k)).toInt ∧ (s (147 + 2 * k)).toInt < (s 2).toInt
def ME_ (s h : Nat → Int32) (k : Nat) : Prop := h (s (146 + 2 * k)).toNatClampNeg = h (s (147 + 2 * k)).toNatClampNeg
def HD (s h : Nat → Int32) : Prop := HI s h (s 2).toInt ∧ ∀ k : Nat, (k : Int) < (s 3).toInt → ME_ s h k
section GRA
variable {s f : Nat → Int32} {a b c d : Nat}
theorem adj_s (h : adj s a b) : adj s b a := by
  obtain ⟨k, h1, h2⟩ := h
  refine ⟨k, h1, ?_⟩
  unfold mj at h2 ⊢
  omega
theorem conn_r : conn s a a := fun P h _ => h
theorem conn_t (h1 : conn s a b) (h2 : conn s b c) : conn s a c := fun P h k => h2 P (h1 P h k) k
theorem conn_1 (h : adj s a b) : conn s a b := fun P h0 k => k a b h h0
theorem conn_s (h : conn s a b) : conn s b a := h (fun x => conn s x a) conn_r (fun x y hxy hx => conn_t (conn_1 (adj_s hxy)) hx)
theorem adj_b (hG : MG s) (h : adj s a b) : (a : Int) < (s 2).toInt ∧ (b : Int) < (s 2).toInt := by
  obtain ⟨k, h1, h2⟩ := h
  have g := hG k h1
  unfold mj at h2
  omega
theorem conn_b (hG : MG s) (ha : (a : Int) < (s 2).toInt) (h : conn s a b) : (b : Int) < (s 2).toInt := h (fun x => (x : Int) < (s 2).toInt) ha (fun x y hxy _ => (adj_b hG hxy).2)
theorem HI_0 {n : Int} (h : n ≤ 0) : HI s f n := fun c hc => absurd hc (by omega)
theorem HI_dn {n m : Int} (h : HI s f n) (hm : m ≤ n) : HI s f m := fun c hc => h c (by omega)
theorem HI_new {y z : Int32} (hy : 0 ≤ y.toInt) (hz : z.toInt = y.toInt + 1) (h : HI s f y.toInt) : HI s (upd f y.toNatClampNeg y) z.toInt := by
  intro c hc
  have q := t_nn hy
  by_cases e : c = y.toNatClampNeg
  · rw [e, pk_us]
    exact ⟨⟨hy, by omega⟩, conn_r⟩
  · rw [pk_un e]
    exact h c (by omega)
theorem HI_up {n : Int} {p q x : Int32} (hp : 0 ≤ p.toInt ∧ p.toInt < n) (hq : 0 ≤ q.toInt ∧ q.toInt < n) (h : HI s f n) (hab : adj s p.toNatClampNeg q.toNatClampNeg) (hx : x = f p.toNatClampNeg ∨ x = f q.toNatClampNeg) (h1 : x.toInt ≤ (f p.toNatClampNeg).toInt) (h2 : x.toInt ≤ (f q.toNatClampNeg).toInt) : HI s (upd (upd f p.toNatClampNeg x) q.toNatClampNeg x) n := by
  have zp := t_nn hp.1
  have zq := t_nn hq.1
  obtain ⟨A1, A2⟩ := h p.toNatClampNeg (by omega)
  obtain ⟨B1, B2⟩ := h q.toNatClampNeg (by omega)
  have hcx : conn s p.toNatClampNeg x.toNatClampNeg ∧ 0 ≤ x.toInt := by
    rcases hx with e | e
    · rw [e]
      exact ⟨A2, A1.1⟩
    · rw [e]
      exact ⟨conn_t (conn_1 hab) B2, B1.1⟩
  intro c hc
  by_cases e : c = q.toNatClampNeg
  · rw [e, pk_us]
    exact ⟨⟨hcx.2, by omega⟩, conn_t (conn_1 (adj_s hab)) hcx.1⟩
  · rw [pk_un e]
    by_cases e2 : c = p.toNatClampNeg
    · rw [e2, pk_us]
      exact ⟨⟨hcx.2, by omega⟩, hcx.1⟩
    · rw [pk_un e2]
      exact h c hc
theorem HD_eq (h : HD s f) (hc : conn s a b) : f a = f b := by
  refine hc (fun x => f a = f x) rfl (fun x y hxy hx => ?_)
  obtain ⟨k, h1, h2⟩ := hxy
  have q : f (s (146 + 2 * k)).toNatClampNeg = f (s (147 + 2 * k)).toNatClampNeg := h.2 k h1
  unfold mj at h2
  rcases h2 with ⟨e1, e2⟩ | ⟨e1, e2⟩
  · rw [nt e1, nt e2] at q
    exact hx.trans q
  · rw [nt e1, nt e2] at q
    exact hx.trans q.symm
theorem HD_iff (h : HD s f) (ha : (a : Int) < (s 2).toInt) (hb : (b : Int) < (s 2).toInt) : f a = f b ↔ conn s a b := by
  refine ⟨fun e => ?_, fun e => HD_eq h e⟩
  have h1 := (h.1 a ha).2
  have h2 := (h.1 b hb).2
  rw [e] at h1
  exact conn_t h1 (conn_s h2)
end GRA
/-- sets of cases, as bits -/
def bt (x : Int32) (d : Nat) : Prop := (btx x (Int32.ofNat d)).toInt = 1
def ok6 (x : Int32) : Prop := 0 ≤ x.toInt ∧ x.toInt < 64
theorem or_n : ∀ x y : Fin 64, Int32.ofNat x.val ||| Int32.ofNat y.val = Int32.ofNat (x.val ||| y.val) ∧ x.val ||| y.val < 64 := by decide +kernel
theorem bt_n : ∀ x : Fin 64, ∀ d : Fin 6, (btx (Int32.ofNat x.val) (Int32.ofNat d.val)).toInt = 1 ↔ x.val.testBit d.val = true := by decide +kernel
theorem bt_nn {x : Int32} (h : ok6 x) {d : Nat} (hd : d < 6) : bt x d ↔ x.toNatClampNeg.testBit d = true := by
  have z := t_nn h.1
  have e := ofn h.1
  have k : (btx (Int32.ofNat x.toNatClampNeg) (Int32.ofNat d)).toInt = 1 ↔ x.toNatClampNeg.testBit d = true := bt_n ⟨x.toNatClampNeg, by have := h.2; omega⟩ ⟨d, hd⟩
  rw [← e] at k
  exact k
theorem or_bt {x y : Int32} (hx : ok6 x) (hy : ok6 y) : ok6 (x ||| y) ∧ ∀ d : Nat, d < 6 → (bt (x ||| y) d ↔ (bt x d ∨ bt y d)) := by
  have zx := t_nn hx.1
  have zy := t_nn hy.1
  have lx := hx.2
  have ly := hy.2
  have k : Int32.ofNat x.toNatClampNeg ||| Int32.ofNat y.toNatClampNeg = Int32.ofNat (x.toNatClampNeg ||| y.toNatClampNeg) ∧ x.toNatClampNeg ||| y.toNatClampNeg < 64 := or_n ⟨x.toNatClampNeg, by omega⟩ ⟨y.toNatClampNeg, by omega⟩
  rw [← ofn hx.1, ← ofn hy.1] at k
  have kz : (x ||| y).toInt = ((x.toNatClampNeg ||| y.toNatClampNeg : Nat) : Int) := by
    rw [k.1]
    exact Int32.toInt_ofNat_of_lt (by omega)
  have ko : ok6 (x ||| y) := ⟨by omega, by omega⟩
  refine ⟨ko, fun d hd => ?_⟩
  rw [bt_nn ko hd, bt_nn hx hd, bt_nn hy hd, nt kz, Nat.testBit_or, Bool.or_eq_true]
def qI (M : Nat → Int32) : Nat → Int32 → Int32
  | 0, b => b
  | n + 1, b => if (btx (qI M n b) (Int32.ofNat n)).toInt = 1 then qI M n b ||| M n else qI M n b
def qO (M : Nat → Int32) (n : Nat) : Nat → Int32 → Int32
  | 0, b => b
  | k + 1, b => qI M n (qO M n k b)
theorem qI_p {M : Nat → Int32} {n : Nat} {b : Int32} (h : (btx (qI M n b) (Int32.ofNat n)).toInt = 1) : qI M (n + 1) b = qI M n b ||| M n := if_pos h
theorem qI_n {M : Nat → Int32} {n : Nat} {b : Int32} (h : ¬ (btx (qI M n b) (Int32.ofNat n)).toInt = 1) : qI M (n + 1) b = qI M n b := if_neg h
section QIS
variable {M : Nat → Int32} {b : Int32}
theorem qI_ok (hb : ok6 b) : ∀ {n : Nat}, (∀ c : Nat, c < n → ok6 (M c)) → ok6 (qI M n b)
  | 0, _ => hb
  | n + 1, hM => by
    have h := qI_ok hb (n := n) (fun c hc => hM c (by omega))
    by_cases e : (btx (qI M n b) (Int32.ofNat n)).toInt = 1
    · rw [qI_p e]
      exact (or_bt h (hM n (by omega))).1
    · rw [qI_n e]
      exact h
theorem qI_1 (hb : ok6 b) {n d : Nat} (hM : ∀ c : Nat, c < n + 1 → ok6 (M c)) (hd : d < 6) (h : bt (qI M n b) d) : bt (qI M (n + 1) b) d := by
  by_cases e : (btx (qI M n b) (Int32.ofNat n)).toInt = 1
  · rw [qI_p e]
    exact ((or_bt (qI_ok hb (fun c hc => hM c (by omega))) (hM n (by omega))).2 d hd).mpr (Or.inl h)
  · rw [qI_n e]
    exact h
theorem qI_up (hb : ok6 b) {d : Nat} (hd : d < 6) (h : bt b d) : ∀ {n : Nat}, (∀ c : Nat, c < n → ok6 (M c)) → bt (qI M n b) d
  | 0, _ => h
  | n + 1, hM => qI_1 hb hM hd (qI_up hb hd h (n := n) (fun c hc => hM c (by omega)))
theorem qI_c (hb : ok6 b) {i d : Nat} (hd : d < 6) (h : bt b i) (hm : bt (M i) d) : ∀ {n : Nat}, n ≤ 6 → (∀ c : Nat, c < n → ok6 (M c)) → i < n → bt (qI M n b) d
  | 0, _, _, hi => absurd hi (Nat.not_lt_zero _)
  | n + 1, hn, hM, hi => by
    by_cases e : i = n
    · have q : (btx (qI M n b) (Int32.ofNat n)).toInt = 1 := by
        rw [e] at h
        exact qI_up hb (by omega) h (fun c hc => hM c (by omega))
      rw [qI_p q]
      rw [e] at hm
      exact ((or_bt (qI_ok hb (fun c hc => hM c (by omega))) (hM n (by omega))).2 d hd).mpr (Or.inr hm)
    · exact qI_1 hb hM hd (qI_c hb hd h hm (n := n) (by omega) (fun c hc => hM c (by omega)) (by omega))
theorem qI_d (hb : ok6 b) {C : Nat → Prop} (hC : ∀ d : Nat, d < 6 → bt b d → C d) : ∀ {n : Nat}, n ≤ 6 → (∀ c : Nat, c < n → ok6 (M c)) → (∀ c d : Nat, c < n → d < 6 → bt (M c) d → C c → C d) → ∀ d : Nat, d < 6 → bt (qI M n b) d → C d
  | 0, _, _, _ => hC
  | n + 1, hn, hM, hS => fun d hd h => by
    have ih := qI_d hb hC (n := n) (by omega) (fun c hc => hM c (by omega)) (fun c d hc => hS c d (by omega))
    by_cases e : (btx (qI M n b) (Int32.ofNat n)).toInt = 1
    · rw [qI_p e] at h
      rcases ((or_bt (qI_ok hb (fun c hc => hM c (by omega))) (hM n (by omega))).2 d hd).mp h with q | q
      · exact ih d hd q
      · exact hS n d (by omega) hd q (ih n (by omega) e)
    · rw [qI_n e] at h
      exact ih d hd h
end QIS
def bi (x : Int32) (d : Nat) : Int := if (btx x (Int32.ofNat d)).toInt = 1 then 1 else 0
theorem bi_1 {x : Int32} {d : Nat} (h : bt x d) : bi x d = 1 := if_pos h
theorem bi_0 {x : Int32} {d : Nat} (h : ¬ bt x d) : bi x d = 0 := if_neg h
theorem bi_b (x : Int32) (d : Nat) : 0 ≤ bi x d ∧ bi x d ≤ 1 := by
  by_cases h : bt x d
  · rw [bi_1 h]
    decide
  · rw [bi_0 h]
    decide
def clo (M : Nat → Int32) (n : Nat) (b : Int32) : Prop := ∀ i d : Nat, i < n → d < 6 → bt b i → bt (M i) d → bt b d
theorem qO_ok {M : Nat → Int32} {n : Nat} {b : Int32} (hM : ∀ c : Nat, c < n → ok6 (M c)) (hb : ok6 b) : ∀ k : Nat, ok6 (qO M n k b)
  | 0 => hb
  | k + 1 => qI_ok (qO_ok hM hb k) hM
theorem qO_clo {M : Nat → Int32} {n : Nat} {b : Int32} (hn : n ≤ 6) (hM : ∀ c : Nat, c < n → ok6 (M c)) (hS : ∀ c d : Nat, c < n → d < 6 → bt (M c) d → d < n) (hb : ok6 b) {o : Nat} (ho : o < n) (h1 : bt b o) : ∀ k : Nat, clo M n (qO M n k b) ∨ (k : Int) + 1 ≤ cN (bi (qO M n k b)) n
  | 0 => by
    refine Or.inr ?_
    have q : cN (fun _ => 0) n < cN (bi b) n := cN_lt (j := o) (fun i _ => (bi_b b i).1) ho (by show (0 : Int) < bi b o; rw [bi_1 h1]; decide)
    have z : ∀ m : Nat, cN (fun _ => 0) m = 0 := fun m => by
      induction m with
      | zero => rfl
      | succ m ih =>
        show cN (fun _ => 0) m + 0 = 0
        omega
    rw [z] at q
    show ((0 : Nat) : Int) + 1 ≤ cN (bi b) n
    omega
  | k + 1 => by
    have ok := qO_ok hM hb k
    have up : ∀ d : Nat, d < 6 → bt (qO M n k b) d → bt (qO M n (k + 1) b) d := fun d hd h => qI_up ok hd h hM
    by_cases hc : clo M n (qO M n k b)
    · refine Or.inl (fun i d hi hd h1 h2 => ?_)
      have back : ∀ d : Nat, d < 6 → bt (qO M n (k + 1) b) d → bt (qO M n k b) d := qI_d ok (C := fun d => bt (qO M n k b) d) (fun d _ h => h) hn hM (fun c d hc1 hd h1 h2 => hc c d hc1 hd h2 h1)
      exact up d hd (hc i d hi hd (back i (by omega) h1) h2)
    · rcases qO_clo hn hM hS hb ho h1 k with q | q
      · exact absurd q hc
      · refine Or.inr ?_
        have ⟨i, d, hi, hd, g1, g2, g3⟩ : ∃ i d : Nat, i < n ∧ d < 6 ∧ bt (qO M n k b) i ∧ bt (M i) d ∧ ¬ bt (qO M n k b) d := by
          refine Classical.byContradiction (fun hx => hc (fun i d hi hd g1 g2 => Classical.byContradiction (fun g3 => hx ⟨i, d, hi, hd, g1, g2, g3⟩)))
        have lt : cN (bi (qO M n k b)) n < cN (bi (qO M n (k + 1) b)) n := by
          refine cN_lt (j := d) (fun i hi => ?_) (hS i d hi hd g2) ?_
          · by_cases e : bt (qO M n k b) i
            · rw [bi_1 e, bi_1 (up i (by omega) e)]
              exact Int.le_refl _
            · rw [bi_0 e]
              exact (bi_b _ _).1
          · rw [bi_0 g3, show bi (qO M n (k + 1) b) d = 1 from bi_1 (qI_c ok hd g1 g2 hn hM hi)]
            decide
        omega
theorem qO_d {M : Nat → Int32} {n : Nat} {b : Int32} (hn : n ≤ 6) (hM : ∀ c : Nat, c < n → ok6 (M c)) (hb : ok6 b) {C : Nat → Prop} (hC : ∀ d : Nat, d < 6 → bt b d → C d) (hS : ∀ c d : Nat, c < n → d < 6 → bt (M c) d → C c → C d) : ∀ k : Nat, ∀ d : Nat, d < 6 → bt (qO M n k b) d → C d
  | 0 => hC
  | k + 1 => qI_d (qO_ok hM hb k) (qO_d hn hM hb hC hS k) hn hM hS
theorem qO_up {M : Nat → Int32} {n : Nat} {b : Int32} (hM : ∀ c : Nat, c < n → ok6 (M c)) (hb : ok6 b) {d : Nat} (hd : d < 6) (h : bt b d) : ∀ k : Nat, bt (qO M n k b) d
  | 0 => h
  | k + 1 => qI_up (qO_ok hM hb k) hd (qO_up hM hb hd h k) hM
theorem qO_full {M : Nat → Int32} {n : Nat} {b : Int32} (hn : n ≤ 6) (hM : ∀ c : Nat, c < n → ok6 (M c)) (hS : ∀ c d : Nat, c < n → d < 6 → bt (M c) d → d < n) (hb : ok6 b) {o : Nat} (ho : o < n) (h1 : bt b o) : clo M n (qO M n (n - 1) b) := by
  rcases qO_clo hn hM hS hb ho h1 (n - 1) with q | q
  · exact q
  · intro i d hi hd g1 g2
    have f := cN_full (f := bi (qO M n (n - 1) b)) (fun i _ => bi_b (qO M n (n - 1) b) i) (by omega) d (hS i d hi hd g2)
    refine Classical.byContradiction (fun g3 => ?_)
    rw [bi_0 g3] at f
    exact absurd f (by decide)
theorem sh_1 : ∀ o : Fin 6, (0 ≤ ((1 : Int32) <<< (Int32.ofNat o.val &&& 31)).toInt ∧ ((1 : Int32) <<< (Int32.ofNat o.val &&& 31)).toInt < 64) ∧ ∀ d : Fin 6, ((btx ((1 : Int32) <<< (Int32.ofNat o.val &&& 31)) (Int32.ofNat d.val)).toInt = 1 ↔ d.val = o.val) := by decide +kernel
/-- the quarrel of a case -/
def qB (M : Nat → Int32) (n : Nat) (x : Int32) : Int32 := qO M n (n - 1) (1 <<< (x &&& 31))
theorem qB_conn {s M : Nat → Int32} (hG : MG s) (h2 : (s 2).toInt ≤ 6) {n : Nat} (hn : (n : Int) = (s 2).toInt) (hM : ∀ c : Nat, c < n → ok6 (M c) ∧ ∀ d : Nat, d < 6 → (bt (M c) d ↔ adj s c d)) {x : Int32} {o : Nat} (hx : x.toInt = (o : Int)) (ho : o < n) : ok6 (qB M n x) ∧ ∀ d : Nat, d < 6 → (bt (qB M n x) d ↔ conn s o d) := by
  have ex : x = Int32.ofNat o := by
    have e := ofn (x := x) (by omega)
    rw [nt hx] at e
    exact e
  have hb := sh_1 ⟨o, by omega⟩
  have hb1 : ok6 (1 <<< (x &&& 31)) := by
    rw [ex]
    exact hb.1
  have hb2 : ∀ d : Nat, d < 6 → (bt (1 <<< (x &&& 31)) d ↔ d = o) := fun d hd => by
    rw [ex]
    exact hb.2 ⟨d, hd⟩
  have hMo : ∀ c : Nat, c < n → ok6 (M c) := fun c hc => (hM c hc).1
  have hS : ∀ c d : Nat, c < n → d < 6 → bt (M c) d → d < n := fun c d hc hd h => by
    have q := (adj_b hG (((hM c hc).2 d hd).mp h)).2
    omega
  have hup : bt (qB M n x) o := qO_up hMo hb1 (by omega) ((hb2 o (by omega)).mpr rfl) (n - 1)
  have hcl := qO_full (by omega) hMo hS hb1 ho ((hb2 o (by omega)).mpr rfl)
  refine ⟨qO_ok hMo hb1 (n - 1), fun d hd => ⟨fun h => ?_, fun h => ?_⟩⟩
  · refine qO_d (by omega) hMo hb1 (C := fun d => conn s o d) (fun d hd h => ?_) (fun c d hc hd h1 h2 => conn_t h2 (conn_1 (((hM c hc).2 d hd).mp h1))) (n - 1) d hd h
    rw [(hb2 d hd).mp h]
    exact conn_r
  · have q : d < n ∧ bt (qB M n x) d := h (fun d => d < n ∧ bt (qB M n x) d) ⟨ho, hup⟩ (fun y z hyz hy => by
      have w := adj_b hG hyz
      exact ⟨by omega, hcl y z hy.1 (by omega) hy.2 (((hM y hy.1).2 z (by omega)).mpr hyz)⟩)
    exact q.2
/-- the first of n that is there, or n -/
def hF (b : Int32) : Nat → Nat
  | 0 => 0
  | n + 1 => if hF b n < n then hF b n else if (btx b (Int32.ofNat n)).toInt = 1 then n else n + 1
theorem hF_s (b : Int32) (n : Nat) : hF b (n + 1) = if hF b n < n then hF b n else if (btx b (Int32.ofNat n)).toInt = 1 then n else n + 1 := rfl
theorem hF_le (b : Int32) : ∀ n : Nat, hF b n ≤ n
  | 0 => Nat.le_refl _
  | n + 1 => by
    rw [hF_s]
    have h := hF_le b n
    split
    · omega
    · split <;> omega
theorem hF_no {b : Int32} {n : Nat} (h : hF b n = n) (hb : ¬ bt b n) : hF b (n + 1) = n + 1 := by
  rw [hF_s, if_neg (by omega), if_neg (show ¬ (btx b (Int32.ofNat n)).toInt = 1 from hb)]
theorem hF_hit {b : Int32} {y : Nat} (h : hF b y = y) (hb : bt b y) : ∀ n : Nat, y < n → hF b n = y
  | 0, hn => absurd hn (Nat.not_lt_zero _)
  | n + 1, hn => by
    rw [hF_s]
    by_cases e : y = n
    · subst e
      rw [if_neg (by omega), if_pos (show (btx b (Int32.ofNat y)).toInt = 1 from hb)]
    · rw [hF_hit h hb n (by omega), if_pos (by omega)]
theorem hF_sp (b : Int32) : ∀ n : Nat, (hF b n < n → bt b (hF b n)) ∧ ∀ i : Nat, i < hF b n → ¬ bt b i
  | 0 => ⟨fun h => absurd h (Nat.not_lt_zero _), fun i h => absurd h (Nat.not_lt_zero _)⟩
  | n + 1 => by
    obtain ⟨h1, h2⟩ := hF_sp b n
    have hl := hF_le b n
    rw [hF_s]
    by_cases e : hF b n < n
    · rw [if_pos e]
      exact ⟨fun _ => h1 e, h2⟩
    · rw [if_neg e]
      have en : hF b n = n := by omega
      rw [en] at h2
      by_cases g : (btx b (Int32.ofNat n)).toInt = 1
      · rw [if_pos g]
        exact ⟨fun _ => g, h2⟩
      · rw [if_neg g]
        refine ⟨fun q => absurd q (by omega), fun i hi => ?_⟩
        by_cases e2 : i = n
        · rw [e2]
          exact g
        · exact h2 i (by omega)
/-- the heads of both sides -/
theorem head_eq {s f M : Nat → Int32} (hG : MG s) (h2 : (s 2).toInt ≤ 6) (hD : HD s f) {n : Nat} (hn : (n : Int) = (s 2).toInt) (hM : ∀ c : Nat, c < n → ok6 (M c) ∧ ∀ d : Nat, d < 6 → (bt (M c) d ↔ adj s c d)) {x : Int32} {o : Nat} (hx : x.toInt = (o : Int)) (ho : o < n) : ((hF (qB M n x) o : Nat) : Int) = (f o).toInt := by
  obtain ⟨-, hq⟩ := qB_conn hG h2 hn hM hx ho
  obtain ⟨⟨b1, b2⟩, b3⟩ := hD.1 o (by omega)
  have z := t_nn b1
  have hl := hF_le (qB M n x) o
  obtain ⟨s1, s2⟩ := hF_sp (qB M n x) o
  have hg : bt (qB M n x) (f o).toNatClampNeg := (hq _ (by omega)).mpr b3
  have l1 : hF (qB M n x) o ≤ (f o).toNatClampNeg := Nat.le_of_not_lt (fun q => s2 _ q hg)
  have hc : conn s o (hF (qB M n x) o) := by
    by_cases e : hF (qB M n x) o < o
    · exact (hq _ (by omega)).mp (s1 e)
    · rw [show hF (qB M n x) o = o from by omega]
      exact conn_r
  have l2 := (hD.1 (hF (qB M n x) o) (by omega)).1.2
  rw [← HD_eq hD hc] at l2
  omega
theorem many_eq {s f M : Nat → Int32} (hG : MG s) (h2 : (s 2).toInt ≤ 6) (hD : HD s f) {n : Nat} (hn : (n : Int) = (s 2).toInt) (hM : ∀ c : Nat, c < n → ok6 (M c) ∧ ∀ d : Nat, d < 6 → (bt (M c) d ↔ adj s c d)) {x : Int32} {o : Nat} (hx : x.toInt = (o : Int)) (ho : o < n) : cN (bi (qB M n x)) 6 = cN (fun c => if (f c).toInt = (f o).toInt then 1 else 0) n := by
  obtain ⟨-, hq⟩ := qB_conn hG h2 hn hM hx ho
  rw [cN_ext (n := n) (by omega) (fun i h1 h3 => bi_0 (fun h => by have q := conn_b hG (by omega) ((hq i h3).mp h); omega))]
  refine cN_cg (fun i hi => ?_)
  by_cases e : conn s o i
  · rw [bi_1 ((hq i (by omega)).mpr e)]
    show 1 = if (f i).toInt = (f o).toInt then (1 : Int) else 0
    rw [if_pos (by rw [HD_eq hD e])]
  · rw [bi_0 (fun h => e ((hq i (by omega)).mp h))]
    show 0 = if (f i).toInt = (f o).toInt then (1 : Int) else 0
    rw [if_neg (fun h => e ((HD_iff hD (by omega) (by omega)).mp (Int32.toInt_inj.mp h).symm))]

def us (x y : Int32) : Int32 := (x.toUInt32 >>> (y.toUInt32 &&& Int32.toUInt32 31)).toInt32
def bc1 (x : Int32) : Int32 := x - (us x 1 &&& 1431655765)
def bc2 (x : Int32) : Int32 := (x &&& 858993459) + (us x 2 &&& 858993459)
def bc3 (x : Int32) : Int32 := (x + us x 4) &&& 252645135
def bc4 (x : Int32) : Int32 := x + us x 8
def bc5 (x : Int32) : Int32 := x + us x 16
def bcF (x : Int32) : Int32 := bc5 (bc4 (bc3 (bc2 (bc1 x)))) &&& 63
theorem bc_6 : ∀ x : Fin 64, (bcF (Int32.ofNat x.val)).toInt = 0 + bi (Int32.ofNat x.val) 0 + bi (Int32.ofNat x.val) 1 + bi (Int32.ofNat x.val) 2 + bi (Int32.ofNat x.val) 3 + bi (Int32.ofNat x.val) 4 + bi (Int32.ofNat x.val) 5 := by decide +kernel
theorem bc_n {x : Int32} (h : ok6 x) : (bcF x).toInt = cN (bi x) 6 := by
  have z := t_nn h.1
  have l := h.2
  have k := bc_6 ⟨x.toNatClampNeg, by omega⟩
  have e := ofn h.1
  have k2 : (bcF (Int32.ofNat x.toNatClampNeg)).toInt = cN (bi (Int32.ofNat x.toNatClampNeg)) 6 := k
  rw [← e] at k2
  exact k2

set_option maxHeartbeats 4000000 in
set_option maxRecDepth 100000 in
theorem e_bitCount (l : Launch) (x0 : Int32) : Met l yJ6_bitCount_0f7a4 wsJ6_bitCount_0f7a4 ({ frames := 0, cells := 0, slots := 0, locals := 0 }) (va_Pc [.int x0] (fun _ => True)) (va_Qi (fun (r : Int32) (_ : Unit) => r = bcF x0) (fun _ _ => True) (fun _ => False)) 0 0 (fun _ => False) := by
  refine Met.ofW (cc := cJ6_bitCount_0f7a4) (maxL := 1) (ret := (some .int)) (by decide) rfl ?_
  intro p e s m args below meth c s₁ B hml hv
  obtain ⟨rfl, -⟩ := hv
  have hx := B.exec
  have hb := B.bytes
  have hr := B.returns
  have hts := atoms_spec (ws := wsJ6_bitCount_0f7a4) B.pre
  have hown : s.vm.findClass RJ6 = some m.cls := findClass_of_methodNamed B.named
  have hlocks := B.notSynchronized
  have hl := lv_entry ([.int x0]) (n := 1) (Nat.le_of_ble_eq_true rfl)
  rw [lg_entry_eq]
  generalize (lg_sl ([.int x0]) ++ List.replicate (1 - (lg_sl ([.int x0])).length) Slot.unset).toArray = ls at hl ⊢
  have hl : lv_has ls 1 [(0, .int x0)] := hl
  have hS : va_S (fun _ => False) s.heap s.heap [] := va_S.rf
  refine lv_iload_n hx hb dJ6_bitCount_0f7a4_0 rfl (lv_at hl 0 rfl) ?_
  refine lv_iload_n hx hb dJ6_bitCount_0f7a4_1 rfl (lv_at hl 0 rfl) ?_
  refine lv_iconst (v := 1) hx hb dJ6_bitCount_0f7a4_2 (by decide) ?_
  refine lv_iushr (v := _) hx hb dJ6_bitCount_0f7a4_3 rfl ?_
  refine lv_topi (fun x_1 ex_1 => ?_)
  refine lv_ldcw hx hb hown (hts (.constant RJ6 265 (1431655765)) fwJ6_bitCount_0f7a4_1) dJ6_bitCount_0f7a4_4 ?_
  refine lv_iand hx hb dJ6_bitCount_0f7a4_7 ?_
  refine lv_topi (fun x_2 ex_2 => ?_)
  refine lv_isub hx hb dJ6_bitCount_0f7a4_8 ?_
  refine lv_topi (fun x_3 ex_3 => ?_)
  refine lv_istore_n (lv' := [(0, .int x_3)]) hx hb dJ6_bitCount_0f7a4_9 rfl hl (by decide) rfl (fun ls hl => ?_)
  refine lv_iload_n hx hb dJ6_bitCount_0f7a4_10 rfl (lv_at hl 0 rfl) ?_
  refine lv_ldcw hx hb hown (hts (.constant RJ6 266 (858993459)) fwJ6_bitCount_0f7a4_2) dJ6_bitCount_0f7a4_11 ?_
  refine lv_iand hx hb dJ6_bitCount_0f7a4_14 ?_
  refine lv_topi (fun x_4 ex_4 => ?_)
  refine lv_iload_n hx hb dJ6_bitCount_0f7a4_15 rfl (lv_at hl 0 rfl) ?_
  refine lv_iconst (v := 2) hx hb dJ6_bitCount_0f7a4_16 (by decide) ?_
  refine lv_iushr (v := _) hx hb dJ6_bitCount_0f7a4_17 rfl ?_
  refine lv_topi (fun x_5 ex_5 => ?_)
  refine lv_ldcw hx hb hown (hts (.constant RJ6 266 (858993459)) fwJ6_bitCount_0f7a4_2) dJ6_bitCount_0f7a4_18 ?_
  refine lv_iand hx hb dJ6_bitCount_0f7a4_21 ?_
  refine lv_topi (fun x_6 ex_6 => ?_)
  refine lv_iadd hx hb dJ6_bitCount_0f7a4_22 ?_
  refine lv_topi (fun x_7 ex_7 => ?_)
  refine lv_istore_n (lv' := [(0, .int x_7)]) hx hb dJ6_bitCount_0f7a4_23 rfl hl (by decide) rfl (fun ls hl => ?_)
  refine lv_iload_n hx hb dJ6_bitCount_0f7a4_24 rfl (lv_at hl 0 rfl) ?_
  refine lv_iload_n hx hb dJ6_bitCount_0f7a4_25 rfl (lv_at hl 0 rfl) ?_
  refine lv_iconst (v := 4) hx hb dJ6_bitCount_0f7a4_26 (by decide) ?_
  refine lv_iushr (v := _) hx hb dJ6_bitCount_0f7a4_27 rfl ?_
  refine lv_topi (fun x_8 ex_8 => ?_)
  refine lv_iadd hx hb dJ6_bitCount_0f7a4_28 ?_
  refine lv_topi (fun x_9 ex_9 => ?_)
  refine lv_ldcw hx hb hown (hts (.constant RJ6 267 (252645135)) fwJ6_bitCount_0f7a4_3) dJ6_bitCount_0f7a4_29 ?_
  refine lv_iand hx hb dJ6_bitCount_0f7a4_32 ?_
  refine lv_topi (fun x_10 ex_10 => ?_)
  refine lv_istore_n (lv' := [(0, .int x_10)]) hx hb dJ6_bitCount_0f7a4_33 rfl hl (by decide) rfl (fun ls hl => ?_)
  refine lv_iload_n hx hb dJ6_bitCount_0f7a4_34 rfl (lv_at hl 0 rfl) ?_
  refine lv_iload_n hx hb dJ6_bitCount_0f7a4_35 rfl (lv_at hl 0 rfl) ?_
  refine lv_bipush (v := 8) hx hb dJ6_bitCount_0f7a4_36 (by decide) ?_
  refine lv_iushr (v := _) hx hb dJ6_bitCount_0f7a4_38 rfl ?_
  refine lv_topi (fun x_11 ex_11 => ?_)
  refine lv_iadd hx hb dJ6_bitCount_0f7a4_39 ?_
  refine lv_topi (fun x_12 ex_12 => ?_)
  refine lv_istore_n (lv' := [(0, .int x_12)]) hx hb dJ6_bitCount_0f7a4_40 rfl hl (by decide) rfl (fun ls hl => ?_)
  refine lv_iload_n hx hb dJ6_bitCount_0f7a4_41 rfl (lv_at hl 0 rfl) ?_
  refine lv_iload_n hx hb dJ6_bitCount_0f7a4_42 rfl (lv_at hl 0 rfl) ?_
  refine lv_bipush (v := 16) hx hb dJ6_bitCount_0f7a4_43 (by decide) ?_
  refine lv_iushr (v := _) hx hb dJ6_bitCount_0f7a4_45 rfl ?_
  refine lv_topi (fun x_13 ex_13 => ?_)
  refine lv_iadd hx hb dJ6_bitCount_0f7a4_46 ?_
  refine lv_topi (fun x_14 ex_14 => ?_)
  refine lv_istore_n (lv' := [(0, .int x_14)]) hx hb dJ6_bitCount_0f7a4_47 rfl hl (by decide) rfl (fun ls hl => ?_)
  refine lv_iload_n hx hb dJ6_bitCount_0f7a4_48 rfl (lv_at hl 0 rfl) ?_
  refine lv_bipush (v := 63) hx hb dJ6_bitCount_0f7a4_49 (by decide) ?_
  refine lv_iand hx hb dJ6_bitCount_0f7a4_51 ?_
  refine lv_topi (fun x_15 ex_15 => ?_)
  exact W.iret (v := x_15) hx hb hr (fun t ht hW => ⟨⟨x_15, (), rfl, by rw [ex_15, ex_14, ex_13, ex_12, ex_11, ex_10, ex_9, ex_8, ex_7, ex_6, ex_5, ex_4, ex_3, ex_2, ex_1]; rfl, trivial⟩, hS.F ht⟩) hS.2.2 dJ6_bitCount_0f7a4_52
