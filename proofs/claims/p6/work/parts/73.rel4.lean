
set_option maxHeartbeats 4000000 in
theorem RL_box0 {v u : Nat → Nat → Int32} {s z : Nat → Int32} {X : Nat} {x : Int32} (hX : X < 6) (hu : ∀ k j : Nat, u k j = if k = 31 + 15 * X ∧ j = 0 then x else v k j) (hs : ∀ n : Nat, z n = if n = 74 + 2 * X then x else s n) (hR : RLk 13 v s) : RLk 13 u z := by
  have A0 : (z 0).toInt = (s 0).toInt := by rw [hs, if_neg (by omega)]
  have A1 : (z 1).toInt = (s 1).toInt := by rw [hs, if_neg (by omega)]
  have A2 : (z 2).toInt = (s 2).toInt := by rw [hs, if_neg (by omega)]
  have A36 : ∀ c : Nat, c < 6 → (z (36 + 7 * c)).toInt = (s (36 + 7 * c)).toInt := fun c hc => by rw [hs, if_neg (by omega)]
  have A38 : ∀ c : Nat, c < 6 → (z (38 + 7 * c)).toInt = (s (38 + 7 * c)).toInt := fun c hc => by rw [hs, if_neg (by omega)]
  intro k j n h
  unfold lk at h
  rcases h with ⟨rfl, hj, rfl⟩ | ⟨p, hp, ha, hj, rfl, rfl⟩ | ⟨m, hm, ha, hj, rfl, rfl⟩ | ⟨m, hm, ha, rfl, rfl, rfl⟩ | ⟨c, hc, ha, rfl, rfl, rfl⟩ | ⟨c, hc, ha, rfl, rfl, rfl⟩ | ⟨c, hc, ha, rfl, rfl, rfl⟩ | ⟨c, hc, ha, rfl, rfl, rfl⟩ | ⟨c, hc, ha, hj, rfl, rfl⟩ | ⟨c, i, hc, ha, hi, hj, hr, rfl, rfl⟩ | ⟨c, i, hc, ha, hi, hj, rfl, rfl⟩ | ⟨c, t, hc, ha, ht, hr, hj, rfl, rfl⟩
  · have d1 : u (13) n = v (13) n := by rw [hu, if_neg (by omega)]
    have d2 : z (n) = s (n) := by rw [hs, if_neg (by omega)]
    exact d1.trans ((hR _ _ _ (lk_a hj)).trans d2.symm)
  · have d1 : u (13 + 4 + p) j = v (13 + 4 + p) j := by rw [hu, if_neg (by omega)]
    have d2 : z (4 + 2 * p + j) = s (4 + 2 * p + j) := by rw [hs, if_neg (by omega)]
    exact d1.trans ((hR _ _ _ (lk_p hp (by omega) hj)).trans d2.symm)
  · have d1 : u (13 + 12 + m) j = v (13 + 12 + m) j := by rw [hu, if_neg (by omega)]
    have d2 : z (20 + 2 * m + j) = s (20 + 2 * m + j) := by rw [hs, if_neg (by omega)]
    exact d1.trans ((hR _ _ _ (lk_m hm (by omega) hj)).trans d2.symm)
  · have d1 : u (13 + 12 + m) 2 = v (13 + 12 + m) 2 := by rw [hu, if_neg (by omega)]
    have d2 : z (28 + m) = s (28 + m) := by rw [hs, if_neg (by omega)]
    exact d1.trans ((hR _ _ _ (lk_k_ hm (by omega))).trans d2.symm)
  · have d1 : u (13 + 16 + 15 * c) 0 = v (13 + 16 + 15 * c) 0 := by rw [hu, if_neg (by omega)]
    have d2 : z (34 + 7 * c) = s (34 + 7 * c) := by rw [hs, if_neg (by omega)]
    exact d1.trans ((hR _ _ _ (lk_c0 hc (by omega))).trans d2.symm)
  · have d1 : u (13 + 16 + 15 * c) 2 = v (13 + 16 + 15 * c) 2 := by rw [hu, if_neg (by omega)]
    have d2 : z (36 + 7 * c) = s (36 + 7 * c) := by rw [hs, if_neg (by omega)]
    exact d1.trans ((hR _ _ _ (lk_c2 hc (by omega))).trans d2.symm)
  · have d1 : u (13 + 16 + 15 * c) 3 = v (13 + 16 + 15 * c) 3 := by rw [hu, if_neg (by omega)]
    have d2 : z (37 + 7 * c) = s (37 + 7 * c) := by rw [hs, if_neg (by omega)]
    exact d1.trans ((hR _ _ _ (lk_c3 hc (by omega))).trans d2.symm)
  · have d1 : u (13 + 16 + 15 * c) 5 = v (13 + 16 + 15 * c) 5 := by rw [hu, if_neg (by omega)]
    have d2 : z (38 + 7 * c) = s (38 + 7 * c) := by rw [hs, if_neg (by omega)]
    exact d1.trans ((hR _ _ _ (lk_c5 hc (by omega))).trans d2.symm)
  · have d1 : u (13 + 17 + 15 * c) j = v (13 + 17 + 15 * c) j := by rw [hu, if_neg (by omega)]
    have d2 : z (32 + 7 * c + j) = s (32 + 7 * c + j) := by rw [hs, if_neg (by omega)]
    exact d1.trans ((hR _ _ _ (lk_q hc (by omega) hj)).trans d2.symm)
  · have a36 := A36 c hc
    have d1 : u (13 + 20 + 15 * c + i) j = v (13 + 20 + 15 * c + i) j := by rw [hu, if_neg (by omega)]
    have d2 : z (86 + 10 * c + 2 * j + i) = s (86 + 10 * c + 2 * j + i) := by rw [hs, if_neg (by omega)]
    exact d1.trans ((hR _ _ _ (lk_o hc (by omega) hi hj (by omega))).trans d2.symm)
  · have d1 : u (13 + 23 + 15 * c + i) j = v (13 + 23 + 15 * c + i) j := by rw [hu, if_neg (by omega)]
    have d2 : z (308 + 48 * c + 24 * i + j) = s (308 + 48 * c + 24 * i + j) := by rw [hs, if_neg (by omega)]
    exact d1.trans ((hR _ _ _ (lk_l hc (by omega) hi hj)).trans d2.symm)
  · have a38 := A38 c hc
    have d1 : u (13 + 26 + 15 * c + t) j = v (13 + 26 + 15 * c + t) j := by rw [hu, if_neg (by omega)]
    have d2 : z (158 + 25 * c + 5 * t + j) = s (158 + 25 * c + 5 * t + j) := by rw [hs, if_neg (by omega)]
    exact d1.trans ((hR _ _ _ (lk_t hc (by omega) ht (by omega) hj)).trans d2.symm)

set_option maxHeartbeats 4000000 in
theorem RL_no0 {v u : Nat → Nat → Int32} {s z : Nat → Int32} {X R : Nat} {x y g a : Int32} (hX : X < 6) (hR5 : R < 5) (hn : (s (36 + 7 * X)).toInt = (R : Int)) (hx : y.toInt = (s (36 + 7 * X)).toInt + 1) (hu : ∀ k j : Nat, u k j = if k = 31 + 15 * X ∧ j = 1 then -1 else if k = 31 + 15 * X ∧ j = 0 then -1 else if k = 29 + 15 * X ∧ j = 2 then y else if k = 33 + 15 * X + 1 ∧ j = R then g else if k = 33 + 15 * X + 0 ∧ j = R then a else if k = 31 + 15 * X ∧ j = 0 then x else v k j) (hs : ∀ n : Nat, z n = if n = 75 + 2 * X then -5 else if n = 74 + 2 * X then -5 else if n = 36 + 7 * X then y else if n = 87 + 10 * X + 2 * R then g else if n = 86 + 10 * X + 2 * R then a else if n = 74 + 2 * X then x else s n) (hR : RLk 13 v s) : RLk 13 u z := by
  have A0 : (z 0).toInt = (s 0).toInt := by rw [hs, if_neg (by omega), if_neg (by omega), if_neg (by omega), if_neg (by omega), if_neg (by omega), if_neg (by omega)]
  have A1 : (z 1).toInt = (s 1).toInt := by rw [hs, if_neg (by omega), if_neg (by omega), if_neg (by omega), if_neg (by omega), if_neg (by omega), if_neg (by omega)]
  have A2 : (z 2).toInt = (s 2).toInt := by rw [hs, if_neg (by omega), if_neg (by omega), if_neg (by omega), if_neg (by omega), if_neg (by omega), if_neg (by omega)]
  have A36 : ∀ c : Nat, c < 6 → (z (36 + 7 * c)).toInt = (s (36 + 7 * c)).toInt ∨ (c = X ∧ (z (36 + 7 * c)).toInt = (s (36 + 7 * c)).toInt + 1) := fun c hc => by by_cases q : c = X; subst q; refine Or.inr ⟨rfl, ?_⟩; rw [hs, if_neg (by omega), if_neg (by omega), if_pos rfl]; exact hx; refine Or.inl ?_; rw [hs, if_neg (by omega), if_neg (by omega), if_neg (by omega), if_neg (by omega), if_neg (by omega), if_neg (by omega)]
  have A38 : ∀ c : Nat, c < 6 → (z (38 + 7 * c)).toInt = (s (38 + 7 * c)).toInt := fun c hc => by rw [hs, if_neg (by omega), if_neg (by omega), if_neg (by omega), if_neg (by omega), if_neg (by omega), if_neg (by omega)]
  intro k j n h
  unfold lk at h
  rcases h with ⟨rfl, hj, rfl⟩ | ⟨p, hp, ha, hj, rfl, rfl⟩ | ⟨m, hm, ha, hj, rfl, rfl⟩ | ⟨m, hm, ha, rfl, rfl, rfl⟩ | ⟨c, hc, ha, rfl, rfl, rfl⟩ | ⟨c, hc, ha, rfl, rfl, rfl⟩ | ⟨c, hc, ha, rfl, rfl, rfl⟩ | ⟨c, hc, ha, rfl, rfl, rfl⟩ | ⟨c, hc, ha, hj, rfl, rfl⟩ | ⟨c, i, hc, ha, hi, hj, hr, rfl, rfl⟩ | ⟨c, i, hc, ha, hi, hj, rfl, rfl⟩ | ⟨c, t, hc, ha, ht, hr, hj, rfl, rfl⟩
  · have d1 : u (13) n = v (13) n := by rw [hu, if_neg (by omega), if_neg (by omega), if_neg (by omega), if_neg (by omega), if_neg (by omega), if_neg (by omega)]
    have d2 : z (n) = s (n) := by rw [hs, if_neg (by omega), if_neg (by omega), if_neg (by omega), if_neg (by omega), if_neg (by omega), if_neg (by omega)]
    exact d1.trans ((hR _ _ _ (lk_a hj)).trans d2.symm)
  · have d1 : u (13 + 4 + p) j = v (13 + 4 + p) j := by rw [hu, if_neg (by omega), if_neg (by omega), if_neg (by omega), if_neg (by omega), if_neg (by omega), if_neg (by omega)]
    have d2 : z (4 + 2 * p + j) = s (4 + 2 * p + j) := by rw [hs, if_neg (by omega), if_neg (by omega), if_neg (by omega), if_neg (by omega), if_neg (by omega), if_neg (by omega)]
    exact d1.trans ((hR _ _ _ (lk_p hp (by omega) hj)).trans d2.symm)
  · have d1 : u (13 + 12 + m) j = v (13 + 12 + m) j := by rw [hu, if_neg (by omega), if_neg (by omega), if_neg (by omega), if_neg (by omega), if_neg (by omega), if_neg (by omega)]
    have d2 : z (20 + 2 * m + j) = s (20 + 2 * m + j) := by rw [hs, if_neg (by omega), if_neg (by omega), if_neg (by omega), if_neg (by omega), if_neg (by omega), if_neg (by omega)]
    exact d1.trans ((hR _ _ _ (lk_m hm (by omega) hj)).trans d2.symm)
  · have d1 : u (13 + 12 + m) 2 = v (13 + 12 + m) 2 := by rw [hu, if_neg (by omega), if_neg (by omega), if_neg (by omega), if_neg (by omega), if_neg (by omega), if_neg (by omega)]
    have d2 : z (28 + m) = s (28 + m) := by rw [hs, if_neg (by omega), if_neg (by omega), if_neg (by omega), if_neg (by omega), if_neg (by omega), if_neg (by omega)]
    exact d1.trans ((hR _ _ _ (lk_k_ hm (by omega))).trans d2.symm)
  · have d1 : u (13 + 16 + 15 * c) 0 = v (13 + 16 + 15 * c) 0 := by rw [hu, if_neg (by omega), if_neg (by omega), if_neg (by omega), if_neg (by omega), if_neg (by omega), if_neg (by omega)]
    have d2 : z (34 + 7 * c) = s (34 + 7 * c) := by rw [hs, if_neg (by omega), if_neg (by omega), if_neg (by omega), if_neg (by omega), if_neg (by omega), if_neg (by omega)]
    exact d1.trans ((hR _ _ _ (lk_c0 hc (by omega))).trans d2.symm)
  · by_cases e0 : 13 + 16 + 15 * c = 29 + 15 * X ∧ 2 = 2
    · have d1 : u (13 + 16 + 15 * c) 2 = y := by rw [hu, if_neg (by omega), if_neg (by omega), if_pos (by omega)]
      have d2 : z (36 + 7 * c) = y := by rw [hs, if_neg (by omega), if_neg (by omega), if_pos (by omega)]
      exact d1.trans d2.symm
    · skip
      have d1 : u (13 + 16 + 15 * c) 2 = v (13 + 16 + 15 * c) 2 := by rw [hu, if_neg (by omega), if_neg (by omega), if_neg (by omega), if_neg (by omega), if_neg (by omega), if_neg (by omega)]
      have d2 : z (36 + 7 * c) = s (36 + 7 * c) := by rw [hs, if_neg (by omega), if_neg (by omega), if_neg (by omega), if_neg (by omega), if_neg (by omega), if_neg (by omega)]
      exact d1.trans ((hR _ _ _ (lk_c2 hc (by omega))).trans d2.symm)
  · have d1 : u (13 + 16 + 15 * c) 3 = v (13 + 16 + 15 * c) 3 := by rw [hu, if_neg (by omega), if_neg (by omega), if_neg (by omega), if_neg (by omega), if_neg (by omega), if_neg (by omega)]
    have d2 : z (37 + 7 * c) = s (37 + 7 * c) := by rw [hs, if_neg (by omega), if_neg (by omega), if_neg (by omega), if_neg (by omega), if_neg (by omega), if_neg (by omega)]
    exact d1.trans ((hR _ _ _ (lk_c3 hc (by omega))).trans d2.symm)
  · have d1 : u (13 + 16 + 15 * c) 5 = v (13 + 16 + 15 * c) 5 := by rw [hu, if_neg (by omega), if_neg (by omega), if_neg (by omega), if_neg (by omega), if_neg (by omega), if_neg (by omega)]
    have d2 : z (38 + 7 * c) = s (38 + 7 * c) := by rw [hs, if_neg (by omega), if_neg (by omega), if_neg (by omega), if_neg (by omega), if_neg (by omega), if_neg (by omega)]
    exact d1.trans ((hR _ _ _ (lk_c5 hc (by omega))).trans d2.symm)
  · have d1 : u (13 + 17 + 15 * c) j = v (13 + 17 + 15 * c) j := by rw [hu, if_neg (by omega), if_neg (by omega), if_neg (by omega), if_neg (by omega), if_neg (by omega), if_neg (by omega)]
    have d2 : z (32 + 7 * c + j) = s (32 + 7 * c + j) := by rw [hs, if_neg (by omega), if_neg (by omega), if_neg (by omega), if_neg (by omega), if_neg (by omega), if_neg (by omega)]
    exact d1.trans ((hR _ _ _ (lk_q hc (by omega) hj)).trans d2.symm)
  · have a36 := A36 c hc
    have hnc : c = X → (s (36 + 7 * c)).toInt = (R : Int) := fun q => by rw [q]; exact hn
    by_cases e0 : 13 + 20 + 15 * c + i = 33 + 15 * X + 1 ∧ j = R
    · have d1 : u (13 + 20 + 15 * c + i) j = g := by rw [hu, if_neg (by omega), if_neg (by omega), if_neg (by omega), if_pos (by omega)]
      have d2 : z (86 + 10 * c + 2 * j + i) = g := by rw [hs, if_neg (by omega), if_neg (by omega), if_neg (by omega), if_pos (by omega)]
      exact d1.trans d2.symm
    · skip
      by_cases e1 : 13 + 20 + 15 * c + i = 33 + 15 * X + 0 ∧ j = R
      · have d1 : u (13 + 20 + 15 * c + i) j = a := by rw [hu, if_neg (by omega), if_neg (by omega), if_neg (by omega), if_neg (by omega), if_pos (by omega)]
        have d2 : z (86 + 10 * c + 2 * j + i) = a := by rw [hs, if_neg (by omega), if_neg (by omega), if_neg (by omega), if_neg (by omega), if_pos (by omega)]
        exact d1.trans d2.symm
      · skip
        have d1 : u (13 + 20 + 15 * c + i) j = v (13 + 20 + 15 * c + i) j := by rw [hu, if_neg (by omega), if_neg (by omega), if_neg (by omega), if_neg (by omega), if_neg (by omega), if_neg (by omega)]
        have d2 : z (86 + 10 * c + 2 * j + i) = s (86 + 10 * c + 2 * j + i) := by rw [hs, if_neg (by omega), if_neg (by omega), if_neg (by omega), if_neg (by omega), if_neg (by omega), if_neg (by omega)]
        exact d1.trans ((hR _ _ _ (lk_o hc (by omega) hi hj (by omega))).trans d2.symm)
  · have d1 : u (13 + 23 + 15 * c + i) j = v (13 + 23 + 15 * c + i) j := by rw [hu, if_neg (by omega), if_neg (by omega), if_neg (by omega), if_neg (by omega), if_neg (by omega), if_neg (by omega)]
    have d2 : z (308 + 48 * c + 24 * i + j) = s (308 + 48 * c + 24 * i + j) := by rw [hs, if_neg (by omega), if_neg (by omega), if_neg (by omega), if_neg (by omega), if_neg (by omega), if_neg (by omega)]
    exact d1.trans ((hR _ _ _ (lk_l hc (by omega) hi hj)).trans d2.symm)
  · have a38 := A38 c hc
    have d1 : u (13 + 26 + 15 * c + t) j = v (13 + 26 + 15 * c + t) j := by rw [hu, if_neg (by omega), if_neg (by omega), if_neg (by omega), if_neg (by omega), if_neg (by omega), if_neg (by omega)]
    have d2 : z (158 + 25 * c + 5 * t + j) = s (158 + 25 * c + 5 * t + j) := by rw [hs, if_neg (by omega), if_neg (by omega), if_neg (by omega), if_neg (by omega), if_neg (by omega), if_neg (by omega)]
    exact d1.trans ((hR _ _ _ (lk_t hc (by omega) ht (by omega) hj)).trans d2.symm)

set_option maxHeartbeats 4000000 in
theorem RL_yes0 {v u : Nat → Nat → Int32} {s z : Nat → Int32} {X R : Nat} {x y g a w : Int32} (hX : X < 6) (hR5 : R < 5) (hn : (s (36 + 7 * X)).toInt = (R : Int)) (hx : y.toInt = (s (36 + 7 * X)).toInt + 1) (hu : ∀ k j : Nat, u k j = if k = 29 + 15 * X ∧ j = 1 then w else if k = 29 + 15 * X ∧ j = 0 then 1 else if k = 29 + 15 * X ∧ j = 2 then y else if k = 33 + 15 * X + 1 ∧ j = R then g else if k = 33 + 15 * X + 0 ∧ j = R then a else if k = 31 + 15 * X ∧ j = 0 then x else v k j) (hs : ∀ n : Nat, z n = if n = 35 + 7 * X then w else if n = 34 + 7 * X then 1 else if n = 75 + 2 * X then -5 else if n = 74 + 2 * X then -5 else if n = 36 + 7 * X then y else if n = 87 + 10 * X + 2 * R then g else if n = 86 + 10 * X + 2 * R then a else if n = 74 + 2 * X then x else s n) (hR : RLk 13 v s) : RLk 13 u z := by
  have A0 : (z 0).toInt = (s 0).toInt := by rw [hs, if_neg (by omega), if_neg (by omega), if_neg (by omega), if_neg (by omega), if_neg (by omega), if_neg (by omega), if_neg (by omega), if_neg (by omega)]
  have A1 : (z 1).toInt = (s 1).toInt := by rw [hs, if_neg (by omega), if_neg (by omega), if_neg (by omega), if_neg (by omega), if_neg (by omega), if_neg (by omega), if_neg (by omega), if_neg (by omega)]
  have A2 : (z 2).toInt = (s 2).toInt := by rw [hs, if_neg (by omega), if_neg (by omega), if_neg (by omega), if_neg (by omega), if_neg (by omega), if_neg (by omega), if_neg (by omega), if_neg (by omega)]
  have A36 : ∀ c : Nat, c < 6 → (z (36 + 7 * c)).toInt = (s (36 + 7 * c)).toInt ∨ (c = X ∧ (z (36 + 7 * c)).toInt = (s (36 + 7 * c)).toInt + 1) := fun c hc => by by_cases q : c = X; subst q; refine Or.inr ⟨rfl, ?_⟩; rw [hs, if_neg (by omega), if_neg (by omega), if_neg (by omega), if_neg (by omega), if_pos rfl]; exact hx; refine Or.inl ?_; rw [hs, if_neg (by omega), if_neg (by omega), if_neg (by omega), if_neg (by omega), if_neg (by omega), if_neg (by omega), if_neg (by omega), if_neg (by omega)]
  have A38 : ∀ c : Nat, c < 6 → (z (38 + 7 * c)).toInt = (s (38 + 7 * c)).toInt := fun c hc => by rw [hs, if_neg (by omega), if_neg (by omega), if_neg (by omega), if_neg (by omega), if_neg (by omega), if_neg (by omega), if_neg (by omega), if_neg (by omega)]
  intro k j n h
  unfold lk at h
  rcases h with ⟨rfl, hj, rfl⟩ | ⟨p, hp, ha, hj, rfl, rfl⟩ | ⟨m, hm, ha, hj, rfl, rfl⟩ | ⟨m, hm, ha, rfl, rfl, rfl⟩ | ⟨c, hc, ha, rfl, rfl, rfl⟩ | ⟨c, hc, ha, rfl, rfl, rfl⟩ | ⟨c, hc, ha, rfl, rfl, rfl⟩ | ⟨c, hc, ha, rfl, rfl, rfl⟩ | ⟨c, hc, ha, hj, rfl, rfl⟩ | ⟨c, i, hc, ha, hi, hj, hr, rfl, rfl⟩ | ⟨c, i, hc, ha, hi, hj, rfl, rfl⟩ | ⟨c, t, hc, ha, ht, hr, hj, rfl, rfl⟩
  · have d1 : u (13) n = v (13) n := by rw [hu, if_neg (by omega), if_neg (by omega), if_neg (by omega), if_neg (by omega), if_neg (by omega), if_neg (by omega)]
    have d2 : z (n) = s (n) := by rw [hs, if_neg (by omega), if_neg (by omega), if_neg (by omega), if_neg (by omega), if_neg (by omega), if_neg (by omega), if_neg (by omega), if_neg (by omega)]
    exact d1.trans ((hR _ _ _ (lk_a hj)).trans d2.symm)
  · have d1 : u (13 + 4 + p) j = v (13 + 4 + p) j := by rw [hu, if_neg (by omega), if_neg (by omega), if_neg (by omega), if_neg (by omega), if_neg (by omega), if_neg (by omega)]
    have d2 : z (4 + 2 * p + j) = s (4 + 2 * p + j) := by rw [hs, if_neg (by omega), if_neg (by omega), if_neg (by omega), if_neg (by omega), if_neg (by omega), if_neg (by omega), if_neg (by omega), if_neg (by omega)]
    exact d1.trans ((hR _ _ _ (lk_p hp (by omega) hj)).trans d2.symm)
  · have d1 : u (13 + 12 + m) j = v (13 + 12 + m) j := by rw [hu, if_neg (by omega), if_neg (by omega), if_neg (by omega), if_neg (by omega), if_neg (by omega), if_neg (by omega)]
    have d2 : z (20 + 2 * m + j) = s (20 + 2 * m + j) := by rw [hs, if_neg (by omega), if_neg (by omega), if_neg (by omega), if_neg (by omega), if_neg (by omega), if_neg (by omega), if_neg (by omega), if_neg (by omega)]
    exact d1.trans ((hR _ _ _ (lk_m hm (by omega) hj)).trans d2.symm)
  · have d1 : u (13 + 12 + m) 2 = v (13 + 12 + m) 2 := by rw [hu, if_neg (by omega), if_neg (by omega), if_neg (by omega), if_neg (by omega), if_neg (by omega), if_neg (by omega)]
    have d2 : z (28 + m) = s (28 + m) := by rw [hs, if_neg (by omega), if_neg (by omega), if_neg (by omega), if_neg (by omega), if_neg (by omega), if_neg (by omega), if_neg (by omega), if_neg (by omega)]
    exact d1.trans ((hR _ _ _ (lk_k_ hm (by omega))).trans d2.symm)
  · by_cases e0 : 13 + 16 + 15 * c = 29 + 15 * X ∧ 0 = 0
    · have d1 : u (13 + 16 + 15 * c) 0 = 1 := by rw [hu, if_neg (by omega), if_pos (by omega)]
      have d2 : z (34 + 7 * c) = 1 := by rw [hs, if_neg (by omega), if_pos (by omega)]
      exact d1.trans d2.symm
    · skip
      have d1 : u (13 + 16 + 15 * c) 0 = v (13 + 16 + 15 * c) 0 := by rw [hu, if_neg (by omega), if_neg (by omega), if_neg (by omega), if_neg (by omega), if_neg (by omega), if_neg (by omega)]
      have d2 : z (34 + 7 * c) = s (34 + 7 * c) := by rw [hs, if_neg (by omega), if_neg (by omega), if_neg (by omega), if_neg (by omega), if_neg (by omega), if_neg (by omega), if_neg (by omega), if_neg (by omega)]
      exact d1.trans ((hR _ _ _ (lk_c0 hc (by omega))).trans d2.symm)
  · by_cases e0 : 13 + 16 + 15 * c = 29 + 15 * X ∧ 2 = 2
    · have d1 : u (13 + 16 + 15 * c) 2 = y := by rw [hu, if_neg (by omega), if_neg (by omega), if_pos (by omega)]
      have d2 : z (36 + 7 * c) = y := by rw [hs, if_neg (by omega), if_neg (by omega), if_neg (by omega), if_neg (by omega), if_pos (by omega)]
      exact d1.trans d2.symm
    · skip
      have d1 : u (13 + 16 + 15 * c) 2 = v (13 + 16 + 15 * c) 2 := by rw [hu, if_neg (by omega), if_neg (by omega), if_neg (by omega), if_neg (by omega), if_neg (by omega), if_neg (by omega)]
      have d2 : z (36 + 7 * c) = s (36 + 7 * c) := by rw [hs, if_neg (by omega), if_neg (by omega), if_neg (by omega), if_neg (by omega), if_neg (by omega), if_neg (by omega), if_neg (by omega), if_neg (by omega)]
      exact d1.trans ((hR _ _ _ (lk_c2 hc (by omega))).trans d2.symm)
  · have d1 : u (13 + 16 + 15 * c) 3 = v (13 + 16 + 15 * c) 3 := by rw [hu, if_neg (by omega), if_neg (by omega), if_neg (by omega), if_neg (by omega), if_neg (by omega), if_neg (by omega)]
    have d2 : z (37 + 7 * c) = s (37 + 7 * c) := by rw [hs, if_neg (by omega), if_neg (by omega), if_neg (by omega), if_neg (by omega), if_neg (by omega), if_neg (by omega), if_neg (by omega), if_neg (by omega)]
    exact d1.trans ((hR _ _ _ (lk_c3 hc (by omega))).trans d2.symm)
  · have d1 : u (13 + 16 + 15 * c) 5 = v (13 + 16 + 15 * c) 5 := by rw [hu, if_neg (by omega), if_neg (by omega), if_neg (by omega), if_neg (by omega), if_neg (by omega), if_neg (by omega)]
    have d2 : z (38 + 7 * c) = s (38 + 7 * c) := by rw [hs, if_neg (by omega), if_neg (by omega), if_neg (by omega), if_neg (by omega), if_neg (by omega), if_neg (by omega), if_neg (by omega), if_neg (by omega)]
    exact d1.trans ((hR _ _ _ (lk_c5 hc (by omega))).trans d2.symm)
  · have d1 : u (13 + 17 + 15 * c) j = v (13 + 17 + 15 * c) j := by rw [hu, if_neg (by omega), if_neg (by omega), if_neg (by omega), if_neg (by omega), if_neg (by omega), if_neg (by omega)]
    have d2 : z (32 + 7 * c + j) = s (32 + 7 * c + j) := by rw [hs, if_neg (by omega), if_neg (by omega), if_neg (by omega), if_neg (by omega), if_neg (by omega), if_neg (by omega), if_neg (by omega), if_neg (by omega)]
    exact d1.trans ((hR _ _ _ (lk_q hc (by omega) hj)).trans d2.symm)
  · have a36 := A36 c hc
    have hnc : c = X → (s (36 + 7 * c)).toInt = (R : Int) := fun q => by rw [q]; exact hn
    by_cases e0 : 13 + 20 + 15 * c + i = 33 + 15 * X + 1 ∧ j = R
    · have d1 : u (13 + 20 + 15 * c + i) j = g := by rw [hu, if_neg (by omega), if_neg (by omega), if_neg (by omega), if_pos (by omega)]
      have d2 : z (86 + 10 * c + 2 * j + i) = g := by rw [hs, if_neg (by omega), if_neg (by omega), if_neg (by omega), if_neg (by omega), if_neg (by omega), if_pos (by omega)]
      exact d1.trans d2.symm
    · skip
      by_cases e1 : 13 + 20 + 15 * c + i = 33 + 15 * X + 0 ∧ j = R
      · have d1 : u (13 + 20 + 15 * c + i) j = a := by rw [hu, if_neg (by omega), if_neg (by omega), if_neg (by omega), if_neg (by omega), if_pos (by omega)]
        have d2 : z (86 + 10 * c + 2 * j + i) = a := by rw [hs, if_neg (by omega), if_neg (by omega), if_neg (by omega), if_neg (by omega), if_neg (by omega), if_neg (by omega), if_pos (by omega)]
        exact d1.trans d2.symm
      · skip
        have d1 : u (13 + 20 + 15 * c + i) j = v (13 + 20 + 15 * c + i) j := by rw [hu, if_neg (by omega), if_neg (by omega), if_neg (by omega), if_neg (by omega), if_neg (by omega), if_neg (by omega)]
        have d2 : z (86 + 10 * c + 2 * j + i) = s (86 + 10 * c + 2 * j + i) := by rw [hs, if_neg (by omega), if_neg (by omega), if_neg (by omega), if_neg (by omega), if_neg (by omega), if_neg (by omega), if_neg (by omega), if_neg (by omega)]
        exact d1.trans ((hR _ _ _ (lk_o hc (by omega) hi hj (by omega))).trans d2.symm)
  · have d1 : u (13 + 23 + 15 * c + i) j = v (13 + 23 + 15 * c + i) j := by rw [hu, if_neg (by omega), if_neg (by omega), if_neg (by omega), if_neg (by omega), if_neg (by omega), if_neg (by omega)]
    have d2 : z (308 + 48 * c + 24 * i + j) = s (308 + 48 * c + 24 * i + j) := by rw [hs, if_neg (by omega), if_neg (by omega), if_neg (by omega), if_neg (by omega), if_neg (by omega), if_neg (by omega), if_neg (by omega), if_neg (by omega)]
    exact d1.trans ((hR _ _ _ (lk_l hc (by omega) hi hj)).trans d2.symm)
  · have a38 := A38 c hc
    have d1 : u (13 + 26 + 15 * c + t) j = v (13 + 26 + 15 * c + t) j := by rw [hu, if_neg (by omega), if_neg (by omega), if_neg (by omega), if_neg (by omega), if_neg (by omega), if_neg (by omega)]
    have d2 : z (158 + 25 * c + 5 * t + j) = s (158 + 25 * c + 5 * t + j) := by rw [hs, if_neg (by omega), if_neg (by omega), if_neg (by omega), if_neg (by omega), if_neg (by omega), if_neg (by omega), if_neg (by omega), if_neg (by omega)]
    exact d1.trans ((hR _ _ _ (lk_t hc (by omega) ht (by omega) hj)).trans d2.symm)

set_option maxHeartbeats 4000000 in
theorem RX_box0 {v u : Nat → Nat → Int32} {s z : Nat → Int32} {X : Nat} {x : Int32} (hX : X < 6) (hx : 0 ≤ x.toInt ∧ x.toInt ≤ 100) (hu : ∀ k j : Nat, u k j = if k = 31 + 15 * X ∧ j = 0 then x else v k j) (hs : ∀ n : Nat, z n = if n = 74 + 2 * X then x else s n) (h : RX 13 v s) : RX 13 u z := by
  intro c hc hac
  have a2 : z 2 = s 2 := by rw [hs, if_neg (by omega)]
  have hh := h c hc (by rw [a2] at hac; exact hac)
  by_cases hq : c = X
  · subst hq
    have g0 : u (13 + 16 + 15 * c) 1 = v (13 + 16 + 15 * c) 1 := by rw [hu, if_neg (by omega)]
    have g1 : u (13 + 18 + 15 * c) 0 = x := by rw [hu, if_pos (by omega)]
    have g2 : u (13 + 18 + 15 * c) 1 = v (13 + 18 + 15 * c) 1 := by rw [hu, if_neg (by omega)]
    have g3 : z (34 + 7 * c) = s (34 + 7 * c) := by rw [hs, if_neg (by omega)]
    have g4 : z (35 + 7 * c) = s (35 + 7 * c) := by rw [hs, if_neg (by omega)]
    have g5 : z (74 + 2 * c) = x := by rw [hs, if_pos (by omega)]
    have g6 : z (75 + 2 * c) = s (75 + 2 * c) := by rw [hs, if_neg (by omega)]
    rw [g0, g1, g2, g3, g4, g5, g6]
    obtain ⟨r1, r2, r3, r4⟩ := hh
    exact ⟨r1, r2, r3, fun q => ⟨Or.inr ⟨hx.1, hx.2, rfl⟩, (r4 q).2⟩⟩
  · have d1 : u (13 + 16 + 15 * c) 1 = v (13 + 16 + 15 * c) 1 := by rw [hu, if_neg (by omega)]
    have d2 : u (13 + 18 + 15 * c) 0 = v (13 + 18 + 15 * c) 0 := by rw [hu, if_neg (by omega)]
    have d3 : u (13 + 18 + 15 * c) 1 = v (13 + 18 + 15 * c) 1 := by rw [hu, if_neg (by omega)]
    have f0 : z (34 + 7 * c) = s (34 + 7 * c) := by rw [hs, if_neg (by omega)]
    have f1 : z (35 + 7 * c) = s (35 + 7 * c) := by rw [hs, if_neg (by omega)]
    have f2 : z (74 + 2 * c) = s (74 + 2 * c) := by rw [hs, if_neg (by omega)]
    have f3 : z (75 + 2 * c) = s (75 + 2 * c) := by rw [hs, if_neg (by omega)]
    rw [d1, d2, d3, f0, f1, f2, f3]
    exact hh

set_option maxHeartbeats 4000000 in
theorem RX_no0 {v u : Nat → Nat → Int32} {s z : Nat → Int32} {X R : Nat} {x y g a : Int32} (hX : X < 6) (hR5 : R < 5) (hu : ∀ k j : Nat, u k j = if k = 31 + 15 * X ∧ j = 1 then -1 else if k = 31 + 15 * X ∧ j = 0 then -1 else if k = 29 + 15 * X ∧ j = 2 then y else if k = 33 + 15 * X + 1 ∧ j = R then g else if k = 33 + 15 * X + 0 ∧ j = R then a else if k = 31 + 15 * X ∧ j = 0 then x else v k j) (hs : ∀ n : Nat, z n = if n = 75 + 2 * X then -5 else if n = 74 + 2 * X then -5 else if n = 36 + 7 * X then y else if n = 87 + 10 * X + 2 * R then g else if n = 86 + 10 * X + 2 * R then a else if n = 74 + 2 * X then x else s n) (h : RX 13 v s) : RX 13 u z := by
  intro c hc hac
  have a2 : z 2 = s 2 := by rw [hs, if_neg (by omega), if_neg (by omega), if_neg (by omega), if_neg (by omega), if_neg (by omega), if_neg (by omega)]
  have hh := h c hc (by rw [a2] at hac; exact hac)
  by_cases hq : c = X
  · subst hq
    have g0 : u (13 + 16 + 15 * c) 1 = v (13 + 16 + 15 * c) 1 := by rw [hu, if_neg (by omega), if_neg (by omega), if_neg (by omega), if_neg (by omega), if_neg (by omega), if_neg (by omega)]
    have g1 : u (13 + 18 + 15 * c) 0 = -1 := by rw [hu, if_neg (by omega), if_pos (by omega)]
    have g2 : u (13 + 18 + 15 * c) 1 = -1 := by rw [hu, if_pos (by omega)]
    have g3 : z (34 + 7 * c) = s (34 + 7 * c) := by rw [hs, if_neg (by omega), if_neg (by omega), if_neg (by omega), if_neg (by omega), if_neg (by omega), if_neg (by omega)]
    have g4 : z (35 + 7 * c) = s (35 + 7 * c) := by rw [hs, if_neg (by omega), if_neg (by omega), if_neg (by omega), if_neg (by omega), if_neg (by omega), if_neg (by omega)]
    have g5 : z (74 + 2 * c) = -5 := by rw [hs, if_neg (by omega), if_pos (by omega)]
    have g6 : z (75 + 2 * c) = -5 := by rw [hs, if_pos (by omega)]
    rw [g0, g1, g2, g3, g4, g5, g6]
    obtain ⟨r1, r2, r3, r4⟩ := hh
    exact ⟨r1, r2, r3, fun q => ⟨Or.inl ⟨by decide, by decide⟩, Or.inl ⟨by decide, by decide⟩⟩⟩
  · have d1 : u (13 + 16 + 15 * c) 1 = v (13 + 16 + 15 * c) 1 := by rw [hu, if_neg (by omega), if_neg (by omega), if_neg (by omega), if_neg (by omega), if_neg (by omega), if_neg (by omega)]
    have d2 : u (13 + 18 + 15 * c) 0 = v (13 + 18 + 15 * c) 0 := by rw [hu, if_neg (by omega), if_neg (by omega), if_neg (by omega), if_neg (by omega), if_neg (by omega), if_neg (by omega)]
    have d3 : u (13 + 18 + 15 * c) 1 = v (13 + 18 + 15 * c) 1 := by rw [hu, if_neg (by omega), if_neg (by omega), if_neg (by omega), if_neg (by omega), if_neg (by omega), if_neg (by omega)]
    have f0 : z (34 + 7 * c) = s (34 + 7 * c) := by rw [hs, if_neg (by omega), if_neg (by omega), if_neg (by omega), if_neg (by omega), if_neg (by omega), if_neg (by omega)]
    have f1 : z (35 + 7 * c) = s (35 + 7 * c) := by rw [hs, if_neg (by omega), if_neg (by omega), if_neg (by omega), if_neg (by omega), if_neg (by omega), if_neg (by omega)]
    have f2 : z (74 + 2 * c) = s (74 + 2 * c) := by rw [hs, if_neg (by omega), if_neg (by omega), if_neg (by omega), if_neg (by omega), if_neg (by omega), if_neg (by omega)]
    have f3 : z (75 + 2 * c) = s (75 + 2 * c) := by rw [hs, if_neg (by omega), if_neg (by omega), if_neg (by omega), if_neg (by omega), if_neg (by omega), if_neg (by omega)]
    rw [d1, d2, d3, f0, f1, f2, f3]
    exact hh

set_option maxHeartbeats 4000000 in
theorem RX_yes0 {v u : Nat → Nat → Int32} {s z : Nat → Int32} {X R : Nat} {x y g a w : Int32} (hX : X < 6) (hR5 : R < 5) (hu : ∀ k j : Nat, u k j = if k = 29 + 15 * X ∧ j = 1 then w else if k = 29 + 15 * X ∧ j = 0 then 1 else if k = 29 + 15 * X ∧ j = 2 then y else if k = 33 + 15 * X + 1 ∧ j = R then g else if k = 33 + 15 * X + 0 ∧ j = R then a else if k = 31 + 15 * X ∧ j = 0 then x else v k j) (hs : ∀ n : Nat, z n = if n = 35 + 7 * X then w else if n = 34 + 7 * X then 1 else if n = 75 + 2 * X then -5 else if n = 74 + 2 * X then -5 else if n = 36 + 7 * X then y else if n = 87 + 10 * X + 2 * R then g else if n = 86 + 10 * X + 2 * R then a else if n = 74 + 2 * X then x else s n) (h : RX 13 v s) : RX 13 u z := by
  intro c hc hac
  have a2 : z 2 = s 2 := by rw [hs, if_neg (by omega), if_neg (by omega), if_neg (by omega), if_neg (by omega), if_neg (by omega), if_neg (by omega), if_neg (by omega), if_neg (by omega)]
  have hh := h c hc (by rw [a2] at hac; exact hac)
  by_cases hq : c = X
  · subst hq
    have g0 : u (13 + 16 + 15 * c) 1 = w := by rw [hu, if_pos (by omega)]
    have g1 : u (13 + 18 + 15 * c) 0 = x := by rw [hu, if_neg (by omega), if_neg (by omega), if_neg (by omega), if_neg (by omega), if_neg (by omega), if_pos (by omega)]
    have g2 : u (13 + 18 + 15 * c) 1 = v (13 + 18 + 15 * c) 1 := by rw [hu, if_neg (by omega), if_neg (by omega), if_neg (by omega), if_neg (by omega), if_neg (by omega), if_neg (by omega)]
    have g3 : z (34 + 7 * c) = 1 := by rw [hs, if_neg (by omega), if_pos (by omega)]
    have g4 : z (35 + 7 * c) = w := by rw [hs, if_pos (by omega)]
    have g5 : z (74 + 2 * c) = -5 := by rw [hs, if_neg (by omega), if_neg (by omega), if_neg (by omega), if_pos (by omega)]
    have g6 : z (75 + 2 * c) = -5 := by rw [hs, if_neg (by omega), if_neg (by omega), if_pos (by omega)]
    rw [g0, g1, g2, g3, g4, g5, g6]
    have k1 : (1 : Int32).toInt = 1 := by decide
    exact ⟨by omega, fun _ => rfl, fun q => absurd k1 q, fun q => absurd q (by omega)⟩
  · have d1 : u (13 + 16 + 15 * c) 1 = v (13 + 16 + 15 * c) 1 := by rw [hu, if_neg (by omega), if_neg (by omega), if_neg (by omega), if_neg (by omega), if_neg (by omega), if_neg (by omega)]
    have d2 : u (13 + 18 + 15 * c) 0 = v (13 + 18 + 15 * c) 0 := by rw [hu, if_neg (by omega), if_neg (by omega), if_neg (by omega), if_neg (by omega), if_neg (by omega), if_neg (by omega)]
    have d3 : u (13 + 18 + 15 * c) 1 = v (13 + 18 + 15 * c) 1 := by rw [hu, if_neg (by omega), if_neg (by omega), if_neg (by omega), if_neg (by omega), if_neg (by omega), if_neg (by omega)]
    have f0 : z (34 + 7 * c) = s (34 + 7 * c) := by rw [hs, if_neg (by omega), if_neg (by omega), if_neg (by omega), if_neg (by omega), if_neg (by omega), if_neg (by omega), if_neg (by omega), if_neg (by omega)]
    have f1 : z (35 + 7 * c) = s (35 + 7 * c) := by rw [hs, if_neg (by omega), if_neg (by omega), if_neg (by omega), if_neg (by omega), if_neg (by omega), if_neg (by omega), if_neg (by omega), if_neg (by omega)]
    have f2 : z (74 + 2 * c) = s (74 + 2 * c) := by rw [hs, if_neg (by omega), if_neg (by omega), if_neg (by omega), if_neg (by omega), if_neg (by omega), if_neg (by omega), if_neg (by omega), if_neg (by omega)]
    have f3 : z (75 + 2 * c) = s (75 + 2 * c) := by rw [hs, if_neg (by omega), if_neg (by omega), if_neg (by omega), if_neg (by omega), if_neg (by omega), if_neg (by omega), if_neg (by omega), if_neg (by omega)]
    rw [d1, d2, d3, f0, f1, f2, f3]
    exact hh

set_option maxHeartbeats 4000000 in
theorem T_offer_0 {n r r2 x0 x1 : Int32} {v u v2 u2 : Nat → Nat → Int32} (hI : Iv v) (hQ : Ir v2) (h : RR n v v2) (p : (¬ ((0 ≤ x0.toInt ∧ x0.toInt < (v 13 2).toInt) ∧ 0 ≤ x1.toInt ∧ x1.toInt ≤ 100) → r = -1 ∧ u = v) ∧ (((0 ≤ x0.toInt ∧ x0.toInt < (v 13 2).toInt) ∧ 0 ≤ x1.toInt ∧ x1.toInt ≤ 100) ∧ (v (29 + 15 * x0.toNatClampNeg) 0).toInt ≠ 0 → r = -4 ∧ u = v) ∧ (((0 ≤ x0.toInt ∧ x0.toInt < (v 13 2).toInt) ∧ 0 ≤ x1.toInt ∧ x1.toInt ≤ 100) ∧ (v (29 + 15 * x0.toNatClampNeg) 0).toInt = 0 ∧ (v (31 + 15 * x0.toNatClampNeg) 0).toInt ≠ -1 → r = -3 ∧ u = v) ∧ (((0 ≤ x0.toInt ∧ x0.toInt < (v 13 2).toInt) ∧ 0 ≤ x1.toInt ∧ x1.toInt ≤ 100) ∧ (v (29 + 15 * x0.toNatClampNeg) 0).toInt = 0 ∧ (v (31 + 15 * x0.toNatClampNeg) 0).toInt = -1 ∧ 5 ≤ (v (29 + 15 * x0.toNatClampNeg) 2).toInt → r = -2 ∧ u = v) ∧ (((0 ≤ x0.toInt ∧ x0.toInt < (v 13 2).toInt) ∧ 0 ≤ x1.toInt ∧ x1.toInt ≤ 100) ∧ (v (29 + 15 * x0.toNatClampNeg) 0).toInt = 0 ∧ (v (31 + 15 * x0.toNatClampNeg) 0).toInt = -1 ∧ (v (29 + 15 * x0.toNatClampNeg) 2).toInt < 5 ∧ (v (31 + 15 * x0.toNatClampNeg) 1).toInt = -1 → r = 0 ∧ (∀ k j : Nat, u k j = if k = 31 + 15 * x0.toNatClampNeg ∧ j = 0 then x1 else v k j)) ∧ (((0 ≤ x0.toInt ∧ x0.toInt < (v 13 2).toInt) ∧ 0 ≤ x1.toInt ∧ x1.toInt ≤ 100) ∧ (v (29 + 15 * x0.toNatClampNeg) 0).toInt = 0 ∧ (v (31 + 15 * x0.toNatClampNeg) 0).toInt = -1 ∧ (v (29 + 15 * x0.toNatClampNeg) 2).toInt < 5 ∧ (v (31 + 15 * x0.toNatClampNeg) 1).toInt ≠ -1 ∧ (v (31 + 15 * x0.toNatClampNeg) 1).toInt < x1.toInt → r = 2 ∧ (∀ k j : Nat, u k j = if k = 31 + 15 * x0.toNatClampNeg ∧ j = 1 then -1 else if k = 31 + 15 * x0.toNatClampNeg ∧ j = 0 then -1 else if k = 29 + 15 * x0.toNatClampNeg ∧ j = 2 then v (29 + 15 * x0.toNatClampNeg) 2 + 1 else if k = 33 + 15 * x0.toNatClampNeg + 1 ∧ j = (v (29 + 15 * x0.toNatClampNeg) 2).toNatClampNeg then v (31 + 15 * x0.toNatClampNeg) 1 else if k = 33 + 15 * x0.toNatClampNeg + 0 ∧ j = (v (29 + 15 * x0.toNatClampNeg) 2).toNatClampNeg then x1 else if k = 31 + 15 * x0.toNatClampNeg ∧ j = 0 then x1 else v k j)) ∧ (((0 ≤ x0.toInt ∧ x0.toInt < (v 13 2).toInt) ∧ 0 ≤ x1.toInt ∧ x1.toInt ≤ 100) ∧ (v (29 + 15 * x0.toNatClampNeg) 0).toInt = 0 ∧ (v (31 + 15 * x0.toNatClampNeg) 0).toInt = -1 ∧ (v (29 + 15 * x0.toNatClampNeg) 2).toInt < 5 ∧ (v (31 + 15 * x0.toNatClampNeg) 1).toInt ≠ -1 ∧ x1.toInt ≤ (v (31 + 15 * x0.toNatClampNeg) 1).toInt → r = 1 ∧ (∀ k j : Nat, u k j = if k = 29 + 15 * x0.toNatClampNeg ∧ j = 1 then (x1 + v (31 + 15 * x0.toNatClampNeg) 1) / 2 else if k = 29 + 15 * x0.toNatClampNeg ∧ j = 0 then 1 else if k = 29 + 15 * x0.toNatClampNeg ∧ j = 2 then v (29 + 15 * x0.toNatClampNeg) 2 + 1 else if k = 33 + 15 * x0.toNatClampNeg + 1 ∧ j = (v (29 + 15 * x0.toNatClampNeg) 2).toNatClampNeg then v (31 + 15 * x0.toNatClampNeg) 1 else if k = 33 + 15 * x0.toNatClampNeg + 0 ∧ j = (v (29 + 15 * x0.toNatClampNeg) 2).toNatClampNeg then x1 else if k = 31 + 15 * x0.toNatClampNeg ∧ j = 0 then x1 else v k j))) (q : (¬ ((0 ≤ x0.toInt ∧ x0.toInt < (v2 1 2).toInt) ∧ 0 ≤ x1.toInt ∧ x1.toInt ≤ 100) → r2 = -1 ∧ u2 = v2) ∧ (((0 ≤ x0.toInt ∧ x0.toInt < (v2 1 2).toInt) ∧ 0 ≤ x1.toInt ∧ x1.toInt ≤ 100) ∧ (v2 1 (34 + 7 * x0.toNatClampNeg)).toInt ≠ 0 → r2 = -4 ∧ u2 = v2) ∧ (((0 ≤ x0.toInt ∧ x0.toInt < (v2 1 2).toInt) ∧ 0 ≤ x1.toInt ∧ x1.toInt ≤ 100) ∧ (v2 1 (34 + 7 * x0.toNatClampNeg)).toInt = 0 ∧ 0 ≤ (v2 1 (74 + 2 * x0.toNatClampNeg)).toInt → r2 = -3 ∧ u2 = v2) ∧ (((0 ≤ x0.toInt ∧ x0.toInt < (v2 1 2).toInt) ∧ 0 ≤ x1.toInt ∧ x1.toInt ≤ 100) ∧ (v2 1 (34 + 7 * x0.toNatClampNeg)).toInt = 0 ∧ (v2 1 (74 + 2 * x0.toNatClampNeg)).toInt < 0 ∧ (v2 1 (36 + 7 * x0.toNatClampNeg)).toInt = 5 → r2 = -2 ∧ u2 = v2) ∧ (((0 ≤ x0.toInt ∧ x0.toInt < (v2 1 2).toInt) ∧ 0 ≤ x1.toInt ∧ x1.toInt ≤ 100) ∧ (v2 1 (34 + 7 * x0.toNatClampNeg)).toInt = 0 ∧ (v2 1 (74 + 2 * x0.toNatClampNeg)).toInt < 0 ∧ (v2 1 (36 + 7 * x0.toNatClampNeg)).toInt ≠ 5 ∧ (v2 1 (75 + 2 * x0.toNatClampNeg)).toInt < 0 → r2 = 0 ∧ (∀ n : Nat, u2 1 n = if n = 74 + 2 * x0.toNatClampNeg then x1 else v2 1 n) ∧ (∀ k : Nat, k ≠ 1 → u2 k = v2 k)) ∧ (((0 ≤ x0.toInt ∧ x0.toInt < (v2 1 2).toInt) ∧ 0 ≤ x1.toInt ∧ x1.toInt ≤ 100) ∧ (v2 1 (34 + 7 * x0.toNatClampNeg)).toInt = 0 ∧ (v2 1 (74 + 2 * x0.toNatClampNeg)).toInt < 0 ∧ (v2 1 (36 + 7 * x0.toNatClampNeg)).toInt ≠ 5 ∧ 0 ≤ (v2 1 (75 + 2 * x0.toNatClampNeg)).toInt ∧ (v2 1 (75 + 2 * x0.toNatClampNeg)).toInt < x1.toInt → r2 = 2 ∧ (∀ n : Nat, u2 1 n = if n = 75 + 2 * x0.toNatClampNeg then -5 else if n = 74 + 2 * x0.toNatClampNeg then -5 else if n = 36 + 7 * x0.toNatClampNeg then v2 1 (36 + 7 * x0.toNatClampNeg) + 1 else if n = 87 + 10 * x0.toNatClampNeg + 2 * (v2 1 (36 + 7 * x0.toNatClampNeg)).toNatClampNeg then v2 1 (75 + 2 * x0.toNatClampNeg) else if n = 86 + 10 * x0.toNatClampNeg + 2 * (v2 1 (36 + 7 * x0.toNatClampNeg)).toNatClampNeg then x1 else if n = 74 + 2 * x0.toNatClampNeg then x1 else v2 1 n) ∧ (∀ k : Nat, k ≠ 1 → u2 k = v2 k)) ∧ (((0 ≤ x0.toInt ∧ x0.toInt < (v2 1 2).toInt) ∧ 0 ≤ x1.toInt ∧ x1.toInt ≤ 100) ∧ (v2 1 (34 + 7 * x0.toNatClampNeg)).toInt = 0 ∧ (v2 1 (74 + 2 * x0.toNatClampNeg)).toInt < 0 ∧ (v2 1 (36 + 7 * x0.toNatClampNeg)).toInt ≠ 5 ∧ 0 ≤ (v2 1 (75 + 2 * x0.toNatClampNeg)).toInt ∧ x1.toInt ≤ (v2 1 (75 + 2 * x0.toNatClampNeg)).toInt → r2 = 1 ∧ (∀ n : Nat, u2 1 n = if n = 35 + 7 * x0.toNatClampNeg then (x1 + v2 1 (75 + 2 * x0.toNatClampNeg)) / 2 else if n = 34 + 7 * x0.toNatClampNeg then 1 else if n = 75 + 2 * x0.toNatClampNeg then -5 else if n = 74 + 2 * x0.toNatClampNeg then -5 else if n = 36 + 7 * x0.toNatClampNeg then v2 1 (36 + 7 * x0.toNatClampNeg) + 1 else if n = 87 + 10 * x0.toNatClampNeg + 2 * (v2 1 (36 + 7 * x0.toNatClampNeg)).toNatClampNeg then v2 1 (75 + 2 * x0.toNatClampNeg) else if n = 86 + 10 * x0.toNatClampNeg + 2 * (v2 1 (36 + 7 * x0.toNatClampNeg)).toNatClampNeg then x1 else if n = 74 + 2 * x0.toNatClampNeg then x1 else v2 1 n) ∧ (∀ k : Nat, k ≠ 1 → u2 k = v2 k))) : r = r2 ∧ RR n u u2 := by
  have e0 : v 13 0 = v2 1 0 := h.1.1 _ _ _ (lk_a (by decide))
  have e1 : v 13 1 = v2 1 1 := h.1.1 _ _ _ (lk_a (by decide))
  have e2 : v 13 2 = v2 1 2 := h.1.1 _ _ _ (lk_a (by decide))
  have e3 : v 13 3 = v2 1 3 := h.1.1 _ _ _ (lk_a (by decide))
  have hb0 := hQ 1 0 8 (by decide)
  have hb1 := hQ 1 1 4 (by decide)
  have hb2 := hQ 1 2 6 (by decide)
  have hb3 := hQ 1 3 6 (by decide)
  rw [e2] at p
  by_cases hC : (0 ≤ x0.toInt ∧ x0.toInt < (v2 1 2).toInt) ∧ 0 ≤ x1.toInt ∧ x1.toInt ≤ 100
  · have zX := t_nn (x := x0) (by omega)
    have hX : x0.toNatClampNeg < 6 := by omega
    have ha : (x0.toNatClampNeg : Int) < (v2 1 2).toInt := by omega
    have ev : v (29 + 15 * x0.toNatClampNeg) 0 = v2 1 (34 + 7 * x0.toNatClampNeg) := h.1.1 _ _ _ (lk_c0 hX ha)
    have ew : v (29 + 15 * x0.toNatClampNeg) 2 = v2 1 (36 + 7 * x0.toNatClampNeg) := h.1.1 _ _ _ (lk_c2 hX ha)
    rw [ev, ew] at p
    have hb := hQ 1 (36 + 7 * x0.toNatClampNeg) 5 (bS_c (by omega) (by omega))
    by_cases hD : (v2 1 (34 + 7 * x0.toNatClampNeg)).toInt = 0
    · obtain ⟨hx0, hx1⟩ := (h.1.2.1 _ hX ha).2.2.2 hD
      have hbx : bxr (v (31 + 15 * x0.toNatClampNeg) 0) (v2 1 (74 + 2 * x0.toNatClampNeg)) := hx0
      have hbo : bxr (v (31 + 15 * x0.toNatClampNeg) 1) (v2 1 (75 + 2 * x0.toNatClampNeg)) := hx1
      rcases hbx with ⟨t1, t2⟩ | ⟨t1, t2, t3⟩
      · by_cases hE : (v2 1 (36 + 7 * x0.toNatClampNeg)).toInt = 5
        · obtain ⟨p1, p2⟩ := p.2.2.2.1 ⟨hC, hD, t1, by omega⟩
          obtain ⟨q1, q2⟩ := q.2.2.2.1 ⟨hC, hD, t2, hE⟩
          rw [p1, q1, p2, q2]
          exact ⟨rfl, h⟩
        · rcases hbo with ⟨o1, o2⟩ | ⟨o1, o2, o3⟩
          · obtain ⟨p1, p2⟩ := p.2.2.2.2.1 ⟨hC, hD, t1, by omega, o1⟩
            obtain ⟨q1, q2, q3⟩ := q.2.2.2.2.1 ⟨hC, hD, t2, hE, o2⟩
            exact ⟨by rw [p1, q1], h.wr q3 (funext fun j => by rw [p2, if_neg (by omega)]) (fun k hk => funext fun j => by rw [p2, if_neg (by omega)]) ⟨RL_box0 hX p2 q2 h.1.1, RX_box0 hX hC.2 p2 q2 h.1.2.1, h.1.2.2.1.cg (by rw [q2, if_neg (by omega)]) (by rw [q2, if_neg (by omega)]) (fun m hm => by rw [q2, if_neg (by omega)]), h.1.2.2.2.cg hb3.2 (by rw [q2, if_neg (by omega)]) (by rw [q2, if_neg (by omega)]) (fun n h1 h2 => by rw [q2, if_neg (by omega)]) (fun c hc => by rw [p2, if_neg (by omega)])⟩⟩
          · rw [o3] at p
            have zR := t_nn (x := v2 1 (36 + 7 * x0.toNatClampNeg)) (by omega)
            have k1 : (1 : Int32).toInt = 1 := by decide
            have hx : (v2 1 (36 + 7 * x0.toNatClampNeg) + 1).toInt = (v2 1 (36 + 7 * x0.toNatClampNeg)).toInt + 1 := by rw [t_add (by rw [k1]; omega), k1]
            rcases Int.lt_or_le (v2 1 (75 + 2 * x0.toNatClampNeg)).toInt x1.toInt with hL | hL
            · obtain ⟨p1, p2⟩ := p.2.2.2.2.2.1 ⟨hC, hD, t1, by omega, by omega, hL⟩
              obtain ⟨q1, q2, q3⟩ := q.2.2.2.2.2.1 ⟨hC, hD, t2, hE, o1, hL⟩
              exact ⟨by rw [p1, q1], h.wr q3 (funext fun j => by rw [p2, if_neg (by omega), if_neg (by omega), if_neg (by omega), if_neg (by omega), if_neg (by omega), if_neg (by omega)]) (fun k hk => funext fun j => by rw [p2, if_neg (by omega), if_neg (by omega), if_neg (by omega), if_neg (by omega), if_neg (by omega), if_neg (by omega)]) ⟨RL_no0 hX (by omega) (by omega) hx p2 q2 h.1.1, RX_no0 hX (by omega) p2 q2 h.1.2.1, h.1.2.2.1.cg (by rw [q2, if_neg (by omega), if_neg (by omega), if_neg (by omega), if_neg (by omega), if_neg (by omega), if_neg (by omega)]) (by rw [q2, if_neg (by omega), if_neg (by omega), if_neg (by omega), if_neg (by omega), if_neg (by omega), if_neg (by omega)]) (fun m hm => by rw [q2, if_neg (by omega), if_neg (by omega), if_neg (by omega), if_neg (by omega), if_neg (by omega), if_neg (by omega)]), h.1.2.2.2.cg hb3.2 (by rw [q2, if_neg (by omega), if_neg (by omega), if_neg (by omega), if_neg (by omega), if_neg (by omega), if_neg (by omega)]) (by rw [q2, if_neg (by omega), if_neg (by omega), if_neg (by omega), if_neg (by omega), if_neg (by omega), if_neg (by omega)]) (fun n h1 h2 => by rw [q2, if_neg (by omega), if_neg (by omega), if_neg (by omega), if_neg (by omega), if_neg (by omega), if_neg (by omega)]) (fun c hc => by rw [p2, if_neg (by omega), if_neg (by omega), if_neg (by omega), if_neg (by omega), if_neg (by omega), if_neg (by omega)])⟩⟩
            · obtain ⟨p1, p2⟩ := p.2.2.2.2.2.2 ⟨hC, hD, t1, by omega, by omega, hL⟩
              obtain ⟨q1, q2, q3⟩ := q.2.2.2.2.2.2 ⟨hC, hD, t2, hE, o1, hL⟩
              exact ⟨by rw [p1, q1], h.wr q3 (funext fun j => by rw [p2, if_neg (by omega), if_neg (by omega), if_neg (by omega), if_neg (by omega), if_neg (by omega), if_neg (by omega)]) (fun k hk => funext fun j => by rw [p2, if_neg (by omega), if_neg (by omega), if_neg (by omega), if_neg (by omega), if_neg (by omega), if_neg (by omega)]) ⟨RL_yes0 hX (by omega) (by omega) hx p2 q2 h.1.1, RX_yes0 hX (by omega) p2 q2 h.1.2.1, h.1.2.2.1.cg (by rw [q2, if_neg (by omega), if_neg (by omega), if_neg (by omega), if_neg (by omega), if_neg (by omega), if_neg (by omega), if_neg (by omega), if_neg (by omega)]) (by rw [q2, if_neg (by omega), if_neg (by omega), if_neg (by omega), if_neg (by omega), if_neg (by omega), if_neg (by omega), if_neg (by omega), if_neg (by omega)]) (fun m hm => by rw [q2, if_neg (by omega), if_neg (by omega), if_neg (by omega), if_neg (by omega), if_neg (by omega), if_neg (by omega), if_neg (by omega), if_neg (by omega)]), h.1.2.2.2.cg hb3.2 (by rw [q2, if_neg (by omega), if_neg (by omega), if_neg (by omega), if_neg (by omega), if_neg (by omega), if_neg (by omega), if_neg (by omega), if_neg (by omega)]) (by rw [q2, if_neg (by omega), if_neg (by omega), if_neg (by omega), if_neg (by omega), if_neg (by omega), if_neg (by omega), if_neg (by omega), if_neg (by omega)]) (fun n h1 h2 => by rw [q2, if_neg (by omega), if_neg (by omega), if_neg (by omega), if_neg (by omega), if_neg (by omega), if_neg (by omega), if_neg (by omega), if_neg (by omega)]) (fun c hc => by rw [p2, if_neg (by omega), if_neg (by omega), if_neg (by omega), if_neg (by omega), if_neg (by omega), if_neg (by omega)])⟩⟩
      · rw [t3] at p
        obtain ⟨p1, p2⟩ := p.2.2.1 ⟨hC, hD, by omega⟩
        obtain ⟨q1, q2⟩ := q.2.2.1 ⟨hC, hD, t1⟩
        rw [p1, q1, p2, q2]
        exact ⟨rfl, h⟩
    · obtain ⟨p1, p2⟩ := p.2.1 ⟨hC, hD⟩
      obtain ⟨q1, q2⟩ := q.2.1 ⟨hC, hD⟩
      rw [p1, q1, p2, q2]
      exact ⟨rfl, h⟩
  · obtain ⟨p1, p2⟩ := p.1 hC
    obtain ⟨q1, q2⟩ := q.1 hC
    rw [p1, q1, p2, q2]
    exact ⟨rfl, h⟩

set_option maxHeartbeats 4000000 in
theorem RL_box1 {v u : Nat → Nat → Int32} {s z : Nat → Int32} {X : Nat} {x : Int32} (hX : X < 6) (hu : ∀ k j : Nat, u k j = if k = 31 + 15 * X ∧ j = 1 then x else v k j) (hs : ∀ n : Nat, z n = if n = 75 + 2 * X then x else s n) (hR : RLk 13 v s) : RLk 13 u z := by
  have A0 : (z 0).toInt = (s 0).toInt := by rw [hs, if_neg (by omega)]
  have A1 : (z 1).toInt = (s 1).toInt := by rw [hs, if_neg (by omega)]
  have A2 : (z 2).toInt = (s 2).toInt := by rw [hs, if_neg (by omega)]
  have A36 : ∀ c : Nat, c < 6 → (z (36 + 7 * c)).toInt = (s (36 + 7 * c)).toInt := fun c hc => by rw [hs, if_neg (by omega)]
  have A38 : ∀ c : Nat, c < 6 → (z (38 + 7 * c)).toInt = (s (38 + 7 * c)).toInt := fun c hc => by rw [hs, if_neg (by omega)]
  intro k j n h
  unfold lk at h
  rcases h with ⟨rfl, hj, rfl⟩ | ⟨p, hp, ha, hj, rfl, rfl⟩ | ⟨m, hm, ha, hj, rfl, rfl⟩ | ⟨m, hm, ha, rfl, rfl, rfl⟩ | ⟨c, hc, ha, rfl, rfl, rfl⟩ | ⟨c, hc, ha, rfl, rfl, rfl⟩ | ⟨c, hc, ha, rfl, rfl, rfl⟩ | ⟨c, hc, ha, rfl, rfl, rfl⟩ | ⟨c, hc, ha, hj, rfl, rfl⟩ | ⟨c, i, hc, ha, hi, hj, hr, rfl, rfl⟩ | ⟨c, i, hc, ha, hi, hj, rfl, rfl⟩ | ⟨c, t, hc, ha, ht, hr, hj, rfl, rfl⟩
  · have d1 : u (13) n = v (13) n := by rw [hu, if_neg (by omega)]
    have d2 : z (n) = s (n) := by rw [hs, if_neg (by omega)]
    exact d1.trans ((hR _ _ _ (lk_a hj)).trans d2.symm)
  · have d1 : u (13 + 4 + p) j = v (13 + 4 + p) j := by rw [hu, if_neg (by omega)]
    have d2 : z (4 + 2 * p + j) = s (4 + 2 * p + j) := by rw [hs, if_neg (by omega)]
    exact d1.trans ((hR _ _ _ (lk_p hp (by omega) hj)).trans d2.symm)
  · have d1 : u (13 + 12 + m) j = v (13 + 12 + m) j := by rw [hu, if_neg (by omega)]
    have d2 : z (20 + 2 * m + j) = s (20 + 2 * m + j) := by rw [hs, if_neg (by omega)]
    exact d1.trans ((hR _ _ _ (lk_m hm (by omega) hj)).trans d2.symm)
  · have d1 : u (13 + 12 + m) 2 = v (13 + 12 + m) 2 := by rw [hu, if_neg (by omega)]
    have d2 : z (28 + m) = s (28 + m) := by rw [hs, if_neg (by omega)]
    exact d1.trans ((hR _ _ _ (lk_k_ hm (by omega))).trans d2.symm)
  · have d1 : u (13 + 16 + 15 * c) 0 = v (13 + 16 + 15 * c) 0 := by rw [hu, if_neg (by omega)]
    have d2 : z (34 + 7 * c) = s (34 + 7 * c) := by rw [hs, if_neg (by omega)]
    exact d1.trans ((hR _ _ _ (lk_c0 hc (by omega))).trans d2.symm)
  · have d1 : u (13 + 16 + 15 * c) 2 = v (13 + 16 + 15 * c) 2 := by rw [hu, if_neg (by omega)]
    have d2 : z (36 + 7 * c) = s (36 + 7 * c) := by rw [hs, if_neg (by omega)]
    exact d1.trans ((hR _ _ _ (lk_c2 hc (by omega))).trans d2.symm)
  · have d1 : u (13 + 16 + 15 * c) 3 = v (13 + 16 + 15 * c) 3 := by rw [hu, if_neg (by omega)]
    have d2 : z (37 + 7 * c) = s (37 + 7 * c) := by rw [hs, if_neg (by omega)]
    exact d1.trans ((hR _ _ _ (lk_c3 hc (by omega))).trans d2.symm)
  · have d1 : u (13 + 16 + 15 * c) 5 = v (13 + 16 + 15 * c) 5 := by rw [hu, if_neg (by omega)]
    have d2 : z (38 + 7 * c) = s (38 + 7 * c) := by rw [hs, if_neg (by omega)]
    exact d1.trans ((hR _ _ _ (lk_c5 hc (by omega))).trans d2.symm)
  · have d1 : u (13 + 17 + 15 * c) j = v (13 + 17 + 15 * c) j := by rw [hu, if_neg (by omega)]
    have d2 : z (32 + 7 * c + j) = s (32 + 7 * c + j) := by rw [hs, if_neg (by omega)]
    exact d1.trans ((hR _ _ _ (lk_q hc (by omega) hj)).trans d2.symm)
  · have a36 := A36 c hc
    have d1 : u (13 + 20 + 15 * c + i) j = v (13 + 20 + 15 * c + i) j := by rw [hu, if_neg (by omega)]
    have d2 : z (86 + 10 * c + 2 * j + i) = s (86 + 10 * c + 2 * j + i) := by rw [hs, if_neg (by omega)]
    exact d1.trans ((hR _ _ _ (lk_o hc (by omega) hi hj (by omega))).trans d2.symm)
  · have d1 : u (13 + 23 + 15 * c + i) j = v (13 + 23 + 15 * c + i) j := by rw [hu, if_neg (by omega)]
    have d2 : z (308 + 48 * c + 24 * i + j) = s (308 + 48 * c + 24 * i + j) := by rw [hs, if_neg (by omega)]
    exact d1.trans ((hR _ _ _ (lk_l hc (by omega) hi hj)).trans d2.symm)
  · have a38 := A38 c hc
    have d1 : u (13 + 26 + 15 * c + t) j = v (13 + 26 + 15 * c + t) j := by rw [hu, if_neg (by omega)]
    have d2 : z (158 + 25 * c + 5 * t + j) = s (158 + 25 * c + 5 * t + j) := by rw [hs, if_neg (by omega)]
    exact d1.trans ((hR _ _ _ (lk_t hc (by omega) ht (by omega) hj)).trans d2.symm)

set_option maxHeartbeats 4000000 in
theorem RL_no1 {v u : Nat → Nat → Int32} {s z : Nat → Int32} {X R : Nat} {x y g a : Int32} (hX : X < 6) (hR5 : R < 5) (hn : (s (36 + 7 * X)).toInt = (R : Int)) (hx : y.toInt = (s (36 + 7 * X)).toInt + 1) (hu : ∀ k j : Nat, u k j = if k = 31 + 15 * X ∧ j = 1 then -1 else if k = 31 + 15 * X ∧ j = 0 then -1 else if k = 29 + 15 * X ∧ j = 2 then y else if k = 33 + 15 * X + 1 ∧ j = R then g else if k = 33 + 15 * X + 0 ∧ j = R then a else if k = 31 + 15 * X ∧ j = 1 then x else v k j) (hs : ∀ n : Nat, z n = if n = 75 + 2 * X then -5 else if n = 74 + 2 * X then -5 else if n = 36 + 7 * X then y else if n = 87 + 10 * X + 2 * R then g else if n = 86 + 10 * X + 2 * R then a else if n = 75 + 2 * X then x else s n) (hR : RLk 13 v s) : RLk 13 u z := by
  have A0 : (z 0).toInt = (s 0).toInt := by rw [hs, if_neg (by omega), if_neg (by omega), if_neg (by omega), if_neg (by omega), if_neg (by omega), if_neg (by omega)]
  have A1 : (z 1).toInt = (s 1).toInt := by rw [hs, if_neg (by omega), if_neg (by omega), if_neg (by omega), if_neg (by omega), if_neg (by omega), if_neg (by omega)]
  have A2 : (z 2).toInt = (s 2).toInt := by rw [hs, if_neg (by omega), if_neg (by omega), if_neg (by omega), if_neg (by omega), if_neg (by omega), if_neg (by omega)]
  have A36 : ∀ c : Nat, c < 6 → (z (36 + 7 * c)).toInt = (s (36 + 7 * c)).toInt ∨ (c = X ∧ (z (36 + 7 * c)).toInt = (s (36 + 7 * c)).toInt + 1) := fun c hc => by by_cases q : c = X; subst q; refine Or.inr ⟨rfl, ?_⟩; rw [hs, if_neg (by omega), if_neg (by omega), if_pos rfl]; exact hx; refine Or.inl ?_; rw [hs, if_neg (by omega), if_neg (by omega), if_neg (by omega), if_neg (by omega), if_neg (by omega), if_neg (by omega)]
  have A38 : ∀ c : Nat, c < 6 → (z (38 + 7 * c)).toInt = (s (38 + 7 * c)).toInt := fun c hc => by rw [hs, if_neg (by omega), if_neg (by omega), if_neg (by omega), if_neg (by omega), if_neg (by omega), if_neg (by omega)]
  intro k j n h
  unfold lk at h
  rcases h with ⟨rfl, hj, rfl⟩ | ⟨p, hp, ha, hj, rfl, rfl⟩ | ⟨m, hm, ha, hj, rfl, rfl⟩ | ⟨m, hm, ha, rfl, rfl, rfl⟩ | ⟨c, hc, ha, rfl, rfl, rfl⟩ | ⟨c, hc, ha, rfl, rfl, rfl⟩ | ⟨c, hc, ha, rfl, rfl, rfl⟩ | ⟨c, hc, ha, rfl, rfl, rfl⟩ | ⟨c, hc, ha, hj, rfl, rfl⟩ | ⟨c, i, hc, ha, hi, hj, hr, rfl, rfl⟩ | ⟨c, i, hc, ha, hi, hj, rfl, rfl⟩ | ⟨c, t, hc, ha, ht, hr, hj, rfl, rfl⟩
  · have d1 : u (13) n = v (13) n := by rw [hu, if_neg (by omega), if_neg (by omega), if_neg (by omega), if_neg (by omega), if_neg (by omega), if_neg (by omega)]
    have d2 : z (n) = s (n) := by rw [hs, if_neg (by omega), if_neg (by omega), if_neg (by omega), if_neg (by omega), if_neg (by omega), if_neg (by omega)]
    exact d1.trans ((hR _ _ _ (lk_a hj)).trans d2.symm)
  · have d1 : u (13 + 4 + p) j = v (13 + 4 + p) j := by rw [hu, if_neg (by omega), if_neg (by omega), if_neg (by omega), if_neg (by omega), if_neg (by omega), if_neg (by omega)]
    have d2 : z (4 + 2 * p + j) = s (4 + 2 * p + j) := by rw [hs, if_neg (by omega), if_neg (by omega), if_neg (by omega), if_neg (by omega), if_neg (by omega), if_neg (by omega)]
    exact d1.trans ((hR _ _ _ (lk_p hp (by omega) hj)).trans d2.symm)
  · have d1 : u (13 + 12 + m) j = v (13 + 12 + m) j := by rw [hu, if_neg (by omega), if_neg (by omega), if_neg (by omega), if_neg (by omega), if_neg (by omega), if_neg (by omega)]
    have d2 : z (20 + 2 * m + j) = s (20 + 2 * m + j) := by rw [hs, if_neg (by omega), if_neg (by omega), if_neg (by omega), if_neg (by omega), if_neg (by omega), if_neg (by omega)]
    exact d1.trans ((hR _ _ _ (lk_m hm (by omega) hj)).trans d2.symm)
  · have d1 : u (13 + 12 + m) 2 = v (13 + 12 + m) 2 := by rw [hu, if_neg (by omega), if_neg (by omega), if_neg (by omega), if_neg (by omega), if_neg (by omega), if_neg (by omega)]
    have d2 : z (28 + m) = s (28 + m) := by rw [hs, if_neg (by omega), if_neg (by omega), if_neg (by omega), if_neg (by omega), if_neg (by omega), if_neg (by omega)]
    exact d1.trans ((hR _ _ _ (lk_k_ hm (by omega))).trans d2.symm)
  · have d1 : u (13 + 16 + 15 * c) 0 = v (13 + 16 + 15 * c) 0 := by rw [hu, if_neg (by omega), if_neg (by omega), if_neg (by omega), if_neg (by omega), if_neg (by omega), if_neg (by omega)]
    have d2 : z (34 + 7 * c) = s (34 + 7 * c) := by rw [hs, if_neg (by omega), if_neg (by omega), if_neg (by omega), if_neg (by omega), if_neg (by omega), if_neg (by omega)]
    exact d1.trans ((hR _ _ _ (lk_c0 hc (by omega))).trans d2.symm)
  · by_cases e0 : 13 + 16 + 15 * c = 29 + 15 * X ∧ 2 = 2
    · have d1 : u (13 + 16 + 15 * c) 2 = y := by rw [hu, if_neg (by omega), if_neg (by omega), if_pos (by omega)]
      have d2 : z (36 + 7 * c) = y := by rw [hs, if_neg (by omega), if_neg (by omega), if_pos (by omega)]
      exact d1.trans d2.symm
    · skip
      have d1 : u (13 + 16 + 15 * c) 2 = v (13 + 16 + 15 * c) 2 := by rw [hu, if_neg (by omega), if_neg (by omega), if_neg (by omega), if_neg (by omega), if_neg (by omega), if_neg (by omega)]
      have d2 : z (36 + 7 * c) = s (36 + 7 * c) := by rw [hs, if_neg (by omega), if_neg (by omega), if_neg (by omega), if_neg (by omega), if_neg (by omega), if_neg (by omega)]
      exact d1.trans ((hR _ _ _ (lk_c2 hc (by omega))).trans d2.symm)
  · have d1 : u (13 + 16 + 15 * c) 3 = v (13 + 16 + 15 * c) 3 := by rw [hu, if_neg (by omega), if_neg (by omega), if_neg (by omega), if_neg (by omega), if_neg (by omega), if_neg (by omega)]
    have d2 : z (37 + 7 * c) = s (37 + 7 * c) := by rw [hs, if_neg (by omega), if_neg (by omega), if_neg (by omega), if_neg (by omega), if_neg (by omega), if_neg (by omega)]
    exact d1.trans ((hR _ _ _ (lk_c3 hc (by omega))).trans d2.symm)
  · have d1 : u (13 + 16 + 15 * c) 5 = v (13 + 16 + 15 * c) 5 := by rw [hu, if_neg (by omega), if_neg (by omega), if_neg (by omega), if_neg (by omega), if_neg (by omega), if_neg (by omega)]
    have d2 : z (38 + 7 * c) = s (38 + 7 * c) := by rw [hs, if_neg (by omega), if_neg (by omega), if_neg (by omega), if_neg (by omega), if_neg (by omega), if_neg (by omega)]
    exact d1.trans ((hR _ _ _ (lk_c5 hc (by omega))).trans d2.symm)
  · have d1 : u (13 + 17 + 15 * c) j = v (13 + 17 + 15 * c) j := by rw [hu, if_neg (by omega), if_neg (by omega), if_neg (by omega), if_neg (by omega), if_neg (by omega), if_neg (by omega)]
    have d2 : z (32 + 7 * c + j) = s (32 + 7 * c + j) := by rw [hs, if_neg (by omega), if_neg (by omega), if_neg (by omega), if_neg (by omega), if_neg (by omega), if_neg (by omega)]
    exact d1.trans ((hR _ _ _ (lk_q hc (by omega) hj)).trans d2.symm)
  · have a36 := A36 c hc
    have hnc : c = X → (s (36 + 7 * c)).toInt = (R : Int) := fun q => by rw [q]; exact hn
    by_cases e0 : 13 + 20 + 15 * c + i = 33 + 15 * X + 1 ∧ j = R
    · have d1 : u (13 + 20 + 15 * c + i) j = g := by rw [hu, if_neg (by omega), if_neg (by omega), if_neg (by omega), if_pos (by omega)]
      have d2 : z (86 + 10 * c + 2 * j + i) = g := by rw [hs, if_neg (by omega), if_neg (by omega), if_neg (by omega), if_pos (by omega)]
      exact d1.trans d2.symm
    · skip
      by_cases e1 : 13 + 20 + 15 * c + i = 33 + 15 * X + 0 ∧ j = R
      · have d1 : u (13 + 20 + 15 * c + i) j = a := by rw [hu, if_neg (by omega), if_neg (by omega), if_neg (by omega), if_neg (by omega), if_pos (by omega)]
        have d2 : z (86 + 10 * c + 2 * j + i) = a := by rw [hs, if_neg (by omega), if_neg (by omega), if_neg (by omega), if_neg (by omega), if_pos (by omega)]
        exact d1.trans d2.symm
      · skip
        have d1 : u (13 + 20 + 15 * c + i) j = v (13 + 20 + 15 * c + i) j := by rw [hu, if_neg (by omega), if_neg (by omega), if_neg (by omega), if_neg (by omega), if_neg (by omega), if_neg (by omega)]
        have d2 : z (86 + 10 * c + 2 * j + i) = s (86 + 10 * c + 2 * j + i) := by rw [hs, if_neg (by omega), if_neg (by omega), if_neg (by omega), if_neg (by omega), if_neg (by omega), if_neg (by omega)]
        exact d1.trans ((hR _ _ _ (lk_o hc (by omega) hi hj (by omega))).trans d2.symm)
  · have d1 : u (13 + 23 + 15 * c + i) j = v (13 + 23 + 15 * c + i) j := by rw [hu, if_neg (by omega), if_neg (by omega), if_neg (by omega), if_neg (by omega), if_neg (by omega), if_neg (by omega)]
    have d2 : z (308 + 48 * c + 24 * i + j) = s (308 + 48 * c + 24 * i + j) := by rw [hs, if_neg (by omega), if_neg (by omega), if_neg (by omega), if_neg (by omega), if_neg (by omega), if_neg (by omega)]
    exact d1.trans ((hR _ _ _ (lk_l hc (by omega) hi hj)).trans d2.symm)
  · have a38 := A38 c hc
    have d1 : u (13 + 26 + 15 * c + t) j = v (13 + 26 + 15 * c + t) j := by rw [hu, if_neg (by omega), if_neg (by omega), if_neg (by omega), if_neg (by omega), if_neg (by omega), if_neg (by omega)]
    have d2 : z (158 + 25 * c + 5 * t + j) = s (158 + 25 * c + 5 * t + j) := by rw [hs, if_neg (by omega), if_neg (by omega), if_neg (by omega), if_neg (by omega), if_neg (by omega), if_neg (by omega)]
    exact d1.trans ((hR _ _ _ (lk_t hc (by omega) ht (by omega) hj)).trans d2.symm)

set_option maxHeartbeats 4000000 in
theorem RL_yes1 {v u : Nat → Nat → Int32} {s z : Nat → Int32} {X R : Nat} {x y g a w : Int32} (hX : X < 6) (hR5 : R < 5) (hn : (s (36 + 7 * X)).toInt = (R : Int)) (hx : y.toInt = (s (36 + 7 * X)).toInt + 1) (hu : ∀ k j : Nat, u k j = if k = 29 + 15 * X ∧ j = 1 then w else if k = 29 + 15 * X ∧ j = 0 then 1 else if k = 29 + 15 * X ∧ j = 2 then y else if k = 33 + 15 * X + 1 ∧ j = R then g else if k = 33 + 15 * X + 0 ∧ j = R then a else if k = 31 + 15 * X ∧ j = 1 then x else v k j) (hs : ∀ n : Nat, z n = if n = 35 + 7 * X then w else if n = 34 + 7 * X then 1 else if n = 75 + 2 * X then -5 else if n = 74 + 2 * X then -5 else if n = 36 + 7 * X then y else if n = 87 + 10 * X + 2 * R then g else if n = 86 + 10 * X + 2 * R then a else if n = 75 + 2 * X then x else s n) (hR : RLk 13 v s) : RLk 13 u z := by
  have A0 : (z 0).toInt = (s 0).toInt := by rw [hs, if_neg (by omega), if_neg (by omega), if_neg (by omega), if_neg (by omega), if_neg (by omega), if_neg (by omega), if_neg (by omega), if_neg (by omega)]
  have A1 : (z 1).toInt = (s 1).toInt := by rw [hs, if_neg (by omega), if_neg (by omega), if_neg (by omega), if_neg (by omega), if_neg (by omega), if_neg (by omega), if_neg (by omega), if_neg (by omega)]
  have A2 : (z 2).toInt = (s 2).toInt := by rw [hs, if_neg (by omega), if_neg (by omega), if_neg (by omega), if_neg (by omega), if_neg (by omega), if_neg (by omega), if_neg (by omega), if_neg (by omega)]
  have A36 : ∀ c : Nat, c < 6 → (z (36 + 7 * c)).toInt = (s (36 + 7 * c)).toInt ∨ (c = X ∧ (z (36 + 7 * c)).toInt = (s (36 + 7 * c)).toInt + 1) := fun c hc => by by_cases q : c = X; subst q; refine Or.inr ⟨rfl, ?_⟩; rw [hs, if_neg (by omega), if_neg (by omega), if_neg (by omega), if_neg (by omega), if_pos rfl]; exact hx; refine Or.inl ?_; rw [hs, if_neg (by omega), if_neg (by omega), if_neg (by omega), if_neg (by omega), if_neg (by omega), if_neg (by omega), if_neg (by omega), if_neg (by omega)]
  have A38 : ∀ c : Nat, c < 6 → (z (38 + 7 * c)).toInt = (s (38 + 7 * c)).toInt := fun c hc => by rw [hs, if_neg (by omega), if_neg (by omega), if_neg (by omega), if_neg (by omega), if_neg (by omega), if_neg (by omega), if_neg (by omega), if_neg (by omega)]
  intro k j n h
  unfold lk at h
  rcases h with ⟨rfl, hj, rfl⟩ | ⟨p, hp, ha, hj, rfl, rfl⟩ | ⟨m, hm, ha, hj, rfl, rfl⟩ | ⟨m, hm, ha, rfl, rfl, rfl⟩ | ⟨c, hc, ha, rfl, rfl, rfl⟩ | ⟨c, hc, ha, rfl, rfl, rfl⟩ | ⟨c, hc, ha, rfl, rfl, rfl⟩ | ⟨c, hc, ha, rfl, rfl, rfl⟩ | ⟨c, hc, ha, hj, rfl, rfl⟩ | ⟨c, i, hc, ha, hi, hj, hr, rfl, rfl⟩ | ⟨c, i, hc, ha, hi, hj, rfl, rfl⟩ | ⟨c, t, hc, ha, ht, hr, hj, rfl, rfl⟩
  · have d1 : u (13) n = v (13) n := by rw [hu, if_neg (by omega), if_neg (by omega), if_neg (by omega), if_neg (by omega), if_neg (by omega), if_neg (by omega)]
    have d2 : z (n) = s (n) := by rw [hs, if_neg (by omega), if_neg (by omega), if_neg (by omega), if_neg (by omega), if_neg (by omega), if_neg (by omega), if_neg (by omega), if_neg (by omega)]
    exact d1.trans ((hR _ _ _ (lk_a hj)).trans d2.symm)
  · have d1 : u (13 + 4 + p) j = v (13 + 4 + p) j := by rw [hu, if_neg (by omega), if_neg (by omega), if_neg (by omega), if_neg (by omega), if_neg (by omega), if_neg (by omega)]
    have d2 : z (4 + 2 * p + j) = s (4 + 2 * p + j) := by rw [hs, if_neg (by omega), if_neg (by omega), if_neg (by omega), if_neg (by omega), if_neg (by omega), if_neg (by omega), if_neg (by omega), if_neg (by omega)]
    exact d1.trans ((hR _ _ _ (lk_p hp (by omega) hj)).trans d2.symm)
  · have d1 : u (13 + 12 + m) j = v (13 + 12 + m) j := by rw [hu, if_neg (by omega), if_neg (by omega), if_neg (by omega), if_neg (by omega), if_neg (by omega), if_neg (by omega)]
    have d2 : z (20 + 2 * m + j) = s (20 + 2 * m + j) := by rw [hs, if_neg (by omega), if_neg (by omega), if_neg (by omega), if_neg (by omega), if_neg (by omega), if_neg (by omega), if_neg (by omega), if_neg (by omega)]
    exact d1.trans ((hR _ _ _ (lk_m hm (by omega) hj)).trans d2.symm)
  · have d1 : u (13 + 12 + m) 2 = v (13 + 12 + m) 2 := by rw [hu, if_neg (by omega), if_neg (by omega), if_neg (by omega), if_neg (by omega), if_neg (by omega), if_neg (by omega)]
    have d2 : z (28 + m) = s (28 + m) := by rw [hs, if_neg (by omega), if_neg (by omega), if_neg (by omega), if_neg (by omega), if_neg (by omega), if_neg (by omega), if_neg (by omega), if_neg (by omega)]
    exact d1.trans ((hR _ _ _ (lk_k_ hm (by omega))).trans d2.symm)
  · by_cases e0 : 13 + 16 + 15 * c = 29 + 15 * X ∧ 0 = 0
    · have d1 : u (13 + 16 + 15 * c) 0 = 1 := by rw [hu, if_neg (by omega), if_pos (by omega)]
      have d2 : z (34 + 7 * c) = 1 := by rw [hs, if_neg (by omega), if_pos (by omega)]
      exact d1.trans d2.symm
    · skip
      have d1 : u (13 + 16 + 15 * c) 0 = v (13 + 16 + 15 * c) 0 := by rw [hu, if_neg (by omega), if_neg (by omega), if_neg (by omega), if_neg (by omega), if_neg (by omega), if_neg (by omega)]
      have d2 : z (34 + 7 * c) = s (34 + 7 * c) := by rw [hs, if_neg (by omega), if_neg (by omega), if_neg (by omega), if_neg (by omega), if_neg (by omega), if_neg (by omega), if_neg (by omega), if_neg (by omega)]
      exact d1.trans ((hR _ _ _ (lk_c0 hc (by omega))).trans d2.symm)
  · by_cases e0 : 13 + 16 + 15 * c = 29 + 15 * X ∧ 2 = 2
    · have d1 : u (13 + 16 + 15 * c) 2 = y := by rw [hu, if_neg (by omega), if_neg (by omega), if_pos (by omega)]
      have d2 : z (36 + 7 * c) = y := by rw [hs, if_neg (by omega), if_neg (by omega), if_neg (by omega), if_neg (by omega), if_pos (by omega)]
      exact d1.trans d2.symm
    · skip
      have d1 : u (13 + 16 + 15 * c) 2 = v (13 + 16 + 15 * c) 2 := by rw [hu, if_neg (by omega), if_neg (by omega), if_neg (by omega), if_neg (by omega), if_neg (by omega), if_neg (by omega)]
      have d2 : z (36 + 7 * c) = s (36 + 7 * c) := by rw [hs, if_neg (by omega), if_neg (by omega), if_neg (by omega), if_neg (by omega), if_neg (by omega), if_neg (by omega), if_neg (by omega), if_neg (by omega)]
      exact d1.trans ((hR _ _ _ (lk_c2 hc (by omega))).trans d2.symm)
  · have d1 : u (13 + 16 + 15 * c) 3 = v (13 + 16 + 15 * c) 3 := by rw [hu, if_neg (by omega), if_neg (by omega), if_neg (by omega), if_neg (by omega), if_neg (by omega), if_neg (by omega)]
    have d2 : z (37 + 7 * c) = s (37 + 7 * c) := by rw [hs, if_neg (by omega), if_neg (by omega), if_neg (by omega), if_neg (by omega), if_neg (by omega), if_neg (by omega), if_neg (by omega), if_neg (by omega)]
    exact d1.trans ((hR _ _ _ (lk_c3 hc (by omega))).trans d2.symm)
  · have d1 : u (13 + 16 + 15 * c) 5 = v (13 + 16 + 15 * c) 5 := by rw [hu, if_neg (by omega), if_neg (by omega), if_neg (by omega), if_neg (by omega), if_neg (by omega), if_neg (by omega)]
    have d2 : z (38 + 7 * c) = s (38 + 7 * c) := by rw [hs, if_neg (by omega), if_neg (by omega), if_neg (by omega), if_neg (by omega), if_neg (by omega), if_neg (by omega), if_neg (by omega), if_neg (by omega)]
    exact d1.trans ((hR _ _ _ (lk_c5 hc (by omega))).trans d2.symm)
  · have d1 : u (13 + 17 + 15 * c) j = v (13 + 17 + 15 * c) j := by rw [hu, if_neg (by omega), if_neg (by omega), if_neg (by omega), if_neg (by omega), if_neg (by omega), if_neg (by omega)]
    have d2 : z (32 + 7 * c + j) = s (32 + 7 * c + j) := by rw [hs, if_neg (by omega), if_neg (by omega), if_neg (by omega), if_neg (by omega), if_neg (by omega), if_neg (by omega), if_neg (by omega), if_neg (by omega)]
    exact d1.trans ((hR _ _ _ (lk_q hc (by omega) hj)).trans d2.symm)
  · have a36 := A36 c hc
    have hnc : c = X → (s (36 + 7 * c)).toInt = (R : Int) := fun q => by rw [q]; exact hn
    by_cases e0 : 13 + 20 + 15 * c + i = 33 + 15 * X + 1 ∧ j = R
    · have d1 : u (13 + 20 + 15 * c + i) j = g := by rw [hu, if_neg (by omega), if_neg (by omega), if_neg (by omega), if_pos (by omega)]
      have d2 : z (86 + 10 * c + 2 * j + i) = g := by rw [hs, if_neg (by omega), if_neg (by omega), if_neg (by omega), if_neg (by omega), if_neg (by omega), if_pos (by omega)]
      exact d1.trans d2.symm
    · skip
      by_cases e1 : 13 + 20 + 15 * c + i = 33 + 15 * X + 0 ∧ j = R
      · have d1 : u (13 + 20 + 15 * c + i) j = a := by rw [hu, if_neg (by omega), if_neg (by omega), if_neg (by omega), if_neg (by omega), if_pos (by omega)]
        have d2 : z (86 + 10 * c + 2 * j + i) = a := by rw [hs, if_neg (by omega), if_neg (by omega), if_neg (by omega), if_neg (by omega), if_neg (by omega), if_neg (by omega), if_pos (by omega)]
        exact d1.trans d2.symm
      · skip
        have d1 : u (13 + 20 + 15 * c + i) j = v (13 + 20 + 15 * c + i) j := by rw [hu, if_neg (by omega), if_neg (by omega), if_neg (by omega), if_neg (by omega), if_neg (by omega), if_neg (by omega)]
        have d2 : z (86 + 10 * c + 2 * j + i) = s (86 + 10 * c + 2 * j + i) := by rw [hs, if_neg (by omega), if_neg (by omega), if_neg (by omega), if_neg (by omega), if_neg (by omega), if_neg (by omega), if_neg (by omega), if_neg (by omega)]
        exact d1.trans ((hR _ _ _ (lk_o hc (by omega) hi hj (by omega))).trans d2.symm)
  · have d1 : u (13 + 23 + 15 * c + i) j = v (13 + 23 + 15 * c + i) j := by rw [hu, if_neg (by omega), if_neg (by omega), if_neg (by omega), if_neg (by omega), if_neg (by omega), if_neg (by omega)]
    have d2 : z (308 + 48 * c + 24 * i + j) = s (308 + 48 * c + 24 * i + j) := by rw [hs, if_neg (by omega), if_neg (by omega), if_neg (by omega), if_neg (by omega), if_neg (by omega), if_neg (by omega), if_neg (by omega), if_neg (by omega)]
    exact d1.trans ((hR _ _ _ (lk_l hc (by omega) hi hj)).trans d2.symm)
  · have a38 := A38 c hc
    have d1 : u (13 + 26 + 15 * c + t) j = v (13 + 26 + 15 * c + t) j := by rw [hu, if_neg (by omega), if_neg (by omega), if_neg (by omega), if_neg (by omega), if_neg (by omega), if_neg (by omega)]
    have d2 : z (158 + 25 * c + 5 * t + j) = s (158 + 25 * c + 5 * t + j) := by rw [hs, if_neg (by omega), if_neg (by omega), if_neg (by omega), if_neg (by omega), if_neg (by omega), if_neg (by omega), if_neg (by omega), if_neg (by omega)]
    exact d1.trans ((hR _ _ _ (lk_t hc (by omega) ht (by omega) hj)).trans d2.symm)

set_option maxHeartbeats 4000000 in
theorem RX_box1 {v u : Nat → Nat → Int32} {s z : Nat → Int32} {X : Nat} {x : Int32} (hX : X < 6) (hx : 0 ≤ x.toInt ∧ x.toInt ≤ 100) (hu : ∀ k j : Nat, u k j = if k = 31 + 15 * X ∧ j = 1 then x else v k j) (hs : ∀ n : Nat, z n = if n = 75 + 2 * X then x else s n) (h : RX 13 v s) : RX 13 u z := by
  intro c hc hac
  have a2 : z 2 = s 2 := by rw [hs, if_neg (by omega)]
  have hh := h c hc (by rw [a2] at hac; exact hac)
  by_cases hq : c = X
  · subst hq
    have g0 : u (13 + 16 + 15 * c) 1 = v (13 + 16 + 15 * c) 1 := by rw [hu, if_neg (by omega)]
    have g1 : u (13 + 18 + 15 * c) 0 = v (13 + 18 + 15 * c) 0 := by rw [hu, if_neg (by omega)]
    have g2 : u (13 + 18 + 15 * c) 1 = x := by rw [hu, if_pos (by omega)]
    have g3 : z (34 + 7 * c) = s (34 + 7 * c) := by rw [hs, if_neg (by omega)]
    have g4 : z (35 + 7 * c) = s (35 + 7 * c) := by rw [hs, if_neg (by omega)]
    have g5 : z (74 + 2 * c) = s (74 + 2 * c) := by rw [hs, if_neg (by omega)]
    have g6 : z (75 + 2 * c) = x := by rw [hs, if_pos (by omega)]
    rw [g0, g1, g2, g3, g4, g5, g6]
    obtain ⟨r1, r2, r3, r4⟩ := hh
    exact ⟨r1, r2, r3, fun q => ⟨(r4 q).1, Or.inr ⟨hx.1, hx.2, rfl⟩⟩⟩
  · have d1 : u (13 + 16 + 15 * c) 1 = v (13 + 16 + 15 * c) 1 := by rw [hu, if_neg (by omega)]
    have d2 : u (13 + 18 + 15 * c) 0 = v (13 + 18 + 15 * c) 0 := by rw [hu, if_neg (by omega)]
    have d3 : u (13 + 18 + 15 * c) 1 = v (13 + 18 + 15 * c) 1 := by rw [hu, if_neg (by omega)]
    have f0 : z (34 + 7 * c) = s (34 + 7 * c) := by rw [hs, if_neg (by omega)]
    have f1 : z (35 + 7 * c) = s (35 + 7 * c) := by rw [hs, if_neg (by omega)]
    have f2 : z (74 + 2 * c) = s (74 + 2 * c) := by rw [hs, if_neg (by omega)]
    have f3 : z (75 + 2 * c) = s (75 + 2 * c) := by rw [hs, if_neg (by omega)]
    rw [d1, d2, d3, f0, f1, f2, f3]
    exact hh

set_option maxHeartbeats 4000000 in
theorem RX_no1 {v u : Nat → Nat → Int32} {s z : Nat → Int32} {X R : Nat} {x y g a : Int32} (hX : X < 6) (hR5 : R < 5) (hu : ∀ k j : Nat, u k j = if k = 31 + 15 * X ∧ j = 1 then -1 else if k = 31 + 15 * X ∧ j = 0 then -1 else if k = 29 + 15 * X ∧ j = 2 then y else if k = 33 + 15 * X + 1 ∧ j = R then g else if k = 33 + 15 * X + 0 ∧ j = R then a else if k = 31 + 15 * X ∧ j = 1 then x else v k j) (hs : ∀ n : Nat, z n = if n = 75 + 2 * X then -5 else if n = 74 + 2 * X then -5 else if n = 36 + 7 * X then y else if n = 87 + 10 * X + 2 * R then g else if n = 86 + 10 * X + 2 * R then a else if n = 75 + 2 * X then x else s n) (h : RX 13 v s) : RX 13 u z := by
  intro c hc hac
  have a2 : z 2 = s 2 := by rw [hs, if_neg (by omega), if_neg (by omega), if_neg (by omega), if_neg (by omega), if_neg (by omega), if_neg (by omega)]
  have hh := h c hc (by rw [a2] at hac; exact hac)
  by_cases hq : c = X
  · subst hq
    have g0 : u (13 + 16 + 15 * c) 1 = v (13 + 16 + 15 * c) 1 := by rw [hu, if_neg (by omega), if_neg (by omega), if_neg (by omega), if_neg (by omega), if_neg (by omega), if_neg (by omega)]
    have g1 : u (13 + 18 + 15 * c) 0 = -1 := by rw [hu, if_neg (by omega), if_pos (by omega)]
    have g2 : u (13 + 18 + 15 * c) 1 = -1 := by rw [hu, if_pos (by omega)]
    have g3 : z (34 + 7 * c) = s (34 + 7 * c) := by rw [hs, if_neg (by omega), if_neg (by omega), if_neg (by omega), if_neg (by omega), if_neg (by omega), if_neg (by omega)]
    have g4 : z (35 + 7 * c) = s (35 + 7 * c) := by rw [hs, if_neg (by omega), if_neg (by omega), if_neg (by omega), if_neg (by omega), if_neg (by omega), if_neg (by omega)]
    have g5 : z (74 + 2 * c) = -5 := by rw [hs, if_neg (by omega), if_pos (by omega)]
    have g6 : z (75 + 2 * c) = -5 := by rw [hs, if_pos (by omega)]
    rw [g0, g1, g2, g3, g4, g5, g6]
    obtain ⟨r1, r2, r3, r4⟩ := hh
    exact ⟨r1, r2, r3, fun q => ⟨Or.inl ⟨by decide, by decide⟩, Or.inl ⟨by decide, by decide⟩⟩⟩
  · have d1 : u (13 + 16 + 15 * c) 1 = v (13 + 16 + 15 * c) 1 := by rw [hu, if_neg (by omega), if_neg (by omega), if_neg (by omega), if_neg (by omega), if_neg (by omega), if_neg (by omega)]
    have d2 : u (13 + 18 + 15 * c) 0 = v (13 + 18 + 15 * c) 0 := by rw [hu, if_neg (by omega), if_neg (by omega), if_neg (by omega), if_neg (by omega), if_neg (by omega), if_neg (by omega)]
    have d3 : u (13 + 18 + 15 * c) 1 = v (13 + 18 + 15 * c) 1 := by rw [hu, if_neg (by omega), if_neg (by omega), if_neg (by omega), if_neg (by omega), if_neg (by omega), if_neg (by omega)]
    have f0 : z (34 + 7 * c) = s (34 + 7 * c) := by rw [hs, if_neg (by omega), if_neg (by omega), if_neg (by omega), if_neg (by omega), if_neg (by omega), if_neg (by omega)]
    have f1 : z (35 + 7 * c) = s (35 + 7 * c) := by rw [hs, if_neg (by omega), if_neg (by omega), if_neg (by omega), if_neg (by omega), if_neg (by omega), if_neg (by omega)]
    have f2 : z (74 + 2 * c) = s (74 + 2 * c) := by rw [hs, if_neg (by omega), if_neg (by omega), if_neg (by omega), if_neg (by omega), if_neg (by omega), if_neg (by omega)]
    have f3 : z (75 + 2 * c) = s (75 + 2 * c) := by rw [hs, if_neg (by omega), if_neg (by omega), if_neg (by omega), if_neg (by omega), if_neg (by omega), if_neg (by omega)]
    rw [d1, d2, d3, f0, f1, f2, f3]
    exact hh

set_option maxHeartbeats 4000000 in
theorem RX_yes1 {v u : Nat → Nat → Int32} {s z : Nat → Int32} {X R : Nat} {x y g a w : Int32} (hX : X < 6) (hR5 : R < 5) (hu : ∀ k j : Nat, u k j = if k = 29 + 15 * X ∧ j = 1 then w else if k = 29 + 15 * X ∧ j = 0 then 1 else if k = 29 + 15 * X ∧ j = 2 then y else if k = 33 + 15 * X + 1 ∧ j = R then g else if k = 33 + 15 * X + 0 ∧ j = R then a else if k = 31 + 15 * X ∧ j = 1 then x else v k j) (hs : ∀ n : Nat, z n = if n = 35 + 7 * X then w else if n = 34 + 7 * X then 1 else if n = 75 + 2 * X then -5 else if n = 74 + 2 * X then -5 else if n = 36 + 7 * X then y else if n = 87 + 10 * X + 2 * R then g else if n = 86 + 10 * X + 2 * R then a else if n = 75 + 2 * X then x else s n) (h : RX 13 v s) : RX 13 u z := by
  intro c hc hac
  have a2 : z 2 = s 2 := by rw [hs, if_neg (by omega), if_neg (by omega), if_neg (by omega), if_neg (by omega), if_neg (by omega), if_neg (by omega), if_neg (by omega), if_neg (by omega)]
  have hh := h c hc (by rw [a2] at hac; exact hac)
  by_cases hq : c = X
  · subst hq
    have g0 : u (13 + 16 + 15 * c) 1 = w := by rw [hu, if_pos (by omega)]
    have g1 : u (13 + 18 + 15 * c) 0 = v (13 + 18 + 15 * c) 0 := by rw [hu, if_neg (by omega), if_neg (by omega), if_neg (by omega), if_neg (by omega), if_neg (by omega), if_neg (by omega)]
    have g2 : u (13 + 18 + 15 * c) 1 = x := by rw [hu, if_neg (by omega), if_neg (by omega), if_neg (by omega), if_neg (by omega), if_neg (by omega), if_pos (by omega)]
    have g3 : z (34 + 7 * c) = 1 := by rw [hs, if_neg (by omega), if_pos (by omega)]
    have g4 : z (35 + 7 * c) = w := by rw [hs, if_pos (by omega)]
    have g5 : z (74 + 2 * c) = -5 := by rw [hs, if_neg (by omega), if_neg (by omega), if_neg (by omega), if_pos (by omega)]
    have g6 : z (75 + 2 * c) = -5 := by rw [hs, if_neg (by omega), if_neg (by omega), if_pos (by omega)]
    rw [g0, g1, g2, g3, g4, g5, g6]
    have k1 : (1 : Int32).toInt = 1 := by decide
    exact ⟨by omega, fun _ => rfl, fun q => absurd k1 q, fun q => absurd q (by omega)⟩
  · have d1 : u (13 + 16 + 15 * c) 1 = v (13 + 16 + 15 * c) 1 := by rw [hu, if_neg (by omega), if_neg (by omega), if_neg (by omega), if_neg (by omega), if_neg (by omega), if_neg (by omega)]
    have d2 : u (13 + 18 + 15 * c) 0 = v (13 + 18 + 15 * c) 0 := by rw [hu, if_neg (by omega), if_neg (by omega), if_neg (by omega), if_neg (by omega), if_neg (by omega), if_neg (by omega)]
    have d3 : u (13 + 18 + 15 * c) 1 = v (13 + 18 + 15 * c) 1 := by rw [hu, if_neg (by omega), if_neg (by omega), if_neg (by omega), if_neg (by omega), if_neg (by omega), if_neg (by omega)]
    have f0 : z (34 + 7 * c) = s (34 + 7 * c) := by rw [hs, if_neg (by omega), if_neg (by omega), if_neg (by omega), if_neg (by omega), if_neg (by omega), if_neg (by omega), if_neg (by omega), if_neg (by omega)]
    have f1 : z (35 + 7 * c) = s (35 + 7 * c) := by rw [hs, if_neg (by omega), if_neg (by omega), if_neg (by omega), if_neg (by omega), if_neg (by omega), if_neg (by omega), if_neg (by omega), if_neg (by omega)]
    have f2 : z (74 + 2 * c) = s (74 + 2 * c) := by rw [hs, if_neg (by omega), if_neg (by omega), if_neg (by omega), if_neg (by omega), if_neg (by omega), if_neg (by omega), if_neg (by omega), if_neg (by omega)]
    have f3 : z (75 + 2 * c) = s (75 + 2 * c) := by rw [hs, if_neg (by omega), if_neg (by omega), if_neg (by omega), if_neg (by omega), if_neg (by omega), if_neg (by omega), if_neg (by omega), if_neg (by omega)]
    rw [d1, d2, d3, f0, f1, f2, f3]
    exact hh

set_option maxHeartbeats 4000000 in
theorem T_offer_1 {n r r2 x0 x1 : Int32} {v u v2 u2 : Nat → Nat → Int32} (hI : Iv v) (hQ : Ir v2) (h : RR n v v2) (p : (¬ ((0 ≤ x0.toInt ∧ x0.toInt < (v 13 2).toInt) ∧ 0 ≤ x1.toInt ∧ x1.toInt ≤ 100) → r = -1 ∧ u = v) ∧ (((0 ≤ x0.toInt ∧ x0.toInt < (v 13 2).toInt) ∧ 0 ≤ x1.toInt ∧ x1.toInt ≤ 100) ∧ (v (29 + 15 * x0.toNatClampNeg) 0).toInt ≠ 0 → r = -4 ∧ u = v) ∧ (((0 ≤ x0.toInt ∧ x0.toInt < (v 13 2).toInt) ∧ 0 ≤ x1.toInt ∧ x1.toInt ≤ 100) ∧ (v (29 + 15 * x0.toNatClampNeg) 0).toInt = 0 ∧ (v (31 + 15 * x0.toNatClampNeg) 1).toInt ≠ -1 → r = -3 ∧ u = v) ∧ (((0 ≤ x0.toInt ∧ x0.toInt < (v 13 2).toInt) ∧ 0 ≤ x1.toInt ∧ x1.toInt ≤ 100) ∧ (v (29 + 15 * x0.toNatClampNeg) 0).toInt = 0 ∧ (v (31 + 15 * x0.toNatClampNeg) 1).toInt = -1 ∧ 5 ≤ (v (29 + 15 * x0.toNatClampNeg) 2).toInt → r = -2 ∧ u = v) ∧ (((0 ≤ x0.toInt ∧ x0.toInt < (v 13 2).toInt) ∧ 0 ≤ x1.toInt ∧ x1.toInt ≤ 100) ∧ (v (29 + 15 * x0.toNatClampNeg) 0).toInt = 0 ∧ (v (31 + 15 * x0.toNatClampNeg) 1).toInt = -1 ∧ (v (29 + 15 * x0.toNatClampNeg) 2).toInt < 5 ∧ (v (31 + 15 * x0.toNatClampNeg) 0).toInt = -1 → r = 0 ∧ (∀ k j : Nat, u k j = if k = 31 + 15 * x0.toNatClampNeg ∧ j = 1 then x1 else v k j)) ∧ (((0 ≤ x0.toInt ∧ x0.toInt < (v 13 2).toInt) ∧ 0 ≤ x1.toInt ∧ x1.toInt ≤ 100) ∧ (v (29 + 15 * x0.toNatClampNeg) 0).toInt = 0 ∧ (v (31 + 15 * x0.toNatClampNeg) 1).toInt = -1 ∧ (v (29 + 15 * x0.toNatClampNeg) 2).toInt < 5 ∧ (v (31 + 15 * x0.toNatClampNeg) 0).toInt ≠ -1 ∧ x1.toInt < (v (31 + 15 * x0.toNatClampNeg) 0).toInt → r = 2 ∧ (∀ k j : Nat, u k j = if k = 31 + 15 * x0.toNatClampNeg ∧ j = 1 then -1 else if k = 31 + 15 * x0.toNatClampNeg ∧ j = 0 then -1 else if k = 29 + 15 * x0.toNatClampNeg ∧ j = 2 then v (29 + 15 * x0.toNatClampNeg) 2 + 1 else if k = 33 + 15 * x0.toNatClampNeg + 1 ∧ j = (v (29 + 15 * x0.toNatClampNeg) 2).toNatClampNeg then x1 else if k = 33 + 15 * x0.toNatClampNeg + 0 ∧ j = (v (29 + 15 * x0.toNatClampNeg) 2).toNatClampNeg then v (31 + 15 * x0.toNatClampNeg) 0 else if k = 31 + 15 * x0.toNatClampNeg ∧ j = 1 then x1 else v k j)) ∧ (((0 ≤ x0.toInt ∧ x0.toInt < (v 13 2).toInt) ∧ 0 ≤ x1.toInt ∧ x1.toInt ≤ 100) ∧ (v (29 + 15 * x0.toNatClampNeg) 0).toInt = 0 ∧ (v (31 + 15 * x0.toNatClampNeg) 1).toInt = -1 ∧ (v (29 + 15 * x0.toNatClampNeg) 2).toInt < 5 ∧ (v (31 + 15 * x0.toNatClampNeg) 0).toInt ≠ -1 ∧ (v (31 + 15 * x0.toNatClampNeg) 0).toInt ≤ x1.toInt → r = 1 ∧ (∀ k j : Nat, u k j = if k = 29 + 15 * x0.toNatClampNeg ∧ j = 1 then (v (31 + 15 * x0.toNatClampNeg) 0 + x1) / 2 else if k = 29 + 15 * x0.toNatClampNeg ∧ j = 0 then 1 else if k = 29 + 15 * x0.toNatClampNeg ∧ j = 2 then v (29 + 15 * x0.toNatClampNeg) 2 + 1 else if k = 33 + 15 * x0.toNatClampNeg + 1 ∧ j = (v (29 + 15 * x0.toNatClampNeg) 2).toNatClampNeg then x1 else if k = 33 + 15 * x0.toNatClampNeg + 0 ∧ j = (v (29 + 15 * x0.toNatClampNeg) 2).toNatClampNeg then v (31 + 15 * x0.toNatClampNeg) 0 else if k = 31 + 15 * x0.toNatClampNeg ∧ j = 1 then x1 else v k j))) (q : (¬ ((0 ≤ x0.toInt ∧ x0.toInt < (v2 1 2).toInt) ∧ 0 ≤ x1.toInt ∧ x1.toInt ≤ 100) → r2 = -1 ∧ u2 = v2) ∧ (((0 ≤ x0.toInt ∧ x0.toInt < (v2 1 2).toInt) ∧ 0 ≤ x1.toInt ∧ x1.toInt ≤ 100) ∧ (v2 1 (34 + 7 * x0.toNatClampNeg)).toInt ≠ 0 → r2 = -4 ∧ u2 = v2) ∧ (((0 ≤ x0.toInt ∧ x0.toInt < (v2 1 2).toInt) ∧ 0 ≤ x1.toInt ∧ x1.toInt ≤ 100) ∧ (v2 1 (34 + 7 * x0.toNatClampNeg)).toInt = 0 ∧ 0 ≤ (v2 1 (75 + 2 * x0.toNatClampNeg)).toInt → r2 = -3 ∧ u2 = v2) ∧ (((0 ≤ x0.toInt ∧ x0.toInt < (v2 1 2).toInt) ∧ 0 ≤ x1.toInt ∧ x1.toInt ≤ 100) ∧ (v2 1 (34 + 7 * x0.toNatClampNeg)).toInt = 0 ∧ (v2 1 (75 + 2 * x0.toNatClampNeg)).toInt < 0 ∧ (v2 1 (36 + 7 * x0.toNatClampNeg)).toInt = 5 → r2 = -2 ∧ u2 = v2) ∧ (((0 ≤ x0.toInt ∧ x0.toInt < (v2 1 2).toInt) ∧ 0 ≤ x1.toInt ∧ x1.toInt ≤ 100) ∧ (v2 1 (34 + 7 * x0.toNatClampNeg)).toInt = 0 ∧ (v2 1 (75 + 2 * x0.toNatClampNeg)).toInt < 0 ∧ (v2 1 (36 + 7 * x0.toNatClampNeg)).toInt ≠ 5 ∧ (v2 1 (74 + 2 * x0.toNatClampNeg)).toInt < 0 → r2 = 0 ∧ (∀ n : Nat, u2 1 n = if n = 75 + 2 * x0.toNatClampNeg then x1 else v2 1 n) ∧ (∀ k : Nat, k ≠ 1 → u2 k = v2 k)) ∧ (((0 ≤ x0.toInt ∧ x0.toInt < (v2 1 2).toInt) ∧ 0 ≤ x1.toInt ∧ x1.toInt ≤ 100) ∧ (v2 1 (34 + 7 * x0.toNatClampNeg)).toInt = 0 ∧ (v2 1 (75 + 2 * x0.toNatClampNeg)).toInt < 0 ∧ (v2 1 (36 + 7 * x0.toNatClampNeg)).toInt ≠ 5 ∧ 0 ≤ (v2 1 (74 + 2 * x0.toNatClampNeg)).toInt ∧ x1.toInt < (v2 1 (74 + 2 * x0.toNatClampNeg)).toInt → r2 = 2 ∧ (∀ n : Nat, u2 1 n = if n = 75 + 2 * x0.toNatClampNeg then -5 else if n = 74 + 2 * x0.toNatClampNeg then -5 else if n = 36 + 7 * x0.toNatClampNeg then v2 1 (36 + 7 * x0.toNatClampNeg) + 1 else if n = 87 + 10 * x0.toNatClampNeg + 2 * (v2 1 (36 + 7 * x0.toNatClampNeg)).toNatClampNeg then x1 else if n = 86 + 10 * x0.toNatClampNeg + 2 * (v2 1 (36 + 7 * x0.toNatClampNeg)).toNatClampNeg then v2 1 (74 + 2 * x0.toNatClampNeg) else if n = 75 + 2 * x0.toNatClampNeg then x1 else v2 1 n) ∧ (∀ k : Nat, k ≠ 1 → u2 k = v2 k)) ∧ (((0 ≤ x0.toInt ∧ x0.toInt < (v2 1 2).toInt) ∧ 0 ≤ x1.toInt ∧ x1.toInt ≤ 100) ∧ (v2 1 (34 + 7 * x0.toNatClampNeg)).toInt = 0 ∧ (v2 1 (75 + 2 * x0.toNatClampNeg)).toInt < 0 ∧ (v2 1 (36 + 7 * x0.toNatClampNeg)).toInt ≠ 5 ∧ 0 ≤ (v2 1 (74 + 2 * x0.toNatClampNeg)).toInt ∧ (v2 1 (74 + 2 * x0.toNatClampNeg)).toInt ≤ x1.toInt → r2 = 1 ∧ (∀ n : Nat, u2 1 n = if n = 35 + 7 * x0.toNatClampNeg then (v2 1 (74 + 2 * x0.toNatClampNeg) + x1) / 2 else if n = 34 + 7 * x0.toNatClampNeg then 1 else if n = 75 + 2 * x0.toNatClampNeg then -5 else if n = 74 + 2 * x0.toNatClampNeg then -5 else if n = 36 + 7 * x0.toNatClampNeg then v2 1 (36 + 7 * x0.toNatClampNeg) + 1 else if n = 87 + 10 * x0.toNatClampNeg + 2 * (v2 1 (36 + 7 * x0.toNatClampNeg)).toNatClampNeg then x1 else if n = 86 + 10 * x0.toNatClampNeg + 2 * (v2 1 (36 + 7 * x0.toNatClampNeg)).toNatClampNeg then v2 1 (74 + 2 * x0.toNatClampNeg) else if n = 75 + 2 * x0.toNatClampNeg then x1 else v2 1 n) ∧ (∀ k : Nat, k ≠ 1 → u2 k = v2 k))) : r = r2 ∧ RR n u u2 := by
  have e0 : v 13 0 = v2 1 0 := h.1.1 _ _ _ (lk_a (by decide))
  have e1 : v 13 1 = v2 1 1 := h.1.1 _ _ _ (lk_a (by decide))
  have e2 : v 13 2 = v2 1 2 := h.1.1 _ _ _ (lk_a (by decide))
  have e3 : v 13 3 = v2 1 3 := h.1.1 _ _ _ (lk_a (by decide))
  have hb0 := hQ 1 0 8 (by decide)
  have hb1 := hQ 1 1 4 (by decide)
  have hb2 := hQ 1 2 6 (by decide)
  have hb3 := hQ 1 3 6 (by decide)
  rw [e2] at p
  by_cases hC : (0 ≤ x0.toInt ∧ x0.toInt < (v2 1 2).toInt) ∧ 0 ≤ x1.toInt ∧ x1.toInt ≤ 100
  · have zX := t_nn (x := x0) (by omega)
    have hX : x0.toNatClampNeg < 6 := by omega
    have ha : (x0.toNatClampNeg : Int) < (v2 1 2).toInt := by omega
    have ev : v (29 + 15 * x0.toNatClampNeg) 0 = v2 1 (34 + 7 * x0.toNatClampNeg) := h.1.1 _ _ _ (lk_c0 hX ha)
    have ew : v (29 + 15 * x0.toNatClampNeg) 2 = v2 1 (36 + 7 * x0.toNatClampNeg) := h.1.1 _ _ _ (lk_c2 hX ha)
    rw [ev, ew] at p
    have hb := hQ 1 (36 + 7 * x0.toNatClampNeg) 5 (bS_c (by omega) (by omega))
    by_cases hD : (v2 1 (34 + 7 * x0.toNatClampNeg)).toInt = 0
    · obtain ⟨hx0, hx1⟩ := (h.1.2.1 _ hX ha).2.2.2 hD
      have hbx : bxr (v (31 + 15 * x0.toNatClampNeg) 1) (v2 1 (75 + 2 * x0.toNatClampNeg)) := hx1
      have hbo : bxr (v (31 + 15 * x0.toNatClampNeg) 0) (v2 1 (74 + 2 * x0.toNatClampNeg)) := hx0
      rcases hbx with ⟨t1, t2⟩ | ⟨t1, t2, t3⟩
      · by_cases hE : (v2 1 (36 + 7 * x0.toNatClampNeg)).toInt = 5
        · obtain ⟨p1, p2⟩ := p.2.2.2.1 ⟨hC, hD, t1, by omega⟩
          obtain ⟨q1, q2⟩ := q.2.2.2.1 ⟨hC, hD, t2, hE⟩
          rw [p1, q1, p2, q2]
          exact ⟨rfl, h⟩
        · rcases hbo with ⟨o1, o2⟩ | ⟨o1, o2, o3⟩
          · obtain ⟨p1, p2⟩ := p.2.2.2.2.1 ⟨hC, hD, t1, by omega, o1⟩
            obtain ⟨q1, q2, q3⟩ := q.2.2.2.2.1 ⟨hC, hD, t2, hE, o2⟩
            exact ⟨by rw [p1, q1], h.wr q3 (funext fun j => by rw [p2, if_neg (by omega)]) (fun k hk => funext fun j => by rw [p2, if_neg (by omega)]) ⟨RL_box1 hX p2 q2 h.1.1, RX_box1 hX hC.2 p2 q2 h.1.2.1, h.1.2.2.1.cg (by rw [q2, if_neg (by omega)]) (by rw [q2, if_neg (by omega)]) (fun m hm => by rw [q2, if_neg (by omega)]), h.1.2.2.2.cg hb3.2 (by rw [q2, if_neg (by omega)]) (by rw [q2, if_neg (by omega)]) (fun n h1 h2 => by rw [q2, if_neg (by omega)]) (fun c hc => by rw [p2, if_neg (by omega)])⟩⟩
          · rw [o3] at p
            have zR := t_nn (x := v2 1 (36 + 7 * x0.toNatClampNeg)) (by omega)
            have k1 : (1 : Int32).toInt = 1 := by decide
            have hx : (v2 1 (36 + 7 * x0.toNatClampNeg) + 1).toInt = (v2 1 (36 + 7 * x0.toNatClampNeg)).toInt + 1 := by rw [t_add (by rw [k1]; omega), k1]
            rcases Int.lt_or_le x1.toInt (v2 1 (74 + 2 * x0.toNatClampNeg)).toInt with hL | hL
            · obtain ⟨p1, p2⟩ := p.2.2.2.2.2.1 ⟨hC, hD, t1, by omega, by omega, hL⟩
              obtain ⟨q1, q2, q3⟩ := q.2.2.2.2.2.1 ⟨hC, hD, t2, hE, o1, hL⟩
              exact ⟨by rw [p1, q1], h.wr q3 (funext fun j => by rw [p2, if_neg (by omega), if_neg (by omega), if_neg (by omega), if_neg (by omega), if_neg (by omega), if_neg (by omega)]) (fun k hk => funext fun j => by rw [p2, if_neg (by omega), if_neg (by omega), if_neg (by omega), if_neg (by omega), if_neg (by omega), if_neg (by omega)]) ⟨RL_no1 hX (by omega) (by omega) hx p2 q2 h.1.1, RX_no1 hX (by omega) p2 q2 h.1.2.1, h.1.2.2.1.cg (by rw [q2, if_neg (by omega), if_neg (by omega), if_neg (by omega), if_neg (by omega), if_neg (by omega), if_neg (by omega)]) (by rw [q2, if_neg (by omega), if_neg (by omega), if_neg (by omega), if_neg (by omega), if_neg (by omega), if_neg (by omega)]) (fun m hm => by rw [q2, if_neg (by omega), if_neg (by omega), if_neg (by omega), if_neg (by omega), if_neg (by omega), if_neg (by omega)]), h.1.2.2.2.cg hb3.2 (by rw [q2, if_neg (by omega), if_neg (by omega), if_neg (by omega), if_neg (by omega), if_neg (by omega), if_neg (by omega)]) (by rw [q2, if_neg (by omega), if_neg (by omega), if_neg (by omega), if_neg (by omega), if_neg (by omega), if_neg (by omega)]) (fun n h1 h2 => by rw [q2, if_neg (by omega), if_neg (by omega), if_neg (by omega), if_neg (by omega), if_neg (by omega), if_neg (by omega)]) (fun c hc => by rw [p2, if_neg (by omega), if_neg (by omega), if_neg (by omega), if_neg (by omega), if_neg (by omega), if_neg (by omega)])⟩⟩
            · obtain ⟨p1, p2⟩ := p.2.2.2.2.2.2 ⟨hC, hD, t1, by omega, by omega, hL⟩
              obtain ⟨q1, q2, q3⟩ := q.2.2.2.2.2.2 ⟨hC, hD, t2, hE, o1, hL⟩
              exact ⟨by rw [p1, q1], h.wr q3 (funext fun j => by rw [p2, if_neg (by omega), if_neg (by omega), if_neg (by omega), if_neg (by omega), if_neg (by omega), if_neg (by omega)]) (fun k hk => funext fun j => by rw [p2, if_neg (by omega), if_neg (by omega), if_neg (by omega), if_neg (by omega), if_neg (by omega), if_neg (by omega)]) ⟨RL_yes1 hX (by omega) (by omega) hx p2 q2 h.1.1, RX_yes1 hX (by omega) p2 q2 h.1.2.1, h.1.2.2.1.cg (by rw [q2, if_neg (by omega), if_neg (by omega), if_neg (by omega), if_neg (by omega), if_neg (by omega), if_neg (by omega), if_neg (by omega), if_neg (by omega)]) (by rw [q2, if_neg (by omega), if_neg (by omega), if_neg (by omega), if_neg (by omega), if_neg (by omega), if_neg (by omega), if_neg (by omega), if_neg (by omega)]) (fun m hm => by rw [q2, if_neg (by omega), if_neg (by omega), if_neg (by omega), if_neg (by omega), if_neg (by omega), if_neg (by omega), if_neg (by omega), if_neg (by omega)]), h.1.2.2.2.cg hb3.2 (by rw [q2, if_neg (by omega), if_neg (by omega), if_neg (by omega), if_neg (by omega), if_neg (by omega), if_neg (by omega), if_neg (by omega), if_neg (by omega)]) (by rw [q2, if_neg (by omega), if_neg (by omega), if_neg (by omega), if_neg (by omega), if_neg (by omega), if_neg (by omega), if_neg (by omega), if_neg (by omega)]) (fun n h1 h2 => by rw [q2, if_neg (by omega), if_neg (by omega), if_neg (by omega), if_neg (by omega), if_neg (by omega), if_neg (by omega), if_neg (by omega), if_neg (by omega)]) (fun c hc => by rw [p2, if_neg (by omega), if_neg (by omega), if_neg (by omega), if_neg (by omega), if_neg (by omega), if_neg (by omega)])⟩⟩
      · rw [t3] at p
        obtain ⟨p1, p2⟩ := p.2.2.1 ⟨hC, hD, by omega⟩
        obtain ⟨q1, q2⟩ := q.2.2.1 ⟨hC, hD, t1⟩
        rw [p1, q1, p2, q2]
        exact ⟨rfl, h⟩
    · obtain ⟨p1, p2⟩ := p.2.1 ⟨hC, hD⟩
      obtain ⟨q1, q2⟩ := q.2.1 ⟨hC, hD⟩
      rw [p1, q1, p2, q2]
      exact ⟨rfl, h⟩
  · obtain ⟨p1, p2⟩ := p.1 hC
    obtain ⟨q1, q2⟩ := q.1 hC
    rw [p1, q1, p2, q2]
    exact ⟨rfl, h⟩
