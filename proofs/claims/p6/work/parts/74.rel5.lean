
set_option maxHeartbeats 4000000 in
theorem RL_open {v u : Nat → Nat → Int32} {s z : Nat → Int32} {X : Nat} {x a b : Int32} (hX : X < 6) (hn : (s 2).toInt = (X : Int)) (hx : x.toInt = (s 2).toInt + 1) (hu : ∀ k j : Nat, u k j = if k = 13 ∧ j = 2 then x else if 36 + 15 * X ≤ k ∧ (k : Int) < 36 + 15 * (X : Int) + 2 ∧ j < 24 then 7 else if k = 31 + 15 * X ∧ (j : Int) < 2 then -1 else if k = 30 + 15 * X ∧ j = 1 then b else if k = 30 + 15 * X ∧ j = 0 then a else if k = 29 + 15 * X ∧ j = 5 then 0 else if k = 29 + 15 * X ∧ j = 4 then 0 else if k = 29 + 15 * X ∧ j = 3 then 1 else if k = 29 + 15 * X ∧ j = 2 then 0 else if k = 29 + 15 * X ∧ j = 1 then 0 else if k = 29 + 15 * X ∧ j = 0 then 0 else v k j) (hs : ∀ n : Nat, z n = if n = 2 then x else if 308 + 48 * X ≤ n ∧ (n : Int) < 308 + 48 * (X : Int) + 48 then 7 else if n = 75 + 2 * X then -5 else if n = 74 + 2 * X then -5 else if n = 38 + 7 * X then 0 else if n = 37 + 7 * X then 1 else if n = 36 + 7 * X then 0 else if n = 35 + 7 * X then -5 else if n = 34 + 7 * X then 0 else if n = 33 + 7 * X then b else if n = 32 + 7 * X then a else s n) (hR : RLk 13 v s) : RLk 13 u z := by
  have A0 : (z 0).toInt = (s 0).toInt := by rw [hs, if_neg (by omega), if_neg (by omega), if_neg (by omega), if_neg (by omega), if_neg (by omega), if_neg (by omega), if_neg (by omega), if_neg (by omega), if_neg (by omega), if_neg (by omega), if_neg (by omega)]
  have A1 : (z 1).toInt = (s 1).toInt := by rw [hs, if_neg (by omega), if_neg (by omega), if_neg (by omega), if_neg (by omega), if_neg (by omega), if_neg (by omega), if_neg (by omega), if_neg (by omega), if_neg (by omega), if_neg (by omega), if_neg (by omega)]
  have A2 : (z 2).toInt = (s 2).toInt + 1 := by rw [hs, if_pos rfl]; exact hx
  have A36 : ∀ c : Nat, c < 6 → (c ≠ X ∧ (z (36 + 7 * c)).toInt = (s (36 + 7 * c)).toInt) ∨ (c = X ∧ (z (36 + 7 * c)).toInt = 0) := fun c hc => by by_cases q : c = X; subst q; refine Or.inr ⟨rfl, ?_⟩; rw [hs, if_neg (by omega), if_neg (by omega), if_neg (by omega), if_neg (by omega), if_neg (by omega), if_neg (by omega), if_pos rfl]; rfl; refine Or.inl ⟨q, ?_⟩; rw [hs, if_neg (by omega), if_neg (by omega), if_neg (by omega), if_neg (by omega), if_neg (by omega), if_neg (by omega), if_neg (by omega), if_neg (by omega), if_neg (by omega), if_neg (by omega), if_neg (by omega)]
  have A38 : ∀ c : Nat, c < 6 → (c ≠ X ∧ (z (38 + 7 * c)).toInt = (s (38 + 7 * c)).toInt) ∨ (c = X ∧ (z (38 + 7 * c)).toInt = 0) := fun c hc => by by_cases q : c = X; subst q; refine Or.inr ⟨rfl, ?_⟩; rw [hs, if_neg (by omega), if_neg (by omega), if_neg (by omega), if_neg (by omega), if_pos rfl]; rfl; refine Or.inl ⟨q, ?_⟩; rw [hs, if_neg (by omega), if_neg (by omega), if_neg (by omega), if_neg (by omega), if_neg (by omega), if_neg (by omega), if_neg (by omega), if_neg (by omega), if_neg (by omega), if_neg (by omega), if_neg (by omega)]
  intro k j n h
  unfold lk at h
  rcases h with ⟨rfl, hj, rfl⟩ | ⟨p, hp, ha, hj, rfl, rfl⟩ | ⟨m, hm, ha, hj, rfl, rfl⟩ | ⟨m, hm, ha, rfl, rfl, rfl⟩ | ⟨c, hc, ha, rfl, rfl, rfl⟩ | ⟨c, hc, ha, rfl, rfl, rfl⟩ | ⟨c, hc, ha, rfl, rfl, rfl⟩ | ⟨c, hc, ha, rfl, rfl, rfl⟩ | ⟨c, hc, ha, hj, rfl, rfl⟩ | ⟨c, i, hc, ha, hi, hj, hr, rfl, rfl⟩ | ⟨c, i, hc, ha, hi, hj, rfl, rfl⟩ | ⟨c, t, hc, ha, ht, hr, hj, rfl, rfl⟩
  · by_cases e0 : 13 = 13 ∧ n = 2
    · have d1 : u (13) n = x := by rw [hu, if_pos (by omega)]
      have d2 : z (n) = x := by rw [hs, if_pos (by omega)]
      exact d1.trans d2.symm
    · skip
      have d1 : u (13) n = v (13) n := by rw [hu, if_neg (by omega), if_neg (by omega), if_neg (by omega), if_neg (by omega), if_neg (by omega), if_neg (by omega), if_neg (by omega), if_neg (by omega), if_neg (by omega), if_neg (by omega), if_neg (by omega)]
      have d2 : z (n) = s (n) := by rw [hs, if_neg (by omega), if_neg (by omega), if_neg (by omega), if_neg (by omega), if_neg (by omega), if_neg (by omega), if_neg (by omega), if_neg (by omega), if_neg (by omega), if_neg (by omega), if_neg (by omega)]
      exact d1.trans ((hR _ _ _ (lk_a hj)).trans d2.symm)
  · have d1 : u (13 + 4 + p) j = v (13 + 4 + p) j := by rw [hu, if_neg (by omega), if_neg (by omega), if_neg (by omega), if_neg (by omega), if_neg (by omega), if_neg (by omega), if_neg (by omega), if_neg (by omega), if_neg (by omega), if_neg (by omega), if_neg (by omega)]
    have d2 : z (4 + 2 * p + j) = s (4 + 2 * p + j) := by rw [hs, if_neg (by omega), if_neg (by omega), if_neg (by omega), if_neg (by omega), if_neg (by omega), if_neg (by omega), if_neg (by omega), if_neg (by omega), if_neg (by omega), if_neg (by omega), if_neg (by omega)]
    exact d1.trans ((hR _ _ _ (lk_p hp (by omega) hj)).trans d2.symm)
  · have d1 : u (13 + 12 + m) j = v (13 + 12 + m) j := by rw [hu, if_neg (by omega), if_neg (by omega), if_neg (by omega), if_neg (by omega), if_neg (by omega), if_neg (by omega), if_neg (by omega), if_neg (by omega), if_neg (by omega), if_neg (by omega), if_neg (by omega)]
    have d2 : z (20 + 2 * m + j) = s (20 + 2 * m + j) := by rw [hs, if_neg (by omega), if_neg (by omega), if_neg (by omega), if_neg (by omega), if_neg (by omega), if_neg (by omega), if_neg (by omega), if_neg (by omega), if_neg (by omega), if_neg (by omega), if_neg (by omega)]
    exact d1.trans ((hR _ _ _ (lk_m hm (by omega) hj)).trans d2.symm)
  · have d1 : u (13 + 12 + m) 2 = v (13 + 12 + m) 2 := by rw [hu, if_neg (by omega), if_neg (by omega), if_neg (by omega), if_neg (by omega), if_neg (by omega), if_neg (by omega), if_neg (by omega), if_neg (by omega), if_neg (by omega), if_neg (by omega), if_neg (by omega)]
    have d2 : z (28 + m) = s (28 + m) := by rw [hs, if_neg (by omega), if_neg (by omega), if_neg (by omega), if_neg (by omega), if_neg (by omega), if_neg (by omega), if_neg (by omega), if_neg (by omega), if_neg (by omega), if_neg (by omega), if_neg (by omega)]
    exact d1.trans ((hR _ _ _ (lk_k_ hm (by omega))).trans d2.symm)
  · by_cases e0 : 13 + 16 + 15 * c = 29 + 15 * X ∧ 0 = 0
    · have d1 : u (13 + 16 + 15 * c) 0 = 0 := by rw [hu, if_neg (by omega), if_neg (by omega), if_neg (by omega), if_neg (by omega), if_neg (by omega), if_neg (by omega), if_neg (by omega), if_neg (by omega), if_neg (by omega), if_neg (by omega), if_pos (by omega)]
      have d2 : z (34 + 7 * c) = 0 := by rw [hs, if_neg (by omega), if_neg (by omega), if_neg (by omega), if_neg (by omega), if_neg (by omega), if_neg (by omega), if_neg (by omega), if_neg (by omega), if_pos (by omega)]
      exact d1.trans d2.symm
    · skip
      have d1 : u (13 + 16 + 15 * c) 0 = v (13 + 16 + 15 * c) 0 := by rw [hu, if_neg (by omega), if_neg (by omega), if_neg (by omega), if_neg (by omega), if_neg (by omega), if_neg (by omega), if_neg (by omega), if_neg (by omega), if_neg (by omega), if_neg (by omega), if_neg (by omega)]
      have d2 : z (34 + 7 * c) = s (34 + 7 * c) := by rw [hs, if_neg (by omega), if_neg (by omega), if_neg (by omega), if_neg (by omega), if_neg (by omega), if_neg (by omega), if_neg (by omega), if_neg (by omega), if_neg (by omega), if_neg (by omega), if_neg (by omega)]
      exact d1.trans ((hR _ _ _ (lk_c0 hc (by omega))).trans d2.symm)
  · by_cases e0 : 13 + 16 + 15 * c = 29 + 15 * X ∧ 2 = 2
    · have d1 : u (13 + 16 + 15 * c) 2 = 0 := by rw [hu, if_neg (by omega), if_neg (by omega), if_neg (by omega), if_neg (by omega), if_neg (by omega), if_neg (by omega), if_neg (by omega), if_neg (by omega), if_pos (by omega)]
      have d2 : z (36 + 7 * c) = 0 := by rw [hs, if_neg (by omega), if_neg (by omega), if_neg (by omega), if_neg (by omega), if_neg (by omega), if_neg (by omega), if_pos (by omega)]
      exact d1.trans d2.symm
    · skip
      have d1 : u (13 + 16 + 15 * c) 2 = v (13 + 16 + 15 * c) 2 := by rw [hu, if_neg (by omega), if_neg (by omega), if_neg (by omega), if_neg (by omega), if_neg (by omega), if_neg (by omega), if_neg (by omega), if_neg (by omega), if_neg (by omega), if_neg (by omega), if_neg (by omega)]
      have d2 : z (36 + 7 * c) = s (36 + 7 * c) := by rw [hs, if_neg (by omega), if_neg (by omega), if_neg (by omega), if_neg (by omega), if_neg (by omega), if_neg (by omega), if_neg (by omega), if_neg (by omega), if_neg (by omega), if_neg (by omega), if_neg (by omega)]
      exact d1.trans ((hR _ _ _ (lk_c2 hc (by omega))).trans d2.symm)
  · by_cases e0 : 13 + 16 + 15 * c = 29 + 15 * X ∧ 3 = 3
    · have d1 : u (13 + 16 + 15 * c) 3 = 1 := by rw [hu, if_neg (by omega), if_neg (by omega), if_neg (by omega), if_neg (by omega), if_neg (by omega), if_neg (by omega), if_neg (by omega), if_pos (by omega)]
      have d2 : z (37 + 7 * c) = 1 := by rw [hs, if_neg (by omega), if_neg (by omega), if_neg (by omega), if_neg (by omega), if_neg (by omega), if_pos (by omega)]
      exact d1.trans d2.symm
    · skip
      have d1 : u (13 + 16 + 15 * c) 3 = v (13 + 16 + 15 * c) 3 := by rw [hu, if_neg (by omega), if_neg (by omega), if_neg (by omega), if_neg (by omega), if_neg (by omega), if_neg (by omega), if_neg (by omega), if_neg (by omega), if_neg (by omega), if_neg (by omega), if_neg (by omega)]
      have d2 : z (37 + 7 * c) = s (37 + 7 * c) := by rw [hs, if_neg (by omega), if_neg (by omega), if_neg (by omega), if_neg (by omega), if_neg (by omega), if_neg (by omega), if_neg (by omega), if_neg (by omega), if_neg (by omega), if_neg (by omega), if_neg (by omega)]
      exact d1.trans ((hR _ _ _ (lk_c3 hc (by omega))).trans d2.symm)
  · by_cases e0 : 13 + 16 + 15 * c = 29 + 15 * X ∧ 5 = 5
    · have d1 : u (13 + 16 + 15 * c) 5 = 0 := by rw [hu, if_neg (by omega), if_neg (by omega), if_neg (by omega), if_neg (by omega), if_neg (by omega), if_pos (by omega)]
      have d2 : z (38 + 7 * c) = 0 := by rw [hs, if_neg (by omega), if_neg (by omega), if_neg (by omega), if_neg (by omega), if_pos (by omega)]
      exact d1.trans d2.symm
    · skip
      have d1 : u (13 + 16 + 15 * c) 5 = v (13 + 16 + 15 * c) 5 := by rw [hu, if_neg (by omega), if_neg (by omega), if_neg (by omega), if_neg (by omega), if_neg (by omega), if_neg (by omega), if_neg (by omega), if_neg (by omega), if_neg (by omega), if_neg (by omega), if_neg (by omega)]
      have d2 : z (38 + 7 * c) = s (38 + 7 * c) := by rw [hs, if_neg (by omega), if_neg (by omega), if_neg (by omega), if_neg (by omega), if_neg (by omega), if_neg (by omega), if_neg (by omega), if_neg (by omega), if_neg (by omega), if_neg (by omega), if_neg (by omega)]
      exact d1.trans ((hR _ _ _ (lk_c5 hc (by omega))).trans d2.symm)
  · by_cases e0 : 13 + 17 + 15 * c = 30 + 15 * X ∧ j = 1
    · have d1 : u (13 + 17 + 15 * c) j = b := by rw [hu, if_neg (by omega), if_neg (by omega), if_neg (by omega), if_pos (by omega)]
      have d2 : z (32 + 7 * c + j) = b := by rw [hs, if_neg (by omega), if_neg (by omega), if_neg (by omega), if_neg (by omega), if_neg (by omega), if_neg (by omega), if_neg (by omega), if_neg (by omega), if_neg (by omega), if_pos (by omega)]
      exact d1.trans d2.symm
    · skip
      by_cases e1 : 13 + 17 + 15 * c = 30 + 15 * X ∧ j = 0
      · have d1 : u (13 + 17 + 15 * c) j = a := by rw [hu, if_neg (by omega), if_neg (by omega), if_neg (by omega), if_neg (by omega), if_pos (by omega)]
        have d2 : z (32 + 7 * c + j) = a := by rw [hs, if_neg (by omega), if_neg (by omega), if_neg (by omega), if_neg (by omega), if_neg (by omega), if_neg (by omega), if_neg (by omega), if_neg (by omega), if_neg (by omega), if_neg (by omega), if_pos (by omega)]
        exact d1.trans d2.symm
      · skip
        have d1 : u (13 + 17 + 15 * c) j = v (13 + 17 + 15 * c) j := by rw [hu, if_neg (by omega), if_neg (by omega), if_neg (by omega), if_neg (by omega), if_neg (by omega), if_neg (by omega), if_neg (by omega), if_neg (by omega), if_neg (by omega), if_neg (by omega), if_neg (by omega)]
        have d2 : z (32 + 7 * c + j) = s (32 + 7 * c + j) := by rw [hs, if_neg (by omega), if_neg (by omega), if_neg (by omega), if_neg (by omega), if_neg (by omega), if_neg (by omega), if_neg (by omega), if_neg (by omega), if_neg (by omega), if_neg (by omega), if_neg (by omega)]
        exact d1.trans ((hR _ _ _ (lk_q hc (by omega) hj)).trans d2.symm)
  · have a36 := A36 c hc
    have d1 : u (13 + 20 + 15 * c + i) j = v (13 + 20 + 15 * c + i) j := by rw [hu, if_neg (by omega), if_neg (by omega), if_neg (by omega), if_neg (by omega), if_neg (by omega), if_neg (by omega), if_neg (by omega), if_neg (by omega), if_neg (by omega), if_neg (by omega), if_neg (by omega)]
    have d2 : z (86 + 10 * c + 2 * j + i) = s (86 + 10 * c + 2 * j + i) := by rw [hs, if_neg (by omega), if_neg (by omega), if_neg (by omega), if_neg (by omega), if_neg (by omega), if_neg (by omega), if_neg (by omega), if_neg (by omega), if_neg (by omega), if_neg (by omega), if_neg (by omega)]
    exact d1.trans ((hR _ _ _ (lk_o hc (by omega) hi hj (by omega))).trans d2.symm)
  · by_cases e0 : 36 + 15 * X ≤ 13 + 23 + 15 * c + i ∧ (13 + 23 + 15 * c + i : Int) < 36 + 15 * (X : Int) + 2 ∧ j < 24
    · have d1 : u (13 + 23 + 15 * c + i) j = 7 := by rw [hu, if_neg (by omega), if_pos (by omega)]
      have d2 : z (308 + 48 * c + 24 * i + j) = 7 := by rw [hs, if_neg (by omega), if_pos (by omega)]
      exact d1.trans d2.symm
    · skip
      have d1 : u (13 + 23 + 15 * c + i) j = v (13 + 23 + 15 * c + i) j := by rw [hu, if_neg (by omega), if_neg (by omega), if_neg (by omega), if_neg (by omega), if_neg (by omega), if_neg (by omega), if_neg (by omega), if_neg (by omega), if_neg (by omega), if_neg (by omega), if_neg (by omega)]
      have d2 : z (308 + 48 * c + 24 * i + j) = s (308 + 48 * c + 24 * i + j) := by rw [hs, if_neg (by omega), if_neg (by omega), if_neg (by omega), if_neg (by omega), if_neg (by omega), if_neg (by omega), if_neg (by omega), if_neg (by omega), if_neg (by omega), if_neg (by omega), if_neg (by omega)]
      exact d1.trans ((hR _ _ _ (lk_l hc (by omega) hi hj)).trans d2.symm)
  · have a38 := A38 c hc
    have d1 : u (13 + 26 + 15 * c + t) j = v (13 + 26 + 15 * c + t) j := by rw [hu, if_neg (by omega), if_neg (by omega), if_neg (by omega), if_neg (by omega), if_neg (by omega), if_neg (by omega), if_neg (by omega), if_neg (by omega), if_neg (by omega), if_neg (by omega), if_neg (by omega)]
    have d2 : z (158 + 25 * c + 5 * t + j) = s (158 + 25 * c + 5 * t + j) := by rw [hs, if_neg (by omega), if_neg (by omega), if_neg (by omega), if_neg (by omega), if_neg (by omega), if_neg (by omega), if_neg (by omega), if_neg (by omega), if_neg (by omega), if_neg (by omega), if_neg (by omega)]
    exact d1.trans ((hR _ _ _ (lk_t hc (by omega) ht (by omega) hj)).trans d2.symm)

set_option maxHeartbeats 4000000 in
theorem RX_open {v u : Nat → Nat → Int32} {s z : Nat → Int32} {X : Nat} {x a b : Int32} (hX : X < 6) (hn : (s 2).toInt = (X : Int)) (hx : x.toInt = (s 2).toInt + 1) (hu : ∀ k j : Nat, u k j = if k = 13 ∧ j = 2 then x else if 36 + 15 * X ≤ k ∧ (k : Int) < 36 + 15 * (X : Int) + 2 ∧ j < 24 then 7 else if k = 31 + 15 * X ∧ (j : Int) < 2 then -1 else if k = 30 + 15 * X ∧ j = 1 then b else if k = 30 + 15 * X ∧ j = 0 then a else if k = 29 + 15 * X ∧ j = 5 then 0 else if k = 29 + 15 * X ∧ j = 4 then 0 else if k = 29 + 15 * X ∧ j = 3 then 1 else if k = 29 + 15 * X ∧ j = 2 then 0 else if k = 29 + 15 * X ∧ j = 1 then 0 else if k = 29 + 15 * X ∧ j = 0 then 0 else v k j) (hs : ∀ n : Nat, z n = if n = 2 then x else if 308 + 48 * X ≤ n ∧ (n : Int) < 308 + 48 * (X : Int) + 48 then 7 else if n = 75 + 2 * X then -5 else if n = 74 + 2 * X then -5 else if n = 38 + 7 * X then 0 else if n = 37 + 7 * X then 1 else if n = 36 + 7 * X then 0 else if n = 35 + 7 * X then -5 else if n = 34 + 7 * X then 0 else if n = 33 + 7 * X then b else if n = 32 + 7 * X then a else s n) (h : RX 13 v s) : RX 13 u z := by
  intro c hc hac
  have A2 : (z 2).toInt = (s 2).toInt + 1 := by rw [hs, if_pos rfl]; exact hx
  by_cases hq : c = X
  · subst hq
    have g0 : u (13 + 16 + 15 * c) 1 = 0 := by rw [hu, if_neg (by omega), if_neg (by omega), if_neg (by omega), if_neg (by omega), if_neg (by omega), if_neg (by omega), if_neg (by omega), if_neg (by omega), if_neg (by omega), if_pos (by omega)]
    have g1 : u (13 + 18 + 15 * c) 0 = -1 := by rw [hu, if_neg (by omega), if_neg (by omega), if_pos (by omega)]
    have g2 : u (13 + 18 + 15 * c) 1 = -1 := by rw [hu, if_neg (by omega), if_neg (by omega), if_pos (by omega)]
    have g3 : z (34 + 7 * c) = 0 := by rw [hs, if_neg (by omega), if_neg (by omega), if_neg (by omega), if_neg (by omega), if_neg (by omega), if_neg (by omega), if_neg (by omega), if_neg (by omega), if_pos rfl]
    have g4 : z (35 + 7 * c) = -5 := by rw [hs, if_neg (by omega), if_neg (by omega), if_neg (by omega), if_neg (by omega), if_neg (by omega), if_neg (by omega), if_neg (by omega), if_pos rfl]
    have g5 : z (74 + 2 * c) = -5 := by rw [hs, if_neg (by omega), if_neg (by omega), if_neg (by omega), if_pos rfl]
    have g6 : z (75 + 2 * c) = -5 := by rw [hs, if_neg (by omega), if_neg (by omega), if_pos rfl]
    rw [g0, g1, g2, g3, g4, g5, g6]
    exact ⟨Or.inl (by decide), fun q => absurd q (by decide), fun _ => rfl, fun _ => ⟨Or.inl ⟨by decide, by decide⟩, Or.inl ⟨by decide, by decide⟩⟩⟩
  · have hh := h c hc (by omega)
    have g0 : u (13 + 16 + 15 * c) 1 = v (13 + 16 + 15 * c) 1 := by rw [hu, if_neg (by omega), if_neg (by omega), if_neg (by omega), if_neg (by omega), if_neg (by omega), if_neg (by omega), if_neg (by omega), if_neg (by omega), if_neg (by omega), if_neg (by omega), if_neg (by omega)]
    have g1 : u (13 + 18 + 15 * c) 0 = v (13 + 18 + 15 * c) 0 := by rw [hu, if_neg (by omega), if_neg (by omega), if_neg (by omega), if_neg (by omega), if_neg (by omega), if_neg (by omega), if_neg (by omega), if_neg (by omega), if_neg (by omega), if_neg (by omega), if_neg (by omega)]
    have g2 : u (13 + 18 + 15 * c) 1 = v (13 + 18 + 15 * c) 1 := by rw [hu, if_neg (by omega), if_neg (by omega), if_neg (by omega), if_neg (by omega), if_neg (by omega), if_neg (by omega), if_neg (by omega), if_neg (by omega), if_neg (by omega), if_neg (by omega), if_neg (by omega)]
    have g3 : z (34 + 7 * c) = s (34 + 7 * c) := by rw [hs, if_neg (by omega), if_neg (by omega), if_neg (by omega), if_neg (by omega), if_neg (by omega), if_neg (by omega), if_neg (by omega), if_neg (by omega), if_neg (by omega), if_neg (by omega), if_neg (by omega)]
    have g4 : z (35 + 7 * c) = s (35 + 7 * c) := by rw [hs, if_neg (by omega), if_neg (by omega), if_neg (by omega), if_neg (by omega), if_neg (by omega), if_neg (by omega), if_neg (by omega), if_neg (by omega), if_neg (by omega), if_neg (by omega), if_neg (by omega)]
    have g5 : z (74 + 2 * c) = s (74 + 2 * c) := by rw [hs, if_neg (by omega), if_neg (by omega), if_neg (by omega), if_neg (by omega), if_neg (by omega), if_neg (by omega), if_neg (by omega), if_neg (by omega), if_neg (by omega), if_neg (by omega), if_neg (by omega)]
    have g6 : z (75 + 2 * c) = s (75 + 2 * c) := by rw [hs, if_neg (by omega), if_neg (by omega), if_neg (by omega), if_neg (by omega), if_neg (by omega), if_neg (by omega), if_neg (by omega), if_neg (by omega), if_neg (by omega), if_neg (by omega), if_neg (by omega)]
    rw [g0, g1, g2, g3, g4, g5, g6]
    exact hh
theorem bt_0 : ∀ d : Fin 6, (btx 0 (Int32.ofNat d.val)).toInt = 0 := by decide +kernel
set_option maxHeartbeats 4000000 in
theorem RG_open {v u : Nat → Nat → Int32} {s z : Nat → Int32} {X : Nat} {x a b : Int32} (hX : X < 6) (hn : (s 2).toInt = (X : Int)) (hx : x.toInt = (s 2).toInt + 1) (h3 : (s 3).toInt ≤ 6) (hu : ∀ k j : Nat, u k j = if k = 13 ∧ j = 2 then x else if 36 + 15 * X ≤ k ∧ (k : Int) < 36 + 15 * (X : Int) + 2 ∧ j < 24 then 7 else if k = 31 + 15 * X ∧ (j : Int) < 2 then -1 else if k = 30 + 15 * X ∧ j = 1 then b else if k = 30 + 15 * X ∧ j = 0 then a else if k = 29 + 15 * X ∧ j = 5 then 0 else if k = 29 + 15 * X ∧ j = 4 then 0 else if k = 29 + 15 * X ∧ j = 3 then 1 else if k = 29 + 15 * X ∧ j = 2 then 0 else if k = 29 + 15 * X ∧ j = 1 then 0 else if k = 29 + 15 * X ∧ j = 0 then 0 else v k j) (hs : ∀ n : Nat, z n = if n = 2 then x else if 308 + 48 * X ≤ n ∧ (n : Int) < 308 + 48 * (X : Int) + 48 then 7 else if n = 75 + 2 * X then -5 else if n = 74 + 2 * X then -5 else if n = 38 + 7 * X then 0 else if n = 37 + 7 * X then 1 else if n = 36 + 7 * X then 0 else if n = 35 + 7 * X then -5 else if n = 34 + 7 * X then 0 else if n = 33 + 7 * X then b else if n = 32 + 7 * X then a else s n) (h : RG 13 v s) : RG 13 u z := by
  have A2 : (z 2).toInt = (s 2).toInt + 1 := by rw [hs, if_pos rfl]; exact hx
  have A3 : z 3 = s 3 := by rw [hs, if_neg (by omega), if_neg (by omega), if_neg (by omega), if_neg (by omega), if_neg (by omega), if_neg (by omega), if_neg (by omega), if_neg (by omega), if_neg (by omega), if_neg (by omega), if_neg (by omega)]
  have em : ∀ n : Nat, 146 ≤ n → n < 158 → z n = s n := fun n h1 h2 => by rw [hs, if_neg (by omega), if_neg (by omega), if_neg (by omega), if_neg (by omega), if_neg (by omega), if_neg (by omega), if_neg (by omega), if_neg (by omega), if_neg (by omega), if_neg (by omega), if_neg (by omega)]
  have key : ∀ k a b : Nat, (k : Int) < (s 3).toInt → (mj z k a b ↔ mj s k a b) := fun k a b hk => by
    unfold mj
    rw [em (146 + 2 * k) (by omega) (by omega), em (147 + 2 * k) (by omega) (by omega)]
  refine ⟨fun c hc ha => ?_, fun k hk => ?_⟩
  · unfold GC
    rw [A3]
    by_cases hq : c = X
    · subst hq
      have g0 : u (13 + 16 + 15 * c) 4 = 0 := by rw [hu, if_neg (by omega), if_neg (by omega), if_neg (by omega), if_neg (by omega), if_neg (by omega), if_neg (by omega), if_pos (by omega)]
      rw [g0]
      refine ⟨by decide, fun d hd => ⟨fun q => absurd q (by rw [bt_0 ⟨d, hd⟩]; decide), fun ⟨k, q1, q2⟩ => ?_⟩⟩
      have w := h.2 k q1
      have q3 := (key k c d q1).mp q2
      unfold mj at q3
      omega
    · have g0 : u (13 + 16 + 15 * c) 4 = v (13 + 16 + 15 * c) 4 := by rw [hu, if_neg (by omega), if_neg (by omega), if_neg (by omega), if_neg (by omega), if_neg (by omega), if_neg (by omega), if_neg (by omega), if_neg (by omega), if_neg (by omega), if_neg (by omega), if_neg (by omega)]
      rw [g0]
      obtain ⟨g1, g2⟩ := h.1 c hc (by omega)
      exact ⟨g1, fun d hd => (g2 d hd).trans ⟨fun ⟨k, q1, q2⟩ => ⟨k, q1, (key k c d q1).mpr q2⟩, fun ⟨k, q1, q2⟩ => ⟨k, q1, (key k c d q1).mp q2⟩⟩⟩
  · rw [A3] at hk
    rw [em (146 + 2 * k) (by omega) (by omega), em (147 + 2 * k) (by omega) (by omega), A2]
    have w := h.2 k hk
    omega

set_option maxHeartbeats 4000000 in
theorem T_open {n r r2 x0 x1 : Int32} {v u v2 u2 : Nat → Nat → Int32} (hI : Iv v) (hQ : Ir v2) (h : RR n v v2) (p : (¬ ((0 ≤ x0.toInt ∧ x0.toInt < (v 13 0).toInt) ∧ (0 ≤ x1.toInt ∧ x1.toInt < (v 13 0).toInt) ∧ x0.toInt ≠ x1.toInt) → r = -1 ∧ u = v) ∧ (((0 ≤ x0.toInt ∧ x0.toInt < (v 13 0).toInt) ∧ (0 ≤ x1.toInt ∧ x1.toInt < (v 13 0).toInt) ∧ x0.toInt ≠ x1.toInt) ∧ 6 ≤ (v 13 2).toInt → r = -2 ∧ u = v) ∧ (((0 ≤ x0.toInt ∧ x0.toInt < (v 13 0).toInt) ∧ (0 ≤ x1.toInt ∧ x1.toInt < (v 13 0).toInt) ∧ x0.toInt ≠ x1.toInt) ∧ (v 13 2).toInt < 6 → r = v 13 2 ∧ (∀ k j : Nat, u k j = if k = 13 ∧ j = 2 then v 13 2 + 1 else if 36 + 15 * (v 13 2).toNatClampNeg ≤ k ∧ (k : Int) < 36 + 15 * ((v 13 2).toNatClampNeg : Int) + 2 ∧ j < 24 then 7 else if k = 31 + 15 * (v 13 2).toNatClampNeg ∧ (j : Int) < 2 then -1 else if k = 30 + 15 * (v 13 2).toNatClampNeg ∧ j = 1 then x1 else if k = 30 + 15 * (v 13 2).toNatClampNeg ∧ j = 0 then x0 else if k = 29 + 15 * (v 13 2).toNatClampNeg ∧ j = 5 then 0 else if k = 29 + 15 * (v 13 2).toNatClampNeg ∧ j = 4 then 0 else if k = 29 + 15 * (v 13 2).toNatClampNeg ∧ j = 3 then 1 else if k = 29 + 15 * (v 13 2).toNatClampNeg ∧ j = 2 then 0 else if k = 29 + 15 * (v 13 2).toNatClampNeg ∧ j = 1 then 0 else if k = 29 + 15 * (v 13 2).toNatClampNeg ∧ j = 0 then 0 else v k j))) (q : (¬ ((0 ≤ x0.toInt ∧ x0.toInt < (v2 1 0).toInt) ∧ (0 ≤ x1.toInt ∧ x1.toInt < (v2 1 0).toInt) ∧ x0.toInt ≠ x1.toInt) → r2 = -1 ∧ u2 = v2) ∧ (((0 ≤ x0.toInt ∧ x0.toInt < (v2 1 0).toInt) ∧ (0 ≤ x1.toInt ∧ x1.toInt < (v2 1 0).toInt) ∧ x0.toInt ≠ x1.toInt) ∧ (v2 1 2).toInt = 6 → r2 = -2 ∧ u2 = v2) ∧ (((0 ≤ x0.toInt ∧ x0.toInt < (v2 1 0).toInt) ∧ (0 ≤ x1.toInt ∧ x1.toInt < (v2 1 0).toInt) ∧ x0.toInt ≠ x1.toInt) ∧ (v2 1 2).toInt ≠ 6 → r2 = v2 1 2 ∧ (∀ n : Nat, u2 1 n = if n = 2 then v2 1 2 + 1 else if 308 + 48 * (v2 1 2).toNatClampNeg ≤ n ∧ (n : Int) < 308 + 48 * ((v2 1 2).toNatClampNeg : Int) + 48 then 7 else if n = 75 + 2 * (v2 1 2).toNatClampNeg then -5 else if n = 74 + 2 * (v2 1 2).toNatClampNeg then -5 else if n = 38 + 7 * (v2 1 2).toNatClampNeg then 0 else if n = 37 + 7 * (v2 1 2).toNatClampNeg then 1 else if n = 36 + 7 * (v2 1 2).toNatClampNeg then 0 else if n = 35 + 7 * (v2 1 2).toNatClampNeg then -5 else if n = 34 + 7 * (v2 1 2).toNatClampNeg then 0 else if n = 33 + 7 * (v2 1 2).toNatClampNeg then x1 else if n = 32 + 7 * (v2 1 2).toNatClampNeg then x0 else v2 1 n) ∧ (∀ k : Nat, k ≠ 1 → u2 k = v2 k))) : r = r2 ∧ RR n u u2 := by
  have e0 : v 13 0 = v2 1 0 := h.1.1 _ _ _ (lk_a (by decide))
  have e1 : v 13 1 = v2 1 1 := h.1.1 _ _ _ (lk_a (by decide))
  have e2 : v 13 2 = v2 1 2 := h.1.1 _ _ _ (lk_a (by decide))
  have e3 : v 13 3 = v2 1 3 := h.1.1 _ _ _ (lk_a (by decide))
  have hb0 := hQ 1 0 8 (by decide)
  have hb1 := hQ 1 1 4 (by decide)
  have hb2 := hQ 1 2 6 (by decide)
  have hb3 := hQ 1 3 6 (by decide)
  rw [e0, e2] at p
  by_cases hC : (0 ≤ x0.toInt ∧ x0.toInt < (v2 1 0).toInt) ∧ (0 ≤ x1.toInt ∧ x1.toInt < (v2 1 0).toInt) ∧ x0.toInt ≠ x1.toInt
  · by_cases hD : (v2 1 2).toInt = 6
    · obtain ⟨p1, p2⟩ := p.2.1 ⟨hC, by omega⟩
      obtain ⟨q1, q2⟩ := q.2.1 ⟨hC, hD⟩
      rw [p1, q1, p2, q2]
      exact ⟨rfl, h⟩
    · obtain ⟨p1, p2⟩ := p.2.2 ⟨hC, by omega⟩
      obtain ⟨q1, q2, q3⟩ := q.2.2 ⟨hC, hD⟩
      have zX := t_nn (x := v2 1 2) (by omega)
      have hX : (v2 1 2).toNatClampNeg < 6 := by omega
      have k1 : (1 : Int32).toInt = 1 := by decide
      have hx : (v2 1 2 + 1).toInt = (v2 1 2).toInt + 1 := by rw [t_add (by rw [k1]; omega), k1]
      exact ⟨by rw [p1, q1], h.wr q3 (funext fun j => by rw [p2, if_neg (by omega), if_neg (by omega), if_neg (by omega), if_neg (by omega), if_neg (by omega), if_neg (by omega), if_neg (by omega), if_neg (by omega), if_neg (by omega), if_neg (by omega), if_neg (by omega)]) (fun k hk => funext fun j => by rw [p2, if_neg (by omega), if_neg (by omega), if_neg (by omega), if_neg (by omega), if_neg (by omega), if_neg (by omega), if_neg (by omega), if_neg (by omega), if_neg (by omega), if_neg (by omega), if_neg (by omega)]) ⟨RL_open hX (by omega) hx p2 q2 h.1.1, RX_open hX (by omega) hx p2 q2 h.1.2.1, h.1.2.2.1.cg (by rw [q2, if_neg (by omega), if_neg (by omega), if_neg (by omega), if_neg (by omega), if_neg (by omega), if_neg (by omega), if_neg (by omega), if_neg (by omega), if_neg (by omega), if_neg (by omega), if_neg (by omega)]) (by rw [q2, if_neg (by omega), if_neg (by omega), if_neg (by omega), if_neg (by omega), if_neg (by omega), if_neg (by omega), if_neg (by omega), if_neg (by omega), if_neg (by omega), if_neg (by omega), if_neg (by omega)]) (fun m hm => by rw [q2, if_neg (by omega), if_neg (by omega), if_neg (by omega), if_neg (by omega), if_neg (by omega), if_neg (by omega), if_neg (by omega), if_neg (by omega), if_neg (by omega), if_neg (by omega), if_neg (by omega)]), RG_open hX (by omega) hx hb3.2 p2 q2 h.1.2.2.2⟩⟩
  · obtain ⟨p1, p2⟩ := p.1 hC
    obtain ⟨q1, q2⟩ := q.1 hC
    rw [p1, q1, p2, q2]
    exact ⟨rfl, h⟩

set_option maxHeartbeats 4000000 in
theorem RL_mark {v u : Nat → Nat → Int32} {s z : Nat → Int32} {X Y M : Nat} {x a b c0 d : Int32} (hX : X < 6) (hY : Y < 6) (hM : M < 6) (hu : ∀ k j : Nat, u k j = if k = 13 ∧ j = 3 then x else if k = 29 + 15 * Y ∧ j = 4 then b else if k = 29 + 15 * X ∧ j = 4 then a else v k j) (hs : ∀ n : Nat, z n = if n = 3 then x else if n = 147 + 2 * M then d else if n = 146 + 2 * M then c0 else s n) (hR : RLk 13 v s) : RLk 13 u z := by
  have A0 : (z 0).toInt = (s 0).toInt := by rw [hs, if_neg (by omega), if_neg (by omega), if_neg (by omega)]
  have A1 : (z 1).toInt = (s 1).toInt := by rw [hs, if_neg (by omega), if_neg (by omega), if_neg (by omega)]
  have A2 : (z 2).toInt = (s 2).toInt := by rw [hs, if_neg (by omega), if_neg (by omega), if_neg (by omega)]
  have A36 : ∀ c : Nat, c < 6 → (z (36 + 7 * c)).toInt = (s (36 + 7 * c)).toInt := fun c hc => by rw [hs, if_neg (by omega), if_neg (by omega), if_neg (by omega)]
  have A38 : ∀ c : Nat, c < 6 → (z (38 + 7 * c)).toInt = (s (38 + 7 * c)).toInt := fun c hc => by rw [hs, if_neg (by omega), if_neg (by omega), if_neg (by omega)]
  intro k j n h
  unfold lk at h
  rcases h with ⟨rfl, hj, rfl⟩ | ⟨p, hp, ha, hj, rfl, rfl⟩ | ⟨m, hm, ha, hj, rfl, rfl⟩ | ⟨m, hm, ha, rfl, rfl, rfl⟩ | ⟨c, hc, ha, rfl, rfl, rfl⟩ | ⟨c, hc, ha, rfl, rfl, rfl⟩ | ⟨c, hc, ha, rfl, rfl, rfl⟩ | ⟨c, hc, ha, rfl, rfl, rfl⟩ | ⟨c, hc, ha, hj, rfl, rfl⟩ | ⟨c, i, hc, ha, hi, hj, hr, rfl, rfl⟩ | ⟨c, i, hc, ha, hi, hj, rfl, rfl⟩ | ⟨c, t, hc, ha, ht, hr, hj, rfl, rfl⟩
  · by_cases e0 : 13 = 13 ∧ n = 3
    · have d1 : u (13) n = x := by rw [hu, if_pos (by omega)]
      have d2 : z (n) = x := by rw [hs, if_pos (by omega)]
      exact d1.trans d2.symm
    · skip
      have d1 : u (13) n = v (13) n := by rw [hu, if_neg (by omega), if_neg (by omega), if_neg (by omega)]
      have d2 : z (n) = s (n) := by rw [hs, if_neg (by omega), if_neg (by omega), if_neg (by omega)]
      exact d1.trans ((hR _ _ _ (lk_a hj)).trans d2.symm)
  · have d1 : u (13 + 4 + p) j = v (13 + 4 + p) j := by rw [hu, if_neg (by omega), if_neg (by omega), if_neg (by omega)]
    have d2 : z (4 + 2 * p + j) = s (4 + 2 * p + j) := by rw [hs, if_neg (by omega), if_neg (by omega), if_neg (by omega)]
    exact d1.trans ((hR _ _ _ (lk_p hp (by omega) hj)).trans d2.symm)
  · have d1 : u (13 + 12 + m) j = v (13 + 12 + m) j := by rw [hu, if_neg (by omega), if_neg (by omega), if_neg (by omega)]
    have d2 : z (20 + 2 * m + j) = s (20 + 2 * m + j) := by rw [hs, if_neg (by omega), if_neg (by omega), if_neg (by omega)]
    exact d1.trans ((hR _ _ _ (lk_m hm (by omega) hj)).trans d2.symm)
  · have d1 : u (13 + 12 + m) 2 = v (13 + 12 + m) 2 := by rw [hu, if_neg (by omega), if_neg (by omega), if_neg (by omega)]
    have d2 : z (28 + m) = s (28 + m) := by rw [hs, if_neg (by omega), if_neg (by omega), if_neg (by omega)]
    exact d1.trans ((hR _ _ _ (lk_k_ hm (by omega))).trans d2.symm)
  · have d1 : u (13 + 16 + 15 * c) 0 = v (13 + 16 + 15 * c) 0 := by rw [hu, if_neg (by omega), if_neg (by omega), if_neg (by omega)]
    have d2 : z (34 + 7 * c) = s (34 + 7 * c) := by rw [hs, if_neg (by omega), if_neg (by omega), if_neg (by omega)]
    exact d1.trans ((hR _ _ _ (lk_c0 hc (by omega))).trans d2.symm)
  · have d1 : u (13 + 16 + 15 * c) 2 = v (13 + 16 + 15 * c) 2 := by rw [hu, if_neg (by omega), if_neg (by omega), if_neg (by omega)]
    have d2 : z (36 + 7 * c) = s (36 + 7 * c) := by rw [hs, if_neg (by omega), if_neg (by omega), if_neg (by omega)]
    exact d1.trans ((hR _ _ _ (lk_c2 hc (by omega))).trans d2.symm)
  · have d1 : u (13 + 16 + 15 * c) 3 = v (13 + 16 + 15 * c) 3 := by rw [hu, if_neg (by omega), if_neg (by omega), if_neg (by omega)]
    have d2 : z (37 + 7 * c) = s (37 + 7 * c) := by rw [hs, if_neg (by omega), if_neg (by omega), if_neg (by omega)]
    exact d1.trans ((hR _ _ _ (lk_c3 hc (by omega))).trans d2.symm)
  · have d1 : u (13 + 16 + 15 * c) 5 = v (13 + 16 + 15 * c) 5 := by rw [hu, if_neg (by omega), if_neg (by omega), if_neg (by omega)]
    have d2 : z (38 + 7 * c) = s (38 + 7 * c) := by rw [hs, if_neg (by omega), if_neg (by omega), if_neg (by omega)]
    exact d1.trans ((hR _ _ _ (lk_c5 hc (by omega))).trans d2.symm)
  · have d1 : u (13 + 17 + 15 * c) j = v (13 + 17 + 15 * c) j := by rw [hu, if_neg (by omega), if_neg (by omega), if_neg (by omega)]
    have d2 : z (32 + 7 * c + j) = s (32 + 7 * c + j) := by rw [hs, if_neg (by omega), if_neg (by omega), if_neg (by omega)]
    exact d1.trans ((hR _ _ _ (lk_q hc (by omega) hj)).trans d2.symm)
  · have a36 := A36 c hc
    have d1 : u (13 + 20 + 15 * c + i) j = v (13 + 20 + 15 * c + i) j := by rw [hu, if_neg (by omega), if_neg (by omega), if_neg (by omega)]
    have d2 : z (86 + 10 * c + 2 * j + i) = s (86 + 10 * c + 2 * j + i) := by rw [hs, if_neg (by omega), if_neg (by omega), if_neg (by omega)]
    exact d1.trans ((hR _ _ _ (lk_o hc (by omega) hi hj (by omega))).trans d2.symm)
  · have d1 : u (13 + 23 + 15 * c + i) j = v (13 + 23 + 15 * c + i) j := by rw [hu, if_neg (by omega), if_neg (by omega), if_neg (by omega)]
    have d2 : z (308 + 48 * c + 24 * i + j) = s (308 + 48 * c + 24 * i + j) := by rw [hs, if_neg (by omega), if_neg (by omega), if_neg (by omega)]
    exact d1.trans ((hR _ _ _ (lk_l hc (by omega) hi hj)).trans d2.symm)
  · have a38 := A38 c hc
    have d1 : u (13 + 26 + 15 * c + t) j = v (13 + 26 + 15 * c + t) j := by rw [hu, if_neg (by omega), if_neg (by omega), if_neg (by omega)]
    have d2 : z (158 + 25 * c + 5 * t + j) = s (158 + 25 * c + 5 * t + j) := by rw [hs, if_neg (by omega), if_neg (by omega), if_neg (by omega)]
    exact d1.trans ((hR _ _ _ (lk_t hc (by omega) ht (by omega) hj)).trans d2.symm)

/-- a mark's bit -/
theorem kb_4 : ∀ x : Fin 64, ∀ p : Fin 6, (0 ≤ (Int32.ofNat x.val ||| (1 <<< (Int32.ofNat p.val &&& 31))).toInt ∧ (Int32.ofNat x.val ||| (1 <<< (Int32.ofNat p.val &&& 31))).toInt < 64) ∧ ∀ d : Fin 6, ((btx (Int32.ofNat x.val ||| (1 <<< (Int32.ofNat p.val &&& 31))) (Int32.ofNat d.val)).toInt = 1 ↔ ((btx (Int32.ofNat x.val) (Int32.ofNat d.val)).toInt = 1 ∨ d.val = p.val)) := by decide +kernel
theorem mk_bit {x y : Int32} {P : Nat} (hx : 0 ≤ x.toInt ∧ x.toInt < 64) (hP : P < 6) (hy : y.toInt = (P : Int)) : (0 ≤ (x ||| (1 <<< (y &&& 31))).toInt ∧ (x ||| (1 <<< (y &&& 31))).toInt < 64) ∧ ∀ d : Nat, d < 6 → ((btx (x ||| (1 <<< (y &&& 31))) (Int32.ofNat d)).toInt = 1 ↔ ((btx x (Int32.ofNat d)).toInt = 1 ∨ d = P)) := by
  have zx := t_nn hx.1
  have zy := t_nn (x := y) (by omega)
  have ex := ofn hx.1
  have ey := ofn (x := y) (by omega)
  have eP : y.toNatClampNeg = P := by omega
  rw [eP] at ey
  have k := kb_4 ⟨x.toNatClampNeg, by omega⟩ ⟨P, hP⟩
  refine ⟨?_, fun d hd => ?_⟩
  · have k1 : 0 ≤ (Int32.ofNat x.toNatClampNeg ||| (1 <<< (Int32.ofNat P &&& 31))).toInt ∧ (Int32.ofNat x.toNatClampNeg ||| (1 <<< (Int32.ofNat P &&& 31))).toInt < 64 := k.1
    rw [← ex, ← ey] at k1
    exact k1
  · have k2 : (btx (Int32.ofNat x.toNatClampNeg ||| (1 <<< (Int32.ofNat P &&& 31))) (Int32.ofNat d)).toInt = 1 ↔ ((btx (Int32.ofNat x.toNatClampNeg) (Int32.ofNat d)).toInt = 1 ∨ d = P) := k.2 ⟨d, hd⟩
    rw [← ex, ← ey] at k2
    exact k2
set_option maxHeartbeats 4000000 in
theorem RG_mark {v u : Nat → Nat → Int32} {s z : Nat → Int32} {X Y M : Nat} {x y0 y1 : Int32} (hX : X < 6) (hY : Y < 6) (hM : M < 6) (hXY : X ≠ Y) (hn : (s 3).toInt = (M : Int)) (hx : x.toInt = (s 3).toInt + 1) (h0 : y0.toInt = (X : Int)) (h1 : y1.toInt = (Y : Int)) (hcX : (X : Int) < (s 2).toInt) (hcY : (Y : Int) < (s 2).toInt) (hu : ∀ k j : Nat, u k j = if k = 13 ∧ j = 3 then x else if k = 29 + 15 * Y ∧ j = 4 then v (29 + 15 * Y) 4 ||| (1 <<< (y0 &&& 31)) else if k = 29 + 15 * X ∧ j = 4 then v (29 + 15 * X) 4 ||| (1 <<< (y1 &&& 31)) else v k j) (hs : ∀ n : Nat, z n = if n = 3 then x else if n = 147 + 2 * M then y1 else if n = 146 + 2 * M then y0 else s n) (h : RG 13 v s) : RG 13 u z := by
  have A2 : z 2 = s 2 := by rw [hs, if_neg (by omega), if_neg (by omega), if_neg (by omega)]
  have A3 : (z 3).toInt = (s 3).toInt + 1 := by rw [hs, if_pos rfl]; exact hx
  have eo : ∀ k : Nat, (k : Int) < (s 3).toInt → z (146 + 2 * k) = s (146 + 2 * k) ∧ z (147 + 2 * k) = s (147 + 2 * k) := fun k hk => ⟨by rw [hs, if_neg (by omega), if_neg (by omega), if_neg (by omega)], by rw [hs, if_neg (by omega), if_neg (by omega), if_neg (by omega)]⟩
  have en : z (146 + 2 * M) = y0 ∧ z (147 + 2 * M) = y1 := ⟨by rw [hs, if_neg (by omega), if_neg (by omega), if_pos rfl], by rw [hs, if_neg (by omega), if_pos rfl]⟩
  have key : ∀ a b : Nat, (∃ k : Nat, (k : Int) < (z 3).toInt ∧ mj z k a b) ↔ ((∃ k : Nat, (k : Int) < (s 3).toInt ∧ mj s k a b) ∨ (a = X ∧ b = Y) ∨ (a = Y ∧ b = X)) := fun a b => by
    refine ⟨fun ⟨k, q1, q2⟩ => ?_, fun q => ?_⟩
    · by_cases hk : (k : Int) < (s 3).toInt
      · refine Or.inl ⟨k, hk, ?_⟩
        unfold mj at q2 ⊢
        rw [(eo k hk).1, (eo k hk).2] at q2
        exact q2
      · have ek : k = M := by omega
        subst ek
        unfold mj at q2
        rw [en.1, en.2, h0, h1] at q2
        omega
    · rcases q with ⟨k, q1, q2⟩ | q
      · refine ⟨k, by omega, ?_⟩
        unfold mj at q2 ⊢
        rw [(eo k q1).1, (eo k q1).2]
        exact q2
      · refine ⟨M, by omega, ?_⟩
        unfold mj
        rw [en.1, en.2, h0, h1]
        omega
  refine ⟨fun c hc ha => ?_, fun k hk => ?_⟩
  · rw [A2] at ha
    obtain ⟨g1, g2⟩ := h.1 c hc ha
    by_cases cX : c = X
    · subst cX
      have g0 : u (13 + 16 + 15 * c) 4 = v (29 + 15 * c) 4 ||| (1 <<< (y1 &&& 31)) := by rw [hu, if_neg (by omega), if_neg (by omega), if_pos (by omega)]
      obtain ⟨b1, b2⟩ := mk_bit (x := v (29 + 15 * c) 4) g1 hY h1
      unfold GC
      rw [g0]
      refine ⟨b1, fun d hd => (b2 d hd).trans (((or_congr (g2 d hd) Iff.rfl).trans ?_).trans (key c d).symm)⟩
      refine or_congr Iff.rfl ⟨fun q => Or.inl ⟨rfl, q⟩, fun q => ?_⟩
      omega
    · by_cases cY : c = Y
      · subst cY
        have g0 : u (13 + 16 + 15 * c) 4 = v (29 + 15 * c) 4 ||| (1 <<< (y0 &&& 31)) := by rw [hu, if_neg (by omega), if_pos (by omega)]
        obtain ⟨b1, b2⟩ := mk_bit (x := v (29 + 15 * c) 4) g1 hX h0
        unfold GC
        rw [g0]
        refine ⟨b1, fun d hd => (b2 d hd).trans (((or_congr (g2 d hd) Iff.rfl).trans ?_).trans (key c d).symm)⟩
        refine or_congr Iff.rfl ⟨fun q => Or.inr ⟨rfl, q⟩, fun q => ?_⟩
        omega
      · have g0 : u (13 + 16 + 15 * c) 4 = v (13 + 16 + 15 * c) 4 := by rw [hu, if_neg (by omega), if_neg (by omega), if_neg (by omega)]
        unfold GC
        rw [g0]
        refine ⟨g1, fun d hd => (g2 d hd).trans (Iff.trans ⟨fun q => Or.inl q, fun q => ?_⟩ (key c d).symm)⟩
        rcases q with q | q
        · exact q
        · exfalso
          omega
  · rw [A2]
    by_cases hk2 : (k : Int) < (s 3).toInt
    · rw [(eo k hk2).1, (eo k hk2).2]
      exact h.2 k hk2
    · have ek : k = M := by omega
      subst ek
      rw [en.1, en.2]
      omega

set_option maxHeartbeats 4000000 in
theorem T_mark {n r r2 x0 x1 : Int32} {v u v2 u2 : Nat → Nat → Int32} (hI : Iv v) (hQ : Ir v2) (h : RR n v v2) (p : (¬ ((0 ≤ x0.toInt ∧ x0.toInt < (v 13 2).toInt) ∧ (0 ≤ x1.toInt ∧ x1.toInt < (v 13 2).toInt) ∧ x0.toInt ≠ x1.toInt) → r = -1 ∧ u = v) ∧ (((0 ≤ x0.toInt ∧ x0.toInt < (v 13 2).toInt) ∧ (0 ≤ x1.toInt ∧ x1.toInt < (v 13 2).toInt) ∧ x0.toInt ≠ x1.toInt) ∧ (btx (v (29 + 15 * x0.toNatClampNeg) 4) x1).toInt = 1 → r = -3 ∧ u = v) ∧ (((0 ≤ x0.toInt ∧ x0.toInt < (v 13 2).toInt) ∧ (0 ≤ x1.toInt ∧ x1.toInt < (v 13 2).toInt) ∧ x0.toInt ≠ x1.toInt) ∧ (btx (v (29 + 15 * x0.toNatClampNeg) 4) x1).toInt ≠ 1 ∧ 6 ≤ (v 13 3).toInt → r = -2 ∧ u = v) ∧ (((0 ≤ x0.toInt ∧ x0.toInt < (v 13 2).toInt) ∧ (0 ≤ x1.toInt ∧ x1.toInt < (v 13 2).toInt) ∧ x0.toInt ≠ x1.toInt) ∧ (btx (v (29 + 15 * x0.toNatClampNeg) 4) x1).toInt ≠ 1 ∧ (v 13 3).toInt < 6 → r = v 13 3 + 1 ∧ (∀ k j : Nat, u k j = if k = 13 ∧ j = 3 then v 13 3 + 1 else if k = 29 + 15 * x1.toNatClampNeg ∧ j = 4 then v (29 + 15 * x1.toNatClampNeg) 4 ||| (1 <<< (x0 &&& 31)) else if k = 29 + 15 * x0.toNatClampNeg ∧ j = 4 then v (29 + 15 * x0.toNatClampNeg) 4 ||| (1 <<< (x1 &&& 31)) else v k j))) (q : (¬ ((0 ≤ x0.toInt ∧ x0.toInt < (v2 1 2).toInt) ∧ (0 ≤ x1.toInt ∧ x1.toInt < (v2 1 2).toInt) ∧ x0.toInt ≠ x1.toInt) → r2 = -1 ∧ u2 = v2) ∧ (((0 ≤ x0.toInt ∧ x0.toInt < (v2 1 2).toInt) ∧ (0 ≤ x1.toInt ∧ x1.toInt < (v2 1 2).toInt) ∧ x0.toInt ≠ x1.toInt) ∧ (∃ k : Nat, (k : Int) < (v2 1 3).toInt ∧ mk (v2 1) k x0 x1) → r2 = -3 ∧ u2 = v2) ∧ (((0 ≤ x0.toInt ∧ x0.toInt < (v2 1 2).toInt) ∧ (0 ≤ x1.toInt ∧ x1.toInt < (v2 1 2).toInt) ∧ x0.toInt ≠ x1.toInt) ∧ ¬ (∃ k : Nat, (k : Int) < (v2 1 3).toInt ∧ mk (v2 1) k x0 x1) ∧ (v2 1 3).toInt = 6 → r2 = -2 ∧ u2 = v2) ∧ (((0 ≤ x0.toInt ∧ x0.toInt < (v2 1 2).toInt) ∧ (0 ≤ x1.toInt ∧ x1.toInt < (v2 1 2).toInt) ∧ x0.toInt ≠ x1.toInt) ∧ ¬ (∃ k : Nat, (k : Int) < (v2 1 3).toInt ∧ mk (v2 1) k x0 x1) ∧ (v2 1 3).toInt ≠ 6 → r2 = v2 1 3 + 1 ∧ (∀ n : Nat, u2 1 n = if n = 3 then v2 1 3 + 1 else if n = 147 + 2 * (v2 1 3).toNatClampNeg then x1 else if n = 146 + 2 * (v2 1 3).toNatClampNeg then x0 else v2 1 n) ∧ (∀ k : Nat, k ≠ 1 → u2 k = v2 k))) : r = r2 ∧ RR n u u2 := by
  have e0 : v 13 0 = v2 1 0 := h.1.1 _ _ _ (lk_a (by decide))
  have e1 : v 13 1 = v2 1 1 := h.1.1 _ _ _ (lk_a (by decide))
  have e2 : v 13 2 = v2 1 2 := h.1.1 _ _ _ (lk_a (by decide))
  have e3 : v 13 3 = v2 1 3 := h.1.1 _ _ _ (lk_a (by decide))
  have hb0 := hQ 1 0 8 (by decide)
  have hb1 := hQ 1 1 4 (by decide)
  have hb2 := hQ 1 2 6 (by decide)
  have hb3 := hQ 1 3 6 (by decide)
  rw [e2, e3] at p
  by_cases hC : (0 ≤ x0.toInt ∧ x0.toInt < (v2 1 2).toInt) ∧ (0 ≤ x1.toInt ∧ x1.toInt < (v2 1 2).toInt) ∧ x0.toInt ≠ x1.toInt
  · have zX := t_nn (x := x0) (by omega)
    have hX : x0.toNatClampNeg < 6 := by omega
    have ha : (x0.toNatClampNeg : Int) < (v2 1 2).toInt := by omega
    have zY := t_nn (x := x1) (by omega)
    have hY : x1.toNatClampNeg < 6 := by omega
    have hb : (x1.toNatClampNeg : Int) < (v2 1 2).toInt := by omega
    have hXY : x0.toNatClampNeg ≠ x1.toNatClampNeg := by omega
    obtain ⟨g1, g2⟩ := h.1.2.2.2.1 _ hX ha
    have g3 := g2 _ hY
    rw [← ofn (x := x1) (by omega)] at g3
    have g4 : (btx (v (29 + 15 * x0.toNatClampNeg) 4) x1).toInt = 1 ↔ ∃ k : Nat, (k : Int) < (v2 1 3).toInt ∧ mk (v2 1) k x0 x1 := g3.trans ⟨fun ⟨k, a, b⟩ => ⟨k, a, by unfold mj at b; unfold mk; omega⟩, fun ⟨k, a, b⟩ => ⟨k, a, by unfold mk at b; unfold mj; omega⟩⟩
    by_cases hT : ∃ k : Nat, (k : Int) < (v2 1 3).toInt ∧ mk (v2 1) k x0 x1
    · obtain ⟨p1, p2⟩ := p.2.1 ⟨hC, g4.mpr hT⟩
      obtain ⟨q1, q2⟩ := q.2.1 ⟨hC, hT⟩
      rw [p1, q1, p2, q2]
      exact ⟨rfl, h⟩
    · have hN : (btx (v (29 + 15 * x0.toNatClampNeg) 4) x1).toInt ≠ 1 := fun w => hT (g4.mp w)
      by_cases hD : (v2 1 3).toInt = 6
      · obtain ⟨p1, p2⟩ := p.2.2.1 ⟨hC, hN, by omega⟩
        obtain ⟨q1, q2⟩ := q.2.2.1 ⟨hC, hT, hD⟩
        rw [p1, q1, p2, q2]
        exact ⟨rfl, h⟩
      · obtain ⟨p1, p2⟩ := p.2.2.2 ⟨hC, hN, by omega⟩
        obtain ⟨q1, q2, q3⟩ := q.2.2.2 ⟨hC, hT, hD⟩
        have zM := t_nn (x := v2 1 3) (by omega)
        have hM : (v2 1 3).toNatClampNeg < 6 := by omega
        have k1 : (1 : Int32).toInt = 1 := by decide
        have hx : (v2 1 3 + 1).toInt = (v2 1 3).toInt + 1 := by rw [t_add (by rw [k1]; omega), k1]
        clear hT hN g4 g3 g2 p q
        exact ⟨by rw [p1, q1], h.wr q3 (funext fun j => by rw [p2, if_neg (by omega), if_neg (by omega), if_neg (by omega)]) (fun k hk => funext fun j => by rw [p2, if_neg (by omega), if_neg (by omega), if_neg (by omega)]) ⟨RL_mark hX hY hM p2 q2 h.1.1, h.1.2.1.cg (by rw [q2, if_neg (by omega), if_neg (by omega), if_neg (by omega)]) (fun c hc => ⟨by rw [p2, if_neg (by omega), if_neg (by omega), if_neg (by omega)], by rw [p2, if_neg (by omega), if_neg (by omega), if_neg (by omega)], by rw [p2, if_neg (by omega), if_neg (by omega), if_neg (by omega)]⟩) (fun c hc => ⟨by rw [q2, if_neg (by omega), if_neg (by omega), if_neg (by omega)], by rw [q2, if_neg (by omega), if_neg (by omega), if_neg (by omega)], by rw [q2, if_neg (by omega), if_neg (by omega), if_neg (by omega)], by rw [q2, if_neg (by omega), if_neg (by omega), if_neg (by omega)]⟩), h.1.2.2.1.cg (by rw [q2, if_neg (by omega), if_neg (by omega), if_neg (by omega)]) (by rw [q2, if_neg (by omega), if_neg (by omega), if_neg (by omega)]) (fun m hm => by rw [q2, if_neg (by omega), if_neg (by omega), if_neg (by omega)]), RG_mark hX hY hM hXY zM.symm hx zX.symm zY.symm ha hb p2 q2 h.1.2.2.2⟩⟩
  · obtain ⟨p1, p2⟩ := p.1 hC
    obtain ⟨q1, q2⟩ := q.1 hC
    rw [p1, q1, p2, q2]
    exact ⟨rfl, h⟩
