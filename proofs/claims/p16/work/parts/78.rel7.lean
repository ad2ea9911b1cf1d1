
/-- a round over: a asks, g gives; only the last one of a settled case met -/
def od (st sm rd a g : Int32) (j : Nat) : Prop := (0 ≤ a.toInt ∧ a.toInt ≤ 100) ∧ (0 ≤ g.toInt ∧ g.toInt ≤ 100) ∧ (st.toInt = 1 ∧ (j : Int) + 1 = rd.toInt → a.toInt ≤ g.toInt ∧ sm = (a + g) / 2) ∧ (¬ (st.toInt = 1 ∧ (j : Int) + 1 = rd.toInt) → g.toInt < a.toInt)
def OR_ (s : Nat → Int32) (c : Nat) : Prop := ((s (34 + 7 * c)).toInt = 1 → 1 ≤ (s (36 + 7 * c)).toInt) ∧ ∀ j : Nat, j < 5 → (j : Int) < (s (36 + 7 * c)).toInt → od (s (34 + 7 * c)) (s (35 + 7 * c)) (s (36 + 7 * c)) (s (86 + 10 * c + 2 * j)) (s (87 + 10 * c + 2 * j)) j
def OT (s : Nat → Int32) (c : Nat) : Prop := ∀ t : Nat, t < 5 → (t : Int) < (s (38 + 7 * c)).toInt → (s (161 + 25 * c + 5 * t)).toInt ≤ (s (162 + 25 * c + 5 * t)).toInt
def OP (s : Nat → Int32) (c : Nat) : Prop := (0 ≤ (s (32 + 7 * c)).toInt ∧ (s (32 + 7 * c)).toInt < (s 0).toInt) ∧ 0 ≤ (s (33 + 7 * c)).toInt ∧ (s (33 + 7 * c)).toInt < (s 0).toInt
def OW (s : Nat → Int32) (c : Nat) : Prop := 1 ≤ (s (37 + 7 * c)).toInt ∧ (s (37 + 7 * c)).toInt ≤ 9
def OC (s : Nat → Int32) (c : Nat) : Prop := OP s c ∧ OW s c ∧ OR_ s c ∧ OT s c
def RO (s : Nat → Int32) : Prop := ∀ c : Nat, c < 6 → (c : Int) < (s 2).toInt → OC s c
section ROS
variable {s z : Nat → Int32} {c : Nat}
theorem OP.cg (h : OP s c) (h0 : (s 0).toInt ≤ (z 0).toInt) (e : ∀ w : Nat, 32 ≤ w → w < 34 → z (w + 7 * c) = s (w + 7 * c)) : OP z c := by
  unfold OP at h ⊢
  rw [e 32 (by decide) (by decide), e 33 (by decide) (by decide)]
  omega
theorem OW.cg (h : OW s c) (e : z (37 + 7 * c) = s (37 + 7 * c)) : OW z c := by
  unfold OW at h ⊢
  rw [e]
  exact h
theorem OR_.cg (h : OR_ s c) (e : ∀ w : Nat, 34 ≤ w → w < 37 → z (w + 7 * c) = s (w + 7 * c)) (eo : ∀ w : Nat, w < 10 → z (86 + w + 10 * c) = s (86 + w + 10 * c)) : OR_ z c := by
  unfold OR_ at h ⊢
  rw [e 34 (by decide) (by decide), e 35 (by decide) (by decide), e 36 (by decide) (by decide)]
  refine ⟨h.1, fun j hj hr => ?_⟩
  rw [show 86 + 10 * c + 2 * j = 86 + 2 * j + 10 * c from by omega, show 87 + 10 * c + 2 * j = 86 + (2 * j + 1) + 10 * c from by omega, eo (2 * j) (by omega), eo (2 * j + 1) (by omega), show 86 + 2 * j + 10 * c = 86 + 10 * c + 2 * j from by omega, show 86 + (2 * j + 1) + 10 * c = 87 + 10 * c + 2 * j from by omega]
  exact h.2 j hj hr
theorem OT.cg (h : OT s c) (e : z (38 + 7 * c) = s (38 + 7 * c)) (et : ∀ t : Nat, t < 5 → (t : Int) < (s (38 + 7 * c)).toInt → z (161 + 25 * c + 5 * t) = s (161 + 25 * c + 5 * t) ∧ z (162 + 25 * c + 5 * t) = s (162 + 25 * c + 5 * t)) : OT z c := by
  intro t ht hr
  rw [e] at hr
  rw [(et t ht hr).1, (et t ht hr).2]
  exact h t ht hr
end ROS
/-- as RR, with what holds of the cases -/
def RR3 (n : Int32) (v v2 : Nat → Nat → Int32) : Prop := RR n v v2 ∧ RO (v2 1) ∧ (n = 1 → RO (v2 2))
section RR3S
variable {n r r2 : Int32} {v v2 u u2 : Nat → Nat → Int32}
theorem RR3.mv (h : RR3 n v v2) (f : Fz v u) (g : Fq v2 u2) : RR3 n u u2 := ⟨h.1.mv f g, by rw [g.1]; exact h.2.1, fun q => by rw [g.2.1]; exact h.2.2 q⟩
theorem RR3.wr (h : RR3 n v v2) (h1 : r = r2 ∧ RR n u u2) (h2 : RO (u2 1)) (h3 : u2 2 = v2 2) : r = r2 ∧ RR3 n u u2 := ⟨h1.1, h1.2, h2, fun q => by rw [h3]; exact h.2.2 q⟩
theorem RO.copy {s z : Nat → Int32} (h : RO s) (hz : ∀ n : Nat, n < 596 → z n = s n) : RO z := by
  intro c hc ha
  rw [hz 2 (by decide)] at ha
  obtain ⟨h1, h2, h3, h4⟩ := h c hc ha
  exact ⟨h1.cg (by rw [hz 0 (by decide)]; exact Int.le_refl _) (fun w a b => hz _ (by omega)), h2.cg (hz _ (by omega)), h3.cg (fun w a b => hz _ (by omega)) (fun w a => hz _ (by omega)), h4.cg (hz _ (by omega)) (fun t ht _ => ⟨hz _ (by omega), hz _ (by omega)⟩)⟩
end RR3S
theorem RO_0 : RO (m_0 1) := fun c hc ha => absurd ha (by have z : (0 : Int32).toInt = 0 := by decide
                                                          show ¬ (c : Int) < (0 : Int32).toInt; omega)
theorem RR3_0 : RR3 0 v_0 m_0 := ⟨RR_0, RO_0, fun q => absurd q (by decide)⟩

set_option maxHeartbeats 4000000 in
theorem S_weight {n r r2 x0 x1 : Int32} {v u v2 u2 : Nat → Nat → Int32} (hI : Iv v) (hQ : Ir v2) (h0 : RR3 n v v2) (p : (¬ ((0 ≤ x0.toInt ∧ x0.toInt < (v 13 2).toInt) ∧ 1 ≤ x1.toInt ∧ x1.toInt ≤ 9) → r = -1 ∧ u = v) ∧ ((0 ≤ x0.toInt ∧ x0.toInt < (v 13 2).toInt) ∧ 1 ≤ x1.toInt ∧ x1.toInt ≤ 9 → r = v (29 + 15 * x0.toNatClampNeg) 3 ∧ (∀ k j : Nat, u k j = if k = 29 + 15 * x0.toNatClampNeg ∧ j = 3 then x1 else v k j))) (q : (¬ ((0 ≤ x0.toInt ∧ x0.toInt < (v2 1 2).toInt) ∧ 1 ≤ x1.toInt ∧ x1.toInt ≤ 9) → r2 = -1 ∧ u2 = v2) ∧ ((0 ≤ x0.toInt ∧ x0.toInt < (v2 1 2).toInt) ∧ 1 ≤ x1.toInt ∧ x1.toInt ≤ 9 → r2 = v2 1 (37 + 7 * x0.toNatClampNeg) ∧ (∀ n : Nat, u2 1 n = if n = 37 + 7 * x0.toNatClampNeg then x1 else v2 1 n) ∧ (∀ k : Nat, k ≠ 1 → u2 k = v2 k))) : r = r2 ∧ RR3 n u u2 := by
  have h := h0.1
  have hO := h0.2.1
  have hT := T_weight hI hQ h p q
  have hb0 := hQ 1 0 8 (by decide)
  have hb1 := hQ 1 1 4 (by decide)
  have hb2 := hQ 1 2 6 (by decide)
  have hb3 := hQ 1 3 6 (by decide)
  by_cases hC : (0 ≤ x0.toInt ∧ x0.toInt < (v2 1 2).toInt) ∧ 1 ≤ x1.toInt ∧ x1.toInt ≤ 9
  · obtain ⟨-, q2, q3⟩ := q.2 hC
    have zX := t_nn (x := x0) (by omega)
    have hX : x0.toNatClampNeg < 6 := by omega
    have hXa : (x0.toNatClampNeg : Int) < (v2 1 2).toInt := by omega
    refine h0.wr hT ?_ (q3 2 (by decide))
    intro c hc ha
    have E2 : u2 1 2 = v2 1 2 := by rw [q2, if_neg (by omega)]
    rw [E2] at ha
    obtain ⟨a1, a2, a3, a4⟩ := hO c hc ha
    refine ⟨a1.cg (by rw [q2, if_neg (by omega)]; exact Int.le_refl _) (fun w f1 f2 => by rw [q2, if_neg (by omega)]), ?_, a3.cg (fun w f1 f2 => by rw [q2, if_neg (by omega)]) (fun w f1 => by rw [q2, if_neg (by omega)]), a4.cg (by rw [q2, if_neg (by omega)]) (fun t ht hr => ⟨by rw [q2, if_neg (by omega)], by rw [q2, if_neg (by omega)]⟩)⟩
    by_cases e : c = x0.toNatClampNeg
    · unfold OW
      rw [q2, if_pos (by omega)]
      exact hC.2
    · exact a2.cg (by rw [q2, if_neg (by omega)])
  · obtain ⟨-, q2⟩ := q.1 hC
    exact h0.wr hT (by rw [q2]; exact hO) (by rw [q2])

set_option maxHeartbeats 4000000 in
theorem S_log {n r r2 x0 x1 x2 x3 : Int32} {v u v2 u2 : Nat → Nat → Int32} (hI : Iv v) (hQ : Ir v2) (h0 : RR3 n v v2) (p : (¬ ((0 ≤ x0.toInt ∧ x0.toInt < (v 13 2).toInt) ∧ (0 ≤ x1.toInt ∧ x1.toInt ≤ 1) ∧ (0 ≤ x2.toInt ∧ x2.toInt ≤ 23) ∧ 0 ≤ x3.toInt ∧ x3.toInt ≤ 7) → r = -1 ∧ u = v) ∧ ((0 ≤ x0.toInt ∧ x0.toInt < (v 13 2).toInt) ∧ (0 ≤ x1.toInt ∧ x1.toInt ≤ 1) ∧ (0 ≤ x2.toInt ∧ x2.toInt ≤ 23) ∧ 0 ≤ x3.toInt ∧ x3.toInt ≤ 7 → r = v (36 + 15 * x0.toNatClampNeg + x1.toNatClampNeg) x2.toNatClampNeg ∧ (∀ k j : Nat, u k j = if k = 36 + 15 * x0.toNatClampNeg + x1.toNatClampNeg ∧ j = x2.toNatClampNeg then x3 else v k j))) (q : (¬ ((0 ≤ x0.toInt ∧ x0.toInt < (v2 1 2).toInt) ∧ (0 ≤ x1.toInt ∧ x1.toInt ≤ 1) ∧ (0 ≤ x2.toInt ∧ x2.toInt ≤ 23) ∧ 0 ≤ x3.toInt ∧ x3.toInt ≤ 7) → r2 = -1 ∧ u2 = v2) ∧ ((0 ≤ x0.toInt ∧ x0.toInt < (v2 1 2).toInt) ∧ (0 ≤ x1.toInt ∧ x1.toInt ≤ 1) ∧ (0 ≤ x2.toInt ∧ x2.toInt ≤ 23) ∧ 0 ≤ x3.toInt ∧ x3.toInt ≤ 7 → r2 = v2 1 (308 + 48 * x0.toNatClampNeg + 24 * x1.toNatClampNeg + x2.toNatClampNeg) ∧ (∀ n : Nat, u2 1 n = if n = 308 + 48 * x0.toNatClampNeg + 24 * x1.toNatClampNeg + x2.toNatClampNeg then x3 else v2 1 n) ∧ (∀ k : Nat, k ≠ 1 → u2 k = v2 k))) : r = r2 ∧ RR3 n u u2 := by
  have h := h0.1
  have hO := h0.2.1
  have hT := T_log hI hQ h p q
  have hb0 := hQ 1 0 8 (by decide)
  have hb1 := hQ 1 1 4 (by decide)
  have hb2 := hQ 1 2 6 (by decide)
  have hb3 := hQ 1 3 6 (by decide)
  by_cases hC : (0 ≤ x0.toInt ∧ x0.toInt < (v2 1 2).toInt) ∧ (0 ≤ x1.toInt ∧ x1.toInt ≤ 1) ∧ (0 ≤ x2.toInt ∧ x2.toInt ≤ 23) ∧ 0 ≤ x3.toInt ∧ x3.toInt ≤ 7
  · obtain ⟨-, q2, q3⟩ := q.2 hC
    have zX := t_nn (x := x0) (by omega)
    have hX : x0.toNatClampNeg < 6 := by omega
    have hXa : (x0.toNatClampNeg : Int) < (v2 1 2).toInt := by omega
    refine h0.wr hT ?_ (q3 2 (by decide))
    intro c hc ha
    have E2 : u2 1 2 = v2 1 2 := by rw [q2, if_neg (by omega)]
    rw [E2] at ha
    obtain ⟨a1, a2, a3, a4⟩ := hO c hc ha
    exact ⟨a1.cg (by rw [q2, if_neg (by omega)]; exact Int.le_refl _) (fun w f1 f2 => by rw [q2, if_neg (by omega)]), a2.cg (by rw [q2, if_neg (by omega)]), a3.cg (fun w f1 f2 => by rw [q2, if_neg (by omega)]) (fun w f1 => by rw [q2, if_neg (by omega)]), a4.cg (by rw [q2, if_neg (by omega)]) (fun t ht hr => ⟨by rw [q2, if_neg (by omega)], by rw [q2, if_neg (by omega)]⟩)⟩
  · obtain ⟨-, q2⟩ := q.1 hC
    exact h0.wr hT (by rw [q2]; exact hO) (by rw [q2])

set_option maxHeartbeats 4000000 in
theorem S_strike {n r r2 x0 : Int32} {v u v2 u2 : Nat → Nat → Int32} (hI : Iv v) (hQ : Ir v2) (h0 : RR3 n v v2) (p : (¬ (0 ≤ x0.toInt ∧ x0.toInt < (v 13 2).toInt) → r = -1 ∧ u = v) ∧ ((0 ≤ x0.toInt ∧ x0.toInt < (v 13 2).toInt) ∧ (v (29 + 15 * x0.toNatClampNeg) 5).toInt = 0 → r = -5 ∧ u = v) ∧ ((0 ≤ x0.toInt ∧ x0.toInt < (v 13 2).toInt) ∧ (v (29 + 15 * x0.toNatClampNeg) 5).toInt ≠ 0 → r = v (29 + 15 * x0.toNatClampNeg) 5 - 1 ∧ (∀ k j : Nat, u k j = if k = 29 + 15 * x0.toNatClampNeg ∧ j = 5 then v (29 + 15 * x0.toNatClampNeg) 5 - 1 else v k j))) (q : (¬ (0 ≤ x0.toInt ∧ x0.toInt < (v2 1 2).toInt) → r2 = -1 ∧ u2 = v2) ∧ ((0 ≤ x0.toInt ∧ x0.toInt < (v2 1 2).toInt) ∧ (v2 1 (38 + 7 * x0.toNatClampNeg)).toInt = 0 → r2 = -5 ∧ u2 = v2) ∧ ((0 ≤ x0.toInt ∧ x0.toInt < (v2 1 2).toInt) ∧ (v2 1 (38 + 7 * x0.toNatClampNeg)).toInt ≠ 0 → r2 = v2 1 (38 + 7 * x0.toNatClampNeg) - 1 ∧ (∀ n : Nat, u2 1 n = if n = 38 + 7 * x0.toNatClampNeg then v2 1 (38 + 7 * x0.toNatClampNeg) - 1 else v2 1 n) ∧ (∀ k : Nat, k ≠ 1 → u2 k = v2 k))) : r = r2 ∧ RR3 n u u2 := by
  have h := h0.1
  have hO := h0.2.1
  have hT := T_strike hI hQ h p q
  have hb0 := hQ 1 0 8 (by decide)
  have hb1 := hQ 1 1 4 (by decide)
  have hb2 := hQ 1 2 6 (by decide)
  have hb3 := hQ 1 3 6 (by decide)
  by_cases hC : (0 ≤ x0.toInt ∧ x0.toInt < (v2 1 2).toInt)
  · by_cases hD : (v2 1 (38 + 7 * x0.toNatClampNeg)).toInt = 0
    · obtain ⟨-, q2⟩ := q.2.1 ⟨hC, hD⟩
      exact h0.wr hT (by rw [q2]; exact hO) (by rw [q2])
    · obtain ⟨-, q2, q3⟩ := q.2.2 ⟨hC, hD⟩
      have zX := t_nn (x := x0) (by omega)
      have hX : x0.toNatClampNeg < 6 := by omega
      have hXa : (x0.toNatClampNeg : Int) < (v2 1 2).toInt := by omega
      have hb := hQ 1 (38 + 7 * x0.toNatClampNeg) 5 (bS_c (by omega) (by omega))
      have k1 : (1 : Int32).toInt = 1 := by decide
      have hx : (v2 1 (38 + 7 * x0.toNatClampNeg) - 1).toInt = (v2 1 (38 + 7 * x0.toNatClampNeg)).toInt - 1 := by rw [t_sub (by rw [k1]; omega), k1]
      refine h0.wr hT ?_ (q3 2 (by decide))
      intro c hc ha
      have E2 : u2 1 2 = v2 1 2 := by rw [q2, if_neg (by omega)]
      rw [E2] at ha
      obtain ⟨a1, a2, a3, a4⟩ := hO c hc ha
      refine ⟨a1.cg (by rw [q2, if_neg (by omega)]; exact Int.le_refl _) (fun w f1 f2 => by rw [q2, if_neg (by omega)]), a2.cg (by rw [q2, if_neg (by omega)]), a3.cg (fun w f1 f2 => by rw [q2, if_neg (by omega)]) (fun w f1 => by rw [q2, if_neg (by omega)]), ?_⟩
      by_cases e : c = x0.toNatClampNeg
      · subst e
        intro t ht hr
        rw [q2, if_pos (by omega), hx] at hr
        rw [q2 (161 + 25 * x0.toNatClampNeg + 5 * t), if_neg (by omega), q2 (162 + 25 * x0.toNatClampNeg + 5 * t), if_neg (by omega)]
        exact a4 t ht (by omega)
      · exact a4.cg (by rw [q2, if_neg (by omega)]) (fun t ht hr => ⟨by rw [q2, if_neg (by omega)], by rw [q2, if_neg (by omega)]⟩)
  · obtain ⟨-, q2⟩ := q.1 hC
    exact h0.wr hT (by rw [q2]; exact hO) (by rw [q2])

set_option maxHeartbeats 4000000 in
theorem S_close {n r r2 x0 : Int32} {v u v2 u2 : Nat → Nat → Int32} (hI : Iv v) (hQ : Ir v2) (h0 : RR3 n v v2) (p : (¬ (0 ≤ x0.toInt ∧ x0.toInt < (v 13 2).toInt) → r = -1 ∧ u = v) ∧ ((0 ≤ x0.toInt ∧ x0.toInt < (v 13 2).toInt) ∧ (v (29 + 15 * x0.toNatClampNeg) 0).toInt ≠ 0 → r = -4 ∧ u = v) ∧ ((0 ≤ x0.toInt ∧ x0.toInt < (v 13 2).toInt) ∧ (v (29 + 15 * x0.toNatClampNeg) 0).toInt = 0 → r = 1 ∧ (∀ k j : Nat, u k j = if k = 29 + 15 * x0.toNatClampNeg ∧ j = 0 then 2 else v k j))) (q : (¬ (0 ≤ x0.toInt ∧ x0.toInt < (v2 1 2).toInt) → r2 = -1 ∧ u2 = v2) ∧ ((0 ≤ x0.toInt ∧ x0.toInt < (v2 1 2).toInt) ∧ (v2 1 (34 + 7 * x0.toNatClampNeg)).toInt ≠ 0 → r2 = -4 ∧ u2 = v2) ∧ ((0 ≤ x0.toInt ∧ x0.toInt < (v2 1 2).toInt) ∧ (v2 1 (34 + 7 * x0.toNatClampNeg)).toInt = 0 → r2 = 1 ∧ (∀ n : Nat, u2 1 n = if n = 34 + 7 * x0.toNatClampNeg then 2 else v2 1 n) ∧ (∀ k : Nat, k ≠ 1 → u2 k = v2 k))) : r = r2 ∧ RR3 n u u2 := by
  have h := h0.1
  have hO := h0.2.1
  have hT := T_close hI hQ h p q
  have hb0 := hQ 1 0 8 (by decide)
  have hb1 := hQ 1 1 4 (by decide)
  have hb2 := hQ 1 2 6 (by decide)
  have hb3 := hQ 1 3 6 (by decide)
  by_cases hC : (0 ≤ x0.toInt ∧ x0.toInt < (v2 1 2).toInt)
  · by_cases hD : (v2 1 (34 + 7 * x0.toNatClampNeg)).toInt ≠ 0
    · obtain ⟨-, q2⟩ := q.2.1 ⟨hC, hD⟩
      exact h0.wr hT (by rw [q2]; exact hO) (by rw [q2])
    · obtain ⟨-, q2, q3⟩ := q.2.2 ⟨hC, by omega⟩
      have zX := t_nn (x := x0) (by omega)
      have hX : x0.toNatClampNeg < 6 := by omega
      have hXa : (x0.toNatClampNeg : Int) < (v2 1 2).toInt := by omega
      refine h0.wr hT ?_ (q3 2 (by decide))
      intro c hc ha
      have E2 : u2 1 2 = v2 1 2 := by rw [q2, if_neg (by omega)]
      rw [E2] at ha
      obtain ⟨a1, a2, a3, a4⟩ := hO c hc ha
      refine ⟨a1.cg (by rw [q2, if_neg (by omega)]; exact Int.le_refl _) (fun w f1 f2 => by rw [q2, if_neg (by omega)]), a2.cg (by rw [q2, if_neg (by omega)]), ?_, a4.cg (by rw [q2, if_neg (by omega)]) (fun t ht hr => ⟨by rw [q2, if_neg (by omega)], by rw [q2, if_neg (by omega)]⟩)⟩
      by_cases e : c = x0.toNatClampNeg
      · subst e
        have k2 : (2 : Int32).toInt = 2 := by decide
        have f1 : u2 1 (34 + 7 * x0.toNatClampNeg) = 2 := by rw [q2, if_pos rfl]
        unfold OR_
        rw [f1]
        refine ⟨fun w => absurd w (by omega), fun j hj hr => ?_⟩
        rw [q2 (36 + 7 * x0.toNatClampNeg), if_neg (by omega)] at hr
        rw [q2 (36 + 7 * x0.toNatClampNeg), if_neg (by omega), q2 (86 + 10 * x0.toNatClampNeg + 2 * j), if_neg (by omega), q2 (87 + 10 * x0.toNatClampNeg + 2 * j), if_neg (by omega)]
        obtain ⟨d1, d2, d3, d4⟩ := a3.2 j hj hr
        exact ⟨d1, d2, fun w => absurd w.1 (by omega), fun _ => d4 (fun w => absurd w.1 (by omega))⟩
      · exact a3.cg (fun w f1 f2 => by rw [q2, if_neg (by omega)]) (fun w f1 => by rw [q2, if_neg (by omega)])
  · obtain ⟨-, q2⟩ := q.1 hC
    exact h0.wr hT (by rw [q2]; exact hO) (by rw [q2])

set_option maxHeartbeats 4000000 in
theorem S_kin_0 {n r r2 x0 x1 : Int32} {v u v2 u2 : Nat → Nat → Int32} (hI : Iv v) (hQ : Ir v2) (h0 : RR3 n v v2) (p : (¬ ((0 ≤ x0.toInt ∧ x0.toInt < (v 13 1).toInt) ∧ 0 ≤ x1.toInt ∧ x1.toInt < (v 13 0).toInt) → r = -1 ∧ u = v) ∧ (((0 ≤ x0.toInt ∧ x0.toInt < (v 13 1).toInt) ∧ 0 ≤ x1.toInt ∧ x1.toInt < (v 13 0).toInt) ∧ (btx (v (25 + x0.toNatClampNeg) 2) x1).toInt = 1 → r = 1 ∧ (∀ k j : Nat, u k j = if k = 25 + x0.toNatClampNeg ∧ j = 2 then v (25 + x0.toNatClampNeg) 2 ^^^ (1 <<< (x1 &&& 31)) else v k j)) ∧ (((0 ≤ x0.toInt ∧ x0.toInt < (v 13 1).toInt) ∧ 0 ≤ x1.toInt ∧ x1.toInt < (v 13 0).toInt) ∧ (btx (v (25 + x0.toNatClampNeg) 2) x1).toInt ≠ 1 → r = 0 ∧ u = v)) (q : (¬ ((0 ≤ x0.toInt ∧ x0.toInt < (v2 1 1).toInt) ∧ 0 ≤ x1.toInt ∧ x1.toInt < (v2 1 0).toInt) → r2 = -1 ∧ u2 = v2) ∧ (((0 ≤ x0.toInt ∧ x0.toInt < (v2 1 1).toInt) ∧ 0 ≤ x1.toInt ∧ x1.toInt < (v2 1 0).toInt) ∧ (btx (v2 1 (28 + x0.toNatClampNeg)) x1).toInt = 1 → r2 = 1 ∧ (∀ n : Nat, u2 1 n = if n = 28 + x0.toNatClampNeg then v2 1 (28 + x0.toNatClampNeg) &&& ((1 <<< (x1 &&& 31)) ^^^ -1) else v2 1 n) ∧ (∀ k : Nat, k ≠ 1 → u2 k = v2 k)) ∧ (((0 ≤ x0.toInt ∧ x0.toInt < (v2 1 1).toInt) ∧ 0 ≤ x1.toInt ∧ x1.toInt < (v2 1 0).toInt) ∧ (btx (v2 1 (28 + x0.toNatClampNeg)) x1).toInt ≠ 1 → r2 = 0 ∧ (∀ n : Nat, u2 1 n = if n = 28 + x0.toNatClampNeg then v2 1 (28 + x0.toNatClampNeg) &&& ((1 <<< (x1 &&& 31)) ^^^ -1) else v2 1 n) ∧ (∀ k : Nat, k ≠ 1 → u2 k = v2 k))) : r = r2 ∧ RR3 n u u2 := by
  have h := h0.1
  have hO := h0.2.1
  have hT := T_kin_0 hI hQ h p q
  have hb0 := hQ 1 0 8 (by decide)
  have hb1 := hQ 1 1 4 (by decide)
  have hb2 := hQ 1 2 6 (by decide)
  have hb3 := hQ 1 3 6 (by decide)
  by_cases hC : (0 ≤ x0.toInt ∧ x0.toInt < (v2 1 1).toInt) ∧ 0 ≤ x1.toInt ∧ x1.toInt < (v2 1 0).toInt
  · have zX := t_nn (x := x0) (by omega)
    have hX : x0.toNatClampNeg < 4 := by omega
    by_cases hD : (btx (v2 1 (28 + x0.toNatClampNeg)) x1).toInt = 1
    · obtain ⟨-, q2, q3⟩ := q.2.1 ⟨hC, hD⟩
      refine h0.wr hT ?_ (q3 2 (by decide))
      intro c hc ha
      have E2 : u2 1 2 = v2 1 2 := by rw [q2, if_neg (by omega)]
      rw [E2] at ha
      obtain ⟨a1, a2, a3, a4⟩ := hO c hc ha
      exact ⟨a1.cg (by rw [q2, if_neg (by omega)]; exact Int.le_refl _) (fun w f1 f2 => by rw [q2, if_neg (by omega)]), a2.cg (by rw [q2, if_neg (by omega)]), a3.cg (fun w f1 f2 => by rw [q2, if_neg (by omega)]) (fun w f1 => by rw [q2, if_neg (by omega)]), a4.cg (by rw [q2, if_neg (by omega)]) (fun t ht hr => ⟨by rw [q2, if_neg (by omega)], by rw [q2, if_neg (by omega)]⟩)⟩
    · obtain ⟨-, q2, q3⟩ := q.2.2 ⟨hC, hD⟩
      refine h0.wr hT ?_ (q3 2 (by decide))
      intro c hc ha
      have E2 : u2 1 2 = v2 1 2 := by rw [q2, if_neg (by omega)]
      rw [E2] at ha
      obtain ⟨a1, a2, a3, a4⟩ := hO c hc ha
      exact ⟨a1.cg (by rw [q2, if_neg (by omega)]; exact Int.le_refl _) (fun w f1 f2 => by rw [q2, if_neg (by omega)]), a2.cg (by rw [q2, if_neg (by omega)]), a3.cg (fun w f1 f2 => by rw [q2, if_neg (by omega)]) (fun w f1 => by rw [q2, if_neg (by omega)]), a4.cg (by rw [q2, if_neg (by omega)]) (fun t ht hr => ⟨by rw [q2, if_neg (by omega)], by rw [q2, if_neg (by omega)]⟩)⟩
  · obtain ⟨-, q2⟩ := q.1 hC
    exact h0.wr hT (by rw [q2]; exact hO) (by rw [q2])

set_option maxHeartbeats 4000000 in
theorem S_kin_1 {n r r2 x0 x1 : Int32} {v u v2 u2 : Nat → Nat → Int32} (hI : Iv v) (hQ : Ir v2) (h0 : RR3 n v v2) (p : (¬ ((0 ≤ x0.toInt ∧ x0.toInt < (v 13 1).toInt) ∧ 0 ≤ x1.toInt ∧ x1.toInt < (v 13 0).toInt) → r = -1 ∧ u = v) ∧ (((0 ≤ x0.toInt ∧ x0.toInt < (v 13 1).toInt) ∧ 0 ≤ x1.toInt ∧ x1.toInt < (v 13 0).toInt) ∧ (btx (v (25 + x0.toNatClampNeg) 2) x1).toInt = 1 → r = 0 ∧ u = v) ∧ (((0 ≤ x0.toInt ∧ x0.toInt < (v 13 1).toInt) ∧ 0 ≤ x1.toInt ∧ x1.toInt < (v 13 0).toInt) ∧ (btx (v (25 + x0.toNatClampNeg) 2) x1).toInt ≠ 1 → r = 1 ∧ (∀ k j : Nat, u k j = if k = 25 + x0.toNatClampNeg ∧ j = 2 then v (25 + x0.toNatClampNeg) 2 ^^^ (1 <<< (x1 &&& 31)) else v k j))) (q : (¬ ((0 ≤ x0.toInt ∧ x0.toInt < (v2 1 1).toInt) ∧ 0 ≤ x1.toInt ∧ x1.toInt < (v2 1 0).toInt) → r2 = -1 ∧ u2 = v2) ∧ (((0 ≤ x0.toInt ∧ x0.toInt < (v2 1 1).toInt) ∧ 0 ≤ x1.toInt ∧ x1.toInt < (v2 1 0).toInt) ∧ (btx (v2 1 (28 + x0.toNatClampNeg)) x1).toInt = 1 → r2 = 0 ∧ (∀ n : Nat, u2 1 n = if n = 28 + x0.toNatClampNeg then v2 1 (28 + x0.toNatClampNeg) ||| (1 <<< (x1 &&& 31)) else v2 1 n) ∧ (∀ k : Nat, k ≠ 1 → u2 k = v2 k)) ∧ (((0 ≤ x0.toInt ∧ x0.toInt < (v2 1 1).toInt) ∧ 0 ≤ x1.toInt ∧ x1.toInt < (v2 1 0).toInt) ∧ (btx (v2 1 (28 + x0.toNatClampNeg)) x1).toInt ≠ 1 → r2 = 1 ∧ (∀ n : Nat, u2 1 n = if n = 28 + x0.toNatClampNeg then v2 1 (28 + x0.toNatClampNeg) ||| (1 <<< (x1 &&& 31)) else v2 1 n) ∧ (∀ k : Nat, k ≠ 1 → u2 k = v2 k))) : r = r2 ∧ RR3 n u u2 := by
  have h := h0.1
  have hO := h0.2.1
  have hT := T_kin_1 hI hQ h p q
  have hb0 := hQ 1 0 8 (by decide)
  have hb1 := hQ 1 1 4 (by decide)
  have hb2 := hQ 1 2 6 (by decide)
  have hb3 := hQ 1 3 6 (by decide)
  by_cases hC : (0 ≤ x0.toInt ∧ x0.toInt < (v2 1 1).toInt) ∧ 0 ≤ x1.toInt ∧ x1.toInt < (v2 1 0).toInt
  · have zX := t_nn (x := x0) (by omega)
    have hX : x0.toNatClampNeg < 4 := by omega
    by_cases hD : (btx (v2 1 (28 + x0.toNatClampNeg)) x1).toInt = 1
    · obtain ⟨-, q2, q3⟩ := q.2.1 ⟨hC, hD⟩
      refine h0.wr hT ?_ (q3 2 (by decide))
      intro c hc ha
      have E2 : u2 1 2 = v2 1 2 := by rw [q2, if_neg (by omega)]
      rw [E2] at ha
      obtain ⟨a1, a2, a3, a4⟩ := hO c hc ha
      exact ⟨a1.cg (by rw [q2, if_neg (by omega)]; exact Int.le_refl _) (fun w f1 f2 => by rw [q2, if_neg (by omega)]), a2.cg (by rw [q2, if_neg (by omega)]), a3.cg (fun w f1 f2 => by rw [q2, if_neg (by omega)]) (fun w f1 => by rw [q2, if_neg (by omega)]), a4.cg (by rw [q2, if_neg (by omega)]) (fun t ht hr => ⟨by rw [q2, if_neg (by omega)], by rw [q2, if_neg (by omega)]⟩)⟩
    · obtain ⟨-, q2, q3⟩ := q.2.2 ⟨hC, hD⟩
      refine h0.wr hT ?_ (q3 2 (by decide))
      intro c hc ha
      have E2 : u2 1 2 = v2 1 2 := by rw [q2, if_neg (by omega)]
      rw [E2] at ha
      obtain ⟨a1, a2, a3, a4⟩ := hO c hc ha
      exact ⟨a1.cg (by rw [q2, if_neg (by omega)]; exact Int.le_refl _) (fun w f1 f2 => by rw [q2, if_neg (by omega)]), a2.cg (by rw [q2, if_neg (by omega)]), a3.cg (fun w f1 f2 => by rw [q2, if_neg (by omega)]) (fun w f1 => by rw [q2, if_neg (by omega)]), a4.cg (by rw [q2, if_neg (by omega)]) (fun t ht hr => ⟨by rw [q2, if_neg (by omega)], by rw [q2, if_neg (by omega)]⟩)⟩
  · obtain ⟨-, q2⟩ := q.1 hC
    exact h0.wr hT (by rw [q2]; exact hO) (by rw [q2])

set_option maxHeartbeats 4000000 in
theorem S_mediator {n r r2 x0 x1 : Int32} {v u v2 u2 : Nat → Nat → Int32} (hI : Iv v) (hQ : Ir v2) (h0 : RR3 n v v2) (p : (¬ ((0 ≤ x0.toInt ∧ x0.toInt ≤ 9) ∧ 1 ≤ x1.toInt ∧ x1.toInt ≤ 7) → r = -1 ∧ u = v) ∧ (((0 ≤ x0.toInt ∧ x0.toInt ≤ 9) ∧ 1 ≤ x1.toInt ∧ x1.toInt ≤ 7) ∧ 4 ≤ (v 13 1).toInt → r = -2 ∧ u = v) ∧ (((0 ≤ x0.toInt ∧ x0.toInt ≤ 9) ∧ 1 ≤ x1.toInt ∧ x1.toInt ≤ 7) ∧ (v 13 1).toInt < 4 → r = v 13 1 ∧ (∀ k j : Nat, u k j = if k = 13 ∧ j = 1 then v 13 1 + 1 else if k = 25 + (v 13 1).toNatClampNeg ∧ j = 2 then 0 else if k = 25 + (v 13 1).toNatClampNeg ∧ j = 1 then x1 else if k = 25 + (v 13 1).toNatClampNeg ∧ j = 0 then x0 else v k j))) (q : (¬ ((0 ≤ x0.toInt ∧ x0.toInt ≤ 9) ∧ 1 ≤ x1.toInt ∧ x1.toInt ≤ 7) → r2 = -1 ∧ u2 = v2) ∧ (((0 ≤ x0.toInt ∧ x0.toInt ≤ 9) ∧ 1 ≤ x1.toInt ∧ x1.toInt ≤ 7) ∧ (v2 1 1).toInt = 4 → r2 = -2 ∧ u2 = v2) ∧ (((0 ≤ x0.toInt ∧ x0.toInt ≤ 9) ∧ 1 ≤ x1.toInt ∧ x1.toInt ≤ 7) ∧ (v2 1 1).toInt ≠ 4 → r2 = v2 1 1 ∧ (∀ n : Nat, u2 1 n = if n = 1 then v2 1 1 + 1 else if n = 28 + (v2 1 1).toNatClampNeg then 0 else if n = 21 + 2 * (v2 1 1).toNatClampNeg then x1 else if n = 20 + 2 * (v2 1 1).toNatClampNeg then x0 else v2 1 n) ∧ (∀ k : Nat, k ≠ 1 → u2 k = v2 k))) : r = r2 ∧ RR3 n u u2 := by
  have h := h0.1
  have hO := h0.2.1
  have hT := T_mediator hI hQ h p q
  have hb0 := hQ 1 0 8 (by decide)
  have hb1 := hQ 1 1 4 (by decide)
  have hb2 := hQ 1 2 6 (by decide)
  have hb3 := hQ 1 3 6 (by decide)
  by_cases hC : (0 ≤ x0.toInt ∧ x0.toInt ≤ 9) ∧ 1 ≤ x1.toInt ∧ x1.toInt ≤ 7
  · by_cases hD : (v2 1 1).toInt = 4
    · obtain ⟨-, q2⟩ := q.2.1 ⟨hC, hD⟩
      exact h0.wr hT (by rw [q2]; exact hO) (by rw [q2])
    · obtain ⟨-, q2, q3⟩ := q.2.2 ⟨hC, hD⟩
      have zM := t_nn (x := v2 1 1) (by omega)
      refine h0.wr hT ?_ (q3 2 (by decide))
      intro c hc ha
      have E2 : u2 1 2 = v2 1 2 := by rw [q2, if_neg (by omega), if_neg (by omega), if_neg (by omega), if_neg (by omega)]
      rw [E2] at ha
      obtain ⟨a1, a2, a3, a4⟩ := hO c hc ha
      exact ⟨a1.cg (by rw [q2, if_neg (by omega), if_neg (by omega), if_neg (by omega), if_neg (by omega)]; exact Int.le_refl _) (fun w f1 f2 => by rw [q2, if_neg (by omega), if_neg (by omega), if_neg (by omega), if_neg (by omega)]), a2.cg (by rw [q2, if_neg (by omega), if_neg (by omega), if_neg (by omega), if_neg (by omega)]), a3.cg (fun w f1 f2 => by rw [q2, if_neg (by omega), if_neg (by omega), if_neg (by omega), if_neg (by omega)]) (fun w f1 => by rw [q2, if_neg (by omega), if_neg (by omega), if_neg (by omega), if_neg (by omega)]), a4.cg (by rw [q2, if_neg (by omega), if_neg (by omega), if_neg (by omega), if_neg (by omega)]) (fun t ht hr => ⟨by rw [q2, if_neg (by omega), if_neg (by omega), if_neg (by omega), if_neg (by omega)], by rw [q2, if_neg (by omega), if_neg (by omega), if_neg (by omega), if_neg (by omega)]⟩)⟩
  · obtain ⟨-, q2⟩ := q.1 hC
    exact h0.wr hT (by rw [q2]; exact hO) (by rw [q2])

set_option maxHeartbeats 4000000 in
theorem S_party {n r r2 x0 x1 : Int32} {v u v2 u2 : Nat → Nat → Int32} (hI : Iv v) (hQ : Ir v2) (h0 : RR3 n v v2) (p : (¬ ((0 ≤ x0.toInt ∧ x0.toInt ≤ 9) ∧ 0 ≤ x1.toInt ∧ x1.toInt ≤ 2) → r = -1 ∧ u = v) ∧ (((0 ≤ x0.toInt ∧ x0.toInt ≤ 9) ∧ 0 ≤ x1.toInt ∧ x1.toInt ≤ 2) ∧ 8 ≤ (v 13 0).toInt → r = -2 ∧ u = v) ∧ (((0 ≤ x0.toInt ∧ x0.toInt ≤ 9) ∧ 0 ≤ x1.toInt ∧ x1.toInt ≤ 2) ∧ (v 13 0).toInt < 8 → r = v 13 0 ∧ (∀ k j : Nat, u k j = if k = 13 ∧ j = 0 then v 13 0 + 1 else if k = 17 + (v 13 0).toNatClampNeg ∧ j = 1 then x1 else if k = 17 + (v 13 0).toNatClampNeg ∧ j = 0 then x0 else v k j))) (q : (¬ ((0 ≤ x0.toInt ∧ x0.toInt ≤ 9) ∧ 0 ≤ x1.toInt ∧ x1.toInt ≤ 2) → r2 = -1 ∧ u2 = v2) ∧ (((0 ≤ x0.toInt ∧ x0.toInt ≤ 9) ∧ 0 ≤ x1.toInt ∧ x1.toInt ≤ 2) ∧ (v2 1 0).toInt = 8 → r2 = -2 ∧ u2 = v2) ∧ (((0 ≤ x0.toInt ∧ x0.toInt ≤ 9) ∧ 0 ≤ x1.toInt ∧ x1.toInt ≤ 2) ∧ (v2 1 0).toInt ≠ 8 → r2 = v2 1 0 ∧ (∀ n : Nat, u2 1 n = if n = 0 then v2 1 0 + 1 else if 28 ≤ n ∧ (n : Int) < 28 + 4 then (if n = 5 + 2 * (v2 1 0).toNatClampNeg then x1 else if n = 4 + 2 * (v2 1 0).toNatClampNeg then x0 else v2 1 n) &&& ((1 <<< (v2 1 0 &&& 31)) ^^^ -1) else if n = 5 + 2 * (v2 1 0).toNatClampNeg then x1 else if n = 4 + 2 * (v2 1 0).toNatClampNeg then x0 else v2 1 n) ∧ (∀ k : Nat, k ≠ 1 → u2 k = v2 k))) : r = r2 ∧ RR3 n u u2 := by
  have h := h0.1
  have hO := h0.2.1
  have hT := T_party hI hQ h p q
  have hb0 := hQ 1 0 8 (by decide)
  have hb1 := hQ 1 1 4 (by decide)
  have hb2 := hQ 1 2 6 (by decide)
  have hb3 := hQ 1 3 6 (by decide)
  by_cases hC : (0 ≤ x0.toInt ∧ x0.toInt ≤ 9) ∧ 0 ≤ x1.toInt ∧ x1.toInt ≤ 2
  · by_cases hD : (v2 1 0).toInt = 8
    · obtain ⟨-, q2⟩ := q.2.1 ⟨hC, hD⟩
      exact h0.wr hT (by rw [q2]; exact hO) (by rw [q2])
    · obtain ⟨-, q2, q3⟩ := q.2.2 ⟨hC, hD⟩
      have zM := t_nn (x := v2 1 0) (by omega)
      have k1 : (1 : Int32).toInt = 1 := by decide
      have hx : (v2 1 0 + 1).toInt = (v2 1 0).toInt + 1 := by rw [t_add (by rw [k1]; omega), k1]
      refine h0.wr hT ?_ (q3 2 (by decide))
      intro c hc ha
      have E2 : u2 1 2 = v2 1 2 := by rw [q2, if_neg (by omega), if_neg (by omega), if_neg (by omega), if_neg (by omega)]
      rw [E2] at ha
      obtain ⟨a1, a2, a3, a4⟩ := hO c hc ha
      exact ⟨a1.cg (by rw [q2, if_pos rfl, hx]; omega) (fun w f1 f2 => by rw [q2, if_neg (by omega), if_neg (by omega), if_neg (by omega), if_neg (by omega)]), a2.cg (by rw [q2, if_neg (by omega), if_neg (by omega), if_neg (by omega), if_neg (by omega)]), a3.cg (fun w f1 f2 => by rw [q2, if_neg (by omega), if_neg (by omega), if_neg (by omega), if_neg (by omega)]) (fun w f1 => by rw [q2, if_neg (by omega), if_neg (by omega), if_neg (by omega), if_neg (by omega)]), a4.cg (by rw [q2, if_neg (by omega), if_neg (by omega), if_neg (by omega), if_neg (by omega)]) (fun t ht hr => ⟨by rw [q2, if_neg (by omega), if_neg (by omega), if_neg (by omega), if_neg (by omega)], by rw [q2, if_neg (by omega), if_neg (by omega), if_neg (by omega), if_neg (by omega)]⟩)⟩
  · obtain ⟨-, q2⟩ := q.1 hC
    exact h0.wr hT (by rw [q2]; exact hO) (by rw [q2])

set_option maxHeartbeats 4000000 in
theorem S_mark {n r r2 x0 x1 : Int32} {v u v2 u2 : Nat → Nat → Int32} (hI : Iv v) (hQ : Ir v2) (h0 : RR3 n v v2) (p : (¬ ((0 ≤ x0.toInt ∧ x0.toInt < (v 13 2).toInt) ∧ (0 ≤ x1.toInt ∧ x1.toInt < (v 13 2).toInt) ∧ x0.toInt ≠ x1.toInt) → r = -1 ∧ u = v) ∧ (((0 ≤ x0.toInt ∧ x0.toInt < (v 13 2).toInt) ∧ (0 ≤ x1.toInt ∧ x1.toInt < (v 13 2).toInt) ∧ x0.toInt ≠ x1.toInt) ∧ (btx (v (29 + 15 * x0.toNatClampNeg) 4) x1).toInt = 1 → r = -3 ∧ u = v) ∧ (((0 ≤ x0.toInt ∧ x0.toInt < (v 13 2).toInt) ∧ (0 ≤ x1.toInt ∧ x1.toInt < (v 13 2).toInt) ∧ x0.toInt ≠ x1.toInt) ∧ (btx (v (29 + 15 * x0.toNatClampNeg) 4) x1).toInt ≠ 1 ∧ 6 ≤ (v 13 3).toInt → r = -2 ∧ u = v) ∧ (((0 ≤ x0.toInt ∧ x0.toInt < (v 13 2).toInt) ∧ (0 ≤ x1.toInt ∧ x1.toInt < (v 13 2).toInt) ∧ x0.toInt ≠ x1.toInt) ∧ (btx (v (29 + 15 * x0.toNatClampNeg) 4) x1).toInt ≠ 1 ∧ (v 13 3).toInt < 6 → r = v 13 3 + 1 ∧ (∀ k j : Nat, u k j = if k = 13 ∧ j = 3 then v 13 3 + 1 else if k = 29 + 15 * x1.toNatClampNeg ∧ j = 4 then v (29 + 15 * x1.toNatClampNeg) 4 ||| (1 <<< (x0 &&& 31)) else if k = 29 + 15 * x0.toNatClampNeg ∧ j = 4 then v (29 + 15 * x0.toNatClampNeg) 4 ||| (1 <<< (x1 &&& 31)) else v k j))) (q : (¬ ((0 ≤ x0.toInt ∧ x0.toInt < (v2 1 2).toInt) ∧ (0 ≤ x1.toInt ∧ x1.toInt < (v2 1 2).toInt) ∧ x0.toInt ≠ x1.toInt) → r2 = -1 ∧ u2 = v2) ∧ (((0 ≤ x0.toInt ∧ x0.toInt < (v2 1 2).toInt) ∧ (0 ≤ x1.toInt ∧ x1.toInt < (v2 1 2).toInt) ∧ x0.toInt ≠ x1.toInt) ∧ (∃ k : Nat, (k : Int) < (v2 1 3).toInt ∧ mk (v2 1) k x0 x1) → r2 = -3 ∧ u2 = v2) ∧ (((0 ≤ x0.toInt ∧ x0.toInt < (v2 1 2).toInt) ∧ (0 ≤ x1.toInt ∧ x1.toInt < (v2 1 2).toInt) ∧ x0.toInt ≠ x1.toInt) ∧ ¬ (∃ k : Nat, (k : Int) < (v2 1 3).toInt ∧ mk (v2 1) k x0 x1) ∧ (v2 1 3).toInt = 6 → r2 = -2 ∧ u2 = v2) ∧ (((0 ≤ x0.toInt ∧ x0.toInt < (v2 1 2).toInt) ∧ (0 ≤ x1.toInt ∧ x1.toInt < (v2 1 2).toInt) ∧ x0.toInt ≠ x1.toInt) ∧ ¬ (∃ k : Nat, (k : Int) < (v2 1 3).toInt ∧ mk (v2 1) k x0 x1) ∧ (v2 1 3).toInt ≠ 6 → r2 = v2 1 3 + 1 ∧ (∀ n : Nat, u2 1 n = if n = 3 then v2 1 3 + 1 else if n = 147 + 2 * (v2 1 3).toNatClampNeg then x1 else if n = 146 + 2 * (v2 1 3).toNatClampNeg then x0 else v2 1 n) ∧ (∀ k : Nat, k ≠ 1 → u2 k = v2 k))) : r = r2 ∧ RR3 n u u2 := by
  have h := h0.1
  have hO := h0.2.1
  have hT := T_mark hI hQ h p q
  have hb0 := hQ 1 0 8 (by decide)
  have hb1 := hQ 1 1 4 (by decide)
  have hb2 := hQ 1 2 6 (by decide)
  have hb3 := hQ 1 3 6 (by decide)
  by_cases hC : (0 ≤ x0.toInt ∧ x0.toInt < (v2 1 2).toInt) ∧ (0 ≤ x1.toInt ∧ x1.toInt < (v2 1 2).toInt) ∧ x0.toInt ≠ x1.toInt
  · by_cases hW : ∃ k : Nat, (k : Int) < (v2 1 3).toInt ∧ mk (v2 1) k x0 x1
    · obtain ⟨-, q2⟩ := q.2.1 ⟨hC, hW⟩
      exact h0.wr hT (by rw [q2]; exact hO) (by rw [q2])
    · by_cases hD : (v2 1 3).toInt = 6
      · obtain ⟨-, q2⟩ := q.2.2.1 ⟨hC, hW, hD⟩
        exact h0.wr hT (by rw [q2]; exact hO) (by rw [q2])
      · obtain ⟨-, q2, q3⟩ := q.2.2.2 ⟨hC, hW, hD⟩
        clear hW p
        have zM := t_nn (x := v2 1 3) (by omega)
        refine h0.wr hT ?_ (q3 2 (by decide))
        intro c hc ha
        have E2 : u2 1 2 = v2 1 2 := by rw [q2, if_neg (by omega), if_neg (by omega), if_neg (by omega)]
        rw [E2] at ha
        obtain ⟨a1, a2, a3, a4⟩ := hO c hc ha
        exact ⟨a1.cg (by rw [q2, if_neg (by omega), if_neg (by omega), if_neg (by omega)]; exact Int.le_refl _) (fun w f1 f2 => by rw [q2, if_neg (by omega), if_neg (by omega), if_neg (by omega)]), a2.cg (by rw [q2, if_neg (by omega), if_neg (by omega), if_neg (by omega)]), a3.cg (fun w f1 f2 => by rw [q2, if_neg (by omega), if_neg (by omega), if_neg (by omega)]) (fun w f1 => by rw [q2, if_neg (by omega), if_neg (by omega), if_neg (by omega)]), a4.cg (by rw [q2, if_neg (by omega), if_neg (by omega), if_neg (by omega)]) (fun t ht hr => ⟨by rw [q2, if_neg (by omega), if_neg (by omega), if_neg (by omega)], by rw [q2, if_neg (by omega), if_neg (by omega), if_neg (by omega)]⟩)⟩
  · obtain ⟨-, q2⟩ := q.1 hC
    exact h0.wr hT (by rw [q2]; exact hO) (by rw [q2])

set_option maxHeartbeats 4000000 in
theorem S_term_0 {n r r2 x0 x1 x2 x3 x4 : Int32} {v u v2 u2 : Nat → Nat → Int32} (hI : Iv v) (hQ : Ir v2) (h0 : RR3 n v v2) (p : (¬ ((0 ≤ x0.toInt ∧ x0.toInt < (v 13 2).toInt) ∧ (0 ≤ x1.toInt ∧ x1.toInt ≤ 1) ∧ (0 ≤ x2.toInt ∧ x2.toInt ≤ 5) ∧ (0 ≤ x3.toInt ∧ x3.toInt ≤ 23) ∧ x3.toInt ≤ x4.toInt ∧ x4.toInt ≤ 23) → r = -1 ∧ u = v) ∧ (((0 ≤ x0.toInt ∧ x0.toInt < (v 13 2).toInt) ∧ (0 ≤ x1.toInt ∧ x1.toInt ≤ 1) ∧ (0 ≤ x2.toInt ∧ x2.toInt ≤ 5) ∧ (0 ≤ x3.toInt ∧ x3.toInt ≤ 23) ∧ x3.toInt ≤ x4.toInt ∧ x4.toInt ≤ 23) ∧ (v (29 + 15 * x0.toNatClampNeg) 0).toInt ≠ 1 → r = -4 ∧ u = v) ∧ (((0 ≤ x0.toInt ∧ x0.toInt < (v 13 2).toInt) ∧ (0 ≤ x1.toInt ∧ x1.toInt ≤ 1) ∧ (0 ≤ x2.toInt ∧ x2.toInt ≤ 5) ∧ (0 ≤ x3.toInt ∧ x3.toInt ≤ 23) ∧ x3.toInt ≤ x4.toInt ∧ x4.toInt ≤ 23) ∧ (v (29 + 15 * x0.toNatClampNeg) 0).toInt = 1 ∧ 5 ≤ (v (29 + 15 * x0.toNatClampNeg) 5).toInt → r = -2 ∧ u = v) ∧ (((0 ≤ x0.toInt ∧ x0.toInt < (v 13 2).toInt) ∧ (0 ≤ x1.toInt ∧ x1.toInt ≤ 1) ∧ (0 ≤ x2.toInt ∧ x2.toInt ≤ 5) ∧ (0 ≤ x3.toInt ∧ x3.toInt ≤ 23) ∧ x3.toInt ≤ x4.toInt ∧ x4.toInt ≤ 23) ∧ (v (29 + 15 * x0.toNatClampNeg) 0).toInt = 1 ∧ (v (29 + 15 * x0.toNatClampNeg) 5).toInt < 5 → r = v (29 + 15 * x0.toNatClampNeg) 5 ∧ (∀ k j : Nat, u k j = if k = 29 + 15 * x0.toNatClampNeg ∧ j = 5 then v (29 + 15 * x0.toNatClampNeg) 5 + 1 else if k = 39 + 15 * x0.toNatClampNeg + (v (29 + 15 * x0.toNatClampNeg) 5).toNatClampNeg ∧ j = 4 then x4 else if k = 39 + 15 * x0.toNatClampNeg + (v (29 + 15 * x0.toNatClampNeg) 5).toNatClampNeg ∧ j = 3 then x3 else if k = 39 + 15 * x0.toNatClampNeg + (v (29 + 15 * x0.toNatClampNeg) 5).toNatClampNeg ∧ j = 2 then x2 else if k = 39 + 15 * x0.toNatClampNeg + (v (29 + 15 * x0.toNatClampNeg) 5).toNatClampNeg ∧ j = 1 then 0 else if k = 39 + 15 * x0.toNatClampNeg + (v (29 + 15 * x0.toNatClampNeg) 5).toNatClampNeg ∧ j = 0 then x1 else v k j))) (q : (¬ ((0 ≤ x0.toInt ∧ x0.toInt < (v2 1 2).toInt) ∧ (0 ≤ x1.toInt ∧ x1.toInt ≤ 1) ∧ (0 ≤ x2.toInt ∧ x2.toInt ≤ 5) ∧ (0 ≤ x3.toInt ∧ x3.toInt ≤ 23) ∧ x3.toInt ≤ x4.toInt ∧ x4.toInt ≤ 23) → r2 = -1 ∧ u2 = v2) ∧ (((0 ≤ x0.toInt ∧ x0.toInt < (v2 1 2).toInt) ∧ (0 ≤ x1.toInt ∧ x1.toInt ≤ 1) ∧ (0 ≤ x2.toInt ∧ x2.toInt ≤ 5) ∧ (0 ≤ x3.toInt ∧ x3.toInt ≤ 23) ∧ x3.toInt ≤ x4.toInt ∧ x4.toInt ≤ 23) ∧ (v2 1 (34 + 7 * x0.toNatClampNeg)).toInt ≠ 1 → r2 = -4 ∧ u2 = v2) ∧ (((0 ≤ x0.toInt ∧ x0.toInt < (v2 1 2).toInt) ∧ (0 ≤ x1.toInt ∧ x1.toInt ≤ 1) ∧ (0 ≤ x2.toInt ∧ x2.toInt ≤ 5) ∧ (0 ≤ x3.toInt ∧ x3.toInt ≤ 23) ∧ x3.toInt ≤ x4.toInt ∧ x4.toInt ≤ 23) ∧ (v2 1 (34 + 7 * x0.toNatClampNeg)).toInt = 1 ∧ (v2 1 (38 + 7 * x0.toNatClampNeg)).toInt = 5 → r2 = -2 ∧ u2 = v2) ∧ (((0 ≤ x0.toInt ∧ x0.toInt < (v2 1 2).toInt) ∧ (0 ≤ x1.toInt ∧ x1.toInt ≤ 1) ∧ (0 ≤ x2.toInt ∧ x2.toInt ≤ 5) ∧ (0 ≤ x3.toInt ∧ x3.toInt ≤ 23) ∧ x3.toInt ≤ x4.toInt ∧ x4.toInt ≤ 23) ∧ (v2 1 (34 + 7 * x0.toNatClampNeg)).toInt = 1 ∧ (v2 1 (38 + 7 * x0.toNatClampNeg)).toInt ≠ 5 → r2 = v2 1 (38 + 7 * x0.toNatClampNeg) + 1 - 1 ∧ (∀ n : Nat, u2 1 n = if n = 38 + 7 * x0.toNatClampNeg then v2 1 (38 + 7 * x0.toNatClampNeg) + 1 else if n = 162 + 25 * x0.toNatClampNeg + 5 * (v2 1 (38 + 7 * x0.toNatClampNeg)).toNatClampNeg then x4 else if n = 161 + 25 * x0.toNatClampNeg + 5 * (v2 1 (38 + 7 * x0.toNatClampNeg)).toNatClampNeg then x3 else if n = 160 + 25 * x0.toNatClampNeg + 5 * (v2 1 (38 + 7 * x0.toNatClampNeg)).toNatClampNeg then x2 else if n = 159 + 25 * x0.toNatClampNeg + 5 * (v2 1 (38 + 7 * x0.toNatClampNeg)).toNatClampNeg then 0 else if n = 158 + 25 * x0.toNatClampNeg + 5 * (v2 1 (38 + 7 * x0.toNatClampNeg)).toNatClampNeg then x1 else v2 1 n) ∧ (∀ k : Nat, k ≠ 1 → u2 k = v2 k))) : r = r2 ∧ RR3 n u u2 := by
  have h := h0.1
  have hO := h0.2.1
  have hT := T_term_0 hI hQ h p q
  have hb0 := hQ 1 0 8 (by decide)
  have hb1 := hQ 1 1 4 (by decide)
  have hb2 := hQ 1 2 6 (by decide)
  have hb3 := hQ 1 3 6 (by decide)
  by_cases hC : (0 ≤ x0.toInt ∧ x0.toInt < (v2 1 2).toInt) ∧ (0 ≤ x1.toInt ∧ x1.toInt ≤ 1) ∧ (0 ≤ x2.toInt ∧ x2.toInt ≤ 5) ∧ (0 ≤ x3.toInt ∧ x3.toInt ≤ 23) ∧ x3.toInt ≤ x4.toInt ∧ x4.toInt ≤ 23
  · by_cases hD : (v2 1 (34 + 7 * x0.toNatClampNeg)).toInt = 1
    · by_cases hE : (v2 1 (38 + 7 * x0.toNatClampNeg)).toInt = 5
      · obtain ⟨-, q2⟩ := q.2.2.1 ⟨hC, hD, hE⟩
        exact h0.wr hT (by rw [q2]; exact hO) (by rw [q2])
      · obtain ⟨-, q2, q3⟩ := q.2.2.2 ⟨hC, hD, hE⟩
        have zX := t_nn (x := x0) (by omega)
        have hX : x0.toNatClampNeg < 6 := by omega
        have hXa : (x0.toNatClampNeg : Int) < (v2 1 2).toInt := by omega
        have hb := hQ 1 (38 + 7 * x0.toNatClampNeg) 5 (bS_c (by omega) (by omega))
        have zT := t_nn (x := v2 1 (38 + 7 * x0.toNatClampNeg)) (by omega)
        have k1 : (1 : Int32).toInt = 1 := by decide
        have hx : (v2 1 (38 + 7 * x0.toNatClampNeg) + 1).toInt = (v2 1 (38 + 7 * x0.toNatClampNeg)).toInt + 1 := by rw [t_add (by rw [k1]; omega), k1]
        refine h0.wr hT ?_ (q3 2 (by decide))
        intro c hc ha
        have E2 : u2 1 2 = v2 1 2 := by rw [q2, if_neg (by omega), if_neg (by omega), if_neg (by omega), if_neg (by omega), if_neg (by omega), if_neg (by omega)]
        rw [E2] at ha
        obtain ⟨a1, a2, a3, a4⟩ := hO c hc ha
        refine ⟨a1.cg (by rw [q2, if_neg (by omega), if_neg (by omega), if_neg (by omega), if_neg (by omega), if_neg (by omega), if_neg (by omega)]; exact Int.le_refl _) (fun w f1 f2 => by rw [q2, if_neg (by omega), if_neg (by omega), if_neg (by omega), if_neg (by omega), if_neg (by omega), if_neg (by omega)]), a2.cg (by rw [q2, if_neg (by omega), if_neg (by omega), if_neg (by omega), if_neg (by omega), if_neg (by omega), if_neg (by omega)]), a3.cg (fun w f1 f2 => by rw [q2, if_neg (by omega), if_neg (by omega), if_neg (by omega), if_neg (by omega), if_neg (by omega), if_neg (by omega)]) (fun w f1 => by rw [q2, if_neg (by omega), if_neg (by omega), if_neg (by omega), if_neg (by omega), if_neg (by omega), if_neg (by omega)]), ?_⟩
        by_cases e : c = x0.toNatClampNeg
        · subst e
          intro t ht hr
          rw [q2 (38 + 7 * x0.toNatClampNeg), if_pos rfl, hx] at hr
          by_cases f : t = (v2 1 (38 + 7 * x0.toNatClampNeg)).toNatClampNeg
          · rw [q2 (161 + 25 * x0.toNatClampNeg + 5 * t), if_neg (by omega), if_neg (by omega), if_pos (by omega), q2 (162 + 25 * x0.toNatClampNeg + 5 * t), if_neg (by omega), if_pos (by omega)]
            exact hC.2.2.2.2.1
          · rw [q2 (161 + 25 * x0.toNatClampNeg + 5 * t), if_neg (by omega), if_neg (by omega), if_neg (by omega), if_neg (by omega), if_neg (by omega), if_neg (by omega), q2 (162 + 25 * x0.toNatClampNeg + 5 * t), if_neg (by omega), if_neg (by omega), if_neg (by omega), if_neg (by omega), if_neg (by omega), if_neg (by omega)]
            exact a4 t ht (by omega)
        · exact a4.cg (by rw [q2, if_neg (by omega), if_neg (by omega), if_neg (by omega), if_neg (by omega), if_neg (by omega), if_neg (by omega)]) (fun t ht hr => ⟨by rw [q2, if_neg (by omega), if_neg (by omega), if_neg (by omega), if_neg (by omega), if_neg (by omega), if_neg (by omega)], by rw [q2, if_neg (by omega), if_neg (by omega), if_neg (by omega), if_neg (by omega), if_neg (by omega), if_neg (by omega)]⟩)
    · obtain ⟨-, q2⟩ := q.2.1 ⟨hC, hD⟩
      exact h0.wr hT (by rw [q2]; exact hO) (by rw [q2])
  · obtain ⟨-, q2⟩ := q.1 hC
    exact h0.wr hT (by rw [q2]; exact hO) (by rw [q2])

set_option maxHeartbeats 4000000 in
theorem S_term_1 {n r r2 x0 x1 x2 x3 x4 : Int32} {v u v2 u2 : Nat → Nat → Int32} (hI : Iv v) (hQ : Ir v2) (h0 : RR3 n v v2) (p : (¬ ((0 ≤ x0.toInt ∧ x0.toInt < (v 13 2).toInt) ∧ (0 ≤ x1.toInt ∧ x1.toInt ≤ 1) ∧ (0 ≤ x2.toInt ∧ x2.toInt ≤ 5) ∧ (0 ≤ x3.toInt ∧ x3.toInt ≤ 23) ∧ x3.toInt ≤ x4.toInt ∧ x4.toInt ≤ 23) → r = -1 ∧ u = v) ∧ (((0 ≤ x0.toInt ∧ x0.toInt < (v 13 2).toInt) ∧ (0 ≤ x1.toInt ∧ x1.toInt ≤ 1) ∧ (0 ≤ x2.toInt ∧ x2.toInt ≤ 5) ∧ (0 ≤ x3.toInt ∧ x3.toInt ≤ 23) ∧ x3.toInt ≤ x4.toInt ∧ x4.toInt ≤ 23) ∧ (v (29 + 15 * x0.toNatClampNeg) 0).toInt ≠ 1 → r = -4 ∧ u = v) ∧ (((0 ≤ x0.toInt ∧ x0.toInt < (v 13 2).toInt) ∧ (0 ≤ x1.toInt ∧ x1.toInt ≤ 1) ∧ (0 ≤ x2.toInt ∧ x2.toInt ≤ 5) ∧ (0 ≤ x3.toInt ∧ x3.toInt ≤ 23) ∧ x3.toInt ≤ x4.toInt ∧ x4.toInt ≤ 23) ∧ (v (29 + 15 * x0.toNatClampNeg) 0).toInt = 1 ∧ 5 ≤ (v (29 + 15 * x0.toNatClampNeg) 5).toInt → r = -2 ∧ u = v) ∧ (((0 ≤ x0.toInt ∧ x0.toInt < (v 13 2).toInt) ∧ (0 ≤ x1.toInt ∧ x1.toInt ≤ 1) ∧ (0 ≤ x2.toInt ∧ x2.toInt ≤ 5) ∧ (0 ≤ x3.toInt ∧ x3.toInt ≤ 23) ∧ x3.toInt ≤ x4.toInt ∧ x4.toInt ≤ 23) ∧ (v (29 + 15 * x0.toNatClampNeg) 0).toInt = 1 ∧ (v (29 + 15 * x0.toNatClampNeg) 5).toInt < 5 → r = v (29 + 15 * x0.toNatClampNeg) 5 ∧ (∀ k j : Nat, u k j = if k = 29 + 15 * x0.toNatClampNeg ∧ j = 5 then v (29 + 15 * x0.toNatClampNeg) 5 + 1 else if k = 39 + 15 * x0.toNatClampNeg + (v (29 + 15 * x0.toNatClampNeg) 5).toNatClampNeg ∧ j = 4 then x4 else if k = 39 + 15 * x0.toNatClampNeg + (v (29 + 15 * x0.toNatClampNeg) 5).toNatClampNeg ∧ j = 3 then x3 else if k = 39 + 15 * x0.toNatClampNeg + (v (29 + 15 * x0.toNatClampNeg) 5).toNatClampNeg ∧ j = 2 then x2 else if k = 39 + 15 * x0.toNatClampNeg + (v (29 + 15 * x0.toNatClampNeg) 5).toNatClampNeg ∧ j = 1 then 1 else if k = 39 + 15 * x0.toNatClampNeg + (v (29 + 15 * x0.toNatClampNeg) 5).toNatClampNeg ∧ j = 0 then x1 else v k j))) (q : (¬ ((0 ≤ x0.toInt ∧ x0.toInt < (v2 1 2).toInt) ∧ (0 ≤ x1.toInt ∧ x1.toInt ≤ 1) ∧ (0 ≤ x2.toInt ∧ x2.toInt ≤ 5) ∧ (0 ≤ x3.toInt ∧ x3.toInt ≤ 23) ∧ x3.toInt ≤ x4.toInt ∧ x4.toInt ≤ 23) → r2 = -1 ∧ u2 = v2) ∧ (((0 ≤ x0.toInt ∧ x0.toInt < (v2 1 2).toInt) ∧ (0 ≤ x1.toInt ∧ x1.toInt ≤ 1) ∧ (0 ≤ x2.toInt ∧ x2.toInt ≤ 5) ∧ (0 ≤ x3.toInt ∧ x3.toInt ≤ 23) ∧ x3.toInt ≤ x4.toInt ∧ x4.toInt ≤ 23) ∧ (v2 1 (34 + 7 * x0.toNatClampNeg)).toInt ≠ 1 → r2 = -4 ∧ u2 = v2) ∧ (((0 ≤ x0.toInt ∧ x0.toInt < (v2 1 2).toInt) ∧ (0 ≤ x1.toInt ∧ x1.toInt ≤ 1) ∧ (0 ≤ x2.toInt ∧ x2.toInt ≤ 5) ∧ (0 ≤ x3.toInt ∧ x3.toInt ≤ 23) ∧ x3.toInt ≤ x4.toInt ∧ x4.toInt ≤ 23) ∧ (v2 1 (34 + 7 * x0.toNatClampNeg)).toInt = 1 ∧ (v2 1 (38 + 7 * x0.toNatClampNeg)).toInt = 5 → r2 = -2 ∧ u2 = v2) ∧ (((0 ≤ x0.toInt ∧ x0.toInt < (v2 1 2).toInt) ∧ (0 ≤ x1.toInt ∧ x1.toInt ≤ 1) ∧ (0 ≤ x2.toInt ∧ x2.toInt ≤ 5) ∧ (0 ≤ x3.toInt ∧ x3.toInt ≤ 23) ∧ x3.toInt ≤ x4.toInt ∧ x4.toInt ≤ 23) ∧ (v2 1 (34 + 7 * x0.toNatClampNeg)).toInt = 1 ∧ (v2 1 (38 + 7 * x0.toNatClampNeg)).toInt ≠ 5 → r2 = v2 1 (38 + 7 * x0.toNatClampNeg) + 1 - 1 ∧ (∀ n : Nat, u2 1 n = if n = 38 + 7 * x0.toNatClampNeg then v2 1 (38 + 7 * x0.toNatClampNeg) + 1 else if n = 162 + 25 * x0.toNatClampNeg + 5 * (v2 1 (38 + 7 * x0.toNatClampNeg)).toNatClampNeg then x4 else if n = 161 + 25 * x0.toNatClampNeg + 5 * (v2 1 (38 + 7 * x0.toNatClampNeg)).toNatClampNeg then x3 else if n = 160 + 25 * x0.toNatClampNeg + 5 * (v2 1 (38 + 7 * x0.toNatClampNeg)).toNatClampNeg then x2 else if n = 159 + 25 * x0.toNatClampNeg + 5 * (v2 1 (38 + 7 * x0.toNatClampNeg)).toNatClampNeg then 1 else if n = 158 + 25 * x0.toNatClampNeg + 5 * (v2 1 (38 + 7 * x0.toNatClampNeg)).toNatClampNeg then x1 else v2 1 n) ∧ (∀ k : Nat, k ≠ 1 → u2 k = v2 k))) : r = r2 ∧ RR3 n u u2 := by
  have h := h0.1
  have hO := h0.2.1
  have hT := T_term_1 hI hQ h p q
  have hb0 := hQ 1 0 8 (by decide)
  have hb1 := hQ 1 1 4 (by decide)
  have hb2 := hQ 1 2 6 (by decide)
  have hb3 := hQ 1 3 6 (by decide)
  by_cases hC : (0 ≤ x0.toInt ∧ x0.toInt < (v2 1 2).toInt) ∧ (0 ≤ x1.toInt ∧ x1.toInt ≤ 1) ∧ (0 ≤ x2.toInt ∧ x2.toInt ≤ 5) ∧ (0 ≤ x3.toInt ∧ x3.toInt ≤ 23) ∧ x3.toInt ≤ x4.toInt ∧ x4.toInt ≤ 23
  · by_cases hD : (v2 1 (34 + 7 * x0.toNatClampNeg)).toInt = 1
    · by_cases hE : (v2 1 (38 + 7 * x0.toNatClampNeg)).toInt = 5
      · obtain ⟨-, q2⟩ := q.2.2.1 ⟨hC, hD, hE⟩
        exact h0.wr hT (by rw [q2]; exact hO) (by rw [q2])
      · obtain ⟨-, q2, q3⟩ := q.2.2.2 ⟨hC, hD, hE⟩
        have zX := t_nn (x := x0) (by omega)
        have hX : x0.toNatClampNeg < 6 := by omega
        have hXa : (x0.toNatClampNeg : Int) < (v2 1 2).toInt := by omega
        have hb := hQ 1 (38 + 7 * x0.toNatClampNeg) 5 (bS_c (by omega) (by omega))
        have zT := t_nn (x := v2 1 (38 + 7 * x0.toNatClampNeg)) (by omega)
        have k1 : (1 : Int32).toInt = 1 := by decide
        have hx : (v2 1 (38 + 7 * x0.toNatClampNeg) + 1).toInt = (v2 1 (38 + 7 * x0.toNatClampNeg)).toInt + 1 := by rw [t_add (by rw [k1]; omega), k1]
        refine h0.wr hT ?_ (q3 2 (by decide))
        intro c hc ha
        have E2 : u2 1 2 = v2 1 2 := by rw [q2, if_neg (by omega), if_neg (by omega), if_neg (by omega), if_neg (by omega), if_neg (by omega), if_neg (by omega)]
        rw [E2] at ha
        obtain ⟨a1, a2, a3, a4⟩ := hO c hc ha
        refine ⟨a1.cg (by rw [q2, if_neg (by omega), if_neg (by omega), if_neg (by omega), if_neg (by omega), if_neg (by omega), if_neg (by omega)]; exact Int.le_refl _) (fun w f1 f2 => by rw [q2, if_neg (by omega), if_neg (by omega), if_neg (by omega), if_neg (by omega), if_neg (by omega), if_neg (by omega)]), a2.cg (by rw [q2, if_neg (by omega), if_neg (by omega), if_neg (by omega), if_neg (by omega), if_neg (by omega), if_neg (by omega)]), a3.cg (fun w f1 f2 => by rw [q2, if_neg (by omega), if_neg (by omega), if_neg (by omega), if_neg (by omega), if_neg (by omega), if_neg (by omega)]) (fun w f1 => by rw [q2, if_neg (by omega), if_neg (by omega), if_neg (by omega), if_neg (by omega), if_neg (by omega), if_neg (by omega)]), ?_⟩
        by_cases e : c = x0.toNatClampNeg
        · subst e
          intro t ht hr
          rw [q2 (38 + 7 * x0.toNatClampNeg), if_pos rfl, hx] at hr
          by_cases f : t = (v2 1 (38 + 7 * x0.toNatClampNeg)).toNatClampNeg
          · rw [q2 (161 + 25 * x0.toNatClampNeg + 5 * t), if_neg (by omega), if_neg (by omega), if_pos (by omega), q2 (162 + 25 * x0.toNatClampNeg + 5 * t), if_neg (by omega), if_pos (by omega)]
            exact hC.2.2.2.2.1
          · rw [q2 (161 + 25 * x0.toNatClampNeg + 5 * t), if_neg (by omega), if_neg (by omega), if_neg (by omega), if_neg (by omega), if_neg (by omega), if_neg (by omega), q2 (162 + 25 * x0.toNatClampNeg + 5 * t), if_neg (by omega), if_neg (by omega), if_neg (by omega), if_neg (by omega), if_neg (by omega), if_neg (by omega)]
            exact a4 t ht (by omega)
        · exact a4.cg (by rw [q2, if_neg (by omega), if_neg (by omega), if_neg (by omega), if_neg (by omega), if_neg (by omega), if_neg (by omega)]) (fun t ht hr => ⟨by rw [q2, if_neg (by omega), if_neg (by omega), if_neg (by omega), if_neg (by omega), if_neg (by omega), if_neg (by omega)], by rw [q2, if_neg (by omega), if_neg (by omega), if_neg (by omega), if_neg (by omega), if_neg (by omega), if_neg (by omega)]⟩)
    · obtain ⟨-, q2⟩ := q.2.1 ⟨hC, hD⟩
      exact h0.wr hT (by rw [q2]; exact hO) (by rw [q2])
  · obtain ⟨-, q2⟩ := q.1 hC
    exact h0.wr hT (by rw [q2]; exact hO) (by rw [q2])

set_option maxHeartbeats 4000000 in
theorem S_open {n r r2 x0 x1 : Int32} {v u v2 u2 : Nat → Nat → Int32} (hI : Iv v) (hQ : Ir v2) (h0 : RR3 n v v2) (p : (¬ ((0 ≤ x0.toInt ∧ x0.toInt < (v 13 0).toInt) ∧ (0 ≤ x1.toInt ∧ x1.toInt < (v 13 0).toInt) ∧ x0.toInt ≠ x1.toInt) → r = -1 ∧ u = v) ∧ (((0 ≤ x0.toInt ∧ x0.toInt < (v 13 0).toInt) ∧ (0 ≤ x1.toInt ∧ x1.toInt < (v 13 0).toInt) ∧ x0.toInt ≠ x1.toInt) ∧ 6 ≤ (v 13 2).toInt → r = -2 ∧ u = v) ∧ (((0 ≤ x0.toInt ∧ x0.toInt < (v 13 0).toInt) ∧ (0 ≤ x1.toInt ∧ x1.toInt < (v 13 0).toInt) ∧ x0.toInt ≠ x1.toInt) ∧ (v 13 2).toInt < 6 → r = v 13 2 ∧ (∀ k j : Nat, u k j = if k = 13 ∧ j = 2 then v 13 2 + 1 else if 36 + 15 * (v 13 2).toNatClampNeg ≤ k ∧ (k : Int) < 36 + 15 * ((v 13 2).toNatClampNeg : Int) + 2 ∧ j < 24 then 7 else if k = 31 + 15 * (v 13 2).toNatClampNeg ∧ (j : Int) < 2 then -1 else if k = 30 + 15 * (v 13 2).toNatClampNeg ∧ j = 1 then x1 else if k = 30 + 15 * (v 13 2).toNatClampNeg ∧ j = 0 then x0 else if k = 29 + 15 * (v 13 2).toNatClampNeg ∧ j = 5 then 0 else if k = 29 + 15 * (v 13 2).toNatClampNeg ∧ j = 4 then 0 else if k = 29 + 15 * (v 13 2).toNatClampNeg ∧ j = 3 then 1 else if k = 29 + 15 * (v 13 2).toNatClampNeg ∧ j = 2 then 0 else if k = 29 + 15 * (v 13 2).toNatClampNeg ∧ j = 1 then 0 else if k = 29 + 15 * (v 13 2).toNatClampNeg ∧ j = 0 then 0 else v k j))) (q : (¬ ((0 ≤ x0.toInt ∧ x0.toInt < (v2 1 0).toInt) ∧ (0 ≤ x1.toInt ∧ x1.toInt < (v2 1 0).toInt) ∧ x0.toInt ≠ x1.toInt) → r2 = -1 ∧ u2 = v2) ∧ (((0 ≤ x0.toInt ∧ x0.toInt < (v2 1 0).toInt) ∧ (0 ≤ x1.toInt ∧ x1.toInt < (v2 1 0).toInt) ∧ x0.toInt ≠ x1.toInt) ∧ (v2 1 2).toInt = 6 → r2 = -2 ∧ u2 = v2) ∧ (((0 ≤ x0.toInt ∧ x0.toInt < (v2 1 0).toInt) ∧ (0 ≤ x1.toInt ∧ x1.toInt < (v2 1 0).toInt) ∧ x0.toInt ≠ x1.toInt) ∧ (v2 1 2).toInt ≠ 6 → r2 = v2 1 2 ∧ (∀ n : Nat, u2 1 n = if n = 2 then v2 1 2 + 1 else if 308 + 48 * (v2 1 2).toNatClampNeg ≤ n ∧ (n : Int) < 308 + 48 * ((v2 1 2).toNatClampNeg : Int) + 48 then 7 else if n = 75 + 2 * (v2 1 2).toNatClampNeg then -5 else if n = 74 + 2 * (v2 1 2).toNatClampNeg then -5 else if n = 38 + 7 * (v2 1 2).toNatClampNeg then 0 else if n = 37 + 7 * (v2 1 2).toNatClampNeg then 1 else if n = 36 + 7 * (v2 1 2).toNatClampNeg then 0 else if n = 35 + 7 * (v2 1 2).toNatClampNeg then -5 else if n = 34 + 7 * (v2 1 2).toNatClampNeg then 0 else if n = 33 + 7 * (v2 1 2).toNatClampNeg then x1 else if n = 32 + 7 * (v2 1 2).toNatClampNeg then x0 else v2 1 n) ∧ (∀ k : Nat, k ≠ 1 → u2 k = v2 k))) : r = r2 ∧ RR3 n u u2 := by
  have h := h0.1
  have hO := h0.2.1
  have hT := T_open hI hQ h p q
  have hb0 := hQ 1 0 8 (by decide)
  have hb1 := hQ 1 1 4 (by decide)
  have hb2 := hQ 1 2 6 (by decide)
  have hb3 := hQ 1 3 6 (by decide)
  by_cases hC : (0 ≤ x0.toInt ∧ x0.toInt < (v2 1 0).toInt) ∧ (0 ≤ x1.toInt ∧ x1.toInt < (v2 1 0).toInt) ∧ x0.toInt ≠ x1.toInt
  · by_cases hD : (v2 1 2).toInt = 6
    · obtain ⟨-, q2⟩ := q.2.1 ⟨hC, hD⟩
      exact h0.wr hT (by rw [q2]; exact hO) (by rw [q2])
    · obtain ⟨-, q2, q3⟩ := q.2.2 ⟨hC, hD⟩
      have zX := t_nn (x := v2 1 2) (by omega)
      have k1 : (1 : Int32).toInt = 1 := by decide
      have hx : (v2 1 2 + 1).toInt = (v2 1 2).toInt + 1 := by rw [t_add (by rw [k1]; omega), k1]
      refine h0.wr hT ?_ (q3 2 (by decide))
      intro c hc ha
      rw [q2 2, if_pos rfl, hx] at ha
      by_cases e : c = (v2 1 2).toNatClampNeg
      · have g0 : u2 1 (32 + 7 * c) = x0 := by rw [q2, if_neg (by omega), if_neg (by omega), if_neg (by omega), if_neg (by omega), if_neg (by omega), if_neg (by omega), if_neg (by omega), if_neg (by omega), if_neg (by omega), if_neg (by omega), if_pos (by omega)]
        have g1 : u2 1 (33 + 7 * c) = x1 := by rw [q2, if_neg (by omega), if_neg (by omega), if_neg (by omega), if_neg (by omega), if_neg (by omega), if_neg (by omega), if_neg (by omega), if_neg (by omega), if_neg (by omega), if_pos (by omega)]
        have g2 : u2 1 (34 + 7 * c) = 0 := by rw [q2, if_neg (by omega), if_neg (by omega), if_neg (by omega), if_neg (by omega), if_neg (by omega), if_neg (by omega), if_neg (by omega), if_neg (by omega), if_pos (by omega)]
        have g4 : u2 1 (36 + 7 * c) = 0 := by rw [q2, if_neg (by omega), if_neg (by omega), if_neg (by omega), if_neg (by omega), if_neg (by omega), if_neg (by omega), if_pos (by omega)]
        have g5 : u2 1 (37 + 7 * c) = 1 := by rw [q2, if_neg (by omega), if_neg (by omega), if_neg (by omega), if_neg (by omega), if_neg (by omega), if_pos (by omega)]
        have g6 : u2 1 (38 + 7 * c) = 0 := by rw [q2, if_neg (by omega), if_neg (by omega), if_neg (by omega), if_neg (by omega), if_pos (by omega)]
        have gz : u2 1 0 = v2 1 0 := by rw [q2, if_neg (by omega), if_neg (by omega), if_neg (by omega), if_neg (by omega), if_neg (by omega), if_neg (by omega), if_neg (by omega), if_neg (by omega), if_neg (by omega), if_neg (by omega), if_neg (by omega)]
        refine ⟨?_, ?_, ⟨?_, fun j hj hr => ?_⟩, fun t ht hr => ?_⟩
        · unfold OP
          rw [g0, g1, gz]
          exact ⟨hC.1, hC.2.1⟩
        · unfold OW
          rw [g5]
          decide
        · rw [g2]
          exact fun w => absurd w (by decide)
        · rw [g4] at hr
          have k0 : (0 : Int32).toInt = 0 := by decide
          omega
        · rw [g6] at hr
          have k0 : (0 : Int32).toInt = 0 := by decide
          omega
      · obtain ⟨a1, a2, a3, a4⟩ := hO c hc (by omega)
        exact ⟨a1.cg (by rw [q2, if_neg (by omega), if_neg (by omega), if_neg (by omega), if_neg (by omega), if_neg (by omega), if_neg (by omega), if_neg (by omega), if_neg (by omega), if_neg (by omega), if_neg (by omega), if_neg (by omega)]; exact Int.le_refl _) (fun w f1 f2 => by rw [q2, if_neg (by omega), if_neg (by omega), if_neg (by omega), if_neg (by omega), if_neg (by omega), if_neg (by omega), if_neg (by omega), if_neg (by omega), if_neg (by omega), if_neg (by omega), if_neg (by omega)]), a2.cg (by rw [q2, if_neg (by omega), if_neg (by omega), if_neg (by omega), if_neg (by omega), if_neg (by omega), if_neg (by omega), if_neg (by omega), if_neg (by omega), if_neg (by omega), if_neg (by omega), if_neg (by omega)]), a3.cg (fun w f1 f2 => by rw [q2, if_neg (by omega), if_neg (by omega), if_neg (by omega), if_neg (by omega), if_neg (by omega), if_neg (by omega), if_neg (by omega), if_neg (by omega), if_neg (by omega), if_neg (by omega), if_neg (by omega)]) (fun w f1 => by rw [q2, if_neg (by omega), if_neg (by omega), if_neg (by omega), if_neg (by omega), if_neg (by omega), if_neg (by omega), if_neg (by omega), if_neg (by omega), if_neg (by omega), if_neg (by omega), if_neg (by omega)]), a4.cg (by rw [q2, if_neg (by omega), if_neg (by omega), if_neg (by omega), if_neg (by omega), if_neg (by omega), if_neg (by omega), if_neg (by omega), if_neg (by omega), if_neg (by omega), if_neg (by omega), if_neg (by omega)]) (fun t ht hr => ⟨by rw [q2, if_neg (by omega), if_neg (by omega), if_neg (by omega), if_neg (by omega), if_neg (by omega), if_neg (by omega), if_neg (by omega), if_neg (by omega), if_neg (by omega), if_neg (by omega), if_neg (by omega)], by rw [q2, if_neg (by omega), if_neg (by omega), if_neg (by omega), if_neg (by omega), if_neg (by omega), if_neg (by omega), if_neg (by omega), if_neg (by omega), if_neg (by omega), if_neg (by omega), if_neg (by omega)]⟩)⟩
  · obtain ⟨-, q2⟩ := q.1 hC
    exact h0.wr hT (by rw [q2]; exact hO) (by rw [q2])

set_option maxHeartbeats 4000000 in
theorem S_offer_0 {n r r2 x0 x1 : Int32} {v u v2 u2 : Nat → Nat → Int32} (hI : Iv v) (hQ : Ir v2) (h0 : RR3 n v v2) (p : (¬ ((0 ≤ x0.toInt ∧ x0.toInt < (v 13 2).toInt) ∧ 0 ≤ x1.toInt ∧ x1.toInt ≤ 100) → r = -1 ∧ u = v) ∧ (((0 ≤ x0.toInt ∧ x0.toInt < (v 13 2).toInt) ∧ 0 ≤ x1.toInt ∧ x1.toInt ≤ 100) ∧ (v (29 + 15 * x0.toNatClampNeg) 0).toInt ≠ 0 → r = -4 ∧ u = v) ∧ (((0 ≤ x0.toInt ∧ x0.toInt < (v 13 2).toInt) ∧ 0 ≤ x1.toInt ∧ x1.toInt ≤ 100) ∧ (v (29 + 15 * x0.toNatClampNeg) 0).toInt = 0 ∧ (v (31 + 15 * x0.toNatClampNeg) 0).toInt ≠ -1 → r = -3 ∧ u = v) ∧ (((0 ≤ x0.toInt ∧ x0.toInt < (v 13 2).toInt) ∧ 0 ≤ x1.toInt ∧ x1.toInt ≤ 100) ∧ (v (29 + 15 * x0.toNatClampNeg) 0).toInt = 0 ∧ (v (31 + 15 * x0.toNatClampNeg) 0).toInt = -1 ∧ 5 ≤ (v (29 + 15 * x0.toNatClampNeg) 2).toInt → r = -2 ∧ u = v) ∧ (((0 ≤ x0.toInt ∧ x0.toInt < (v 13 2).toInt) ∧ 0 ≤ x1.toInt ∧ x1.toInt ≤ 100) ∧ (v (29 + 15 * x0.toNatClampNeg) 0).toInt = 0 ∧ (v (31 + 15 * x0.toNatClampNeg) 0).toInt = -1 ∧ (v (29 + 15 * x0.toNatClampNeg) 2).toInt < 5 ∧ (v (31 + 15 * x0.toNatClampNeg) 1).toInt = -1 → r = 0 ∧ (∀ k j : Nat, u k j = if k = 31 + 15 * x0.toNatClampNeg ∧ j = 0 then x1 else v k j)) ∧ (((0 ≤ x0.toInt ∧ x0.toInt < (v 13 2).toInt) ∧ 0 ≤ x1.toInt ∧ x1.toInt ≤ 100) ∧ (v (29 + 15 * x0.toNatClampNeg) 0).toInt = 0 ∧ (v (31 + 15 * x0.toNatClampNeg) 0).toInt = -1 ∧ (v (29 + 15 * x0.toNatClampNeg) 2).toInt < 5 ∧ (v (31 + 15 * x0.toNatClampNeg) 1).toInt ≠ -1 ∧ (v (31 + 15 * x0.toNatClampNeg) 1).toInt < x1.toInt → r = 2 ∧ (∀ k j : Nat, u k j = if k = 31 + 15 * x0.toNatClampNeg ∧ j = 1 then -1 else if k = 31 + 15 * x0.toNatClampNeg ∧ j = 0 then -1 else if k = 29 + 15 * x0.toNatClampNeg ∧ j = 2 then v (29 + 15 * x0.toNatClampNeg) 2 + 1 else if k = 33 + 15 * x0.toNatClampNeg + 1 ∧ j = (v (29 + 15 * x0.toNatClampNeg) 2).toNatClampNeg then v (31 + 15 * x0.toNatClampNeg) 1 else if k = 33 + 15 * x0.toNatClampNeg + 0 ∧ j = (v (29 + 15 * x0.toNatClampNeg) 2).toNatClampNeg then x1 else if k = 31 + 15 * x0.toNatClampNeg ∧ j = 0 then x1 else v k j)) ∧ (((0 ≤ x0.toInt ∧ x0.toInt < (v 13 2).toInt) ∧ 0 ≤ x1.toInt ∧ x1.toInt ≤ 100) ∧ (v (29 + 15 * x0.toNatClampNeg) 0).toInt = 0 ∧ (v (31 + 15 * x0.toNatClampNeg) 0).toInt = -1 ∧ (v (29 + 15 * x0.toNatClampNeg) 2).toInt < 5 ∧ (v (31 + 15 * x0.toNatClampNeg) 1).toInt ≠ -1 ∧ x1.toInt ≤ (v (31 + 15 * x0.toNatClampNeg) 1).toInt → r = 1 ∧ (∀ k j : Nat, u k j = if k = 29 + 15 * x0.toNatClampNeg ∧ j = 1 then (x1 + v (31 + 15 * x0.toNatClampNeg) 1) / 2 else if k = 29 + 15 * x0.toNatClampNeg ∧ j = 0 then 1 else if k = 29 + 15 * x0.toNatClampNeg ∧ j = 2 then v (29 + 15 * x0.toNatClampNeg) 2 + 1 else if k = 33 + 15 * x0.toNatClampNeg + 1 ∧ j = (v (29 + 15 * x0.toNatClampNeg) 2).toNatClampNeg then v (31 + 15 * x0.toNatClampNeg) 1 else if k = 33 + 15 * x0.toNatClampNeg + 0 ∧ j = (v (29 + 15 * x0.toNatClampNeg) 2).toNatClampNeg then x1 else if k = 31 + 15 * x0.toNatClampNeg ∧ j = 0 then x1 else v k j))) (q : (¬ ((0 ≤ x0.toInt ∧ x0.toInt < (v2 1 2).toInt) ∧ 0 ≤ x1.toInt ∧ x1.toInt ≤ 100) → r2 = -1 ∧ u2 = v2) ∧ (((0 ≤ x0.toInt ∧ x0.toInt < (v2 1 2).toInt) ∧ 0 ≤ x1.toInt ∧ x1.toInt ≤ 100) ∧ (v2 1 (34 + 7 * x0.toNatClampNeg)).toInt ≠ 0 → r2 = -4 ∧ u2 = v2) ∧ (((0 ≤ x0.toInt ∧ x0.toInt < (v2 1 2).toInt) ∧ 0 ≤ x1.toInt ∧ x1.toInt ≤ 100) ∧ (v2 1 (34 + 7 * x0.toNatClampNeg)).toInt = 0 ∧ 0 ≤ (v2 1 (74 + 2 * x0.toNatClampNeg)).toInt → r2 = -3 ∧ u2 = v2) ∧ (((0 ≤ x0.toInt ∧ x0.toInt < (v2 1 2).toInt) ∧ 0 ≤ x1.toInt ∧ x1.toInt ≤ 100) ∧ (v2 1 (34 + 7 * x0.toNatClampNeg)).toInt = 0 ∧ (v2 1 (74 + 2 * x0.toNatClampNeg)).toInt < 0 ∧ (v2 1 (36 + 7 * x0.toNatClampNeg)).toInt = 5 → r2 = -2 ∧ u2 = v2) ∧ (((0 ≤ x0.toInt ∧ x0.toInt < (v2 1 2).toInt) ∧ 0 ≤ x1.toInt ∧ x1.toInt ≤ 100) ∧ (v2 1 (34 + 7 * x0.toNatClampNeg)).toInt = 0 ∧ (v2 1 (74 + 2 * x0.toNatClampNeg)).toInt < 0 ∧ (v2 1 (36 + 7 * x0.toNatClampNeg)).toInt ≠ 5 ∧ (v2 1 (75 + 2 * x0.toNatClampNeg)).toInt < 0 → r2 = 0 ∧ (∀ n : Nat, u2 1 n = if n = 74 + 2 * x0.toNatClampNeg then x1 else v2 1 n) ∧ (∀ k : Nat, k ≠ 1 → u2 k = v2 k)) ∧ (((0 ≤ x0.toInt ∧ x0.toInt < (v2 1 2).toInt) ∧ 0 ≤ x1.toInt ∧ x1.toInt ≤ 100) ∧ (v2 1 (34 + 7 * x0.toNatClampNeg)).toInt = 0 ∧ (v2 1 (74 + 2 * x0.toNatClampNeg)).toInt < 0 ∧ (v2 1 (36 + 7 * x0.toNatClampNeg)).toInt ≠ 5 ∧ 0 ≤ (v2 1 (75 + 2 * x0.toNatClampNeg)).toInt ∧ (v2 1 (75 + 2 * x0.toNatClampNeg)).toInt < x1.toInt → r2 = 2 ∧ (∀ n : Nat, u2 1 n = if n = 75 + 2 * x0.toNatClampNeg then -5 else if n = 74 + 2 * x0.toNatClampNeg then -5 else if n = 36 + 7 * x0.toNatClampNeg then v2 1 (36 + 7 * x0.toNatClampNeg) + 1 else if n = 87 + 10 * x0.toNatClampNeg + 2 * (v2 1 (36 + 7 * x0.toNatClampNeg)).toNatClampNeg then v2 1 (75 + 2 * x0.toNatClampNeg) else if n = 86 + 10 * x0.toNatClampNeg + 2 * (v2 1 (36 + 7 * x0.toNatClampNeg)).toNatClampNeg then x1 else if n = 74 + 2 * x0.toNatClampNeg then x1 else v2 1 n) ∧ (∀ k : Nat, k ≠ 1 → u2 k = v2 k)) ∧ (((0 ≤ x0.toInt ∧ x0.toInt < (v2 1 2).toInt) ∧ 0 ≤ x1.toInt ∧ x1.toInt ≤ 100) ∧ (v2 1 (34 + 7 * x0.toNatClampNeg)).toInt = 0 ∧ (v2 1 (74 + 2 * x0.toNatClampNeg)).toInt < 0 ∧ (v2 1 (36 + 7 * x0.toNatClampNeg)).toInt ≠ 5 ∧ 0 ≤ (v2 1 (75 + 2 * x0.toNatClampNeg)).toInt ∧ x1.toInt ≤ (v2 1 (75 + 2 * x0.toNatClampNeg)).toInt → r2 = 1 ∧ (∀ n : Nat, u2 1 n = if n = 35 + 7 * x0.toNatClampNeg then (x1 + v2 1 (75 + 2 * x0.toNatClampNeg)) / 2 else if n = 34 + 7 * x0.toNatClampNeg then 1 else if n = 75 + 2 * x0.toNatClampNeg then -5 else if n = 74 + 2 * x0.toNatClampNeg then -5 else if n = 36 + 7 * x0.toNatClampNeg then v2 1 (36 + 7 * x0.toNatClampNeg) + 1 else if n = 87 + 10 * x0.toNatClampNeg + 2 * (v2 1 (36 + 7 * x0.toNatClampNeg)).toNatClampNeg then v2 1 (75 + 2 * x0.toNatClampNeg) else if n = 86 + 10 * x0.toNatClampNeg + 2 * (v2 1 (36 + 7 * x0.toNatClampNeg)).toNatClampNeg then x1 else if n = 74 + 2 * x0.toNatClampNeg then x1 else v2 1 n) ∧ (∀ k : Nat, k ≠ 1 → u2 k = v2 k))) : r = r2 ∧ RR3 n u u2 := by
  have h := h0.1
  have hO := h0.2.1
  have hT := T_offer_0 hI hQ h p q
  have hb0 := hQ 1 0 8 (by decide)
  have hb1 := hQ 1 1 4 (by decide)
  have hb2 := hQ 1 2 6 (by decide)
  have hb3 := hQ 1 3 6 (by decide)
  by_cases hC : (0 ≤ x0.toInt ∧ x0.toInt < (v2 1 2).toInt) ∧ 0 ≤ x1.toInt ∧ x1.toInt ≤ 100
  · have zX := t_nn (x := x0) (by omega)
    have hX : x0.toNatClampNeg < 6 := by omega
    have hXa : (x0.toNatClampNeg : Int) < (v2 1 2).toInt := by omega
    have hb := hQ 1 (36 + 7 * x0.toNatClampNeg) 5 (bS_c (by omega) (by omega))
    by_cases hD : (v2 1 (34 + 7 * x0.toNatClampNeg)).toInt = 0
    · obtain ⟨hx0, hx1⟩ := (h.1.2.1 _ hX hXa).2.2.2 hD
      have ho : (v2 1 (75 + 2 * x0.toNatClampNeg)).toInt < 0 ∨ (0 ≤ (v2 1 (75 + 2 * x0.toNatClampNeg)).toInt ∧ (v2 1 (75 + 2 * x0.toNatClampNeg)).toInt ≤ 100) := by rcases hx1 with ⟨t1, t2⟩ | ⟨t1, t2, t3⟩; exact Or.inl t2; exact Or.inr ⟨t1, t2⟩
      clear hx0 hx1
      by_cases hB : 0 ≤ (v2 1 (74 + 2 * x0.toNatClampNeg)).toInt
      · obtain ⟨-, q2⟩ := q.2.2.1 ⟨hC, hD, hB⟩
        exact h0.wr hT (by rw [q2]; exact hO) (by rw [q2])
      · by_cases hE : (v2 1 (36 + 7 * x0.toNatClampNeg)).toInt = 5
        · obtain ⟨-, q2⟩ := q.2.2.2.1 ⟨hC, hD, by omega, hE⟩
          exact h0.wr hT (by rw [q2]; exact hO) (by rw [q2])
        · by_cases hG : (v2 1 (75 + 2 * x0.toNatClampNeg)).toInt < 0
          · obtain ⟨-, q2, q3⟩ := q.2.2.2.2.1 ⟨hC, hD, by omega, hE, hG⟩
            refine h0.wr hT ?_ (q3 2 (by decide))
            intro c hc ha
            have E2 : u2 1 2 = v2 1 2 := by rw [q2, if_neg (by omega)]
            rw [E2] at ha
            obtain ⟨a1, a2, a3, a4⟩ := hO c hc ha
            exact ⟨a1.cg (by rw [q2, if_neg (by omega)]; exact Int.le_refl _) (fun w f1 f2 => by rw [q2, if_neg (by omega)]), a2.cg (by rw [q2, if_neg (by omega)]), a3.cg (fun w f1 f2 => by rw [q2, if_neg (by omega)]) (fun w f1 => by rw [q2, if_neg (by omega)]), a4.cg (by rw [q2, if_neg (by omega)]) (fun t ht hr => ⟨by rw [q2, if_neg (by omega)], by rw [q2, if_neg (by omega)]⟩)⟩
          · have k1 : (1 : Int32).toInt = 1 := by decide
            have zR := t_nn (x := v2 1 (36 + 7 * x0.toNatClampNeg)) (by omega)
            have hx : (v2 1 (36 + 7 * x0.toNatClampNeg) + 1).toInt = (v2 1 (36 + 7 * x0.toNatClampNeg)).toInt + 1 := by rw [t_add (by rw [k1]; omega), k1]
            by_cases hL : (v2 1 (75 + 2 * x0.toNatClampNeg)).toInt < (x1).toInt
            · obtain ⟨-, q2, q3⟩ := q.2.2.2.2.2.1 ⟨hC, hD, by omega, hE, by omega, hL⟩
              refine h0.wr hT ?_ (q3 2 (by decide))
              intro c hc ha
              have E2 : u2 1 2 = v2 1 2 := by rw [q2, if_neg (by omega), if_neg (by omega), if_neg (by omega), if_neg (by omega), if_neg (by omega), if_neg (by omega)]
              rw [E2] at ha
              obtain ⟨a1, a2, a3, a4⟩ := hO c hc ha
              refine ⟨a1.cg (by rw [q2, if_neg (by omega), if_neg (by omega), if_neg (by omega), if_neg (by omega), if_neg (by omega), if_neg (by omega)]; exact Int.le_refl _) (fun w f1 f2 => by rw [q2, if_neg (by omega), if_neg (by omega), if_neg (by omega), if_neg (by omega), if_neg (by omega), if_neg (by omega)]), a2.cg (by rw [q2, if_neg (by omega), if_neg (by omega), if_neg (by omega), if_neg (by omega), if_neg (by omega), if_neg (by omega)]), ?_, a4.cg (by rw [q2, if_neg (by omega), if_neg (by omega), if_neg (by omega), if_neg (by omega), if_neg (by omega), if_neg (by omega)]) (fun t ht hr => ⟨by rw [q2, if_neg (by omega), if_neg (by omega), if_neg (by omega), if_neg (by omega), if_neg (by omega), if_neg (by omega)], by rw [q2, if_neg (by omega), if_neg (by omega), if_neg (by omega), if_neg (by omega), if_neg (by omega), if_neg (by omega)]⟩)⟩
              by_cases e : c = x0.toNatClampNeg
              · subst e
                have g4 : u2 1 (36 + 7 * x0.toNatClampNeg) = v2 1 (36 + 7 * x0.toNatClampNeg) + 1 := by rw [q2, if_neg (by omega), if_neg (by omega), if_pos (by omega)]
                have g2 : u2 1 (34 + 7 * x0.toNatClampNeg) = v2 1 (34 + 7 * x0.toNatClampNeg) := by rw [q2, if_neg (by omega), if_neg (by omega), if_neg (by omega), if_neg (by omega), if_neg (by omega), if_neg (by omega)]
                have g3 : u2 1 (35 + 7 * x0.toNatClampNeg) = v2 1 (35 + 7 * x0.toNatClampNeg) := by rw [q2, if_neg (by omega), if_neg (by omega), if_neg (by omega), if_neg (by omega), if_neg (by omega), if_neg (by omega)]
                unfold OR_
                rw [g2, g3, g4, hx]
                refine ⟨fun _ => by omega, fun j hj hr => ?_⟩
                by_cases f : j = (v2 1 (36 + 7 * x0.toNatClampNeg)).toNatClampNeg
                · have g6 : u2 1 (86 + 10 * x0.toNatClampNeg + 2 * j) = x1 := by rw [q2, if_neg (by omega), if_neg (by omega), if_neg (by omega), if_neg (by omega), if_pos (by omega)]
                  have g7 : u2 1 (87 + 10 * x0.toNatClampNeg + 2 * j) = v2 1 (75 + 2 * x0.toNatClampNeg) := by rw [q2, if_neg (by omega), if_neg (by omega), if_neg (by omega), if_pos (by omega)]
                  rw [g6, g7]
                  unfold od
                  rw [hx]
                  exact ⟨by omega, by omega, fun w => absurd w.1 (by omega), fun _ => by omega⟩
                · rw [q2 (86 + 10 * x0.toNatClampNeg + 2 * j), if_neg (by omega), if_neg (by omega), if_neg (by omega), if_neg (by omega), if_neg (by omega), if_neg (by omega), q2 (87 + 10 * x0.toNatClampNeg + 2 * j), if_neg (by omega), if_neg (by omega), if_neg (by omega), if_neg (by omega), if_neg (by omega), if_neg (by omega)]
                  obtain ⟨d1, d2, d3, d4⟩ := a3.2 j hj (by omega)
                  unfold od
                  rw [hx]
                  exact ⟨d1, d2, fun w => absurd w (by omega), fun _ => d4 (fun w => absurd w.1 (by omega))⟩
              · exact a3.cg (fun w f1 f2 => by rw [q2, if_neg (by omega), if_neg (by omega), if_neg (by omega), if_neg (by omega), if_neg (by omega), if_neg (by omega)]) (fun w f1 => by rw [q2, if_neg (by omega), if_neg (by omega), if_neg (by omega), if_neg (by omega), if_neg (by omega), if_neg (by omega)])
            · obtain ⟨-, q2, q3⟩ := q.2.2.2.2.2.2 ⟨hC, hD, by omega, hE, by omega, by omega⟩
              refine h0.wr hT ?_ (q3 2 (by decide))
              intro c hc ha
              have E2 : u2 1 2 = v2 1 2 := by rw [q2, if_neg (by omega), if_neg (by omega), if_neg (by omega), if_neg (by omega), if_neg (by omega), if_neg (by omega), if_neg (by omega), if_neg (by omega)]
              rw [E2] at ha
              obtain ⟨a1, a2, a3, a4⟩ := hO c hc ha
              refine ⟨a1.cg (by rw [q2, if_neg (by omega), if_neg (by omega), if_neg (by omega), if_neg (by omega), if_neg (by omega), if_neg (by omega), if_neg (by omega), if_neg (by omega)]; exact Int.le_refl _) (fun w f1 f2 => by rw [q2, if_neg (by omega), if_neg (by omega), if_neg (by omega), if_neg (by omega), if_neg (by omega), if_neg (by omega), if_neg (by omega), if_neg (by omega)]), a2.cg (by rw [q2, if_neg (by omega), if_neg (by omega), if_neg (by omega), if_neg (by omega), if_neg (by omega), if_neg (by omega), if_neg (by omega), if_neg (by omega)]), ?_, a4.cg (by rw [q2, if_neg (by omega), if_neg (by omega), if_neg (by omega), if_neg (by omega), if_neg (by omega), if_neg (by omega), if_neg (by omega), if_neg (by omega)]) (fun t ht hr => ⟨by rw [q2, if_neg (by omega), if_neg (by omega), if_neg (by omega), if_neg (by omega), if_neg (by omega), if_neg (by omega), if_neg (by omega), if_neg (by omega)], by rw [q2, if_neg (by omega), if_neg (by omega), if_neg (by omega), if_neg (by omega), if_neg (by omega), if_neg (by omega), if_neg (by omega), if_neg (by omega)]⟩)⟩
              by_cases e : c = x0.toNatClampNeg
              · subst e
                have g4 : u2 1 (36 + 7 * x0.toNatClampNeg) = v2 1 (36 + 7 * x0.toNatClampNeg) + 1 := by rw [q2, if_neg (by omega), if_neg (by omega), if_neg (by omega), if_neg (by omega), if_pos (by omega)]
                have g2 : u2 1 (34 + 7 * x0.toNatClampNeg) = 1 := by rw [q2, if_neg (by omega), if_pos (by omega)]
                have g3 : u2 1 (35 + 7 * x0.toNatClampNeg) = (x1 + v2 1 (75 + 2 * x0.toNatClampNeg)) / 2 := by rw [q2, if_pos (by omega)]
                unfold OR_
                rw [g2, g3, g4, hx]
                refine ⟨fun _ => by omega, fun j hj hr => ?_⟩
                by_cases f : j = (v2 1 (36 + 7 * x0.toNatClampNeg)).toNatClampNeg
                · have g6 : u2 1 (86 + 10 * x0.toNatClampNeg + 2 * j) = x1 := by rw [q2, if_neg (by omega), if_neg (by omega), if_neg (by omega), if_neg (by omega), if_neg (by omega), if_neg (by omega), if_pos (by omega)]
                  have g7 : u2 1 (87 + 10 * x0.toNatClampNeg + 2 * j) = v2 1 (75 + 2 * x0.toNatClampNeg) := by rw [q2, if_neg (by omega), if_neg (by omega), if_neg (by omega), if_neg (by omega), if_neg (by omega), if_pos (by omega)]
                  rw [g6, g7]
                  unfold od
                  rw [hx]
                  exact ⟨by omega, by omega, fun _ => ⟨by omega, rfl⟩, fun w => absurd ⟨k1, by omega⟩ w⟩
                · rw [q2 (86 + 10 * x0.toNatClampNeg + 2 * j), if_neg (by omega), if_neg (by omega), if_neg (by omega), if_neg (by omega), if_neg (by omega), if_neg (by omega), if_neg (by omega), if_neg (by omega), q2 (87 + 10 * x0.toNatClampNeg + 2 * j), if_neg (by omega), if_neg (by omega), if_neg (by omega), if_neg (by omega), if_neg (by omega), if_neg (by omega), if_neg (by omega), if_neg (by omega)]
                  obtain ⟨d1, d2, d3, d4⟩ := a3.2 j hj (by omega)
                  unfold od
                  rw [hx]
                  exact ⟨d1, d2, fun w => absurd w (by omega), fun _ => d4 (fun w => absurd w.1 (by omega))⟩
              · exact a3.cg (fun w f1 f2 => by rw [q2, if_neg (by omega), if_neg (by omega), if_neg (by omega), if_neg (by omega), if_neg (by omega), if_neg (by omega), if_neg (by omega), if_neg (by omega)]) (fun w f1 => by rw [q2, if_neg (by omega), if_neg (by omega), if_neg (by omega), if_neg (by omega), if_neg (by omega), if_neg (by omega), if_neg (by omega), if_neg (by omega)])
    · obtain ⟨-, q2⟩ := q.2.1 ⟨hC, hD⟩
      exact h0.wr hT (by rw [q2]; exact hO) (by rw [q2])
  · obtain ⟨-, q2⟩ := q.1 hC
    exact h0.wr hT (by rw [q2]; exact hO) (by rw [q2])

set_option maxHeartbeats 4000000 in
theorem S_offer_1 {n r r2 x0 x1 : Int32} {v u v2 u2 : Nat → Nat → Int32} (hI : Iv v) (hQ : Ir v2) (h0 : RR3 n v v2) (p : (¬ ((0 ≤ x0.toInt ∧ x0.toInt < (v 13 2).toInt) ∧ 0 ≤ x1.toInt ∧ x1.toInt ≤ 100) → r = -1 ∧ u = v) ∧ (((0 ≤ x0.toInt ∧ x0.toInt < (v 13 2).toInt) ∧ 0 ≤ x1.toInt ∧ x1.toInt ≤ 100) ∧ (v (29 + 15 * x0.toNatClampNeg) 0).toInt ≠ 0 → r = -4 ∧ u = v) ∧ (((0 ≤ x0.toInt ∧ x0.toInt < (v 13 2).toInt) ∧ 0 ≤ x1.toInt ∧ x1.toInt ≤ 100) ∧ (v (29 + 15 * x0.toNatClampNeg) 0).toInt = 0 ∧ (v (31 + 15 * x0.toNatClampNeg) 1).toInt ≠ -1 → r = -3 ∧ u = v) ∧ (((0 ≤ x0.toInt ∧ x0.toInt < (v 13 2).toInt) ∧ 0 ≤ x1.toInt ∧ x1.toInt ≤ 100) ∧ (v (29 + 15 * x0.toNatClampNeg) 0).toInt = 0 ∧ (v (31 + 15 * x0.toNatClampNeg) 1).toInt = -1 ∧ 5 ≤ (v (29 + 15 * x0.toNatClampNeg) 2).toInt → r = -2 ∧ u = v) ∧ (((0 ≤ x0.toInt ∧ x0.toInt < (v 13 2).toInt) ∧ 0 ≤ x1.toInt ∧ x1.toInt ≤ 100) ∧ (v (29 + 15 * x0.toNatClampNeg) 0).toInt = 0 ∧ (v (31 + 15 * x0.toNatClampNeg) 1).toInt = -1 ∧ (v (29 + 15 * x0.toNatClampNeg) 2).toInt < 5 ∧ (v (31 + 15 * x0.toNatClampNeg) 0).toInt = -1 → r = 0 ∧ (∀ k j : Nat, u k j = if k = 31 + 15 * x0.toNatClampNeg ∧ j = 1 then x1 else v k j)) ∧ (((0 ≤ x0.toInt ∧ x0.toInt < (v 13 2).toInt) ∧ 0 ≤ x1.toInt ∧ x1.toInt ≤ 100) ∧ (v (29 + 15 * x0.toNatClampNeg) 0).toInt = 0 ∧ (v (31 + 15 * x0.toNatClampNeg) 1).toInt = -1 ∧ (v (29 + 15 * x0.toNatClampNeg) 2).toInt < 5 ∧ (v (31 + 15 * x0.toNatClampNeg) 0).toInt ≠ -1 ∧ x1.toInt < (v (31 + 15 * x0.toNatClampNeg) 0).toInt → r = 2 ∧ (∀ k j : Nat, u k j = if k = 31 + 15 * x0.toNatClampNeg ∧ j = 1 then -1 else if k = 31 + 15 * x0.toNatClampNeg ∧ j = 0 then -1 else if k = 29 + 15 * x0.toNatClampNeg ∧ j = 2 then v (29 + 15 * x0.toNatClampNeg) 2 + 1 else if k = 33 + 15 * x0.toNatClampNeg + 1 ∧ j = (v (29 + 15 * x0.toNatClampNeg) 2).toNatClampNeg then x1 else if k = 33 + 15 * x0.toNatClampNeg + 0 ∧ j = (v (29 + 15 * x0.toNatClampNeg) 2).toNatClampNeg then v (31 + 15 * x0.toNatClampNeg) 0 else if k = 31 + 15 * x0.toNatClampNeg ∧ j = 1 then x1 else v k j)) ∧ (((0 ≤ x0.toInt ∧ x0.toInt < (v 13 2).toInt) ∧ 0 ≤ x1.toInt ∧ x1.toInt ≤ 100) ∧ (v (29 + 15 * x0.toNatClampNeg) 0).toInt = 0 ∧ (v (31 + 15 * x0.toNatClampNeg) 1).toInt = -1 ∧ (v (29 + 15 * x0.toNatClampNeg) 2).toInt < 5 ∧ (v (31 + 15 * x0.toNatClampNeg) 0).toInt ≠ -1 ∧ (v (31 + 15 * x0.toNatClampNeg) 0).toInt ≤ x1.toInt → r = 1 ∧ (∀ k j : Nat, u k j = if k = 29 + 15 * x0.toNatClampNeg ∧ j = 1 then (v (31 + 15 * x0.toNatClampNeg) 0 + x1) / 2 else if k = 29 + 15 * x0.toNatClampNeg ∧ j = 0 then 1 else if k = 29 + 15 * x0.toNatClampNeg ∧ j = 2 then v (29 + 15 * x0.toNatClampNeg) 2 + 1 else if k = 33 + 15 * x0.toNatClampNeg + 1 ∧ j = (v (29 + 15 * x0.toNatClampNeg) 2).toNatClampNeg then x1 else if k = 33 + 15 * x0.toNatClampNeg + 0 ∧ j = (v (29 + 15 * x0.toNatClampNeg) 2).toNatClampNeg then v (31 + 15 * x0.toNatClampNeg) 0 else if k = 31 + 15 * x0.toNatClampNeg ∧ j = 1 then x1 else v k j))) (q : (¬ ((0 ≤ x0.toInt ∧ x0.toInt < (v2 1 2).toInt) ∧ 0 ≤ x1.toInt ∧ x1.toInt ≤ 100) → r2 = -1 ∧ u2 = v2) ∧ (((0 ≤ x0.toInt ∧ x0.toInt < (v2 1 2).toInt) ∧ 0 ≤ x1.toInt ∧ x1.toInt ≤ 100) ∧ (v2 1 (34 + 7 * x0.toNatClampNeg)).toInt ≠ 0 → r2 = -4 ∧ u2 = v2) ∧ (((0 ≤ x0.toInt ∧ x0.toInt < (v2 1 2).toInt) ∧ 0 ≤ x1.toInt ∧ x1.toInt ≤ 100) ∧ (v2 1 (34 + 7 * x0.toNatClampNeg)).toInt = 0 ∧ 0 ≤ (v2 1 (75 + 2 * x0.toNatClampNeg)).toInt → r2 = -3 ∧ u2 = v2) ∧ (((0 ≤ x0.toInt ∧ x0.toInt < (v2 1 2).toInt) ∧ 0 ≤ x1.toInt ∧ x1.toInt ≤ 100) ∧ (v2 1 (34 + 7 * x0.toNatClampNeg)).toInt = 0 ∧ (v2 1 (75 + 2 * x0.toNatClampNeg)).toInt < 0 ∧ (v2 1 (36 + 7 * x0.toNatClampNeg)).toInt = 5 → r2 = -2 ∧ u2 = v2) ∧ (((0 ≤ x0.toInt ∧ x0.toInt < (v2 1 2).toInt) ∧ 0 ≤ x1.toInt ∧ x1.toInt ≤ 100) ∧ (v2 1 (34 + 7 * x0.toNatClampNeg)).toInt = 0 ∧ (v2 1 (75 + 2 * x0.toNatClampNeg)).toInt < 0 ∧ (v2 1 (36 + 7 * x0.toNatClampNeg)).toInt ≠ 5 ∧ (v2 1 (74 + 2 * x0.toNatClampNeg)).toInt < 0 → r2 = 0 ∧ (∀ n : Nat, u2 1 n = if n = 75 + 2 * x0.toNatClampNeg then x1 else v2 1 n) ∧ (∀ k : Nat, k ≠ 1 → u2 k = v2 k)) ∧ (((0 ≤ x0.toInt ∧ x0.toInt < (v2 1 2).toInt) ∧ 0 ≤ x1.toInt ∧ x1.toInt ≤ 100) ∧ (v2 1 (34 + 7 * x0.toNatClampNeg)).toInt = 0 ∧ (v2 1 (75 + 2 * x0.toNatClampNeg)).toInt < 0 ∧ (v2 1 (36 + 7 * x0.toNatClampNeg)).toInt ≠ 5 ∧ 0 ≤ (v2 1 (74 + 2 * x0.toNatClampNeg)).toInt ∧ x1.toInt < (v2 1 (74 + 2 * x0.toNatClampNeg)).toInt → r2 = 2 ∧ (∀ n : Nat, u2 1 n = if n = 75 + 2 * x0.toNatClampNeg then -5 else if n = 74 + 2 * x0.toNatClampNeg then -5 else if n = 36 + 7 * x0.toNatClampNeg then v2 1 (36 + 7 * x0.toNatClampNeg) + 1 else if n = 87 + 10 * x0.toNatClampNeg + 2 * (v2 1 (36 + 7 * x0.toNatClampNeg)).toNatClampNeg then x1 else if n = 86 + 10 * x0.toNatClampNeg + 2 * (v2 1 (36 + 7 * x0.toNatClampNeg)).toNatClampNeg then v2 1 (74 + 2 * x0.toNatClampNeg) else if n = 75 + 2 * x0.toNatClampNeg then x1 else v2 1 n) ∧ (∀ k : Nat, k ≠ 1 → u2 k = v2 k)) ∧ (((0 ≤ x0.toInt ∧ x0.toInt < (v2 1 2).toInt) ∧ 0 ≤ x1.toInt ∧ x1.toInt ≤ 100) ∧ (v2 1 (34 + 7 * x0.toNatClampNeg)).toInt = 0 ∧ (v2 1 (75 + 2 * x0.toNatClampNeg)).toInt < 0 ∧ (v2 1 (36 + 7 * x0.toNatClampNeg)).toInt ≠ 5 ∧ 0 ≤ (v2 1 (74 + 2 * x0.toNatClampNeg)).toInt ∧ (v2 1 (74 + 2 * x0.toNatClampNeg)).toInt ≤ x1.toInt → r2 = 1 ∧ (∀ n : Nat, u2 1 n = if n = 35 + 7 * x0.toNatClampNeg then (v2 1 (74 + 2 * x0.toNatClampNeg) + x1) / 2 else if n = 34 + 7 * x0.toNatClampNeg then 1 else if n = 75 + 2 * x0.toNatClampNeg then -5 else if n = 74 + 2 * x0.toNatClampNeg then -5 else if n = 36 + 7 * x0.toNatClampNeg then v2 1 (36 + 7 * x0.toNatClampNeg) + 1 else if n = 87 + 10 * x0.toNatClampNeg + 2 * (v2 1 (36 + 7 * x0.toNatClampNeg)).toNatClampNeg then x1 else if n = 86 + 10 * x0.toNatClampNeg + 2 * (v2 1 (36 + 7 * x0.toNatClampNeg)).toNatClampNeg then v2 1 (74 + 2 * x0.toNatClampNeg) else if n = 75 + 2 * x0.toNatClampNeg then x1 else v2 1 n) ∧ (∀ k : Nat, k ≠ 1 → u2 k = v2 k))) : r = r2 ∧ RR3 n u u2 := by
  have h := h0.1
  have hO := h0.2.1
  have hT := T_offer_1 hI hQ h p q
  have hb0 := hQ 1 0 8 (by decide)
  have hb1 := hQ 1 1 4 (by decide)
  have hb2 := hQ 1 2 6 (by decide)
  have hb3 := hQ 1 3 6 (by decide)
  by_cases hC : (0 ≤ x0.toInt ∧ x0.toInt < (v2 1 2).toInt) ∧ 0 ≤ x1.toInt ∧ x1.toInt ≤ 100
  · have zX := t_nn (x := x0) (by omega)
    have hX : x0.toNatClampNeg < 6 := by omega
    have hXa : (x0.toNatClampNeg : Int) < (v2 1 2).toInt := by omega
    have hb := hQ 1 (36 + 7 * x0.toNatClampNeg) 5 (bS_c (by omega) (by omega))
    by_cases hD : (v2 1 (34 + 7 * x0.toNatClampNeg)).toInt = 0
    · obtain ⟨hx0, hx1⟩ := (h.1.2.1 _ hX hXa).2.2.2 hD
      have ho : (v2 1 (74 + 2 * x0.toNatClampNeg)).toInt < 0 ∨ (0 ≤ (v2 1 (74 + 2 * x0.toNatClampNeg)).toInt ∧ (v2 1 (74 + 2 * x0.toNatClampNeg)).toInt ≤ 100) := by rcases hx0 with ⟨t1, t2⟩ | ⟨t1, t2, t3⟩; exact Or.inl t2; exact Or.inr ⟨t1, t2⟩
      clear hx0 hx1
      by_cases hB : 0 ≤ (v2 1 (75 + 2 * x0.toNatClampNeg)).toInt
      · obtain ⟨-, q2⟩ := q.2.2.1 ⟨hC, hD, hB⟩
        exact h0.wr hT (by rw [q2]; exact hO) (by rw [q2])
      · by_cases hE : (v2 1 (36 + 7 * x0.toNatClampNeg)).toInt = 5
        · obtain ⟨-, q2⟩ := q.2.2.2.1 ⟨hC, hD, by omega, hE⟩
          exact h0.wr hT (by rw [q2]; exact hO) (by rw [q2])
        · by_cases hG : (v2 1 (74 + 2 * x0.toNatClampNeg)).toInt < 0
          · obtain ⟨-, q2, q3⟩ := q.2.2.2.2.1 ⟨hC, hD, by omega, hE, hG⟩
            refine h0.wr hT ?_ (q3 2 (by decide))
            intro c hc ha
            have E2 : u2 1 2 = v2 1 2 := by rw [q2, if_neg (by omega)]
            rw [E2] at ha
            obtain ⟨a1, a2, a3, a4⟩ := hO c hc ha
            exact ⟨a1.cg (by rw [q2, if_neg (by omega)]; exact Int.le_refl _) (fun w f1 f2 => by rw [q2, if_neg (by omega)]), a2.cg (by rw [q2, if_neg (by omega)]), a3.cg (fun w f1 f2 => by rw [q2, if_neg (by omega)]) (fun w f1 => by rw [q2, if_neg (by omega)]), a4.cg (by rw [q2, if_neg (by omega)]) (fun t ht hr => ⟨by rw [q2, if_neg (by omega)], by rw [q2, if_neg (by omega)]⟩)⟩
          · have k1 : (1 : Int32).toInt = 1 := by decide
            have zR := t_nn (x := v2 1 (36 + 7 * x0.toNatClampNeg)) (by omega)
            have hx : (v2 1 (36 + 7 * x0.toNatClampNeg) + 1).toInt = (v2 1 (36 + 7 * x0.toNatClampNeg)).toInt + 1 := by rw [t_add (by rw [k1]; omega), k1]
            by_cases hL : (x1).toInt < (v2 1 (74 + 2 * x0.toNatClampNeg)).toInt
            · obtain ⟨-, q2, q3⟩ := q.2.2.2.2.2.1 ⟨hC, hD, by omega, hE, by omega, hL⟩
              refine h0.wr hT ?_ (q3 2 (by decide))
              intro c hc ha
              have E2 : u2 1 2 = v2 1 2 := by rw [q2, if_neg (by omega), if_neg (by omega), if_neg (by omega), if_neg (by omega), if_neg (by omega), if_neg (by omega)]
              rw [E2] at ha
              obtain ⟨a1, a2, a3, a4⟩ := hO c hc ha
              refine ⟨a1.cg (by rw [q2, if_neg (by omega), if_neg (by omega), if_neg (by omega), if_neg (by omega), if_neg (by omega), if_neg (by omega)]; exact Int.le_refl _) (fun w f1 f2 => by rw [q2, if_neg (by omega), if_neg (by omega), if_neg (by omega), if_neg (by omega), if_neg (by omega), if_neg (by omega)]), a2.cg (by rw [q2, if_neg (by omega), if_neg (by omega), if_neg (by omega), if_neg (by omega), if_neg (by omega), if_neg (by omega)]), ?_, a4.cg (by rw [q2, if_neg (by omega), if_neg (by omega), if_neg (by omega), if_neg (by omega), if_neg (by omega), if_neg (by omega)]) (fun t ht hr => ⟨by rw [q2, if_neg (by omega), if_neg (by omega), if_neg (by omega), if_neg (by omega), if_neg (by omega), if_neg (by omega)], by rw [q2, if_neg (by omega), if_neg (by omega), if_neg (by omega), if_neg (by omega), if_neg (by omega), if_neg (by omega)]⟩)⟩
              by_cases e : c = x0.toNatClampNeg
              · subst e
                have g4 : u2 1 (36 + 7 * x0.toNatClampNeg) = v2 1 (36 + 7 * x0.toNatClampNeg) + 1 := by rw [q2, if_neg (by omega), if_neg (by omega), if_pos (by omega)]
                have g2 : u2 1 (34 + 7 * x0.toNatClampNeg) = v2 1 (34 + 7 * x0.toNatClampNeg) := by rw [q2, if_neg (by omega), if_neg (by omega), if_neg (by omega), if_neg (by omega), if_neg (by omega), if_neg (by omega)]
                have g3 : u2 1 (35 + 7 * x0.toNatClampNeg) = v2 1 (35 + 7 * x0.toNatClampNeg) := by rw [q2, if_neg (by omega), if_neg (by omega), if_neg (by omega), if_neg (by omega), if_neg (by omega), if_neg (by omega)]
                unfold OR_
                rw [g2, g3, g4, hx]
                refine ⟨fun _ => by omega, fun j hj hr => ?_⟩
                by_cases f : j = (v2 1 (36 + 7 * x0.toNatClampNeg)).toNatClampNeg
                · have g6 : u2 1 (86 + 10 * x0.toNatClampNeg + 2 * j) = v2 1 (74 + 2 * x0.toNatClampNeg) := by rw [q2, if_neg (by omega), if_neg (by omega), if_neg (by omega), if_neg (by omega), if_pos (by omega)]
                  have g7 : u2 1 (87 + 10 * x0.toNatClampNeg + 2 * j) = x1 := by rw [q2, if_neg (by omega), if_neg (by omega), if_neg (by omega), if_pos (by omega)]
                  rw [g6, g7]
                  unfold od
                  rw [hx]
                  exact ⟨by omega, by omega, fun w => absurd w.1 (by omega), fun _ => by omega⟩
                · rw [q2 (86 + 10 * x0.toNatClampNeg + 2 * j), if_neg (by omega), if_neg (by omega), if_neg (by omega), if_neg (by omega), if_neg (by omega), if_neg (by omega), q2 (87 + 10 * x0.toNatClampNeg + 2 * j), if_neg (by omega), if_neg (by omega), if_neg (by omega), if_neg (by omega), if_neg (by omega), if_neg (by omega)]
                  obtain ⟨d1, d2, d3, d4⟩ := a3.2 j hj (by omega)
                  unfold od
                  rw [hx]
                  exact ⟨d1, d2, fun w => absurd w (by omega), fun _ => d4 (fun w => absurd w.1 (by omega))⟩
              · exact a3.cg (fun w f1 f2 => by rw [q2, if_neg (by omega), if_neg (by omega), if_neg (by omega), if_neg (by omega), if_neg (by omega), if_neg (by omega)]) (fun w f1 => by rw [q2, if_neg (by omega), if_neg (by omega), if_neg (by omega), if_neg (by omega), if_neg (by omega), if_neg (by omega)])
            · obtain ⟨-, q2, q3⟩ := q.2.2.2.2.2.2 ⟨hC, hD, by omega, hE, by omega, by omega⟩
              refine h0.wr hT ?_ (q3 2 (by decide))
              intro c hc ha
              have E2 : u2 1 2 = v2 1 2 := by rw [q2, if_neg (by omega), if_neg (by omega), if_neg (by omega), if_neg (by omega), if_neg (by omega), if_neg (by omega), if_neg (by omega), if_neg (by omega)]
              rw [E2] at ha
              obtain ⟨a1, a2, a3, a4⟩ := hO c hc ha
              refine ⟨a1.cg (by rw [q2, if_neg (by omega), if_neg (by omega), if_neg (by omega), if_neg (by omega), if_neg (by omega), if_neg (by omega), if_neg (by omega), if_neg (by omega)]; exact Int.le_refl _) (fun w f1 f2 => by rw [q2, if_neg (by omega), if_neg (by omega), if_neg (by omega), if_neg (by omega), if_neg (by omega), if_neg (by omega), if_neg (by omega), if_neg (by omega)]), a2.cg (by rw [q2, if_neg (by omega), if_neg (by omega), if_neg (by omega), if_neg (by omega), if_neg (by omega), if_neg (by omega), if_neg (by omega), if_neg (by omega)]), ?_, a4.cg (by rw [q2, if_neg (by omega), if_neg (by omega), if_neg (by omega), if_neg (by omega), if_neg (by omega), if_neg (by omega), if_neg (by omega), if_neg (by omega)]) (fun t ht hr => ⟨by rw [q2, if_neg (by omega), if_neg (by omega), if_neg (by omega), if_neg (by omega), if_neg (by omega), if_neg (by omega), if_neg (by omega), if_neg (by omega)], by rw [q2, if_neg (by omega), if_neg (by omega), if_neg (by omega), if_neg (by omega), if_neg (by omega), if_neg (by omega), if_neg (by omega), if_neg (by omega)]⟩)⟩
              by_cases e : c = x0.toNatClampNeg
              · subst e
                have g4 : u2 1 (36 + 7 * x0.toNatClampNeg) = v2 1 (36 + 7 * x0.toNatClampNeg) + 1 := by rw [q2, if_neg (by omega), if_neg (by omega), if_neg (by omega), if_neg (by omega), if_pos (by omega)]
                have g2 : u2 1 (34 + 7 * x0.toNatClampNeg) = 1 := by rw [q2, if_neg (by omega), if_pos (by omega)]
                have g3 : u2 1 (35 + 7 * x0.toNatClampNeg) = (v2 1 (74 + 2 * x0.toNatClampNeg) + x1) / 2 := by rw [q2, if_pos (by omega)]
                unfold OR_
                rw [g2, g3, g4, hx]
                refine ⟨fun _ => by omega, fun j hj hr => ?_⟩
                by_cases f : j = (v2 1 (36 + 7 * x0.toNatClampNeg)).toNatClampNeg
                · have g6 : u2 1 (86 + 10 * x0.toNatClampNeg + 2 * j) = v2 1 (74 + 2 * x0.toNatClampNeg) := by rw [q2, if_neg (by omega), if_neg (by omega), if_neg (by omega), if_neg (by omega), if_neg (by omega), if_neg (by omega), if_pos (by omega)]
                  have g7 : u2 1 (87 + 10 * x0.toNatClampNeg + 2 * j) = x1 := by rw [q2, if_neg (by omega), if_neg (by omega), if_neg (by omega), if_neg (by omega), if_neg (by omega), if_pos (by omega)]
                  rw [g6, g7]
                  unfold od
                  rw [hx]
                  exact ⟨by omega, by omega, fun _ => ⟨by omega, rfl⟩, fun w => absurd ⟨k1, by omega⟩ w⟩
                · rw [q2 (86 + 10 * x0.toNatClampNeg + 2 * j), if_neg (by omega), if_neg (by omega), if_neg (by omega), if_neg (by omega), if_neg (by omega), if_neg (by omega), if_neg (by omega), if_neg (by omega), q2 (87 + 10 * x0.toNatClampNeg + 2 * j), if_neg (by omega), if_neg (by omega), if_neg (by omega), if_neg (by omega), if_neg (by omega), if_neg (by omega), if_neg (by omega), if_neg (by omega)]
                  obtain ⟨d1, d2, d3, d4⟩ := a3.2 j hj (by omega)
                  unfold od
                  rw [hx]
                  exact ⟨d1, d2, fun w => absurd w (by omega), fun _ => d4 (fun w => absurd w.1 (by omega))⟩
              · exact a3.cg (fun w f1 f2 => by rw [q2, if_neg (by omega), if_neg (by omega), if_neg (by omega), if_neg (by omega), if_neg (by omega), if_neg (by omega), if_neg (by omega), if_neg (by omega)]) (fun w f1 => by rw [q2, if_neg (by omega), if_neg (by omega), if_neg (by omega), if_neg (by omega), if_neg (by omega), if_neg (by omega), if_neg (by omega), if_neg (by omega)])
    · obtain ⟨-, q2⟩ := q.2.1 ⟨hC, hD⟩
      exact h0.wr hT (by rw [q2]; exact hO) (by rw [q2])
  · obtain ⟨-, q2⟩ := q.1 hC
    exact h0.wr hT (by rw [q2]; exact hO) (by rw [q2])

section RKB3
variable {n r r2 x0 : Int32} {v u v2 u2 : Nat → Nat → Int32}
theorem S_rooms (h : RR3 n v v2) (p : (¬ (1 ≤ x0.toInt ∧ x0.toInt ≤ 2) → r = -1 ∧ u = v) ∧ (1 ≤ x0.toInt ∧ x0.toInt ≤ 2 → r = v 0 4 ∧ (∀ k j : Nat, u k j = if k = 0 ∧ j = 4 then x0 else v k j))) (q : ((¬ (1 ≤ x0.toInt ∧ x0.toInt ≤ 2) ∧ r2 = -1 ∧ u2 = v2) ∨ ((1 ≤ x0.toInt ∧ x0.toInt ≤ 2) ∧ r2 = v2 0 3 ∧ u2 0 3 = x0 ∧ u2 1 = v2 1 ∧ u2 2 = v2 2 ∧ u2 0 2 = v2 0 2))) : r = r2 ∧ RR3 n u u2 := by
  have hT := T_rooms h.1 p q
  refine ⟨hT.1, hT.2, ?_, ?_⟩
  · rcases q with ⟨-, q2, q3⟩ | ⟨q1, q2, q3, q4, q5, q6⟩
    · first | (rw [q2]; exact h.2.1) | (rw [q3]; exact h.2.1)
    · rw [q4]
      exact h.2.1
  · intro w
    rcases q with ⟨-, q2, q3⟩ | ⟨q1, q2, q3, q4, q5, q6⟩
    · first | (rw [q2]; exact h.2.2 w) | (rw [q3]; exact h.2.2 w)
    · rw [q5]
      exact h.2.2 w
theorem S_keep (hQ : Ir v2) (h : RR3 n v v2) (p1 : ∀ o j : Nat, lvH v 13 o j → u (119 + o) j = v (13 + o) j) (p2 : ∀ k : Nat, k < 119 → u k = v k) (q2 : ∀ j : Nat, j < 596 → u2 2 j = v2 1 j) (q3 : u2 1 = v2 1) (q4 : u2 0 2 = 1) (q5 : u2 0 3 = v2 0 3) : RR3 1 u u2 :=
  ⟨T_keep hQ h.1 p1 p2 q2 q3 q4 q5, by rw [q3]; exact h.2.1, fun _ => h.2.1.copy q2⟩
theorem S_back0 (h : RR3 0 v v2) (p : u = v ∧ r = -5) (q : (((v2 0 2).toInt = 0 ∧ u2 = v2 ∧ r2 = -5) ∨ ((v2 0 2).toInt = 1 ∧ (∀ j : Nat, j < 596 → u2 1 j = v2 2 j) ∧ u2 2 = v2 2 ∧ u2 0 = v2 0 ∧ r2 = 1))) : r = -5 ∧ r2 = -5 ∧ RR3 0 u u2 := by
  obtain ⟨t1, t2, t3⟩ := T_back0 h.1 p q
  refine ⟨t1, t2, t3, ?_, fun w => absurd w (by decide)⟩
  rcases q with ⟨q1, q2, q3⟩ | ⟨q1, -⟩
  · rw [q2]
    exact h.2.1
  · rw [h.1.2.2.1] at q1
    exact absurd q1 (by decide)
theorem S_back1 (hQ : Ir v2) (h : RR3 1 v v2) (p : ((∀ o j : Nat, lvH v 119 o j → u (13 + o) j = v (119 + o) j) ∧ (∀ k : Nat, (k < 13 ∨ 119 ≤ k) → u k = v k)) ∧ r = 1) (q : (((v2 0 2).toInt = 0 ∧ u2 = v2 ∧ r2 = -5) ∨ ((v2 0 2).toInt = 1 ∧ (∀ j : Nat, j < 596 → u2 1 j = v2 2 j) ∧ u2 2 = v2 2 ∧ u2 0 = v2 0 ∧ r2 = 1))) : r = 1 ∧ r2 = 1 ∧ RR3 1 u u2 := by
  obtain ⟨t1, t2, t3⟩ := T_back1 hQ h.1 p q
  refine ⟨t1, t2, t3, ?_, fun _ => ?_⟩
  · rcases q with ⟨q1, -⟩ | ⟨q1, q2, q3, q4, q5⟩
    · rw [h.1.2.2.1] at q1
      exact absurd q1 (by decide)
    · exact (h.2.2 rfl).copy q2
  · rcases q with ⟨q1, -⟩ | ⟨q1, q2, q3, q4, q5⟩
    · rw [h.1.2.2.1] at q1
      exact absurd q1 (by decide)
    · rw [q3]
      exact h.2.2 rfl
end RKB3
