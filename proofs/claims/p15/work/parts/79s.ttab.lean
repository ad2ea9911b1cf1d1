
section TBR
variable {n : Int32} {v v2 u u2 : Nat → Nat → Int32}
theorem RR3_T (h : RR3 n v v2) : ∀ c t : Nat, c < 6 → (c : Int) < (v 13 2).toInt → t < 5 → (t : Int) < (v (29 + 15 * c) 5).toInt → (v (39 + 15 * c + t) 3).toInt ≤ (v (39 + 15 * c + t) 4).toInt := fun c t hc ha ht hr => by
  have e2 : v 13 2 = v2 1 2 := h.1.1.1 _ _ _ (lk_a (by decide))
  rw [e2] at ha
  have e5 : v (29 + 15 * c) 5 = v2 1 (38 + 7 * c) := h.1.1.1 _ _ _ (lk_c5 hc ha)
  rw [e5] at hr
  have e3 : v (39 + 15 * c + t) 3 = v2 1 (161 + 25 * c + 5 * t) := (h.1.1.1 _ _ _ (lk_t (j := 3) hc ha ht hr (by decide))).trans (congrArg (v2 1) (by omega))
  have e4 : v (39 + 15 * c + t) 4 = v2 1 (162 + 25 * c + 5 * t) := (h.1.1.1 _ _ _ (lk_t (j := 4) hc ha ht hr (by decide))).trans (congrArg (v2 1) (by omega))
  rw [e3, e4]
  exact (h.2.1 c hc ha).2.2.2 t ht hr
theorem RR3_D (h : RR3 n v v2) {c m : Nat} (hc : c < 6) (ha : (c : Int) < (v2 1 2).toInt) (hm5 : m ≤ 5) (hm : (m : Int) ≤ (v2 1 (38 + 7 * c)).toInt) : ∀ t k : Nat, t < m → k < 5 → (fun t k => (v (39 + 15 * c + t) k).toInt) t k = (fun t k => (v2 1 (158 + k + 25 * c + 5 * t)).toInt) t k := fun t k ht hk => congrArg Int32.toInt ((h.1.1.1 _ _ _ (lk_t (j := k) hc ha (by omega) (by omega) hk)).trans (congrArg (v2 1) (by omega)))
end TBR

set_option maxHeartbeats 4000000 in
theorem S_canHold {n r r2 x0 x1 : Int32} {v u v2 u2 : Nat → Nat → Int32} (hI : Iv v) (hQ : Ir v2) (h3 : RR3 n v v2) (p : (¬ ((0 ≤ x0.toInt ∧ x0.toInt < (v 13 2).toInt) ∧ 0 ≤ x1.toInt ∧ x1.toInt ≤ 1) → (r = -1) ∧ Fz v u) ∧ (((0 ≤ x0.toInt ∧ x0.toInt < (v 13 2).toInt) ∧ 0 ≤ x1.toInt ∧ x1.toInt ≤ 1) ∧ TB (fun t k => (v (39 + 15 * x0.toNatClampNeg + t) k).toInt) x1.toInt (v (29 + 15 * x0.toNatClampNeg) 5).toNatClampNeg → (r = 1) ∧ Fz v u) ∧ (((0 ≤ x0.toInt ∧ x0.toInt < (v 13 2).toInt) ∧ 0 ≤ x1.toInt ∧ x1.toInt ≤ 1) ∧ ¬ TB (fun t k => (v (39 + 15 * x0.toNatClampNeg + t) k).toInt) x1.toInt (v (29 + 15 * x0.toNatClampNeg) 5).toNatClampNeg → (r = 0) ∧ Fz v u)) (q : (¬ ((0 ≤ x0.toInt ∧ x0.toInt < (v2 1 2).toInt) ∧ 0 ≤ x1.toInt ∧ x1.toInt ≤ 1) → (r2 = -1) ∧ Fq v2 u2) ∧ (((0 ≤ x0.toInt ∧ x0.toInt < (v2 1 2).toInt) ∧ 0 ≤ x1.toInt ∧ x1.toInt ≤ 1) ∧ TB (fun t k => (v2 1 (158 + k + 25 * x0.toNatClampNeg + 5 * t)).toInt) x1.toInt (v2 1 (38 + 7 * x0.toNatClampNeg)).toNatClampNeg → (r2 = 1) ∧ Fq v2 u2) ∧ (((0 ≤ x0.toInt ∧ x0.toInt < (v2 1 2).toInt) ∧ 0 ≤ x1.toInt ∧ x1.toInt ≤ 1) ∧ ¬ TB (fun t k => (v2 1 (158 + k + 25 * x0.toNatClampNeg + 5 * t)).toInt) x1.toInt (v2 1 (38 + 7 * x0.toNatClampNeg)).toNatClampNeg → (r2 = 0) ∧ Fq v2 u2)) : r = r2 ∧ RR3 n u u2 := by
  have h := h3.1
  have e0 : v 13 0 = v2 1 0 := h.1.1 _ _ _ (lk_a (by decide))
  have e1 : v 13 1 = v2 1 1 := h.1.1 _ _ _ (lk_a (by decide))
  have e2 : v 13 2 = v2 1 2 := h.1.1 _ _ _ (lk_a (by decide))
  have e3 : v 13 3 = v2 1 3 := h.1.1 _ _ _ (lk_a (by decide))
  have hb0 := hQ 1 0 8 (by decide)
  have hb1 := hQ 1 1 4 (by decide)
  have hb2 := hQ 1 2 6 (by decide)
  have hb3 := hQ 1 3 6 (by decide)
  rw [e2] at p
  by_cases hC : (0 ≤ x0.toInt ∧ x0.toInt < (v2 1 2).toInt) ∧ 0 ≤ x1.toInt ∧ x1.toInt ≤ 1
  · have zX := t_nn (x := x0) (by omega)
    have hX : x0.toNatClampNeg < 6 := by omega
    have ha : (x0.toNatClampNeg : Int) < (v2 1 2).toInt := by omega
    have ev : v (29 + 15 * x0.toNatClampNeg) 5 = v2 1 (38 + 7 * x0.toNatClampNeg) := h.1.1 _ _ _ (lk_c5 hX ha)
    rw [ev] at p
    have hb := hQ 1 (38 + 7 * x0.toNatClampNeg) 5 (bS_c (by omega) (by omega))
    have zn := t_nn hb.1
    have key := TB_cg (sd := x1.toInt) (RR3_D h3 hX ha (m := (v2 1 (38 + 7 * x0.toNatClampNeg)).toNatClampNeg) (by omega) (by omega))
    by_cases hF : TB (fun t k => (v2 1 (158 + k + 25 * x0.toNatClampNeg + 5 * t)).toInt) x1.toInt (v2 1 (38 + 7 * x0.toNatClampNeg)).toNatClampNeg
    · obtain ⟨p1, p2⟩ := p.2.1 ⟨hC, key.mpr hF⟩
      obtain ⟨q1, q2⟩ := q.2.1 ⟨hC, hF⟩
      exact ⟨by rw [p1, q1], h3.mv p2 q2⟩
    · obtain ⟨p1, p2⟩ := p.2.2 ⟨hC, fun w => hF (key.mp w)⟩
      obtain ⟨q1, q2⟩ := q.2.2 ⟨hC, hF⟩
      exact ⟨by rw [p1, q1], h3.mv p2 q2⟩
  · obtain ⟨p1, p2⟩ := p.1 hC
    obtain ⟨q1, q2⟩ := q.1 hC
    exact ⟨by rw [p1, q1], h3.mv p2 q2⟩

set_option maxHeartbeats 4000000 in
theorem S_breaks {n r r2 x0 x1 : Int32} {v u v2 u2 : Nat → Nat → Int32} (hI : Iv v) (hQ : Ir v2) (h3 : RR3 n v v2) (p : (¬ ((0 ≤ x0.toInt ∧ x0.toInt < (v 13 2).toInt) ∧ 0 ≤ x1.toInt ∧ x1.toInt ≤ 1) → (r = -1) ∧ Fz v u) ∧ ((0 ≤ x0.toInt ∧ x0.toInt < (v 13 2).toInt) ∧ 0 ≤ x1.toInt ∧ x1.toInt ≤ 1 → (((r.toInt = -5 ∧ ∀ t : Nat, t < (v (29 + 15 * x0.toNatClampNeg) 5).toNatClampNeg → (fun t k => (v (39 + 15 * x0.toNatClampNeg + t) k).toInt) t 0 = x1.toInt → TB (fun t k => (v (39 + 15 * x0.toNatClampNeg + t) k).toInt) x1.toInt (t + 1)) ∨ ((0 ≤ r.toInt ∧ r.toNatClampNeg < (v (29 + 15 * x0.toNatClampNeg) 5).toNatClampNeg) ∧ ((fun t k => (v (39 + 15 * x0.toNatClampNeg + t) k).toInt) r.toNatClampNeg 0 = x1.toInt ∧ ¬ TB (fun t k => (v (39 + 15 * x0.toNatClampNeg + t) k).toInt) x1.toInt (r.toNatClampNeg + 1)) ∧ ∀ t : Nat, t < r.toNatClampNeg → (fun t k => (v (39 + 15 * x0.toNatClampNeg + t) k).toInt) t 0 = x1.toInt → TB (fun t k => (v (39 + 15 * x0.toNatClampNeg + t) k).toInt) x1.toInt (t + 1)))) ∧ Fz v u)) (q : (¬ ((0 ≤ x0.toInt ∧ x0.toInt < (v2 1 2).toInt) ∧ 0 ≤ x1.toInt ∧ x1.toInt ≤ 1) → (r2 = -1) ∧ Fq v2 u2) ∧ ((0 ≤ x0.toInt ∧ x0.toInt < (v2 1 2).toInt) ∧ 0 ≤ x1.toInt ∧ x1.toInt ≤ 1 → (((r2.toInt = -5 ∧ ∀ t : Nat, t < (v2 1 (38 + 7 * x0.toNatClampNeg)).toNatClampNeg → (fun t k => (v2 1 (158 + k + 25 * x0.toNatClampNeg + 5 * t)).toInt) t 0 = x1.toInt → TB (fun t k => (v2 1 (158 + k + 25 * x0.toNatClampNeg + 5 * t)).toInt) x1.toInt (t + 1)) ∨ ((0 ≤ r2.toInt ∧ r2.toNatClampNeg < (v2 1 (38 + 7 * x0.toNatClampNeg)).toNatClampNeg) ∧ ((fun t k => (v2 1 (158 + k + 25 * x0.toNatClampNeg + 5 * t)).toInt) r2.toNatClampNeg 0 = x1.toInt ∧ ¬ TB (fun t k => (v2 1 (158 + k + 25 * x0.toNatClampNeg + 5 * t)).toInt) x1.toInt (r2.toNatClampNeg + 1)) ∧ ∀ t : Nat, t < r2.toNatClampNeg → (fun t k => (v2 1 (158 + k + 25 * x0.toNatClampNeg + 5 * t)).toInt) t 0 = x1.toInt → TB (fun t k => (v2 1 (158 + k + 25 * x0.toNatClampNeg + 5 * t)).toInt) x1.toInt (t + 1)))) ∧ Fq v2 u2)) : r = r2 ∧ RR3 n u u2 := by
  have h := h3.1
  have e0 : v 13 0 = v2 1 0 := h.1.1 _ _ _ (lk_a (by decide))
  have e1 : v 13 1 = v2 1 1 := h.1.1 _ _ _ (lk_a (by decide))
  have e2 : v 13 2 = v2 1 2 := h.1.1 _ _ _ (lk_a (by decide))
  have e3 : v 13 3 = v2 1 3 := h.1.1 _ _ _ (lk_a (by decide))
  have hb0 := hQ 1 0 8 (by decide)
  have hb1 := hQ 1 1 4 (by decide)
  have hb2 := hQ 1 2 6 (by decide)
  have hb3 := hQ 1 3 6 (by decide)
  rw [e2] at p
  by_cases hC : (0 ≤ x0.toInt ∧ x0.toInt < (v2 1 2).toInt) ∧ 0 ≤ x1.toInt ∧ x1.toInt ≤ 1
  · have zX := t_nn (x := x0) (by omega)
    have hX : x0.toNatClampNeg < 6 := by omega
    have ha : (x0.toNatClampNeg : Int) < (v2 1 2).toInt := by omega
    have ev : v (29 + 15 * x0.toNatClampNeg) 5 = v2 1 (38 + 7 * x0.toNatClampNeg) := h.1.1 _ _ _ (lk_c5 hX ha)
    rw [ev] at p
    have hb := hQ 1 (38 + 7 * x0.toNatClampNeg) 5 (bS_c (by omega) (by omega))
    have zn := t_nn hb.1
    have key : ∀ t : Nat, t < (v2 1 (38 + 7 * x0.toNatClampNeg)).toNatClampNeg → ((fun t k => (v (39 + 15 * x0.toNatClampNeg + t) k).toInt) t 0 = x1.toInt ↔ (fun t k => (v2 1 (158 + k + 25 * x0.toNatClampNeg + 5 * t)).toInt) t 0 = x1.toInt) ∧ (TB (fun t k => (v (39 + 15 * x0.toNatClampNeg + t) k).toInt) x1.toInt (t + 1) ↔ TB (fun t k => (v2 1 (158 + k + 25 * x0.toNatClampNeg + 5 * t)).toInt) x1.toInt (t + 1)) := fun t ht => ⟨by rw [RR3_D h3 hX ha (m := (v2 1 (38 + 7 * x0.toNatClampNeg)).toNatClampNeg) (by omega) (by omega) t 0 ht (by decide)], TB_cg (RR3_D h3 hX ha (m := t + 1) (by omega) (by omega))⟩
    obtain ⟨p1, p2⟩ := p.2 hC
    obtain ⟨q1, q2⟩ := q.2 hC
    refine ⟨Int32.toInt_inj.mp ?_, h3.mv p2 q2⟩
    rcases p1 with ⟨a1, a2⟩ | ⟨⟨a1, a2⟩, ⟨a3, a4⟩, a5⟩
    · rcases q1 with ⟨b1, b2⟩ | ⟨⟨b1, b2⟩, ⟨b3, b4⟩, b5⟩
      · omega
      · exact absurd ((key _ b2).2.mp (a2 _ b2 ((key _ b2).1.mpr b3))) b4
    · have z1 := t_nn a1
      rcases q1 with ⟨b1, b2⟩ | ⟨⟨b1, b2⟩, ⟨b3, b4⟩, b5⟩
      · exact absurd ((key _ a2).2.mpr (b2 _ a2 ((key _ a2).1.mp a3))) a4
      · have z2 := t_nn b1
        rcases Nat.lt_trichotomy r.toNatClampNeg r2.toNatClampNeg with w | w | w
        · exact absurd ((key _ a2).2.mpr (b5 _ w ((key _ a2).1.mp a3))) a4
        · omega
        · exact absurd ((key _ b2).2.mp (a5 _ w ((key _ b2).1.mpr b3))) b4
  · obtain ⟨p1, p2⟩ := p.1 hC
    obtain ⟨q1, q2⟩ := q.1 hC
    exact ⟨by rw [p1, q1], h3.mv p2 q2⟩

set_option maxHeartbeats 4000000 in
theorem S_hour {n r r2 x0 x1 : Int32} {v u v2 u2 : Nat → Nat → Int32} (hI : Iv v) (hQ : Ir v2) (h3 : RR3 n v v2) (p : (¬ ((0 ≤ x0.toInt ∧ x0.toInt < (v 13 2).toInt) ∧ 0 ≤ x1.toInt ∧ x1.toInt < (v (29 + 15 * x0.toNatClampNeg) 5).toInt) → (r = -1) ∧ Fz v u) ∧ (((0 ≤ x0.toInt ∧ x0.toInt < (v 13 2).toInt) ∧ 0 ≤ x1.toInt ∧ x1.toInt < (v (29 + 15 * x0.toNatClampNeg) 5).toInt) ∧ (v (39 + 15 * x0.toNatClampNeg + x1.toNatClampNeg) 1).toInt = 0 → (r = -4) ∧ Fz v u) ∧ ((((0 ≤ x0.toInt ∧ x0.toInt < (v 13 2).toInt) ∧ 0 ≤ x1.toInt ∧ x1.toInt < (v (29 + 15 * x0.toNatClampNeg) 5).toInt) ∧ (v (39 + 15 * x0.toNatClampNeg + x1.toNatClampNeg) 1).toInt ≠ 0) ∧ ¬ TB (fun t k => (v (39 + 15 * x0.toNatClampNeg + t) k).toInt) (v (39 + 15 * x0.toNatClampNeg + x1.toNatClampNeg) 0).toInt (v (29 + 15 * x0.toNatClampNeg) 5).toNatClampNeg → (r = -5) ∧ Fz v u) ∧ ((((0 ≤ x0.toInt ∧ x0.toInt < (v 13 2).toInt) ∧ 0 ≤ x1.toInt ∧ x1.toInt < (v (29 + 15 * x0.toNatClampNeg) 5).toInt) ∧ (v (39 + 15 * x0.toNatClampNeg + x1.toNatClampNeg) 1).toInt ≠ 0) ∧ TB (fun t k => (v (39 + 15 * x0.toNatClampNeg + t) k).toInt) (v (39 + 15 * x0.toNatClampNeg + x1.toNatClampNeg) 0).toInt (v (29 + 15 * x0.toNatClampNeg) 5).toNatClampNeg → (∀ M : Nat → Nat, lmin (v (29 + 15 * x0.toNatClampNeg) 5).toNatClampNeg (alw (fun t k => (v (39 + 15 * x0.toNatClampNeg + t) k).toInt) (v (39 + 15 * x0.toNatClampNeg + x1.toNatClampNeg) 0).toInt (v (29 + 15 * x0.toNatClampNeg) 5).toNatClampNeg) (own (fun t k => (v (39 + 15 * x0.toNatClampNeg + t) k).toInt) (v (39 + 15 * x0.toNatClampNeg + x1.toNatClampNeg) 0).toInt) M → r.toInt = ((M x1.toNatClampNeg : Nat) : Int)) ∧ Fz v u)) (q : (¬ ((0 ≤ x0.toInt ∧ x0.toInt < (v2 1 2).toInt) ∧ 0 ≤ x1.toInt ∧ x1.toInt < (v2 1 (38 + 7 * x0.toNatClampNeg)).toInt) → (r2 = -1) ∧ Fq v2 u2) ∧ (((0 ≤ x0.toInt ∧ x0.toInt < (v2 1 2).toInt) ∧ 0 ≤ x1.toInt ∧ x1.toInt < (v2 1 (38 + 7 * x0.toNatClampNeg)).toInt) ∧ (v2 1 (159 + 25 * x0.toNatClampNeg + 5 * x1.toNatClampNeg)).toInt = 0 → (r2 = -4) ∧ Fq v2 u2) ∧ ((((0 ≤ x0.toInt ∧ x0.toInt < (v2 1 2).toInt) ∧ 0 ≤ x1.toInt ∧ x1.toInt < (v2 1 (38 + 7 * x0.toNatClampNeg)).toInt) ∧ (v2 1 (159 + 25 * x0.toNatClampNeg + 5 * x1.toNatClampNeg)).toInt ≠ 0) ∧ ¬ TB (fun t k => (v2 1 (158 + k + 25 * x0.toNatClampNeg + 5 * t)).toInt) (v2 1 (158 + 25 * x0.toNatClampNeg + 5 * x1.toNatClampNeg)).toInt (v2 1 (38 + 7 * x0.toNatClampNeg)).toNatClampNeg → (r2 = -5) ∧ Fq v2 u2) ∧ ((((0 ≤ x0.toInt ∧ x0.toInt < (v2 1 2).toInt) ∧ 0 ≤ x1.toInt ∧ x1.toInt < (v2 1 (38 + 7 * x0.toNatClampNeg)).toInt) ∧ (v2 1 (159 + 25 * x0.toNatClampNeg + 5 * x1.toNatClampNeg)).toInt ≠ 0) ∧ TB (fun t k => (v2 1 (158 + k + 25 * x0.toNatClampNeg + 5 * t)).toInt) (v2 1 (158 + 25 * x0.toNatClampNeg + 5 * x1.toNatClampNeg)).toInt (v2 1 (38 + 7 * x0.toNatClampNeg)).toNatClampNeg → (r2 = u2 7 x1.toNatClampNeg ∧ 0 ≤ r2.toInt ∧ lmin (v2 1 (38 + 7 * x0.toNatClampNeg)).toNatClampNeg (alw (fun t k => (v2 1 (158 + k + 25 * x0.toNatClampNeg + 5 * t)).toInt) (v2 1 (158 + 25 * x0.toNatClampNeg + 5 * x1.toNatClampNeg)).toInt (v2 1 (38 + 7 * x0.toNatClampNeg)).toNatClampNeg) (own (fun t k => (v2 1 (158 + k + 25 * x0.toNatClampNeg + 5 * t)).toInt) (v2 1 (158 + 25 * x0.toNatClampNeg + 5 * x1.toNatClampNeg)).toInt) (fun q => (u2 7 q).toNatClampNeg)) ∧ Fq v2 u2)) : r = r2 ∧ RR3 n u u2 := by
  have h := h3.1
  have e0 : v 13 0 = v2 1 0 := h.1.1 _ _ _ (lk_a (by decide))
  have e1 : v 13 1 = v2 1 1 := h.1.1 _ _ _ (lk_a (by decide))
  have e2 : v 13 2 = v2 1 2 := h.1.1 _ _ _ (lk_a (by decide))
  have e3 : v 13 3 = v2 1 3 := h.1.1 _ _ _ (lk_a (by decide))
  have hb0 := hQ 1 0 8 (by decide)
  have hb1 := hQ 1 1 4 (by decide)
  have hb2 := hQ 1 2 6 (by decide)
  have hb3 := hQ 1 3 6 (by decide)
  rw [e2] at p
  by_cases hC : (0 ≤ x0.toInt ∧ x0.toInt < (v2 1 2).toInt)
  · have zX := t_nn (x := x0) (by omega)
    have hX : x0.toNatClampNeg < 6 := by omega
    have ha : (x0.toNatClampNeg : Int) < (v2 1 2).toInt := by omega
    have ev : v (29 + 15 * x0.toNatClampNeg) 5 = v2 1 (38 + 7 * x0.toNatClampNeg) := h.1.1 _ _ _ (lk_c5 hX ha)
    rw [ev] at p
    have hb := hQ 1 (38 + 7 * x0.toNatClampNeg) 5 (bS_c (by omega) (by omega))
    have zn := t_nn hb.1
    by_cases hT : 0 ≤ x1.toInt ∧ x1.toInt < (v2 1 (38 + 7 * x0.toNatClampNeg)).toInt
    · have zT := t_nn (x := x1) (by omega)
      have hD := RR3_D h3 hX ha (m := (v2 1 (38 + 7 * x0.toNatClampNeg)).toNatClampNeg) (by omega) (by omega)
      have s0 : v (39 + 15 * x0.toNatClampNeg + x1.toNatClampNeg) 0 = v2 1 (158 + 25 * x0.toNatClampNeg + 5 * x1.toNatClampNeg) := h.1.1 _ _ _ (lk_t (j := 0) hX ha (by omega) (by omega) (by decide))
      have s1 : v (39 + 15 * x0.toNatClampNeg + x1.toNatClampNeg) 1 = v2 1 (159 + 25 * x0.toNatClampNeg + 5 * x1.toNatClampNeg) := (h.1.1 _ _ _ (lk_t (j := 1) hX ha (by omega) (by omega) (by decide))).trans (congrArg (v2 1) (by omega))
      rw [s0, s1] at p
      by_cases hM : (v2 1 (159 + 25 * x0.toNatClampNeg + 5 * x1.toNatClampNeg)).toInt = 0
      · obtain ⟨p1, p2⟩ := p.2.1 ⟨⟨hC, hT⟩, hM⟩
        obtain ⟨q1, q2⟩ := q.2.1 ⟨⟨hC, hT⟩, hM⟩
        exact ⟨by rw [p1, q1], h3.mv p2 q2⟩
      · have key := TB_cg (sd := (v2 1 (158 + 25 * x0.toNatClampNeg + 5 * x1.toNatClampNeg)).toInt) hD
        by_cases hF : TB (fun t k => (v2 1 (158 + k + 25 * x0.toNatClampNeg + 5 * t)).toInt) (v2 1 (158 + 25 * x0.toNatClampNeg + 5 * x1.toNatClampNeg)).toInt (v2 1 (38 + 7 * x0.toNatClampNeg)).toNatClampNeg
        · obtain ⟨p1, p2⟩ := p.2.2.2 ⟨⟨⟨hC, hT⟩, hM⟩, key.mpr hF⟩
          obtain ⟨⟨q1, q3, q4⟩, q2⟩ := q.2.2.2 ⟨⟨⟨hC, hT⟩, hM⟩, hF⟩
          have w := p1 _ (lmin_cg hD q4)
          refine ⟨Int32.toInt_inj.mp ?_, h3.mv p2 q2⟩
          have w : r.toInt = (((u2 7 x1.toNatClampNeg).toNatClampNeg : Nat) : Int) := w
          rw [← q1] at w
          have zr := t_nn q3
          omega
        · obtain ⟨p1, p2⟩ := p.2.2.1 ⟨⟨⟨hC, hT⟩, hM⟩, fun w => hF (key.mp w)⟩
          obtain ⟨q1, q2⟩ := q.2.2.1 ⟨⟨⟨hC, hT⟩, hM⟩, hF⟩
          exact ⟨by rw [p1, q1], h3.mv p2 q2⟩
    · obtain ⟨p1, p2⟩ := p.1 (fun w => hT w.2)
      obtain ⟨q1, q2⟩ := q.1 (fun w => hT w.2)
      exact ⟨by rw [p1, q1], h3.mv p2 q2⟩
  · obtain ⟨p1, p2⟩ := p.1 (fun w => hC w.1)
    obtain ⟨q1, q2⟩ := q.1 (fun w => hC w.1)
    exact ⟨by rw [p1, q1], h3.mv p2 q2⟩
