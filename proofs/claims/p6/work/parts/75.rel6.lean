
set_option maxHeartbeats 4000000 in
/-- what is in use is copied: the relation goes with it -/
theorem RQ.copy {b d : Nat} {v u : Nat → Nat → Int32} {s z : Nat → Int32} (h : RQ b v s) (hc0 : ∀ o j : Nat, lvH v b o j → u (d + o) j = v (b + o) j) (hz : ∀ n : Nat, n < 596 → z n = s n) (h3 : (s 3).toInt ≤ 6) : RQ d u z := by
  have e0 : v b 0 = s 0 := h.1 _ _ _ (lk_a (by decide))
  have e1 : v b 1 = s 1 := h.1 _ _ _ (lk_a (by decide))
  have e2 : v b 2 = s 2 := h.1 _ _ _ (lk_a (by decide))
  have hcc : ∀ o j : Nat, lvH v b o j → ∀ K L : Nat, K = d + o → L = b + o → u K j = v L j := fun o j hl K L hK hL => by
    subst hK
    subst hL
    exact hc0 o j hl
  have hca : ∀ c q j : Nat, c < 6 → (c : Int) < (s 2).toInt → lvC (v (b + 16 + 15 * c)) q j → lvH v b (16 + 15 * c + q) j := fun c q j h1 h2 h3 => Or.inr (Or.inr (Or.inr ⟨c, q, h1, by rw [e2]; exact h2, rfl, h3⟩))
  have z0 := hz 0 (by decide)
  have z1 := hz 1 (by decide)
  have z2 := hz 2 (by decide)
  have z3 := hz 3 (by decide)
  refine ⟨?_, ?_, ?_, ?_⟩
  · intro k j n hl
    rw [hz n (lk_k hl).2]
    unfold lk at hl
    rw [z0, z1, z2] at hl
    rcases hl with ⟨rfl, hj, rfl⟩ | ⟨p, hp, ha, hj, rfl, rfl⟩ | ⟨m, hm, ha, hj, rfl, rfl⟩ | ⟨m, hm, ha, rfl, rfl, rfl⟩ | ⟨c, hc, ha, rfl, rfl, rfl⟩ | ⟨c, hc, ha, rfl, rfl, rfl⟩ | ⟨c, hc, ha, rfl, rfl, rfl⟩ | ⟨c, hc, ha, rfl, rfl, rfl⟩ | ⟨c, hc, ha, hj, rfl, rfl⟩ | ⟨c, i, hc, ha, hi, hj, hr, rfl, rfl⟩ | ⟨c, i, hc, ha, hi, hj, rfl, rfl⟩ | ⟨c, t, hc, ha, ht, hr, hj, rfl, rfl⟩
    · exact (hcc 0 n (Or.inl ⟨rfl, hj⟩) _ b rfl rfl).trans (h.1 _ _ _ (lk_a hj))
    · exact (hcc (4 + p) j (Or.inr (Or.inl ⟨by omega, by omega, by rw [e0]; omega, hj⟩)) _ (b + 4 + p) (by omega) (by omega)).trans (h.1 _ _ _ (lk_p hp ha hj))
    · exact (hcc (12 + m) j (Or.inr (Or.inr (Or.inl ⟨by omega, by omega, by rw [e1]; omega, by omega⟩))) _ (b + 12 + m) (by omega) (by omega)).trans (h.1 _ _ _ (lk_m hm ha hj))
    · exact (hcc (12 + m) 2 (Or.inr (Or.inr (Or.inl ⟨by omega, by omega, by rw [e1]; omega, by omega⟩))) _ (b + 12 + m) (by omega) (by omega)).trans (h.1 _ _ _ (lk_k_ hm ha))
    · exact (hcc (16 + 15 * c + 0) 0 (hca c 0 0 hc ha (Or.inl ⟨rfl, by omega⟩)) _ (b + 16 + 15 * c) (by omega) (by omega)).trans (h.1 _ _ _ (lk_c0 hc ha))
    · exact (hcc (16 + 15 * c + 0) 2 (hca c 0 2 hc ha (Or.inl ⟨rfl, by omega⟩)) _ (b + 16 + 15 * c) (by omega) (by omega)).trans (h.1 _ _ _ (lk_c2 hc ha))
    · exact (hcc (16 + 15 * c + 0) 3 (hca c 0 3 hc ha (Or.inl ⟨rfl, by omega⟩)) _ (b + 16 + 15 * c) (by omega) (by omega)).trans (h.1 _ _ _ (lk_c3 hc ha))
    · exact (hcc (16 + 15 * c + 0) 5 (hca c 0 5 hc ha (Or.inl ⟨rfl, by omega⟩)) _ (b + 16 + 15 * c) (by omega) (by omega)).trans (h.1 _ _ _ (lk_c5 hc ha))
    · exact (hcc (16 + 15 * c + 1) j (hca c 1 j hc ha (Or.inr (Or.inl ⟨rfl, hj⟩))) _ (b + 17 + 15 * c) (by omega) (by omega)).trans (h.1 _ _ _ (lk_q hc ha hj))
    · rw [hz (36 + 7 * c) (by omega)] at hr
      have w := h.1 _ _ _ (lk_c2 hc ha)
      exact (hcc (16 + 15 * c + (4 + i)) j (hca c (4 + i) j hc ha (by unfold lvC; rw [w]; omega)) _ (b + 20 + 15 * c + i) (by omega) (by omega)).trans (h.1 _ _ _ (lk_o hc ha hi hj hr))
    · exact (hcc (16 + 15 * c + (7 + i)) j (hca c (7 + i) j hc ha (by unfold lvC; omega)) _ (b + 23 + 15 * c + i) (by omega) (by omega)).trans (h.1 _ _ _ (lk_l hc ha hi hj))
    · rw [hz (38 + 7 * c) (by omega)] at hr
      have w := h.1 _ _ _ (lk_c5 hc ha)
      exact (hcc (16 + 15 * c + (10 + t)) j (hca c (10 + t) j hc ha (by unfold lvC; rw [w]; omega)) _ (b + 26 + 15 * c + t) (by omega) (by omega)).trans (h.1 _ _ _ (lk_t hc ha ht hr hj))
  · intro c hc ha
    rw [z2] at ha
    have g0 := hcc (16 + 15 * c + 0) 1 (hca c 0 1 hc ha (Or.inl ⟨rfl, by omega⟩)) (d + 16 + 15 * c) (b + 16 + 15 * c) (by omega) (by omega)
    have g1 := hcc (16 + 15 * c + 2) 0 (hca c 2 0 hc ha (Or.inr (Or.inr (Or.inl ⟨rfl, by omega⟩)))) (d + 18 + 15 * c) (b + 18 + 15 * c) (by omega) (by omega)
    have g2 := hcc (16 + 15 * c + 2) 1 (hca c 2 1 hc ha (Or.inr (Or.inr (Or.inl ⟨rfl, by omega⟩)))) (d + 18 + 15 * c) (b + 18 + 15 * c) (by omega) (by omega)
    rw [g0, g1, g2, hz (34 + 7 * c) (by omega), hz (35 + 7 * c) (by omega), hz (74 + 2 * c) (by omega), hz (75 + 2 * c) (by omega)]
    exact h.2.1 c hc ha
  · intro m hm ha
    rw [z1] at ha
    rw [z0, hz (28 + m) (by omega)]
    exact h.2.2.1 m hm ha
  · have key : ∀ k a b : Nat, (k : Int) < (s 3).toInt → (mj z k a b ↔ mj s k a b) := fun k a b hk => by
      unfold mj
      rw [hz (146 + 2 * k) (by omega), hz (147 + 2 * k) (by omega)]
    refine ⟨fun c hc ha => ?_, fun k hk => ?_⟩
    · rw [z2] at ha
      have g0 := hcc (16 + 15 * c + 0) 4 (hca c 0 4 hc ha (Or.inl ⟨rfl, by omega⟩)) (d + 16 + 15 * c) (b + 16 + 15 * c) (by omega) (by omega)
      obtain ⟨g1, g2⟩ := h.2.2.2.1 c hc ha
      unfold GC
      rw [g0, z3]
      exact ⟨g1, fun e he => (g2 e he).trans ⟨fun ⟨k, q1, q2⟩ => ⟨k, q1, (key k c e q1).mpr q2⟩, fun ⟨k, q1, q2⟩ => ⟨k, q1, (key k c e q1).mp q2⟩⟩⟩
    · rw [z3] at hk
      rw [z2, hz (146 + 2 * k) (by omega), hz (147 + 2 * k) (by omega)]
      exact h.2.2.2.2 k hk
section RKB
variable {n r r2 x0 : Int32} {v u v2 u2 : Nat → Nat → Int32}
theorem T_rooms (h : RR n v v2) (p : (¬ (1 ≤ x0.toInt ∧ x0.toInt ≤ 2) → r = -1 ∧ u = v) ∧ (1 ≤ x0.toInt ∧ x0.toInt ≤ 2 → r = v 0 4 ∧ (∀ k j : Nat, u k j = if k = 0 ∧ j = 4 then x0 else v k j))) (q : ((¬ (1 ≤ x0.toInt ∧ x0.toInt ≤ 2) ∧ r2 = -1 ∧ u2 = v2) ∨ ((1 ≤ x0.toInt ∧ x0.toInt ≤ 2) ∧ r2 = v2 0 3 ∧ u2 0 3 = x0 ∧ u2 1 = v2 1 ∧ u2 2 = v2 2 ∧ u2 0 2 = v2 0 2))) : r = r2 ∧ RR n u u2 := by
  by_cases hC : 1 ≤ x0.toInt ∧ x0.toInt ≤ 2
  · obtain ⟨p1, p2⟩ := p.2 hC
    rcases q with ⟨q1, -⟩ | ⟨q1, q2, q3, q4, q5, q6⟩
    · exact absurd hC q1
    · have hk : ∀ k : Nat, 13 ≤ k → u k = v k := fun k hk => funext fun j => by rw [p2, if_neg (by omega)]
      obtain ⟨h1, h2, h3, h4⟩ := h
      refine ⟨by rw [p1, q2, h2], by rw [q4]; exact h1.cgv (fun k a _ => hk k a), by rw [p2, if_pos ⟨rfl, rfl⟩, q3], by rw [q6]; exact h3, fun w => by rw [q5]; exact (h4 w).cgv (fun k a _ => hk k (by omega))⟩
  · obtain ⟨p1, p2⟩ := p.1 hC
    rcases q with ⟨-, q2, q3⟩ | ⟨q1, -⟩
    · rw [p1, p2, q2, q3]
      exact ⟨rfl, h⟩
    · exact absurd q1 hC
theorem T_keep (hQ : Ir v2) (h : RR n v v2) (p1 : ∀ o j : Nat, lvH v 13 o j → u (119 + o) j = v (13 + o) j) (p2 : ∀ k : Nat, k < 119 → u k = v k) (q2 : ∀ j : Nat, j < 596 → u2 2 j = v2 1 j) (q3 : u2 1 = v2 1) (q4 : u2 0 2 = 1) (q5 : u2 0 3 = v2 0 3) : RR 1 u u2 := by
  obtain ⟨h1, h2, h3, h4⟩ := h
  have hb3 := hQ 1 3 6 (by decide)
  exact ⟨by rw [q3]; exact h1.cgv (fun k _ a => p2 k (by omega)), by rw [p2 0 (by decide), q5]; exact h2, q4, fun _ => h1.copy p1 q2 hb3.2⟩
theorem T_back0 (h : RR 0 v v2) (p : u = v ∧ r = -5) (q : (((v2 0 2).toInt = 0 ∧ u2 = v2 ∧ r2 = -5) ∨ ((v2 0 2).toInt = 1 ∧ (∀ j : Nat, j < 596 → u2 1 j = v2 2 j) ∧ u2 2 = v2 2 ∧ u2 0 = v2 0 ∧ r2 = 1))) : r = -5 ∧ r2 = -5 ∧ RR 0 u u2 := by
  rcases q with ⟨q1, q2, q3⟩ | ⟨q1, -⟩
  · refine ⟨p.2, q3, ?_⟩
    rw [p.1, q2]
    exact h
  · rw [h.2.2.1] at q1
    exact absurd q1 (by decide)
theorem T_back1 (hQ : Ir v2) (h : RR 1 v v2) (p : ((∀ o j : Nat, lvH v 119 o j → u (13 + o) j = v (119 + o) j) ∧ (∀ k : Nat, (k < 13 ∨ 119 ≤ k) → u k = v k)) ∧ r = 1) (q : (((v2 0 2).toInt = 0 ∧ u2 = v2 ∧ r2 = -5) ∨ ((v2 0 2).toInt = 1 ∧ (∀ j : Nat, j < 596 → u2 1 j = v2 2 j) ∧ u2 2 = v2 2 ∧ u2 0 = v2 0 ∧ r2 = 1))) : r = 1 ∧ r2 = 1 ∧ RR 1 u u2 := by
  rcases q with ⟨q1, -⟩ | ⟨q1, q2, q3, q4, q5⟩
  · rw [h.2.2.1] at q1
    exact absurd q1 (by decide)
  · obtain ⟨h1, h2, h3, h4⟩ := h
    have hb3 := hQ 2 3 6 (by decide)
    refine ⟨p.2, q5, (h4 rfl).copy p.1.1 q2 hb3.2, by rw [p.1.2 0 (by omega), q4]; exact h2, by rw [q4]; exact h3, fun _ => by rw [q3]; exact (h4 rfl).cgv (fun k a _ => p.1.2 k (Or.inr a))⟩
end RKB
theorem side3 (x : Int32) : x = 0 ∨ x = 1 ∨ ¬ (0 ≤ x.toInt ∧ x.toInt ≤ 1) := by
  by_cases h : 0 ≤ x.toInt ∧ x.toInt ≤ 1
  · rcases t_bool h with q | q
    · exact Or.inl q
    · exact Or.inr (Or.inl q)
  · exact Or.inr (Or.inr h)

theorem RQ_0 : RQ 13 v_0 (m_0 1) := by
  have z : (0 : Int32).toInt = 0 := by decide
  refine ⟨fun k j n h => ?_, fun c hc ha => absurd ha (by show ¬ (c : Int) < (0 : Int32).toInt; omega), fun m hm ha => absurd ha (by show ¬ (m : Int) < (0 : Int32).toInt; omega), fun c hc ha => absurd ha (by show ¬ (c : Int) < (0 : Int32).toInt; omega), fun k hk => absurd hk (by show ¬ (k : Int) < (0 : Int32).toInt; omega)⟩
  have q := lk_k h
  rw [v_0n (by omega)]
  rfl
theorem RR_0 : RR 0 v_0 m_0 := ⟨RQ_0, rfl, rfl, fun q => absurd q (by decide)⟩

set_option maxHeartbeats 4000000 in
set_option maxRecDepth 100000 in
theorem e_X7_offer_o (l : Launch) (dC : Nat → ClassId) (dI : Nat → Nat → Nat) (cy : Nat → ClassId) (sz : Nat) (ad : Nat → Nat) (kv : Value) (N : Nat) (hN : 119 ≤ N) (v : Nat → Nat → Int32) (hv : Iv v) (x0 x1 x2 : Int32) (hs : ¬ (0 ≤ x1.toInt ∧ x1.toInt ≤ 1)) : Met l yX7_offer wsX7_offer ({ frames := 3, cells := 0, slots := 0, locals := 192 }) (va_Pc [.ref (ad 0), .int x0, .int x1, .int x2] (ex_Pre dC dI cy sz (wl ad kv cy N v))) (va_Qi (fun (r : Int32) (u : Nat → Nat → Int32) => Iv u ∧ r = -1 ∧ u = v) (fun u t => ex_Pst dC dI (va_A (wl ad kv cy N v) sz) (wl ad kv cy N u) t) (va_A (wl ad kv cy N v) sz)) 0 0 (va_A (wl ad kv cy N v) sz) := by
  refine Met.ofW (cc := cX7_offer) (maxL := 5) (ret := (some .int)) (by decide) rfl ?_
  intro p e s m args below meth c s₁ B hml hv
  obtain ⟨rfl, hsz, hE, hP, hK, hD0⟩ := hv
  have hx := B.exec
  have hb := B.bytes
  have hr := B.returns
  have hts := atoms_spec (ws := wsX7_offer) B.pre
  have hown : s.vm.findClass RX7 = some m.cls := findClass_of_methodNamed B.named
  have hlocks := B.notSynchronized
  subst hsz
  have hD := hD0.self (sz := s.heap.size)
  generalize hAe : va_A (wl ad kv cy N v) s.heap.size = A at hD ⊢
  have hA : ∀ q : Nat, s.heap.size ≤ q → A q := fun q h => by rw [← hAe]; exact Or.inr h
  have hS : va_S A s.heap s.heap [] := va_S.rf
  have hP : va_P (dC, dI) vwCl (wl ad kv cy N v) s.heap := hP
  have hl := lv_entry ([.ref (ad 0), .int x0, .int x1, .int x2]) (n := 5) (Nat.le_of_ble_eq_true rfl)
  rw [lg_entry_eq]
  generalize (lg_sl ([.ref (ad 0), .int x0, .int x1, .int x2]) ++ List.replicate (5 - (lg_sl ([.ref (ad 0), .int x0, .int x1, .int x2])).length) Slot.unset).toArray = ls at hl ⊢
  have hl : lv_has ls 5 [(0, .ref (ad 0)), (1, .int x0), (2, .int x1), (3, .int x2)] := hl
  refine lv_aload_n hx hb dX7_offer_0 rfl (lv_at hl 0 rfl) ?_
  refine lv_iload_n hx hb dX7_offer_1 rfl (lv_at hl 1 rfl) ?_
  refine yw_i (w1 := fun (u : Nat → Nat → Int32) => wl ad kv cy N u) hD hS hA (va_runV (As := [.int x0]) (rest := []) ⟨hx, hb, hml, hown, hts⟩ (g_X7_isCase l dC dI cy _ ad kv N hN v hv x0) (cwV 1 hts gX7_offer_X7_isCase rfl rfl rfl hd_V_X7_isCase_1 ⟨Nat.le_of_ble_eq_true rfl, Nat.le_of_ble_eq_true rfl⟩) (yw_preV hE hK hP hD (ci := 7) (q0 := 0) rfl (wl_at (by omega) (ce_0 (by decide)))) rfl rfl hl.1 rfl (lv_room (Nat.le_of_ble_eq_true rfl)) dX7_offer_2 ⟨Nat.le_of_ble_eq_true rfl, Nat.le_of_ble_eq_true rfl⟩) (fun r_1 v_1 H locs hw_1 hP hD hS => ?_)
  obtain ⟨-, hu_1, hw_1⟩ := hw_1
  replace hu_1 := hu_1.symm
  subst hu_1
  rcases hw_1 with ⟨rfl, ha_2⟩ | ⟨rfl, ha_2⟩
  · have hb_2 := hv.at (k := 13) (j := 2) (K := 3) (by decide) rfl
    have hj_2 : 0 ≤ x0.toInt ∧ x0.toInt ≤ 5 := ⟨by omega, by omega⟩
    refine lv_if_eq (tgt := 25) hx hb dX7_offer_5 (by decide) (fun c9 => absurd c9 (by decide)) (fun _ => ?_)
    refine lv_iload_n hx hb dX7_offer_8 rfl (lv_at hl 2 rfl) ?_
    refine yc_p hP hS (va_runS (As := [.int x1]) (rest := []) ⟨hx, hb, hml, hown, hts⟩ (c_X7_isSide l x1) (cwS 1 hts gX7_offer_X7_isSide rfl rfl rfl hd_S_X7_isSide_1 ⟨Nat.le_of_ble_eq_true rfl, Nat.le_of_ble_eq_true rfl⟩) ex_preP rfl rfl hl.1 rfl (lv_room (Nat.le_of_ble_eq_true rfl)) dX7_offer_9 ⟨Nat.le_of_ble_eq_true rfl, Nat.le_of_ble_eq_true rfl⟩) (fun r_3 H locs hw_3 hP hS => ?_)
    rcases wi_ca hw_3 with ⟨rfl, hc_4⟩ | ⟨rfl, hc_4⟩
    · have k_0 : (0 : Int32).toInt = 0 := by decide
      have k_1 : (1 : Int32).toInt = 1 := by decide
      have tc_4 := wi_tl hc_4
      exact absurd ⟨by omega, by omega⟩ hs
    · refine lv_if_eq (tgt := 25) hx hb dX7_offer_12 (by decide) (fun _ => ?_) (fun c9 => absurd c9 (by decide))
      refine lv_iconst (v := (-1)) hx hb dX7_offer_25 (by decide) ?_
      exact W.iret (v := (-1)) hx hb hr (fun t ht hW => ⟨⟨(-1), v, rfl, ⟨hv, rfl, rfl⟩, by rw [ht]; exact hP, hD⟩, hS.F ht⟩) hS.2.2 dX7_offer_26
  · refine lv_if_eq (tgt := 25) hx hb dX7_offer_5 (by decide) (fun _ => ?_) (fun c9 => absurd c9 (by decide))
    refine lv_iconst (v := (-1)) hx hb dX7_offer_25 (by decide) ?_
    exact W.iret (v := (-1)) hx hb hr (fun t ht hW => ⟨⟨(-1), v, rfl, ⟨hv, rfl, rfl⟩, by rw [ht]; exact hP, hD⟩, hS.F ht⟩) hS.2.2 dX7_offer_26

set_option maxHeartbeats 4000000 in
set_option maxRecDepth 100000 in
theorem e_X8_offer_o (l : Launch) (dC : Nat → ClassId) (dI : Nat → Nat → Nat) (cy : Nat → ClassId) (sz : Nat) (ad : Nat → Nat) (v : Nat → Nat → Int32) (hv : Ir v) (x0 x1 x2 : Int32) (hs : ¬ (0 ≤ x1.toInt ∧ x1.toInt ≤ 1)) : Met l yX8_offer wsX8_offer ({ frames := 2, cells := 0, slots := 0, locals := 128 }) (va_Pc [.ref (ad 0), .int x0, .int x1, .int x2] (ex_Pre dC dI cy sz (wm ad cy v))) (va_Qi (fun (r : Int32) (u : Nat → Nat → Int32) => Ir u ∧ r = -1 ∧ u = v) (fun u t => ex_Pst dC dI (va_A (wm ad cy v) sz) (wm ad cy u) t) (va_A (wm ad cy v) sz)) 0 0 (va_A (wm ad cy v) sz) := by
  refine Met.ofW (cc := cX8_offer) (maxL := 7) (ret := (some .int)) (by decide) rfl ?_
  intro p e s m args below meth c s₁ B hml hv
  obtain ⟨rfl, hsz, hE, hP, hK, hD0⟩ := hv
  have hx := B.exec
  have hb := B.bytes
  have hr := B.returns
  have hts := atoms_spec (ws := wsX8_offer) B.pre
  have hown : s.vm.findClass RX8 = some m.cls := findClass_of_methodNamed B.named
  have hlocks := B.notSynchronized
  subst hsz
  have hD := hD0.self (sz := s.heap.size)
  generalize hAe : va_A (wm ad cy v) s.heap.size = A at hD ⊢
  have hA : ∀ q : Nat, s.heap.size ≤ q → A q := fun q h => by rw [← hAe]; exact Or.inr h
  have hS : va_S A s.heap s.heap [] := va_S.rf
  have hP : va_P (dC, dI) vwCl (wm ad cy v) s.heap := hP
  have hl := lv_entry ([.ref (ad 0), .int x0, .int x1, .int x2]) (n := 7) (Nat.le_of_ble_eq_true rfl)
  rw [lg_entry_eq]
  generalize (lg_sl ([.ref (ad 0), .int x0, .int x1, .int x2]) ++ List.replicate (7 - (lg_sl ([.ref (ad 0), .int x0, .int x1, .int x2])).length) Slot.unset).toArray = ls at hl ⊢
  have hl : lv_has ls 7 [(0, .ref (ad 0)), (1, .int x0), (2, .int x1), (3, .int x2)] := hl
  refine lv_aload_n hx hb dX8_offer_0 rfl (lv_at hl 0 rfl) ?_
  refine lv_iload_n hx hb dX8_offer_1 rfl (lv_at hl 1 rfl) ?_
  refine yw_i (w1 := fun (u : Nat → Nat → Int32) => wm ad cy u) hD hS hA (va_runV (As := [.int x0]) (rest := []) ⟨hx, hb, hml, hown, hts⟩ (q_X8_isCase l dC dI cy _ ad v hv x0) (cwV 1 hts gX8_offer_X8_isCase rfl rfl rfl hd_V_X8_isCase_1 ⟨Nat.le_of_ble_eq_true rfl, Nat.le_of_ble_eq_true rfl⟩) (yw_preV hE hK hP hD (ci := 8) (q0 := 0) rfl (wm_at (by decide) rc_0)) rfl rfl hl.1 rfl (lv_room (Nat.le_of_ble_eq_true rfl)) dX8_offer_2 ⟨Nat.le_of_ble_eq_true rfl, Nat.le_of_ble_eq_true rfl⟩) (fun r_1 v_1 H locs hw_1 hP hD hS => ?_)
  obtain ⟨-, hu_1, hw_1⟩ := hw_1
  replace hu_1 := hu_1.symm
  subst hu_1
  rcases hw_1 with ⟨rfl, ha_2⟩ | ⟨rfl, ha_2⟩
  · have hb_2 := hv 1 2 6 (by decide)
    have hj_2 : 0 ≤ x0.toInt ∧ x0.toInt ≤ 5 := ⟨by omega, by omega⟩
    refine lv_if_eq (tgt := 25) hx hb dX8_offer_5 (by decide) (fun c9 => absurd c9 (by decide)) (fun _ => ?_)
    refine lv_iload_n hx hb dX8_offer_8 rfl (lv_at hl 2 rfl) ?_
    refine yc_p hP hS (va_runS (As := [.int x1]) (rest := []) ⟨hx, hb, hml, hown, hts⟩ (c_X8_isSide l x1) (cwS 1 hts gX8_offer_X8_isSide rfl rfl rfl hd_S_X8_isSide_1 ⟨Nat.le_of_ble_eq_true rfl, Nat.le_of_ble_eq_true rfl⟩) ex_preP rfl rfl hl.1 rfl (lv_room (Nat.le_of_ble_eq_true rfl)) dX8_offer_9 ⟨Nat.le_of_ble_eq_true rfl, Nat.le_of_ble_eq_true rfl⟩) (fun r_3 H locs hw_3 hP hS => ?_)
    rcases wi_ca hw_3 with ⟨rfl, hc_4⟩ | ⟨rfl, hc_4⟩
    · have k_0 : (0 : Int32).toInt = 0 := by decide
      have k_1 : (1 : Int32).toInt = 1 := by decide
      have tc_4 := wi_tl hc_4
      exact absurd ⟨by omega, by omega⟩ hs
    · refine lv_if_eq (tgt := 25) hx hb dX8_offer_12 (by decide) (fun _ => ?_) (fun c9 => absurd c9 (by decide))
      refine lv_iconst (v := (-1)) hx hb dX8_offer_25 (by decide) ?_
      exact W.iret (v := (-1)) hx hb hr (fun t ht hW => ⟨⟨(-1), v, rfl, ⟨hv, rfl, rfl⟩, by rw [ht]; exact hP, hD⟩, hS.F ht⟩) hS.2.2 dX8_offer_26
  · refine lv_if_eq (tgt := 25) hx hb dX8_offer_5 (by decide) (fun _ => ?_) (fun c9 => absurd c9 (by decide))
    refine lv_iconst (v := (-1)) hx hb dX8_offer_25 (by decide) ?_
    exact W.iret (v := (-1)) hx hb hr (fun t ht hW => ⟨⟨(-1), v, rfl, ⟨hv, rfl, rfl⟩, by rw [ht]; exact hP, hD⟩, hS.F ht⟩) hS.2.2 dX8_offer_26
