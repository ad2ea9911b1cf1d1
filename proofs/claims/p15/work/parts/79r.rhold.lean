
set_option maxHeartbeats 4000000 in
set_option maxRecDepth 100000 in
theorem e_X8_canHold (l : Launch) (dC : Nat → ClassId) (dI : Nat → Nat → Nat) (cy : Nat → ClassId) (sz : Nat) (ad : Nat → Nat) (v : Nat → Nat → Int32) (hv : Ir v) (x0 x1 : Int32) : Met l yX8_canHold wsX8_canHold ({ frames := 4, cells := 0, slots := 0, locals := 256 }) (va_Pc [.ref (ad 0), .int x0, .int x1] (ex_Pre dC dI cy sz (wm ad cy v))) (va_Qi (fun (r : Int32) (u : Nat → Nat → Int32) => Ir u ∧ (¬ ((0 ≤ x0.toInt ∧ x0.toInt < (v 1 2).toInt) ∧ 0 ≤ x1.toInt ∧ x1.toInt ≤ 1) → (r = -1) ∧ Fq v u) ∧ (((0 ≤ x0.toInt ∧ x0.toInt < (v 1 2).toInt) ∧ 0 ≤ x1.toInt ∧ x1.toInt ≤ 1) ∧ TB (fun t k => (v 1 (158 + k + 25 * x0.toNatClampNeg + 5 * t)).toInt) x1.toInt (v 1 (38 + 7 * x0.toNatClampNeg)).toNatClampNeg → (r = 1) ∧ Fq v u) ∧ (((0 ≤ x0.toInt ∧ x0.toInt < (v 1 2).toInt) ∧ 0 ≤ x1.toInt ∧ x1.toInt ≤ 1) ∧ ¬ TB (fun t k => (v 1 (158 + k + 25 * x0.toNatClampNeg + 5 * t)).toInt) x1.toInt (v 1 (38 + 7 * x0.toNatClampNeg)).toNatClampNeg → (r = 0) ∧ Fq v u)) (fun u t => ex_Pst dC dI (va_A (wm ad cy v) sz) (wm ad cy u) t) (va_A (wm ad cy v) sz)) 0 0 (va_A (wm ad cy v) sz) := by
  refine Met.ofW (cc := cX8_canHold) (maxL := 3) (ret := (some .int)) (by decide) rfl ?_
  intro p e s m args below meth c s₁ B hml hv
  obtain ⟨rfl, hsz, hE, hP, hK, hD0⟩ := hv
  have hx := B.exec
  have hb := B.bytes
  have hr := B.returns
  have hts := atoms_spec (ws := wsX8_canHold) B.pre
  have hown : s.vm.findClass RX8 = some m.cls := findClass_of_methodNamed B.named
  have hlocks := B.notSynchronized
  subst hsz
  have hD := hD0.self (sz := s.heap.size)
  generalize hAe : va_A (wm ad cy v) s.heap.size = A at hD ⊢
  have hA : ∀ q : Nat, s.heap.size ≤ q → A q := fun q h => by rw [← hAe]; exact Or.inr h
  have hS : va_S A s.heap s.heap [] := va_S.rf
  have hP : va_P (dC, dI) vwCl (wm ad cy v) s.heap := hP
  have hl := lv_entry ([.ref (ad 0), .int x0, .int x1]) (n := 3) (Nat.le_of_ble_eq_true rfl)
  rw [lg_entry_eq]
  generalize (lg_sl ([.ref (ad 0), .int x0, .int x1]) ++ List.replicate (3 - (lg_sl ([.ref (ad 0), .int x0, .int x1])).length) Slot.unset).toArray = ls at hl ⊢
  have hl : lv_has ls 3 [(0, .ref (ad 0)), (1, .int x0), (2, .int x1)] := hl
  obtain ⟨DD, eDD⟩ : ∃ f : Nat → Nat → Int, f = fun t k => (v 1 (158 + k + 25 * x0.toNatClampNeg + 5 * t)).toInt := ⟨_, rfl⟩
  refine lv_aload_n hx hb dX8_canHold_0 rfl (lv_at hl 0 rfl) ?_
  refine lv_iload_n hx hb dX8_canHold_1 rfl (lv_at hl 1 rfl) ?_
  refine yw_i (w1 := fun (u : Nat → Nat → Int32) => wm ad cy u) hD hS hA (va_runV (As := [.int x0]) (rest := []) ⟨hx, hb, hml, hown, hts⟩ (q_X8_isCase l dC dI cy _ ad v hv x0) (cwV 1 hts gX8_canHold_X8_isCase rfl rfl rfl (by decide +kernel) ⟨Nat.le_of_ble_eq_true rfl, Nat.le_of_ble_eq_true rfl⟩) (yw_preV hE hK hP hD (ci := 8) (q0 := 0) rfl (wm_at (by decide) rc_0)) rfl rfl hl.1 rfl (lv_room (Nat.le_of_ble_eq_true rfl)) dX8_canHold_2 ⟨Nat.le_of_ble_eq_true rfl, Nat.le_of_ble_eq_true rfl⟩) (fun r_1 v_1 H locs hw_1 hP hD hS => ?_)
  obtain ⟨-, hu_1, hw_1⟩ := hw_1
  replace hu_1 := hu_1.symm
  subst hu_1
  rcases hw_1 with ⟨rfl, ha_2⟩ | ⟨rfl, ha_2⟩
  · have hb_2 := hv 1 2 6 (by decide)
    have hj_2 : 0 ≤ x0.toInt ∧ x0.toInt ≤ 5 := ⟨by omega, by omega⟩
    refine lv_if_eq (tgt := 15) hx hb dX8_canHold_5 (by decide) (fun c9 => absurd c9 (by decide)) (fun _ => ?_)
    refine lv_iload_n hx hb dX8_canHold_8 rfl (lv_at hl 2 rfl) ?_
    refine yc_p hP hS (va_runS (As := [.int x1]) (rest := []) ⟨hx, hb, hml, hown, hts⟩ (c_X8_isSide l x1) (cwS 1 hts gX8_canHold_X8_isSide rfl rfl rfl (by decide +kernel) ⟨Nat.le_of_ble_eq_true rfl, Nat.le_of_ble_eq_true rfl⟩) ex_preP rfl rfl hl.1 rfl (lv_room (Nat.le_of_ble_eq_true rfl)) dX8_canHold_9 ⟨Nat.le_of_ble_eq_true rfl, Nat.le_of_ble_eq_true rfl⟩) (fun r_3 H locs hw_3 hP hS => ?_)
    rcases wi_ca hw_3 with ⟨rfl, hc_4⟩ | ⟨rfl, hc_4⟩
    · have k_0 : (0 : Int32).toInt = 0 := by decide
      have k_1 : (1 : Int32).toInt = 1 := by decide
      have tc_4 := wi_tl hc_4
      refine lv_if_ne (tgt := 17) hx hb dX8_canHold_12 (by decide) (fun _ => ?_) (fun c9 => absurd c9 (by decide))
      refine lv_aload_n hx hb dX8_canHold_17 rfl (lv_at hl 0 rfl) ?_
      refine lv_iload_n hx hb dX8_canHold_18 rfl (lv_at hl 1 rfl) ?_
      refine lv_iload_n hx hb dX8_canHold_19 rfl (lv_at hl 2 rfl) ?_
      refine lv_aload_n hx hb dX8_canHold_20 rfl (lv_at hl 0 rfl) ?_
      refine va_get (D := (dC, dI)) (ci := 8) (v := .ref (ad 1)) (C := RX8) (T := TX8) (N := 11) hx hb hts (by decide +kernel) hown hK hP (0) (wm_at (by decide) rc_0) rfl 0 (by decide) (hts (.fieldLink RX8 7 "QuietStairsModel" "s" "[I") (by decide +kernel)) (fun _ h9 => h9) rfl dX8_canHold_21 ?_
      refine lv_iload_n hx hb dX8_canHold_24 rfl (lv_at hl 1 rfl) ?_
      refine lv_bipush (v := 6) hx hb dX8_canHold_25 (by decide) ?_
      refine yc_p hP hS (va_runS (As := [.int x0, .int 6]) (rest := [.ref (ad 1), .int x1, .int x0, .ref (ad 0)]) ⟨hx, hb, hml, hown, hts⟩ (c_X8_at l x0 6) (cwS 2 hts gX8_canHold_X8_at rfl rfl rfl (by decide +kernel) ⟨Nat.le_of_ble_eq_true rfl, Nat.le_of_ble_eq_true rfl⟩) ex_preP rfl rfl hl.1 rfl (lv_room (Nat.le_of_ble_eq_true rfl)) dX8_canHold_27 ⟨Nat.le_of_ble_eq_true rfl, Nat.le_of_ble_eq_true rfl⟩) (fun r_5 H locs hw_5 hP hS => ?_)
      have k_6 : (6 : Int32).toInt = 6 := by decide
      have tr_5 : r_5.toInt = 32 + 7 * x0.toInt + (6 : Int32).toInt := t_at hw_5 ⟨by omega, by omega⟩ ⟨by omega, by omega⟩
      have zn_x0 : (x0.toNatClampNeg : Int) = x0.toInt := t_nn (by omega)
      have nr_5 : r_5.toNatClampNeg = 38 + 7 * x0.toNatClampNeg := by have z1 := t_nn (x := r_5) (by omega); omega
      refine va_iald hx hb hK hP (1) 0 (wm_at (by decide) rc_1) rfl (vp_in_iff.mpr ⟨by omega, by omega⟩) dX8_canHold_30 ?_
      refine lv_topi (fun x_6 ex_6 => ?_)
      have bzx_6 : 0 ≤ x_6.toInt ∧ x_6.toInt ≤ 5 := by rw [ex_6]; exact hv 1 _ 5 (bx_4 (i := x0.toInt) (s := 6) (by omega) ⟨by omega, by omega⟩ (by omega))
      rw [nr_5] at ex_6
      have qx_6 : x_6.toInt = (v 1 (38 + 7 * x0.toNatClampNeg)).toInt := congrArg Int32.toInt ex_6
      refine yw_i (w1 := fun (u : Nat → Nat → Int32) => wm ad cy u) hD hS hA (va_runV (As := [.int x0, .int x1, .int x_6]) (rest := []) ⟨hx, hb, hml, hown, hts⟩ (e_X8_makeTable l dC dI cy _ ad v hv x0 x1 x_6 ⟨by omega, by omega⟩ ⟨by omega, by omega⟩) (cwV 3 hts gX8_canHold_X8_makeTable rfl rfl rfl (by decide +kernel) ⟨Nat.le_of_ble_eq_true rfl, Nat.le_of_ble_eq_true rfl⟩) (yw_preV hE hK hP hD (ci := 8) (q0 := 0) rfl (wm_at (by decide) rc_0)) rfl rfl hl.1 rfl (lv_room (Nat.le_of_ble_eq_true rfl)) dX8_canHold_31 ⟨Nat.le_of_ble_eq_true rfl, Nat.le_of_ble_eq_true rfl⟩) (fun r_7 v_7 H locs hw_7 hP hD hS => ?_)
      obtain ⟨hv, hf_7, hw_7⟩ := hw_7
      rcases hw_7 with ⟨rfl, hm_8⟩ | ⟨rfl, hm_8⟩
      · rw [← eDD] at hm_8
        have ht_8 : TB DD x1.toInt x_6.toNatClampNeg := ⟨_, hm_8.1.1⟩
        refine lv_if_eq (tgt := 41) hx hb dX8_canHold_34 (by decide) (fun c9 => absurd c9 (by decide)) (fun _ => ?_)
        refine lv_iconst (v := 1) hx hb dX8_canHold_37 (by decide) ?_
        refine lv_goto (tgt := 42) hx hb dX8_canHold_38 (by decide) ?_
        have htb : TB (fun t k => (v 1 (158 + k + 25 * x0.toNatClampNeg + 5 * t)).toInt) x1.toInt (v 1 (38 + 7 * x0.toNatClampNeg)).toNatClampNeg := by rw [← eDD, ← ex_6]; exact ht_8
        have hpost : (¬ ((0 ≤ x0.toInt ∧ x0.toInt < (v 1 2).toInt) ∧ 0 ≤ x1.toInt ∧ x1.toInt ≤ 1) → ((1 : Int32) = -1) ∧ Fq v v_7) ∧ (((0 ≤ x0.toInt ∧ x0.toInt < (v 1 2).toInt) ∧ 0 ≤ x1.toInt ∧ x1.toInt ≤ 1) ∧ TB (fun t k => (v 1 (158 + k + 25 * x0.toNatClampNeg + 5 * t)).toInt) x1.toInt (v 1 (38 + 7 * x0.toNatClampNeg)).toNatClampNeg → ((1 : Int32) = 1) ∧ Fq v v_7) ∧ (((0 ≤ x0.toInt ∧ x0.toInt < (v 1 2).toInt) ∧ 0 ≤ x1.toInt ∧ x1.toInt ≤ 1) ∧ ¬ TB (fun t k => (v 1 (158 + k + 25 * x0.toNatClampNeg + 5 * t)).toInt) x1.toInt (v 1 (38 + 7 * x0.toNatClampNeg)).toNatClampNeg → ((1 : Int32) = 0) ∧ Fq v v_7) := by
          refine ⟨fun hq => ?_, fun hq => ?_, fun hq => ?_⟩
          · exfalso; omega
          · exact ⟨rfl, hf_7⟩
          · exact absurd htb hq.2
        exact W.iret (v := 1) hx hb hr (fun t ht hW => ⟨⟨1, v_7, rfl, ⟨hv, hpost⟩, by rw [ht]; exact hP, hD⟩, hS.F ht⟩) hS.2.2 dX8_canHold_42
      · rw [← eDD] at hm_8
        have ht_8 := hm_8
        refine lv_if_eq (tgt := 41) hx hb dX8_canHold_34 (by decide) (fun _ => ?_) (fun c9 => absurd c9 (by decide))
        refine lv_iconst (v := 0) hx hb dX8_canHold_41 (by decide) ?_
        have htb : ¬ TB (fun t k => (v 1 (158 + k + 25 * x0.toNatClampNeg + 5 * t)).toInt) x1.toInt (v 1 (38 + 7 * x0.toNatClampNeg)).toNatClampNeg := by rw [← eDD, ← ex_6]; exact ht_8
        have hpost : (¬ ((0 ≤ x0.toInt ∧ x0.toInt < (v 1 2).toInt) ∧ 0 ≤ x1.toInt ∧ x1.toInt ≤ 1) → ((0 : Int32) = -1) ∧ Fq v v_7) ∧ (((0 ≤ x0.toInt ∧ x0.toInt < (v 1 2).toInt) ∧ 0 ≤ x1.toInt ∧ x1.toInt ≤ 1) ∧ TB (fun t k => (v 1 (158 + k + 25 * x0.toNatClampNeg + 5 * t)).toInt) x1.toInt (v 1 (38 + 7 * x0.toNatClampNeg)).toNatClampNeg → ((0 : Int32) = 1) ∧ Fq v v_7) ∧ (((0 ≤ x0.toInt ∧ x0.toInt < (v 1 2).toInt) ∧ 0 ≤ x1.toInt ∧ x1.toInt ≤ 1) ∧ ¬ TB (fun t k => (v 1 (158 + k + 25 * x0.toNatClampNeg + 5 * t)).toInt) x1.toInt (v 1 (38 + 7 * x0.toNatClampNeg)).toNatClampNeg → ((0 : Int32) = 0) ∧ Fq v v_7) := by
          refine ⟨fun hq => ?_, fun hq => ?_, fun hq => ?_⟩
          · exfalso; omega
          · exact absurd hq.2 htb
          · exact ⟨rfl, hf_7⟩
        exact W.iret (v := 0) hx hb hr (fun t ht hW => ⟨⟨0, v_7, rfl, ⟨hv, hpost⟩, by rw [ht]; exact hP, hD⟩, hS.F ht⟩) hS.2.2 dX8_canHold_42
    · have k_0 : (0 : Int32).toInt = 0 := by decide
      have k_1 : (1 : Int32).toInt = 1 := by decide
      have tc_4 : ¬ ((0 : Int32).toInt ≤ x1.toInt ∧ x1.toInt ≤ (1 : Int32).toInt) := fun q => hc_4 ⟨Int32.le_iff_toInt_le.mpr q.1, Int32.le_iff_toInt_le.mpr q.2⟩
      refine lv_if_ne (tgt := 17) hx hb dX8_canHold_12 (by decide) (fun c9 => absurd c9 (by decide)) (fun _ => ?_)
      refine lv_iconst (v := (-1)) hx hb dX8_canHold_15 (by decide) ?_
      have hpost : (¬ ((0 ≤ x0.toInt ∧ x0.toInt < (v 1 2).toInt) ∧ 0 ≤ x1.toInt ∧ x1.toInt ≤ 1) → (((-1) : Int32) = -1) ∧ Fq v v) ∧ (((0 ≤ x0.toInt ∧ x0.toInt < (v 1 2).toInt) ∧ 0 ≤ x1.toInt ∧ x1.toInt ≤ 1) ∧ TB (fun t k => (v 1 (158 + k + 25 * x0.toNatClampNeg + 5 * t)).toInt) x1.toInt (v 1 (38 + 7 * x0.toNatClampNeg)).toNatClampNeg → (((-1) : Int32) = 1) ∧ Fq v v) ∧ (((0 ≤ x0.toInt ∧ x0.toInt < (v 1 2).toInt) ∧ 0 ≤ x1.toInt ∧ x1.toInt ≤ 1) ∧ ¬ TB (fun t k => (v 1 (158 + k + 25 * x0.toNatClampNeg + 5 * t)).toInt) x1.toInt (v 1 (38 + 7 * x0.toNatClampNeg)).toNatClampNeg → (((-1) : Int32) = 0) ∧ Fq v v) := by
        refine ⟨fun hq => ?_, fun hq => ?_, fun hq => ?_⟩
        · exact ⟨rfl, Fq.rf⟩
        · exact absurd hq.1 (by omega)
        · exact absurd hq.1 (by omega)
      exact W.iret (v := (-1)) hx hb hr (fun t ht hW => ⟨⟨(-1), v, rfl, ⟨hv, hpost⟩, by rw [ht]; exact hP, hD⟩, hS.F ht⟩) hS.2.2 dX8_canHold_16
  · refine lv_if_eq (tgt := 15) hx hb dX8_canHold_5 (by decide) (fun _ => ?_) (fun c9 => absurd c9 (by decide))
    refine lv_iconst (v := (-1)) hx hb dX8_canHold_15 (by decide) ?_
    have hpost : (¬ ((0 ≤ x0.toInt ∧ x0.toInt < (v 1 2).toInt) ∧ 0 ≤ x1.toInt ∧ x1.toInt ≤ 1) → (((-1) : Int32) = -1) ∧ Fq v v) ∧ (((0 ≤ x0.toInt ∧ x0.toInt < (v 1 2).toInt) ∧ 0 ≤ x1.toInt ∧ x1.toInt ≤ 1) ∧ TB (fun t k => (v 1 (158 + k + 25 * x0.toNatClampNeg + 5 * t)).toInt) x1.toInt (v 1 (38 + 7 * x0.toNatClampNeg)).toNatClampNeg → (((-1) : Int32) = 1) ∧ Fq v v) ∧ (((0 ≤ x0.toInt ∧ x0.toInt < (v 1 2).toInt) ∧ 0 ≤ x1.toInt ∧ x1.toInt ≤ 1) ∧ ¬ TB (fun t k => (v 1 (158 + k + 25 * x0.toNatClampNeg + 5 * t)).toInt) x1.toInt (v 1 (38 + 7 * x0.toNatClampNeg)).toNatClampNeg → (((-1) : Int32) = 0) ∧ Fq v v) := by
      refine ⟨fun hq => ?_, fun hq => ?_, fun hq => ?_⟩
      · exact ⟨rfl, Fq.rf⟩
      · exact absurd hq.1 (by omega)
      · exact absurd hq.1 (by omega)
    exact W.iret (v := (-1)) hx hb hr (fun t ht hW => ⟨⟨(-1), v, rfl, ⟨hv, hpost⟩, by rw [ht]; exact hP, hD⟩, hS.F ht⟩) hS.2.2 dX8_canHold_16

set_option maxHeartbeats 4000000 in
set_option maxRecDepth 100000 in
theorem e_X8_breaks (l : Launch) (dC : Nat → ClassId) (dI : Nat → Nat → Nat) (cy : Nat → ClassId) (sz : Nat) (ad : Nat → Nat) (v : Nat → Nat → Int32) (hv : Ir v) (x0 x1 : Int32) : Met l yX8_breaks wsX8_breaks ({ frames := 4, cells := 0, slots := 0, locals := 256 }) (va_Pc [.ref (ad 0), .int x0, .int x1] (ex_Pre dC dI cy sz (wm ad cy v))) (va_Qi (fun (r : Int32) (u : Nat → Nat → Int32) => Ir u ∧ (¬ ((0 ≤ x0.toInt ∧ x0.toInt < (v 1 2).toInt) ∧ 0 ≤ x1.toInt ∧ x1.toInt ≤ 1) → (r = -1) ∧ Fq v u) ∧ ((0 ≤ x0.toInt ∧ x0.toInt < (v 1 2).toInt) ∧ 0 ≤ x1.toInt ∧ x1.toInt ≤ 1 → (((r.toInt = -5 ∧ ∀ t : Nat, t < (v 1 (38 + 7 * x0.toNatClampNeg)).toNatClampNeg → (fun t k => (v 1 (158 + k + 25 * x0.toNatClampNeg + 5 * t)).toInt) t 0 = x1.toInt → TB (fun t k => (v 1 (158 + k + 25 * x0.toNatClampNeg + 5 * t)).toInt) x1.toInt (t + 1)) ∨ ((0 ≤ r.toInt ∧ r.toNatClampNeg < (v 1 (38 + 7 * x0.toNatClampNeg)).toNatClampNeg) ∧ ((fun t k => (v 1 (158 + k + 25 * x0.toNatClampNeg + 5 * t)).toInt) r.toNatClampNeg 0 = x1.toInt ∧ ¬ TB (fun t k => (v 1 (158 + k + 25 * x0.toNatClampNeg + 5 * t)).toInt) x1.toInt (r.toNatClampNeg + 1)) ∧ ∀ t : Nat, t < r.toNatClampNeg → (fun t k => (v 1 (158 + k + 25 * x0.toNatClampNeg + 5 * t)).toInt) t 0 = x1.toInt → TB (fun t k => (v 1 (158 + k + 25 * x0.toNatClampNeg + 5 * t)).toInt) x1.toInt (t + 1)))) ∧ Fq v u)) (fun u t => ex_Pst dC dI (va_A (wm ad cy v) sz) (wm ad cy u) t) (va_A (wm ad cy v) sz)) 0 0 (va_A (wm ad cy v) sz) := by
  refine Met.ofW (cc := cX8_breaks) (maxL := 4) (ret := (some .int)) (by decide) rfl ?_
  intro p e s m args below meth c s₁ B hml hv
  obtain ⟨rfl, hsz, hE, hP, hK, hD0⟩ := hv
  have hx := B.exec
  have hb := B.bytes
  have hr := B.returns
  have hts := atoms_spec (ws := wsX8_breaks) B.pre
  have hown : s.vm.findClass RX8 = some m.cls := findClass_of_methodNamed B.named
  have hlocks := B.notSynchronized
  subst hsz
  have hD := hD0.self (sz := s.heap.size)
  generalize hAe : va_A (wm ad cy v) s.heap.size = A at hD ⊢
  have hA : ∀ q : Nat, s.heap.size ≤ q → A q := fun q h => by rw [← hAe]; exact Or.inr h
  have hS : va_S A s.heap s.heap [] := va_S.rf
  have hP : va_P (dC, dI) vwCl (wm ad cy v) s.heap := hP
  have hl := lv_entry ([.ref (ad 0), .int x0, .int x1]) (n := 4) (Nat.le_of_ble_eq_true rfl)
  rw [lg_entry_eq]
  generalize (lg_sl ([.ref (ad 0), .int x0, .int x1]) ++ List.replicate (4 - (lg_sl ([.ref (ad 0), .int x0, .int x1])).length) Slot.unset).toArray = ls at hl ⊢
  have hl : lv_has ls 4 [(0, .ref (ad 0)), (1, .int x0), (2, .int x1)] := hl
  have hfr : Fq v v := Fq.rf
  obtain ⟨DD, eDD⟩ : ∃ f : Nat → Nat → Int, f = fun t k => (v 1 (158 + k + 25 * x0.toNatClampNeg + 5 * t)).toInt := ⟨_, rfl⟩
  refine lv_aload_n hx hb dX8_breaks_0 rfl (lv_at hl 0 rfl) ?_
  refine lv_iload_n hx hb dX8_breaks_1 rfl (lv_at hl 1 rfl) ?_
  refine yw_i (w1 := fun (u : Nat → Nat → Int32) => wm ad cy u) hD hS hA (va_runV (As := [.int x0]) (rest := []) ⟨hx, hb, hml, hown, hts⟩ (q_X8_isCase l dC dI cy _ ad v hv x0) (cwV 1 hts gX8_breaks_X8_isCase rfl rfl rfl (by decide +kernel) ⟨Nat.le_of_ble_eq_true rfl, Nat.le_of_ble_eq_true rfl⟩) (yw_preV hE hK hP hD (ci := 8) (q0 := 0) rfl (wm_at (by decide) rc_0)) rfl rfl hl.1 rfl (lv_room (Nat.le_of_ble_eq_true rfl)) dX8_breaks_2 ⟨Nat.le_of_ble_eq_true rfl, Nat.le_of_ble_eq_true rfl⟩) (fun r_1 v_1 H locs hw_1 hP hD hS => ?_)
  obtain ⟨-, hu_1, hw_1⟩ := hw_1
  replace hu_1 := hu_1.symm
  subst hu_1
  rcases hw_1 with ⟨rfl, ha_2⟩ | ⟨rfl, ha_2⟩
  · have hb_2 := hv 1 2 6 (by decide)
    have hj_2 : 0 ≤ x0.toInt ∧ x0.toInt ≤ 5 := ⟨by omega, by omega⟩
    refine lv_if_eq (tgt := 15) hx hb dX8_breaks_5 (by decide) (fun c9 => absurd c9 (by decide)) (fun _ => ?_)
    refine lv_iload_n hx hb dX8_breaks_8 rfl (lv_at hl 2 rfl) ?_
    refine yc_p hP hS (va_runS (As := [.int x1]) (rest := []) ⟨hx, hb, hml, hown, hts⟩ (c_X8_isSide l x1) (cwS 1 hts gX8_breaks_X8_isSide rfl rfl rfl (by decide +kernel) ⟨Nat.le_of_ble_eq_true rfl, Nat.le_of_ble_eq_true rfl⟩) ex_preP rfl rfl hl.1 rfl (lv_room (Nat.le_of_ble_eq_true rfl)) dX8_breaks_9 ⟨Nat.le_of_ble_eq_true rfl, Nat.le_of_ble_eq_true rfl⟩) (fun r_3 H locs hw_3 hP hS => ?_)
    rcases wi_ca hw_3 with ⟨rfl, hc_4⟩ | ⟨rfl, hc_4⟩
    · have k_0 : (0 : Int32).toInt = 0 := by decide
      have k_1 : (1 : Int32).toInt = 1 := by decide
      have tc_4 := wi_tl hc_4
      refine lv_if_ne (tgt := 17) hx hb dX8_breaks_12 (by decide) (fun _ => ?_) (fun c9 => absurd c9 (by decide))
      refine lv_iconst (v := 0) hx hb dX8_breaks_17 (by decide) ?_
      refine lv_istore_n (lv' := [(3, .int 0), (0, .ref (ad 0)), (1, .int x0), (2, .int x1)]) hx hb dX8_breaks_18 rfl hl (by decide) rfl (fun ls hl => ?_)
      have hc_5 : ∀ (n : Nat) (y5_3 : Int32) (u5 : Nat → Nat → Int32) (H : Heap) (locs : List Loc), 0 ≤ y5_3.toInt → y5_3.toInt ≤ 5 → (∀ t : Nat, (t : Int) < y5_3.toInt → DD t 0 = x1.toInt → TB DD x1.toInt (t + 1)) → (5 - y5_3.toInt).toNat < n → Ir u5 → Fq v u5 → va_P (dC, dI) vwCl (wm ad cy u5) H → va_D A (wm ad cy u5) → va_S A s.heap H locs → ∀ ls : Array Slot, lv_has ls 4 [(3, .int y5_3), (0, .ref (ad 0)), (1, .int x0), (2, .int x1)] → W p l e (headSpec wsX8_breaks ({ frames := 4, cells := 0, slots := 0, locals := 256 })).room s m [Value.ref (ad 0), Value.int x0, Value.int x1].toArray below meth c H locs 0 0 (MQ below (va_Qi (fun (r : Int32) (u : Nat → Nat → Int32) => Ir u ∧ (¬ ((0 ≤ x0.toInt ∧ x0.toInt < (v 1 2).toInt) ∧ 0 ≤ x1.toInt ∧ x1.toInt ≤ 1) → (r = -1) ∧ Fq v u) ∧ ((0 ≤ x0.toInt ∧ x0.toInt < (v 1 2).toInt) ∧ 0 ≤ x1.toInt ∧ x1.toInt ≤ 1 → (((r.toInt = -5 ∧ ∀ t : Nat, t < (v 1 (38 + 7 * x0.toNatClampNeg)).toNatClampNeg → (fun t k => (v 1 (158 + k + 25 * x0.toNatClampNeg + 5 * t)).toInt) t 0 = x1.toInt → TB (fun t k => (v 1 (158 + k + 25 * x0.toNatClampNeg + 5 * t)).toInt) x1.toInt (t + 1)) ∨ ((0 ≤ r.toInt ∧ r.toNatClampNeg < (v 1 (38 + 7 * x0.toNatClampNeg)).toNatClampNeg) ∧ ((fun t k => (v 1 (158 + k + 25 * x0.toNatClampNeg + 5 * t)).toInt) r.toNatClampNeg 0 = x1.toInt ∧ ¬ TB (fun t k => (v 1 (158 + k + 25 * x0.toNatClampNeg + 5 * t)).toInt) x1.toInt (r.toNatClampNeg + 1)) ∧ ∀ t : Nat, t < r.toNatClampNeg → (fun t k => (v 1 (158 + k + 25 * x0.toNatClampNeg + 5 * t)).toInt) t 0 = x1.toInt → TB (fun t k => (v 1 (158 + k + 25 * x0.toNatClampNeg + 5 * t)).toInt) x1.toInt (t + 1)))) ∧ Fq v u)) (fun u t => ex_Pst dC dI A (wm ad cy u) t) A) [Value.ref (ad 0), Value.int x0, Value.int x1].toArray s 0 0 A) (F0 m 19 ls []) := by
        intro n
        induction n with
        | zero =>
          intro y5_3 u5 H locs ay5_3 by5_3 hi5_0 hm_5 hv hfr hP hD hS ls hl
          exact absurd hm_5 (by omega)
        | succ n ih_5 =>
          intro y5_3 u5 H locs ay5_3 by5_3 hi5_0 hm_5 hv hfr hP hD hS ls hl
          refine lv_iload_n hx hb dX8_breaks_19 rfl (lv_at hl 0 rfl) ?_
          refine lv_aload_n hx hb dX8_breaks_20 rfl (lv_at hl 1 rfl) ?_
          refine va_get (D := (dC, dI)) (ci := 8) (v := .ref (ad 1)) (C := RX8) (T := TX8) (N := 11) hx hb hts (by decide +kernel) hown hK hP (0) (wm_at (by decide) rc_0) rfl 0 (by decide) (hts (.fieldLink RX8 7 "QuietStairsModel" "s" "[I") (by decide +kernel)) (fun _ h9 => h9) rfl dX8_breaks_21 ?_
          refine lv_iload_n hx hb dX8_breaks_24 rfl (lv_at hl 2 rfl) ?_
          refine lv_bipush (v := 6) hx hb dX8_breaks_25 (by decide) ?_
          refine yc_p hP hS (va_runS (As := [.int x0, .int 6]) (rest := [.ref (ad 1), .int y5_3]) ⟨hx, hb, hml, hown, hts⟩ (c_X8_at l x0 6) (cwS 2 hts gX8_breaks_X8_at rfl rfl rfl (by decide +kernel) ⟨Nat.le_of_ble_eq_true rfl, Nat.le_of_ble_eq_true rfl⟩) ex_preP rfl rfl hl.1 rfl (lv_room (Nat.le_of_ble_eq_true rfl)) dX8_breaks_27 ⟨Nat.le_of_ble_eq_true rfl, Nat.le_of_ble_eq_true rfl⟩) (fun r_6 H locs hw_6 hP hS => ?_)
          have k_6 : (6 : Int32).toInt = 6 := by decide
          have tr_6 : r_6.toInt = 32 + 7 * x0.toInt + (6 : Int32).toInt := t_at hw_6 ⟨by omega, by omega⟩ ⟨by omega, by omega⟩
          have zn_x0 : (x0.toNatClampNeg : Int) = x0.toInt := t_nn (by omega)
          have nr_6 : r_6.toNatClampNeg = 38 + 7 * x0.toNatClampNeg := by have z1 := t_nn (x := r_6) (by omega); omega
          refine va_iald hx hb hK hP (1) 0 (wm_at (by decide) rc_1) rfl (vp_in_iff.mpr ⟨by omega, by omega⟩) dX8_breaks_30 ?_
          refine lv_topi (fun x_7 ex_7 => ?_)
          have bzx_7 : 0 ≤ x_7.toInt ∧ x_7.toInt ≤ 5 := by rw [ex_7]; exact hv 1 _ 5 (bx_4 (i := x0.toInt) (s := 6) (by omega) ⟨by omega, by omega⟩ (by omega))
          rw [nr_6] at ex_7
          have qx_7 : x_7.toInt = (u5 1 (38 + 7 * x0.toNatClampNeg)).toInt := congrArg Int32.toInt ex_7
          have hn9 : x_7 = v 1 (38 + 7 * x0.toNatClampNeg) := by rw [ex_7, hfr.1]
          have hn8 : x_7.toInt = (v 1 (38 + 7 * x0.toNatClampNeg)).toInt := by rw [hn9]
          refine lv_icmp_ge (tgt := 68) hx hb dX8_breaks_31 (by decide) (fun c_8 => ?_) (fun c_8 => ?_)
          · have tc_8 : y5_3.toInt ≥ x_7.toInt := Int32.le_iff_toInt_le.mp c_8
            refine lv_bipush (v := (-5)) hx hb dX8_breaks_68 (by decide) ?_
            have zn_y5_3 : (y5_3.toNatClampNeg : Int) = y5_3.toInt := t_nn (by omega)
            have zN9 := t_nn (x := v 1 (38 + 7 * x0.toNatClampNeg)) (by omega)
            have hpost : (¬ ((0 ≤ x0.toInt ∧ x0.toInt < (v 1 2).toInt) ∧ 0 ≤ x1.toInt ∧ x1.toInt ≤ 1) → (((-5) : Int32) = -1) ∧ Fq v u5) ∧ ((0 ≤ x0.toInt ∧ x0.toInt < (v 1 2).toInt) ∧ 0 ≤ x1.toInt ∧ x1.toInt ≤ 1 → (((((-5) : Int32).toInt = -5 ∧ ∀ t : Nat, t < (v 1 (38 + 7 * x0.toNatClampNeg)).toNatClampNeg → (fun t k => (v 1 (158 + k + 25 * x0.toNatClampNeg + 5 * t)).toInt) t 0 = x1.toInt → TB (fun t k => (v 1 (158 + k + 25 * x0.toNatClampNeg + 5 * t)).toInt) x1.toInt (t + 1)) ∨ ((0 ≤ ((-5) : Int32).toInt ∧ ((-5) : Int32).toNatClampNeg < (v 1 (38 + 7 * x0.toNatClampNeg)).toNatClampNeg) ∧ ((fun t k => (v 1 (158 + k + 25 * x0.toNatClampNeg + 5 * t)).toInt) ((-5) : Int32).toNatClampNeg 0 = x1.toInt ∧ ¬ TB (fun t k => (v 1 (158 + k + 25 * x0.toNatClampNeg + 5 * t)).toInt) x1.toInt (((-5) : Int32).toNatClampNeg + 1)) ∧ ∀ t : Nat, t < ((-5) : Int32).toNatClampNeg → (fun t k => (v 1 (158 + k + 25 * x0.toNatClampNeg + 5 * t)).toInt) t 0 = x1.toInt → TB (fun t k => (v 1 (158 + k + 25 * x0.toNatClampNeg + 5 * t)).toInt) x1.toInt (t + 1)))) ∧ Fq v u5) := by
              refine ⟨fun hq => ?_, fun hq => ?_⟩
              · exfalso; omega
              · rw [← eDD]; exact ⟨Or.inl ⟨by decide, fun t ht h0 => hi5_0 t (by omega) h0⟩, hfr⟩
            exact W.iret (v := (-5)) hx hb hr (fun t ht hW => ⟨⟨(-5), u5, rfl, ⟨hv, hpost⟩, by rw [ht]; exact hP, hD⟩, hS.F ht⟩) hS.2.2 dX8_breaks_70
          · have tc_8 : y5_3.toInt < x_7.toInt := Int32.lt_iff_toInt_lt.mp (Int32.not_le.mp c_8)
            refine lv_aload_n hx hb dX8_breaks_34 rfl (lv_at hl 1 rfl) ?_
            refine va_get (D := (dC, dI)) (ci := 8) (v := .ref (ad 1)) (C := RX8) (T := TX8) (N := 11) hx hb hts (by decide +kernel) hown hK hP (0) (wm_at (by decide) rc_0) rfl 0 (by decide) (hts (.fieldLink RX8 7 "QuietStairsModel" "s" "[I") (by decide +kernel)) (fun _ h9 => h9) rfl dX8_breaks_35 ?_
            refine lv_iload_n hx hb dX8_breaks_38 rfl (lv_at hl 2 rfl) ?_
            refine lv_iload_n hx hb dX8_breaks_39 rfl (lv_at hl 0 rfl) ?_
            refine yc_p hP hS (va_runS (As := [.int x0, .int y5_3]) (rest := [.ref (ad 1)]) ⟨hx, hb, hml, hown, hts⟩ (c_X8_termAt l x0 y5_3) (cwS 2 hts gX8_breaks_X8_termAt rfl rfl rfl (by decide +kernel) ⟨Nat.le_of_ble_eq_true rfl, Nat.le_of_ble_eq_true rfl⟩) ex_preP rfl rfl hl.1 rfl (lv_room (Nat.le_of_ble_eq_true rfl)) dX8_breaks_40 ⟨Nat.le_of_ble_eq_true rfl, Nat.le_of_ble_eq_true rfl⟩) (fun r_9 H locs hw_9 hP hS => ?_)
            have tr_9 : r_9.toInt = 158 + 25 * x0.toInt + 5 * y5_3.toInt := t_tm hw_9 ⟨by omega, by omega⟩ ⟨by omega, by omega⟩
            have zn_y5_3 : (y5_3.toNatClampNeg : Int) = y5_3.toInt := t_nn (by omega)
            have nr_9 : r_9.toNatClampNeg = 158 + 25 * x0.toNatClampNeg + 5 * y5_3.toNatClampNeg := by have z1 := t_nn (x := r_9) (by omega); omega
            refine va_iald hx hb hK hP (1) 0 (wm_at (by decide) rc_1) rfl (vp_in_iff.mpr ⟨by omega, by omega⟩) dX8_breaks_43 ?_
            refine lv_topi (fun x_10 ex_10 => ?_)
            have bzx_10 : 0 ≤ x_10.toInt ∧ x_10.toInt ≤ 1 := by rw [ex_10]; exact hv 1 _ 1 (bx_t0 (i := 5 * x0.toInt + y5_3.toInt) (s := 0) (by omega) ⟨by omega, by omega⟩ (by omega))
            rw [nr_9] at ex_10
            have qx_10 : x_10.toInt = (u5 1 (158 + 25 * x0.toNatClampNeg + 5 * y5_3.toNatClampNeg)).toInt := congrArg Int32.toInt ex_10
            have hS9 : DD y5_3.toNatClampNeg 0 = x_10.toInt := by rw [eDD]; exact (congrArg Int32.toInt (ex_10.trans (congrFun hfr.1 _))).symm
            have hfs := hfr
            refine lv_iload_n hx hb dX8_breaks_44 rfl (lv_at hl 3 rfl) ?_
            refine lv_icmp_ne (tgt := 62) hx hb dX8_breaks_45 (by decide) (fun c_11 => ?_) (fun c_11 => ?_)
            · have tc_11 : x_10.toInt ≠ x1.toInt := fun q => absurd (Int32.toInt_inj.mp q) c_11
              obtain ⟨x_12, ex_12⟩ : ∃ y : Int32, y = y5_3 + 1 := ⟨_, rfl⟩
              refine lv_iinc (v := x_12) (lv' := [(3, .int x_12), (0, .ref (ad 0)), (1, .int x0), (2, .int x1)]) hx hb dX8_breaks_62 hl (k := 0) rfl (by rw [ex_12]; rfl) (by decide) rfl (fun ls hl => ?_)
              have tx_12 : x_12.toInt = y5_3.toInt + (1 : Int32).toInt := by rw [ex_12]; exact t_add ⟨by omega, by omega⟩
              refine lv_goto (tgt := 19) hx hb dX8_breaks_65 (by decide) ?_
              exact ih_5 x_12 u5 _ _ (by omega) (by omega) (fun t ht h0 => by by_cases e : (t : Int) < y5_3.toInt; exact hi5_0 t e h0; rw [show t = y5_3.toNatClampNeg from by omega, hS9] at h0; exact absurd h0 (by omega)) (by omega) hv hfr hP hD hS ls (lv_sub hl [0, 1, 2, 3] rfl)
            · have tc_11 : x_10.toInt = x1.toInt := by rw [c_11]
              refine lv_aload_n hx hb dX8_breaks_48 rfl (lv_at hl 1 rfl) ?_
              refine lv_iload_n hx hb dX8_breaks_49 rfl (lv_at hl 2 rfl) ?_
              refine lv_iload_n hx hb dX8_breaks_50 rfl (lv_at hl 3 rfl) ?_
              refine lv_iload_n hx hb dX8_breaks_51 rfl (lv_at hl 0 rfl) ?_
              refine lv_iconst (v := 1) hx hb dX8_breaks_52 (by decide) ?_
              refine lv_iadd hx hb dX8_breaks_53 ?_
              refine lv_topi (fun x_12 ex_12 => ?_)
              have tx_12 : x_12.toInt = y5_3.toInt + (1 : Int32).toInt := by rw [ex_12]; exact t_add ⟨by omega, by omega⟩
              refine yw_i (w1 := fun (u : Nat → Nat → Int32) => wm ad cy u) hD hS hA (va_runV (As := [.int x0, .int x1, .int x_12]) (rest := []) ⟨hx, hb, hml, hown, hts⟩ (e_X8_makeTable l dC dI cy _ ad u5 hv x0 x1 x_12 ⟨by omega, by omega⟩ ⟨by omega, by omega⟩) (cwV 3 hts gX8_breaks_X8_makeTable rfl rfl rfl (by decide +kernel) ⟨Nat.le_of_ble_eq_true rfl, Nat.le_of_ble_eq_true rfl⟩) (yw_preV hE hK hP hD (ci := 8) (q0 := 0) rfl (wm_at (by decide) rc_0)) rfl rfl hl.1 rfl (lv_room (Nat.le_of_ble_eq_true rfl)) dX8_breaks_54 ⟨Nat.le_of_ble_eq_true rfl, Nat.le_of_ble_eq_true rfl⟩) (fun r_13 v_13 H locs hw_13 hP hD hS => ?_)
              obtain ⟨hv, hf_13, hw_13⟩ := hw_13
              have hfr : Fq v v_13 := hfr.trans hf_13
              rcases hw_13 with ⟨rfl, hm_14⟩ | ⟨rfl, hm_14⟩
              · rw [show (fun t k => (u5 1 (158 + k + 25 * x0.toNatClampNeg + 5 * t)).toInt) = DD from by rw [eDD, hfs.1]] at hm_14
                have ht_14 : TB DD x1.toInt x_12.toNatClampNeg := ⟨_, hm_14.1.1⟩
                refine lv_if_ne (tgt := 62) hx hb dX8_breaks_57 (by decide) (fun _ => ?_) (fun c9 => absurd c9 (by decide))
                obtain ⟨x_15, ex_15⟩ : ∃ y : Int32, y = y5_3 + 1 := ⟨_, rfl⟩
                refine lv_iinc (v := x_15) (lv' := [(3, .int x_15), (0, .ref (ad 0)), (1, .int x0), (2, .int x1)]) hx hb dX8_breaks_62 hl (k := 0) rfl (by rw [ex_15]; rfl) (by decide) rfl (fun ls hl => ?_)
                have tx_15 : x_15.toInt = y5_3.toInt + (1 : Int32).toInt := by rw [ex_15]; exact t_add ⟨by omega, by omega⟩
                refine lv_goto (tgt := 19) hx hb dX8_breaks_65 (by decide) ?_
                have zn_x_12 : (x_12.toNatClampNeg : Int) = x_12.toInt := t_nn (by omega)
                exact ih_5 x_15 v_13 _ _ (by omega) (by omega) (fun t ht h0 => by by_cases e : (t : Int) < y5_3.toInt; exact hi5_0 t e h0; rw [show t + 1 = x_12.toNatClampNeg from by omega]; exact ht_14) (by omega) hv hfr hP hD hS ls (lv_sub hl [0, 1, 2, 3] rfl)
              · rw [show (fun t k => (u5 1 (158 + k + 25 * x0.toNatClampNeg + 5 * t)).toInt) = DD from by rw [eDD, hfs.1]] at hm_14
                have ht_14 := hm_14
                refine lv_if_ne (tgt := 62) hx hb dX8_breaks_57 (by decide) (fun c9 => absurd c9 (by decide)) (fun _ => ?_)
                refine lv_iload_n hx hb dX8_breaks_60 rfl (lv_at hl 0 rfl) ?_
                have zn_x_12 : (x_12.toNatClampNeg : Int) = x_12.toInt := t_nn (by omega)
                have zN9 := t_nn (x := v 1 (38 + 7 * x0.toNatClampNeg)) (by omega)
                have hpost : (¬ ((0 ≤ x0.toInt ∧ x0.toInt < (v 1 2).toInt) ∧ 0 ≤ x1.toInt ∧ x1.toInt ≤ 1) → (y5_3 = -1) ∧ Fq v v_13) ∧ ((0 ≤ x0.toInt ∧ x0.toInt < (v 1 2).toInt) ∧ 0 ≤ x1.toInt ∧ x1.toInt ≤ 1 → (((y5_3.toInt = -5 ∧ ∀ t : Nat, t < (v 1 (38 + 7 * x0.toNatClampNeg)).toNatClampNeg → (fun t k => (v 1 (158 + k + 25 * x0.toNatClampNeg + 5 * t)).toInt) t 0 = x1.toInt → TB (fun t k => (v 1 (158 + k + 25 * x0.toNatClampNeg + 5 * t)).toInt) x1.toInt (t + 1)) ∨ ((0 ≤ y5_3.toInt ∧ y5_3.toNatClampNeg < (v 1 (38 + 7 * x0.toNatClampNeg)).toNatClampNeg) ∧ ((fun t k => (v 1 (158 + k + 25 * x0.toNatClampNeg + 5 * t)).toInt) y5_3.toNatClampNeg 0 = x1.toInt ∧ ¬ TB (fun t k => (v 1 (158 + k + 25 * x0.toNatClampNeg + 5 * t)).toInt) x1.toInt (y5_3.toNatClampNeg + 1)) ∧ ∀ t : Nat, t < y5_3.toNatClampNeg → (fun t k => (v 1 (158 + k + 25 * x0.toNatClampNeg + 5 * t)).toInt) t 0 = x1.toInt → TB (fun t k => (v 1 (158 + k + 25 * x0.toNatClampNeg + 5 * t)).toInt) x1.toInt (t + 1)))) ∧ Fq v v_13) := by
                  refine ⟨fun hq => ?_, fun hq => ?_⟩
                  · exfalso; omega
                  · rw [← eDD]; refine ⟨Or.inr ⟨⟨by omega, by omega⟩, ⟨?_, ?_⟩, fun t ht h0 => hi5_0 t (by omega) h0⟩, hfr⟩
                    · rw [hS9]; omega
                    · rw [show y5_3.toNatClampNeg + 1 = x_12.toNatClampNeg from by omega]; exact ht_14
                exact W.iret (v := y5_3) hx hb hr (fun t ht hW => ⟨⟨y5_3, v_13, rfl, ⟨hv, hpost⟩, by rw [ht]; exact hP, hD⟩, hS.F ht⟩) hS.2.2 dX8_breaks_61
      exact hc_5 ((5 - (0 : Int32).toInt).toNat + 1) 0 v _ _ (by omega) (by omega) (fun t ht => absurd ht (by omega)) (by omega) hv hfr hP hD hS ls (lv_sub hl [0, 1, 2, 3] rfl)
    · have k_0 : (0 : Int32).toInt = 0 := by decide
      have k_1 : (1 : Int32).toInt = 1 := by decide
      have tc_4 : ¬ ((0 : Int32).toInt ≤ x1.toInt ∧ x1.toInt ≤ (1 : Int32).toInt) := fun q => hc_4 ⟨Int32.le_iff_toInt_le.mpr q.1, Int32.le_iff_toInt_le.mpr q.2⟩
      refine lv_if_ne (tgt := 17) hx hb dX8_breaks_12 (by decide) (fun c9 => absurd c9 (by decide)) (fun _ => ?_)
      refine lv_iconst (v := (-1)) hx hb dX8_breaks_15 (by decide) ?_
      have hpost : (¬ ((0 ≤ x0.toInt ∧ x0.toInt < (v 1 2).toInt) ∧ 0 ≤ x1.toInt ∧ x1.toInt ≤ 1) → (((-1) : Int32) = -1) ∧ Fq v v) ∧ ((0 ≤ x0.toInt ∧ x0.toInt < (v 1 2).toInt) ∧ 0 ≤ x1.toInt ∧ x1.toInt ≤ 1 → (((((-1) : Int32).toInt = -5 ∧ ∀ t : Nat, t < (v 1 (38 + 7 * x0.toNatClampNeg)).toNatClampNeg → (fun t k => (v 1 (158 + k + 25 * x0.toNatClampNeg + 5 * t)).toInt) t 0 = x1.toInt → TB (fun t k => (v 1 (158 + k + 25 * x0.toNatClampNeg + 5 * t)).toInt) x1.toInt (t + 1)) ∨ ((0 ≤ ((-1) : Int32).toInt ∧ ((-1) : Int32).toNatClampNeg < (v 1 (38 + 7 * x0.toNatClampNeg)).toNatClampNeg) ∧ ((fun t k => (v 1 (158 + k + 25 * x0.toNatClampNeg + 5 * t)).toInt) ((-1) : Int32).toNatClampNeg 0 = x1.toInt ∧ ¬ TB (fun t k => (v 1 (158 + k + 25 * x0.toNatClampNeg + 5 * t)).toInt) x1.toInt (((-1) : Int32).toNatClampNeg + 1)) ∧ ∀ t : Nat, t < ((-1) : Int32).toNatClampNeg → (fun t k => (v 1 (158 + k + 25 * x0.toNatClampNeg + 5 * t)).toInt) t 0 = x1.toInt → TB (fun t k => (v 1 (158 + k + 25 * x0.toNatClampNeg + 5 * t)).toInt) x1.toInt (t + 1)))) ∧ Fq v v) := by
        refine ⟨fun hq => ⟨rfl, Fq.rf⟩, fun hq => ?_⟩
        exfalso; omega
      exact W.iret (v := (-1)) hx hb hr (fun t ht hW => ⟨⟨(-1), v, rfl, ⟨hv, hpost⟩, by rw [ht]; exact hP, hD⟩, hS.F ht⟩) hS.2.2 dX8_breaks_16
  · refine lv_if_eq (tgt := 15) hx hb dX8_breaks_5 (by decide) (fun _ => ?_) (fun c9 => absurd c9 (by decide))
    refine lv_iconst (v := (-1)) hx hb dX8_breaks_15 (by decide) ?_
    have hpost : (¬ ((0 ≤ x0.toInt ∧ x0.toInt < (v 1 2).toInt) ∧ 0 ≤ x1.toInt ∧ x1.toInt ≤ 1) → (((-1) : Int32) = -1) ∧ Fq v v) ∧ ((0 ≤ x0.toInt ∧ x0.toInt < (v 1 2).toInt) ∧ 0 ≤ x1.toInt ∧ x1.toInt ≤ 1 → (((((-1) : Int32).toInt = -5 ∧ ∀ t : Nat, t < (v 1 (38 + 7 * x0.toNatClampNeg)).toNatClampNeg → (fun t k => (v 1 (158 + k + 25 * x0.toNatClampNeg + 5 * t)).toInt) t 0 = x1.toInt → TB (fun t k => (v 1 (158 + k + 25 * x0.toNatClampNeg + 5 * t)).toInt) x1.toInt (t + 1)) ∨ ((0 ≤ ((-1) : Int32).toInt ∧ ((-1) : Int32).toNatClampNeg < (v 1 (38 + 7 * x0.toNatClampNeg)).toNatClampNeg) ∧ ((fun t k => (v 1 (158 + k + 25 * x0.toNatClampNeg + 5 * t)).toInt) ((-1) : Int32).toNatClampNeg 0 = x1.toInt ∧ ¬ TB (fun t k => (v 1 (158 + k + 25 * x0.toNatClampNeg + 5 * t)).toInt) x1.toInt (((-1) : Int32).toNatClampNeg + 1)) ∧ ∀ t : Nat, t < ((-1) : Int32).toNatClampNeg → (fun t k => (v 1 (158 + k + 25 * x0.toNatClampNeg + 5 * t)).toInt) t 0 = x1.toInt → TB (fun t k => (v 1 (158 + k + 25 * x0.toNatClampNeg + 5 * t)).toInt) x1.toInt (t + 1)))) ∧ Fq v v) := by
      refine ⟨fun hq => ⟨rfl, Fq.rf⟩, fun hq => ?_⟩
      exfalso; omega
    exact W.iret (v := (-1)) hx hb hr (fun t ht hW => ⟨⟨(-1), v, rfl, ⟨hv, hpost⟩, by rw [ht]; exact hP, hD⟩, hS.F ht⟩) hS.2.2 dX8_breaks_16

set_option maxHeartbeats 4000000 in
set_option maxRecDepth 100000 in
theorem e_X8_hour (l : Launch) (dC : Nat → ClassId) (dI : Nat → Nat → Nat) (cy : Nat → ClassId) (sz : Nat) (ad : Nat → Nat) (v : Nat → Nat → Int32) (hv : Ir v) (x0 x1 : Int32) : Met l yX8_hour wsX8_hour ({ frames := 4, cells := 0, slots := 0, locals := 256 }) (va_Pc [.ref (ad 0), .int x0, .int x1] (ex_Pre dC dI cy sz (wm ad cy v))) (va_Qi (fun (r : Int32) (u : Nat → Nat → Int32) => Ir u ∧ (¬ ((0 ≤ x0.toInt ∧ x0.toInt < (v 1 2).toInt) ∧ 0 ≤ x1.toInt ∧ x1.toInt < (v 1 (38 + 7 * x0.toNatClampNeg)).toInt) → (r = -1) ∧ Fq v u) ∧ (((0 ≤ x0.toInt ∧ x0.toInt < (v 1 2).toInt) ∧ 0 ≤ x1.toInt ∧ x1.toInt < (v 1 (38 + 7 * x0.toNatClampNeg)).toInt) ∧ (v 1 (159 + 25 * x0.toNatClampNeg + 5 * x1.toNatClampNeg)).toInt = 0 → (r = -4) ∧ Fq v u) ∧ ((((0 ≤ x0.toInt ∧ x0.toInt < (v 1 2).toInt) ∧ 0 ≤ x1.toInt ∧ x1.toInt < (v 1 (38 + 7 * x0.toNatClampNeg)).toInt) ∧ (v 1 (159 + 25 * x0.toNatClampNeg + 5 * x1.toNatClampNeg)).toInt ≠ 0) ∧ ¬ TB (fun t k => (v 1 (158 + k + 25 * x0.toNatClampNeg + 5 * t)).toInt) (v 1 (158 + 25 * x0.toNatClampNeg + 5 * x1.toNatClampNeg)).toInt (v 1 (38 + 7 * x0.toNatClampNeg)).toNatClampNeg → (r = -5) ∧ Fq v u) ∧ ((((0 ≤ x0.toInt ∧ x0.toInt < (v 1 2).toInt) ∧ 0 ≤ x1.toInt ∧ x1.toInt < (v 1 (38 + 7 * x0.toNatClampNeg)).toInt) ∧ (v 1 (159 + 25 * x0.toNatClampNeg + 5 * x1.toNatClampNeg)).toInt ≠ 0) ∧ TB (fun t k => (v 1 (158 + k + 25 * x0.toNatClampNeg + 5 * t)).toInt) (v 1 (158 + 25 * x0.toNatClampNeg + 5 * x1.toNatClampNeg)).toInt (v 1 (38 + 7 * x0.toNatClampNeg)).toNatClampNeg → (r = u 7 x1.toNatClampNeg ∧ 0 ≤ r.toInt ∧ lmin (v 1 (38 + 7 * x0.toNatClampNeg)).toNatClampNeg (alw (fun t k => (v 1 (158 + k + 25 * x0.toNatClampNeg + 5 * t)).toInt) (v 1 (158 + 25 * x0.toNatClampNeg + 5 * x1.toNatClampNeg)).toInt (v 1 (38 + 7 * x0.toNatClampNeg)).toNatClampNeg) (own (fun t k => (v 1 (158 + k + 25 * x0.toNatClampNeg + 5 * t)).toInt) (v 1 (158 + 25 * x0.toNatClampNeg + 5 * x1.toNatClampNeg)).toInt) (fun q => (u 7 q).toNatClampNeg)) ∧ Fq v u)) (fun u t => ex_Pst dC dI (va_A (wm ad cy v) sz) (wm ad cy u) t) (va_A (wm ad cy v) sz)) 0 0 (va_A (wm ad cy v) sz) := by
  refine Met.ofW (cc := cX8_hour) (maxL := 4) (ret := (some .int)) (by decide) rfl ?_
  intro p e s m args below meth c s₁ B hml hv
  obtain ⟨rfl, hsz, hE, hP, hK, hD0⟩ := hv
  have hx := B.exec
  have hb := B.bytes
  have hr := B.returns
  have hts := atoms_spec (ws := wsX8_hour) B.pre
  have hown : s.vm.findClass RX8 = some m.cls := findClass_of_methodNamed B.named
  have hlocks := B.notSynchronized
  subst hsz
  have hD := hD0.self (sz := s.heap.size)
  generalize hAe : va_A (wm ad cy v) s.heap.size = A at hD ⊢
  have hA : ∀ q : Nat, s.heap.size ≤ q → A q := fun q h => by rw [← hAe]; exact Or.inr h
  have hS : va_S A s.heap s.heap [] := va_S.rf
  have hP : va_P (dC, dI) vwCl (wm ad cy v) s.heap := hP
  have hl := lv_entry ([.ref (ad 0), .int x0, .int x1]) (n := 4) (Nat.le_of_ble_eq_true rfl)
  rw [lg_entry_eq]
  generalize (lg_sl ([.ref (ad 0), .int x0, .int x1]) ++ List.replicate (4 - (lg_sl ([.ref (ad 0), .int x0, .int x1])).length) Slot.unset).toArray = ls at hl ⊢
  have hl : lv_has ls 4 [(0, .ref (ad 0)), (1, .int x0), (2, .int x1)] := hl
  obtain ⟨DD, eDD⟩ : ∃ f : Nat → Nat → Int, f = fun t k => (v 1 (158 + k + 25 * x0.toNatClampNeg + 5 * t)).toInt := ⟨_, rfl⟩
  refine lv_aload_n hx hb dX8_hour_0 rfl (lv_at hl 0 rfl) ?_
  refine lv_iload_n hx hb dX8_hour_1 rfl (lv_at hl 1 rfl) ?_
  refine lv_iload_n hx hb dX8_hour_2 rfl (lv_at hl 2 rfl) ?_
  refine yw_i (w1 := fun (u : Nat → Nat → Int32) => wm ad cy u) hD hS hA (va_runV (As := [.int x0, .int x1]) (rest := []) ⟨hx, hb, hml, hown, hts⟩ (e_X8_isTerm l dC dI cy _ ad v hv x0 x1) (cwV 2 hts gX8_hour_X8_isTerm rfl rfl rfl (by decide +kernel) ⟨Nat.le_of_ble_eq_true rfl, Nat.le_of_ble_eq_true rfl⟩) (yw_preV hE hK hP hD (ci := 8) (q0 := 0) rfl (wm_at (by decide) rc_0)) rfl rfl hl.1 rfl (lv_room (Nat.le_of_ble_eq_true rfl)) dX8_hour_3 ⟨Nat.le_of_ble_eq_true rfl, Nat.le_of_ble_eq_true rfl⟩) (fun r_1 v_1 H locs hw_1 hP hD hS => ?_)
  obtain ⟨-, hu_1, hw_1⟩ := hw_1
  replace hu_1 := hu_1.symm
  subst hu_1
  rcases hw_1 with ⟨rfl, ha_2⟩ | ⟨rfl, ha_2⟩
  · have hb_2 := hv 1 2 6 (by decide)
    have hj_2 : 0 ≤ x0.toInt ∧ x0.toInt ≤ 5 := ⟨by omega, by omega⟩
    have zn_x0 : (x0.toNatClampNeg : Int) = x0.toInt := t_nn (by omega)
    have hg_2 := hv 1 (38 + 7 * x0.toNatClampNeg) 5 (bS_c (by omega) (by omega))
    have hl_2 : 0 ≤ x1.toInt ∧ x1.toInt ≤ 4 := ⟨by omega, by omega⟩
    refine lv_if_ne (tgt := 11) hx hb dX8_hour_6 (by decide) (fun _ => ?_) (fun c9 => absurd c9 (by decide))
    refine lv_aload_n hx hb dX8_hour_11 rfl (lv_at hl 0 rfl) ?_
    refine va_get (D := (dC, dI)) (ci := 8) (v := .ref (ad 1)) (C := RX8) (T := TX8) (N := 11) hx hb hts (by decide +kernel) hown hK hP (0) (wm_at (by decide) rc_0) rfl 0 (by decide) (hts (.fieldLink RX8 7 "QuietStairsModel" "s" "[I") (by decide +kernel)) (fun _ h9 => h9) rfl dX8_hour_12 ?_
    refine lv_iload_n hx hb dX8_hour_15 rfl (lv_at hl 1 rfl) ?_
    refine lv_iload_n hx hb dX8_hour_16 rfl (lv_at hl 2 rfl) ?_
    refine yc_p hP hS (va_runS (As := [.int x0, .int x1]) (rest := [.ref (ad 1)]) ⟨hx, hb, hml, hown, hts⟩ (c_X8_termAt l x0 x1) (cwS 2 hts gX8_hour_X8_termAt rfl rfl rfl (by decide +kernel) ⟨Nat.le_of_ble_eq_true rfl, Nat.le_of_ble_eq_true rfl⟩) ex_preP rfl rfl hl.1 rfl (lv_room (Nat.le_of_ble_eq_true rfl)) dX8_hour_17 ⟨Nat.le_of_ble_eq_true rfl, Nat.le_of_ble_eq_true rfl⟩) (fun r_3 H locs hw_3 hP hS => ?_)
    have tr_3 : r_3.toInt = 158 + 25 * x0.toInt + 5 * x1.toInt := t_tm hw_3 ⟨by omega, by omega⟩ ⟨by omega, by omega⟩
    have zn_x1 : (x1.toNatClampNeg : Int) = x1.toInt := t_nn (by omega)
    have nr_3 : r_3.toNatClampNeg = 158 + 25 * x0.toNatClampNeg + 5 * x1.toNatClampNeg := by have z1 := t_nn (x := r_3) (by omega); omega
    refine va_iald hx hb hK hP (1) 0 (wm_at (by decide) rc_1) rfl (vp_in_iff.mpr ⟨by omega, by omega⟩) dX8_hour_20 ?_
    refine lv_topi (fun x_4 ex_4 => ?_)
    have bzx_4 : 0 ≤ x_4.toInt ∧ x_4.toInt ≤ 1 := by rw [ex_4]; exact hv 1 _ 1 (bx_t0 (i := 5 * x0.toInt + x1.toInt) (s := 0) (by omega) ⟨by omega, by omega⟩ (by omega))
    rw [nr_3] at ex_4
    have qx_4 : x_4.toInt = (v 1 (158 + 25 * x0.toNatClampNeg + 5 * x1.toNatClampNeg)).toInt := congrArg Int32.toInt ex_4
    refine lv_istore_n (lv' := [(3, .int x_4), (0, .ref (ad 0)), (1, .int x0), (2, .int x1)]) hx hb dX8_hour_21 rfl hl (by decide) rfl (fun ls hl => ?_)
    refine lv_aload_n hx hb dX8_hour_22 rfl (lv_at hl 1 rfl) ?_
    refine va_get (D := (dC, dI)) (ci := 8) (v := .ref (ad 1)) (C := RX8) (T := TX8) (N := 11) hx hb hts (by decide +kernel) hown hK hP (0) (wm_at (by decide) rc_0) rfl 0 (by decide) (hts (.fieldLink RX8 7 "QuietStairsModel" "s" "[I") (by decide +kernel)) (fun _ h9 => h9) rfl dX8_hour_23 ?_
    refine lv_iload_n hx hb dX8_hour_26 rfl (lv_at hl 2 rfl) ?_
    refine lv_iload_n hx hb dX8_hour_27 rfl (lv_at hl 3 rfl) ?_
    refine yc_p hP hS (va_runS (As := [.int x0, .int x1]) (rest := [.ref (ad 1)]) ⟨hx, hb, hml, hown, hts⟩ (c_X8_termAt l x0 x1) (cwS 2 hts gX8_hour_X8_termAt rfl rfl rfl (by decide +kernel) ⟨Nat.le_of_ble_eq_true rfl, Nat.le_of_ble_eq_true rfl⟩) ex_preP rfl rfl hl.1 rfl (lv_room (Nat.le_of_ble_eq_true rfl)) dX8_hour_28 ⟨Nat.le_of_ble_eq_true rfl, Nat.le_of_ble_eq_true rfl⟩) (fun r_5 H locs hw_5 hP hS => ?_)
    obtain rfl : r_3 = r_5 := hw_3.trans hw_5.symm
    refine lv_iconst (v := 1) hx hb dX8_hour_31 (by decide) ?_
    refine lv_iadd hx hb dX8_hour_32 ?_
    refine lv_topi (fun x_6 ex_6 => ?_)
    have k_1 : (1 : Int32).toInt = 1 := by decide
    have tx_6 : x_6.toInt = r_3.toInt + (1 : Int32).toInt := by rw [ex_6]; exact t_add ⟨by omega, by omega⟩
    have nx_6 : x_6.toNatClampNeg = 159 + 25 * x0.toNatClampNeg + 5 * x1.toNatClampNeg := by have z1 := t_nn (x := x_6) (by omega); omega
    refine va_iald hx hb hK hP (1) 0 (wm_at (by decide) rc_1) rfl (vp_in_iff.mpr ⟨by omega, by omega⟩) dX8_hour_33 ?_
    refine lv_topi (fun x_7 ex_7 => ?_)
    have bzx_7 : 0 ≤ x_7.toInt ∧ x_7.toInt ≤ 1 := by rw [ex_7]; exact hv 1 _ 1 (bx_t0 (i := 5 * x0.toInt + x1.toInt) (s := 1) (by omega) ⟨by omega, by omega⟩ (by omega))
    rw [nx_6] at ex_7
    have qx_7 : x_7.toInt = (v 1 (159 + 25 * x0.toNatClampNeg + 5 * x1.toNatClampNeg)).toInt := congrArg Int32.toInt ex_7
    have k_0 : (0 : Int32).toInt = 0 := by decide
    refine lv_if_ne (tgt := 40) hx hb dX8_hour_34 (by decide) (fun c_8 => ?_) (fun c_8 => ?_)
    · have tc_8 : x_7.toInt ≠ (0 : Int32).toInt := fun q => absurd (Int32.toInt_inj.mp q) c_8
      refine lv_aload_n hx hb dX8_hour_40 rfl (lv_at hl 1 rfl) ?_
      refine lv_iload_n hx hb dX8_hour_41 rfl (lv_at hl 2 rfl) ?_
      refine lv_iload_n hx hb dX8_hour_42 rfl (lv_at hl 0 rfl) ?_
      refine lv_aload_n hx hb dX8_hour_43 rfl (lv_at hl 1 rfl) ?_
      refine va_get (D := (dC, dI)) (ci := 8) (v := .ref (ad 1)) (C := RX8) (T := TX8) (N := 11) hx hb hts (by decide +kernel) hown hK hP (0) (wm_at (by decide) rc_0) rfl 0 (by decide) (hts (.fieldLink RX8 7 "QuietStairsModel" "s" "[I") (by decide +kernel)) (fun _ h9 => h9) rfl dX8_hour_44 ?_
      refine lv_iload_n hx hb dX8_hour_47 rfl (lv_at hl 2 rfl) ?_
      refine lv_bipush (v := 6) hx hb dX8_hour_48 (by decide) ?_
      refine yc_p hP hS (va_runS (As := [.int x0, .int 6]) (rest := [.ref (ad 1), .int x_4, .int x0, .ref (ad 0)]) ⟨hx, hb, hml, hown, hts⟩ (c_X8_at l x0 6) (cwS 2 hts gX8_hour_X8_at rfl rfl rfl (by decide +kernel) ⟨Nat.le_of_ble_eq_true rfl, Nat.le_of_ble_eq_true rfl⟩) ex_preP rfl rfl hl.1 rfl (lv_room (Nat.le_of_ble_eq_true rfl)) dX8_hour_50 ⟨Nat.le_of_ble_eq_true rfl, Nat.le_of_ble_eq_true rfl⟩) (fun r_9 H locs hw_9 hP hS => ?_)
      have k_6 : (6 : Int32).toInt = 6 := by decide
      have tr_9 : r_9.toInt = 32 + 7 * x0.toInt + (6 : Int32).toInt := t_at hw_9 ⟨by omega, by omega⟩ ⟨by omega, by omega⟩
      have nr_9 : r_9.toNatClampNeg = 38 + 7 * x0.toNatClampNeg := by have z1 := t_nn (x := r_9) (by omega); omega
      refine va_iald hx hb hK hP (1) 0 (wm_at (by decide) rc_1) rfl (vp_in_iff.mpr ⟨by omega, by omega⟩) dX8_hour_53 ?_
      refine lv_topi (fun x_10 ex_10 => ?_)
      have bzx_10 : 0 ≤ x_10.toInt ∧ x_10.toInt ≤ 5 := by rw [ex_10]; exact hv 1 _ 5 (bx_4 (i := x0.toInt) (s := 6) (by omega) ⟨by omega, by omega⟩ (by omega))
      rw [nr_9] at ex_10
      have qx_10 : x_10.toInt = (v 1 (38 + 7 * x0.toNatClampNeg)).toInt := congrArg Int32.toInt ex_10
      refine yw_i (w1 := fun (u : Nat → Nat → Int32) => wm ad cy u) hD hS hA (va_runV (As := [.int x0, .int x_4, .int x_10]) (rest := []) ⟨hx, hb, hml, hown, hts⟩ (e_X8_makeTable l dC dI cy _ ad v hv x0 x_4 x_10 ⟨by omega, by omega⟩ ⟨by omega, by omega⟩) (cwV 3 hts gX8_hour_X8_makeTable rfl rfl rfl (by decide +kernel) ⟨Nat.le_of_ble_eq_true rfl, Nat.le_of_ble_eq_true rfl⟩) (yw_preV hE hK hP hD (ci := 8) (q0 := 0) rfl (wm_at (by decide) rc_0)) rfl rfl hl.1 rfl (lv_room (Nat.le_of_ble_eq_true rfl)) dX8_hour_54 ⟨Nat.le_of_ble_eq_true rfl, Nat.le_of_ble_eq_true rfl⟩) (fun r_11 v_11 H locs hw_11 hP hD hS => ?_)
      obtain ⟨hv, hf_11, hw_11⟩ := hw_11
      rcases hw_11 with ⟨rfl, hm_12⟩ | ⟨rfl, hm_12⟩
      · rw [← eDD] at hm_12
        have ht_12 : TB DD x_4.toInt x_10.toNatClampNeg := ⟨_, hm_12.1.1⟩
        refine lv_if_eq (tgt := 69) hx hb dX8_hour_57 (by decide) (fun c9 => absurd c9 (by decide)) (fun _ => ?_)
        refine lv_aload_n hx hb dX8_hour_60 rfl (lv_at hl 1 rfl) ?_
        refine va_get (D := (dC, dI)) (ci := 8) (v := .ref (ad 7)) (C := RX8) (T := TX8) (N := 11) hx hb hts (by decide +kernel) hown hK hP (0) (wm_at (by decide) rc_0) rfl 10 (by decide) (hts (.fieldLink RX8 32 "QuietStairsModel" "hours" "[I") (by decide +kernel)) (fun _ h9 => h9) rfl dX8_hour_61 ?_
        refine lv_iload_n hx hb dX8_hour_64 rfl (lv_at hl 3 rfl) ?_
        refine va_iald hx hb hK hP (7) 0 (wm_at (by decide) rc_7) rfl (vp_in_iff.mpr ⟨by omega, by omega⟩) dX8_hour_65 ?_
        refine lv_topi (fun x_13 ex_13 => ?_)
        have qx_13 : x_13.toInt = (v_11 7 (x1.toNatClampNeg)).toInt := congrArg Int32.toInt ex_13
        refine lv_goto (tgt := 71) hx hb dX8_hour_66 (by decide) ?_
        have htb : TB (fun t k => (v 1 (158 + k + 25 * x0.toNatClampNeg + 5 * t)).toInt) (v 1 (158 + 25 * x0.toNatClampNeg + 5 * x1.toNatClampNeg)).toInt (v 1 (38 + 7 * x0.toNatClampNeg)).toNatClampNeg := by rw [← eDD, ← ex_4, ← ex_10]; exact ht_12
        have zn_x_10 : (x_10.toNatClampNeg : Int) = x_10.toInt := t_nn (by omega)
        have how : own DD x_4.toInt x1.toNatClampNeg := ⟨by rw [eDD]; exact congrArg Int32.toInt ex_4.symm, by rw [eDD]; show (v 1 (159 + 25 * x0.toNatClampNeg + 5 * x1.toNatClampNeg)).toInt = 1; rw [← ex_7]; omega⟩
        have hpost : (¬ ((0 ≤ x0.toInt ∧ x0.toInt < (v 1 2).toInt) ∧ 0 ≤ x1.toInt ∧ x1.toInt < (v 1 (38 + 7 * x0.toNatClampNeg)).toInt) → (x_13 = -1) ∧ Fq v v_11) ∧ (((0 ≤ x0.toInt ∧ x0.toInt < (v 1 2).toInt) ∧ 0 ≤ x1.toInt ∧ x1.toInt < (v 1 (38 + 7 * x0.toNatClampNeg)).toInt) ∧ (v 1 (159 + 25 * x0.toNatClampNeg + 5 * x1.toNatClampNeg)).toInt = 0 → (x_13 = -4) ∧ Fq v v_11) ∧ ((((0 ≤ x0.toInt ∧ x0.toInt < (v 1 2).toInt) ∧ 0 ≤ x1.toInt ∧ x1.toInt < (v 1 (38 + 7 * x0.toNatClampNeg)).toInt) ∧ (v 1 (159 + 25 * x0.toNatClampNeg + 5 * x1.toNatClampNeg)).toInt ≠ 0) ∧ ¬ TB (fun t k => (v 1 (158 + k + 25 * x0.toNatClampNeg + 5 * t)).toInt) (v 1 (158 + 25 * x0.toNatClampNeg + 5 * x1.toNatClampNeg)).toInt (v 1 (38 + 7 * x0.toNatClampNeg)).toNatClampNeg → (x_13 = -5) ∧ Fq v v_11) ∧ ((((0 ≤ x0.toInt ∧ x0.toInt < (v 1 2).toInt) ∧ 0 ≤ x1.toInt ∧ x1.toInt < (v 1 (38 + 7 * x0.toNatClampNeg)).toInt) ∧ (v 1 (159 + 25 * x0.toNatClampNeg + 5 * x1.toNatClampNeg)).toInt ≠ 0) ∧ TB (fun t k => (v 1 (158 + k + 25 * x0.toNatClampNeg + 5 * t)).toInt) (v 1 (158 + 25 * x0.toNatClampNeg + 5 * x1.toNatClampNeg)).toInt (v 1 (38 + 7 * x0.toNatClampNeg)).toNatClampNeg → (x_13 = v_11 7 x1.toNatClampNeg ∧ 0 ≤ x_13.toInt ∧ lmin (v 1 (38 + 7 * x0.toNatClampNeg)).toNatClampNeg (alw (fun t k => (v 1 (158 + k + 25 * x0.toNatClampNeg + 5 * t)).toInt) (v 1 (158 + 25 * x0.toNatClampNeg + 5 * x1.toNatClampNeg)).toInt (v 1 (38 + 7 * x0.toNatClampNeg)).toNatClampNeg) (own (fun t k => (v 1 (158 + k + 25 * x0.toNatClampNeg + 5 * t)).toInt) (v 1 (158 + 25 * x0.toNatClampNeg + 5 * x1.toNatClampNeg)).toInt) (fun q => (v_11 7 q).toNatClampNeg)) ∧ Fq v v_11) := by
          refine ⟨fun hq => ?_, fun hq => ?_, fun hq => ?_, fun hq => ?_⟩
          · exfalso; omega
          · exfalso; omega
          · exact absurd htb hq.2
          · refine ⟨⟨ex_13, by rw [ex_13]; exact hm_12.2 _ (by omega) how, by rw [← eDD, ← ex_4, ← ex_10]; exact hm_12.1⟩, hf_11⟩
        exact W.iret (v := x_13) hx hb hr (fun t ht hW => ⟨⟨x_13, v_11, rfl, ⟨hv, hpost⟩, by rw [ht]; exact hP, hD⟩, hS.F ht⟩) hS.2.2 dX8_hour_71
      · rw [← eDD] at hm_12
        have ht_12 := hm_12
        refine lv_if_eq (tgt := 69) hx hb dX8_hour_57 (by decide) (fun _ => ?_) (fun c9 => absurd c9 (by decide))
        refine lv_bipush (v := (-5)) hx hb dX8_hour_69 (by decide) ?_
        have htb : ¬ TB (fun t k => (v 1 (158 + k + 25 * x0.toNatClampNeg + 5 * t)).toInt) (v 1 (158 + 25 * x0.toNatClampNeg + 5 * x1.toNatClampNeg)).toInt (v 1 (38 + 7 * x0.toNatClampNeg)).toNatClampNeg := by rw [← eDD, ← ex_4, ← ex_10]; exact ht_12
        have hpost : (¬ ((0 ≤ x0.toInt ∧ x0.toInt < (v 1 2).toInt) ∧ 0 ≤ x1.toInt ∧ x1.toInt < (v 1 (38 + 7 * x0.toNatClampNeg)).toInt) → (((-5) : Int32) = -1) ∧ Fq v v_11) ∧ (((0 ≤ x0.toInt ∧ x0.toInt < (v 1 2).toInt) ∧ 0 ≤ x1.toInt ∧ x1.toInt < (v 1 (38 + 7 * x0.toNatClampNeg)).toInt) ∧ (v 1 (159 + 25 * x0.toNatClampNeg + 5 * x1.toNatClampNeg)).toInt = 0 → (((-5) : Int32) = -4) ∧ Fq v v_11) ∧ ((((0 ≤ x0.toInt ∧ x0.toInt < (v 1 2).toInt) ∧ 0 ≤ x1.toInt ∧ x1.toInt < (v 1 (38 + 7 * x0.toNatClampNeg)).toInt) ∧ (v 1 (159 + 25 * x0.toNatClampNeg + 5 * x1.toNatClampNeg)).toInt ≠ 0) ∧ ¬ TB (fun t k => (v 1 (158 + k + 25 * x0.toNatClampNeg + 5 * t)).toInt) (v 1 (158 + 25 * x0.toNatClampNeg + 5 * x1.toNatClampNeg)).toInt (v 1 (38 + 7 * x0.toNatClampNeg)).toNatClampNeg → (((-5) : Int32) = -5) ∧ Fq v v_11) ∧ ((((0 ≤ x0.toInt ∧ x0.toInt < (v 1 2).toInt) ∧ 0 ≤ x1.toInt ∧ x1.toInt < (v 1 (38 + 7 * x0.toNatClampNeg)).toInt) ∧ (v 1 (159 + 25 * x0.toNatClampNeg + 5 * x1.toNatClampNeg)).toInt ≠ 0) ∧ TB (fun t k => (v 1 (158 + k + 25 * x0.toNatClampNeg + 5 * t)).toInt) (v 1 (158 + 25 * x0.toNatClampNeg + 5 * x1.toNatClampNeg)).toInt (v 1 (38 + 7 * x0.toNatClampNeg)).toNatClampNeg → (((-5) : Int32) = v_11 7 x1.toNatClampNeg ∧ 0 ≤ ((-5) : Int32).toInt ∧ lmin (v 1 (38 + 7 * x0.toNatClampNeg)).toNatClampNeg (alw (fun t k => (v 1 (158 + k + 25 * x0.toNatClampNeg + 5 * t)).toInt) (v 1 (158 + 25 * x0.toNatClampNeg + 5 * x1.toNatClampNeg)).toInt (v 1 (38 + 7 * x0.toNatClampNeg)).toNatClampNeg) (own (fun t k => (v 1 (158 + k + 25 * x0.toNatClampNeg + 5 * t)).toInt) (v 1 (158 + 25 * x0.toNatClampNeg + 5 * x1.toNatClampNeg)).toInt) (fun q => (v_11 7 q).toNatClampNeg)) ∧ Fq v v_11) := by
          refine ⟨fun hq => ?_, fun hq => ?_, fun hq => ?_, fun hq => ?_⟩
          · exfalso; omega
          · exfalso; omega
          · exact ⟨rfl, hf_11⟩
          · exact absurd hq.2 htb
        exact W.iret (v := (-5)) hx hb hr (fun t ht hW => ⟨⟨(-5), v_11, rfl, ⟨hv, hpost⟩, by rw [ht]; exact hP, hD⟩, hS.F ht⟩) hS.2.2 dX8_hour_71
    · have tc_8 : x_7.toInt = (0 : Int32).toInt := by rw [c_8]
      refine lv_bipush (v := (-4)) hx hb dX8_hour_37 (by decide) ?_
      have hpost : (¬ ((0 ≤ x0.toInt ∧ x0.toInt < (v 1 2).toInt) ∧ 0 ≤ x1.toInt ∧ x1.toInt < (v 1 (38 + 7 * x0.toNatClampNeg)).toInt) → (((-4) : Int32) = -1) ∧ Fq v v) ∧ (((0 ≤ x0.toInt ∧ x0.toInt < (v 1 2).toInt) ∧ 0 ≤ x1.toInt ∧ x1.toInt < (v 1 (38 + 7 * x0.toNatClampNeg)).toInt) ∧ (v 1 (159 + 25 * x0.toNatClampNeg + 5 * x1.toNatClampNeg)).toInt = 0 → (((-4) : Int32) = -4) ∧ Fq v v) ∧ ((((0 ≤ x0.toInt ∧ x0.toInt < (v 1 2).toInt) ∧ 0 ≤ x1.toInt ∧ x1.toInt < (v 1 (38 + 7 * x0.toNatClampNeg)).toInt) ∧ (v 1 (159 + 25 * x0.toNatClampNeg + 5 * x1.toNatClampNeg)).toInt ≠ 0) ∧ ¬ TB (fun t k => (v 1 (158 + k + 25 * x0.toNatClampNeg + 5 * t)).toInt) (v 1 (158 + 25 * x0.toNatClampNeg + 5 * x1.toNatClampNeg)).toInt (v 1 (38 + 7 * x0.toNatClampNeg)).toNatClampNeg → (((-4) : Int32) = -5) ∧ Fq v v) ∧ ((((0 ≤ x0.toInt ∧ x0.toInt < (v 1 2).toInt) ∧ 0 ≤ x1.toInt ∧ x1.toInt < (v 1 (38 + 7 * x0.toNatClampNeg)).toInt) ∧ (v 1 (159 + 25 * x0.toNatClampNeg + 5 * x1.toNatClampNeg)).toInt ≠ 0) ∧ TB (fun t k => (v 1 (158 + k + 25 * x0.toNatClampNeg + 5 * t)).toInt) (v 1 (158 + 25 * x0.toNatClampNeg + 5 * x1.toNatClampNeg)).toInt (v 1 (38 + 7 * x0.toNatClampNeg)).toNatClampNeg → (((-4) : Int32) = v 7 x1.toNatClampNeg ∧ 0 ≤ ((-4) : Int32).toInt ∧ lmin (v 1 (38 + 7 * x0.toNatClampNeg)).toNatClampNeg (alw (fun t k => (v 1 (158 + k + 25 * x0.toNatClampNeg + 5 * t)).toInt) (v 1 (158 + 25 * x0.toNatClampNeg + 5 * x1.toNatClampNeg)).toInt (v 1 (38 + 7 * x0.toNatClampNeg)).toNatClampNeg) (own (fun t k => (v 1 (158 + k + 25 * x0.toNatClampNeg + 5 * t)).toInt) (v 1 (158 + 25 * x0.toNatClampNeg + 5 * x1.toNatClampNeg)).toInt) (fun q => (v 7 q).toNatClampNeg)) ∧ Fq v v) := by
        refine ⟨fun hq => ?_, fun hq => ?_, fun hq => ?_, fun hq => ?_⟩
        · exfalso; omega
        · exact ⟨rfl, Fq.rf⟩
        · exact absurd hq.1.2 (by omega)
        · exact absurd hq.1.2 (by omega)
      exact W.iret (v := (-4)) hx hb hr (fun t ht hW => ⟨⟨(-4), v, rfl, ⟨hv, hpost⟩, by rw [ht]; exact hP, hD⟩, hS.F ht⟩) hS.2.2 dX8_hour_39
  · refine lv_if_ne (tgt := 11) hx hb dX8_hour_6 (by decide) (fun c9 => absurd c9 (by decide)) (fun _ => ?_)
    refine lv_iconst (v := (-1)) hx hb dX8_hour_9 (by decide) ?_
    have hpost : (¬ ((0 ≤ x0.toInt ∧ x0.toInt < (v 1 2).toInt) ∧ 0 ≤ x1.toInt ∧ x1.toInt < (v 1 (38 + 7 * x0.toNatClampNeg)).toInt) → (((-1) : Int32) = -1) ∧ Fq v v) ∧ (((0 ≤ x0.toInt ∧ x0.toInt < (v 1 2).toInt) ∧ 0 ≤ x1.toInt ∧ x1.toInt < (v 1 (38 + 7 * x0.toNatClampNeg)).toInt) ∧ (v 1 (159 + 25 * x0.toNatClampNeg + 5 * x1.toNatClampNeg)).toInt = 0 → (((-1) : Int32) = -4) ∧ Fq v v) ∧ ((((0 ≤ x0.toInt ∧ x0.toInt < (v 1 2).toInt) ∧ 0 ≤ x1.toInt ∧ x1.toInt < (v 1 (38 + 7 * x0.toNatClampNeg)).toInt) ∧ (v 1 (159 + 25 * x0.toNatClampNeg + 5 * x1.toNatClampNeg)).toInt ≠ 0) ∧ ¬ TB (fun t k => (v 1 (158 + k + 25 * x0.toNatClampNeg + 5 * t)).toInt) (v 1 (158 + 25 * x0.toNatClampNeg + 5 * x1.toNatClampNeg)).toInt (v 1 (38 + 7 * x0.toNatClampNeg)).toNatClampNeg → (((-1) : Int32) = -5) ∧ Fq v v) ∧ ((((0 ≤ x0.toInt ∧ x0.toInt < (v 1 2).toInt) ∧ 0 ≤ x1.toInt ∧ x1.toInt < (v 1 (38 + 7 * x0.toNatClampNeg)).toInt) ∧ (v 1 (159 + 25 * x0.toNatClampNeg + 5 * x1.toNatClampNeg)).toInt ≠ 0) ∧ TB (fun t k => (v 1 (158 + k + 25 * x0.toNatClampNeg + 5 * t)).toInt) (v 1 (158 + 25 * x0.toNatClampNeg + 5 * x1.toNatClampNeg)).toInt (v 1 (38 + 7 * x0.toNatClampNeg)).toNatClampNeg → (((-1) : Int32) = v 7 x1.toNatClampNeg ∧ 0 ≤ ((-1) : Int32).toInt ∧ lmin (v 1 (38 + 7 * x0.toNatClampNeg)).toNatClampNeg (alw (fun t k => (v 1 (158 + k + 25 * x0.toNatClampNeg + 5 * t)).toInt) (v 1 (158 + 25 * x0.toNatClampNeg + 5 * x1.toNatClampNeg)).toInt (v 1 (38 + 7 * x0.toNatClampNeg)).toNatClampNeg) (own (fun t k => (v 1 (158 + k + 25 * x0.toNatClampNeg + 5 * t)).toInt) (v 1 (158 + 25 * x0.toNatClampNeg + 5 * x1.toNatClampNeg)).toInt) (fun q => (v 7 q).toNatClampNeg)) ∧ Fq v v) := by
      refine ⟨fun hq => ?_, fun hq => ?_, fun hq => ?_, fun hq => ?_⟩
      · exact ⟨rfl, Fq.rf⟩
      · exact absurd hq.1 (by omega)
      · exact absurd hq.1.1 (by omega)
      · exact absurd hq.1.1 (by omega)
    exact W.iret (v := (-1)) hx hb hr (fun t ht hW => ⟨⟨(-1), v, rfl, ⟨hv, hpost⟩, by rw [ht]; exact hP, hD⟩, hS.F ht⟩) hS.2.2 dX8_hour_10
