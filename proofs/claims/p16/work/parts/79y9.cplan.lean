
set_option maxHeartbeats 4000000 in
set_option maxRecDepth 100000 in
theorem e_X7_waits (l : Launch) (dC : Nat → ClassId) (dI : Nat → Nat → Nat) (cy : Nat → ClassId) (sz : Nat) (ad : Nat → Nat) (kv : Value) (N : Nat) (hN : 119 ≤ N) (v : Nat → Nat → Int32) (hv : Iv v) (hW : ∀ c : Nat, c < (v 13 2).toNatClampNeg → 1 ≤ (v (29 + 15 * c) 3).toInt ∧ (v (29 + 15 * c) 3).toInt ≤ 9) (t1 t2 : Nat) : Met l yX7_waits wsX7_waits ({ frames := 11, cells := 0, slots := 0, locals := 704 }) (va_Pc [.ref (ad 0)] (ex_PreT dC dI cy sz (wl ad kv cy N v) t1 t2)) (va_Qi (fun (r : Int32) (u : Nat → Nat → Int32) => Iv u ∧ Fz v u ∧ PL9 v u (v 0 4).toInt ∧ r.toInt = plL u) (fun u t => ex_Pst dC dI (va_A (wl ad kv cy N v) sz) (wl ad kv cy N u) t) (va_A (wl ad kv cy N v) sz)) 0 0 (va_A (wl ad kv cy N v) sz) := by
  refine Met.ofW (cc := cX7_waits) (maxL := 1) (ret := (some .int)) (by decide) rfl ?_
  intro p e s m args below meth c s₁ B hml hv
  obtain ⟨rfl, ⟨hsz, hE, hP, hK, hD0⟩, hSt⟩ := hv
  have hx := B.exec
  have hb := B.bytes
  have hr := B.returns
  have hts := atoms_spec (ws := wsX7_waits) B.pre
  have hown : s.vm.findClass RX7 = some m.cls := findClass_of_methodNamed B.named
  have hlocks := B.notSynchronized
  subst hsz
  have hD := hD0.self (sz := s.heap.size)
  generalize hAe : va_A (wl ad kv cy N v) s.heap.size = A at hD hSt ⊢
  have hA : ∀ q : Nat, s.heap.size ≤ q → A q := fun q h => by rw [← hAe]; exact Or.inr h
  have hS : va_S A s.heap s.heap [] := va_S.rf
  have hP : va_P (dC, dI) vwCl (wl ad kv cy N v) s.heap := hP
  have hl := lv_entry ([.ref (ad 0)]) (n := 1) (Nat.le_of_ble_eq_true rfl)
  rw [lg_entry_eq]
  generalize (lg_sl ([.ref (ad 0)]) ++ List.replicate (1 - (lg_sl ([.ref (ad 0)])).length) Slot.unset).toArray = ls at hl ⊢
  have hl : lv_has ls 1 [(0, .ref (ad 0))] := hl
  refine lv_aload_n hx hb dX7_waits_0 rfl (lv_at hl 0 rfl) ?_
  refine va_get (D := (dC, dI)) (ci := 7) (v := .ref (ad 1)) (C := RX7) (T := TX7) (N := 5) hx hb hts (by decide +kernel) hown hK hP (0) (wl_at (by omega) (ce_0 (by decide))) rfl 1 (by decide) (hts (.fieldLink RX7 19 "QuietStairs" "planner" "LQuietStairs$Planner;") (by decide +kernel)) (fun _ h9 => h9) rfl dX7_waits_1 ?_
  refine lv_aload_n hx hb dX7_waits_4 rfl (lv_at hl 0 rfl) ?_
  refine va_get (D := (dC, dI)) (ci := 7) (v := .ref (ad 13)) (C := RX7) (T := TX7) (N := 5) hx hb hts (by decide +kernel) hown hK hP (0) (wl_at (by omega) (ce_0 (by decide))) rfl 0 (by decide) (hts (.fieldLink RX7 12 "QuietStairs" "now" "LQuietStairs$House;") (by decide +kernel)) (fun _ h9 => h9) rfl dX7_waits_5 ?_
  refine lv_aload_n hx hb dX7_waits_8 rfl (lv_at hl 0 rfl) ?_
  refine va_get (D := (dC, dI)) (ci := 7) (v := .int (v (0) 4)) (C := RX7) (T := TX7) (N := 5) hx hb hts (by decide +kernel) hown hK hP (0) (wl_at (by omega) (ce_0 (by decide))) rfl 4 (by decide) (hts (.fieldLink RX7 33 "QuietStairs" "roomCount" "I") (by decide +kernel)) (fun _ h9 => h9) rfl dX7_waits_9 ?_
  refine lv_topi (fun x_1 ex_1 => ?_)
  have qx_1 : x_1.toInt = (v (0) (4)).toInt := congrArg Int32.toInt ex_1
  refine yw_v (w1 := fun (u : Nat → Nat → Int32) => wl ad kv cy N u) hD hS hA (va_runV (As := [.ref (ad 13), .int x_1]) (rest := []) ⟨hx, hb, hml, hown, hts⟩ (e_X4_findPlan l dC dI cy _ ad kv N hN v hv x_1 hW t1 t2) (cwV 2 hts gX7_waits_X4_findPlan rfl rfl rfl (by decide +kernel) ⟨Nat.le_of_ble_eq_true rfl, Nat.le_of_ble_eq_true rfl⟩) ⟨ex_blindT, va_recv hK hP (ci := 4) (q0 := 1) rfl (wl_at (by omega) (ce_1 (by decide))), fun U hU hW => ⟨rfl, ((yw_preS (As := []) hE hK hP hD).2 U hU hW).2, hSt.go hS (yw_F hD hS hA) hU hW⟩⟩ rfl rfl hl.1 rfl (lv_room (Nat.le_of_ble_eq_true rfl)) dX7_waits_12 ⟨Nat.le_of_ble_eq_true rfl, Nat.le_of_ble_eq_true rfl⟩) (fun v_2 H locs hw_2 hP hD hS => ?_)
  obtain ⟨hv, hw_2⟩ := hw_2
  have hpl : PL9 v v_2 (v 0 4).toInt := by rw [← ex_1]; exact hw_2
  have hfz : Fz v v_2 := ⟨hpl.1.2, fun k hk => hpl.1.1 k (by omega)⟩
  refine lv_aload_n hx hb dX7_waits_15 rfl (lv_at hl 0 rfl) ?_
  refine va_get (D := (dC, dI)) (ci := 7) (v := .ref (ad 1)) (C := RX7) (T := TX7) (N := 5) hx hb hts (by decide +kernel) hown hK hP (0) (wl_at (by omega) (ce_0 (by decide))) rfl 1 (by decide) (hts (.fieldLink RX7 19 "QuietStairs" "planner" "LQuietStairs$Planner;") (by decide +kernel)) (fun _ h9 => h9) rfl dX7_waits_16 ?_
  refine va_get (D := (dC, dI)) (ci := 4) (v := .int (v_2 (1) 0)) (C := RX4) (T := TX4) (N := 11) hx hb hts (by decide +kernel) hown hK hP (1) (wl_at (by omega) (ce_1 (by decide))) rfl 0 (by decide) (hts (.fieldLink RX7 163 "QuietStairs$Planner" "leastWait" "I") (by decide +kernel)) (fun _ h9 => h9) rfl dX7_waits_19 ?_
  refine lv_topi (fun x_3 ex_3 => ?_)
  have qx_3 : x_3.toInt = (v_2 (1) (0)).toInt := congrArg Int32.toInt ex_3
  exact W.iret (v := x_3) hx hb hr (fun t ht hW => ⟨⟨x_3, v_2, rfl, ⟨hv, hfz, hpl, by rw [ex_3]; rfl⟩, by rw [ht]; exact hP, hD⟩, hS.F ht⟩) hS.2.2 dX7_waits_22

set_option maxHeartbeats 4000000 in
set_option maxRecDepth 100000 in
theorem e_X7_plan (l : Launch) (dC : Nat → ClassId) (dI : Nat → Nat → Nat) (cy : Nat → ClassId) (sz : Nat) (ad : Nat → Nat) (kv : Value) (N : Nat) (hN : 119 ≤ N) (v : Nat → Nat → Int32) (hv : Iv v) (x0 : Int32) (hW : ∀ c : Nat, c < (v 13 2).toNatClampNeg → 1 ≤ (v (29 + 15 * c) 3).toInt ∧ (v (29 + 15 * c) 3).toInt ≤ 9) (t1 t2 : Nat) : Met l yX7_plan wsX7_plan ({ frames := 11, cells := 0, slots := 0, locals := 704 }) (va_Pc [.ref (ad 0), .int x0] (ex_PreT dC dI cy sz (wl ad kv cy N v) t1 t2)) (va_Qi (fun (r : Int32) (u : Nat → Nat → Int32) => Iv u ∧ (¬ (0 ≤ x0.toInt ∧ x0.toInt < (v 13 2).toInt) → (r = -1) ∧ Fz v u) ∧ ((0 ≤ x0.toInt ∧ x0.toInt < (v 13 2).toInt) ∧ (v (29 + 15 * x0.toNatClampNeg) 0).toInt ≠ 0 → (r = -4) ∧ Fz v u) ∧ ((0 ≤ x0.toInt ∧ x0.toInt < (v 13 2).toInt) ∧ (v (29 + 15 * x0.toNatClampNeg) 0).toInt = 0 → (PL9 v u (v 0 4).toInt ∧ ((∃ k : Nat, ((k : Int) < (u 1 1).toInt ∧ (u 2 k).toInt = x0.toInt) ∧ r = u 7 k ∧ (u 7 k).toInt ≠ 18) ∨ (r = -5 ∧ ∀ k : Nat, (k : Int) < (u 1 1).toInt → (u 2 k).toInt = x0.toInt → (u 7 k).toInt = 18))) ∧ Fz v u)) (fun u t => ex_Pst dC dI (va_A (wl ad kv cy N v) sz) (wl ad kv cy N u) t) (va_A (wl ad kv cy N v) sz)) 0 0 (va_A (wl ad kv cy N v) sz) := by
  refine Met.ofW (cc := cX7_plan) (maxL := 2) (ret := (some .int)) (by decide) rfl ?_
  intro p e s m args below meth c s₁ B hml hv
  obtain ⟨rfl, ⟨hsz, hE, hP, hK, hD0⟩, hSt⟩ := hv
  have hx := B.exec
  have hb := B.bytes
  have hr := B.returns
  have hts := atoms_spec (ws := wsX7_plan) B.pre
  have hown : s.vm.findClass RX7 = some m.cls := findClass_of_methodNamed B.named
  have hlocks := B.notSynchronized
  subst hsz
  have hD := hD0.self (sz := s.heap.size)
  generalize hAe : va_A (wl ad kv cy N v) s.heap.size = A at hD hSt ⊢
  have hA : ∀ q : Nat, s.heap.size ≤ q → A q := fun q h => by rw [← hAe]; exact Or.inr h
  have hS : va_S A s.heap s.heap [] := va_S.rf
  have hP : va_P (dC, dI) vwCl (wl ad kv cy N v) s.heap := hP
  have hl := lv_entry ([.ref (ad 0), .int x0]) (n := 2) (Nat.le_of_ble_eq_true rfl)
  rw [lg_entry_eq]
  generalize (lg_sl ([.ref (ad 0), .int x0]) ++ List.replicate (2 - (lg_sl ([.ref (ad 0), .int x0])).length) Slot.unset).toArray = ls at hl ⊢
  have hl : lv_has ls 2 [(0, .ref (ad 0)), (1, .int x0)] := hl
  refine lv_aload_n hx hb dX7_plan_0 rfl (lv_at hl 0 rfl) ?_
  refine lv_iload_n hx hb dX7_plan_1 rfl (lv_at hl 1 rfl) ?_
  refine yw_i (w1 := fun (u : Nat → Nat → Int32) => wl ad kv cy N u) hD hS hA (va_runV (As := [.int x0]) (rest := []) ⟨hx, hb, hml, hown, hts⟩ (g_X7_isCase l dC dI cy _ ad kv N hN v hv x0) (cwV 1 hts gX7_plan_X7_isCase rfl rfl rfl (by decide +kernel) ⟨Nat.le_of_ble_eq_true rfl, Nat.le_of_ble_eq_true rfl⟩) (yw_preV hE hK hP hD (ci := 7) (q0 := 0) rfl (wl_at (by omega) (ce_0 (by decide)))) rfl rfl hl.1 rfl (lv_room (Nat.le_of_ble_eq_true rfl)) dX7_plan_2 ⟨Nat.le_of_ble_eq_true rfl, Nat.le_of_ble_eq_true rfl⟩) (fun r_1 v_1 H locs hw_1 hP hD hS => ?_)
  obtain ⟨-, hu_1, hw_1⟩ := hw_1
  replace hu_1 := hu_1.symm
  subst hu_1
  rcases hw_1 with ⟨rfl, ha_2⟩ | ⟨rfl, ha_2⟩
  · have hb_2 := hv.at (k := 13) (j := 2) (K := 3) (by decide) rfl
    have hj_2 : 0 ≤ x0.toInt ∧ x0.toInt ≤ 5 := ⟨by omega, by omega⟩
    refine lv_if_ne (tgt := 10) hx hb dX7_plan_5 (by decide) (fun _ => ?_) (fun c9 => absurd c9 (by decide))
    refine lv_aload_n hx hb dX7_plan_10 rfl (lv_at hl 0 rfl) ?_
    refine va_get (D := (dC, dI)) (ci := 7) (v := .ref (ad 13)) (C := RX7) (T := TX7) (N := 5) hx hb hts (by decide +kernel) hown hK hP (0) (wl_at (by omega) (ce_0 (by decide))) rfl 0 (by decide) (hts (.fieldLink RX7 12 "QuietStairs" "now" "LQuietStairs$House;") (by decide +kernel)) (fun _ h9 => h9) rfl dX7_plan_11 ?_
    refine va_get (D := (dC, dI)) (ci := 1) (v := .ref (ad 16)) (C := RX1) (T := TX1) (N := 7) hx hb hts (by decide +kernel) hown hK hP (13) (wl_at (by omega) (ce_3 (by decide))) rfl 6 (by decide) (hts (.fieldLink RX7 86 "QuietStairs$House" "cases" "[LQuietStairs$Case;") (by decide +kernel)) (fun _ h9 => h9) rfl dX7_plan_14 ?_
    refine lv_iload_n hx hb dX7_plan_17 rfl (lv_at hl 1 rfl) ?_
    have zn_x0 : (x0.toNatClampNeg : Int) = x0.toInt := t_nn (by omega)
    have hx_3 : x0.toNatClampNeg < 6 := by omega
    refine va_aldq hx hb hK hP (16) 3 (wl_at (by omega) (ce_6 (by decide))) rfl (vp_in_iff.mpr ⟨by omega, by omega⟩) dX7_plan_18 ?_
    refine W.eq (g2 := F0 m 19 ls [.ref (ad (29 + 15 * x0.toNatClampNeg))]) (by rw [if_pos hx_3, show 16 + 13 + 15 * x0.toNatClampNeg = 29 + 15 * x0.toNatClampNeg from by omega]; rfl) ?_
    refine va_get (D := (dC, dI)) (ci := 0) (v := .int (v (29 + 15 * x0.toNatClampNeg) 0)) (C := RX0) (T := TX0) (N := 11) hx hb hts (by decide +kernel) hown hK hP (29 + 15 * x0.toNatClampNeg) (wl_at (by omega) (ce_9 (kd_c _ hx_3).1.1)) rfl 0 (by decide) (hts (.fieldLink RX7 99 "QuietStairs$Case" "state" "I") (by decide +kernel)) (fun _ h9 => h9) rfl dX7_plan_19 ?_
    refine lv_topi (fun x_4 ex_4 => ?_)
    have qx_4 : x_4.toInt = (v (29 + 15 * x0.toNatClampNeg) (0)).toInt := congrArg Int32.toInt ex_4
    have k_0 : (0 : Int32).toInt = 0 := by decide
    refine lv_if_eq (tgt := 28) hx hb dX7_plan_22 (by decide) (fun c_5 => ?_) (fun c_5 => ?_)
    · have tc_5 : x_4.toInt = (0 : Int32).toInt := by rw [c_5]
      refine lv_aload_n hx hb dX7_plan_28 rfl (lv_at hl 0 rfl) ?_
      refine va_get (D := (dC, dI)) (ci := 7) (v := .ref (ad 1)) (C := RX7) (T := TX7) (N := 5) hx hb hts (by decide +kernel) hown hK hP (0) (wl_at (by omega) (ce_0 (by decide))) rfl 1 (by decide) (hts (.fieldLink RX7 19 "QuietStairs" "planner" "LQuietStairs$Planner;") (by decide +kernel)) (fun _ h9 => h9) rfl dX7_plan_29 ?_
      refine lv_aload_n hx hb dX7_plan_32 rfl (lv_at hl 0 rfl) ?_
      refine va_get (D := (dC, dI)) (ci := 7) (v := .ref (ad 13)) (C := RX7) (T := TX7) (N := 5) hx hb hts (by decide +kernel) hown hK hP (0) (wl_at (by omega) (ce_0 (by decide))) rfl 0 (by decide) (hts (.fieldLink RX7 12 "QuietStairs" "now" "LQuietStairs$House;") (by decide +kernel)) (fun _ h9 => h9) rfl dX7_plan_33 ?_
      refine lv_aload_n hx hb dX7_plan_36 rfl (lv_at hl 0 rfl) ?_
      refine va_get (D := (dC, dI)) (ci := 7) (v := .int (v (0) 4)) (C := RX7) (T := TX7) (N := 5) hx hb hts (by decide +kernel) hown hK hP (0) (wl_at (by omega) (ce_0 (by decide))) rfl 4 (by decide) (hts (.fieldLink RX7 33 "QuietStairs" "roomCount" "I") (by decide +kernel)) (fun _ h9 => h9) rfl dX7_plan_37 ?_
      refine lv_topi (fun x_6 ex_6 => ?_)
      have qx_6 : x_6.toInt = (v (0) (4)).toInt := congrArg Int32.toInt ex_6
      refine yw_v (w1 := fun (u : Nat → Nat → Int32) => wl ad kv cy N u) hD hS hA (va_runV (As := [.ref (ad 13), .int x_6]) (rest := []) ⟨hx, hb, hml, hown, hts⟩ (e_X4_findPlan l dC dI cy _ ad kv N hN v hv x_6 hW t1 t2) (cwV 2 hts gX7_plan_X4_findPlan rfl rfl rfl (by decide +kernel) ⟨Nat.le_of_ble_eq_true rfl, Nat.le_of_ble_eq_true rfl⟩) ⟨ex_blindT, va_recv hK hP (ci := 4) (q0 := 1) rfl (wl_at (by omega) (ce_1 (by decide))), fun U hU hW => ⟨rfl, ((yw_preS (As := []) hE hK hP hD).2 U hU hW).2, hSt.go hS (yw_F hD hS hA) hU hW⟩⟩ rfl rfl hl.1 rfl (lv_room (Nat.le_of_ble_eq_true rfl)) dX7_plan_40 ⟨Nat.le_of_ble_eq_true rfl, Nat.le_of_ble_eq_true rfl⟩) (fun v_7 H locs hw_7 hP hD hS => ?_)
      obtain ⟨hv, hw_7⟩ := hw_7
      have hpl : PL9 v v_7 (v 0 4).toInt := by rw [← ex_6]; exact hw_7
      have hfz : Fz v v_7 := ⟨hpl.1.2, fun k hk => hpl.1.1 k (by omega)⟩
      refine lv_aload_n hx hb dX7_plan_43 rfl (lv_at hl 0 rfl) ?_
      refine va_get (D := (dC, dI)) (ci := 7) (v := .ref (ad 1)) (C := RX7) (T := TX7) (N := 5) hx hb hts (by decide +kernel) hown hK hP (0) (wl_at (by omega) (ce_0 (by decide))) rfl 1 (by decide) (hts (.fieldLink RX7 19 "QuietStairs" "planner" "LQuietStairs$Planner;") (by decide +kernel)) (fun _ h9 => h9) rfl dX7_plan_44 ?_
      refine lv_iload_n hx hb dX7_plan_47 rfl (lv_at hl 1 rfl) ?_
      refine yw_i (w1 := fun (u : Nat → Nat → Int32) => wl ad kv cy N u) hD hS hA (va_runV (As := [.int x0]) (rest := []) ⟨hx, hb, hml, hown, hts⟩ (e_X4_seatOf l dC dI cy _ ad kv N hN v_7 hv x0) (cwV 1 hts gX7_plan_X4_seatOf rfl rfl rfl (by decide +kernel) ⟨Nat.le_of_ble_eq_true rfl, Nat.le_of_ble_eq_true rfl⟩) (yw_preV hE hK hP hD (ci := 4) (q0 := 1) rfl (wl_at (by omega) (ce_1 (by decide)))) rfl rfl hl.1 rfl (lv_room (Nat.le_of_ble_eq_true rfl)) dX7_plan_48 ⟨Nat.le_of_ble_eq_true rfl, Nat.le_of_ble_eq_true rfl⟩) (fun r_8 v_8 H locs hw_8 hP hD hS => ?_)
      obtain ⟨-, hu_8, hw_8⟩ := hw_8
      replace hu_8 := hu_8.symm
      subst hu_8
      have hpost : (¬ (0 ≤ x0.toInt ∧ x0.toInt < (v 13 2).toInt) → (r_8 = -1) ∧ Fz v v_7) ∧ ((0 ≤ x0.toInt ∧ x0.toInt < (v 13 2).toInt) ∧ (v (29 + 15 * x0.toNatClampNeg) 0).toInt ≠ 0 → (r_8 = -4) ∧ Fz v v_7) ∧ ((0 ≤ x0.toInt ∧ x0.toInt < (v 13 2).toInt) ∧ (v (29 + 15 * x0.toNatClampNeg) 0).toInt = 0 → (PL9 v v_7 (v 0 4).toInt ∧ ((∃ k : Nat, ((k : Int) < (v_7 1 1).toInt ∧ (v_7 2 k).toInt = x0.toInt) ∧ r_8 = v_7 7 k ∧ (v_7 7 k).toInt ≠ 18) ∨ (r_8 = -5 ∧ ∀ k : Nat, (k : Int) < (v_7 1 1).toInt → (v_7 2 k).toInt = x0.toInt → (v_7 7 k).toInt = 18))) ∧ Fz v v_7) := by
        refine ⟨fun hq => ?_, fun hq => ?_, fun hq => ?_⟩
        · exfalso; omega
        · exfalso; omega
        · exact ⟨⟨hpl, hw_8⟩, hfz⟩
      exact W.iret (v := r_8) hx hb hr (fun t ht hW => ⟨⟨r_8, v_7, rfl, ⟨hv, hpost⟩, by rw [ht]; exact hP, hD⟩, hS.F ht⟩) hS.2.2 dX7_plan_51
    · have tc_5 : x_4.toInt ≠ (0 : Int32).toInt := fun q => absurd (Int32.toInt_inj.mp q) c_5
      refine lv_bipush (v := (-4)) hx hb dX7_plan_25 (by decide) ?_
      have hpost : (¬ (0 ≤ x0.toInt ∧ x0.toInt < (v 13 2).toInt) → (((-4) : Int32) = -1) ∧ Fz v v) ∧ ((0 ≤ x0.toInt ∧ x0.toInt < (v 13 2).toInt) ∧ (v (29 + 15 * x0.toNatClampNeg) 0).toInt ≠ 0 → (((-4) : Int32) = -4) ∧ Fz v v) ∧ ((0 ≤ x0.toInt ∧ x0.toInt < (v 13 2).toInt) ∧ (v (29 + 15 * x0.toNatClampNeg) 0).toInt = 0 → (PL9 v v (v 0 4).toInt ∧ ((∃ k : Nat, ((k : Int) < (v 1 1).toInt ∧ (v 2 k).toInt = x0.toInt) ∧ ((-4) : Int32) = v 7 k ∧ (v 7 k).toInt ≠ 18) ∨ (((-4) : Int32) = -5 ∧ ∀ k : Nat, (k : Int) < (v 1 1).toInt → (v 2 k).toInt = x0.toInt → (v 7 k).toInt = 18))) ∧ Fz v v) := by
        refine ⟨fun hq => ?_, fun hq => ?_, fun hq => ?_⟩
        · exfalso; omega
        · exact ⟨rfl, Fz.rf⟩
        · exfalso; omega
      exact W.iret (v := (-4)) hx hb hr (fun t ht hW => ⟨⟨(-4), v, rfl, ⟨hv, hpost⟩, by rw [ht]; exact hP, hD⟩, hS.F ht⟩) hS.2.2 dX7_plan_27
  · refine lv_if_ne (tgt := 10) hx hb dX7_plan_5 (by decide) (fun c9 => absurd c9 (by decide)) (fun _ => ?_)
    refine lv_iconst (v := (-1)) hx hb dX7_plan_8 (by decide) ?_
    have hpost : (¬ (0 ≤ x0.toInt ∧ x0.toInt < (v 13 2).toInt) → (((-1) : Int32) = -1) ∧ Fz v v) ∧ ((0 ≤ x0.toInt ∧ x0.toInt < (v 13 2).toInt) ∧ (v (29 + 15 * x0.toNatClampNeg) 0).toInt ≠ 0 → (((-1) : Int32) = -4) ∧ Fz v v) ∧ ((0 ≤ x0.toInt ∧ x0.toInt < (v 13 2).toInt) ∧ (v (29 + 15 * x0.toNatClampNeg) 0).toInt = 0 → (PL9 v v (v 0 4).toInt ∧ ((∃ k : Nat, ((k : Int) < (v 1 1).toInt ∧ (v 2 k).toInt = x0.toInt) ∧ ((-1) : Int32) = v 7 k ∧ (v 7 k).toInt ≠ 18) ∨ (((-1) : Int32) = -5 ∧ ∀ k : Nat, (k : Int) < (v 1 1).toInt → (v 2 k).toInt = x0.toInt → (v 7 k).toInt = 18))) ∧ Fz v v) := by
      refine ⟨fun hq => ?_, fun hq => ?_, fun hq => ?_⟩
      · exact ⟨rfl, Fz.rf⟩
      · exact absurd hq.1 (by omega)
      · exact absurd hq.1 (by omega)
    exact W.iret (v := (-1)) hx hb hr (fun t ht hW => ⟨⟨(-1), v, rfl, ⟨hv, hpost⟩, by rw [ht]; exact hP, hD⟩, hS.F ht⟩) hS.2.2 dX7_plan_9
