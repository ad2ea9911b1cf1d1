
set_option maxHeartbeats 4000000 in
set_option maxRecDepth 100000 in
theorem e_X4_search_0 (l : Launch) (dC : Nat → ClassId) (dI : Nat → Nat → Nat) (cy : Nat → ClassId) (sz : Nat) (ad : Nat → Nat) (kv : Value) (N : Nat) (hN : 119 ≤ N) (v : Nat → Nat → Int32) (hv : Iv v) (x0 x1 : Int32) (hs : 4 ≤ x0.toInt ∧ x0.toInt ≤ 4) (hsc : SC v x0.toNatClampNeg x1.toInt) (t1 t2 : Nat) : Met l yX4_search wsX4_search ({ frames := 1, cells := 0, slots := 0, locals := 64 }) (va_Pc [.ref (ad 1), .int x0, .int x1] (ex_PreT dC dI cy sz (wl ad kv cy N v) t1 t2)) (va_Qv (fun (u : Nat → Nat → Int32) => Iv u ∧ SRS v u x0.toNatClampNeg) (fun u t => ex_Pst dC dI (va_A (wl ad kv cy N v) sz) (wl ad kv cy N u) t) (va_A (wl ad kv cy N v) sz)) 0 0 (va_A (wl ad kv cy N v) sz) := by
  refine Met.ofW (cc := cX4_search) (maxL := 4) (ret := none) (by decide) rfl ?_
  intro p e s m args below meth c s₁ B hml hv
  obtain ⟨rfl, ⟨hsz, hE, hP, hK, hD0⟩, hSt⟩ := hv
  have hx := B.exec
  have hb := B.bytes
  have hr := B.returns
  have hts := atoms_spec (ws := wsX4_search) B.pre
  have hown : s.vm.findClass RX4 = some m.cls := findClass_of_methodNamed B.named
  have hlocks := B.notSynchronized
  subst hsz
  have hD := hD0.self (sz := s.heap.size)
  generalize hAe : va_A (wl ad kv cy N v) s.heap.size = A at hD hSt ⊢
  have hA : ∀ q : Nat, s.heap.size ≤ q → A q := fun q h => by rw [← hAe]; exact Or.inr h
  have hS : va_S A s.heap s.heap [] := va_S.rf
  have hP : va_P (dC, dI) vwCl (wl ad kv cy N v) s.heap := hP
  have hl := lv_entry ([.ref (ad 1), .int x0, .int x1]) (n := 4) (Nat.le_of_ble_eq_true rfl)
  rw [lg_entry_eq]
  generalize (lg_sl ([.ref (ad 1), .int x0, .int x1]) ++ List.replicate (4 - (lg_sl ([.ref (ad 1), .int x0, .int x1])).length) Slot.unset).toArray = ls at hl ⊢
  have hl : lv_has ls 4 [(0, .ref (ad 1)), (1, .int x0), (2, .int x1)] := hl
  have zn_x0 : (x0.toNatClampNeg : Int) = x0.toInt := t_nn (by omega)
  have hx1 := SC_b hsc
  have k_0 : (0 : Int32).toInt = 0 := by decide
  refine lv_iload_n hx hb dX4_search_0 rfl (lv_at hl 2 rfl) ?_
  refine lv_aload_n hx hb dX4_search_1 rfl (lv_at hl 0 rfl) ?_
  refine lv_iload_n hx hb dX4_search_2 rfl (lv_at hl 1 rfl) ?_
  refine yw_i (w1 := fun (u : Nat → Nat → Int32) => wl ad kv cy N u) hD hS hA (va_runV (As := [.int x0]) (rest := [.int x1]) ⟨hx, hb, hml, hown, hts⟩ (e_X4_leastBehind l dC dI cy _ ad kv N hN v hv x0 (SC_w hsc) (SC_s hsc) (SC_9 hsc) (by omega)) (cwV 1 hts gX4_search_X4_leastBehind rfl rfl rfl (by decide +kernel) ⟨Nat.le_of_ble_eq_true rfl, Nat.le_of_ble_eq_true rfl⟩) (yw_preV hE hK hP hD (ci := 4) (q0 := 1) rfl (wl_at (by omega) (ce_1 (by decide)))) rfl rfl hl.1 rfl (lv_room (Nat.le_of_ble_eq_true rfl)) dX4_search_3 ⟨Nat.le_of_ble_eq_true rfl, Nat.le_of_ble_eq_true rfl⟩) (fun r_1 v_1 H locs hw_1 hP hD hS => ?_)
  obtain ⟨-, hu_1, hw_1⟩ := hw_1
  replace hu_1 := hu_1.symm
  subst hu_1
  obtain ⟨hr9, dy9, tk9, hG9⟩ := hw_1
  refine lv_iadd hx hb dX4_search_6 ?_
  refine lv_topi (fun x_2 ex_2 => ?_)
  have tx_2 : x_2.toInt = x1.toInt + r_1.toInt := by rw [ex_2]; exact t_add ⟨by omega, by omega⟩
  refine lv_aload_n hx hb dX4_search_7 rfl (lv_at hl 0 rfl) ?_
  refine va_get (D := (dC, dI)) (ci := 4) (v := .int (v (1) 0)) (C := RX4) (T := TX4) (N := 11) hx hb hts (by decide +kernel) hown hK hP (1) (wl_at (by omega) (ce_1 (by decide))) rfl 0 (by decide) (hts (.fieldLink RX4 58 "QuietStairs$Planner" "leastWait" "I") (by decide +kernel)) (fun _ h9 => h9) rfl dX4_search_8 ?_
  refine lv_topi (fun x_3 ex_3 => ?_)
  have qx_3 : x_3.toInt = (v (1) (0)).toInt := congrArg Int32.toInt ex_3
  refine lv_icmp_lt (tgt := 15) hx hb dX4_search_11 (by decide) (fun c_4 => ?_) (fun c_4 => ?_)
  · have tc_4 : x_2.toInt < x_3.toInt := Int32.lt_iff_toInt_lt.mp c_4
    refine lv_iload_n hx hb dX4_search_15 rfl (lv_at hl 1 rfl) ?_
    refine lv_aload_n hx hb dX4_search_16 rfl (lv_at hl 0 rfl) ?_
    refine va_get (D := (dC, dI)) (ci := 4) (v := .int (v (1) 1)) (C := RX4) (T := TX4) (N := 11) hx hb hts (by decide +kernel) hown hK hP (1) (wl_at (by omega) (ce_1 (by decide))) rfl 1 (by decide) (hts (.fieldLink RX4 61 "QuietStairs$Planner" "count" "I") (by decide +kernel)) (fun _ h9 => h9) rfl dX4_search_17 ?_
    refine lv_topi (fun x_5 ex_5 => ?_)
    have bzx_5 : 0 ≤ x_5.toInt ∧ x_5.toInt ≤ 4 := by rw [ex_5]; exact hv.at (K := 1) (by decide) rfl
    have qx_5 : x_5.toInt = (v (1) (1)).toInt := congrArg Int32.toInt ex_5
    refine lv_icmp_lt (tgt := 46) hx hb dX4_search_20 (by decide) (fun c_6 => ?_) (fun c_6 => ?_)
    · have tc_6 : x0.toInt < x_5.toInt := Int32.lt_iff_toInt_lt.mp c_6
      exfalso
      omega
    · have tc_6 : x0.toInt ≥ x_5.toInt := Int32.le_iff_toInt_le.mp (Int32.not_lt.mp c_6)
      refine lv_aload_n hx hb dX4_search_23 rfl (lv_at hl 0 rfl) ?_
      refine lv_iload_n hx hb dX4_search_24 rfl (lv_at hl 2 rfl) ?_
      refine va_put (D := (dC, dI)) (ci := 4) (v := .int x1) (ty := .int) (C := RX4) (T := TX4) (N := 11) hx hb hts (by decide +kernel) tyX4 tyX4_ok nmX4 hown hK hP hD hS (1) (wl_at (by omega) (ce_1 (by decide))) rfl 0 (by decide) (hts (.fieldLink RX4 58 "QuietStairs$Planner" "leastWait" "I") (by decide +kernel)) (fun _ h9 => h9) rfl (by decide +kernel) rfl rfl (Nat.le_of_ble_eq_true rfl) dX4_search_25 (fun H locs hP hD hS => ?_)
      obtain ⟨v_7, ev_7⟩ : ∃ u : Nat → Nat → Int32, u = upr v (1) (upd (v (1)) 0 x1) := ⟨_, rfl⟩
      have hP : va_P (dC, dI) vwCl (wl ad kv cy N v_7) H := by rw [ev_7, ← wl_put (e := _) (ce_1 (by decide))]; exact hP
      have hD : va_D A (wl ad kv cy N v_7) := by rw [ev_7, ← wl_put (e := _) (ce_1 (by decide))]; exact hD
      have hv : Iv v_7 := by rw [ev_7]; exact hv.put (K := 1) (by decide) (fun h q => by simp [bd] at q)
      refine lv_aload_n hx hb dX4_search_28 rfl (lv_at hl 0 rfl) ?_
      refine va_get (D := (dC, dI)) (ci := 4) (v := .ref (ad 6)) (C := RX4) (T := TX4) (N := 11) hx hb hts (by decide +kernel) hown hK hP (1) (wl_at (by omega) (ce_1 (by decide))) rfl 7 (by decide) (hts (.fieldLink RX4 24 "QuietStairs$Planner" "seats" "[I") (by decide +kernel)) (fun _ h9 => h9) rfl dX4_search_29 ?_
      refine lv_iconst (v := 0) hx hb dX4_search_32 (by decide) ?_
      refine lv_aload_n hx hb dX4_search_33 rfl (lv_at hl 0 rfl) ?_
      refine va_get (D := (dC, dI)) (ci := 4) (v := .ref (ad 7)) (C := RX4) (T := TX4) (N := 11) hx hb hts (by decide +kernel) hown hK hP (1) (wl_at (by omega) (ce_1 (by decide))) rfl 8 (by decide) (hts (.fieldLink RX4 27 "QuietStairs$Planner" "bestSeats" "[I") (by decide +kernel)) (fun _ h9 => h9) rfl dX4_search_34 ?_
      refine lv_iconst (v := 0) hx hb dX4_search_37 (by decide) ?_
      refine lv_aload_n hx hb dX4_search_38 rfl (lv_at hl 0 rfl) ?_
      refine va_get (D := (dC, dI)) (ci := 4) (v := .int (v_7 (1) 1)) (C := RX4) (T := TX4) (N := 11) hx hb hts (by decide +kernel) hown hK hP (1) (wl_at (by omega) (ce_1 (by decide))) rfl 1 (by decide) (hts (.fieldLink RX4 61 "QuietStairs$Planner" "count" "I") (by decide +kernel)) (fun _ h9 => h9) rfl dX4_search_39 ?_
      refine lv_topi (fun x_8 ex_8 => ?_)
      have bzx_8 : 0 ≤ x_8.toInt ∧ x_8.toInt ≤ 4 := by rw [ex_8]; exact hv.at (K := 1) (by decide) rfl
      rw [ev_7, upr_s, pk_un (by decide)] at ex_8
      obtain rfl : x_5 = x_8 := (ex_8.trans ex_5.symm).symm
      have zn_x_5 : (x_5.toNatClampNeg : Int) = x_5.toInt := t_nn (by omega)
      have hn_9 := t_n (x := x_5) (m := 4) ⟨by omega, by omega⟩
      refine va_copyi hx hb (hml.trans hl.1.symm) hown (hts (.methodLink RX4 99 arraycopyName) (by decide +kernel)) (hts (.native arraycopyName) (by decide +kernel)) (hts (.static arraycopyName) (by decide +kernel)) (hts (.initialized "java/lang/System") (by decide +kernel)) hK hP hD hS (6) (7) 0 0 (wl_at (by omega) (ce_17 (by decide))) (wl_at (by omega) (ce_17 (by decide))) rfl rfl rfl (by decide) (by decide) hn_9.1 (by rw [sb_cl0]; have := hn_9.2; omega) (by rw [sb_cl0]; have := hn_9.2; omega) (fun i hi => rfl) (Nat.le_of_ble_eq_true rfl) (Nat.le_of_ble_eq_true rfl) dX4_search_42 (fun H locs hP hD hS => ?_)
      obtain ⟨v_10, ev_10⟩ : ∃ u : Nat → Nat → Int32, u = upr v_7 (7) (va_cpy (v_7 (6)) (v_7 (7)) (0 : Int32).toNatClampNeg (0 : Int32).toNatClampNeg x_5.toNatClampNeg) := ⟨_, rfl⟩
      have hP : va_P (dC, dI) vwCl (wl ad kv cy N v_10) H := by rw [ev_10, ← wl_put (e := _) (ce_17 (by decide))]; exact hP
      have hD : va_D A (wl ad kv cy N v_10) := by rw [ev_10, ← wl_put (e := _) (ce_17 (by decide))]; exact hD
      have hv : Iv v_10 := by rw [ev_10]; exact hv.row (K := 17) (by decide) (fun j => rfl)
      have hs_10 : v_7 (6) = v (6) := by rw [ev_7, upr_n (by omega)]
      rw [hs_10] at ev_10
      exact W.vret hx hb hr (fun t ht hW => ⟨⟨v_10, rfl, ⟨hv, SC_leaf hsc (by show (v 1 1).toNatClampNeg ≤ _; rw [← ex_5]; omega) (by show _ < (v 1 0).toInt; omega) (fun k h1 h7 => by rw [ev_10, upr_n h7, ev_7, upr_n h1]) (by rw [ev_10, upr_n (by decide), ev_7, upr_s, pk_un (by decide)]) (by rw [ev_10, upr_n (by decide), ev_7, upr_s, pk_un (by decide)]) (by show (v_10 1 0).toInt = _; rw [ev_10, upr_n (by decide), ev_7, upr_s, pk_us]) (fun q hq => by have hq : q < (v 1 1).toNatClampNeg := hq; rw [← ex_5] at hq; rw [ev_10, up3, if_pos ⟨rfl, hq⟩])⟩, by rw [ht]; exact hP, hD⟩, hS.F ht⟩) hS.2.2 dX4_search_45
  · have tc_4 : x_2.toInt ≥ x_3.toInt := Int32.le_iff_toInt_le.mp (Int32.not_lt.mp c_4)
    exact W.vret hx hb hr (fun t ht hW => ⟨⟨v, rfl, ⟨hv, SC_cut hsc hG9 (by show (v 1 0).toInt ≤ _; omega)⟩, by rw [ht]; exact hP, hD⟩, hS.F ht⟩) hS.2.2 dX4_search_14
