
set_option maxHeartbeats 4000000 in
set_option maxRecDepth 100000 in
theorem e_X7_hour (l : Launch) (dC : Nat → ClassId) (dI : Nat → Nat → Nat) (cy : Nat → ClassId) (sz : Nat) (ad : Nat → Nat) (kv : Value) (N : Nat) (hN : 119 ≤ N) (v : Nat → Nat → Int32) (hv : Iv v) (x0 x1 : Int32) (hT : ∀ c t : Nat, c < 6 → (c : Int) < (v 13 2).toInt → t < 5 → (t : Int) < (v (29 + 15 * c) 5).toInt → (v (39 + 15 * c + t) 3).toInt ≤ (v (39 + 15 * c + t) 4).toInt) : Met l yX7_hour wsX7_hour ({ frames := 4, cells := 0, slots := 0, locals := 256 }) (va_Pc [.ref (ad 0), .int x0, .int x1] (ex_Pre dC dI cy sz (wl ad kv cy N v))) (va_Qi (fun (r : Int32) (u : Nat → Nat → Int32) => Iv u ∧ (¬ ((0 ≤ x0.toInt ∧ x0.toInt < (v 13 2).toInt) ∧ 0 ≤ x1.toInt ∧ x1.toInt < (v (29 + 15 * x0.toNatClampNeg) 5).toInt) → (r = -1) ∧ Fz v u) ∧ (((0 ≤ x0.toInt ∧ x0.toInt < (v 13 2).toInt) ∧ 0 ≤ x1.toInt ∧ x1.toInt < (v (29 + 15 * x0.toNatClampNeg) 5).toInt) ∧ (v (39 + 15 * x0.toNatClampNeg + x1.toNatClampNeg) 1).toInt = 0 → (r = -4) ∧ Fz v u) ∧ ((((0 ≤ x0.toInt ∧ x0.toInt < (v 13 2).toInt) ∧ 0 ≤ x1.toInt ∧ x1.toInt < (v (29 + 15 * x0.toNatClampNeg) 5).toInt) ∧ (v (39 + 15 * x0.toNatClampNeg + x1.toNatClampNeg) 1).toInt ≠ 0) ∧ ¬ TB (fun t k => (v (39 + 15 * x0.toNatClampNeg + t) k).toInt) (v (39 + 15 * x0.toNatClampNeg + x1.toNatClampNeg) 0).toInt (v (29 + 15 * x0.toNatClampNeg) 5).toNatClampNeg → (r = -5) ∧ Fz v u) ∧ ((((0 ≤ x0.toInt ∧ x0.toInt < (v 13 2).toInt) ∧ 0 ≤ x1.toInt ∧ x1.toInt < (v (29 + 15 * x0.toNatClampNeg) 5).toInt) ∧ (v (39 + 15 * x0.toNatClampNeg + x1.toNatClampNeg) 1).toInt ≠ 0) ∧ TB (fun t k => (v (39 + 15 * x0.toNatClampNeg + t) k).toInt) (v (39 + 15 * x0.toNatClampNeg + x1.toNatClampNeg) 0).toInt (v (29 + 15 * x0.toNatClampNeg) 5).toNatClampNeg → (∀ M : Nat → Nat, lmin (v (29 + 15 * x0.toNatClampNeg) 5).toNatClampNeg (alw (fun t k => (v (39 + 15 * x0.toNatClampNeg + t) k).toInt) (v (39 + 15 * x0.toNatClampNeg + x1.toNatClampNeg) 0).toInt (v (29 + 15 * x0.toNatClampNeg) 5).toNatClampNeg) (own (fun t k => (v (39 + 15 * x0.toNatClampNeg + t) k).toInt) (v (39 + 15 * x0.toNatClampNeg + x1.toNatClampNeg) 0).toInt) M → r.toInt = ((M x1.toNatClampNeg : Nat) : Int)) ∧ Fz v u)) (fun u t => ex_Pst dC dI (va_A (wl ad kv cy N v) sz) (wl ad kv cy N u) t) (va_A (wl ad kv cy N v) sz)) 0 0 (va_A (wl ad kv cy N v) sz) := by
  refine Met.ofW (cc := cX7_hour) (maxL := 4) (ret := (some .int)) (by decide) rfl ?_
  intro p e s m args below meth c s₁ B hml hv
  obtain ⟨rfl, hsz, hE, hP, hK, hD0⟩ := hv
  have hx := B.exec
  have hb := B.bytes
  have hr := B.returns
  have hts := atoms_spec (ws := wsX7_hour) B.pre
  have hown : s.vm.findClass RX7 = some m.cls := findClass_of_methodNamed B.named
  have hlocks := B.notSynchronized
  subst hsz
  have hD := hD0.self (sz := s.heap.size)
  generalize hAe : va_A (wl ad kv cy N v) s.heap.size = A at hD ⊢
  have hA : ∀ q : Nat, s.heap.size ≤ q → A q := fun q h => by rw [← hAe]; exact Or.inr h
  have hS : va_S A s.heap s.heap [] := va_S.rf
  have hP : va_P (dC, dI) vwCl (wl ad kv cy N v) s.heap := hP
  have hl := lv_entry ([.ref (ad 0), .int x0, .int x1]) (n := 4) (Nat.le_of_ble_eq_true rfl)
  rw [lg_entry_eq]
  generalize (lg_sl ([.ref (ad 0), .int x0, .int x1]) ++ List.replicate (4 - (lg_sl ([.ref (ad 0), .int x0, .int x1])).length) Slot.unset).toArray = ls at hl ⊢
  have hl : lv_has ls 4 [(0, .ref (ad 0)), (1, .int x0), (2, .int x1)] := hl
  refine lv_aload_n hx hb dX7_hour_0 rfl (lv_at hl 0 rfl) ?_
  refine lv_iload_n hx hb dX7_hour_1 rfl (lv_at hl 1 rfl) ?_
  refine lv_iload_n hx hb dX7_hour_2 rfl (lv_at hl 2 rfl) ?_
  refine yw_i (w1 := fun (u : Nat → Nat → Int32) => wl ad kv cy N u) hD hS hA (va_runV (As := [.int x0, .int x1]) (rest := []) ⟨hx, hb, hml, hown, hts⟩ (e_X7_isTerm l dC dI cy _ ad kv N hN v hv x0 x1) (cwV 2 hts gX7_hour_X7_isTerm rfl rfl rfl (by decide +kernel) ⟨Nat.le_of_ble_eq_true rfl, Nat.le_of_ble_eq_true rfl⟩) (yw_preV hE hK hP hD (ci := 7) (q0 := 0) rfl (wl_at (by omega) (ce_0 (by decide)))) rfl rfl hl.1 rfl (lv_room (Nat.le_of_ble_eq_true rfl)) dX7_hour_3 ⟨Nat.le_of_ble_eq_true rfl, Nat.le_of_ble_eq_true rfl⟩) (fun r_1 v_1 H locs hw_1 hP hD hS => ?_)
  obtain ⟨-, hu_1, hw_1⟩ := hw_1
  replace hu_1 := hu_1.symm
  subst hu_1
  rcases hw_1 with ⟨rfl, ha_2⟩ | ⟨rfl, ha_2⟩
  · have hb_2 := hv.at (k := 13) (j := 2) (K := 3) (by decide) rfl
    have hj_2 : 0 ≤ x0.toInt ∧ x0.toInt ≤ 5 := ⟨by omega, by omega⟩
    have zn_x0 : (x0.toNatClampNeg : Int) = x0.toInt := t_nn (by omega)
    have hx_3 : x0.toNatClampNeg < 6 := by omega
    have hg_2 := hv.at (k := 29 + 15 * x0.toNatClampNeg) (j := 5) (K := 9) (kd_c _ hx_3).1.1 rfl
    have hl_2 : 0 ≤ x1.toInt ∧ x1.toInt ≤ 4 := ⟨by omega, by omega⟩
    refine lv_if_ne (tgt := 11) hx hb dX7_hour_6 (by decide) (fun _ => ?_) (fun c9 => absurd c9 (by decide))
    refine lv_aload_n hx hb dX7_hour_11 rfl (lv_at hl 0 rfl) ?_
    refine va_get (D := (dC, dI)) (ci := 7) (v := .ref (ad 13)) (C := RX7) (T := TX7) (N := 5) hx hb hts (by decide +kernel) hown hK hP (0) (wl_at (by omega) (ce_0 (by decide))) rfl 0 (by decide) (hts (.fieldLink RX7 12 "QuietStairs" "now" "LQuietStairs$House;") (by decide +kernel)) (fun _ h9 => h9) rfl dX7_hour_12 ?_
    refine va_get (D := (dC, dI)) (ci := 1) (v := .ref (ad 16)) (C := RX1) (T := TX1) (N := 7) hx hb hts (by decide +kernel) hown hK hP (13) (wl_at (by omega) (ce_3 (by decide))) rfl 6 (by decide) (hts (.fieldLink RX7 86 "QuietStairs$House" "cases" "[LQuietStairs$Case;") (by decide +kernel)) (fun _ h9 => h9) rfl dX7_hour_15 ?_
    refine lv_iload_n hx hb dX7_hour_18 rfl (lv_at hl 1 rfl) ?_
    refine va_aldq hx hb hK hP (16) 3 (wl_at (by omega) (ce_6 (by decide))) rfl (vp_in_iff.mpr ⟨by omega, by omega⟩) dX7_hour_19 ?_
    refine W.eq (g2 := F0 m 20 ls [.ref (ad (29 + 15 * x0.toNatClampNeg))]) (by rw [if_pos hx_3, show 16 + 13 + 15 * x0.toNatClampNeg = 29 + 15 * x0.toNatClampNeg from by omega]; rfl) ?_
    refine lv_astore_n (lv' := [(3, .ref (ad (29 + 15 * x0.toNatClampNeg))), (0, .ref (ad 0)), (1, .int x0), (2, .int x1)]) hx hb dX7_hour_20 rfl hl (by decide) rfl (fun ls hl => ?_)
    refine lv_aload_n hx hb dX7_hour_21 rfl (lv_at hl 0 rfl) ?_
    refine va_get (D := (dC, dI)) (ci := 0) (v := .ref (ad (29 + 15 * x0.toNatClampNeg + 9))) (C := RX0) (T := TX0) (N := 11) hx hb hts (by decide +kernel) hown hK hP (29 + 15 * x0.toNatClampNeg) (wl_at (by omega) (ce_9 (kd_c _ hx_3).1.1)) rfl 10 (by decide) (hts (.fieldLink RX7 172 "QuietStairs$Case" "terms" "[LQuietStairs$Term;") (by decide +kernel)) (fun _ h9 => h9) rfl dX7_hour_22 ?_
    refine W.eq (g2 := F0 m 25 ls [.ref (ad (38 + 15 * x0.toNatClampNeg))]) (by rw [show 29 + 15 * x0.toNatClampNeg + 9 = 38 + 15 * x0.toNatClampNeg from by omega]) ?_
    refine lv_iload_n hx hb dX7_hour_25 rfl (lv_at hl 3 rfl) ?_
    have zn_x1 : (x1.toNatClampNeg : Int) = x1.toInt := t_nn (by omega)
    have hx_4 : x1.toNatClampNeg < 5 := by omega
    refine va_aldq hx hb hK hP (38 + 15 * x0.toNatClampNeg) 4 (wl_at (by omega) (ce_15 (kd_c _ hx_3).1.2.2.2.2.2)) rfl (vp_in_iff.mpr ⟨by omega, by omega⟩) dX7_hour_26 ?_
    refine W.eq (g2 := F0 m 27 ls [.ref (ad (39 + 15 * x0.toNatClampNeg + x1.toNatClampNeg))]) (by rw [if_pos hx_4, show 38 + 15 * x0.toNatClampNeg + 1 + x1.toNatClampNeg = 39 + 15 * x0.toNatClampNeg + x1.toNatClampNeg from by omega]; rfl) ?_
    refine va_get (D := (dC, dI)) (ci := 6) (v := .int (v (39 + 15 * x0.toNatClampNeg + x1.toNatClampNeg) 1)) (C := RX6) (T := TX6) (N := 5) hx hb hts (by decide +kernel) hown hK hP (39 + 15 * x0.toNatClampNeg + x1.toNatClampNeg) (wl_at (by omega) (ce_16 (kd_t _ hx_3 _ hx_4).1)) rfl 1 (by decide) (hts (.fieldLink RX7 181 "QuietStairs$Term" "must" "Z") (by decide +kernel)) (fun _ h9 => h9) rfl dX7_hour_27 ?_
    refine lv_topi (fun x_5 ex_5 => ?_)
    have bzx_5 : 0 ≤ x_5.toInt ∧ x_5.toInt ≤ 1 := by rw [ex_5]; exact hv.at (K := 16) (kd_t _ hx_3 _ hx_4).1 rfl
    have qx_5 : x_5.toInt = (v (39 + 15 * x0.toNatClampNeg + x1.toNatClampNeg) (1)).toInt := congrArg Int32.toInt ex_5
    have k_0 : (0 : Int32).toInt = 0 := by decide
    refine lv_if_ne (tgt := 36) hx hb dX7_hour_30 (by decide) (fun c_6 => ?_) (fun c_6 => ?_)
    · have tc_6 : x_5.toInt ≠ (0 : Int32).toInt := fun q => absurd (Int32.toInt_inj.mp q) c_6
      refine lv_aload_n hx hb dX7_hour_36 rfl (lv_at hl 1 rfl) ?_
      refine va_get (D := (dC, dI)) (ci := 7) (v := .ref (ad 10)) (C := RX7) (T := TX7) (N := 5) hx hb hts (by decide +kernel) hown hK hP (0) (wl_at (by omega) (ce_0 (by decide))) rfl 2 (by decide) (hts (.fieldLink RX7 26 "QuietStairs" "table" "LQuietStairs$Table;") (by decide +kernel)) (fun _ h9 => h9) rfl dX7_hour_37 ?_
      refine lv_aload_n hx hb dX7_hour_40 rfl (lv_at hl 0 rfl) ?_
      refine lv_aload_n hx hb dX7_hour_41 rfl (lv_at hl 0 rfl) ?_
      refine va_get (D := (dC, dI)) (ci := 0) (v := .ref (ad (29 + 15 * x0.toNatClampNeg + 9))) (C := RX0) (T := TX0) (N := 11) hx hb hts (by decide +kernel) hown hK hP (29 + 15 * x0.toNatClampNeg) (wl_at (by omega) (ce_9 (kd_c _ hx_3).1.1)) rfl 10 (by decide) (hts (.fieldLink RX7 172 "QuietStairs$Case" "terms" "[LQuietStairs$Term;") (by decide +kernel)) (fun _ h9 => h9) rfl dX7_hour_42 ?_
      refine W.eq (g2 := F0 m 45 ls [.ref (ad (38 + 15 * x0.toNatClampNeg)), .ref (ad (29 + 15 * x0.toNatClampNeg)), .ref (ad 10)]) (by rw [show 29 + 15 * x0.toNatClampNeg + 9 = 38 + 15 * x0.toNatClampNeg from by omega]) ?_
      refine lv_iload_n hx hb dX7_hour_45 rfl (lv_at hl 3 rfl) ?_
      refine va_aldq hx hb hK hP (38 + 15 * x0.toNatClampNeg) 4 (wl_at (by omega) (ce_15 (kd_c _ hx_3).1.2.2.2.2.2)) rfl (vp_in_iff.mpr ⟨by omega, by omega⟩) dX7_hour_46 ?_
      refine W.eq (g2 := F0 m 47 ls [.ref (ad (39 + 15 * x0.toNatClampNeg + x1.toNatClampNeg)), .ref (ad (29 + 15 * x0.toNatClampNeg)), .ref (ad 10)]) (by rw [if_pos hx_4, show 38 + 15 * x0.toNatClampNeg + 1 + x1.toNatClampNeg = 39 + 15 * x0.toNatClampNeg + x1.toNatClampNeg from by omega]; rfl) ?_
      refine va_get (D := (dC, dI)) (ci := 6) (v := .int (v (39 + 15 * x0.toNatClampNeg + x1.toNatClampNeg) 0)) (C := RX6) (T := TX6) (N := 5) hx hb hts (by decide +kernel) hown hK hP (39 + 15 * x0.toNatClampNeg + x1.toNatClampNeg) (wl_at (by omega) (ce_16 (kd_t _ hx_3 _ hx_4).1)) rfl 0 (by decide) (hts (.fieldLink RX7 176 "QuietStairs$Term" "side" "I") (by decide +kernel)) (fun _ h9 => h9) rfl dX7_hour_47 ?_
      refine lv_topi (fun x_7 ex_7 => ?_)
      have bzx_7 : 0 ≤ x_7.toInt ∧ x_7.toInt ≤ 1 := by rw [ex_7]; exact hv.at (K := 16) (kd_t _ hx_3 _ hx_4).1 rfl
      have qx_7 : x_7.toInt = (v (39 + 15 * x0.toNatClampNeg + x1.toNatClampNeg) (0)).toInt := congrArg Int32.toInt ex_7
      refine lv_aload_n hx hb dX7_hour_50 rfl (lv_at hl 0 rfl) ?_
      refine va_get (D := (dC, dI)) (ci := 0) (v := .int (v (29 + 15 * x0.toNatClampNeg) 5)) (C := RX0) (T := TX0) (N := 11) hx hb hts (by decide +kernel) hown hK hP (29 + 15 * x0.toNatClampNeg) (wl_at (by omega) (ce_9 (kd_c _ hx_3).1.1)) rfl 5 (by decide) (hts (.fieldLink RX7 169 "QuietStairs$Case" "termCount" "I") (by decide +kernel)) (fun _ h9 => h9) rfl dX7_hour_51 ?_
      refine lv_topi (fun x_8 ex_8 => ?_)
      have bzx_8 : 0 ≤ x_8.toInt ∧ x_8.toInt ≤ 5 := by rw [ex_8]; exact hv.at (K := 9) (kd_c _ hx_3).1.1 rfl
      have qx_8 : x_8.toInt = (v (29 + 15 * x0.toNatClampNeg) (5)).toInt := congrArg Int32.toInt ex_8
      have zn_x_8 : (x_8.toNatClampNeg : Int) = x_8.toInt := t_nn (by omega)
      refine yw_v (w1 := fun (u : Nat → Nat → Int32) => wl ad kv cy N u) hD hS hA (va_runV (As := [.ref (ad (29 + 15 * x0.toNatClampNeg)), .int x_7, .int x_8]) (rest := []) ⟨hx, hb, hml, hown, hts⟩ (e_X5_read l dC dI cy _ ad kv N hN v hv x0.toNatClampNeg hx_3 x_7 x_8 ⟨by omega, by omega⟩ (fun t ht h1 => hT _ t hx_3 (by omega) ht (by omega))) (cwV 3 hts gX7_hour_X5_read rfl rfl rfl (by decide +kernel) ⟨Nat.le_of_ble_eq_true rfl, Nat.le_of_ble_eq_true rfl⟩) (yw_preV hE hK hP hD (ci := 5) (q0 := 10) rfl (wl_at (by omega) (ce_2 (by decide)))) rfl rfl hl.1 rfl (lv_room (Nat.le_of_ble_eq_true rfl)) dX7_hour_54 ⟨Nat.le_of_ble_eq_true rfl, Nat.le_of_ble_eq_true rfl⟩) (fun v_9 H locs hw_9 hP hD hS => ?_)
      obtain ⟨hv, hw_9⟩ := hw_9
      obtain ⟨hg_10, hd_10, hn_10⟩ := hw_9
      have hk_10 := hv.at (k := 10) (j := 0) (K := 2) (by decide) rfl
      have hz_10 := t_nn hk_10.1
      refine lv_aload_n hx hb dX7_hour_57 rfl (lv_at hl 1 rfl) ?_
      refine va_get (D := (dC, dI)) (ci := 7) (v := .ref (ad 10)) (C := RX7) (T := TX7) (N := 5) hx hb hts (by decide +kernel) hown hK hP (0) (wl_at (by omega) (ce_0 (by decide))) rfl 2 (by decide) (hts (.fieldLink RX7 26 "QuietStairs" "table" "LQuietStairs$Table;") (by decide +kernel)) (fun _ h9 => h9) rfl dX7_hour_58 ?_
      refine yw_i (w1 := fun (u : Nat → Nat → Int32) => wl ad kv cy N u) hD hS hA (va_runV (As := []) (rest := []) ⟨hx, hb, hml, hown, hts⟩ (e_X5_stands l dC dI cy _ ad kv N hN v_9 hv ) (cwV 0 hts gX7_hour_X5_stands rfl rfl rfl (by decide +kernel) ⟨Nat.le_of_ble_eq_true rfl, Nat.le_of_ble_eq_true rfl⟩) (yw_preV hE hK hP hD (ci := 5) (q0 := 10) rfl (wl_at (by omega) (ce_2 (by decide)))) rfl rfl hl.1 rfl (lv_room (Nat.le_of_ble_eq_true rfl)) dX7_hour_61 ⟨Nat.le_of_ble_eq_true rfl, Nat.le_of_ble_eq_true rfl⟩) (fun r_11 v_11 H locs hw_11 hP hD hS => ?_)
      obtain ⟨-, hu_11, hw_11⟩ := hw_11
      replace hu_11 := hu_11.symm
      subst hu_11
      rcases hw_11 with ⟨rfl, hz_12⟩ | ⟨rfl, hz_12⟩
      · have hq_12 : HL (v_9 10 0) (v_9 12) ↔ TB (fun t k => (v (39 + 15 * x0.toNatClampNeg + t) k).toInt) x_7.toInt x_8.toNatClampNeg := RD_HL (by rw [show ((x_8.toNatClampNeg : Nat) : Int) = x_8.toInt from t_nn (by omega)]; exact hd_10) (by omega) (by omega)
        have ht_12 : TB (fun t k => (v (39 + 15 * x0.toNatClampNeg + t) k).toInt) x_7.toInt x_8.toNatClampNeg := hq_12.mp hz_12
        refine lv_if_eq (tgt := 78) hx hb dX7_hour_64 (by decide) (fun c9 => absurd c9 (by decide)) (fun _ => ?_)
        refine lv_aload_n hx hb dX7_hour_67 rfl (lv_at hl 1 rfl) ?_
        refine va_get (D := (dC, dI)) (ci := 7) (v := .ref (ad 10)) (C := RX7) (T := TX7) (N := 5) hx hb hts (by decide +kernel) hown hK hP (0) (wl_at (by omega) (ce_0 (by decide))) rfl 2 (by decide) (hts (.fieldLink RX7 26 "QuietStairs" "table" "LQuietStairs$Table;") (by decide +kernel)) (fun _ h9 => h9) rfl dX7_hour_68 ?_
        refine lv_iload_n hx hb dX7_hour_71 rfl (lv_at hl 3 rfl) ?_
        refine yw_i (w1 := fun (u : Nat → Nat → Int32) => wl ad kv cy N u) hD hS hA (va_runV (As := [.int x1]) (rest := []) ⟨hx, hb, hml, hown, hts⟩ (e_X5_hourOf l dC dI cy _ ad kv N hN v_9 hv x1 (fun i hi => (hd_10.1.2 i hi).2.1)) (cwV 1 hts gX7_hour_X5_hourOf rfl rfl rfl (by decide +kernel) ⟨Nat.le_of_ble_eq_true rfl, Nat.le_of_ble_eq_true rfl⟩) (yw_preV hE hK hP hD (ci := 5) (q0 := 10) rfl (wl_at (by omega) (ce_2 (by decide)))) rfl rfl hl.1 rfl (lv_room (Nat.le_of_ble_eq_true rfl)) dX7_hour_72 ⟨Nat.le_of_ble_eq_true rfl, Nat.le_of_ble_eq_true rfl⟩) (fun r_13 v_13 H locs hw_13 hP hD hS => ?_)
        obtain ⟨hv, hw_13⟩ := hw_13
        obtain ⟨hg9, hM9⟩ := hw_13
        have hgg : ∀ k : Nat, k ≠ 10 → k ≠ 11 → k ≠ 12 → v_13 k = v k := fun k h1 h2 h3 => (hg9 k h3).trans (hg_10 k h1 h2 h3)
        refine lv_goto (tgt := 80) hx hb dX7_hour_75 (by decide) ?_
        have htb : TB (fun t k => (v (39 + 15 * x0.toNatClampNeg + t) k).toInt) (v (39 + 15 * x0.toNatClampNeg + x1.toNatClampNeg) 0).toInt (v (29 + 15 * x0.toNatClampNeg) 5).toNatClampNeg := by rw [← ex_7, ← ex_8]; exact ht_12
        have hpost : (¬ ((0 ≤ x0.toInt ∧ x0.toInt < (v 13 2).toInt) ∧ 0 ≤ x1.toInt ∧ x1.toInt < (v (29 + 15 * x0.toNatClampNeg) 5).toInt) → (r_13 = -1) ∧ Fz v v_13) ∧ (((0 ≤ x0.toInt ∧ x0.toInt < (v 13 2).toInt) ∧ 0 ≤ x1.toInt ∧ x1.toInt < (v (29 + 15 * x0.toNatClampNeg) 5).toInt) ∧ (v (39 + 15 * x0.toNatClampNeg + x1.toNatClampNeg) 1).toInt = 0 → (r_13 = -4) ∧ Fz v v_13) ∧ ((((0 ≤ x0.toInt ∧ x0.toInt < (v 13 2).toInt) ∧ 0 ≤ x1.toInt ∧ x1.toInt < (v (29 + 15 * x0.toNatClampNeg) 5).toInt) ∧ (v (39 + 15 * x0.toNatClampNeg + x1.toNatClampNeg) 1).toInt ≠ 0) ∧ ¬ TB (fun t k => (v (39 + 15 * x0.toNatClampNeg + t) k).toInt) (v (39 + 15 * x0.toNatClampNeg + x1.toNatClampNeg) 0).toInt (v (29 + 15 * x0.toNatClampNeg) 5).toNatClampNeg → (r_13 = -5) ∧ Fz v v_13) ∧ ((((0 ≤ x0.toInt ∧ x0.toInt < (v 13 2).toInt) ∧ 0 ≤ x1.toInt ∧ x1.toInt < (v (29 + 15 * x0.toNatClampNeg) 5).toInt) ∧ (v (39 + 15 * x0.toNatClampNeg + x1.toNatClampNeg) 1).toInt ≠ 0) ∧ TB (fun t k => (v (39 + 15 * x0.toNatClampNeg + t) k).toInt) (v (39 + 15 * x0.toNatClampNeg + x1.toNatClampNeg) 0).toInt (v (29 + 15 * x0.toNatClampNeg) 5).toNatClampNeg → (∀ M : Nat → Nat, lmin (v (29 + 15 * x0.toNatClampNeg) 5).toNatClampNeg (alw (fun t k => (v (39 + 15 * x0.toNatClampNeg + t) k).toInt) (v (39 + 15 * x0.toNatClampNeg + x1.toNatClampNeg) 0).toInt (v (29 + 15 * x0.toNatClampNeg) 5).toNatClampNeg) (own (fun t k => (v (39 + 15 * x0.toNatClampNeg + t) k).toInt) (v (39 + 15 * x0.toNatClampNeg + x1.toNatClampNeg) 0).toInt) M → r_13.toInt = ((M x1.toNatClampNeg : Nat) : Int)) ∧ Fz v v_13) := by
          refine ⟨fun hq => ?_, fun hq => ?_, fun hq => ?_, fun hq => ?_⟩
          · exfalso; omega
          · exfalso; omega
          · exact absurd htb hq.2
          · refine ⟨fun M hM => ?_, fz_of hgg⟩
            have zn9 := t_nn (x := x_8) (by omega)
            rw [← ex_7, ← ex_8] at hM
            have hd9 := hd_10
            rw [← zn9] at hd9
            have hl := lmin_dn hd9 hM
            obtain ⟨i, hi9, hm⟩ := hd9.2.2 x1.toNatClampNeg (by omega) ⟨by show (v (39 + 15 * x0.toNatClampNeg + x1.toNatClampNeg) 0).toInt = _; rw [← ex_7], by show (v (39 + 15 * x0.toNatClampNeg + x1.toNatClampNeg) 1).toInt = 1; rw [← ex_5]; omega⟩
            have hm : (v_9 11 i).toNatClampNeg = x1.toNatClampNeg := hm
            have nn9 := hn_10 i (by omega)
            have zi := t_nn nn9
            rw [← hm]
            refine hM9 _ hl i hi9 (by omega) (fun j hj => ?_)
            have lt : (v_9 11 j).toNatClampNeg < (v_9 11 i).toNatClampNeg := hd9.2.1 j i hj hi9
            have nj := hn_10 j (by omega)
            have zj := t_nn nj
            omega
        exact W.iret (v := r_13) hx hb hr (fun t ht hW => ⟨⟨r_13, v_13, rfl, ⟨hv, hpost⟩, by rw [ht]; exact hP, hD⟩, hS.F ht⟩) hS.2.2 dX7_hour_80
      · have hq_12 : HL (v_9 10 0) (v_9 12) ↔ TB (fun t k => (v (39 + 15 * x0.toNatClampNeg + t) k).toInt) x_7.toInt x_8.toNatClampNeg := RD_HL (by rw [show ((x_8.toNatClampNeg : Nat) : Int) = x_8.toInt from t_nn (by omega)]; exact hd_10) (by omega) (by omega)
        have ht_12 : ¬ TB (fun t k => (v (39 + 15 * x0.toNatClampNeg + t) k).toInt) x_7.toInt x_8.toNatClampNeg := fun q => hz_12 (hq_12.mpr q)
        refine lv_if_eq (tgt := 78) hx hb dX7_hour_64 (by decide) (fun _ => ?_) (fun c9 => absurd c9 (by decide))
        refine lv_bipush (v := (-5)) hx hb dX7_hour_78 (by decide) ?_
        have htb : ¬ TB (fun t k => (v (39 + 15 * x0.toNatClampNeg + t) k).toInt) (v (39 + 15 * x0.toNatClampNeg + x1.toNatClampNeg) 0).toInt (v (29 + 15 * x0.toNatClampNeg) 5).toNatClampNeg := by rw [← ex_7, ← ex_8]; exact ht_12
        have hpost : (¬ ((0 ≤ x0.toInt ∧ x0.toInt < (v 13 2).toInt) ∧ 0 ≤ x1.toInt ∧ x1.toInt < (v (29 + 15 * x0.toNatClampNeg) 5).toInt) → (((-5) : Int32) = -1) ∧ Fz v v_9) ∧ (((0 ≤ x0.toInt ∧ x0.toInt < (v 13 2).toInt) ∧ 0 ≤ x1.toInt ∧ x1.toInt < (v (29 + 15 * x0.toNatClampNeg) 5).toInt) ∧ (v (39 + 15 * x0.toNatClampNeg + x1.toNatClampNeg) 1).toInt = 0 → (((-5) : Int32) = -4) ∧ Fz v v_9) ∧ ((((0 ≤ x0.toInt ∧ x0.toInt < (v 13 2).toInt) ∧ 0 ≤ x1.toInt ∧ x1.toInt < (v (29 + 15 * x0.toNatClampNeg) 5).toInt) ∧ (v (39 + 15 * x0.toNatClampNeg + x1.toNatClampNeg) 1).toInt ≠ 0) ∧ ¬ TB (fun t k => (v (39 + 15 * x0.toNatClampNeg + t) k).toInt) (v (39 + 15 * x0.toNatClampNeg + x1.toNatClampNeg) 0).toInt (v (29 + 15 * x0.toNatClampNeg) 5).toNatClampNeg → (((-5) : Int32) = -5) ∧ Fz v v_9) ∧ ((((0 ≤ x0.toInt ∧ x0.toInt < (v 13 2).toInt) ∧ 0 ≤ x1.toInt ∧ x1.toInt < (v (29 + 15 * x0.toNatClampNeg) 5).toInt) ∧ (v (39 + 15 * x0.toNatClampNeg + x1.toNatClampNeg) 1).toInt ≠ 0) ∧ TB (fun t k => (v (39 + 15 * x0.toNatClampNeg + t) k).toInt) (v (39 + 15 * x0.toNatClampNeg + x1.toNatClampNeg) 0).toInt (v (29 + 15 * x0.toNatClampNeg) 5).toNatClampNeg → (∀ M : Nat → Nat, lmin (v (29 + 15 * x0.toNatClampNeg) 5).toNatClampNeg (alw (fun t k => (v (39 + 15 * x0.toNatClampNeg + t) k).toInt) (v (39 + 15 * x0.toNatClampNeg + x1.toNatClampNeg) 0).toInt (v (29 + 15 * x0.toNatClampNeg) 5).toNatClampNeg) (own (fun t k => (v (39 + 15 * x0.toNatClampNeg + t) k).toInt) (v (39 + 15 * x0.toNatClampNeg + x1.toNatClampNeg) 0).toInt) M → ((-5) : Int32).toInt = ((M x1.toNatClampNeg : Nat) : Int)) ∧ Fz v v_9) := by
          refine ⟨fun hq => ?_, fun hq => ?_, fun hq => ?_, fun hq => ?_⟩
          · exfalso; omega
          · exfalso; omega
          · exact ⟨rfl, fz_of hg_10⟩
          · exact absurd hq.2 htb
        exact W.iret (v := (-5)) hx hb hr (fun t ht hW => ⟨⟨(-5), v_9, rfl, ⟨hv, hpost⟩, by rw [ht]; exact hP, hD⟩, hS.F ht⟩) hS.2.2 dX7_hour_80
    · have tc_6 : x_5.toInt = (0 : Int32).toInt := by rw [c_6]
      refine lv_bipush (v := (-4)) hx hb dX7_hour_33 (by decide) ?_
      have hpost : (¬ ((0 ≤ x0.toInt ∧ x0.toInt < (v 13 2).toInt) ∧ 0 ≤ x1.toInt ∧ x1.toInt < (v (29 + 15 * x0.toNatClampNeg) 5).toInt) → (((-4) : Int32) = -1) ∧ Fz v v) ∧ (((0 ≤ x0.toInt ∧ x0.toInt < (v 13 2).toInt) ∧ 0 ≤ x1.toInt ∧ x1.toInt < (v (29 + 15 * x0.toNatClampNeg) 5).toInt) ∧ (v (39 + 15 * x0.toNatClampNeg + x1.toNatClampNeg) 1).toInt = 0 → (((-4) : Int32) = -4) ∧ Fz v v) ∧ ((((0 ≤ x0.toInt ∧ x0.toInt < (v 13 2).toInt) ∧ 0 ≤ x1.toInt ∧ x1.toInt < (v (29 + 15 * x0.toNatClampNeg) 5).toInt) ∧ (v (39 + 15 * x0.toNatClampNeg + x1.toNatClampNeg) 1).toInt ≠ 0) ∧ ¬ TB (fun t k => (v (39 + 15 * x0.toNatClampNeg + t) k).toInt) (v (39 + 15 * x0.toNatClampNeg + x1.toNatClampNeg) 0).toInt (v (29 + 15 * x0.toNatClampNeg) 5).toNatClampNeg → (((-4) : Int32) = -5) ∧ Fz v v) ∧ ((((0 ≤ x0.toInt ∧ x0.toInt < (v 13 2).toInt) ∧ 0 ≤ x1.toInt ∧ x1.toInt < (v (29 + 15 * x0.toNatClampNeg) 5).toInt) ∧ (v (39 + 15 * x0.toNatClampNeg + x1.toNatClampNeg) 1).toInt ≠ 0) ∧ TB (fun t k => (v (39 + 15 * x0.toNatClampNeg + t) k).toInt) (v (39 + 15 * x0.toNatClampNeg + x1.toNatClampNeg) 0).toInt (v (29 + 15 * x0.toNatClampNeg) 5).toNatClampNeg → (∀ M : Nat → Nat, lmin (v (29 + 15 * x0.toNatClampNeg) 5).toNatClampNeg (alw (fun t k => (v (39 + 15 * x0.toNatClampNeg + t) k).toInt) (v (39 + 15 * x0.toNatClampNeg + x1.toNatClampNeg) 0).toInt (v (29 + 15 * x0.toNatClampNeg) 5).toNatClampNeg) (own (fun t k => (v (39 + 15 * x0.toNatClampNeg + t) k).toInt) (v (39 + 15 * x0.toNatClampNeg + x1.toNatClampNeg) 0).toInt) M → ((-4) : Int32).toInt = ((M x1.toNatClampNeg : Nat) : Int)) ∧ Fz v v) := by
        refine ⟨fun hq => ?_, fun hq => ?_, fun hq => ?_, fun hq => ?_⟩
        · exfalso; omega
        · exact ⟨rfl, Fz.rf⟩
        · exact absurd hq.1.2 (by omega)
        · exact absurd hq.1.2 (by omega)
      exact W.iret (v := (-4)) hx hb hr (fun t ht hW => ⟨⟨(-4), v, rfl, ⟨hv, hpost⟩, by rw [ht]; exact hP, hD⟩, hS.F ht⟩) hS.2.2 dX7_hour_35
  · refine lv_if_ne (tgt := 11) hx hb dX7_hour_6 (by decide) (fun c9 => absurd c9 (by decide)) (fun _ => ?_)
    refine lv_iconst (v := (-1)) hx hb dX7_hour_9 (by decide) ?_
    have hpost : (¬ ((0 ≤ x0.toInt ∧ x0.toInt < (v 13 2).toInt) ∧ 0 ≤ x1.toInt ∧ x1.toInt < (v (29 + 15 * x0.toNatClampNeg) 5).toInt) → (((-1) : Int32) = -1) ∧ Fz v v) ∧ (((0 ≤ x0.toInt ∧ x0.toInt < (v 13 2).toInt) ∧ 0 ≤ x1.toInt ∧ x1.toInt < (v (29 + 15 * x0.toNatClampNeg) 5).toInt) ∧ (v (39 + 15 * x0.toNatClampNeg + x1.toNatClampNeg) 1).toInt = 0 → (((-1) : Int32) = -4) ∧ Fz v v) ∧ ((((0 ≤ x0.toInt ∧ x0.toInt < (v 13 2).toInt) ∧ 0 ≤ x1.toInt ∧ x1.toInt < (v (29 + 15 * x0.toNatClampNeg) 5).toInt) ∧ (v (39 + 15 * x0.toNatClampNeg + x1.toNatClampNeg) 1).toInt ≠ 0) ∧ ¬ TB (fun t k => (v (39 + 15 * x0.toNatClampNeg + t) k).toInt) (v (39 + 15 * x0.toNatClampNeg + x1.toNatClampNeg) 0).toInt (v (29 + 15 * x0.toNatClampNeg) 5).toNatClampNeg → (((-1) : Int32) = -5) ∧ Fz v v) ∧ ((((0 ≤ x0.toInt ∧ x0.toInt < (v 13 2).toInt) ∧ 0 ≤ x1.toInt ∧ x1.toInt < (v (29 + 15 * x0.toNatClampNeg) 5).toInt) ∧ (v (39 + 15 * x0.toNatClampNeg + x1.toNatClampNeg) 1).toInt ≠ 0) ∧ TB (fun t k => (v (39 + 15 * x0.toNatClampNeg + t) k).toInt) (v (39 + 15 * x0.toNatClampNeg + x1.toNatClampNeg) 0).toInt (v (29 + 15 * x0.toNatClampNeg) 5).toNatClampNeg → (∀ M : Nat → Nat, lmin (v (29 + 15 * x0.toNatClampNeg) 5).toNatClampNeg (alw (fun t k => (v (39 + 15 * x0.toNatClampNeg + t) k).toInt) (v (39 + 15 * x0.toNatClampNeg + x1.toNatClampNeg) 0).toInt (v (29 + 15 * x0.toNatClampNeg) 5).toNatClampNeg) (own (fun t k => (v (39 + 15 * x0.toNatClampNeg + t) k).toInt) (v (39 + 15 * x0.toNatClampNeg + x1.toNatClampNeg) 0).toInt) M → ((-1) : Int32).toInt = ((M x1.toNatClampNeg : Nat) : Int)) ∧ Fz v v) := by
      refine ⟨fun hq => ?_, fun hq => ?_, fun hq => ?_, fun hq => ?_⟩
      · exact ⟨rfl, Fz.rf⟩
      · exact absurd hq.1 (by omega)
      · exact absurd hq.1.1 (by omega)
      · exact absurd hq.1.1 (by omega)
    exact W.iret (v := (-1)) hx hb hr (fun t ht hW => ⟨⟨(-1), v, rfl, ⟨hv, hpost⟩, by rw [ht]; exact hP, hD⟩, hS.F ht⟩) hS.2.2 dX7_hour_10
