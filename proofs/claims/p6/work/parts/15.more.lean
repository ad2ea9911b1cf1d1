set_option maxRecDepth 20000 in
theorem db_X7_isTerm_0 : (decode cX7_isTerm 0 = .ok (.aload_n 0, 1)) ∧ (decode cX7_isTerm 1 = .ok (.iload_n 1, 1)) ∧ (decode cX7_isTerm 2 = .ok (.invokevirtual 96, 3)) ∧ (decode cX7_isTerm 5 = .ok (.ifCond .eq 29, 3)) ∧ (decode cX7_isTerm 8 = .ok (.iload_n 2, 1)) ∧ (decode cX7_isTerm 9 = .ok (.iconst 0, 1)) ∧ (decode cX7_isTerm 10 = .ok (.aload_n 0, 1)) ∧ (decode cX7_isTerm 11 = .ok (.getfield 12, 3)) := by decide +kernel
theorem dX7_isTerm_0 : decode cX7_isTerm 0 = .ok (.aload_n 0, 1) := db_X7_isTerm_0.1
theorem dX7_isTerm_1 : decode cX7_isTerm 1 = .ok (.iload_n 1, 1) := db_X7_isTerm_0.2.1
set_option maxRecDepth 20000 in
theorem ggX7_isTerm_X7_isCase : GoodIn wsX7_isTerm wsX7_isCase := goodIn_r _ [8, 1, 9, 10, 11, 7, 12, 13, 14, 15, 16, 17, 18, 19, 20, 21, 22, 23, 24] rfl (by decide +kernel)
set_option maxRecDepth 20000 in
theorem gX7_isTerm_X7_isCase : GoodIn wsX7_isTerm (wsV RX7 96 RX7 yX7_isCase wsX7_isCase) := goodIn_app (goodIn_r _ [4, 5, 6, 7] rfl (by decide +kernel)) ggX7_isTerm_X7_isCase
theorem dX7_isTerm_2 : decode cX7_isTerm 2 = .ok (.invokevirtual 96, 3) := db_X7_isTerm_0.2.2.1
theorem dX7_isTerm_5 : decode cX7_isTerm 5 = .ok (.ifCond .eq 29, 3) := db_X7_isTerm_0.2.2.2.1
theorem dX7_isTerm_8 : decode cX7_isTerm 8 = .ok (.iload_n 2, 1) := db_X7_isTerm_0.2.2.2.2.1
theorem dX7_isTerm_9 : decode cX7_isTerm 9 = .ok (.iconst 0, 1) := db_X7_isTerm_0.2.2.2.2.2.1
theorem dX7_isTerm_10 : decode cX7_isTerm 10 = .ok (.aload_n 0, 1) := db_X7_isTerm_0.2.2.2.2.2.2.1
theorem dX7_isTerm_11 : decode cX7_isTerm 11 = .ok (.getfield 12, 3) := db_X7_isTerm_0.2.2.2.2.2.2.2
set_option maxRecDepth 20000 in
theorem db_X7_isTerm_14 : (decode cX7_isTerm 14 = .ok (.getfield 86, 3)) ∧ (decode cX7_isTerm 17 = .ok (.iload_n 1, 1)) ∧ (decode cX7_isTerm 18 = .ok (.aaload, 1)) ∧ (decode cX7_isTerm 19 = .ok (.getfield 169, 3)) ∧ (decode cX7_isTerm 22 = .ok (.iconst 1, 1)) ∧ (decode cX7_isTerm 23 = .ok (.isub, 1)) ∧ (decode cX7_isTerm 24 = .ok (.invokestatic 37, 3)) ∧ (decode cX7_isTerm 27 = .ok (.ifCond .eq 7, 3)) := by decide +kernel
theorem dX7_isTerm_14 : decode cX7_isTerm 14 = .ok (.getfield 86, 3) := db_X7_isTerm_14.1
theorem dX7_isTerm_17 : decode cX7_isTerm 17 = .ok (.iload_n 1, 1) := db_X7_isTerm_14.2.1
theorem dX7_isTerm_18 : decode cX7_isTerm 18 = .ok (.aaload, 1) := db_X7_isTerm_14.2.2.1
theorem dX7_isTerm_19 : decode cX7_isTerm 19 = .ok (.getfield 169, 3) := db_X7_isTerm_14.2.2.2.1
theorem dX7_isTerm_22 : decode cX7_isTerm 22 = .ok (.iconst 1, 1) := db_X7_isTerm_14.2.2.2.2.1
theorem dX7_isTerm_23 : decode cX7_isTerm 23 = .ok (.isub, 1) := db_X7_isTerm_14.2.2.2.2.2.1
set_option maxRecDepth 20000 in
theorem ggX7_isTerm_X7_isWithin : GoodIn wsX7_isTerm wsX7_isWithin := goodIn_r _ [12] rfl (by decide +kernel)
set_option maxRecDepth 20000 in
theorem gX7_isTerm_X7_isWithin : GoodIn wsX7_isTerm (va_wsS RX7 37 yX7_isWithin wsX7_isWithin) := goodIn_app (goodIn_r _ [10, 11, 7] rfl (by decide +kernel)) ggX7_isTerm_X7_isWithin
theorem dX7_isTerm_24 : decode cX7_isTerm 24 = .ok (.invokestatic 37, 3) := db_X7_isTerm_14.2.2.2.2.2.2.1
theorem dX7_isTerm_27 : decode cX7_isTerm 27 = .ok (.ifCond .eq 7, 3) := db_X7_isTerm_14.2.2.2.2.2.2.2
set_option maxRecDepth 20000 in
theorem db_X7_isTerm_30 : (decode cX7_isTerm 30 = .ok (.iconst 1, 1)) ∧ (decode cX7_isTerm 31 = .ok (.goto 4, 3)) ∧ (decode cX7_isTerm 35 = .ok (.ireturn, 1)) ∧ (decode cX7_isTerm 34 = .ok (.iconst 0, 1)) := by decide +kernel
theorem dX7_isTerm_30 : decode cX7_isTerm 30 = .ok (.iconst 1, 1) := db_X7_isTerm_30.1
theorem dX7_isTerm_31 : decode cX7_isTerm 31 = .ok (.goto 4, 3) := db_X7_isTerm_30.2.1
theorem dX7_isTerm_35 : decode cX7_isTerm 35 = .ok (.ireturn, 1) := db_X7_isTerm_30.2.2.1
theorem dX7_isTerm_34 : decode cX7_isTerm 34 = .ok (.iconst 0, 1) := db_X7_isTerm_30.2.2.2
theorem t_bool {x : Int32} (h : 0 ≤ x.toInt ∧ x.toInt ≤ 1) : x = 0 ∨ x = 1 := by
  have k0 : (0 : Int32).toInt = 0 := by decide
  have k1 : (1 : Int32).toInt = 1 := by decide
  rcases (show x.toInt = 0 ∨ x.toInt = 1 by omega) with q | q
  · exact Or.inl (Int32.toInt_inj.mp (by rw [q, k0]))
  · exact Or.inr (Int32.toInt_inj.mp (by rw [q, k1]))

set_option maxHeartbeats 4000000 in
set_option maxRecDepth 100000 in
theorem g_X7_isTerm (l : Launch) (dC : Nat → ClassId) (dI : Nat → Nat → Nat) (cy : Nat → ClassId) (sz : Nat) (ad : Nat → Nat) (kv : Value) (N : Nat) (hN : 119 ≤ N) (v : Nat → Nat → Int32) (hv : Iv v) (x0 x1 : Int32) : Met l yX7_isTerm wsX7_isTerm ({ frames := 2, cells := 0, slots := 0, locals := 128 }) (va_Pc [.ref (ad 0), .int x0, .int x1] (ex_Pre dC dI cy sz (wl ad kv cy N v))) (va_Qi (fun (r : Int32) (u : Nat → Nat → Int32) => Iv u ∧ Fz v u ∧ ((r = 1 ∧ (0 ≤ x0.toInt ∧ x0.toInt < 6) ∧ (0 ≤ x1.toInt ∧ x1.toInt < 5)) ∨ r = 0)) (fun u t => ex_Pst dC dI (va_A (wl ad kv cy N v) sz) (wl ad kv cy N u) t) (va_A (wl ad kv cy N v) sz)) 0 0 (va_A (wl ad kv cy N v) sz) := by
  refine Met.ofW (cc := cX7_isTerm) (maxL := 3) (ret := (some .boolean)) (by decide) rfl ?_
  intro p e s m args below meth c s₁ B hml hv
  obtain ⟨rfl, hsz, hE, hP, hK, hD0⟩ := hv
  have hx := B.exec
  have hb := B.bytes
  have hr := B.returns
  have hts := atoms_spec (ws := wsX7_isTerm) B.pre
  have hown : s.vm.findClass RX7 = some m.cls := findClass_of_methodNamed B.named
  have hlocks := B.notSynchronized
  subst hsz
  have hD := hD0.self (sz := s.heap.size)
  generalize hAe : va_A (wl ad kv cy N v) s.heap.size = A at hD ⊢
  have hA : ∀ q : Nat, s.heap.size ≤ q → A q := fun q h => by rw [← hAe]; exact Or.inr h
  have hS : va_S A s.heap s.heap [] := va_S.rf
  have hP : va_P (dC, dI) vwCl (wl ad kv cy N v) s.heap := hP
  have hl := lv_entry ([.ref (ad 0), .int x0, .int x1]) (n := 3) (Nat.le_of_ble_eq_true rfl)
  rw [lg_entry_eq]
  generalize (lg_sl ([.ref (ad 0), .int x0, .int x1]) ++ List.replicate (3 - (lg_sl ([.ref (ad 0), .int x0, .int x1])).length) Slot.unset).toArray = ls at hl ⊢
  have hl : lv_has ls 3 [(0, .ref (ad 0)), (1, .int x0), (2, .int x1)] := hl
  have hfr : Fz v v := Fz.rf
  refine lv_aload_n hx hb dX7_isTerm_0 rfl (lv_at hl 0 rfl) ?_
  refine lv_iload_n hx hb dX7_isTerm_1 rfl (lv_at hl 1 rfl) ?_
  refine yw_i (w1 := fun (u : Nat → Nat → Int32) => wl ad kv cy N u) hD hS hA (va_runV (As := [.int x0]) (rest := []) ⟨hx, hb, hml, hown, hts⟩ (g_X7_isCase l dC dI cy _ ad kv N hN v hv x0) (cwV 1 hts gX7_isTerm_X7_isCase rfl rfl rfl hd_V_X7_isCase_1 ⟨Nat.le_of_ble_eq_true rfl, Nat.le_of_ble_eq_true rfl⟩) (yw_preV hE hK hP hD (ci := 7) (q0 := 0) rfl (wl_at (by omega) (ce_0 (by decide)))) rfl rfl hl.1 rfl (lv_room (Nat.le_of_ble_eq_true rfl)) dX7_isTerm_2 ⟨Nat.le_of_ble_eq_true rfl, Nat.le_of_ble_eq_true rfl⟩) (fun r_1 v_1 H locs hw_1 hP hD hS => ?_)
  obtain ⟨hv, hw_1⟩ := hw_1
  obtain ⟨hu_1, hw_1⟩ := hw_1
  have hfr : Fz v v_1 := by rw [hu_1]; exact hfr
  rcases hw_1 with ⟨rfl, ha_2⟩ | ⟨rfl, -⟩
  · have hb_2 := hv.at (k := 13) (j := 2) (K := 3) (by decide) rfl
    have hb_2 : 0 ≤ x0.toInt ∧ x0.toInt < 6 := by omega
    refine lv_if_eq (tgt := 34) hx hb dX7_isTerm_5 (by decide) (fun c9 => absurd c9 (by decide)) (fun _ => ?_)
    refine lv_iload_n hx hb dX7_isTerm_8 rfl (lv_at hl 2 rfl) ?_
    refine lv_iconst (v := 0) hx hb dX7_isTerm_9 (by decide) ?_
    refine lv_aload_n hx hb dX7_isTerm_10 rfl (lv_at hl 0 rfl) ?_
    refine va_get (D := (dC, dI)) (ci := 7) (v := .ref (ad 13)) (C := RX7) (T := TX7) (N := 5) hx hb hts iwX7_isTerm_X7 hown hK hP (0) (wl_at (by omega) (ce_0 (by decide))) rfl 0 (by decide) (hts (.fieldLink RX7 12 "QuietStairs" "now" "LQuietStairs$House;") fwX7_isTerm_1) (fun _ h9 => h9) rfl dX7_isTerm_11 ?_
    refine va_get (D := (dC, dI)) (ci := 1) (v := .ref (ad 16)) (C := RX1) (T := TX1) (N := 7) hx hb hts iwX7_isTerm_X1 hown hK hP (13) (wl_at (by omega) (ce_3 (by decide))) rfl 6 (by decide) (hts (.fieldLink RX7 86 "QuietStairs$House" "cases" "[LQuietStairs$Case;") fwX7_isTerm_2) (fun _ h9 => h9) rfl dX7_isTerm_14 ?_
    refine lv_iload_n hx hb dX7_isTerm_17 rfl (lv_at hl 1 rfl) ?_
    obtain ⟨pi3, i3, hi3, ni3, mi3⟩ := t_in (x := x0) (n := 6) ⟨by omega, by omega⟩
    refine va_aldq hx hb hK hP (16) 3 (wl_at (by omega) (ce_6 (by decide))) rfl pi3 dX7_isTerm_18 ?_
    refine W.eq (g2 := F0 m 19 ls [.ref (ad (29 + 15 * i3)), .int 0, .int x1]) (by rw [ni3, if_pos hi3, show 16 + 13 + 15 * i3 = 29 + 15 * i3 from by omega]; rfl) ?_
    refine va_get (D := (dC, dI)) (ci := 0) (v := .int (v_1 (29 + 15 * i3) 5)) (C := RX0) (T := TX0) (N := 11) hx hb hts iwX7_isTerm_X0 hown hK hP (29 + 15 * i3) (wl_at (by omega) (ce_9 (kd_c i3 hi3).1.1)) rfl 5 (by decide) (hts (.fieldLink RX7 169 "QuietStairs$Case" "termCount" "I") fwX7_isTerm_3) (fun _ h9 => h9) rfl dX7_isTerm_19 ?_
    refine lv_topi (fun x_4 ex_4 => ?_)
    have bx_4 : 0 ≤ x_4.toInt ∧ x_4.toInt ≤ 5 := by rw [ex_4]; exact hv.at (K := 9) (kd_c i3 hi3).1.1 rfl
    refine lv_iconst (v := 1) hx hb dX7_isTerm_22 (by decide) ?_
    have k_1 : (1 : Int32).toInt = 1 := by decide
    refine lv_isub hx hb dX7_isTerm_23 ?_
    refine lv_topi (fun x_5 ex_5 => ?_)
    have tx_5 : x_5.toInt = x_4.toInt - (1 : Int32).toInt := by rw [ex_5]; exact t_sub ⟨by omega, by omega⟩
    refine yc_p hP hS (va_runS (As := [.int x1, .int 0, .int x_5]) (rest := []) ⟨hx, hb, hml, hown, hts⟩ (c_X7_isWithin l x1 0 x_5) (cwS 3 hts gX7_isTerm_X7_isWithin rfl rfl rfl hd_S_X7_isWithin_3 ⟨Nat.le_of_ble_eq_true rfl, Nat.le_of_ble_eq_true rfl⟩) ex_preP rfl rfl hl.1 rfl (lv_room (Nat.le_of_ble_eq_true rfl)) dX7_isTerm_24 ⟨Nat.le_of_ble_eq_true rfl, Nat.le_of_ble_eq_true rfl⟩) (fun r_6 H locs hw_6 hP hS => ?_)
    rcases wi_ca hw_6 with ⟨rfl, hc_7⟩ | ⟨rfl, hc_7⟩
    · have k_0 : (0 : Int32).toInt = 0 := by decide
      have tc_7 := wi_tl hc_7
      refine lv_if_eq (tgt := 34) hx hb dX7_isTerm_27 (by decide) (fun c9 => absurd c9 (by decide)) (fun _ => ?_)
      refine lv_iconst (v := 1) hx hb dX7_isTerm_30 (by decide) ?_
      refine lv_goto (tgt := 35) hx hb dX7_isTerm_31 (by decide) ?_
      exact W.zret (ty := .boolean) (v := 1) hx hb hr rfl (fun t ht hW => ⟨⟨1, v_1, rfl, ⟨hv, hfr, Or.inl ⟨rfl, ⟨by omega, by omega⟩, ⟨by omega, by omega⟩⟩⟩, by rw [ht]; exact hP, hD⟩, hS.F ht⟩) hS.2.2 dX7_isTerm_35
    · refine lv_if_eq (tgt := 34) hx hb dX7_isTerm_27 (by decide) (fun _ => ?_) (fun c9 => absurd c9 (by decide))
      refine lv_iconst (v := 0) hx hb dX7_isTerm_34 (by decide) ?_
      exact W.zret (ty := .boolean) (v := 0) hx hb hr rfl (fun t ht hW => ⟨⟨0, v_1, rfl, ⟨hv, hfr, Or.inr rfl⟩, by rw [ht]; exact hP, hD⟩, hS.F ht⟩) hS.2.2 dX7_isTerm_35
  · refine lv_if_eq (tgt := 34) hx hb dX7_isTerm_5 (by decide) (fun _ => ?_) (fun c9 => absurd c9 (by decide))
    refine lv_iconst (v := 0) hx hb dX7_isTerm_34 (by decide) ?_
    exact W.zret (ty := .boolean) (v := 0) hx hb hr rfl (fun t ht hW => ⟨⟨0, v_1, rfl, ⟨hv, hfr, Or.inr rfl⟩, by rw [ht]; exact hP, hD⟩, hS.F ht⟩) hS.2.2 dX7_isTerm_35
