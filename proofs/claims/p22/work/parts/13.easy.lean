set_option maxRecDepth 20000 in
theorem db_X7_put_0 : (decode cX7_put 0 = .ok (.aload_n 0, 1)) ∧ (decode cX7_put 1 = .ok (.iload_n 1, 1)) ∧ (decode cX7_put 2 = .ok (.invokevirtual 96, 3)) ∧ (decode cX7_put 5 = .ok (.ifCond .eq 10, 3)) ∧ (decode cX7_put 8 = .ok (.iload_n 2, 1)) ∧ (decode cX7_put 9 = .ok (.invokestatic 132, 3)) ∧ (decode cX7_put 12 = .ok (.ifCond .ne 5, 3)) ∧ (decode cX7_put 17 = .ok (.aload_n 0, 1)) := by decide +kernel
theorem dX7_put_0 : decode cX7_put 0 = .ok (.aload_n 0, 1) := db_X7_put_0.1
theorem dX7_put_1 : decode cX7_put 1 = .ok (.iload_n 1, 1) := db_X7_put_0.2.1
set_option maxRecDepth 20000 in
theorem ggX7_put_X7_isCase : GoodIn wsX7_put wsX7_isCase := goodIn_r _ [8, 1, 9, 10, 11, 7, 12, 16, 17, 18, 19, 20, 21, 22, 23, 24, 25, 26, 27] rfl (by decide +kernel)
set_option maxRecDepth 20000 in
theorem gX7_put_X7_isCase : GoodIn wsX7_put (wsV RX7 96 RX7 yX7_isCase wsX7_isCase) := goodIn_app (goodIn_r _ [4, 5, 6, 7] rfl (by decide +kernel)) ggX7_put_X7_isCase
theorem dX7_put_2 : decode cX7_put 2 = .ok (.invokevirtual 96, 3) := db_X7_put_0.2.2.1
theorem dX7_put_5 : decode cX7_put 5 = .ok (.ifCond .eq 10, 3) := db_X7_put_0.2.2.2.1
theorem dX7_put_8 : decode cX7_put 8 = .ok (.iload_n 2, 1) := db_X7_put_0.2.2.2.2.1
set_option maxRecDepth 20000 in
theorem ggX7_put_X7_isSide : GoodIn wsX7_put wsX7_isSide := goodIn_r _ [15, 10, 11, 7, 12] rfl (by decide +kernel)
set_option maxRecDepth 20000 in
theorem gX7_put_X7_isSide : GoodIn wsX7_put (va_wsS RX7 132 yX7_isSide wsX7_isSide) := goodIn_app (goodIn_r _ [13, 14, 7] rfl (by decide +kernel)) ggX7_put_X7_isSide
theorem dX7_put_9 : decode cX7_put 9 = .ok (.invokestatic 132, 3) := db_X7_put_0.2.2.2.2.2.1
theorem dX7_put_12 : decode cX7_put 12 = .ok (.ifCond .ne 5, 3) := db_X7_put_0.2.2.2.2.2.2.1
theorem dX7_put_17 : decode cX7_put 17 = .ok (.aload_n 0, 1) := db_X7_put_0.2.2.2.2.2.2.2
set_option maxRecDepth 20000 in
theorem db_X7_put_18 : (decode cX7_put 18 = .ok (.getfield 12, 3)) ∧ (decode cX7_put 21 = .ok (.getfield 86, 3)) ∧ (decode cX7_put 24 = .ok (.iload_n 1, 1)) ∧ (decode cX7_put 25 = .ok (.aaload, 1)) ∧ (decode cX7_put 26 = .ok (.getfield 135, 3)) ∧ (decode cX7_put 29 = .ok (.iload_n 2, 1)) ∧ (decode cX7_put 30 = .ok (.iaload, 1)) ∧ (decode cX7_put 31 = .ok (.iconst (-1), 1)) := by decide +kernel
theorem dX7_put_18 : decode cX7_put 18 = .ok (.getfield 12, 3) := db_X7_put_18.1
theorem dX7_put_21 : decode cX7_put 21 = .ok (.getfield 86, 3) := db_X7_put_18.2.1
theorem dX7_put_24 : decode cX7_put 24 = .ok (.iload_n 1, 1) := db_X7_put_18.2.2.1
theorem dX7_put_25 : decode cX7_put 25 = .ok (.aaload, 1) := db_X7_put_18.2.2.2.1
theorem dX7_put_26 : decode cX7_put 26 = .ok (.getfield 135, 3) := db_X7_put_18.2.2.2.2.1
theorem dX7_put_29 : decode cX7_put 29 = .ok (.iload_n 2, 1) := db_X7_put_18.2.2.2.2.2.1
theorem dX7_put_30 : decode cX7_put 30 = .ok (.iaload, 1) := db_X7_put_18.2.2.2.2.2.2.1
theorem dX7_put_31 : decode cX7_put 31 = .ok (.iconst (-1), 1) := db_X7_put_18.2.2.2.2.2.2.2
set_option maxRecDepth 20000 in
theorem db_X7_put_32 : (decode cX7_put 32 = .ok (.if_icmp .ne 7, 3)) ∧ (decode cX7_put 39 = .ok (.iconst 1, 1)) ∧ (decode cX7_put 40 = .ok (.ireturn, 1)) ∧ (decode cX7_put 35 = .ok (.iconst 0, 1)) ∧ (decode cX7_put 36 = .ok (.goto 4, 3)) ∧ (decode cX7_put 15 = .ok (.iconst (-1), 1)) ∧ (decode cX7_put 16 = .ok (.ireturn, 1)) := by decide +kernel
theorem dX7_put_32 : decode cX7_put 32 = .ok (.if_icmp .ne 7, 3) := db_X7_put_32.1
theorem dX7_put_39 : decode cX7_put 39 = .ok (.iconst 1, 1) := db_X7_put_32.2.1
theorem dX7_put_40 : decode cX7_put 40 = .ok (.ireturn, 1) := db_X7_put_32.2.2.1
theorem dX7_put_35 : decode cX7_put 35 = .ok (.iconst 0, 1) := db_X7_put_32.2.2.2.1
theorem dX7_put_36 : decode cX7_put 36 = .ok (.goto 4, 3) := db_X7_put_32.2.2.2.2.1
theorem dX7_put_15 : decode cX7_put 15 = .ok (.iconst (-1), 1) := db_X7_put_32.2.2.2.2.2.1
theorem dX7_put_16 : decode cX7_put 16 = .ok (.ireturn, 1) := db_X7_put_32.2.2.2.2.2.2
set_option maxHeartbeats 4000000 in
set_option maxRecDepth 100000 in
theorem g_X7_put (l : Launch) (dC : Nat → ClassId) (dI : Nat → Nat → Nat) (cy : Nat → ClassId) (sz : Nat) (ad : Nat → Nat) (kv : Value) (N : Nat) (hN : 119 ≤ N) (v : Nat → Nat → Int32) (hv : Iv v) (x0 x1 : Int32) : Met l yX7_put wsX7_put ({ frames := 3, cells := 0, slots := 0, locals := 192 }) (va_Pc [.ref (ad 0), .int x0, .int x1] (ex_Pre dC dI cy sz (wl ad kv cy N v))) (va_Qi (fun (r : Int32) (u : Nat → Nat → Int32) => Iv u ∧ Fz v u) (fun u t => ex_Pst dC dI (va_A (wl ad kv cy N v) sz) (wl ad kv cy N u) t) (va_A (wl ad kv cy N v) sz)) 0 0 (va_A (wl ad kv cy N v) sz) := by
  refine Met.ofW (cc := cX7_put) (maxL := 3) (ret := (some .int)) (by decide) rfl ?_
  intro p e s m args below meth c s₁ B hml hv
  obtain ⟨rfl, hsz, hE, hP, hK, hD0⟩ := hv
  have hx := B.exec
  have hb := B.bytes
  have hr := B.returns
  have hts := atoms_spec (ws := wsX7_put) B.pre
  have hown : s.vm.findClass RX7 = some m.cls := findClass_of_methodNamed B.named
  have hlocks := B.notSynchronized
  subst hsz
  have hD := hD0.self (sz := s.heap.size)
  generalize hAe : va_A (wl ad kv cy N v) s.heap.size = A at hD ⊢
  have hA : ∀ q : Nat, s.heap.size ≤ q → A q := fun q h => by rw [← hAe]; exact Or.inr h
  have hS : va_S A s.heap s.heap [] := va_S.rf
  have hP : va_P (dC, dI) vwCl (wl ad kv cy N v) s.heap := hP
  have hl := lv_entry ([.ref (ad 0), .int x0, .int x1]) (n := 3) (Nat.le_of_ble_eq_true rfl)
  rw [lg_entry_eq]
  generalize (lg_sl ([.ref (ad 0), .int x0, .int x1]) ++ List.replicate (3 - (lg_sl ([.ref (ad 0), .int x0, .int x1])).length) Slot.unset).toArray = ls at hl ⊢
  have hl : lv_has ls 3 [(0, .ref (ad 0)), (1, .int x0), (2, .int x1)] := hl
  have hfr : Fz v v := Fz.rf
  refine lv_aload_n hx hb dX7_put_0 rfl (lv_at hl 0 rfl) ?_
  refine lv_iload_n hx hb dX7_put_1 rfl (lv_at hl 1 rfl) ?_
  refine yw_i (w1 := fun (u : Nat → Nat → Int32) => wl ad kv cy N u) hD hS hA (va_runV (As := [.int x0]) (rest := []) ⟨hx, hb, hml, hown, hts⟩ (g_X7_isCase l dC dI cy _ ad kv N hN v hv x0) (cwV 1 hts gX7_put_X7_isCase rfl rfl rfl hd_V_X7_isCase_1 ⟨Nat.le_of_ble_eq_true rfl, Nat.le_of_ble_eq_true rfl⟩) (yw_preV hE hK hP hD (ci := 7) (q := (RX7, TX7, 5)) (q0 := 0) rfl (wl_at (by omega) (ce_0 (by decide)))) rfl rfl hl.1 rfl (lv_room (Nat.le_of_ble_eq_true rfl)) dX7_put_2 ⟨Nat.le_of_ble_eq_true rfl, Nat.le_of_ble_eq_true rfl⟩) (fun r_1 v_1 H locs hw_1 hP hD hS => ?_)
  obtain ⟨hv, hw_1⟩ := hw_1
  obtain ⟨hu_1, hw_1⟩ := hw_1
  have hfr : Fz v v_1 := by rw [hu_1]; exact hfr
  rcases hw_1 with ⟨rfl, ha_2⟩ | ⟨rfl, -⟩
  · have hb_2 := hv.at (k := 13) (j := 2) (K := 3) (by decide) rfl
    have hb_2 : 0 ≤ x0.toInt ∧ x0.toInt < 6 := by omega
    refine lv_if_eq (tgt := 15) hx hb dX7_put_5 (by decide) (fun c9 => absurd c9 (by decide)) (fun _ => ?_)
    refine lv_iload_n hx hb dX7_put_8 rfl (lv_at hl 2 rfl) ?_
    refine yc_p hP hS (va_runS (As := [.int x1]) (rest := []) ⟨hx, hb, hml, hown, hts⟩ (c_X7_isSide l x1) (cwS 1 hts gX7_put_X7_isSide rfl rfl rfl hd_S_X7_isSide_1 ⟨Nat.le_of_ble_eq_true rfl, Nat.le_of_ble_eq_true rfl⟩) ex_preP rfl rfl hl.1 rfl (lv_room (Nat.le_of_ble_eq_true rfl)) dX7_put_9 ⟨Nat.le_of_ble_eq_true rfl, Nat.le_of_ble_eq_true rfl⟩) (fun r_3 H locs hw_3 hP hS => ?_)
    rcases wi_ca hw_3 with ⟨rfl, hc_4⟩ | ⟨rfl, hc_4⟩
    · have k_0 : (0 : Int32).toInt = 0 := by decide
      have k_1 : (1 : Int32).toInt = 1 := by decide
      have tc_4 := wi_tl hc_4
      refine lv_if_ne (tgt := 17) hx hb dX7_put_12 (by decide) (fun _ => ?_) (fun c9 => absurd c9 (by decide))
      refine lv_aload_n hx hb dX7_put_17 rfl (lv_at hl 0 rfl) ?_
      refine va_get (D := (dC, dI)) (ci := 7) (v := .ref (ad 13)) (C := RX7) (T := TX7) (N := 5) hx hb hts iwX7_put_X7 hown hK hP (0) (wl_at (by omega) (ce_0 (by decide))) rfl 0 (by decide) (hts (.fieldLink RX7 12 "QuietStairs" "now" "LQuietStairs$House;") fwX7_put_1) (fun _ h9 => h9) rfl dX7_put_18 ?_
      refine va_get (D := (dC, dI)) (ci := 1) (v := .ref (ad 16)) (C := RX1) (T := TX1) (N := 7) hx hb hts iwX7_put_X1 hown hK hP (13) (wl_at (by omega) (ce_3 (by decide))) rfl 6 (by decide) (hts (.fieldLink RX7 86 "QuietStairs$House" "cases" "[LQuietStairs$Case;") fwX7_put_2) (fun _ h9 => h9) rfl dX7_put_21 ?_
      refine lv_iload_n hx hb dX7_put_24 rfl (lv_at hl 1 rfl) ?_
      obtain ⟨pi5, i5, hi5, ni5, mi5⟩ := t_in (x := x0) (n := 6) ⟨by omega, by omega⟩
      refine va_aldq hx hb hK hP (16) 3 (wl_at (by omega) (ce_6 (by decide))) rfl pi5 dX7_put_25 ?_
      refine W.eq (g2 := F0 m 26 ls [.ref (ad (29 + 15 * i5))]) (by rw [ni5, if_pos hi5, show 16 + 13 + 15 * i5 = 29 + 15 * i5 from by omega]; rfl) ?_
      refine va_get (D := (dC, dI)) (ci := 0) (v := .ref (ad (29 + 15 * i5 + 2))) (C := RX0) (T := TX0) (N := 11) hx hb hts iwX7_put_X0 hown hK hP (29 + 15 * i5) (wl_at (by omega) (ce_9 (kd_c i5 hi5).1.1)) rfl 7 (by decide) (hts (.fieldLink RX7 135 "QuietStairs$Case" "box" "[I") fwX7_put_3) (fun _ h9 => h9) rfl dX7_put_26 ?_
      refine W.eq (g2 := F0 m 29 ls [.ref (ad (31 + 15 * i5))]) (by rw [show 29 + 15 * i5 + 2 = 31 + 15 * i5 from by omega]) ?_
      refine lv_iload_n hx hb dX7_put_29 rfl (lv_at hl 2 rfl) ?_
      obtain ⟨pi6, i6, hi6, ni6, mi6⟩ := t_in (x := x1) (n := 2) ⟨by omega, by omega⟩
      refine va_iald hx hb hK hP (31 + 15 * i5) 0 (wl_at (by omega) (ce_20 (kd_c i5 hi5).1.2.2.1)) rfl pi6 dX7_put_30 ?_
      refine lv_topi (fun x_7 ex_7 => ?_)
      refine lv_iconst (v := (-1)) hx hb dX7_put_31 (by decide) ?_
      have k_m1 : ((-1) : Int32).toInt = -1 := by decide
      refine lv_icmp_ne (tgt := 39) hx hb dX7_put_32 (by decide) (fun c_8 => ?_) (fun c_8 => ?_)
      · have tc_8 : x_7.toInt ≠ ((-1) : Int32).toInt := fun q => absurd (Int32.toInt_inj.mp q) c_8
        refine lv_iconst (v := 1) hx hb dX7_put_39 (by decide) ?_
        exact W.iret (v := 1) hx hb hr (fun t ht hW => ⟨⟨1, v_1, rfl, ⟨hv, hfr⟩, by rw [ht]; exact hP, hD⟩, hS.F ht⟩) hS.2.2 dX7_put_40
      · have tc_8 : x_7.toInt = ((-1) : Int32).toInt := by rw [c_8]
        refine lv_iconst (v := 0) hx hb dX7_put_35 (by decide) ?_
        refine lv_goto (tgt := 40) hx hb dX7_put_36 (by decide) ?_
        exact W.iret (v := 0) hx hb hr (fun t ht hW => ⟨⟨0, v_1, rfl, ⟨hv, hfr⟩, by rw [ht]; exact hP, hD⟩, hS.F ht⟩) hS.2.2 dX7_put_40
    · refine lv_if_ne (tgt := 17) hx hb dX7_put_12 (by decide) (fun c9 => absurd c9 (by decide)) (fun _ => ?_)
      refine lv_iconst (v := (-1)) hx hb dX7_put_15 (by decide) ?_
      exact W.iret (v := (-1)) hx hb hr (fun t ht hW => ⟨⟨(-1), v_1, rfl, ⟨hv, hfr⟩, by rw [ht]; exact hP, hD⟩, hS.F ht⟩) hS.2.2 dX7_put_16
  · refine lv_if_eq (tgt := 15) hx hb dX7_put_5 (by decide) (fun _ => ?_) (fun c9 => absurd c9 (by decide))
    refine lv_iconst (v := (-1)) hx hb dX7_put_15 (by decide) ?_
    exact W.iret (v := (-1)) hx hb hr (fun t ht hW => ⟨⟨(-1), v_1, rfl, ⟨hv, hfr⟩, by rw [ht]; exact hP, hD⟩, hS.F ht⟩) hS.2.2 dX7_put_16
set_option maxRecDepth 20000 in
theorem db_X1_countState_0 : (decode cX1_countState 0 = .ok (.iconst 0, 1)) ∧ (decode cX1_countState 1 = .ok (.istore_n 2, 1)) ∧ (decode cX1_countState 2 = .ok (.iconst 0, 1)) ∧ (decode cX1_countState 3 = .ok (.istore_n 3, 1)) ∧ (decode cX1_countState 4 = .ok (.iload_n 3, 1)) ∧ (decode cX1_countState 5 = .ok (.aload_n 0, 1)) ∧ (decode cX1_countState 6 = .ok (.getfield 66, 3)) ∧ (decode cX1_countState 9 = .ok (.if_icmp .ge 25, 3)) := by decide +kernel
theorem dX1_countState_0 : decode cX1_countState 0 = .ok (.iconst 0, 1) := db_X1_countState_0.1
theorem dX1_countState_1 : decode cX1_countState 1 = .ok (.istore_n 2, 1) := db_X1_countState_0.2.1
theorem dX1_countState_2 : decode cX1_countState 2 = .ok (.iconst 0, 1) := db_X1_countState_0.2.2.1
theorem dX1_countState_3 : decode cX1_countState 3 = .ok (.istore_n 3, 1) := db_X1_countState_0.2.2.2.1
theorem dX1_countState_4 : decode cX1_countState 4 = .ok (.iload_n 3, 1) := db_X1_countState_0.2.2.2.2.1
theorem dX1_countState_5 : decode cX1_countState 5 = .ok (.aload_n 0, 1) := db_X1_countState_0.2.2.2.2.2.1
theorem dX1_countState_6 : decode cX1_countState 6 = .ok (.getfield 66, 3) := db_X1_countState_0.2.2.2.2.2.2.1
theorem dX1_countState_9 : decode cX1_countState 9 = .ok (.if_icmp .ge 25, 3) := db_X1_countState_0.2.2.2.2.2.2.2
set_option maxRecDepth 20000 in
theorem db_X1_countState_34 : (decode cX1_countState 34 = .ok (.iload_n 2, 1)) ∧ (decode cX1_countState 35 = .ok (.ireturn, 1)) ∧ (decode cX1_countState 12 = .ok (.aload_n 0, 1)) ∧ (decode cX1_countState 13 = .ok (.getfield 25, 3)) ∧ (decode cX1_countState 16 = .ok (.iload_n 3, 1)) ∧ (decode cX1_countState 17 = .ok (.aaload, 1)) ∧ (decode cX1_countState 18 = .ok (.getfield 79, 3)) ∧ (decode cX1_countState 21 = .ok (.iload_n 1, 1)) := by decide +kernel
theorem dX1_countState_34 : decode cX1_countState 34 = .ok (.iload_n 2, 1) := db_X1_countState_34.1
theorem dX1_countState_35 : decode cX1_countState 35 = .ok (.ireturn, 1) := db_X1_countState_34.2.1
theorem dX1_countState_12 : decode cX1_countState 12 = .ok (.aload_n 0, 1) := db_X1_countState_34.2.2.1
theorem dX1_countState_13 : decode cX1_countState 13 = .ok (.getfield 25, 3) := db_X1_countState_34.2.2.2.1
theorem dX1_countState_16 : decode cX1_countState 16 = .ok (.iload_n 3, 1) := db_X1_countState_34.2.2.2.2.1
theorem dX1_countState_17 : decode cX1_countState 17 = .ok (.aaload, 1) := db_X1_countState_34.2.2.2.2.2.1
theorem dX1_countState_18 : decode cX1_countState 18 = .ok (.getfield 79, 3) := db_X1_countState_34.2.2.2.2.2.2.1
theorem dX1_countState_21 : decode cX1_countState 21 = .ok (.iload_n 1, 1) := db_X1_countState_34.2.2.2.2.2.2.2
set_option maxRecDepth 20000 in
theorem db_X1_countState_22 : (decode cX1_countState 22 = .ok (.if_icmp .ne 6, 3)) ∧ (decode cX1_countState 28 = .ok (.iinc 3 1, 3)) ∧ (decode cX1_countState 31 = .ok (.goto (-27), 3)) ∧ (decode cX1_countState 25 = .ok (.iinc 2 1, 3)) := by decide +kernel
theorem dX1_countState_22 : decode cX1_countState 22 = .ok (.if_icmp .ne 6, 3) := db_X1_countState_22.1
theorem dX1_countState_28 : decode cX1_countState 28 = .ok (.iinc 3 1, 3) := db_X1_countState_22.2.1
theorem dX1_countState_31 : decode cX1_countState 31 = .ok (.goto (-27), 3) := db_X1_countState_22.2.2.1
theorem dX1_countState_25 : decode cX1_countState 25 = .ok (.iinc 2 1, 3) := db_X1_countState_22.2.2.2
set_option maxRecDepth 20000 in
theorem db_X1_countTerms_0 : (decode cX1_countTerms 0 = .ok (.iconst 0, 1)) ∧ (decode cX1_countTerms 1 = .ok (.istore_n 1, 1)) ∧ (decode cX1_countTerms 2 = .ok (.iconst 0, 1)) ∧ (decode cX1_countTerms 3 = .ok (.istore_n 2, 1)) ∧ (decode cX1_countTerms 4 = .ok (.iload_n 2, 1)) ∧ (decode cX1_countTerms 5 = .ok (.aload_n 0, 1)) ∧ (decode cX1_countTerms 6 = .ok (.getfield 66, 3)) ∧ (decode cX1_countTerms 9 = .ok (.if_icmp .ge 21, 3)) := by decide +kernel
theorem dX1_countTerms_0 : decode cX1_countTerms 0 = .ok (.iconst 0, 1) := db_X1_countTerms_0.1
theorem dX1_countTerms_1 : decode cX1_countTerms 1 = .ok (.istore_n 1, 1) := db_X1_countTerms_0.2.1
theorem dX1_countTerms_2 : decode cX1_countTerms 2 = .ok (.iconst 0, 1) := db_X1_countTerms_0.2.2.1
theorem dX1_countTerms_3 : decode cX1_countTerms 3 = .ok (.istore_n 2, 1) := db_X1_countTerms_0.2.2.2.1
theorem dX1_countTerms_4 : decode cX1_countTerms 4 = .ok (.iload_n 2, 1) := db_X1_countTerms_0.2.2.2.2.1
theorem dX1_countTerms_5 : decode cX1_countTerms 5 = .ok (.aload_n 0, 1) := db_X1_countTerms_0.2.2.2.2.2.1
theorem dX1_countTerms_6 : decode cX1_countTerms 6 = .ok (.getfield 66, 3) := db_X1_countTerms_0.2.2.2.2.2.2.1
theorem dX1_countTerms_9 : decode cX1_countTerms 9 = .ok (.if_icmp .ge 21, 3) := db_X1_countTerms_0.2.2.2.2.2.2.2
set_option maxRecDepth 20000 in
theorem db_X1_countTerms_30 : (decode cX1_countTerms 30 = .ok (.iload_n 1, 1)) ∧ (decode cX1_countTerms 31 = .ok (.ireturn, 1)) ∧ (decode cX1_countTerms 12 = .ok (.iload_n 1, 1)) ∧ (decode cX1_countTerms 13 = .ok (.aload_n 0, 1)) ∧ (decode cX1_countTerms 14 = .ok (.getfield 25, 3)) ∧ (decode cX1_countTerms 17 = .ok (.iload_n 2, 1)) ∧ (decode cX1_countTerms 18 = .ok (.aaload, 1)) ∧ (decode cX1_countTerms 19 = .ok (.getfield 82, 3)) := by decide +kernel
theorem dX1_countTerms_30 : decode cX1_countTerms 30 = .ok (.iload_n 1, 1) := db_X1_countTerms_30.1
theorem dX1_countTerms_31 : decode cX1_countTerms 31 = .ok (.ireturn, 1) := db_X1_countTerms_30.2.1
theorem dX1_countTerms_12 : decode cX1_countTerms 12 = .ok (.iload_n 1, 1) := db_X1_countTerms_30.2.2.1
theorem dX1_countTerms_13 : decode cX1_countTerms 13 = .ok (.aload_n 0, 1) := db_X1_countTerms_30.2.2.2.1
theorem dX1_countTerms_14 : decode cX1_countTerms 14 = .ok (.getfield 25, 3) := db_X1_countTerms_30.2.2.2.2.1
theorem dX1_countTerms_17 : decode cX1_countTerms 17 = .ok (.iload_n 2, 1) := db_X1_countTerms_30.2.2.2.2.2.1
theorem dX1_countTerms_18 : decode cX1_countTerms 18 = .ok (.aaload, 1) := db_X1_countTerms_30.2.2.2.2.2.2.1
theorem dX1_countTerms_19 : decode cX1_countTerms 19 = .ok (.getfield 82, 3) := db_X1_countTerms_30.2.2.2.2.2.2.2
set_option maxRecDepth 20000 in
theorem db_X1_countTerms_22 : (decode cX1_countTerms 22 = .ok (.iadd, 1)) ∧ (decode cX1_countTerms 23 = .ok (.istore_n 1, 1)) ∧ (decode cX1_countTerms 24 = .ok (.iinc 2 1, 3)) ∧ (decode cX1_countTerms 27 = .ok (.goto (-23), 3)) := by decide +kernel
theorem dX1_countTerms_22 : decode cX1_countTerms 22 = .ok (.iadd, 1) := db_X1_countTerms_22.1
theorem dX1_countTerms_23 : decode cX1_countTerms 23 = .ok (.istore_n 1, 1) := db_X1_countTerms_22.2.1
theorem dX1_countTerms_24 : decode cX1_countTerms 24 = .ok (.iinc 2 1, 3) := db_X1_countTerms_22.2.2.1
theorem dX1_countTerms_27 : decode cX1_countTerms 27 = .ok (.goto (-23), 3) := db_X1_countTerms_22.2.2.2
set_option maxHeartbeats 4000000 in
set_option maxRecDepth 100000 in
theorem g_X1_countState (l : Launch) (dC : Nat → ClassId) (dI : Nat → Nat → Nat) (cy : Nat → ClassId) (sz : Nat) (ad : Nat → Nat) (kv : Value) (N : Nat) (hN : 119 ≤ N) (v : Nat → Nat → Int32) (hv : Iv v)  (x0 : Int32) : Met l yX1_countState wsX1_countState ({ frames := 3, cells := 0, slots := 0, locals := 192 }) (va_Pc [.ref (ad 13), .int x0] (ex_Pre dC dI cy sz (wl ad kv cy N v))) (va_Qi (fun (r : Int32) (u : Nat → Nat → Int32) => Iv u ∧ Fz v u) (fun u t => ex_Pst dC dI (va_A (wl ad kv cy N v) sz) (wl ad kv cy N u) t) (va_A (wl ad kv cy N v) sz)) 0 0 (va_A (wl ad kv cy N v) sz) := by
  refine Met.ofW (cc := cX1_countState) (maxL := 4) (ret := (some .int)) (by decide) rfl ?_
  intro p e s m args below meth c s₁ B hml hv
  obtain ⟨rfl, hsz, hE, hP, hK, hD0⟩ := hv
  have hx := B.exec
  have hb := B.bytes
  have hr := B.returns
  have hts := atoms_spec (ws := wsX1_countState) B.pre
  have hown : s.vm.findClass RX1 = some m.cls := findClass_of_methodNamed B.named
  have hlocks := B.notSynchronized
  subst hsz
  have hD := hD0.self (sz := s.heap.size)
  generalize hAe : va_A (wl ad kv cy N v) s.heap.size = A at hD ⊢
  have hA : ∀ q : Nat, s.heap.size ≤ q → A q := fun q h => by rw [← hAe]; exact Or.inr h
  have hS : va_S A s.heap s.heap [] := va_S.rf
  have hP : va_P (dC, dI) vwCl (wl ad kv cy N v) s.heap := hP
  have hl := lv_entry ([.ref (ad 13), .int x0]) (n := 4) (Nat.le_of_ble_eq_true rfl)
  rw [lg_entry_eq]
  generalize (lg_sl ([.ref (ad 13), .int x0]) ++ List.replicate (4 - (lg_sl ([.ref (ad 13), .int x0])).length) Slot.unset).toArray = ls at hl ⊢
  have hl : lv_has ls 4 [(0, .ref (ad 13)), (1, .int x0)] := hl
  have hfr : Fz v v := Fz.rf
  refine lv_iconst (v := 0) hx hb dX1_countState_0 (by decide) ?_
  refine lv_istore_n (lv' := [(2, .int 0), (0, .ref (ad 13)), (1, .int x0)]) hx hb dX1_countState_1 rfl hl (by decide) rfl (fun ls hl => ?_)
  refine lv_iconst (v := 0) hx hb dX1_countState_2 (by decide) ?_
  refine lv_istore_n (lv' := [(3, .int 0), (2, .int 0), (0, .ref (ad 13)), (1, .int x0)]) hx hb dX1_countState_3 rfl hl (by decide) rfl (fun ls hl => ?_)
  have k_0 : (0 : Int32).toInt = 0 := by decide
  have hloop_1 : ∀ (n : Nat) (y1_3 y1_2 : Int32) (u1 : Nat → Nat → Int32) (H : Heap) (locs : List Loc), 0 ≤ y1_3.toInt → y1_3.toInt ≤ 6 → (6 - y1_3.toInt).toNat < n → Iv u1 → Fz v u1 → va_P (dC, dI) vwCl (wl ad kv cy N u1) H → va_D A (wl ad kv cy N u1) → va_S A s.heap H locs → ∀ ls : Array Slot, lv_has ls 4 [(3, .int y1_3), (2, .int y1_2), (0, .ref (ad 13)), (1, .int x0)] → W p l e (headSpec wsX1_countState ({ frames := 3, cells := 0, slots := 0, locals := 192 })).room s m [Value.ref (ad 13), Value.int x0].toArray below meth c H locs 0 0 (MQ below (va_Qi (fun (r : Int32) (u : Nat → Nat → Int32) => Iv u ∧ Fz v u) (fun u t => ex_Pst dC dI A (wl ad kv cy N u) t) A) [Value.ref (ad 13), Value.int x0].toArray s 0 0 A) (F0 m 4 ls []) := by
    intro n
    induction n with
    | zero =>
      intro y1_3 y1_2 u1 H locs ay1_3 by1_3 hm_1 hv hfr hP hD hS ls hl
      exact absurd hm_1 (by omega)
    | succ n ih_1 =>
      intro y1_3 y1_2 u1 H locs ay1_3 by1_3 hm_1 hv hfr hP hD hS ls hl
      refine lv_iload_n hx hb dX1_countState_4 rfl (lv_at hl 0 rfl) ?_
      refine lv_aload_n hx hb dX1_countState_5 rfl (lv_at hl 2 rfl) ?_
      refine va_get (D := (dC, dI)) (ci := 1) (v := .int (u1 (13) 2)) (C := RX1) (T := TX1) (N := 7) hx hb hts iwX1_countState_X1 hown hK hP (13) (wl_at (by omega) (ce_3 (by decide))) rfl 2 (by decide) (hts (.fieldLink RX1 66 "QuietStairs$House" "caseCount" "I") fwX1_countState_1) (fun _ h9 => h9) rfl dX1_countState_6 ?_
      refine lv_topi (fun x_2 ex_2 => ?_)
      have bx_2 : 0 ≤ x_2.toInt ∧ x_2.toInt ≤ 6 := by rw [ex_2]; exact hv.at (K := 3) (by decide) rfl
      refine lv_icmp_ge (tgt := 34) hx hb dX1_countState_9 (by decide) (fun c_3 => ?_) (fun c_3 => ?_)
      · have tc_3 : y1_3.toInt ≥ x_2.toInt := Int32.le_iff_toInt_le.mp c_3
        refine lv_iload_n hx hb dX1_countState_34 rfl (lv_at hl 1 rfl) ?_
        exact W.iret (v := y1_2) hx hb hr (fun t ht hW => ⟨⟨y1_2, u1, rfl, ⟨hv, hfr⟩, by rw [ht]; exact hP, hD⟩, hS.F ht⟩) hS.2.2 dX1_countState_35
      · have tc_3 : y1_3.toInt < x_2.toInt := Int32.lt_iff_toInt_lt.mp (Int32.not_le.mp c_3)
        refine lv_aload_n hx hb dX1_countState_12 rfl (lv_at hl 2 rfl) ?_
        refine va_get (D := (dC, dI)) (ci := 1) (v := .ref (ad 16)) (C := RX1) (T := TX1) (N := 7) hx hb hts iwX1_countState_X1 hown hK hP (13) (wl_at (by omega) (ce_3 (by decide))) rfl 6 (by decide) (hts (.fieldLink RX1 25 "QuietStairs$House" "cases" "[LQuietStairs$Case;") fwX1_countState_2) (fun _ h9 => h9) rfl dX1_countState_13 ?_
        refine lv_iload_n hx hb dX1_countState_16 rfl (lv_at hl 0 rfl) ?_
        obtain ⟨pi4, i4, hi4, ni4, mi4⟩ := t_in (x := y1_3) (n := 6) ⟨by omega, by omega⟩
        refine va_aldq hx hb hK hP (16) 3 (wl_at (by omega) (ce_6 (by decide))) rfl pi4 dX1_countState_17 ?_
        refine W.eq (g2 := F0 m 18 ls [.ref (ad (29 + 15 * i4))]) (by rw [ni4, if_pos hi4, show 16 + 13 + 15 * i4 = 29 + 15 * i4 from by omega]; rfl) ?_
        refine va_get (D := (dC, dI)) (ci := 0) (v := .int (u1 (29 + 15 * i4) 0)) (C := RX0) (T := TX0) (N := 11) hx hb hts iwX1_countState_X0 hown hK hP (29 + 15 * i4) (wl_at (by omega) (ce_9 (kd_c i4 hi4).1.1)) rfl 0 (by decide) (hts (.fieldLink RX1 79 "QuietStairs$Case" "state" "I") fwX1_countState_3) (fun _ h9 => h9) rfl dX1_countState_18 ?_
        refine lv_topi (fun x_5 ex_5 => ?_)
        refine lv_iload_n hx hb dX1_countState_21 rfl (lv_at hl 3 rfl) ?_
        refine lv_icmp_ne (tgt := 28) hx hb dX1_countState_22 (by decide) (fun c_6 => ?_) (fun c_6 => ?_)
        · have tc_6 : x_5.toInt ≠ x0.toInt := fun q => absurd (Int32.toInt_inj.mp q) c_6
          obtain ⟨x_7, ex_7⟩ : ∃ y : Int32, y = y1_3 + 1 := ⟨_, rfl⟩
          refine lv_iinc (v := x_7) (lv' := [(3, .int x_7), (2, .int y1_2), (0, .ref (ad 13)), (1, .int x0)]) hx hb dX1_countState_28 hl (k := 0) rfl (by rw [ex_7]; rfl) (by decide) rfl (fun ls hl => ?_)
          have k_1 : (1 : Int32).toInt = 1 := by decide
          have tx_7 : x_7.toInt = y1_3.toInt + (1 : Int32).toInt := by rw [ex_7]; exact t_add ⟨by omega, by omega⟩
          refine lv_goto (tgt := 4) hx hb dX1_countState_31 (by decide) ?_
          exact ih_1 x_7 y1_2 u1 H locs (by omega) (by omega) (by omega) hv hfr hP hD hS ls (lv_sub hl [0, 1, 2, 3] rfl)
        · have tc_6 : x_5.toInt = x0.toInt := by rw [c_6]
          obtain ⟨x_7, ex_7⟩ : ∃ y : Int32, y = y1_2 + 1 := ⟨_, rfl⟩
          refine lv_iinc (v := x_7) (lv' := [(2, .int x_7), (3, .int y1_3), (0, .ref (ad 13)), (1, .int x0)]) hx hb dX1_countState_25 hl (k := 1) rfl (by rw [ex_7]; rfl) (by decide) rfl (fun ls hl => ?_)
          obtain ⟨x_8, ex_8⟩ : ∃ y : Int32, y = y1_3 + 1 := ⟨_, rfl⟩
          refine lv_iinc (v := x_8) (lv' := [(3, .int x_8), (2, .int x_7), (0, .ref (ad 13)), (1, .int x0)]) hx hb dX1_countState_28 hl (k := 1) rfl (by rw [ex_8]; rfl) (by decide) rfl (fun ls hl => ?_)
          have k_1 : (1 : Int32).toInt = 1 := by decide
          have tx_8 : x_8.toInt = y1_3.toInt + (1 : Int32).toInt := by rw [ex_8]; exact t_add ⟨by omega, by omega⟩
          refine lv_goto (tgt := 4) hx hb dX1_countState_31 (by decide) ?_
          exact ih_1 x_8 x_7 u1 H locs (by omega) (by omega) (by omega) hv hfr hP hD hS ls (lv_sub hl [0, 1, 2, 3] rfl)
  exact hloop_1 ((6 - (0 : Int32).toInt).toNat + 1) 0 0 v _ _ (by omega) (by omega) (by omega) hv hfr hP hD hS ls hl

set_option maxHeartbeats 4000000 in
set_option maxRecDepth 100000 in
theorem g_X1_countTerms (l : Launch) (dC : Nat → ClassId) (dI : Nat → Nat → Nat) (cy : Nat → ClassId) (sz : Nat) (ad : Nat → Nat) (kv : Value) (N : Nat) (hN : 119 ≤ N) (v : Nat → Nat → Int32) (hv : Iv v)  : Met l yX1_countTerms wsX1_countTerms ({ frames := 3, cells := 0, slots := 0, locals := 192 }) (va_Pc [.ref (ad 13)] (ex_Pre dC dI cy sz (wl ad kv cy N v))) (va_Qi (fun (r : Int32) (u : Nat → Nat → Int32) => Iv u ∧ Fz v u) (fun u t => ex_Pst dC dI (va_A (wl ad kv cy N v) sz) (wl ad kv cy N u) t) (va_A (wl ad kv cy N v) sz)) 0 0 (va_A (wl ad kv cy N v) sz) := by
  refine Met.ofW (cc := cX1_countTerms) (maxL := 3) (ret := (some .int)) (by decide) rfl ?_
  intro p e s m args below meth c s₁ B hml hv
  obtain ⟨rfl, hsz, hE, hP, hK, hD0⟩ := hv
  have hx := B.exec
  have hb := B.bytes
  have hr := B.returns
  have hts := atoms_spec (ws := wsX1_countTerms) B.pre
  have hown : s.vm.findClass RX1 = some m.cls := findClass_of_methodNamed B.named
  have hlocks := B.notSynchronized
  subst hsz
  have hD := hD0.self (sz := s.heap.size)
  generalize hAe : va_A (wl ad kv cy N v) s.heap.size = A at hD ⊢
  have hA : ∀ q : Nat, s.heap.size ≤ q → A q := fun q h => by rw [← hAe]; exact Or.inr h
  have hS : va_S A s.heap s.heap [] := va_S.rf
  have hP : va_P (dC, dI) vwCl (wl ad kv cy N v) s.heap := hP
  have hl := lv_entry ([.ref (ad 13)]) (n := 3) (Nat.le_of_ble_eq_true rfl)
  rw [lg_entry_eq]
  generalize (lg_sl ([.ref (ad 13)]) ++ List.replicate (3 - (lg_sl ([.ref (ad 13)])).length) Slot.unset).toArray = ls at hl ⊢
  have hl : lv_has ls 3 [(0, .ref (ad 13))] := hl
  have hfr : Fz v v := Fz.rf
  refine lv_iconst (v := 0) hx hb dX1_countTerms_0 (by decide) ?_
  refine lv_istore_n (lv' := [(1, .int 0), (0, .ref (ad 13))]) hx hb dX1_countTerms_1 rfl hl (by decide) rfl (fun ls hl => ?_)
  refine lv_iconst (v := 0) hx hb dX1_countTerms_2 (by decide) ?_
  refine lv_istore_n (lv' := [(2, .int 0), (1, .int 0), (0, .ref (ad 13))]) hx hb dX1_countTerms_3 rfl hl (by decide) rfl (fun ls hl => ?_)
  have k_0 : (0 : Int32).toInt = 0 := by decide
  have hloop_1 : ∀ (n : Nat) (y1_2 y1_1 : Int32) (u1 : Nat → Nat → Int32) (H : Heap) (locs : List Loc), 0 ≤ y1_2.toInt → y1_2.toInt ≤ 6 → (6 - y1_2.toInt).toNat < n → Iv u1 → Fz v u1 → va_P (dC, dI) vwCl (wl ad kv cy N u1) H → va_D A (wl ad kv cy N u1) → va_S A s.heap H locs → ∀ ls : Array Slot, lv_has ls 3 [(2, .int y1_2), (1, .int y1_1), (0, .ref (ad 13))] → W p l e (headSpec wsX1_countTerms ({ frames := 3, cells := 0, slots := 0, locals := 192 })).room s m [Value.ref (ad 13)].toArray below meth c H locs 0 0 (MQ below (va_Qi (fun (r : Int32) (u : Nat → Nat → Int32) => Iv u ∧ Fz v u) (fun u t => ex_Pst dC dI A (wl ad kv cy N u) t) A) [Value.ref (ad 13)].toArray s 0 0 A) (F0 m 4 ls []) := by
    intro n
    induction n with
    | zero =>
      intro y1_2 y1_1 u1 H locs ay1_2 by1_2 hm_1 hv hfr hP hD hS ls hl
      exact absurd hm_1 (by omega)
    | succ n ih_1 =>
      intro y1_2 y1_1 u1 H locs ay1_2 by1_2 hm_1 hv hfr hP hD hS ls hl
      refine lv_iload_n hx hb dX1_countTerms_4 rfl (lv_at hl 0 rfl) ?_
      refine lv_aload_n hx hb dX1_countTerms_5 rfl (lv_at hl 2 rfl) ?_
      refine va_get (D := (dC, dI)) (ci := 1) (v := .int (u1 (13) 2)) (C := RX1) (T := TX1) (N := 7) hx hb hts iwX1_countTerms_X1 hown hK hP (13) (wl_at (by omega) (ce_3 (by decide))) rfl 2 (by decide) (hts (.fieldLink RX1 66 "QuietStairs$House" "caseCount" "I") fwX1_countTerms_1) (fun _ h9 => h9) rfl dX1_countTerms_6 ?_
      refine lv_topi (fun x_2 ex_2 => ?_)
      have bx_2 : 0 ≤ x_2.toInt ∧ x_2.toInt ≤ 6 := by rw [ex_2]; exact hv.at (K := 3) (by decide) rfl
      refine lv_icmp_ge (tgt := 30) hx hb dX1_countTerms_9 (by decide) (fun c_3 => ?_) (fun c_3 => ?_)
      · have tc_3 : y1_2.toInt ≥ x_2.toInt := Int32.le_iff_toInt_le.mp c_3
        refine lv_iload_n hx hb dX1_countTerms_30 rfl (lv_at hl 1 rfl) ?_
        exact W.iret (v := y1_1) hx hb hr (fun t ht hW => ⟨⟨y1_1, u1, rfl, ⟨hv, hfr⟩, by rw [ht]; exact hP, hD⟩, hS.F ht⟩) hS.2.2 dX1_countTerms_31
      · have tc_3 : y1_2.toInt < x_2.toInt := Int32.lt_iff_toInt_lt.mp (Int32.not_le.mp c_3)
        refine lv_iload_n hx hb dX1_countTerms_12 rfl (lv_at hl 1 rfl) ?_
        refine lv_aload_n hx hb dX1_countTerms_13 rfl (lv_at hl 2 rfl) ?_
        refine va_get (D := (dC, dI)) (ci := 1) (v := .ref (ad 16)) (C := RX1) (T := TX1) (N := 7) hx hb hts iwX1_countTerms_X1 hown hK hP (13) (wl_at (by omega) (ce_3 (by decide))) rfl 6 (by decide) (hts (.fieldLink RX1 25 "QuietStairs$House" "cases" "[LQuietStairs$Case;") fwX1_countTerms_2) (fun _ h9 => h9) rfl dX1_countTerms_14 ?_
        refine lv_iload_n hx hb dX1_countTerms_17 rfl (lv_at hl 0 rfl) ?_
        obtain ⟨pi4, i4, hi4, ni4, mi4⟩ := t_in (x := y1_2) (n := 6) ⟨by omega, by omega⟩
        refine va_aldq hx hb hK hP (16) 3 (wl_at (by omega) (ce_6 (by decide))) rfl pi4 dX1_countTerms_18 ?_
        refine W.eq (g2 := F0 m 19 ls [.ref (ad (29 + 15 * i4)), .int y1_1]) (by rw [ni4, if_pos hi4, show 16 + 13 + 15 * i4 = 29 + 15 * i4 from by omega]; rfl) ?_
        refine va_get (D := (dC, dI)) (ci := 0) (v := .int (u1 (29 + 15 * i4) 5)) (C := RX0) (T := TX0) (N := 11) hx hb hts iwX1_countTerms_X0 hown hK hP (29 + 15 * i4) (wl_at (by omega) (ce_9 (kd_c i4 hi4).1.1)) rfl 5 (by decide) (hts (.fieldLink RX1 82 "QuietStairs$Case" "termCount" "I") fwX1_countTerms_3) (fun _ h9 => h9) rfl dX1_countTerms_19 ?_
        refine lv_topi (fun x_5 ex_5 => ?_)
        have bx_5 : 0 ≤ x_5.toInt ∧ x_5.toInt ≤ 5 := by rw [ex_5]; exact hv.at (K := 9) (kd_c i4 hi4).1.1 rfl
        refine lv_iadd hx hb dX1_countTerms_22 ?_
        refine lv_topi (fun x_6 ex_6 => ?_)
        refine lv_istore_n (lv' := [(1, .int x_6), (2, .int y1_2), (0, .ref (ad 13))]) hx hb dX1_countTerms_23 rfl hl (by decide) rfl (fun ls hl => ?_)
        obtain ⟨x_7, ex_7⟩ : ∃ y : Int32, y = y1_2 + 1 := ⟨_, rfl⟩
        refine lv_iinc (v := x_7) (lv' := [(2, .int x_7), (1, .int x_6), (0, .ref (ad 13))]) hx hb dX1_countTerms_24 hl (k := 1) rfl (by rw [ex_7]; rfl) (by decide) rfl (fun ls hl => ?_)
        have k_1 : (1 : Int32).toInt = 1 := by decide
        have tx_7 : x_7.toInt = y1_2.toInt + (1 : Int32).toInt := by rw [ex_7]; exact t_add ⟨by omega, by omega⟩
        refine lv_goto (tgt := 4) hx hb dX1_countTerms_27 (by decide) ?_
        exact ih_1 x_7 x_6 u1 H locs (by omega) (by omega) (by omega) hv hfr hP hD hS ls (lv_sub hl [0, 1, 2] rfl)
  exact hloop_1 ((6 - (0 : Int32).toInt).toNat + 1) 0 0 v _ _ (by omega) (by omega) (by omega) hv hfr hP hD hS ls hl
set_option maxRecDepth 20000 in
theorem db_X7_isTerm_0 : (decode cX7_isTerm 0 = .ok (.aload_n 0, 1)) ∧ (decode cX7_isTerm 1 = .ok (.iload_n 1, 1)) ∧ (decode cX7_isTerm 2 = .ok (.invokevirtual 96, 3)) ∧ (decode cX7_isTerm 5 = .ok (.ifCond .eq 29, 3)) ∧ (decode cX7_isTerm 8 = .ok (.iload_n 2, 1)) ∧ (decode cX7_isTerm 9 = .ok (.iconst 0, 1)) ∧ (decode cX7_isTerm 10 = .ok (.aload_n 0, 1)) ∧ (decode cX7_isTerm 11 = .ok (.getfield 12, 3)) := by decide +kernel
theorem dX7_isTerm_0 : decode cX7_isTerm 0 = .ok (.aload_n 0, 1) := db_X7_isTerm_0.1
theorem dX7_isTerm_1 : decode cX7_isTerm 1 = .ok (.iload_n 1, 1) := db_X7_isTerm_0.2.1
set_option maxRecDepth 20000 in
theorem ggX7_isTerm_X7_isCase : GoodIn wsX7_isTerm wsX7_isCase := goodIn_r _ [8, 1, 9, 10, 11, 7, 12, 13, 14, 15, 16, 17, 18, 19, 20, 21, 22, 23, 24] rfl (by decide +kernel)
set_option maxRecDepth 20000 in
theorem gX7_isTerm_X7_isCase : GoodIn wsX7_isTerm (wsV RX7 96 RX7 yX7_isCase wsX7_isCase) := goodIn_app (goodIn_r _ [4, 5, 6, 7] rfl (by decide +kernel)) ggX7_isTerm_X7_isCase
theorem dX7_isTerm_2 : decode cX7_isTerm 2 = .ok (.invokevirtual 96, 3) := db_X7_isTerm_0.2.2.1
theorem dX7_isTerm_5 : decode cX7_isTerm 5 = .ok (.ifCond .eq 29, 3) := db_X7_isTerm_0.2.2.2.1
theorem dX7_isTerm_8 : decode cX7_isTerm 8 = .ok (.iload_n 2, 1) := db_X7_isTerm_0.2.2.2.2.1
theorem dX7_isTerm_9 : decode cX7_isTerm 9 = .ok (.iconst 0, 1) := db_X7_isTerm_0.2.2.2.2.2.1
theorem dX7_isTerm_10 : decode cX7_isTerm 10 = .ok (.aload_n 0, 1) := db_X7_isTerm_0.2.2.2.2.2.2.1
theorem dX7_isTerm_11 : decode cX7_isTerm 11 = .ok (.getfield 12, 3) := db_X7_isTerm_0.2.2.2.2.2.2.2
set_option maxRecDepth 20000 in
theorem db_X7_isTerm_14 : (decode cX7_isTerm 14 = .ok (.getfield 86, 3)) ∧ (decode cX7_isTerm 17 = .ok (.iload_n 1, 1)) ∧ (decode cX7_isTerm 18 = .ok (.aaload, 1)) ∧ (decode cX7_isTerm 19 = .ok (.getfield 169, 3)) ∧ (decode cX7_isTerm 22 = .ok (.iconst 1, 1)) ∧ (decode cX7_isTerm 23 = .ok (.isub, 1)) ∧ (decode cX7_isTerm 24 = .ok (.invokestatic 37, 3)) ∧ (decode cX7_isTerm 27 = .ok (.ifCond .eq 7, 3)) := by decide +kernel
theorem dX7_isTerm_14 : decode cX7_isTerm 14 = .ok (.getfield 86, 3) := db_X7_isTerm_14.1
theorem dX7_isTerm_17 : decode cX7_isTerm 17 = .ok (.iload_n 1, 1) := db_X7_isTerm_14.2.1
theorem dX7_isTerm_18 : decode cX7_isTerm 18 = .ok (.aaload, 1) := db_X7_isTerm_14.2.2.1
theorem dX7_isTerm_19 : decode cX7_isTerm 19 = .ok (.getfield 169, 3) := db_X7_isTerm_14.2.2.2.1
theorem dX7_isTerm_22 : decode cX7_isTerm 22 = .ok (.iconst 1, 1) := db_X7_isTerm_14.2.2.2.2.1
theorem dX7_isTerm_23 : decode cX7_isTerm 23 = .ok (.isub, 1) := db_X7_isTerm_14.2.2.2.2.2.1
set_option maxRecDepth 20000 in
theorem ggX7_isTerm_X7_isWithin : GoodIn wsX7_isTerm wsX7_isWithin := goodIn_r _ [12] rfl (by decide +kernel)
set_option maxRecDepth 20000 in
theorem gX7_isTerm_X7_isWithin : GoodIn wsX7_isTerm (va_wsS RX7 37 yX7_isWithin wsX7_isWithin) := goodIn_app (goodIn_r _ [10, 11, 7] rfl (by decide +kernel)) ggX7_isTerm_X7_isWithin
theorem dX7_isTerm_24 : decode cX7_isTerm 24 = .ok (.invokestatic 37, 3) := db_X7_isTerm_14.2.2.2.2.2.2.1
theorem dX7_isTerm_27 : decode cX7_isTerm 27 = .ok (.ifCond .eq 7, 3) := db_X7_isTerm_14.2.2.2.2.2.2.2
set_option maxRecDepth 20000 in
theorem db_X7_isTerm_30 : (decode cX7_isTerm 30 = .ok (.iconst 1, 1)) ∧ (decode cX7_isTerm 31 = .ok (.goto 4, 3)) ∧ (decode cX7_isTerm 35 = .ok (.ireturn, 1)) ∧ (decode cX7_isTerm 34 = .ok (.iconst 0, 1)) := by decide +kernel
theorem dX7_isTerm_30 : decode cX7_isTerm 30 = .ok (.iconst 1, 1) := db_X7_isTerm_30.1
theorem dX7_isTerm_31 : decode cX7_isTerm 31 = .ok (.goto 4, 3) := db_X7_isTerm_30.2.1
theorem dX7_isTerm_35 : decode cX7_isTerm 35 = .ok (.ireturn, 1) := db_X7_isTerm_30.2.2.1
theorem dX7_isTerm_34 : decode cX7_isTerm 34 = .ok (.iconst 0, 1) := db_X7_isTerm_30.2.2.2
theorem t_bool {x : Int32} (h : 0 ≤ x.toInt ∧ x.toInt ≤ 1) : x = 0 ∨ x = 1 := by
  have k0 : (0 : Int32).toInt = 0 := by decide
  have k1 : (1 : Int32).toInt = 1 := by decide
  rcases (show x.toInt = 0 ∨ x.toInt = 1 by omega) with q | q
  · exact Or.inl (Int32.toInt_inj.mp (by rw [q, k0]))
  · exact Or.inr (Int32.toInt_inj.mp (by rw [q, k1]))

set_option maxHeartbeats 4000000 in
set_option maxRecDepth 100000 in
theorem g_X7_isTerm (l : Launch) (dC : Nat → ClassId) (dI : Nat → Nat → Nat) (cy : Nat → ClassId) (sz : Nat) (ad : Nat → Nat) (kv : Value) (N : Nat) (hN : 119 ≤ N) (v : Nat → Nat → Int32) (hv : Iv v) (x0 x1 : Int32) : Met l yX7_isTerm wsX7_isTerm ({ frames := 2, cells := 0, slots := 0, locals := 128 }) (va_Pc [.ref (ad 0), .int x0, .int x1] (ex_Pre dC dI cy sz (wl ad kv cy N v))) (va_Qi (fun (r : Int32) (u : Nat → Nat → Int32) => Iv u ∧ Fz v u ∧ ((r = 1 ∧ (0 ≤ x0.toInt ∧ x0.toInt < 6) ∧ (0 ≤ x1.toInt ∧ x1.toInt < 5)) ∨ r = 0)) (fun u t => ex_Pst dC dI (va_A (wl ad kv cy N v) sz) (wl ad kv cy N u) t) (va_A (wl ad kv cy N v) sz)) 0 0 (va_A (wl ad kv cy N v) sz) := by
  refine Met.ofW (cc := cX7_isTerm) (maxL := 3) (ret := (some .boolean)) (by decide) rfl ?_
  intro p e s m args below meth c s₁ B hml hv
  obtain ⟨rfl, hsz, hE, hP, hK, hD0⟩ := hv
  have hx := B.exec
  have hb := B.bytes
  have hr := B.returns
  have hts := atoms_spec (ws := wsX7_isTerm) B.pre
  have hown : s.vm.findClass RX7 = some m.cls := findClass_of_methodNamed B.named
  have hlocks := B.notSynchronized
  subst hsz
  have hD := hD0.self (sz := s.heap.size)
  generalize hAe : va_A (wl ad kv cy N v) s.heap.size = A at hD ⊢
  have hA : ∀ q : Nat, s.heap.size ≤ q → A q := fun q h => by rw [← hAe]; exact Or.inr h
  have hS : va_S A s.heap s.heap [] := va_S.rf
  have hP : va_P (dC, dI) vwCl (wl ad kv cy N v) s.heap := hP
  have hl := lv_entry ([.ref (ad 0), .int x0, .int x1]) (n := 3) (Nat.le_of_ble_eq_true rfl)
  rw [lg_entry_eq]
  generalize (lg_sl ([.ref (ad 0), .int x0, .int x1]) ++ List.replicate (3 - (lg_sl ([.ref (ad 0), .int x0, .int x1])).length) Slot.unset).toArray = ls at hl ⊢
  have hl : lv_has ls 3 [(0, .ref (ad 0)), (1, .int x0), (2, .int x1)] := hl
  have hfr : Fz v v := Fz.rf
  refine lv_aload_n hx hb dX7_isTerm_0 rfl (lv_at hl 0 rfl) ?_
  refine lv_iload_n hx hb dX7_isTerm_1 rfl (lv_at hl 1 rfl) ?_
  refine yw_i (w1 := fun (u : Nat → Nat → Int32) => wl ad kv cy N u) hD hS hA (va_runV (As := [.int x0]) (rest := []) ⟨hx, hb, hml, hown, hts⟩ (g_X7_isCase l dC dI cy _ ad kv N hN v hv x0) (cwV 1 hts gX7_isTerm_X7_isCase rfl rfl rfl hd_V_X7_isCase_1 ⟨Nat.le_of_ble_eq_true rfl, Nat.le_of_ble_eq_true rfl⟩) (yw_preV hE hK hP hD (ci := 7) (q := (RX7, TX7, 5)) (q0 := 0) rfl (wl_at (by omega) (ce_0 (by decide)))) rfl rfl hl.1 rfl (lv_room (Nat.le_of_ble_eq_true rfl)) dX7_isTerm_2 ⟨Nat.le_of_ble_eq_true rfl, Nat.le_of_ble_eq_true rfl⟩) (fun r_1 v_1 H locs hw_1 hP hD hS => ?_)
  obtain ⟨hv, hw_1⟩ := hw_1
  obtain ⟨hu_1, hw_1⟩ := hw_1
  have hfr : Fz v v_1 := by rw [hu_1]; exact hfr
  rcases hw_1 with ⟨rfl, ha_2⟩ | ⟨rfl, -⟩
  · have hb_2 := hv.at (k := 13) (j := 2) (K := 3) (by decide) rfl
    have hb_2 : 0 ≤ x0.toInt ∧ x0.toInt < 6 := by omega
    refine lv_if_eq (tgt := 34) hx hb dX7_isTerm_5 (by decide) (fun c9 => absurd c9 (by decide)) (fun _ => ?_)
    refine lv_iload_n hx hb dX7_isTerm_8 rfl (lv_at hl 2 rfl) ?_
    refine lv_iconst (v := 0) hx hb dX7_isTerm_9 (by decide) ?_
    refine lv_aload_n hx hb dX7_isTerm_10 rfl (lv_at hl 0 rfl) ?_
    refine va_get (D := (dC, dI)) (ci := 7) (v := .ref (ad 13)) (C := RX7) (T := TX7) (N := 5) hx hb hts iwX7_isTerm_X7 hown hK hP (0) (wl_at (by omega) (ce_0 (by decide))) rfl 0 (by decide) (hts (.fieldLink RX7 12 "QuietStairs" "now" "LQuietStairs$House;") fwX7_isTerm_1) (fun _ h9 => h9) rfl dX7_isTerm_11 ?_
    refine va_get (D := (dC, dI)) (ci := 1) (v := .ref (ad 16)) (C := RX1) (T := TX1) (N := 7) hx hb hts iwX7_isTerm_X1 hown hK hP (13) (wl_at (by omega) (ce_3 (by decide))) rfl 6 (by decide) (hts (.fieldLink RX7 86 "QuietStairs$House" "cases" "[LQuietStairs$Case;") fwX7_isTerm_2) (fun _ h9 => h9) rfl dX7_isTerm_14 ?_
    refine lv_iload_n hx hb dX7_isTerm_17 rfl (lv_at hl 1 rfl) ?_
    obtain ⟨pi3, i3, hi3, ni3, mi3⟩ := t_in (x := x0) (n := 6) ⟨by omega, by omega⟩
    refine va_aldq hx hb hK hP (16) 3 (wl_at (by omega) (ce_6 (by decide))) rfl pi3 dX7_isTerm_18 ?_
    refine W.eq (g2 := F0 m 19 ls [.ref (ad (29 + 15 * i3)), .int 0, .int x1]) (by rw [ni3, if_pos hi3, show 16 + 13 + 15 * i3 = 29 + 15 * i3 from by omega]; rfl) ?_
    refine va_get (D := (dC, dI)) (ci := 0) (v := .int (v_1 (29 + 15 * i3) 5)) (C := RX0) (T := TX0) (N := 11) hx hb hts iwX7_isTerm_X0 hown hK hP (29 + 15 * i3) (wl_at (by omega) (ce_9 (kd_c i3 hi3).1.1)) rfl 5 (by decide) (hts (.fieldLink RX7 169 "QuietStairs$Case" "termCount" "I") fwX7_isTerm_3) (fun _ h9 => h9) rfl dX7_isTerm_19 ?_
    refine lv_topi (fun x_4 ex_4 => ?_)
    have bx_4 : 0 ≤ x_4.toInt ∧ x_4.toInt ≤ 5 := by rw [ex_4]; exact hv.at (K := 9) (kd_c i3 hi3).1.1 rfl
    refine lv_iconst (v := 1) hx hb dX7_isTerm_22 (by decide) ?_
    have k_1 : (1 : Int32).toInt = 1 := by decide
    refine lv_isub hx hb dX7_isTerm_23 ?_
    refine lv_topi (fun x_5 ex_5 => ?_)
    have tx_5 : x_5.toInt = x_4.toInt - (1 : Int32).toInt := by rw [ex_5]; exact t_sub ⟨by omega, by omega⟩
    refine yc_p hP hS (va_runS (As := [.int x1, .int 0, .int x_5]) (rest := []) ⟨hx, hb, hml, hown, hts⟩ (c_X7_isWithin l x1 0 x_5) (cwS 3 hts gX7_isTerm_X7_isWithin rfl rfl rfl hd_S_X7_isWithin_3 ⟨Nat.le_of_ble_eq_true rfl, Nat.le_of_ble_eq_true rfl⟩) ex_preP rfl rfl hl.1 rfl (lv_room (Nat.le_of_ble_eq_true rfl)) dX7_isTerm_24 ⟨Nat.le_of_ble_eq_true rfl, Nat.le_of_ble_eq_true rfl⟩) (fun r_6 H locs hw_6 hP hS => ?_)
    rcases wi_ca hw_6 with ⟨rfl, hc_7⟩ | ⟨rfl, hc_7⟩
    · have k_0 : (0 : Int32).toInt = 0 := by decide
      have tc_7 := wi_tl hc_7
      refine lv_if_eq (tgt := 34) hx hb dX7_isTerm_27 (by decide) (fun c9 => absurd c9 (by decide)) (fun _ => ?_)
      refine lv_iconst (v := 1) hx hb dX7_isTerm_30 (by decide) ?_
      refine lv_goto (tgt := 35) hx hb dX7_isTerm_31 (by decide) ?_
      exact W.zret (ty := .boolean) (v := 1) hx hb hr rfl (fun t ht hW => ⟨⟨1, v_1, rfl, ⟨hv, hfr, Or.inl ⟨rfl, ⟨by omega, by omega⟩, ⟨by omega, by omega⟩⟩⟩, by rw [ht]; exact hP, hD⟩, hS.F ht⟩) hS.2.2 dX7_isTerm_35
    · refine lv_if_eq (tgt := 34) hx hb dX7_isTerm_27 (by decide) (fun _ => ?_) (fun c9 => absurd c9 (by decide))
      refine lv_iconst (v := 0) hx hb dX7_isTerm_34 (by decide) ?_
      exact W.zret (ty := .boolean) (v := 0) hx hb hr rfl (fun t ht hW => ⟨⟨0, v_1, rfl, ⟨hv, hfr, Or.inr rfl⟩, by rw [ht]; exact hP, hD⟩, hS.F ht⟩) hS.2.2 dX7_isTerm_35
  · refine lv_if_eq (tgt := 34) hx hb dX7_isTerm_5 (by decide) (fun _ => ?_) (fun c9 => absurd c9 (by decide))
    refine lv_iconst (v := 0) hx hb dX7_isTerm_34 (by decide) ?_
    exact W.zret (ty := .boolean) (v := 0) hx hb hr rfl (fun t ht hW => ⟨⟨0, v_1, rfl, ⟨hv, hfr, Or.inr rfl⟩, by rw [ht]; exact hP, hD⟩, hS.F ht⟩) hS.2.2 dX7_isTerm_35
set_option maxRecDepth 20000 in
theorem db_X0_hasMet_0 : (decode cX0_hasMet 0 = .ok (.aload_n 0, 1)) ∧ (decode cX0_hasMet 1 = .ok (.getfield 33, 3)) ∧ (decode cX0_hasMet 4 = .ok (.iconst 1, 1)) ∧ (decode cX0_hasMet 5 = .ok (.if_icmp .ne 17, 3)) ∧ (decode cX0_hasMet 22 = .ok (.iconst 0, 1)) ∧ (decode cX0_hasMet 23 = .ok (.ireturn, 1)) ∧ (decode cX0_hasMet 8 = .ok (.iload_n 1, 1)) ∧ (decode cX0_hasMet 9 = .ok (.aload_n 0, 1)) := by decide +kernel
theorem dX0_hasMet_0 : decode cX0_hasMet 0 = .ok (.aload_n 0, 1) := db_X0_hasMet_0.1
theorem dX0_hasMet_1 : decode cX0_hasMet 1 = .ok (.getfield 33, 3) := db_X0_hasMet_0.2.1
theorem dX0_hasMet_4 : decode cX0_hasMet 4 = .ok (.iconst 1, 1) := db_X0_hasMet_0.2.2.1
theorem dX0_hasMet_5 : decode cX0_hasMet 5 = .ok (.if_icmp .ne 17, 3) := db_X0_hasMet_0.2.2.2.1
theorem dX0_hasMet_22 : decode cX0_hasMet 22 = .ok (.iconst 0, 1) := db_X0_hasMet_0.2.2.2.2.1
theorem dX0_hasMet_23 : decode cX0_hasMet 23 = .ok (.ireturn, 1) := db_X0_hasMet_0.2.2.2.2.2.1
theorem dX0_hasMet_8 : decode cX0_hasMet 8 = .ok (.iload_n 1, 1) := db_X0_hasMet_0.2.2.2.2.2.2.1
theorem dX0_hasMet_9 : decode cX0_hasMet 9 = .ok (.aload_n 0, 1) := db_X0_hasMet_0.2.2.2.2.2.2.2
set_option maxRecDepth 20000 in
theorem db_X0_hasMet_10 : (decode cX0_hasMet 10 = .ok (.getfield 40, 3)) ∧ (decode cX0_hasMet 13 = .ok (.iconst 1, 1)) ∧ (decode cX0_hasMet 14 = .ok (.isub, 1)) ∧ (decode cX0_hasMet 15 = .ok (.if_icmp .ne 7, 3)) ∧ (decode cX0_hasMet 18 = .ok (.iconst 1, 1)) ∧ (decode cX0_hasMet 19 = .ok (.goto 4, 3)) := by decide +kernel
theorem dX0_hasMet_10 : decode cX0_hasMet 10 = .ok (.getfield 40, 3) := db_X0_hasMet_10.1
theorem dX0_hasMet_13 : decode cX0_hasMet 13 = .ok (.iconst 1, 1) := db_X0_hasMet_10.2.1
theorem dX0_hasMet_14 : decode cX0_hasMet 14 = .ok (.isub, 1) := db_X0_hasMet_10.2.2.1
theorem dX0_hasMet_15 : decode cX0_hasMet 15 = .ok (.if_icmp .ne 7, 3) := db_X0_hasMet_10.2.2.2.1
theorem dX0_hasMet_18 : decode cX0_hasMet 18 = .ok (.iconst 1, 1) := db_X0_hasMet_10.2.2.2.2.1
theorem dX0_hasMet_19 : decode cX0_hasMet 19 = .ok (.goto 4, 3) := db_X0_hasMet_10.2.2.2.2.2
set_option maxRecDepth 20000 in
theorem db_X0_leastOfOther_0 : (decode cX0_leastOfOther 0 = .ok (.aload_n 0, 1)) ∧ (decode cX0_leastOfOther 1 = .ok (.getfield 20, 3)) ∧ (decode cX0_leastOfOther 4 = .ok (.iload_n 1, 1)) ∧ (decode cX0_leastOfOther 5 = .ok (.aaload, 1)) ∧ (decode cX0_leastOfOther 6 = .ok (.iload_n 2, 1)) ∧ (decode cX0_leastOfOther 7 = .ok (.iaload, 1)) ∧ (decode cX0_leastOfOther 8 = .ok (.istore_n 3, 1)) ∧ (decode cX0_leastOfOther 9 = .ok (.aload_n 0, 1)) := by decide +kernel
theorem dX0_leastOfOther_0 : decode cX0_leastOfOther 0 = .ok (.aload_n 0, 1) := db_X0_leastOfOther_0.1
theorem dX0_leastOfOther_1 : decode cX0_leastOfOther 1 = .ok (.getfield 20, 3) := db_X0_leastOfOther_0.2.1
theorem dX0_leastOfOther_4 : decode cX0_leastOfOther 4 = .ok (.iload_n 1, 1) := db_X0_leastOfOther_0.2.2.1
theorem dX0_leastOfOther_5 : decode cX0_leastOfOther 5 = .ok (.aaload, 1) := db_X0_leastOfOther_0.2.2.2.1
theorem dX0_leastOfOther_6 : decode cX0_leastOfOther 6 = .ok (.iload_n 2, 1) := db_X0_leastOfOther_0.2.2.2.2.1
theorem dX0_leastOfOther_7 : decode cX0_leastOfOther 7 = .ok (.iaload, 1) := db_X0_leastOfOther_0.2.2.2.2.2.1
theorem dX0_leastOfOther_8 : decode cX0_leastOfOther 8 = .ok (.istore_n 3, 1) := db_X0_leastOfOther_0.2.2.2.2.2.2.1
theorem dX0_leastOfOther_9 : decode cX0_leastOfOther 9 = .ok (.aload_n 0, 1) := db_X0_leastOfOther_0.2.2.2.2.2.2.2
set_option maxRecDepth 20000 in
theorem db_X0_leastOfOther_10 : (decode cX0_leastOfOther 10 = .ok (.iload_n 2, 1)) ∧ (decode cX0_leastOfOther 11 = .ok (.invokevirtual 52, 3)) ∧ (decode cX0_leastOfOther 14 = .ok (.ifCond .ne 15, 3)) ∧ (decode cX0_leastOfOther 17 = .ok (.iload_n 1, 1)) ∧ (decode cX0_leastOfOther 18 = .ok (.ifCond .ne 7, 3)) ∧ (decode cX0_leastOfOther 25 = .ok (.iload_n 3, 1)) ∧ (decode cX0_leastOfOther 26 = .ok (.iconst 1, 1)) ∧ (decode cX0_leastOfOther 27 = .ok (.iadd, 1)) := by decide +kernel
theorem dX0_leastOfOther_10 : decode cX0_leastOfOther 10 = .ok (.iload_n 2, 1) := db_X0_leastOfOther_10.1
set_option maxRecDepth 20000 in
theorem ggX0_leastOfOther_X0_hasMet : GoodIn wsX0_leastOfOther wsX0_hasMet := goodIn_r _ [11, 12, 13, 14, 15, 16, 17, 18, 19, 20, 21, 22, 23, 24] rfl (by decide +kernel)
set_option maxRecDepth 20000 in
theorem gX0_leastOfOther_X0_hasMet : GoodIn wsX0_leastOfOther (wsV RX0 52 RX0 yX0_hasMet wsX0_hasMet) := goodIn_app (goodIn_r _ [7, 8, 9, 10] rfl (by decide +kernel)) ggX0_leastOfOther_X0_hasMet
theorem dX0_leastOfOther_11 : decode cX0_leastOfOther 11 = .ok (.invokevirtual 52, 3) := db_X0_leastOfOther_10.2.1
theorem dX0_leastOfOther_14 : decode cX0_leastOfOther 14 = .ok (.ifCond .ne 15, 3) := db_X0_leastOfOther_10.2.2.1
theorem dX0_leastOfOther_17 : decode cX0_leastOfOther 17 = .ok (.iload_n 1, 1) := db_X0_leastOfOther_10.2.2.2.1
theorem dX0_leastOfOther_18 : decode cX0_leastOfOther 18 = .ok (.ifCond .ne 7, 3) := db_X0_leastOfOther_10.2.2.2.2.1
theorem dX0_leastOfOther_25 : decode cX0_leastOfOther 25 = .ok (.iload_n 3, 1) := db_X0_leastOfOther_10.2.2.2.2.2.1
theorem dX0_leastOfOther_26 : decode cX0_leastOfOther 26 = .ok (.iconst 1, 1) := db_X0_leastOfOther_10.2.2.2.2.2.2.1
theorem dX0_leastOfOther_27 : decode cX0_leastOfOther 27 = .ok (.iadd, 1) := db_X0_leastOfOther_10.2.2.2.2.2.2.2
set_option maxRecDepth 20000 in
theorem db_X0_leastOfOther_28 : (decode cX0_leastOfOther 28 = .ok (.ireturn, 1)) ∧ (decode cX0_leastOfOther 21 = .ok (.iconst 0, 1)) ∧ (decode cX0_leastOfOther 22 = .ok (.goto 6, 3)) ∧ (decode cX0_leastOfOther 29 = .ok (.iload_n 1, 1)) ∧ (decode cX0_leastOfOther 30 = .ok (.ifCond .ne 7, 3)) ∧ (decode cX0_leastOfOther 37 = .ok (.iconst 0, 1)) ∧ (decode cX0_leastOfOther 38 = .ok (.istore 4, 2)) ∧ (decode cX0_leastOfOther 40 = .ok (.iload 4, 2)) := by decide +kernel
theorem dX0_leastOfOther_28 : decode cX0_leastOfOther 28 = .ok (.ireturn, 1) := db_X0_leastOfOther_28.1
theorem dX0_leastOfOther_21 : decode cX0_leastOfOther 21 = .ok (.iconst 0, 1) := db_X0_leastOfOther_28.2.1
theorem dX0_leastOfOther_22 : decode cX0_leastOfOther 22 = .ok (.goto 6, 3) := db_X0_leastOfOther_28.2.2.1
theorem dX0_leastOfOther_29 : decode cX0_leastOfOther 29 = .ok (.iload_n 1, 1) := db_X0_leastOfOther_28.2.2.2.1
theorem dX0_leastOfOther_30 : decode cX0_leastOfOther 30 = .ok (.ifCond .ne 7, 3) := db_X0_leastOfOther_28.2.2.2.2.1
theorem dX0_leastOfOther_37 : decode cX0_leastOfOther 37 = .ok (.iconst 0, 1) := db_X0_leastOfOther_28.2.2.2.2.2.1
theorem dX0_leastOfOther_38 : decode cX0_leastOfOther 38 = .ok (.istore 4, 2) := db_X0_leastOfOther_28.2.2.2.2.2.2.1
theorem dX0_leastOfOther_40 : decode cX0_leastOfOther 40 = .ok (.iload 4, 2) := db_X0_leastOfOther_28.2.2.2.2.2.2.2
set_option maxRecDepth 20000 in
theorem db_X0_leastOfOther_42 : (decode cX0_leastOfOther 42 = .ok (.iconst 2, 1)) ∧ (decode cX0_leastOfOther 43 = .ok (.aload_n 0, 1)) ∧ (decode cX0_leastOfOther 44 = .ok (.getfield 37, 3)) ∧ (decode cX0_leastOfOther 47 = .ok (.imul, 1)) ∧ (decode cX0_leastOfOther 48 = .ok (.iload_n 3, 1)) ∧ (decode cX0_leastOfOther 49 = .ok (.isub, 1)) ∧ (decode cX0_leastOfOther 50 = .ok (.invokestatic 56, 3)) ∧ (decode cX0_leastOfOther 53 = .ok (.ireturn, 1)) := by decide +kernel
theorem dX0_leastOfOther_42 : decode cX0_leastOfOther 42 = .ok (.iconst 2, 1) := db_X0_leastOfOther_42.1
theorem dX0_leastOfOther_43 : decode cX0_leastOfOther 43 = .ok (.aload_n 0, 1) := db_X0_leastOfOther_42.2.1
theorem dX0_leastOfOther_44 : decode cX0_leastOfOther 44 = .ok (.getfield 37, 3) := db_X0_leastOfOther_42.2.2.1
theorem dX0_leastOfOther_47 : decode cX0_leastOfOther 47 = .ok (.imul, 1) := db_X0_leastOfOther_42.2.2.2.1
theorem dX0_leastOfOther_48 : decode cX0_leastOfOther 48 = .ok (.iload_n 3, 1) := db_X0_leastOfOther_42.2.2.2.2.1
theorem dX0_leastOfOther_49 : decode cX0_leastOfOther 49 = .ok (.isub, 1) := db_X0_leastOfOther_42.2.2.2.2.2.1
theorem dX0_leastOfOther_50 : decode cX0_leastOfOther 50 = .ok (.invokestatic 56, 3) := db_X0_leastOfOther_42.2.2.2.2.2.2.1
theorem dX0_leastOfOther_53 : decode cX0_leastOfOther 53 = .ok (.ireturn, 1) := db_X0_leastOfOther_42.2.2.2.2.2.2.2
set_option maxRecDepth 20000 in
theorem db_X0_leastOfOther_33 : (decode cX0_leastOfOther 33 = .ok (.iload_n 3, 1)) ∧ (decode cX0_leastOfOther 34 = .ok (.goto 4, 3)) := by decide +kernel
theorem dX0_leastOfOther_33 : decode cX0_leastOfOther 33 = .ok (.iload_n 3, 1) := db_X0_leastOfOther_33.1
theorem dX0_leastOfOther_34 : decode cX0_leastOfOther 34 = .ok (.goto 4, 3) := db_X0_leastOfOther_33.2
set_option maxRecDepth 20000 in
theorem db_X0_greatestOfOther_0 : (decode cX0_greatestOfOther 0 = .ok (.aload_n 0, 1)) ∧ (decode cX0_greatestOfOther 1 = .ok (.getfield 20, 3)) ∧ (decode cX0_greatestOfOther 4 = .ok (.iload_n 1, 1)) ∧ (decode cX0_greatestOfOther 5 = .ok (.aaload, 1)) ∧ (decode cX0_greatestOfOther 6 = .ok (.iload_n 2, 1)) ∧ (decode cX0_greatestOfOther 7 = .ok (.iaload, 1)) ∧ (decode cX0_greatestOfOther 8 = .ok (.istore_n 3, 1)) ∧ (decode cX0_greatestOfOther 9 = .ok (.aload_n 0, 1)) := by decide +kernel
theorem dX0_greatestOfOther_0 : decode cX0_greatestOfOther 0 = .ok (.aload_n 0, 1) := db_X0_greatestOfOther_0.1
theorem dX0_greatestOfOther_1 : decode cX0_greatestOfOther 1 = .ok (.getfield 20, 3) := db_X0_greatestOfOther_0.2.1
theorem dX0_greatestOfOther_4 : decode cX0_greatestOfOther 4 = .ok (.iload_n 1, 1) := db_X0_greatestOfOther_0.2.2.1
theorem dX0_greatestOfOther_5 : decode cX0_greatestOfOther 5 = .ok (.aaload, 1) := db_X0_greatestOfOther_0.2.2.2.1
theorem dX0_greatestOfOther_6 : decode cX0_greatestOfOther 6 = .ok (.iload_n 2, 1) := db_X0_greatestOfOther_0.2.2.2.2.1
theorem dX0_greatestOfOther_7 : decode cX0_greatestOfOther 7 = .ok (.iaload, 1) := db_X0_greatestOfOther_0.2.2.2.2.2.1
theorem dX0_greatestOfOther_8 : decode cX0_greatestOfOther 8 = .ok (.istore_n 3, 1) := db_X0_greatestOfOther_0.2.2.2.2.2.2.1
theorem dX0_greatestOfOther_9 : decode cX0_greatestOfOther 9 = .ok (.aload_n 0, 1) := db_X0_greatestOfOther_0.2.2.2.2.2.2.2
set_option maxRecDepth 20000 in
theorem db_X0_greatestOfOther_10 : (decode cX0_greatestOfOther 10 = .ok (.iload_n 2, 1)) ∧ (decode cX0_greatestOfOther 11 = .ok (.invokevirtual 52, 3)) ∧ (decode cX0_greatestOfOther 14 = .ok (.ifCond .ne 16, 3)) ∧ (decode cX0_greatestOfOther 17 = .ok (.iload_n 1, 1)) ∧ (decode cX0_greatestOfOther 18 = .ok (.ifCond .ne 9, 3)) ∧ (decode cX0_greatestOfOther 27 = .ok (.bipush 100, 2)) ∧ (decode cX0_greatestOfOther 29 = .ok (.ireturn, 1)) ∧ (decode cX0_greatestOfOther 21 = .ok (.iload_n 3, 1)) := by decide +kernel
theorem dX0_greatestOfOther_10 : decode cX0_greatestOfOther 10 = .ok (.iload_n 2, 1) := db_X0_greatestOfOther_10.1
set_option maxRecDepth 20000 in
theorem ggX0_greatestOfOther_X0_hasMet : GoodIn wsX0_greatestOfOther wsX0_hasMet := goodIn_r _ [11, 12, 13, 14, 15, 16, 17, 18, 19, 20, 21, 22, 23, 24] rfl (by decide +kernel)
set_option maxRecDepth 20000 in
theorem gX0_greatestOfOther_X0_hasMet : GoodIn wsX0_greatestOfOther (wsV RX0 52 RX0 yX0_hasMet wsX0_hasMet) := goodIn_app (goodIn_r _ [7, 8, 9, 10] rfl (by decide +kernel)) ggX0_greatestOfOther_X0_hasMet
theorem dX0_greatestOfOther_11 : decode cX0_greatestOfOther 11 = .ok (.invokevirtual 52, 3) := db_X0_greatestOfOther_10.2.1
theorem dX0_greatestOfOther_14 : decode cX0_greatestOfOther 14 = .ok (.ifCond .ne 16, 3) := db_X0_greatestOfOther_10.2.2.1
theorem dX0_greatestOfOther_17 : decode cX0_greatestOfOther 17 = .ok (.iload_n 1, 1) := db_X0_greatestOfOther_10.2.2.2.1
theorem dX0_greatestOfOther_18 : decode cX0_greatestOfOther 18 = .ok (.ifCond .ne 9, 3) := db_X0_greatestOfOther_10.2.2.2.2.1
theorem dX0_greatestOfOther_27 : decode cX0_greatestOfOther 27 = .ok (.bipush 100, 2) := db_X0_greatestOfOther_10.2.2.2.2.2.1
theorem dX0_greatestOfOther_29 : decode cX0_greatestOfOther 29 = .ok (.ireturn, 1) := db_X0_greatestOfOther_10.2.2.2.2.2.2.1
theorem dX0_greatestOfOther_21 : decode cX0_greatestOfOther 21 = .ok (.iload_n 3, 1) := db_X0_greatestOfOther_10.2.2.2.2.2.2.2
set_option maxRecDepth 20000 in
theorem db_X0_greatestOfOther_22 : (decode cX0_greatestOfOther 22 = .ok (.iconst 1, 1)) ∧ (decode cX0_greatestOfOther 23 = .ok (.isub, 1)) ∧ (decode cX0_greatestOfOther 24 = .ok (.goto 5, 3)) ∧ (decode cX0_greatestOfOther 30 = .ok (.iload_n 1, 1)) ∧ (decode cX0_greatestOfOther 31 = .ok (.ifCond .ne 8, 3)) ∧ (decode cX0_greatestOfOther 39 = .ok (.iload_n 3, 1)) ∧ (decode cX0_greatestOfOther 40 = .ok (.istore 4, 2)) ∧ (decode cX0_greatestOfOther 42 = .ok (.iload 4, 2)) := by decide +kernel
theorem dX0_greatestOfOther_22 : decode cX0_greatestOfOther 22 = .ok (.iconst 1, 1) := db_X0_greatestOfOther_22.1
theorem dX0_greatestOfOther_23 : decode cX0_greatestOfOther 23 = .ok (.isub, 1) := db_X0_greatestOfOther_22.2.1
theorem dX0_greatestOfOther_24 : decode cX0_greatestOfOther 24 = .ok (.goto 5, 3) := db_X0_greatestOfOther_22.2.2.1
theorem dX0_greatestOfOther_30 : decode cX0_greatestOfOther 30 = .ok (.iload_n 1, 1) := db_X0_greatestOfOther_22.2.2.2.1
theorem dX0_greatestOfOther_31 : decode cX0_greatestOfOther 31 = .ok (.ifCond .ne 8, 3) := db_X0_greatestOfOther_22.2.2.2.2.1
theorem dX0_greatestOfOther_39 : decode cX0_greatestOfOther 39 = .ok (.iload_n 3, 1) := db_X0_greatestOfOther_22.2.2.2.2.2.1
theorem dX0_greatestOfOther_40 : decode cX0_greatestOfOther 40 = .ok (.istore 4, 2) := db_X0_greatestOfOther_22.2.2.2.2.2.2.1
theorem dX0_greatestOfOther_42 : decode cX0_greatestOfOther 42 = .ok (.iload 4, 2) := db_X0_greatestOfOther_22.2.2.2.2.2.2.2
set_option maxRecDepth 20000 in
theorem db_X0_greatestOfOther_44 : (decode cX0_greatestOfOther 44 = .ok (.iconst 2, 1)) ∧ (decode cX0_greatestOfOther 45 = .ok (.aload_n 0, 1)) ∧ (decode cX0_greatestOfOther 46 = .ok (.getfield 37, 3)) ∧ (decode cX0_greatestOfOther 49 = .ok (.imul, 1)) ∧ (decode cX0_greatestOfOther 50 = .ok (.iconst 1, 1)) ∧ (decode cX0_greatestOfOther 51 = .ok (.iadd, 1)) ∧ (decode cX0_greatestOfOther 52 = .ok (.iload_n 3, 1)) ∧ (decode cX0_greatestOfOther 53 = .ok (.isub, 1)) := by decide +kernel
theorem dX0_greatestOfOther_44 : decode cX0_greatestOfOther 44 = .ok (.iconst 2, 1) := db_X0_greatestOfOther_44.1
theorem dX0_greatestOfOther_45 : decode cX0_greatestOfOther 45 = .ok (.aload_n 0, 1) := db_X0_greatestOfOther_44.2.1
theorem dX0_greatestOfOther_46 : decode cX0_greatestOfOther 46 = .ok (.getfield 37, 3) := db_X0_greatestOfOther_44.2.2.1
theorem dX0_greatestOfOther_49 : decode cX0_greatestOfOther 49 = .ok (.imul, 1) := db_X0_greatestOfOther_44.2.2.2.1
theorem dX0_greatestOfOther_50 : decode cX0_greatestOfOther 50 = .ok (.iconst 1, 1) := db_X0_greatestOfOther_44.2.2.2.2.1
theorem dX0_greatestOfOther_51 : decode cX0_greatestOfOther 51 = .ok (.iadd, 1) := db_X0_greatestOfOther_44.2.2.2.2.2.1
theorem dX0_greatestOfOther_52 : decode cX0_greatestOfOther 52 = .ok (.iload_n 3, 1) := db_X0_greatestOfOther_44.2.2.2.2.2.2.1
theorem dX0_greatestOfOther_53 : decode cX0_greatestOfOther 53 = .ok (.isub, 1) := db_X0_greatestOfOther_44.2.2.2.2.2.2.2
set_option maxRecDepth 20000 in
theorem db_X0_greatestOfOther_54 : (decode cX0_greatestOfOther 54 = .ok (.invokestatic 62, 3)) ∧ (decode cX0_greatestOfOther 57 = .ok (.ireturn, 1)) ∧ (decode cX0_greatestOfOther 34 = .ok (.bipush 100, 2)) ∧ (decode cX0_greatestOfOther 36 = .ok (.goto 4, 3)) := by decide +kernel
theorem dX0_greatestOfOther_54 : decode cX0_greatestOfOther 54 = .ok (.invokestatic 62, 3) := db_X0_greatestOfOther_54.1
theorem dX0_greatestOfOther_57 : decode cX0_greatestOfOther 57 = .ok (.ireturn, 1) := db_X0_greatestOfOther_54.2.1
theorem dX0_greatestOfOther_34 : decode cX0_greatestOfOther 34 = .ok (.bipush 100, 2) := db_X0_greatestOfOther_54.2.2.1
theorem dX0_greatestOfOther_36 : decode cX0_greatestOfOther 36 = .ok (.goto 4, 3) := db_X0_greatestOfOther_54.2.2.2
set_option maxHeartbeats 4000000 in
set_option maxRecDepth 100000 in
theorem g_X0_hasMet (l : Launch) (dC : Nat → ClassId) (dI : Nat → Nat → Nat) (cy : Nat → ClassId) (sz : Nat) (ad : Nat → Nat) (kv : Value) (N : Nat) (hN : 119 ≤ N) (v : Nat → Nat → Int32) (hv : Iv v) (i : Nat) (hi : i < 6) (x0 : Int32) : Met l yX0_hasMet wsX0_hasMet ({ frames := 0, cells := 0, slots := 0, locals := 0 }) (va_Pc [.ref (ad (29 + 15 * i)), .int x0] (ex_Pre dC dI cy sz (wl ad kv cy N v))) (va_Qi (fun (r : Int32) (u : Nat → Nat → Int32) => Iv u ∧ Fz v u ∧ (r = 0 ∨ r = 1)) (fun u t => ex_Pst dC dI (va_A (wl ad kv cy N v) sz) (wl ad kv cy N u) t) (va_A (wl ad kv cy N v) sz)) 0 0 (va_A (wl ad kv cy N v) sz) := by
  refine Met.ofW (cc := cX0_hasMet) (maxL := 2) (ret := (some .boolean)) (by decide) rfl ?_
  intro p e s m args below meth c s₁ B hml hv
  obtain ⟨rfl, hsz, hE, hP, hK, hD0⟩ := hv
  have hx := B.exec
  have hb := B.bytes
  have hr := B.returns
  have hts := atoms_spec (ws := wsX0_hasMet) B.pre
  have hown : s.vm.findClass RX0 = some m.cls := findClass_of_methodNamed B.named
  have hlocks := B.notSynchronized
  subst hsz
  have hD := hD0.self (sz := s.heap.size)
  generalize hAe : va_A (wl ad kv cy N v) s.heap.size = A at hD ⊢
  have hA : ∀ q : Nat, s.heap.size ≤ q → A q := fun q h => by rw [← hAe]; exact Or.inr h
  have hS : va_S A s.heap s.heap [] := va_S.rf
  have hP : va_P (dC, dI) vwCl (wl ad kv cy N v) s.heap := hP
  have hl := lv_entry ([.ref (ad (29 + 15 * i)), .int x0]) (n := 2) (Nat.le_of_ble_eq_true rfl)
  rw [lg_entry_eq]
  generalize (lg_sl ([.ref (ad (29 + 15 * i)), .int x0]) ++ List.replicate (2 - (lg_sl ([.ref (ad (29 + 15 * i)), .int x0])).length) Slot.unset).toArray = ls at hl ⊢
  have hl : lv_has ls 2 [(0, .ref (ad (29 + 15 * i))), (1, .int x0)] := hl
  have hfr : Fz v v := Fz.rf
  refine lv_aload_n hx hb dX0_hasMet_0 rfl (lv_at hl 0 rfl) ?_
  refine va_get (D := (dC, dI)) (ci := 0) (v := .int (v (29 + 15 * i) 0)) (C := RX0) (T := TX0) (N := 11) hx hb hts iwX0_hasMet_X0 hown hK hP (29 + 15 * i) (wl_at (by omega) (ce_9 (kd_c i hi).1.1)) rfl 0 (by decide) (hts (.fieldLink RX0 33 "QuietStairs$Case" "state" "I") fwX0_hasMet_1) (fun _ h9 => h9) rfl dX0_hasMet_1 ?_
  refine lv_topi (fun x_1 ex_1 => ?_)
  refine lv_iconst (v := 1) hx hb dX0_hasMet_4 (by decide) ?_
  have k_1 : (1 : Int32).toInt = 1 := by decide
  refine lv_icmp_ne (tgt := 22) hx hb dX0_hasMet_5 (by decide) (fun c_2 => ?_) (fun c_2 => ?_)
  · have tc_2 : x_1.toInt ≠ (1 : Int32).toInt := fun q => absurd (Int32.toInt_inj.mp q) c_2
    refine lv_iconst (v := 0) hx hb dX0_hasMet_22 (by decide) ?_
    exact W.zret (ty := .boolean) (v := 0) hx hb hr rfl (fun t ht hW => ⟨⟨0, v, rfl, ⟨hv, hfr, by decide⟩, by rw [ht]; exact hP, hD⟩, hS.F ht⟩) hS.2.2 dX0_hasMet_23
  · have tc_2 : x_1.toInt = (1 : Int32).toInt := by rw [c_2]
    refine lv_iload_n hx hb dX0_hasMet_8 rfl (lv_at hl 1 rfl) ?_
    refine lv_aload_n hx hb dX0_hasMet_9 rfl (lv_at hl 0 rfl) ?_
    refine va_get (D := (dC, dI)) (ci := 0) (v := .int (v (29 + 15 * i) 2)) (C := RX0) (T := TX0) (N := 11) hx hb hts iwX0_hasMet_X0 hown hK hP (29 + 15 * i) (wl_at (by omega) (ce_9 (kd_c i hi).1.1)) rfl 2 (by decide) (hts (.fieldLink RX0 40 "QuietStairs$Case" "roundsOver" "I") fwX0_hasMet_2) (fun _ h9 => h9) rfl dX0_hasMet_10 ?_
    refine lv_topi (fun x_3 ex_3 => ?_)
    have bx_3 : 0 ≤ x_3.toInt ∧ x_3.toInt ≤ 5 := by rw [ex_3]; exact hv.at (K := 9) (kd_c i hi).1.1 rfl
    refine lv_iconst (v := 1) hx hb dX0_hasMet_13 (by decide) ?_
    refine lv_isub hx hb dX0_hasMet_14 ?_
    refine lv_topi (fun x_4 ex_4 => ?_)
    have tx_4 : x_4.toInt = x_3.toInt - (1 : Int32).toInt := by rw [ex_4]; exact t_sub ⟨by omega, by omega⟩
    refine lv_icmp_ne (tgt := 22) hx hb dX0_hasMet_15 (by decide) (fun c_5 => ?_) (fun c_5 => ?_)
    · have tc_5 : x0.toInt ≠ x_4.toInt := fun q => absurd (Int32.toInt_inj.mp q) c_5
      refine lv_iconst (v := 0) hx hb dX0_hasMet_22 (by decide) ?_
      exact W.zret (ty := .boolean) (v := 0) hx hb hr rfl (fun t ht hW => ⟨⟨0, v, rfl, ⟨hv, hfr, by decide⟩, by rw [ht]; exact hP, hD⟩, hS.F ht⟩) hS.2.2 dX0_hasMet_23
    · have tc_5 : x0.toInt = x_4.toInt := by rw [c_5]
      refine lv_iconst (v := 1) hx hb dX0_hasMet_18 (by decide) ?_
      refine lv_goto (tgt := 23) hx hb dX0_hasMet_19 (by decide) ?_
      exact W.zret (ty := .boolean) (v := 1) hx hb hr rfl (fun t ht hW => ⟨⟨1, v, rfl, ⟨hv, hfr, by decide⟩, by rw [ht]; exact hP, hD⟩, hS.F ht⟩) hS.2.2 dX0_hasMet_23

set_option maxHeartbeats 4000000 in
set_option maxRecDepth 100000 in
theorem g_X0_leastOfOther (l : Launch) (dC : Nat → ClassId) (dI : Nat → Nat → Nat) (cy : Nat → ClassId) (sz : Nat) (ad : Nat → Nat) (kv : Value) (N : Nat) (hN : 119 ≤ N) (v : Nat → Nat → Int32) (hv : Iv v) (i : Nat) (hi : i < 6) (x0 x1 : Int32) (hs : 0 ≤ x0.toInt ∧ x0.toInt ≤ 1) (ht : 0 ≤ x1.toInt ∧ x1.toInt ≤ 4) : Met l yX0_leastOfOther wsX0_leastOfOther ({ frames := 1, cells := 0, slots := 0, locals := 64 }) (va_Pc [.ref (ad (29 + 15 * i)), .int x0, .int x1] (ex_Pre dC dI cy sz (wl ad kv cy N v))) (va_Qi (fun (r : Int32) (u : Nat → Nat → Int32) => Iv u ∧ Fz v u) (fun u t => ex_Pst dC dI (va_A (wl ad kv cy N v) sz) (wl ad kv cy N u) t) (va_A (wl ad kv cy N v) sz)) 0 0 (va_A (wl ad kv cy N v) sz) := by
  refine Met.ofW (cc := cX0_leastOfOther) (maxL := 5) (ret := (some .int)) (by decide) rfl ?_
  intro p e s m args below meth c s₁ B hml hv
  obtain ⟨rfl, hsz, hE, hP, hK, hD0⟩ := hv
  have hx := B.exec
  have hb := B.bytes
  have hr := B.returns
  have hts := atoms_spec (ws := wsX0_leastOfOther) B.pre
  have hown : s.vm.findClass RX0 = some m.cls := findClass_of_methodNamed B.named
  have hlocks := B.notSynchronized
  subst hsz
  have hD := hD0.self (sz := s.heap.size)
  generalize hAe : va_A (wl ad kv cy N v) s.heap.size = A at hD ⊢
  have hA : ∀ q : Nat, s.heap.size ≤ q → A q := fun q h => by rw [← hAe]; exact Or.inr h
  have hS : va_S A s.heap s.heap [] := va_S.rf
  have hP : va_P (dC, dI) vwCl (wl ad kv cy N v) s.heap := hP
  have hl := lv_entry ([.ref (ad (29 + 15 * i)), .int x0, .int x1]) (n := 5) (Nat.le_of_ble_eq_true rfl)
  rw [lg_entry_eq]
  generalize (lg_sl ([.ref (ad (29 + 15 * i)), .int x0, .int x1]) ++ List.replicate (5 - (lg_sl ([.ref (ad (29 + 15 * i)), .int x0, .int x1])).length) Slot.unset).toArray = ls at hl ⊢
  have hl : lv_has ls 5 [(0, .ref (ad (29 + 15 * i))), (1, .int x0), (2, .int x1)] := hl
  have hfr : Fz v v := Fz.rf
  refine lv_aload_n hx hb dX0_leastOfOther_0 rfl (lv_at hl 0 rfl) ?_
  refine va_get (D := (dC, dI)) (ci := 0) (v := .ref (ad (29 + 15 * i + 3))) (C := RX0) (T := TX0) (N := 11) hx hb hts iwX0_leastOfOther_X0 hown hK hP (29 + 15 * i) (wl_at (by omega) (ce_9 (kd_c i hi).1.1)) rfl 8 (by decide) (hts (.fieldLink RX0 20 "QuietStairs$Case" "offers" "[[I") fwX0_leastOfOther_1) (fun _ h9 => h9) rfl dX0_leastOfOther_1 ?_
  refine W.eq (g2 := F0 m 4 ls [.ref (ad (32 + 15 * i))]) (by rw [show 29 + 15 * i + 3 = 32 + 15 * i from by omega]) ?_
  refine lv_iload_n hx hb dX0_leastOfOther_4 rfl (lv_at hl 1 rfl) ?_
  obtain ⟨pi1, i1, hi1, ni1, mi1⟩ := t_in (x := x0) (n := 2) ⟨by omega, by omega⟩
  refine ya_ald hx hb hK hP (32 + 15 * i) (wl_at (by omega) (ce_11 (kd_c i hi).1.2.2.2.1)) pi1 dX0_leastOfOther_5 ?_
  refine W.eq (g2 := F0 m 6 ls [.ref (ad (33 + 15 * i + i1))]) (by rw [ni1, if_pos hi1, show 32 + 15 * i + 1 + i1 = 33 + 15 * i + i1 from by omega]; rfl) ?_
  refine lv_iload_n hx hb dX0_leastOfOther_6 rfl (lv_at hl 2 rfl) ?_
  obtain ⟨pi2, i2, hi2, ni2, mi2⟩ := t_in (x := x1) (n := 5) ⟨by omega, by omega⟩
  refine va_iald hx hb hK hP (33 + 15 * i + i1) 0 (wl_at (by omega) (ce_12 (kd_o i hi i1 hi1).1.1)) rfl pi2 dX0_leastOfOther_7 ?_
  refine lv_topi (fun x_3 ex_3 => ?_)
  refine lv_istore_n (lv' := [(3, .int x_3), (0, .ref (ad (29 + 15 * i))), (1, .int x0), (2, .int x1)]) hx hb dX0_leastOfOther_8 rfl hl (by decide) rfl (fun ls hl => ?_)
  refine lv_aload_n hx hb dX0_leastOfOther_9 rfl (lv_at hl 1 rfl) ?_
  refine lv_iload_n hx hb dX0_leastOfOther_10 rfl (lv_at hl 3 rfl) ?_
  refine yw_i (w1 := fun (u : Nat → Nat → Int32) => wl ad kv cy N u) hD hS hA (va_runV (As := [.int x1]) (rest := []) ⟨hx, hb, hml, hown, hts⟩ (g_X0_hasMet l dC dI cy _ ad kv N hN v hv i hi x1) (cwV 1 hts gX0_leastOfOther_X0_hasMet rfl rfl rfl hd_V_X0_hasMet_1 ⟨Nat.le_of_ble_eq_true rfl, Nat.le_of_ble_eq_true rfl⟩) (yw_preV hE hK hP hD (ci := 0) (q := (RX0, TX0, 11)) (q0 := (29 + 15 * i)) rfl (wl_at (by omega) (ce_9 (kd_c i hi).1.1))) rfl rfl hl.1 rfl (lv_room (Nat.le_of_ble_eq_true rfl)) dX0_leastOfOther_11 ⟨Nat.le_of_ble_eq_true rfl, Nat.le_of_ble_eq_true rfl⟩) (fun r_4 v_4 H locs hw_4 hP hD hS => ?_)
  obtain ⟨hv, hw_4⟩ := hw_4
  have hfr : Fz v v_4 := hfr.trans hw_4.1
  rcases hw_4.2 with rfl | rfl
  · refine lv_if_ne (tgt := 29) hx hb dX0_leastOfOther_14 (by decide) (fun c9 => absurd c9 (by decide)) (fun _ => ?_)
    refine lv_iload_n hx hb dX0_leastOfOther_17 rfl (lv_at hl 2 rfl) ?_
    have k_0 : (0 : Int32).toInt = 0 := by decide
    refine lv_if_ne (tgt := 25) hx hb dX0_leastOfOther_18 (by decide) (fun c_5 => ?_) (fun c_5 => ?_)
    · have tc_5 : x0.toInt ≠ (0 : Int32).toInt := fun q => absurd (Int32.toInt_inj.mp q) c_5
      refine lv_iload_n hx hb dX0_leastOfOther_25 rfl (lv_at hl 0 rfl) ?_
      refine lv_iconst (v := 1) hx hb dX0_leastOfOther_26 (by decide) ?_
      have k_1 : (1 : Int32).toInt = 1 := by decide
      refine lv_iadd hx hb dX0_leastOfOther_27 ?_
      refine lv_topi (fun x_6 ex_6 => ?_)
      exact W.iret (v := x_6) hx hb hr (fun t ht hW => ⟨⟨x_6, v_4, rfl, ⟨hv, hfr⟩, by rw [ht]; exact hP, hD⟩, hS.F ht⟩) hS.2.2 dX0_leastOfOther_28
    · have tc_5 : x0.toInt = (0 : Int32).toInt := by rw [c_5]
      refine lv_iconst (v := 0) hx hb dX0_leastOfOther_21 (by decide) ?_
      refine lv_goto (tgt := 28) hx hb dX0_leastOfOther_22 (by decide) ?_
      exact W.iret (v := 0) hx hb hr (fun t ht hW => ⟨⟨0, v_4, rfl, ⟨hv, hfr⟩, by rw [ht]; exact hP, hD⟩, hS.F ht⟩) hS.2.2 dX0_leastOfOther_28
  · refine lv_if_ne (tgt := 29) hx hb dX0_leastOfOther_14 (by decide) (fun _ => ?_) (fun c9 => absurd c9 (by decide))
    refine lv_iload_n hx hb dX0_leastOfOther_29 rfl (lv_at hl 2 rfl) ?_
    have k_0 : (0 : Int32).toInt = 0 := by decide
    refine lv_if_ne (tgt := 37) hx hb dX0_leastOfOther_30 (by decide) (fun c_7 => ?_) (fun c_7 => ?_)
    · have tc_7 : x0.toInt ≠ (0 : Int32).toInt := fun q => absurd (Int32.toInt_inj.mp q) c_7
      refine lv_iconst (v := 0) hx hb dX0_leastOfOther_37 (by decide) ?_
      refine lv_istore (lv' := [(4, .int 0), (3, .int x_3), (0, .ref (ad (29 + 15 * i))), (1, .int x0), (2, .int x1)]) hx hb dX0_leastOfOther_38 hl (by decide) rfl (fun ls hl => ?_)
      refine lv_iload hx hb dX0_leastOfOther_40 (lv_at hl 0 rfl) ?_
      refine lv_iconst (v := 2) hx hb dX0_leastOfOther_42 (by decide) ?_
      refine lv_aload_n hx hb dX0_leastOfOther_43 rfl (lv_at hl 2 rfl) ?_
      refine va_get (D := (dC, dI)) (ci := 0) (v := .int (v_4 (29 + 15 * i) 1)) (C := RX0) (T := TX0) (N := 11) hx hb hts iwX0_leastOfOther_X0 hown hK hP (29 + 15 * i) (wl_at (by omega) (ce_9 (kd_c i hi).1.1)) rfl 1 (by decide) (hts (.fieldLink RX0 37 "QuietStairs$Case" "sum" "I") fwX0_leastOfOther_2) (fun _ h9 => h9) rfl dX0_leastOfOther_44 ?_
      refine lv_topi (fun x_8 ex_8 => ?_)
      refine lv_imul hx hb dX0_leastOfOther_47 ?_
      refine lv_topi (fun x_9 ex_9 => ?_)
      refine lv_iload_n hx hb dX0_leastOfOther_48 rfl (lv_at hl 1 rfl) ?_
      refine lv_isub hx hb dX0_leastOfOther_49 ?_
      refine lv_topi (fun x_10 ex_10 => ?_)
      refine va_mmax hx hb (hml.trans hl.1.symm) hown (hts (.methodLink RX0 56 Lib.Math.max.name) fwX0_leastOfOther_3) (hts (.static Lib.Math.max.name) fwX0_leastOfOther_4) (hts (.initialized "java/lang/Math") fwX0_leastOfOther_5) (hts (.code Lib.Math.max.name Lib.Math.max.code 2 (some .int)) fwX0_leastOfOther_6) (Nat.le_of_ble_eq_true rfl) (Nat.le_of_ble_eq_true rfl) (Nat.le_of_ble_eq_true rfl) (Nat.le_of_ble_eq_true rfl) dX0_leastOfOther_50 ?_
      refine lv_topi (fun x_11 ex_11 => ?_)
      exact W.iret (v := x_11) hx hb hr (fun t ht hW => ⟨⟨x_11, v_4, rfl, ⟨hv, hfr⟩, by rw [ht]; exact hP, hD⟩, hS.F ht⟩) hS.2.2 dX0_leastOfOther_53
    · have tc_7 : x0.toInt = (0 : Int32).toInt := by rw [c_7]
      refine lv_iload_n hx hb dX0_leastOfOther_33 rfl (lv_at hl 0 rfl) ?_
      refine lv_goto (tgt := 38) hx hb dX0_leastOfOther_34 (by decide) ?_
      refine lv_istore (lv' := [(4, .int x_3), (3, .int x_3), (0, .ref (ad (29 + 15 * i))), (1, .int x0), (2, .int x1)]) hx hb dX0_leastOfOther_38 hl (by decide) rfl (fun ls hl => ?_)
      refine lv_iload hx hb dX0_leastOfOther_40 (lv_at hl 0 rfl) ?_
      refine lv_iconst (v := 2) hx hb dX0_leastOfOther_42 (by decide) ?_
      refine lv_aload_n hx hb dX0_leastOfOther_43 rfl (lv_at hl 2 rfl) ?_
      refine va_get (D := (dC, dI)) (ci := 0) (v := .int (v_4 (29 + 15 * i) 1)) (C := RX0) (T := TX0) (N := 11) hx hb hts iwX0_leastOfOther_X0 hown hK hP (29 + 15 * i) (wl_at (by omega) (ce_9 (kd_c i hi).1.1)) rfl 1 (by decide) (hts (.fieldLink RX0 37 "QuietStairs$Case" "sum" "I") fwX0_leastOfOther_2) (fun _ h9 => h9) rfl dX0_leastOfOther_44 ?_
      refine lv_topi (fun x_8 ex_8 => ?_)
      refine lv_imul hx hb dX0_leastOfOther_47 ?_
      refine lv_topi (fun x_9 ex_9 => ?_)
      refine lv_iload_n hx hb dX0_leastOfOther_48 rfl (lv_at hl 1 rfl) ?_
      refine lv_isub hx hb dX0_leastOfOther_49 ?_
      refine lv_topi (fun x_10 ex_10 => ?_)
      refine va_mmax hx hb (hml.trans hl.1.symm) hown (hts (.methodLink RX0 56 Lib.Math.max.name) fwX0_leastOfOther_3) (hts (.static Lib.Math.max.name) fwX0_leastOfOther_4) (hts (.initialized "java/lang/Math") fwX0_leastOfOther_5) (hts (.code Lib.Math.max.name Lib.Math.max.code 2 (some .int)) fwX0_leastOfOther_6) (Nat.le_of_ble_eq_true rfl) (Nat.le_of_ble_eq_true rfl) (Nat.le_of_ble_eq_true rfl) (Nat.le_of_ble_eq_true rfl) dX0_leastOfOther_50 ?_
      refine lv_topi (fun x_11 ex_11 => ?_)
      exact W.iret (v := x_11) hx hb hr (fun t ht hW => ⟨⟨x_11, v_4, rfl, ⟨hv, hfr⟩, by rw [ht]; exact hP, hD⟩, hS.F ht⟩) hS.2.2 dX0_leastOfOther_53

set_option maxHeartbeats 4000000 in
set_option maxRecDepth 100000 in
theorem g_X0_greatestOfOther (l : Launch) (dC : Nat → ClassId) (dI : Nat → Nat → Nat) (cy : Nat → ClassId) (sz : Nat) (ad : Nat → Nat) (kv : Value) (N : Nat) (hN : 119 ≤ N) (v : Nat → Nat → Int32) (hv : Iv v) (i : Nat) (hi : i < 6) (x0 x1 : Int32) (hs : 0 ≤ x0.toInt ∧ x0.toInt ≤ 1) (ht : 0 ≤ x1.toInt ∧ x1.toInt ≤ 4) : Met l yX0_greatestOfOther wsX0_greatestOfOther ({ frames := 1, cells := 0, slots := 0, locals := 64 }) (va_Pc [.ref (ad (29 + 15 * i)), .int x0, .int x1] (ex_Pre dC dI cy sz (wl ad kv cy N v))) (va_Qi (fun (r : Int32) (u : Nat → Nat → Int32) => Iv u ∧ Fz v u) (fun u t => ex_Pst dC dI (va_A (wl ad kv cy N v) sz) (wl ad kv cy N u) t) (va_A (wl ad kv cy N v) sz)) 0 0 (va_A (wl ad kv cy N v) sz) := by
  refine Met.ofW (cc := cX0_greatestOfOther) (maxL := 5) (ret := (some .int)) (by decide) rfl ?_
  intro p e s m args below meth c s₁ B hml hv
  obtain ⟨rfl, hsz, hE, hP, hK, hD0⟩ := hv
  have hx := B.exec
  have hb := B.bytes
  have hr := B.returns
  have hts := atoms_spec (ws := wsX0_greatestOfOther) B.pre
  have hown : s.vm.findClass RX0 = some m.cls := findClass_of_methodNamed B.named
  have hlocks := B.notSynchronized
  subst hsz
  have hD := hD0.self (sz := s.heap.size)
  generalize hAe : va_A (wl ad kv cy N v) s.heap.size = A at hD ⊢
  have hA : ∀ q : Nat, s.heap.size ≤ q → A q := fun q h => by rw [← hAe]; exact Or.inr h
  have hS : va_S A s.heap s.heap [] := va_S.rf
  have hP : va_P (dC, dI) vwCl (wl ad kv cy N v) s.heap := hP
  have hl := lv_entry ([.ref (ad (29 + 15 * i)), .int x0, .int x1]) (n := 5) (Nat.le_of_ble_eq_true rfl)
  rw [lg_entry_eq]
  generalize (lg_sl ([.ref (ad (29 + 15 * i)), .int x0, .int x1]) ++ List.replicate (5 - (lg_sl ([.ref (ad (29 + 15 * i)), .int x0, .int x1])).length) Slot.unset).toArray = ls at hl ⊢
  have hl : lv_has ls 5 [(0, .ref (ad (29 + 15 * i))), (1, .int x0), (2, .int x1)] := hl
  have hfr : Fz v v := Fz.rf
  refine lv_aload_n hx hb dX0_greatestOfOther_0 rfl (lv_at hl 0 rfl) ?_
  refine va_get (D := (dC, dI)) (ci := 0) (v := .ref (ad (29 + 15 * i + 3))) (C := RX0) (T := TX0) (N := 11) hx hb hts iwX0_greatestOfOther_X0 hown hK hP (29 + 15 * i) (wl_at (by omega) (ce_9 (kd_c i hi).1.1)) rfl 8 (by decide) (hts (.fieldLink RX0 20 "QuietStairs$Case" "offers" "[[I") fwX0_greatestOfOther_1) (fun _ h9 => h9) rfl dX0_greatestOfOther_1 ?_
  refine W.eq (g2 := F0 m 4 ls [.ref (ad (32 + 15 * i))]) (by rw [show 29 + 15 * i + 3 = 32 + 15 * i from by omega]) ?_
  refine lv_iload_n hx hb dX0_greatestOfOther_4 rfl (lv_at hl 1 rfl) ?_
  obtain ⟨pi1, i1, hi1, ni1, mi1⟩ := t_in (x := x0) (n := 2) ⟨by omega, by omega⟩
  refine ya_ald hx hb hK hP (32 + 15 * i) (wl_at (by omega) (ce_11 (kd_c i hi).1.2.2.2.1)) pi1 dX0_greatestOfOther_5 ?_
  refine W.eq (g2 := F0 m 6 ls [.ref (ad (33 + 15 * i + i1))]) (by rw [ni1, if_pos hi1, show 32 + 15 * i + 1 + i1 = 33 + 15 * i + i1 from by omega]; rfl) ?_
  refine lv_iload_n hx hb dX0_greatestOfOther_6 rfl (lv_at hl 2 rfl) ?_
  obtain ⟨pi2, i2, hi2, ni2, mi2⟩ := t_in (x := x1) (n := 5) ⟨by omega, by omega⟩
  refine va_iald hx hb hK hP (33 + 15 * i + i1) 0 (wl_at (by omega) (ce_12 (kd_o i hi i1 hi1).1.1)) rfl pi2 dX0_greatestOfOther_7 ?_
  refine lv_topi (fun x_3 ex_3 => ?_)
  refine lv_istore_n (lv' := [(3, .int x_3), (0, .ref (ad (29 + 15 * i))), (1, .int x0), (2, .int x1)]) hx hb dX0_greatestOfOther_8 rfl hl (by decide) rfl (fun ls hl => ?_)
  refine lv_aload_n hx hb dX0_greatestOfOther_9 rfl (lv_at hl 1 rfl) ?_
  refine lv_iload_n hx hb dX0_greatestOfOther_10 rfl (lv_at hl 3 rfl) ?_
  refine yw_i (w1 := fun (u : Nat → Nat → Int32) => wl ad kv cy N u) hD hS hA (va_runV (As := [.int x1]) (rest := []) ⟨hx, hb, hml, hown, hts⟩ (g_X0_hasMet l dC dI cy _ ad kv N hN v hv i hi x1) (cwV 1 hts gX0_greatestOfOther_X0_hasMet rfl rfl rfl hd_V_X0_hasMet_1 ⟨Nat.le_of_ble_eq_true rfl, Nat.le_of_ble_eq_true rfl⟩) (yw_preV hE hK hP hD (ci := 0) (q := (RX0, TX0, 11)) (q0 := (29 + 15 * i)) rfl (wl_at (by omega) (ce_9 (kd_c i hi).1.1))) rfl rfl hl.1 rfl (lv_room (Nat.le_of_ble_eq_true rfl)) dX0_greatestOfOther_11 ⟨Nat.le_of_ble_eq_true rfl, Nat.le_of_ble_eq_true rfl⟩) (fun r_4 v_4 H locs hw_4 hP hD hS => ?_)
  obtain ⟨hv, hw_4⟩ := hw_4
  have hfr : Fz v v_4 := hfr.trans hw_4.1
  rcases hw_4.2 with rfl | rfl
  · refine lv_if_ne (tgt := 30) hx hb dX0_greatestOfOther_14 (by decide) (fun c9 => absurd c9 (by decide)) (fun _ => ?_)
    refine lv_iload_n hx hb dX0_greatestOfOther_17 rfl (lv_at hl 2 rfl) ?_
    have k_0 : (0 : Int32).toInt = 0 := by decide
    refine lv_if_ne (tgt := 27) hx hb dX0_greatestOfOther_18 (by decide) (fun c_5 => ?_) (fun c_5 => ?_)
    · have tc_5 : x0.toInt ≠ (0 : Int32).toInt := fun q => absurd (Int32.toInt_inj.mp q) c_5
      refine lv_bipush (v := 100) hx hb dX0_greatestOfOther_27 (by decide) ?_
      exact W.iret (v := 100) hx hb hr (fun t ht hW => ⟨⟨100, v_4, rfl, ⟨hv, hfr⟩, by rw [ht]; exact hP, hD⟩, hS.F ht⟩) hS.2.2 dX0_greatestOfOther_29
    · have tc_5 : x0.toInt = (0 : Int32).toInt := by rw [c_5]
      refine lv_iload_n hx hb dX0_greatestOfOther_21 rfl (lv_at hl 0 rfl) ?_
      refine lv_iconst (v := 1) hx hb dX0_greatestOfOther_22 (by decide) ?_
      have k_1 : (1 : Int32).toInt = 1 := by decide
      refine lv_isub hx hb dX0_greatestOfOther_23 ?_
      refine lv_topi (fun x_6 ex_6 => ?_)
      refine lv_goto (tgt := 29) hx hb dX0_greatestOfOther_24 (by decide) ?_
      exact W.iret (v := x_6) hx hb hr (fun t ht hW => ⟨⟨x_6, v_4, rfl, ⟨hv, hfr⟩, by rw [ht]; exact hP, hD⟩, hS.F ht⟩) hS.2.2 dX0_greatestOfOther_29
  · refine lv_if_ne (tgt := 30) hx hb dX0_greatestOfOther_14 (by decide) (fun _ => ?_) (fun c9 => absurd c9 (by decide))
    refine lv_iload_n hx hb dX0_greatestOfOther_30 rfl (lv_at hl 2 rfl) ?_
    have k_0 : (0 : Int32).toInt = 0 := by decide
    refine lv_if_ne (tgt := 39) hx hb dX0_greatestOfOther_31 (by decide) (fun c_7 => ?_) (fun c_7 => ?_)
    · have tc_7 : x0.toInt ≠ (0 : Int32).toInt := fun q => absurd (Int32.toInt_inj.mp q) c_7
      refine lv_iload_n hx hb dX0_greatestOfOther_39 rfl (lv_at hl 0 rfl) ?_
      refine lv_istore (lv' := [(4, .int x_3), (3, .int x_3), (0, .ref (ad (29 + 15 * i))), (1, .int x0), (2, .int x1)]) hx hb dX0_greatestOfOther_40 hl (by decide) rfl (fun ls hl => ?_)
      refine lv_iload hx hb dX0_greatestOfOther_42 (lv_at hl 0 rfl) ?_
      refine lv_iconst (v := 2) hx hb dX0_greatestOfOther_44 (by decide) ?_
      refine lv_aload_n hx hb dX0_greatestOfOther_45 rfl (lv_at hl 2 rfl) ?_
      refine va_get (D := (dC, dI)) (ci := 0) (v := .int (v_4 (29 + 15 * i) 1)) (C := RX0) (T := TX0) (N := 11) hx hb hts iwX0_greatestOfOther_X0 hown hK hP (29 + 15 * i) (wl_at (by omega) (ce_9 (kd_c i hi).1.1)) rfl 1 (by decide) (hts (.fieldLink RX0 37 "QuietStairs$Case" "sum" "I") fwX0_greatestOfOther_2) (fun _ h9 => h9) rfl dX0_greatestOfOther_46 ?_
      refine lv_topi (fun x_8 ex_8 => ?_)
      refine lv_imul hx hb dX0_greatestOfOther_49 ?_
      refine lv_topi (fun x_9 ex_9 => ?_)
      refine lv_iconst (v := 1) hx hb dX0_greatestOfOther_50 (by decide) ?_
      have k_1 : (1 : Int32).toInt = 1 := by decide
      refine lv_iadd hx hb dX0_greatestOfOther_51 ?_
      refine lv_topi (fun x_10 ex_10 => ?_)
      refine lv_iload_n hx hb dX0_greatestOfOther_52 rfl (lv_at hl 1 rfl) ?_
      refine lv_isub hx hb dX0_greatestOfOther_53 ?_
      refine lv_topi (fun x_11 ex_11 => ?_)
      refine va_mmin hx hb (hml.trans hl.1.symm) hown (hts (.methodLink RX0 62 Lib.Math.min.name) fwX0_greatestOfOther_3) (hts (.static Lib.Math.min.name) fwX0_greatestOfOther_4) (hts (.initialized "java/lang/Math") fwX0_greatestOfOther_5) (hts (.code Lib.Math.min.name Lib.Math.min.code 2 (some .int)) fwX0_greatestOfOther_6) (Nat.le_of_ble_eq_true rfl) (Nat.le_of_ble_eq_true rfl) (Nat.le_of_ble_eq_true rfl) (Nat.le_of_ble_eq_true rfl) dX0_greatestOfOther_54 ?_
      refine lv_topi (fun x_12 ex_12 => ?_)
      exact W.iret (v := x_12) hx hb hr (fun t ht hW => ⟨⟨x_12, v_4, rfl, ⟨hv, hfr⟩, by rw [ht]; exact hP, hD⟩, hS.F ht⟩) hS.2.2 dX0_greatestOfOther_57
    · have tc_7 : x0.toInt = (0 : Int32).toInt := by rw [c_7]
      refine lv_bipush (v := 100) hx hb dX0_greatestOfOther_34 (by decide) ?_
      refine lv_goto (tgt := 40) hx hb dX0_greatestOfOther_36 (by decide) ?_
      refine lv_istore (lv' := [(4, .int 100), (3, .int x_3), (0, .ref (ad (29 + 15 * i))), (1, .int x0), (2, .int x1)]) hx hb dX0_greatestOfOther_40 hl (by decide) rfl (fun ls hl => ?_)
      refine lv_iload hx hb dX0_greatestOfOther_42 (lv_at hl 0 rfl) ?_
      refine lv_iconst (v := 2) hx hb dX0_greatestOfOther_44 (by decide) ?_
      refine lv_aload_n hx hb dX0_greatestOfOther_45 rfl (lv_at hl 2 rfl) ?_
      refine va_get (D := (dC, dI)) (ci := 0) (v := .int (v_4 (29 + 15 * i) 1)) (C := RX0) (T := TX0) (N := 11) hx hb hts iwX0_greatestOfOther_X0 hown hK hP (29 + 15 * i) (wl_at (by omega) (ce_9 (kd_c i hi).1.1)) rfl 1 (by decide) (hts (.fieldLink RX0 37 "QuietStairs$Case" "sum" "I") fwX0_greatestOfOther_2) (fun _ h9 => h9) rfl dX0_greatestOfOther_46 ?_
      refine lv_topi (fun x_8 ex_8 => ?_)
      refine lv_imul hx hb dX0_greatestOfOther_49 ?_
      refine lv_topi (fun x_9 ex_9 => ?_)
      refine lv_iconst (v := 1) hx hb dX0_greatestOfOther_50 (by decide) ?_
      have k_1 : (1 : Int32).toInt = 1 := by decide
      refine lv_iadd hx hb dX0_greatestOfOther_51 ?_
      refine lv_topi (fun x_10 ex_10 => ?_)
      refine lv_iload_n hx hb dX0_greatestOfOther_52 rfl (lv_at hl 1 rfl) ?_
      refine lv_isub hx hb dX0_greatestOfOther_53 ?_
      refine lv_topi (fun x_11 ex_11 => ?_)
      refine va_mmin hx hb (hml.trans hl.1.symm) hown (hts (.methodLink RX0 62 Lib.Math.min.name) fwX0_greatestOfOther_3) (hts (.static Lib.Math.min.name) fwX0_greatestOfOther_4) (hts (.initialized "java/lang/Math") fwX0_greatestOfOther_5) (hts (.code Lib.Math.min.name Lib.Math.min.code 2 (some .int)) fwX0_greatestOfOther_6) (Nat.le_of_ble_eq_true rfl) (Nat.le_of_ble_eq_true rfl) (Nat.le_of_ble_eq_true rfl) (Nat.le_of_ble_eq_true rfl) dX0_greatestOfOther_54 ?_
      refine lv_topi (fun x_12 ex_12 => ?_)
      exact W.iret (v := x_12) hx hb hr (fun t ht hW => ⟨⟨x_12, v_4, rfl, ⟨hv, hfr⟩, by rw [ht]; exact hP, hD⟩, hS.F ht⟩) hS.2.2 dX0_greatestOfOther_57
set_option maxRecDepth 20000 in
theorem db_J6_bitCount_0f7a4_0 : (decode cJ6_bitCount_0f7a4 0 = .ok (.iload_n 0, 1)) ∧ (decode cJ6_bitCount_0f7a4 1 = .ok (.iload_n 0, 1)) ∧ (decode cJ6_bitCount_0f7a4 2 = .ok (.iconst 1, 1)) ∧ (decode cJ6_bitCount_0f7a4 3 = .ok (.iushr, 1)) ∧ (decode cJ6_bitCount_0f7a4 4 = .ok (.ldc_w 265, 3)) ∧ (decode cJ6_bitCount_0f7a4 7 = .ok (.iand, 1)) ∧ (decode cJ6_bitCount_0f7a4 8 = .ok (.isub, 1)) ∧ (decode cJ6_bitCount_0f7a4 9 = .ok (.istore_n 0, 1)) := by decide +kernel
theorem dJ6_bitCount_0f7a4_0 : decode cJ6_bitCount_0f7a4 0 = .ok (.iload_n 0, 1) := db_J6_bitCount_0f7a4_0.1
theorem dJ6_bitCount_0f7a4_1 : decode cJ6_bitCount_0f7a4 1 = .ok (.iload_n 0, 1) := db_J6_bitCount_0f7a4_0.2.1
theorem dJ6_bitCount_0f7a4_2 : decode cJ6_bitCount_0f7a4 2 = .ok (.iconst 1, 1) := db_J6_bitCount_0f7a4_0.2.2.1
theorem dJ6_bitCount_0f7a4_3 : decode cJ6_bitCount_0f7a4 3 = .ok (.iushr, 1) := db_J6_bitCount_0f7a4_0.2.2.2.1
theorem dJ6_bitCount_0f7a4_4 : decode cJ6_bitCount_0f7a4 4 = .ok (.ldc_w 265, 3) := db_J6_bitCount_0f7a4_0.2.2.2.2.1
theorem dJ6_bitCount_0f7a4_7 : decode cJ6_bitCount_0f7a4 7 = .ok (.iand, 1) := db_J6_bitCount_0f7a4_0.2.2.2.2.2.1
theorem dJ6_bitCount_0f7a4_8 : decode cJ6_bitCount_0f7a4 8 = .ok (.isub, 1) := db_J6_bitCount_0f7a4_0.2.2.2.2.2.2.1
theorem dJ6_bitCount_0f7a4_9 : decode cJ6_bitCount_0f7a4 9 = .ok (.istore_n 0, 1) := db_J6_bitCount_0f7a4_0.2.2.2.2.2.2.2
set_option maxRecDepth 20000 in
theorem db_J6_bitCount_0f7a4_10 : (decode cJ6_bitCount_0f7a4 10 = .ok (.iload_n 0, 1)) ∧ (decode cJ6_bitCount_0f7a4 11 = .ok (.ldc_w 266, 3)) ∧ (decode cJ6_bitCount_0f7a4 14 = .ok (.iand, 1)) ∧ (decode cJ6_bitCount_0f7a4 15 = .ok (.iload_n 0, 1)) ∧ (decode cJ6_bitCount_0f7a4 16 = .ok (.iconst 2, 1)) ∧ (decode cJ6_bitCount_0f7a4 17 = .ok (.iushr, 1)) ∧ (decode cJ6_bitCount_0f7a4 18 = .ok (.ldc_w 266, 3)) ∧ (decode cJ6_bitCount_0f7a4 21 = .ok (.iand, 1)) := by decide +kernel
theorem dJ6_bitCount_0f7a4_10 : decode cJ6_bitCount_0f7a4 10 = .ok (.iload_n 0, 1) := db_J6_bitCount_0f7a4_10.1
theorem dJ6_bitCount_0f7a4_11 : decode cJ6_bitCount_0f7a4 11 = .ok (.ldc_w 266, 3) := db_J6_bitCount_0f7a4_10.2.1
theorem dJ6_bitCount_0f7a4_14 : decode cJ6_bitCount_0f7a4 14 = .ok (.iand, 1) := db_J6_bitCount_0f7a4_10.2.2.1
theorem dJ6_bitCount_0f7a4_15 : decode cJ6_bitCount_0f7a4 15 = .ok (.iload_n 0, 1) := db_J6_bitCount_0f7a4_10.2.2.2.1
theorem dJ6_bitCount_0f7a4_16 : decode cJ6_bitCount_0f7a4 16 = .ok (.iconst 2, 1) := db_J6_bitCount_0f7a4_10.2.2.2.2.1
theorem dJ6_bitCount_0f7a4_17 : decode cJ6_bitCount_0f7a4 17 = .ok (.iushr, 1) := db_J6_bitCount_0f7a4_10.2.2.2.2.2.1
theorem dJ6_bitCount_0f7a4_18 : decode cJ6_bitCount_0f7a4 18 = .ok (.ldc_w 266, 3) := db_J6_bitCount_0f7a4_10.2.2.2.2.2.2.1
theorem dJ6_bitCount_0f7a4_21 : decode cJ6_bitCount_0f7a4 21 = .ok (.iand, 1) := db_J6_bitCount_0f7a4_10.2.2.2.2.2.2.2
set_option maxRecDepth 20000 in
theorem db_J6_bitCount_0f7a4_22 : (decode cJ6_bitCount_0f7a4 22 = .ok (.iadd, 1)) ∧ (decode cJ6_bitCount_0f7a4 23 = .ok (.istore_n 0, 1)) ∧ (decode cJ6_bitCount_0f7a4 24 = .ok (.iload_n 0, 1)) ∧ (decode cJ6_bitCount_0f7a4 25 = .ok (.iload_n 0, 1)) ∧ (decode cJ6_bitCount_0f7a4 26 = .ok (.iconst 4, 1)) ∧ (decode cJ6_bitCount_0f7a4 27 = .ok (.iushr, 1)) ∧ (decode cJ6_bitCount_0f7a4 28 = .ok (.iadd, 1)) ∧ (decode cJ6_bitCount_0f7a4 29 = .ok (.ldc_w 267, 3)) := by decide +kernel
theorem dJ6_bitCount_0f7a4_22 : decode cJ6_bitCount_0f7a4 22 = .ok (.iadd, 1) := db_J6_bitCount_0f7a4_22.1
theorem dJ6_bitCount_0f7a4_23 : decode cJ6_bitCount_0f7a4 23 = .ok (.istore_n 0, 1) := db_J6_bitCount_0f7a4_22.2.1
theorem dJ6_bitCount_0f7a4_24 : decode cJ6_bitCount_0f7a4 24 = .ok (.iload_n 0, 1) := db_J6_bitCount_0f7a4_22.2.2.1
theorem dJ6_bitCount_0f7a4_25 : decode cJ6_bitCount_0f7a4 25 = .ok (.iload_n 0, 1) := db_J6_bitCount_0f7a4_22.2.2.2.1
theorem dJ6_bitCount_0f7a4_26 : decode cJ6_bitCount_0f7a4 26 = .ok (.iconst 4, 1) := db_J6_bitCount_0f7a4_22.2.2.2.2.1
theorem dJ6_bitCount_0f7a4_27 : decode cJ6_bitCount_0f7a4 27 = .ok (.iushr, 1) := db_J6_bitCount_0f7a4_22.2.2.2.2.2.1
theorem dJ6_bitCount_0f7a4_28 : decode cJ6_bitCount_0f7a4 28 = .ok (.iadd, 1) := db_J6_bitCount_0f7a4_22.2.2.2.2.2.2.1
theorem dJ6_bitCount_0f7a4_29 : decode cJ6_bitCount_0f7a4 29 = .ok (.ldc_w 267, 3) := db_J6_bitCount_0f7a4_22.2.2.2.2.2.2.2
set_option maxRecDepth 20000 in
theorem db_J6_bitCount_0f7a4_32 : (decode cJ6_bitCount_0f7a4 32 = .ok (.iand, 1)) ∧ (decode cJ6_bitCount_0f7a4 33 = .ok (.istore_n 0, 1)) ∧ (decode cJ6_bitCount_0f7a4 34 = .ok (.iload_n 0, 1)) ∧ (decode cJ6_bitCount_0f7a4 35 = .ok (.iload_n 0, 1)) ∧ (decode cJ6_bitCount_0f7a4 36 = .ok (.bipush 8, 2)) ∧ (decode cJ6_bitCount_0f7a4 38 = .ok (.iushr, 1)) ∧ (decode cJ6_bitCount_0f7a4 39 = .ok (.iadd, 1)) ∧ (decode cJ6_bitCount_0f7a4 40 = .ok (.istore_n 0, 1)) := by decide +kernel
theorem dJ6_bitCount_0f7a4_32 : decode cJ6_bitCount_0f7a4 32 = .ok (.iand, 1) := db_J6_bitCount_0f7a4_32.1
theorem dJ6_bitCount_0f7a4_33 : decode cJ6_bitCount_0f7a4 33 = .ok (.istore_n 0, 1) := db_J6_bitCount_0f7a4_32.2.1
theorem dJ6_bitCount_0f7a4_34 : decode cJ6_bitCount_0f7a4 34 = .ok (.iload_n 0, 1) := db_J6_bitCount_0f7a4_32.2.2.1
theorem dJ6_bitCount_0f7a4_35 : decode cJ6_bitCount_0f7a4 35 = .ok (.iload_n 0, 1) := db_J6_bitCount_0f7a4_32.2.2.2.1
theorem dJ6_bitCount_0f7a4_36 : decode cJ6_bitCount_0f7a4 36 = .ok (.bipush 8, 2) := db_J6_bitCount_0f7a4_32.2.2.2.2.1
theorem dJ6_bitCount_0f7a4_38 : decode cJ6_bitCount_0f7a4 38 = .ok (.iushr, 1) := db_J6_bitCount_0f7a4_32.2.2.2.2.2.1
theorem dJ6_bitCount_0f7a4_39 : decode cJ6_bitCount_0f7a4 39 = .ok (.iadd, 1) := db_J6_bitCount_0f7a4_32.2.2.2.2.2.2.1
theorem dJ6_bitCount_0f7a4_40 : decode cJ6_bitCount_0f7a4 40 = .ok (.istore_n 0, 1) := db_J6_bitCount_0f7a4_32.2.2.2.2.2.2.2
set_option maxRecDepth 20000 in
theorem db_J6_bitCount_0f7a4_41 : (decode cJ6_bitCount_0f7a4 41 = .ok (.iload_n 0, 1)) ∧ (decode cJ6_bitCount_0f7a4 42 = .ok (.iload_n 0, 1)) ∧ (decode cJ6_bitCount_0f7a4 43 = .ok (.bipush 16, 2)) ∧ (decode cJ6_bitCount_0f7a4 45 = .ok (.iushr, 1)) ∧ (decode cJ6_bitCount_0f7a4 46 = .ok (.iadd, 1)) ∧ (decode cJ6_bitCount_0f7a4 47 = .ok (.istore_n 0, 1)) ∧ (decode cJ6_bitCount_0f7a4 48 = .ok (.iload_n 0, 1)) ∧ (decode cJ6_bitCount_0f7a4 49 = .ok (.bipush 63, 2)) := by decide +kernel
theorem dJ6_bitCount_0f7a4_41 : decode cJ6_bitCount_0f7a4 41 = .ok (.iload_n 0, 1) := db_J6_bitCount_0f7a4_41.1
theorem dJ6_bitCount_0f7a4_42 : decode cJ6_bitCount_0f7a4 42 = .ok (.iload_n 0, 1) := db_J6_bitCount_0f7a4_41.2.1
theorem dJ6_bitCount_0f7a4_43 : decode cJ6_bitCount_0f7a4 43 = .ok (.bipush 16, 2) := db_J6_bitCount_0f7a4_41.2.2.1
theorem dJ6_bitCount_0f7a4_45 : decode cJ6_bitCount_0f7a4 45 = .ok (.iushr, 1) := db_J6_bitCount_0f7a4_41.2.2.2.1
theorem dJ6_bitCount_0f7a4_46 : decode cJ6_bitCount_0f7a4 46 = .ok (.iadd, 1) := db_J6_bitCount_0f7a4_41.2.2.2.2.1
theorem dJ6_bitCount_0f7a4_47 : decode cJ6_bitCount_0f7a4 47 = .ok (.istore_n 0, 1) := db_J6_bitCount_0f7a4_41.2.2.2.2.2.1
theorem dJ6_bitCount_0f7a4_48 : decode cJ6_bitCount_0f7a4 48 = .ok (.iload_n 0, 1) := db_J6_bitCount_0f7a4_41.2.2.2.2.2.2.1
theorem dJ6_bitCount_0f7a4_49 : decode cJ6_bitCount_0f7a4 49 = .ok (.bipush 63, 2) := db_J6_bitCount_0f7a4_41.2.2.2.2.2.2.2
set_option maxRecDepth 20000 in
theorem db_J6_bitCount_0f7a4_51 : (decode cJ6_bitCount_0f7a4 51 = .ok (.iand, 1)) ∧ (decode cJ6_bitCount_0f7a4 52 = .ok (.ireturn, 1)) := by decide +kernel
theorem dJ6_bitCount_0f7a4_51 : decode cJ6_bitCount_0f7a4 51 = .ok (.iand, 1) := db_J6_bitCount_0f7a4_51.1
theorem dJ6_bitCount_0f7a4_52 : decode cJ6_bitCount_0f7a4 52 = .ok (.ireturn, 1) := db_J6_bitCount_0f7a4_51.2
set_option maxRecDepth 20000 in
theorem db_X0_judge_0 : (decode cX0_judge 0 = .ok (.aload_n 0, 1)) ∧ (decode cX0_judge 1 = .ok (.getfield 28, 3)) ∧ (decode cX0_judge 4 = .ok (.iload_n 1, 1)) ∧ (decode cX0_judge 5 = .ok (.aaload, 1)) ∧ (decode cX0_judge 6 = .ok (.astore_n 2, 1)) ∧ (decode cX0_judge 7 = .ok (.iconst 1, 1)) ∧ (decode cX0_judge 8 = .ok (.istore_n 3, 1)) ∧ (decode cX0_judge 9 = .ok (.aload_n 2, 1)) := by decide +kernel
theorem dX0_judge_0 : decode cX0_judge 0 = .ok (.aload_n 0, 1) := db_X0_judge_0.1
theorem dX0_judge_1 : decode cX0_judge 1 = .ok (.getfield 28, 3) := db_X0_judge_0.2.1
theorem dX0_judge_4 : decode cX0_judge 4 = .ok (.iload_n 1, 1) := db_X0_judge_0.2.2.1
theorem dX0_judge_5 : decode cX0_judge 5 = .ok (.aaload, 1) := db_X0_judge_0.2.2.2.1
theorem dX0_judge_6 : decode cX0_judge 6 = .ok (.astore_n 2, 1) := db_X0_judge_0.2.2.2.2.1
theorem dX0_judge_7 : decode cX0_judge 7 = .ok (.iconst 1, 1) := db_X0_judge_0.2.2.2.2.2.1
theorem dX0_judge_8 : decode cX0_judge 8 = .ok (.istore_n 3, 1) := db_X0_judge_0.2.2.2.2.2.2.1
theorem dX0_judge_9 : decode cX0_judge 9 = .ok (.aload_n 2, 1) := db_X0_judge_0.2.2.2.2.2.2.2
set_option maxRecDepth 20000 in
theorem db_X0_judge_10 : (decode cX0_judge 10 = .ok (.getfield 65, 3)) ∧ (decode cX0_judge 13 = .ok (.istore 4, 2)) ∧ (decode cX0_judge 15 = .ok (.iload 4, 2)) ∧ (decode cX0_judge 17 = .ok (.aload_n 2, 1)) ∧ (decode cX0_judge 18 = .ok (.getfield 68, 3)) ∧ (decode cX0_judge 21 = .ok (.if_icmp .gt 54, 3)) ∧ (decode cX0_judge 75 = .ok (.iload_n 3, 1)) ∧ (decode cX0_judge 76 = .ok (.ifCond .ne 5, 3)) := by decide +kernel
theorem dX0_judge_10 : decode cX0_judge 10 = .ok (.getfield 65, 3) := db_X0_judge_10.1
theorem dX0_judge_13 : decode cX0_judge 13 = .ok (.istore 4, 2) := db_X0_judge_10.2.1
theorem dX0_judge_15 : decode cX0_judge 15 = .ok (.iload 4, 2) := db_X0_judge_10.2.2.1
theorem dX0_judge_17 : decode cX0_judge 17 = .ok (.aload_n 2, 1) := db_X0_judge_10.2.2.2.1
theorem dX0_judge_18 : decode cX0_judge 18 = .ok (.getfield 68, 3) := db_X0_judge_10.2.2.2.2.1
theorem dX0_judge_21 : decode cX0_judge 21 = .ok (.if_icmp .gt 54, 3) := db_X0_judge_10.2.2.2.2.2.1
theorem dX0_judge_75 : decode cX0_judge 75 = .ok (.iload_n 3, 1) := db_X0_judge_10.2.2.2.2.2.2.1
theorem dX0_judge_76 : decode cX0_judge 76 = .ok (.ifCond .ne 5, 3) := db_X0_judge_10.2.2.2.2.2.2.2
set_option maxRecDepth 20000 in
theorem db_X0_judge_81 : (decode cX0_judge 81 = .ok (.aload_n 2, 1)) ∧ (decode cX0_judge 82 = .ok (.getfield 77, 3)) ∧ (decode cX0_judge 85 = .ok (.ifCond .eq 7, 3)) ∧ (decode cX0_judge 92 = .ok (.iconst 1, 1)) ∧ (decode cX0_judge 93 = .ok (.ireturn, 1)) ∧ (decode cX0_judge 88 = .ok (.iconst 0, 1)) ∧ (decode cX0_judge 89 = .ok (.goto 4, 3)) ∧ (decode cX0_judge 79 = .ok (.iconst 2, 1)) := by decide +kernel
theorem dX0_judge_81 : decode cX0_judge 81 = .ok (.aload_n 2, 1) := db_X0_judge_81.1
theorem dX0_judge_82 : decode cX0_judge 82 = .ok (.getfield 77, 3) := db_X0_judge_81.2.1
theorem dX0_judge_85 : decode cX0_judge 85 = .ok (.ifCond .eq 7, 3) := db_X0_judge_81.2.2.1
theorem dX0_judge_92 : decode cX0_judge 92 = .ok (.iconst 1, 1) := db_X0_judge_81.2.2.2.1
theorem dX0_judge_93 : decode cX0_judge 93 = .ok (.ireturn, 1) := db_X0_judge_81.2.2.2.2.1
theorem dX0_judge_88 : decode cX0_judge 88 = .ok (.iconst 0, 1) := db_X0_judge_81.2.2.2.2.2.1
theorem dX0_judge_89 : decode cX0_judge 89 = .ok (.goto 4, 3) := db_X0_judge_81.2.2.2.2.2.2.1
theorem dX0_judge_79 : decode cX0_judge 79 = .ok (.iconst 2, 1) := db_X0_judge_81.2.2.2.2.2.2.2
set_option maxRecDepth 20000 in
theorem db_X0_judge_80 : (decode cX0_judge 80 = .ok (.ireturn, 1)) ∧ (decode cX0_judge 24 = .ok (.aload_n 0, 1)) ∧ (decode cX0_judge 25 = .ok (.getfield 23, 3)) ∧ (decode cX0_judge 28 = .ok (.aload_n 2, 1)) ∧ (decode cX0_judge 29 = .ok (.getfield 71, 3)) ∧ (decode cX0_judge 32 = .ok (.aaload, 1)) ∧ (decode cX0_judge 33 = .ok (.iload 4, 2)) ∧ (decode cX0_judge 35 = .ok (.iaload, 1)) := by decide +kernel
theorem dX0_judge_80 : decode cX0_judge 80 = .ok (.ireturn, 1) := db_X0_judge_80.1
theorem dX0_judge_24 : decode cX0_judge 24 = .ok (.aload_n 0, 1) := db_X0_judge_80.2.1
theorem dX0_judge_25 : decode cX0_judge 25 = .ok (.getfield 23, 3) := db_X0_judge_80.2.2.1
theorem dX0_judge_28 : decode cX0_judge 28 = .ok (.aload_n 2, 1) := db_X0_judge_80.2.2.2.1
theorem dX0_judge_29 : decode cX0_judge 29 = .ok (.getfield 71, 3) := db_X0_judge_80.2.2.2.2.1
theorem dX0_judge_32 : decode cX0_judge 32 = .ok (.aaload, 1) := db_X0_judge_80.2.2.2.2.2.1
theorem dX0_judge_33 : decode cX0_judge 33 = .ok (.iload 4, 2) := db_X0_judge_80.2.2.2.2.2.2.1
theorem dX0_judge_35 : decode cX0_judge 35 = .ok (.iaload, 1) := db_X0_judge_80.2.2.2.2.2.2.2
set_option maxRecDepth 20000 in
theorem db_X0_judge_36 : (decode cX0_judge 36 = .ok (.istore 5, 2)) ∧ (decode cX0_judge 38 = .ok (.iload 5, 2)) ∧ (decode cX0_judge 40 = .ok (.aload_n 2, 1)) ∧ (decode cX0_judge 41 = .ok (.getfield 74, 3)) ∧ (decode cX0_judge 44 = .ok (.if_icmp .ne 16, 3)) ∧ (decode cX0_judge 60 = .ok (.iload 5, 2)) ∧ (decode cX0_judge 62 = .ok (.bipush 7, 2)) ∧ (decode cX0_judge 64 = .ok (.if_icmp .ne 5, 3)) := by decide +kernel
theorem dX0_judge_36 : decode cX0_judge 36 = .ok (.istore 5, 2) := db_X0_judge_36.1
theorem dX0_judge_38 : decode cX0_judge 38 = .ok (.iload 5, 2) := db_X0_judge_36.2.1
theorem dX0_judge_40 : decode cX0_judge 40 = .ok (.aload_n 2, 1) := db_X0_judge_36.2.2.1
theorem dX0_judge_41 : decode cX0_judge 41 = .ok (.getfield 74, 3) := db_X0_judge_36.2.2.2.1
theorem dX0_judge_44 : decode cX0_judge 44 = .ok (.if_icmp .ne 16, 3) := db_X0_judge_36.2.2.2.2.1
theorem dX0_judge_60 : decode cX0_judge 60 = .ok (.iload 5, 2) := db_X0_judge_36.2.2.2.2.2.1
theorem dX0_judge_62 : decode cX0_judge 62 = .ok (.bipush 7, 2) := db_X0_judge_36.2.2.2.2.2.2.1
theorem dX0_judge_64 : decode cX0_judge 64 = .ok (.if_icmp .ne 5, 3) := db_X0_judge_36.2.2.2.2.2.2.2
set_option maxRecDepth 20000 in
theorem db_X0_judge_69 : (decode cX0_judge 69 = .ok (.iinc 4 1, 3)) ∧ (decode cX0_judge 72 = .ok (.goto (-57), 3)) ∧ (decode cX0_judge 67 = .ok (.iconst 0, 1)) ∧ (decode cX0_judge 68 = .ok (.istore_n 3, 1)) ∧ (decode cX0_judge 47 = .ok (.aload_n 2, 1)) ∧ (decode cX0_judge 48 = .ok (.getfield 77, 3)) ∧ (decode cX0_judge 51 = .ok (.ifCond .eq 7, 3)) ∧ (decode cX0_judge 58 = .ok (.iconst 0, 1)) := by decide +kernel
theorem dX0_judge_69 : decode cX0_judge 69 = .ok (.iinc 4 1, 3) := db_X0_judge_69.1
theorem dX0_judge_72 : decode cX0_judge 72 = .ok (.goto (-57), 3) := db_X0_judge_69.2.1
theorem dX0_judge_67 : decode cX0_judge 67 = .ok (.iconst 0, 1) := db_X0_judge_69.2.2.1
theorem dX0_judge_68 : decode cX0_judge 68 = .ok (.istore_n 3, 1) := db_X0_judge_69.2.2.2.1
theorem dX0_judge_47 : decode cX0_judge 47 = .ok (.aload_n 2, 1) := db_X0_judge_69.2.2.2.2.1
theorem dX0_judge_48 : decode cX0_judge 48 = .ok (.getfield 77, 3) := db_X0_judge_69.2.2.2.2.2.1
theorem dX0_judge_51 : decode cX0_judge 51 = .ok (.ifCond .eq 7, 3) := db_X0_judge_69.2.2.2.2.2.2.1
theorem dX0_judge_58 : decode cX0_judge 58 = .ok (.iconst 0, 1) := db_X0_judge_69.2.2.2.2.2.2.2
set_option maxRecDepth 20000 in
theorem db_X0_judge_59 : (decode cX0_judge 59 = .ok (.ireturn, 1)) ∧ (decode cX0_judge 54 = .ok (.iconst 1, 1)) ∧ (decode cX0_judge 55 = .ok (.goto 4, 3)) := by decide +kernel
theorem dX0_judge_59 : decode cX0_judge 59 = .ok (.ireturn, 1) := db_X0_judge_59.1
theorem dX0_judge_54 : decode cX0_judge 54 = .ok (.iconst 1, 1) := db_X0_judge_59.2.1
theorem dX0_judge_55 : decode cX0_judge 55 = .ok (.goto 4, 3) := db_X0_judge_59.2.2
set_option maxRecDepth 20000 in
theorem db_X1_quarrelBits_0 : (decode cX1_quarrelBits 0 = .ok (.iconst 1, 1)) ∧ (decode cX1_quarrelBits 1 = .ok (.iload_n 1, 1)) ∧ (decode cX1_quarrelBits 2 = .ok (.ishl, 1)) ∧ (decode cX1_quarrelBits 3 = .ok (.istore_n 2, 1)) ∧ (decode cX1_quarrelBits 4 = .ok (.iconst 1, 1)) ∧ (decode cX1_quarrelBits 5 = .ok (.istore_n 3, 1)) ∧ (decode cX1_quarrelBits 6 = .ok (.iload_n 3, 1)) ∧ (decode cX1_quarrelBits 7 = .ok (.aload_n 0, 1)) := by decide +kernel
theorem dX1_quarrelBits_0 : decode cX1_quarrelBits 0 = .ok (.iconst 1, 1) := db_X1_quarrelBits_0.1
theorem dX1_quarrelBits_1 : decode cX1_quarrelBits 1 = .ok (.iload_n 1, 1) := db_X1_quarrelBits_0.2.1
theorem dX1_quarrelBits_2 : decode cX1_quarrelBits 2 = .ok (.ishl, 1) := db_X1_quarrelBits_0.2.2.1
theorem dX1_quarrelBits_3 : decode cX1_quarrelBits 3 = .ok (.istore_n 2, 1) := db_X1_quarrelBits_0.2.2.2.1
theorem dX1_quarrelBits_4 : decode cX1_quarrelBits 4 = .ok (.iconst 1, 1) := db_X1_quarrelBits_0.2.2.2.2.1
theorem dX1_quarrelBits_5 : decode cX1_quarrelBits 5 = .ok (.istore_n 3, 1) := db_X1_quarrelBits_0.2.2.2.2.2.1
theorem dX1_quarrelBits_6 : decode cX1_quarrelBits 6 = .ok (.iload_n 3, 1) := db_X1_quarrelBits_0.2.2.2.2.2.2.1
theorem dX1_quarrelBits_7 : decode cX1_quarrelBits 7 = .ok (.aload_n 0, 1) := db_X1_quarrelBits_0.2.2.2.2.2.2.2
set_option maxRecDepth 20000 in
theorem db_X1_quarrelBits_8 : (decode cX1_quarrelBits 8 = .ok (.getfield 66, 3)) ∧ (decode cX1_quarrelBits 11 = .ok (.if_icmp .ge 49, 3)) ∧ (decode cX1_quarrelBits 60 = .ok (.iload_n 2, 1)) ∧ (decode cX1_quarrelBits 61 = .ok (.ireturn, 1)) ∧ (decode cX1_quarrelBits 14 = .ok (.iconst 0, 1)) ∧ (decode cX1_quarrelBits 15 = .ok (.istore 4, 2)) ∧ (decode cX1_quarrelBits 17 = .ok (.iload 4, 2)) ∧ (decode cX1_quarrelBits 19 = .ok (.aload_n 0, 1)) := by decide +kernel
theorem dX1_quarrelBits_8 : decode cX1_quarrelBits 8 = .ok (.getfield 66, 3) := db_X1_quarrelBits_8.1
theorem dX1_quarrelBits_11 : decode cX1_quarrelBits 11 = .ok (.if_icmp .ge 49, 3) := db_X1_quarrelBits_8.2.1
theorem dX1_quarrelBits_60 : decode cX1_quarrelBits 60 = .ok (.iload_n 2, 1) := db_X1_quarrelBits_8.2.2.1
theorem dX1_quarrelBits_61 : decode cX1_quarrelBits 61 = .ok (.ireturn, 1) := db_X1_quarrelBits_8.2.2.2.1
theorem dX1_quarrelBits_14 : decode cX1_quarrelBits 14 = .ok (.iconst 0, 1) := db_X1_quarrelBits_8.2.2.2.2.1
theorem dX1_quarrelBits_15 : decode cX1_quarrelBits 15 = .ok (.istore 4, 2) := db_X1_quarrelBits_8.2.2.2.2.2.1
theorem dX1_quarrelBits_17 : decode cX1_quarrelBits 17 = .ok (.iload 4, 2) := db_X1_quarrelBits_8.2.2.2.2.2.2.1
theorem dX1_quarrelBits_19 : decode cX1_quarrelBits 19 = .ok (.aload_n 0, 1) := db_X1_quarrelBits_8.2.2.2.2.2.2.2
set_option maxRecDepth 20000 in
theorem db_X1_quarrelBits_20 : (decode cX1_quarrelBits 20 = .ok (.getfield 66, 3)) ∧ (decode cX1_quarrelBits 23 = .ok (.if_icmp .ge 31, 3)) ∧ (decode cX1_quarrelBits 54 = .ok (.iinc 3 1, 3)) ∧ (decode cX1_quarrelBits 57 = .ok (.goto (-51), 3)) ∧ (decode cX1_quarrelBits 26 = .ok (.iload_n 2, 1)) ∧ (decode cX1_quarrelBits 27 = .ok (.iload 4, 2)) ∧ (decode cX1_quarrelBits 29 = .ok (.invokestatic 51, 3)) ∧ (decode cX1_quarrelBits 32 = .ok (.ifCond .eq 16, 3)) := by decide +kernel
theorem dX1_quarrelBits_20 : decode cX1_quarrelBits 20 = .ok (.getfield 66, 3) := db_X1_quarrelBits_20.1
theorem dX1_quarrelBits_23 : decode cX1_quarrelBits 23 = .ok (.if_icmp .ge 31, 3) := db_X1_quarrelBits_20.2.1
theorem dX1_quarrelBits_54 : decode cX1_quarrelBits 54 = .ok (.iinc 3 1, 3) := db_X1_quarrelBits_20.2.2.1
theorem dX1_quarrelBits_57 : decode cX1_quarrelBits 57 = .ok (.goto (-51), 3) := db_X1_quarrelBits_20.2.2.2.1
theorem dX1_quarrelBits_26 : decode cX1_quarrelBits 26 = .ok (.iload_n 2, 1) := db_X1_quarrelBits_20.2.2.2.2.1
theorem dX1_quarrelBits_27 : decode cX1_quarrelBits 27 = .ok (.iload 4, 2) := db_X1_quarrelBits_20.2.2.2.2.2.1
set_option maxRecDepth 20000 in
theorem ggX1_quarrelBits_X7_hasBit : GoodIn wsX1_quarrelBits wsX7_hasBit := goodIn_r _ [6] rfl (by decide +kernel)
set_option maxRecDepth 20000 in
theorem gX1_quarrelBits_X7_hasBit_n51 : GoodIn wsX1_quarrelBits (wsX7_hasBit) := ggX1_quarrelBits_X7_hasBit
theorem dX1_quarrelBits_29 : decode cX1_quarrelBits 29 = .ok (.invokestatic 51, 3) := db_X1_quarrelBits_20.2.2.2.2.2.2.1
theorem dX1_quarrelBits_32 : decode cX1_quarrelBits 32 = .ok (.ifCond .eq 16, 3) := db_X1_quarrelBits_20.2.2.2.2.2.2.2
set_option maxRecDepth 20000 in
theorem db_X1_quarrelBits_48 : (decode cX1_quarrelBits 48 = .ok (.iinc 4 1, 3)) ∧ (decode cX1_quarrelBits 51 = .ok (.goto (-34), 3)) ∧ (decode cX1_quarrelBits 35 = .ok (.iload_n 2, 1)) ∧ (decode cX1_quarrelBits 36 = .ok (.aload_n 0, 1)) ∧ (decode cX1_quarrelBits 37 = .ok (.getfield 25, 3)) ∧ (decode cX1_quarrelBits 40 = .ok (.iload 4, 2)) ∧ (decode cX1_quarrelBits 42 = .ok (.aaload, 1)) ∧ (decode cX1_quarrelBits 43 = .ok (.getfield 69, 3)) := by decide +kernel
theorem dX1_quarrelBits_48 : decode cX1_quarrelBits 48 = .ok (.iinc 4 1, 3) := db_X1_quarrelBits_48.1
theorem dX1_quarrelBits_51 : decode cX1_quarrelBits 51 = .ok (.goto (-34), 3) := db_X1_quarrelBits_48.2.1
theorem dX1_quarrelBits_35 : decode cX1_quarrelBits 35 = .ok (.iload_n 2, 1) := db_X1_quarrelBits_48.2.2.1
theorem dX1_quarrelBits_36 : decode cX1_quarrelBits 36 = .ok (.aload_n 0, 1) := db_X1_quarrelBits_48.2.2.2.1
theorem dX1_quarrelBits_37 : decode cX1_quarrelBits 37 = .ok (.getfield 25, 3) := db_X1_quarrelBits_48.2.2.2.2.1
theorem dX1_quarrelBits_40 : decode cX1_quarrelBits 40 = .ok (.iload 4, 2) := db_X1_quarrelBits_48.2.2.2.2.2.1
theorem dX1_quarrelBits_42 : decode cX1_quarrelBits 42 = .ok (.aaload, 1) := db_X1_quarrelBits_48.2.2.2.2.2.2.1
theorem dX1_quarrelBits_43 : decode cX1_quarrelBits 43 = .ok (.getfield 69, 3) := db_X1_quarrelBits_48.2.2.2.2.2.2.2
set_option maxRecDepth 20000 in
theorem db_X1_quarrelBits_46 : (decode cX1_quarrelBits 46 = .ok (.ior, 1)) ∧ (decode cX1_quarrelBits 47 = .ok (.istore_n 2, 1)) := by decide +kernel
theorem dX1_quarrelBits_46 : decode cX1_quarrelBits 46 = .ok (.ior, 1) := db_X1_quarrelBits_46.1
theorem dX1_quarrelBits_47 : decode cX1_quarrelBits 47 = .ok (.istore_n 2, 1) := db_X1_quarrelBits_46.2
set_option maxRecDepth 20000 in
theorem db_X1_headOfQuarrel_0 : (decode cX1_headOfQuarrel 0 = .ok (.aload_n 0, 1)) ∧ (decode cX1_headOfQuarrel 1 = .ok (.iload_n 1, 1)) ∧ (decode cX1_headOfQuarrel 2 = .ok (.invokevirtual 72, 3)) ∧ (decode cX1_headOfQuarrel 5 = .ok (.istore_n 2, 1)) ∧ (decode cX1_headOfQuarrel 6 = .ok (.iconst 0, 1)) ∧ (decode cX1_headOfQuarrel 7 = .ok (.istore_n 3, 1)) ∧ (decode cX1_headOfQuarrel 8 = .ok (.iload_n 3, 1)) ∧ (decode cX1_headOfQuarrel 9 = .ok (.iload_n 1, 1)) := by decide +kernel
theorem dX1_headOfQuarrel_0 : decode cX1_headOfQuarrel 0 = .ok (.aload_n 0, 1) := db_X1_headOfQuarrel_0.1
theorem dX1_headOfQuarrel_1 : decode cX1_headOfQuarrel 1 = .ok (.iload_n 1, 1) := db_X1_headOfQuarrel_0.2.1
set_option maxRecDepth 20000 in
theorem ggX1_headOfQuarrel_X1_quarrelBits : GoodIn wsX1_headOfQuarrel wsX1_quarrelBits := goodIn_r _ [5, 6, 7, 8, 9, 10, 11, 12, 13, 14, 15, 16, 17, 18, 19, 20, 21, 22, 23, 24, 25, 26, 27, 28, 29] rfl (by decide +kernel)
set_option maxRecDepth 20000 in
theorem gX1_headOfQuarrel_X1_quarrelBits : GoodIn wsX1_headOfQuarrel (wsV RX1 72 RX1 yX1_quarrelBits wsX1_quarrelBits) := goodIn_app (goodIn_r _ [1, 2, 3, 4] rfl (by decide +kernel)) ggX1_headOfQuarrel_X1_quarrelBits
theorem dX1_headOfQuarrel_2 : decode cX1_headOfQuarrel 2 = .ok (.invokevirtual 72, 3) := db_X1_headOfQuarrel_0.2.2.1
theorem dX1_headOfQuarrel_5 : decode cX1_headOfQuarrel 5 = .ok (.istore_n 2, 1) := db_X1_headOfQuarrel_0.2.2.2.1
theorem dX1_headOfQuarrel_6 : decode cX1_headOfQuarrel 6 = .ok (.iconst 0, 1) := db_X1_headOfQuarrel_0.2.2.2.2.1
theorem dX1_headOfQuarrel_7 : decode cX1_headOfQuarrel 7 = .ok (.istore_n 3, 1) := db_X1_headOfQuarrel_0.2.2.2.2.2.1
theorem dX1_headOfQuarrel_8 : decode cX1_headOfQuarrel 8 = .ok (.iload_n 3, 1) := db_X1_headOfQuarrel_0.2.2.2.2.2.2.1
theorem dX1_headOfQuarrel_9 : decode cX1_headOfQuarrel 9 = .ok (.iload_n 1, 1) := db_X1_headOfQuarrel_0.2.2.2.2.2.2.2
set_option maxRecDepth 20000 in
theorem db_X1_headOfQuarrel_10 : (decode cX1_headOfQuarrel 10 = .ok (.if_icmp .ge 19, 3)) ∧ (decode cX1_headOfQuarrel 29 = .ok (.iload_n 1, 1)) ∧ (decode cX1_headOfQuarrel 30 = .ok (.ireturn, 1)) ∧ (decode cX1_headOfQuarrel 13 = .ok (.iload_n 2, 1)) ∧ (decode cX1_headOfQuarrel 14 = .ok (.iload_n 3, 1)) ∧ (decode cX1_headOfQuarrel 15 = .ok (.invokestatic 51, 3)) ∧ (decode cX1_headOfQuarrel 18 = .ok (.ifCond .eq 5, 3)) ∧ (decode cX1_headOfQuarrel 23 = .ok (.iinc 3 1, 3)) := by decide +kernel
theorem dX1_headOfQuarrel_10 : decode cX1_headOfQuarrel 10 = .ok (.if_icmp .ge 19, 3) := db_X1_headOfQuarrel_10.1
theorem dX1_headOfQuarrel_29 : decode cX1_headOfQuarrel 29 = .ok (.iload_n 1, 1) := db_X1_headOfQuarrel_10.2.1
theorem dX1_headOfQuarrel_30 : decode cX1_headOfQuarrel 30 = .ok (.ireturn, 1) := db_X1_headOfQuarrel_10.2.2.1
theorem dX1_headOfQuarrel_13 : decode cX1_headOfQuarrel 13 = .ok (.iload_n 2, 1) := db_X1_headOfQuarrel_10.2.2.2.1
theorem dX1_headOfQuarrel_14 : decode cX1_headOfQuarrel 14 = .ok (.iload_n 3, 1) := db_X1_headOfQuarrel_10.2.2.2.2.1
set_option maxRecDepth 20000 in
theorem ggX1_headOfQuarrel_X7_hasBit : GoodIn wsX1_headOfQuarrel wsX7_hasBit := goodIn_r _ [11] rfl (by decide +kernel)
set_option maxRecDepth 20000 in
theorem gX1_headOfQuarrel_X7_hasBit_n51 : GoodIn wsX1_headOfQuarrel (wsX7_hasBit) := ggX1_headOfQuarrel_X7_hasBit
theorem dX1_headOfQuarrel_15 : decode cX1_headOfQuarrel 15 = .ok (.invokestatic 51, 3) := db_X1_headOfQuarrel_10.2.2.2.2.2.1
theorem dX1_headOfQuarrel_18 : decode cX1_headOfQuarrel 18 = .ok (.ifCond .eq 5, 3) := db_X1_headOfQuarrel_10.2.2.2.2.2.2.1
theorem dX1_headOfQuarrel_23 : decode cX1_headOfQuarrel 23 = .ok (.iinc 3 1, 3) := db_X1_headOfQuarrel_10.2.2.2.2.2.2.2
set_option maxRecDepth 20000 in
theorem db_X1_headOfQuarrel_26 : (decode cX1_headOfQuarrel 26 = .ok (.goto (-18), 3)) ∧ (decode cX1_headOfQuarrel 21 = .ok (.iload_n 3, 1)) ∧ (decode cX1_headOfQuarrel 22 = .ok (.ireturn, 1)) := by decide +kernel
theorem dX1_headOfQuarrel_26 : decode cX1_headOfQuarrel 26 = .ok (.goto (-18), 3) := db_X1_headOfQuarrel_26.1
theorem dX1_headOfQuarrel_21 : decode cX1_headOfQuarrel 21 = .ok (.iload_n 3, 1) := db_X1_headOfQuarrel_26.2.1
theorem dX1_headOfQuarrel_22 : decode cX1_headOfQuarrel 22 = .ok (.ireturn, 1) := db_X1_headOfQuarrel_26.2.2
set_option maxRecDepth 20000 in
theorem db_X1_countQuarrels_0 : (decode cX1_countQuarrels 0 = .ok (.iconst 0, 1)) ∧ (decode cX1_countQuarrels 1 = .ok (.istore_n 1, 1)) ∧ (decode cX1_countQuarrels 2 = .ok (.iconst 0, 1)) ∧ (decode cX1_countQuarrels 3 = .ok (.istore_n 2, 1)) ∧ (decode cX1_countQuarrels 4 = .ok (.iload_n 2, 1)) ∧ (decode cX1_countQuarrels 5 = .ok (.aload_n 0, 1)) ∧ (decode cX1_countQuarrels 6 = .ok (.getfield 66, 3)) ∧ (decode cX1_countQuarrels 9 = .ok (.if_icmp .ge 21, 3)) := by decide +kernel
theorem dX1_countQuarrels_0 : decode cX1_countQuarrels 0 = .ok (.iconst 0, 1) := db_X1_countQuarrels_0.1
theorem dX1_countQuarrels_1 : decode cX1_countQuarrels 1 = .ok (.istore_n 1, 1) := db_X1_countQuarrels_0.2.1
theorem dX1_countQuarrels_2 : decode cX1_countQuarrels 2 = .ok (.iconst 0, 1) := db_X1_countQuarrels_0.2.2.1
theorem dX1_countQuarrels_3 : decode cX1_countQuarrels 3 = .ok (.istore_n 2, 1) := db_X1_countQuarrels_0.2.2.2.1
theorem dX1_countQuarrels_4 : decode cX1_countQuarrels 4 = .ok (.iload_n 2, 1) := db_X1_countQuarrels_0.2.2.2.2.1
theorem dX1_countQuarrels_5 : decode cX1_countQuarrels 5 = .ok (.aload_n 0, 1) := db_X1_countQuarrels_0.2.2.2.2.2.1
theorem dX1_countQuarrels_6 : decode cX1_countQuarrels 6 = .ok (.getfield 66, 3) := db_X1_countQuarrels_0.2.2.2.2.2.2.1
theorem dX1_countQuarrels_9 : decode cX1_countQuarrels 9 = .ok (.if_icmp .ge 21, 3) := db_X1_countQuarrels_0.2.2.2.2.2.2.2
set_option maxRecDepth 20000 in
theorem db_X1_countQuarrels_30 : (decode cX1_countQuarrels 30 = .ok (.iload_n 1, 1)) ∧ (decode cX1_countQuarrels 31 = .ok (.ireturn, 1)) ∧ (decode cX1_countQuarrels 12 = .ok (.aload_n 0, 1)) ∧ (decode cX1_countQuarrels 13 = .ok (.iload_n 2, 1)) ∧ (decode cX1_countQuarrels 14 = .ok (.invokevirtual 76, 3)) ∧ (decode cX1_countQuarrels 17 = .ok (.iload_n 2, 1)) ∧ (decode cX1_countQuarrels 18 = .ok (.if_icmp .ne 6, 3)) ∧ (decode cX1_countQuarrels 24 = .ok (.iinc 2 1, 3)) := by decide +kernel
theorem dX1_countQuarrels_30 : decode cX1_countQuarrels 30 = .ok (.iload_n 1, 1) := db_X1_countQuarrels_30.1
theorem dX1_countQuarrels_31 : decode cX1_countQuarrels 31 = .ok (.ireturn, 1) := db_X1_countQuarrels_30.2.1
theorem dX1_countQuarrels_12 : decode cX1_countQuarrels 12 = .ok (.aload_n 0, 1) := db_X1_countQuarrels_30.2.2.1
theorem dX1_countQuarrels_13 : decode cX1_countQuarrels 13 = .ok (.iload_n 2, 1) := db_X1_countQuarrels_30.2.2.2.1
set_option maxRecDepth 20000 in
theorem ggX1_countQuarrels_X1_headOfQuarrel : GoodIn wsX1_countQuarrels wsX1_headOfQuarrel := goodIn_r _ [6, 7, 8, 9, 5, 10, 1, 11, 12, 13, 14, 15, 16, 17, 18, 19, 20, 21, 22, 23, 24, 25, 26, 27, 28, 29, 30, 31, 32, 33] rfl (by decide +kernel)
set_option maxRecDepth 20000 in
theorem gX1_countQuarrels_X1_headOfQuarrel : GoodIn wsX1_countQuarrels (wsV RX1 76 RX1 yX1_headOfQuarrel wsX1_headOfQuarrel) := goodIn_app (goodIn_r _ [2, 3, 4, 5] rfl (by decide +kernel)) ggX1_countQuarrels_X1_headOfQuarrel
theorem dX1_countQuarrels_14 : decode cX1_countQuarrels 14 = .ok (.invokevirtual 76, 3) := db_X1_countQuarrels_30.2.2.2.2.1
theorem dX1_countQuarrels_17 : decode cX1_countQuarrels 17 = .ok (.iload_n 2, 1) := db_X1_countQuarrels_30.2.2.2.2.2.1
theorem dX1_countQuarrels_18 : decode cX1_countQuarrels 18 = .ok (.if_icmp .ne 6, 3) := db_X1_countQuarrels_30.2.2.2.2.2.2.1
theorem dX1_countQuarrels_24 : decode cX1_countQuarrels 24 = .ok (.iinc 2 1, 3) := db_X1_countQuarrels_30.2.2.2.2.2.2.2
set_option maxRecDepth 20000 in
theorem db_X1_countQuarrels_27 : (decode cX1_countQuarrels 27 = .ok (.goto (-23), 3)) ∧ (decode cX1_countQuarrels 21 = .ok (.iinc 1 1, 3)) := by decide +kernel
theorem dX1_countQuarrels_27 : decode cX1_countQuarrels 27 = .ok (.goto (-23), 3) := db_X1_countQuarrels_27.1
theorem dX1_countQuarrels_21 : decode cX1_countQuarrels 21 = .ok (.iinc 1 1, 3) := db_X1_countQuarrels_27.2
set_option maxRecDepth 20000 in
theorem db_X1_countJudged_0 : (decode cX1_countJudged 0 = .ok (.iconst 0, 1)) ∧ (decode cX1_countJudged 1 = .ok (.istore_n 2, 1)) ∧ (decode cX1_countJudged 2 = .ok (.iconst 0, 1)) ∧ (decode cX1_countJudged 3 = .ok (.istore_n 3, 1)) ∧ (decode cX1_countJudged 4 = .ok (.iload_n 3, 1)) ∧ (decode cX1_countJudged 5 = .ok (.aload_n 0, 1)) ∧ (decode cX1_countJudged 6 = .ok (.getfield 66, 3)) ∧ (decode cX1_countJudged 9 = .ok (.if_icmp .ge 50, 3)) := by decide +kernel
theorem dX1_countJudged_0 : decode cX1_countJudged 0 = .ok (.iconst 0, 1) := db_X1_countJudged_0.1
theorem dX1_countJudged_1 : decode cX1_countJudged 1 = .ok (.istore_n 2, 1) := db_X1_countJudged_0.2.1
theorem dX1_countJudged_2 : decode cX1_countJudged 2 = .ok (.iconst 0, 1) := db_X1_countJudged_0.2.2.1
theorem dX1_countJudged_3 : decode cX1_countJudged 3 = .ok (.istore_n 3, 1) := db_X1_countJudged_0.2.2.2.1
theorem dX1_countJudged_4 : decode cX1_countJudged 4 = .ok (.iload_n 3, 1) := db_X1_countJudged_0.2.2.2.2.1
theorem dX1_countJudged_5 : decode cX1_countJudged 5 = .ok (.aload_n 0, 1) := db_X1_countJudged_0.2.2.2.2.2.1
theorem dX1_countJudged_6 : decode cX1_countJudged 6 = .ok (.getfield 66, 3) := db_X1_countJudged_0.2.2.2.2.2.2.1
theorem dX1_countJudged_9 : decode cX1_countJudged 9 = .ok (.if_icmp .ge 50, 3) := db_X1_countJudged_0.2.2.2.2.2.2.2
set_option maxRecDepth 20000 in
theorem db_X1_countJudged_59 : (decode cX1_countJudged 59 = .ok (.iload_n 2, 1)) ∧ (decode cX1_countJudged 60 = .ok (.ireturn, 1)) ∧ (decode cX1_countJudged 12 = .ok (.iconst 0, 1)) ∧ (decode cX1_countJudged 13 = .ok (.istore 4, 2)) ∧ (decode cX1_countJudged 15 = .ok (.iload 4, 2)) ∧ (decode cX1_countJudged 17 = .ok (.aload_n 0, 1)) ∧ (decode cX1_countJudged 18 = .ok (.getfield 25, 3)) ∧ (decode cX1_countJudged 21 = .ok (.iload_n 3, 1)) := by decide +kernel
theorem dX1_countJudged_59 : decode cX1_countJudged 59 = .ok (.iload_n 2, 1) := db_X1_countJudged_59.1
theorem dX1_countJudged_60 : decode cX1_countJudged 60 = .ok (.ireturn, 1) := db_X1_countJudged_59.2.1
theorem dX1_countJudged_12 : decode cX1_countJudged 12 = .ok (.iconst 0, 1) := db_X1_countJudged_59.2.2.1
theorem dX1_countJudged_13 : decode cX1_countJudged 13 = .ok (.istore 4, 2) := db_X1_countJudged_59.2.2.2.1
theorem dX1_countJudged_15 : decode cX1_countJudged 15 = .ok (.iload 4, 2) := db_X1_countJudged_59.2.2.2.2.1
theorem dX1_countJudged_17 : decode cX1_countJudged 17 = .ok (.aload_n 0, 1) := db_X1_countJudged_59.2.2.2.2.2.1
theorem dX1_countJudged_18 : decode cX1_countJudged 18 = .ok (.getfield 25, 3) := db_X1_countJudged_59.2.2.2.2.2.2.1
theorem dX1_countJudged_21 : decode cX1_countJudged 21 = .ok (.iload_n 3, 1) := db_X1_countJudged_59.2.2.2.2.2.2.2
set_option maxRecDepth 20000 in
theorem db_X1_countJudged_22 : (decode cX1_countJudged 22 = .ok (.aaload, 1)) ∧ (decode cX1_countJudged 23 = .ok (.getfield 82, 3)) ∧ (decode cX1_countJudged 26 = .ok (.if_icmp .ge 27, 3)) ∧ (decode cX1_countJudged 53 = .ok (.iinc 3 1, 3)) ∧ (decode cX1_countJudged 56 = .ok (.goto (-52), 3)) ∧ (decode cX1_countJudged 29 = .ok (.aload_n 0, 1)) ∧ (decode cX1_countJudged 30 = .ok (.getfield 25, 3)) ∧ (decode cX1_countJudged 33 = .ok (.iload_n 3, 1)) := by decide +kernel
theorem dX1_countJudged_22 : decode cX1_countJudged 22 = .ok (.aaload, 1) := db_X1_countJudged_22.1
theorem dX1_countJudged_23 : decode cX1_countJudged 23 = .ok (.getfield 82, 3) := db_X1_countJudged_22.2.1
theorem dX1_countJudged_26 : decode cX1_countJudged 26 = .ok (.if_icmp .ge 27, 3) := db_X1_countJudged_22.2.2.1
theorem dX1_countJudged_53 : decode cX1_countJudged 53 = .ok (.iinc 3 1, 3) := db_X1_countJudged_22.2.2.2.1
theorem dX1_countJudged_56 : decode cX1_countJudged 56 = .ok (.goto (-52), 3) := db_X1_countJudged_22.2.2.2.2.1
theorem dX1_countJudged_29 : decode cX1_countJudged 29 = .ok (.aload_n 0, 1) := db_X1_countJudged_22.2.2.2.2.2.1
theorem dX1_countJudged_30 : decode cX1_countJudged 30 = .ok (.getfield 25, 3) := db_X1_countJudged_22.2.2.2.2.2.2.1
theorem dX1_countJudged_33 : decode cX1_countJudged 33 = .ok (.iload_n 3, 1) := db_X1_countJudged_22.2.2.2.2.2.2.2
set_option maxRecDepth 20000 in
theorem db_X1_countJudged_34 : (decode cX1_countJudged 34 = .ok (.aaload, 1)) ∧ (decode cX1_countJudged 35 = .ok (.iload 4, 2)) ∧ (decode cX1_countJudged 37 = .ok (.invokevirtual 85, 3)) ∧ (decode cX1_countJudged 40 = .ok (.iload_n 1, 1)) ∧ (decode cX1_countJudged 41 = .ok (.if_icmp .ne 6, 3)) ∧ (decode cX1_countJudged 47 = .ok (.iinc 4 1, 3)) ∧ (decode cX1_countJudged 50 = .ok (.goto (-35), 3)) ∧ (decode cX1_countJudged 44 = .ok (.iinc 2 1, 3)) := by decide +kernel
theorem dX1_countJudged_34 : decode cX1_countJudged 34 = .ok (.aaload, 1) := db_X1_countJudged_34.1
theorem dX1_countJudged_35 : decode cX1_countJudged 35 = .ok (.iload 4, 2) := db_X1_countJudged_34.2.1
set_option maxRecDepth 20000 in
theorem ggX1_countJudged_X0_judge : GoodIn wsX1_countJudged wsX0_judge := goodIn_r _ [8, 9, 10, 11, 12, 13, 14, 15, 23, 24, 25, 26, 27, 28, 29, 30, 31, 32, 33, 34, 35, 36, 37, 38] rfl (by decide +kernel)
set_option maxRecDepth 20000 in
theorem gX1_countJudged_X0_judge : GoodIn wsX1_countJudged (wsV RX1 85 RX0 yX0_judge wsX0_judge) := goodIn_app (goodIn_r _ [4, 5, 6, 7] rfl (by decide +kernel)) ggX1_countJudged_X0_judge
theorem dX1_countJudged_37 : decode cX1_countJudged 37 = .ok (.invokevirtual 85, 3) := db_X1_countJudged_34.2.2.1
theorem dX1_countJudged_40 : decode cX1_countJudged 40 = .ok (.iload_n 1, 1) := db_X1_countJudged_34.2.2.2.1
theorem dX1_countJudged_41 : decode cX1_countJudged 41 = .ok (.if_icmp .ne 6, 3) := db_X1_countJudged_34.2.2.2.2.1
theorem dX1_countJudged_47 : decode cX1_countJudged 47 = .ok (.iinc 4 1, 3) := db_X1_countJudged_34.2.2.2.2.2.1
theorem dX1_countJudged_50 : decode cX1_countJudged 50 = .ok (.goto (-35), 3) := db_X1_countJudged_34.2.2.2.2.2.2.1
theorem dX1_countJudged_44 : decode cX1_countJudged 44 = .ok (.iinc 2 1, 3) := db_X1_countJudged_34.2.2.2.2.2.2.2
set_option maxHeartbeats 4000000 in
set_option maxRecDepth 100000 in
theorem c_bitCount (l : Launch) (x0 : Int32) : Met l yJ6_bitCount_0f7a4 wsJ6_bitCount_0f7a4 ({ frames := 0, cells := 0, slots := 0, locals := 0 }) (va_Pc [.int x0] (fun _ => True)) (va_Qi (fun (r : Int32) (_ : Unit) => True) (fun _ _ => True) (fun _ => False)) 0 0 (fun _ => False) := by
  refine Met.ofW (cc := cJ6_bitCount_0f7a4) (maxL := 1) (ret := (some .int)) (by decide) rfl ?_
  intro p e s m args below meth c s₁ B hml hv
  obtain ⟨rfl, -⟩ := hv
  have hx := B.exec
  have hb := B.bytes
  have hr := B.returns
  have hts := atoms_spec (ws := wsJ6_bitCount_0f7a4) B.pre
  have hown : s.vm.findClass RJ6 = some m.cls := findClass_of_methodNamed B.named
  have hlocks := B.notSynchronized
  have hl := lv_entry ([.int x0]) (n := 1) (Nat.le_of_ble_eq_true rfl)
  rw [lg_entry_eq]
  generalize (lg_sl ([.int x0]) ++ List.replicate (1 - (lg_sl ([.int x0])).length) Slot.unset).toArray = ls at hl ⊢
  have hl : lv_has ls 1 [(0, .int x0)] := hl
  have hS : va_S (fun _ => False) s.heap s.heap [] := va_S.rf
  refine lv_iload_n hx hb dJ6_bitCount_0f7a4_0 rfl (lv_at hl 0 rfl) ?_
  refine lv_iload_n hx hb dJ6_bitCount_0f7a4_1 rfl (lv_at hl 0 rfl) ?_
  refine lv_iconst (v := 1) hx hb dJ6_bitCount_0f7a4_2 (by decide) ?_
  refine lv_iushr (v := _) hx hb dJ6_bitCount_0f7a4_3 rfl ?_
  refine lv_topi (fun x_1 ex_1 => ?_)
  refine lv_ldcw hx hb hown (hts (.constant RJ6 265 (1431655765)) fwJ6_bitCount_0f7a4_1) dJ6_bitCount_0f7a4_4 ?_
  refine lv_iand hx hb dJ6_bitCount_0f7a4_7 ?_
  refine lv_topi (fun x_2 ex_2 => ?_)
  refine lv_isub hx hb dJ6_bitCount_0f7a4_8 ?_
  refine lv_topi (fun x_3 ex_3 => ?_)
  refine lv_istore_n (lv' := [(0, .int x_3)]) hx hb dJ6_bitCount_0f7a4_9 rfl hl (by decide) rfl (fun ls hl => ?_)
  refine lv_iload_n hx hb dJ6_bitCount_0f7a4_10 rfl (lv_at hl 0 rfl) ?_
  refine lv_ldcw hx hb hown (hts (.constant RJ6 266 (858993459)) fwJ6_bitCount_0f7a4_2) dJ6_bitCount_0f7a4_11 ?_
  refine lv_iand hx hb dJ6_bitCount_0f7a4_14 ?_
  refine lv_topi (fun x_4 ex_4 => ?_)
  refine lv_iload_n hx hb dJ6_bitCount_0f7a4_15 rfl (lv_at hl 0 rfl) ?_
  refine lv_iconst (v := 2) hx hb dJ6_bitCount_0f7a4_16 (by decide) ?_
  refine lv_iushr (v := _) hx hb dJ6_bitCount_0f7a4_17 rfl ?_
  refine lv_topi (fun x_5 ex_5 => ?_)
  refine lv_ldcw hx hb hown (hts (.constant RJ6 266 (858993459)) fwJ6_bitCount_0f7a4_2) dJ6_bitCount_0f7a4_18 ?_
  refine lv_iand hx hb dJ6_bitCount_0f7a4_21 ?_
  refine lv_topi (fun x_6 ex_6 => ?_)
  refine lv_iadd hx hb dJ6_bitCount_0f7a4_22 ?_
  refine lv_topi (fun x_7 ex_7 => ?_)
  refine lv_istore_n (lv' := [(0, .int x_7)]) hx hb dJ6_bitCount_0f7a4_23 rfl hl (by decide) rfl (fun ls hl => ?_)
  refine lv_iload_n hx hb dJ6_bitCount_0f7a4_24 rfl (lv_at hl 0 rfl) ?_
  refine lv_iload_n hx hb dJ6_bitCount_0f7a4_25 rfl (lv_at hl 0 rfl) ?_
  refine lv_iconst (v := 4) hx hb dJ6_bitCount_0f7a4_26 (by decide) ?_
  refine lv_iushr (v := _) hx hb dJ6_bitCount_0f7a4_27 rfl ?_
  refine lv_topi (fun x_8 ex_8 => ?_)
  refine lv_iadd hx hb dJ6_bitCount_0f7a4_28 ?_
  refine lv_topi (fun x_9 ex_9 => ?_)
  refine lv_ldcw hx hb hown (hts (.constant RJ6 267 (252645135)) fwJ6_bitCount_0f7a4_3) dJ6_bitCount_0f7a4_29 ?_
  refine lv_iand hx hb dJ6_bitCount_0f7a4_32 ?_
  refine lv_topi (fun x_10 ex_10 => ?_)
  refine lv_istore_n (lv' := [(0, .int x_10)]) hx hb dJ6_bitCount_0f7a4_33 rfl hl (by decide) rfl (fun ls hl => ?_)
  refine lv_iload_n hx hb dJ6_bitCount_0f7a4_34 rfl (lv_at hl 0 rfl) ?_
  refine lv_iload_n hx hb dJ6_bitCount_0f7a4_35 rfl (lv_at hl 0 rfl) ?_
  refine lv_bipush (v := 8) hx hb dJ6_bitCount_0f7a4_36 (by decide) ?_
  refine lv_iushr (v := _) hx hb dJ6_bitCount_0f7a4_38 rfl ?_
  refine lv_topi (fun x_11 ex_11 => ?_)
  refine lv_iadd hx hb dJ6_bitCount_0f7a4_39 ?_
  refine lv_topi (fun x_12 ex_12 => ?_)
  refine lv_istore_n (lv' := [(0, .int x_12)]) hx hb dJ6_bitCount_0f7a4_40 rfl hl (by decide) rfl (fun ls hl => ?_)
  refine lv_iload_n hx hb dJ6_bitCount_0f7a4_41 rfl (lv_at hl 0 rfl) ?_
  refine lv_iload_n hx hb dJ6_bitCount_0f7a4_42 rfl (lv_at hl 0 rfl) ?_
  refine lv_bipush (v := 16) hx hb dJ6_bitCount_0f7a4_43 (by decide) ?_
  refine lv_iushr (v := _) hx hb dJ6_bitCount_0f7a4_45 rfl ?_
  refine lv_topi (fun x_13 ex_13 => ?_)
  refine lv_iadd hx hb dJ6_bitCount_0f7a4_46 ?_
  refine lv_topi (fun x_14 ex_14 => ?_)
  refine lv_istore_n (lv' := [(0, .int x_14)]) hx hb dJ6_bitCount_0f7a4_47 rfl hl (by decide) rfl (fun ls hl => ?_)
  refine lv_iload_n hx hb dJ6_bitCount_0f7a4_48 rfl (lv_at hl 0 rfl) ?_
  refine lv_bipush (v := 63) hx hb dJ6_bitCount_0f7a4_49 (by decide) ?_
  refine lv_iand hx hb dJ6_bitCount_0f7a4_51 ?_
  refine lv_topi (fun x_15 ex_15 => ?_)
  exact W.iret (v := x_15) hx hb hr (fun t ht hW => ⟨⟨x_15, (), rfl, trivial, trivial⟩, hS.F ht⟩) hS.2.2 dJ6_bitCount_0f7a4_52

set_option maxHeartbeats 4000000 in
set_option maxRecDepth 100000 in
theorem g_X0_judge (l : Launch) (dC : Nat → ClassId) (dI : Nat → Nat → Nat) (cy : Nat → ClassId) (sz : Nat) (ad : Nat → Nat) (kv : Value) (N : Nat) (hN : 119 ≤ N) (v : Nat → Nat → Int32) (hv : Iv v) (i : Nat) (hi : i < 6) (x0 : Int32) (hs : 0 ≤ x0.toInt ∧ x0.toInt ≤ 4) : Met l yX0_judge wsX0_judge ({ frames := 1, cells := 0, slots := 0, locals := 64 }) (va_Pc [.ref (ad (29 + 15 * i)), .int x0] (ex_Pre dC dI cy sz (wl ad kv cy N v))) (va_Qi (fun (r : Int32) (u : Nat → Nat → Int32) => Iv u ∧ Fz v u) (fun u t => ex_Pst dC dI (va_A (wl ad kv cy N v) sz) (wl ad kv cy N u) t) (va_A (wl ad kv cy N v) sz)) 0 0 (va_A (wl ad kv cy N v) sz) := by
  refine Met.ofW (cc := cX0_judge) (maxL := 6) (ret := (some .int)) (by decide) rfl ?_
  intro p e s m args below meth c s₁ B hml hv
  obtain ⟨rfl, hsz, hE, hP, hK, hD0⟩ := hv
  have hx := B.exec
  have hb := B.bytes
  have hr := B.returns
  have hts := atoms_spec (ws := wsX0_judge) B.pre
  have hown : s.vm.findClass RX0 = some m.cls := findClass_of_methodNamed B.named
  have hlocks := B.notSynchronized
  subst hsz
  have hD := hD0.self (sz := s.heap.size)
  generalize hAe : va_A (wl ad kv cy N v) s.heap.size = A at hD ⊢
  have hA : ∀ q : Nat, s.heap.size ≤ q → A q := fun q h => by rw [← hAe]; exact Or.inr h
  have hS : va_S A s.heap s.heap [] := va_S.rf
  have hP : va_P (dC, dI) vwCl (wl ad kv cy N v) s.heap := hP
  have hl := lv_entry ([.ref (ad (29 + 15 * i)), .int x0]) (n := 6) (Nat.le_of_ble_eq_true rfl)
  rw [lg_entry_eq]
  generalize (lg_sl ([.ref (ad (29 + 15 * i)), .int x0]) ++ List.replicate (6 - (lg_sl ([.ref (ad (29 + 15 * i)), .int x0])).length) Slot.unset).toArray = ls at hl ⊢
  have hl : lv_has ls 6 [(0, .ref (ad (29 + 15 * i))), (1, .int x0)] := hl
  have hfr : Fz v v := Fz.rf
  refine lv_aload_n hx hb dX0_judge_0 rfl (lv_at hl 0 rfl) ?_
  refine va_get (D := (dC, dI)) (ci := 0) (v := .ref (ad (29 + 15 * i + 9))) (C := RX0) (T := TX0) (N := 11) hx hb hts iwX0_judge_X0 hown hK hP (29 + 15 * i) (wl_at (by omega) (ce_9 (kd_c i hi).1.1)) rfl 10 (by decide) (hts (.fieldLink RX0 28 "QuietStairs$Case" "terms" "[LQuietStairs$Term;") fwX0_judge_1) (fun _ h9 => h9) rfl dX0_judge_1 ?_
  refine W.eq (g2 := F0 m 4 ls [.ref (ad (38 + 15 * i))]) (by rw [show 29 + 15 * i + 9 = 38 + 15 * i from by omega]) ?_
  refine lv_iload_n hx hb dX0_judge_4 rfl (lv_at hl 1 rfl) ?_
  obtain ⟨pi1, i1, hi1, ni1, mi1⟩ := t_in (x := x0) (n := 5) ⟨by omega, by omega⟩
  refine va_aldq hx hb hK hP (38 + 15 * i) 4 (wl_at (by omega) (ce_15 (kd_c i hi).1.2.2.2.2.2)) rfl pi1 dX0_judge_5 ?_
  refine W.eq (g2 := F0 m 6 ls [.ref (ad (39 + 15 * i + i1))]) (by rw [ni1, if_pos hi1, show 38 + 15 * i + 1 + i1 = 39 + 15 * i + i1 from by omega]; rfl) ?_
  refine lv_astore_n (lv' := [(2, .ref (ad (39 + 15 * i + i1))), (0, .ref (ad (29 + 15 * i))), (1, .int x0)]) hx hb dX0_judge_6 rfl hl (by decide) rfl (fun ls hl => ?_)
  refine lv_iconst (v := 1) hx hb dX0_judge_7 (by decide) ?_
  refine lv_istore_n (lv' := [(3, .int 1), (2, .ref (ad (39 + 15 * i + i1))), (0, .ref (ad (29 + 15 * i))), (1, .int x0)]) hx hb dX0_judge_8 rfl hl (by decide) rfl (fun ls hl => ?_)
  refine lv_aload_n hx hb dX0_judge_9 rfl (lv_at hl 1 rfl) ?_
  refine va_get (D := (dC, dI)) (ci := 6) (v := .int (v (39 + 15 * i + i1) 3)) (C := RX6) (T := TX6) (N := 5) hx hb hts iwX0_judge_X6 hown hK hP (39 + 15 * i + i1) (wl_at (by omega) (ce_16 (kd_t i hi i1 hi1).1)) rfl 3 (by decide) (hts (.fieldLink RX0 65 "QuietStairs$Term" "first" "I") fwX0_judge_2) (fun _ h9 => h9) rfl dX0_judge_10 ?_
  refine lv_topi (fun x_2 ex_2 => ?_)
  have bx_2 : 0 ≤ x_2.toInt ∧ x_2.toInt ≤ 23 := by rw [ex_2]; exact hv.at (K := 16) (kd_t i hi i1 hi1).1 rfl
  refine lv_istore (lv' := [(4, .int x_2), (3, .int 1), (2, .ref (ad (39 + 15 * i + i1))), (0, .ref (ad (29 + 15 * i))), (1, .int x0)]) hx hb dX0_judge_13 hl (by decide) rfl (fun ls hl => ?_)
  have k_1 : (1 : Int32).toInt = 1 := by decide
  have hloop_3 : ∀ (n : Nat) (y3_4 y3_3 : Int32) (u3 : Nat → Nat → Int32) (H : Heap) (locs : List Loc), 0 ≤ y3_4.toInt → y3_4.toInt ≤ 24 → (24 - y3_4.toInt).toNat < n → Iv u3 → Fz v u3 → va_P (dC, dI) vwCl (wl ad kv cy N u3) H → va_D A (wl ad kv cy N u3) → va_S A s.heap H locs → ∀ ls : Array Slot, lv_has ls 6 [(4, .int y3_4), (3, .int y3_3), (2, .ref (ad (39 + 15 * i + i1))), (0, .ref (ad (29 + 15 * i))), (1, .int x0)] → W p l e (headSpec wsX0_judge ({ frames := 1, cells := 0, slots := 0, locals := 64 })).room s m [Value.ref (ad (29 + 15 * i)), Value.int x0].toArray below meth c H locs 0 0 (MQ below (va_Qi (fun (r : Int32) (u : Nat → Nat → Int32) => Iv u ∧ Fz v u) (fun u t => ex_Pst dC dI A (wl ad kv cy N u) t) A) [Value.ref (ad (29 + 15 * i)), Value.int x0].toArray s 0 0 A) (F0 m 15 ls []) := by
    intro n
    induction n with
    | zero =>
      intro y3_4 y3_3 u3 H locs ay3_4 by3_4 hm_3 hv hfr hP hD hS ls hl
      exact absurd hm_3 (by omega)
    | succ n ih_3 =>
      intro y3_4 y3_3 u3 H locs ay3_4 by3_4 hm_3 hv hfr hP hD hS ls hl
      refine lv_iload hx hb dX0_judge_15 (lv_at hl 0 rfl) ?_
      refine lv_aload_n hx hb dX0_judge_17 rfl (lv_at hl 2 rfl) ?_
      refine va_get (D := (dC, dI)) (ci := 6) (v := .int (u3 (39 + 15 * i + i1) 4)) (C := RX6) (T := TX6) (N := 5) hx hb hts iwX0_judge_X6 hown hK hP (39 + 15 * i + i1) (wl_at (by omega) (ce_16 (kd_t i hi i1 hi1).1)) rfl 4 (by decide) (hts (.fieldLink RX0 68 "QuietStairs$Term" "last" "I") fwX0_judge_3) (fun _ h9 => h9) rfl dX0_judge_18 ?_
      refine lv_topi (fun x_4 ex_4 => ?_)
      have bx_4 : 0 ≤ x_4.toInt ∧ x_4.toInt ≤ 23 := by rw [ex_4]; exact hv.at (K := 16) (kd_t i hi i1 hi1).1 rfl
      refine lv_icmp_gt (tgt := 75) hx hb dX0_judge_21 (by decide) (fun c_5 => ?_) (fun c_5 => ?_)
      · have tc_5 : y3_4.toInt > x_4.toInt := Int32.lt_iff_toInt_lt.mp c_5
        refine lv_iload_n hx hb dX0_judge_75 rfl (lv_at hl 1 rfl) ?_
        have k_0 : (0 : Int32).toInt = 0 := by decide
        refine lv_if_ne (tgt := 81) hx hb dX0_judge_76 (by decide) (fun c_6 => ?_) (fun c_6 => ?_)
        · have tc_6 : y3_3.toInt ≠ (0 : Int32).toInt := fun q => absurd (Int32.toInt_inj.mp q) c_6
          refine lv_aload_n hx hb dX0_judge_81 rfl (lv_at hl 2 rfl) ?_
          refine va_get (D := (dC, dI)) (ci := 6) (v := .int (u3 (39 + 15 * i + i1) 1)) (C := RX6) (T := TX6) (N := 5) hx hb hts iwX0_judge_X6 hown hK hP (39 + 15 * i + i1) (wl_at (by omega) (ce_16 (kd_t i hi i1 hi1).1)) rfl 1 (by decide) (hts (.fieldLink RX0 77 "QuietStairs$Term" "must" "Z") fwX0_judge_7) (fun _ h9 => h9) rfl dX0_judge_82 ?_
          refine lv_topi (fun x_7 ex_7 => ?_)
          have bx_7 : 0 ≤ x_7.toInt ∧ x_7.toInt ≤ 1 := by rw [ex_7]; exact hv.at (K := 16) (kd_t i hi i1 hi1).1 rfl
          refine lv_if_eq (tgt := 92) hx hb dX0_judge_85 (by decide) (fun c_8 => ?_) (fun c_8 => ?_)
          · have tc_8 : x_7.toInt = (0 : Int32).toInt := by rw [c_8]
            refine lv_iconst (v := 1) hx hb dX0_judge_92 (by decide) ?_
            exact W.iret (v := 1) hx hb hr (fun t ht hW => ⟨⟨1, u3, rfl, ⟨hv, hfr⟩, by rw [ht]; exact hP, hD⟩, hS.F ht⟩) hS.2.2 dX0_judge_93
          · have tc_8 : x_7.toInt ≠ (0 : Int32).toInt := fun q => absurd (Int32.toInt_inj.mp q) c_8
            refine lv_iconst (v := 0) hx hb dX0_judge_88 (by decide) ?_
            refine lv_goto (tgt := 93) hx hb dX0_judge_89 (by decide) ?_
            exact W.iret (v := 0) hx hb hr (fun t ht hW => ⟨⟨0, u3, rfl, ⟨hv, hfr⟩, by rw [ht]; exact hP, hD⟩, hS.F ht⟩) hS.2.2 dX0_judge_93
        · have tc_6 : y3_3.toInt = (0 : Int32).toInt := by rw [c_6]
          refine lv_iconst (v := 2) hx hb dX0_judge_79 (by decide) ?_
          exact W.iret (v := 2) hx hb hr (fun t ht hW => ⟨⟨2, u3, rfl, ⟨hv, hfr⟩, by rw [ht]; exact hP, hD⟩, hS.F ht⟩) hS.2.2 dX0_judge_80
      · have tc_5 : y3_4.toInt ≤ x_4.toInt := Int32.le_iff_toInt_le.mp (Int32.not_lt.mp c_5)
        refine lv_aload_n hx hb dX0_judge_24 rfl (lv_at hl 3 rfl) ?_
        refine va_get (D := (dC, dI)) (ci := 0) (v := .ref (ad (29 + 15 * i + 6))) (C := RX0) (T := TX0) (N := 11) hx hb hts iwX0_judge_X0 hown hK hP (29 + 15 * i) (wl_at (by omega) (ce_9 (kd_c i hi).1.1)) rfl 9 (by decide) (hts (.fieldLink RX0 23 "QuietStairs$Case" "logs" "[[I") fwX0_judge_4) (fun _ h9 => h9) rfl dX0_judge_25 ?_
        refine W.eq (g2 := F0 m 28 ls [.ref (ad (35 + 15 * i))]) (by rw [show 29 + 15 * i + 6 = 35 + 15 * i from by omega]) ?_
        refine lv_aload_n hx hb dX0_judge_28 rfl (lv_at hl 2 rfl) ?_
        refine va_get (D := (dC, dI)) (ci := 6) (v := .int (u3 (39 + 15 * i + i1) 0)) (C := RX6) (T := TX6) (N := 5) hx hb hts iwX0_judge_X6 hown hK hP (39 + 15 * i + i1) (wl_at (by omega) (ce_16 (kd_t i hi i1 hi1).1)) rfl 0 (by decide) (hts (.fieldLink RX0 71 "QuietStairs$Term" "side" "I") fwX0_judge_5) (fun _ h9 => h9) rfl dX0_judge_29 ?_
        refine lv_topi (fun x_6 ex_6 => ?_)
        have bx_6 : 0 ≤ x_6.toInt ∧ x_6.toInt ≤ 1 := by rw [ex_6]; exact hv.at (K := 16) (kd_t i hi i1 hi1).1 rfl
        obtain ⟨pi7, i7, hi7, ni7, mi7⟩ := t_in (x := x_6) (n := 2) ⟨by omega, by omega⟩
        refine ya_ald hx hb hK hP (35 + 15 * i) (wl_at (by omega) (ce_13 (kd_c i hi).1.2.2.2.2.1)) pi7 dX0_judge_32 ?_
        refine W.eq (g2 := F0 m 33 ls [.ref (ad (36 + 15 * i + i7))]) (by rw [ni7, if_pos hi7, show 35 + 15 * i + 1 + i7 = 36 + 15 * i + i7 from by omega]; rfl) ?_
        refine lv_iload hx hb dX0_judge_33 (lv_at hl 0 rfl) ?_
        obtain ⟨pi8, i8, hi8, ni8, mi8⟩ := t_in (x := y3_4) (n := 24) ⟨by omega, by omega⟩
        refine va_iald hx hb hK hP (36 + 15 * i + i7) 0 (wl_at (by omega) (ce_14 (kd_o i hi i7 hi7).1.2)) rfl pi8 dX0_judge_35 ?_
        refine lv_topi (fun x_9 ex_9 => ?_)
        refine lv_istore (lv' := [(5, .int x_9), (4, .int y3_4), (3, .int y3_3), (2, .ref (ad (39 + 15 * i + i1))), (0, .ref (ad (29 + 15 * i))), (1, .int x0)]) hx hb dX0_judge_36 hl (by decide) rfl (fun ls hl => ?_)
        refine lv_iload hx hb dX0_judge_38 (lv_at hl 0 rfl) ?_
        refine lv_aload_n hx hb dX0_judge_40 rfl (lv_at hl 3 rfl) ?_
        refine va_get (D := (dC, dI)) (ci := 6) (v := .int (u3 (39 + 15 * i + i1) 2)) (C := RX6) (T := TX6) (N := 5) hx hb hts iwX0_judge_X6 hown hK hP (39 + 15 * i + i1) (wl_at (by omega) (ce_16 (kd_t i hi i1 hi1).1)) rfl 2 (by decide) (hts (.fieldLink RX0 74 "QuietStairs$Term" "act" "I") fwX0_judge_6) (fun _ h9 => h9) rfl dX0_judge_41 ?_
        refine lv_topi (fun x_10 ex_10 => ?_)
        refine lv_icmp_ne (tgt := 60) hx hb dX0_judge_44 (by decide) (fun c_11 => ?_) (fun c_11 => ?_)
        · have tc_11 : x_9.toInt ≠ x_10.toInt := fun q => absurd (Int32.toInt_inj.mp q) c_11
          refine lv_iload hx hb dX0_judge_60 (lv_at hl 0 rfl) ?_
          refine lv_bipush (v := 7) hx hb dX0_judge_62 (by decide) ?_
          have k_7 : (7 : Int32).toInt = 7 := by decide
          refine lv_icmp_ne (tgt := 69) hx hb dX0_judge_64 (by decide) (fun c_12 => ?_) (fun c_12 => ?_)
          · have tc_12 : x_9.toInt ≠ (7 : Int32).toInt := fun q => absurd (Int32.toInt_inj.mp q) c_12
            obtain ⟨x_13, ex_13⟩ : ∃ y : Int32, y = y3_4 + 1 := ⟨_, rfl⟩
            refine lv_iinc (v := x_13) (lv' := [(4, .int x_13), (5, .int x_9), (3, .int y3_3), (2, .ref (ad (39 + 15 * i + i1))), (0, .ref (ad (29 + 15 * i))), (1, .int x0)]) hx hb dX0_judge_69 hl (k := 1) rfl (by rw [ex_13]; rfl) (by decide) rfl (fun ls hl => ?_)
            have tx_13 : x_13.toInt = y3_4.toInt + (1 : Int32).toInt := by rw [ex_13]; exact t_add ⟨by omega, by omega⟩
            refine lv_goto (tgt := 15) hx hb dX0_judge_72 (by decide) ?_
            exact ih_3 x_13 y3_3 u3 H locs (by omega) (by omega) (by omega) hv hfr hP hD hS ls (lv_sub hl [0, 2, 3, 4, 5] rfl)
          · have tc_12 : x_9.toInt = (7 : Int32).toInt := by rw [c_12]
            refine lv_iconst (v := 0) hx hb dX0_judge_67 (by decide) ?_
            refine lv_istore_n (lv' := [(3, .int 0), (5, .int x_9), (4, .int y3_4), (2, .ref (ad (39 + 15 * i + i1))), (0, .ref (ad (29 + 15 * i))), (1, .int x0)]) hx hb dX0_judge_68 rfl hl (by decide) rfl (fun ls hl => ?_)
            obtain ⟨x_13, ex_13⟩ : ∃ y : Int32, y = y3_4 + 1 := ⟨_, rfl⟩
            refine lv_iinc (v := x_13) (lv' := [(4, .int x_13), (3, .int 0), (5, .int x_9), (2, .ref (ad (39 + 15 * i + i1))), (0, .ref (ad (29 + 15 * i))), (1, .int x0)]) hx hb dX0_judge_69 hl (k := 2) rfl (by rw [ex_13]; rfl) (by decide) rfl (fun ls hl => ?_)
            have tx_13 : x_13.toInt = y3_4.toInt + (1 : Int32).toInt := by rw [ex_13]; exact t_add ⟨by omega, by omega⟩
            refine lv_goto (tgt := 15) hx hb dX0_judge_72 (by decide) ?_
            have k_0 : (0 : Int32).toInt = 0 := by decide
            exact ih_3 x_13 0 u3 H locs (by omega) (by omega) (by omega) hv hfr hP hD hS ls (lv_sub hl [0, 1, 3, 4, 5] rfl)
        · have tc_11 : x_9.toInt = x_10.toInt := by rw [c_11]
          refine lv_aload_n hx hb dX0_judge_47 rfl (lv_at hl 3 rfl) ?_
          refine va_get (D := (dC, dI)) (ci := 6) (v := .int (u3 (39 + 15 * i + i1) 1)) (C := RX6) (T := TX6) (N := 5) hx hb hts iwX0_judge_X6 hown hK hP (39 + 15 * i + i1) (wl_at (by omega) (ce_16 (kd_t i hi i1 hi1).1)) rfl 1 (by decide) (hts (.fieldLink RX0 77 "QuietStairs$Term" "must" "Z") fwX0_judge_7) (fun _ h9 => h9) rfl dX0_judge_48 ?_
          refine lv_topi (fun x_12 ex_12 => ?_)
          have bx_12 : 0 ≤ x_12.toInt ∧ x_12.toInt ≤ 1 := by rw [ex_12]; exact hv.at (K := 16) (kd_t i hi i1 hi1).1 rfl
          have k_0 : (0 : Int32).toInt = 0 := by decide
          refine lv_if_eq (tgt := 58) hx hb dX0_judge_51 (by decide) (fun c_13 => ?_) (fun c_13 => ?_)
          · have tc_13 : x_12.toInt = (0 : Int32).toInt := by rw [c_13]
            refine lv_iconst (v := 0) hx hb dX0_judge_58 (by decide) ?_
            exact W.iret (v := 0) hx hb hr (fun t ht hW => ⟨⟨0, u3, rfl, ⟨hv, hfr⟩, by rw [ht]; exact hP, hD⟩, hS.F ht⟩) hS.2.2 dX0_judge_59
          · have tc_13 : x_12.toInt ≠ (0 : Int32).toInt := fun q => absurd (Int32.toInt_inj.mp q) c_13
            refine lv_iconst (v := 1) hx hb dX0_judge_54 (by decide) ?_
            refine lv_goto (tgt := 59) hx hb dX0_judge_55 (by decide) ?_
            exact W.iret (v := 1) hx hb hr (fun t ht hW => ⟨⟨1, u3, rfl, ⟨hv, hfr⟩, by rw [ht]; exact hP, hD⟩, hS.F ht⟩) hS.2.2 dX0_judge_59
  exact hloop_3 ((24 - (x_2 : Int32).toInt).toNat + 1) x_2 1 v _ _ (by omega) (by omega) (by omega) hv hfr hP hD hS ls hl

set_option maxHeartbeats 4000000 in
set_option maxRecDepth 100000 in
theorem g_X1_quarrelBits (l : Launch) (dC : Nat → ClassId) (dI : Nat → Nat → Nat) (cy : Nat → ClassId) (sz : Nat) (ad : Nat → Nat) (kv : Value) (N : Nat) (hN : 119 ≤ N) (v : Nat → Nat → Int32) (hv : Iv v)  (x0 : Int32) : Met l yX1_quarrelBits wsX1_quarrelBits ({ frames := 1, cells := 0, slots := 0, locals := 64 }) (va_Pc [.ref (ad 13), .int x0] (ex_Pre dC dI cy sz (wl ad kv cy N v))) (va_Qi (fun (r : Int32) (u : Nat → Nat → Int32) => Iv u ∧ Fz v u) (fun u t => ex_Pst dC dI (va_A (wl ad kv cy N v) sz) (wl ad kv cy N u) t) (va_A (wl ad kv cy N v) sz)) 0 0 (va_A (wl ad kv cy N v) sz) := by
  refine Met.ofW (cc := cX1_quarrelBits) (maxL := 5) (ret := (some .int)) (by decide) rfl ?_
  intro p e s m args below meth c s₁ B hml hv
  obtain ⟨rfl, hsz, hE, hP, hK, hD0⟩ := hv
  have hx := B.exec
  have hb := B.bytes
  have hr := B.returns
  have hts := atoms_spec (ws := wsX1_quarrelBits) B.pre
  have hown : s.vm.findClass RX1 = some m.cls := findClass_of_methodNamed B.named
  have hlocks := B.notSynchronized
  subst hsz
  have hD := hD0.self (sz := s.heap.size)
  generalize hAe : va_A (wl ad kv cy N v) s.heap.size = A at hD ⊢
  have hA : ∀ q : Nat, s.heap.size ≤ q → A q := fun q h => by rw [← hAe]; exact Or.inr h
  have hS : va_S A s.heap s.heap [] := va_S.rf
  have hP : va_P (dC, dI) vwCl (wl ad kv cy N v) s.heap := hP
  have hl := lv_entry ([.ref (ad 13), .int x0]) (n := 5) (Nat.le_of_ble_eq_true rfl)
  rw [lg_entry_eq]
  generalize (lg_sl ([.ref (ad 13), .int x0]) ++ List.replicate (5 - (lg_sl ([.ref (ad 13), .int x0])).length) Slot.unset).toArray = ls at hl ⊢
  have hl : lv_has ls 5 [(0, .ref (ad 13)), (1, .int x0)] := hl
  have hfr : Fz v v := Fz.rf
  refine lv_iconst (v := 1) hx hb dX1_quarrelBits_0 (by decide) ?_
  refine lv_iload_n hx hb dX1_quarrelBits_1 rfl (lv_at hl 1 rfl) ?_
  refine lv_ishl hx hb dX1_quarrelBits_2 ?_
  refine lv_topi (fun x_1 ex_1 => ?_)
  refine lv_istore_n (lv' := [(2, .int x_1), (0, .ref (ad 13)), (1, .int x0)]) hx hb dX1_quarrelBits_3 rfl hl (by decide) rfl (fun ls hl => ?_)
  refine lv_iconst (v := 1) hx hb dX1_quarrelBits_4 (by decide) ?_
  refine lv_istore_n (lv' := [(3, .int 1), (2, .int x_1), (0, .ref (ad 13)), (1, .int x0)]) hx hb dX1_quarrelBits_5 rfl hl (by decide) rfl (fun ls hl => ?_)
  have k_1 : (1 : Int32).toInt = 1 := by decide
  have hloop_2 : ∀ (n : Nat) (y2_3 y2_2 : Int32) (u2 : Nat → Nat → Int32) (H : Heap) (locs : List Loc), 1 ≤ y2_3.toInt → y2_3.toInt ≤ 6 → (6 - y2_3.toInt).toNat < n → Iv u2 → Fz v u2 → va_P (dC, dI) vwCl (wl ad kv cy N u2) H → va_D A (wl ad kv cy N u2) → va_S A s.heap H locs → ∀ ls : Array Slot, lv_has ls 5 [(3, .int y2_3), (2, .int y2_2), (0, .ref (ad 13)), (1, .int x0)] → W p l e (headSpec wsX1_quarrelBits ({ frames := 1, cells := 0, slots := 0, locals := 64 })).room s m [Value.ref (ad 13), Value.int x0].toArray below meth c H locs 0 0 (MQ below (va_Qi (fun (r : Int32) (u : Nat → Nat → Int32) => Iv u ∧ Fz v u) (fun u t => ex_Pst dC dI A (wl ad kv cy N u) t) A) [Value.ref (ad 13), Value.int x0].toArray s 0 0 A) (F0 m 6 ls []) := by
    intro n
    induction n with
    | zero =>
      intro y2_3 y2_2 u2 H locs ay2_3 by2_3 hm_2 hv hfr hP hD hS ls hl
      exact absurd hm_2 (by omega)
    | succ n ih_2 =>
      intro y2_3 y2_2 u2 H locs ay2_3 by2_3 hm_2 hv hfr hP hD hS ls hl
      refine lv_iload_n hx hb dX1_quarrelBits_6 rfl (lv_at hl 0 rfl) ?_
      refine lv_aload_n hx hb dX1_quarrelBits_7 rfl (lv_at hl 2 rfl) ?_
      refine va_get (D := (dC, dI)) (ci := 1) (v := .int (u2 (13) 2)) (C := RX1) (T := TX1) (N := 7) hx hb hts iwX1_quarrelBits_X1 hown hK hP (13) (wl_at (by omega) (ce_3 (by decide))) rfl 2 (by decide) (hts (.fieldLink RX1 66 "QuietStairs$House" "caseCount" "I") fwX1_quarrelBits_1) (fun _ h9 => h9) rfl dX1_quarrelBits_8 ?_
      refine lv_topi (fun x_3 ex_3 => ?_)
      have bx_3 : 0 ≤ x_3.toInt ∧ x_3.toInt ≤ 6 := by rw [ex_3]; exact hv.at (K := 3) (by decide) rfl
      refine lv_icmp_ge (tgt := 60) hx hb dX1_quarrelBits_11 (by decide) (fun c_4 => ?_) (fun c_4 => ?_)
      · have tc_4 : y2_3.toInt ≥ x_3.toInt := Int32.le_iff_toInt_le.mp c_4
        refine lv_iload_n hx hb dX1_quarrelBits_60 rfl (lv_at hl 1 rfl) ?_
        exact W.iret (v := y2_2) hx hb hr (fun t ht hW => ⟨⟨y2_2, u2, rfl, ⟨hv, hfr⟩, by rw [ht]; exact hP, hD⟩, hS.F ht⟩) hS.2.2 dX1_quarrelBits_61
      · have tc_4 : y2_3.toInt < x_3.toInt := Int32.lt_iff_toInt_lt.mp (Int32.not_le.mp c_4)
        refine lv_iconst (v := 0) hx hb dX1_quarrelBits_14 (by decide) ?_
        refine lv_istore (lv' := [(4, .int 0), (3, .int y2_3), (2, .int y2_2), (0, .ref (ad 13)), (1, .int x0)]) hx hb dX1_quarrelBits_15 hl (by decide) rfl (fun ls hl => ?_)
        have k_0 : (0 : Int32).toInt = 0 := by decide
        have hloop_5 : ∀ (n : Nat) (y5_4 y5_2 : Int32) (u5 : Nat → Nat → Int32) (H : Heap) (locs : List Loc), 0 ≤ y5_4.toInt → y5_4.toInt ≤ 6 → (6 - y5_4.toInt).toNat < n → Iv u5 → Fz v u5 → va_P (dC, dI) vwCl (wl ad kv cy N u5) H → va_D A (wl ad kv cy N u5) → va_S A s.heap H locs → ∀ ls : Array Slot, lv_has ls 5 [(4, .int y5_4), (3, .int y2_3), (2, .int y5_2), (0, .ref (ad 13)), (1, .int x0)] → W p l e (headSpec wsX1_quarrelBits ({ frames := 1, cells := 0, slots := 0, locals := 64 })).room s m [Value.ref (ad 13), Value.int x0].toArray below meth c H locs 0 0 (MQ below (va_Qi (fun (r : Int32) (u : Nat → Nat → Int32) => Iv u ∧ Fz v u) (fun u t => ex_Pst dC dI A (wl ad kv cy N u) t) A) [Value.ref (ad 13), Value.int x0].toArray s 0 0 A) (F0 m 17 ls []) := by
          intro n
          induction n with
          | zero =>
            intro y5_4 y5_2 u5 H locs ay5_4 by5_4 hm_5 hv hfr hP hD hS ls hl
            exact absurd hm_5 (by omega)
          | succ n ih_5 =>
            intro y5_4 y5_2 u5 H locs ay5_4 by5_4 hm_5 hv hfr hP hD hS ls hl
            refine lv_iload hx hb dX1_quarrelBits_17 (lv_at hl 0 rfl) ?_
            refine lv_aload_n hx hb dX1_quarrelBits_19 rfl (lv_at hl 3 rfl) ?_
            refine va_get (D := (dC, dI)) (ci := 1) (v := .int (u5 (13) 2)) (C := RX1) (T := TX1) (N := 7) hx hb hts iwX1_quarrelBits_X1 hown hK hP (13) (wl_at (by omega) (ce_3 (by decide))) rfl 2 (by decide) (hts (.fieldLink RX1 66 "QuietStairs$House" "caseCount" "I") fwX1_quarrelBits_1) (fun _ h9 => h9) rfl dX1_quarrelBits_20 ?_
            refine lv_topi (fun x_6 ex_6 => ?_)
            have bx_6 : 0 ≤ x_6.toInt ∧ x_6.toInt ≤ 6 := by rw [ex_6]; exact hv.at (K := 3) (by decide) rfl
            refine lv_icmp_ge (tgt := 54) hx hb dX1_quarrelBits_23 (by decide) (fun c_7 => ?_) (fun c_7 => ?_)
            · have tc_7 : y5_4.toInt ≥ x_6.toInt := Int32.le_iff_toInt_le.mp c_7
              obtain ⟨x_8, ex_8⟩ : ∃ y : Int32, y = y2_3 + 1 := ⟨_, rfl⟩
              refine lv_iinc (v := x_8) (lv' := [(3, .int x_8), (4, .int y5_4), (2, .int y5_2), (0, .ref (ad 13)), (1, .int x0)]) hx hb dX1_quarrelBits_54 hl (k := 1) rfl (by rw [ex_8]; rfl) (by decide) rfl (fun ls hl => ?_)
              have tx_8 : x_8.toInt = y2_3.toInt + (1 : Int32).toInt := by rw [ex_8]; exact t_add ⟨by omega, by omega⟩
              refine lv_goto (tgt := 6) hx hb dX1_quarrelBits_57 (by decide) ?_
              exact ih_2 x_8 y5_2 u5 H locs (by omega) (by omega) (by omega) hv hfr hP hD hS ls (lv_sub hl [0, 2, 3, 4] rfl)
            · have tc_7 : y5_4.toInt < x_6.toInt := Int32.lt_iff_toInt_lt.mp (Int32.not_le.mp c_7)
              refine lv_iload_n hx hb dX1_quarrelBits_26 rfl (lv_at hl 2 rfl) ?_
              refine lv_iload hx hb dX1_quarrelBits_27 (lv_at hl 0 rfl) ?_
              refine yc_p hP hS (va_runSN (As := [.int y5_2, .int y5_4]) (rest := []) ⟨hx, hb, hml, hown, hts⟩ (c_X7_hasBit l y5_2 y5_4) ⟨va_cnB 2 hts gX1_quarrelBits_X7_hasBit_n51 rfl rfl rfl hE.2.2.2.2.2.2.2.2.2.2.1 (hts (.initialized RX7) fwX1_quarrelBits_5) (by decide +kernel) ⟨Nat.le_of_ble_eq_true rfl, Nat.le_of_ble_eq_true rfl⟩, (hts (.static yX7_hasBit) fwX1_quarrelBits_4), trivial⟩ ex_preP rfl rfl hl.1 rfl (lv_room (Nat.le_of_ble_eq_true rfl)) dX1_quarrelBits_29 ⟨Nat.le_of_ble_eq_true rfl, Nat.le_of_ble_eq_true rfl⟩) (fun r_8 H locs hw_8 hP hS => ?_)
              rcases hw_8 with rfl | rfl
              · refine lv_if_eq (tgt := 48) hx hb dX1_quarrelBits_32 (by decide) (fun _ => ?_) (fun c9 => absurd c9 (by decide))
                obtain ⟨x_9, ex_9⟩ : ∃ y : Int32, y = y5_4 + 1 := ⟨_, rfl⟩
                refine lv_iinc (v := x_9) (lv' := [(4, .int x_9), (3, .int y2_3), (2, .int y5_2), (0, .ref (ad 13)), (1, .int x0)]) hx hb dX1_quarrelBits_48 hl (k := 0) rfl (by rw [ex_9]; rfl) (by decide) rfl (fun ls hl => ?_)
                have tx_9 : x_9.toInt = y5_4.toInt + (1 : Int32).toInt := by rw [ex_9]; exact t_add ⟨by omega, by omega⟩
                refine lv_goto (tgt := 17) hx hb dX1_quarrelBits_51 (by decide) ?_
                exact ih_5 x_9 y5_2 u5 H locs (by omega) (by omega) (by omega) hv hfr hP hD hS ls (lv_sub hl [0, 1, 2, 3, 4] rfl)
              · refine lv_if_eq (tgt := 48) hx hb dX1_quarrelBits_32 (by decide) (fun c9 => absurd c9 (by decide)) (fun _ => ?_)
                refine lv_iload_n hx hb dX1_quarrelBits_35 rfl (lv_at hl 2 rfl) ?_
                refine lv_aload_n hx hb dX1_quarrelBits_36 rfl (lv_at hl 3 rfl) ?_
                refine va_get (D := (dC, dI)) (ci := 1) (v := .ref (ad 16)) (C := RX1) (T := TX1) (N := 7) hx hb hts iwX1_quarrelBits_X1 hown hK hP (13) (wl_at (by omega) (ce_3 (by decide))) rfl 6 (by decide) (hts (.fieldLink RX1 25 "QuietStairs$House" "cases" "[LQuietStairs$Case;") fwX1_quarrelBits_2) (fun _ h9 => h9) rfl dX1_quarrelBits_37 ?_
                refine lv_iload hx hb dX1_quarrelBits_40 (lv_at hl 0 rfl) ?_
                obtain ⟨pi9, i9, hi9, ni9, mi9⟩ := t_in (x := y5_4) (n := 6) ⟨by omega, by omega⟩
                refine va_aldq hx hb hK hP (16) 3 (wl_at (by omega) (ce_6 (by decide))) rfl pi9 dX1_quarrelBits_42 ?_
                refine W.eq (g2 := F0 m 43 ls [.ref (ad (29 + 15 * i9)), .int y5_2]) (by rw [ni9, if_pos hi9, show 16 + 13 + 15 * i9 = 29 + 15 * i9 from by omega]; rfl) ?_
                refine va_get (D := (dC, dI)) (ci := 0) (v := .int (u5 (29 + 15 * i9) 4)) (C := RX0) (T := TX0) (N := 11) hx hb hts iwX1_quarrelBits_X0 hown hK hP (29 + 15 * i9) (wl_at (by omega) (ce_9 (kd_c i9 hi9).1.1)) rfl 4 (by decide) (hts (.fieldLink RX1 69 "QuietStairs$Case" "markedBits" "I") fwX1_quarrelBits_3) (fun _ h9 => h9) rfl dX1_quarrelBits_43 ?_
                refine lv_topi (fun x_10 ex_10 => ?_)
                refine lv_ior hx hb dX1_quarrelBits_46 ?_
                refine lv_topi (fun x_11 ex_11 => ?_)
                refine lv_istore_n (lv' := [(2, .int x_11), (4, .int y5_4), (3, .int y2_3), (0, .ref (ad 13)), (1, .int x0)]) hx hb dX1_quarrelBits_47 rfl hl (by decide) rfl (fun ls hl => ?_)
                obtain ⟨x_12, ex_12⟩ : ∃ y : Int32, y = y5_4 + 1 := ⟨_, rfl⟩
                refine lv_iinc (v := x_12) (lv' := [(4, .int x_12), (2, .int x_11), (3, .int y2_3), (0, .ref (ad 13)), (1, .int x0)]) hx hb dX1_quarrelBits_48 hl (k := 1) rfl (by rw [ex_12]; rfl) (by decide) rfl (fun ls hl => ?_)
                have tx_12 : x_12.toInt = y5_4.toInt + (1 : Int32).toInt := by rw [ex_12]; exact t_add ⟨by omega, by omega⟩
                refine lv_goto (tgt := 17) hx hb dX1_quarrelBits_51 (by decide) ?_
                exact ih_5 x_12 x_11 u5 H locs (by omega) (by omega) (by omega) hv hfr hP hD hS ls (lv_sub hl [0, 2, 1, 3, 4] rfl)
        exact hloop_5 ((6 - (0 : Int32).toInt).toNat + 1) 0 y2_2 u2 _ _ (by omega) (by omega) (by omega) hv hfr hP hD hS ls hl
  exact hloop_2 ((6 - (1 : Int32).toInt).toNat + 1) 1 x_1 v _ _ (by omega) (by omega) (by omega) hv hfr hP hD hS ls hl

set_option maxHeartbeats 4000000 in
set_option maxRecDepth 100000 in
theorem g_X1_headOfQuarrel (l : Launch) (dC : Nat → ClassId) (dI : Nat → Nat → Nat) (cy : Nat → ClassId) (sz : Nat) (ad : Nat → Nat) (kv : Value) (N : Nat) (hN : 119 ≤ N) (v : Nat → Nat → Int32) (hv : Iv v)  (x0 : Int32) (hs : 0 ≤ x0.toInt ∧ x0.toInt ≤ 5) : Met l yX1_headOfQuarrel wsX1_headOfQuarrel ({ frames := 2, cells := 0, slots := 0, locals := 128 }) (va_Pc [.ref (ad 13), .int x0] (ex_Pre dC dI cy sz (wl ad kv cy N v))) (va_Qi (fun (r : Int32) (u : Nat → Nat → Int32) => Iv u ∧ Fz v u) (fun u t => ex_Pst dC dI (va_A (wl ad kv cy N v) sz) (wl ad kv cy N u) t) (va_A (wl ad kv cy N v) sz)) 0 0 (va_A (wl ad kv cy N v) sz) := by
  refine Met.ofW (cc := cX1_headOfQuarrel) (maxL := 4) (ret := (some .int)) (by decide) rfl ?_
  intro p e s m args below meth c s₁ B hml hv
  obtain ⟨rfl, hsz, hE, hP, hK, hD0⟩ := hv
  have hx := B.exec
  have hb := B.bytes
  have hr := B.returns
  have hts := atoms_spec (ws := wsX1_headOfQuarrel) B.pre
  have hown : s.vm.findClass RX1 = some m.cls := findClass_of_methodNamed B.named
  have hlocks := B.notSynchronized
  subst hsz
  have hD := hD0.self (sz := s.heap.size)
  generalize hAe : va_A (wl ad kv cy N v) s.heap.size = A at hD ⊢
  have hA : ∀ q : Nat, s.heap.size ≤ q → A q := fun q h => by rw [← hAe]; exact Or.inr h
  have hS : va_S A s.heap s.heap [] := va_S.rf
  have hP : va_P (dC, dI) vwCl (wl ad kv cy N v) s.heap := hP
  have hl := lv_entry ([.ref (ad 13), .int x0]) (n := 4) (Nat.le_of_ble_eq_true rfl)
  rw [lg_entry_eq]
  generalize (lg_sl ([.ref (ad 13), .int x0]) ++ List.replicate (4 - (lg_sl ([.ref (ad 13), .int x0])).length) Slot.unset).toArray = ls at hl ⊢
  have hl : lv_has ls 4 [(0, .ref (ad 13)), (1, .int x0)] := hl
  have hfr : Fz v v := Fz.rf
  refine lv_aload_n hx hb dX1_headOfQuarrel_0 rfl (lv_at hl 0 rfl) ?_
  refine lv_iload_n hx hb dX1_headOfQuarrel_1 rfl (lv_at hl 1 rfl) ?_
  refine yw_i (w1 := fun (u : Nat → Nat → Int32) => wl ad kv cy N u) hD hS hA (va_runV (As := [.int x0]) (rest := []) ⟨hx, hb, hml, hown, hts⟩ (g_X1_quarrelBits l dC dI cy _ ad kv N hN v hv x0) (cwV 1 hts gX1_headOfQuarrel_X1_quarrelBits rfl rfl rfl hd_V_X1_quarrelBits_1 ⟨Nat.le_of_ble_eq_true rfl, Nat.le_of_ble_eq_true rfl⟩) (yw_preV hE hK hP hD (ci := 1) (q := (RX1, TX1, 7)) (q0 := 13) rfl (wl_at (by omega) (ce_3 (by decide)))) rfl rfl hl.1 rfl (lv_room (Nat.le_of_ble_eq_true rfl)) dX1_headOfQuarrel_2 ⟨Nat.le_of_ble_eq_true rfl, Nat.le_of_ble_eq_true rfl⟩) (fun r_1 v_1 H locs hw_1 hP hD hS => ?_)
  obtain ⟨hv, hw_1⟩ := hw_1
  have hfr : Fz v v_1 := hfr.trans hw_1
  refine lv_istore_n (lv' := [(2, .int r_1), (0, .ref (ad 13)), (1, .int x0)]) hx hb dX1_headOfQuarrel_5 rfl hl (by decide) rfl (fun ls hl => ?_)
  refine lv_iconst (v := 0) hx hb dX1_headOfQuarrel_6 (by decide) ?_
  refine lv_istore_n (lv' := [(3, .int 0), (2, .int r_1), (0, .ref (ad 13)), (1, .int x0)]) hx hb dX1_headOfQuarrel_7 rfl hl (by decide) rfl (fun ls hl => ?_)
  have k_0 : (0 : Int32).toInt = 0 := by decide
  have hloop_2 : ∀ (n : Nat) (y2_3 : Int32) (u2 : Nat → Nat → Int32) (H : Heap) (locs : List Loc), 0 ≤ y2_3.toInt → y2_3.toInt ≤ 6 → (6 - y2_3.toInt).toNat < n → Iv u2 → Fz v u2 → va_P (dC, dI) vwCl (wl ad kv cy N u2) H → va_D A (wl ad kv cy N u2) → va_S A s.heap H locs → ∀ ls : Array Slot, lv_has ls 4 [(3, .int y2_3), (2, .int r_1), (0, .ref (ad 13)), (1, .int x0)] → W p l e (headSpec wsX1_headOfQuarrel ({ frames := 2, cells := 0, slots := 0, locals := 128 })).room s m [Value.ref (ad 13), Value.int x0].toArray below meth c H locs 0 0 (MQ below (va_Qi (fun (r : Int32) (u : Nat → Nat → Int32) => Iv u ∧ Fz v u) (fun u t => ex_Pst dC dI A (wl ad kv cy N u) t) A) [Value.ref (ad 13), Value.int x0].toArray s 0 0 A) (F0 m 8 ls []) := by
    intro n
    induction n with
    | zero =>
      intro y2_3 u2 H locs ay2_3 by2_3 hm_2 hv hfr hP hD hS ls hl
      exact absurd hm_2 (by omega)
    | succ n ih_2 =>
      intro y2_3 u2 H locs ay2_3 by2_3 hm_2 hv hfr hP hD hS ls hl
      refine lv_iload_n hx hb dX1_headOfQuarrel_8 rfl (lv_at hl 0 rfl) ?_
      refine lv_iload_n hx hb dX1_headOfQuarrel_9 rfl (lv_at hl 3 rfl) ?_
      refine lv_icmp_ge (tgt := 29) hx hb dX1_headOfQuarrel_10 (by decide) (fun c_3 => ?_) (fun c_3 => ?_)
      · have tc_3 : y2_3.toInt ≥ x0.toInt := Int32.le_iff_toInt_le.mp c_3
        refine lv_iload_n hx hb dX1_headOfQuarrel_29 rfl (lv_at hl 3 rfl) ?_
        exact W.iret (v := x0) hx hb hr (fun t ht hW => ⟨⟨x0, u2, rfl, ⟨hv, hfr⟩, by rw [ht]; exact hP, hD⟩, hS.F ht⟩) hS.2.2 dX1_headOfQuarrel_30
      · have tc_3 : y2_3.toInt < x0.toInt := Int32.lt_iff_toInt_lt.mp (Int32.not_le.mp c_3)
        refine lv_iload_n hx hb dX1_headOfQuarrel_13 rfl (lv_at hl 1 rfl) ?_
        refine lv_iload_n hx hb dX1_headOfQuarrel_14 rfl (lv_at hl 0 rfl) ?_
        refine yc_p hP hS (va_runSN (As := [.int r_1, .int y2_3]) (rest := []) ⟨hx, hb, hml, hown, hts⟩ (c_X7_hasBit l r_1 y2_3) ⟨va_cnB 2 hts gX1_headOfQuarrel_X7_hasBit_n51 rfl rfl rfl hE.2.2.2.2.2.2.2.2.2.2.1 (hts (.initialized RX7) fwX1_headOfQuarrel_10) (by decide +kernel) ⟨Nat.le_of_ble_eq_true rfl, Nat.le_of_ble_eq_true rfl⟩, (hts (.static yX7_hasBit) fwX1_headOfQuarrel_9), trivial⟩ ex_preP rfl rfl hl.1 rfl (lv_room (Nat.le_of_ble_eq_true rfl)) dX1_headOfQuarrel_15 ⟨Nat.le_of_ble_eq_true rfl, Nat.le_of_ble_eq_true rfl⟩) (fun r_4 H locs hw_4 hP hS => ?_)
        rcases hw_4 with rfl | rfl
        · refine lv_if_eq (tgt := 23) hx hb dX1_headOfQuarrel_18 (by decide) (fun _ => ?_) (fun c9 => absurd c9 (by decide))
          obtain ⟨x_5, ex_5⟩ : ∃ y : Int32, y = y2_3 + 1 := ⟨_, rfl⟩
          refine lv_iinc (v := x_5) (lv' := [(3, .int x_5), (2, .int r_1), (0, .ref (ad 13)), (1, .int x0)]) hx hb dX1_headOfQuarrel_23 hl (k := 0) rfl (by rw [ex_5]; rfl) (by decide) rfl (fun ls hl => ?_)
          have k_1 : (1 : Int32).toInt = 1 := by decide
          have tx_5 : x_5.toInt = y2_3.toInt + (1 : Int32).toInt := by rw [ex_5]; exact t_add ⟨by omega, by omega⟩
          refine lv_goto (tgt := 8) hx hb dX1_headOfQuarrel_26 (by decide) ?_
          exact ih_2 x_5 u2 H locs (by omega) (by omega) (by omega) hv hfr hP hD hS ls (lv_sub hl [0, 1, 2, 3] rfl)
        · refine lv_if_eq (tgt := 23) hx hb dX1_headOfQuarrel_18 (by decide) (fun c9 => absurd c9 (by decide)) (fun _ => ?_)
          refine lv_iload_n hx hb dX1_headOfQuarrel_21 rfl (lv_at hl 0 rfl) ?_
          exact W.iret (v := y2_3) hx hb hr (fun t ht hW => ⟨⟨y2_3, u2, rfl, ⟨hv, hfr⟩, by rw [ht]; exact hP, hD⟩, hS.F ht⟩) hS.2.2 dX1_headOfQuarrel_22
  exact hloop_2 ((6 - (0 : Int32).toInt).toNat + 1) 0 v_1 _ _ (by omega) (by omega) (by omega) hv hfr hP hD hS ls hl

set_option maxHeartbeats 4000000 in
set_option maxRecDepth 100000 in
theorem g_X1_countQuarrels (l : Launch) (dC : Nat → ClassId) (dI : Nat → Nat → Nat) (cy : Nat → ClassId) (sz : Nat) (ad : Nat → Nat) (kv : Value) (N : Nat) (hN : 119 ≤ N) (v : Nat → Nat → Int32) (hv : Iv v)  : Met l yX1_countQuarrels wsX1_countQuarrels ({ frames := 3, cells := 0, slots := 0, locals := 192 }) (va_Pc [.ref (ad 13)] (ex_Pre dC dI cy sz (wl ad kv cy N v))) (va_Qi (fun (r : Int32) (u : Nat → Nat → Int32) => Iv u ∧ Fz v u) (fun u t => ex_Pst dC dI (va_A (wl ad kv cy N v) sz) (wl ad kv cy N u) t) (va_A (wl ad kv cy N v) sz)) 0 0 (va_A (wl ad kv cy N v) sz) := by
  refine Met.ofW (cc := cX1_countQuarrels) (maxL := 3) (ret := (some .int)) (by decide) rfl ?_
  intro p e s m args below meth c s₁ B hml hv
  obtain ⟨rfl, hsz, hE, hP, hK, hD0⟩ := hv
  have hx := B.exec
  have hb := B.bytes
  have hr := B.returns
  have hts := atoms_spec (ws := wsX1_countQuarrels) B.pre
  have hown : s.vm.findClass RX1 = some m.cls := findClass_of_methodNamed B.named
  have hlocks := B.notSynchronized
  subst hsz
  have hD := hD0.self (sz := s.heap.size)
  generalize hAe : va_A (wl ad kv cy N v) s.heap.size = A at hD ⊢
  have hA : ∀ q : Nat, s.heap.size ≤ q → A q := fun q h => by rw [← hAe]; exact Or.inr h
  have hS : va_S A s.heap s.heap [] := va_S.rf
  have hP : va_P (dC, dI) vwCl (wl ad kv cy N v) s.heap := hP
  have hl := lv_entry ([.ref (ad 13)]) (n := 3) (Nat.le_of_ble_eq_true rfl)
  rw [lg_entry_eq]
  generalize (lg_sl ([.ref (ad 13)]) ++ List.replicate (3 - (lg_sl ([.ref (ad 13)])).length) Slot.unset).toArray = ls at hl ⊢
  have hl : lv_has ls 3 [(0, .ref (ad 13))] := hl
  have hfr : Fz v v := Fz.rf
  refine lv_iconst (v := 0) hx hb dX1_countQuarrels_0 (by decide) ?_
  refine lv_istore_n (lv' := [(1, .int 0), (0, .ref (ad 13))]) hx hb dX1_countQuarrels_1 rfl hl (by decide) rfl (fun ls hl => ?_)
  refine lv_iconst (v := 0) hx hb dX1_countQuarrels_2 (by decide) ?_
  refine lv_istore_n (lv' := [(2, .int 0), (1, .int 0), (0, .ref (ad 13))]) hx hb dX1_countQuarrels_3 rfl hl (by decide) rfl (fun ls hl => ?_)
  have k_0 : (0 : Int32).toInt = 0 := by decide
  have hloop_1 : ∀ (n : Nat) (y1_2 y1_1 : Int32) (u1 : Nat → Nat → Int32) (H : Heap) (locs : List Loc), 0 ≤ y1_2.toInt → y1_2.toInt ≤ 6 → (6 - y1_2.toInt).toNat < n → Iv u1 → Fz v u1 → va_P (dC, dI) vwCl (wl ad kv cy N u1) H → va_D A (wl ad kv cy N u1) → va_S A s.heap H locs → ∀ ls : Array Slot, lv_has ls 3 [(2, .int y1_2), (1, .int y1_1), (0, .ref (ad 13))] → W p l e (headSpec wsX1_countQuarrels ({ frames := 3, cells := 0, slots := 0, locals := 192 })).room s m [Value.ref (ad 13)].toArray below meth c H locs 0 0 (MQ below (va_Qi (fun (r : Int32) (u : Nat → Nat → Int32) => Iv u ∧ Fz v u) (fun u t => ex_Pst dC dI A (wl ad kv cy N u) t) A) [Value.ref (ad 13)].toArray s 0 0 A) (F0 m 4 ls []) := by
    intro n
    induction n with
    | zero =>
      intro y1_2 y1_1 u1 H locs ay1_2 by1_2 hm_1 hv hfr hP hD hS ls hl
      exact absurd hm_1 (by omega)
    | succ n ih_1 =>
      intro y1_2 y1_1 u1 H locs ay1_2 by1_2 hm_1 hv hfr hP hD hS ls hl
      refine lv_iload_n hx hb dX1_countQuarrels_4 rfl (lv_at hl 0 rfl) ?_
      refine lv_aload_n hx hb dX1_countQuarrels_5 rfl (lv_at hl 2 rfl) ?_
      refine va_get (D := (dC, dI)) (ci := 1) (v := .int (u1 (13) 2)) (C := RX1) (T := TX1) (N := 7) hx hb hts iwX1_countQuarrels_X1 hown hK hP (13) (wl_at (by omega) (ce_3 (by decide))) rfl 2 (by decide) (hts (.fieldLink RX1 66 "QuietStairs$House" "caseCount" "I") fwX1_countQuarrels_1) (fun _ h9 => h9) rfl dX1_countQuarrels_6 ?_
      refine lv_topi (fun x_2 ex_2 => ?_)
      have bx_2 : 0 ≤ x_2.toInt ∧ x_2.toInt ≤ 6 := by rw [ex_2]; exact hv.at (K := 3) (by decide) rfl
      refine lv_icmp_ge (tgt := 30) hx hb dX1_countQuarrels_9 (by decide) (fun c_3 => ?_) (fun c_3 => ?_)
      · have tc_3 : y1_2.toInt ≥ x_2.toInt := Int32.le_iff_toInt_le.mp c_3
        refine lv_iload_n hx hb dX1_countQuarrels_30 rfl (lv_at hl 1 rfl) ?_
        exact W.iret (v := y1_1) hx hb hr (fun t ht hW => ⟨⟨y1_1, u1, rfl, ⟨hv, hfr⟩, by rw [ht]; exact hP, hD⟩, hS.F ht⟩) hS.2.2 dX1_countQuarrels_31
      · have tc_3 : y1_2.toInt < x_2.toInt := Int32.lt_iff_toInt_lt.mp (Int32.not_le.mp c_3)
        refine lv_aload_n hx hb dX1_countQuarrels_12 rfl (lv_at hl 2 rfl) ?_
        refine lv_iload_n hx hb dX1_countQuarrels_13 rfl (lv_at hl 0 rfl) ?_
        refine yw_i (w1 := fun (u : Nat → Nat → Int32) => wl ad kv cy N u) hD hS hA (va_runV (As := [.int y1_2]) (rest := []) ⟨hx, hb, hml, hown, hts⟩ (g_X1_headOfQuarrel l dC dI cy _ ad kv N hN u1 hv y1_2 ⟨by omega, by omega⟩) (cwV 1 hts gX1_countQuarrels_X1_headOfQuarrel rfl rfl rfl hd_V_X1_headOfQuarrel_1 ⟨Nat.le_of_ble_eq_true rfl, Nat.le_of_ble_eq_true rfl⟩) (yw_preV hE hK hP hD (ci := 1) (q := (RX1, TX1, 7)) (q0 := 13) rfl (wl_at (by omega) (ce_3 (by decide)))) rfl rfl hl.1 rfl (lv_room (Nat.le_of_ble_eq_true rfl)) dX1_countQuarrels_14 ⟨Nat.le_of_ble_eq_true rfl, Nat.le_of_ble_eq_true rfl⟩) (fun r_4 v_4 H locs hw_4 hP hD hS => ?_)
        obtain ⟨hv, hw_4⟩ := hw_4
        have hfr : Fz v v_4 := hfr.trans hw_4
        refine lv_iload_n hx hb dX1_countQuarrels_17 rfl (lv_at hl 0 rfl) ?_
        refine lv_icmp_ne (tgt := 24) hx hb dX1_countQuarrels_18 (by decide) (fun c_5 => ?_) (fun c_5 => ?_)
        · have tc_5 : r_4.toInt ≠ y1_2.toInt := fun q => absurd (Int32.toInt_inj.mp q) c_5
          obtain ⟨x_6, ex_6⟩ : ∃ y : Int32, y = y1_2 + 1 := ⟨_, rfl⟩
          refine lv_iinc (v := x_6) (lv' := [(2, .int x_6), (1, .int y1_1), (0, .ref (ad 13))]) hx hb dX1_countQuarrels_24 hl (k := 0) rfl (by rw [ex_6]; rfl) (by decide) rfl (fun ls hl => ?_)
          have k_1 : (1 : Int32).toInt = 1 := by decide
          have tx_6 : x_6.toInt = y1_2.toInt + (1 : Int32).toInt := by rw [ex_6]; exact t_add ⟨by omega, by omega⟩
          refine lv_goto (tgt := 4) hx hb dX1_countQuarrels_27 (by decide) ?_
          exact ih_1 x_6 y1_1 v_4 H locs (by omega) (by omega) (by omega) hv hfr hP hD hS ls (lv_sub hl [0, 1, 2] rfl)
        · have tc_5 : r_4.toInt = y1_2.toInt := by rw [c_5]
          obtain ⟨x_6, ex_6⟩ : ∃ y : Int32, y = y1_1 + 1 := ⟨_, rfl⟩
          refine lv_iinc (v := x_6) (lv' := [(1, .int x_6), (2, .int y1_2), (0, .ref (ad 13))]) hx hb dX1_countQuarrels_21 hl (k := 1) rfl (by rw [ex_6]; rfl) (by decide) rfl (fun ls hl => ?_)
          obtain ⟨x_7, ex_7⟩ : ∃ y : Int32, y = y1_2 + 1 := ⟨_, rfl⟩
          refine lv_iinc (v := x_7) (lv' := [(2, .int x_7), (1, .int x_6), (0, .ref (ad 13))]) hx hb dX1_countQuarrels_24 hl (k := 1) rfl (by rw [ex_7]; rfl) (by decide) rfl (fun ls hl => ?_)
          have k_1 : (1 : Int32).toInt = 1 := by decide
          have tx_7 : x_7.toInt = y1_2.toInt + (1 : Int32).toInt := by rw [ex_7]; exact t_add ⟨by omega, by omega⟩
          refine lv_goto (tgt := 4) hx hb dX1_countQuarrels_27 (by decide) ?_
          exact ih_1 x_7 x_6 v_4 H locs (by omega) (by omega) (by omega) hv hfr hP hD hS ls (lv_sub hl [0, 1, 2] rfl)
  exact hloop_1 ((6 - (0 : Int32).toInt).toNat + 1) 0 0 v _ _ (by omega) (by omega) (by omega) hv hfr hP hD hS ls hl

set_option maxHeartbeats 4000000 in
set_option maxRecDepth 100000 in
theorem g_X1_countJudged (l : Launch) (dC : Nat → ClassId) (dI : Nat → Nat → Nat) (cy : Nat → ClassId) (sz : Nat) (ad : Nat → Nat) (kv : Value) (N : Nat) (hN : 119 ≤ N) (v : Nat → Nat → Int32) (hv : Iv v)  (x0 : Int32) : Met l yX1_countJudged wsX1_countJudged ({ frames := 2, cells := 0, slots := 0, locals := 128 }) (va_Pc [.ref (ad 13), .int x0] (ex_Pre dC dI cy sz (wl ad kv cy N v))) (va_Qi (fun (r : Int32) (u : Nat → Nat → Int32) => Iv u ∧ Fz v u) (fun u t => ex_Pst dC dI (va_A (wl ad kv cy N v) sz) (wl ad kv cy N u) t) (va_A (wl ad kv cy N v) sz)) 0 0 (va_A (wl ad kv cy N v) sz) := by
  refine Met.ofW (cc := cX1_countJudged) (maxL := 5) (ret := (some .int)) (by decide) rfl ?_
  intro p e s m args below meth c s₁ B hml hv
  obtain ⟨rfl, hsz, hE, hP, hK, hD0⟩ := hv
  have hx := B.exec
  have hb := B.bytes
  have hr := B.returns
  have hts := atoms_spec (ws := wsX1_countJudged) B.pre
  have hown : s.vm.findClass RX1 = some m.cls := findClass_of_methodNamed B.named
  have hlocks := B.notSynchronized
  subst hsz
  have hD := hD0.self (sz := s.heap.size)
  generalize hAe : va_A (wl ad kv cy N v) s.heap.size = A at hD ⊢
  have hA : ∀ q : Nat, s.heap.size ≤ q → A q := fun q h => by rw [← hAe]; exact Or.inr h
  have hS : va_S A s.heap s.heap [] := va_S.rf
  have hP : va_P (dC, dI) vwCl (wl ad kv cy N v) s.heap := hP
  have hl := lv_entry ([.ref (ad 13), .int x0]) (n := 5) (Nat.le_of_ble_eq_true rfl)
  rw [lg_entry_eq]
  generalize (lg_sl ([.ref (ad 13), .int x0]) ++ List.replicate (5 - (lg_sl ([.ref (ad 13), .int x0])).length) Slot.unset).toArray = ls at hl ⊢
  have hl : lv_has ls 5 [(0, .ref (ad 13)), (1, .int x0)] := hl
  have hfr : Fz v v := Fz.rf
  refine lv_iconst (v := 0) hx hb dX1_countJudged_0 (by decide) ?_
  refine lv_istore_n (lv' := [(2, .int 0), (0, .ref (ad 13)), (1, .int x0)]) hx hb dX1_countJudged_1 rfl hl (by decide) rfl (fun ls hl => ?_)
  refine lv_iconst (v := 0) hx hb dX1_countJudged_2 (by decide) ?_
  refine lv_istore_n (lv' := [(3, .int 0), (2, .int 0), (0, .ref (ad 13)), (1, .int x0)]) hx hb dX1_countJudged_3 rfl hl (by decide) rfl (fun ls hl => ?_)
  have k_0 : (0 : Int32).toInt = 0 := by decide
  have hloop_1 : ∀ (n : Nat) (y1_3 y1_2 : Int32) (u1 : Nat → Nat → Int32) (H : Heap) (locs : List Loc), 0 ≤ y1_3.toInt → y1_3.toInt ≤ 6 → (6 - y1_3.toInt).toNat < n → Iv u1 → Fz v u1 → va_P (dC, dI) vwCl (wl ad kv cy N u1) H → va_D A (wl ad kv cy N u1) → va_S A s.heap H locs → ∀ ls : Array Slot, lv_has ls 5 [(3, .int y1_3), (2, .int y1_2), (0, .ref (ad 13)), (1, .int x0)] → W p l e (headSpec wsX1_countJudged ({ frames := 2, cells := 0, slots := 0, locals := 128 })).room s m [Value.ref (ad 13), Value.int x0].toArray below meth c H locs 0 0 (MQ below (va_Qi (fun (r : Int32) (u : Nat → Nat → Int32) => Iv u ∧ Fz v u) (fun u t => ex_Pst dC dI A (wl ad kv cy N u) t) A) [Value.ref (ad 13), Value.int x0].toArray s 0 0 A) (F0 m 4 ls []) := by
    intro n
    induction n with
    | zero =>
      intro y1_3 y1_2 u1 H locs ay1_3 by1_3 hm_1 hv hfr hP hD hS ls hl
      exact absurd hm_1 (by omega)
    | succ n ih_1 =>
      intro y1_3 y1_2 u1 H locs ay1_3 by1_3 hm_1 hv hfr hP hD hS ls hl
      refine lv_iload_n hx hb dX1_countJudged_4 rfl (lv_at hl 0 rfl) ?_
      refine lv_aload_n hx hb dX1_countJudged_5 rfl (lv_at hl 2 rfl) ?_
      refine va_get (D := (dC, dI)) (ci := 1) (v := .int (u1 (13) 2)) (C := RX1) (T := TX1) (N := 7) hx hb hts iwX1_countJudged_X1 hown hK hP (13) (wl_at (by omega) (ce_3 (by decide))) rfl 2 (by decide) (hts (.fieldLink RX1 66 "QuietStairs$House" "caseCount" "I") fwX1_countJudged_1) (fun _ h9 => h9) rfl dX1_countJudged_6 ?_
      refine lv_topi (fun x_2 ex_2 => ?_)
      have bx_2 : 0 ≤ x_2.toInt ∧ x_2.toInt ≤ 6 := by rw [ex_2]; exact hv.at (K := 3) (by decide) rfl
      refine lv_icmp_ge (tgt := 59) hx hb dX1_countJudged_9 (by decide) (fun c_3 => ?_) (fun c_3 => ?_)
      · have tc_3 : y1_3.toInt ≥ x_2.toInt := Int32.le_iff_toInt_le.mp c_3
        refine lv_iload_n hx hb dX1_countJudged_59 rfl (lv_at hl 1 rfl) ?_
        exact W.iret (v := y1_2) hx hb hr (fun t ht hW => ⟨⟨y1_2, u1, rfl, ⟨hv, hfr⟩, by rw [ht]; exact hP, hD⟩, hS.F ht⟩) hS.2.2 dX1_countJudged_60
      · have tc_3 : y1_3.toInt < x_2.toInt := Int32.lt_iff_toInt_lt.mp (Int32.not_le.mp c_3)
        refine lv_iconst (v := 0) hx hb dX1_countJudged_12 (by decide) ?_
        refine lv_istore (lv' := [(4, .int 0), (3, .int y1_3), (2, .int y1_2), (0, .ref (ad 13)), (1, .int x0)]) hx hb dX1_countJudged_13 hl (by decide) rfl (fun ls hl => ?_)
        have hloop_4 : ∀ (n : Nat) (y4_4 y4_2 : Int32) (u4 : Nat → Nat → Int32) (H : Heap) (locs : List Loc), 0 ≤ y4_4.toInt → y4_4.toInt ≤ 5 → (5 - y4_4.toInt).toNat < n → Iv u4 → Fz v u4 → va_P (dC, dI) vwCl (wl ad kv cy N u4) H → va_D A (wl ad kv cy N u4) → va_S A s.heap H locs → ∀ ls : Array Slot, lv_has ls 5 [(4, .int y4_4), (3, .int y1_3), (2, .int y4_2), (0, .ref (ad 13)), (1, .int x0)] → W p l e (headSpec wsX1_countJudged ({ frames := 2, cells := 0, slots := 0, locals := 128 })).room s m [Value.ref (ad 13), Value.int x0].toArray below meth c H locs 0 0 (MQ below (va_Qi (fun (r : Int32) (u : Nat → Nat → Int32) => Iv u ∧ Fz v u) (fun u t => ex_Pst dC dI A (wl ad kv cy N u) t) A) [Value.ref (ad 13), Value.int x0].toArray s 0 0 A) (F0 m 15 ls []) := by
          intro n
          induction n with
          | zero =>
            intro y4_4 y4_2 u4 H locs ay4_4 by4_4 hm_4 hv hfr hP hD hS ls hl
            exact absurd hm_4 (by omega)
          | succ n ih_4 =>
            intro y4_4 y4_2 u4 H locs ay4_4 by4_4 hm_4 hv hfr hP hD hS ls hl
            refine lv_iload hx hb dX1_countJudged_15 (lv_at hl 0 rfl) ?_
            refine lv_aload_n hx hb dX1_countJudged_17 rfl (lv_at hl 3 rfl) ?_
            refine va_get (D := (dC, dI)) (ci := 1) (v := .ref (ad 16)) (C := RX1) (T := TX1) (N := 7) hx hb hts iwX1_countJudged_X1 hown hK hP (13) (wl_at (by omega) (ce_3 (by decide))) rfl 6 (by decide) (hts (.fieldLink RX1 25 "QuietStairs$House" "cases" "[LQuietStairs$Case;") fwX1_countJudged_2) (fun _ h9 => h9) rfl dX1_countJudged_18 ?_
            refine lv_iload_n hx hb dX1_countJudged_21 rfl (lv_at hl 1 rfl) ?_
            obtain ⟨pi5, i5, hi5, ni5, mi5⟩ := t_in (x := y1_3) (n := 6) ⟨by omega, by omega⟩
            refine va_aldq hx hb hK hP (16) 3 (wl_at (by omega) (ce_6 (by decide))) rfl pi5 dX1_countJudged_22 ?_
            refine W.eq (g2 := F0 m 23 ls [.ref (ad (29 + 15 * i5)), .int y4_4]) (by rw [ni5, if_pos hi5, show 16 + 13 + 15 * i5 = 29 + 15 * i5 from by omega]; rfl) ?_
            refine va_get (D := (dC, dI)) (ci := 0) (v := .int (u4 (29 + 15 * i5) 5)) (C := RX0) (T := TX0) (N := 11) hx hb hts iwX1_countJudged_X0 hown hK hP (29 + 15 * i5) (wl_at (by omega) (ce_9 (kd_c i5 hi5).1.1)) rfl 5 (by decide) (hts (.fieldLink RX1 82 "QuietStairs$Case" "termCount" "I") fwX1_countJudged_3) (fun _ h9 => h9) rfl dX1_countJudged_23 ?_
            refine lv_topi (fun x_6 ex_6 => ?_)
            have bx_6 : 0 ≤ x_6.toInt ∧ x_6.toInt ≤ 5 := by rw [ex_6]; exact hv.at (K := 9) (kd_c i5 hi5).1.1 rfl
            refine lv_icmp_ge (tgt := 53) hx hb dX1_countJudged_26 (by decide) (fun c_7 => ?_) (fun c_7 => ?_)
            · have tc_7 : y4_4.toInt ≥ x_6.toInt := Int32.le_iff_toInt_le.mp c_7
              obtain ⟨x_8, ex_8⟩ : ∃ y : Int32, y = y1_3 + 1 := ⟨_, rfl⟩
              refine lv_iinc (v := x_8) (lv' := [(3, .int x_8), (4, .int y4_4), (2, .int y4_2), (0, .ref (ad 13)), (1, .int x0)]) hx hb dX1_countJudged_53 hl (k := 1) rfl (by rw [ex_8]; rfl) (by decide) rfl (fun ls hl => ?_)
              have k_1 : (1 : Int32).toInt = 1 := by decide
              have tx_8 : x_8.toInt = y1_3.toInt + (1 : Int32).toInt := by rw [ex_8]; exact t_add ⟨by omega, by omega⟩
              refine lv_goto (tgt := 4) hx hb dX1_countJudged_56 (by decide) ?_
              exact ih_1 x_8 y4_2 u4 H locs (by omega) (by omega) (by omega) hv hfr hP hD hS ls (lv_sub hl [0, 2, 3, 4] rfl)
            · have tc_7 : y4_4.toInt < x_6.toInt := Int32.lt_iff_toInt_lt.mp (Int32.not_le.mp c_7)
              refine lv_aload_n hx hb dX1_countJudged_29 rfl (lv_at hl 3 rfl) ?_
              refine va_get (D := (dC, dI)) (ci := 1) (v := .ref (ad 16)) (C := RX1) (T := TX1) (N := 7) hx hb hts iwX1_countJudged_X1 hown hK hP (13) (wl_at (by omega) (ce_3 (by decide))) rfl 6 (by decide) (hts (.fieldLink RX1 25 "QuietStairs$House" "cases" "[LQuietStairs$Case;") fwX1_countJudged_2) (fun _ h9 => h9) rfl dX1_countJudged_30 ?_
              refine lv_iload_n hx hb dX1_countJudged_33 rfl (lv_at hl 1 rfl) ?_
              refine va_aldq hx hb hK hP (16) 3 (wl_at (by omega) (ce_6 (by decide))) rfl pi5 dX1_countJudged_34 ?_
              refine W.eq (g2 := F0 m 35 ls [.ref (ad (29 + 15 * i5))]) (by rw [ni5, if_pos hi5, show 16 + 13 + 15 * i5 = 29 + 15 * i5 from by omega]; rfl) ?_
              refine lv_iload hx hb dX1_countJudged_35 (lv_at hl 0 rfl) ?_
              refine yw_i (w1 := fun (u : Nat → Nat → Int32) => wl ad kv cy N u) hD hS hA (va_runV (As := [.int y4_4]) (rest := []) ⟨hx, hb, hml, hown, hts⟩ (g_X0_judge l dC dI cy _ ad kv N hN u4 hv i5 hi5 y4_4 ⟨by omega, by omega⟩) (cwV 1 hts gX1_countJudged_X0_judge rfl rfl rfl hd_V_X0_judge_1 ⟨Nat.le_of_ble_eq_true rfl, Nat.le_of_ble_eq_true rfl⟩) (yw_preV hE hK hP hD (ci := 0) (q := (RX0, TX0, 11)) (q0 := (29 + 15 * i5)) rfl (wl_at (by omega) (ce_9 (kd_c i5 hi5).1.1))) rfl rfl hl.1 rfl (lv_room (Nat.le_of_ble_eq_true rfl)) dX1_countJudged_37 ⟨Nat.le_of_ble_eq_true rfl, Nat.le_of_ble_eq_true rfl⟩) (fun r_8 v_8 H locs hw_8 hP hD hS => ?_)
              obtain ⟨hv, hw_8⟩ := hw_8
              have hfr : Fz v v_8 := hfr.trans hw_8
              refine lv_iload_n hx hb dX1_countJudged_40 rfl (lv_at hl 4 rfl) ?_
              refine lv_icmp_ne (tgt := 47) hx hb dX1_countJudged_41 (by decide) (fun c_9 => ?_) (fun c_9 => ?_)
              · have tc_9 : r_8.toInt ≠ x0.toInt := fun q => absurd (Int32.toInt_inj.mp q) c_9
                obtain ⟨x_10, ex_10⟩ : ∃ y : Int32, y = y4_4 + 1 := ⟨_, rfl⟩
                refine lv_iinc (v := x_10) (lv' := [(4, .int x_10), (3, .int y1_3), (2, .int y4_2), (0, .ref (ad 13)), (1, .int x0)]) hx hb dX1_countJudged_47 hl (k := 0) rfl (by rw [ex_10]; rfl) (by decide) rfl (fun ls hl => ?_)
                have k_1 : (1 : Int32).toInt = 1 := by decide
                have tx_10 : x_10.toInt = y4_4.toInt + (1 : Int32).toInt := by rw [ex_10]; exact t_add ⟨by omega, by omega⟩
                refine lv_goto (tgt := 15) hx hb dX1_countJudged_50 (by decide) ?_
                exact ih_4 x_10 y4_2 v_8 H locs (by omega) (by omega) (by omega) hv hfr hP hD hS ls (lv_sub hl [0, 1, 2, 3, 4] rfl)
              · have tc_9 : r_8.toInt = x0.toInt := by rw [c_9]
                obtain ⟨x_10, ex_10⟩ : ∃ y : Int32, y = y4_2 + 1 := ⟨_, rfl⟩
                refine lv_iinc (v := x_10) (lv' := [(2, .int x_10), (4, .int y4_4), (3, .int y1_3), (0, .ref (ad 13)), (1, .int x0)]) hx hb dX1_countJudged_44 hl (k := 2) rfl (by rw [ex_10]; rfl) (by decide) rfl (fun ls hl => ?_)
                obtain ⟨x_11, ex_11⟩ : ∃ y : Int32, y = y4_4 + 1 := ⟨_, rfl⟩
                refine lv_iinc (v := x_11) (lv' := [(4, .int x_11), (2, .int x_10), (3, .int y1_3), (0, .ref (ad 13)), (1, .int x0)]) hx hb dX1_countJudged_47 hl (k := 1) rfl (by rw [ex_11]; rfl) (by decide) rfl (fun ls hl => ?_)
                have k_1 : (1 : Int32).toInt = 1 := by decide
                have tx_11 : x_11.toInt = y4_4.toInt + (1 : Int32).toInt := by rw [ex_11]; exact t_add ⟨by omega, by omega⟩
                refine lv_goto (tgt := 15) hx hb dX1_countJudged_50 (by decide) ?_
                exact ih_4 x_11 x_10 v_8 H locs (by omega) (by omega) (by omega) hv hfr hP hD hS ls (lv_sub hl [0, 2, 1, 3, 4] rfl)
        exact hloop_4 ((5 - (0 : Int32).toInt).toNat + 1) 0 y1_2 u1 _ _ (by omega) (by omega) (by omega) hv hfr hP hD hS ls hl
  exact hloop_1 ((6 - (0 : Int32).toInt).toNat + 1) 0 0 v _ _ (by omega) (by omega) (by omega) hv hfr hP hD hS ls hl
set_option maxRecDepth 20000 in
theorem db_X7_learns_0 : (decode cX7_learns 0 = .ok (.aload_n 0, 1)) ∧ (decode cX7_learns 1 = .ok (.iload_n 1, 1)) ∧ (decode cX7_learns 2 = .ok (.invokevirtual 96, 3)) ∧ (decode cX7_learns 5 = .ok (.ifCond .eq 10, 3)) ∧ (decode cX7_learns 8 = .ok (.iload_n 2, 1)) ∧ (decode cX7_learns 9 = .ok (.invokestatic 132, 3)) ∧ (decode cX7_learns 12 = .ok (.ifCond .ne 5, 3)) ∧ (decode cX7_learns 17 = .ok (.aload_n 0, 1)) := by decide +kernel
theorem dX7_learns_0 : decode cX7_learns 0 = .ok (.aload_n 0, 1) := db_X7_learns_0.1
theorem dX7_learns_1 : decode cX7_learns 1 = .ok (.iload_n 1, 1) := db_X7_learns_0.2.1
set_option maxRecDepth 20000 in
theorem ggX7_learns_X7_isCase : GoodIn wsX7_learns wsX7_isCase := goodIn_r _ [8, 1, 9, 10, 11, 7, 12, 40, 41, 42, 43, 44, 45, 46, 47, 48, 49, 50, 51] rfl (by decide +kernel)
set_option maxRecDepth 20000 in
theorem gX7_learns_X7_isCase : GoodIn wsX7_learns (wsV RX7 96 RX7 yX7_isCase wsX7_isCase) := goodIn_app (goodIn_r _ [4, 5, 6, 7] rfl (by decide +kernel)) ggX7_learns_X7_isCase
theorem dX7_learns_2 : decode cX7_learns 2 = .ok (.invokevirtual 96, 3) := db_X7_learns_0.2.2.1
theorem dX7_learns_5 : decode cX7_learns 5 = .ok (.ifCond .eq 10, 3) := db_X7_learns_0.2.2.2.1
theorem dX7_learns_8 : decode cX7_learns 8 = .ok (.iload_n 2, 1) := db_X7_learns_0.2.2.2.2.1
set_option maxRecDepth 20000 in
theorem ggX7_learns_X7_isSide : GoodIn wsX7_learns wsX7_isSide := goodIn_r _ [15, 10, 11, 7, 12] rfl (by decide +kernel)
set_option maxRecDepth 20000 in
theorem gX7_learns_X7_isSide : GoodIn wsX7_learns (va_wsS RX7 132 yX7_isSide wsX7_isSide) := goodIn_app (goodIn_r _ [13, 14, 7] rfl (by decide +kernel)) ggX7_learns_X7_isSide
theorem dX7_learns_9 : decode cX7_learns 9 = .ok (.invokestatic 132, 3) := db_X7_learns_0.2.2.2.2.2.1
theorem dX7_learns_12 : decode cX7_learns 12 = .ok (.ifCond .ne 5, 3) := db_X7_learns_0.2.2.2.2.2.2.1
theorem dX7_learns_17 : decode cX7_learns 17 = .ok (.aload_n 0, 1) := db_X7_learns_0.2.2.2.2.2.2.2
set_option maxRecDepth 20000 in
theorem db_X7_learns_18 : (decode cX7_learns 18 = .ok (.getfield 12, 3)) ∧ (decode cX7_learns 21 = .ok (.getfield 86, 3)) ∧ (decode cX7_learns 24 = .ok (.iload_n 1, 1)) ∧ (decode cX7_learns 25 = .ok (.aaload, 1)) ∧ (decode cX7_learns 26 = .ok (.astore 5, 2)) ∧ (decode cX7_learns 28 = .ok (.iload_n 3, 1)) ∧ (decode cX7_learns 29 = .ok (.iconst 0, 1)) ∧ (decode cX7_learns 30 = .ok (.aload 5, 2)) := by decide +kernel
theorem dX7_learns_18 : decode cX7_learns 18 = .ok (.getfield 12, 3) := db_X7_learns_18.1
theorem dX7_learns_21 : decode cX7_learns 21 = .ok (.getfield 86, 3) := db_X7_learns_18.2.1
theorem dX7_learns_24 : decode cX7_learns 24 = .ok (.iload_n 1, 1) := db_X7_learns_18.2.2.1
theorem dX7_learns_25 : decode cX7_learns 25 = .ok (.aaload, 1) := db_X7_learns_18.2.2.2.1
theorem dX7_learns_26 : decode cX7_learns 26 = .ok (.astore 5, 2) := db_X7_learns_18.2.2.2.2.1
theorem dX7_learns_28 : decode cX7_learns 28 = .ok (.iload_n 3, 1) := db_X7_learns_18.2.2.2.2.2.1
theorem dX7_learns_29 : decode cX7_learns 29 = .ok (.iconst 0, 1) := db_X7_learns_18.2.2.2.2.2.2.1
theorem dX7_learns_30 : decode cX7_learns 30 = .ok (.aload 5, 2) := db_X7_learns_18.2.2.2.2.2.2.2
set_option maxRecDepth 20000 in
theorem db_X7_learns_32 : (decode cX7_learns 32 = .ok (.getfield 117, 3)) ∧ (decode cX7_learns 35 = .ok (.iconst 1, 1)) ∧ (decode cX7_learns 36 = .ok (.isub, 1)) ∧ (decode cX7_learns 37 = .ok (.invokestatic 37, 3)) ∧ (decode cX7_learns 40 = .ok (.ifCond .ne 6, 3)) ∧ (decode cX7_learns 46 = .ok (.iload 4, 2)) ∧ (decode cX7_learns 48 = .ok (.ifCond .eq 13, 3)) ∧ (decode cX7_learns 61 = .ok (.aload 5, 2)) := by decide +kernel
theorem dX7_learns_32 : decode cX7_learns 32 = .ok (.getfield 117, 3) := db_X7_learns_32.1
theorem dX7_learns_35 : decode cX7_learns 35 = .ok (.iconst 1, 1) := db_X7_learns_32.2.1
theorem dX7_learns_36 : decode cX7_learns 36 = .ok (.isub, 1) := db_X7_learns_32.2.2.1
set_option maxRecDepth 20000 in
theorem ggX7_learns_X7_isWithin : GoodIn wsX7_learns wsX7_isWithin := goodIn_r _ [12] rfl (by decide +kernel)
set_option maxRecDepth 20000 in
theorem gX7_learns_X7_isWithin : GoodIn wsX7_learns (va_wsS RX7 37 yX7_isWithin wsX7_isWithin) := goodIn_app (goodIn_r _ [10, 11, 7] rfl (by decide +kernel)) ggX7_learns_X7_isWithin
theorem dX7_learns_37 : decode cX7_learns 37 = .ok (.invokestatic 37, 3) := db_X7_learns_32.2.2.2.1
theorem dX7_learns_40 : decode cX7_learns 40 = .ok (.ifCond .ne 6, 3) := db_X7_learns_32.2.2.2.2.1
theorem dX7_learns_46 : decode cX7_learns 46 = .ok (.iload 4, 2) := db_X7_learns_32.2.2.2.2.2.1
theorem dX7_learns_48 : decode cX7_learns 48 = .ok (.ifCond .eq 13, 3) := db_X7_learns_32.2.2.2.2.2.2.1
theorem dX7_learns_61 : decode cX7_learns 61 = .ok (.aload 5, 2) := db_X7_learns_32.2.2.2.2.2.2.2
set_option maxRecDepth 20000 in
theorem db_X7_learns_63 : (decode cX7_learns 63 = .ok (.iload_n 2, 1)) ∧ (decode cX7_learns 64 = .ok (.iload_n 3, 1)) ∧ (decode cX7_learns 65 = .ok (.invokevirtual 146, 3)) ∧ (decode cX7_learns 68 = .ok (.ireturn, 1)) ∧ (decode cX7_learns 51 = .ok (.aload 5, 2)) ∧ (decode cX7_learns 53 = .ok (.iload_n 2, 1)) ∧ (decode cX7_learns 54 = .ok (.iload_n 3, 1)) ∧ (decode cX7_learns 55 = .ok (.invokevirtual 142, 3)) := by decide +kernel
theorem dX7_learns_63 : decode cX7_learns 63 = .ok (.iload_n 2, 1) := db_X7_learns_63.1
theorem dX7_learns_64 : decode cX7_learns 64 = .ok (.iload_n 3, 1) := db_X7_learns_63.2.1
set_option maxRecDepth 20000 in
theorem ggX7_learns_X0_leastOfOther : GoodIn wsX7_learns wsX0_leastOfOther := goodIn_r _ [36, 21, 22, 37, 38, 25, 39, 27, 28, 29, 19, 30, 31, 32, 52, 53, 54, 55, 56, 57, 58, 59, 60, 61, 62] rfl (by decide +kernel)
set_option maxRecDepth 20000 in
theorem gX7_learns_X0_leastOfOther : GoodIn wsX7_learns (wsV RX7 146 RX0 yX0_leastOfOther wsX0_leastOfOther) := goodIn_app (goodIn_r _ [33, 34, 35, 19] rfl (by decide +kernel)) ggX7_learns_X0_leastOfOther
theorem dX7_learns_65 : decode cX7_learns 65 = .ok (.invokevirtual 146, 3) := db_X7_learns_63.2.2.1
theorem dX7_learns_68 : decode cX7_learns 68 = .ok (.ireturn, 1) := db_X7_learns_63.2.2.2.1
theorem dX7_learns_51 : decode cX7_learns 51 = .ok (.aload 5, 2) := db_X7_learns_63.2.2.2.2.1
theorem dX7_learns_53 : decode cX7_learns 53 = .ok (.iload_n 2, 1) := db_X7_learns_63.2.2.2.2.2.1
theorem dX7_learns_54 : decode cX7_learns 54 = .ok (.iload_n 3, 1) := db_X7_learns_63.2.2.2.2.2.2.1
set_option maxRecDepth 20000 in
theorem ggX7_learns_X0_greatestOfOther : GoodIn wsX7_learns wsX0_greatestOfOther := goodIn_r _ [20, 21, 22, 23, 24, 25, 26, 27, 28, 29, 19, 30, 31, 32, 52, 53, 54, 55, 56, 57, 58, 59, 60, 61, 62] rfl (by decide +kernel)
set_option maxRecDepth 20000 in
theorem gX7_learns_X0_greatestOfOther : GoodIn wsX7_learns (wsV RX7 142 RX0 yX0_greatestOfOther wsX0_greatestOfOther) := goodIn_app (goodIn_r _ [16, 17, 18, 19] rfl (by decide +kernel)) ggX7_learns_X0_greatestOfOther
theorem dX7_learns_55 : decode cX7_learns 55 = .ok (.invokevirtual 142, 3) := db_X7_learns_63.2.2.2.2.2.2.2
set_option maxRecDepth 20000 in
theorem db_X7_learns_58 : (decode cX7_learns 58 = .ok (.goto 10, 3)) ∧ (decode cX7_learns 43 = .ok (.bipush (-5), 2)) ∧ (decode cX7_learns 45 = .ok (.ireturn, 1)) ∧ (decode cX7_learns 15 = .ok (.iconst (-1), 1)) ∧ (decode cX7_learns 16 = .ok (.ireturn, 1)) := by decide +kernel
theorem dX7_learns_58 : decode cX7_learns 58 = .ok (.goto 10, 3) := db_X7_learns_58.1
theorem dX7_learns_43 : decode cX7_learns 43 = .ok (.bipush (-5), 2) := db_X7_learns_58.2.1
theorem dX7_learns_45 : decode cX7_learns 45 = .ok (.ireturn, 1) := db_X7_learns_58.2.2.1
theorem dX7_learns_15 : decode cX7_learns 15 = .ok (.iconst (-1), 1) := db_X7_learns_58.2.2.2.1
theorem dX7_learns_16 : decode cX7_learns 16 = .ok (.ireturn, 1) := db_X7_learns_58.2.2.2.2
set_option maxRecDepth 20000 in
theorem db_X7_termOf_0 : (decode cX7_termOf 0 = .ok (.aload_n 0, 1)) ∧ (decode cX7_termOf 1 = .ok (.iload_n 1, 1)) ∧ (decode cX7_termOf 2 = .ok (.iload_n 2, 1)) ∧ (decode cX7_termOf 3 = .ok (.invokevirtual 194, 3)) ∧ (decode cX7_termOf 6 = .ok (.ifCond .ne 5, 3)) ∧ (decode cX7_termOf 11 = .ok (.aload_n 0, 1)) ∧ (decode cX7_termOf 12 = .ok (.getfield 12, 3)) ∧ (decode cX7_termOf 15 = .ok (.getfield 86, 3)) := by decide +kernel
theorem dX7_termOf_0 : decode cX7_termOf 0 = .ok (.aload_n 0, 1) := db_X7_termOf_0.1
theorem dX7_termOf_1 : decode cX7_termOf 1 = .ok (.iload_n 1, 1) := db_X7_termOf_0.2.1
theorem dX7_termOf_2 : decode cX7_termOf 2 = .ok (.iload_n 2, 1) := db_X7_termOf_0.2.2.1
set_option maxRecDepth 20000 in
theorem ggX7_termOf_X7_isTerm : GoodIn wsX7_termOf wsX7_isTerm := goodIn_r _ [13, 1, 2, 14, 15, 16, 17, 12, 18, 19, 20, 21, 22, 23, 24, 25, 26, 27, 28, 29, 30, 31, 32, 33, 34, 35, 36, 37, 38, 39, 40, 41, 42, 43, 44, 45] rfl (by decide +kernel)
set_option maxRecDepth 20000 in
theorem gX7_termOf_X7_isTerm : GoodIn wsX7_termOf (wsV RX7 194 RX7 yX7_isTerm wsX7_isTerm) := goodIn_app (goodIn_r _ [9, 10, 11, 12] rfl (by decide +kernel)) ggX7_termOf_X7_isTerm
theorem dX7_termOf_3 : decode cX7_termOf 3 = .ok (.invokevirtual 194, 3) := db_X7_termOf_0.2.2.2.1
theorem dX7_termOf_6 : decode cX7_termOf 6 = .ok (.ifCond .ne 5, 3) := db_X7_termOf_0.2.2.2.2.1
theorem dX7_termOf_11 : decode cX7_termOf 11 = .ok (.aload_n 0, 1) := db_X7_termOf_0.2.2.2.2.2.1
theorem dX7_termOf_12 : decode cX7_termOf 12 = .ok (.getfield 12, 3) := db_X7_termOf_0.2.2.2.2.2.2.1
theorem dX7_termOf_15 : decode cX7_termOf 15 = .ok (.getfield 86, 3) := db_X7_termOf_0.2.2.2.2.2.2.2
set_option maxRecDepth 20000 in
theorem db_X7_termOf_18 : (decode cX7_termOf 18 = .ok (.iload_n 1, 1)) ∧ (decode cX7_termOf 19 = .ok (.aaload, 1)) ∧ (decode cX7_termOf 20 = .ok (.getfield 172, 3)) ∧ (decode cX7_termOf 23 = .ok (.iload_n 2, 1)) ∧ (decode cX7_termOf 24 = .ok (.aaload, 1)) ∧ (decode cX7_termOf 25 = .ok (.astore 4, 2)) ∧ (decode cX7_termOf 27 = .ok (.iload_n 3, 1)) ∧ (decode cX7_termOf 28 = .ok (.tableswitch 74 0 4 #[36, 42, 56, 62, 68], 36)) := by decide +kernel
theorem dX7_termOf_18 : decode cX7_termOf 18 = .ok (.iload_n 1, 1) := db_X7_termOf_18.1
theorem dX7_termOf_19 : decode cX7_termOf 19 = .ok (.aaload, 1) := db_X7_termOf_18.2.1
theorem dX7_termOf_20 : decode cX7_termOf 20 = .ok (.getfield 172, 3) := db_X7_termOf_18.2.2.1
theorem dX7_termOf_23 : decode cX7_termOf 23 = .ok (.iload_n 2, 1) := db_X7_termOf_18.2.2.2.1
theorem dX7_termOf_24 : decode cX7_termOf 24 = .ok (.aaload, 1) := db_X7_termOf_18.2.2.2.2.1
theorem dX7_termOf_25 : decode cX7_termOf 25 = .ok (.astore 4, 2) := db_X7_termOf_18.2.2.2.2.2.1
theorem dX7_termOf_27 : decode cX7_termOf 27 = .ok (.iload_n 3, 1) := db_X7_termOf_18.2.2.2.2.2.2.1
theorem dX7_termOf_28 : decode cX7_termOf 28 = .ok (.tableswitch 74 0 4 #[36, 42, 56, 62, 68], 36) := db_X7_termOf_18.2.2.2.2.2.2.2
set_option maxRecDepth 20000 in
theorem db_X7_termOf_102 : (decode cX7_termOf 102 = .ok (.iconst (-1), 1)) ∧ (decode cX7_termOf 103 = .ok (.ireturn, 1)) ∧ (decode cX7_termOf 64 = .ok (.aload 4, 2)) ∧ (decode cX7_termOf 66 = .ok (.getfield 176, 3)) ∧ (decode cX7_termOf 69 = .ok (.ireturn, 1)) ∧ (decode cX7_termOf 70 = .ok (.aload 4, 2)) ∧ (decode cX7_termOf 72 = .ok (.getfield 181, 3)) ∧ (decode cX7_termOf 75 = .ok (.ifCond .eq 7, 3)) := by decide +kernel
theorem dX7_termOf_102 : decode cX7_termOf 102 = .ok (.iconst (-1), 1) := db_X7_termOf_102.1
theorem dX7_termOf_103 : decode cX7_termOf 103 = .ok (.ireturn, 1) := db_X7_termOf_102.2.1
theorem dX7_termOf_64 : decode cX7_termOf 64 = .ok (.aload 4, 2) := db_X7_termOf_102.2.2.1
theorem dX7_termOf_66 : decode cX7_termOf 66 = .ok (.getfield 176, 3) := db_X7_termOf_102.2.2.2.1
theorem dX7_termOf_69 : decode cX7_termOf 69 = .ok (.ireturn, 1) := db_X7_termOf_102.2.2.2.2.1
theorem dX7_termOf_70 : decode cX7_termOf 70 = .ok (.aload 4, 2) := db_X7_termOf_102.2.2.2.2.2.1
theorem dX7_termOf_72 : decode cX7_termOf 72 = .ok (.getfield 181, 3) := db_X7_termOf_102.2.2.2.2.2.2.1
theorem dX7_termOf_75 : decode cX7_termOf 75 = .ok (.ifCond .eq 7, 3) := db_X7_termOf_102.2.2.2.2.2.2.2
set_option maxRecDepth 20000 in
theorem db_X7_termOf_82 : (decode cX7_termOf 82 = .ok (.iconst 0, 1)) ∧ (decode cX7_termOf 83 = .ok (.ireturn, 1)) ∧ (decode cX7_termOf 78 = .ok (.iconst 1, 1)) ∧ (decode cX7_termOf 79 = .ok (.goto 4, 3)) ∧ (decode cX7_termOf 84 = .ok (.aload 4, 2)) ∧ (decode cX7_termOf 86 = .ok (.getfield 185, 3)) ∧ (decode cX7_termOf 89 = .ok (.ireturn, 1)) ∧ (decode cX7_termOf 90 = .ok (.aload 4, 2)) := by decide +kernel
theorem dX7_termOf_82 : decode cX7_termOf 82 = .ok (.iconst 0, 1) := db_X7_termOf_82.1
theorem dX7_termOf_83 : decode cX7_termOf 83 = .ok (.ireturn, 1) := db_X7_termOf_82.2.1
theorem dX7_termOf_78 : decode cX7_termOf 78 = .ok (.iconst 1, 1) := db_X7_termOf_82.2.2.1
theorem dX7_termOf_79 : decode cX7_termOf 79 = .ok (.goto 4, 3) := db_X7_termOf_82.2.2.2.1
theorem dX7_termOf_84 : decode cX7_termOf 84 = .ok (.aload 4, 2) := db_X7_termOf_82.2.2.2.2.1
theorem dX7_termOf_86 : decode cX7_termOf 86 = .ok (.getfield 185, 3) := db_X7_termOf_82.2.2.2.2.2.1
theorem dX7_termOf_89 : decode cX7_termOf 89 = .ok (.ireturn, 1) := db_X7_termOf_82.2.2.2.2.2.2.1
theorem dX7_termOf_90 : decode cX7_termOf 90 = .ok (.aload 4, 2) := db_X7_termOf_82.2.2.2.2.2.2.2
set_option maxRecDepth 20000 in
theorem db_X7_termOf_92 : (decode cX7_termOf 92 = .ok (.getfield 188, 3)) ∧ (decode cX7_termOf 95 = .ok (.ireturn, 1)) ∧ (decode cX7_termOf 96 = .ok (.aload 4, 2)) ∧ (decode cX7_termOf 98 = .ok (.getfield 191, 3)) ∧ (decode cX7_termOf 101 = .ok (.ireturn, 1)) ∧ (decode cX7_termOf 9 = .ok (.iconst (-1), 1)) ∧ (decode cX7_termOf 10 = .ok (.ireturn, 1)) := by decide +kernel
theorem dX7_termOf_92 : decode cX7_termOf 92 = .ok (.getfield 188, 3) := db_X7_termOf_92.1
theorem dX7_termOf_95 : decode cX7_termOf 95 = .ok (.ireturn, 1) := db_X7_termOf_92.2.1
theorem dX7_termOf_96 : decode cX7_termOf 96 = .ok (.aload 4, 2) := db_X7_termOf_92.2.2.1
theorem dX7_termOf_98 : decode cX7_termOf 98 = .ok (.getfield 191, 3) := db_X7_termOf_92.2.2.2.1
theorem dX7_termOf_101 : decode cX7_termOf 101 = .ok (.ireturn, 1) := db_X7_termOf_92.2.2.2.2.1
theorem dX7_termOf_9 : decode cX7_termOf 9 = .ok (.iconst (-1), 1) := db_X7_termOf_92.2.2.2.2.2.1
theorem dX7_termOf_10 : decode cX7_termOf 10 = .ok (.ireturn, 1) := db_X7_termOf_92.2.2.2.2.2.2
set_option maxRecDepth 20000 in
theorem db_X7_judged_0 : (decode cX7_judged 0 = .ok (.aload_n 0, 1)) ∧ (decode cX7_judged 1 = .ok (.iload_n 1, 1)) ∧ (decode cX7_judged 2 = .ok (.iload_n 2, 1)) ∧ (decode cX7_judged 3 = .ok (.invokevirtual 194, 3)) ∧ (decode cX7_judged 6 = .ok (.ifCond .ne 5, 3)) ∧ (decode cX7_judged 11 = .ok (.aload_n 0, 1)) ∧ (decode cX7_judged 12 = .ok (.getfield 12, 3)) ∧ (decode cX7_judged 15 = .ok (.getfield 86, 3)) := by decide +kernel
theorem dX7_judged_0 : decode cX7_judged 0 = .ok (.aload_n 0, 1) := db_X7_judged_0.1
theorem dX7_judged_1 : decode cX7_judged 1 = .ok (.iload_n 1, 1) := db_X7_judged_0.2.1
theorem dX7_judged_2 : decode cX7_judged 2 = .ok (.iload_n 2, 1) := db_X7_judged_0.2.2.1
set_option maxRecDepth 20000 in
theorem ggX7_judged_X7_isTerm : GoodIn wsX7_judged wsX7_isTerm := goodIn_r _ [7, 1, 2, 8, 9, 10, 11, 6, 12, 13, 14, 15, 16, 29, 30, 31, 32, 33, 34, 35, 36, 37, 38, 39, 40, 41, 42, 43, 44, 45, 46, 47, 48, 49, 50, 51] rfl (by decide +kernel)
set_option maxRecDepth 20000 in
theorem gX7_judged_X7_isTerm : GoodIn wsX7_judged (wsV RX7 194 RX7 yX7_isTerm wsX7_isTerm) := goodIn_app (goodIn_r _ [3, 4, 5, 6] rfl (by decide +kernel)) ggX7_judged_X7_isTerm
theorem dX7_judged_3 : decode cX7_judged 3 = .ok (.invokevirtual 194, 3) := db_X7_judged_0.2.2.2.1
theorem dX7_judged_6 : decode cX7_judged 6 = .ok (.ifCond .ne 5, 3) := db_X7_judged_0.2.2.2.2.1
theorem dX7_judged_11 : decode cX7_judged 11 = .ok (.aload_n 0, 1) := db_X7_judged_0.2.2.2.2.2.1
theorem dX7_judged_12 : decode cX7_judged 12 = .ok (.getfield 12, 3) := db_X7_judged_0.2.2.2.2.2.2.1
theorem dX7_judged_15 : decode cX7_judged 15 = .ok (.getfield 86, 3) := db_X7_judged_0.2.2.2.2.2.2.2
set_option maxRecDepth 20000 in
theorem db_X7_judged_18 : (decode cX7_judged 18 = .ok (.iload_n 1, 1)) ∧ (decode cX7_judged 19 = .ok (.aaload, 1)) ∧ (decode cX7_judged 20 = .ok (.iload_n 2, 1)) ∧ (decode cX7_judged 21 = .ok (.invokevirtual 211, 3)) ∧ (decode cX7_judged 24 = .ok (.ireturn, 1)) ∧ (decode cX7_judged 9 = .ok (.iconst (-1), 1)) ∧ (decode cX7_judged 10 = .ok (.ireturn, 1)) := by decide +kernel
theorem dX7_judged_18 : decode cX7_judged 18 = .ok (.iload_n 1, 1) := db_X7_judged_18.1
theorem dX7_judged_19 : decode cX7_judged 19 = .ok (.aaload, 1) := db_X7_judged_18.2.1
theorem dX7_judged_20 : decode cX7_judged 20 = .ok (.iload_n 2, 1) := db_X7_judged_18.2.2.1
set_option maxRecDepth 20000 in
theorem ggX7_judged_X0_judge : GoodIn wsX7_judged wsX0_judge := goodIn_r _ [21, 22, 23, 24, 25, 26, 27, 28, 41, 42, 43, 44, 45, 46, 47, 48, 49, 50, 51, 52, 53, 54, 55, 56] rfl (by decide +kernel)
set_option maxRecDepth 20000 in
theorem gX7_judged_X0_judge : GoodIn wsX7_judged (wsV RX7 211 RX0 yX0_judge wsX0_judge) := goodIn_app (goodIn_r _ [17, 18, 19, 20] rfl (by decide +kernel)) ggX7_judged_X0_judge
theorem dX7_judged_21 : decode cX7_judged 21 = .ok (.invokevirtual 211, 3) := db_X7_judged_18.2.2.2.1
theorem dX7_judged_24 : decode cX7_judged 24 = .ok (.ireturn, 1) := db_X7_judged_18.2.2.2.2.1
theorem dX7_judged_9 : decode cX7_judged 9 = .ok (.iconst (-1), 1) := db_X7_judged_18.2.2.2.2.2.1
theorem dX7_judged_10 : decode cX7_judged 10 = .ok (.ireturn, 1) := db_X7_judged_18.2.2.2.2.2.2
set_option maxRecDepth 20000 in
theorem db_X7_of_0 : (decode cX7_of 0 = .ok (.aload_n 0, 1)) ∧ (decode cX7_of 1 = .ok (.iload_n 1, 1)) ∧ (decode cX7_of 2 = .ok (.invokevirtual 96, 3)) ∧ (decode cX7_of 5 = .ok (.ifCond .ne 5, 3)) ∧ (decode cX7_of 10 = .ok (.aload_n 0, 1)) ∧ (decode cX7_of 11 = .ok (.getfield 12, 3)) ∧ (decode cX7_of 14 = .ok (.getfield 86, 3)) ∧ (decode cX7_of 17 = .ok (.iload_n 1, 1)) := by decide +kernel
theorem dX7_of_0 : decode cX7_of 0 = .ok (.aload_n 0, 1) := db_X7_of_0.1
theorem dX7_of_1 : decode cX7_of 1 = .ok (.iload_n 1, 1) := db_X7_of_0.2.1
set_option maxRecDepth 20000 in
theorem ggX7_of_X7_isCase : GoodIn wsX7_of wsX7_isCase := goodIn_r _ [12, 1, 13, 14, 15, 11, 16, 39, 40, 41, 42, 43, 44, 45, 46, 47, 48, 49, 50] rfl (by decide +kernel)
set_option maxRecDepth 20000 in
theorem gX7_of_X7_isCase : GoodIn wsX7_of (wsV RX7 96 RX7 yX7_isCase wsX7_isCase) := goodIn_app (goodIn_r _ [8, 9, 10, 11] rfl (by decide +kernel)) ggX7_of_X7_isCase
theorem dX7_of_2 : decode cX7_of 2 = .ok (.invokevirtual 96, 3) := db_X7_of_0.2.2.1
theorem dX7_of_5 : decode cX7_of 5 = .ok (.ifCond .ne 5, 3) := db_X7_of_0.2.2.2.1
theorem dX7_of_10 : decode cX7_of 10 = .ok (.aload_n 0, 1) := db_X7_of_0.2.2.2.2.1
theorem dX7_of_11 : decode cX7_of 11 = .ok (.getfield 12, 3) := db_X7_of_0.2.2.2.2.2.1
theorem dX7_of_14 : decode cX7_of 14 = .ok (.getfield 86, 3) := db_X7_of_0.2.2.2.2.2.2.1
theorem dX7_of_17 : decode cX7_of 17 = .ok (.iload_n 1, 1) := db_X7_of_0.2.2.2.2.2.2.2
set_option maxRecDepth 20000 in
theorem db_X7_of_18 : (decode cX7_of 18 = .ok (.aaload, 1)) ∧ (decode cX7_of 19 = .ok (.astore_n 3, 1)) ∧ (decode cX7_of 20 = .ok (.iload_n 2, 1)) ∧ (decode cX7_of 21 = .ok (.tableswitch 115 0 7 #[47, 54, 61, 66, 84, 89, 98, 110], 47)) ∧ (decode cX7_of 136 = .ok (.iconst (-1), 1)) ∧ (decode cX7_of 137 = .ok (.ireturn, 1)) ∧ (decode cX7_of 68 = .ok (.aload_n 3, 1)) ∧ (decode cX7_of 69 = .ok (.getfield 111, 3)) := by decide +kernel
theorem dX7_of_18 : decode cX7_of 18 = .ok (.aaload, 1) := db_X7_of_18.1
theorem dX7_of_19 : decode cX7_of 19 = .ok (.astore_n 3, 1) := db_X7_of_18.2.1
theorem dX7_of_20 : decode cX7_of 20 = .ok (.iload_n 2, 1) := db_X7_of_18.2.2.1
theorem dX7_of_21 : decode cX7_of 21 = .ok (.tableswitch 115 0 7 #[47, 54, 61, 66, 84, 89, 98, 110], 47) := db_X7_of_18.2.2.2.1
theorem dX7_of_136 : decode cX7_of 136 = .ok (.iconst (-1), 1) := db_X7_of_18.2.2.2.2.1
theorem dX7_of_137 : decode cX7_of 137 = .ok (.ireturn, 1) := db_X7_of_18.2.2.2.2.2.1
theorem dX7_of_68 : decode cX7_of 68 = .ok (.aload_n 3, 1) := db_X7_of_18.2.2.2.2.2.2.1
theorem dX7_of_69 : decode cX7_of 69 = .ok (.getfield 111, 3) := db_X7_of_18.2.2.2.2.2.2.2
set_option maxRecDepth 20000 in
theorem db_X7_of_72 : (decode cX7_of 72 = .ok (.iconst 0, 1)) ∧ (decode cX7_of 73 = .ok (.iaload, 1)) ∧ (decode cX7_of 74 = .ok (.ireturn, 1)) ∧ (decode cX7_of 75 = .ok (.aload_n 3, 1)) ∧ (decode cX7_of 76 = .ok (.getfield 111, 3)) ∧ (decode cX7_of 79 = .ok (.iconst 1, 1)) ∧ (decode cX7_of 80 = .ok (.iaload, 1)) ∧ (decode cX7_of 81 = .ok (.ireturn, 1)) := by decide +kernel
theorem dX7_of_72 : decode cX7_of 72 = .ok (.iconst 0, 1) := db_X7_of_72.1
theorem dX7_of_73 : decode cX7_of 73 = .ok (.iaload, 1) := db_X7_of_72.2.1
theorem dX7_of_74 : decode cX7_of 74 = .ok (.ireturn, 1) := db_X7_of_72.2.2.1
theorem dX7_of_75 : decode cX7_of 75 = .ok (.aload_n 3, 1) := db_X7_of_72.2.2.2.1
theorem dX7_of_76 : decode cX7_of 76 = .ok (.getfield 111, 3) := db_X7_of_72.2.2.2.2.1
theorem dX7_of_79 : decode cX7_of 79 = .ok (.iconst 1, 1) := db_X7_of_72.2.2.2.2.2.1
theorem dX7_of_80 : decode cX7_of 80 = .ok (.iaload, 1) := db_X7_of_72.2.2.2.2.2.2.1
theorem dX7_of_81 : decode cX7_of 81 = .ok (.ireturn, 1) := db_X7_of_72.2.2.2.2.2.2.2
set_option maxRecDepth 20000 in
theorem db_X7_of_82 : (decode cX7_of 82 = .ok (.aload_n 3, 1)) ∧ (decode cX7_of 83 = .ok (.getfield 99, 3)) ∧ (decode cX7_of 86 = .ok (.ireturn, 1)) ∧ (decode cX7_of 87 = .ok (.aload_n 3, 1)) ∧ (decode cX7_of 88 = .ok (.getfield 99, 3)) ∧ (decode cX7_of 91 = .ok (.iconst 1, 1)) ∧ (decode cX7_of 92 = .ok (.if_icmp .ne 10, 3)) ∧ (decode cX7_of 102 = .ok (.bipush (-5), 2)) := by decide +kernel
theorem dX7_of_82 : decode cX7_of 82 = .ok (.aload_n 3, 1) := db_X7_of_82.1
theorem dX7_of_83 : decode cX7_of 83 = .ok (.getfield 99, 3) := db_X7_of_82.2.1
theorem dX7_of_86 : decode cX7_of 86 = .ok (.ireturn, 1) := db_X7_of_82.2.2.1
theorem dX7_of_87 : decode cX7_of 87 = .ok (.aload_n 3, 1) := db_X7_of_82.2.2.2.1
theorem dX7_of_88 : decode cX7_of 88 = .ok (.getfield 99, 3) := db_X7_of_82.2.2.2.2.1
theorem dX7_of_91 : decode cX7_of 91 = .ok (.iconst 1, 1) := db_X7_of_82.2.2.2.2.2.1
theorem dX7_of_92 : decode cX7_of 92 = .ok (.if_icmp .ne 10, 3) := db_X7_of_82.2.2.2.2.2.2.1
theorem dX7_of_102 : decode cX7_of 102 = .ok (.bipush (-5), 2) := db_X7_of_82.2.2.2.2.2.2.2
set_option maxRecDepth 20000 in
theorem db_X7_of_104 : (decode cX7_of 104 = .ok (.ireturn, 1)) ∧ (decode cX7_of 95 = .ok (.aload_n 3, 1)) ∧ (decode cX7_of 96 = .ok (.getfield 114, 3)) ∧ (decode cX7_of 99 = .ok (.goto 5, 3)) ∧ (decode cX7_of 105 = .ok (.aload_n 3, 1)) ∧ (decode cX7_of 106 = .ok (.getfield 117, 3)) ∧ (decode cX7_of 109 = .ok (.ireturn, 1)) ∧ (decode cX7_of 110 = .ok (.aload_n 0, 1)) := by decide +kernel
theorem dX7_of_104 : decode cX7_of 104 = .ok (.ireturn, 1) := db_X7_of_104.1
theorem dX7_of_95 : decode cX7_of 95 = .ok (.aload_n 3, 1) := db_X7_of_104.2.1
theorem dX7_of_96 : decode cX7_of 96 = .ok (.getfield 114, 3) := db_X7_of_104.2.2.1
theorem dX7_of_99 : decode cX7_of 99 = .ok (.goto 5, 3) := db_X7_of_104.2.2.2.1
theorem dX7_of_105 : decode cX7_of 105 = .ok (.aload_n 3, 1) := db_X7_of_104.2.2.2.2.1
theorem dX7_of_106 : decode cX7_of 106 = .ok (.getfield 117, 3) := db_X7_of_104.2.2.2.2.2.1
theorem dX7_of_109 : decode cX7_of 109 = .ok (.ireturn, 1) := db_X7_of_104.2.2.2.2.2.2.1
theorem dX7_of_110 : decode cX7_of 110 = .ok (.aload_n 0, 1) := db_X7_of_104.2.2.2.2.2.2.2
set_option maxRecDepth 20000 in
theorem db_X7_of_111 : (decode cX7_of 111 = .ok (.getfield 12, 3)) ∧ (decode cX7_of 114 = .ok (.iload_n 1, 1)) ∧ (decode cX7_of 115 = .ok (.invokevirtual 120, 3)) ∧ (decode cX7_of 118 = .ok (.ireturn, 1)) ∧ (decode cX7_of 119 = .ok (.aload_n 0, 1)) ∧ (decode cX7_of 120 = .ok (.getfield 12, 3)) ∧ (decode cX7_of 123 = .ok (.iload_n 1, 1)) ∧ (decode cX7_of 124 = .ok (.invokevirtual 124, 3)) := by decide +kernel
theorem dX7_of_111 : decode cX7_of 111 = .ok (.getfield 12, 3) := db_X7_of_111.1
theorem dX7_of_114 : decode cX7_of 114 = .ok (.iload_n 1, 1) := db_X7_of_111.2.1
set_option maxRecDepth 20000 in
theorem ggX7_of_X1_headOfQuarrel : GoodIn wsX7_of wsX1_headOfQuarrel := goodIn_r _ [21, 22, 23, 24, 20, 25, 26, 27, 28, 29, 11, 30, 44, 45, 46, 47, 48, 49, 50, 51, 52, 53, 54, 55, 56, 57, 58, 59, 60, 61] rfl (by decide +kernel)
set_option maxRecDepth 20000 in
theorem gX7_of_X1_headOfQuarrel : GoodIn wsX7_of (wsV RX7 120 RX1 yX1_headOfQuarrel wsX1_headOfQuarrel) := goodIn_app (goodIn_r _ [17, 18, 19, 20] rfl (by decide +kernel)) ggX7_of_X1_headOfQuarrel
theorem dX7_of_115 : decode cX7_of 115 = .ok (.invokevirtual 120, 3) := db_X7_of_111.2.2.1
theorem dX7_of_118 : decode cX7_of 118 = .ok (.ireturn, 1) := db_X7_of_111.2.2.2.1
theorem dX7_of_119 : decode cX7_of 119 = .ok (.aload_n 0, 1) := db_X7_of_111.2.2.2.2.1
theorem dX7_of_120 : decode cX7_of 120 = .ok (.getfield 12, 3) := db_X7_of_111.2.2.2.2.2.1
theorem dX7_of_123 : decode cX7_of 123 = .ok (.iload_n 1, 1) := db_X7_of_111.2.2.2.2.2.2.1
set_option maxRecDepth 20000 in
theorem ggX7_of_X1_quarrelBits : GoodIn wsX7_of wsX1_quarrelBits := goodIn_r _ [25, 26, 27, 28, 29, 11, 30, 44, 45, 46, 47, 48, 49, 50, 51, 52, 53, 54, 55, 56, 57, 58, 59, 60, 61] rfl (by decide +kernel)
set_option maxRecDepth 20000 in
theorem gX7_of_X1_quarrelBits : GoodIn wsX7_of (wsV RX7 124 RX1 yX1_quarrelBits wsX1_quarrelBits) := goodIn_app (goodIn_r _ [31, 23, 24, 20] rfl (by decide +kernel)) ggX7_of_X1_quarrelBits
theorem dX7_of_124 : decode cX7_of 124 = .ok (.invokevirtual 124, 3) := db_X7_of_111.2.2.2.2.2.2.2
set_option maxRecDepth 20000 in
theorem ggX7_of_J6_bitCount_0f7a4 : GoodIn wsX7_of wsJ6_bitCount_0f7a4 := goodIn_r _ [35, 36, 37, 38] rfl (by decide +kernel)
set_option maxRecDepth 20000 in
theorem gX7_of_J6_bitCount_0f7a4 : GoodIn wsX7_of (va_wsS RX7 127 yJ6_bitCount_0f7a4 wsJ6_bitCount_0f7a4) := goodIn_app (goodIn_r _ [32, 33, 34] rfl (by decide +kernel)) ggX7_of_J6_bitCount_0f7a4
set_option maxRecDepth 20000 in
theorem db_X7_of_127 : (decode cX7_of 127 = .ok (.invokestatic 127, 3)) ∧ (decode cX7_of 130 = .ok (.ireturn, 1)) ∧ (decode cX7_of 131 = .ok (.aload_n 3, 1)) ∧ (decode cX7_of 132 = .ok (.getfield 102, 3)) ∧ (decode cX7_of 135 = .ok (.ireturn, 1)) ∧ (decode cX7_of 8 = .ok (.iconst (-1), 1)) ∧ (decode cX7_of 9 = .ok (.ireturn, 1)) := by decide +kernel
theorem dX7_of_127 : decode cX7_of 127 = .ok (.invokestatic 127, 3) := db_X7_of_127.1
theorem dX7_of_130 : decode cX7_of 130 = .ok (.ireturn, 1) := db_X7_of_127.2.1
theorem dX7_of_131 : decode cX7_of 131 = .ok (.aload_n 3, 1) := db_X7_of_127.2.2.1
theorem dX7_of_132 : decode cX7_of 132 = .ok (.getfield 102, 3) := db_X7_of_127.2.2.2.1
theorem dX7_of_135 : decode cX7_of 135 = .ok (.ireturn, 1) := db_X7_of_127.2.2.2.2.1
theorem dX7_of_8 : decode cX7_of 8 = .ok (.iconst (-1), 1) := db_X7_of_127.2.2.2.2.2.1
theorem dX7_of_9 : decode cX7_of 9 = .ok (.ireturn, 1) := db_X7_of_127.2.2.2.2.2.2
set_option maxRecDepth 20000 in
theorem db_X7_many_0 : (decode cX7_many 0 = .ok (.iload_n 1, 1)) ∧ (decode cX7_many 1 = .ok (.tableswitch 152 0 10 #[59, 67, 75, 83, 92, 101, 109, 117, 125, 134, 143], 59)) ∧ (decode cX7_many 153 = .ok (.iconst (-1), 1)) ∧ (decode cX7_many 154 = .ok (.ireturn, 1)) ∧ (decode cX7_many 60 = .ok (.aload_n 0, 1)) ∧ (decode cX7_many 61 = .ok (.getfield 12, 3)) ∧ (decode cX7_many 64 = .ok (.getfield 41, 3)) ∧ (decode cX7_many 67 = .ok (.ireturn, 1)) := by decide +kernel
theorem dX7_many_0 : decode cX7_many 0 = .ok (.iload_n 1, 1) := db_X7_many_0.1
theorem dX7_many_1 : decode cX7_many 1 = .ok (.tableswitch 152 0 10 #[59, 67, 75, 83, 92, 101, 109, 117, 125, 134, 143], 59) := db_X7_many_0.2.1
theorem dX7_many_153 : decode cX7_many 153 = .ok (.iconst (-1), 1) := db_X7_many_0.2.2.1
theorem dX7_many_154 : decode cX7_many 154 = .ok (.ireturn, 1) := db_X7_many_0.2.2.2.1
theorem dX7_many_60 : decode cX7_many 60 = .ok (.aload_n 0, 1) := db_X7_many_0.2.2.2.2.1
theorem dX7_many_61 : decode cX7_many 61 = .ok (.getfield 12, 3) := db_X7_many_0.2.2.2.2.2.1
theorem dX7_many_64 : decode cX7_many 64 = .ok (.getfield 41, 3) := db_X7_many_0.2.2.2.2.2.2.1
theorem dX7_many_67 : decode cX7_many 67 = .ok (.ireturn, 1) := db_X7_many_0.2.2.2.2.2.2.2
set_option maxRecDepth 20000 in
theorem db_X7_many_68 : (decode cX7_many 68 = .ok (.aload_n 0, 1)) ∧ (decode cX7_many 69 = .ok (.getfield 12, 3)) ∧ (decode cX7_many 72 = .ok (.getfield 56, 3)) ∧ (decode cX7_many 75 = .ok (.ireturn, 1)) ∧ (decode cX7_many 76 = .ok (.aload_n 0, 1)) ∧ (decode cX7_many 77 = .ok (.getfield 12, 3)) ∧ (decode cX7_many 80 = .ok (.getfield 83, 3)) ∧ (decode cX7_many 83 = .ok (.ireturn, 1)) := by decide +kernel
theorem dX7_many_68 : decode cX7_many 68 = .ok (.aload_n 0, 1) := db_X7_many_68.1
theorem dX7_many_69 : decode cX7_many 69 = .ok (.getfield 12, 3) := db_X7_many_68.2.1
theorem dX7_many_72 : decode cX7_many 72 = .ok (.getfield 56, 3) := db_X7_many_68.2.2.1
theorem dX7_many_75 : decode cX7_many 75 = .ok (.ireturn, 1) := db_X7_many_68.2.2.2.1
theorem dX7_many_76 : decode cX7_many 76 = .ok (.aload_n 0, 1) := db_X7_many_68.2.2.2.2.1
theorem dX7_many_77 : decode cX7_many 77 = .ok (.getfield 12, 3) := db_X7_many_68.2.2.2.2.2.1
theorem dX7_many_80 : decode cX7_many 80 = .ok (.getfield 83, 3) := db_X7_many_68.2.2.2.2.2.2.1
theorem dX7_many_83 : decode cX7_many 83 = .ok (.ireturn, 1) := db_X7_many_68.2.2.2.2.2.2.2
set_option maxRecDepth 20000 in
theorem db_X7_many_84 : (decode cX7_many 84 = .ok (.aload_n 0, 1)) ∧ (decode cX7_many 85 = .ok (.getfield 12, 3)) ∧ (decode cX7_many 88 = .ok (.iconst 0, 1)) ∧ (decode cX7_many 89 = .ok (.invokevirtual 214, 3)) ∧ (decode cX7_many 92 = .ok (.ireturn, 1)) ∧ (decode cX7_many 93 = .ok (.aload_n 0, 1)) ∧ (decode cX7_many 94 = .ok (.getfield 12, 3)) ∧ (decode cX7_many 97 = .ok (.iconst 1, 1)) := by decide +kernel
theorem dX7_many_84 : decode cX7_many 84 = .ok (.aload_n 0, 1) := db_X7_many_84.1
theorem dX7_many_85 : decode cX7_many 85 = .ok (.getfield 12, 3) := db_X7_many_84.2.1
theorem dX7_many_88 : decode cX7_many 88 = .ok (.iconst 0, 1) := db_X7_many_84.2.2.1
set_option maxRecDepth 20000 in
theorem ggX7_many_X1_countState : GoodIn wsX7_many wsX1_countState := goodIn_r _ [10, 11, 12, 13, 56, 57, 58, 59, 60, 61, 62, 63, 64, 65, 66, 67, 68, 69, 70, 71, 72, 73] rfl (by decide +kernel)
set_option maxRecDepth 20000 in
theorem gX7_many_X1_countState : GoodIn wsX7_many (wsV RX7 214 RX1 yX1_countState wsX1_countState) := goodIn_app (goodIn_r _ [6, 7, 8, 9] rfl (by decide +kernel)) ggX7_many_X1_countState
theorem dX7_many_89 : decode cX7_many 89 = .ok (.invokevirtual 214, 3) := db_X7_many_84.2.2.2.1
theorem dX7_many_92 : decode cX7_many 92 = .ok (.ireturn, 1) := db_X7_many_84.2.2.2.2.1
theorem dX7_many_93 : decode cX7_many 93 = .ok (.aload_n 0, 1) := db_X7_many_84.2.2.2.2.2.1
theorem dX7_many_94 : decode cX7_many 94 = .ok (.getfield 12, 3) := db_X7_many_84.2.2.2.2.2.2.1
theorem dX7_many_97 : decode cX7_many 97 = .ok (.iconst 1, 1) := db_X7_many_84.2.2.2.2.2.2.2
set_option maxRecDepth 20000 in
theorem db_X7_many_98 : (decode cX7_many 98 = .ok (.invokevirtual 214, 3)) ∧ (decode cX7_many 101 = .ok (.ireturn, 1)) ∧ (decode cX7_many 102 = .ok (.aload_n 0, 1)) ∧ (decode cX7_many 103 = .ok (.getfield 12, 3)) ∧ (decode cX7_many 106 = .ok (.getfield 108, 3)) ∧ (decode cX7_many 109 = .ok (.ireturn, 1)) ∧ (decode cX7_many 110 = .ok (.aload_n 0, 1)) ∧ (decode cX7_many 111 = .ok (.getfield 12, 3)) := by decide +kernel
theorem dX7_many_98 : decode cX7_many 98 = .ok (.invokevirtual 214, 3) := db_X7_many_98.1
theorem dX7_many_101 : decode cX7_many 101 = .ok (.ireturn, 1) := db_X7_many_98.2.1
theorem dX7_many_102 : decode cX7_many 102 = .ok (.aload_n 0, 1) := db_X7_many_98.2.2.1
theorem dX7_many_103 : decode cX7_many 103 = .ok (.getfield 12, 3) := db_X7_many_98.2.2.2.1
theorem dX7_many_106 : decode cX7_many 106 = .ok (.getfield 108, 3) := db_X7_many_98.2.2.2.2.1
theorem dX7_many_109 : decode cX7_many 109 = .ok (.ireturn, 1) := db_X7_many_98.2.2.2.2.2.1
theorem dX7_many_110 : decode cX7_many 110 = .ok (.aload_n 0, 1) := db_X7_many_98.2.2.2.2.2.2.1
theorem dX7_many_111 : decode cX7_many 111 = .ok (.getfield 12, 3) := db_X7_many_98.2.2.2.2.2.2.2
set_option maxRecDepth 20000 in
theorem ggX7_many_X1_countQuarrels : GoodIn wsX7_many wsX1_countQuarrels := goodIn_r _ [17, 11, 18, 19, 20, 9, 21, 22, 23, 24, 25, 12, 26, 27, 28, 29, 56, 57, 58, 59, 60, 61, 62, 63, 64, 65, 66, 67, 68, 69, 70, 71, 72, 73] rfl (by decide +kernel)
set_option maxRecDepth 20000 in
theorem gX7_many_X1_countQuarrels : GoodIn wsX7_many (wsV RX7 217 RX1 yX1_countQuarrels wsX1_countQuarrels) := goodIn_app (goodIn_r _ [14, 15, 16, 9] rfl (by decide +kernel)) ggX7_many_X1_countQuarrels
set_option maxRecDepth 20000 in
theorem db_X7_many_114 : (decode cX7_many 114 = .ok (.invokevirtual 217, 3)) ∧ (decode cX7_many 117 = .ok (.ireturn, 1)) ∧ (decode cX7_many 118 = .ok (.aload_n 0, 1)) ∧ (decode cX7_many 119 = .ok (.getfield 12, 3)) ∧ (decode cX7_many 122 = .ok (.invokevirtual 221, 3)) ∧ (decode cX7_many 125 = .ok (.ireturn, 1)) ∧ (decode cX7_many 126 = .ok (.aload_n 0, 1)) ∧ (decode cX7_many 127 = .ok (.getfield 12, 3)) := by decide +kernel
theorem dX7_many_114 : decode cX7_many 114 = .ok (.invokevirtual 217, 3) := db_X7_many_114.1
theorem dX7_many_117 : decode cX7_many 117 = .ok (.ireturn, 1) := db_X7_many_114.2.1
theorem dX7_many_118 : decode cX7_many 118 = .ok (.aload_n 0, 1) := db_X7_many_114.2.2.1
theorem dX7_many_119 : decode cX7_many 119 = .ok (.getfield 12, 3) := db_X7_many_114.2.2.2.1
set_option maxRecDepth 20000 in
theorem ggX7_many_X1_countTerms : GoodIn wsX7_many wsX1_countTerms := goodIn_r _ [33, 11, 12, 34, 56, 57, 58, 59, 60, 61, 62, 63, 64, 65, 66, 67, 68, 69, 70, 71, 72, 73] rfl (by decide +kernel)
set_option maxRecDepth 20000 in
theorem gX7_many_X1_countTerms : GoodIn wsX7_many (wsV RX7 221 RX1 yX1_countTerms wsX1_countTerms) := goodIn_app (goodIn_r _ [30, 31, 32, 9] rfl (by decide +kernel)) ggX7_many_X1_countTerms
theorem dX7_many_122 : decode cX7_many 122 = .ok (.invokevirtual 221, 3) := db_X7_many_114.2.2.2.2.1
theorem dX7_many_125 : decode cX7_many 125 = .ok (.ireturn, 1) := db_X7_many_114.2.2.2.2.2.1
theorem dX7_many_126 : decode cX7_many 126 = .ok (.aload_n 0, 1) := db_X7_many_114.2.2.2.2.2.2.1
theorem dX7_many_127 : decode cX7_many 127 = .ok (.getfield 12, 3) := db_X7_many_114.2.2.2.2.2.2.2
set_option maxRecDepth 20000 in
theorem db_X7_many_130 : (decode cX7_many 130 = .ok (.iconst 1, 1)) ∧ (decode cX7_many 131 = .ok (.invokevirtual 224, 3)) ∧ (decode cX7_many 134 = .ok (.ireturn, 1)) ∧ (decode cX7_many 135 = .ok (.aload_n 0, 1)) ∧ (decode cX7_many 136 = .ok (.getfield 12, 3)) ∧ (decode cX7_many 139 = .ok (.iconst 0, 1)) ∧ (decode cX7_many 140 = .ok (.invokevirtual 224, 3)) ∧ (decode cX7_many 143 = .ok (.ireturn, 1)) := by decide +kernel
theorem dX7_many_130 : decode cX7_many 130 = .ok (.iconst 1, 1) := db_X7_many_130.1
set_option maxRecDepth 20000 in
theorem ggX7_many_X1_countJudged : GoodIn wsX7_many wsX1_countJudged := goodIn_r _ [38, 11, 12, 34, 39, 40, 41, 42, 43, 44, 45, 46, 47, 48, 49, 50, 56, 57, 58, 59, 60, 61, 62, 63, 64, 65, 66, 67, 68, 69, 70, 71, 72, 73, 74, 75, 76, 77, 78] rfl (by decide +kernel)
set_option maxRecDepth 20000 in
theorem gX7_many_X1_countJudged : GoodIn wsX7_many (wsV RX7 224 RX1 yX1_countJudged wsX1_countJudged) := goodIn_app (goodIn_r _ [35, 36, 37, 9] rfl (by decide +kernel)) ggX7_many_X1_countJudged
theorem dX7_many_131 : decode cX7_many 131 = .ok (.invokevirtual 224, 3) := db_X7_many_130.2.1
theorem dX7_many_134 : decode cX7_many 134 = .ok (.ireturn, 1) := db_X7_many_130.2.2.1
theorem dX7_many_135 : decode cX7_many 135 = .ok (.aload_n 0, 1) := db_X7_many_130.2.2.2.1
theorem dX7_many_136 : decode cX7_many 136 = .ok (.getfield 12, 3) := db_X7_many_130.2.2.2.2.1
theorem dX7_many_139 : decode cX7_many 139 = .ok (.iconst 0, 1) := db_X7_many_130.2.2.2.2.2.1
theorem dX7_many_140 : decode cX7_many 140 = .ok (.invokevirtual 224, 3) := db_X7_many_130.2.2.2.2.2.2.1
theorem dX7_many_143 : decode cX7_many 143 = .ok (.ireturn, 1) := db_X7_many_130.2.2.2.2.2.2.2
set_option maxRecDepth 20000 in
theorem db_X7_many_144 : (decode cX7_many 144 = .ok (.aload_n 0, 1)) ∧ (decode cX7_many 145 = .ok (.getfield 12, 3)) ∧ (decode cX7_many 148 = .ok (.iconst 2, 1)) ∧ (decode cX7_many 149 = .ok (.invokevirtual 224, 3)) ∧ (decode cX7_many 152 = .ok (.ireturn, 1)) := by decide +kernel
theorem dX7_many_144 : decode cX7_many 144 = .ok (.aload_n 0, 1) := db_X7_many_144.1
theorem dX7_many_145 : decode cX7_many 145 = .ok (.getfield 12, 3) := db_X7_many_144.2.1
theorem dX7_many_148 : decode cX7_many 148 = .ok (.iconst 2, 1) := db_X7_many_144.2.2.1
theorem dX7_many_149 : decode cX7_many 149 = .ok (.invokevirtual 224, 3) := db_X7_many_144.2.2.2.1
theorem dX7_many_152 : decode cX7_many 152 = .ok (.ireturn, 1) := db_X7_many_144.2.2.2.2
set_option maxHeartbeats 4000000 in
set_option maxRecDepth 100000 in
theorem g_X7_learns (l : Launch) (dC : Nat → ClassId) (dI : Nat → Nat → Nat) (cy : Nat → ClassId) (sz : Nat) (ad : Nat → Nat) (kv : Value) (N : Nat) (hN : 119 ≤ N) (v : Nat → Nat → Int32) (hv : Iv v)  (x0 x1 x2 x3 : Int32) : Met l yX7_learns wsX7_learns ({ frames := 3, cells := 0, slots := 0, locals := 192 }) (va_Pc [.ref (ad 0), .int x0, .int x1, .int x2, .int x3] (ex_Pre dC dI cy sz (wl ad kv cy N v))) (va_Qi (fun (r : Int32) (u : Nat → Nat → Int32) => Iv u ∧ Fz v u) (fun u t => ex_Pst dC dI (va_A (wl ad kv cy N v) sz) (wl ad kv cy N u) t) (va_A (wl ad kv cy N v) sz)) 0 0 (va_A (wl ad kv cy N v) sz) := by
  refine Met.ofW (cc := cX7_learns) (maxL := 6) (ret := (some .int)) (by decide) rfl ?_
  intro p e s m args below meth c s₁ B hml hv
  obtain ⟨rfl, hsz, hE, hP, hK, hD0⟩ := hv
  have hx := B.exec
  have hb := B.bytes
  have hr := B.returns
  have hts := atoms_spec (ws := wsX7_learns) B.pre
  have hown : s.vm.findClass RX7 = some m.cls := findClass_of_methodNamed B.named
  have hlocks := B.notSynchronized
  subst hsz
  have hD := hD0.self (sz := s.heap.size)
  generalize hAe : va_A (wl ad kv cy N v) s.heap.size = A at hD ⊢
  have hA : ∀ q : Nat, s.heap.size ≤ q → A q := fun q h => by rw [← hAe]; exact Or.inr h
  have hS : va_S A s.heap s.heap [] := va_S.rf
  have hP : va_P (dC, dI) vwCl (wl ad kv cy N v) s.heap := hP
  have hl := lv_entry ([.ref (ad 0), .int x0, .int x1, .int x2, .int x3]) (n := 6) (Nat.le_of_ble_eq_true rfl)
  rw [lg_entry_eq]
  generalize (lg_sl ([.ref (ad 0), .int x0, .int x1, .int x2, .int x3]) ++ List.replicate (6 - (lg_sl ([.ref (ad 0), .int x0, .int x1, .int x2, .int x3])).length) Slot.unset).toArray = ls at hl ⊢
  have hl : lv_has ls 6 [(0, .ref (ad 0)), (1, .int x0), (2, .int x1), (3, .int x2), (4, .int x3)] := hl
  have hfr : Fz v v := Fz.rf
  refine lv_aload_n hx hb dX7_learns_0 rfl (lv_at hl 0 rfl) ?_
  refine lv_iload_n hx hb dX7_learns_1 rfl (lv_at hl 1 rfl) ?_
  refine yw_i (w1 := fun (u : Nat → Nat → Int32) => wl ad kv cy N u) hD hS hA (va_runV (As := [.int x0]) (rest := []) ⟨hx, hb, hml, hown, hts⟩ (g_X7_isCase l dC dI cy _ ad kv N hN v hv x0) (cwV 1 hts gX7_learns_X7_isCase rfl rfl rfl hd_V_X7_isCase_1 ⟨Nat.le_of_ble_eq_true rfl, Nat.le_of_ble_eq_true rfl⟩) (yw_preV hE hK hP hD (ci := 7) (q := (RX7, TX7, 5)) (q0 := 0) rfl (wl_at (by omega) (ce_0 (by decide)))) rfl rfl hl.1 rfl (lv_room (Nat.le_of_ble_eq_true rfl)) dX7_learns_2 ⟨Nat.le_of_ble_eq_true rfl, Nat.le_of_ble_eq_true rfl⟩) (fun r_1 v_1 H locs hw_1 hP hD hS => ?_)
  obtain ⟨hv, hw_1⟩ := hw_1
  obtain ⟨hu_1, hw_1⟩ := hw_1
  have hfr : Fz v v_1 := by rw [hu_1]; exact hfr
  rcases hw_1 with ⟨rfl, ha_2⟩ | ⟨rfl, -⟩
  · have hb_2 := hv.at (k := 13) (j := 2) (K := 3) (by decide) rfl
    have hb_2 : 0 ≤ x0.toInt ∧ x0.toInt < 6 := by omega
    refine lv_if_eq (tgt := 15) hx hb dX7_learns_5 (by decide) (fun c9 => absurd c9 (by decide)) (fun _ => ?_)
    refine lv_iload_n hx hb dX7_learns_8 rfl (lv_at hl 2 rfl) ?_
    refine yc_p hP hS (va_runS (As := [.int x1]) (rest := []) ⟨hx, hb, hml, hown, hts⟩ (c_X7_isSide l x1) (cwS 1 hts gX7_learns_X7_isSide rfl rfl rfl hd_S_X7_isSide_1 ⟨Nat.le_of_ble_eq_true rfl, Nat.le_of_ble_eq_true rfl⟩) ex_preP rfl rfl hl.1 rfl (lv_room (Nat.le_of_ble_eq_true rfl)) dX7_learns_9 ⟨Nat.le_of_ble_eq_true rfl, Nat.le_of_ble_eq_true rfl⟩) (fun r_3 H locs hw_3 hP hS => ?_)
    rcases wi_ca hw_3 with ⟨rfl, hc_4⟩ | ⟨rfl, hc_4⟩
    · have k_0 : (0 : Int32).toInt = 0 := by decide
      have k_1 : (1 : Int32).toInt = 1 := by decide
      have tc_4 := wi_tl hc_4
      refine lv_if_ne (tgt := 17) hx hb dX7_learns_12 (by decide) (fun _ => ?_) (fun c9 => absurd c9 (by decide))
      refine lv_aload_n hx hb dX7_learns_17 rfl (lv_at hl 0 rfl) ?_
      refine va_get (D := (dC, dI)) (ci := 7) (v := .ref (ad 13)) (C := RX7) (T := TX7) (N := 5) hx hb hts iwX7_learns_X7 hown hK hP (0) (wl_at (by omega) (ce_0 (by decide))) rfl 0 (by decide) (hts (.fieldLink RX7 12 "QuietStairs" "now" "LQuietStairs$House;") fwX7_learns_1) (fun _ h9 => h9) rfl dX7_learns_18 ?_
      refine va_get (D := (dC, dI)) (ci := 1) (v := .ref (ad 16)) (C := RX1) (T := TX1) (N := 7) hx hb hts iwX7_learns_X1 hown hK hP (13) (wl_at (by omega) (ce_3 (by decide))) rfl 6 (by decide) (hts (.fieldLink RX7 86 "QuietStairs$House" "cases" "[LQuietStairs$Case;") fwX7_learns_2) (fun _ h9 => h9) rfl dX7_learns_21 ?_
      refine lv_iload_n hx hb dX7_learns_24 rfl (lv_at hl 1 rfl) ?_
      obtain ⟨pi5, i5, hi5, ni5, mi5⟩ := t_in (x := x0) (n := 6) ⟨by omega, by omega⟩
      refine va_aldq hx hb hK hP (16) 3 (wl_at (by omega) (ce_6 (by decide))) rfl pi5 dX7_learns_25 ?_
      refine W.eq (g2 := F0 m 26 ls [.ref (ad (29 + 15 * i5))]) (by rw [ni5, if_pos hi5, show 16 + 13 + 15 * i5 = 29 + 15 * i5 from by omega]; rfl) ?_
      refine lv_astore (lv' := [(5, .ref (ad (29 + 15 * i5))), (0, .ref (ad 0)), (1, .int x0), (2, .int x1), (3, .int x2), (4, .int x3)]) hx hb dX7_learns_26 hl (by decide) rfl (fun ls hl => ?_)
      refine lv_iload_n hx hb dX7_learns_28 rfl (lv_at hl 4 rfl) ?_
      refine lv_iconst (v := 0) hx hb dX7_learns_29 (by decide) ?_
      refine lv_aload hx hb dX7_learns_30 (lv_at hl 0 rfl) ?_
      refine va_get (D := (dC, dI)) (ci := 0) (v := .int (v_1 (29 + 15 * i5) 2)) (C := RX0) (T := TX0) (N := 11) hx hb hts iwX7_learns_X0 hown hK hP (29 + 15 * i5) (wl_at (by omega) (ce_9 (kd_c i5 hi5).1.1)) rfl 2 (by decide) (hts (.fieldLink RX7 117 "QuietStairs$Case" "roundsOver" "I") fwX7_learns_3) (fun _ h9 => h9) rfl dX7_learns_32 ?_
      refine lv_topi (fun x_6 ex_6 => ?_)
      have bx_6 : 0 ≤ x_6.toInt ∧ x_6.toInt ≤ 5 := by rw [ex_6]; exact hv.at (K := 9) (kd_c i5 hi5).1.1 rfl
      refine lv_iconst (v := 1) hx hb dX7_learns_35 (by decide) ?_
      refine lv_isub hx hb dX7_learns_36 ?_
      refine lv_topi (fun x_7 ex_7 => ?_)
      have tx_7 : x_7.toInt = x_6.toInt - (1 : Int32).toInt := by rw [ex_7]; exact t_sub ⟨by omega, by omega⟩
      refine yc_p hP hS (va_runS (As := [.int x2, .int 0, .int x_7]) (rest := []) ⟨hx, hb, hml, hown, hts⟩ (c_X7_isWithin l x2 0 x_7) (cwS 3 hts gX7_learns_X7_isWithin rfl rfl rfl hd_S_X7_isWithin_3 ⟨Nat.le_of_ble_eq_true rfl, Nat.le_of_ble_eq_true rfl⟩) ex_preP rfl rfl hl.1 rfl (lv_room (Nat.le_of_ble_eq_true rfl)) dX7_learns_37 ⟨Nat.le_of_ble_eq_true rfl, Nat.le_of_ble_eq_true rfl⟩) (fun r_8 H locs hw_8 hP hS => ?_)
      rcases wi_ca hw_8 with ⟨rfl, hc_9⟩ | ⟨rfl, hc_9⟩
      · have tc_9 := wi_tl hc_9
        refine lv_if_ne (tgt := 46) hx hb dX7_learns_40 (by decide) (fun _ => ?_) (fun c9 => absurd c9 (by decide))
        refine lv_iload hx hb dX7_learns_46 (lv_at hl 5 rfl) ?_
        refine lv_if_eq (tgt := 61) hx hb dX7_learns_48 (by decide) (fun c_10 => ?_) (fun c_10 => ?_)
        · have tc_10 : x3.toInt = (0 : Int32).toInt := by rw [c_10]
          refine lv_aload hx hb dX7_learns_61 (lv_at hl 0 rfl) ?_
          refine lv_iload_n hx hb dX7_learns_63 rfl (lv_at hl 3 rfl) ?_
          refine lv_iload_n hx hb dX7_learns_64 rfl (lv_at hl 4 rfl) ?_
          refine yw_i (w1 := fun (u : Nat → Nat → Int32) => wl ad kv cy N u) hD hS hA (va_runV (As := [.int x1, .int x2]) (rest := []) ⟨hx, hb, hml, hown, hts⟩ (g_X0_leastOfOther l dC dI cy _ ad kv N hN v_1 hv i5 hi5 x1 x2 ⟨by omega, by omega⟩ ⟨by omega, by omega⟩) (cwV 2 hts gX7_learns_X0_leastOfOther rfl rfl rfl hd_V_X0_leastOfOther_2 ⟨Nat.le_of_ble_eq_true rfl, Nat.le_of_ble_eq_true rfl⟩) (yw_preV hE hK hP hD (ci := 0) (q := (RX0, TX0, 11)) (q0 := (29 + 15 * i5)) rfl (wl_at (by omega) (ce_9 (kd_c i5 hi5).1.1))) rfl rfl hl.1 rfl (lv_room (Nat.le_of_ble_eq_true rfl)) dX7_learns_65 ⟨Nat.le_of_ble_eq_true rfl, Nat.le_of_ble_eq_true rfl⟩) (fun r_11 v_11 H locs hw_11 hP hD hS => ?_)
          obtain ⟨hv, hw_11⟩ := hw_11
          have hfr : Fz v v_11 := hfr.trans hw_11
          exact W.iret (v := r_11) hx hb hr (fun t ht hW => ⟨⟨r_11, v_11, rfl, ⟨hv, hfr⟩, by rw [ht]; exact hP, hD⟩, hS.F ht⟩) hS.2.2 dX7_learns_68
        · have tc_10 : x3.toInt ≠ (0 : Int32).toInt := fun q => absurd (Int32.toInt_inj.mp q) c_10
          refine lv_aload hx hb dX7_learns_51 (lv_at hl 0 rfl) ?_
          refine lv_iload_n hx hb dX7_learns_53 rfl (lv_at hl 3 rfl) ?_
          refine lv_iload_n hx hb dX7_learns_54 rfl (lv_at hl 4 rfl) ?_
          refine yw_i (w1 := fun (u : Nat → Nat → Int32) => wl ad kv cy N u) hD hS hA (va_runV (As := [.int x1, .int x2]) (rest := []) ⟨hx, hb, hml, hown, hts⟩ (g_X0_greatestOfOther l dC dI cy _ ad kv N hN v_1 hv i5 hi5 x1 x2 ⟨by omega, by omega⟩ ⟨by omega, by omega⟩) (cwV 2 hts gX7_learns_X0_greatestOfOther rfl rfl rfl hd_V_X0_greatestOfOther_2 ⟨Nat.le_of_ble_eq_true rfl, Nat.le_of_ble_eq_true rfl⟩) (yw_preV hE hK hP hD (ci := 0) (q := (RX0, TX0, 11)) (q0 := (29 + 15 * i5)) rfl (wl_at (by omega) (ce_9 (kd_c i5 hi5).1.1))) rfl rfl hl.1 rfl (lv_room (Nat.le_of_ble_eq_true rfl)) dX7_learns_55 ⟨Nat.le_of_ble_eq_true rfl, Nat.le_of_ble_eq_true rfl⟩) (fun r_11 v_11 H locs hw_11 hP hD hS => ?_)
          obtain ⟨hv, hw_11⟩ := hw_11
          have hfr : Fz v v_11 := hfr.trans hw_11
          refine lv_goto (tgt := 68) hx hb dX7_learns_58 (by decide) ?_
          exact W.iret (v := r_11) hx hb hr (fun t ht hW => ⟨⟨r_11, v_11, rfl, ⟨hv, hfr⟩, by rw [ht]; exact hP, hD⟩, hS.F ht⟩) hS.2.2 dX7_learns_68
      · refine lv_if_ne (tgt := 46) hx hb dX7_learns_40 (by decide) (fun c9 => absurd c9 (by decide)) (fun _ => ?_)
        refine lv_bipush (v := (-5)) hx hb dX7_learns_43 (by decide) ?_
        exact W.iret (v := (-5)) hx hb hr (fun t ht hW => ⟨⟨(-5), v_1, rfl, ⟨hv, hfr⟩, by rw [ht]; exact hP, hD⟩, hS.F ht⟩) hS.2.2 dX7_learns_45
    · refine lv_if_ne (tgt := 17) hx hb dX7_learns_12 (by decide) (fun c9 => absurd c9 (by decide)) (fun _ => ?_)
      refine lv_iconst (v := (-1)) hx hb dX7_learns_15 (by decide) ?_
      exact W.iret (v := (-1)) hx hb hr (fun t ht hW => ⟨⟨(-1), v_1, rfl, ⟨hv, hfr⟩, by rw [ht]; exact hP, hD⟩, hS.F ht⟩) hS.2.2 dX7_learns_16
  · refine lv_if_eq (tgt := 15) hx hb dX7_learns_5 (by decide) (fun _ => ?_) (fun c9 => absurd c9 (by decide))
    refine lv_iconst (v := (-1)) hx hb dX7_learns_15 (by decide) ?_
    exact W.iret (v := (-1)) hx hb hr (fun t ht hW => ⟨⟨(-1), v_1, rfl, ⟨hv, hfr⟩, by rw [ht]; exact hP, hD⟩, hS.F ht⟩) hS.2.2 dX7_learns_16

set_option maxHeartbeats 4000000 in
set_option maxRecDepth 100000 in
theorem g_X7_termOf (l : Launch) (dC : Nat → ClassId) (dI : Nat → Nat → Nat) (cy : Nat → ClassId) (sz : Nat) (ad : Nat → Nat) (kv : Value) (N : Nat) (hN : 119 ≤ N) (v : Nat → Nat → Int32) (hv : Iv v)  (x0 x1 x2 : Int32) : Met l yX7_termOf wsX7_termOf ({ frames := 3, cells := 0, slots := 0, locals := 192 }) (va_Pc [.ref (ad 0), .int x0, .int x1, .int x2] (ex_Pre dC dI cy sz (wl ad kv cy N v))) (va_Qi (fun (r : Int32) (u : Nat → Nat → Int32) => Iv u ∧ Fz v u) (fun u t => ex_Pst dC dI (va_A (wl ad kv cy N v) sz) (wl ad kv cy N u) t) (va_A (wl ad kv cy N v) sz)) 0 0 (va_A (wl ad kv cy N v) sz) := by
  refine Met.ofW (cc := cX7_termOf) (maxL := 5) (ret := (some .int)) (by decide) rfl ?_
  intro p e s m args below meth c s₁ B hml hv
  obtain ⟨rfl, hsz, hE, hP, hK, hD0⟩ := hv
  have hx := B.exec
  have hb := B.bytes
  have hr := B.returns
  have hts := atoms_spec (ws := wsX7_termOf) B.pre
  have hown : s.vm.findClass RX7 = some m.cls := findClass_of_methodNamed B.named
  have hlocks := B.notSynchronized
  subst hsz
  have hD := hD0.self (sz := s.heap.size)
  generalize hAe : va_A (wl ad kv cy N v) s.heap.size = A at hD ⊢
  have hA : ∀ q : Nat, s.heap.size ≤ q → A q := fun q h => by rw [← hAe]; exact Or.inr h
  have hS : va_S A s.heap s.heap [] := va_S.rf
  have hP : va_P (dC, dI) vwCl (wl ad kv cy N v) s.heap := hP
  have hl := lv_entry ([.ref (ad 0), .int x0, .int x1, .int x2]) (n := 5) (Nat.le_of_ble_eq_true rfl)
  rw [lg_entry_eq]
  generalize (lg_sl ([.ref (ad 0), .int x0, .int x1, .int x2]) ++ List.replicate (5 - (lg_sl ([.ref (ad 0), .int x0, .int x1, .int x2])).length) Slot.unset).toArray = ls at hl ⊢
  have hl : lv_has ls 5 [(0, .ref (ad 0)), (1, .int x0), (2, .int x1), (3, .int x2)] := hl
  have hfr : Fz v v := Fz.rf
  refine lv_aload_n hx hb dX7_termOf_0 rfl (lv_at hl 0 rfl) ?_
  refine lv_iload_n hx hb dX7_termOf_1 rfl (lv_at hl 1 rfl) ?_
  refine lv_iload_n hx hb dX7_termOf_2 rfl (lv_at hl 2 rfl) ?_
  refine yw_i (w1 := fun (u : Nat → Nat → Int32) => wl ad kv cy N u) hD hS hA (va_runV (As := [.int x0, .int x1]) (rest := []) ⟨hx, hb, hml, hown, hts⟩ (g_X7_isTerm l dC dI cy _ ad kv N hN v hv x0 x1) (cwV 2 hts gX7_termOf_X7_isTerm rfl rfl rfl hd_V_X7_isTerm_2 ⟨Nat.le_of_ble_eq_true rfl, Nat.le_of_ble_eq_true rfl⟩) (yw_preV hE hK hP hD (ci := 7) (q := (RX7, TX7, 5)) (q0 := 0) rfl (wl_at (by omega) (ce_0 (by decide)))) rfl rfl hl.1 rfl (lv_room (Nat.le_of_ble_eq_true rfl)) dX7_termOf_3 ⟨Nat.le_of_ble_eq_true rfl, Nat.le_of_ble_eq_true rfl⟩) (fun r_1 v_1 H locs hw_1 hP hD hS => ?_)
  obtain ⟨hv, hw_1⟩ := hw_1
  have hfr : Fz v v_1 := hfr.trans hw_1.1
  rcases hw_1.2 with ⟨rfl, ha_2, hb_2⟩ | rfl
  · refine lv_if_ne (tgt := 11) hx hb dX7_termOf_6 (by decide) (fun _ => ?_) (fun c9 => absurd c9 (by decide))
    refine lv_aload_n hx hb dX7_termOf_11 rfl (lv_at hl 0 rfl) ?_
    refine va_get (D := (dC, dI)) (ci := 7) (v := .ref (ad 13)) (C := RX7) (T := TX7) (N := 5) hx hb hts iwX7_termOf_X7 hown hK hP (0) (wl_at (by omega) (ce_0 (by decide))) rfl 0 (by decide) (hts (.fieldLink RX7 12 "QuietStairs" "now" "LQuietStairs$House;") fwX7_termOf_1) (fun _ h9 => h9) rfl dX7_termOf_12 ?_
    refine va_get (D := (dC, dI)) (ci := 1) (v := .ref (ad 16)) (C := RX1) (T := TX1) (N := 7) hx hb hts iwX7_termOf_X1 hown hK hP (13) (wl_at (by omega) (ce_3 (by decide))) rfl 6 (by decide) (hts (.fieldLink RX7 86 "QuietStairs$House" "cases" "[LQuietStairs$Case;") fwX7_termOf_2) (fun _ h9 => h9) rfl dX7_termOf_15 ?_
    refine lv_iload_n hx hb dX7_termOf_18 rfl (lv_at hl 1 rfl) ?_
    obtain ⟨pi3, i3, hi3, ni3, mi3⟩ := t_in (x := x0) (n := 6) ⟨by omega, by omega⟩
    refine va_aldq hx hb hK hP (16) 3 (wl_at (by omega) (ce_6 (by decide))) rfl pi3 dX7_termOf_19 ?_
    refine W.eq (g2 := F0 m 20 ls [.ref (ad (29 + 15 * i3))]) (by rw [ni3, if_pos hi3, show 16 + 13 + 15 * i3 = 29 + 15 * i3 from by omega]; rfl) ?_
    refine va_get (D := (dC, dI)) (ci := 0) (v := .ref (ad (29 + 15 * i3 + 9))) (C := RX0) (T := TX0) (N := 11) hx hb hts iwX7_termOf_X0 hown hK hP (29 + 15 * i3) (wl_at (by omega) (ce_9 (kd_c i3 hi3).1.1)) rfl 10 (by decide) (hts (.fieldLink RX7 172 "QuietStairs$Case" "terms" "[LQuietStairs$Term;") fwX7_termOf_3) (fun _ h9 => h9) rfl dX7_termOf_20 ?_
    refine W.eq (g2 := F0 m 23 ls [.ref (ad (38 + 15 * i3))]) (by rw [show 29 + 15 * i3 + 9 = 38 + 15 * i3 from by omega]) ?_
    refine lv_iload_n hx hb dX7_termOf_23 rfl (lv_at hl 2 rfl) ?_
    obtain ⟨pi4, i4, hi4, ni4, mi4⟩ := t_in (x := x1) (n := 5) ⟨by omega, by omega⟩
    refine va_aldq hx hb hK hP (38 + 15 * i3) 4 (wl_at (by omega) (ce_15 (kd_c i3 hi3).1.2.2.2.2.2)) rfl pi4 dX7_termOf_24 ?_
    refine W.eq (g2 := F0 m 25 ls [.ref (ad (39 + 15 * i3 + i4))]) (by rw [ni4, if_pos hi4, show 38 + 15 * i3 + 1 + i4 = 39 + 15 * i3 + i4 from by omega]; rfl) ?_
    refine lv_astore (lv' := [(4, .ref (ad (39 + 15 * i3 + i4))), (0, .ref (ad 0)), (1, .int x0), (2, .int x1), (3, .int x2)]) hx hb dX7_termOf_25 hl (by decide) rfl (fun ls hl => ?_)
    refine lv_iload_n hx hb dX7_termOf_27 rfl (lv_at hl 4 rfl) ?_
    rcases sw_5 x2 with hsw | hsw | hsw | hsw | hsw | hsw
    · refine lv_tableOut (tgt := 102) hx hb dX7_termOf_28 hsw (by decide) ?_
      refine lv_iconst (v := (-1)) hx hb dX7_termOf_102 (by decide) ?_
      exact W.iret (v := (-1)) hx hb hr (fun t ht hW => ⟨⟨(-1), v_1, rfl, ⟨hv, hfr⟩, by rw [ht]; exact hP, hD⟩, hS.F ht⟩) hS.2.2 dX7_termOf_103
    · refine lv_tableIn (off := 36) (tgt := 64) hx hb dX7_termOf_28 (by rw [hsw]; decide) (by rw [hsw]; decide) (by rw [hsw]; decide) (by decide) ?_
      refine lv_aload hx hb dX7_termOf_64 (lv_at hl 0 rfl) ?_
      refine va_get (D := (dC, dI)) (ci := 6) (v := .int (v_1 (39 + 15 * i3 + i4) 0)) (C := RX6) (T := TX6) (N := 5) hx hb hts iwX7_termOf_X6 hown hK hP (39 + 15 * i3 + i4) (wl_at (by omega) (ce_16 (kd_t i3 hi3 i4 hi4).1)) rfl 0 (by decide) (hts (.fieldLink RX7 176 "QuietStairs$Term" "side" "I") fwX7_termOf_4) (fun _ h9 => h9) rfl dX7_termOf_66 ?_
      refine lv_topi (fun x_5 ex_5 => ?_)
      have bx_5 : 0 ≤ x_5.toInt ∧ x_5.toInt ≤ 1 := by rw [ex_5]; exact hv.at (K := 16) (kd_t i3 hi3 i4 hi4).1 rfl
      exact W.iret (v := x_5) hx hb hr (fun t ht hW => ⟨⟨x_5, v_1, rfl, ⟨hv, hfr⟩, by rw [ht]; exact hP, hD⟩, hS.F ht⟩) hS.2.2 dX7_termOf_69
    · refine lv_tableIn (off := 42) (tgt := 70) hx hb dX7_termOf_28 (by rw [hsw]; decide) (by rw [hsw]; decide) (by rw [hsw]; decide) (by decide) ?_
      refine lv_aload hx hb dX7_termOf_70 (lv_at hl 0 rfl) ?_
      refine va_get (D := (dC, dI)) (ci := 6) (v := .int (v_1 (39 + 15 * i3 + i4) 1)) (C := RX6) (T := TX6) (N := 5) hx hb hts iwX7_termOf_X6 hown hK hP (39 + 15 * i3 + i4) (wl_at (by omega) (ce_16 (kd_t i3 hi3 i4 hi4).1)) rfl 1 (by decide) (hts (.fieldLink RX7 181 "QuietStairs$Term" "must" "Z") fwX7_termOf_5) (fun _ h9 => h9) rfl dX7_termOf_72 ?_
      refine lv_topi (fun x_5 ex_5 => ?_)
      have bx_5 : 0 ≤ x_5.toInt ∧ x_5.toInt ≤ 1 := by rw [ex_5]; exact hv.at (K := 16) (kd_t i3 hi3 i4 hi4).1 rfl
      have k_0 : (0 : Int32).toInt = 0 := by decide
      refine lv_if_eq (tgt := 82) hx hb dX7_termOf_75 (by decide) (fun c_6 => ?_) (fun c_6 => ?_)
      · have tc_6 : x_5.toInt = (0 : Int32).toInt := by rw [c_6]
        refine lv_iconst (v := 0) hx hb dX7_termOf_82 (by decide) ?_
        exact W.iret (v := 0) hx hb hr (fun t ht hW => ⟨⟨0, v_1, rfl, ⟨hv, hfr⟩, by rw [ht]; exact hP, hD⟩, hS.F ht⟩) hS.2.2 dX7_termOf_83
      · have tc_6 : x_5.toInt ≠ (0 : Int32).toInt := fun q => absurd (Int32.toInt_inj.mp q) c_6
        refine lv_iconst (v := 1) hx hb dX7_termOf_78 (by decide) ?_
        refine lv_goto (tgt := 83) hx hb dX7_termOf_79 (by decide) ?_
        exact W.iret (v := 1) hx hb hr (fun t ht hW => ⟨⟨1, v_1, rfl, ⟨hv, hfr⟩, by rw [ht]; exact hP, hD⟩, hS.F ht⟩) hS.2.2 dX7_termOf_83
    · refine lv_tableIn (off := 56) (tgt := 84) hx hb dX7_termOf_28 (by rw [hsw]; decide) (by rw [hsw]; decide) (by rw [hsw]; decide) (by decide) ?_
      refine lv_aload hx hb dX7_termOf_84 (lv_at hl 0 rfl) ?_
      refine va_get (D := (dC, dI)) (ci := 6) (v := .int (v_1 (39 + 15 * i3 + i4) 2)) (C := RX6) (T := TX6) (N := 5) hx hb hts iwX7_termOf_X6 hown hK hP (39 + 15 * i3 + i4) (wl_at (by omega) (ce_16 (kd_t i3 hi3 i4 hi4).1)) rfl 2 (by decide) (hts (.fieldLink RX7 185 "QuietStairs$Term" "act" "I") fwX7_termOf_6) (fun _ h9 => h9) rfl dX7_termOf_86 ?_
      refine lv_topi (fun x_5 ex_5 => ?_)
      exact W.iret (v := x_5) hx hb hr (fun t ht hW => ⟨⟨x_5, v_1, rfl, ⟨hv, hfr⟩, by rw [ht]; exact hP, hD⟩, hS.F ht⟩) hS.2.2 dX7_termOf_89
    · refine lv_tableIn (off := 62) (tgt := 90) hx hb dX7_termOf_28 (by rw [hsw]; decide) (by rw [hsw]; decide) (by rw [hsw]; decide) (by decide) ?_
      refine lv_aload hx hb dX7_termOf_90 (lv_at hl 0 rfl) ?_
      refine va_get (D := (dC, dI)) (ci := 6) (v := .int (v_1 (39 + 15 * i3 + i4) 3)) (C := RX6) (T := TX6) (N := 5) hx hb hts iwX7_termOf_X6 hown hK hP (39 + 15 * i3 + i4) (wl_at (by omega) (ce_16 (kd_t i3 hi3 i4 hi4).1)) rfl 3 (by decide) (hts (.fieldLink RX7 188 "QuietStairs$Term" "first" "I") fwX7_termOf_7) (fun _ h9 => h9) rfl dX7_termOf_92 ?_
      refine lv_topi (fun x_5 ex_5 => ?_)
      have bx_5 : 0 ≤ x_5.toInt ∧ x_5.toInt ≤ 23 := by rw [ex_5]; exact hv.at (K := 16) (kd_t i3 hi3 i4 hi4).1 rfl
      exact W.iret (v := x_5) hx hb hr (fun t ht hW => ⟨⟨x_5, v_1, rfl, ⟨hv, hfr⟩, by rw [ht]; exact hP, hD⟩, hS.F ht⟩) hS.2.2 dX7_termOf_95
    · refine lv_tableIn (off := 68) (tgt := 96) hx hb dX7_termOf_28 (by rw [hsw]; decide) (by rw [hsw]; decide) (by rw [hsw]; decide) (by decide) ?_
      refine lv_aload hx hb dX7_termOf_96 (lv_at hl 0 rfl) ?_
      refine va_get (D := (dC, dI)) (ci := 6) (v := .int (v_1 (39 + 15 * i3 + i4) 4)) (C := RX6) (T := TX6) (N := 5) hx hb hts iwX7_termOf_X6 hown hK hP (39 + 15 * i3 + i4) (wl_at (by omega) (ce_16 (kd_t i3 hi3 i4 hi4).1)) rfl 4 (by decide) (hts (.fieldLink RX7 191 "QuietStairs$Term" "last" "I") fwX7_termOf_8) (fun _ h9 => h9) rfl dX7_termOf_98 ?_
      refine lv_topi (fun x_5 ex_5 => ?_)
      have bx_5 : 0 ≤ x_5.toInt ∧ x_5.toInt ≤ 23 := by rw [ex_5]; exact hv.at (K := 16) (kd_t i3 hi3 i4 hi4).1 rfl
      exact W.iret (v := x_5) hx hb hr (fun t ht hW => ⟨⟨x_5, v_1, rfl, ⟨hv, hfr⟩, by rw [ht]; exact hP, hD⟩, hS.F ht⟩) hS.2.2 dX7_termOf_101
  · refine lv_if_ne (tgt := 11) hx hb dX7_termOf_6 (by decide) (fun c9 => absurd c9 (by decide)) (fun _ => ?_)
    refine lv_iconst (v := (-1)) hx hb dX7_termOf_9 (by decide) ?_
    exact W.iret (v := (-1)) hx hb hr (fun t ht hW => ⟨⟨(-1), v_1, rfl, ⟨hv, hfr⟩, by rw [ht]; exact hP, hD⟩, hS.F ht⟩) hS.2.2 dX7_termOf_10

set_option maxHeartbeats 4000000 in
set_option maxRecDepth 100000 in
theorem g_X7_judged (l : Launch) (dC : Nat → ClassId) (dI : Nat → Nat → Nat) (cy : Nat → ClassId) (sz : Nat) (ad : Nat → Nat) (kv : Value) (N : Nat) (hN : 119 ≤ N) (v : Nat → Nat → Int32) (hv : Iv v)  (x0 x1 : Int32) : Met l yX7_judged wsX7_judged ({ frames := 3, cells := 0, slots := 0, locals := 192 }) (va_Pc [.ref (ad 0), .int x0, .int x1] (ex_Pre dC dI cy sz (wl ad kv cy N v))) (va_Qi (fun (r : Int32) (u : Nat → Nat → Int32) => Iv u ∧ Fz v u) (fun u t => ex_Pst dC dI (va_A (wl ad kv cy N v) sz) (wl ad kv cy N u) t) (va_A (wl ad kv cy N v) sz)) 0 0 (va_A (wl ad kv cy N v) sz) := by
  refine Met.ofW (cc := cX7_judged) (maxL := 3) (ret := (some .int)) (by decide) rfl ?_
  intro p e s m args below meth c s₁ B hml hv
  obtain ⟨rfl, hsz, hE, hP, hK, hD0⟩ := hv
  have hx := B.exec
  have hb := B.bytes
  have hr := B.returns
  have hts := atoms_spec (ws := wsX7_judged) B.pre
  have hown : s.vm.findClass RX7 = some m.cls := findClass_of_methodNamed B.named
  have hlocks := B.notSynchronized
  subst hsz
  have hD := hD0.self (sz := s.heap.size)
  generalize hAe : va_A (wl ad kv cy N v) s.heap.size = A at hD ⊢
  have hA : ∀ q : Nat, s.heap.size ≤ q → A q := fun q h => by rw [← hAe]; exact Or.inr h
  have hS : va_S A s.heap s.heap [] := va_S.rf
  have hP : va_P (dC, dI) vwCl (wl ad kv cy N v) s.heap := hP
  have hl := lv_entry ([.ref (ad 0), .int x0, .int x1]) (n := 3) (Nat.le_of_ble_eq_true rfl)
  rw [lg_entry_eq]
  generalize (lg_sl ([.ref (ad 0), .int x0, .int x1]) ++ List.replicate (3 - (lg_sl ([.ref (ad 0), .int x0, .int x1])).length) Slot.unset).toArray = ls at hl ⊢
  have hl : lv_has ls 3 [(0, .ref (ad 0)), (1, .int x0), (2, .int x1)] := hl
  have hfr : Fz v v := Fz.rf
  refine lv_aload_n hx hb dX7_judged_0 rfl (lv_at hl 0 rfl) ?_
  refine lv_iload_n hx hb dX7_judged_1 rfl (lv_at hl 1 rfl) ?_
  refine lv_iload_n hx hb dX7_judged_2 rfl (lv_at hl 2 rfl) ?_
  refine yw_i (w1 := fun (u : Nat → Nat → Int32) => wl ad kv cy N u) hD hS hA (va_runV (As := [.int x0, .int x1]) (rest := []) ⟨hx, hb, hml, hown, hts⟩ (g_X7_isTerm l dC dI cy _ ad kv N hN v hv x0 x1) (cwV 2 hts gX7_judged_X7_isTerm rfl rfl rfl hd_V_X7_isTerm_2 ⟨Nat.le_of_ble_eq_true rfl, Nat.le_of_ble_eq_true rfl⟩) (yw_preV hE hK hP hD (ci := 7) (q := (RX7, TX7, 5)) (q0 := 0) rfl (wl_at (by omega) (ce_0 (by decide)))) rfl rfl hl.1 rfl (lv_room (Nat.le_of_ble_eq_true rfl)) dX7_judged_3 ⟨Nat.le_of_ble_eq_true rfl, Nat.le_of_ble_eq_true rfl⟩) (fun r_1 v_1 H locs hw_1 hP hD hS => ?_)
  obtain ⟨hv, hw_1⟩ := hw_1
  have hfr : Fz v v_1 := hfr.trans hw_1.1
  rcases hw_1.2 with ⟨rfl, ha_2, hb_2⟩ | rfl
  · refine lv_if_ne (tgt := 11) hx hb dX7_judged_6 (by decide) (fun _ => ?_) (fun c9 => absurd c9 (by decide))
    refine lv_aload_n hx hb dX7_judged_11 rfl (lv_at hl 0 rfl) ?_
    refine va_get (D := (dC, dI)) (ci := 7) (v := .ref (ad 13)) (C := RX7) (T := TX7) (N := 5) hx hb hts iwX7_judged_X7 hown hK hP (0) (wl_at (by omega) (ce_0 (by decide))) rfl 0 (by decide) (hts (.fieldLink RX7 12 "QuietStairs" "now" "LQuietStairs$House;") fwX7_judged_1) (fun _ h9 => h9) rfl dX7_judged_12 ?_
    refine va_get (D := (dC, dI)) (ci := 1) (v := .ref (ad 16)) (C := RX1) (T := TX1) (N := 7) hx hb hts iwX7_judged_X1 hown hK hP (13) (wl_at (by omega) (ce_3 (by decide))) rfl 6 (by decide) (hts (.fieldLink RX7 86 "QuietStairs$House" "cases" "[LQuietStairs$Case;") fwX7_judged_2) (fun _ h9 => h9) rfl dX7_judged_15 ?_
    refine lv_iload_n hx hb dX7_judged_18 rfl (lv_at hl 1 rfl) ?_
    obtain ⟨pi3, i3, hi3, ni3, mi3⟩ := t_in (x := x0) (n := 6) ⟨by omega, by omega⟩
    refine va_aldq hx hb hK hP (16) 3 (wl_at (by omega) (ce_6 (by decide))) rfl pi3 dX7_judged_19 ?_
    refine W.eq (g2 := F0 m 20 ls [.ref (ad (29 + 15 * i3))]) (by rw [ni3, if_pos hi3, show 16 + 13 + 15 * i3 = 29 + 15 * i3 from by omega]; rfl) ?_
    refine lv_iload_n hx hb dX7_judged_20 rfl (lv_at hl 2 rfl) ?_
    refine yw_i (w1 := fun (u : Nat → Nat → Int32) => wl ad kv cy N u) hD hS hA (va_runV (As := [.int x1]) (rest := []) ⟨hx, hb, hml, hown, hts⟩ (g_X0_judge l dC dI cy _ ad kv N hN v_1 hv i3 hi3 x1 ⟨by omega, by omega⟩) (cwV 1 hts gX7_judged_X0_judge rfl rfl rfl hd_V_X0_judge_1 ⟨Nat.le_of_ble_eq_true rfl, Nat.le_of_ble_eq_true rfl⟩) (yw_preV hE hK hP hD (ci := 0) (q := (RX0, TX0, 11)) (q0 := (29 + 15 * i3)) rfl (wl_at (by omega) (ce_9 (kd_c i3 hi3).1.1))) rfl rfl hl.1 rfl (lv_room (Nat.le_of_ble_eq_true rfl)) dX7_judged_21 ⟨Nat.le_of_ble_eq_true rfl, Nat.le_of_ble_eq_true rfl⟩) (fun r_4 v_4 H locs hw_4 hP hD hS => ?_)
    obtain ⟨hv, hw_4⟩ := hw_4
    have hfr : Fz v v_4 := hfr.trans hw_4
    exact W.iret (v := r_4) hx hb hr (fun t ht hW => ⟨⟨r_4, v_4, rfl, ⟨hv, hfr⟩, by rw [ht]; exact hP, hD⟩, hS.F ht⟩) hS.2.2 dX7_judged_24
  · refine lv_if_ne (tgt := 11) hx hb dX7_judged_6 (by decide) (fun c9 => absurd c9 (by decide)) (fun _ => ?_)
    refine lv_iconst (v := (-1)) hx hb dX7_judged_9 (by decide) ?_
    exact W.iret (v := (-1)) hx hb hr (fun t ht hW => ⟨⟨(-1), v_1, rfl, ⟨hv, hfr⟩, by rw [ht]; exact hP, hD⟩, hS.F ht⟩) hS.2.2 dX7_judged_10

set_option maxHeartbeats 4000000 in
set_option maxRecDepth 100000 in
theorem g_X7_of (l : Launch) (dC : Nat → ClassId) (dI : Nat → Nat → Nat) (cy : Nat → ClassId) (sz : Nat) (ad : Nat → Nat) (kv : Value) (N : Nat) (hN : 119 ≤ N) (v : Nat → Nat → Int32) (hv : Iv v)  (x0 x1 : Int32) : Met l yX7_of wsX7_of ({ frames := 4, cells := 0, slots := 0, locals := 256 }) (va_Pc [.ref (ad 0), .int x0, .int x1] (ex_Pre dC dI cy sz (wl ad kv cy N v))) (va_Qi (fun (r : Int32) (u : Nat → Nat → Int32) => Iv u ∧ Fz v u) (fun u t => ex_Pst dC dI (va_A (wl ad kv cy N v) sz) (wl ad kv cy N u) t) (va_A (wl ad kv cy N v) sz)) 0 0 (va_A (wl ad kv cy N v) sz) := by
  refine Met.ofW (cc := cX7_of) (maxL := 4) (ret := (some .int)) (by decide) rfl ?_
  intro p e s m args below meth c s₁ B hml hv
  obtain ⟨rfl, hsz, hE, hP, hK, hD0⟩ := hv
  have hx := B.exec
  have hb := B.bytes
  have hr := B.returns
  have hts := atoms_spec (ws := wsX7_of) B.pre
  have hown : s.vm.findClass RX7 = some m.cls := findClass_of_methodNamed B.named
  have hlocks := B.notSynchronized
  subst hsz
  have hD := hD0.self (sz := s.heap.size)
  generalize hAe : va_A (wl ad kv cy N v) s.heap.size = A at hD ⊢
  have hA : ∀ q : Nat, s.heap.size ≤ q → A q := fun q h => by rw [← hAe]; exact Or.inr h
  have hS : va_S A s.heap s.heap [] := va_S.rf
  have hP : va_P (dC, dI) vwCl (wl ad kv cy N v) s.heap := hP
  have hl := lv_entry ([.ref (ad 0), .int x0, .int x1]) (n := 4) (Nat.le_of_ble_eq_true rfl)
  rw [lg_entry_eq]
  generalize (lg_sl ([.ref (ad 0), .int x0, .int x1]) ++ List.replicate (4 - (lg_sl ([.ref (ad 0), .int x0, .int x1])).length) Slot.unset).toArray = ls at hl ⊢
  have hl : lv_has ls 4 [(0, .ref (ad 0)), (1, .int x0), (2, .int x1)] := hl
  have hfr : Fz v v := Fz.rf
  refine lv_aload_n hx hb dX7_of_0 rfl (lv_at hl 0 rfl) ?_
  refine lv_iload_n hx hb dX7_of_1 rfl (lv_at hl 1 rfl) ?_
  refine yw_i (w1 := fun (u : Nat → Nat → Int32) => wl ad kv cy N u) hD hS hA (va_runV (As := [.int x0]) (rest := []) ⟨hx, hb, hml, hown, hts⟩ (g_X7_isCase l dC dI cy _ ad kv N hN v hv x0) (cwV 1 hts gX7_of_X7_isCase rfl rfl rfl hd_V_X7_isCase_1 ⟨Nat.le_of_ble_eq_true rfl, Nat.le_of_ble_eq_true rfl⟩) (yw_preV hE hK hP hD (ci := 7) (q := (RX7, TX7, 5)) (q0 := 0) rfl (wl_at (by omega) (ce_0 (by decide)))) rfl rfl hl.1 rfl (lv_room (Nat.le_of_ble_eq_true rfl)) dX7_of_2 ⟨Nat.le_of_ble_eq_true rfl, Nat.le_of_ble_eq_true rfl⟩) (fun r_1 v_1 H locs hw_1 hP hD hS => ?_)
  obtain ⟨hv, hw_1⟩ := hw_1
  obtain ⟨hu_1, hw_1⟩ := hw_1
  have hfr : Fz v v_1 := by rw [hu_1]; exact hfr
  rcases hw_1 with ⟨rfl, ha_2⟩ | ⟨rfl, -⟩
  · have hb_2 := hv.at (k := 13) (j := 2) (K := 3) (by decide) rfl
    have hb_2 : 0 ≤ x0.toInt ∧ x0.toInt < 6 := by omega
    refine lv_if_ne (tgt := 10) hx hb dX7_of_5 (by decide) (fun _ => ?_) (fun c9 => absurd c9 (by decide))
    refine lv_aload_n hx hb dX7_of_10 rfl (lv_at hl 0 rfl) ?_
    refine va_get (D := (dC, dI)) (ci := 7) (v := .ref (ad 13)) (C := RX7) (T := TX7) (N := 5) hx hb hts iwX7_of_X7 hown hK hP (0) (wl_at (by omega) (ce_0 (by decide))) rfl 0 (by decide) (hts (.fieldLink RX7 12 "QuietStairs" "now" "LQuietStairs$House;") fwX7_of_1) (fun _ h9 => h9) rfl dX7_of_11 ?_
    refine va_get (D := (dC, dI)) (ci := 1) (v := .ref (ad 16)) (C := RX1) (T := TX1) (N := 7) hx hb hts iwX7_of_X1 hown hK hP (13) (wl_at (by omega) (ce_3 (by decide))) rfl 6 (by decide) (hts (.fieldLink RX7 86 "QuietStairs$House" "cases" "[LQuietStairs$Case;") fwX7_of_2) (fun _ h9 => h9) rfl dX7_of_14 ?_
    refine lv_iload_n hx hb dX7_of_17 rfl (lv_at hl 1 rfl) ?_
    obtain ⟨pi3, i3, hi3, ni3, mi3⟩ := t_in (x := x0) (n := 6) ⟨by omega, by omega⟩
    refine va_aldq hx hb hK hP (16) 3 (wl_at (by omega) (ce_6 (by decide))) rfl pi3 dX7_of_18 ?_
    refine W.eq (g2 := F0 m 19 ls [.ref (ad (29 + 15 * i3))]) (by rw [ni3, if_pos hi3, show 16 + 13 + 15 * i3 = 29 + 15 * i3 from by omega]; rfl) ?_
    refine lv_astore_n (lv' := [(3, .ref (ad (29 + 15 * i3))), (0, .ref (ad 0)), (1, .int x0), (2, .int x1)]) hx hb dX7_of_19 rfl hl (by decide) rfl (fun ls hl => ?_)
    refine lv_iload_n hx hb dX7_of_20 rfl (lv_at hl 3 rfl) ?_
    rcases sw_8 x1 with hsw | hsw | hsw | hsw | hsw | hsw | hsw | hsw | hsw
    · refine lv_tableOut (tgt := 136) hx hb dX7_of_21 hsw (by decide) ?_
      refine lv_iconst (v := (-1)) hx hb dX7_of_136 (by decide) ?_
      exact W.iret (v := (-1)) hx hb hr (fun t ht hW => ⟨⟨(-1), v_1, rfl, ⟨hv, hfr⟩, by rw [ht]; exact hP, hD⟩, hS.F ht⟩) hS.2.2 dX7_of_137
    · refine lv_tableIn (off := 47) (tgt := 68) hx hb dX7_of_21 (by rw [hsw]; decide) (by rw [hsw]; decide) (by rw [hsw]; decide) (by decide) ?_
      refine lv_aload_n hx hb dX7_of_68 rfl (lv_at hl 0 rfl) ?_
      refine va_get (D := (dC, dI)) (ci := 0) (v := .ref (ad (29 + 15 * i3 + 1))) (C := RX0) (T := TX0) (N := 11) hx hb hts iwX7_of_X0 hown hK hP (29 + 15 * i3) (wl_at (by omega) (ce_9 (kd_c i3 hi3).1.1)) rfl 6 (by decide) (hts (.fieldLink RX7 111 "QuietStairs$Case" "parties" "[I") fwX7_of_3) (fun _ h9 => h9) rfl dX7_of_69 ?_
      refine W.eq (g2 := F0 m 72 ls [.ref (ad (30 + 15 * i3))]) (by rw [show 29 + 15 * i3 + 1 = 30 + 15 * i3 from by omega]) ?_
      refine lv_iconst (v := 0) hx hb dX7_of_72 (by decide) ?_
      refine va_iald hx hb hK hP (30 + 15 * i3) 0 (wl_at (by omega) (ce_10 (kd_c i3 hi3).1.2.1)) rfl (by unfold vp_in; decide) dX7_of_73 ?_
      refine lv_topi (fun x_4 ex_4 => ?_)
      have bx_4 : 0 ≤ x_4.toInt ∧ x_4.toInt ≤ 7 := by rw [ex_4]; exact hv.at (K := 10) (kd_c i3 hi3).1.2.1 rfl
      exact W.iret (v := x_4) hx hb hr (fun t ht hW => ⟨⟨x_4, v_1, rfl, ⟨hv, hfr⟩, by rw [ht]; exact hP, hD⟩, hS.F ht⟩) hS.2.2 dX7_of_74
    · refine lv_tableIn (off := 54) (tgt := 75) hx hb dX7_of_21 (by rw [hsw]; decide) (by rw [hsw]; decide) (by rw [hsw]; decide) (by decide) ?_
      refine lv_aload_n hx hb dX7_of_75 rfl (lv_at hl 0 rfl) ?_
      refine va_get (D := (dC, dI)) (ci := 0) (v := .ref (ad (29 + 15 * i3 + 1))) (C := RX0) (T := TX0) (N := 11) hx hb hts iwX7_of_X0 hown hK hP (29 + 15 * i3) (wl_at (by omega) (ce_9 (kd_c i3 hi3).1.1)) rfl 6 (by decide) (hts (.fieldLink RX7 111 "QuietStairs$Case" "parties" "[I") fwX7_of_3) (fun _ h9 => h9) rfl dX7_of_76 ?_
      refine W.eq (g2 := F0 m 79 ls [.ref (ad (30 + 15 * i3))]) (by rw [show 29 + 15 * i3 + 1 = 30 + 15 * i3 from by omega]) ?_
      refine lv_iconst (v := 1) hx hb dX7_of_79 (by decide) ?_
      refine va_iald hx hb hK hP (30 + 15 * i3) 0 (wl_at (by omega) (ce_10 (kd_c i3 hi3).1.2.1)) rfl (by unfold vp_in; decide) dX7_of_80 ?_
      refine lv_topi (fun x_4 ex_4 => ?_)
      have bx_4 : 0 ≤ x_4.toInt ∧ x_4.toInt ≤ 7 := by rw [ex_4]; exact hv.at (K := 10) (kd_c i3 hi3).1.2.1 rfl
      exact W.iret (v := x_4) hx hb hr (fun t ht hW => ⟨⟨x_4, v_1, rfl, ⟨hv, hfr⟩, by rw [ht]; exact hP, hD⟩, hS.F ht⟩) hS.2.2 dX7_of_81
    · refine lv_tableIn (off := 61) (tgt := 82) hx hb dX7_of_21 (by rw [hsw]; decide) (by rw [hsw]; decide) (by rw [hsw]; decide) (by decide) ?_
      refine lv_aload_n hx hb dX7_of_82 rfl (lv_at hl 0 rfl) ?_
      refine va_get (D := (dC, dI)) (ci := 0) (v := .int (v_1 (29 + 15 * i3) 0)) (C := RX0) (T := TX0) (N := 11) hx hb hts iwX7_of_X0 hown hK hP (29 + 15 * i3) (wl_at (by omega) (ce_9 (kd_c i3 hi3).1.1)) rfl 0 (by decide) (hts (.fieldLink RX7 99 "QuietStairs$Case" "state" "I") fwX7_of_4) (fun _ h9 => h9) rfl dX7_of_83 ?_
      refine lv_topi (fun x_4 ex_4 => ?_)
      exact W.iret (v := x_4) hx hb hr (fun t ht hW => ⟨⟨x_4, v_1, rfl, ⟨hv, hfr⟩, by rw [ht]; exact hP, hD⟩, hS.F ht⟩) hS.2.2 dX7_of_86
    · refine lv_tableIn (off := 66) (tgt := 87) hx hb dX7_of_21 (by rw [hsw]; decide) (by rw [hsw]; decide) (by rw [hsw]; decide) (by decide) ?_
      refine lv_aload_n hx hb dX7_of_87 rfl (lv_at hl 0 rfl) ?_
      refine va_get (D := (dC, dI)) (ci := 0) (v := .int (v_1 (29 + 15 * i3) 0)) (C := RX0) (T := TX0) (N := 11) hx hb hts iwX7_of_X0 hown hK hP (29 + 15 * i3) (wl_at (by omega) (ce_9 (kd_c i3 hi3).1.1)) rfl 0 (by decide) (hts (.fieldLink RX7 99 "QuietStairs$Case" "state" "I") fwX7_of_4) (fun _ h9 => h9) rfl dX7_of_88 ?_
      refine lv_topi (fun x_4 ex_4 => ?_)
      refine lv_iconst (v := 1) hx hb dX7_of_91 (by decide) ?_
      have k_1 : (1 : Int32).toInt = 1 := by decide
      refine lv_icmp_ne (tgt := 102) hx hb dX7_of_92 (by decide) (fun c_5 => ?_) (fun c_5 => ?_)
      · have tc_5 : x_4.toInt ≠ (1 : Int32).toInt := fun q => absurd (Int32.toInt_inj.mp q) c_5
        refine lv_bipush (v := (-5)) hx hb dX7_of_102 (by decide) ?_
        exact W.iret (v := (-5)) hx hb hr (fun t ht hW => ⟨⟨(-5), v_1, rfl, ⟨hv, hfr⟩, by rw [ht]; exact hP, hD⟩, hS.F ht⟩) hS.2.2 dX7_of_104
      · have tc_5 : x_4.toInt = (1 : Int32).toInt := by rw [c_5]
        refine lv_aload_n hx hb dX7_of_95 rfl (lv_at hl 0 rfl) ?_
        refine va_get (D := (dC, dI)) (ci := 0) (v := .int (v_1 (29 + 15 * i3) 1)) (C := RX0) (T := TX0) (N := 11) hx hb hts iwX7_of_X0 hown hK hP (29 + 15 * i3) (wl_at (by omega) (ce_9 (kd_c i3 hi3).1.1)) rfl 1 (by decide) (hts (.fieldLink RX7 114 "QuietStairs$Case" "sum" "I") fwX7_of_5) (fun _ h9 => h9) rfl dX7_of_96 ?_
        refine lv_topi (fun x_6 ex_6 => ?_)
        refine lv_goto (tgt := 104) hx hb dX7_of_99 (by decide) ?_
        exact W.iret (v := x_6) hx hb hr (fun t ht hW => ⟨⟨x_6, v_1, rfl, ⟨hv, hfr⟩, by rw [ht]; exact hP, hD⟩, hS.F ht⟩) hS.2.2 dX7_of_104
    · refine lv_tableIn (off := 84) (tgt := 105) hx hb dX7_of_21 (by rw [hsw]; decide) (by rw [hsw]; decide) (by rw [hsw]; decide) (by decide) ?_
      refine lv_aload_n hx hb dX7_of_105 rfl (lv_at hl 0 rfl) ?_
      refine va_get (D := (dC, dI)) (ci := 0) (v := .int (v_1 (29 + 15 * i3) 2)) (C := RX0) (T := TX0) (N := 11) hx hb hts iwX7_of_X0 hown hK hP (29 + 15 * i3) (wl_at (by omega) (ce_9 (kd_c i3 hi3).1.1)) rfl 2 (by decide) (hts (.fieldLink RX7 117 "QuietStairs$Case" "roundsOver" "I") fwX7_of_6) (fun _ h9 => h9) rfl dX7_of_106 ?_
      refine lv_topi (fun x_4 ex_4 => ?_)
      have bx_4 : 0 ≤ x_4.toInt ∧ x_4.toInt ≤ 5 := by rw [ex_4]; exact hv.at (K := 9) (kd_c i3 hi3).1.1 rfl
      exact W.iret (v := x_4) hx hb hr (fun t ht hW => ⟨⟨x_4, v_1, rfl, ⟨hv, hfr⟩, by rw [ht]; exact hP, hD⟩, hS.F ht⟩) hS.2.2 dX7_of_109
    · refine lv_tableIn (off := 89) (tgt := 110) hx hb dX7_of_21 (by rw [hsw]; decide) (by rw [hsw]; decide) (by rw [hsw]; decide) (by decide) ?_
      refine lv_aload_n hx hb dX7_of_110 rfl (lv_at hl 1 rfl) ?_
      refine va_get (D := (dC, dI)) (ci := 7) (v := .ref (ad 13)) (C := RX7) (T := TX7) (N := 5) hx hb hts iwX7_of_X7 hown hK hP (0) (wl_at (by omega) (ce_0 (by decide))) rfl 0 (by decide) (hts (.fieldLink RX7 12 "QuietStairs" "now" "LQuietStairs$House;") fwX7_of_1) (fun _ h9 => h9) rfl dX7_of_111 ?_
      refine lv_iload_n hx hb dX7_of_114 rfl (lv_at hl 2 rfl) ?_
      refine yw_i (w1 := fun (u : Nat → Nat → Int32) => wl ad kv cy N u) hD hS hA (va_runV (As := [.int x0]) (rest := []) ⟨hx, hb, hml, hown, hts⟩ (g_X1_headOfQuarrel l dC dI cy _ ad kv N hN v_1 hv x0 ⟨by omega, by omega⟩) (cwV 1 hts gX7_of_X1_headOfQuarrel rfl rfl rfl hd_V_X1_headOfQuarrel_1 ⟨Nat.le_of_ble_eq_true rfl, Nat.le_of_ble_eq_true rfl⟩) (yw_preV hE hK hP hD (ci := 1) (q := (RX1, TX1, 7)) (q0 := 13) rfl (wl_at (by omega) (ce_3 (by decide)))) rfl rfl hl.1 rfl (lv_room (Nat.le_of_ble_eq_true rfl)) dX7_of_115 ⟨Nat.le_of_ble_eq_true rfl, Nat.le_of_ble_eq_true rfl⟩) (fun r_4 v_4 H locs hw_4 hP hD hS => ?_)
      obtain ⟨hv, hw_4⟩ := hw_4
      have hfr : Fz v v_4 := hfr.trans hw_4
      exact W.iret (v := r_4) hx hb hr (fun t ht hW => ⟨⟨r_4, v_4, rfl, ⟨hv, hfr⟩, by rw [ht]; exact hP, hD⟩, hS.F ht⟩) hS.2.2 dX7_of_118
    · refine lv_tableIn (off := 98) (tgt := 119) hx hb dX7_of_21 (by rw [hsw]; decide) (by rw [hsw]; decide) (by rw [hsw]; decide) (by decide) ?_
      refine lv_aload_n hx hb dX7_of_119 rfl (lv_at hl 1 rfl) ?_
      refine va_get (D := (dC, dI)) (ci := 7) (v := .ref (ad 13)) (C := RX7) (T := TX7) (N := 5) hx hb hts iwX7_of_X7 hown hK hP (0) (wl_at (by omega) (ce_0 (by decide))) rfl 0 (by decide) (hts (.fieldLink RX7 12 "QuietStairs" "now" "LQuietStairs$House;") fwX7_of_1) (fun _ h9 => h9) rfl dX7_of_120 ?_
      refine lv_iload_n hx hb dX7_of_123 rfl (lv_at hl 2 rfl) ?_
      refine yw_i (w1 := fun (u : Nat → Nat → Int32) => wl ad kv cy N u) hD hS hA (va_runV (As := [.int x0]) (rest := []) ⟨hx, hb, hml, hown, hts⟩ (g_X1_quarrelBits l dC dI cy _ ad kv N hN v_1 hv x0) (cwV 1 hts gX7_of_X1_quarrelBits rfl rfl rfl hd_V_X1_quarrelBits_1 ⟨Nat.le_of_ble_eq_true rfl, Nat.le_of_ble_eq_true rfl⟩) (yw_preV hE hK hP hD (ci := 1) (q := (RX1, TX1, 7)) (q0 := 13) rfl (wl_at (by omega) (ce_3 (by decide)))) rfl rfl hl.1 rfl (lv_room (Nat.le_of_ble_eq_true rfl)) dX7_of_124 ⟨Nat.le_of_ble_eq_true rfl, Nat.le_of_ble_eq_true rfl⟩) (fun r_4 v_4 H locs hw_4 hP hD hS => ?_)
      obtain ⟨hv, hw_4⟩ := hw_4
      have hfr : Fz v v_4 := hfr.trans hw_4
      refine yc_p hP hS (va_runS (As := [.int r_4]) (rest := []) ⟨hx, hb, hml, hown, hts⟩ (c_bitCount l r_4) (va_cwS 1 hts gX7_of_J6_bitCount_0f7a4 rfl rfl rfl hd_w_J6_bitCount_0f7a4_1 ⟨Nat.le_of_ble_eq_true rfl, Nat.le_of_ble_eq_true rfl⟩) ex_preP rfl rfl hl.1 rfl (lv_room (Nat.le_of_ble_eq_true rfl)) dX7_of_127 ⟨Nat.le_of_ble_eq_true rfl, Nat.le_of_ble_eq_true rfl⟩) (fun r_5 H locs hw_5 hP hS => ?_)
      exact W.iret (v := r_5) hx hb hr (fun t ht hW => ⟨⟨r_5, v_4, rfl, ⟨hv, hfr⟩, by rw [ht]; exact hP, hD⟩, hS.F ht⟩) hS.2.2 dX7_of_130
    · refine lv_tableIn (off := 110) (tgt := 131) hx hb dX7_of_21 (by rw [hsw]; decide) (by rw [hsw]; decide) (by rw [hsw]; decide) (by decide) ?_
      refine lv_aload_n hx hb dX7_of_131 rfl (lv_at hl 0 rfl) ?_
      refine va_get (D := (dC, dI)) (ci := 0) (v := .int (v_1 (29 + 15 * i3) 3)) (C := RX0) (T := TX0) (N := 11) hx hb hts iwX7_of_X0 hown hK hP (29 + 15 * i3) (wl_at (by omega) (ce_9 (kd_c i3 hi3).1.1)) rfl 3 (by decide) (hts (.fieldLink RX7 102 "QuietStairs$Case" "weight" "I") fwX7_of_7) (fun _ h9 => h9) rfl dX7_of_132 ?_
      refine lv_topi (fun x_4 ex_4 => ?_)
      exact W.iret (v := x_4) hx hb hr (fun t ht hW => ⟨⟨x_4, v_1, rfl, ⟨hv, hfr⟩, by rw [ht]; exact hP, hD⟩, hS.F ht⟩) hS.2.2 dX7_of_135
  · refine lv_if_ne (tgt := 10) hx hb dX7_of_5 (by decide) (fun c9 => absurd c9 (by decide)) (fun _ => ?_)
    refine lv_iconst (v := (-1)) hx hb dX7_of_8 (by decide) ?_
    exact W.iret (v := (-1)) hx hb hr (fun t ht hW => ⟨⟨(-1), v_1, rfl, ⟨hv, hfr⟩, by rw [ht]; exact hP, hD⟩, hS.F ht⟩) hS.2.2 dX7_of_9

set_option maxHeartbeats 4000000 in
set_option maxRecDepth 100000 in
theorem g_X7_many (l : Launch) (dC : Nat → ClassId) (dI : Nat → Nat → Nat) (cy : Nat → ClassId) (sz : Nat) (ad : Nat → Nat) (kv : Value) (N : Nat) (hN : 119 ≤ N) (v : Nat → Nat → Int32) (hv : Iv v)  (x0 : Int32) : Met l yX7_many wsX7_many ({ frames := 4, cells := 0, slots := 0, locals := 256 }) (va_Pc [.ref (ad 0), .int x0] (ex_Pre dC dI cy sz (wl ad kv cy N v))) (va_Qi (fun (r : Int32) (u : Nat → Nat → Int32) => Iv u ∧ Fz v u) (fun u t => ex_Pst dC dI (va_A (wl ad kv cy N v) sz) (wl ad kv cy N u) t) (va_A (wl ad kv cy N v) sz)) 0 0 (va_A (wl ad kv cy N v) sz) := by
  refine Met.ofW (cc := cX7_many) (maxL := 2) (ret := (some .int)) (by decide) rfl ?_
  intro p e s m args below meth c s₁ B hml hv
  obtain ⟨rfl, hsz, hE, hP, hK, hD0⟩ := hv
  have hx := B.exec
  have hb := B.bytes
  have hr := B.returns
  have hts := atoms_spec (ws := wsX7_many) B.pre
  have hown : s.vm.findClass RX7 = some m.cls := findClass_of_methodNamed B.named
  have hlocks := B.notSynchronized
  subst hsz
  have hD := hD0.self (sz := s.heap.size)
  generalize hAe : va_A (wl ad kv cy N v) s.heap.size = A at hD ⊢
  have hA : ∀ q : Nat, s.heap.size ≤ q → A q := fun q h => by rw [← hAe]; exact Or.inr h
  have hS : va_S A s.heap s.heap [] := va_S.rf
  have hP : va_P (dC, dI) vwCl (wl ad kv cy N v) s.heap := hP
  have hl := lv_entry ([.ref (ad 0), .int x0]) (n := 2) (Nat.le_of_ble_eq_true rfl)
  rw [lg_entry_eq]
  generalize (lg_sl ([.ref (ad 0), .int x0]) ++ List.replicate (2 - (lg_sl ([.ref (ad 0), .int x0])).length) Slot.unset).toArray = ls at hl ⊢
  have hl : lv_has ls 2 [(0, .ref (ad 0)), (1, .int x0)] := hl
  have hfr : Fz v v := Fz.rf
  refine lv_iload_n hx hb dX7_many_0 rfl (lv_at hl 1 rfl) ?_
  rcases sw_11 x0 with hsw | hsw | hsw | hsw | hsw | hsw | hsw | hsw | hsw | hsw | hsw | hsw
  · refine lv_tableOut (tgt := 153) hx hb dX7_many_1 hsw (by decide) ?_
    refine lv_iconst (v := (-1)) hx hb dX7_many_153 (by decide) ?_
    exact W.iret (v := (-1)) hx hb hr (fun t ht hW => ⟨⟨(-1), v, rfl, ⟨hv, hfr⟩, by rw [ht]; exact hP, hD⟩, hS.F ht⟩) hS.2.2 dX7_many_154
  · refine lv_tableIn (off := 59) (tgt := 60) hx hb dX7_many_1 (by rw [hsw]; decide) (by rw [hsw]; decide) (by rw [hsw]; decide) (by decide) ?_
    refine lv_aload_n hx hb dX7_many_60 rfl (lv_at hl 0 rfl) ?_
    refine va_get (D := (dC, dI)) (ci := 7) (v := .ref (ad 13)) (C := RX7) (T := TX7) (N := 5) hx hb hts iwX7_many_X7 hown hK hP (0) (wl_at (by omega) (ce_0 (by decide))) rfl 0 (by decide) (hts (.fieldLink RX7 12 "QuietStairs" "now" "LQuietStairs$House;") fwX7_many_1) (fun _ h9 => h9) rfl dX7_many_61 ?_
    refine va_get (D := (dC, dI)) (ci := 1) (v := .int (v (13) 0)) (C := RX1) (T := TX1) (N := 7) hx hb hts iwX7_many_X1 hown hK hP (13) (wl_at (by omega) (ce_3 (by decide))) rfl 0 (by decide) (hts (.fieldLink RX7 41 "QuietStairs$House" "partyCount" "I") fwX7_many_2) (fun _ h9 => h9) rfl dX7_many_64 ?_
    refine lv_topi (fun x_1 ex_1 => ?_)
    have bx_1 : 0 ≤ x_1.toInt ∧ x_1.toInt ≤ 8 := by rw [ex_1]; exact hv.at (K := 3) (by decide) rfl
    exact W.iret (v := x_1) hx hb hr (fun t ht hW => ⟨⟨x_1, v, rfl, ⟨hv, hfr⟩, by rw [ht]; exact hP, hD⟩, hS.F ht⟩) hS.2.2 dX7_many_67
  · refine lv_tableIn (off := 67) (tgt := 68) hx hb dX7_many_1 (by rw [hsw]; decide) (by rw [hsw]; decide) (by rw [hsw]; decide) (by decide) ?_
    refine lv_aload_n hx hb dX7_many_68 rfl (lv_at hl 0 rfl) ?_
    refine va_get (D := (dC, dI)) (ci := 7) (v := .ref (ad 13)) (C := RX7) (T := TX7) (N := 5) hx hb hts iwX7_many_X7 hown hK hP (0) (wl_at (by omega) (ce_0 (by decide))) rfl 0 (by decide) (hts (.fieldLink RX7 12 "QuietStairs" "now" "LQuietStairs$House;") fwX7_many_1) (fun _ h9 => h9) rfl dX7_many_69 ?_
    refine va_get (D := (dC, dI)) (ci := 1) (v := .int (v (13) 1)) (C := RX1) (T := TX1) (N := 7) hx hb hts iwX7_many_X1 hown hK hP (13) (wl_at (by omega) (ce_3 (by decide))) rfl 1 (by decide) (hts (.fieldLink RX7 56 "QuietStairs$House" "mediatorCount" "I") fwX7_many_3) (fun _ h9 => h9) rfl dX7_many_72 ?_
    refine lv_topi (fun x_1 ex_1 => ?_)
    have bx_1 : 0 ≤ x_1.toInt ∧ x_1.toInt ≤ 4 := by rw [ex_1]; exact hv.at (K := 3) (by decide) rfl
    exact W.iret (v := x_1) hx hb hr (fun t ht hW => ⟨⟨x_1, v, rfl, ⟨hv, hfr⟩, by rw [ht]; exact hP, hD⟩, hS.F ht⟩) hS.2.2 dX7_many_75
  · refine lv_tableIn (off := 75) (tgt := 76) hx hb dX7_many_1 (by rw [hsw]; decide) (by rw [hsw]; decide) (by rw [hsw]; decide) (by decide) ?_
    refine lv_aload_n hx hb dX7_many_76 rfl (lv_at hl 0 rfl) ?_
    refine va_get (D := (dC, dI)) (ci := 7) (v := .ref (ad 13)) (C := RX7) (T := TX7) (N := 5) hx hb hts iwX7_many_X7 hown hK hP (0) (wl_at (by omega) (ce_0 (by decide))) rfl 0 (by decide) (hts (.fieldLink RX7 12 "QuietStairs" "now" "LQuietStairs$House;") fwX7_many_1) (fun _ h9 => h9) rfl dX7_many_77 ?_
    refine va_get (D := (dC, dI)) (ci := 1) (v := .int (v (13) 2)) (C := RX1) (T := TX1) (N := 7) hx hb hts iwX7_many_X1 hown hK hP (13) (wl_at (by omega) (ce_3 (by decide))) rfl 2 (by decide) (hts (.fieldLink RX7 83 "QuietStairs$House" "caseCount" "I") fwX7_many_4) (fun _ h9 => h9) rfl dX7_many_80 ?_
    refine lv_topi (fun x_1 ex_1 => ?_)
    have bx_1 : 0 ≤ x_1.toInt ∧ x_1.toInt ≤ 6 := by rw [ex_1]; exact hv.at (K := 3) (by decide) rfl
    exact W.iret (v := x_1) hx hb hr (fun t ht hW => ⟨⟨x_1, v, rfl, ⟨hv, hfr⟩, by rw [ht]; exact hP, hD⟩, hS.F ht⟩) hS.2.2 dX7_many_83
  · refine lv_tableIn (off := 83) (tgt := 84) hx hb dX7_many_1 (by rw [hsw]; decide) (by rw [hsw]; decide) (by rw [hsw]; decide) (by decide) ?_
    refine lv_aload_n hx hb dX7_many_84 rfl (lv_at hl 0 rfl) ?_
    refine va_get (D := (dC, dI)) (ci := 7) (v := .ref (ad 13)) (C := RX7) (T := TX7) (N := 5) hx hb hts iwX7_many_X7 hown hK hP (0) (wl_at (by omega) (ce_0 (by decide))) rfl 0 (by decide) (hts (.fieldLink RX7 12 "QuietStairs" "now" "LQuietStairs$House;") fwX7_many_1) (fun _ h9 => h9) rfl dX7_many_85 ?_
    refine lv_iconst (v := 0) hx hb dX7_many_88 (by decide) ?_
    refine yw_i (w1 := fun (u : Nat → Nat → Int32) => wl ad kv cy N u) hD hS hA (va_runV (As := [.int 0]) (rest := []) ⟨hx, hb, hml, hown, hts⟩ (g_X1_countState l dC dI cy _ ad kv N hN v hv 0) (cwV 1 hts gX7_many_X1_countState rfl rfl rfl hd_V_X1_countState_1 ⟨Nat.le_of_ble_eq_true rfl, Nat.le_of_ble_eq_true rfl⟩) (yw_preV hE hK hP hD (ci := 1) (q := (RX1, TX1, 7)) (q0 := 13) rfl (wl_at (by omega) (ce_3 (by decide)))) rfl rfl hl.1 rfl (lv_room (Nat.le_of_ble_eq_true rfl)) dX7_many_89 ⟨Nat.le_of_ble_eq_true rfl, Nat.le_of_ble_eq_true rfl⟩) (fun r_1 v_1 H locs hw_1 hP hD hS => ?_)
    obtain ⟨hv, hw_1⟩ := hw_1
    have hfr : Fz v v_1 := hfr.trans hw_1
    exact W.iret (v := r_1) hx hb hr (fun t ht hW => ⟨⟨r_1, v_1, rfl, ⟨hv, hfr⟩, by rw [ht]; exact hP, hD⟩, hS.F ht⟩) hS.2.2 dX7_many_92
  · refine lv_tableIn (off := 92) (tgt := 93) hx hb dX7_many_1 (by rw [hsw]; decide) (by rw [hsw]; decide) (by rw [hsw]; decide) (by decide) ?_
    refine lv_aload_n hx hb dX7_many_93 rfl (lv_at hl 0 rfl) ?_
    refine va_get (D := (dC, dI)) (ci := 7) (v := .ref (ad 13)) (C := RX7) (T := TX7) (N := 5) hx hb hts iwX7_many_X7 hown hK hP (0) (wl_at (by omega) (ce_0 (by decide))) rfl 0 (by decide) (hts (.fieldLink RX7 12 "QuietStairs" "now" "LQuietStairs$House;") fwX7_many_1) (fun _ h9 => h9) rfl dX7_many_94 ?_
    refine lv_iconst (v := 1) hx hb dX7_many_97 (by decide) ?_
    refine yw_i (w1 := fun (u : Nat → Nat → Int32) => wl ad kv cy N u) hD hS hA (va_runV (As := [.int 1]) (rest := []) ⟨hx, hb, hml, hown, hts⟩ (g_X1_countState l dC dI cy _ ad kv N hN v hv 1) (cwV 1 hts gX7_many_X1_countState rfl rfl rfl hd_V_X1_countState_1 ⟨Nat.le_of_ble_eq_true rfl, Nat.le_of_ble_eq_true rfl⟩) (yw_preV hE hK hP hD (ci := 1) (q := (RX1, TX1, 7)) (q0 := 13) rfl (wl_at (by omega) (ce_3 (by decide)))) rfl rfl hl.1 rfl (lv_room (Nat.le_of_ble_eq_true rfl)) dX7_many_98 ⟨Nat.le_of_ble_eq_true rfl, Nat.le_of_ble_eq_true rfl⟩) (fun r_1 v_1 H locs hw_1 hP hD hS => ?_)
    obtain ⟨hv, hw_1⟩ := hw_1
    have hfr : Fz v v_1 := hfr.trans hw_1
    exact W.iret (v := r_1) hx hb hr (fun t ht hW => ⟨⟨r_1, v_1, rfl, ⟨hv, hfr⟩, by rw [ht]; exact hP, hD⟩, hS.F ht⟩) hS.2.2 dX7_many_101
  · refine lv_tableIn (off := 101) (tgt := 102) hx hb dX7_many_1 (by rw [hsw]; decide) (by rw [hsw]; decide) (by rw [hsw]; decide) (by decide) ?_
    refine lv_aload_n hx hb dX7_many_102 rfl (lv_at hl 0 rfl) ?_
    refine va_get (D := (dC, dI)) (ci := 7) (v := .ref (ad 13)) (C := RX7) (T := TX7) (N := 5) hx hb hts iwX7_many_X7 hown hK hP (0) (wl_at (by omega) (ce_0 (by decide))) rfl 0 (by decide) (hts (.fieldLink RX7 12 "QuietStairs" "now" "LQuietStairs$House;") fwX7_many_1) (fun _ h9 => h9) rfl dX7_many_103 ?_
    refine va_get (D := (dC, dI)) (ci := 1) (v := .int (v (13) 3)) (C := RX1) (T := TX1) (N := 7) hx hb hts iwX7_many_X1 hown hK hP (13) (wl_at (by omega) (ce_3 (by decide))) rfl 3 (by decide) (hts (.fieldLink RX7 108 "QuietStairs$House" "markCount" "I") fwX7_many_5) (fun _ h9 => h9) rfl dX7_many_106 ?_
    refine lv_topi (fun x_1 ex_1 => ?_)
    have bx_1 : 0 ≤ x_1.toInt ∧ x_1.toInt ≤ 6 := by rw [ex_1]; exact hv.at (K := 3) (by decide) rfl
    exact W.iret (v := x_1) hx hb hr (fun t ht hW => ⟨⟨x_1, v, rfl, ⟨hv, hfr⟩, by rw [ht]; exact hP, hD⟩, hS.F ht⟩) hS.2.2 dX7_many_109
  · refine lv_tableIn (off := 109) (tgt := 110) hx hb dX7_many_1 (by rw [hsw]; decide) (by rw [hsw]; decide) (by rw [hsw]; decide) (by decide) ?_
    refine lv_aload_n hx hb dX7_many_110 rfl (lv_at hl 0 rfl) ?_
    refine va_get (D := (dC, dI)) (ci := 7) (v := .ref (ad 13)) (C := RX7) (T := TX7) (N := 5) hx hb hts iwX7_many_X7 hown hK hP (0) (wl_at (by omega) (ce_0 (by decide))) rfl 0 (by decide) (hts (.fieldLink RX7 12 "QuietStairs" "now" "LQuietStairs$House;") fwX7_many_1) (fun _ h9 => h9) rfl dX7_many_111 ?_
    refine yw_i (w1 := fun (u : Nat → Nat → Int32) => wl ad kv cy N u) hD hS hA (va_runV (As := []) (rest := []) ⟨hx, hb, hml, hown, hts⟩ (g_X1_countQuarrels l dC dI cy _ ad kv N hN v hv ) (cwV 0 hts gX7_many_X1_countQuarrels rfl rfl rfl hd_V_X1_countQuarrels_0 ⟨Nat.le_of_ble_eq_true rfl, Nat.le_of_ble_eq_true rfl⟩) (yw_preV hE hK hP hD (ci := 1) (q := (RX1, TX1, 7)) (q0 := 13) rfl (wl_at (by omega) (ce_3 (by decide)))) rfl rfl hl.1 rfl (lv_room (Nat.le_of_ble_eq_true rfl)) dX7_many_114 ⟨Nat.le_of_ble_eq_true rfl, Nat.le_of_ble_eq_true rfl⟩) (fun r_1 v_1 H locs hw_1 hP hD hS => ?_)
    obtain ⟨hv, hw_1⟩ := hw_1
    have hfr : Fz v v_1 := hfr.trans hw_1
    exact W.iret (v := r_1) hx hb hr (fun t ht hW => ⟨⟨r_1, v_1, rfl, ⟨hv, hfr⟩, by rw [ht]; exact hP, hD⟩, hS.F ht⟩) hS.2.2 dX7_many_117
  · refine lv_tableIn (off := 117) (tgt := 118) hx hb dX7_many_1 (by rw [hsw]; decide) (by rw [hsw]; decide) (by rw [hsw]; decide) (by decide) ?_
    refine lv_aload_n hx hb dX7_many_118 rfl (lv_at hl 0 rfl) ?_
    refine va_get (D := (dC, dI)) (ci := 7) (v := .ref (ad 13)) (C := RX7) (T := TX7) (N := 5) hx hb hts iwX7_many_X7 hown hK hP (0) (wl_at (by omega) (ce_0 (by decide))) rfl 0 (by decide) (hts (.fieldLink RX7 12 "QuietStairs" "now" "LQuietStairs$House;") fwX7_many_1) (fun _ h9 => h9) rfl dX7_many_119 ?_
    refine yw_i (w1 := fun (u : Nat → Nat → Int32) => wl ad kv cy N u) hD hS hA (va_runV (As := []) (rest := []) ⟨hx, hb, hml, hown, hts⟩ (g_X1_countTerms l dC dI cy _ ad kv N hN v hv ) (cwV 0 hts gX7_many_X1_countTerms rfl rfl rfl hd_V_X1_countTerms_0 ⟨Nat.le_of_ble_eq_true rfl, Nat.le_of_ble_eq_true rfl⟩) (yw_preV hE hK hP hD (ci := 1) (q := (RX1, TX1, 7)) (q0 := 13) rfl (wl_at (by omega) (ce_3 (by decide)))) rfl rfl hl.1 rfl (lv_room (Nat.le_of_ble_eq_true rfl)) dX7_many_122 ⟨Nat.le_of_ble_eq_true rfl, Nat.le_of_ble_eq_true rfl⟩) (fun r_1 v_1 H locs hw_1 hP hD hS => ?_)
    obtain ⟨hv, hw_1⟩ := hw_1
    have hfr : Fz v v_1 := hfr.trans hw_1
    exact W.iret (v := r_1) hx hb hr (fun t ht hW => ⟨⟨r_1, v_1, rfl, ⟨hv, hfr⟩, by rw [ht]; exact hP, hD⟩, hS.F ht⟩) hS.2.2 dX7_many_125
  · refine lv_tableIn (off := 125) (tgt := 126) hx hb dX7_many_1 (by rw [hsw]; decide) (by rw [hsw]; decide) (by rw [hsw]; decide) (by decide) ?_
    refine lv_aload_n hx hb dX7_many_126 rfl (lv_at hl 0 rfl) ?_
    refine va_get (D := (dC, dI)) (ci := 7) (v := .ref (ad 13)) (C := RX7) (T := TX7) (N := 5) hx hb hts iwX7_many_X7 hown hK hP (0) (wl_at (by omega) (ce_0 (by decide))) rfl 0 (by decide) (hts (.fieldLink RX7 12 "QuietStairs" "now" "LQuietStairs$House;") fwX7_many_1) (fun _ h9 => h9) rfl dX7_many_127 ?_
    refine lv_iconst (v := 1) hx hb dX7_many_130 (by decide) ?_
    refine yw_i (w1 := fun (u : Nat → Nat → Int32) => wl ad kv cy N u) hD hS hA (va_runV (As := [.int 1]) (rest := []) ⟨hx, hb, hml, hown, hts⟩ (g_X1_countJudged l dC dI cy _ ad kv N hN v hv 1) (cwV 1 hts gX7_many_X1_countJudged rfl rfl rfl hd_V_X1_countJudged_1 ⟨Nat.le_of_ble_eq_true rfl, Nat.le_of_ble_eq_true rfl⟩) (yw_preV hE hK hP hD (ci := 1) (q := (RX1, TX1, 7)) (q0 := 13) rfl (wl_at (by omega) (ce_3 (by decide)))) rfl rfl hl.1 rfl (lv_room (Nat.le_of_ble_eq_true rfl)) dX7_many_131 ⟨Nat.le_of_ble_eq_true rfl, Nat.le_of_ble_eq_true rfl⟩) (fun r_1 v_1 H locs hw_1 hP hD hS => ?_)
    obtain ⟨hv, hw_1⟩ := hw_1
    have hfr : Fz v v_1 := hfr.trans hw_1
    exact W.iret (v := r_1) hx hb hr (fun t ht hW => ⟨⟨r_1, v_1, rfl, ⟨hv, hfr⟩, by rw [ht]; exact hP, hD⟩, hS.F ht⟩) hS.2.2 dX7_many_134
  · refine lv_tableIn (off := 134) (tgt := 135) hx hb dX7_many_1 (by rw [hsw]; decide) (by rw [hsw]; decide) (by rw [hsw]; decide) (by decide) ?_
    refine lv_aload_n hx hb dX7_many_135 rfl (lv_at hl 0 rfl) ?_
    refine va_get (D := (dC, dI)) (ci := 7) (v := .ref (ad 13)) (C := RX7) (T := TX7) (N := 5) hx hb hts iwX7_many_X7 hown hK hP (0) (wl_at (by omega) (ce_0 (by decide))) rfl 0 (by decide) (hts (.fieldLink RX7 12 "QuietStairs" "now" "LQuietStairs$House;") fwX7_many_1) (fun _ h9 => h9) rfl dX7_many_136 ?_
    refine lv_iconst (v := 0) hx hb dX7_many_139 (by decide) ?_
    refine yw_i (w1 := fun (u : Nat → Nat → Int32) => wl ad kv cy N u) hD hS hA (va_runV (As := [.int 0]) (rest := []) ⟨hx, hb, hml, hown, hts⟩ (g_X1_countJudged l dC dI cy _ ad kv N hN v hv 0) (cwV 1 hts gX7_many_X1_countJudged rfl rfl rfl hd_V_X1_countJudged_1 ⟨Nat.le_of_ble_eq_true rfl, Nat.le_of_ble_eq_true rfl⟩) (yw_preV hE hK hP hD (ci := 1) (q := (RX1, TX1, 7)) (q0 := 13) rfl (wl_at (by omega) (ce_3 (by decide)))) rfl rfl hl.1 rfl (lv_room (Nat.le_of_ble_eq_true rfl)) dX7_many_140 ⟨Nat.le_of_ble_eq_true rfl, Nat.le_of_ble_eq_true rfl⟩) (fun r_1 v_1 H locs hw_1 hP hD hS => ?_)
    obtain ⟨hv, hw_1⟩ := hw_1
    have hfr : Fz v v_1 := hfr.trans hw_1
    exact W.iret (v := r_1) hx hb hr (fun t ht hW => ⟨⟨r_1, v_1, rfl, ⟨hv, hfr⟩, by rw [ht]; exact hP, hD⟩, hS.F ht⟩) hS.2.2 dX7_many_143
  · refine lv_tableIn (off := 143) (tgt := 144) hx hb dX7_many_1 (by rw [hsw]; decide) (by rw [hsw]; decide) (by rw [hsw]; decide) (by decide) ?_
    refine lv_aload_n hx hb dX7_many_144 rfl (lv_at hl 0 rfl) ?_
    refine va_get (D := (dC, dI)) (ci := 7) (v := .ref (ad 13)) (C := RX7) (T := TX7) (N := 5) hx hb hts iwX7_many_X7 hown hK hP (0) (wl_at (by omega) (ce_0 (by decide))) rfl 0 (by decide) (hts (.fieldLink RX7 12 "QuietStairs" "now" "LQuietStairs$House;") fwX7_many_1) (fun _ h9 => h9) rfl dX7_many_145 ?_
    refine lv_iconst (v := 2) hx hb dX7_many_148 (by decide) ?_
    refine yw_i (w1 := fun (u : Nat → Nat → Int32) => wl ad kv cy N u) hD hS hA (va_runV (As := [.int 2]) (rest := []) ⟨hx, hb, hml, hown, hts⟩ (g_X1_countJudged l dC dI cy _ ad kv N hN v hv 2) (cwV 1 hts gX7_many_X1_countJudged rfl rfl rfl hd_V_X1_countJudged_1 ⟨Nat.le_of_ble_eq_true rfl, Nat.le_of_ble_eq_true rfl⟩) (yw_preV hE hK hP hD (ci := 1) (q := (RX1, TX1, 7)) (q0 := 13) rfl (wl_at (by omega) (ce_3 (by decide)))) rfl rfl hl.1 rfl (lv_room (Nat.le_of_ble_eq_true rfl)) dX7_many_149 ⟨Nat.le_of_ble_eq_true rfl, Nat.le_of_ble_eq_true rfl⟩) (fun r_1 v_1 H locs hw_1 hP hD hS => ?_)
    obtain ⟨hv, hw_1⟩ := hw_1
    have hfr : Fz v v_1 := hfr.trans hw_1
    exact W.iret (v := r_1) hx hb hr (fun t ht hW => ⟨⟨r_1, v_1, rfl, ⟨hv, hfr⟩, by rw [ht]; exact hP, hD⟩, hS.F ht⟩) hS.2.2 dX7_many_152
set_option maxRecDepth 20000 in
theorem db_X6_hourBits_0 : (decode cX6_hourBits 0 = .ok (.iconst 1, 1)) ∧ (decode cX6_hourBits 1 = .ok (.aload_n 0, 1)) ∧ (decode cX6_hourBits 2 = .ok (.getfield 7, 3)) ∧ (decode cX6_hourBits 5 = .ok (.iconst 1, 1)) ∧ (decode cX6_hourBits 6 = .ok (.iadd, 1)) ∧ (decode cX6_hourBits 7 = .ok (.ishl, 1)) ∧ (decode cX6_hourBits 8 = .ok (.iconst 1, 1)) ∧ (decode cX6_hourBits 9 = .ok (.aload_n 0, 1)) := by decide +kernel
theorem dX6_hourBits_0 : decode cX6_hourBits 0 = .ok (.iconst 1, 1) := db_X6_hourBits_0.1
theorem dX6_hourBits_1 : decode cX6_hourBits 1 = .ok (.aload_n 0, 1) := db_X6_hourBits_0.2.1
theorem dX6_hourBits_2 : decode cX6_hourBits 2 = .ok (.getfield 7, 3) := db_X6_hourBits_0.2.2.1
theorem dX6_hourBits_5 : decode cX6_hourBits 5 = .ok (.iconst 1, 1) := db_X6_hourBits_0.2.2.2.1
theorem dX6_hourBits_6 : decode cX6_hourBits 6 = .ok (.iadd, 1) := db_X6_hourBits_0.2.2.2.2.1
theorem dX6_hourBits_7 : decode cX6_hourBits 7 = .ok (.ishl, 1) := db_X6_hourBits_0.2.2.2.2.2.1
theorem dX6_hourBits_8 : decode cX6_hourBits 8 = .ok (.iconst 1, 1) := db_X6_hourBits_0.2.2.2.2.2.2.1
theorem dX6_hourBits_9 : decode cX6_hourBits 9 = .ok (.aload_n 0, 1) := db_X6_hourBits_0.2.2.2.2.2.2.2
set_option maxRecDepth 20000 in
theorem db_X6_hourBits_10 : (decode cX6_hourBits 10 = .ok (.getfield 13, 3)) ∧ (decode cX6_hourBits 13 = .ok (.ishl, 1)) ∧ (decode cX6_hourBits 14 = .ok (.isub, 1)) ∧ (decode cX6_hourBits 15 = .ok (.ireturn, 1)) := by decide +kernel
theorem dX6_hourBits_10 : decode cX6_hourBits 10 = .ok (.getfield 13, 3) := db_X6_hourBits_10.1
theorem dX6_hourBits_13 : decode cX6_hourBits 13 = .ok (.ishl, 1) := db_X6_hourBits_10.2.1
theorem dX6_hourBits_14 : decode cX6_hourBits 14 = .ok (.isub, 1) := db_X6_hourBits_10.2.2.1
theorem dX6_hourBits_15 : decode cX6_hourBits 15 = .ok (.ireturn, 1) := db_X6_hourBits_10.2.2.2
set_option maxRecDepth 20000 in
theorem db_X5_allowedHours_0 : (decode cX5_allowedHours 0 = .ok (.aload_n 1, 1)) ∧ (decode cX5_allowedHours 1 = .ok (.invokevirtual 41, 3)) ∧ (decode cX5_allowedHours 4 = .ok (.istore_n 3, 1)) ∧ (decode cX5_allowedHours 5 = .ok (.iconst 0, 1)) ∧ (decode cX5_allowedHours 6 = .ok (.istore 4, 2)) ∧ (decode cX5_allowedHours 8 = .ok (.iload 4, 2)) ∧ (decode cX5_allowedHours 10 = .ok (.iload_n 2, 1)) ∧ (decode cX5_allowedHours 11 = .ok (.if_icmp .ge 60, 3)) := by decide +kernel
theorem dX5_allowedHours_0 : decode cX5_allowedHours 0 = .ok (.aload_n 1, 1) := db_X5_allowedHours_0.1
set_option maxRecDepth 20000 in
theorem ggX5_allowedHours_X6_hourBits : GoodIn wsX5_allowedHours wsX6_hourBits := goodIn_r _ [9, 10, 11, 23, 24, 25, 26, 27] rfl (by decide +kernel)
set_option maxRecDepth 20000 in
theorem gX5_allowedHours_X6_hourBits : GoodIn wsX5_allowedHours (wsV RX5 41 RX6 yX6_hourBits wsX6_hourBits) := goodIn_app (goodIn_r _ [5, 6, 7, 8] rfl (by decide +kernel)) ggX5_allowedHours_X6_hourBits
theorem dX5_allowedHours_1 : decode cX5_allowedHours 1 = .ok (.invokevirtual 41, 3) := db_X5_allowedHours_0.2.1
theorem dX5_allowedHours_4 : decode cX5_allowedHours 4 = .ok (.istore_n 3, 1) := db_X5_allowedHours_0.2.2.1
theorem dX5_allowedHours_5 : decode cX5_allowedHours 5 = .ok (.iconst 0, 1) := db_X5_allowedHours_0.2.2.2.1
theorem dX5_allowedHours_6 : decode cX5_allowedHours 6 = .ok (.istore 4, 2) := db_X5_allowedHours_0.2.2.2.2.1
theorem dX5_allowedHours_8 : decode cX5_allowedHours 8 = .ok (.iload 4, 2) := db_X5_allowedHours_0.2.2.2.2.2.1
theorem dX5_allowedHours_10 : decode cX5_allowedHours 10 = .ok (.iload_n 2, 1) := db_X5_allowedHours_0.2.2.2.2.2.2.1
theorem dX5_allowedHours_11 : decode cX5_allowedHours 11 = .ok (.if_icmp .ge 60, 3) := db_X5_allowedHours_0.2.2.2.2.2.2.2
set_option maxRecDepth 20000 in
theorem db_X5_allowedHours_71 : (decode cX5_allowedHours 71 = .ok (.iload_n 3, 1)) ∧ (decode cX5_allowedHours 72 = .ok (.ireturn, 1)) ∧ (decode cX5_allowedHours 14 = .ok (.aload_n 0, 1)) ∧ (decode cX5_allowedHours 15 = .ok (.getfield 22, 3)) ∧ (decode cX5_allowedHours 18 = .ok (.iload 4, 2)) ∧ (decode cX5_allowedHours 20 = .ok (.aaload, 1)) ∧ (decode cX5_allowedHours 21 = .ok (.astore 5, 2)) ∧ (decode cX5_allowedHours 23 = .ok (.aload 5, 2)) := by decide +kernel
theorem dX5_allowedHours_71 : decode cX5_allowedHours 71 = .ok (.iload_n 3, 1) := db_X5_allowedHours_71.1
theorem dX5_allowedHours_72 : decode cX5_allowedHours 72 = .ok (.ireturn, 1) := db_X5_allowedHours_71.2.1
theorem dX5_allowedHours_14 : decode cX5_allowedHours 14 = .ok (.aload_n 0, 1) := db_X5_allowedHours_71.2.2.1
theorem dX5_allowedHours_15 : decode cX5_allowedHours 15 = .ok (.getfield 22, 3) := db_X5_allowedHours_71.2.2.2.1
theorem dX5_allowedHours_18 : decode cX5_allowedHours 18 = .ok (.iload 4, 2) := db_X5_allowedHours_71.2.2.2.2.1
theorem dX5_allowedHours_20 : decode cX5_allowedHours 20 = .ok (.aaload, 1) := db_X5_allowedHours_71.2.2.2.2.2.1
theorem dX5_allowedHours_21 : decode cX5_allowedHours 21 = .ok (.astore 5, 2) := db_X5_allowedHours_71.2.2.2.2.2.2.1
theorem dX5_allowedHours_23 : decode cX5_allowedHours 23 = .ok (.aload 5, 2) := db_X5_allowedHours_71.2.2.2.2.2.2.2
set_option maxRecDepth 20000 in
theorem db_X5_allowedHours_25 : (decode cX5_allowedHours 25 = .ok (.getfield 28, 3)) ∧ (decode cX5_allowedHours 28 = .ok (.aload_n 1, 1)) ∧ (decode cX5_allowedHours 29 = .ok (.getfield 28, 3)) ∧ (decode cX5_allowedHours 32 = .ok (.if_icmp .ne 33, 3)) ∧ (decode cX5_allowedHours 65 = .ok (.iinc 4 1, 3)) ∧ (decode cX5_allowedHours 68 = .ok (.goto (-60), 3)) ∧ (decode cX5_allowedHours 35 = .ok (.aload 5, 2)) ∧ (decode cX5_allowedHours 37 = .ok (.getfield 33, 3)) := by decide +kernel
theorem dX5_allowedHours_25 : decode cX5_allowedHours 25 = .ok (.getfield 28, 3) := db_X5_allowedHours_25.1
theorem dX5_allowedHours_28 : decode cX5_allowedHours 28 = .ok (.aload_n 1, 1) := db_X5_allowedHours_25.2.1
theorem dX5_allowedHours_29 : decode cX5_allowedHours 29 = .ok (.getfield 28, 3) := db_X5_allowedHours_25.2.2.1
theorem dX5_allowedHours_32 : decode cX5_allowedHours 32 = .ok (.if_icmp .ne 33, 3) := db_X5_allowedHours_25.2.2.2.1
theorem dX5_allowedHours_65 : decode cX5_allowedHours 65 = .ok (.iinc 4 1, 3) := db_X5_allowedHours_25.2.2.2.2.1
theorem dX5_allowedHours_68 : decode cX5_allowedHours 68 = .ok (.goto (-60), 3) := db_X5_allowedHours_25.2.2.2.2.2.1
theorem dX5_allowedHours_35 : decode cX5_allowedHours 35 = .ok (.aload 5, 2) := db_X5_allowedHours_25.2.2.2.2.2.2.1
theorem dX5_allowedHours_37 : decode cX5_allowedHours 37 = .ok (.getfield 33, 3) := db_X5_allowedHours_25.2.2.2.2.2.2.2
set_option maxRecDepth 20000 in
theorem db_X5_allowedHours_40 : (decode cX5_allowedHours 40 = .ok (.ifCond .ne 25, 3)) ∧ (decode cX5_allowedHours 43 = .ok (.aload 5, 2)) ∧ (decode cX5_allowedHours 45 = .ok (.getfield 44, 3)) ∧ (decode cX5_allowedHours 48 = .ok (.aload_n 1, 1)) ∧ (decode cX5_allowedHours 49 = .ok (.getfield 44, 3)) ∧ (decode cX5_allowedHours 52 = .ok (.if_icmp .ne 13, 3)) ∧ (decode cX5_allowedHours 55 = .ok (.iload_n 3, 1)) ∧ (decode cX5_allowedHours 56 = .ok (.aload 5, 2)) := by decide +kernel
theorem dX5_allowedHours_40 : decode cX5_allowedHours 40 = .ok (.ifCond .ne 25, 3) := db_X5_allowedHours_40.1
theorem dX5_allowedHours_43 : decode cX5_allowedHours 43 = .ok (.aload 5, 2) := db_X5_allowedHours_40.2.1
theorem dX5_allowedHours_45 : decode cX5_allowedHours 45 = .ok (.getfield 44, 3) := db_X5_allowedHours_40.2.2.1
theorem dX5_allowedHours_48 : decode cX5_allowedHours 48 = .ok (.aload_n 1, 1) := db_X5_allowedHours_40.2.2.2.1
theorem dX5_allowedHours_49 : decode cX5_allowedHours 49 = .ok (.getfield 44, 3) := db_X5_allowedHours_40.2.2.2.2.1
theorem dX5_allowedHours_52 : decode cX5_allowedHours 52 = .ok (.if_icmp .ne 13, 3) := db_X5_allowedHours_40.2.2.2.2.2.1
theorem dX5_allowedHours_55 : decode cX5_allowedHours 55 = .ok (.iload_n 3, 1) := db_X5_allowedHours_40.2.2.2.2.2.2.1
theorem dX5_allowedHours_56 : decode cX5_allowedHours 56 = .ok (.aload 5, 2) := db_X5_allowedHours_40.2.2.2.2.2.2.2
set_option maxRecDepth 20000 in
theorem db_X5_allowedHours_58 : (decode cX5_allowedHours 58 = .ok (.invokevirtual 41, 3)) ∧ (decode cX5_allowedHours 61 = .ok (.iconst (-1), 1)) ∧ (decode cX5_allowedHours 62 = .ok (.ixor, 1)) ∧ (decode cX5_allowedHours 63 = .ok (.iand, 1)) ∧ (decode cX5_allowedHours 64 = .ok (.istore_n 3, 1)) := by decide +kernel
theorem dX5_allowedHours_58 : decode cX5_allowedHours 58 = .ok (.invokevirtual 41, 3) := db_X5_allowedHours_58.1
theorem dX5_allowedHours_61 : decode cX5_allowedHours 61 = .ok (.iconst (-1), 1) := db_X5_allowedHours_58.2.1
theorem dX5_allowedHours_62 : decode cX5_allowedHours 62 = .ok (.ixor, 1) := db_X5_allowedHours_58.2.2.1
theorem dX5_allowedHours_63 : decode cX5_allowedHours 63 = .ok (.iand, 1) := db_X5_allowedHours_58.2.2.2.1
theorem dX5_allowedHours_64 : decode cX5_allowedHours 64 = .ok (.istore_n 3, 1) := db_X5_allowedHours_58.2.2.2.2
set_option maxRecDepth 20000 in
theorem db_X5_read_0 : (decode cX5_read 0 = .ok (.aload_n 0, 1)) ∧ (decode cX5_read 1 = .ok (.iconst 0, 1)) ∧ (decode cX5_read 2 = .ok (.putfield 18, 3)) ∧ (decode cX5_read 5 = .ok (.iconst 0, 1)) ∧ (decode cX5_read 6 = .ok (.istore 4, 2)) ∧ (decode cX5_read 8 = .ok (.iload 4, 2)) ∧ (decode cX5_read 10 = .ok (.iload_n 3, 1)) ∧ (decode cX5_read 11 = .ok (.if_icmp .ge 72, 3)) := by decide +kernel
theorem dX5_read_0 : decode cX5_read 0 = .ok (.aload_n 0, 1) := db_X5_read_0.1
theorem dX5_read_1 : decode cX5_read 1 = .ok (.iconst 0, 1) := db_X5_read_0.2.1
theorem dX5_read_2 : decode cX5_read 2 = .ok (.putfield 18, 3) := db_X5_read_0.2.2.1
theorem dX5_read_5 : decode cX5_read 5 = .ok (.iconst 0, 1) := db_X5_read_0.2.2.2.1
theorem dX5_read_6 : decode cX5_read 6 = .ok (.istore 4, 2) := db_X5_read_0.2.2.2.2.1
theorem dX5_read_8 : decode cX5_read 8 = .ok (.iload 4, 2) := db_X5_read_0.2.2.2.2.2.1
theorem dX5_read_10 : decode cX5_read 10 = .ok (.iload_n 3, 1) := db_X5_read_0.2.2.2.2.2.2.1
theorem dX5_read_11 : decode cX5_read 11 = .ok (.if_icmp .ge 72, 3) := db_X5_read_0.2.2.2.2.2.2.2
set_option maxRecDepth 20000 in
theorem db_X5_read_83 : (decode cX5_read 83 = .ok (.return_, 1)) ∧ (decode cX5_read 14 = .ok (.aload_n 1, 1)) ∧ (decode cX5_read 15 = .ok (.getfield 22, 3)) ∧ (decode cX5_read 18 = .ok (.iload 4, 2)) ∧ (decode cX5_read 20 = .ok (.aaload, 1)) ∧ (decode cX5_read 21 = .ok (.astore 5, 2)) ∧ (decode cX5_read 23 = .ok (.aload 5, 2)) ∧ (decode cX5_read 25 = .ok (.getfield 28, 3)) := by decide +kernel
theorem dX5_read_83 : decode cX5_read 83 = .ok (.return_, 1) := db_X5_read_83.1
theorem dX5_read_14 : decode cX5_read 14 = .ok (.aload_n 1, 1) := db_X5_read_83.2.1
theorem dX5_read_15 : decode cX5_read 15 = .ok (.getfield 22, 3) := db_X5_read_83.2.2.1
theorem dX5_read_18 : decode cX5_read 18 = .ok (.iload 4, 2) := db_X5_read_83.2.2.2.1
theorem dX5_read_20 : decode cX5_read 20 = .ok (.aaload, 1) := db_X5_read_83.2.2.2.2.1
theorem dX5_read_21 : decode cX5_read 21 = .ok (.astore 5, 2) := db_X5_read_83.2.2.2.2.2.1
theorem dX5_read_23 : decode cX5_read 23 = .ok (.aload 5, 2) := db_X5_read_83.2.2.2.2.2.2.1
theorem dX5_read_25 : decode cX5_read 25 = .ok (.getfield 28, 3) := db_X5_read_83.2.2.2.2.2.2.2
set_option maxRecDepth 20000 in
theorem db_X5_read_28 : (decode cX5_read 28 = .ok (.iload_n 2, 1)) ∧ (decode cX5_read 29 = .ok (.if_icmp .ne 48, 3)) ∧ (decode cX5_read 77 = .ok (.iinc 4 1, 3)) ∧ (decode cX5_read 80 = .ok (.goto (-72), 3)) ∧ (decode cX5_read 32 = .ok (.aload 5, 2)) ∧ (decode cX5_read 34 = .ok (.getfield 33, 3)) ∧ (decode cX5_read 37 = .ok (.ifCond .eq 40, 3)) ∧ (decode cX5_read 40 = .ok (.aload_n 0, 1)) := by decide +kernel
theorem dX5_read_28 : decode cX5_read 28 = .ok (.iload_n 2, 1) := db_X5_read_28.1
theorem dX5_read_29 : decode cX5_read 29 = .ok (.if_icmp .ne 48, 3) := db_X5_read_28.2.1
theorem dX5_read_77 : decode cX5_read 77 = .ok (.iinc 4 1, 3) := db_X5_read_28.2.2.1
theorem dX5_read_80 : decode cX5_read 80 = .ok (.goto (-72), 3) := db_X5_read_28.2.2.2.1
theorem dX5_read_32 : decode cX5_read 32 = .ok (.aload 5, 2) := db_X5_read_28.2.2.2.2.1
theorem dX5_read_34 : decode cX5_read 34 = .ok (.getfield 33, 3) := db_X5_read_28.2.2.2.2.2.1
theorem dX5_read_37 : decode cX5_read 37 = .ok (.ifCond .eq 40, 3) := db_X5_read_28.2.2.2.2.2.2.1
theorem dX5_read_40 : decode cX5_read 40 = .ok (.aload_n 0, 1) := db_X5_read_28.2.2.2.2.2.2.2
set_option maxRecDepth 20000 in
theorem db_X5_read_41 : (decode cX5_read 41 = .ok (.getfield 9, 3)) ∧ (decode cX5_read 44 = .ok (.aload_n 0, 1)) ∧ (decode cX5_read 45 = .ok (.getfield 18, 3)) ∧ (decode cX5_read 48 = .ok (.iload 4, 2)) ∧ (decode cX5_read 50 = .ok (.iastore, 1)) ∧ (decode cX5_read 51 = .ok (.aload_n 0, 1)) ∧ (decode cX5_read 52 = .ok (.getfield 15, 3)) ∧ (decode cX5_read 55 = .ok (.aload_n 0, 1)) := by decide +kernel
theorem dX5_read_41 : decode cX5_read 41 = .ok (.getfield 9, 3) := db_X5_read_41.1
theorem dX5_read_44 : decode cX5_read 44 = .ok (.aload_n 0, 1) := db_X5_read_41.2.1
theorem dX5_read_45 : decode cX5_read 45 = .ok (.getfield 18, 3) := db_X5_read_41.2.2.1
theorem dX5_read_48 : decode cX5_read 48 = .ok (.iload 4, 2) := db_X5_read_41.2.2.2.1
theorem dX5_read_50 : decode cX5_read 50 = .ok (.iastore, 1) := db_X5_read_41.2.2.2.2.1
theorem dX5_read_51 : decode cX5_read 51 = .ok (.aload_n 0, 1) := db_X5_read_41.2.2.2.2.2.1
theorem dX5_read_52 : decode cX5_read 52 = .ok (.getfield 15, 3) := db_X5_read_41.2.2.2.2.2.2.1
theorem dX5_read_55 : decode cX5_read 55 = .ok (.aload_n 0, 1) := db_X5_read_41.2.2.2.2.2.2.2
set_option maxRecDepth 20000 in
theorem db_X5_read_56 : (decode cX5_read 56 = .ok (.getfield 18, 3)) ∧ (decode cX5_read 59 = .ok (.aload_n 1, 1)) ∧ (decode cX5_read 60 = .ok (.aload 5, 2)) ∧ (decode cX5_read 62 = .ok (.iload_n 3, 1)) ∧ (decode cX5_read 63 = .ok (.invokestatic 37, 3)) ∧ (decode cX5_read 66 = .ok (.iastore, 1)) ∧ (decode cX5_read 67 = .ok (.aload_n 0, 1)) ∧ (decode cX5_read 68 = .ok (.dup, 1)) := by decide +kernel
theorem dX5_read_56 : decode cX5_read 56 = .ok (.getfield 18, 3) := db_X5_read_56.1
theorem dX5_read_59 : decode cX5_read 59 = .ok (.aload_n 1, 1) := db_X5_read_56.2.1
theorem dX5_read_60 : decode cX5_read 60 = .ok (.aload 5, 2) := db_X5_read_56.2.2.1
theorem dX5_read_62 : decode cX5_read 62 = .ok (.iload_n 3, 1) := db_X5_read_56.2.2.2.1
set_option maxRecDepth 20000 in
theorem ggX5_read_X5_allowedHours : GoodIn wsX5_read wsX5_allowedHours := goodIn_r _ [10, 2, 3, 4, 11, 12, 13, 14, 15, 16, 17, 18, 22, 23, 24, 25, 26, 27, 28, 29, 30, 31, 32, 33, 34, 35, 36, 37] rfl (by decide +kernel)
set_option maxRecDepth 20000 in
theorem gX5_read_X5_allowedHours : GoodIn wsX5_read (va_wsS RX5 37 yX5_allowedHours wsX5_allowedHours) := goodIn_app (goodIn_r _ [7, 8, 9] rfl (by decide +kernel)) ggX5_read_X5_allowedHours
theorem dX5_read_63 : decode cX5_read 63 = .ok (.invokestatic 37, 3) := db_X5_read_56.2.2.2.2.1
theorem dX5_read_66 : decode cX5_read 66 = .ok (.iastore, 1) := db_X5_read_56.2.2.2.2.2.1
theorem dX5_read_67 : decode cX5_read 67 = .ok (.aload_n 0, 1) := db_X5_read_56.2.2.2.2.2.2.1
theorem dX5_read_68 : decode cX5_read 68 = .ok (.dup, 1) := db_X5_read_56.2.2.2.2.2.2.2
set_option maxRecDepth 20000 in
theorem db_X5_read_69 : (decode cX5_read 69 = .ok (.getfield 18, 3)) ∧ (decode cX5_read 72 = .ok (.iconst 1, 1)) ∧ (decode cX5_read 73 = .ok (.iadd, 1)) ∧ (decode cX5_read 74 = .ok (.putfield 18, 3)) := by decide +kernel
theorem dX5_read_69 : decode cX5_read 69 = .ok (.getfield 18, 3) := db_X5_read_69.1
theorem dX5_read_72 : decode cX5_read 72 = .ok (.iconst 1, 1) := db_X5_read_69.2.1
theorem dX5_read_73 : decode cX5_read 73 = .ok (.iadd, 1) := db_X5_read_69.2.2.1
theorem dX5_read_74 : decode cX5_read 74 = .ok (.putfield 18, 3) := db_X5_read_69.2.2.2
set_option maxHeartbeats 4000000 in
set_option maxRecDepth 100000 in
theorem g_X6_hourBits (l : Launch) (dC : Nat → ClassId) (dI : Nat → Nat → Nat) (cy : Nat → ClassId) (sz : Nat) (ad : Nat → Nat) (kv : Value) (N : Nat) (hN : 119 ≤ N) (v : Nat → Nat → Int32) (hv : Iv v) (i : Nat) (hi : i < 6) (j : Nat) (hj : j < 5) : Met l yX6_hourBits wsX6_hourBits ({ frames := 0, cells := 0, slots := 0, locals := 0 }) (va_Pc [.ref (ad (39 + 15 * i + j))] (ex_Pre dC dI cy sz (wl ad kv cy N v))) (va_Qi (fun (r : Int32) (u : Nat → Nat → Int32) => Iv u ∧ Fe v u) (fun u t => ex_Pst dC dI (va_A (wl ad kv cy N v) sz) (wl ad kv cy N u) t) (va_A (wl ad kv cy N v) sz)) 0 0 (va_A (wl ad kv cy N v) sz) := by
  refine Met.ofW (cc := cX6_hourBits) (maxL := 1) (ret := (some .int)) (by decide) rfl ?_
  intro p e s m args below meth c s₁ B hml hv
  obtain ⟨rfl, hsz, hE, hP, hK, hD0⟩ := hv
  have hx := B.exec
  have hb := B.bytes
  have hr := B.returns
  have hts := atoms_spec (ws := wsX6_hourBits) B.pre
  have hown : s.vm.findClass RX6 = some m.cls := findClass_of_methodNamed B.named
  have hlocks := B.notSynchronized
  subst hsz
  have hD := hD0.self (sz := s.heap.size)
  generalize hAe : va_A (wl ad kv cy N v) s.heap.size = A at hD ⊢
  have hA : ∀ q : Nat, s.heap.size ≤ q → A q := fun q h => by rw [← hAe]; exact Or.inr h
  have hS : va_S A s.heap s.heap [] := va_S.rf
  have hP : va_P (dC, dI) vwCl (wl ad kv cy N v) s.heap := hP
  have hl := lv_entry ([.ref (ad (39 + 15 * i + j))]) (n := 1) (Nat.le_of_ble_eq_true rfl)
  rw [lg_entry_eq]
  generalize (lg_sl ([.ref (ad (39 + 15 * i + j))]) ++ List.replicate (1 - (lg_sl ([.ref (ad (39 + 15 * i + j))])).length) Slot.unset).toArray = ls at hl ⊢
  have hl : lv_has ls 1 [(0, .ref (ad (39 + 15 * i + j)))] := hl
  have hfr : Fe v v := Fe.rf
  refine lv_iconst (v := 1) hx hb dX6_hourBits_0 (by decide) ?_
  refine lv_aload_n hx hb dX6_hourBits_1 rfl (lv_at hl 0 rfl) ?_
  refine va_get (D := (dC, dI)) (ci := 6) (v := .int (v (39 + 15 * i + j) 4)) (C := RX6) (T := TX6) (N := 5) hx hb hts iwX6_hourBits_X6 hown hK hP (39 + 15 * i + j) (wl_at (by omega) (ce_16 (kd_t i hi j hj).1)) rfl 4 (by decide) (hts (.fieldLink RX6 7 "QuietStairs$Term" "last" "I") fwX6_hourBits_1) (fun _ h9 => h9) rfl dX6_hourBits_2 ?_
  refine lv_topi (fun x_1 ex_1 => ?_)
  have bx_1 : 0 ≤ x_1.toInt ∧ x_1.toInt ≤ 23 := by rw [ex_1]; exact hv.at (K := 16) (kd_t i hi j hj).1 rfl
  refine lv_iconst (v := 1) hx hb dX6_hourBits_5 (by decide) ?_
  have k_1 : (1 : Int32).toInt = 1 := by decide
  refine lv_iadd hx hb dX6_hourBits_6 ?_
  refine lv_topi (fun x_2 ex_2 => ?_)
  have tx_2 : x_2.toInt = x_1.toInt + (1 : Int32).toInt := by rw [ex_2]; exact t_add ⟨by omega, by omega⟩
  refine lv_ishl hx hb dX6_hourBits_7 ?_
  refine lv_topi (fun x_3 ex_3 => ?_)
  refine lv_iconst (v := 1) hx hb dX6_hourBits_8 (by decide) ?_
  refine lv_aload_n hx hb dX6_hourBits_9 rfl (lv_at hl 0 rfl) ?_
  refine va_get (D := (dC, dI)) (ci := 6) (v := .int (v (39 + 15 * i + j) 3)) (C := RX6) (T := TX6) (N := 5) hx hb hts iwX6_hourBits_X6 hown hK hP (39 + 15 * i + j) (wl_at (by omega) (ce_16 (kd_t i hi j hj).1)) rfl 3 (by decide) (hts (.fieldLink RX6 13 "QuietStairs$Term" "first" "I") fwX6_hourBits_2) (fun _ h9 => h9) rfl dX6_hourBits_10 ?_
  refine lv_topi (fun x_4 ex_4 => ?_)
  have bx_4 : 0 ≤ x_4.toInt ∧ x_4.toInt ≤ 23 := by rw [ex_4]; exact hv.at (K := 16) (kd_t i hi j hj).1 rfl
  refine lv_ishl hx hb dX6_hourBits_13 ?_
  refine lv_topi (fun x_5 ex_5 => ?_)
  refine lv_isub hx hb dX6_hourBits_14 ?_
  refine lv_topi (fun x_6 ex_6 => ?_)
  exact W.iret (v := x_6) hx hb hr (fun t ht hW => ⟨⟨x_6, v, rfl, ⟨hv, hfr⟩, by rw [ht]; exact hP, hD⟩, hS.F ht⟩) hS.2.2 dX6_hourBits_15

set_option maxHeartbeats 4000000 in
set_option maxRecDepth 100000 in
theorem g_X5_allowedHours (l : Launch) (dC : Nat → ClassId) (dI : Nat → Nat → Nat) (cy : Nat → ClassId) (sz : Nat) (ad : Nat → Nat) (kv : Value) (N : Nat) (hN : 119 ≤ N) (v : Nat → Nat → Int32) (hv : Iv v) (i : Nat) (hi : i < 6) (j : Nat) (hj : j < 5) (x0 : Int32) (hs : 0 ≤ x0.toInt ∧ x0.toInt ≤ 5) : Met l yX5_allowedHours wsX5_allowedHours ({ frames := 1, cells := 0, slots := 0, locals := 64 }) (va_Pc [.ref (ad (29 + 15 * i)), .ref (ad (39 + 15 * i + j)), .int x0] (ex_Pre dC dI cy sz (wl ad kv cy N v))) (va_Qi (fun (r : Int32) (u : Nat → Nat → Int32) => Iv u ∧ Fe v u) (fun u t => ex_Pst dC dI (va_A (wl ad kv cy N v) sz) (wl ad kv cy N u) t) (va_A (wl ad kv cy N v) sz)) 0 0 (va_A (wl ad kv cy N v) sz) := by
  refine Met.ofW (cc := cX5_allowedHours) (maxL := 6) (ret := (some .int)) (by decide) rfl ?_
  intro p e s m args below meth c s₁ B hml hv
  obtain ⟨rfl, hsz, hE, hP, hK, hD0⟩ := hv
  have hx := B.exec
  have hb := B.bytes
  have hr := B.returns
  have hts := atoms_spec (ws := wsX5_allowedHours) B.pre
  have hown : s.vm.findClass RX5 = some m.cls := findClass_of_methodNamed B.named
  have hlocks := B.notSynchronized
  subst hsz
  have hD := hD0.self (sz := s.heap.size)
  generalize hAe : va_A (wl ad kv cy N v) s.heap.size = A at hD ⊢
  have hA : ∀ q : Nat, s.heap.size ≤ q → A q := fun q h => by rw [← hAe]; exact Or.inr h
  have hS : va_S A s.heap s.heap [] := va_S.rf
  have hP : va_P (dC, dI) vwCl (wl ad kv cy N v) s.heap := hP
  have hl := lv_entry ([.ref (ad (29 + 15 * i)), .ref (ad (39 + 15 * i + j)), .int x0]) (n := 6) (Nat.le_of_ble_eq_true rfl)
  rw [lg_entry_eq]
  generalize (lg_sl ([.ref (ad (29 + 15 * i)), .ref (ad (39 + 15 * i + j)), .int x0]) ++ List.replicate (6 - (lg_sl ([.ref (ad (29 + 15 * i)), .ref (ad (39 + 15 * i + j)), .int x0])).length) Slot.unset).toArray = ls at hl ⊢
  have hl : lv_has ls 6 [(0, .ref (ad (29 + 15 * i))), (1, .ref (ad (39 + 15 * i + j))), (2, .int x0)] := hl
  have hfr : Fe v v := Fe.rf
  refine lv_aload_n hx hb dX5_allowedHours_0 rfl (lv_at hl 1 rfl) ?_
  refine yw_i (w1 := fun (u : Nat → Nat → Int32) => wl ad kv cy N u) hD hS hA (va_runV (As := []) (rest := []) ⟨hx, hb, hml, hown, hts⟩ (g_X6_hourBits l dC dI cy _ ad kv N hN v hv i hi j hj) (cwV 0 hts gX5_allowedHours_X6_hourBits rfl rfl rfl hd_V_X6_hourBits_0 ⟨Nat.le_of_ble_eq_true rfl, Nat.le_of_ble_eq_true rfl⟩) (yw_preV hE hK hP hD (ci := 6) (q := (RX6, TX6, 5)) (q0 := (39 + 15 * i + j)) rfl (wl_at (by omega) (ce_16 (kd_t i hi j hj).1))) rfl rfl hl.1 rfl (lv_room (Nat.le_of_ble_eq_true rfl)) dX5_allowedHours_1 ⟨Nat.le_of_ble_eq_true rfl, Nat.le_of_ble_eq_true rfl⟩) (fun r_1 v_1 H locs hw_1 hP hD hS => ?_)
  obtain ⟨hv, hw_1⟩ := hw_1
  have hs_1 : v_1 = v := hw_1
  have hfr : Fe v v_1 := by rw [hs_1]; exact hfr
  refine lv_istore_n (lv' := [(3, .int r_1), (0, .ref (ad (29 + 15 * i))), (1, .ref (ad (39 + 15 * i + j))), (2, .int x0)]) hx hb dX5_allowedHours_4 rfl hl (by decide) rfl (fun ls hl => ?_)
  refine lv_iconst (v := 0) hx hb dX5_allowedHours_5 (by decide) ?_
  refine lv_istore (lv' := [(4, .int 0), (3, .int r_1), (0, .ref (ad (29 + 15 * i))), (1, .ref (ad (39 + 15 * i + j))), (2, .int x0)]) hx hb dX5_allowedHours_6 hl (by decide) rfl (fun ls hl => ?_)
  have k_0 : (0 : Int32).toInt = 0 := by decide
  have hloop_2 : ∀ (n : Nat) (y2_4 y2_3 : Int32) (u2 : Nat → Nat → Int32) (H : Heap) (locs : List Loc), 0 ≤ y2_4.toInt → y2_4.toInt ≤ 5 → (5 - y2_4.toInt).toNat < n → Iv u2 → Fe v u2 → va_P (dC, dI) vwCl (wl ad kv cy N u2) H → va_D A (wl ad kv cy N u2) → va_S A s.heap H locs → ∀ ls : Array Slot, lv_has ls 6 [(4, .int y2_4), (3, .int y2_3), (0, .ref (ad (29 + 15 * i))), (1, .ref (ad (39 + 15 * i + j))), (2, .int x0)] → W p l e (headSpec wsX5_allowedHours ({ frames := 1, cells := 0, slots := 0, locals := 64 })).room s m [Value.ref (ad (29 + 15 * i)), Value.ref (ad (39 + 15 * i + j)), Value.int x0].toArray below meth c H locs 0 0 (MQ below (va_Qi (fun (r : Int32) (u : Nat → Nat → Int32) => Iv u ∧ Fe v u) (fun u t => ex_Pst dC dI A (wl ad kv cy N u) t) A) [Value.ref (ad (29 + 15 * i)), Value.ref (ad (39 + 15 * i + j)), Value.int x0].toArray s 0 0 A) (F0 m 8 ls []) := by
    intro n
    induction n with
    | zero =>
      intro y2_4 y2_3 u2 H locs ay2_4 by2_4 hm_2 hv hfr hP hD hS ls hl
      exact absurd hm_2 (by omega)
    | succ n ih_2 =>
      intro y2_4 y2_3 u2 H locs ay2_4 by2_4 hm_2 hv hfr hP hD hS ls hl
      refine lv_iload hx hb dX5_allowedHours_8 (lv_at hl 0 rfl) ?_
      refine lv_iload_n hx hb dX5_allowedHours_10 rfl (lv_at hl 4 rfl) ?_
      refine lv_icmp_ge (tgt := 71) hx hb dX5_allowedHours_11 (by decide) (fun c_3 => ?_) (fun c_3 => ?_)
      · have tc_3 : y2_4.toInt ≥ x0.toInt := Int32.le_iff_toInt_le.mp c_3
        refine lv_iload_n hx hb dX5_allowedHours_71 rfl (lv_at hl 1 rfl) ?_
        exact W.iret (v := y2_3) hx hb hr (fun t ht hW => ⟨⟨y2_3, u2, rfl, ⟨hv, hfr⟩, by rw [ht]; exact hP, hD⟩, hS.F ht⟩) hS.2.2 dX5_allowedHours_72
      · have tc_3 : y2_4.toInt < x0.toInt := Int32.lt_iff_toInt_lt.mp (Int32.not_le.mp c_3)
        refine lv_aload_n hx hb dX5_allowedHours_14 rfl (lv_at hl 2 rfl) ?_
        refine va_get (D := (dC, dI)) (ci := 0) (v := .ref (ad (29 + 15 * i + 9))) (C := RX0) (T := TX0) (N := 11) hx hb hts iwX5_allowedHours_X0 hown hK hP (29 + 15 * i) (wl_at (by omega) (ce_9 (kd_c i hi).1.1)) rfl 10 (by decide) (hts (.fieldLink RX5 22 "QuietStairs$Case" "terms" "[LQuietStairs$Term;") fwX5_allowedHours_1) (fun _ h9 => h9) rfl dX5_allowedHours_15 ?_
        refine W.eq (g2 := F0 m 18 ls [.ref (ad (38 + 15 * i))]) (by rw [show 29 + 15 * i + 9 = 38 + 15 * i from by omega]) ?_
        refine lv_iload hx hb dX5_allowedHours_18 (lv_at hl 0 rfl) ?_
        obtain ⟨pi4, i4, hi4, ni4, mi4⟩ := t_in (x := y2_4) (n := 5) ⟨by omega, by omega⟩
        refine va_aldq hx hb hK hP (38 + 15 * i) 4 (wl_at (by omega) (ce_15 (kd_c i hi).1.2.2.2.2.2)) rfl pi4 dX5_allowedHours_20 ?_
        refine W.eq (g2 := F0 m 21 ls [.ref (ad (39 + 15 * i + i4))]) (by rw [ni4, if_pos hi4, show 38 + 15 * i + 1 + i4 = 39 + 15 * i + i4 from by omega]; rfl) ?_
        refine lv_astore (lv' := [(5, .ref (ad (39 + 15 * i + i4))), (4, .int y2_4), (3, .int y2_3), (0, .ref (ad (29 + 15 * i))), (1, .ref (ad (39 + 15 * i + j))), (2, .int x0)]) hx hb dX5_allowedHours_21 hl (by decide) rfl (fun ls hl => ?_)
        refine lv_aload hx hb dX5_allowedHours_23 (lv_at hl 0 rfl) ?_
        refine va_get (D := (dC, dI)) (ci := 6) (v := .int (u2 (39 + 15 * i + i4) 0)) (C := RX6) (T := TX6) (N := 5) hx hb hts iwX5_allowedHours_X6 hown hK hP (39 + 15 * i + i4) (wl_at (by omega) (ce_16 (kd_t i hi i4 hi4).1)) rfl 0 (by decide) (hts (.fieldLink RX5 28 "QuietStairs$Term" "side" "I") fwX5_allowedHours_2) (fun _ h9 => h9) rfl dX5_allowedHours_25 ?_
        refine lv_topi (fun x_5 ex_5 => ?_)
        have bx_5 : 0 ≤ x_5.toInt ∧ x_5.toInt ≤ 1 := by rw [ex_5]; exact hv.at (K := 16) (kd_t i hi i4 hi4).1 rfl
        refine lv_aload_n hx hb dX5_allowedHours_28 rfl (lv_at hl 4 rfl) ?_
        refine va_get (D := (dC, dI)) (ci := 6) (v := .int (u2 (39 + 15 * i + j) 0)) (C := RX6) (T := TX6) (N := 5) hx hb hts iwX5_allowedHours_X6 hown hK hP (39 + 15 * i + j) (wl_at (by omega) (ce_16 (kd_t i hi j hj).1)) rfl 0 (by decide) (hts (.fieldLink RX5 28 "QuietStairs$Term" "side" "I") fwX5_allowedHours_2) (fun _ h9 => h9) rfl dX5_allowedHours_29 ?_
        refine lv_topi (fun x_6 ex_6 => ?_)
        have bx_6 : 0 ≤ x_6.toInt ∧ x_6.toInt ≤ 1 := by rw [ex_6]; exact hv.at (K := 16) (kd_t i hi j hj).1 rfl
        refine lv_icmp_ne (tgt := 65) hx hb dX5_allowedHours_32 (by decide) (fun c_7 => ?_) (fun c_7 => ?_)
        · have tc_7 : x_5.toInt ≠ x_6.toInt := fun q => absurd (Int32.toInt_inj.mp q) c_7
          obtain ⟨x_8, ex_8⟩ : ∃ y : Int32, y = y2_4 + 1 := ⟨_, rfl⟩
          refine lv_iinc (v := x_8) (lv' := [(4, .int x_8), (5, .ref (ad (39 + 15 * i + i4))), (3, .int y2_3), (0, .ref (ad (29 + 15 * i))), (1, .ref (ad (39 + 15 * i + j))), (2, .int x0)]) hx hb dX5_allowedHours_65 hl (k := 1) rfl (by rw [ex_8]; rfl) (by decide) rfl (fun ls hl => ?_)
          have k_1 : (1 : Int32).toInt = 1 := by decide
          have tx_8 : x_8.toInt = y2_4.toInt + (1 : Int32).toInt := by rw [ex_8]; exact t_add ⟨by omega, by omega⟩
          refine lv_goto (tgt := 8) hx hb dX5_allowedHours_68 (by decide) ?_
          exact ih_2 x_8 y2_3 u2 H locs (by omega) (by omega) (by omega) hv hfr hP hD hS ls (lv_sub hl [0, 2, 3, 4, 5] rfl)
        · have tc_7 : x_5.toInt = x_6.toInt := by rw [c_7]
          refine lv_aload hx hb dX5_allowedHours_35 (lv_at hl 0 rfl) ?_
          refine va_get (D := (dC, dI)) (ci := 6) (v := .int (u2 (39 + 15 * i + i4) 1)) (C := RX6) (T := TX6) (N := 5) hx hb hts iwX5_allowedHours_X6 hown hK hP (39 + 15 * i + i4) (wl_at (by omega) (ce_16 (kd_t i hi i4 hi4).1)) rfl 1 (by decide) (hts (.fieldLink RX5 33 "QuietStairs$Term" "must" "Z") fwX5_allowedHours_3) (fun _ h9 => h9) rfl dX5_allowedHours_37 ?_
          refine lv_topi (fun x_8 ex_8 => ?_)
          have bx_8 : 0 ≤ x_8.toInt ∧ x_8.toInt ≤ 1 := by rw [ex_8]; exact hv.at (K := 16) (kd_t i hi i4 hi4).1 rfl
          refine lv_if_ne (tgt := 65) hx hb dX5_allowedHours_40 (by decide) (fun c_9 => ?_) (fun c_9 => ?_)
          · have tc_9 : x_8.toInt ≠ (0 : Int32).toInt := fun q => absurd (Int32.toInt_inj.mp q) c_9
            obtain ⟨x_10, ex_10⟩ : ∃ y : Int32, y = y2_4 + 1 := ⟨_, rfl⟩
            refine lv_iinc (v := x_10) (lv' := [(4, .int x_10), (5, .ref (ad (39 + 15 * i + i4))), (3, .int y2_3), (0, .ref (ad (29 + 15 * i))), (1, .ref (ad (39 + 15 * i + j))), (2, .int x0)]) hx hb dX5_allowedHours_65 hl (k := 1) rfl (by rw [ex_10]; rfl) (by decide) rfl (fun ls hl => ?_)
            have k_1 : (1 : Int32).toInt = 1 := by decide
            have tx_10 : x_10.toInt = y2_4.toInt + (1 : Int32).toInt := by rw [ex_10]; exact t_add ⟨by omega, by omega⟩
            refine lv_goto (tgt := 8) hx hb dX5_allowedHours_68 (by decide) ?_
            exact ih_2 x_10 y2_3 u2 H locs (by omega) (by omega) (by omega) hv hfr hP hD hS ls (lv_sub hl [0, 2, 3, 4, 5] rfl)
          · have tc_9 : x_8.toInt = (0 : Int32).toInt := by rw [c_9]
            refine lv_aload hx hb dX5_allowedHours_43 (lv_at hl 0 rfl) ?_
            refine va_get (D := (dC, dI)) (ci := 6) (v := .int (u2 (39 + 15 * i + i4) 2)) (C := RX6) (T := TX6) (N := 5) hx hb hts iwX5_allowedHours_X6 hown hK hP (39 + 15 * i + i4) (wl_at (by omega) (ce_16 (kd_t i hi i4 hi4).1)) rfl 2 (by decide) (hts (.fieldLink RX5 44 "QuietStairs$Term" "act" "I") fwX5_allowedHours_4) (fun _ h9 => h9) rfl dX5_allowedHours_45 ?_
            refine lv_topi (fun x_10 ex_10 => ?_)
            refine lv_aload_n hx hb dX5_allowedHours_48 rfl (lv_at hl 4 rfl) ?_
            refine va_get (D := (dC, dI)) (ci := 6) (v := .int (u2 (39 + 15 * i + j) 2)) (C := RX6) (T := TX6) (N := 5) hx hb hts iwX5_allowedHours_X6 hown hK hP (39 + 15 * i + j) (wl_at (by omega) (ce_16 (kd_t i hi j hj).1)) rfl 2 (by decide) (hts (.fieldLink RX5 44 "QuietStairs$Term" "act" "I") fwX5_allowedHours_4) (fun _ h9 => h9) rfl dX5_allowedHours_49 ?_
            refine lv_topi (fun x_11 ex_11 => ?_)
            refine lv_icmp_ne (tgt := 65) hx hb dX5_allowedHours_52 (by decide) (fun c_12 => ?_) (fun c_12 => ?_)
            · have tc_12 : x_10.toInt ≠ x_11.toInt := fun q => absurd (Int32.toInt_inj.mp q) c_12
              obtain ⟨x_13, ex_13⟩ : ∃ y : Int32, y = y2_4 + 1 := ⟨_, rfl⟩
              refine lv_iinc (v := x_13) (lv' := [(4, .int x_13), (5, .ref (ad (39 + 15 * i + i4))), (3, .int y2_3), (0, .ref (ad (29 + 15 * i))), (1, .ref (ad (39 + 15 * i + j))), (2, .int x0)]) hx hb dX5_allowedHours_65 hl (k := 1) rfl (by rw [ex_13]; rfl) (by decide) rfl (fun ls hl => ?_)
              have k_1 : (1 : Int32).toInt = 1 := by decide
              have tx_13 : x_13.toInt = y2_4.toInt + (1 : Int32).toInt := by rw [ex_13]; exact t_add ⟨by omega, by omega⟩
              refine lv_goto (tgt := 8) hx hb dX5_allowedHours_68 (by decide) ?_
              exact ih_2 x_13 y2_3 u2 H locs (by omega) (by omega) (by omega) hv hfr hP hD hS ls (lv_sub hl [0, 2, 3, 4, 5] rfl)
            · have tc_12 : x_10.toInt = x_11.toInt := by rw [c_12]
              refine lv_iload_n hx hb dX5_allowedHours_55 rfl (lv_at hl 2 rfl) ?_
              refine lv_aload hx hb dX5_allowedHours_56 (lv_at hl 0 rfl) ?_
              refine yw_i (w1 := fun (u : Nat → Nat → Int32) => wl ad kv cy N u) hD hS hA (va_runV (As := []) (rest := [.int y2_3]) ⟨hx, hb, hml, hown, hts⟩ (g_X6_hourBits l dC dI cy _ ad kv N hN u2 hv i hi i4 hi4) (cwV 0 hts gX5_allowedHours_X6_hourBits rfl rfl rfl hd_V_X6_hourBits_0 ⟨Nat.le_of_ble_eq_true rfl, Nat.le_of_ble_eq_true rfl⟩) (yw_preV hE hK hP hD (ci := 6) (q := (RX6, TX6, 5)) (q0 := (39 + 15 * i + i4)) rfl (wl_at (by omega) (ce_16 (kd_t i hi i4 hi4).1))) rfl rfl hl.1 rfl (lv_room (Nat.le_of_ble_eq_true rfl)) dX5_allowedHours_58 ⟨Nat.le_of_ble_eq_true rfl, Nat.le_of_ble_eq_true rfl⟩) (fun r_13 v_13 H locs hw_13 hP hD hS => ?_)
              obtain ⟨hv, hw_13⟩ := hw_13
              have hs_13 : v_13 = u2 := hw_13
              have hfr : Fe v v_13 := by rw [hs_13]; exact hfr
              refine lv_iconst (v := (-1)) hx hb dX5_allowedHours_61 (by decide) ?_
              refine lv_ixor hx hb dX5_allowedHours_62 ?_
              refine lv_topi (fun x_14 ex_14 => ?_)
              refine lv_iand hx hb dX5_allowedHours_63 ?_
              refine lv_topi (fun x_15 ex_15 => ?_)
              refine lv_istore_n (lv' := [(3, .int x_15), (5, .ref (ad (39 + 15 * i + i4))), (4, .int y2_4), (0, .ref (ad (29 + 15 * i))), (1, .ref (ad (39 + 15 * i + j))), (2, .int x0)]) hx hb dX5_allowedHours_64 rfl hl (by decide) rfl (fun ls hl => ?_)
              obtain ⟨x_16, ex_16⟩ : ∃ y : Int32, y = y2_4 + 1 := ⟨_, rfl⟩
              refine lv_iinc (v := x_16) (lv' := [(4, .int x_16), (3, .int x_15), (5, .ref (ad (39 + 15 * i + i4))), (0, .ref (ad (29 + 15 * i))), (1, .ref (ad (39 + 15 * i + j))), (2, .int x0)]) hx hb dX5_allowedHours_65 hl (k := 2) rfl (by rw [ex_16]; rfl) (by decide) rfl (fun ls hl => ?_)
              have k_1 : (1 : Int32).toInt = 1 := by decide
              have tx_16 : x_16.toInt = y2_4.toInt + (1 : Int32).toInt := by rw [ex_16]; exact t_add ⟨by omega, by omega⟩
              refine lv_goto (tgt := 8) hx hb dX5_allowedHours_68 (by decide) ?_
              exact ih_2 x_16 x_15 v_13 H locs (by omega) (by omega) (by omega) hv hfr hP hD hS ls (lv_sub hl [0, 1, 3, 4, 5] rfl)
  exact hloop_2 ((5 - (0 : Int32).toInt).toNat + 1) 0 r_1 v_1 _ _ (by omega) (by omega) (by omega) hv hfr hP hD hS ls hl

set_option maxHeartbeats 4000000 in
set_option maxRecDepth 100000 in
theorem g_X5_read (l : Launch) (dC : Nat → ClassId) (dI : Nat → Nat → Nat) (cy : Nat → ClassId) (sz : Nat) (ad : Nat → Nat) (kv : Value) (N : Nat) (hN : 119 ≤ N) (v : Nat → Nat → Int32) (hv : Iv v) (i : Nat) (hi : i < 6) (x0 x1 : Int32) (hs : 0 ≤ x1.toInt ∧ x1.toInt ≤ 5) : Met l yX5_read wsX5_read ({ frames := 2, cells := 0, slots := 0, locals := 128 }) (va_Pc [.ref (ad 10), .ref (ad (29 + 15 * i)), .int x0, .int x1] (ex_Pre dC dI cy sz (wl ad kv cy N v))) (va_Qv (fun (u : Nat → Nat → Int32) => Iv u ∧ Fz v u) (fun u t => ex_Pst dC dI (va_A (wl ad kv cy N v) sz) (wl ad kv cy N u) t) (va_A (wl ad kv cy N v) sz)) 0 0 (va_A (wl ad kv cy N v) sz) := by
  refine Met.ofW (cc := cX5_read) (maxL := 6) (ret := none) (by decide) rfl ?_
  intro p e s m args below meth c s₁ B hml hv
  obtain ⟨rfl, hsz, hE, hP, hK, hD0⟩ := hv
  have hx := B.exec
  have hb := B.bytes
  have hr := B.returns
  have hts := atoms_spec (ws := wsX5_read) B.pre
  have hown : s.vm.findClass RX5 = some m.cls := findClass_of_methodNamed B.named
  have hlocks := B.notSynchronized
  subst hsz
  have hD := hD0.self (sz := s.heap.size)
  generalize hAe : va_A (wl ad kv cy N v) s.heap.size = A at hD ⊢
  have hA : ∀ q : Nat, s.heap.size ≤ q → A q := fun q h => by rw [← hAe]; exact Or.inr h
  have hS : va_S A s.heap s.heap [] := va_S.rf
  have hP : va_P (dC, dI) vwCl (wl ad kv cy N v) s.heap := hP
  have hl := lv_entry ([.ref (ad 10), .ref (ad (29 + 15 * i)), .int x0, .int x1]) (n := 6) (Nat.le_of_ble_eq_true rfl)
  rw [lg_entry_eq]
  generalize (lg_sl ([.ref (ad 10), .ref (ad (29 + 15 * i)), .int x0, .int x1]) ++ List.replicate (6 - (lg_sl ([.ref (ad 10), .ref (ad (29 + 15 * i)), .int x0, .int x1])).length) Slot.unset).toArray = ls at hl ⊢
  have hl : lv_has ls 6 [(0, .ref (ad 10)), (1, .ref (ad (29 + 15 * i))), (2, .int x0), (3, .int x1)] := hl
  have hfr : Fz v v := Fz.rf
  refine lv_aload_n hx hb dX5_read_0 rfl (lv_at hl 0 rfl) ?_
  refine lv_iconst (v := 0) hx hb dX5_read_1 (by decide) ?_
  refine va_put (D := (dC, dI)) (ci := 5) (v := .int 0) (ty := .int) (C := RX5) (T := TX5) (N := 3) hx hb hts iwX5_read_X5 tyX5 tyX5_ok nmX5 hown hK hP hD hS (10) (wl_at (by omega) (ce_2 (by decide))) rfl 0 (by decide) (hts (.fieldLink RX5 18 "QuietStairs$Table" "count" "I") fwX5_read_1) (fun _ h9 => h9) rfl (by decide +kernel) rfl rfl (Nat.le_of_ble_eq_true rfl) dX5_read_2 (fun H locs hP hD hS => ?_)
  have k_0 : (0 : Int32).toInt = 0 := by decide
  obtain ⟨v_1, ev_1⟩ : ∃ u : Nat → Nat → Int32, u = upr v (10) (upd (v (10)) 0 0) := ⟨_, rfl⟩
  have hP : va_P (dC, dI) vwCl (wl ad kv cy N v_1) H := by rw [ev_1, ← wl_put (e := _) (ce_2 (by decide))]; exact hP
  have hD : va_D A (wl ad kv cy N v_1) := by rw [ev_1, ← wl_put (e := _) (ce_2 (by decide))]; exact hD
  have hv : Iv v_1 := by rw [ev_1]; exact hv.put (K := 2) (by decide) (fun h q => by cases q; exact ⟨by omega, by omega⟩)
  have hfr : Fz v v_1 := by rw [ev_1]; exact hfr.put (by omega) (by omega) (by omega)
  refine lv_iconst (v := 0) hx hb dX5_read_5 (by decide) ?_
  refine lv_istore (lv' := [(4, .int 0), (0, .ref (ad 10)), (1, .ref (ad (29 + 15 * i))), (2, .int x0), (3, .int x1)]) hx hb dX5_read_6 hl (by decide) rfl (fun ls hl => ?_)
  have hz_3 : (v_1 10 0).toInt = (0 : Int32).toInt := by rw [ev_1, upr_s, pk_us]
  have hloop_2 : ∀ (n : Nat) (y2_4 : Int32) (u2 : Nat → Nat → Int32) (H : Heap) (locs : List Loc), 0 ≤ y2_4.toInt → y2_4.toInt ≤ 5 → (u2 10 0).toInt ≤ y2_4.toInt → (5 - y2_4.toInt).toNat < n → Iv u2 → Fz v u2 → va_P (dC, dI) vwCl (wl ad kv cy N u2) H → va_D A (wl ad kv cy N u2) → va_S A s.heap H locs → ∀ ls : Array Slot, lv_has ls 6 [(4, .int y2_4), (0, .ref (ad 10)), (1, .ref (ad (29 + 15 * i))), (2, .int x0), (3, .int x1)] → W p l e (headSpec wsX5_read ({ frames := 2, cells := 0, slots := 0, locals := 128 })).room s m [Value.ref (ad 10), Value.ref (ad (29 + 15 * i)), Value.int x0, Value.int x1].toArray below meth c H locs 0 0 (MQ below (va_Qv (fun (u : Nat → Nat → Int32) => Iv u ∧ Fz v u) (fun u t => ex_Pst dC dI A (wl ad kv cy N u) t) A) [Value.ref (ad 10), Value.ref (ad (29 + 15 * i)), Value.int x0, Value.int x1].toArray s 0 0 A) (F0 m 8 ls []) := by
    intro n
    induction n with
    | zero =>
      intro y2_4 u2 H locs ay2_4 by2_4 hx_2 hm_2 hv hfr hP hD hS ls hl
      exact absurd hm_2 (by omega)
    | succ n ih_2 =>
      intro y2_4 u2 H locs ay2_4 by2_4 hx_2 hm_2 hv hfr hP hD hS ls hl
      refine lv_iload hx hb dX5_read_8 (lv_at hl 0 rfl) ?_
      refine lv_iload_n hx hb dX5_read_10 rfl (lv_at hl 4 rfl) ?_
      refine lv_icmp_ge (tgt := 83) hx hb dX5_read_11 (by decide) (fun c_4 => ?_) (fun c_4 => ?_)
      · have tc_4 : y2_4.toInt ≥ x1.toInt := Int32.le_iff_toInt_le.mp c_4
        exact W.vret hx hb hr (fun t ht hW => ⟨⟨u2, rfl, ⟨hv, hfr⟩, by rw [ht]; exact hP, hD⟩, hS.F ht⟩) hS.2.2 dX5_read_83
      · have tc_4 : y2_4.toInt < x1.toInt := Int32.lt_iff_toInt_lt.mp (Int32.not_le.mp c_4)
        refine lv_aload_n hx hb dX5_read_14 rfl (lv_at hl 2 rfl) ?_
        refine va_get (D := (dC, dI)) (ci := 0) (v := .ref (ad (29 + 15 * i + 9))) (C := RX0) (T := TX0) (N := 11) hx hb hts iwX5_read_X0 hown hK hP (29 + 15 * i) (wl_at (by omega) (ce_9 (kd_c i hi).1.1)) rfl 10 (by decide) (hts (.fieldLink RX5 22 "QuietStairs$Case" "terms" "[LQuietStairs$Term;") fwX5_read_2) (fun _ h9 => h9) rfl dX5_read_15 ?_
        refine W.eq (g2 := F0 m 18 ls [.ref (ad (38 + 15 * i))]) (by rw [show 29 + 15 * i + 9 = 38 + 15 * i from by omega]) ?_
        refine lv_iload hx hb dX5_read_18 (lv_at hl 0 rfl) ?_
        obtain ⟨pi5, i5, hi5, ni5, mi5⟩ := t_in (x := y2_4) (n := 5) ⟨by omega, by omega⟩
        refine va_aldq hx hb hK hP (38 + 15 * i) 4 (wl_at (by omega) (ce_15 (kd_c i hi).1.2.2.2.2.2)) rfl pi5 dX5_read_20 ?_
        refine W.eq (g2 := F0 m 21 ls [.ref (ad (39 + 15 * i + i5))]) (by rw [ni5, if_pos hi5, show 38 + 15 * i + 1 + i5 = 39 + 15 * i + i5 from by omega]; rfl) ?_
        refine lv_astore (lv' := [(5, .ref (ad (39 + 15 * i + i5))), (4, .int y2_4), (0, .ref (ad 10)), (1, .ref (ad (29 + 15 * i))), (2, .int x0), (3, .int x1)]) hx hb dX5_read_21 hl (by decide) rfl (fun ls hl => ?_)
        refine lv_aload hx hb dX5_read_23 (lv_at hl 0 rfl) ?_
        refine va_get (D := (dC, dI)) (ci := 6) (v := .int (u2 (39 + 15 * i + i5) 0)) (C := RX6) (T := TX6) (N := 5) hx hb hts iwX5_read_X6 hown hK hP (39 + 15 * i + i5) (wl_at (by omega) (ce_16 (kd_t i hi i5 hi5).1)) rfl 0 (by decide) (hts (.fieldLink RX5 28 "QuietStairs$Term" "side" "I") fwX5_read_3) (fun _ h9 => h9) rfl dX5_read_25 ?_
        refine lv_topi (fun x_6 ex_6 => ?_)
        have bx_6 : 0 ≤ x_6.toInt ∧ x_6.toInt ≤ 1 := by rw [ex_6]; exact hv.at (K := 16) (kd_t i hi i5 hi5).1 rfl
        refine lv_iload_n hx hb dX5_read_28 rfl (lv_at hl 4 rfl) ?_
        refine lv_icmp_ne (tgt := 77) hx hb dX5_read_29 (by decide) (fun c_7 => ?_) (fun c_7 => ?_)
        · have tc_7 : x_6.toInt ≠ x0.toInt := fun q => absurd (Int32.toInt_inj.mp q) c_7
          obtain ⟨x_8, ex_8⟩ : ∃ y : Int32, y = y2_4 + 1 := ⟨_, rfl⟩
          refine lv_iinc (v := x_8) (lv' := [(4, .int x_8), (5, .ref (ad (39 + 15 * i + i5))), (0, .ref (ad 10)), (1, .ref (ad (29 + 15 * i))), (2, .int x0), (3, .int x1)]) hx hb dX5_read_77 hl (k := 1) rfl (by rw [ex_8]; rfl) (by decide) rfl (fun ls hl => ?_)
          have k_1 : (1 : Int32).toInt = 1 := by decide
          have tx_8 : x_8.toInt = y2_4.toInt + (1 : Int32).toInt := by rw [ex_8]; exact t_add ⟨by omega, by omega⟩
          refine lv_goto (tgt := 8) hx hb dX5_read_80 (by decide) ?_
          have hz_9 : (u2 10 0).toInt = (u2 10 0).toInt := rfl
          exact ih_2 x_8 u2 H locs (by omega) (by omega) (by omega) (by omega) hv hfr hP hD hS ls (lv_sub hl [0, 2, 3, 4, 5] rfl)
        · have tc_7 : x_6.toInt = x0.toInt := by rw [c_7]
          refine lv_aload hx hb dX5_read_32 (lv_at hl 0 rfl) ?_
          refine va_get (D := (dC, dI)) (ci := 6) (v := .int (u2 (39 + 15 * i + i5) 1)) (C := RX6) (T := TX6) (N := 5) hx hb hts iwX5_read_X6 hown hK hP (39 + 15 * i + i5) (wl_at (by omega) (ce_16 (kd_t i hi i5 hi5).1)) rfl 1 (by decide) (hts (.fieldLink RX5 33 "QuietStairs$Term" "must" "Z") fwX5_read_4) (fun _ h9 => h9) rfl dX5_read_34 ?_
          refine lv_topi (fun x_8 ex_8 => ?_)
          have bx_8 : 0 ≤ x_8.toInt ∧ x_8.toInt ≤ 1 := by rw [ex_8]; exact hv.at (K := 16) (kd_t i hi i5 hi5).1 rfl
          refine lv_if_eq (tgt := 77) hx hb dX5_read_37 (by decide) (fun c_9 => ?_) (fun c_9 => ?_)
          · have tc_9 : x_8.toInt = (0 : Int32).toInt := by rw [c_9]
            obtain ⟨x_10, ex_10⟩ : ∃ y : Int32, y = y2_4 + 1 := ⟨_, rfl⟩
            refine lv_iinc (v := x_10) (lv' := [(4, .int x_10), (5, .ref (ad (39 + 15 * i + i5))), (0, .ref (ad 10)), (1, .ref (ad (29 + 15 * i))), (2, .int x0), (3, .int x1)]) hx hb dX5_read_77 hl (k := 1) rfl (by rw [ex_10]; rfl) (by decide) rfl (fun ls hl => ?_)
            have k_1 : (1 : Int32).toInt = 1 := by decide
            have tx_10 : x_10.toInt = y2_4.toInt + (1 : Int32).toInt := by rw [ex_10]; exact t_add ⟨by omega, by omega⟩
            refine lv_goto (tgt := 8) hx hb dX5_read_80 (by decide) ?_
            have hz_11 : (u2 10 0).toInt = (u2 10 0).toInt := rfl
            exact ih_2 x_10 u2 H locs (by omega) (by omega) (by omega) (by omega) hv hfr hP hD hS ls (lv_sub hl [0, 2, 3, 4, 5] rfl)
          · have tc_9 : x_8.toInt ≠ (0 : Int32).toInt := fun q => absurd (Int32.toInt_inj.mp q) c_9
            refine lv_aload_n hx hb dX5_read_40 rfl (lv_at hl 2 rfl) ?_
            refine va_get (D := (dC, dI)) (ci := 5) (v := .ref (ad 11)) (C := RX5) (T := TX5) (N := 3) hx hb hts iwX5_read_X5 hown hK hP (10) (wl_at (by omega) (ce_2 (by decide))) rfl 1 (by decide) (hts (.fieldLink RX5 9 "QuietStairs$Table" "musts" "[I") fwX5_read_5) (fun _ h9 => h9) rfl dX5_read_41 ?_
            refine lv_aload_n hx hb dX5_read_44 rfl (lv_at hl 2 rfl) ?_
            refine va_get (D := (dC, dI)) (ci := 5) (v := .int (u2 (10) 0)) (C := RX5) (T := TX5) (N := 3) hx hb hts iwX5_read_X5 hown hK hP (10) (wl_at (by omega) (ce_2 (by decide))) rfl 0 (by decide) (hts (.fieldLink RX5 18 "QuietStairs$Table" "count" "I") fwX5_read_1) (fun _ h9 => h9) rfl dX5_read_45 ?_
            refine lv_topi (fun x_10 ex_10 => ?_)
            have qx_10 : x_10.toInt ≤ y2_4.toInt := by rw [ex_10]; exact hx_2
            have bx_10 : 0 ≤ x_10.toInt ∧ x_10.toInt ≤ 5 := by rw [ex_10]; exact hv.at (K := 2) (by decide) rfl
            refine lv_iload hx hb dX5_read_48 (lv_at hl 1 rfl) ?_
            obtain ⟨pi11, i11, hi11, ni11, mi11⟩ := t_in (x := x_10) (n := 5) ⟨by omega, by omega⟩
            refine va_iast hx hb hK hP hD hS (11) 0 (wl_at (by omega) (ce_19 (by decide))) rfl pi11 dX5_read_50 (fun H locs hP hD hS => ?_)
            obtain ⟨v_12, ev_12⟩ : ∃ u : Nat → Nat → Int32, u = upr u2 (11) (upd (u2 (11)) (x_10.toNatClampNeg) y2_4) := ⟨_, rfl⟩
            have hP : va_P (dC, dI) vwCl (wl ad kv cy N v_12) H := by rw [ev_12, ← wl_put (e := _) (ce_19 (by decide))]; exact hP
            have hD : va_D A (wl ad kv cy N v_12) := by rw [ev_12, ← wl_put (e := _) (ce_19 (by decide))]; exact hD
            have hv : Iv v_12 := by rw [ev_12]; exact hv.put (K := 19) (by decide) (fun h q => by simp [bd] at q)
            have hfr : Fz v v_12 := by rw [ev_12]; exact hfr.put (by omega) (by omega) (by omega)
            refine lv_aload_n hx hb dX5_read_51 rfl (lv_at hl 2 rfl) ?_
            refine va_get (D := (dC, dI)) (ci := 5) (v := .ref (ad 12)) (C := RX5) (T := TX5) (N := 3) hx hb hts iwX5_read_X5 hown hK hP (10) (wl_at (by omega) (ce_2 (by decide))) rfl 2 (by decide) (hts (.fieldLink RX5 15 "QuietStairs$Table" "hourBits" "[I") fwX5_read_6) (fun _ h9 => h9) rfl dX5_read_52 ?_
            refine lv_aload_n hx hb dX5_read_55 rfl (lv_at hl 2 rfl) ?_
            refine va_get (D := (dC, dI)) (ci := 5) (v := .int (v_12 (10) 0)) (C := RX5) (T := TX5) (N := 3) hx hb hts iwX5_read_X5 hown hK hP (10) (wl_at (by omega) (ce_2 (by decide))) rfl 0 (by decide) (hts (.fieldLink RX5 18 "QuietStairs$Table" "count" "I") fwX5_read_1) (fun _ h9 => h9) rfl dX5_read_56 ?_
            refine lv_topi (fun x_13 ex_13 => ?_)
            rw [ev_12, upr_n (by omega)] at ex_13
            rw [← ex_10] at ex_13; replace ex_13 := ex_13.symm; subst ex_13
            refine lv_aload_n hx hb dX5_read_59 rfl (lv_at hl 3 rfl) ?_
            refine lv_aload hx hb dX5_read_60 (lv_at hl 0 rfl) ?_
            refine lv_iload_n hx hb dX5_read_62 rfl (lv_at hl 5 rfl) ?_
            refine yw_i (w1 := fun (u : Nat → Nat → Int32) => wl ad kv cy N u) hD hS hA (va_runS (As := [.ref (ad (29 + 15 * i)), .ref (ad (39 + 15 * i + i5)), .int x1]) (rest := [.int x_10, .ref (ad 12)]) ⟨hx, hb, hml, hown, hts⟩ (g_X5_allowedHours l dC dI cy _ ad kv N hN v_12 hv i hi i5 hi5 x1 ⟨by omega, by omega⟩) (cwS 3 hts gX5_read_X5_allowedHours rfl rfl rfl hd_S_X5_allowedHours_3 ⟨Nat.le_of_ble_eq_true rfl, Nat.le_of_ble_eq_true rfl⟩) (yw_preS hE hK hP hD) rfl rfl hl.1 rfl (lv_room (Nat.le_of_ble_eq_true rfl)) dX5_read_63 ⟨Nat.le_of_ble_eq_true rfl, Nat.le_of_ble_eq_true rfl⟩) (fun r_14 v_14 H locs hw_14 hP hD hS => ?_)
            obtain ⟨hv, hw_14⟩ := hw_14
            have hs_14 : v_14 = v_12 := hw_14
            have hfr : Fz v v_14 := by rw [hs_14]; exact hfr
            refine va_iast hx hb hK hP hD hS (12) 0 (wl_at (by omega) (ce_19 (by decide))) rfl pi11 dX5_read_66 (fun H locs hP hD hS => ?_)
            obtain ⟨v_15, ev_15⟩ : ∃ u : Nat → Nat → Int32, u = upr v_14 (12) (upd (v_14 (12)) (x_10.toNatClampNeg) r_14) := ⟨_, rfl⟩
            have hP : va_P (dC, dI) vwCl (wl ad kv cy N v_15) H := by rw [ev_15, ← wl_put (e := _) (ce_19 (by decide))]; exact hP
            have hD : va_D A (wl ad kv cy N v_15) := by rw [ev_15, ← wl_put (e := _) (ce_19 (by decide))]; exact hD
            have hv : Iv v_15 := by rw [ev_15]; exact hv.put (K := 19) (by decide) (fun h q => by simp [bd] at q)
            have hfr : Fz v v_15 := by rw [ev_15]; exact hfr.put (by omega) (by omega) (by omega)
            refine lv_aload_n hx hb dX5_read_67 rfl (lv_at hl 2 rfl) ?_
            refine lv_dup hx hb dX5_read_68 rfl ?_
            refine va_get (D := (dC, dI)) (ci := 5) (v := .int (v_15 (10) 0)) (C := RX5) (T := TX5) (N := 3) hx hb hts iwX5_read_X5 hown hK hP (10) (wl_at (by omega) (ce_2 (by decide))) rfl 0 (by decide) (hts (.fieldLink RX5 18 "QuietStairs$Table" "count" "I") fwX5_read_1) (fun _ h9 => h9) rfl dX5_read_69 ?_
            refine lv_topi (fun x_16 ex_16 => ?_)
            rw [ev_15, upr_n (by omega)] at ex_16
            rw [hs_14] at ex_16
            rw [ev_12, upr_n (by omega)] at ex_16
            rw [← ex_10] at ex_16; replace ex_16 := ex_16.symm; subst ex_16
            refine lv_iconst (v := 1) hx hb dX5_read_72 (by decide) ?_
            have k_1 : (1 : Int32).toInt = 1 := by decide
            refine lv_iadd hx hb dX5_read_73 ?_
            refine lv_topi (fun x_17 ex_17 => ?_)
            have tx_17 : x_17.toInt = x_10.toInt + (1 : Int32).toInt := by rw [ex_17]; exact t_add ⟨by omega, by omega⟩
            refine va_put (D := (dC, dI)) (ci := 5) (v := .int x_17) (ty := .int) (C := RX5) (T := TX5) (N := 3) hx hb hts iwX5_read_X5 tyX5 tyX5_ok nmX5 hown hK hP hD hS (10) (wl_at (by omega) (ce_2 (by decide))) rfl 0 (by decide) (hts (.fieldLink RX5 18 "QuietStairs$Table" "count" "I") fwX5_read_1) (fun _ h9 => h9) rfl (by decide +kernel) rfl rfl (Nat.le_of_ble_eq_true rfl) dX5_read_74 (fun H locs hP hD hS => ?_)
            obtain ⟨v_18, ev_18⟩ : ∃ u : Nat → Nat → Int32, u = upr v_15 (10) (upd (v_15 (10)) 0 x_17) := ⟨_, rfl⟩
            have hP : va_P (dC, dI) vwCl (wl ad kv cy N v_18) H := by rw [ev_18, ← wl_put (e := _) (ce_2 (by decide))]; exact hP
            have hD : va_D A (wl ad kv cy N v_18) := by rw [ev_18, ← wl_put (e := _) (ce_2 (by decide))]; exact hD
            have hv : Iv v_18 := by rw [ev_18]; exact hv.put (K := 2) (by decide) (fun h q => by cases q; exact ⟨by omega, by omega⟩)
            have hfr : Fz v v_18 := by rw [ev_18]; exact hfr.put (by omega) (by omega) (by omega)
            obtain ⟨x_19, ex_19⟩ : ∃ y : Int32, y = y2_4 + 1 := ⟨_, rfl⟩
            refine lv_iinc (v := x_19) (lv' := [(4, .int x_19), (5, .ref (ad (39 + 15 * i + i5))), (0, .ref (ad 10)), (1, .ref (ad (29 + 15 * i))), (2, .int x0), (3, .int x1)]) hx hb dX5_read_77 hl (k := 1) rfl (by rw [ex_19]; rfl) (by decide) rfl (fun ls hl => ?_)
            have tx_19 : x_19.toInt = y2_4.toInt + (1 : Int32).toInt := by rw [ex_19]; exact t_add ⟨by omega, by omega⟩
            refine lv_goto (tgt := 8) hx hb dX5_read_80 (by decide) ?_
            have hz_20 : (v_18 10 0).toInt = (x_17 : Int32).toInt := by rw [ev_18, upr_s, pk_us]
            exact ih_2 x_19 v_18 H locs (by omega) (by omega) (by omega) (by omega) hv hfr hP hD hS ls (lv_sub hl [0, 2, 3, 4, 5] rfl)
  exact hloop_2 ((5 - (0 : Int32).toInt).toNat + 1) 0 v_1 _ _ (by omega) (by omega) (by omega) (by omega) hv hfr hP hD hS ls hl
