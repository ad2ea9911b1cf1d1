set_option maxRecDepth 20000 in
theorem db_X7_put_0 : (decode cX7_put 0 = .ok (.aload_n 0, 1)) ∧ (decode cX7_put 1 = .ok (.iload_n 1, 1)) ∧ (decode cX7_put 2 = .ok (.invokevirtual 96, 3)) ∧ (decode cX7_put 5 = .ok (.ifCond .eq 10, 3)) ∧ (decode cX7_put 8 = .ok (.iload_n 2, 1)) ∧ (decode cX7_put 9 = .ok (.invokestatic 132, 3)) ∧ (decode cX7_put 12 = .ok (.ifCond .ne 5, 3)) ∧ (decode cX7_put 17 = .ok (.aload_n 0, 1)) := by decide +kernel
theorem dX7_put_0 : decode cX7_put 0 = .ok (.aload_n 0, 1) := db_X7_put_0.1
theorem dX7_put_1 : decode cX7_put 1 = .ok (.iload_n 1, 1) := db_X7_put_0.2.1
set_option maxRecDepth 20000 in
theorem ggX7_put_X7_isCase : GoodIn wsX7_put wsX7_isCase := goodIn_r _ [8, 1, 9, 10, 11, 7, 12, 16, 17, 18, 19, 20, 21, 22, 23, 24, 25, 26, 27] rfl (by decide +kernel)
set_option maxRecDepth 20000 in
theorem gX7_put_X7_isCase : GoodIn wsX7_put (wsV RX7 96 RX7 yX7_isCase wsX7_isCase) := goodIn_app (goodIn_r _ [4, 5, 6, 7] rfl (by decide +kernel)) ggX7_put_X7_isCase
theorem dX7_put_2 : decode cX7_put 2 = .ok (.invokevirtual 96, 3) := db_X7_put_0.2.2.1
theorem dX7_put_5 : decode cX7_put 5 = .ok (.ifCond .eq 10, 3) := db_X7_put_0.2.2.2.1
theorem dX7_put_8 : decode cX7_put 8 = .ok (.iload_n 2, 1) := db_X7_put_0.2.2.2.2.1
set_option maxRecDepth 20000 in
theorem ggX7_put_X7_isSide : GoodIn wsX7_put wsX7_isSide := goodIn_r _ [15, 10, 11, 7, 12] rfl (by decide +kernel)
set_option maxRecDepth 20000 in
theorem gX7_put_X7_isSide : GoodIn wsX7_put (va_wsS RX7 132 yX7_isSide wsX7_isSide) := goodIn_app (goodIn_r _ [13, 14, 7] rfl (by decide +kernel)) ggX7_put_X7_isSide
theorem dX7_put_9 : decode cX7_put 9 = .ok (.invokestatic 132, 3) := db_X7_put_0.2.2.2.2.2.1
theorem dX7_put_12 : decode cX7_put 12 = .ok (.ifCond .ne 5, 3) := db_X7_put_0.2.2.2.2.2.2.1
theorem dX7_put_17 : decode cX7_put 17 = .ok (.aload_n 0, 1) := db_X7_put_0.2.2.2.2.2.2.2
set_option maxRecDepth 20000 in
theorem db_X7_put_18 : (decode cX7_put 18 = .ok (.getfield 12, 3)) ∧ (decode cX7_put 21 = .ok (.getfield 86, 3)) ∧ (decode cX7_put 24 = .ok (.iload_n 1, 1)) ∧ (decode cX7_put 25 = .ok (.aaload, 1)) ∧ (decode cX7_put 26 = .ok (.getfield 135, 3)) ∧ (decode cX7_put 29 = .ok (.iload_n 2, 1)) ∧ (decode cX7_put 30 = .ok (.iaload, 1)) ∧ (decode cX7_put 31 = .ok (.iconst (-1), 1)) := by decide +kernel
theorem dX7_put_18 : decode cX7_put 18 = .ok (.getfield 12, 3) := db_X7_put_18.1
theorem dX7_put_21 : decode cX7_put 21 = .ok (.getfield 86, 3) := db_X7_put_18.2.1
theorem dX7_put_24 : decode cX7_put 24 = .ok (.iload_n 1, 1) := db_X7_put_18.2.2.1
theorem dX7_put_25 : decode cX7_put 25 = .ok (.aaload, 1) := db_X7_put_18.2.2.2.1
theorem dX7_put_26 : decode cX7_put 26 = .ok (.getfield 135, 3) := db_X7_put_18.2.2.2.2.1
theorem dX7_put_29 : decode cX7_put 29 = .ok (.iload_n 2, 1) := db_X7_put_18.2.2.2.2.2.1
theorem dX7_put_30 : decode cX7_put 30 = .ok (.iaload, 1) := db_X7_put_18.2.2.2.2.2.2.1
theorem dX7_put_31 : decode cX7_put 31 = .ok (.iconst (-1), 1) := db_X7_put_18.2.2.2.2.2.2.2
set_option maxRecDepth 20000 in
theorem db_X7_put_32 : (decode cX7_put 32 = .ok (.if_icmp .ne 7, 3)) ∧ (decode cX7_put 39 = .ok (.iconst 1, 1)) ∧ (decode cX7_put 40 = .ok (.ireturn, 1)) ∧ (decode cX7_put 35 = .ok (.iconst 0, 1)) ∧ (decode cX7_put 36 = .ok (.goto 4, 3)) ∧ (decode cX7_put 15 = .ok (.iconst (-1), 1)) ∧ (decode cX7_put 16 = .ok (.ireturn, 1)) := by decide +kernel
theorem dX7_put_32 : decode cX7_put 32 = .ok (.if_icmp .ne 7, 3) := db_X7_put_32.1
theorem dX7_put_39 : decode cX7_put 39 = .ok (.iconst 1, 1) := db_X7_put_32.2.1
theorem dX7_put_40 : decode cX7_put 40 = .ok (.ireturn, 1) := db_X7_put_32.2.2.1
theorem dX7_put_35 : decode cX7_put 35 = .ok (.iconst 0, 1) := db_X7_put_32.2.2.2.1
theorem dX7_put_36 : decode cX7_put 36 = .ok (.goto 4, 3) := db_X7_put_32.2.2.2.2.1
theorem dX7_put_15 : decode cX7_put 15 = .ok (.iconst (-1), 1) := db_X7_put_32.2.2.2.2.2.1
theorem dX7_put_16 : decode cX7_put 16 = .ok (.ireturn, 1) := db_X7_put_32.2.2.2.2.2.2
set_option maxHeartbeats 4000000 in
set_option maxRecDepth 100000 in
theorem g_X7_put (l : Launch) (dC : Nat → ClassId) (dI : Nat → Nat → Nat) (cy : Nat → ClassId) (sz : Nat) (ad : Nat → Nat) (kv : Value) (N : Nat) (hN : 119 ≤ N) (v : Nat → Nat → Int32) (hv : Iv v) (x0 x1 : Int32) : Met l yX7_put wsX7_put ({ frames := 3, cells := 0, slots := 0, locals := 192 }) (va_Pc [.ref (ad 0), .int x0, .int x1] (ex_Pre dC dI cy sz (wl ad kv cy N v))) (va_Qi (fun (r : Int32) (u : Nat → Nat → Int32) => Iv u ∧ Fz v u) (fun u t => ex_Pst dC dI (va_A (wl ad kv cy N v) sz) (wl ad kv cy N u) t) (va_A (wl ad kv cy N v) sz)) 0 0 (va_A (wl ad kv cy N v) sz) := by
  refine Met.ofW (cc := cX7_put) (maxL := 3) (ret := (some .int)) (by decide) rfl ?_
  intro p e s m args below meth c s₁ B hml hv
  obtain ⟨rfl, hsz, hE, hP, hK, hD0⟩ := hv
  have hx := B.exec
  have hb := B.bytes
  have hr := B.returns
  have hts := atoms_spec (ws := wsX7_put) B.pre
  have hown : s.vm.findClass RX7 = some m.cls := findClass_of_methodNamed B.named
  have hlocks := B.notSynchronized
  subst hsz
  have hD := hD0.self (sz := s.heap.size)
  generalize hAe : va_A (wl ad kv cy N v) s.heap.size = A at hD ⊢
  have hA : ∀ q : Nat, s.heap.size ≤ q → A q := fun q h => by rw [← hAe]; exact Or.inr h
  have hS : va_S A s.heap s.heap [] := va_S.rf
  have hP : va_P (dC, dI) vwCl (wl ad kv cy N v) s.heap := hP
  have hl := lv_entry ([.ref (ad 0), .int x0, .int x1]) (n := 3) (Nat.le_of_ble_eq_true rfl)
  rw [lg_entry_eq]
  generalize (lg_sl ([.ref (ad 0), .int x0, .int x1]) ++ List.replicate (3 - (lg_sl ([.ref (ad 0), .int x0, .int x1])).length) Slot.unset).toArray = ls at hl ⊢
  have hl : lv_has ls 3 [(0, .ref (ad 0)), (1, .int x0), (2, .int x1)] := hl
  have hfr : Fz v v := Fz.rf
  refine lv_aload_n hx hb dX7_put_0 rfl (lv_at hl 0 rfl) ?_
  refine lv_iload_n hx hb dX7_put_1 rfl (lv_at hl 1 rfl) ?_
  refine yw_i (w1 := fun (u : Nat → Nat → Int32) => wl ad kv cy N u) hD hS hA (va_runV (As := [.int x0]) (rest := []) ⟨hx, hb, hml, hown, hts⟩ (g_X7_isCase l dC dI cy _ ad kv N hN v hv x0) (cwV 1 hts gX7_put_X7_isCase rfl rfl rfl hd_V_X7_isCase_1 ⟨Nat.le_of_ble_eq_true rfl, Nat.le_of_ble_eq_true rfl⟩) (yw_preV hE hK hP hD (ci := 7) (q0 := 0) rfl (wl_at (by omega) (ce_0 (by decide)))) rfl rfl hl.1 rfl (lv_room (Nat.le_of_ble_eq_true rfl)) dX7_put_2 ⟨Nat.le_of_ble_eq_true rfl, Nat.le_of_ble_eq_true rfl⟩) (fun r_1 v_1 H locs hw_1 hP hD hS => ?_)
  obtain ⟨hv, hw_1⟩ := hw_1
  obtain ⟨hu_1, hw_1⟩ := hw_1
  have hfr : Fz v v_1 := by rw [hu_1]; exact hfr
  rcases hw_1 with ⟨rfl, ha_2⟩ | ⟨rfl, -⟩
  · have hb_2 := hv.at (k := 13) (j := 2) (K := 3) (by decide) rfl
    have hb_2 : 0 ≤ x0.toInt ∧ x0.toInt < 6 := by omega
    refine lv_if_eq (tgt := 15) hx hb dX7_put_5 (by decide) (fun c9 => absurd c9 (by decide)) (fun _ => ?_)
    refine lv_iload_n hx hb dX7_put_8 rfl (lv_at hl 2 rfl) ?_
    refine yc_p hP hS (va_runS (As := [.int x1]) (rest := []) ⟨hx, hb, hml, hown, hts⟩ (c_X7_isSide l x1) (cwS 1 hts gX7_put_X7_isSide rfl rfl rfl hd_S_X7_isSide_1 ⟨Nat.le_of_ble_eq_true rfl, Nat.le_of_ble_eq_true rfl⟩) ex_preP rfl rfl hl.1 rfl (lv_room (Nat.le_of_ble_eq_true rfl)) dX7_put_9 ⟨Nat.le_of_ble_eq_true rfl, Nat.le_of_ble_eq_true rfl⟩) (fun r_3 H locs hw_3 hP hS => ?_)
    rcases wi_ca hw_3 with ⟨rfl, hc_4⟩ | ⟨rfl, hc_4⟩
    · have k_0 : (0 : Int32).toInt = 0 := by decide
      have k_1 : (1 : Int32).toInt = 1 := by decide
      have tc_4 := wi_tl hc_4
      refine lv_if_ne (tgt := 17) hx hb dX7_put_12 (by decide) (fun _ => ?_) (fun c9 => absurd c9 (by decide))
      refine lv_aload_n hx hb dX7_put_17 rfl (lv_at hl 0 rfl) ?_
      refine va_get (D := (dC, dI)) (ci := 7) (v := .ref (ad 13)) (C := RX7) (T := TX7) (N := 5) hx hb hts iwX7_put_X7 hown hK hP (0) (wl_at (by omega) (ce_0 (by decide))) rfl 0 (by decide) (hts (.fieldLink RX7 12 "QuietStairs" "now" "LQuietStairs$House;") fwX7_put_1) (fun _ h9 => h9) rfl dX7_put_18 ?_
      refine va_get (D := (dC, dI)) (ci := 1) (v := .ref (ad 16)) (C := RX1) (T := TX1) (N := 7) hx hb hts iwX7_put_X1 hown hK hP (13) (wl_at (by omega) (ce_3 (by decide))) rfl 6 (by decide) (hts (.fieldLink RX7 86 "QuietStairs$House" "cases" "[LQuietStairs$Case;") fwX7_put_2) (fun _ h9 => h9) rfl dX7_put_21 ?_
      refine lv_iload_n hx hb dX7_put_24 rfl (lv_at hl 1 rfl) ?_
      obtain ⟨pi5, i5, hi5, ni5, mi5⟩ := t_in (x := x0) (n := 6) ⟨by omega, by omega⟩
      refine va_aldq hx hb hK hP (16) 3 (wl_at (by omega) (ce_6 (by decide))) rfl pi5 dX7_put_25 ?_
      refine W.eq (g2 := F0 m 26 ls [.ref (ad (29 + 15 * i5))]) (by rw [ni5, if_pos hi5, show 16 + 13 + 15 * i5 = 29 + 15 * i5 from by omega]; rfl) ?_
      refine va_get (D := (dC, dI)) (ci := 0) (v := .ref (ad (29 + 15 * i5 + 2))) (C := RX0) (T := TX0) (N := 11) hx hb hts iwX7_put_X0 hown hK hP (29 + 15 * i5) (wl_at (by omega) (ce_9 (kd_c i5 hi5).1.1)) rfl 7 (by decide) (hts (.fieldLink RX7 135 "QuietStairs$Case" "box" "[I") fwX7_put_3) (fun _ h9 => h9) rfl dX7_put_26 ?_
      refine W.eq (g2 := F0 m 29 ls [.ref (ad (31 + 15 * i5))]) (by rw [show 29 + 15 * i5 + 2 = 31 + 15 * i5 from by omega]) ?_
      refine lv_iload_n hx hb dX7_put_29 rfl (lv_at hl 2 rfl) ?_
      obtain ⟨pi6, i6, hi6, ni6, mi6⟩ := t_in (x := x1) (n := 2) ⟨by omega, by omega⟩
      refine va_iald hx hb hK hP (31 + 15 * i5) 0 (wl_at (by omega) (ce_20 (kd_c i5 hi5).1.2.2.1)) rfl pi6 dX7_put_30 ?_
      refine lv_topi (fun x_7 ex_7 => ?_)
      refine lv_iconst (v := (-1)) hx hb dX7_put_31 (by decide) ?_
      have k_m1 : ((-1) : Int32).toInt = -1 := by decide
      refine lv_icmp_ne (tgt := 39) hx hb dX7_put_32 (by decide) (fun c_8 => ?_) (fun c_8 => ?_)
      · have tc_8 : x_7.toInt ≠ ((-1) : Int32).toInt := fun q => absurd (Int32.toInt_inj.mp q) c_8
        refine lv_iconst (v := 1) hx hb dX7_put_39 (by decide) ?_
        exact W.iret (v := 1) hx hb hr (fun t ht hW => ⟨⟨1, v_1, rfl, ⟨hv, hfr⟩, by rw [ht]; exact hP, hD⟩, hS.F ht⟩) hS.2.2 dX7_put_40
      · have tc_8 : x_7.toInt = ((-1) : Int32).toInt := by rw [c_8]
        refine lv_iconst (v := 0) hx hb dX7_put_35 (by decide) ?_
        refine lv_goto (tgt := 40) hx hb dX7_put_36 (by decide) ?_
        exact W.iret (v := 0) hx hb hr (fun t ht hW => ⟨⟨0, v_1, rfl, ⟨hv, hfr⟩, by rw [ht]; exact hP, hD⟩, hS.F ht⟩) hS.2.2 dX7_put_40
    · refine lv_if_ne (tgt := 17) hx hb dX7_put_12 (by decide) (fun c9 => absurd c9 (by decide)) (fun _ => ?_)
      refine lv_iconst (v := (-1)) hx hb dX7_put_15 (by decide) ?_
      exact W.iret (v := (-1)) hx hb hr (fun t ht hW => ⟨⟨(-1), v_1, rfl, ⟨hv, hfr⟩, by rw [ht]; exact hP, hD⟩, hS.F ht⟩) hS.2.2 dX7_put_16
  · refine lv_if_eq (tgt := 15) hx hb dX7_put_5 (by decide) (fun _ => ?_) (fun c9 => absurd c9 (by decide))
    refine lv_iconst (v := (-1)) hx hb dX7_put_15 (by decide) ?_
    exact W.iret (v := (-1)) hx hb hr (fun t ht hW => ⟨⟨(-1), v_1, rfl, ⟨hv, hfr⟩, by rw [ht]; exact hP, hD⟩, hS.F ht⟩) hS.2.2 dX7_put_16
