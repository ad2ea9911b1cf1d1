
set_option maxHeartbeats 4000000 in
set_option maxRecDepth 100000 in
theorem h_X7_party (l : Launch) (dC : Nat → ClassId) (dI : Nat → Nat → Nat) (cy : Nat → ClassId) (sz : Nat) (ad : Nat → Nat) (kv : Value) (N : Nat) (hN : 119 ≤ N) (v : Nat → Nat → Int32) (hv : Iv v) (x0 x1 : Int32) : Met l yX7_party wsX7_party ({ frames := 1, cells := 0, slots := 0, locals := 64 }) (va_Pc [.ref (ad 0), .int x0, .int x1] (ex_Pre dC dI cy sz (wl ad kv cy N v))) (va_Qi (fun (r : Int32) (u : Nat → Nat → Int32) => Iv u ∧ ((¬ ((0 ≤ x0.toInt ∧ x0.toInt ≤ 9) ∧ 0 ≤ x1.toInt ∧ x1.toInt ≤ 2) ∧ r = -1 ∧ u = v) ∨ (((0 ≤ x0.toInt ∧ x0.toInt ≤ 9) ∧ 0 ≤ x1.toInt ∧ x1.toInt ≤ 2) ∧ 8 ≤ (v 13 0).toInt ∧ r = -2 ∧ u = v) ∨ (((0 ≤ x0.toInt ∧ x0.toInt ≤ 9) ∧ 0 ≤ x1.toInt ∧ x1.toInt ≤ 2) ∧ (v 13 0).toInt < 8 ∧ r = v 13 0 ∧ u 13 0 = v 13 0 + 1 ∧ u 13 1 = v 13 1 ∧ u 0 4 = v 0 4 ∧ u 119 0 = v 119 0 ∧ u 119 1 = v 119 1))) (fun u t => ex_Pst dC dI (va_A (wl ad kv cy N v) sz) (wl ad kv cy N u) t) (va_A (wl ad kv cy N v) sz)) 0 0 (va_A (wl ad kv cy N v) sz) := by
  refine Met.ofW (cc := cX7_party) (maxL := 4) (ret := (some .int)) (by decide) rfl ?_
  intro p e s m args below meth c s₁ B hml hv
  obtain ⟨rfl, hsz, hE, hP, hK, hD0⟩ := hv
  have hx := B.exec
  have hb := B.bytes
  have hr := B.returns
  have hts := atoms_spec (ws := wsX7_party) B.pre
  have hown : s.vm.findClass RX7 = some m.cls := findClass_of_methodNamed B.named
  have hlocks := B.notSynchronized
  subst hsz
  have hD := hD0.self (sz := s.heap.size)
  generalize hAe : va_A (wl ad kv cy N v) s.heap.size = A at hD ⊢
  have hA : ∀ q : Nat, s.heap.size ≤ q → A q := fun q h => by rw [← hAe]; exact Or.inr h
  have hS : va_S A s.heap s.heap [] := va_S.rf
  have hP : va_P (dC, dI) vwCl (wl ad kv cy N v) s.heap := hP
  have hl := lv_entry ([.ref (ad 0), .int x0, .int x1]) (n := 4) (Nat.le_of_ble_eq_true rfl)
  rw [lg_entry_eq]
  generalize (lg_sl ([.ref (ad 0), .int x0, .int x1]) ++ List.replicate (4 - (lg_sl ([.ref (ad 0), .int x0, .int x1])).length) Slot.unset).toArray = ls at hl ⊢
  have hl : lv_has ls 4 [(0, .ref (ad 0)), (1, .int x0), (2, .int x1)] := hl
  have hfr : Ft v v := Ft.rf
  refine lv_iload_n hx hb dX7_party_0 rfl (lv_at hl 1 rfl) ?_
  refine lv_iconst (v := 0) hx hb dX7_party_1 (by decide) ?_
  refine lv_bipush (v := 9) hx hb dX7_party_2 (by decide) ?_
  refine yc_p hP hS (va_runS (As := [.int x0, .int 0, .int 9]) (rest := []) ⟨hx, hb, hml, hown, hts⟩ (c_X7_isWithin l x0 0 9) (cwS 3 hts gX7_party_X7_isWithin rfl rfl rfl hd_S_X7_isWithin_3 ⟨Nat.le_of_ble_eq_true rfl, Nat.le_of_ble_eq_true rfl⟩) ex_preP rfl rfl hl.1 rfl (lv_room (Nat.le_of_ble_eq_true rfl)) dX7_party_4 ⟨Nat.le_of_ble_eq_true rfl, Nat.le_of_ble_eq_true rfl⟩) (fun r_1 H locs hw_1 hP hS => ?_)
  rcases wi_ca hw_1 with ⟨rfl, hc_2⟩ | ⟨rfl, hc_2⟩
  · have k_0 : (0 : Int32).toInt = 0 := by decide
    have k_9 : (9 : Int32).toInt = 9 := by decide
    have tc_2 := wi_tl hc_2
    refine lv_if_eq (tgt := 19) hx hb dX7_party_7 (by decide) (fun c9 => absurd c9 (by decide)) (fun _ => ?_)
    refine lv_iload_n hx hb dX7_party_10 rfl (lv_at hl 2 rfl) ?_
    refine lv_iconst (v := 0) hx hb dX7_party_11 (by decide) ?_
    refine lv_iconst (v := 2) hx hb dX7_party_12 (by decide) ?_
    refine yc_p hP hS (va_runS (As := [.int x1, .int 0, .int 2]) (rest := []) ⟨hx, hb, hml, hown, hts⟩ (c_X7_isWithin l x1 0 2) (cwS 3 hts gX7_party_X7_isWithin rfl rfl rfl hd_S_X7_isWithin_3 ⟨Nat.le_of_ble_eq_true rfl, Nat.le_of_ble_eq_true rfl⟩) ex_preP rfl rfl hl.1 rfl (lv_room (Nat.le_of_ble_eq_true rfl)) dX7_party_13 ⟨Nat.le_of_ble_eq_true rfl, Nat.le_of_ble_eq_true rfl⟩) (fun r_3 H locs hw_3 hP hS => ?_)
    rcases wi_ca hw_3 with ⟨rfl, hc_4⟩ | ⟨rfl, hc_4⟩
    · have k_2 : (2 : Int32).toInt = 2 := by decide
      have tc_4 := wi_tl hc_4
      refine lv_if_ne (tgt := 21) hx hb dX7_party_16 (by decide) (fun _ => ?_) (fun c9 => absurd c9 (by decide))
      refine lv_aload_n hx hb dX7_party_21 rfl (lv_at hl 0 rfl) ?_
      refine va_get (D := (dC, dI)) (ci := 7) (v := .ref (ad 13)) (C := RX7) (T := TX7) (N := 5) hx hb hts iwX7_party_X7 hown hK hP (0) (wl_at (by omega) (ce_0 (by decide))) rfl 0 (by decide) (hts (.fieldLink RX7 12 "QuietStairs" "now" "LQuietStairs$House;") fwX7_party_1) (fun _ h9 => h9) rfl dX7_party_22 ?_
      refine va_get (D := (dC, dI)) (ci := 1) (v := .int (v (13) 0)) (C := RX1) (T := TX1) (N := 7) hx hb hts iwX7_party_X1 hown hK hP (13) (wl_at (by omega) (ce_3 (by decide))) rfl 0 (by decide) (hts (.fieldLink RX7 41 "QuietStairs$House" "partyCount" "I") fwX7_party_2) (fun _ h9 => h9) rfl dX7_party_25 ?_
      refine lv_topi (fun x_5 ex_5 => ?_)
      have bx_5 : 0 ≤ x_5.toInt ∧ x_5.toInt ≤ 8 := by rw [ex_5]; exact hv.at (K := 3) (by decide) rfl
      refine lv_bipush (v := 8) hx hb dX7_party_28 (by decide) ?_
      have k_8 : (8 : Int32).toInt = 8 := by decide
      refine lv_icmp_lt (tgt := 36) hx hb dX7_party_30 (by decide) (fun c_6 => ?_) (fun c_6 => ?_)
      · have tc_6 : x_5.toInt < (8 : Int32).toInt := Int32.lt_iff_toInt_lt.mp c_6
        refine lv_aload_n hx hb dX7_party_36 rfl (lv_at hl 0 rfl) ?_
        refine va_get (D := (dC, dI)) (ci := 7) (v := .ref (ad 13)) (C := RX7) (T := TX7) (N := 5) hx hb hts iwX7_party_X7 hown hK hP (0) (wl_at (by omega) (ce_0 (by decide))) rfl 0 (by decide) (hts (.fieldLink RX7 12 "QuietStairs" "now" "LQuietStairs$House;") fwX7_party_1) (fun _ h9 => h9) rfl dX7_party_37 ?_
        refine va_get (D := (dC, dI)) (ci := 1) (v := .ref (ad 14)) (C := RX1) (T := TX1) (N := 7) hx hb hts iwX7_party_X1 hown hK hP (13) (wl_at (by omega) (ce_3 (by decide))) rfl 4 (by decide) (hts (.fieldLink RX7 44 "QuietStairs$House" "parties" "[LQuietStairs$Party;") fwX7_party_3) (fun _ h9 => h9) rfl dX7_party_40 ?_
        refine lv_aload_n hx hb dX7_party_43 rfl (lv_at hl 0 rfl) ?_
        refine va_get (D := (dC, dI)) (ci := 7) (v := .ref (ad 13)) (C := RX7) (T := TX7) (N := 5) hx hb hts iwX7_party_X7 hown hK hP (0) (wl_at (by omega) (ce_0 (by decide))) rfl 0 (by decide) (hts (.fieldLink RX7 12 "QuietStairs" "now" "LQuietStairs$House;") fwX7_party_1) (fun _ h9 => h9) rfl dX7_party_44 ?_
        refine va_get (D := (dC, dI)) (ci := 1) (v := .int (v (13) 0)) (C := RX1) (T := TX1) (N := 7) hx hb hts iwX7_party_X1 hown hK hP (13) (wl_at (by omega) (ce_3 (by decide))) rfl 0 (by decide) (hts (.fieldLink RX7 41 "QuietStairs$House" "partyCount" "I") fwX7_party_2) (fun _ h9 => h9) rfl dX7_party_47 ?_
        refine lv_topi (fun x_7 ex_7 => ?_)
        rw [← ex_5] at ex_7; replace ex_7 := ex_7.symm; subst ex_7
        obtain ⟨pi8, i8, hi8, ni8, mi8⟩ := t_in (x := x_5) (n := 8) ⟨by omega, by omega⟩
        refine va_aldq hx hb hK hP (14) 1 (wl_at (by omega) (ce_4 (by decide))) rfl pi8 dX7_party_50 ?_
        refine W.eq (g2 := F0 m 51 ls [.ref (ad (17 + i8))]) (by rw [ni8, if_pos hi8, show 14 + 3 + i8 = 17 + i8 from by omega]; rfl) ?_
        refine lv_astore_n (lv' := [(3, .ref (ad (17 + i8))), (0, .ref (ad 0)), (1, .int x0), (2, .int x1)]) hx hb dX7_party_51 rfl hl (by decide) rfl (fun ls hl => ?_)
        refine lv_aload_n hx hb dX7_party_52 rfl (lv_at hl 0 rfl) ?_
        refine lv_iload_n hx hb dX7_party_53 rfl (lv_at hl 2 rfl) ?_
        refine va_put (D := (dC, dI)) (ci := 3) (v := .int x0) (ty := .int) (C := RX3) (T := TX3) (N := 2) hx hb hts iwX7_party_X3 tyX3 tyX3_ok nmX3 hown hK hP hD hS (17 + i8) (wl_at (by omega) (ce_7 (kd_p i8 hi8).1)) rfl 0 (by decide) (hts (.fieldLink RX7 48 "QuietStairs$Party" "floor" "I") fwX7_party_4) (fun _ h9 => h9) rfl (by decide +kernel) rfl rfl (Nat.le_of_ble_eq_true rfl) dX7_party_54 (fun H locs hP hD hS => ?_)
        obtain ⟨v_9, ev_9⟩ : ∃ u : Nat → Nat → Int32, u = upr v (17 + i8) (upd (v (17 + i8)) 0 x0) := ⟨_, rfl⟩
        have hP : va_P (dC, dI) vwCl (wl ad kv cy N v_9) H := by rw [ev_9, ← wl_put (e := _) (ce_7 (kd_p i8 hi8).1)]; exact hP
        have hD : va_D A (wl ad kv cy N v_9) := by rw [ev_9, ← wl_put (e := _) (ce_7 (kd_p i8 hi8).1)]; exact hD
        have hv : Iv v_9 := by rw [ev_9]; exact hv.put (K := 7) (kd_p i8 hi8).1 (fun h q => by simp [bd] at q)
        have hfr : Ft v v_9 := trivial
        refine lv_aload_n hx hb dX7_party_57 rfl (lv_at hl 0 rfl) ?_
        refine lv_iload_n hx hb dX7_party_58 rfl (lv_at hl 3 rfl) ?_
        refine va_put (D := (dC, dI)) (ci := 3) (v := .int x1) (ty := .int) (C := RX3) (T := TX3) (N := 2) hx hb hts iwX7_party_X3 tyX3 tyX3_ok nmX3 hown hK hP hD hS (17 + i8) (wl_at (by omega) (ce_7 (kd_p i8 hi8).1)) rfl 1 (by decide) (hts (.fieldLink RX7 53 "QuietStairs$Party" "tongue" "I") fwX7_party_5) (fun _ h9 => h9) rfl (by decide +kernel) rfl rfl (Nat.le_of_ble_eq_true rfl) dX7_party_59 (fun H locs hP hD hS => ?_)
        obtain ⟨v_10, ev_10⟩ : ∃ u : Nat → Nat → Int32, u = upr v_9 (17 + i8) (upd (v_9 (17 + i8)) 1 x1) := ⟨_, rfl⟩
        have hP : va_P (dC, dI) vwCl (wl ad kv cy N v_10) H := by rw [ev_10, ← wl_put (e := _) (ce_7 (kd_p i8 hi8).1)]; exact hP
        have hD : va_D A (wl ad kv cy N v_10) := by rw [ev_10, ← wl_put (e := _) (ce_7 (kd_p i8 hi8).1)]; exact hD
        have hv : Iv v_10 := by rw [ev_10]; exact hv.put (K := 7) (kd_p i8 hi8).1 (fun h q => by simp [bd] at q)
        have hfr : Ft v v_10 := trivial
        refine lv_aload_n hx hb dX7_party_62 rfl (lv_at hl 1 rfl) ?_
        refine va_get (D := (dC, dI)) (ci := 7) (v := .ref (ad 13)) (C := RX7) (T := TX7) (N := 5) hx hb hts iwX7_party_X7 hown hK hP (0) (wl_at (by omega) (ce_0 (by decide))) rfl 0 (by decide) (hts (.fieldLink RX7 12 "QuietStairs" "now" "LQuietStairs$House;") fwX7_party_1) (fun _ h9 => h9) rfl dX7_party_63 ?_
        refine lv_dup hx hb dX7_party_66 rfl ?_
        refine va_get (D := (dC, dI)) (ci := 1) (v := .int (v_10 (13) 0)) (C := RX1) (T := TX1) (N := 7) hx hb hts iwX7_party_X1 hown hK hP (13) (wl_at (by omega) (ce_3 (by decide))) rfl 0 (by decide) (hts (.fieldLink RX7 41 "QuietStairs$House" "partyCount" "I") fwX7_party_2) (fun _ h9 => h9) rfl dX7_party_67 ?_
        refine lv_topi (fun x_11 ex_11 => ?_)
        rw [ev_10, upr_n (by omega)] at ex_11
        rw [ev_9, upr_n (by omega)] at ex_11
        rw [← ex_5] at ex_11; replace ex_11 := ex_11.symm; subst ex_11
        refine lv_dup_x1 hx hb dX7_party_70 rfl rfl ?_
        refine lv_iconst (v := 1) hx hb dX7_party_71 (by decide) ?_
        have k_1 : (1 : Int32).toInt = 1 := by decide
        refine lv_iadd hx hb dX7_party_72 ?_
        refine lv_topi (fun x_12 ex_12 => ?_)
        have tx_12 : x_12.toInt = x_5.toInt + (1 : Int32).toInt := by rw [ex_12]; exact t_add ⟨by omega, by omega⟩
        refine va_put (D := (dC, dI)) (ci := 1) (v := .int x_12) (ty := .int) (C := RX1) (T := TX1) (N := 7) hx hb hts iwX7_party_X1 tyX1 tyX1_ok nmX1 hown hK hP hD hS (13) (wl_at (by omega) (ce_3 (by decide))) rfl 0 (by decide) (hts (.fieldLink RX7 41 "QuietStairs$House" "partyCount" "I") fwX7_party_2) (fun _ h9 => h9) rfl (by decide +kernel) rfl rfl (Nat.le_of_ble_eq_true rfl) dX7_party_73 (fun H locs hP hD hS => ?_)
        obtain ⟨v_13, ev_13⟩ : ∃ u : Nat → Nat → Int32, u = upr v_10 (13) (upd (v_10 (13)) 0 x_12) := ⟨_, rfl⟩
        have hP : va_P (dC, dI) vwCl (wl ad kv cy N v_13) H := by rw [ev_13, ← wl_put (e := _) (ce_3 (by decide))]; exact hP
        have hD : va_D A (wl ad kv cy N v_13) := by rw [ev_13, ← wl_put (e := _) (ce_3 (by decide))]; exact hD
        have hv : Iv v_13 := by rw [ev_13]; exact hv.put (K := 3) (by decide) (fun h q => by cases q; exact ⟨by omega, by omega⟩)
        have hfr : Ft v v_13 := trivial
        exact W.iret (v := x_5) hx hb hr (fun t ht hW => ⟨⟨x_5, v_13, rfl, ⟨hv, Or.inr (Or.inr ⟨⟨⟨by omega, by omega⟩, by omega, by omega⟩, by rw [← ex_5]; omega, ex_5, by rw [ev_13, upr_s, pk_us, ex_12, ex_5], by rw [ev_13, upr_s, pk_un (by decide), ev_10, upr_n (by omega), ev_9, upr_n (by omega)], by rw [ev_13, upr_n (by omega), ev_10, upr_n (by omega), ev_9, upr_n (by omega)], by rw [ev_13, upr_n (by omega), ev_10, upr_n (by omega), ev_9, upr_n (by omega)], by rw [ev_13, upr_n (by omega), ev_10, upr_n (by omega), ev_9, upr_n (by omega)]⟩)⟩, by rw [ht]; exact hP, hD⟩, hS.F ht⟩) hS.2.2 dX7_party_76
      · have tc_6 : x_5.toInt ≥ (8 : Int32).toInt := Int32.le_iff_toInt_le.mp (Int32.not_lt.mp c_6)
        refine lv_bipush (v := (-2)) hx hb dX7_party_33 (by decide) ?_
        exact W.iret (v := (-2)) hx hb hr (fun t ht hW => ⟨⟨(-2), v, rfl, ⟨hv, Or.inr (Or.inl ⟨⟨⟨by omega, by omega⟩, by omega, by omega⟩, by rw [← ex_5]; omega, rfl, rfl⟩)⟩, by rw [ht]; exact hP, hD⟩, hS.F ht⟩) hS.2.2 dX7_party_35
    · have k_2 : (2 : Int32).toInt = 2 := by decide
      have tc_4 : ¬ ((0 : Int32).toInt ≤ x1.toInt ∧ x1.toInt ≤ (2 : Int32).toInt) := fun q => hc_4 ⟨Int32.le_iff_toInt_le.mpr q.1, Int32.le_iff_toInt_le.mpr q.2⟩
      refine lv_if_ne (tgt := 21) hx hb dX7_party_16 (by decide) (fun c9 => absurd c9 (by decide)) (fun _ => ?_)
      refine lv_iconst (v := (-1)) hx hb dX7_party_19 (by decide) ?_
      exact W.iret (v := (-1)) hx hb hr (fun t ht hW => ⟨⟨(-1), v, rfl, ⟨hv, Or.inl ⟨by omega, rfl, rfl⟩⟩, by rw [ht]; exact hP, hD⟩, hS.F ht⟩) hS.2.2 dX7_party_20
  · have k_0 : (0 : Int32).toInt = 0 := by decide
    have k_9 : (9 : Int32).toInt = 9 := by decide
    have tc_2 : ¬ ((0 : Int32).toInt ≤ x0.toInt ∧ x0.toInt ≤ (9 : Int32).toInt) := fun q => hc_2 ⟨Int32.le_iff_toInt_le.mpr q.1, Int32.le_iff_toInt_le.mpr q.2⟩
    refine lv_if_eq (tgt := 19) hx hb dX7_party_7 (by decide) (fun _ => ?_) (fun c9 => absurd c9 (by decide))
    refine lv_iconst (v := (-1)) hx hb dX7_party_19 (by decide) ?_
    exact W.iret (v := (-1)) hx hb hr (fun t ht hW => ⟨⟨(-1), v, rfl, ⟨hv, Or.inl ⟨by omega, rfl, rfl⟩⟩, by rw [ht]; exact hP, hD⟩, hS.F ht⟩) hS.2.2 dX7_party_20

set_option maxHeartbeats 4000000 in
set_option maxRecDepth 100000 in
theorem h_X7_mediator (l : Launch) (dC : Nat → ClassId) (dI : Nat → Nat → Nat) (cy : Nat → ClassId) (sz : Nat) (ad : Nat → Nat) (kv : Value) (N : Nat) (hN : 119 ≤ N) (v : Nat → Nat → Int32) (hv : Iv v) (x0 x1 : Int32) : Met l yX7_mediator wsX7_mediator ({ frames := 1, cells := 0, slots := 0, locals := 64 }) (va_Pc [.ref (ad 0), .int x0, .int x1] (ex_Pre dC dI cy sz (wl ad kv cy N v))) (va_Qi (fun (r : Int32) (u : Nat → Nat → Int32) => Iv u ∧ ((¬ ((0 ≤ x0.toInt ∧ x0.toInt ≤ 9) ∧ 1 ≤ x1.toInt ∧ x1.toInt ≤ 7) ∧ r = -1 ∧ u = v) ∨ (((0 ≤ x0.toInt ∧ x0.toInt ≤ 9) ∧ 1 ≤ x1.toInt ∧ x1.toInt ≤ 7) ∧ 4 ≤ (v 13 1).toInt ∧ r = -2 ∧ u = v) ∨ (((0 ≤ x0.toInt ∧ x0.toInt ≤ 9) ∧ 1 ≤ x1.toInt ∧ x1.toInt ≤ 7) ∧ (v 13 1).toInt < 4 ∧ r = v 13 1 ∧ u 13 1 = v 13 1 + 1 ∧ u 13 0 = v 13 0 ∧ u 0 4 = v 0 4 ∧ u 119 0 = v 119 0 ∧ u 119 1 = v 119 1))) (fun u t => ex_Pst dC dI (va_A (wl ad kv cy N v) sz) (wl ad kv cy N u) t) (va_A (wl ad kv cy N v) sz)) 0 0 (va_A (wl ad kv cy N v) sz) := by
  refine Met.ofW (cc := cX7_mediator) (maxL := 4) (ret := (some .int)) (by decide) rfl ?_
  intro p e s m args below meth c s₁ B hml hv
  obtain ⟨rfl, hsz, hE, hP, hK, hD0⟩ := hv
  have hx := B.exec
  have hb := B.bytes
  have hr := B.returns
  have hts := atoms_spec (ws := wsX7_mediator) B.pre
  have hown : s.vm.findClass RX7 = some m.cls := findClass_of_methodNamed B.named
  have hlocks := B.notSynchronized
  subst hsz
  have hD := hD0.self (sz := s.heap.size)
  generalize hAe : va_A (wl ad kv cy N v) s.heap.size = A at hD ⊢
  have hA : ∀ q : Nat, s.heap.size ≤ q → A q := fun q h => by rw [← hAe]; exact Or.inr h
  have hS : va_S A s.heap s.heap [] := va_S.rf
  have hP : va_P (dC, dI) vwCl (wl ad kv cy N v) s.heap := hP
  have hl := lv_entry ([.ref (ad 0), .int x0, .int x1]) (n := 4) (Nat.le_of_ble_eq_true rfl)
  rw [lg_entry_eq]
  generalize (lg_sl ([.ref (ad 0), .int x0, .int x1]) ++ List.replicate (4 - (lg_sl ([.ref (ad 0), .int x0, .int x1])).length) Slot.unset).toArray = ls at hl ⊢
  have hl : lv_has ls 4 [(0, .ref (ad 0)), (1, .int x0), (2, .int x1)] := hl
  have hfr : Ft v v := Ft.rf
  refine lv_iload_n hx hb dX7_mediator_0 rfl (lv_at hl 1 rfl) ?_
  refine lv_iconst (v := 0) hx hb dX7_mediator_1 (by decide) ?_
  refine lv_bipush (v := 9) hx hb dX7_mediator_2 (by decide) ?_
  refine yc_p hP hS (va_runS (As := [.int x0, .int 0, .int 9]) (rest := []) ⟨hx, hb, hml, hown, hts⟩ (c_X7_isWithin l x0 0 9) (cwS 3 hts gX7_mediator_X7_isWithin rfl rfl rfl hd_S_X7_isWithin_3 ⟨Nat.le_of_ble_eq_true rfl, Nat.le_of_ble_eq_true rfl⟩) ex_preP rfl rfl hl.1 rfl (lv_room (Nat.le_of_ble_eq_true rfl)) dX7_mediator_4 ⟨Nat.le_of_ble_eq_true rfl, Nat.le_of_ble_eq_true rfl⟩) (fun r_1 H locs hw_1 hP hS => ?_)
  rcases wi_ca hw_1 with ⟨rfl, hc_2⟩ | ⟨rfl, hc_2⟩
  · have k_0 : (0 : Int32).toInt = 0 := by decide
    have k_9 : (9 : Int32).toInt = 9 := by decide
    have tc_2 := wi_tl hc_2
    refine lv_if_eq (tgt := 20) hx hb dX7_mediator_7 (by decide) (fun c9 => absurd c9 (by decide)) (fun _ => ?_)
    refine lv_iload_n hx hb dX7_mediator_10 rfl (lv_at hl 2 rfl) ?_
    refine lv_iconst (v := 1) hx hb dX7_mediator_11 (by decide) ?_
    refine lv_bipush (v := 7) hx hb dX7_mediator_12 (by decide) ?_
    refine yc_p hP hS (va_runS (As := [.int x1, .int 1, .int 7]) (rest := []) ⟨hx, hb, hml, hown, hts⟩ (c_X7_isWithin l x1 1 7) (cwS 3 hts gX7_mediator_X7_isWithin rfl rfl rfl hd_S_X7_isWithin_3 ⟨Nat.le_of_ble_eq_true rfl, Nat.le_of_ble_eq_true rfl⟩) ex_preP rfl rfl hl.1 rfl (lv_room (Nat.le_of_ble_eq_true rfl)) dX7_mediator_14 ⟨Nat.le_of_ble_eq_true rfl, Nat.le_of_ble_eq_true rfl⟩) (fun r_3 H locs hw_3 hP hS => ?_)
    rcases wi_ca hw_3 with ⟨rfl, hc_4⟩ | ⟨rfl, hc_4⟩
    · have k_1 : (1 : Int32).toInt = 1 := by decide
      have k_7 : (7 : Int32).toInt = 7 := by decide
      have tc_4 := wi_tl hc_4
      refine lv_if_ne (tgt := 22) hx hb dX7_mediator_17 (by decide) (fun _ => ?_) (fun c9 => absurd c9 (by decide))
      refine lv_aload_n hx hb dX7_mediator_22 rfl (lv_at hl 0 rfl) ?_
      refine va_get (D := (dC, dI)) (ci := 7) (v := .ref (ad 13)) (C := RX7) (T := TX7) (N := 5) hx hb hts iwX7_mediator_X7 hown hK hP (0) (wl_at (by omega) (ce_0 (by decide))) rfl 0 (by decide) (hts (.fieldLink RX7 12 "QuietStairs" "now" "LQuietStairs$House;") fwX7_mediator_1) (fun _ h9 => h9) rfl dX7_mediator_23 ?_
      refine va_get (D := (dC, dI)) (ci := 1) (v := .int (v (13) 1)) (C := RX1) (T := TX1) (N := 7) hx hb hts iwX7_mediator_X1 hown hK hP (13) (wl_at (by omega) (ce_3 (by decide))) rfl 1 (by decide) (hts (.fieldLink RX7 56 "QuietStairs$House" "mediatorCount" "I") fwX7_mediator_2) (fun _ h9 => h9) rfl dX7_mediator_26 ?_
      refine lv_topi (fun x_5 ex_5 => ?_)
      have bx_5 : 0 ≤ x_5.toInt ∧ x_5.toInt ≤ 4 := by rw [ex_5]; exact hv.at (K := 3) (by decide) rfl
      refine lv_iconst (v := 4) hx hb dX7_mediator_29 (by decide) ?_
      have k_4 : (4 : Int32).toInt = 4 := by decide
      refine lv_icmp_lt (tgt := 36) hx hb dX7_mediator_30 (by decide) (fun c_6 => ?_) (fun c_6 => ?_)
      · have tc_6 : x_5.toInt < (4 : Int32).toInt := Int32.lt_iff_toInt_lt.mp c_6
        refine lv_aload_n hx hb dX7_mediator_36 rfl (lv_at hl 0 rfl) ?_
        refine va_get (D := (dC, dI)) (ci := 7) (v := .ref (ad 13)) (C := RX7) (T := TX7) (N := 5) hx hb hts iwX7_mediator_X7 hown hK hP (0) (wl_at (by omega) (ce_0 (by decide))) rfl 0 (by decide) (hts (.fieldLink RX7 12 "QuietStairs" "now" "LQuietStairs$House;") fwX7_mediator_1) (fun _ h9 => h9) rfl dX7_mediator_37 ?_
        refine va_get (D := (dC, dI)) (ci := 1) (v := .ref (ad 15)) (C := RX1) (T := TX1) (N := 7) hx hb hts iwX7_mediator_X1 hown hK hP (13) (wl_at (by omega) (ce_3 (by decide))) rfl 5 (by decide) (hts (.fieldLink RX7 59 "QuietStairs$House" "mediators" "[LQuietStairs$Mediator;") fwX7_mediator_3) (fun _ h9 => h9) rfl dX7_mediator_40 ?_
        refine lv_aload_n hx hb dX7_mediator_43 rfl (lv_at hl 0 rfl) ?_
        refine va_get (D := (dC, dI)) (ci := 7) (v := .ref (ad 13)) (C := RX7) (T := TX7) (N := 5) hx hb hts iwX7_mediator_X7 hown hK hP (0) (wl_at (by omega) (ce_0 (by decide))) rfl 0 (by decide) (hts (.fieldLink RX7 12 "QuietStairs" "now" "LQuietStairs$House;") fwX7_mediator_1) (fun _ h9 => h9) rfl dX7_mediator_44 ?_
        refine va_get (D := (dC, dI)) (ci := 1) (v := .int (v (13) 1)) (C := RX1) (T := TX1) (N := 7) hx hb hts iwX7_mediator_X1 hown hK hP (13) (wl_at (by omega) (ce_3 (by decide))) rfl 1 (by decide) (hts (.fieldLink RX7 56 "QuietStairs$House" "mediatorCount" "I") fwX7_mediator_2) (fun _ h9 => h9) rfl dX7_mediator_47 ?_
        refine lv_topi (fun x_7 ex_7 => ?_)
        rw [← ex_5] at ex_7; replace ex_7 := ex_7.symm; subst ex_7
        obtain ⟨pi8, i8, hi8, ni8, mi8⟩ := t_in (x := x_5) (n := 4) ⟨by omega, by omega⟩
        refine va_aldq hx hb hK hP (15) 2 (wl_at (by omega) (ce_5 (by decide))) rfl pi8 dX7_mediator_50 ?_
        refine W.eq (g2 := F0 m 51 ls [.ref (ad (25 + i8))]) (by rw [ni8, if_pos hi8, show 15 + 10 + i8 = 25 + i8 from by omega]; rfl) ?_
        refine lv_astore_n (lv' := [(3, .ref (ad (25 + i8))), (0, .ref (ad 0)), (1, .int x0), (2, .int x1)]) hx hb dX7_mediator_51 rfl hl (by decide) rfl (fun ls hl => ?_)
        refine lv_aload_n hx hb dX7_mediator_52 rfl (lv_at hl 0 rfl) ?_
        refine lv_iload_n hx hb dX7_mediator_53 rfl (lv_at hl 2 rfl) ?_
        refine va_put (D := (dC, dI)) (ci := 2) (v := .int x0) (ty := .int) (C := RX2) (T := TX2) (N := 3) hx hb hts iwX7_mediator_X2 tyX2 tyX2_ok nmX2 hown hK hP hD hS (25 + i8) (wl_at (by omega) (ce_8 (kd_m i8 hi8).1)) rfl 0 (by decide) (hts (.fieldLink RX7 63 "QuietStairs$Mediator" "floor" "I") fwX7_mediator_4) (fun _ h9 => h9) rfl (by decide +kernel) rfl rfl (Nat.le_of_ble_eq_true rfl) dX7_mediator_54 (fun H locs hP hD hS => ?_)
        obtain ⟨v_9, ev_9⟩ : ∃ u : Nat → Nat → Int32, u = upr v (25 + i8) (upd (v (25 + i8)) 0 x0) := ⟨_, rfl⟩
        have hP : va_P (dC, dI) vwCl (wl ad kv cy N v_9) H := by rw [ev_9, ← wl_put (e := _) (ce_8 (kd_m i8 hi8).1)]; exact hP
        have hD : va_D A (wl ad kv cy N v_9) := by rw [ev_9, ← wl_put (e := _) (ce_8 (kd_m i8 hi8).1)]; exact hD
        have hv : Iv v_9 := by rw [ev_9]; exact hv.put (K := 8) (kd_m i8 hi8).1 (fun h q => by simp [bd] at q)
        have hfr : Ft v v_9 := trivial
        refine lv_aload_n hx hb dX7_mediator_57 rfl (lv_at hl 0 rfl) ?_
        refine lv_iload_n hx hb dX7_mediator_58 rfl (lv_at hl 3 rfl) ?_
        refine va_put (D := (dC, dI)) (ci := 2) (v := .int x1) (ty := .int) (C := RX2) (T := TX2) (N := 3) hx hb hts iwX7_mediator_X2 tyX2 tyX2_ok nmX2 hown hK hP hD hS (25 + i8) (wl_at (by omega) (ce_8 (kd_m i8 hi8).1)) rfl 1 (by decide) (hts (.fieldLink RX7 66 "QuietStairs$Mediator" "tongues" "I") fwX7_mediator_5) (fun _ h9 => h9) rfl (by decide +kernel) rfl rfl (Nat.le_of_ble_eq_true rfl) dX7_mediator_59 (fun H locs hP hD hS => ?_)
        obtain ⟨v_10, ev_10⟩ : ∃ u : Nat → Nat → Int32, u = upr v_9 (25 + i8) (upd (v_9 (25 + i8)) 1 x1) := ⟨_, rfl⟩
        have hP : va_P (dC, dI) vwCl (wl ad kv cy N v_10) H := by rw [ev_10, ← wl_put (e := _) (ce_8 (kd_m i8 hi8).1)]; exact hP
        have hD : va_D A (wl ad kv cy N v_10) := by rw [ev_10, ← wl_put (e := _) (ce_8 (kd_m i8 hi8).1)]; exact hD
        have hv : Iv v_10 := by rw [ev_10]; exact hv.put (K := 8) (kd_m i8 hi8).1 (fun h q => by simp [bd] at q)
        have hfr : Ft v v_10 := trivial
        refine lv_aload_n hx hb dX7_mediator_62 rfl (lv_at hl 0 rfl) ?_
        refine lv_iconst (v := 0) hx hb dX7_mediator_63 (by decide) ?_
        refine va_put (D := (dC, dI)) (ci := 2) (v := .int 0) (ty := .int) (C := RX2) (T := TX2) (N := 3) hx hb hts iwX7_mediator_X2 tyX2 tyX2_ok nmX2 hown hK hP hD hS (25 + i8) (wl_at (by omega) (ce_8 (kd_m i8 hi8).1)) rfl 2 (by decide) (hts (.fieldLink RX7 69 "QuietStairs$Mediator" "kinBits" "I") fwX7_mediator_6) (fun _ h9 => h9) rfl (by decide +kernel) rfl rfl (Nat.le_of_ble_eq_true rfl) dX7_mediator_64 (fun H locs hP hD hS => ?_)
        obtain ⟨v_11, ev_11⟩ : ∃ u : Nat → Nat → Int32, u = upr v_10 (25 + i8) (upd (v_10 (25 + i8)) 2 0) := ⟨_, rfl⟩
        have hP : va_P (dC, dI) vwCl (wl ad kv cy N v_11) H := by rw [ev_11, ← wl_put (e := _) (ce_8 (kd_m i8 hi8).1)]; exact hP
        have hD : va_D A (wl ad kv cy N v_11) := by rw [ev_11, ← wl_put (e := _) (ce_8 (kd_m i8 hi8).1)]; exact hD
        have hv : Iv v_11 := by rw [ev_11]; exact hv.put (K := 8) (kd_m i8 hi8).1 (fun h q => by simp [bd] at q)
        have hfr : Ft v v_11 := trivial
        refine lv_aload_n hx hb dX7_mediator_67 rfl (lv_at hl 1 rfl) ?_
        refine va_get (D := (dC, dI)) (ci := 7) (v := .ref (ad 13)) (C := RX7) (T := TX7) (N := 5) hx hb hts iwX7_mediator_X7 hown hK hP (0) (wl_at (by omega) (ce_0 (by decide))) rfl 0 (by decide) (hts (.fieldLink RX7 12 "QuietStairs" "now" "LQuietStairs$House;") fwX7_mediator_1) (fun _ h9 => h9) rfl dX7_mediator_68 ?_
        refine lv_dup hx hb dX7_mediator_71 rfl ?_
        refine va_get (D := (dC, dI)) (ci := 1) (v := .int (v_11 (13) 1)) (C := RX1) (T := TX1) (N := 7) hx hb hts iwX7_mediator_X1 hown hK hP (13) (wl_at (by omega) (ce_3 (by decide))) rfl 1 (by decide) (hts (.fieldLink RX7 56 "QuietStairs$House" "mediatorCount" "I") fwX7_mediator_2) (fun _ h9 => h9) rfl dX7_mediator_72 ?_
        refine lv_topi (fun x_12 ex_12 => ?_)
        rw [ev_11, upr_n (by omega)] at ex_12
        rw [ev_10, upr_n (by omega)] at ex_12
        rw [ev_9, upr_n (by omega)] at ex_12
        rw [← ex_5] at ex_12; replace ex_12 := ex_12.symm; subst ex_12
        refine lv_dup_x1 hx hb dX7_mediator_75 rfl rfl ?_
        refine lv_iconst (v := 1) hx hb dX7_mediator_76 (by decide) ?_
        refine lv_iadd hx hb dX7_mediator_77 ?_
        refine lv_topi (fun x_13 ex_13 => ?_)
        have tx_13 : x_13.toInt = x_5.toInt + (1 : Int32).toInt := by rw [ex_13]; exact t_add ⟨by omega, by omega⟩
        refine va_put (D := (dC, dI)) (ci := 1) (v := .int x_13) (ty := .int) (C := RX1) (T := TX1) (N := 7) hx hb hts iwX7_mediator_X1 tyX1 tyX1_ok nmX1 hown hK hP hD hS (13) (wl_at (by omega) (ce_3 (by decide))) rfl 1 (by decide) (hts (.fieldLink RX7 56 "QuietStairs$House" "mediatorCount" "I") fwX7_mediator_2) (fun _ h9 => h9) rfl (by decide +kernel) rfl rfl (Nat.le_of_ble_eq_true rfl) dX7_mediator_78 (fun H locs hP hD hS => ?_)
        obtain ⟨v_14, ev_14⟩ : ∃ u : Nat → Nat → Int32, u = upr v_11 (13) (upd (v_11 (13)) 1 x_13) := ⟨_, rfl⟩
        have hP : va_P (dC, dI) vwCl (wl ad kv cy N v_14) H := by rw [ev_14, ← wl_put (e := _) (ce_3 (by decide))]; exact hP
        have hD : va_D A (wl ad kv cy N v_14) := by rw [ev_14, ← wl_put (e := _) (ce_3 (by decide))]; exact hD
        have hv : Iv v_14 := by rw [ev_14]; exact hv.put (K := 3) (by decide) (fun h q => by cases q; exact ⟨by omega, by omega⟩)
        have hfr : Ft v v_14 := trivial
        exact W.iret (v := x_5) hx hb hr (fun t ht hW => ⟨⟨x_5, v_14, rfl, ⟨hv, Or.inr (Or.inr ⟨⟨⟨by omega, by omega⟩, by omega, by omega⟩, by rw [← ex_5]; omega, ex_5, by rw [ev_14, upr_s, pk_us, ex_13, ex_5], by rw [ev_14, upr_s, pk_un (by decide), ev_11, upr_n (by omega), ev_10, upr_n (by omega), ev_9, upr_n (by omega)], by rw [ev_14, upr_n (by omega), ev_11, upr_n (by omega), ev_10, upr_n (by omega), ev_9, upr_n (by omega)], by rw [ev_14, upr_n (by omega), ev_11, upr_n (by omega), ev_10, upr_n (by omega), ev_9, upr_n (by omega)], by rw [ev_14, upr_n (by omega), ev_11, upr_n (by omega), ev_10, upr_n (by omega), ev_9, upr_n (by omega)]⟩)⟩, by rw [ht]; exact hP, hD⟩, hS.F ht⟩) hS.2.2 dX7_mediator_81
      · have tc_6 : x_5.toInt ≥ (4 : Int32).toInt := Int32.le_iff_toInt_le.mp (Int32.not_lt.mp c_6)
        refine lv_bipush (v := (-2)) hx hb dX7_mediator_33 (by decide) ?_
        exact W.iret (v := (-2)) hx hb hr (fun t ht hW => ⟨⟨(-2), v, rfl, ⟨hv, Or.inr (Or.inl ⟨⟨⟨by omega, by omega⟩, by omega, by omega⟩, by rw [← ex_5]; omega, rfl, rfl⟩)⟩, by rw [ht]; exact hP, hD⟩, hS.F ht⟩) hS.2.2 dX7_mediator_35
    · have k_1 : (1 : Int32).toInt = 1 := by decide
      have k_7 : (7 : Int32).toInt = 7 := by decide
      have tc_4 : ¬ ((1 : Int32).toInt ≤ x1.toInt ∧ x1.toInt ≤ (7 : Int32).toInt) := fun q => hc_4 ⟨Int32.le_iff_toInt_le.mpr q.1, Int32.le_iff_toInt_le.mpr q.2⟩
      refine lv_if_ne (tgt := 22) hx hb dX7_mediator_17 (by decide) (fun c9 => absurd c9 (by decide)) (fun _ => ?_)
      refine lv_iconst (v := (-1)) hx hb dX7_mediator_20 (by decide) ?_
      exact W.iret (v := (-1)) hx hb hr (fun t ht hW => ⟨⟨(-1), v, rfl, ⟨hv, Or.inl ⟨by omega, rfl, rfl⟩⟩, by rw [ht]; exact hP, hD⟩, hS.F ht⟩) hS.2.2 dX7_mediator_21
  · have k_0 : (0 : Int32).toInt = 0 := by decide
    have k_9 : (9 : Int32).toInt = 9 := by decide
    have tc_2 : ¬ ((0 : Int32).toInt ≤ x0.toInt ∧ x0.toInt ≤ (9 : Int32).toInt) := fun q => hc_2 ⟨Int32.le_iff_toInt_le.mpr q.1, Int32.le_iff_toInt_le.mpr q.2⟩
    refine lv_if_eq (tgt := 20) hx hb dX7_mediator_7 (by decide) (fun _ => ?_) (fun c9 => absurd c9 (by decide))
    refine lv_iconst (v := (-1)) hx hb dX7_mediator_20 (by decide) ?_
    exact W.iret (v := (-1)) hx hb hr (fun t ht hW => ⟨⟨(-1), v, rfl, ⟨hv, Or.inl ⟨by omega, rfl, rfl⟩⟩, by rw [ht]; exact hP, hD⟩, hS.F ht⟩) hS.2.2 dX7_mediator_21

set_option maxHeartbeats 4000000 in
set_option maxRecDepth 100000 in
theorem h_X7_rooms (l : Launch) (dC : Nat → ClassId) (dI : Nat → Nat → Nat) (cy : Nat → ClassId) (sz : Nat) (ad : Nat → Nat) (kv : Value) (N : Nat) (hN : 119 ≤ N) (v : Nat → Nat → Int32) (hv : Iv v) (x0 : Int32) : Met l yX7_rooms wsX7_rooms ({ frames := 1, cells := 0, slots := 0, locals := 64 }) (va_Pc [.ref (ad 0), .int x0] (ex_Pre dC dI cy sz (wl ad kv cy N v))) (va_Qi (fun (r : Int32) (u : Nat → Nat → Int32) => Iv u ∧ ((¬ (1 ≤ x0.toInt ∧ x0.toInt ≤ 2) ∧ r = -1 ∧ u = v) ∨ ((1 ≤ x0.toInt ∧ x0.toInt ≤ 2) ∧ r = v 0 4 ∧ u 0 4 = x0 ∧ u 13 = v 13 ∧ u 119 = v 119))) (fun u t => ex_Pst dC dI (va_A (wl ad kv cy N v) sz) (wl ad kv cy N u) t) (va_A (wl ad kv cy N v) sz)) 0 0 (va_A (wl ad kv cy N v) sz) := by
  refine Met.ofW (cc := cX7_rooms) (maxL := 3) (ret := (some .int)) (by decide) rfl ?_
  intro p e s m args below meth c s₁ B hml hv
  obtain ⟨rfl, hsz, hE, hP, hK, hD0⟩ := hv
  have hx := B.exec
  have hb := B.bytes
  have hr := B.returns
  have hts := atoms_spec (ws := wsX7_rooms) B.pre
  have hown : s.vm.findClass RX7 = some m.cls := findClass_of_methodNamed B.named
  have hlocks := B.notSynchronized
  subst hsz
  have hD := hD0.self (sz := s.heap.size)
  generalize hAe : va_A (wl ad kv cy N v) s.heap.size = A at hD ⊢
  have hA : ∀ q : Nat, s.heap.size ≤ q → A q := fun q h => by rw [← hAe]; exact Or.inr h
  have hS : va_S A s.heap s.heap [] := va_S.rf
  have hP : va_P (dC, dI) vwCl (wl ad kv cy N v) s.heap := hP
  have hl := lv_entry ([.ref (ad 0), .int x0]) (n := 3) (Nat.le_of_ble_eq_true rfl)
  rw [lg_entry_eq]
  generalize (lg_sl ([.ref (ad 0), .int x0]) ++ List.replicate (3 - (lg_sl ([.ref (ad 0), .int x0])).length) Slot.unset).toArray = ls at hl ⊢
  have hl : lv_has ls 3 [(0, .ref (ad 0)), (1, .int x0)] := hl
  have hfr : Ft v v := Ft.rf
  refine lv_iload_n hx hb dX7_rooms_0 rfl (lv_at hl 1 rfl) ?_
  refine lv_iconst (v := 1) hx hb dX7_rooms_1 (by decide) ?_
  refine lv_iconst (v := 2) hx hb dX7_rooms_2 (by decide) ?_
  refine yc_p hP hS (va_runS (As := [.int x0, .int 1, .int 2]) (rest := []) ⟨hx, hb, hml, hown, hts⟩ (c_X7_isWithin l x0 1 2) (cwS 3 hts gX7_rooms_X7_isWithin rfl rfl rfl hd_S_X7_isWithin_3 ⟨Nat.le_of_ble_eq_true rfl, Nat.le_of_ble_eq_true rfl⟩) ex_preP rfl rfl hl.1 rfl (lv_room (Nat.le_of_ble_eq_true rfl)) dX7_rooms_3 ⟨Nat.le_of_ble_eq_true rfl, Nat.le_of_ble_eq_true rfl⟩) (fun r_1 H locs hw_1 hP hS => ?_)
  rcases wi_ca hw_1 with ⟨rfl, hc_2⟩ | ⟨rfl, hc_2⟩
  · have k_1 : (1 : Int32).toInt = 1 := by decide
    have k_2 : (2 : Int32).toInt = 2 := by decide
    have tc_2 := wi_tl hc_2
    refine lv_if_ne (tgt := 11) hx hb dX7_rooms_6 (by decide) (fun _ => ?_) (fun c9 => absurd c9 (by decide))
    refine lv_aload_n hx hb dX7_rooms_11 rfl (lv_at hl 0 rfl) ?_
    refine va_get (D := (dC, dI)) (ci := 7) (v := .int (v (0) 4)) (C := RX7) (T := TX7) (N := 5) hx hb hts iwX7_rooms_X7 hown hK hP (0) (wl_at (by omega) (ce_0 (by decide))) rfl 4 (by decide) (hts (.fieldLink RX7 33 "QuietStairs" "roomCount" "I") fwX7_rooms_1) (fun _ h9 => h9) rfl dX7_rooms_12 ?_
    refine lv_topi (fun x_3 ex_3 => ?_)
    refine lv_istore_n (lv' := [(2, .int x_3), (0, .ref (ad 0)), (1, .int x0)]) hx hb dX7_rooms_15 rfl hl (by decide) rfl (fun ls hl => ?_)
    refine lv_aload_n hx hb dX7_rooms_16 rfl (lv_at hl 1 rfl) ?_
    refine lv_iload_n hx hb dX7_rooms_17 rfl (lv_at hl 2 rfl) ?_
    refine va_put (D := (dC, dI)) (ci := 7) (v := .int x0) (ty := .int) (C := RX7) (T := TX7) (N := 5) hx hb hts iwX7_rooms_X7 tyX7 tyX7_ok nmX7 hown hK hP hD hS (0) (wl_at (by omega) (ce_0 (by decide))) rfl 4 (by decide) (hts (.fieldLink RX7 33 "QuietStairs" "roomCount" "I") fwX7_rooms_1) (fun _ h9 => h9) rfl (by decide +kernel) rfl rfl (Nat.le_of_ble_eq_true rfl) dX7_rooms_18 (fun H locs hP hD hS => ?_)
    obtain ⟨v_4, ev_4⟩ : ∃ u : Nat → Nat → Int32, u = upr v (0) (upd (v (0)) 4 x0) := ⟨_, rfl⟩
    have hP : va_P (dC, dI) vwCl (wl ad kv cy N v_4) H := by rw [ev_4, ← wl_put (e := _) (ce_0 (by decide))]; exact hP
    have hD : va_D A (wl ad kv cy N v_4) := by rw [ev_4, ← wl_put (e := _) (ce_0 (by decide))]; exact hD
    have hv : Iv v_4 := by rw [ev_4]; exact hv.put (K := 0) (by decide) (fun h q => by simp [bd] at q)
    have hfr : Ft v v_4 := trivial
    refine lv_iload_n hx hb dX7_rooms_21 rfl (lv_at hl 0 rfl) ?_
    exact W.iret (v := x_3) hx hb hr (fun t ht hW => ⟨⟨x_3, v_4, rfl, ⟨hv, Or.inr ⟨⟨by omega, by omega⟩, ex_3, by rw [ev_4, upr_s, pk_us], by rw [ev_4, upr_n (by decide)], by rw [ev_4, upr_n (by decide)]⟩⟩, by rw [ht]; exact hP, hD⟩, hS.F ht⟩) hS.2.2 dX7_rooms_22
  · have k_1 : (1 : Int32).toInt = 1 := by decide
    have k_2 : (2 : Int32).toInt = 2 := by decide
    have tc_2 : ¬ ((1 : Int32).toInt ≤ x0.toInt ∧ x0.toInt ≤ (2 : Int32).toInt) := fun q => hc_2 ⟨Int32.le_iff_toInt_le.mpr q.1, Int32.le_iff_toInt_le.mpr q.2⟩
    refine lv_if_ne (tgt := 11) hx hb dX7_rooms_6 (by decide) (fun c9 => absurd c9 (by decide)) (fun _ => ?_)
    refine lv_iconst (v := (-1)) hx hb dX7_rooms_9 (by decide) ?_
    exact W.iret (v := (-1)) hx hb hr (fun t ht hW => ⟨⟨(-1), v, rfl, ⟨hv, Or.inl ⟨by omega, rfl, rfl⟩⟩, by rw [ht]; exact hP, hD⟩, hS.F ht⟩) hS.2.2 dX7_rooms_10

/-- the counts of one House are copied to the other -/
def Fc (d s : Nat) (v u : Nat → Nat → Int32) : Prop := u d 0 = v s 0 ∧ u d 1 = v s 1 ∧ u s 0 = v s 0 ∧ u s 1 = v s 1 ∧ u 0 4 = v 0 4
abbrev Fa (v u : Nat → Nat → Int32) : Prop := Fc 13 119 v u
abbrev Fb (v u : Nat → Nat → Int32) : Prop := Fc 119 13 v u
theorem Fc.transa {v u w : Nat → Nat → Int32} (h : Fa v u) (g : Fr u w) : Fa v w := ⟨g.1.trans h.1, g.2.1.trans h.2.1, g.2.2.2.1.trans h.2.2.1, g.2.2.2.2.trans h.2.2.2.1, g.2.2.1.trans h.2.2.2.2⟩
theorem Fc.transb {v u w : Nat → Nat → Int32} (h : Fb v u) (g : Fr u w) : Fb v w := ⟨g.2.2.2.1.trans h.1, g.2.2.2.2.trans h.2.1, g.1.trans h.2.2.1, g.2.1.trans h.2.2.2.1, g.2.2.1.trans h.2.2.2.2⟩

set_option maxHeartbeats 4000000 in
set_option maxRecDepth 100000 in
theorem h_X1_copyFrom_a (l : Launch) (dC : Nat → ClassId) (dI : Nat → Nat → Nat) (cy : Nat → ClassId) (sz : Nat) (ad : Nat → Nat) (kv : Value) (N : Nat) (hN : 119 ≤ N) (v : Nat → Nat → Int32) (hv : Iv v)  (hN2 : 225 ≤ N) : Met l yX1_copyFrom wsX1_copyFrom ({ frames := 2, cells := 0, slots := 0, locals := 128 }) (va_Pc [.ref (ad 13), .ref (ad 119)] (ex_Pre dC dI cy sz (wl ad kv cy N v))) (va_Qv (fun (u : Nat → Nat → Int32) => Iv u ∧ Fa v u) (fun u t => ex_Pst dC dI (va_A (wl ad kv cy N v) sz) (wl ad kv cy N u) t) (va_A (wl ad kv cy N v) sz)) 0 0 (va_A (wl ad kv cy N v) sz) := by
  refine Met.ofW (cc := cX1_copyFrom) (maxL := 3) (ret := none) (by decide) rfl ?_
  intro p e s m args below meth c s₁ B hml hv
  obtain ⟨rfl, hsz, hE, hP, hK, hD0⟩ := hv
  have hx := B.exec
  have hb := B.bytes
  have hr := B.returns
  have hts := atoms_spec (ws := wsX1_copyFrom) B.pre
  have hown : s.vm.findClass RX1 = some m.cls := findClass_of_methodNamed B.named
  have hlocks := B.notSynchronized
  subst hsz
  have hD := hD0.self (sz := s.heap.size)
  generalize hAe : va_A (wl ad kv cy N v) s.heap.size = A at hD ⊢
  have hA : ∀ q : Nat, s.heap.size ≤ q → A q := fun q h => by rw [← hAe]; exact Or.inr h
  have hS : va_S A s.heap s.heap [] := va_S.rf
  have hP : va_P (dC, dI) vwCl (wl ad kv cy N v) s.heap := hP
  have hl := lv_entry ([.ref (ad 13), .ref (ad 119)]) (n := 3) (Nat.le_of_ble_eq_true rfl)
  rw [lg_entry_eq]
  generalize (lg_sl ([.ref (ad 13), .ref (ad 119)]) ++ List.replicate (3 - (lg_sl ([.ref (ad 13), .ref (ad 119)])).length) Slot.unset).toArray = ls at hl ⊢
  have hl : lv_has ls 3 [(0, .ref (ad 13)), (1, .ref (ad 119))] := hl
  have hfr : Ft v v := Ft.rf
  refine lv_aload_n hx hb dX1_copyFrom_0 rfl (lv_at hl 0 rfl) ?_
  refine lv_aload_n hx hb dX1_copyFrom_1 rfl (lv_at hl 1 rfl) ?_
  refine va_get (D := (dC, dI)) (ci := 1) (v := .int (v (119) 0)) (C := RX1) (T := TX1) (N := 7) hx hb hts iwX1_copyFrom_X1 hown hK hP (119) (wl_at (by omega) (ce_3 (by decide))) rfl 0 (by decide) (hts (.fieldLink RX1 88 "QuietStairs$House" "partyCount" "I") fwX1_copyFrom_1) (fun _ h9 => h9) rfl dX1_copyFrom_2 ?_
  refine lv_topi (fun x_1 ex_1 => ?_)
  have bx_1 : 0 ≤ x_1.toInt ∧ x_1.toInt ≤ 8 := by rw [ex_1]; exact hv.at (K := 3) (by decide) rfl
  refine va_put (D := (dC, dI)) (ci := 1) (v := .int x_1) (ty := .int) (C := RX1) (T := TX1) (N := 7) hx hb hts iwX1_copyFrom_X1 tyX1 tyX1_ok nmX1 hown hK hP hD hS (13) (wl_at (by omega) (ce_3 (by decide))) rfl 0 (by decide) (hts (.fieldLink RX1 88 "QuietStairs$House" "partyCount" "I") fwX1_copyFrom_1) (fun _ h9 => h9) rfl (by decide +kernel) rfl rfl (Nat.le_of_ble_eq_true rfl) dX1_copyFrom_5 (fun H locs hP hD hS => ?_)
  obtain ⟨v_2, ev_2⟩ : ∃ u : Nat → Nat → Int32, u = upr v (13) (upd (v (13)) 0 x_1) := ⟨_, rfl⟩
  have hP : va_P (dC, dI) vwCl (wl ad kv cy N v_2) H := by rw [ev_2, ← wl_put (e := _) (ce_3 (by decide))]; exact hP
  have hD : va_D A (wl ad kv cy N v_2) := by rw [ev_2, ← wl_put (e := _) (ce_3 (by decide))]; exact hD
  have hv : Iv v_2 := by rw [ev_2]; exact hv.put (K := 3) (by decide) (fun h q => by cases q; exact ⟨by omega, by omega⟩)
  refine lv_aload_n hx hb dX1_copyFrom_8 rfl (lv_at hl 0 rfl) ?_
  refine lv_aload_n hx hb dX1_copyFrom_9 rfl (lv_at hl 1 rfl) ?_
  refine va_get (D := (dC, dI)) (ci := 1) (v := .int (v_2 (119) 1)) (C := RX1) (T := TX1) (N := 7) hx hb hts iwX1_copyFrom_X1 hown hK hP (119) (wl_at (by omega) (ce_3 (by decide))) rfl 1 (by decide) (hts (.fieldLink RX1 36 "QuietStairs$House" "mediatorCount" "I") fwX1_copyFrom_2) (fun _ h9 => h9) rfl dX1_copyFrom_10 ?_
  refine lv_topi (fun x_3 ex_3 => ?_)
  have bx_3 : 0 ≤ x_3.toInt ∧ x_3.toInt ≤ 4 := by rw [ex_3]; exact hv.at (K := 3) (by decide) rfl
  refine va_put (D := (dC, dI)) (ci := 1) (v := .int x_3) (ty := .int) (C := RX1) (T := TX1) (N := 7) hx hb hts iwX1_copyFrom_X1 tyX1 tyX1_ok nmX1 hown hK hP hD hS (13) (wl_at (by omega) (ce_3 (by decide))) rfl 1 (by decide) (hts (.fieldLink RX1 36 "QuietStairs$House" "mediatorCount" "I") fwX1_copyFrom_2) (fun _ h9 => h9) rfl (by decide +kernel) rfl rfl (Nat.le_of_ble_eq_true rfl) dX1_copyFrom_13 (fun H locs hP hD hS => ?_)
  obtain ⟨v_4, ev_4⟩ : ∃ u : Nat → Nat → Int32, u = upr v_2 (13) (upd (v_2 (13)) 1 x_3) := ⟨_, rfl⟩
  have hP : va_P (dC, dI) vwCl (wl ad kv cy N v_4) H := by rw [ev_4, ← wl_put (e := _) (ce_3 (by decide))]; exact hP
  have hD : va_D A (wl ad kv cy N v_4) := by rw [ev_4, ← wl_put (e := _) (ce_3 (by decide))]; exact hD
  have hv : Iv v_4 := by rw [ev_4]; exact hv.put (K := 3) (by decide) (fun h q => by cases q; exact ⟨by omega, by omega⟩)
  refine lv_aload_n hx hb dX1_copyFrom_16 rfl (lv_at hl 0 rfl) ?_
  refine lv_aload_n hx hb dX1_copyFrom_17 rfl (lv_at hl 1 rfl) ?_
  refine va_get (D := (dC, dI)) (ci := 1) (v := .int (v_4 (119) 2)) (C := RX1) (T := TX1) (N := 7) hx hb hts iwX1_copyFrom_X1 hown hK hP (119) (wl_at (by omega) (ce_3 (by decide))) rfl 2 (by decide) (hts (.fieldLink RX1 66 "QuietStairs$House" "caseCount" "I") fwX1_copyFrom_3) (fun _ h9 => h9) rfl dX1_copyFrom_18 ?_
  refine lv_topi (fun x_5 ex_5 => ?_)
  have bx_5 : 0 ≤ x_5.toInt ∧ x_5.toInt ≤ 6 := by rw [ex_5]; exact hv.at (K := 3) (by decide) rfl
  refine va_put (D := (dC, dI)) (ci := 1) (v := .int x_5) (ty := .int) (C := RX1) (T := TX1) (N := 7) hx hb hts iwX1_copyFrom_X1 tyX1 tyX1_ok nmX1 hown hK hP hD hS (13) (wl_at (by omega) (ce_3 (by decide))) rfl 2 (by decide) (hts (.fieldLink RX1 66 "QuietStairs$House" "caseCount" "I") fwX1_copyFrom_3) (fun _ h9 => h9) rfl (by decide +kernel) rfl rfl (Nat.le_of_ble_eq_true rfl) dX1_copyFrom_21 (fun H locs hP hD hS => ?_)
  obtain ⟨v_6, ev_6⟩ : ∃ u : Nat → Nat → Int32, u = upr v_4 (13) (upd (v_4 (13)) 2 x_5) := ⟨_, rfl⟩
  have hP : va_P (dC, dI) vwCl (wl ad kv cy N v_6) H := by rw [ev_6, ← wl_put (e := _) (ce_3 (by decide))]; exact hP
  have hD : va_D A (wl ad kv cy N v_6) := by rw [ev_6, ← wl_put (e := _) (ce_3 (by decide))]; exact hD
  have hv : Iv v_6 := by rw [ev_6]; exact hv.put (K := 3) (by decide) (fun h q => by cases q; exact ⟨by omega, by omega⟩)
  refine lv_aload_n hx hb dX1_copyFrom_24 rfl (lv_at hl 0 rfl) ?_
  refine lv_aload_n hx hb dX1_copyFrom_25 rfl (lv_at hl 1 rfl) ?_
  refine va_get (D := (dC, dI)) (ci := 1) (v := .int (v_6 (119) 3)) (C := RX1) (T := TX1) (N := 7) hx hb hts iwX1_copyFrom_X1 hown hK hP (119) (wl_at (by omega) (ce_3 (by decide))) rfl 3 (by decide) (hts (.fieldLink RX1 91 "QuietStairs$House" "markCount" "I") fwX1_copyFrom_4) (fun _ h9 => h9) rfl dX1_copyFrom_26 ?_
  refine lv_topi (fun x_7 ex_7 => ?_)
  have bx_7 : 0 ≤ x_7.toInt ∧ x_7.toInt ≤ 6 := by rw [ex_7]; exact hv.at (K := 3) (by decide) rfl
  refine va_put (D := (dC, dI)) (ci := 1) (v := .int x_7) (ty := .int) (C := RX1) (T := TX1) (N := 7) hx hb hts iwX1_copyFrom_X1 tyX1 tyX1_ok nmX1 hown hK hP hD hS (13) (wl_at (by omega) (ce_3 (by decide))) rfl 3 (by decide) (hts (.fieldLink RX1 91 "QuietStairs$House" "markCount" "I") fwX1_copyFrom_4) (fun _ h9 => h9) rfl (by decide +kernel) rfl rfl (Nat.le_of_ble_eq_true rfl) dX1_copyFrom_29 (fun H locs hP hD hS => ?_)
  obtain ⟨v_8, ev_8⟩ : ∃ u : Nat → Nat → Int32, u = upr v_6 (13) (upd (v_6 (13)) 3 x_7) := ⟨_, rfl⟩
  have hP : va_P (dC, dI) vwCl (wl ad kv cy N v_8) H := by rw [ev_8, ← wl_put (e := _) (ce_3 (by decide))]; exact hP
  have hD : va_D A (wl ad kv cy N v_8) := by rw [ev_8, ← wl_put (e := _) (ce_3 (by decide))]; exact hD
  have hv : Iv v_8 := by rw [ev_8]; exact hv.put (K := 3) (by decide) (fun h q => by cases q; exact ⟨by omega, by omega⟩)
  have hfr : Fa v v_8 := ⟨by rw [ev_8, upr_s, pk_un (by decide), ev_6, upr_s, pk_un (by decide), ev_4, upr_s, pk_un (by decide), ev_2, upr_s, pk_us, ex_1], by rw [ev_8, upr_s, pk_un (by decide), ev_6, upr_s, pk_un (by decide), ev_4, upr_s, pk_us, ex_3, ev_2, upr_n (by omega)], by rw [ev_8, upr_n (by omega), ev_6, upr_n (by omega), ev_4, upr_n (by omega), ev_2, upr_n (by omega)], by rw [ev_8, upr_n (by omega), ev_6, upr_n (by omega), ev_4, upr_n (by omega), ev_2, upr_n (by omega)], by rw [ev_8, upr_n (by omega), ev_6, upr_n (by omega), ev_4, upr_n (by omega), ev_2, upr_n (by omega)]⟩
  refine lv_iconst (v := 0) hx hb dX1_copyFrom_32 (by decide) ?_
  refine lv_istore_n (lv' := [(2, .int 0), (0, .ref (ad 13)), (1, .ref (ad 119))]) hx hb dX1_copyFrom_33 rfl hl (by decide) rfl (fun ls hl => ?_)
  have k_0 : (0 : Int32).toInt = 0 := by decide
  have hloop_9 : ∀ (n : Nat) (y9_2 : Int32) (u9 : Nat → Nat → Int32) (H : Heap) (locs : List Loc), 0 ≤ y9_2.toInt → y9_2.toInt ≤ 8 → (8 - y9_2.toInt).toNat < n → Iv u9 → Fa v u9 → va_P (dC, dI) vwCl (wl ad kv cy N u9) H → va_D A (wl ad kv cy N u9) → va_S A s.heap H locs → ∀ ls : Array Slot, lv_has ls 3 [(2, .int y9_2), (0, .ref (ad 13)), (1, .ref (ad 119))] → W p l e (headSpec wsX1_copyFrom ({ frames := 2, cells := 0, slots := 0, locals := 128 })).room s m [Value.ref (ad 13), Value.ref (ad 119)].toArray below meth c H locs 0 0 (MQ below (va_Qv (fun (u : Nat → Nat → Int32) => Iv u ∧ Fa v u) (fun u t => ex_Pst dC dI A (wl ad kv cy N u) t) A) [Value.ref (ad 13), Value.ref (ad 119)].toArray s 0 0 A) (F0 m 34 ls []) := by
    intro n
    induction n with
    | zero =>
      intro y9_2 u9 H locs ay9_2 by9_2 hm_9 hv hfr hP hD hS ls hl
      exact absurd hm_9 (by omega)
    | succ n ih_9 =>
      intro y9_2 u9 H locs ay9_2 by9_2 hm_9 hv hfr hP hD hS ls hl
      refine lv_iload_n hx hb dX1_copyFrom_34 rfl (lv_at hl 0 rfl) ?_
      refine lv_aload_n hx hb dX1_copyFrom_35 rfl (lv_at hl 1 rfl) ?_
      refine va_get (D := (dC, dI)) (ci := 1) (v := .int (u9 (13) 0)) (C := RX1) (T := TX1) (N := 7) hx hb hts iwX1_copyFrom_X1 hown hK hP (13) (wl_at (by omega) (ce_3 (by decide))) rfl 0 (by decide) (hts (.fieldLink RX1 88 "QuietStairs$House" "partyCount" "I") fwX1_copyFrom_1) (fun _ h9 => h9) rfl dX1_copyFrom_36 ?_
      refine lv_topi (fun x_10 ex_10 => ?_)
      have bx_10 : 0 ≤ x_10.toInt ∧ x_10.toInt ≤ 8 := by rw [ex_10]; exact hv.at (K := 3) (by decide) rfl
      refine lv_icmp_ge (tgt := 63) hx hb dX1_copyFrom_39 (by decide) (fun c_11 => ?_) (fun c_11 => ?_)
      · have tc_11 : y9_2.toInt ≥ x_10.toInt := Int32.le_iff_toInt_le.mp c_11
        refine lv_iconst (v := 0) hx hb dX1_copyFrom_63 (by decide) ?_
        refine lv_istore_n (lv' := [(2, .int 0), (0, .ref (ad 13)), (1, .ref (ad 119))]) hx hb dX1_copyFrom_64 rfl hl (by decide) rfl (fun ls hl => ?_)
        have hloop_12 : ∀ (n : Nat) (y12_2 : Int32) (u12 : Nat → Nat → Int32) (H : Heap) (locs : List Loc), 0 ≤ y12_2.toInt → y12_2.toInt ≤ 4 → (4 - y12_2.toInt).toNat < n → Iv u12 → Fa v u12 → va_P (dC, dI) vwCl (wl ad kv cy N u12) H → va_D A (wl ad kv cy N u12) → va_S A s.heap H locs → ∀ ls : Array Slot, lv_has ls 3 [(2, .int y12_2), (0, .ref (ad 13)), (1, .ref (ad 119))] → W p l e (headSpec wsX1_copyFrom ({ frames := 2, cells := 0, slots := 0, locals := 128 })).room s m [Value.ref (ad 13), Value.ref (ad 119)].toArray below meth c H locs 0 0 (MQ below (va_Qv (fun (u : Nat → Nat → Int32) => Iv u ∧ Fa v u) (fun u t => ex_Pst dC dI A (wl ad kv cy N u) t) A) [Value.ref (ad 13), Value.ref (ad 119)].toArray s 0 0 A) (F0 m 65 ls []) := by
          intro n
          induction n with
          | zero =>
            intro y12_2 u12 H locs ay12_2 by12_2 hm_12 hv hfr hP hD hS ls hl
            exact absurd hm_12 (by omega)
          | succ n ih_12 =>
            intro y12_2 u12 H locs ay12_2 by12_2 hm_12 hv hfr hP hD hS ls hl
            refine lv_iload_n hx hb dX1_copyFrom_65 rfl (lv_at hl 0 rfl) ?_
            refine lv_aload_n hx hb dX1_copyFrom_66 rfl (lv_at hl 1 rfl) ?_
            refine va_get (D := (dC, dI)) (ci := 1) (v := .int (u12 (13) 1)) (C := RX1) (T := TX1) (N := 7) hx hb hts iwX1_copyFrom_X1 hown hK hP (13) (wl_at (by omega) (ce_3 (by decide))) rfl 1 (by decide) (hts (.fieldLink RX1 36 "QuietStairs$House" "mediatorCount" "I") fwX1_copyFrom_2) (fun _ h9 => h9) rfl dX1_copyFrom_67 ?_
            refine lv_topi (fun x_13 ex_13 => ?_)
            have bx_13 : 0 ≤ x_13.toInt ∧ x_13.toInt ≤ 4 := by rw [ex_13]; exact hv.at (K := 3) (by decide) rfl
            refine lv_icmp_ge (tgt := 94) hx hb dX1_copyFrom_70 (by decide) (fun c_14 => ?_) (fun c_14 => ?_)
            · have tc_14 : y12_2.toInt ≥ x_13.toInt := Int32.le_iff_toInt_le.mp c_14
              refine lv_iconst (v := 0) hx hb dX1_copyFrom_94 (by decide) ?_
              refine lv_istore_n (lv' := [(2, .int 0), (0, .ref (ad 13)), (1, .ref (ad 119))]) hx hb dX1_copyFrom_95 rfl hl (by decide) rfl (fun ls hl => ?_)
              have hloop_15 : ∀ (n : Nat) (y15_2 : Int32) (u15 : Nat → Nat → Int32) (H : Heap) (locs : List Loc), 0 ≤ y15_2.toInt → y15_2.toInt ≤ 6 → (6 - y15_2.toInt).toNat < n → Iv u15 → Fa v u15 → va_P (dC, dI) vwCl (wl ad kv cy N u15) H → va_D A (wl ad kv cy N u15) → va_S A s.heap H locs → ∀ ls : Array Slot, lv_has ls 3 [(2, .int y15_2), (0, .ref (ad 13)), (1, .ref (ad 119))] → W p l e (headSpec wsX1_copyFrom ({ frames := 2, cells := 0, slots := 0, locals := 128 })).room s m [Value.ref (ad 13), Value.ref (ad 119)].toArray below meth c H locs 0 0 (MQ below (va_Qv (fun (u : Nat → Nat → Int32) => Iv u ∧ Fa v u) (fun u t => ex_Pst dC dI A (wl ad kv cy N u) t) A) [Value.ref (ad 13), Value.ref (ad 119)].toArray s 0 0 A) (F0 m 96 ls []) := by
                intro n
                induction n with
                | zero =>
                  intro y15_2 u15 H locs ay15_2 by15_2 hm_15 hv hfr hP hD hS ls hl
                  exact absurd hm_15 (by omega)
                | succ n ih_15 =>
                  intro y15_2 u15 H locs ay15_2 by15_2 hm_15 hv hfr hP hD hS ls hl
                  refine lv_iload_n hx hb dX1_copyFrom_96 rfl (lv_at hl 0 rfl) ?_
                  refine lv_aload_n hx hb dX1_copyFrom_97 rfl (lv_at hl 1 rfl) ?_
                  refine va_get (D := (dC, dI)) (ci := 1) (v := .int (u15 (13) 2)) (C := RX1) (T := TX1) (N := 7) hx hb hts iwX1_copyFrom_X1 hown hK hP (13) (wl_at (by omega) (ce_3 (by decide))) rfl 2 (by decide) (hts (.fieldLink RX1 66 "QuietStairs$House" "caseCount" "I") fwX1_copyFrom_3) (fun _ h9 => h9) rfl dX1_copyFrom_98 ?_
                  refine lv_topi (fun x_16 ex_16 => ?_)
                  have bx_16 : 0 ≤ x_16.toInt ∧ x_16.toInt ≤ 6 := by rw [ex_16]; exact hv.at (K := 3) (by decide) rfl
                  refine lv_icmp_ge (tgt := 125) hx hb dX1_copyFrom_101 (by decide) (fun c_17 => ?_) (fun c_17 => ?_)
                  · have tc_17 : y15_2.toInt ≥ x_16.toInt := Int32.le_iff_toInt_le.mp c_17
                    exact W.vret hx hb hr (fun t ht hW => ⟨⟨u15, rfl, ⟨hv, hfr⟩, by rw [ht]; exact hP, hD⟩, hS.F ht⟩) hS.2.2 dX1_copyFrom_125
                  · have tc_17 : y15_2.toInt < x_16.toInt := Int32.lt_iff_toInt_lt.mp (Int32.not_le.mp c_17)
                    refine lv_aload_n hx hb dX1_copyFrom_104 rfl (lv_at hl 1 rfl) ?_
                    refine va_get (D := (dC, dI)) (ci := 1) (v := .ref (ad 16)) (C := RX1) (T := TX1) (N := 7) hx hb hts iwX1_copyFrom_X1 hown hK hP (13) (wl_at (by omega) (ce_3 (by decide))) rfl 6 (by decide) (hts (.fieldLink RX1 25 "QuietStairs$House" "cases" "[LQuietStairs$Case;") fwX1_copyFrom_7) (fun _ h9 => h9) rfl dX1_copyFrom_105 ?_
                    refine lv_iload_n hx hb dX1_copyFrom_108 rfl (lv_at hl 0 rfl) ?_
                    obtain ⟨pi18, i18, hi18, ni18, mi18⟩ := t_in (x := y15_2) (n := 6) ⟨by omega, by omega⟩
                    refine va_aldq hx hb hK hP (16) 3 (wl_at (by omega) (ce_6 (by decide))) rfl pi18 dX1_copyFrom_109 ?_
                    refine W.eq (g2 := F0 m 110 ls [.ref (ad (29 + 15 * i18))]) (by rw [ni18, if_pos hi18, show 16 + 13 + 15 * i18 = 29 + 15 * i18 from by omega]; rfl) ?_
                    refine lv_aload_n hx hb dX1_copyFrom_110 rfl (lv_at hl 2 rfl) ?_
                    refine va_get (D := (dC, dI)) (ci := 1) (v := .ref (ad 122)) (C := RX1) (T := TX1) (N := 7) hx hb hts iwX1_copyFrom_X1 hown hK hP (119) (wl_at (by omega) (ce_3 (by decide))) rfl 6 (by decide) (hts (.fieldLink RX1 25 "QuietStairs$House" "cases" "[LQuietStairs$Case;") fwX1_copyFrom_7) (fun _ h9 => h9) rfl dX1_copyFrom_111 ?_
                    refine lv_iload_n hx hb dX1_copyFrom_114 rfl (lv_at hl 0 rfl) ?_
                    refine va_aldq hx hb hK hP (122) 3 (wl_at (by omega) (ce_6 (by decide))) rfl pi18 dX1_copyFrom_115 ?_
                    refine W.eq (g2 := F0 m 116 ls [.ref (ad (135 + 15 * i18)), .ref (ad (29 + 15 * i18))]) (by rw [ni18, if_pos hi18, show 122 + 13 + 15 * i18 = 135 + 15 * i18 from by omega]; rfl) ?_
                    refine yw_v (w1 := fun (u : Nat → Nat → Int32) => wl ad kv cy N u) hD hS hA (va_runV (As := [.ref (ad (135 + 15 * i18))]) (rest := []) ⟨hx, hb, hml, hown, hts⟩ (g_X0_copyFrom_a l dC dI cy _ ad kv N hN u15 hv i18 hi18 hN2) (cwV 1 hts gX1_copyFrom_X0_copyFrom rfl rfl rfl hd_V_X0_copyFrom_1 ⟨Nat.le_of_ble_eq_true rfl, Nat.le_of_ble_eq_true rfl⟩) (yw_preV hE hK hP hD (ci := 0) (q0 := (29 + 15 * i18)) rfl (wl_at (by omega) (ce_9 (kd_c i18 hi18).1.1))) rfl rfl hl.1 rfl (lv_room (Nat.le_of_ble_eq_true rfl)) dX1_copyFrom_116 ⟨Nat.le_of_ble_eq_true rfl, Nat.le_of_ble_eq_true rfl⟩) (fun v_19 H locs hw_19 hP hD hS => ?_)
                    obtain ⟨hv, hw_19⟩ := hw_19
                    have hfr : Fa v v_19 := Fc.transa hfr hw_19
                    obtain ⟨x_20, ex_20⟩ : ∃ y : Int32, y = y15_2 + 1 := ⟨_, rfl⟩
                    refine lv_iinc (v := x_20) (lv' := [(2, .int x_20), (0, .ref (ad 13)), (1, .ref (ad 119))]) hx hb dX1_copyFrom_119 hl (k := 0) rfl (by rw [ex_20]; rfl) (by decide) rfl (fun ls hl => ?_)
                    have k_1 : (1 : Int32).toInt = 1 := by decide
                    have tx_20 : x_20.toInt = y15_2.toInt + (1 : Int32).toInt := by rw [ex_20]; exact t_add ⟨by omega, by omega⟩
                    refine lv_goto (tgt := 96) hx hb dX1_copyFrom_122 (by decide) ?_
                    exact ih_15 x_20 v_19 H locs (by omega) (by omega) (by omega) hv hfr hP hD hS ls (lv_sub hl [0, 1, 2] rfl)
              exact hloop_15 ((6 - (0 : Int32).toInt).toNat + 1) 0 u12 _ _ (by omega) (by omega) (by omega) hv hfr hP hD hS ls hl
            · have tc_14 : y12_2.toInt < x_13.toInt := Int32.lt_iff_toInt_lt.mp (Int32.not_le.mp c_14)
              refine lv_aload_n hx hb dX1_copyFrom_73 rfl (lv_at hl 1 rfl) ?_
              refine va_get (D := (dC, dI)) (ci := 1) (v := .ref (ad 15)) (C := RX1) (T := TX1) (N := 7) hx hb hts iwX1_copyFrom_X1 hown hK hP (13) (wl_at (by omega) (ce_3 (by decide))) rfl 5 (by decide) (hts (.fieldLink RX1 19 "QuietStairs$House" "mediators" "[LQuietStairs$Mediator;") fwX1_copyFrom_6) (fun _ h9 => h9) rfl dX1_copyFrom_74 ?_
              refine lv_iload_n hx hb dX1_copyFrom_77 rfl (lv_at hl 0 rfl) ?_
              obtain ⟨pi15, i15, hi15, ni15, mi15⟩ := t_in (x := y12_2) (n := 4) ⟨by omega, by omega⟩
              refine va_aldq hx hb hK hP (15) 2 (wl_at (by omega) (ce_5 (by decide))) rfl pi15 dX1_copyFrom_78 ?_
              refine W.eq (g2 := F0 m 79 ls [.ref (ad (25 + i15))]) (by rw [ni15, if_pos hi15, show 15 + 10 + i15 = 25 + i15 from by omega]; rfl) ?_
              refine lv_aload_n hx hb dX1_copyFrom_79 rfl (lv_at hl 2 rfl) ?_
              refine va_get (D := (dC, dI)) (ci := 1) (v := .ref (ad 121)) (C := RX1) (T := TX1) (N := 7) hx hb hts iwX1_copyFrom_X1 hown hK hP (119) (wl_at (by omega) (ce_3 (by decide))) rfl 5 (by decide) (hts (.fieldLink RX1 19 "QuietStairs$House" "mediators" "[LQuietStairs$Mediator;") fwX1_copyFrom_6) (fun _ h9 => h9) rfl dX1_copyFrom_80 ?_
              refine lv_iload_n hx hb dX1_copyFrom_83 rfl (lv_at hl 0 rfl) ?_
              refine va_aldq hx hb hK hP (121) 2 (wl_at (by omega) (ce_5 (by decide))) rfl pi15 dX1_copyFrom_84 ?_
              refine W.eq (g2 := F0 m 85 ls [.ref (ad (131 + i15)), .ref (ad (25 + i15))]) (by rw [ni15, if_pos hi15, show 121 + 10 + i15 = 131 + i15 from by omega]; rfl) ?_
              refine yw_v (w1 := fun (u : Nat → Nat → Int32) => wl ad kv cy N u) hD hS hA (va_runV (As := [.ref (ad (131 + i15))]) (rest := []) ⟨hx, hb, hml, hown, hts⟩ (g_X2_copyFrom_a l dC dI cy _ ad kv N hN u12 hv i15 hi15 hN2) (cwV 1 hts gX1_copyFrom_X2_copyFrom rfl rfl rfl hd_V_X2_copyFrom_1 ⟨Nat.le_of_ble_eq_true rfl, Nat.le_of_ble_eq_true rfl⟩) (yw_preV hE hK hP hD (ci := 2) (q0 := (25 + i15)) rfl (wl_at (by omega) (ce_8 (kd_m i15 hi15).1))) rfl rfl hl.1 rfl (lv_room (Nat.le_of_ble_eq_true rfl)) dX1_copyFrom_85 ⟨Nat.le_of_ble_eq_true rfl, Nat.le_of_ble_eq_true rfl⟩) (fun v_16 H locs hw_16 hP hD hS => ?_)
              obtain ⟨hv, hw_16⟩ := hw_16
              have hfr : Fa v v_16 := Fc.transa hfr hw_16
              obtain ⟨x_17, ex_17⟩ : ∃ y : Int32, y = y12_2 + 1 := ⟨_, rfl⟩
              refine lv_iinc (v := x_17) (lv' := [(2, .int x_17), (0, .ref (ad 13)), (1, .ref (ad 119))]) hx hb dX1_copyFrom_88 hl (k := 0) rfl (by rw [ex_17]; rfl) (by decide) rfl (fun ls hl => ?_)
              have k_1 : (1 : Int32).toInt = 1 := by decide
              have tx_17 : x_17.toInt = y12_2.toInt + (1 : Int32).toInt := by rw [ex_17]; exact t_add ⟨by omega, by omega⟩
              refine lv_goto (tgt := 65) hx hb dX1_copyFrom_91 (by decide) ?_
              exact ih_12 x_17 v_16 H locs (by omega) (by omega) (by omega) hv hfr hP hD hS ls (lv_sub hl [0, 1, 2] rfl)
        exact hloop_12 ((4 - (0 : Int32).toInt).toNat + 1) 0 u9 _ _ (by omega) (by omega) (by omega) hv hfr hP hD hS ls hl
      · have tc_11 : y9_2.toInt < x_10.toInt := Int32.lt_iff_toInt_lt.mp (Int32.not_le.mp c_11)
        refine lv_aload_n hx hb dX1_copyFrom_42 rfl (lv_at hl 1 rfl) ?_
        refine va_get (D := (dC, dI)) (ci := 1) (v := .ref (ad 14)) (C := RX1) (T := TX1) (N := 7) hx hb hts iwX1_copyFrom_X1 hown hK hP (13) (wl_at (by omega) (ce_3 (by decide))) rfl 4 (by decide) (hts (.fieldLink RX1 11 "QuietStairs$House" "parties" "[LQuietStairs$Party;") fwX1_copyFrom_5) (fun _ h9 => h9) rfl dX1_copyFrom_43 ?_
        refine lv_iload_n hx hb dX1_copyFrom_46 rfl (lv_at hl 0 rfl) ?_
        obtain ⟨pi12, i12, hi12, ni12, mi12⟩ := t_in (x := y9_2) (n := 8) ⟨by omega, by omega⟩
        refine va_aldq hx hb hK hP (14) 1 (wl_at (by omega) (ce_4 (by decide))) rfl pi12 dX1_copyFrom_47 ?_
        refine W.eq (g2 := F0 m 48 ls [.ref (ad (17 + i12))]) (by rw [ni12, if_pos hi12, show 14 + 3 + i12 = 17 + i12 from by omega]; rfl) ?_
        refine lv_aload_n hx hb dX1_copyFrom_48 rfl (lv_at hl 2 rfl) ?_
        refine va_get (D := (dC, dI)) (ci := 1) (v := .ref (ad 120)) (C := RX1) (T := TX1) (N := 7) hx hb hts iwX1_copyFrom_X1 hown hK hP (119) (wl_at (by omega) (ce_3 (by decide))) rfl 4 (by decide) (hts (.fieldLink RX1 11 "QuietStairs$House" "parties" "[LQuietStairs$Party;") fwX1_copyFrom_5) (fun _ h9 => h9) rfl dX1_copyFrom_49 ?_
        refine lv_iload_n hx hb dX1_copyFrom_52 rfl (lv_at hl 0 rfl) ?_
        refine va_aldq hx hb hK hP (120) 1 (wl_at (by omega) (ce_4 (by decide))) rfl pi12 dX1_copyFrom_53 ?_
        refine W.eq (g2 := F0 m 54 ls [.ref (ad (123 + i12)), .ref (ad (17 + i12))]) (by rw [ni12, if_pos hi12, show 120 + 3 + i12 = 123 + i12 from by omega]; rfl) ?_
        refine yw_v (w1 := fun (u : Nat → Nat → Int32) => wl ad kv cy N u) hD hS hA (va_runV (As := [.ref (ad (123 + i12))]) (rest := []) ⟨hx, hb, hml, hown, hts⟩ (g_X3_copyFrom_a l dC dI cy _ ad kv N hN u9 hv i12 hi12 hN2) (cwV 1 hts gX1_copyFrom_X3_copyFrom rfl rfl rfl hd_V_X3_copyFrom_1 ⟨Nat.le_of_ble_eq_true rfl, Nat.le_of_ble_eq_true rfl⟩) (yw_preV hE hK hP hD (ci := 3) (q0 := (17 + i12)) rfl (wl_at (by omega) (ce_7 (kd_p i12 hi12).1))) rfl rfl hl.1 rfl (lv_room (Nat.le_of_ble_eq_true rfl)) dX1_copyFrom_54 ⟨Nat.le_of_ble_eq_true rfl, Nat.le_of_ble_eq_true rfl⟩) (fun v_13 H locs hw_13 hP hD hS => ?_)
        obtain ⟨hv, hw_13⟩ := hw_13
        have hfr : Fa v v_13 := Fc.transa hfr hw_13
        obtain ⟨x_14, ex_14⟩ : ∃ y : Int32, y = y9_2 + 1 := ⟨_, rfl⟩
        refine lv_iinc (v := x_14) (lv' := [(2, .int x_14), (0, .ref (ad 13)), (1, .ref (ad 119))]) hx hb dX1_copyFrom_57 hl (k := 0) rfl (by rw [ex_14]; rfl) (by decide) rfl (fun ls hl => ?_)
        have k_1 : (1 : Int32).toInt = 1 := by decide
        have tx_14 : x_14.toInt = y9_2.toInt + (1 : Int32).toInt := by rw [ex_14]; exact t_add ⟨by omega, by omega⟩
        refine lv_goto (tgt := 34) hx hb dX1_copyFrom_60 (by decide) ?_
        exact ih_9 x_14 v_13 H locs (by omega) (by omega) (by omega) hv hfr hP hD hS ls (lv_sub hl [0, 1, 2] rfl)
  exact hloop_9 ((8 - (0 : Int32).toInt).toNat + 1) 0 v_8 _ _ (by omega) (by omega) (by omega) hv hfr hP hD hS ls hl

set_option maxHeartbeats 4000000 in
set_option maxRecDepth 100000 in
theorem h_X1_copyFrom_b (l : Launch) (dC : Nat → ClassId) (dI : Nat → Nat → Nat) (cy : Nat → ClassId) (sz : Nat) (ad : Nat → Nat) (kv : Value) (N : Nat) (hN : 119 ≤ N) (v : Nat → Nat → Int32) (hv : Iv v)  (hN2 : 225 ≤ N) : Met l yX1_copyFrom wsX1_copyFrom ({ frames := 2, cells := 0, slots := 0, locals := 128 }) (va_Pc [.ref (ad 119), .ref (ad 13)] (ex_Pre dC dI cy sz (wl ad kv cy N v))) (va_Qv (fun (u : Nat → Nat → Int32) => Iv u ∧ Fb v u) (fun u t => ex_Pst dC dI (va_A (wl ad kv cy N v) sz) (wl ad kv cy N u) t) (va_A (wl ad kv cy N v) sz)) 0 0 (va_A (wl ad kv cy N v) sz) := by
  refine Met.ofW (cc := cX1_copyFrom) (maxL := 3) (ret := none) (by decide) rfl ?_
  intro p e s m args below meth c s₁ B hml hv
  obtain ⟨rfl, hsz, hE, hP, hK, hD0⟩ := hv
  have hx := B.exec
  have hb := B.bytes
  have hr := B.returns
  have hts := atoms_spec (ws := wsX1_copyFrom) B.pre
  have hown : s.vm.findClass RX1 = some m.cls := findClass_of_methodNamed B.named
  have hlocks := B.notSynchronized
  subst hsz
  have hD := hD0.self (sz := s.heap.size)
  generalize hAe : va_A (wl ad kv cy N v) s.heap.size = A at hD ⊢
  have hA : ∀ q : Nat, s.heap.size ≤ q → A q := fun q h => by rw [← hAe]; exact Or.inr h
  have hS : va_S A s.heap s.heap [] := va_S.rf
  have hP : va_P (dC, dI) vwCl (wl ad kv cy N v) s.heap := hP
  have hl := lv_entry ([.ref (ad 119), .ref (ad 13)]) (n := 3) (Nat.le_of_ble_eq_true rfl)
  rw [lg_entry_eq]
  generalize (lg_sl ([.ref (ad 119), .ref (ad 13)]) ++ List.replicate (3 - (lg_sl ([.ref (ad 119), .ref (ad 13)])).length) Slot.unset).toArray = ls at hl ⊢
  have hl : lv_has ls 3 [(0, .ref (ad 119)), (1, .ref (ad 13))] := hl
  have hfr : Ft v v := Ft.rf
  refine lv_aload_n hx hb dX1_copyFrom_0 rfl (lv_at hl 0 rfl) ?_
  refine lv_aload_n hx hb dX1_copyFrom_1 rfl (lv_at hl 1 rfl) ?_
  refine va_get (D := (dC, dI)) (ci := 1) (v := .int (v (13) 0)) (C := RX1) (T := TX1) (N := 7) hx hb hts iwX1_copyFrom_X1 hown hK hP (13) (wl_at (by omega) (ce_3 (by decide))) rfl 0 (by decide) (hts (.fieldLink RX1 88 "QuietStairs$House" "partyCount" "I") fwX1_copyFrom_1) (fun _ h9 => h9) rfl dX1_copyFrom_2 ?_
  refine lv_topi (fun x_1 ex_1 => ?_)
  have bx_1 : 0 ≤ x_1.toInt ∧ x_1.toInt ≤ 8 := by rw [ex_1]; exact hv.at (K := 3) (by decide) rfl
  refine va_put (D := (dC, dI)) (ci := 1) (v := .int x_1) (ty := .int) (C := RX1) (T := TX1) (N := 7) hx hb hts iwX1_copyFrom_X1 tyX1 tyX1_ok nmX1 hown hK hP hD hS (119) (wl_at (by omega) (ce_3 (by decide))) rfl 0 (by decide) (hts (.fieldLink RX1 88 "QuietStairs$House" "partyCount" "I") fwX1_copyFrom_1) (fun _ h9 => h9) rfl (by decide +kernel) rfl rfl (Nat.le_of_ble_eq_true rfl) dX1_copyFrom_5 (fun H locs hP hD hS => ?_)
  obtain ⟨v_2, ev_2⟩ : ∃ u : Nat → Nat → Int32, u = upr v (119) (upd (v (119)) 0 x_1) := ⟨_, rfl⟩
  have hP : va_P (dC, dI) vwCl (wl ad kv cy N v_2) H := by rw [ev_2, ← wl_put (e := _) (ce_3 (by decide))]; exact hP
  have hD : va_D A (wl ad kv cy N v_2) := by rw [ev_2, ← wl_put (e := _) (ce_3 (by decide))]; exact hD
  have hv : Iv v_2 := by rw [ev_2]; exact hv.put (K := 3) (by decide) (fun h q => by cases q; exact ⟨by omega, by omega⟩)
  refine lv_aload_n hx hb dX1_copyFrom_8 rfl (lv_at hl 0 rfl) ?_
  refine lv_aload_n hx hb dX1_copyFrom_9 rfl (lv_at hl 1 rfl) ?_
  refine va_get (D := (dC, dI)) (ci := 1) (v := .int (v_2 (13) 1)) (C := RX1) (T := TX1) (N := 7) hx hb hts iwX1_copyFrom_X1 hown hK hP (13) (wl_at (by omega) (ce_3 (by decide))) rfl 1 (by decide) (hts (.fieldLink RX1 36 "QuietStairs$House" "mediatorCount" "I") fwX1_copyFrom_2) (fun _ h9 => h9) rfl dX1_copyFrom_10 ?_
  refine lv_topi (fun x_3 ex_3 => ?_)
  have bx_3 : 0 ≤ x_3.toInt ∧ x_3.toInt ≤ 4 := by rw [ex_3]; exact hv.at (K := 3) (by decide) rfl
  refine va_put (D := (dC, dI)) (ci := 1) (v := .int x_3) (ty := .int) (C := RX1) (T := TX1) (N := 7) hx hb hts iwX1_copyFrom_X1 tyX1 tyX1_ok nmX1 hown hK hP hD hS (119) (wl_at (by omega) (ce_3 (by decide))) rfl 1 (by decide) (hts (.fieldLink RX1 36 "QuietStairs$House" "mediatorCount" "I") fwX1_copyFrom_2) (fun _ h9 => h9) rfl (by decide +kernel) rfl rfl (Nat.le_of_ble_eq_true rfl) dX1_copyFrom_13 (fun H locs hP hD hS => ?_)
  obtain ⟨v_4, ev_4⟩ : ∃ u : Nat → Nat → Int32, u = upr v_2 (119) (upd (v_2 (119)) 1 x_3) := ⟨_, rfl⟩
  have hP : va_P (dC, dI) vwCl (wl ad kv cy N v_4) H := by rw [ev_4, ← wl_put (e := _) (ce_3 (by decide))]; exact hP
  have hD : va_D A (wl ad kv cy N v_4) := by rw [ev_4, ← wl_put (e := _) (ce_3 (by decide))]; exact hD
  have hv : Iv v_4 := by rw [ev_4]; exact hv.put (K := 3) (by decide) (fun h q => by cases q; exact ⟨by omega, by omega⟩)
  refine lv_aload_n hx hb dX1_copyFrom_16 rfl (lv_at hl 0 rfl) ?_
  refine lv_aload_n hx hb dX1_copyFrom_17 rfl (lv_at hl 1 rfl) ?_
  refine va_get (D := (dC, dI)) (ci := 1) (v := .int (v_4 (13) 2)) (C := RX1) (T := TX1) (N := 7) hx hb hts iwX1_copyFrom_X1 hown hK hP (13) (wl_at (by omega) (ce_3 (by decide))) rfl 2 (by decide) (hts (.fieldLink RX1 66 "QuietStairs$House" "caseCount" "I") fwX1_copyFrom_3) (fun _ h9 => h9) rfl dX1_copyFrom_18 ?_
  refine lv_topi (fun x_5 ex_5 => ?_)
  have bx_5 : 0 ≤ x_5.toInt ∧ x_5.toInt ≤ 6 := by rw [ex_5]; exact hv.at (K := 3) (by decide) rfl
  refine va_put (D := (dC, dI)) (ci := 1) (v := .int x_5) (ty := .int) (C := RX1) (T := TX1) (N := 7) hx hb hts iwX1_copyFrom_X1 tyX1 tyX1_ok nmX1 hown hK hP hD hS (119) (wl_at (by omega) (ce_3 (by decide))) rfl 2 (by decide) (hts (.fieldLink RX1 66 "QuietStairs$House" "caseCount" "I") fwX1_copyFrom_3) (fun _ h9 => h9) rfl (by decide +kernel) rfl rfl (Nat.le_of_ble_eq_true rfl) dX1_copyFrom_21 (fun H locs hP hD hS => ?_)
  obtain ⟨v_6, ev_6⟩ : ∃ u : Nat → Nat → Int32, u = upr v_4 (119) (upd (v_4 (119)) 2 x_5) := ⟨_, rfl⟩
  have hP : va_P (dC, dI) vwCl (wl ad kv cy N v_6) H := by rw [ev_6, ← wl_put (e := _) (ce_3 (by decide))]; exact hP
  have hD : va_D A (wl ad kv cy N v_6) := by rw [ev_6, ← wl_put (e := _) (ce_3 (by decide))]; exact hD
  have hv : Iv v_6 := by rw [ev_6]; exact hv.put (K := 3) (by decide) (fun h q => by cases q; exact ⟨by omega, by omega⟩)
  refine lv_aload_n hx hb dX1_copyFrom_24 rfl (lv_at hl 0 rfl) ?_
  refine lv_aload_n hx hb dX1_copyFrom_25 rfl (lv_at hl 1 rfl) ?_
  refine va_get (D := (dC, dI)) (ci := 1) (v := .int (v_6 (13) 3)) (C := RX1) (T := TX1) (N := 7) hx hb hts iwX1_copyFrom_X1 hown hK hP (13) (wl_at (by omega) (ce_3 (by decide))) rfl 3 (by decide) (hts (.fieldLink RX1 91 "QuietStairs$House" "markCount" "I") fwX1_copyFrom_4) (fun _ h9 => h9) rfl dX1_copyFrom_26 ?_
  refine lv_topi (fun x_7 ex_7 => ?_)
  have bx_7 : 0 ≤ x_7.toInt ∧ x_7.toInt ≤ 6 := by rw [ex_7]; exact hv.at (K := 3) (by decide) rfl
  refine va_put (D := (dC, dI)) (ci := 1) (v := .int x_7) (ty := .int) (C := RX1) (T := TX1) (N := 7) hx hb hts iwX1_copyFrom_X1 tyX1 tyX1_ok nmX1 hown hK hP hD hS (119) (wl_at (by omega) (ce_3 (by decide))) rfl 3 (by decide) (hts (.fieldLink RX1 91 "QuietStairs$House" "markCount" "I") fwX1_copyFrom_4) (fun _ h9 => h9) rfl (by decide +kernel) rfl rfl (Nat.le_of_ble_eq_true rfl) dX1_copyFrom_29 (fun H locs hP hD hS => ?_)
  obtain ⟨v_8, ev_8⟩ : ∃ u : Nat → Nat → Int32, u = upr v_6 (119) (upd (v_6 (119)) 3 x_7) := ⟨_, rfl⟩
  have hP : va_P (dC, dI) vwCl (wl ad kv cy N v_8) H := by rw [ev_8, ← wl_put (e := _) (ce_3 (by decide))]; exact hP
  have hD : va_D A (wl ad kv cy N v_8) := by rw [ev_8, ← wl_put (e := _) (ce_3 (by decide))]; exact hD
  have hv : Iv v_8 := by rw [ev_8]; exact hv.put (K := 3) (by decide) (fun h q => by cases q; exact ⟨by omega, by omega⟩)
  have hfr : Fb v v_8 := ⟨by rw [ev_8, upr_s, pk_un (by decide), ev_6, upr_s, pk_un (by decide), ev_4, upr_s, pk_un (by decide), ev_2, upr_s, pk_us, ex_1], by rw [ev_8, upr_s, pk_un (by decide), ev_6, upr_s, pk_un (by decide), ev_4, upr_s, pk_us, ex_3, ev_2, upr_n (by omega)], by rw [ev_8, upr_n (by omega), ev_6, upr_n (by omega), ev_4, upr_n (by omega), ev_2, upr_n (by omega)], by rw [ev_8, upr_n (by omega), ev_6, upr_n (by omega), ev_4, upr_n (by omega), ev_2, upr_n (by omega)], by rw [ev_8, upr_n (by omega), ev_6, upr_n (by omega), ev_4, upr_n (by omega), ev_2, upr_n (by omega)]⟩
  refine lv_iconst (v := 0) hx hb dX1_copyFrom_32 (by decide) ?_
  refine lv_istore_n (lv' := [(2, .int 0), (0, .ref (ad 119)), (1, .ref (ad 13))]) hx hb dX1_copyFrom_33 rfl hl (by decide) rfl (fun ls hl => ?_)
  have k_0 : (0 : Int32).toInt = 0 := by decide
  have hloop_9 : ∀ (n : Nat) (y9_2 : Int32) (u9 : Nat → Nat → Int32) (H : Heap) (locs : List Loc), 0 ≤ y9_2.toInt → y9_2.toInt ≤ 8 → (8 - y9_2.toInt).toNat < n → Iv u9 → Fb v u9 → va_P (dC, dI) vwCl (wl ad kv cy N u9) H → va_D A (wl ad kv cy N u9) → va_S A s.heap H locs → ∀ ls : Array Slot, lv_has ls 3 [(2, .int y9_2), (0, .ref (ad 119)), (1, .ref (ad 13))] → W p l e (headSpec wsX1_copyFrom ({ frames := 2, cells := 0, slots := 0, locals := 128 })).room s m [Value.ref (ad 119), Value.ref (ad 13)].toArray below meth c H locs 0 0 (MQ below (va_Qv (fun (u : Nat → Nat → Int32) => Iv u ∧ Fb v u) (fun u t => ex_Pst dC dI A (wl ad kv cy N u) t) A) [Value.ref (ad 119), Value.ref (ad 13)].toArray s 0 0 A) (F0 m 34 ls []) := by
    intro n
    induction n with
    | zero =>
      intro y9_2 u9 H locs ay9_2 by9_2 hm_9 hv hfr hP hD hS ls hl
      exact absurd hm_9 (by omega)
    | succ n ih_9 =>
      intro y9_2 u9 H locs ay9_2 by9_2 hm_9 hv hfr hP hD hS ls hl
      refine lv_iload_n hx hb dX1_copyFrom_34 rfl (lv_at hl 0 rfl) ?_
      refine lv_aload_n hx hb dX1_copyFrom_35 rfl (lv_at hl 1 rfl) ?_
      refine va_get (D := (dC, dI)) (ci := 1) (v := .int (u9 (119) 0)) (C := RX1) (T := TX1) (N := 7) hx hb hts iwX1_copyFrom_X1 hown hK hP (119) (wl_at (by omega) (ce_3 (by decide))) rfl 0 (by decide) (hts (.fieldLink RX1 88 "QuietStairs$House" "partyCount" "I") fwX1_copyFrom_1) (fun _ h9 => h9) rfl dX1_copyFrom_36 ?_
      refine lv_topi (fun x_10 ex_10 => ?_)
      have bx_10 : 0 ≤ x_10.toInt ∧ x_10.toInt ≤ 8 := by rw [ex_10]; exact hv.at (K := 3) (by decide) rfl
      refine lv_icmp_ge (tgt := 63) hx hb dX1_copyFrom_39 (by decide) (fun c_11 => ?_) (fun c_11 => ?_)
      · have tc_11 : y9_2.toInt ≥ x_10.toInt := Int32.le_iff_toInt_le.mp c_11
        refine lv_iconst (v := 0) hx hb dX1_copyFrom_63 (by decide) ?_
        refine lv_istore_n (lv' := [(2, .int 0), (0, .ref (ad 119)), (1, .ref (ad 13))]) hx hb dX1_copyFrom_64 rfl hl (by decide) rfl (fun ls hl => ?_)
        have hloop_12 : ∀ (n : Nat) (y12_2 : Int32) (u12 : Nat → Nat → Int32) (H : Heap) (locs : List Loc), 0 ≤ y12_2.toInt → y12_2.toInt ≤ 4 → (4 - y12_2.toInt).toNat < n → Iv u12 → Fb v u12 → va_P (dC, dI) vwCl (wl ad kv cy N u12) H → va_D A (wl ad kv cy N u12) → va_S A s.heap H locs → ∀ ls : Array Slot, lv_has ls 3 [(2, .int y12_2), (0, .ref (ad 119)), (1, .ref (ad 13))] → W p l e (headSpec wsX1_copyFrom ({ frames := 2, cells := 0, slots := 0, locals := 128 })).room s m [Value.ref (ad 119), Value.ref (ad 13)].toArray below meth c H locs 0 0 (MQ below (va_Qv (fun (u : Nat → Nat → Int32) => Iv u ∧ Fb v u) (fun u t => ex_Pst dC dI A (wl ad kv cy N u) t) A) [Value.ref (ad 119), Value.ref (ad 13)].toArray s 0 0 A) (F0 m 65 ls []) := by
          intro n
          induction n with
          | zero =>
            intro y12_2 u12 H locs ay12_2 by12_2 hm_12 hv hfr hP hD hS ls hl
            exact absurd hm_12 (by omega)
          | succ n ih_12 =>
            intro y12_2 u12 H locs ay12_2 by12_2 hm_12 hv hfr hP hD hS ls hl
            refine lv_iload_n hx hb dX1_copyFrom_65 rfl (lv_at hl 0 rfl) ?_
            refine lv_aload_n hx hb dX1_copyFrom_66 rfl (lv_at hl 1 rfl) ?_
            refine va_get (D := (dC, dI)) (ci := 1) (v := .int (u12 (119) 1)) (C := RX1) (T := TX1) (N := 7) hx hb hts iwX1_copyFrom_X1 hown hK hP (119) (wl_at (by omega) (ce_3 (by decide))) rfl 1 (by decide) (hts (.fieldLink RX1 36 "QuietStairs$House" "mediatorCount" "I") fwX1_copyFrom_2) (fun _ h9 => h9) rfl dX1_copyFrom_67 ?_
            refine lv_topi (fun x_13 ex_13 => ?_)
            have bx_13 : 0 ≤ x_13.toInt ∧ x_13.toInt ≤ 4 := by rw [ex_13]; exact hv.at (K := 3) (by decide) rfl
            refine lv_icmp_ge (tgt := 94) hx hb dX1_copyFrom_70 (by decide) (fun c_14 => ?_) (fun c_14 => ?_)
            · have tc_14 : y12_2.toInt ≥ x_13.toInt := Int32.le_iff_toInt_le.mp c_14
              refine lv_iconst (v := 0) hx hb dX1_copyFrom_94 (by decide) ?_
              refine lv_istore_n (lv' := [(2, .int 0), (0, .ref (ad 119)), (1, .ref (ad 13))]) hx hb dX1_copyFrom_95 rfl hl (by decide) rfl (fun ls hl => ?_)
              have hloop_15 : ∀ (n : Nat) (y15_2 : Int32) (u15 : Nat → Nat → Int32) (H : Heap) (locs : List Loc), 0 ≤ y15_2.toInt → y15_2.toInt ≤ 6 → (6 - y15_2.toInt).toNat < n → Iv u15 → Fb v u15 → va_P (dC, dI) vwCl (wl ad kv cy N u15) H → va_D A (wl ad kv cy N u15) → va_S A s.heap H locs → ∀ ls : Array Slot, lv_has ls 3 [(2, .int y15_2), (0, .ref (ad 119)), (1, .ref (ad 13))] → W p l e (headSpec wsX1_copyFrom ({ frames := 2, cells := 0, slots := 0, locals := 128 })).room s m [Value.ref (ad 119), Value.ref (ad 13)].toArray below meth c H locs 0 0 (MQ below (va_Qv (fun (u : Nat → Nat → Int32) => Iv u ∧ Fb v u) (fun u t => ex_Pst dC dI A (wl ad kv cy N u) t) A) [Value.ref (ad 119), Value.ref (ad 13)].toArray s 0 0 A) (F0 m 96 ls []) := by
                intro n
                induction n with
                | zero =>
                  intro y15_2 u15 H locs ay15_2 by15_2 hm_15 hv hfr hP hD hS ls hl
                  exact absurd hm_15 (by omega)
                | succ n ih_15 =>
                  intro y15_2 u15 H locs ay15_2 by15_2 hm_15 hv hfr hP hD hS ls hl
                  refine lv_iload_n hx hb dX1_copyFrom_96 rfl (lv_at hl 0 rfl) ?_
                  refine lv_aload_n hx hb dX1_copyFrom_97 rfl (lv_at hl 1 rfl) ?_
                  refine va_get (D := (dC, dI)) (ci := 1) (v := .int (u15 (119) 2)) (C := RX1) (T := TX1) (N := 7) hx hb hts iwX1_copyFrom_X1 hown hK hP (119) (wl_at (by omega) (ce_3 (by decide))) rfl 2 (by decide) (hts (.fieldLink RX1 66 "QuietStairs$House" "caseCount" "I") fwX1_copyFrom_3) (fun _ h9 => h9) rfl dX1_copyFrom_98 ?_
                  refine lv_topi (fun x_16 ex_16 => ?_)
                  have bx_16 : 0 ≤ x_16.toInt ∧ x_16.toInt ≤ 6 := by rw [ex_16]; exact hv.at (K := 3) (by decide) rfl
                  refine lv_icmp_ge (tgt := 125) hx hb dX1_copyFrom_101 (by decide) (fun c_17 => ?_) (fun c_17 => ?_)
                  · have tc_17 : y15_2.toInt ≥ x_16.toInt := Int32.le_iff_toInt_le.mp c_17
                    exact W.vret hx hb hr (fun t ht hW => ⟨⟨u15, rfl, ⟨hv, hfr⟩, by rw [ht]; exact hP, hD⟩, hS.F ht⟩) hS.2.2 dX1_copyFrom_125
                  · have tc_17 : y15_2.toInt < x_16.toInt := Int32.lt_iff_toInt_lt.mp (Int32.not_le.mp c_17)
                    refine lv_aload_n hx hb dX1_copyFrom_104 rfl (lv_at hl 1 rfl) ?_
                    refine va_get (D := (dC, dI)) (ci := 1) (v := .ref (ad 122)) (C := RX1) (T := TX1) (N := 7) hx hb hts iwX1_copyFrom_X1 hown hK hP (119) (wl_at (by omega) (ce_3 (by decide))) rfl 6 (by decide) (hts (.fieldLink RX1 25 "QuietStairs$House" "cases" "[LQuietStairs$Case;") fwX1_copyFrom_7) (fun _ h9 => h9) rfl dX1_copyFrom_105 ?_
                    refine lv_iload_n hx hb dX1_copyFrom_108 rfl (lv_at hl 0 rfl) ?_
                    obtain ⟨pi18, i18, hi18, ni18, mi18⟩ := t_in (x := y15_2) (n := 6) ⟨by omega, by omega⟩
                    refine va_aldq hx hb hK hP (122) 3 (wl_at (by omega) (ce_6 (by decide))) rfl pi18 dX1_copyFrom_109 ?_
                    refine W.eq (g2 := F0 m 110 ls [.ref (ad (135 + 15 * i18))]) (by rw [ni18, if_pos hi18, show 122 + 13 + 15 * i18 = 135 + 15 * i18 from by omega]; rfl) ?_
                    refine lv_aload_n hx hb dX1_copyFrom_110 rfl (lv_at hl 2 rfl) ?_
                    refine va_get (D := (dC, dI)) (ci := 1) (v := .ref (ad 16)) (C := RX1) (T := TX1) (N := 7) hx hb hts iwX1_copyFrom_X1 hown hK hP (13) (wl_at (by omega) (ce_3 (by decide))) rfl 6 (by decide) (hts (.fieldLink RX1 25 "QuietStairs$House" "cases" "[LQuietStairs$Case;") fwX1_copyFrom_7) (fun _ h9 => h9) rfl dX1_copyFrom_111 ?_
                    refine lv_iload_n hx hb dX1_copyFrom_114 rfl (lv_at hl 0 rfl) ?_
                    refine va_aldq hx hb hK hP (16) 3 (wl_at (by omega) (ce_6 (by decide))) rfl pi18 dX1_copyFrom_115 ?_
                    refine W.eq (g2 := F0 m 116 ls [.ref (ad (29 + 15 * i18)), .ref (ad (135 + 15 * i18))]) (by rw [ni18, if_pos hi18, show 16 + 13 + 15 * i18 = 29 + 15 * i18 from by omega]; rfl) ?_
                    refine yw_v (w1 := fun (u : Nat → Nat → Int32) => wl ad kv cy N u) hD hS hA (va_runV (As := [.ref (ad (29 + 15 * i18))]) (rest := []) ⟨hx, hb, hml, hown, hts⟩ (g_X0_copyFrom_b l dC dI cy _ ad kv N hN u15 hv i18 hi18 hN2) (cwV 1 hts gX1_copyFrom_X0_copyFrom rfl rfl rfl hd_V_X0_copyFrom_1 ⟨Nat.le_of_ble_eq_true rfl, Nat.le_of_ble_eq_true rfl⟩) (yw_preV hE hK hP hD (ci := 0) (q0 := (135 + 15 * i18)) rfl (wl_at (by omega) (ce_9 (kd_c i18 hi18).2.1))) rfl rfl hl.1 rfl (lv_room (Nat.le_of_ble_eq_true rfl)) dX1_copyFrom_116 ⟨Nat.le_of_ble_eq_true rfl, Nat.le_of_ble_eq_true rfl⟩) (fun v_19 H locs hw_19 hP hD hS => ?_)
                    obtain ⟨hv, hw_19⟩ := hw_19
                    have hfr : Fb v v_19 := Fc.transb hfr hw_19
                    obtain ⟨x_20, ex_20⟩ : ∃ y : Int32, y = y15_2 + 1 := ⟨_, rfl⟩
                    refine lv_iinc (v := x_20) (lv' := [(2, .int x_20), (0, .ref (ad 119)), (1, .ref (ad 13))]) hx hb dX1_copyFrom_119 hl (k := 0) rfl (by rw [ex_20]; rfl) (by decide) rfl (fun ls hl => ?_)
                    have k_1 : (1 : Int32).toInt = 1 := by decide
                    have tx_20 : x_20.toInt = y15_2.toInt + (1 : Int32).toInt := by rw [ex_20]; exact t_add ⟨by omega, by omega⟩
                    refine lv_goto (tgt := 96) hx hb dX1_copyFrom_122 (by decide) ?_
                    exact ih_15 x_20 v_19 H locs (by omega) (by omega) (by omega) hv hfr hP hD hS ls (lv_sub hl [0, 1, 2] rfl)
              exact hloop_15 ((6 - (0 : Int32).toInt).toNat + 1) 0 u12 _ _ (by omega) (by omega) (by omega) hv hfr hP hD hS ls hl
            · have tc_14 : y12_2.toInt < x_13.toInt := Int32.lt_iff_toInt_lt.mp (Int32.not_le.mp c_14)
              refine lv_aload_n hx hb dX1_copyFrom_73 rfl (lv_at hl 1 rfl) ?_
              refine va_get (D := (dC, dI)) (ci := 1) (v := .ref (ad 121)) (C := RX1) (T := TX1) (N := 7) hx hb hts iwX1_copyFrom_X1 hown hK hP (119) (wl_at (by omega) (ce_3 (by decide))) rfl 5 (by decide) (hts (.fieldLink RX1 19 "QuietStairs$House" "mediators" "[LQuietStairs$Mediator;") fwX1_copyFrom_6) (fun _ h9 => h9) rfl dX1_copyFrom_74 ?_
              refine lv_iload_n hx hb dX1_copyFrom_77 rfl (lv_at hl 0 rfl) ?_
              obtain ⟨pi15, i15, hi15, ni15, mi15⟩ := t_in (x := y12_2) (n := 4) ⟨by omega, by omega⟩
              refine va_aldq hx hb hK hP (121) 2 (wl_at (by omega) (ce_5 (by decide))) rfl pi15 dX1_copyFrom_78 ?_
              refine W.eq (g2 := F0 m 79 ls [.ref (ad (131 + i15))]) (by rw [ni15, if_pos hi15, show 121 + 10 + i15 = 131 + i15 from by omega]; rfl) ?_
              refine lv_aload_n hx hb dX1_copyFrom_79 rfl (lv_at hl 2 rfl) ?_
              refine va_get (D := (dC, dI)) (ci := 1) (v := .ref (ad 15)) (C := RX1) (T := TX1) (N := 7) hx hb hts iwX1_copyFrom_X1 hown hK hP (13) (wl_at (by omega) (ce_3 (by decide))) rfl 5 (by decide) (hts (.fieldLink RX1 19 "QuietStairs$House" "mediators" "[LQuietStairs$Mediator;") fwX1_copyFrom_6) (fun _ h9 => h9) rfl dX1_copyFrom_80 ?_
              refine lv_iload_n hx hb dX1_copyFrom_83 rfl (lv_at hl 0 rfl) ?_
              refine va_aldq hx hb hK hP (15) 2 (wl_at (by omega) (ce_5 (by decide))) rfl pi15 dX1_copyFrom_84 ?_
              refine W.eq (g2 := F0 m 85 ls [.ref (ad (25 + i15)), .ref (ad (131 + i15))]) (by rw [ni15, if_pos hi15, show 15 + 10 + i15 = 25 + i15 from by omega]; rfl) ?_
              refine yw_v (w1 := fun (u : Nat → Nat → Int32) => wl ad kv cy N u) hD hS hA (va_runV (As := [.ref (ad (25 + i15))]) (rest := []) ⟨hx, hb, hml, hown, hts⟩ (g_X2_copyFrom_b l dC dI cy _ ad kv N hN u12 hv i15 hi15 hN2) (cwV 1 hts gX1_copyFrom_X2_copyFrom rfl rfl rfl hd_V_X2_copyFrom_1 ⟨Nat.le_of_ble_eq_true rfl, Nat.le_of_ble_eq_true rfl⟩) (yw_preV hE hK hP hD (ci := 2) (q0 := (131 + i15)) rfl (wl_at (by omega) (ce_8 (kd_m i15 hi15).2))) rfl rfl hl.1 rfl (lv_room (Nat.le_of_ble_eq_true rfl)) dX1_copyFrom_85 ⟨Nat.le_of_ble_eq_true rfl, Nat.le_of_ble_eq_true rfl⟩) (fun v_16 H locs hw_16 hP hD hS => ?_)
              obtain ⟨hv, hw_16⟩ := hw_16
              have hfr : Fb v v_16 := Fc.transb hfr hw_16
              obtain ⟨x_17, ex_17⟩ : ∃ y : Int32, y = y12_2 + 1 := ⟨_, rfl⟩
              refine lv_iinc (v := x_17) (lv' := [(2, .int x_17), (0, .ref (ad 119)), (1, .ref (ad 13))]) hx hb dX1_copyFrom_88 hl (k := 0) rfl (by rw [ex_17]; rfl) (by decide) rfl (fun ls hl => ?_)
              have k_1 : (1 : Int32).toInt = 1 := by decide
              have tx_17 : x_17.toInt = y12_2.toInt + (1 : Int32).toInt := by rw [ex_17]; exact t_add ⟨by omega, by omega⟩
              refine lv_goto (tgt := 65) hx hb dX1_copyFrom_91 (by decide) ?_
              exact ih_12 x_17 v_16 H locs (by omega) (by omega) (by omega) hv hfr hP hD hS ls (lv_sub hl [0, 1, 2] rfl)
        exact hloop_12 ((4 - (0 : Int32).toInt).toNat + 1) 0 u9 _ _ (by omega) (by omega) (by omega) hv hfr hP hD hS ls hl
      · have tc_11 : y9_2.toInt < x_10.toInt := Int32.lt_iff_toInt_lt.mp (Int32.not_le.mp c_11)
        refine lv_aload_n hx hb dX1_copyFrom_42 rfl (lv_at hl 1 rfl) ?_
        refine va_get (D := (dC, dI)) (ci := 1) (v := .ref (ad 120)) (C := RX1) (T := TX1) (N := 7) hx hb hts iwX1_copyFrom_X1 hown hK hP (119) (wl_at (by omega) (ce_3 (by decide))) rfl 4 (by decide) (hts (.fieldLink RX1 11 "QuietStairs$House" "parties" "[LQuietStairs$Party;") fwX1_copyFrom_5) (fun _ h9 => h9) rfl dX1_copyFrom_43 ?_
        refine lv_iload_n hx hb dX1_copyFrom_46 rfl (lv_at hl 0 rfl) ?_
        obtain ⟨pi12, i12, hi12, ni12, mi12⟩ := t_in (x := y9_2) (n := 8) ⟨by omega, by omega⟩
        refine va_aldq hx hb hK hP (120) 1 (wl_at (by omega) (ce_4 (by decide))) rfl pi12 dX1_copyFrom_47 ?_
        refine W.eq (g2 := F0 m 48 ls [.ref (ad (123 + i12))]) (by rw [ni12, if_pos hi12, show 120 + 3 + i12 = 123 + i12 from by omega]; rfl) ?_
        refine lv_aload_n hx hb dX1_copyFrom_48 rfl (lv_at hl 2 rfl) ?_
        refine va_get (D := (dC, dI)) (ci := 1) (v := .ref (ad 14)) (C := RX1) (T := TX1) (N := 7) hx hb hts iwX1_copyFrom_X1 hown hK hP (13) (wl_at (by omega) (ce_3 (by decide))) rfl 4 (by decide) (hts (.fieldLink RX1 11 "QuietStairs$House" "parties" "[LQuietStairs$Party;") fwX1_copyFrom_5) (fun _ h9 => h9) rfl dX1_copyFrom_49 ?_
        refine lv_iload_n hx hb dX1_copyFrom_52 rfl (lv_at hl 0 rfl) ?_
        refine va_aldq hx hb hK hP (14) 1 (wl_at (by omega) (ce_4 (by decide))) rfl pi12 dX1_copyFrom_53 ?_
        refine W.eq (g2 := F0 m 54 ls [.ref (ad (17 + i12)), .ref (ad (123 + i12))]) (by rw [ni12, if_pos hi12, show 14 + 3 + i12 = 17 + i12 from by omega]; rfl) ?_
        refine yw_v (w1 := fun (u : Nat → Nat → Int32) => wl ad kv cy N u) hD hS hA (va_runV (As := [.ref (ad (17 + i12))]) (rest := []) ⟨hx, hb, hml, hown, hts⟩ (g_X3_copyFrom_b l dC dI cy _ ad kv N hN u9 hv i12 hi12 hN2) (cwV 1 hts gX1_copyFrom_X3_copyFrom rfl rfl rfl hd_V_X3_copyFrom_1 ⟨Nat.le_of_ble_eq_true rfl, Nat.le_of_ble_eq_true rfl⟩) (yw_preV hE hK hP hD (ci := 3) (q0 := (123 + i12)) rfl (wl_at (by omega) (ce_7 (kd_p i12 hi12).2))) rfl rfl hl.1 rfl (lv_room (Nat.le_of_ble_eq_true rfl)) dX1_copyFrom_54 ⟨Nat.le_of_ble_eq_true rfl, Nat.le_of_ble_eq_true rfl⟩) (fun v_13 H locs hw_13 hP hD hS => ?_)
        obtain ⟨hv, hw_13⟩ := hw_13
        have hfr : Fb v v_13 := Fc.transb hfr hw_13
        obtain ⟨x_14, ex_14⟩ : ∃ y : Int32, y = y9_2 + 1 := ⟨_, rfl⟩
        refine lv_iinc (v := x_14) (lv' := [(2, .int x_14), (0, .ref (ad 119)), (1, .ref (ad 13))]) hx hb dX1_copyFrom_57 hl (k := 0) rfl (by rw [ex_14]; rfl) (by decide) rfl (fun ls hl => ?_)
        have k_1 : (1 : Int32).toInt = 1 := by decide
        have tx_14 : x_14.toInt = y9_2.toInt + (1 : Int32).toInt := by rw [ex_14]; exact t_add ⟨by omega, by omega⟩
        refine lv_goto (tgt := 34) hx hb dX1_copyFrom_60 (by decide) ?_
        exact ih_9 x_14 v_13 H locs (by omega) (by omega) (by omega) hv hfr hP hD hS ls (lv_sub hl [0, 1, 2] rfl)
  exact hloop_9 ((8 - (0 : Int32).toInt).toNat + 1) 0 v_8 _ _ (by omega) (by omega) (by omega) hv hfr hP hD hS ls hl

set_option maxHeartbeats 4000000 in
set_option maxRecDepth 100000 in
theorem h_X7_back_k (l : Launch) (dC : Nat → ClassId) (dI : Nat → Nat → Nat) (cy : Nat → ClassId) (sz : Nat) (ad : Nat → Nat) (N : Nat) (hN : 119 ≤ N) (v : Nat → Nat → Int32) (hv : Iv v)  (hN2 : 225 ≤ N) : Met l yX7_back wsX7_back ({ frames := 3, cells := 0, slots := 0, locals := 192 }) (va_Pc [.ref (ad 0)] (ex_Pre dC dI cy sz (wl ad (.ref (ad 119)) cy N v))) (va_Qi (fun (r : Int32) (u : Nat → Nat → Int32) => Iv u ∧ Fa v u ∧ r = 1) (fun u t => ex_Pst dC dI (va_A (wl ad (.ref (ad 119)) cy N v) sz) (wl ad (.ref (ad 119)) cy N u) t) (va_A (wl ad (.ref (ad 119)) cy N v) sz)) 0 0 (va_A (wl ad (.ref (ad 119)) cy N v) sz) := by
  refine Met.ofW (cc := cX7_back) (maxL := 1) (ret := (some .int)) (by decide) rfl ?_
  intro p e s m args below meth c s₁ B hml hv
  obtain ⟨rfl, hsz, hE, hP, hK, hD0⟩ := hv
  have hx := B.exec
  have hb := B.bytes
  have hr := B.returns
  have hts := atoms_spec (ws := wsX7_back) B.pre
  have hown : s.vm.findClass RX7 = some m.cls := findClass_of_methodNamed B.named
  have hlocks := B.notSynchronized
  subst hsz
  have hD := hD0.self (sz := s.heap.size)
  generalize hAe : va_A (wl ad (.ref (ad 119)) cy N v) s.heap.size = A at hD ⊢
  have hA : ∀ q : Nat, s.heap.size ≤ q → A q := fun q h => by rw [← hAe]; exact Or.inr h
  have hS : va_S A s.heap s.heap [] := va_S.rf
  have hP : va_P (dC, dI) vwCl (wl ad (.ref (ad 119)) cy N v) s.heap := hP
  have hl := lv_entry ([.ref (ad 0)]) (n := 1) (Nat.le_of_ble_eq_true rfl)
  rw [lg_entry_eq]
  generalize (lg_sl ([.ref (ad 0)]) ++ List.replicate (1 - (lg_sl ([.ref (ad 0)])).length) Slot.unset).toArray = ls at hl ⊢
  have hl : lv_has ls 1 [(0, .ref (ad 0))] := hl
  have hfr : Ft v v := Ft.rf
  refine lv_aload_n hx hb dX7_back_0 rfl (lv_at hl 0 rfl) ?_
  refine va_get (D := (dC, dI)) (ci := 7) (v := .ref (ad 119)) (C := RX7) (T := TX7) (N := 5) hx hb hts iwX7_back_X7 hown hK hP (0) (wl_at (by omega) (ce_0 (by decide))) rfl 3 (by decide) (hts (.fieldLink RX7 30 "QuietStairs" "kept" "LQuietStairs$House;") fwX7_back_1) (fun _ h9 => h9) rfl dX7_back_1 ?_
  refine lv_ifnonnull (tgt := 10) hx hb dX7_back_4 (by decide) ?_
  refine lv_aload_n hx hb dX7_back_10 rfl (lv_at hl 0 rfl) ?_
  refine va_get (D := (dC, dI)) (ci := 7) (v := .ref (ad 13)) (C := RX7) (T := TX7) (N := 5) hx hb hts iwX7_back_X7 hown hK hP (0) (wl_at (by omega) (ce_0 (by decide))) rfl 0 (by decide) (hts (.fieldLink RX7 12 "QuietStairs" "now" "LQuietStairs$House;") fwX7_back_2) (fun _ h9 => h9) rfl dX7_back_11 ?_
  refine lv_aload_n hx hb dX7_back_14 rfl (lv_at hl 0 rfl) ?_
  refine va_get (D := (dC, dI)) (ci := 7) (v := .ref (ad 119)) (C := RX7) (T := TX7) (N := 5) hx hb hts iwX7_back_X7 hown hK hP (0) (wl_at (by omega) (ce_0 (by decide))) rfl 3 (by decide) (hts (.fieldLink RX7 30 "QuietStairs" "kept" "LQuietStairs$House;") fwX7_back_1) (fun _ h9 => h9) rfl dX7_back_15 ?_
  refine yw_v (w1 := fun (u : Nat → Nat → Int32) => wl ad (.ref (ad 119)) cy N u) hD hS hA (va_runV (As := [.ref (ad 119)]) (rest := []) ⟨hx, hb, hml, hown, hts⟩ (h_X1_copyFrom_a l dC dI cy _ ad (.ref (ad 119)) N hN v hv hN2) (cwV 1 hts gX7_back_X1_copyFrom rfl rfl rfl hd_V_X1_copyFrom_1 ⟨Nat.le_of_ble_eq_true rfl, Nat.le_of_ble_eq_true rfl⟩) (yw_preV hE hK hP hD (ci := 1) (q0 := 13) rfl (wl_at (by omega) (ce_3 (by decide)))) rfl rfl hl.1 rfl (lv_room (Nat.le_of_ble_eq_true rfl)) dX7_back_18 ⟨Nat.le_of_ble_eq_true rfl, Nat.le_of_ble_eq_true rfl⟩) (fun v_1 H locs hw_1 hP hD hS => ?_)
  obtain ⟨hv, hw_1⟩ := hw_1
  have hfr : Ft v v_1 := trivial
  refine lv_iconst (v := 1) hx hb dX7_back_21 (by decide) ?_
  exact W.iret (v := 1) hx hb hr (fun t ht hW => ⟨⟨1, v_1, rfl, ⟨hv, hw_1, rfl⟩, by rw [ht]; exact hP, hD⟩, hS.F ht⟩) hS.2.2 dX7_back_22

set_option maxHeartbeats 4000000 in
set_option maxRecDepth 100000 in
theorem h_X7_keep_k (l : Launch) (dC : Nat → ClassId) (dI : Nat → Nat → Nat) (cy : Nat → ClassId) (sz : Nat) (ad : Nat → Nat) (N : Nat) (hN : 119 ≤ N) (v : Nat → Nat → Int32) (hv : Iv v)  (hN2 : 225 ≤ N) : Met l yX7_keep wsX7_keep ({ frames := 4, cells := 0, slots := 0, locals := 256 }) (va_Pc [.ref (ad 0)] (ex_Pre dC dI cy sz (wl ad (.ref (ad 119)) cy N v))) (va_Qi (fun (r : Int32) (u : Nat → Nat → Int32) => Iv u ∧ Fb v u ∧ r = 1) (fun u t => ex_Pst dC dI (va_A (wl ad (.ref (ad 119)) cy N v) sz) (wl ad (.ref (ad 119)) cy N u) t) (va_A (wl ad (.ref (ad 119)) cy N v) sz)) 0 0 (va_A (wl ad (.ref (ad 119)) cy N v) sz) := by
  refine Met.ofW (cc := cX7_keep) (maxL := 1) (ret := (some .int)) (by decide) rfl ?_
  intro p e s m args below meth c s₁ B hml hv
  obtain ⟨rfl, hsz, hE, hP, hK, hD0⟩ := hv
  have hx := B.exec
  have hb := B.bytes
  have hr := B.returns
  have hts := atoms_spec (ws := wsX7_keep) B.pre
  have hown : s.vm.findClass RX7 = some m.cls := findClass_of_methodNamed B.named
  have hlocks := B.notSynchronized
  subst hsz
  have hD := hD0.self (sz := s.heap.size)
  generalize hAe : va_A (wl ad (.ref (ad 119)) cy N v) s.heap.size = A at hD ⊢
  have hA : ∀ q : Nat, s.heap.size ≤ q → A q := fun q h => by rw [← hAe]; exact Or.inr h
  have hS : va_S A s.heap s.heap [] := va_S.rf
  have hP : va_P (dC, dI) vwCl (wl ad (.ref (ad 119)) cy N v) s.heap := hP
  have hl := lv_entry ([.ref (ad 0)]) (n := 1) (Nat.le_of_ble_eq_true rfl)
  rw [lg_entry_eq]
  generalize (lg_sl ([.ref (ad 0)]) ++ List.replicate (1 - (lg_sl ([.ref (ad 0)])).length) Slot.unset).toArray = ls at hl ⊢
  have hl : lv_has ls 1 [(0, .ref (ad 0))] := hl
  have hfr : Ft v v := Ft.rf
  refine lv_aload_n hx hb dX7_keep_0 rfl (lv_at hl 0 rfl) ?_
  refine va_get (D := (dC, dI)) (ci := 7) (v := .ref (ad 119)) (C := RX7) (T := TX7) (N := 5) hx hb hts iwX7_keep_X7 hown hK hP (0) (wl_at (by omega) (ce_0 (by decide))) rfl 3 (by decide) (hts (.fieldLink RX7 30 "QuietStairs" "kept" "LQuietStairs$House;") fwX7_keep_1) (fun _ h9 => h9) rfl dX7_keep_1 ?_
  refine lv_ifnonnull (tgt := 18) hx hb dX7_keep_4 (by decide) ?_
  refine lv_aload_n hx hb dX7_keep_18 rfl (lv_at hl 0 rfl) ?_
  refine va_get (D := (dC, dI)) (ci := 7) (v := .ref (ad 119)) (C := RX7) (T := TX7) (N := 5) hx hb hts iwX7_keep_X7 hown hK hP (0) (wl_at (by omega) (ce_0 (by decide))) rfl 3 (by decide) (hts (.fieldLink RX7 30 "QuietStairs" "kept" "LQuietStairs$House;") fwX7_keep_1) (fun _ h9 => h9) rfl dX7_keep_19 ?_
  refine lv_aload_n hx hb dX7_keep_22 rfl (lv_at hl 0 rfl) ?_
  refine va_get (D := (dC, dI)) (ci := 7) (v := .ref (ad 13)) (C := RX7) (T := TX7) (N := 5) hx hb hts iwX7_keep_X7 hown hK hP (0) (wl_at (by omega) (ce_0 (by decide))) rfl 0 (by decide) (hts (.fieldLink RX7 12 "QuietStairs" "now" "LQuietStairs$House;") fwX7_keep_5) (fun _ h9 => h9) rfl dX7_keep_23 ?_
  refine yw_v (w1 := fun (u : Nat → Nat → Int32) => wl ad (.ref (ad 119)) cy N u) hD hS hA (va_runV (As := [.ref (ad 13)]) (rest := []) ⟨hx, hb, hml, hown, hts⟩ (h_X1_copyFrom_b l dC dI cy _ ad (.ref (ad 119)) N hN v hv hN2) (cwV 1 hts gX7_keep_X1_copyFrom rfl rfl rfl hd_V_X1_copyFrom_1 ⟨Nat.le_of_ble_eq_true rfl, Nat.le_of_ble_eq_true rfl⟩) (yw_preV hE hK hP hD (ci := 1) (q0 := 119) rfl (wl_at (by omega) (ce_3 (by decide)))) rfl rfl hl.1 rfl (lv_room (Nat.le_of_ble_eq_true rfl)) dX7_keep_26 ⟨Nat.le_of_ble_eq_true rfl, Nat.le_of_ble_eq_true rfl⟩) (fun v_1 H locs hw_1 hP hD hS => ?_)
  obtain ⟨hv, hw_1⟩ := hw_1
  have hfr : Ft v v_1 := trivial
  refine lv_iconst (v := 1) hx hb dX7_keep_29 (by decide) ?_
  exact W.iret (v := 1) hx hb hr (fun t ht hW => ⟨⟨1, v_1, rfl, ⟨hv, hw_1, rfl⟩, by rw [ht]; exact hP, hD⟩, hS.F ht⟩) hS.2.2 dX7_keep_30

set_option maxHeartbeats 4000000 in
set_option maxRecDepth 100000 in
theorem h_X7_keep_n (l : Launch) (dC : Nat → ClassId) (dI : Nat → Nat → Nat) (cy : Nat → ClassId) (sz : Nat) (ad : Nat → Nat) (v : Nat → Nat → Int32) (hv : Iv v) : Met l yX7_keep wsX7_keep ({ frames := 4, cells := 106, slots := 695, locals := 256 }) (va_Pc [.ref (ad 0)] (ex_Pre dC dI cy sz (wl ad .null cy 119 v))) (va_Qi (fun (r : Int32) (u : (Nat → Nat) × (Nat → Nat → Int32)) => Iv u.2 ∧ u.1 0 = ad 0 ∧ Fb v u.2 ∧ r = 1) (fun u t => ex_Pst dC dI (va_A (wl ad .null cy 119 v) sz) (wl u.1 (.ref (u.1 119)) cy 225 u.2) t) (va_A (wl ad .null cy 119 v) sz)) 106 695 (va_A (wl ad .null cy 119 v) sz) := by
  refine Met.ofW (cc := cX7_keep) (maxL := 1) (ret := (some .int)) (by decide) rfl ?_
  intro p e s m args below meth c s₁ B hml hv
  obtain ⟨rfl, hsz, hE, hP, hK, hD0⟩ := hv
  have hx := B.exec
  have hb := B.bytes
  have hr := B.returns
  have hts := atoms_spec (ws := wsX7_keep) B.pre
  have hown : s.vm.findClass RX7 = some m.cls := findClass_of_methodNamed B.named
  have hlocks := B.notSynchronized
  subst hsz
  have hD := hD0.self (sz := s.heap.size)
  generalize hAe : va_A (wl ad .null cy 119 v) s.heap.size = A at hD ⊢
  have hA : ∀ q : Nat, s.heap.size ≤ q → A q := fun q h => by rw [← hAe]; exact Or.inr h
  have hS : va_S A s.heap s.heap [] := va_S.rf
  have hP : va_P (dC, dI) vwCl (wl ad .null cy 119 v) s.heap := hP
  have hl := lv_entry ([.ref (ad 0)]) (n := 1) (Nat.le_of_ble_eq_true rfl)
  rw [lg_entry_eq]
  generalize (lg_sl ([.ref (ad 0)]) ++ List.replicate (1 - (lg_sl ([.ref (ad 0)])).length) Slot.unset).toArray = ls at hl ⊢
  have hl : lv_has ls 1 [(0, .ref (ad 0))] := hl
  have hfr : Ft v v := Ft.rf
  refine lv_aload_n hx hb dX7_keep_0 rfl (lv_at hl 0 rfl) ?_
  refine va_get (D := (dC, dI)) (ci := 7) (v := .null) (C := RX7) (T := TX7) (N := 5) hx hb hts iwX7_keep_X7 hown hK hP (0) (wl_at (by omega) (ce_0 (by decide))) rfl 3 (by decide) (hts (.fieldLink RX7 30 "QuietStairs" "kept" "LQuietStairs$House;") fwX7_keep_1) (fun _ h9 => h9) rfl dX7_keep_1 ?_
  refine lv_ifnonnullN hx hb dX7_keep_4 ?_
  refine lv_aload_n hx hb dX7_keep_7 rfl (lv_at hl 0 rfl) ?_
  refine va_new (ci := 1) (fs := [.int 0, .int 0, .int 0, .int 0, .null, .null, .null]) (C := RX1) (T := TX1) (N := 7) hx hb hts iwX7_keep_X1 tyX1 tyX1_ok hown (hts (.classLink RX7 9 RX1) fwX7_keep_2) (hts (.instantiable RX1 7) fwX7_keep_3) (hts (.initialized RX1) fwX7_keep_4) hK hP hD hS hA rfl (fun j hj => by rcases (show j = 0 ∨ j = 1 ∨ j = 2 ∨ j = 3 ∨ j = 4 ∨ j = 5 ∨ j = 6 by omega) with rfl | rfl | rfl | rfl | rfl | rfl | rfl <;> rfl) (Nat.le_of_ble_eq_true rfl) (Nat.le_of_ble_eq_true rfl) dX7_keep_8 (fun h1 H hP hD hS => ?_)
  have hP : va_P (dC, dI) vwCl ((wl ad .null cy 119 v) ++ [(h1, .inr (1, [.int 0, .int 0, .int 0, .int 0, .null, .null, .null]))]) H := hP
  have hD : va_D A ((wl ad .null cy 119 v) ++ [(h1, .inr (1, [.int 0, .int 0, .int 0, .int 0, .null, .null, .null]))]) := hD
  refine W.widen (k := 1) (n := 7) (by omega) (by omega) ?_
  refine lv_dup hx hb dX7_keep_11 rfl ?_
  refine yt_v (X := wl ad .null cy 119 v) (x := (h1, .inr (1, [.int 0, .int 0, .int 0, .int 0, .null, .null, .null]))) (w1 := fun (u : Nat → Nat) => wH cy u) hP hD hS hA (va_runI (As := []) (rest := [.ref h1, .ref (ad 0)]) ⟨hx, hb, hml, hown, hts⟩ (c_X1_init l dC dI cy _ h1) (cwI 0 hts gX7_keep_X1_init rfl rfl rfl (hts (.initialized RX1) fwX7_keep_4) (hts (.methodLink RX7 11 yX1_init) fwX7_keep_6) (hts (.instanceMethod yX1_init) fwX7_keep_7) rfl (by decide +kernel) ⟨Nat.le_of_ble_eq_true rfl, Nat.le_of_ble_eq_true rfl⟩) (yt_pre hE hK hP hD) rfl rfl hl.1 rfl (lv_room (Nat.le_of_ble_eq_true rfl)) dX7_keep_12 ⟨Nat.le_of_ble_eq_true rfl, Nat.le_of_ble_eq_true rfl⟩) (fun uh H locs hw_u hP hD hS => ?_)
  have hP : va_P (dC, dI) vwCl ((wl ad .null cy 119 v) ++ wH cy uh) H := hP
  have hD : va_D A ((wl ad .null cy 119 v) ++ wH cy uh) := hD
  refine W.widen (k := 106) (n := 695) (by omega) (by omega) ?_
  have he0 : ((wl ad .null cy 119 v) ++ wH cy uh)[0]? = some (ad 0, .inr (7, [.ref (ad 13), .ref (ad 1), .ref (ad 10), .null, .int (v 0 4)])) := by rw [List.getElem?_append_left (by rw [wl_len]; decide)]; exact wl_at (by decide) (ce_0 (by decide))
  refine va_put (D := (dC, dI)) (ci := 7) (v := .ref h1) (ty := .object "QuietStairs$House") (C := RX7) (T := TX7) (N := 5) hx hb hts iwX7_keep_X7 tyX7 tyX7_ok nmX7 hown hK hP hD hS 0 he0 rfl 3 (by decide) (hts (.fieldLink RX7 30 "QuietStairs" "kept" "LQuietStairs$House;") fwX7_keep_1) (fun _ h9 => h9) rfl (by decide +kernel) rfl rfl (Nat.le_of_ble_eq_true rfl) dX7_keep_15 (fun H locs hP hD hS => ?_)
  obtain ⟨ad2, v2, al, vl, vh, hP, hD⟩ := keep_wl (k0 := h1) hw_u hP hD
  have hv2 : Iv v2 := Iv_k hv vl vh
  have a0 : ad2 0 = ad 0 := al 0 (by decide)
  rw [← a0] at hl
  refine lv_aload_n hx hb dX7_keep_18 rfl (lv_at hl 0 rfl) ?_
  refine va_get (D := (dC, dI)) (ci := 7) (v := .ref (ad2 119)) (C := RX7) (T := TX7) (N := 5) hx hb hts iwX7_keep_X7 hown hK hP (0) (wl_at (by omega) (ce_0 (by decide))) rfl 3 (by decide) (hts (.fieldLink RX7 30 "QuietStairs" "kept" "LQuietStairs$House;") fwX7_keep_1) (fun _ h9 => h9) rfl dX7_keep_19 ?_
  refine lv_aload_n hx hb dX7_keep_22 rfl (lv_at hl 0 rfl) ?_
  refine va_get (D := (dC, dI)) (ci := 7) (v := .ref (ad2 13)) (C := RX7) (T := TX7) (N := 5) hx hb hts iwX7_keep_X7 hown hK hP (0) (wl_at (by omega) (ce_0 (by decide))) rfl 0 (by decide) (hts (.fieldLink RX7 12 "QuietStairs" "now" "LQuietStairs$House;") fwX7_keep_5) (fun _ h9 => h9) rfl dX7_keep_23 ?_
  refine yw_v (w1 := fun (u : Nat → Nat → Int32) => wl ad2 (.ref (ad2 119)) cy 225 u) hD hS hA (va_runV (As := [.ref (ad2 13)]) (rest := []) ⟨hx, hb, hml, hown, hts⟩ (h_X1_copyFrom_b l dC dI cy _ ad2 (.ref (ad2 119)) 225 (by decide) v2 hv2 (by decide)) (cwV 1 hts gX7_keep_X1_copyFrom rfl rfl rfl hd_V_X1_copyFrom_1 ⟨Nat.le_of_ble_eq_true rfl, Nat.le_of_ble_eq_true rfl⟩) (yw_preV hE hK hP hD (ci := 1) (q0 := 119) rfl (wl_at (by omega) (ce_3 (by decide)))) rfl rfl hl.1 rfl (lv_room (Nat.le_of_ble_eq_true rfl)) dX7_keep_26 ⟨Nat.le_of_ble_eq_true rfl, Nat.le_of_ble_eq_true rfl⟩) (fun v3 H locs hw_3 hP hD hS => ?_)
  refine lv_iconst (v := 1) hx hb dX7_keep_29 (by decide) ?_
  refine W.widen (k := 106) (n := 695) (by omega) (by omega) ?_
  exact W.iret (v := 1) hx hb hr (fun t ht hW => ⟨⟨1, (ad2, v3), rfl, ⟨hw_3.1, a0, ⟨hw_3.2.1.trans (congrFun (vl 13 (by decide)) 0), hw_3.2.2.1.trans (congrFun (vl 13 (by decide)) 1), hw_3.2.2.2.1.trans (congrFun (vl 13 (by decide)) 0), hw_3.2.2.2.2.1.trans (congrFun (vl 13 (by decide)) 1), hw_3.2.2.2.2.2.trans (congrFun (vl 0 (by decide)) 4)⟩, rfl⟩, by rw [ht]; exact hP, hD⟩, hS.F ht⟩) hS.2.2 dX7_keep_30

/-- counts and rooms are alike on both sides; n: whether something is kept -/
def JJ (n : Int32) (v v2 : Nat → Nat → Int32) : Prop := v 13 0 = v2 1 0 ∧ v 13 1 = v2 1 1 ∧ v 0 4 = v2 0 3 ∧ v2 0 2 = n ∧ (n = 1 → v 119 0 = v2 2 0 ∧ v 119 1 = v2 2 1)
section JR
variable {n : Int32} {v v2 u u2 : Nat → Nat → Int32} {r r2 x0 x1 : Int32}
theorem JJ.mv (h : JJ n v v2) (f : Fr v u) (g : Fk v2 u2) : JJ n u u2 := by
  obtain ⟨h1, h2, h3, h4, h5⟩ := h
  obtain ⟨f1, f2, f3, f4, f5⟩ := f
  obtain ⟨g1, g2, g3, g4, g5⟩ := g
  refine ⟨by rw [f1, g1, h1], by rw [f2, g2, h2], by rw [f3, g5, h3], by rw [g4, h4], fun q => ?_⟩
  obtain ⟨a, b⟩ := h5 q
  rw [f4, f5, g3]
  exact ⟨a, b⟩
theorem Fk_e (h : u2 = v2) : Fk v2 u2 := by
  rw [h]
  exact Fk.rf
theorem J_party (hv : Iv v) (h : JJ n v v2) (p : ((¬ ((0 ≤ x0.toInt ∧ x0.toInt ≤ 9) ∧ 0 ≤ x1.toInt ∧ x1.toInt ≤ 2) ∧ r = -1 ∧ u = v) ∨ (((0 ≤ x0.toInt ∧ x0.toInt ≤ 9) ∧ 0 ≤ x1.toInt ∧ x1.toInt ≤ 2) ∧ 8 ≤ (v 13 0).toInt ∧ r = -2 ∧ u = v) ∨ (((0 ≤ x0.toInt ∧ x0.toInt ≤ 9) ∧ 0 ≤ x1.toInt ∧ x1.toInt ≤ 2) ∧ (v 13 0).toInt < 8 ∧ r = v 13 0 ∧ u 13 0 = v 13 0 + 1 ∧ u 13 1 = v 13 1 ∧ u 0 4 = v 0 4 ∧ u 119 0 = v 119 0 ∧ u 119 1 = v 119 1))) (q : ((¬ ((0 ≤ x0.toInt ∧ x0.toInt ≤ 9) ∧ 0 ≤ x1.toInt ∧ x1.toInt ≤ 2) ∧ r2 = -1 ∧ u2 = v2) ∨ (((0 ≤ x0.toInt ∧ x0.toInt ≤ 9) ∧ 0 ≤ x1.toInt ∧ x1.toInt ≤ 2) ∧ (v2 1 0).toInt = 8 ∧ r2 = -2 ∧ u2 = v2) ∨ (((0 ≤ x0.toInt ∧ x0.toInt ≤ 9) ∧ 0 ≤ x1.toInt ∧ x1.toInt ≤ 2) ∧ (v2 1 0).toInt ≠ 8 ∧ r2 = v2 1 0 ∧ u2 1 0 = v2 1 0 + 1 ∧ u2 1 1 = v2 1 1 ∧ u2 2 = v2 2 ∧ u2 0 = v2 0))) : r = r2 ∧ JJ n u u2 := by
  have hb := hv.at (k := 13) (j := 0) (K := 3) (by decide) rfl
  have e := congrArg Int32.toInt h.1
  rcases p with ⟨p1, p2, p3⟩ | ⟨p1, p2, p3, p4⟩ | ⟨p1, p2, p3, p4, p5, p6, p7, p8⟩ <;> rcases q with ⟨q1, q2, q3⟩ | ⟨q1, q2, q3, q4⟩ | ⟨q1, q2, q3, q4, q5, q6, q7⟩
  · rw [p2, q2, p3, q3]
    exact ⟨rfl, h⟩
  · exact absurd q1 p1
  · exact absurd q1 p1
  · exact absurd p1 q1
  · rw [p3, q3, p4, q4]
    exact ⟨rfl, h⟩
  · exact absurd q2 (by omega)
  · exact absurd p1 q1
  · exact absurd q2 (by omega)
  · refine ⟨by rw [p3, q3, h.1], by rw [p4, q4, h.1], by rw [p5, q5, h.2.1], by rw [p6, q7, h.2.2.1], by rw [q7]; exact h.2.2.2.1, fun z => ?_⟩
    rw [p7, p8, q6]
    exact h.2.2.2.2 z
theorem J_mediator (hv : Iv v) (h : JJ n v v2) (p : ((¬ ((0 ≤ x0.toInt ∧ x0.toInt ≤ 9) ∧ 1 ≤ x1.toInt ∧ x1.toInt ≤ 7) ∧ r = -1 ∧ u = v) ∨ (((0 ≤ x0.toInt ∧ x0.toInt ≤ 9) ∧ 1 ≤ x1.toInt ∧ x1.toInt ≤ 7) ∧ 4 ≤ (v 13 1).toInt ∧ r = -2 ∧ u = v) ∨ (((0 ≤ x0.toInt ∧ x0.toInt ≤ 9) ∧ 1 ≤ x1.toInt ∧ x1.toInt ≤ 7) ∧ (v 13 1).toInt < 4 ∧ r = v 13 1 ∧ u 13 1 = v 13 1 + 1 ∧ u 13 0 = v 13 0 ∧ u 0 4 = v 0 4 ∧ u 119 0 = v 119 0 ∧ u 119 1 = v 119 1))) (q : ((¬ ((0 ≤ x0.toInt ∧ x0.toInt ≤ 9) ∧ 1 ≤ x1.toInt ∧ x1.toInt ≤ 7) ∧ r2 = -1 ∧ u2 = v2) ∨ (((0 ≤ x0.toInt ∧ x0.toInt ≤ 9) ∧ 1 ≤ x1.toInt ∧ x1.toInt ≤ 7) ∧ (v2 1 1).toInt = 4 ∧ r2 = -2 ∧ u2 = v2) ∨ (((0 ≤ x0.toInt ∧ x0.toInt ≤ 9) ∧ 1 ≤ x1.toInt ∧ x1.toInt ≤ 7) ∧ (v2 1 1).toInt ≠ 4 ∧ r2 = v2 1 1 ∧ u2 1 1 = v2 1 1 + 1 ∧ u2 1 0 = v2 1 0 ∧ u2 2 = v2 2 ∧ u2 0 = v2 0))) : r = r2 ∧ JJ n u u2 := by
  have hb := hv.at (k := 13) (j := 1) (K := 3) (by decide) rfl
  have e := congrArg Int32.toInt h.2.1
  rcases p with ⟨p1, p2, p3⟩ | ⟨p1, p2, p3, p4⟩ | ⟨p1, p2, p3, p4, p5, p6, p7, p8⟩ <;> rcases q with ⟨q1, q2, q3⟩ | ⟨q1, q2, q3, q4⟩ | ⟨q1, q2, q3, q4, q5, q6, q7⟩
  · rw [p2, q2, p3, q3]
    exact ⟨rfl, h⟩
  · exact absurd q1 p1
  · exact absurd q1 p1
  · exact absurd p1 q1
  · rw [p3, q3, p4, q4]
    exact ⟨rfl, h⟩
  · exact absurd q2 (by omega)
  · exact absurd p1 q1
  · exact absurd q2 (by omega)
  · refine ⟨by rw [p3, q3, h.2.1], by rw [p5, q5, h.1], by rw [p4, q4, h.2.1], by rw [p6, q7, h.2.2.1], by rw [q7]; exact h.2.2.2.1, fun z => ?_⟩
    rw [p7, p8, q6]
    exact h.2.2.2.2 z
theorem J_rooms (h : JJ n v v2) (p : ((¬ (1 ≤ x0.toInt ∧ x0.toInt ≤ 2) ∧ r = -1 ∧ u = v) ∨ ((1 ≤ x0.toInt ∧ x0.toInt ≤ 2) ∧ r = v 0 4 ∧ u 0 4 = x0 ∧ u 13 = v 13 ∧ u 119 = v 119))) (q : ((¬ (1 ≤ x0.toInt ∧ x0.toInt ≤ 2) ∧ r2 = -1 ∧ u2 = v2) ∨ ((1 ≤ x0.toInt ∧ x0.toInt ≤ 2) ∧ r2 = v2 0 3 ∧ u2 0 3 = x0 ∧ u2 1 = v2 1 ∧ u2 2 = v2 2 ∧ u2 0 2 = v2 0 2))) : r = r2 ∧ JJ n u u2 := by
  rcases p with ⟨p1, p2, p3⟩ | ⟨p1, p2, p3, p4, p5⟩ <;> rcases q with ⟨q1, q2, q3⟩ | ⟨q1, q2, q3, q4, q5, q6⟩
  · rw [p2, q2, p3, q3]
    exact ⟨rfl, h⟩
  · exact absurd q1 p1
  · exact absurd p1 q1
  · refine ⟨by rw [p2, q2, h.2.2.1], by rw [p4, q4, h.1], by rw [p4, q4, h.2.1], by rw [p3, q3], by rw [q6]; exact h.2.2.2.1, fun z => ?_⟩
    rw [p5, q5]
    exact h.2.2.2.2 z
theorem J_back (h : JJ n v v2) (p : Fr v u ∧ r = -5) (q : (((v2 0 2).toInt = 0 ∧ u2 = v2 ∧ r2 = -5) ∨ ((v2 0 2).toInt = 1 ∧ (∀ j : Nat, j < 596 → u2 1 j = v2 2 j) ∧ u2 2 = v2 2 ∧ u2 0 = v2 0 ∧ r2 = 1))) (hn : n = 0) : r = -5 ∧ r2 = -5 ∧ JJ n u u2 := by
  rcases q with ⟨q1, q2, q3⟩ | ⟨q1, -⟩
  · exact ⟨p.2, q3, h.mv p.1 (Fk_e q2)⟩
  · rw [h.2.2.2.1, hn] at q1
    exact absurd q1 (by decide)
theorem J_back1 (h : JJ n v v2) (p : Fa v u ∧ r = 1) (q : (((v2 0 2).toInt = 0 ∧ u2 = v2 ∧ r2 = -5) ∨ ((v2 0 2).toInt = 1 ∧ (∀ j : Nat, j < 596 → u2 1 j = v2 2 j) ∧ u2 2 = v2 2 ∧ u2 0 = v2 0 ∧ r2 = 1))) (hn : n = 1) : r = 1 ∧ r2 = 1 ∧ JJ n u u2 := by
  rcases q with ⟨q1, -⟩ | ⟨q1, q2, q3, q4, q5⟩
  · rw [h.2.2.2.1, hn] at q1
    exact absurd q1 (by decide)
  · obtain ⟨p1, p2, p3, p4, p5⟩ := p.1
    obtain ⟨a, b⟩ := h.2.2.2.2 hn
    refine ⟨p.2, q5, by rw [p1, q2 0 (by decide), a], by rw [p2, q2 1 (by decide), b], by rw [p5, q4, h.2.2.1], by rw [q4]; exact h.2.2.2.1, fun z => ?_⟩
    rw [p3, p4, q3]
    exact ⟨a, b⟩
theorem J_keep (h : JJ n v v2) (p : Fb v u) (q2 : ∀ j : Nat, j < 596 → u2 2 j = v2 1 j) (q3 : u2 1 = v2 1) (q4 : u2 0 2 = 1) (q5 : u2 0 3 = v2 0 3) : JJ 1 u u2 := by
  obtain ⟨p1, p2, p3, p4, p5⟩ := p
  refine ⟨by rw [p3, q3, h.1], by rw [p4, q3, h.2.1], by rw [p5, q5, h.2.2.1], q4, fun z => ?_⟩
  rw [p1, p2, q2 0 (by decide), q2 1 (by decide), h.1, h.2.1]
  exact ⟨rfl, rfl⟩
theorem JJ_0 : JJ 0 v_0 m_0 := ⟨rfl, rfl, rfl, rfl, fun q => absurd q (by decide)⟩
end JR
