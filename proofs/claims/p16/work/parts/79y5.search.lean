
set_option maxHeartbeats 4000000 in
set_option maxRecDepth 100000 in
theorem e_X4_searchDay_1 (l : Launch) (dC : Nat → ClassId) (dI : Nat → Nat → Nat) (cy : Nat → ClassId) (sz : Nat) (ad : Nat → Nat) (kv : Value) (N : Nat) (hN : 119 ≤ N) (v : Nat → Nat → Int32) (hv : Iv v) (x0 x1 x2 : Int32) (hs : 3 ≤ x0.toInt ∧ x0.toInt ≤ 3) (ht : 0 ≤ x2.toInt ∧ x2.toInt ≤ 2) (wt : Int) (hsc : SC v x0.toNatClampNeg wt) (hd : x0.toInt < (v 1 1).toInt) (hw : x1.toInt = wt + (v 3 x0.toNatClampNeg).toInt * x2.toInt) (h9 : (v 9 x2.toNatClampNeg).toInt < (v 1 2).toInt) (t1 t2 : Nat) : Met l yX4_searchDay wsX4_searchDay ({ frames := 2, cells := 0, slots := 0, locals := 128 }) (va_Pc [.ref (ad 1), .int x0, .int x1, .int x2] (ex_PreT dC dI cy sz (wl ad kv cy N v) t1 t2)) (va_Qv (fun (u : Nat → Nat → Int32) => Iv u ∧ SDI v u x0.toNatClampNeg x2.toNatClampNeg 6) (fun u t => ex_Pst dC dI (va_A (wl ad kv cy N v) sz) (wl ad kv cy N u) t) (va_A (wl ad kv cy N v) sz)) 0 0 (va_A (wl ad kv cy N v) sz) := by
  refine Met.ofW (cc := cX4_searchDay) (maxL := 6) (ret := none) (by decide) rfl ?_
  intro p e s m args below meth c s₁ B hml hv
  obtain ⟨rfl, ⟨hsz, hE, hP, hK, hD0⟩, hSt⟩ := hv
  have hx := B.exec
  have hb := B.bytes
  have hr := B.returns
  have hts := atoms_spec (ws := wsX4_searchDay) B.pre
  have hown : s.vm.findClass RX4 = some m.cls := findClass_of_methodNamed B.named
  have hlocks := B.notSynchronized
  subst hsz
  have hD := hD0.self (sz := s.heap.size)
  generalize hAe : va_A (wl ad kv cy N v) s.heap.size = A at hD hSt ⊢
  have hA : ∀ q : Nat, s.heap.size ≤ q → A q := fun q h => by rw [← hAe]; exact Or.inr h
  have hS : va_S A s.heap s.heap [] := va_S.rf
  have hP : va_P (dC, dI) vwCl (wl ad kv cy N v) s.heap := hP
  have hl := lv_entry ([.ref (ad 1), .int x0, .int x1, .int x2]) (n := 6) (Nat.le_of_ble_eq_true rfl)
  rw [lg_entry_eq]
  generalize (lg_sl ([.ref (ad 1), .int x0, .int x1, .int x2]) ++ List.replicate (6 - (lg_sl ([.ref (ad 1), .int x0, .int x1, .int x2])).length) Slot.unset).toArray = ls at hl ⊢
  have hl : lv_has ls 6 [(0, .ref (ad 1)), (1, .int x0), (2, .int x1), (3, .int x2)] := hl
  have zn_x0 : (x0.toNatClampNeg : Int) = x0.toInt := t_nn (by omega)
  have zn_x2 : (x2.toNatClampNeg : Int) = x2.toInt := t_nn (by omega)
  have hx1 := SC_b hsc
  have k_0 : (0 : Int32).toInt = 0 := by decide
  have hd9 : x0.toNatClampNeg < plm v := by have z := t_nn (x := v 1 1) (by omega); show _ < (v 1 1).toNatClampNeg; omega
  refine lv_iconst (v := 0) hx hb dX4_searchDay_0 (by decide) ?_
  refine lv_istore (lv' := [(4, .int 0), (0, .ref (ad 1)), (1, .int x0), (2, .int x1), (3, .int x2)]) hx hb dX4_searchDay_1 hl (by decide) rfl (fun ls hl => ?_)
  have hc_1 : ∀ (n : Nat) (y1_4 : Int32) (u1 : Nat → Nat → Int32) (H : Heap) (locs : List Loc), 0 ≤ y1_4.toInt → y1_4.toInt ≤ 6 → (SDI v u1 x0.toNatClampNeg x2.toNatClampNeg y1_4.toNatClampNeg) → (6 - y1_4.toInt).toNat < n → Iv u1 → va_P (dC, dI) vwCl (wl ad kv cy N u1) H → va_D A (wl ad kv cy N u1) → va_S A s.heap H locs → ∀ ls : Array Slot, lv_has ls 6 [(4, .int y1_4), (0, .ref (ad 1)), (1, .int x0), (2, .int x1), (3, .int x2)] → W p l e (headSpec wsX4_searchDay ({ frames := 2, cells := 0, slots := 0, locals := 128 })).room s m [Value.ref (ad 1), Value.int x0, Value.int x1, Value.int x2].toArray below meth c H locs 0 0 (MQ below (va_Qv (fun (u : Nat → Nat → Int32) => Iv u ∧ SDI v u x0.toNatClampNeg x2.toNatClampNeg 6) (fun u t => ex_Pst dC dI A (wl ad kv cy N u) t) A) [Value.ref (ad 1), Value.int x0, Value.int x1, Value.int x2].toArray s 0 0 A) (F0 m 3 ls []) := by
    intro n
    induction n with
    | zero =>
      intro y1_4 u1 H locs ay1_4 by1_4 hi1_0 hm_1 hv hP hD hS ls hl
      exact absurd hm_1 (by omega)
    | succ n ih_1 =>
      intro y1_4 u1 H locs ay1_4 by1_4 hi1_0 hm_1 hv hP hD hS ls hl
      refine lv_iload hx hb dX4_searchDay_3 (lv_at hl 0 rfl) ?_
      refine lv_bipush (v := 6) hx hb dX4_searchDay_5 (by decide) ?_
      have k_6 : (6 : Int32).toInt = 6 := by decide
      refine lv_icmp_ge (tgt := 124) hx hb dX4_searchDay_7 (by decide) (fun c_2 => ?_) (fun c_2 => ?_)
      · have tc_2 : y1_4.toInt ≥ (6 : Int32).toInt := Int32.le_iff_toInt_le.mp c_2
        exact W.vret hx hb hr (fun t ht hW => ⟨⟨u1, rfl, ⟨hv, by have q9 := hi1_0; rw [show y1_4.toNatClampNeg = 6 from by have z9 := t_nn (x := y1_4) (by omega); omega] at q9; exact q9⟩, by rw [ht]; exact hP, hD⟩, hS.F ht⟩) hS.2.2 dX4_searchDay_124
      · have tc_2 : y1_4.toInt < (6 : Int32).toInt := Int32.lt_iff_toInt_lt.mp (Int32.not_le.mp c_2)
        refine lv_iconst (v := 1) hx hb dX4_searchDay_10 (by decide) ?_
        refine va_getsN hx hb hSt.2.1 hS hown (va_Nw.use rfl hE.2.2.2.2.2.2.2.2.2.2.2.2.2.2.2.1) (fun _ h => h) dX4_searchDay_11 ?_
        refine lv_iload hx hb dX4_searchDay_14 (lv_at hl 0 rfl) ?_
        have zn_y1_4 : (y1_4.toNatClampNeg : Int) = y1_4.toInt := t_nn (by omega)
        have hx_3 : y1_4.toNatClampNeg < 6 := by omega
        refine va_ti (v := .int (st_l y1_4.toNatClampNeg)) hx hb hSt.2.2 hS (vp_in_iff.mpr ⟨by omega, by omega⟩) rfl dX4_searchDay_16 ?_
        refine lv_topi (fun x_4 ex_4 => ?_)
        have bzx_4 : 0 ≤ x_4.toInt ∧ x_4.toInt ≤ 3 := by rw [ex_4]; exact (st_b _).2
        refine lv_ishl hx hb dX4_searchDay_17 ?_
        refine lv_topi (fun x_5 ex_5 => ?_)
        refine lv_iconst (v := 1) hx hb dX4_searchDay_18 (by decide) ?_
        refine va_getsN hx hb hSt.1.1 hS hown (va_Nw.use rfl hE.2.2.2.2.2.2.2.2.2.2.2.2.2.2.2.2) (fun _ h => h) dX4_searchDay_19 ?_
        refine lv_iload hx hb dX4_searchDay_22 (lv_at hl 0 rfl) ?_
        refine va_ti (v := .int (st_o y1_4.toNatClampNeg)) hx hb hSt.1.2 hS (vp_in_iff.mpr ⟨by omega, by omega⟩) rfl dX4_searchDay_24 ?_
        refine lv_topi (fun x_6 ex_6 => ?_)
        have bzx_6 : 0 ≤ x_6.toInt ∧ x_6.toInt ≤ 3 := by rw [ex_6]; exact (st_b _).1
        refine lv_ishl hx hb dX4_searchDay_25 ?_
        refine lv_topi (fun x_7 ex_7 => ?_)
        refine lv_ior hx hb dX4_searchDay_26 ?_
        refine lv_topi (fun x_8 ex_8 => ?_)
        have hsit : x_8 = sit y1_4.toNatClampNeg := by unfold sit; rw [ex_8, ex_5, ex_4, ex_7, ex_6]
        refine lv_istore (lv' := [(5, .int x_8), (4, .int y1_4), (0, .ref (ad 1)), (1, .int x0), (2, .int x1), (3, .int x2)]) hx hb dX4_searchDay_27 hl (by decide) rfl (fun ls hl => ?_)
        refine lv_aload_n hx hb dX4_searchDay_29 rfl (lv_at hl 2 rfl) ?_
        refine va_get (D := (dC, dI)) (ci := 4) (v := .ref (ad 4)) (C := RX4) (T := TX4) (N := 11) hx hb hts (by decide +kernel) hown hK hP (1) (wl_at (by omega) (ce_1 (by decide))) rfl 5 (by decide) (hts (.fieldLink RX4 18 "QuietStairs$Planner" "pairBits" "[I") (by decide +kernel)) (fun _ h9 => h9) rfl dX4_searchDay_30 ?_
        refine lv_iload_n hx hb dX4_searchDay_33 rfl (lv_at hl 3 rfl) ?_
        have hx_9 : x0.toNatClampNeg < 4 := by omega
        refine va_iald hx hb hK hP (4) 0 (wl_at (by omega) (ce_17 (by decide))) rfl (vp_in_iff.mpr ⟨by omega, by omega⟩) dX4_searchDay_34 ?_
        refine lv_topi (fun x_10 ex_10 => ?_)
        have qx_10 : x_10.toInt = (u1 (4) (x0.toNatClampNeg)).toInt := congrArg Int32.toInt ex_10
        refine lv_iload hx hb dX4_searchDay_35 (lv_at hl 1 rfl) ?_
        refine yc_p hP hS (va_runSN (As := [.int x_10, .int y1_4]) (rest := []) ⟨hx, hb, hml, hown, hts⟩ (e_X7_hasBit l x_10 y1_4) ⟨va_cnB 2 hts gX4_searchDay_X7_hasBit_n115 rfl rfl rfl hE.2.2.2.2.2.2.2.2.2.2.2.1 (hts (.initialized RX7) (by decide +kernel)) (by decide +kernel) ⟨Nat.le_of_ble_eq_true rfl, Nat.le_of_ble_eq_true rfl⟩, (hts (.static yX7_hasBit) (by decide +kernel)), trivial⟩ ex_preP rfl rfl hl.1 rfl (lv_room (Nat.le_of_ble_eq_true rfl)) dX4_searchDay_37 ⟨Nat.le_of_ble_eq_true rfl, Nat.le_of_ble_eq_true rfl⟩) (fun r_11 H locs hw_11 hP hS => ?_)
        rcases hw_11 with ⟨rfl, hh_12⟩ | ⟨rfl, hh_12⟩
        · refine lv_if_eq (tgt := 118) hx hb dX4_searchDay_40 (by decide) (fun c9 => absurd c9 (by decide)) (fun _ => ?_)
          refine lv_aload_n hx hb dX4_searchDay_43 rfl (lv_at hl 2 rfl) ?_
          refine va_get (D := (dC, dI)) (ci := 4) (v := .ref (ad 8)) (C := RX4) (T := TX4) (N := 11) hx hb hts (by decide +kernel) hown hK hP (1) (wl_at (by omega) (ce_1 (by decide))) rfl 9 (by decide) (hts (.fieldLink RX4 30 "QuietStairs$Planner" "busyBits" "[I") (by decide +kernel)) (fun _ h9 => h9) rfl dX4_searchDay_44 ?_
          refine lv_iload_n hx hb dX4_searchDay_47 rfl (lv_at hl 5 rfl) ?_
          have hx_13 : x2.toNatClampNeg < 3 := by omega
          refine va_iald hx hb hK hP (8) 0 (wl_at (by omega) (ce_18 (by decide))) rfl (vp_in_iff.mpr ⟨by omega, by omega⟩) dX4_searchDay_48 ?_
          refine lv_topi (fun x_14 ex_14 => ?_)
          have qx_14 : x_14.toInt = (u1 (8) (x2.toNatClampNeg)).toInt := congrArg Int32.toInt ex_14
          refine lv_iload hx hb dX4_searchDay_49 (lv_at hl 0 rfl) ?_
          refine lv_iand hx hb dX4_searchDay_51 ?_
          refine lv_topi (fun x_15 ex_15 => ?_)
          refine lv_if_ne (tgt := 118) hx hb dX4_searchDay_52 (by decide) (fun c_16 => ?_) (fun c_16 => ?_)
          · have tc_16 : x_15.toInt ≠ (0 : Int32).toInt := fun q => absurd (Int32.toInt_inj.mp q) c_16
            obtain ⟨x_17, ex_17⟩ : ∃ y : Int32, y = y1_4 + 1 := ⟨_, rfl⟩
            refine lv_iinc (v := x_17) (lv' := [(4, .int x_17), (5, .int x_8), (0, .ref (ad 1)), (1, .int x0), (2, .int x1), (3, .int x2)]) hx hb dX4_searchDay_118 hl (k := 1) rfl (by rw [ex_17]; rfl) (by decide) rfl (fun ls hl => ?_)
            have k_1 : (1 : Int32).toInt = 1 := by decide
            have tx_17 : x_17.toInt = y1_4.toInt + (1 : Int32).toInt := by rw [ex_17]; exact t_add ⟨by omega, by omega⟩
            refine lv_goto (tgt := 3) hx hb dX4_searchDay_121 (by decide) ?_
            have zn_x_17 : (x_17.toNatClampNeg : Int) = x_17.toInt := t_nn (by omega)
            exact ih_1 x_17 u1 _ _ (by omega) (by omega) (SDI_no hsc hd9 (by omega) (by omega) hi1_0 (Or.inr (fun q => by rw [← ex_14, ← hsit, ← ex_15] at q; have z9 := congrArg Int32.toInt q; omega)) (by omega)) (by omega) hv hP hD hS ls (lv_sub hl [0, 2, 3, 4, 5] rfl)
          · have tc_16 : x_15.toInt = (0 : Int32).toInt := by rw [c_16]
            refine lv_aload_n hx hb dX4_searchDay_55 rfl (lv_at hl 2 rfl) ?_
            refine va_get (D := (dC, dI)) (ci := 4) (v := .ref (ad 6)) (C := RX4) (T := TX4) (N := 11) hx hb hts (by decide +kernel) hown hK hP (1) (wl_at (by omega) (ce_1 (by decide))) rfl 7 (by decide) (hts (.fieldLink RX4 24 "QuietStairs$Planner" "seats" "[I") (by decide +kernel)) (fun _ h9 => h9) rfl dX4_searchDay_56 ?_
            refine lv_iload_n hx hb dX4_searchDay_59 rfl (lv_at hl 3 rfl) ?_
            refine lv_bipush (v := 6) hx hb dX4_searchDay_60 (by decide) ?_
            refine lv_iload_n hx hb dX4_searchDay_62 rfl (lv_at hl 5 rfl) ?_
            refine lv_imul hx hb dX4_searchDay_63 ?_
            refine lv_topi (fun x_17 ex_17 => ?_)
            have tx_17 : x_17.toInt = 6 * x2.toInt := by rw [ex_17, t_mul (by rw [k_6]; omega), k_6]
            refine lv_iload hx hb dX4_searchDay_64 (lv_at hl 1 rfl) ?_
            refine lv_iadd hx hb dX4_searchDay_66 ?_
            refine lv_topi (fun x_18 ex_18 => ?_)
            have tx_18 : x_18.toInt = x_17.toInt + y1_4.toInt := by rw [ex_18]; exact t_add ⟨by omega, by omega⟩
            refine va_iast hx hb hK hP hD hS (6) 0 (wl_at (by omega) (ce_17 (by decide))) rfl (vp_in_iff.mpr ⟨by omega, by omega⟩) dX4_searchDay_67 (fun H locs hP hD hS => ?_)
            obtain ⟨v_19, ev_19⟩ : ∃ u : Nat → Nat → Int32, u = upr u1 (6) (upd (u1 (6)) (x0.toNatClampNeg) x_18) := ⟨_, rfl⟩
            have hP : va_P (dC, dI) vwCl (wl ad kv cy N v_19) H := by rw [ev_19, ← wl_put (e := _) (ce_17 (by decide))]; exact hP
            have hD : va_D A (wl ad kv cy N v_19) := by rw [ev_19, ← wl_put (e := _) (ce_17 (by decide))]; exact hD
            have hv : Iv v_19 := by rw [ev_19]; exact hv.put (K := 17) (by decide) (fun h q => by simp [bd] at q)
            refine lv_aload_n hx hb dX4_searchDay_68 rfl (lv_at hl 2 rfl) ?_
            refine va_get (D := (dC, dI)) (ci := 4) (v := .ref (ad 8)) (C := RX4) (T := TX4) (N := 11) hx hb hts (by decide +kernel) hown hK hP (1) (wl_at (by omega) (ce_1 (by decide))) rfl 9 (by decide) (hts (.fieldLink RX4 30 "QuietStairs$Planner" "busyBits" "[I") (by decide +kernel)) (fun _ h9 => h9) rfl dX4_searchDay_69 ?_
            refine lv_iload_n hx hb dX4_searchDay_72 rfl (lv_at hl 5 rfl) ?_
            refine lv_dup2_11 hx hb dX4_searchDay_73 rfl rfl ?_
            refine va_iald hx hb hK hP (8) 0 (wl_at (by omega) (ce_18 (by decide))) rfl (vp_in_iff.mpr ⟨by omega, by omega⟩) dX4_searchDay_74 ?_
            refine lv_topi (fun x_20 ex_20 => ?_)
            rw [ev_19, upr_n (by omega)] at ex_20
            obtain rfl : x_14 = x_20 := (ex_20.trans ex_14.symm).symm
            refine lv_iload hx hb dX4_searchDay_75 (lv_at hl 0 rfl) ?_
            refine lv_ior hx hb dX4_searchDay_77 ?_
            refine lv_topi (fun x_21 ex_21 => ?_)
            refine va_iast hx hb hK hP hD hS (8) 0 (wl_at (by omega) (ce_18 (by decide))) rfl (vp_in_iff.mpr ⟨by omega, by omega⟩) dX4_searchDay_78 (fun H locs hP hD hS => ?_)
            obtain ⟨v_22, ev_22⟩ : ∃ u : Nat → Nat → Int32, u = upr v_19 (8) (upd (v_19 (8)) (x2.toNatClampNeg) x_21) := ⟨_, rfl⟩
            have hP : va_P (dC, dI) vwCl (wl ad kv cy N v_22) H := by rw [ev_22, ← wl_put (e := _) (ce_18 (by decide))]; exact hP
            have hD : va_D A (wl ad kv cy N v_22) := by rw [ev_22, ← wl_put (e := _) (ce_18 (by decide))]; exact hD
            have hv : Iv v_22 := by rw [ev_22]; exact hv.put (K := 18) (by decide) (fun h q => by simp [bd] at q)
            refine lv_aload_n hx hb dX4_searchDay_79 rfl (lv_at hl 2 rfl) ?_
            refine va_get (D := (dC, dI)) (ci := 4) (v := .ref (ad 9)) (C := RX4) (T := TX4) (N := 11) hx hb hts (by decide +kernel) hown hK hP (1) (wl_at (by omega) (ce_1 (by decide))) rfl 10 (by decide) (hts (.fieldLink RX4 33 "QuietStairs$Planner" "sittings" "[I") (by decide +kernel)) (fun _ h9 => h9) rfl dX4_searchDay_80 ?_
            refine lv_iload_n hx hb dX4_searchDay_83 rfl (lv_at hl 5 rfl) ?_
            refine lv_dup2_11 hx hb dX4_searchDay_84 rfl rfl ?_
            refine va_iald hx hb hK hP (9) 0 (wl_at (by omega) (ce_18 (by decide))) rfl (vp_in_iff.mpr ⟨by omega, by omega⟩) dX4_searchDay_85 ?_
            refine lv_topi (fun x_23 ex_23 => ?_)
            rw [ev_22, upr_n (by omega), ev_19, upr_n (by omega)] at ex_23
            have qx_23 : x_23.toInt = (u1 (9) (x2.toNatClampNeg)).toInt := congrArg Int32.toInt ex_23
            have hs9 : 0 ≤ x_23.toInt ∧ x_23.toInt ≤ 4 := by rw [ex_23]; exact SC_9 (SC_fr hsc hi1_0.1.1) _ (by omega)
            refine lv_iconst (v := 1) hx hb dX4_searchDay_86 (by decide) ?_
            refine lv_iadd hx hb dX4_searchDay_87 ?_
            refine lv_topi (fun x_24 ex_24 => ?_)
            have k_1 : (1 : Int32).toInt = 1 := by decide
            have tx_24 : x_24.toInt = x_23.toInt + (1 : Int32).toInt := by rw [ex_24]; exact t_add ⟨by omega, by omega⟩
            refine va_iast hx hb hK hP hD hS (9) 0 (wl_at (by omega) (ce_18 (by decide))) rfl (vp_in_iff.mpr ⟨by omega, by omega⟩) dX4_searchDay_88 (fun H locs hP hD hS => ?_)
            obtain ⟨v_25, ev_25⟩ : ∃ u : Nat → Nat → Int32, u = upr v_22 (9) (upd (v_22 (9)) (x2.toNatClampNeg) x_24) := ⟨_, rfl⟩
            have hP : va_P (dC, dI) vwCl (wl ad kv cy N v_25) H := by rw [ev_25, ← wl_put (e := _) (ce_18 (by decide))]; exact hP
            have hD : va_D A (wl ad kv cy N v_25) := by rw [ev_25, ← wl_put (e := _) (ce_18 (by decide))]; exact hD
            have hv : Iv v_25 := by rw [ev_25]; exact hv.put (K := 18) (by decide) (fun h q => by simp [bd] at q)
            refine lv_aload_n hx hb dX4_searchDay_89 rfl (lv_at hl 2 rfl) ?_
            refine lv_iload_n hx hb dX4_searchDay_90 rfl (lv_at hl 3 rfl) ?_
            refine lv_iconst (v := 1) hx hb dX4_searchDay_91 (by decide) ?_
            refine lv_iadd hx hb dX4_searchDay_92 ?_
            refine lv_topi (fun x_26 ex_26 => ?_)
            have tx_26 : x_26.toInt = x0.toInt + (1 : Int32).toInt := by rw [ex_26]; exact t_add ⟨by omega, by omega⟩
            refine lv_iload_n hx hb dX4_searchDay_93 rfl (lv_at hl 4 rfl) ?_
            have zn_x_26 : (x_26.toNatClampNeg : Int) = x_26.toInt := t_nn (by omega)
            have hbt9 : bt (u1 4 x0.toNatClampNeg) y1_4.toNatClampNeg := by rw [← ex_10]; unfold bt; rw [← ofn (x := y1_4) (by omega)]; exact hh_12
            have hbz9 : u1 8 x2.toNatClampNeg &&& sit y1_4.toNatClampNeg = 0 := by rw [← ex_14, ← hsit, ← ex_15]; exact Int32.toInt_inj.mp (by omega)
            have hk9 : ∀ k : Nat, k ≠ 6 → k ≠ 8 → k ≠ 9 → v_25 k = u1 k := fun k h1 h2 h3 => by rw [ev_25, upr_n h3, ev_22, upr_n h2, ev_19, upr_n h1]
            have g6 : v_25 6 = upd (u1 6) x0.toNatClampNeg x_18 := by rw [ev_25, upr_n (by decide), ev_22, upr_n (by decide), ev_19, upr_s]
            have g8 : v_25 8 = upd (u1 8) x2.toNatClampNeg x_21 := by rw [ev_25, upr_n (by decide), ev_22, upr_s, ev_19, upr_n (by decide)]
            have g9 : v_25 9 = upd (u1 9) x2.toNatClampNeg x_24 := by rw [ev_25, upr_s, ev_22, upr_n (by decide), ev_19, upr_n (by decide)]
            have hsc2 : SC v_25 x_26.toNatClampNeg x1.toInt := by
              rw [show x_26.toNatClampNeg = x0.toNatClampNeg + 1 from by omega]
              exact SC_in (D := x2.toNatClampNeg) (y := y1_4.toNatClampNeg) (SC_fr hsc hi1_0.1.1) (by rw [SG_m (SF_G hi1_0.1.1)]; exact hd9) (by omega) (by omega) hbt9 hbz9 (by rw [(hi1_0.1.1.2.2 x2.toNatClampNeg (by omega)).2, hi1_0.1.1.1.2.2]; exact h9) hk9 (fun q hq => by rw [g6, pk_un (by omega)]) (by rw [g6, pk_us]; omega) (by rw [g8, pk_us, ex_21, ex_14, hsit]) (fun E hE => by rw [g8, pk_un hE]) (by rw [g9, pk_us]; omega) (fun E hE => by rw [g9, pk_un hE]) (by have q9 := hw; rw [← zn_x2] at q9; rw [SG_W (SF_G hi1_0.1.1)]; exact q9)
            refine yw_v (w1 := fun (u : Nat → Nat → Int32) => wl ad kv cy N u) hD hS hA (va_runV (As := [.int x_26, .int x1]) (rest := []) ⟨hx, hb, hml, hown, hts⟩ (e_X4_search_0 l dC dI cy _ ad kv N hN v_25 hv x_26 x1 ⟨by omega, by omega⟩ hsc2 t1 t2) (cwV 2 hts gX4_searchDay_X4_search rfl rfl rfl (by decide +kernel) ⟨Nat.le_of_ble_eq_true rfl, Nat.le_of_ble_eq_true rfl⟩) ⟨ex_blindT, va_recv hK hP (ci := 4) (q0 := 1) rfl (wl_at (by omega) (ce_1 (by decide))), fun U hU hW => ⟨rfl, ((yw_preS (As := []) hE hK hP hD).2 U hU hW).2, hSt.go hS (yw_F hD hS hA) hU hW⟩⟩ rfl rfl hl.1 rfl (lv_room (Nat.le_of_ble_eq_true rfl)) dX4_searchDay_94 ⟨Nat.le_of_ble_eq_true rfl, Nat.le_of_ble_eq_true rfl⟩) (fun v_27 H locs hw_27 hP hD hS => ?_)
            obtain ⟨hv, hw_27⟩ := hw_27
            rw [show x_26.toNatClampNeg = x0.toNatClampNeg + 1 from by omega] at hw_27
            refine lv_aload_n hx hb dX4_searchDay_97 rfl (lv_at hl 2 rfl) ?_
            refine va_get (D := (dC, dI)) (ci := 4) (v := .ref (ad 9)) (C := RX4) (T := TX4) (N := 11) hx hb hts (by decide +kernel) hown hK hP (1) (wl_at (by omega) (ce_1 (by decide))) rfl 10 (by decide) (hts (.fieldLink RX4 33 "QuietStairs$Planner" "sittings" "[I") (by decide +kernel)) (fun _ h9 => h9) rfl dX4_searchDay_98 ?_
            refine lv_iload_n hx hb dX4_searchDay_101 rfl (lv_at hl 5 rfl) ?_
            refine lv_dup2_11 hx hb dX4_searchDay_102 rfl rfl ?_
            refine va_iald hx hb hK hP (9) 0 (wl_at (by omega) (ce_18 (by decide))) rfl (vp_in_iff.mpr ⟨by omega, by omega⟩) dX4_searchDay_103 ?_
            refine lv_topi (fun x_28 ex_28 => ?_)
            have qx_28 : x_28.toInt = (v_27 (9) (x2.toNatClampNeg)).toInt := congrArg Int32.toInt ex_28
            have hs8 : x_28.toInt = x_23.toInt + 1 := by rw [ex_28, (hw_27.1.1.2.2 x2.toNatClampNeg (by omega)).2, g9, pk_us]; omega
            refine lv_iconst (v := 1) hx hb dX4_searchDay_104 (by decide) ?_
            refine lv_isub hx hb dX4_searchDay_105 ?_
            refine lv_topi (fun x_29 ex_29 => ?_)
            have tx_29 : x_29.toInt = x_28.toInt - (1 : Int32).toInt := by rw [ex_29]; exact t_sub ⟨by omega, by omega⟩
            refine va_iast hx hb hK hP hD hS (9) 0 (wl_at (by omega) (ce_18 (by decide))) rfl (vp_in_iff.mpr ⟨by omega, by omega⟩) dX4_searchDay_106 (fun H locs hP hD hS => ?_)
            obtain ⟨v_30, ev_30⟩ : ∃ u : Nat → Nat → Int32, u = upr v_27 (9) (upd (v_27 (9)) (x2.toNatClampNeg) x_29) := ⟨_, rfl⟩
            have hP : va_P (dC, dI) vwCl (wl ad kv cy N v_30) H := by rw [ev_30, ← wl_put (e := _) (ce_18 (by decide))]; exact hP
            have hD : va_D A (wl ad kv cy N v_30) := by rw [ev_30, ← wl_put (e := _) (ce_18 (by decide))]; exact hD
            have hv : Iv v_30 := by rw [ev_30]; exact hv.put (K := 18) (by decide) (fun h q => by simp [bd] at q)
            refine lv_aload_n hx hb dX4_searchDay_107 rfl (lv_at hl 2 rfl) ?_
            refine va_get (D := (dC, dI)) (ci := 4) (v := .ref (ad 8)) (C := RX4) (T := TX4) (N := 11) hx hb hts (by decide +kernel) hown hK hP (1) (wl_at (by omega) (ce_1 (by decide))) rfl 9 (by decide) (hts (.fieldLink RX4 30 "QuietStairs$Planner" "busyBits" "[I") (by decide +kernel)) (fun _ h9 => h9) rfl dX4_searchDay_108 ?_
            refine lv_iload_n hx hb dX4_searchDay_111 rfl (lv_at hl 5 rfl) ?_
            refine lv_dup2_11 hx hb dX4_searchDay_112 rfl rfl ?_
            refine va_iald hx hb hK hP (8) 0 (wl_at (by omega) (ce_18 (by decide))) rfl (vp_in_iff.mpr ⟨by omega, by omega⟩) dX4_searchDay_113 ?_
            refine lv_topi (fun x_31 ex_31 => ?_)
            rw [ev_30, upr_n (by omega)] at ex_31
            have qx_31 : x_31.toInt = (v_27 (8) (x2.toNatClampNeg)).toInt := congrArg Int32.toInt ex_31
            refine lv_iload hx hb dX4_searchDay_114 (lv_at hl 0 rfl) ?_
            refine lv_ixor hx hb dX4_searchDay_116 ?_
            refine lv_topi (fun x_32 ex_32 => ?_)
            refine va_iast hx hb hK hP hD hS (8) 0 (wl_at (by omega) (ce_18 (by decide))) rfl (vp_in_iff.mpr ⟨by omega, by omega⟩) dX4_searchDay_117 (fun H locs hP hD hS => ?_)
            obtain ⟨v_33, ev_33⟩ : ∃ u : Nat → Nat → Int32, u = upr v_30 (8) (upd (v_30 (8)) (x2.toNatClampNeg) x_32) := ⟨_, rfl⟩
            have hP : va_P (dC, dI) vwCl (wl ad kv cy N v_33) H := by rw [ev_33, ← wl_put (e := _) (ce_18 (by decide))]; exact hP
            have hD : va_D A (wl ad kv cy N v_33) := by rw [ev_33, ← wl_put (e := _) (ce_18 (by decide))]; exact hD
            have hv : Iv v_33 := by rw [ev_33]; exact hv.put (K := 18) (by decide) (fun h q => by simp [bd] at q)
            obtain ⟨x_34, ex_34⟩ : ∃ y : Int32, y = y1_4 + 1 := ⟨_, rfl⟩
            refine lv_iinc (v := x_34) (lv' := [(4, .int x_34), (5, .int x_8), (0, .ref (ad 1)), (1, .int x0), (2, .int x1), (3, .int x2)]) hx hb dX4_searchDay_118 hl (k := 1) rfl (by rw [ex_34]; rfl) (by decide) rfl (fun ls hl => ?_)
            have tx_34 : x_34.toInt = y1_4.toInt + (1 : Int32).toInt := by rw [ex_34]; exact t_add ⟨by omega, by omega⟩
            refine lv_goto (tgt := 3) hx hb dX4_searchDay_121 (by decide) ?_
            have zn_x_34 : (x_34.toNatClampNeg : Int) = x_34.toInt := t_nn (by omega)
            exact ih_1 x_34 v_33 _ _ (by omega) (by omega) (SDI_s (D := x2.toNatClampNeg) (y := y1_4.toNatClampNeg) hd9 (by omega) hi1_0 ((SC_fr hsc hi1_0.1.1).2.1.1 _ (by omega)).1.1 (by omega) hbz9 hk9 (fun q hq => by rw [g6, pk_un (by omega)]) (by rw [g6, pk_us]; omega) (by rw [g8, pk_us, ex_21, ex_14, hsit]) (fun E hE => by rw [g8, pk_un hE]) (by rw [g9, pk_us]; omega) (fun E hE => by rw [g9, pk_un hE]) hw_27 (fun k h1 h2 => by rw [ev_33, upr_n h1, ev_30, upr_n h2]) (by rw [ev_33, upr_s, pk_us, ex_32, ex_31, hsit]) (fun E hE => by rw [ev_33, upr_s, pk_un hE, ev_30, upr_n (by decide)]) (by rw [ev_33, upr_n (by decide), ev_30, upr_s, pk_us]; omega) (fun E hE => by rw [ev_33, upr_n (by decide), ev_30, upr_s, pk_un hE]) (by omega)) (by omega) hv hP hD hS ls (lv_sub hl [0, 2, 3, 4, 5] rfl)
        · refine lv_if_eq (tgt := 118) hx hb dX4_searchDay_40 (by decide) (fun _ => ?_) (fun c9 => absurd c9 (by decide))
          obtain ⟨x_13, ex_13⟩ : ∃ y : Int32, y = y1_4 + 1 := ⟨_, rfl⟩
          refine lv_iinc (v := x_13) (lv' := [(4, .int x_13), (5, .int x_8), (0, .ref (ad 1)), (1, .int x0), (2, .int x1), (3, .int x2)]) hx hb dX4_searchDay_118 hl (k := 1) rfl (by rw [ex_13]; rfl) (by decide) rfl (fun ls hl => ?_)
          have k_1 : (1 : Int32).toInt = 1 := by decide
          have tx_13 : x_13.toInt = y1_4.toInt + (1 : Int32).toInt := by rw [ex_13]; exact t_add ⟨by omega, by omega⟩
          refine lv_goto (tgt := 3) hx hb dX4_searchDay_121 (by decide) ?_
          have zn_x_13 : (x_13.toNatClampNeg : Int) = x_13.toInt := t_nn (by omega)
          exact ih_1 x_13 u1 _ _ (by omega) (by omega) (SDI_no hsc hd9 (by omega) (by omega) hi1_0 (Or.inl (fun q => absurd (show (btx x_10 y1_4).toInt = 1 by rw [← ex_10] at q; unfold bt at q; rw [← ofn (x := y1_4) (by omega)] at q; exact q) hh_12)) (by omega)) (by omega) hv hP hD hS ls (lv_sub hl [0, 2, 3, 4, 5] rfl)
  exact hc_1 ((6 - (0 : Int32).toInt).toNat + 1) 0 v _ _ (by omega) (by omega) (SDI_0 (by decide)) (by omega) hv hP hD hS ls (lv_sub hl [0, 1, 2, 3, 4] rfl)

set_option maxHeartbeats 4000000 in
set_option maxRecDepth 100000 in
theorem e_X4_search_1 (l : Launch) (dC : Nat → ClassId) (dI : Nat → Nat → Nat) (cy : Nat → ClassId) (sz : Nat) (ad : Nat → Nat) (kv : Value) (N : Nat) (hN : 119 ≤ N) (v : Nat → Nat → Int32) (hv : Iv v) (x0 x1 : Int32) (hs : 3 ≤ x0.toInt ∧ x0.toInt ≤ 4) (hsc : SC v x0.toNatClampNeg x1.toInt) (t1 t2 : Nat) : Met l yX4_search wsX4_search ({ frames := 3, cells := 0, slots := 0, locals := 192 }) (va_Pc [.ref (ad 1), .int x0, .int x1] (ex_PreT dC dI cy sz (wl ad kv cy N v) t1 t2)) (va_Qv (fun (u : Nat → Nat → Int32) => Iv u ∧ SRS v u x0.toNatClampNeg) (fun u t => ex_Pst dC dI (va_A (wl ad kv cy N v) sz) (wl ad kv cy N u) t) (va_A (wl ad kv cy N v) sz)) 0 0 (va_A (wl ad kv cy N v) sz) := by
  refine Met.ofW (cc := cX4_search) (maxL := 4) (ret := none) (by decide) rfl ?_
  intro p e s m args below meth c s₁ B hml hv
  obtain ⟨rfl, ⟨hsz, hE, hP, hK, hD0⟩, hSt⟩ := hv
  have hx := B.exec
  have hb := B.bytes
  have hr := B.returns
  have hts := atoms_spec (ws := wsX4_search) B.pre
  have hown : s.vm.findClass RX4 = some m.cls := findClass_of_methodNamed B.named
  have hlocks := B.notSynchronized
  subst hsz
  have hD := hD0.self (sz := s.heap.size)
  generalize hAe : va_A (wl ad kv cy N v) s.heap.size = A at hD hSt ⊢
  have hA : ∀ q : Nat, s.heap.size ≤ q → A q := fun q h => by rw [← hAe]; exact Or.inr h
  have hS : va_S A s.heap s.heap [] := va_S.rf
  have hP : va_P (dC, dI) vwCl (wl ad kv cy N v) s.heap := hP
  have hl := lv_entry ([.ref (ad 1), .int x0, .int x1]) (n := 4) (Nat.le_of_ble_eq_true rfl)
  rw [lg_entry_eq]
  generalize (lg_sl ([.ref (ad 1), .int x0, .int x1]) ++ List.replicate (4 - (lg_sl ([.ref (ad 1), .int x0, .int x1])).length) Slot.unset).toArray = ls at hl ⊢
  have hl : lv_has ls 4 [(0, .ref (ad 1)), (1, .int x0), (2, .int x1)] := hl
  have zn_x0 : (x0.toNatClampNeg : Int) = x0.toInt := t_nn (by omega)
  have hx1 := SC_b hsc
  have k_0 : (0 : Int32).toInt = 0 := by decide
  refine lv_iload_n hx hb dX4_search_0 rfl (lv_at hl 2 rfl) ?_
  refine lv_aload_n hx hb dX4_search_1 rfl (lv_at hl 0 rfl) ?_
  refine lv_iload_n hx hb dX4_search_2 rfl (lv_at hl 1 rfl) ?_
  refine yw_i (w1 := fun (u : Nat → Nat → Int32) => wl ad kv cy N u) hD hS hA (va_runV (As := [.int x0]) (rest := [.int x1]) ⟨hx, hb, hml, hown, hts⟩ (e_X4_leastBehind l dC dI cy _ ad kv N hN v hv x0 (SC_w hsc) (SC_s hsc) (SC_9 hsc) (by omega)) (cwV 1 hts gX4_search_X4_leastBehind rfl rfl rfl (by decide +kernel) ⟨Nat.le_of_ble_eq_true rfl, Nat.le_of_ble_eq_true rfl⟩) (yw_preV hE hK hP hD (ci := 4) (q0 := 1) rfl (wl_at (by omega) (ce_1 (by decide)))) rfl rfl hl.1 rfl (lv_room (Nat.le_of_ble_eq_true rfl)) dX4_search_3 ⟨Nat.le_of_ble_eq_true rfl, Nat.le_of_ble_eq_true rfl⟩) (fun r_1 v_1 H locs hw_1 hP hD hS => ?_)
  obtain ⟨-, hu_1, hw_1⟩ := hw_1
  replace hu_1 := hu_1.symm
  subst hu_1
  obtain ⟨hr9, dy9, tk9, hG9⟩ := hw_1
  refine lv_iadd hx hb dX4_search_6 ?_
  refine lv_topi (fun x_2 ex_2 => ?_)
  have tx_2 : x_2.toInt = x1.toInt + r_1.toInt := by rw [ex_2]; exact t_add ⟨by omega, by omega⟩
  refine lv_aload_n hx hb dX4_search_7 rfl (lv_at hl 0 rfl) ?_
  refine va_get (D := (dC, dI)) (ci := 4) (v := .int (v (1) 0)) (C := RX4) (T := TX4) (N := 11) hx hb hts (by decide +kernel) hown hK hP (1) (wl_at (by omega) (ce_1 (by decide))) rfl 0 (by decide) (hts (.fieldLink RX4 58 "QuietStairs$Planner" "leastWait" "I") (by decide +kernel)) (fun _ h9 => h9) rfl dX4_search_8 ?_
  refine lv_topi (fun x_3 ex_3 => ?_)
  have qx_3 : x_3.toInt = (v (1) (0)).toInt := congrArg Int32.toInt ex_3
  refine lv_icmp_lt (tgt := 15) hx hb dX4_search_11 (by decide) (fun c_4 => ?_) (fun c_4 => ?_)
  · have tc_4 : x_2.toInt < x_3.toInt := Int32.lt_iff_toInt_lt.mp c_4
    refine lv_iload_n hx hb dX4_search_15 rfl (lv_at hl 1 rfl) ?_
    refine lv_aload_n hx hb dX4_search_16 rfl (lv_at hl 0 rfl) ?_
    refine va_get (D := (dC, dI)) (ci := 4) (v := .int (v (1) 1)) (C := RX4) (T := TX4) (N := 11) hx hb hts (by decide +kernel) hown hK hP (1) (wl_at (by omega) (ce_1 (by decide))) rfl 1 (by decide) (hts (.fieldLink RX4 61 "QuietStairs$Planner" "count" "I") (by decide +kernel)) (fun _ h9 => h9) rfl dX4_search_17 ?_
    refine lv_topi (fun x_5 ex_5 => ?_)
    have bzx_5 : 0 ≤ x_5.toInt ∧ x_5.toInt ≤ 4 := by rw [ex_5]; exact hv.at (K := 1) (by decide) rfl
    have qx_5 : x_5.toInt = (v (1) (1)).toInt := congrArg Int32.toInt ex_5
    refine lv_icmp_lt (tgt := 46) hx hb dX4_search_20 (by decide) (fun c_6 => ?_) (fun c_6 => ?_)
    · have tc_6 : x0.toInt < x_5.toInt := Int32.lt_iff_toInt_lt.mp c_6
      have zn_x_5 : (x_5.toNatClampNeg : Int) = x_5.toInt := t_nn (by omega)
      have hd9 : x0.toNatClampNeg < plm v := by show _ < (v 1 1).toNatClampNeg; rw [← ex_5]; omega
      refine lv_iconst (v := 0) hx hb dX4_search_46 (by decide) ?_
      refine lv_istore_n (lv' := [(3, .int 0), (0, .ref (ad 1)), (1, .int x0), (2, .int x1)]) hx hb dX4_search_47 rfl hl (by decide) rfl (fun ls hl => ?_)
      have hc_7 : ∀ (n : Nat) (y7_3 : Int32) (u7 : Nat → Nat → Int32) (H : Heap) (locs : List Loc), 0 ≤ y7_3.toInt → y7_3.toInt ≤ 3 → (DYI v u7 x0.toNatClampNeg y7_3.toNatClampNeg) → (3 - y7_3.toInt).toNat < n → Iv u7 → va_P (dC, dI) vwCl (wl ad kv cy N u7) H → va_D A (wl ad kv cy N u7) → va_S A s.heap H locs → ∀ ls : Array Slot, lv_has ls 4 [(3, .int y7_3), (0, .ref (ad 1)), (1, .int x0), (2, .int x1)] → W p l e (headSpec wsX4_search ({ frames := 3, cells := 0, slots := 0, locals := 192 })).room s m [Value.ref (ad 1), Value.int x0, Value.int x1].toArray below meth c H locs 0 0 (MQ below (va_Qv (fun (u : Nat → Nat → Int32) => Iv u ∧ SRS v u x0.toNatClampNeg) (fun u t => ex_Pst dC dI A (wl ad kv cy N u) t) A) [Value.ref (ad 1), Value.int x0, Value.int x1].toArray s 0 0 A) (F0 m 48 ls []) := by
        intro n
        induction n with
        | zero =>
          intro y7_3 u7 H locs ay7_3 by7_3 hi7_0 hm_7 hv hP hD hS ls hl
          exact absurd hm_7 (by omega)
        | succ n ih_7 =>
          intro y7_3 u7 H locs ay7_3 by7_3 hi7_0 hm_7 hv hP hD hS ls hl
          refine lv_iload_n hx hb dX4_search_48 rfl (lv_at hl 0 rfl) ?_
          refine lv_iconst (v := 3) hx hb dX4_search_49 (by decide) ?_
          have k_3 : (3 : Int32).toInt = 3 := by decide
          refine lv_icmp_ge (tgt := 88) hx hb dX4_search_50 (by decide) (fun c_8 => ?_) (fun c_8 => ?_)
          · have tc_8 : y7_3.toInt ≥ (3 : Int32).toInt := Int32.le_iff_toInt_le.mp c_8
            refine lv_aload_n hx hb dX4_search_88 rfl (lv_at hl 1 rfl) ?_
            refine va_get (D := (dC, dI)) (ci := 4) (v := .ref (ad 6)) (C := RX4) (T := TX4) (N := 11) hx hb hts (by decide +kernel) hown hK hP (1) (wl_at (by omega) (ce_1 (by decide))) rfl 7 (by decide) (hts (.fieldLink RX4 24 "QuietStairs$Planner" "seats" "[I") (by decide +kernel)) (fun _ h9 => h9) rfl dX4_search_89 ?_
            refine lv_iload_n hx hb dX4_search_92 rfl (lv_at hl 2 rfl) ?_
            refine lv_bipush (v := 18) hx hb dX4_search_93 (by decide) ?_
            have hx_9 : x0.toNatClampNeg < 4 := by omega
            refine va_iast hx hb hK hP hD hS (6) 0 (wl_at (by omega) (ce_17 (by decide))) rfl (vp_in_iff.mpr ⟨by omega, by omega⟩) dX4_search_95 (fun H locs hP hD hS => ?_)
            have k_18 : (18 : Int32).toInt = 18 := by decide
            obtain ⟨v_10, ev_10⟩ : ∃ u : Nat → Nat → Int32, u = upr u7 (6) (upd (u7 (6)) (x0.toNatClampNeg) 18) := ⟨_, rfl⟩
            have hP : va_P (dC, dI) vwCl (wl ad kv cy N v_10) H := by rw [ev_10, ← wl_put (e := _) (ce_17 (by decide))]; exact hP
            have hD : va_D A (wl ad kv cy N v_10) := by rw [ev_10, ← wl_put (e := _) (ce_17 (by decide))]; exact hD
            have hv : Iv v_10 := by rw [ev_10]; exact hv.put (K := 17) (by decide) (fun h q => by simp [bd] at q)
            refine lv_aload_n hx hb dX4_search_96 rfl (lv_at hl 1 rfl) ?_
            refine lv_iload_n hx hb dX4_search_97 rfl (lv_at hl 2 rfl) ?_
            refine lv_iconst (v := 1) hx hb dX4_search_98 (by decide) ?_
            refine lv_iadd hx hb dX4_search_99 ?_
            refine lv_topi (fun x_11 ex_11 => ?_)
            have k_1 : (1 : Int32).toInt = 1 := by decide
            have tx_11 : x_11.toInt = x0.toInt + (1 : Int32).toInt := by rw [ex_11]; exact t_add ⟨by omega, by omega⟩
            refine lv_iload_n hx hb dX4_search_100 rfl (lv_at hl 3 rfl) ?_
            refine lv_aload_n hx hb dX4_search_101 rfl (lv_at hl 1 rfl) ?_
            refine va_get (D := (dC, dI)) (ci := 4) (v := .ref (ad 3)) (C := RX4) (T := TX4) (N := 11) hx hb hts (by decide +kernel) hown hK hP (1) (wl_at (by omega) (ce_1 (by decide))) rfl 4 (by decide) (hts (.fieldLink RX4 15 "QuietStairs$Planner" "weights" "[I") (by decide +kernel)) (fun _ h9 => h9) rfl dX4_search_102 ?_
            refine lv_iload_n hx hb dX4_search_105 rfl (lv_at hl 2 rfl) ?_
            refine va_iald hx hb hK hP (3) 0 (wl_at (by omega) (ce_17 (by decide))) rfl (vp_in_iff.mpr ⟨by omega, by omega⟩) dX4_search_106 ?_
            refine lv_topi (fun x_12 ex_12 => ?_)
            rw [ev_10, upr_n (by omega)] at ex_12
            have qx_12 : x_12.toInt = (u7 (3) (x0.toNatClampNeg)).toInt := congrArg Int32.toInt ex_12
            have hw9 : 1 ≤ x_12.toInt ∧ x_12.toInt ≤ 9 := by rw [ex_12, (SF_G hi7_0.1.1).1.1]; exact SC_w hsc _ (by omega)
            refine lv_iconst (v := 4) hx hb dX4_search_107 (by decide) ?_
            refine lv_imul hx hb dX4_search_108 ?_
            refine lv_topi (fun x_13 ex_13 => ?_)
            have k_4 : (4 : Int32).toInt = 4 := by decide
            have tx_13 : x_13.toInt = 4 * x_12.toInt := by rw [ex_13, t_mul (by rw [k_4]; omega), k_4]; omega
            refine lv_iadd hx hb dX4_search_109 ?_
            refine lv_topi (fun x_14 ex_14 => ?_)
            have tx_14 : x_14.toInt = x1.toInt + x_13.toInt := by rw [ex_14]; exact t_add ⟨by omega, by omega⟩
            have zn_x_11 : (x_11.toNatClampNeg : Int) = x_11.toInt := t_nn (by omega)
            have hsc2 : SC v_10 x_11.toNatClampNeg x_14.toInt := by
              rw [show x_11.toNatClampNeg = x0.toNatClampNeg + 1 from by omega]
              exact SC_18 (SC_fr hsc hi7_0.1.1) (by rw [SG_m (SF_G hi7_0.1.1)]; exact hd9) (fun k h => by rw [ev_10, upr_n h]) (fun q hq => by rw [ev_10, upr_s, pk_un (by omega)]) (by rw [ev_10, upr_s, pk_us]; decide) (by show _ = _ + (u7 3 x0.toNatClampNeg).toInt * 4; omega)
            refine yw_v (w1 := fun (u : Nat → Nat → Int32) => wl ad kv cy N u) hD hS hA (va_runV (As := [.int x_11, .int x_14]) (rest := []) ⟨hx, hb, hml, hown, hts⟩ (e_X4_search_0 l dC dI cy _ ad kv N hN v_10 hv x_11 x_14 ⟨by omega, by omega⟩ hsc2 t1 t2) (cwV 2 hts gX4_search_X4_search rfl rfl rfl (by decide +kernel) ⟨Nat.le_of_ble_eq_true rfl, Nat.le_of_ble_eq_true rfl⟩) ⟨ex_blindT, va_recv hK hP (ci := 4) (q0 := 1) rfl (wl_at (by omega) (ce_1 (by decide))), fun U hU hW => ⟨rfl, ((yw_preS (As := []) hE hK hP hD).2 U hU hW).2, hSt.go hS (yw_F hD hS hA) hU hW⟩⟩ rfl rfl hl.1 rfl (lv_room (Nat.le_of_ble_eq_true rfl)) dX4_search_110 ⟨Nat.le_of_ble_eq_true rfl, Nat.le_of_ble_eq_true rfl⟩) (fun v_15 H locs hw_15 hP hD hS => ?_)
            obtain ⟨hv, hw_15⟩ := hw_15
            rw [show x_11.toNatClampNeg = x0.toNatClampNeg + 1 from by omega] at hw_15
            have zn_y7_3 : (y7_3.toNatClampNeg : Int) = y7_3.toInt := t_nn (by omega)
            exact W.vret hx hb hr (fun t ht hW => ⟨⟨v_15, rfl, ⟨hv, DYI_e hd9 hi7_0 (by omega) (fun k h => by rw [ev_10, upr_n h]) (fun q hq => by rw [ev_10, upr_s, pk_un (by omega)]) (by rw [ev_10, upr_s, pk_us]; decide) hw_15⟩, by rw [ht]; exact hP, hD⟩, hS.F ht⟩) hS.2.2 dX4_search_113
          · have tc_8 : y7_3.toInt < (3 : Int32).toInt := Int32.lt_iff_toInt_lt.mp (Int32.not_le.mp c_8)
            refine lv_aload_n hx hb dX4_search_53 rfl (lv_at hl 1 rfl) ?_
            refine va_get (D := (dC, dI)) (ci := 4) (v := .ref (ad 9)) (C := RX4) (T := TX4) (N := 11) hx hb hts (by decide +kernel) hown hK hP (1) (wl_at (by omega) (ce_1 (by decide))) rfl 10 (by decide) (hts (.fieldLink RX4 33 "QuietStairs$Planner" "sittings" "[I") (by decide +kernel)) (fun _ h9 => h9) rfl dX4_search_54 ?_
            refine lv_iload_n hx hb dX4_search_57 rfl (lv_at hl 0 rfl) ?_
            have zn_y7_3 : (y7_3.toNatClampNeg : Int) = y7_3.toInt := t_nn (by omega)
            have hx_9 : y7_3.toNatClampNeg < 3 := by omega
            refine va_iald hx hb hK hP (9) 0 (wl_at (by omega) (ce_18 (by decide))) rfl (vp_in_iff.mpr ⟨by omega, by omega⟩) dX4_search_58 ?_
            refine lv_topi (fun x_10 ex_10 => ?_)
            have qx_10 : x_10.toInt = (u7 (9) (y7_3.toNatClampNeg)).toInt := congrArg Int32.toInt ex_10
            refine lv_aload_n hx hb dX4_search_59 rfl (lv_at hl 1 rfl) ?_
            refine va_get (D := (dC, dI)) (ci := 4) (v := .int (u7 (1) 2)) (C := RX4) (T := TX4) (N := 11) hx hb hts (by decide +kernel) hown hK hP (1) (wl_at (by omega) (ce_1 (by decide))) rfl 2 (by decide) (hts (.fieldLink RX4 48 "QuietStairs$Planner" "seatsADay" "I") (by decide +kernel)) (fun _ h9 => h9) rfl dX4_search_60 ?_
            refine lv_topi (fun x_11 ex_11 => ?_)
            have qx_11 : x_11.toInt = (u7 (1) (2)).toInt := congrArg Int32.toInt ex_11
            refine lv_icmp_ge (tgt := 82) hx hb dX4_search_63 (by decide) (fun c_12 => ?_) (fun c_12 => ?_)
            · have tc_12 : x_10.toInt ≥ x_11.toInt := Int32.le_iff_toInt_le.mp c_12
              obtain ⟨x_13, ex_13⟩ : ∃ y : Int32, y = y7_3 + 1 := ⟨_, rfl⟩
              refine lv_iinc (v := x_13) (lv' := [(3, .int x_13), (0, .ref (ad 1)), (1, .int x0), (2, .int x1)]) hx hb dX4_search_82 hl (k := 0) rfl (by rw [ex_13]; rfl) (by decide) rfl (fun ls hl => ?_)
              have k_1 : (1 : Int32).toInt = 1 := by decide
              have tx_13 : x_13.toInt = y7_3.toInt + (1 : Int32).toInt := by rw [ex_13]; exact t_add ⟨by omega, by omega⟩
              refine lv_goto (tgt := 48) hx hb dX4_search_85 (by decide) ?_
              have zn_x_13 : (x_13.toNatClampNeg : Int) = x_13.toInt := t_nn (by omega)
              exact ih_7 x_13 u7 _ _ (by omega) (by omega) (DYI_no hsc hd9 (by omega) hi7_0 (by omega) (by omega)) (by omega) hv hP hD hS ls (lv_sub hl [0, 1, 2, 3] rfl)
            · have tc_12 : x_10.toInt < x_11.toInt := Int32.lt_iff_toInt_lt.mp (Int32.not_le.mp c_12)
              refine lv_aload_n hx hb dX4_search_66 rfl (lv_at hl 1 rfl) ?_
              refine lv_iload_n hx hb dX4_search_67 rfl (lv_at hl 2 rfl) ?_
              refine lv_iload_n hx hb dX4_search_68 rfl (lv_at hl 3 rfl) ?_
              refine lv_aload_n hx hb dX4_search_69 rfl (lv_at hl 1 rfl) ?_
              refine va_get (D := (dC, dI)) (ci := 4) (v := .ref (ad 3)) (C := RX4) (T := TX4) (N := 11) hx hb hts (by decide +kernel) hown hK hP (1) (wl_at (by omega) (ce_1 (by decide))) rfl 4 (by decide) (hts (.fieldLink RX4 15 "QuietStairs$Planner" "weights" "[I") (by decide +kernel)) (fun _ h9 => h9) rfl dX4_search_70 ?_
              refine lv_iload_n hx hb dX4_search_73 rfl (lv_at hl 2 rfl) ?_
              have hx_13 : x0.toNatClampNeg < 4 := by omega
              refine va_iald hx hb hK hP (3) 0 (wl_at (by omega) (ce_17 (by decide))) rfl (vp_in_iff.mpr ⟨by omega, by omega⟩) dX4_search_74 ?_
              refine lv_topi (fun x_14 ex_14 => ?_)
              have qx_14 : x_14.toInt = (u7 (3) (x0.toNatClampNeg)).toInt := congrArg Int32.toInt ex_14
              have hw9 : 1 ≤ x_14.toInt ∧ x_14.toInt ≤ 9 := by rw [ex_14, (SF_G hi7_0.1.1).1.1]; exact SC_w hsc _ (by omega)
              refine lv_iload_n hx hb dX4_search_75 rfl (lv_at hl 0 rfl) ?_
              refine lv_imul hx hb dX4_search_76 ?_
              refine lv_topi (fun x_15 ex_15 => ?_)
              have m0x_15 : 0 ≤ x_14.toInt * y7_3.toInt := Int.mul_nonneg (by omega) (by omega)
              have m1x_15 : x_14.toInt * y7_3.toInt ≤ 9 * 2 := Int.mul_le_mul (by omega) (by omega) (by omega) (by decide)
              have tx_15 : x_15.toInt = x_14.toInt * y7_3.toInt := by rw [ex_15]; exact t_mul ⟨by omega, by omega⟩
              refine lv_iadd hx hb dX4_search_77 ?_
              refine lv_topi (fun x_16 ex_16 => ?_)
              have tx_16 : x_16.toInt = x1.toInt + x_15.toInt := by rw [ex_16]; exact t_add ⟨by omega, by omega⟩
              refine lv_iload_n hx hb dX4_search_78 rfl (lv_at hl 0 rfl) ?_
              refine yw_v (w1 := fun (u : Nat → Nat → Int32) => wl ad kv cy N u) hD hS hA (va_runV (As := [.int x0, .int x_16, .int y7_3]) (rest := []) ⟨hx, hb, hml, hown, hts⟩ (e_X4_searchDay_1 l dC dI cy _ ad kv N hN u7 hv x0 x_16 y7_3 ⟨by omega, by omega⟩ ⟨by omega, by omega⟩ x1.toInt (SC_fr hsc hi7_0.1.1) (by rw [hi7_0.1.1.1.2.1]; omega) (by rw [← ex_14]; omega) (by omega) t1 t2) (cwV 3 hts gX4_search_X4_searchDay rfl rfl rfl (by decide +kernel) ⟨Nat.le_of_ble_eq_true rfl, Nat.le_of_ble_eq_true rfl⟩) ⟨ex_blindT, va_recv hK hP (ci := 4) (q0 := 1) rfl (wl_at (by omega) (ce_1 (by decide))), fun U hU hW => ⟨rfl, ((yw_preS (As := []) hE hK hP hD).2 U hU hW).2, hSt.go hS (yw_F hD hS hA) hU hW⟩⟩ rfl rfl hl.1 rfl (lv_room (Nat.le_of_ble_eq_true rfl)) dX4_search_79 ⟨Nat.le_of_ble_eq_true rfl, Nat.le_of_ble_eq_true rfl⟩) (fun v_17 H locs hw_17 hP hD hS => ?_)
              obtain ⟨hv, hw_17⟩ := hw_17
              obtain ⟨x_18, ex_18⟩ : ∃ y : Int32, y = y7_3 + 1 := ⟨_, rfl⟩
              refine lv_iinc (v := x_18) (lv' := [(3, .int x_18), (0, .ref (ad 1)), (1, .int x0), (2, .int x1)]) hx hb dX4_search_82 hl (k := 0) rfl (by rw [ex_18]; rfl) (by decide) rfl (fun ls hl => ?_)
              have k_1 : (1 : Int32).toInt = 1 := by decide
              have tx_18 : x_18.toInt = y7_3.toInt + (1 : Int32).toInt := by rw [ex_18]; exact t_add ⟨by omega, by omega⟩
              refine lv_goto (tgt := 48) hx hb dX4_search_85 (by decide) ?_
              have zn_x_18 : (x_18.toNatClampNeg : Int) = x_18.toInt := t_nn (by omega)
              exact ih_7 x_18 v_17 _ _ (by omega) (by omega) (DYI_s hi7_0 hw_17 (by omega)) (by omega) hv hP hD hS ls (lv_sub hl [0, 1, 2, 3] rfl)
      exact hc_7 ((3 - (0 : Int32).toInt).toNat + 1) 0 v _ _ (by omega) (by omega) (DYI_0 (by decide)) (by omega) hv hP hD hS ls (lv_sub hl [0, 1, 2, 3] rfl)
    · have tc_6 : x0.toInt ≥ x_5.toInt := Int32.le_iff_toInt_le.mp (Int32.not_lt.mp c_6)
      refine lv_aload_n hx hb dX4_search_23 rfl (lv_at hl 0 rfl) ?_
      refine lv_iload_n hx hb dX4_search_24 rfl (lv_at hl 2 rfl) ?_
      refine va_put (D := (dC, dI)) (ci := 4) (v := .int x1) (ty := .int) (C := RX4) (T := TX4) (N := 11) hx hb hts (by decide +kernel) tyX4 tyX4_ok nmX4 hown hK hP hD hS (1) (wl_at (by omega) (ce_1 (by decide))) rfl 0 (by decide) (hts (.fieldLink RX4 58 "QuietStairs$Planner" "leastWait" "I") (by decide +kernel)) (fun _ h9 => h9) rfl (by decide +kernel) rfl rfl (Nat.le_of_ble_eq_true rfl) dX4_search_25 (fun H locs hP hD hS => ?_)
      obtain ⟨v_7, ev_7⟩ : ∃ u : Nat → Nat → Int32, u = upr v (1) (upd (v (1)) 0 x1) := ⟨_, rfl⟩
      have hP : va_P (dC, dI) vwCl (wl ad kv cy N v_7) H := by rw [ev_7, ← wl_put (e := _) (ce_1 (by decide))]; exact hP
      have hD : va_D A (wl ad kv cy N v_7) := by rw [ev_7, ← wl_put (e := _) (ce_1 (by decide))]; exact hD
      have hv : Iv v_7 := by rw [ev_7]; exact hv.put (K := 1) (by decide) (fun h q => by simp [bd] at q)
      refine lv_aload_n hx hb dX4_search_28 rfl (lv_at hl 0 rfl) ?_
      refine va_get (D := (dC, dI)) (ci := 4) (v := .ref (ad 6)) (C := RX4) (T := TX4) (N := 11) hx hb hts (by decide +kernel) hown hK hP (1) (wl_at (by omega) (ce_1 (by decide))) rfl 7 (by decide) (hts (.fieldLink RX4 24 "QuietStairs$Planner" "seats" "[I") (by decide +kernel)) (fun _ h9 => h9) rfl dX4_search_29 ?_
      refine lv_iconst (v := 0) hx hb dX4_search_32 (by decide) ?_
      refine lv_aload_n hx hb dX4_search_33 rfl (lv_at hl 0 rfl) ?_
      refine va_get (D := (dC, dI)) (ci := 4) (v := .ref (ad 7)) (C := RX4) (T := TX4) (N := 11) hx hb hts (by decide +kernel) hown hK hP (1) (wl_at (by omega) (ce_1 (by decide))) rfl 8 (by decide) (hts (.fieldLink RX4 27 "QuietStairs$Planner" "bestSeats" "[I") (by decide +kernel)) (fun _ h9 => h9) rfl dX4_search_34 ?_
      refine lv_iconst (v := 0) hx hb dX4_search_37 (by decide) ?_
      refine lv_aload_n hx hb dX4_search_38 rfl (lv_at hl 0 rfl) ?_
      refine va_get (D := (dC, dI)) (ci := 4) (v := .int (v_7 (1) 1)) (C := RX4) (T := TX4) (N := 11) hx hb hts (by decide +kernel) hown hK hP (1) (wl_at (by omega) (ce_1 (by decide))) rfl 1 (by decide) (hts (.fieldLink RX4 61 "QuietStairs$Planner" "count" "I") (by decide +kernel)) (fun _ h9 => h9) rfl dX4_search_39 ?_
      refine lv_topi (fun x_8 ex_8 => ?_)
      have bzx_8 : 0 ≤ x_8.toInt ∧ x_8.toInt ≤ 4 := by rw [ex_8]; exact hv.at (K := 1) (by decide) rfl
      rw [ev_7, upr_s, pk_un (by decide)] at ex_8
      obtain rfl : x_5 = x_8 := (ex_8.trans ex_5.symm).symm
      have zn_x_5 : (x_5.toNatClampNeg : Int) = x_5.toInt := t_nn (by omega)
      have hn_9 := t_n (x := x_5) (m := 4) ⟨by omega, by omega⟩
      refine va_copyi hx hb (hml.trans hl.1.symm) hown (hts (.methodLink RX4 99 arraycopyName) (by decide +kernel)) (hts (.native arraycopyName) (by decide +kernel)) (hts (.static arraycopyName) (by decide +kernel)) (hts (.initialized "java/lang/System") (by decide +kernel)) hK hP hD hS (6) (7) 0 0 (wl_at (by omega) (ce_17 (by decide))) (wl_at (by omega) (ce_17 (by decide))) rfl rfl rfl (by decide) (by decide) hn_9.1 (by rw [sb_cl0]; have := hn_9.2; omega) (by rw [sb_cl0]; have := hn_9.2; omega) (fun i hi => rfl) (Nat.le_of_ble_eq_true rfl) (Nat.le_of_ble_eq_true rfl) dX4_search_42 (fun H locs hP hD hS => ?_)
      obtain ⟨v_10, ev_10⟩ : ∃ u : Nat → Nat → Int32, u = upr v_7 (7) (va_cpy (v_7 (6)) (v_7 (7)) (0 : Int32).toNatClampNeg (0 : Int32).toNatClampNeg x_5.toNatClampNeg) := ⟨_, rfl⟩
      have hP : va_P (dC, dI) vwCl (wl ad kv cy N v_10) H := by rw [ev_10, ← wl_put (e := _) (ce_17 (by decide))]; exact hP
      have hD : va_D A (wl ad kv cy N v_10) := by rw [ev_10, ← wl_put (e := _) (ce_17 (by decide))]; exact hD
      have hv : Iv v_10 := by rw [ev_10]; exact hv.row (K := 17) (by decide) (fun j => rfl)
      have hs_10 : v_7 (6) = v (6) := by rw [ev_7, upr_n (by omega)]
      rw [hs_10] at ev_10
      exact W.vret hx hb hr (fun t ht hW => ⟨⟨v_10, rfl, ⟨hv, SC_leaf hsc (by show (v 1 1).toNatClampNeg ≤ _; rw [← ex_5]; omega) (by show _ < (v 1 0).toInt; omega) (fun k h1 h7 => by rw [ev_10, upr_n h7, ev_7, upr_n h1]) (by rw [ev_10, upr_n (by decide), ev_7, upr_s, pk_un (by decide)]) (by rw [ev_10, upr_n (by decide), ev_7, upr_s, pk_un (by decide)]) (by show (v_10 1 0).toInt = _; rw [ev_10, upr_n (by decide), ev_7, upr_s, pk_us]) (fun q hq => by have hq : q < (v 1 1).toNatClampNeg := hq; rw [← ex_5] at hq; rw [ev_10, up3, if_pos ⟨rfl, hq⟩])⟩, by rw [ht]; exact hP, hD⟩, hS.F ht⟩) hS.2.2 dX4_search_45
  · have tc_4 : x_2.toInt ≥ x_3.toInt := Int32.le_iff_toInt_le.mp (Int32.not_lt.mp c_4)
    exact W.vret hx hb hr (fun t ht hW => ⟨⟨v, rfl, ⟨hv, SC_cut hsc hG9 (by show (v 1 0).toInt ≤ _; omega)⟩, by rw [ht]; exact hP, hD⟩, hS.F ht⟩) hS.2.2 dX4_search_14

set_option maxHeartbeats 4000000 in
set_option maxRecDepth 100000 in
theorem e_X4_searchDay_2 (l : Launch) (dC : Nat → ClassId) (dI : Nat → Nat → Nat) (cy : Nat → ClassId) (sz : Nat) (ad : Nat → Nat) (kv : Value) (N : Nat) (hN : 119 ≤ N) (v : Nat → Nat → Int32) (hv : Iv v) (x0 x1 x2 : Int32) (hs : 2 ≤ x0.toInt ∧ x0.toInt ≤ 3) (ht : 0 ≤ x2.toInt ∧ x2.toInt ≤ 2) (wt : Int) (hsc : SC v x0.toNatClampNeg wt) (hd : x0.toInt < (v 1 1).toInt) (hw : x1.toInt = wt + (v 3 x0.toNatClampNeg).toInt * x2.toInt) (h9 : (v 9 x2.toNatClampNeg).toInt < (v 1 2).toInt) (t1 t2 : Nat) : Met l yX4_searchDay wsX4_searchDay ({ frames := 4, cells := 0, slots := 0, locals := 256 }) (va_Pc [.ref (ad 1), .int x0, .int x1, .int x2] (ex_PreT dC dI cy sz (wl ad kv cy N v) t1 t2)) (va_Qv (fun (u : Nat → Nat → Int32) => Iv u ∧ SDI v u x0.toNatClampNeg x2.toNatClampNeg 6) (fun u t => ex_Pst dC dI (va_A (wl ad kv cy N v) sz) (wl ad kv cy N u) t) (va_A (wl ad kv cy N v) sz)) 0 0 (va_A (wl ad kv cy N v) sz) := by
  refine Met.ofW (cc := cX4_searchDay) (maxL := 6) (ret := none) (by decide) rfl ?_
  intro p e s m args below meth c s₁ B hml hv
  obtain ⟨rfl, ⟨hsz, hE, hP, hK, hD0⟩, hSt⟩ := hv
  have hx := B.exec
  have hb := B.bytes
  have hr := B.returns
  have hts := atoms_spec (ws := wsX4_searchDay) B.pre
  have hown : s.vm.findClass RX4 = some m.cls := findClass_of_methodNamed B.named
  have hlocks := B.notSynchronized
  subst hsz
  have hD := hD0.self (sz := s.heap.size)
  generalize hAe : va_A (wl ad kv cy N v) s.heap.size = A at hD hSt ⊢
  have hA : ∀ q : Nat, s.heap.size ≤ q → A q := fun q h => by rw [← hAe]; exact Or.inr h
  have hS : va_S A s.heap s.heap [] := va_S.rf
  have hP : va_P (dC, dI) vwCl (wl ad kv cy N v) s.heap := hP
  have hl := lv_entry ([.ref (ad 1), .int x0, .int x1, .int x2]) (n := 6) (Nat.le_of_ble_eq_true rfl)
  rw [lg_entry_eq]
  generalize (lg_sl ([.ref (ad 1), .int x0, .int x1, .int x2]) ++ List.replicate (6 - (lg_sl ([.ref (ad 1), .int x0, .int x1, .int x2])).length) Slot.unset).toArray = ls at hl ⊢
  have hl : lv_has ls 6 [(0, .ref (ad 1)), (1, .int x0), (2, .int x1), (3, .int x2)] := hl
  have zn_x0 : (x0.toNatClampNeg : Int) = x0.toInt := t_nn (by omega)
  have zn_x2 : (x2.toNatClampNeg : Int) = x2.toInt := t_nn (by omega)
  have hx1 := SC_b hsc
  have k_0 : (0 : Int32).toInt = 0 := by decide
  have hd9 : x0.toNatClampNeg < plm v := by have z := t_nn (x := v 1 1) (by omega); show _ < (v 1 1).toNatClampNeg; omega
  refine lv_iconst (v := 0) hx hb dX4_searchDay_0 (by decide) ?_
  refine lv_istore (lv' := [(4, .int 0), (0, .ref (ad 1)), (1, .int x0), (2, .int x1), (3, .int x2)]) hx hb dX4_searchDay_1 hl (by decide) rfl (fun ls hl => ?_)
  have hc_1 : ∀ (n : Nat) (y1_4 : Int32) (u1 : Nat → Nat → Int32) (H : Heap) (locs : List Loc), 0 ≤ y1_4.toInt → y1_4.toInt ≤ 6 → (SDI v u1 x0.toNatClampNeg x2.toNatClampNeg y1_4.toNatClampNeg) → (6 - y1_4.toInt).toNat < n → Iv u1 → va_P (dC, dI) vwCl (wl ad kv cy N u1) H → va_D A (wl ad kv cy N u1) → va_S A s.heap H locs → ∀ ls : Array Slot, lv_has ls 6 [(4, .int y1_4), (0, .ref (ad 1)), (1, .int x0), (2, .int x1), (3, .int x2)] → W p l e (headSpec wsX4_searchDay ({ frames := 4, cells := 0, slots := 0, locals := 256 })).room s m [Value.ref (ad 1), Value.int x0, Value.int x1, Value.int x2].toArray below meth c H locs 0 0 (MQ below (va_Qv (fun (u : Nat → Nat → Int32) => Iv u ∧ SDI v u x0.toNatClampNeg x2.toNatClampNeg 6) (fun u t => ex_Pst dC dI A (wl ad kv cy N u) t) A) [Value.ref (ad 1), Value.int x0, Value.int x1, Value.int x2].toArray s 0 0 A) (F0 m 3 ls []) := by
    intro n
    induction n with
    | zero =>
      intro y1_4 u1 H locs ay1_4 by1_4 hi1_0 hm_1 hv hP hD hS ls hl
      exact absurd hm_1 (by omega)
    | succ n ih_1 =>
      intro y1_4 u1 H locs ay1_4 by1_4 hi1_0 hm_1 hv hP hD hS ls hl
      refine lv_iload hx hb dX4_searchDay_3 (lv_at hl 0 rfl) ?_
      refine lv_bipush (v := 6) hx hb dX4_searchDay_5 (by decide) ?_
      have k_6 : (6 : Int32).toInt = 6 := by decide
      refine lv_icmp_ge (tgt := 124) hx hb dX4_searchDay_7 (by decide) (fun c_2 => ?_) (fun c_2 => ?_)
      · have tc_2 : y1_4.toInt ≥ (6 : Int32).toInt := Int32.le_iff_toInt_le.mp c_2
        exact W.vret hx hb hr (fun t ht hW => ⟨⟨u1, rfl, ⟨hv, by have q9 := hi1_0; rw [show y1_4.toNatClampNeg = 6 from by have z9 := t_nn (x := y1_4) (by omega); omega] at q9; exact q9⟩, by rw [ht]; exact hP, hD⟩, hS.F ht⟩) hS.2.2 dX4_searchDay_124
      · have tc_2 : y1_4.toInt < (6 : Int32).toInt := Int32.lt_iff_toInt_lt.mp (Int32.not_le.mp c_2)
        refine lv_iconst (v := 1) hx hb dX4_searchDay_10 (by decide) ?_
        refine va_getsN hx hb hSt.2.1 hS hown (va_Nw.use rfl hE.2.2.2.2.2.2.2.2.2.2.2.2.2.2.2.1) (fun _ h => h) dX4_searchDay_11 ?_
        refine lv_iload hx hb dX4_searchDay_14 (lv_at hl 0 rfl) ?_
        have zn_y1_4 : (y1_4.toNatClampNeg : Int) = y1_4.toInt := t_nn (by omega)
        have hx_3 : y1_4.toNatClampNeg < 6 := by omega
        refine va_ti (v := .int (st_l y1_4.toNatClampNeg)) hx hb hSt.2.2 hS (vp_in_iff.mpr ⟨by omega, by omega⟩) rfl dX4_searchDay_16 ?_
        refine lv_topi (fun x_4 ex_4 => ?_)
        have bzx_4 : 0 ≤ x_4.toInt ∧ x_4.toInt ≤ 3 := by rw [ex_4]; exact (st_b _).2
        refine lv_ishl hx hb dX4_searchDay_17 ?_
        refine lv_topi (fun x_5 ex_5 => ?_)
        refine lv_iconst (v := 1) hx hb dX4_searchDay_18 (by decide) ?_
        refine va_getsN hx hb hSt.1.1 hS hown (va_Nw.use rfl hE.2.2.2.2.2.2.2.2.2.2.2.2.2.2.2.2) (fun _ h => h) dX4_searchDay_19 ?_
        refine lv_iload hx hb dX4_searchDay_22 (lv_at hl 0 rfl) ?_
        refine va_ti (v := .int (st_o y1_4.toNatClampNeg)) hx hb hSt.1.2 hS (vp_in_iff.mpr ⟨by omega, by omega⟩) rfl dX4_searchDay_24 ?_
        refine lv_topi (fun x_6 ex_6 => ?_)
        have bzx_6 : 0 ≤ x_6.toInt ∧ x_6.toInt ≤ 3 := by rw [ex_6]; exact (st_b _).1
        refine lv_ishl hx hb dX4_searchDay_25 ?_
        refine lv_topi (fun x_7 ex_7 => ?_)
        refine lv_ior hx hb dX4_searchDay_26 ?_
        refine lv_topi (fun x_8 ex_8 => ?_)
        have hsit : x_8 = sit y1_4.toNatClampNeg := by unfold sit; rw [ex_8, ex_5, ex_4, ex_7, ex_6]
        refine lv_istore (lv' := [(5, .int x_8), (4, .int y1_4), (0, .ref (ad 1)), (1, .int x0), (2, .int x1), (3, .int x2)]) hx hb dX4_searchDay_27 hl (by decide) rfl (fun ls hl => ?_)
        refine lv_aload_n hx hb dX4_searchDay_29 rfl (lv_at hl 2 rfl) ?_
        refine va_get (D := (dC, dI)) (ci := 4) (v := .ref (ad 4)) (C := RX4) (T := TX4) (N := 11) hx hb hts (by decide +kernel) hown hK hP (1) (wl_at (by omega) (ce_1 (by decide))) rfl 5 (by decide) (hts (.fieldLink RX4 18 "QuietStairs$Planner" "pairBits" "[I") (by decide +kernel)) (fun _ h9 => h9) rfl dX4_searchDay_30 ?_
        refine lv_iload_n hx hb dX4_searchDay_33 rfl (lv_at hl 3 rfl) ?_
        have hx_9 : x0.toNatClampNeg < 4 := by omega
        refine va_iald hx hb hK hP (4) 0 (wl_at (by omega) (ce_17 (by decide))) rfl (vp_in_iff.mpr ⟨by omega, by omega⟩) dX4_searchDay_34 ?_
        refine lv_topi (fun x_10 ex_10 => ?_)
        have qx_10 : x_10.toInt = (u1 (4) (x0.toNatClampNeg)).toInt := congrArg Int32.toInt ex_10
        refine lv_iload hx hb dX4_searchDay_35 (lv_at hl 1 rfl) ?_
        refine yc_p hP hS (va_runSN (As := [.int x_10, .int y1_4]) (rest := []) ⟨hx, hb, hml, hown, hts⟩ (e_X7_hasBit l x_10 y1_4) ⟨va_cnB 2 hts gX4_searchDay_X7_hasBit_n115 rfl rfl rfl hE.2.2.2.2.2.2.2.2.2.2.2.1 (hts (.initialized RX7) (by decide +kernel)) (by decide +kernel) ⟨Nat.le_of_ble_eq_true rfl, Nat.le_of_ble_eq_true rfl⟩, (hts (.static yX7_hasBit) (by decide +kernel)), trivial⟩ ex_preP rfl rfl hl.1 rfl (lv_room (Nat.le_of_ble_eq_true rfl)) dX4_searchDay_37 ⟨Nat.le_of_ble_eq_true rfl, Nat.le_of_ble_eq_true rfl⟩) (fun r_11 H locs hw_11 hP hS => ?_)
        rcases hw_11 with ⟨rfl, hh_12⟩ | ⟨rfl, hh_12⟩
        · refine lv_if_eq (tgt := 118) hx hb dX4_searchDay_40 (by decide) (fun c9 => absurd c9 (by decide)) (fun _ => ?_)
          refine lv_aload_n hx hb dX4_searchDay_43 rfl (lv_at hl 2 rfl) ?_
          refine va_get (D := (dC, dI)) (ci := 4) (v := .ref (ad 8)) (C := RX4) (T := TX4) (N := 11) hx hb hts (by decide +kernel) hown hK hP (1) (wl_at (by omega) (ce_1 (by decide))) rfl 9 (by decide) (hts (.fieldLink RX4 30 "QuietStairs$Planner" "busyBits" "[I") (by decide +kernel)) (fun _ h9 => h9) rfl dX4_searchDay_44 ?_
          refine lv_iload_n hx hb dX4_searchDay_47 rfl (lv_at hl 5 rfl) ?_
          have hx_13 : x2.toNatClampNeg < 3 := by omega
          refine va_iald hx hb hK hP (8) 0 (wl_at (by omega) (ce_18 (by decide))) rfl (vp_in_iff.mpr ⟨by omega, by omega⟩) dX4_searchDay_48 ?_
          refine lv_topi (fun x_14 ex_14 => ?_)
          have qx_14 : x_14.toInt = (u1 (8) (x2.toNatClampNeg)).toInt := congrArg Int32.toInt ex_14
          refine lv_iload hx hb dX4_searchDay_49 (lv_at hl 0 rfl) ?_
          refine lv_iand hx hb dX4_searchDay_51 ?_
          refine lv_topi (fun x_15 ex_15 => ?_)
          refine lv_if_ne (tgt := 118) hx hb dX4_searchDay_52 (by decide) (fun c_16 => ?_) (fun c_16 => ?_)
          · have tc_16 : x_15.toInt ≠ (0 : Int32).toInt := fun q => absurd (Int32.toInt_inj.mp q) c_16
            obtain ⟨x_17, ex_17⟩ : ∃ y : Int32, y = y1_4 + 1 := ⟨_, rfl⟩
            refine lv_iinc (v := x_17) (lv' := [(4, .int x_17), (5, .int x_8), (0, .ref (ad 1)), (1, .int x0), (2, .int x1), (3, .int x2)]) hx hb dX4_searchDay_118 hl (k := 1) rfl (by rw [ex_17]; rfl) (by decide) rfl (fun ls hl => ?_)
            have k_1 : (1 : Int32).toInt = 1 := by decide
            have tx_17 : x_17.toInt = y1_4.toInt + (1 : Int32).toInt := by rw [ex_17]; exact t_add ⟨by omega, by omega⟩
            refine lv_goto (tgt := 3) hx hb dX4_searchDay_121 (by decide) ?_
            have zn_x_17 : (x_17.toNatClampNeg : Int) = x_17.toInt := t_nn (by omega)
            exact ih_1 x_17 u1 _ _ (by omega) (by omega) (SDI_no hsc hd9 (by omega) (by omega) hi1_0 (Or.inr (fun q => by rw [← ex_14, ← hsit, ← ex_15] at q; have z9 := congrArg Int32.toInt q; omega)) (by omega)) (by omega) hv hP hD hS ls (lv_sub hl [0, 2, 3, 4, 5] rfl)
          · have tc_16 : x_15.toInt = (0 : Int32).toInt := by rw [c_16]
            refine lv_aload_n hx hb dX4_searchDay_55 rfl (lv_at hl 2 rfl) ?_
            refine va_get (D := (dC, dI)) (ci := 4) (v := .ref (ad 6)) (C := RX4) (T := TX4) (N := 11) hx hb hts (by decide +kernel) hown hK hP (1) (wl_at (by omega) (ce_1 (by decide))) rfl 7 (by decide) (hts (.fieldLink RX4 24 "QuietStairs$Planner" "seats" "[I") (by decide +kernel)) (fun _ h9 => h9) rfl dX4_searchDay_56 ?_
            refine lv_iload_n hx hb dX4_searchDay_59 rfl (lv_at hl 3 rfl) ?_
            refine lv_bipush (v := 6) hx hb dX4_searchDay_60 (by decide) ?_
            refine lv_iload_n hx hb dX4_searchDay_62 rfl (lv_at hl 5 rfl) ?_
            refine lv_imul hx hb dX4_searchDay_63 ?_
            refine lv_topi (fun x_17 ex_17 => ?_)
            have tx_17 : x_17.toInt = 6 * x2.toInt := by rw [ex_17, t_mul (by rw [k_6]; omega), k_6]
            refine lv_iload hx hb dX4_searchDay_64 (lv_at hl 1 rfl) ?_
            refine lv_iadd hx hb dX4_searchDay_66 ?_
            refine lv_topi (fun x_18 ex_18 => ?_)
            have tx_18 : x_18.toInt = x_17.toInt + y1_4.toInt := by rw [ex_18]; exact t_add ⟨by omega, by omega⟩
            refine va_iast hx hb hK hP hD hS (6) 0 (wl_at (by omega) (ce_17 (by decide))) rfl (vp_in_iff.mpr ⟨by omega, by omega⟩) dX4_searchDay_67 (fun H locs hP hD hS => ?_)
            obtain ⟨v_19, ev_19⟩ : ∃ u : Nat → Nat → Int32, u = upr u1 (6) (upd (u1 (6)) (x0.toNatClampNeg) x_18) := ⟨_, rfl⟩
            have hP : va_P (dC, dI) vwCl (wl ad kv cy N v_19) H := by rw [ev_19, ← wl_put (e := _) (ce_17 (by decide))]; exact hP
            have hD : va_D A (wl ad kv cy N v_19) := by rw [ev_19, ← wl_put (e := _) (ce_17 (by decide))]; exact hD
            have hv : Iv v_19 := by rw [ev_19]; exact hv.put (K := 17) (by decide) (fun h q => by simp [bd] at q)
            refine lv_aload_n hx hb dX4_searchDay_68 rfl (lv_at hl 2 rfl) ?_
            refine va_get (D := (dC, dI)) (ci := 4) (v := .ref (ad 8)) (C := RX4) (T := TX4) (N := 11) hx hb hts (by decide +kernel) hown hK hP (1) (wl_at (by omega) (ce_1 (by decide))) rfl 9 (by decide) (hts (.fieldLink RX4 30 "QuietStairs$Planner" "busyBits" "[I") (by decide +kernel)) (fun _ h9 => h9) rfl dX4_searchDay_69 ?_
            refine lv_iload_n hx hb dX4_searchDay_72 rfl (lv_at hl 5 rfl) ?_
            refine lv_dup2_11 hx hb dX4_searchDay_73 rfl rfl ?_
            refine va_iald hx hb hK hP (8) 0 (wl_at (by omega) (ce_18 (by decide))) rfl (vp_in_iff.mpr ⟨by omega, by omega⟩) dX4_searchDay_74 ?_
            refine lv_topi (fun x_20 ex_20 => ?_)
            rw [ev_19, upr_n (by omega)] at ex_20
            obtain rfl : x_14 = x_20 := (ex_20.trans ex_14.symm).symm
            refine lv_iload hx hb dX4_searchDay_75 (lv_at hl 0 rfl) ?_
            refine lv_ior hx hb dX4_searchDay_77 ?_
            refine lv_topi (fun x_21 ex_21 => ?_)
            refine va_iast hx hb hK hP hD hS (8) 0 (wl_at (by omega) (ce_18 (by decide))) rfl (vp_in_iff.mpr ⟨by omega, by omega⟩) dX4_searchDay_78 (fun H locs hP hD hS => ?_)
            obtain ⟨v_22, ev_22⟩ : ∃ u : Nat → Nat → Int32, u = upr v_19 (8) (upd (v_19 (8)) (x2.toNatClampNeg) x_21) := ⟨_, rfl⟩
            have hP : va_P (dC, dI) vwCl (wl ad kv cy N v_22) H := by rw [ev_22, ← wl_put (e := _) (ce_18 (by decide))]; exact hP
            have hD : va_D A (wl ad kv cy N v_22) := by rw [ev_22, ← wl_put (e := _) (ce_18 (by decide))]; exact hD
            have hv : Iv v_22 := by rw [ev_22]; exact hv.put (K := 18) (by decide) (fun h q => by simp [bd] at q)
            refine lv_aload_n hx hb dX4_searchDay_79 rfl (lv_at hl 2 rfl) ?_
            refine va_get (D := (dC, dI)) (ci := 4) (v := .ref (ad 9)) (C := RX4) (T := TX4) (N := 11) hx hb hts (by decide +kernel) hown hK hP (1) (wl_at (by omega) (ce_1 (by decide))) rfl 10 (by decide) (hts (.fieldLink RX4 33 "QuietStairs$Planner" "sittings" "[I") (by decide +kernel)) (fun _ h9 => h9) rfl dX4_searchDay_80 ?_
            refine lv_iload_n hx hb dX4_searchDay_83 rfl (lv_at hl 5 rfl) ?_
            refine lv_dup2_11 hx hb dX4_searchDay_84 rfl rfl ?_
            refine va_iald hx hb hK hP (9) 0 (wl_at (by omega) (ce_18 (by decide))) rfl (vp_in_iff.mpr ⟨by omega, by omega⟩) dX4_searchDay_85 ?_
            refine lv_topi (fun x_23 ex_23 => ?_)
            rw [ev_22, upr_n (by omega), ev_19, upr_n (by omega)] at ex_23
            have qx_23 : x_23.toInt = (u1 (9) (x2.toNatClampNeg)).toInt := congrArg Int32.toInt ex_23
            have hs9 : 0 ≤ x_23.toInt ∧ x_23.toInt ≤ 4 := by rw [ex_23]; exact SC_9 (SC_fr hsc hi1_0.1.1) _ (by omega)
            refine lv_iconst (v := 1) hx hb dX4_searchDay_86 (by decide) ?_
            refine lv_iadd hx hb dX4_searchDay_87 ?_
            refine lv_topi (fun x_24 ex_24 => ?_)
            have k_1 : (1 : Int32).toInt = 1 := by decide
            have tx_24 : x_24.toInt = x_23.toInt + (1 : Int32).toInt := by rw [ex_24]; exact t_add ⟨by omega, by omega⟩
            refine va_iast hx hb hK hP hD hS (9) 0 (wl_at (by omega) (ce_18 (by decide))) rfl (vp_in_iff.mpr ⟨by omega, by omega⟩) dX4_searchDay_88 (fun H locs hP hD hS => ?_)
            obtain ⟨v_25, ev_25⟩ : ∃ u : Nat → Nat → Int32, u = upr v_22 (9) (upd (v_22 (9)) (x2.toNatClampNeg) x_24) := ⟨_, rfl⟩
            have hP : va_P (dC, dI) vwCl (wl ad kv cy N v_25) H := by rw [ev_25, ← wl_put (e := _) (ce_18 (by decide))]; exact hP
            have hD : va_D A (wl ad kv cy N v_25) := by rw [ev_25, ← wl_put (e := _) (ce_18 (by decide))]; exact hD
            have hv : Iv v_25 := by rw [ev_25]; exact hv.put (K := 18) (by decide) (fun h q => by simp [bd] at q)
            refine lv_aload_n hx hb dX4_searchDay_89 rfl (lv_at hl 2 rfl) ?_
            refine lv_iload_n hx hb dX4_searchDay_90 rfl (lv_at hl 3 rfl) ?_
            refine lv_iconst (v := 1) hx hb dX4_searchDay_91 (by decide) ?_
            refine lv_iadd hx hb dX4_searchDay_92 ?_
            refine lv_topi (fun x_26 ex_26 => ?_)
            have tx_26 : x_26.toInt = x0.toInt + (1 : Int32).toInt := by rw [ex_26]; exact t_add ⟨by omega, by omega⟩
            refine lv_iload_n hx hb dX4_searchDay_93 rfl (lv_at hl 4 rfl) ?_
            have zn_x_26 : (x_26.toNatClampNeg : Int) = x_26.toInt := t_nn (by omega)
            have hbt9 : bt (u1 4 x0.toNatClampNeg) y1_4.toNatClampNeg := by rw [← ex_10]; unfold bt; rw [← ofn (x := y1_4) (by omega)]; exact hh_12
            have hbz9 : u1 8 x2.toNatClampNeg &&& sit y1_4.toNatClampNeg = 0 := by rw [← ex_14, ← hsit, ← ex_15]; exact Int32.toInt_inj.mp (by omega)
            have hk9 : ∀ k : Nat, k ≠ 6 → k ≠ 8 → k ≠ 9 → v_25 k = u1 k := fun k h1 h2 h3 => by rw [ev_25, upr_n h3, ev_22, upr_n h2, ev_19, upr_n h1]
            have g6 : v_25 6 = upd (u1 6) x0.toNatClampNeg x_18 := by rw [ev_25, upr_n (by decide), ev_22, upr_n (by decide), ev_19, upr_s]
            have g8 : v_25 8 = upd (u1 8) x2.toNatClampNeg x_21 := by rw [ev_25, upr_n (by decide), ev_22, upr_s, ev_19, upr_n (by decide)]
            have g9 : v_25 9 = upd (u1 9) x2.toNatClampNeg x_24 := by rw [ev_25, upr_s, ev_22, upr_n (by decide), ev_19, upr_n (by decide)]
            have hsc2 : SC v_25 x_26.toNatClampNeg x1.toInt := by
              rw [show x_26.toNatClampNeg = x0.toNatClampNeg + 1 from by omega]
              exact SC_in (D := x2.toNatClampNeg) (y := y1_4.toNatClampNeg) (SC_fr hsc hi1_0.1.1) (by rw [SG_m (SF_G hi1_0.1.1)]; exact hd9) (by omega) (by omega) hbt9 hbz9 (by rw [(hi1_0.1.1.2.2 x2.toNatClampNeg (by omega)).2, hi1_0.1.1.1.2.2]; exact h9) hk9 (fun q hq => by rw [g6, pk_un (by omega)]) (by rw [g6, pk_us]; omega) (by rw [g8, pk_us, ex_21, ex_14, hsit]) (fun E hE => by rw [g8, pk_un hE]) (by rw [g9, pk_us]; omega) (fun E hE => by rw [g9, pk_un hE]) (by have q9 := hw; rw [← zn_x2] at q9; rw [SG_W (SF_G hi1_0.1.1)]; exact q9)
            refine yw_v (w1 := fun (u : Nat → Nat → Int32) => wl ad kv cy N u) hD hS hA (va_runV (As := [.int x_26, .int x1]) (rest := []) ⟨hx, hb, hml, hown, hts⟩ (e_X4_search_1 l dC dI cy _ ad kv N hN v_25 hv x_26 x1 ⟨by omega, by omega⟩ hsc2 t1 t2) (cwV 2 hts gX4_searchDay_X4_search rfl rfl rfl (by decide +kernel) ⟨Nat.le_of_ble_eq_true rfl, Nat.le_of_ble_eq_true rfl⟩) ⟨ex_blindT, va_recv hK hP (ci := 4) (q0 := 1) rfl (wl_at (by omega) (ce_1 (by decide))), fun U hU hW => ⟨rfl, ((yw_preS (As := []) hE hK hP hD).2 U hU hW).2, hSt.go hS (yw_F hD hS hA) hU hW⟩⟩ rfl rfl hl.1 rfl (lv_room (Nat.le_of_ble_eq_true rfl)) dX4_searchDay_94 ⟨Nat.le_of_ble_eq_true rfl, Nat.le_of_ble_eq_true rfl⟩) (fun v_27 H locs hw_27 hP hD hS => ?_)
            obtain ⟨hv, hw_27⟩ := hw_27
            rw [show x_26.toNatClampNeg = x0.toNatClampNeg + 1 from by omega] at hw_27
            refine lv_aload_n hx hb dX4_searchDay_97 rfl (lv_at hl 2 rfl) ?_
            refine va_get (D := (dC, dI)) (ci := 4) (v := .ref (ad 9)) (C := RX4) (T := TX4) (N := 11) hx hb hts (by decide +kernel) hown hK hP (1) (wl_at (by omega) (ce_1 (by decide))) rfl 10 (by decide) (hts (.fieldLink RX4 33 "QuietStairs$Planner" "sittings" "[I") (by decide +kernel)) (fun _ h9 => h9) rfl dX4_searchDay_98 ?_
            refine lv_iload_n hx hb dX4_searchDay_101 rfl (lv_at hl 5 rfl) ?_
            refine lv_dup2_11 hx hb dX4_searchDay_102 rfl rfl ?_
            refine va_iald hx hb hK hP (9) 0 (wl_at (by omega) (ce_18 (by decide))) rfl (vp_in_iff.mpr ⟨by omega, by omega⟩) dX4_searchDay_103 ?_
            refine lv_topi (fun x_28 ex_28 => ?_)
            have qx_28 : x_28.toInt = (v_27 (9) (x2.toNatClampNeg)).toInt := congrArg Int32.toInt ex_28
            have hs8 : x_28.toInt = x_23.toInt + 1 := by rw [ex_28, (hw_27.1.1.2.2 x2.toNatClampNeg (by omega)).2, g9, pk_us]; omega
            refine lv_iconst (v := 1) hx hb dX4_searchDay_104 (by decide) ?_
            refine lv_isub hx hb dX4_searchDay_105 ?_
            refine lv_topi (fun x_29 ex_29 => ?_)
            have tx_29 : x_29.toInt = x_28.toInt - (1 : Int32).toInt := by rw [ex_29]; exact t_sub ⟨by omega, by omega⟩
            refine va_iast hx hb hK hP hD hS (9) 0 (wl_at (by omega) (ce_18 (by decide))) rfl (vp_in_iff.mpr ⟨by omega, by omega⟩) dX4_searchDay_106 (fun H locs hP hD hS => ?_)
            obtain ⟨v_30, ev_30⟩ : ∃ u : Nat → Nat → Int32, u = upr v_27 (9) (upd (v_27 (9)) (x2.toNatClampNeg) x_29) := ⟨_, rfl⟩
            have hP : va_P (dC, dI) vwCl (wl ad kv cy N v_30) H := by rw [ev_30, ← wl_put (e := _) (ce_18 (by decide))]; exact hP
            have hD : va_D A (wl ad kv cy N v_30) := by rw [ev_30, ← wl_put (e := _) (ce_18 (by decide))]; exact hD
            have hv : Iv v_30 := by rw [ev_30]; exact hv.put (K := 18) (by decide) (fun h q => by simp [bd] at q)
            refine lv_aload_n hx hb dX4_searchDay_107 rfl (lv_at hl 2 rfl) ?_
            refine va_get (D := (dC, dI)) (ci := 4) (v := .ref (ad 8)) (C := RX4) (T := TX4) (N := 11) hx hb hts (by decide +kernel) hown hK hP (1) (wl_at (by omega) (ce_1 (by decide))) rfl 9 (by decide) (hts (.fieldLink RX4 30 "QuietStairs$Planner" "busyBits" "[I") (by decide +kernel)) (fun _ h9 => h9) rfl dX4_searchDay_108 ?_
            refine lv_iload_n hx hb dX4_searchDay_111 rfl (lv_at hl 5 rfl) ?_
            refine lv_dup2_11 hx hb dX4_searchDay_112 rfl rfl ?_
            refine va_iald hx hb hK hP (8) 0 (wl_at (by omega) (ce_18 (by decide))) rfl (vp_in_iff.mpr ⟨by omega, by omega⟩) dX4_searchDay_113 ?_
            refine lv_topi (fun x_31 ex_31 => ?_)
            rw [ev_30, upr_n (by omega)] at ex_31
            have qx_31 : x_31.toInt = (v_27 (8) (x2.toNatClampNeg)).toInt := congrArg Int32.toInt ex_31
            refine lv_iload hx hb dX4_searchDay_114 (lv_at hl 0 rfl) ?_
            refine lv_ixor hx hb dX4_searchDay_116 ?_
            refine lv_topi (fun x_32 ex_32 => ?_)
            refine va_iast hx hb hK hP hD hS (8) 0 (wl_at (by omega) (ce_18 (by decide))) rfl (vp_in_iff.mpr ⟨by omega, by omega⟩) dX4_searchDay_117 (fun H locs hP hD hS => ?_)
            obtain ⟨v_33, ev_33⟩ : ∃ u : Nat → Nat → Int32, u = upr v_30 (8) (upd (v_30 (8)) (x2.toNatClampNeg) x_32) := ⟨_, rfl⟩
            have hP : va_P (dC, dI) vwCl (wl ad kv cy N v_33) H := by rw [ev_33, ← wl_put (e := _) (ce_18 (by decide))]; exact hP
            have hD : va_D A (wl ad kv cy N v_33) := by rw [ev_33, ← wl_put (e := _) (ce_18 (by decide))]; exact hD
            have hv : Iv v_33 := by rw [ev_33]; exact hv.put (K := 18) (by decide) (fun h q => by simp [bd] at q)
            obtain ⟨x_34, ex_34⟩ : ∃ y : Int32, y = y1_4 + 1 := ⟨_, rfl⟩
            refine lv_iinc (v := x_34) (lv' := [(4, .int x_34), (5, .int x_8), (0, .ref (ad 1)), (1, .int x0), (2, .int x1), (3, .int x2)]) hx hb dX4_searchDay_118 hl (k := 1) rfl (by rw [ex_34]; rfl) (by decide) rfl (fun ls hl => ?_)
            have tx_34 : x_34.toInt = y1_4.toInt + (1 : Int32).toInt := by rw [ex_34]; exact t_add ⟨by omega, by omega⟩
            refine lv_goto (tgt := 3) hx hb dX4_searchDay_121 (by decide) ?_
            have zn_x_34 : (x_34.toNatClampNeg : Int) = x_34.toInt := t_nn (by omega)
            exact ih_1 x_34 v_33 _ _ (by omega) (by omega) (SDI_s (D := x2.toNatClampNeg) (y := y1_4.toNatClampNeg) hd9 (by omega) hi1_0 ((SC_fr hsc hi1_0.1.1).2.1.1 _ (by omega)).1.1 (by omega) hbz9 hk9 (fun q hq => by rw [g6, pk_un (by omega)]) (by rw [g6, pk_us]; omega) (by rw [g8, pk_us, ex_21, ex_14, hsit]) (fun E hE => by rw [g8, pk_un hE]) (by rw [g9, pk_us]; omega) (fun E hE => by rw [g9, pk_un hE]) hw_27 (fun k h1 h2 => by rw [ev_33, upr_n h1, ev_30, upr_n h2]) (by rw [ev_33, upr_s, pk_us, ex_32, ex_31, hsit]) (fun E hE => by rw [ev_33, upr_s, pk_un hE, ev_30, upr_n (by decide)]) (by rw [ev_33, upr_n (by decide), ev_30, upr_s, pk_us]; omega) (fun E hE => by rw [ev_33, upr_n (by decide), ev_30, upr_s, pk_un hE]) (by omega)) (by omega) hv hP hD hS ls (lv_sub hl [0, 2, 3, 4, 5] rfl)
        · refine lv_if_eq (tgt := 118) hx hb dX4_searchDay_40 (by decide) (fun _ => ?_) (fun c9 => absurd c9 (by decide))
          obtain ⟨x_13, ex_13⟩ : ∃ y : Int32, y = y1_4 + 1 := ⟨_, rfl⟩
          refine lv_iinc (v := x_13) (lv' := [(4, .int x_13), (5, .int x_8), (0, .ref (ad 1)), (1, .int x0), (2, .int x1), (3, .int x2)]) hx hb dX4_searchDay_118 hl (k := 1) rfl (by rw [ex_13]; rfl) (by decide) rfl (fun ls hl => ?_)
          have k_1 : (1 : Int32).toInt = 1 := by decide
          have tx_13 : x_13.toInt = y1_4.toInt + (1 : Int32).toInt := by rw [ex_13]; exact t_add ⟨by omega, by omega⟩
          refine lv_goto (tgt := 3) hx hb dX4_searchDay_121 (by decide) ?_
          have zn_x_13 : (x_13.toNatClampNeg : Int) = x_13.toInt := t_nn (by omega)
          exact ih_1 x_13 u1 _ _ (by omega) (by omega) (SDI_no hsc hd9 (by omega) (by omega) hi1_0 (Or.inl (fun q => absurd (show (btx x_10 y1_4).toInt = 1 by rw [← ex_10] at q; unfold bt at q; rw [← ofn (x := y1_4) (by omega)] at q; exact q) hh_12)) (by omega)) (by omega) hv hP hD hS ls (lv_sub hl [0, 2, 3, 4, 5] rfl)
  exact hc_1 ((6 - (0 : Int32).toInt).toNat + 1) 0 v _ _ (by omega) (by omega) (SDI_0 (by decide)) (by omega) hv hP hD hS ls (lv_sub hl [0, 1, 2, 3, 4] rfl)

set_option maxHeartbeats 4000000 in
set_option maxRecDepth 100000 in
theorem e_X4_search_2 (l : Launch) (dC : Nat → ClassId) (dI : Nat → Nat → Nat) (cy : Nat → ClassId) (sz : Nat) (ad : Nat → Nat) (kv : Value) (N : Nat) (hN : 119 ≤ N) (v : Nat → Nat → Int32) (hv : Iv v) (x0 x1 : Int32) (hs : 2 ≤ x0.toInt ∧ x0.toInt ≤ 4) (hsc : SC v x0.toNatClampNeg x1.toInt) (t1 t2 : Nat) : Met l yX4_search wsX4_search ({ frames := 5, cells := 0, slots := 0, locals := 320 }) (va_Pc [.ref (ad 1), .int x0, .int x1] (ex_PreT dC dI cy sz (wl ad kv cy N v) t1 t2)) (va_Qv (fun (u : Nat → Nat → Int32) => Iv u ∧ SRS v u x0.toNatClampNeg) (fun u t => ex_Pst dC dI (va_A (wl ad kv cy N v) sz) (wl ad kv cy N u) t) (va_A (wl ad kv cy N v) sz)) 0 0 (va_A (wl ad kv cy N v) sz) := by
  refine Met.ofW (cc := cX4_search) (maxL := 4) (ret := none) (by decide) rfl ?_
  intro p e s m args below meth c s₁ B hml hv
  obtain ⟨rfl, ⟨hsz, hE, hP, hK, hD0⟩, hSt⟩ := hv
  have hx := B.exec
  have hb := B.bytes
  have hr := B.returns
  have hts := atoms_spec (ws := wsX4_search) B.pre
  have hown : s.vm.findClass RX4 = some m.cls := findClass_of_methodNamed B.named
  have hlocks := B.notSynchronized
  subst hsz
  have hD := hD0.self (sz := s.heap.size)
  generalize hAe : va_A (wl ad kv cy N v) s.heap.size = A at hD hSt ⊢
  have hA : ∀ q : Nat, s.heap.size ≤ q → A q := fun q h => by rw [← hAe]; exact Or.inr h
  have hS : va_S A s.heap s.heap [] := va_S.rf
  have hP : va_P (dC, dI) vwCl (wl ad kv cy N v) s.heap := hP
  have hl := lv_entry ([.ref (ad 1), .int x0, .int x1]) (n := 4) (Nat.le_of_ble_eq_true rfl)
  rw [lg_entry_eq]
  generalize (lg_sl ([.ref (ad 1), .int x0, .int x1]) ++ List.replicate (4 - (lg_sl ([.ref (ad 1), .int x0, .int x1])).length) Slot.unset).toArray = ls at hl ⊢
  have hl : lv_has ls 4 [(0, .ref (ad 1)), (1, .int x0), (2, .int x1)] := hl
  have zn_x0 : (x0.toNatClampNeg : Int) = x0.toInt := t_nn (by omega)
  have hx1 := SC_b hsc
  have k_0 : (0 : Int32).toInt = 0 := by decide
  refine lv_iload_n hx hb dX4_search_0 rfl (lv_at hl 2 rfl) ?_
  refine lv_aload_n hx hb dX4_search_1 rfl (lv_at hl 0 rfl) ?_
  refine lv_iload_n hx hb dX4_search_2 rfl (lv_at hl 1 rfl) ?_
  refine yw_i (w1 := fun (u : Nat → Nat → Int32) => wl ad kv cy N u) hD hS hA (va_runV (As := [.int x0]) (rest := [.int x1]) ⟨hx, hb, hml, hown, hts⟩ (e_X4_leastBehind l dC dI cy _ ad kv N hN v hv x0 (SC_w hsc) (SC_s hsc) (SC_9 hsc) (by omega)) (cwV 1 hts gX4_search_X4_leastBehind rfl rfl rfl (by decide +kernel) ⟨Nat.le_of_ble_eq_true rfl, Nat.le_of_ble_eq_true rfl⟩) (yw_preV hE hK hP hD (ci := 4) (q0 := 1) rfl (wl_at (by omega) (ce_1 (by decide)))) rfl rfl hl.1 rfl (lv_room (Nat.le_of_ble_eq_true rfl)) dX4_search_3 ⟨Nat.le_of_ble_eq_true rfl, Nat.le_of_ble_eq_true rfl⟩) (fun r_1 v_1 H locs hw_1 hP hD hS => ?_)
  obtain ⟨-, hu_1, hw_1⟩ := hw_1
  replace hu_1 := hu_1.symm
  subst hu_1
  obtain ⟨hr9, dy9, tk9, hG9⟩ := hw_1
  refine lv_iadd hx hb dX4_search_6 ?_
  refine lv_topi (fun x_2 ex_2 => ?_)
  have tx_2 : x_2.toInt = x1.toInt + r_1.toInt := by rw [ex_2]; exact t_add ⟨by omega, by omega⟩
  refine lv_aload_n hx hb dX4_search_7 rfl (lv_at hl 0 rfl) ?_
  refine va_get (D := (dC, dI)) (ci := 4) (v := .int (v (1) 0)) (C := RX4) (T := TX4) (N := 11) hx hb hts (by decide +kernel) hown hK hP (1) (wl_at (by omega) (ce_1 (by decide))) rfl 0 (by decide) (hts (.fieldLink RX4 58 "QuietStairs$Planner" "leastWait" "I") (by decide +kernel)) (fun _ h9 => h9) rfl dX4_search_8 ?_
  refine lv_topi (fun x_3 ex_3 => ?_)
  have qx_3 : x_3.toInt = (v (1) (0)).toInt := congrArg Int32.toInt ex_3
  refine lv_icmp_lt (tgt := 15) hx hb dX4_search_11 (by decide) (fun c_4 => ?_) (fun c_4 => ?_)
  · have tc_4 : x_2.toInt < x_3.toInt := Int32.lt_iff_toInt_lt.mp c_4
    refine lv_iload_n hx hb dX4_search_15 rfl (lv_at hl 1 rfl) ?_
    refine lv_aload_n hx hb dX4_search_16 rfl (lv_at hl 0 rfl) ?_
    refine va_get (D := (dC, dI)) (ci := 4) (v := .int (v (1) 1)) (C := RX4) (T := TX4) (N := 11) hx hb hts (by decide +kernel) hown hK hP (1) (wl_at (by omega) (ce_1 (by decide))) rfl 1 (by decide) (hts (.fieldLink RX4 61 "QuietStairs$Planner" "count" "I") (by decide +kernel)) (fun _ h9 => h9) rfl dX4_search_17 ?_
    refine lv_topi (fun x_5 ex_5 => ?_)
    have bzx_5 : 0 ≤ x_5.toInt ∧ x_5.toInt ≤ 4 := by rw [ex_5]; exact hv.at (K := 1) (by decide) rfl
    have qx_5 : x_5.toInt = (v (1) (1)).toInt := congrArg Int32.toInt ex_5
    refine lv_icmp_lt (tgt := 46) hx hb dX4_search_20 (by decide) (fun c_6 => ?_) (fun c_6 => ?_)
    · have tc_6 : x0.toInt < x_5.toInt := Int32.lt_iff_toInt_lt.mp c_6
      have zn_x_5 : (x_5.toNatClampNeg : Int) = x_5.toInt := t_nn (by omega)
      have hd9 : x0.toNatClampNeg < plm v := by show _ < (v 1 1).toNatClampNeg; rw [← ex_5]; omega
      refine lv_iconst (v := 0) hx hb dX4_search_46 (by decide) ?_
      refine lv_istore_n (lv' := [(3, .int 0), (0, .ref (ad 1)), (1, .int x0), (2, .int x1)]) hx hb dX4_search_47 rfl hl (by decide) rfl (fun ls hl => ?_)
      have hc_7 : ∀ (n : Nat) (y7_3 : Int32) (u7 : Nat → Nat → Int32) (H : Heap) (locs : List Loc), 0 ≤ y7_3.toInt → y7_3.toInt ≤ 3 → (DYI v u7 x0.toNatClampNeg y7_3.toNatClampNeg) → (3 - y7_3.toInt).toNat < n → Iv u7 → va_P (dC, dI) vwCl (wl ad kv cy N u7) H → va_D A (wl ad kv cy N u7) → va_S A s.heap H locs → ∀ ls : Array Slot, lv_has ls 4 [(3, .int y7_3), (0, .ref (ad 1)), (1, .int x0), (2, .int x1)] → W p l e (headSpec wsX4_search ({ frames := 5, cells := 0, slots := 0, locals := 320 })).room s m [Value.ref (ad 1), Value.int x0, Value.int x1].toArray below meth c H locs 0 0 (MQ below (va_Qv (fun (u : Nat → Nat → Int32) => Iv u ∧ SRS v u x0.toNatClampNeg) (fun u t => ex_Pst dC dI A (wl ad kv cy N u) t) A) [Value.ref (ad 1), Value.int x0, Value.int x1].toArray s 0 0 A) (F0 m 48 ls []) := by
        intro n
        induction n with
        | zero =>
          intro y7_3 u7 H locs ay7_3 by7_3 hi7_0 hm_7 hv hP hD hS ls hl
          exact absurd hm_7 (by omega)
        | succ n ih_7 =>
          intro y7_3 u7 H locs ay7_3 by7_3 hi7_0 hm_7 hv hP hD hS ls hl
          refine lv_iload_n hx hb dX4_search_48 rfl (lv_at hl 0 rfl) ?_
          refine lv_iconst (v := 3) hx hb dX4_search_49 (by decide) ?_
          have k_3 : (3 : Int32).toInt = 3 := by decide
          refine lv_icmp_ge (tgt := 88) hx hb dX4_search_50 (by decide) (fun c_8 => ?_) (fun c_8 => ?_)
          · have tc_8 : y7_3.toInt ≥ (3 : Int32).toInt := Int32.le_iff_toInt_le.mp c_8
            refine lv_aload_n hx hb dX4_search_88 rfl (lv_at hl 1 rfl) ?_
            refine va_get (D := (dC, dI)) (ci := 4) (v := .ref (ad 6)) (C := RX4) (T := TX4) (N := 11) hx hb hts (by decide +kernel) hown hK hP (1) (wl_at (by omega) (ce_1 (by decide))) rfl 7 (by decide) (hts (.fieldLink RX4 24 "QuietStairs$Planner" "seats" "[I") (by decide +kernel)) (fun _ h9 => h9) rfl dX4_search_89 ?_
            refine lv_iload_n hx hb dX4_search_92 rfl (lv_at hl 2 rfl) ?_
            refine lv_bipush (v := 18) hx hb dX4_search_93 (by decide) ?_
            have hx_9 : x0.toNatClampNeg < 4 := by omega
            refine va_iast hx hb hK hP hD hS (6) 0 (wl_at (by omega) (ce_17 (by decide))) rfl (vp_in_iff.mpr ⟨by omega, by omega⟩) dX4_search_95 (fun H locs hP hD hS => ?_)
            have k_18 : (18 : Int32).toInt = 18 := by decide
            obtain ⟨v_10, ev_10⟩ : ∃ u : Nat → Nat → Int32, u = upr u7 (6) (upd (u7 (6)) (x0.toNatClampNeg) 18) := ⟨_, rfl⟩
            have hP : va_P (dC, dI) vwCl (wl ad kv cy N v_10) H := by rw [ev_10, ← wl_put (e := _) (ce_17 (by decide))]; exact hP
            have hD : va_D A (wl ad kv cy N v_10) := by rw [ev_10, ← wl_put (e := _) (ce_17 (by decide))]; exact hD
            have hv : Iv v_10 := by rw [ev_10]; exact hv.put (K := 17) (by decide) (fun h q => by simp [bd] at q)
            refine lv_aload_n hx hb dX4_search_96 rfl (lv_at hl 1 rfl) ?_
            refine lv_iload_n hx hb dX4_search_97 rfl (lv_at hl 2 rfl) ?_
            refine lv_iconst (v := 1) hx hb dX4_search_98 (by decide) ?_
            refine lv_iadd hx hb dX4_search_99 ?_
            refine lv_topi (fun x_11 ex_11 => ?_)
            have k_1 : (1 : Int32).toInt = 1 := by decide
            have tx_11 : x_11.toInt = x0.toInt + (1 : Int32).toInt := by rw [ex_11]; exact t_add ⟨by omega, by omega⟩
            refine lv_iload_n hx hb dX4_search_100 rfl (lv_at hl 3 rfl) ?_
            refine lv_aload_n hx hb dX4_search_101 rfl (lv_at hl 1 rfl) ?_
            refine va_get (D := (dC, dI)) (ci := 4) (v := .ref (ad 3)) (C := RX4) (T := TX4) (N := 11) hx hb hts (by decide +kernel) hown hK hP (1) (wl_at (by omega) (ce_1 (by decide))) rfl 4 (by decide) (hts (.fieldLink RX4 15 "QuietStairs$Planner" "weights" "[I") (by decide +kernel)) (fun _ h9 => h9) rfl dX4_search_102 ?_
            refine lv_iload_n hx hb dX4_search_105 rfl (lv_at hl 2 rfl) ?_
            refine va_iald hx hb hK hP (3) 0 (wl_at (by omega) (ce_17 (by decide))) rfl (vp_in_iff.mpr ⟨by omega, by omega⟩) dX4_search_106 ?_
            refine lv_topi (fun x_12 ex_12 => ?_)
            rw [ev_10, upr_n (by omega)] at ex_12
            have qx_12 : x_12.toInt = (u7 (3) (x0.toNatClampNeg)).toInt := congrArg Int32.toInt ex_12
            have hw9 : 1 ≤ x_12.toInt ∧ x_12.toInt ≤ 9 := by rw [ex_12, (SF_G hi7_0.1.1).1.1]; exact SC_w hsc _ (by omega)
            refine lv_iconst (v := 4) hx hb dX4_search_107 (by decide) ?_
            refine lv_imul hx hb dX4_search_108 ?_
            refine lv_topi (fun x_13 ex_13 => ?_)
            have k_4 : (4 : Int32).toInt = 4 := by decide
            have tx_13 : x_13.toInt = 4 * x_12.toInt := by rw [ex_13, t_mul (by rw [k_4]; omega), k_4]; omega
            refine lv_iadd hx hb dX4_search_109 ?_
            refine lv_topi (fun x_14 ex_14 => ?_)
            have tx_14 : x_14.toInt = x1.toInt + x_13.toInt := by rw [ex_14]; exact t_add ⟨by omega, by omega⟩
            have zn_x_11 : (x_11.toNatClampNeg : Int) = x_11.toInt := t_nn (by omega)
            have hsc2 : SC v_10 x_11.toNatClampNeg x_14.toInt := by
              rw [show x_11.toNatClampNeg = x0.toNatClampNeg + 1 from by omega]
              exact SC_18 (SC_fr hsc hi7_0.1.1) (by rw [SG_m (SF_G hi7_0.1.1)]; exact hd9) (fun k h => by rw [ev_10, upr_n h]) (fun q hq => by rw [ev_10, upr_s, pk_un (by omega)]) (by rw [ev_10, upr_s, pk_us]; decide) (by show _ = _ + (u7 3 x0.toNatClampNeg).toInt * 4; omega)
            refine yw_v (w1 := fun (u : Nat → Nat → Int32) => wl ad kv cy N u) hD hS hA (va_runV (As := [.int x_11, .int x_14]) (rest := []) ⟨hx, hb, hml, hown, hts⟩ (e_X4_search_1 l dC dI cy _ ad kv N hN v_10 hv x_11 x_14 ⟨by omega, by omega⟩ hsc2 t1 t2) (cwV 2 hts gX4_search_X4_search rfl rfl rfl (by decide +kernel) ⟨Nat.le_of_ble_eq_true rfl, Nat.le_of_ble_eq_true rfl⟩) ⟨ex_blindT, va_recv hK hP (ci := 4) (q0 := 1) rfl (wl_at (by omega) (ce_1 (by decide))), fun U hU hW => ⟨rfl, ((yw_preS (As := []) hE hK hP hD).2 U hU hW).2, hSt.go hS (yw_F hD hS hA) hU hW⟩⟩ rfl rfl hl.1 rfl (lv_room (Nat.le_of_ble_eq_true rfl)) dX4_search_110 ⟨Nat.le_of_ble_eq_true rfl, Nat.le_of_ble_eq_true rfl⟩) (fun v_15 H locs hw_15 hP hD hS => ?_)
            obtain ⟨hv, hw_15⟩ := hw_15
            rw [show x_11.toNatClampNeg = x0.toNatClampNeg + 1 from by omega] at hw_15
            have zn_y7_3 : (y7_3.toNatClampNeg : Int) = y7_3.toInt := t_nn (by omega)
            exact W.vret hx hb hr (fun t ht hW => ⟨⟨v_15, rfl, ⟨hv, DYI_e hd9 hi7_0 (by omega) (fun k h => by rw [ev_10, upr_n h]) (fun q hq => by rw [ev_10, upr_s, pk_un (by omega)]) (by rw [ev_10, upr_s, pk_us]; decide) hw_15⟩, by rw [ht]; exact hP, hD⟩, hS.F ht⟩) hS.2.2 dX4_search_113
          · have tc_8 : y7_3.toInt < (3 : Int32).toInt := Int32.lt_iff_toInt_lt.mp (Int32.not_le.mp c_8)
            refine lv_aload_n hx hb dX4_search_53 rfl (lv_at hl 1 rfl) ?_
            refine va_get (D := (dC, dI)) (ci := 4) (v := .ref (ad 9)) (C := RX4) (T := TX4) (N := 11) hx hb hts (by decide +kernel) hown hK hP (1) (wl_at (by omega) (ce_1 (by decide))) rfl 10 (by decide) (hts (.fieldLink RX4 33 "QuietStairs$Planner" "sittings" "[I") (by decide +kernel)) (fun _ h9 => h9) rfl dX4_search_54 ?_
            refine lv_iload_n hx hb dX4_search_57 rfl (lv_at hl 0 rfl) ?_
            have zn_y7_3 : (y7_3.toNatClampNeg : Int) = y7_3.toInt := t_nn (by omega)
            have hx_9 : y7_3.toNatClampNeg < 3 := by omega
            refine va_iald hx hb hK hP (9) 0 (wl_at (by omega) (ce_18 (by decide))) rfl (vp_in_iff.mpr ⟨by omega, by omega⟩) dX4_search_58 ?_
            refine lv_topi (fun x_10 ex_10 => ?_)
            have qx_10 : x_10.toInt = (u7 (9) (y7_3.toNatClampNeg)).toInt := congrArg Int32.toInt ex_10
            refine lv_aload_n hx hb dX4_search_59 rfl (lv_at hl 1 rfl) ?_
            refine va_get (D := (dC, dI)) (ci := 4) (v := .int (u7 (1) 2)) (C := RX4) (T := TX4) (N := 11) hx hb hts (by decide +kernel) hown hK hP (1) (wl_at (by omega) (ce_1 (by decide))) rfl 2 (by decide) (hts (.fieldLink RX4 48 "QuietStairs$Planner" "seatsADay" "I") (by decide +kernel)) (fun _ h9 => h9) rfl dX4_search_60 ?_
            refine lv_topi (fun x_11 ex_11 => ?_)
            have qx_11 : x_11.toInt = (u7 (1) (2)).toInt := congrArg Int32.toInt ex_11
            refine lv_icmp_ge (tgt := 82) hx hb dX4_search_63 (by decide) (fun c_12 => ?_) (fun c_12 => ?_)
            · have tc_12 : x_10.toInt ≥ x_11.toInt := Int32.le_iff_toInt_le.mp c_12
              obtain ⟨x_13, ex_13⟩ : ∃ y : Int32, y = y7_3 + 1 := ⟨_, rfl⟩
              refine lv_iinc (v := x_13) (lv' := [(3, .int x_13), (0, .ref (ad 1)), (1, .int x0), (2, .int x1)]) hx hb dX4_search_82 hl (k := 0) rfl (by rw [ex_13]; rfl) (by decide) rfl (fun ls hl => ?_)
              have k_1 : (1 : Int32).toInt = 1 := by decide
              have tx_13 : x_13.toInt = y7_3.toInt + (1 : Int32).toInt := by rw [ex_13]; exact t_add ⟨by omega, by omega⟩
              refine lv_goto (tgt := 48) hx hb dX4_search_85 (by decide) ?_
              have zn_x_13 : (x_13.toNatClampNeg : Int) = x_13.toInt := t_nn (by omega)
              exact ih_7 x_13 u7 _ _ (by omega) (by omega) (DYI_no hsc hd9 (by omega) hi7_0 (by omega) (by omega)) (by omega) hv hP hD hS ls (lv_sub hl [0, 1, 2, 3] rfl)
            · have tc_12 : x_10.toInt < x_11.toInt := Int32.lt_iff_toInt_lt.mp (Int32.not_le.mp c_12)
              refine lv_aload_n hx hb dX4_search_66 rfl (lv_at hl 1 rfl) ?_
              refine lv_iload_n hx hb dX4_search_67 rfl (lv_at hl 2 rfl) ?_
              refine lv_iload_n hx hb dX4_search_68 rfl (lv_at hl 3 rfl) ?_
              refine lv_aload_n hx hb dX4_search_69 rfl (lv_at hl 1 rfl) ?_
              refine va_get (D := (dC, dI)) (ci := 4) (v := .ref (ad 3)) (C := RX4) (T := TX4) (N := 11) hx hb hts (by decide +kernel) hown hK hP (1) (wl_at (by omega) (ce_1 (by decide))) rfl 4 (by decide) (hts (.fieldLink RX4 15 "QuietStairs$Planner" "weights" "[I") (by decide +kernel)) (fun _ h9 => h9) rfl dX4_search_70 ?_
              refine lv_iload_n hx hb dX4_search_73 rfl (lv_at hl 2 rfl) ?_
              have hx_13 : x0.toNatClampNeg < 4 := by omega
              refine va_iald hx hb hK hP (3) 0 (wl_at (by omega) (ce_17 (by decide))) rfl (vp_in_iff.mpr ⟨by omega, by omega⟩) dX4_search_74 ?_
              refine lv_topi (fun x_14 ex_14 => ?_)
              have qx_14 : x_14.toInt = (u7 (3) (x0.toNatClampNeg)).toInt := congrArg Int32.toInt ex_14
              have hw9 : 1 ≤ x_14.toInt ∧ x_14.toInt ≤ 9 := by rw [ex_14, (SF_G hi7_0.1.1).1.1]; exact SC_w hsc _ (by omega)
              refine lv_iload_n hx hb dX4_search_75 rfl (lv_at hl 0 rfl) ?_
              refine lv_imul hx hb dX4_search_76 ?_
              refine lv_topi (fun x_15 ex_15 => ?_)
              have m0x_15 : 0 ≤ x_14.toInt * y7_3.toInt := Int.mul_nonneg (by omega) (by omega)
              have m1x_15 : x_14.toInt * y7_3.toInt ≤ 9 * 2 := Int.mul_le_mul (by omega) (by omega) (by omega) (by decide)
              have tx_15 : x_15.toInt = x_14.toInt * y7_3.toInt := by rw [ex_15]; exact t_mul ⟨by omega, by omega⟩
              refine lv_iadd hx hb dX4_search_77 ?_
              refine lv_topi (fun x_16 ex_16 => ?_)
              have tx_16 : x_16.toInt = x1.toInt + x_15.toInt := by rw [ex_16]; exact t_add ⟨by omega, by omega⟩
              refine lv_iload_n hx hb dX4_search_78 rfl (lv_at hl 0 rfl) ?_
              refine yw_v (w1 := fun (u : Nat → Nat → Int32) => wl ad kv cy N u) hD hS hA (va_runV (As := [.int x0, .int x_16, .int y7_3]) (rest := []) ⟨hx, hb, hml, hown, hts⟩ (e_X4_searchDay_2 l dC dI cy _ ad kv N hN u7 hv x0 x_16 y7_3 ⟨by omega, by omega⟩ ⟨by omega, by omega⟩ x1.toInt (SC_fr hsc hi7_0.1.1) (by rw [hi7_0.1.1.1.2.1]; omega) (by rw [← ex_14]; omega) (by omega) t1 t2) (cwV 3 hts gX4_search_X4_searchDay rfl rfl rfl (by decide +kernel) ⟨Nat.le_of_ble_eq_true rfl, Nat.le_of_ble_eq_true rfl⟩) ⟨ex_blindT, va_recv hK hP (ci := 4) (q0 := 1) rfl (wl_at (by omega) (ce_1 (by decide))), fun U hU hW => ⟨rfl, ((yw_preS (As := []) hE hK hP hD).2 U hU hW).2, hSt.go hS (yw_F hD hS hA) hU hW⟩⟩ rfl rfl hl.1 rfl (lv_room (Nat.le_of_ble_eq_true rfl)) dX4_search_79 ⟨Nat.le_of_ble_eq_true rfl, Nat.le_of_ble_eq_true rfl⟩) (fun v_17 H locs hw_17 hP hD hS => ?_)
              obtain ⟨hv, hw_17⟩ := hw_17
              obtain ⟨x_18, ex_18⟩ : ∃ y : Int32, y = y7_3 + 1 := ⟨_, rfl⟩
              refine lv_iinc (v := x_18) (lv' := [(3, .int x_18), (0, .ref (ad 1)), (1, .int x0), (2, .int x1)]) hx hb dX4_search_82 hl (k := 0) rfl (by rw [ex_18]; rfl) (by decide) rfl (fun ls hl => ?_)
              have k_1 : (1 : Int32).toInt = 1 := by decide
              have tx_18 : x_18.toInt = y7_3.toInt + (1 : Int32).toInt := by rw [ex_18]; exact t_add ⟨by omega, by omega⟩
              refine lv_goto (tgt := 48) hx hb dX4_search_85 (by decide) ?_
              have zn_x_18 : (x_18.toNatClampNeg : Int) = x_18.toInt := t_nn (by omega)
              exact ih_7 x_18 v_17 _ _ (by omega) (by omega) (DYI_s hi7_0 hw_17 (by omega)) (by omega) hv hP hD hS ls (lv_sub hl [0, 1, 2, 3] rfl)
      exact hc_7 ((3 - (0 : Int32).toInt).toNat + 1) 0 v _ _ (by omega) (by omega) (DYI_0 (by decide)) (by omega) hv hP hD hS ls (lv_sub hl [0, 1, 2, 3] rfl)
    · have tc_6 : x0.toInt ≥ x_5.toInt := Int32.le_iff_toInt_le.mp (Int32.not_lt.mp c_6)
      refine lv_aload_n hx hb dX4_search_23 rfl (lv_at hl 0 rfl) ?_
      refine lv_iload_n hx hb dX4_search_24 rfl (lv_at hl 2 rfl) ?_
      refine va_put (D := (dC, dI)) (ci := 4) (v := .int x1) (ty := .int) (C := RX4) (T := TX4) (N := 11) hx hb hts (by decide +kernel) tyX4 tyX4_ok nmX4 hown hK hP hD hS (1) (wl_at (by omega) (ce_1 (by decide))) rfl 0 (by decide) (hts (.fieldLink RX4 58 "QuietStairs$Planner" "leastWait" "I") (by decide +kernel)) (fun _ h9 => h9) rfl (by decide +kernel) rfl rfl (Nat.le_of_ble_eq_true rfl) dX4_search_25 (fun H locs hP hD hS => ?_)
      obtain ⟨v_7, ev_7⟩ : ∃ u : Nat → Nat → Int32, u = upr v (1) (upd (v (1)) 0 x1) := ⟨_, rfl⟩
      have hP : va_P (dC, dI) vwCl (wl ad kv cy N v_7) H := by rw [ev_7, ← wl_put (e := _) (ce_1 (by decide))]; exact hP
      have hD : va_D A (wl ad kv cy N v_7) := by rw [ev_7, ← wl_put (e := _) (ce_1 (by decide))]; exact hD
      have hv : Iv v_7 := by rw [ev_7]; exact hv.put (K := 1) (by decide) (fun h q => by simp [bd] at q)
      refine lv_aload_n hx hb dX4_search_28 rfl (lv_at hl 0 rfl) ?_
      refine va_get (D := (dC, dI)) (ci := 4) (v := .ref (ad 6)) (C := RX4) (T := TX4) (N := 11) hx hb hts (by decide +kernel) hown hK hP (1) (wl_at (by omega) (ce_1 (by decide))) rfl 7 (by decide) (hts (.fieldLink RX4 24 "QuietStairs$Planner" "seats" "[I") (by decide +kernel)) (fun _ h9 => h9) rfl dX4_search_29 ?_
      refine lv_iconst (v := 0) hx hb dX4_search_32 (by decide) ?_
      refine lv_aload_n hx hb dX4_search_33 rfl (lv_at hl 0 rfl) ?_
      refine va_get (D := (dC, dI)) (ci := 4) (v := .ref (ad 7)) (C := RX4) (T := TX4) (N := 11) hx hb hts (by decide +kernel) hown hK hP (1) (wl_at (by omega) (ce_1 (by decide))) rfl 8 (by decide) (hts (.fieldLink RX4 27 "QuietStairs$Planner" "bestSeats" "[I") (by decide +kernel)) (fun _ h9 => h9) rfl dX4_search_34 ?_
      refine lv_iconst (v := 0) hx hb dX4_search_37 (by decide) ?_
      refine lv_aload_n hx hb dX4_search_38 rfl (lv_at hl 0 rfl) ?_
      refine va_get (D := (dC, dI)) (ci := 4) (v := .int (v_7 (1) 1)) (C := RX4) (T := TX4) (N := 11) hx hb hts (by decide +kernel) hown hK hP (1) (wl_at (by omega) (ce_1 (by decide))) rfl 1 (by decide) (hts (.fieldLink RX4 61 "QuietStairs$Planner" "count" "I") (by decide +kernel)) (fun _ h9 => h9) rfl dX4_search_39 ?_
      refine lv_topi (fun x_8 ex_8 => ?_)
      have bzx_8 : 0 ≤ x_8.toInt ∧ x_8.toInt ≤ 4 := by rw [ex_8]; exact hv.at (K := 1) (by decide) rfl
      rw [ev_7, upr_s, pk_un (by decide)] at ex_8
      obtain rfl : x_5 = x_8 := (ex_8.trans ex_5.symm).symm
      have zn_x_5 : (x_5.toNatClampNeg : Int) = x_5.toInt := t_nn (by omega)
      have hn_9 := t_n (x := x_5) (m := 4) ⟨by omega, by omega⟩
      refine va_copyi hx hb (hml.trans hl.1.symm) hown (hts (.methodLink RX4 99 arraycopyName) (by decide +kernel)) (hts (.native arraycopyName) (by decide +kernel)) (hts (.static arraycopyName) (by decide +kernel)) (hts (.initialized "java/lang/System") (by decide +kernel)) hK hP hD hS (6) (7) 0 0 (wl_at (by omega) (ce_17 (by decide))) (wl_at (by omega) (ce_17 (by decide))) rfl rfl rfl (by decide) (by decide) hn_9.1 (by rw [sb_cl0]; have := hn_9.2; omega) (by rw [sb_cl0]; have := hn_9.2; omega) (fun i hi => rfl) (Nat.le_of_ble_eq_true rfl) (Nat.le_of_ble_eq_true rfl) dX4_search_42 (fun H locs hP hD hS => ?_)
      obtain ⟨v_10, ev_10⟩ : ∃ u : Nat → Nat → Int32, u = upr v_7 (7) (va_cpy (v_7 (6)) (v_7 (7)) (0 : Int32).toNatClampNeg (0 : Int32).toNatClampNeg x_5.toNatClampNeg) := ⟨_, rfl⟩
      have hP : va_P (dC, dI) vwCl (wl ad kv cy N v_10) H := by rw [ev_10, ← wl_put (e := _) (ce_17 (by decide))]; exact hP
      have hD : va_D A (wl ad kv cy N v_10) := by rw [ev_10, ← wl_put (e := _) (ce_17 (by decide))]; exact hD
      have hv : Iv v_10 := by rw [ev_10]; exact hv.row (K := 17) (by decide) (fun j => rfl)
      have hs_10 : v_7 (6) = v (6) := by rw [ev_7, upr_n (by omega)]
      rw [hs_10] at ev_10
      exact W.vret hx hb hr (fun t ht hW => ⟨⟨v_10, rfl, ⟨hv, SC_leaf hsc (by show (v 1 1).toNatClampNeg ≤ _; rw [← ex_5]; omega) (by show _ < (v 1 0).toInt; omega) (fun k h1 h7 => by rw [ev_10, upr_n h7, ev_7, upr_n h1]) (by rw [ev_10, upr_n (by decide), ev_7, upr_s, pk_un (by decide)]) (by rw [ev_10, upr_n (by decide), ev_7, upr_s, pk_un (by decide)]) (by show (v_10 1 0).toInt = _; rw [ev_10, upr_n (by decide), ev_7, upr_s, pk_us]) (fun q hq => by have hq : q < (v 1 1).toNatClampNeg := hq; rw [← ex_5] at hq; rw [ev_10, up3, if_pos ⟨rfl, hq⟩])⟩, by rw [ht]; exact hP, hD⟩, hS.F ht⟩) hS.2.2 dX4_search_45
  · have tc_4 : x_2.toInt ≥ x_3.toInt := Int32.le_iff_toInt_le.mp (Int32.not_lt.mp c_4)
    exact W.vret hx hb hr (fun t ht hW => ⟨⟨v, rfl, ⟨hv, SC_cut hsc hG9 (by show (v 1 0).toInt ≤ _; omega)⟩, by rw [ht]; exact hP, hD⟩, hS.F ht⟩) hS.2.2 dX4_search_14

set_option maxHeartbeats 4000000 in
set_option maxRecDepth 100000 in
theorem e_X4_searchDay_3 (l : Launch) (dC : Nat → ClassId) (dI : Nat → Nat → Nat) (cy : Nat → ClassId) (sz : Nat) (ad : Nat → Nat) (kv : Value) (N : Nat) (hN : 119 ≤ N) (v : Nat → Nat → Int32) (hv : Iv v) (x0 x1 x2 : Int32) (hs : 1 ≤ x0.toInt ∧ x0.toInt ≤ 3) (ht : 0 ≤ x2.toInt ∧ x2.toInt ≤ 2) (wt : Int) (hsc : SC v x0.toNatClampNeg wt) (hd : x0.toInt < (v 1 1).toInt) (hw : x1.toInt = wt + (v 3 x0.toNatClampNeg).toInt * x2.toInt) (h9 : (v 9 x2.toNatClampNeg).toInt < (v 1 2).toInt) (t1 t2 : Nat) : Met l yX4_searchDay wsX4_searchDay ({ frames := 6, cells := 0, slots := 0, locals := 384 }) (va_Pc [.ref (ad 1), .int x0, .int x1, .int x2] (ex_PreT dC dI cy sz (wl ad kv cy N v) t1 t2)) (va_Qv (fun (u : Nat → Nat → Int32) => Iv u ∧ SDI v u x0.toNatClampNeg x2.toNatClampNeg 6) (fun u t => ex_Pst dC dI (va_A (wl ad kv cy N v) sz) (wl ad kv cy N u) t) (va_A (wl ad kv cy N v) sz)) 0 0 (va_A (wl ad kv cy N v) sz) := by
  refine Met.ofW (cc := cX4_searchDay) (maxL := 6) (ret := none) (by decide) rfl ?_
  intro p e s m args below meth c s₁ B hml hv
  obtain ⟨rfl, ⟨hsz, hE, hP, hK, hD0⟩, hSt⟩ := hv
  have hx := B.exec
  have hb := B.bytes
  have hr := B.returns
  have hts := atoms_spec (ws := wsX4_searchDay) B.pre
  have hown : s.vm.findClass RX4 = some m.cls := findClass_of_methodNamed B.named
  have hlocks := B.notSynchronized
  subst hsz
  have hD := hD0.self (sz := s.heap.size)
  generalize hAe : va_A (wl ad kv cy N v) s.heap.size = A at hD hSt ⊢
  have hA : ∀ q : Nat, s.heap.size ≤ q → A q := fun q h => by rw [← hAe]; exact Or.inr h
  have hS : va_S A s.heap s.heap [] := va_S.rf
  have hP : va_P (dC, dI) vwCl (wl ad kv cy N v) s.heap := hP
  have hl := lv_entry ([.ref (ad 1), .int x0, .int x1, .int x2]) (n := 6) (Nat.le_of_ble_eq_true rfl)
  rw [lg_entry_eq]
  generalize (lg_sl ([.ref (ad 1), .int x0, .int x1, .int x2]) ++ List.replicate (6 - (lg_sl ([.ref (ad 1), .int x0, .int x1, .int x2])).length) Slot.unset).toArray = ls at hl ⊢
  have hl : lv_has ls 6 [(0, .ref (ad 1)), (1, .int x0), (2, .int x1), (3, .int x2)] := hl
  have zn_x0 : (x0.toNatClampNeg : Int) = x0.toInt := t_nn (by omega)
  have zn_x2 : (x2.toNatClampNeg : Int) = x2.toInt := t_nn (by omega)
  have hx1 := SC_b hsc
  have k_0 : (0 : Int32).toInt = 0 := by decide
  have hd9 : x0.toNatClampNeg < plm v := by have z := t_nn (x := v 1 1) (by omega); show _ < (v 1 1).toNatClampNeg; omega
  refine lv_iconst (v := 0) hx hb dX4_searchDay_0 (by decide) ?_
  refine lv_istore (lv' := [(4, .int 0), (0, .ref (ad 1)), (1, .int x0), (2, .int x1), (3, .int x2)]) hx hb dX4_searchDay_1 hl (by decide) rfl (fun ls hl => ?_)
  have hc_1 : ∀ (n : Nat) (y1_4 : Int32) (u1 : Nat → Nat → Int32) (H : Heap) (locs : List Loc), 0 ≤ y1_4.toInt → y1_4.toInt ≤ 6 → (SDI v u1 x0.toNatClampNeg x2.toNatClampNeg y1_4.toNatClampNeg) → (6 - y1_4.toInt).toNat < n → Iv u1 → va_P (dC, dI) vwCl (wl ad kv cy N u1) H → va_D A (wl ad kv cy N u1) → va_S A s.heap H locs → ∀ ls : Array Slot, lv_has ls 6 [(4, .int y1_4), (0, .ref (ad 1)), (1, .int x0), (2, .int x1), (3, .int x2)] → W p l e (headSpec wsX4_searchDay ({ frames := 6, cells := 0, slots := 0, locals := 384 })).room s m [Value.ref (ad 1), Value.int x0, Value.int x1, Value.int x2].toArray below meth c H locs 0 0 (MQ below (va_Qv (fun (u : Nat → Nat → Int32) => Iv u ∧ SDI v u x0.toNatClampNeg x2.toNatClampNeg 6) (fun u t => ex_Pst dC dI A (wl ad kv cy N u) t) A) [Value.ref (ad 1), Value.int x0, Value.int x1, Value.int x2].toArray s 0 0 A) (F0 m 3 ls []) := by
    intro n
    induction n with
    | zero =>
      intro y1_4 u1 H locs ay1_4 by1_4 hi1_0 hm_1 hv hP hD hS ls hl
      exact absurd hm_1 (by omega)
    | succ n ih_1 =>
      intro y1_4 u1 H locs ay1_4 by1_4 hi1_0 hm_1 hv hP hD hS ls hl
      refine lv_iload hx hb dX4_searchDay_3 (lv_at hl 0 rfl) ?_
      refine lv_bipush (v := 6) hx hb dX4_searchDay_5 (by decide) ?_
      have k_6 : (6 : Int32).toInt = 6 := by decide
      refine lv_icmp_ge (tgt := 124) hx hb dX4_searchDay_7 (by decide) (fun c_2 => ?_) (fun c_2 => ?_)
      · have tc_2 : y1_4.toInt ≥ (6 : Int32).toInt := Int32.le_iff_toInt_le.mp c_2
        exact W.vret hx hb hr (fun t ht hW => ⟨⟨u1, rfl, ⟨hv, by have q9 := hi1_0; rw [show y1_4.toNatClampNeg = 6 from by have z9 := t_nn (x := y1_4) (by omega); omega] at q9; exact q9⟩, by rw [ht]; exact hP, hD⟩, hS.F ht⟩) hS.2.2 dX4_searchDay_124
      · have tc_2 : y1_4.toInt < (6 : Int32).toInt := Int32.lt_iff_toInt_lt.mp (Int32.not_le.mp c_2)
        refine lv_iconst (v := 1) hx hb dX4_searchDay_10 (by decide) ?_
        refine va_getsN hx hb hSt.2.1 hS hown (va_Nw.use rfl hE.2.2.2.2.2.2.2.2.2.2.2.2.2.2.2.1) (fun _ h => h) dX4_searchDay_11 ?_
        refine lv_iload hx hb dX4_searchDay_14 (lv_at hl 0 rfl) ?_
        have zn_y1_4 : (y1_4.toNatClampNeg : Int) = y1_4.toInt := t_nn (by omega)
        have hx_3 : y1_4.toNatClampNeg < 6 := by omega
        refine va_ti (v := .int (st_l y1_4.toNatClampNeg)) hx hb hSt.2.2 hS (vp_in_iff.mpr ⟨by omega, by omega⟩) rfl dX4_searchDay_16 ?_
        refine lv_topi (fun x_4 ex_4 => ?_)
        have bzx_4 : 0 ≤ x_4.toInt ∧ x_4.toInt ≤ 3 := by rw [ex_4]; exact (st_b _).2
        refine lv_ishl hx hb dX4_searchDay_17 ?_
        refine lv_topi (fun x_5 ex_5 => ?_)
        refine lv_iconst (v := 1) hx hb dX4_searchDay_18 (by decide) ?_
        refine va_getsN hx hb hSt.1.1 hS hown (va_Nw.use rfl hE.2.2.2.2.2.2.2.2.2.2.2.2.2.2.2.2) (fun _ h => h) dX4_searchDay_19 ?_
        refine lv_iload hx hb dX4_searchDay_22 (lv_at hl 0 rfl) ?_
        refine va_ti (v := .int (st_o y1_4.toNatClampNeg)) hx hb hSt.1.2 hS (vp_in_iff.mpr ⟨by omega, by omega⟩) rfl dX4_searchDay_24 ?_
        refine lv_topi (fun x_6 ex_6 => ?_)
        have bzx_6 : 0 ≤ x_6.toInt ∧ x_6.toInt ≤ 3 := by rw [ex_6]; exact (st_b _).1
        refine lv_ishl hx hb dX4_searchDay_25 ?_
        refine lv_topi (fun x_7 ex_7 => ?_)
        refine lv_ior hx hb dX4_searchDay_26 ?_
        refine lv_topi (fun x_8 ex_8 => ?_)
        have hsit : x_8 = sit y1_4.toNatClampNeg := by unfold sit; rw [ex_8, ex_5, ex_4, ex_7, ex_6]
        refine lv_istore (lv' := [(5, .int x_8), (4, .int y1_4), (0, .ref (ad 1)), (1, .int x0), (2, .int x1), (3, .int x2)]) hx hb dX4_searchDay_27 hl (by decide) rfl (fun ls hl => ?_)
        refine lv_aload_n hx hb dX4_searchDay_29 rfl (lv_at hl 2 rfl) ?_
        refine va_get (D := (dC, dI)) (ci := 4) (v := .ref (ad 4)) (C := RX4) (T := TX4) (N := 11) hx hb hts (by decide +kernel) hown hK hP (1) (wl_at (by omega) (ce_1 (by decide))) rfl 5 (by decide) (hts (.fieldLink RX4 18 "QuietStairs$Planner" "pairBits" "[I") (by decide +kernel)) (fun _ h9 => h9) rfl dX4_searchDay_30 ?_
        refine lv_iload_n hx hb dX4_searchDay_33 rfl (lv_at hl 3 rfl) ?_
        have hx_9 : x0.toNatClampNeg < 4 := by omega
        refine va_iald hx hb hK hP (4) 0 (wl_at (by omega) (ce_17 (by decide))) rfl (vp_in_iff.mpr ⟨by omega, by omega⟩) dX4_searchDay_34 ?_
        refine lv_topi (fun x_10 ex_10 => ?_)
        have qx_10 : x_10.toInt = (u1 (4) (x0.toNatClampNeg)).toInt := congrArg Int32.toInt ex_10
        refine lv_iload hx hb dX4_searchDay_35 (lv_at hl 1 rfl) ?_
        refine yc_p hP hS (va_runSN (As := [.int x_10, .int y1_4]) (rest := []) ⟨hx, hb, hml, hown, hts⟩ (e_X7_hasBit l x_10 y1_4) ⟨va_cnB 2 hts gX4_searchDay_X7_hasBit_n115 rfl rfl rfl hE.2.2.2.2.2.2.2.2.2.2.2.1 (hts (.initialized RX7) (by decide +kernel)) (by decide +kernel) ⟨Nat.le_of_ble_eq_true rfl, Nat.le_of_ble_eq_true rfl⟩, (hts (.static yX7_hasBit) (by decide +kernel)), trivial⟩ ex_preP rfl rfl hl.1 rfl (lv_room (Nat.le_of_ble_eq_true rfl)) dX4_searchDay_37 ⟨Nat.le_of_ble_eq_true rfl, Nat.le_of_ble_eq_true rfl⟩) (fun r_11 H locs hw_11 hP hS => ?_)
        rcases hw_11 with ⟨rfl, hh_12⟩ | ⟨rfl, hh_12⟩
        · refine lv_if_eq (tgt := 118) hx hb dX4_searchDay_40 (by decide) (fun c9 => absurd c9 (by decide)) (fun _ => ?_)
          refine lv_aload_n hx hb dX4_searchDay_43 rfl (lv_at hl 2 rfl) ?_
          refine va_get (D := (dC, dI)) (ci := 4) (v := .ref (ad 8)) (C := RX4) (T := TX4) (N := 11) hx hb hts (by decide +kernel) hown hK hP (1) (wl_at (by omega) (ce_1 (by decide))) rfl 9 (by decide) (hts (.fieldLink RX4 30 "QuietStairs$Planner" "busyBits" "[I") (by decide +kernel)) (fun _ h9 => h9) rfl dX4_searchDay_44 ?_
          refine lv_iload_n hx hb dX4_searchDay_47 rfl (lv_at hl 5 rfl) ?_
          have hx_13 : x2.toNatClampNeg < 3 := by omega
          refine va_iald hx hb hK hP (8) 0 (wl_at (by omega) (ce_18 (by decide))) rfl (vp_in_iff.mpr ⟨by omega, by omega⟩) dX4_searchDay_48 ?_
          refine lv_topi (fun x_14 ex_14 => ?_)
          have qx_14 : x_14.toInt = (u1 (8) (x2.toNatClampNeg)).toInt := congrArg Int32.toInt ex_14
          refine lv_iload hx hb dX4_searchDay_49 (lv_at hl 0 rfl) ?_
          refine lv_iand hx hb dX4_searchDay_51 ?_
          refine lv_topi (fun x_15 ex_15 => ?_)
          refine lv_if_ne (tgt := 118) hx hb dX4_searchDay_52 (by decide) (fun c_16 => ?_) (fun c_16 => ?_)
          · have tc_16 : x_15.toInt ≠ (0 : Int32).toInt := fun q => absurd (Int32.toInt_inj.mp q) c_16
            obtain ⟨x_17, ex_17⟩ : ∃ y : Int32, y = y1_4 + 1 := ⟨_, rfl⟩
            refine lv_iinc (v := x_17) (lv' := [(4, .int x_17), (5, .int x_8), (0, .ref (ad 1)), (1, .int x0), (2, .int x1), (3, .int x2)]) hx hb dX4_searchDay_118 hl (k := 1) rfl (by rw [ex_17]; rfl) (by decide) rfl (fun ls hl => ?_)
            have k_1 : (1 : Int32).toInt = 1 := by decide
            have tx_17 : x_17.toInt = y1_4.toInt + (1 : Int32).toInt := by rw [ex_17]; exact t_add ⟨by omega, by omega⟩
            refine lv_goto (tgt := 3) hx hb dX4_searchDay_121 (by decide) ?_
            have zn_x_17 : (x_17.toNatClampNeg : Int) = x_17.toInt := t_nn (by omega)
            exact ih_1 x_17 u1 _ _ (by omega) (by omega) (SDI_no hsc hd9 (by omega) (by omega) hi1_0 (Or.inr (fun q => by rw [← ex_14, ← hsit, ← ex_15] at q; have z9 := congrArg Int32.toInt q; omega)) (by omega)) (by omega) hv hP hD hS ls (lv_sub hl [0, 2, 3, 4, 5] rfl)
          · have tc_16 : x_15.toInt = (0 : Int32).toInt := by rw [c_16]
            refine lv_aload_n hx hb dX4_searchDay_55 rfl (lv_at hl 2 rfl) ?_
            refine va_get (D := (dC, dI)) (ci := 4) (v := .ref (ad 6)) (C := RX4) (T := TX4) (N := 11) hx hb hts (by decide +kernel) hown hK hP (1) (wl_at (by omega) (ce_1 (by decide))) rfl 7 (by decide) (hts (.fieldLink RX4 24 "QuietStairs$Planner" "seats" "[I") (by decide +kernel)) (fun _ h9 => h9) rfl dX4_searchDay_56 ?_
            refine lv_iload_n hx hb dX4_searchDay_59 rfl (lv_at hl 3 rfl) ?_
            refine lv_bipush (v := 6) hx hb dX4_searchDay_60 (by decide) ?_
            refine lv_iload_n hx hb dX4_searchDay_62 rfl (lv_at hl 5 rfl) ?_
            refine lv_imul hx hb dX4_searchDay_63 ?_
            refine lv_topi (fun x_17 ex_17 => ?_)
            have tx_17 : x_17.toInt = 6 * x2.toInt := by rw [ex_17, t_mul (by rw [k_6]; omega), k_6]
            refine lv_iload hx hb dX4_searchDay_64 (lv_at hl 1 rfl) ?_
            refine lv_iadd hx hb dX4_searchDay_66 ?_
            refine lv_topi (fun x_18 ex_18 => ?_)
            have tx_18 : x_18.toInt = x_17.toInt + y1_4.toInt := by rw [ex_18]; exact t_add ⟨by omega, by omega⟩
            refine va_iast hx hb hK hP hD hS (6) 0 (wl_at (by omega) (ce_17 (by decide))) rfl (vp_in_iff.mpr ⟨by omega, by omega⟩) dX4_searchDay_67 (fun H locs hP hD hS => ?_)
            obtain ⟨v_19, ev_19⟩ : ∃ u : Nat → Nat → Int32, u = upr u1 (6) (upd (u1 (6)) (x0.toNatClampNeg) x_18) := ⟨_, rfl⟩
            have hP : va_P (dC, dI) vwCl (wl ad kv cy N v_19) H := by rw [ev_19, ← wl_put (e := _) (ce_17 (by decide))]; exact hP
            have hD : va_D A (wl ad kv cy N v_19) := by rw [ev_19, ← wl_put (e := _) (ce_17 (by decide))]; exact hD
            have hv : Iv v_19 := by rw [ev_19]; exact hv.put (K := 17) (by decide) (fun h q => by simp [bd] at q)
            refine lv_aload_n hx hb dX4_searchDay_68 rfl (lv_at hl 2 rfl) ?_
            refine va_get (D := (dC, dI)) (ci := 4) (v := .ref (ad 8)) (C := RX4) (T := TX4) (N := 11) hx hb hts (by decide +kernel) hown hK hP (1) (wl_at (by omega) (ce_1 (by decide))) rfl 9 (by decide) (hts (.fieldLink RX4 30 "QuietStairs$Planner" "busyBits" "[I") (by decide +kernel)) (fun _ h9 => h9) rfl dX4_searchDay_69 ?_
            refine lv_iload_n hx hb dX4_searchDay_72 rfl (lv_at hl 5 rfl) ?_
            refine lv_dup2_11 hx hb dX4_searchDay_73 rfl rfl ?_
            refine va_iald hx hb hK hP (8) 0 (wl_at (by omega) (ce_18 (by decide))) rfl (vp_in_iff.mpr ⟨by omega, by omega⟩) dX4_searchDay_74 ?_
            refine lv_topi (fun x_20 ex_20 => ?_)
            rw [ev_19, upr_n (by omega)] at ex_20
            obtain rfl : x_14 = x_20 := (ex_20.trans ex_14.symm).symm
            refine lv_iload hx hb dX4_searchDay_75 (lv_at hl 0 rfl) ?_
            refine lv_ior hx hb dX4_searchDay_77 ?_
            refine lv_topi (fun x_21 ex_21 => ?_)
            refine va_iast hx hb hK hP hD hS (8) 0 (wl_at (by omega) (ce_18 (by decide))) rfl (vp_in_iff.mpr ⟨by omega, by omega⟩) dX4_searchDay_78 (fun H locs hP hD hS => ?_)
            obtain ⟨v_22, ev_22⟩ : ∃ u : Nat → Nat → Int32, u = upr v_19 (8) (upd (v_19 (8)) (x2.toNatClampNeg) x_21) := ⟨_, rfl⟩
            have hP : va_P (dC, dI) vwCl (wl ad kv cy N v_22) H := by rw [ev_22, ← wl_put (e := _) (ce_18 (by decide))]; exact hP
            have hD : va_D A (wl ad kv cy N v_22) := by rw [ev_22, ← wl_put (e := _) (ce_18 (by decide))]; exact hD
            have hv : Iv v_22 := by rw [ev_22]; exact hv.put (K := 18) (by decide) (fun h q => by simp [bd] at q)
            refine lv_aload_n hx hb dX4_searchDay_79 rfl (lv_at hl 2 rfl) ?_
            refine va_get (D := (dC, dI)) (ci := 4) (v := .ref (ad 9)) (C := RX4) (T := TX4) (N := 11) hx hb hts (by decide +kernel) hown hK hP (1) (wl_at (by omega) (ce_1 (by decide))) rfl 10 (by decide) (hts (.fieldLink RX4 33 "QuietStairs$Planner" "sittings" "[I") (by decide +kernel)) (fun _ h9 => h9) rfl dX4_searchDay_80 ?_
            refine lv_iload_n hx hb dX4_searchDay_83 rfl (lv_at hl 5 rfl) ?_
            refine lv_dup2_11 hx hb dX4_searchDay_84 rfl rfl ?_
            refine va_iald hx hb hK hP (9) 0 (wl_at (by omega) (ce_18 (by decide))) rfl (vp_in_iff.mpr ⟨by omega, by omega⟩) dX4_searchDay_85 ?_
            refine lv_topi (fun x_23 ex_23 => ?_)
            rw [ev_22, upr_n (by omega), ev_19, upr_n (by omega)] at ex_23
            have qx_23 : x_23.toInt = (u1 (9) (x2.toNatClampNeg)).toInt := congrArg Int32.toInt ex_23
            have hs9 : 0 ≤ x_23.toInt ∧ x_23.toInt ≤ 4 := by rw [ex_23]; exact SC_9 (SC_fr hsc hi1_0.1.1) _ (by omega)
            refine lv_iconst (v := 1) hx hb dX4_searchDay_86 (by decide) ?_
            refine lv_iadd hx hb dX4_searchDay_87 ?_
            refine lv_topi (fun x_24 ex_24 => ?_)
            have k_1 : (1 : Int32).toInt = 1 := by decide
            have tx_24 : x_24.toInt = x_23.toInt + (1 : Int32).toInt := by rw [ex_24]; exact t_add ⟨by omega, by omega⟩
            refine va_iast hx hb hK hP hD hS (9) 0 (wl_at (by omega) (ce_18 (by decide))) rfl (vp_in_iff.mpr ⟨by omega, by omega⟩) dX4_searchDay_88 (fun H locs hP hD hS => ?_)
            obtain ⟨v_25, ev_25⟩ : ∃ u : Nat → Nat → Int32, u = upr v_22 (9) (upd (v_22 (9)) (x2.toNatClampNeg) x_24) := ⟨_, rfl⟩
            have hP : va_P (dC, dI) vwCl (wl ad kv cy N v_25) H := by rw [ev_25, ← wl_put (e := _) (ce_18 (by decide))]; exact hP
            have hD : va_D A (wl ad kv cy N v_25) := by rw [ev_25, ← wl_put (e := _) (ce_18 (by decide))]; exact hD
            have hv : Iv v_25 := by rw [ev_25]; exact hv.put (K := 18) (by decide) (fun h q => by simp [bd] at q)
            refine lv_aload_n hx hb dX4_searchDay_89 rfl (lv_at hl 2 rfl) ?_
            refine lv_iload_n hx hb dX4_searchDay_90 rfl (lv_at hl 3 rfl) ?_
            refine lv_iconst (v := 1) hx hb dX4_searchDay_91 (by decide) ?_
            refine lv_iadd hx hb dX4_searchDay_92 ?_
            refine lv_topi (fun x_26 ex_26 => ?_)
            have tx_26 : x_26.toInt = x0.toInt + (1 : Int32).toInt := by rw [ex_26]; exact t_add ⟨by omega, by omega⟩
            refine lv_iload_n hx hb dX4_searchDay_93 rfl (lv_at hl 4 rfl) ?_
            have zn_x_26 : (x_26.toNatClampNeg : Int) = x_26.toInt := t_nn (by omega)
            have hbt9 : bt (u1 4 x0.toNatClampNeg) y1_4.toNatClampNeg := by rw [← ex_10]; unfold bt; rw [← ofn (x := y1_4) (by omega)]; exact hh_12
            have hbz9 : u1 8 x2.toNatClampNeg &&& sit y1_4.toNatClampNeg = 0 := by rw [← ex_14, ← hsit, ← ex_15]; exact Int32.toInt_inj.mp (by omega)
            have hk9 : ∀ k : Nat, k ≠ 6 → k ≠ 8 → k ≠ 9 → v_25 k = u1 k := fun k h1 h2 h3 => by rw [ev_25, upr_n h3, ev_22, upr_n h2, ev_19, upr_n h1]
            have g6 : v_25 6 = upd (u1 6) x0.toNatClampNeg x_18 := by rw [ev_25, upr_n (by decide), ev_22, upr_n (by decide), ev_19, upr_s]
            have g8 : v_25 8 = upd (u1 8) x2.toNatClampNeg x_21 := by rw [ev_25, upr_n (by decide), ev_22, upr_s, ev_19, upr_n (by decide)]
            have g9 : v_25 9 = upd (u1 9) x2.toNatClampNeg x_24 := by rw [ev_25, upr_s, ev_22, upr_n (by decide), ev_19, upr_n (by decide)]
            have hsc2 : SC v_25 x_26.toNatClampNeg x1.toInt := by
              rw [show x_26.toNatClampNeg = x0.toNatClampNeg + 1 from by omega]
              exact SC_in (D := x2.toNatClampNeg) (y := y1_4.toNatClampNeg) (SC_fr hsc hi1_0.1.1) (by rw [SG_m (SF_G hi1_0.1.1)]; exact hd9) (by omega) (by omega) hbt9 hbz9 (by rw [(hi1_0.1.1.2.2 x2.toNatClampNeg (by omega)).2, hi1_0.1.1.1.2.2]; exact h9) hk9 (fun q hq => by rw [g6, pk_un (by omega)]) (by rw [g6, pk_us]; omega) (by rw [g8, pk_us, ex_21, ex_14, hsit]) (fun E hE => by rw [g8, pk_un hE]) (by rw [g9, pk_us]; omega) (fun E hE => by rw [g9, pk_un hE]) (by have q9 := hw; rw [← zn_x2] at q9; rw [SG_W (SF_G hi1_0.1.1)]; exact q9)
            refine yw_v (w1 := fun (u : Nat → Nat → Int32) => wl ad kv cy N u) hD hS hA (va_runV (As := [.int x_26, .int x1]) (rest := []) ⟨hx, hb, hml, hown, hts⟩ (e_X4_search_2 l dC dI cy _ ad kv N hN v_25 hv x_26 x1 ⟨by omega, by omega⟩ hsc2 t1 t2) (cwV 2 hts gX4_searchDay_X4_search rfl rfl rfl (by decide +kernel) ⟨Nat.le_of_ble_eq_true rfl, Nat.le_of_ble_eq_true rfl⟩) ⟨ex_blindT, va_recv hK hP (ci := 4) (q0 := 1) rfl (wl_at (by omega) (ce_1 (by decide))), fun U hU hW => ⟨rfl, ((yw_preS (As := []) hE hK hP hD).2 U hU hW).2, hSt.go hS (yw_F hD hS hA) hU hW⟩⟩ rfl rfl hl.1 rfl (lv_room (Nat.le_of_ble_eq_true rfl)) dX4_searchDay_94 ⟨Nat.le_of_ble_eq_true rfl, Nat.le_of_ble_eq_true rfl⟩) (fun v_27 H locs hw_27 hP hD hS => ?_)
            obtain ⟨hv, hw_27⟩ := hw_27
            rw [show x_26.toNatClampNeg = x0.toNatClampNeg + 1 from by omega] at hw_27
            refine lv_aload_n hx hb dX4_searchDay_97 rfl (lv_at hl 2 rfl) ?_
            refine va_get (D := (dC, dI)) (ci := 4) (v := .ref (ad 9)) (C := RX4) (T := TX4) (N := 11) hx hb hts (by decide +kernel) hown hK hP (1) (wl_at (by omega) (ce_1 (by decide))) rfl 10 (by decide) (hts (.fieldLink RX4 33 "QuietStairs$Planner" "sittings" "[I") (by decide +kernel)) (fun _ h9 => h9) rfl dX4_searchDay_98 ?_
            refine lv_iload_n hx hb dX4_searchDay_101 rfl (lv_at hl 5 rfl) ?_
            refine lv_dup2_11 hx hb dX4_searchDay_102 rfl rfl ?_
            refine va_iald hx hb hK hP (9) 0 (wl_at (by omega) (ce_18 (by decide))) rfl (vp_in_iff.mpr ⟨by omega, by omega⟩) dX4_searchDay_103 ?_
            refine lv_topi (fun x_28 ex_28 => ?_)
            have qx_28 : x_28.toInt = (v_27 (9) (x2.toNatClampNeg)).toInt := congrArg Int32.toInt ex_28
            have hs8 : x_28.toInt = x_23.toInt + 1 := by rw [ex_28, (hw_27.1.1.2.2 x2.toNatClampNeg (by omega)).2, g9, pk_us]; omega
            refine lv_iconst (v := 1) hx hb dX4_searchDay_104 (by decide) ?_
            refine lv_isub hx hb dX4_searchDay_105 ?_
            refine lv_topi (fun x_29 ex_29 => ?_)
            have tx_29 : x_29.toInt = x_28.toInt - (1 : Int32).toInt := by rw [ex_29]; exact t_sub ⟨by omega, by omega⟩
            refine va_iast hx hb hK hP hD hS (9) 0 (wl_at (by omega) (ce_18 (by decide))) rfl (vp_in_iff.mpr ⟨by omega, by omega⟩) dX4_searchDay_106 (fun H locs hP hD hS => ?_)
            obtain ⟨v_30, ev_30⟩ : ∃ u : Nat → Nat → Int32, u = upr v_27 (9) (upd (v_27 (9)) (x2.toNatClampNeg) x_29) := ⟨_, rfl⟩
            have hP : va_P (dC, dI) vwCl (wl ad kv cy N v_30) H := by rw [ev_30, ← wl_put (e := _) (ce_18 (by decide))]; exact hP
            have hD : va_D A (wl ad kv cy N v_30) := by rw [ev_30, ← wl_put (e := _) (ce_18 (by decide))]; exact hD
            have hv : Iv v_30 := by rw [ev_30]; exact hv.put (K := 18) (by decide) (fun h q => by simp [bd] at q)
            refine lv_aload_n hx hb dX4_searchDay_107 rfl (lv_at hl 2 rfl) ?_
            refine va_get (D := (dC, dI)) (ci := 4) (v := .ref (ad 8)) (C := RX4) (T := TX4) (N := 11) hx hb hts (by decide +kernel) hown hK hP (1) (wl_at (by omega) (ce_1 (by decide))) rfl 9 (by decide) (hts (.fieldLink RX4 30 "QuietStairs$Planner" "busyBits" "[I") (by decide +kernel)) (fun _ h9 => h9) rfl dX4_searchDay_108 ?_
            refine lv_iload_n hx hb dX4_searchDay_111 rfl (lv_at hl 5 rfl) ?_
            refine lv_dup2_11 hx hb dX4_searchDay_112 rfl rfl ?_
            refine va_iald hx hb hK hP (8) 0 (wl_at (by omega) (ce_18 (by decide))) rfl (vp_in_iff.mpr ⟨by omega, by omega⟩) dX4_searchDay_113 ?_
            refine lv_topi (fun x_31 ex_31 => ?_)
            rw [ev_30, upr_n (by omega)] at ex_31
            have qx_31 : x_31.toInt = (v_27 (8) (x2.toNatClampNeg)).toInt := congrArg Int32.toInt ex_31
            refine lv_iload hx hb dX4_searchDay_114 (lv_at hl 0 rfl) ?_
            refine lv_ixor hx hb dX4_searchDay_116 ?_
            refine lv_topi (fun x_32 ex_32 => ?_)
            refine va_iast hx hb hK hP hD hS (8) 0 (wl_at (by omega) (ce_18 (by decide))) rfl (vp_in_iff.mpr ⟨by omega, by omega⟩) dX4_searchDay_117 (fun H locs hP hD hS => ?_)
            obtain ⟨v_33, ev_33⟩ : ∃ u : Nat → Nat → Int32, u = upr v_30 (8) (upd (v_30 (8)) (x2.toNatClampNeg) x_32) := ⟨_, rfl⟩
            have hP : va_P (dC, dI) vwCl (wl ad kv cy N v_33) H := by rw [ev_33, ← wl_put (e := _) (ce_18 (by decide))]; exact hP
            have hD : va_D A (wl ad kv cy N v_33) := by rw [ev_33, ← wl_put (e := _) (ce_18 (by decide))]; exact hD
            have hv : Iv v_33 := by rw [ev_33]; exact hv.put (K := 18) (by decide) (fun h q => by simp [bd] at q)
            obtain ⟨x_34, ex_34⟩ : ∃ y : Int32, y = y1_4 + 1 := ⟨_, rfl⟩
            refine lv_iinc (v := x_34) (lv' := [(4, .int x_34), (5, .int x_8), (0, .ref (ad 1)), (1, .int x0), (2, .int x1), (3, .int x2)]) hx hb dX4_searchDay_118 hl (k := 1) rfl (by rw [ex_34]; rfl) (by decide) rfl (fun ls hl => ?_)
            have tx_34 : x_34.toInt = y1_4.toInt + (1 : Int32).toInt := by rw [ex_34]; exact t_add ⟨by omega, by omega⟩
            refine lv_goto (tgt := 3) hx hb dX4_searchDay_121 (by decide) ?_
            have zn_x_34 : (x_34.toNatClampNeg : Int) = x_34.toInt := t_nn (by omega)
            exact ih_1 x_34 v_33 _ _ (by omega) (by omega) (SDI_s (D := x2.toNatClampNeg) (y := y1_4.toNatClampNeg) hd9 (by omega) hi1_0 ((SC_fr hsc hi1_0.1.1).2.1.1 _ (by omega)).1.1 (by omega) hbz9 hk9 (fun q hq => by rw [g6, pk_un (by omega)]) (by rw [g6, pk_us]; omega) (by rw [g8, pk_us, ex_21, ex_14, hsit]) (fun E hE => by rw [g8, pk_un hE]) (by rw [g9, pk_us]; omega) (fun E hE => by rw [g9, pk_un hE]) hw_27 (fun k h1 h2 => by rw [ev_33, upr_n h1, ev_30, upr_n h2]) (by rw [ev_33, upr_s, pk_us, ex_32, ex_31, hsit]) (fun E hE => by rw [ev_33, upr_s, pk_un hE, ev_30, upr_n (by decide)]) (by rw [ev_33, upr_n (by decide), ev_30, upr_s, pk_us]; omega) (fun E hE => by rw [ev_33, upr_n (by decide), ev_30, upr_s, pk_un hE]) (by omega)) (by omega) hv hP hD hS ls (lv_sub hl [0, 2, 3, 4, 5] rfl)
        · refine lv_if_eq (tgt := 118) hx hb dX4_searchDay_40 (by decide) (fun _ => ?_) (fun c9 => absurd c9 (by decide))
          obtain ⟨x_13, ex_13⟩ : ∃ y : Int32, y = y1_4 + 1 := ⟨_, rfl⟩
          refine lv_iinc (v := x_13) (lv' := [(4, .int x_13), (5, .int x_8), (0, .ref (ad 1)), (1, .int x0), (2, .int x1), (3, .int x2)]) hx hb dX4_searchDay_118 hl (k := 1) rfl (by rw [ex_13]; rfl) (by decide) rfl (fun ls hl => ?_)
          have k_1 : (1 : Int32).toInt = 1 := by decide
          have tx_13 : x_13.toInt = y1_4.toInt + (1 : Int32).toInt := by rw [ex_13]; exact t_add ⟨by omega, by omega⟩
          refine lv_goto (tgt := 3) hx hb dX4_searchDay_121 (by decide) ?_
          have zn_x_13 : (x_13.toNatClampNeg : Int) = x_13.toInt := t_nn (by omega)
          exact ih_1 x_13 u1 _ _ (by omega) (by omega) (SDI_no hsc hd9 (by omega) (by omega) hi1_0 (Or.inl (fun q => absurd (show (btx x_10 y1_4).toInt = 1 by rw [← ex_10] at q; unfold bt at q; rw [← ofn (x := y1_4) (by omega)] at q; exact q) hh_12)) (by omega)) (by omega) hv hP hD hS ls (lv_sub hl [0, 2, 3, 4, 5] rfl)
  exact hc_1 ((6 - (0 : Int32).toInt).toNat + 1) 0 v _ _ (by omega) (by omega) (SDI_0 (by decide)) (by omega) hv hP hD hS ls (lv_sub hl [0, 1, 2, 3, 4] rfl)

set_option maxHeartbeats 4000000 in
set_option maxRecDepth 100000 in
theorem e_X4_search_3 (l : Launch) (dC : Nat → ClassId) (dI : Nat → Nat → Nat) (cy : Nat → ClassId) (sz : Nat) (ad : Nat → Nat) (kv : Value) (N : Nat) (hN : 119 ≤ N) (v : Nat → Nat → Int32) (hv : Iv v) (x0 x1 : Int32) (hs : 1 ≤ x0.toInt ∧ x0.toInt ≤ 4) (hsc : SC v x0.toNatClampNeg x1.toInt) (t1 t2 : Nat) : Met l yX4_search wsX4_search ({ frames := 7, cells := 0, slots := 0, locals := 448 }) (va_Pc [.ref (ad 1), .int x0, .int x1] (ex_PreT dC dI cy sz (wl ad kv cy N v) t1 t2)) (va_Qv (fun (u : Nat → Nat → Int32) => Iv u ∧ SRS v u x0.toNatClampNeg) (fun u t => ex_Pst dC dI (va_A (wl ad kv cy N v) sz) (wl ad kv cy N u) t) (va_A (wl ad kv cy N v) sz)) 0 0 (va_A (wl ad kv cy N v) sz) := by
  refine Met.ofW (cc := cX4_search) (maxL := 4) (ret := none) (by decide) rfl ?_
  intro p e s m args below meth c s₁ B hml hv
  obtain ⟨rfl, ⟨hsz, hE, hP, hK, hD0⟩, hSt⟩ := hv
  have hx := B.exec
  have hb := B.bytes
  have hr := B.returns
  have hts := atoms_spec (ws := wsX4_search) B.pre
  have hown : s.vm.findClass RX4 = some m.cls := findClass_of_methodNamed B.named
  have hlocks := B.notSynchronized
  subst hsz
  have hD := hD0.self (sz := s.heap.size)
  generalize hAe : va_A (wl ad kv cy N v) s.heap.size = A at hD hSt ⊢
  have hA : ∀ q : Nat, s.heap.size ≤ q → A q := fun q h => by rw [← hAe]; exact Or.inr h
  have hS : va_S A s.heap s.heap [] := va_S.rf
  have hP : va_P (dC, dI) vwCl (wl ad kv cy N v) s.heap := hP
  have hl := lv_entry ([.ref (ad 1), .int x0, .int x1]) (n := 4) (Nat.le_of_ble_eq_true rfl)
  rw [lg_entry_eq]
  generalize (lg_sl ([.ref (ad 1), .int x0, .int x1]) ++ List.replicate (4 - (lg_sl ([.ref (ad 1), .int x0, .int x1])).length) Slot.unset).toArray = ls at hl ⊢
  have hl : lv_has ls 4 [(0, .ref (ad 1)), (1, .int x0), (2, .int x1)] := hl
  have zn_x0 : (x0.toNatClampNeg : Int) = x0.toInt := t_nn (by omega)
  have hx1 := SC_b hsc
  have k_0 : (0 : Int32).toInt = 0 := by decide
  refine lv_iload_n hx hb dX4_search_0 rfl (lv_at hl 2 rfl) ?_
  refine lv_aload_n hx hb dX4_search_1 rfl (lv_at hl 0 rfl) ?_
  refine lv_iload_n hx hb dX4_search_2 rfl (lv_at hl 1 rfl) ?_
  refine yw_i (w1 := fun (u : Nat → Nat → Int32) => wl ad kv cy N u) hD hS hA (va_runV (As := [.int x0]) (rest := [.int x1]) ⟨hx, hb, hml, hown, hts⟩ (e_X4_leastBehind l dC dI cy _ ad kv N hN v hv x0 (SC_w hsc) (SC_s hsc) (SC_9 hsc) (by omega)) (cwV 1 hts gX4_search_X4_leastBehind rfl rfl rfl (by decide +kernel) ⟨Nat.le_of_ble_eq_true rfl, Nat.le_of_ble_eq_true rfl⟩) (yw_preV hE hK hP hD (ci := 4) (q0 := 1) rfl (wl_at (by omega) (ce_1 (by decide)))) rfl rfl hl.1 rfl (lv_room (Nat.le_of_ble_eq_true rfl)) dX4_search_3 ⟨Nat.le_of_ble_eq_true rfl, Nat.le_of_ble_eq_true rfl⟩) (fun r_1 v_1 H locs hw_1 hP hD hS => ?_)
  obtain ⟨-, hu_1, hw_1⟩ := hw_1
  replace hu_1 := hu_1.symm
  subst hu_1
  obtain ⟨hr9, dy9, tk9, hG9⟩ := hw_1
  refine lv_iadd hx hb dX4_search_6 ?_
  refine lv_topi (fun x_2 ex_2 => ?_)
  have tx_2 : x_2.toInt = x1.toInt + r_1.toInt := by rw [ex_2]; exact t_add ⟨by omega, by omega⟩
  refine lv_aload_n hx hb dX4_search_7 rfl (lv_at hl 0 rfl) ?_
  refine va_get (D := (dC, dI)) (ci := 4) (v := .int (v (1) 0)) (C := RX4) (T := TX4) (N := 11) hx hb hts (by decide +kernel) hown hK hP (1) (wl_at (by omega) (ce_1 (by decide))) rfl 0 (by decide) (hts (.fieldLink RX4 58 "QuietStairs$Planner" "leastWait" "I") (by decide +kernel)) (fun _ h9 => h9) rfl dX4_search_8 ?_
  refine lv_topi (fun x_3 ex_3 => ?_)
  have qx_3 : x_3.toInt = (v (1) (0)).toInt := congrArg Int32.toInt ex_3
  refine lv_icmp_lt (tgt := 15) hx hb dX4_search_11 (by decide) (fun c_4 => ?_) (fun c_4 => ?_)
  · have tc_4 : x_2.toInt < x_3.toInt := Int32.lt_iff_toInt_lt.mp c_4
    refine lv_iload_n hx hb dX4_search_15 rfl (lv_at hl 1 rfl) ?_
    refine lv_aload_n hx hb dX4_search_16 rfl (lv_at hl 0 rfl) ?_
    refine va_get (D := (dC, dI)) (ci := 4) (v := .int (v (1) 1)) (C := RX4) (T := TX4) (N := 11) hx hb hts (by decide +kernel) hown hK hP (1) (wl_at (by omega) (ce_1 (by decide))) rfl 1 (by decide) (hts (.fieldLink RX4 61 "QuietStairs$Planner" "count" "I") (by decide +kernel)) (fun _ h9 => h9) rfl dX4_search_17 ?_
    refine lv_topi (fun x_5 ex_5 => ?_)
    have bzx_5 : 0 ≤ x_5.toInt ∧ x_5.toInt ≤ 4 := by rw [ex_5]; exact hv.at (K := 1) (by decide) rfl
    have qx_5 : x_5.toInt = (v (1) (1)).toInt := congrArg Int32.toInt ex_5
    refine lv_icmp_lt (tgt := 46) hx hb dX4_search_20 (by decide) (fun c_6 => ?_) (fun c_6 => ?_)
    · have tc_6 : x0.toInt < x_5.toInt := Int32.lt_iff_toInt_lt.mp c_6
      have zn_x_5 : (x_5.toNatClampNeg : Int) = x_5.toInt := t_nn (by omega)
      have hd9 : x0.toNatClampNeg < plm v := by show _ < (v 1 1).toNatClampNeg; rw [← ex_5]; omega
      refine lv_iconst (v := 0) hx hb dX4_search_46 (by decide) ?_
      refine lv_istore_n (lv' := [(3, .int 0), (0, .ref (ad 1)), (1, .int x0), (2, .int x1)]) hx hb dX4_search_47 rfl hl (by decide) rfl (fun ls hl => ?_)
      have hc_7 : ∀ (n : Nat) (y7_3 : Int32) (u7 : Nat → Nat → Int32) (H : Heap) (locs : List Loc), 0 ≤ y7_3.toInt → y7_3.toInt ≤ 3 → (DYI v u7 x0.toNatClampNeg y7_3.toNatClampNeg) → (3 - y7_3.toInt).toNat < n → Iv u7 → va_P (dC, dI) vwCl (wl ad kv cy N u7) H → va_D A (wl ad kv cy N u7) → va_S A s.heap H locs → ∀ ls : Array Slot, lv_has ls 4 [(3, .int y7_3), (0, .ref (ad 1)), (1, .int x0), (2, .int x1)] → W p l e (headSpec wsX4_search ({ frames := 7, cells := 0, slots := 0, locals := 448 })).room s m [Value.ref (ad 1), Value.int x0, Value.int x1].toArray below meth c H locs 0 0 (MQ below (va_Qv (fun (u : Nat → Nat → Int32) => Iv u ∧ SRS v u x0.toNatClampNeg) (fun u t => ex_Pst dC dI A (wl ad kv cy N u) t) A) [Value.ref (ad 1), Value.int x0, Value.int x1].toArray s 0 0 A) (F0 m 48 ls []) := by
        intro n
        induction n with
        | zero =>
          intro y7_3 u7 H locs ay7_3 by7_3 hi7_0 hm_7 hv hP hD hS ls hl
          exact absurd hm_7 (by omega)
        | succ n ih_7 =>
          intro y7_3 u7 H locs ay7_3 by7_3 hi7_0 hm_7 hv hP hD hS ls hl
          refine lv_iload_n hx hb dX4_search_48 rfl (lv_at hl 0 rfl) ?_
          refine lv_iconst (v := 3) hx hb dX4_search_49 (by decide) ?_
          have k_3 : (3 : Int32).toInt = 3 := by decide
          refine lv_icmp_ge (tgt := 88) hx hb dX4_search_50 (by decide) (fun c_8 => ?_) (fun c_8 => ?_)
          · have tc_8 : y7_3.toInt ≥ (3 : Int32).toInt := Int32.le_iff_toInt_le.mp c_8
            refine lv_aload_n hx hb dX4_search_88 rfl (lv_at hl 1 rfl) ?_
            refine va_get (D := (dC, dI)) (ci := 4) (v := .ref (ad 6)) (C := RX4) (T := TX4) (N := 11) hx hb hts (by decide +kernel) hown hK hP (1) (wl_at (by omega) (ce_1 (by decide))) rfl 7 (by decide) (hts (.fieldLink RX4 24 "QuietStairs$Planner" "seats" "[I") (by decide +kernel)) (fun _ h9 => h9) rfl dX4_search_89 ?_
            refine lv_iload_n hx hb dX4_search_92 rfl (lv_at hl 2 rfl) ?_
            refine lv_bipush (v := 18) hx hb dX4_search_93 (by decide) ?_
            have hx_9 : x0.toNatClampNeg < 4 := by omega
            refine va_iast hx hb hK hP hD hS (6) 0 (wl_at (by omega) (ce_17 (by decide))) rfl (vp_in_iff.mpr ⟨by omega, by omega⟩) dX4_search_95 (fun H locs hP hD hS => ?_)
            have k_18 : (18 : Int32).toInt = 18 := by decide
            obtain ⟨v_10, ev_10⟩ : ∃ u : Nat → Nat → Int32, u = upr u7 (6) (upd (u7 (6)) (x0.toNatClampNeg) 18) := ⟨_, rfl⟩
            have hP : va_P (dC, dI) vwCl (wl ad kv cy N v_10) H := by rw [ev_10, ← wl_put (e := _) (ce_17 (by decide))]; exact hP
            have hD : va_D A (wl ad kv cy N v_10) := by rw [ev_10, ← wl_put (e := _) (ce_17 (by decide))]; exact hD
            have hv : Iv v_10 := by rw [ev_10]; exact hv.put (K := 17) (by decide) (fun h q => by simp [bd] at q)
            refine lv_aload_n hx hb dX4_search_96 rfl (lv_at hl 1 rfl) ?_
            refine lv_iload_n hx hb dX4_search_97 rfl (lv_at hl 2 rfl) ?_
            refine lv_iconst (v := 1) hx hb dX4_search_98 (by decide) ?_
            refine lv_iadd hx hb dX4_search_99 ?_
            refine lv_topi (fun x_11 ex_11 => ?_)
            have k_1 : (1 : Int32).toInt = 1 := by decide
            have tx_11 : x_11.toInt = x0.toInt + (1 : Int32).toInt := by rw [ex_11]; exact t_add ⟨by omega, by omega⟩
            refine lv_iload_n hx hb dX4_search_100 rfl (lv_at hl 3 rfl) ?_
            refine lv_aload_n hx hb dX4_search_101 rfl (lv_at hl 1 rfl) ?_
            refine va_get (D := (dC, dI)) (ci := 4) (v := .ref (ad 3)) (C := RX4) (T := TX4) (N := 11) hx hb hts (by decide +kernel) hown hK hP (1) (wl_at (by omega) (ce_1 (by decide))) rfl 4 (by decide) (hts (.fieldLink RX4 15 "QuietStairs$Planner" "weights" "[I") (by decide +kernel)) (fun _ h9 => h9) rfl dX4_search_102 ?_
            refine lv_iload_n hx hb dX4_search_105 rfl (lv_at hl 2 rfl) ?_
            refine va_iald hx hb hK hP (3) 0 (wl_at (by omega) (ce_17 (by decide))) rfl (vp_in_iff.mpr ⟨by omega, by omega⟩) dX4_search_106 ?_
            refine lv_topi (fun x_12 ex_12 => ?_)
            rw [ev_10, upr_n (by omega)] at ex_12
            have qx_12 : x_12.toInt = (u7 (3) (x0.toNatClampNeg)).toInt := congrArg Int32.toInt ex_12
            have hw9 : 1 ≤ x_12.toInt ∧ x_12.toInt ≤ 9 := by rw [ex_12, (SF_G hi7_0.1.1).1.1]; exact SC_w hsc _ (by omega)
            refine lv_iconst (v := 4) hx hb dX4_search_107 (by decide) ?_
            refine lv_imul hx hb dX4_search_108 ?_
            refine lv_topi (fun x_13 ex_13 => ?_)
            have k_4 : (4 : Int32).toInt = 4 := by decide
            have tx_13 : x_13.toInt = 4 * x_12.toInt := by rw [ex_13, t_mul (by rw [k_4]; omega), k_4]; omega
            refine lv_iadd hx hb dX4_search_109 ?_
            refine lv_topi (fun x_14 ex_14 => ?_)
            have tx_14 : x_14.toInt = x1.toInt + x_13.toInt := by rw [ex_14]; exact t_add ⟨by omega, by omega⟩
            have zn_x_11 : (x_11.toNatClampNeg : Int) = x_11.toInt := t_nn (by omega)
            have hsc2 : SC v_10 x_11.toNatClampNeg x_14.toInt := by
              rw [show x_11.toNatClampNeg = x0.toNatClampNeg + 1 from by omega]
              exact SC_18 (SC_fr hsc hi7_0.1.1) (by rw [SG_m (SF_G hi7_0.1.1)]; exact hd9) (fun k h => by rw [ev_10, upr_n h]) (fun q hq => by rw [ev_10, upr_s, pk_un (by omega)]) (by rw [ev_10, upr_s, pk_us]; decide) (by show _ = _ + (u7 3 x0.toNatClampNeg).toInt * 4; omega)
            refine yw_v (w1 := fun (u : Nat → Nat → Int32) => wl ad kv cy N u) hD hS hA (va_runV (As := [.int x_11, .int x_14]) (rest := []) ⟨hx, hb, hml, hown, hts⟩ (e_X4_search_2 l dC dI cy _ ad kv N hN v_10 hv x_11 x_14 ⟨by omega, by omega⟩ hsc2 t1 t2) (cwV 2 hts gX4_search_X4_search rfl rfl rfl (by decide +kernel) ⟨Nat.le_of_ble_eq_true rfl, Nat.le_of_ble_eq_true rfl⟩) ⟨ex_blindT, va_recv hK hP (ci := 4) (q0 := 1) rfl (wl_at (by omega) (ce_1 (by decide))), fun U hU hW => ⟨rfl, ((yw_preS (As := []) hE hK hP hD).2 U hU hW).2, hSt.go hS (yw_F hD hS hA) hU hW⟩⟩ rfl rfl hl.1 rfl (lv_room (Nat.le_of_ble_eq_true rfl)) dX4_search_110 ⟨Nat.le_of_ble_eq_true rfl, Nat.le_of_ble_eq_true rfl⟩) (fun v_15 H locs hw_15 hP hD hS => ?_)
            obtain ⟨hv, hw_15⟩ := hw_15
            rw [show x_11.toNatClampNeg = x0.toNatClampNeg + 1 from by omega] at hw_15
            have zn_y7_3 : (y7_3.toNatClampNeg : Int) = y7_3.toInt := t_nn (by omega)
            exact W.vret hx hb hr (fun t ht hW => ⟨⟨v_15, rfl, ⟨hv, DYI_e hd9 hi7_0 (by omega) (fun k h => by rw [ev_10, upr_n h]) (fun q hq => by rw [ev_10, upr_s, pk_un (by omega)]) (by rw [ev_10, upr_s, pk_us]; decide) hw_15⟩, by rw [ht]; exact hP, hD⟩, hS.F ht⟩) hS.2.2 dX4_search_113
          · have tc_8 : y7_3.toInt < (3 : Int32).toInt := Int32.lt_iff_toInt_lt.mp (Int32.not_le.mp c_8)
            refine lv_aload_n hx hb dX4_search_53 rfl (lv_at hl 1 rfl) ?_
            refine va_get (D := (dC, dI)) (ci := 4) (v := .ref (ad 9)) (C := RX4) (T := TX4) (N := 11) hx hb hts (by decide +kernel) hown hK hP (1) (wl_at (by omega) (ce_1 (by decide))) rfl 10 (by decide) (hts (.fieldLink RX4 33 "QuietStairs$Planner" "sittings" "[I") (by decide +kernel)) (fun _ h9 => h9) rfl dX4_search_54 ?_
            refine lv_iload_n hx hb dX4_search_57 rfl (lv_at hl 0 rfl) ?_
            have zn_y7_3 : (y7_3.toNatClampNeg : Int) = y7_3.toInt := t_nn (by omega)
            have hx_9 : y7_3.toNatClampNeg < 3 := by omega
            refine va_iald hx hb hK hP (9) 0 (wl_at (by omega) (ce_18 (by decide))) rfl (vp_in_iff.mpr ⟨by omega, by omega⟩) dX4_search_58 ?_
            refine lv_topi (fun x_10 ex_10 => ?_)
            have qx_10 : x_10.toInt = (u7 (9) (y7_3.toNatClampNeg)).toInt := congrArg Int32.toInt ex_10
            refine lv_aload_n hx hb dX4_search_59 rfl (lv_at hl 1 rfl) ?_
            refine va_get (D := (dC, dI)) (ci := 4) (v := .int (u7 (1) 2)) (C := RX4) (T := TX4) (N := 11) hx hb hts (by decide +kernel) hown hK hP (1) (wl_at (by omega) (ce_1 (by decide))) rfl 2 (by decide) (hts (.fieldLink RX4 48 "QuietStairs$Planner" "seatsADay" "I") (by decide +kernel)) (fun _ h9 => h9) rfl dX4_search_60 ?_
            refine lv_topi (fun x_11 ex_11 => ?_)
            have qx_11 : x_11.toInt = (u7 (1) (2)).toInt := congrArg Int32.toInt ex_11
            refine lv_icmp_ge (tgt := 82) hx hb dX4_search_63 (by decide) (fun c_12 => ?_) (fun c_12 => ?_)
            · have tc_12 : x_10.toInt ≥ x_11.toInt := Int32.le_iff_toInt_le.mp c_12
              obtain ⟨x_13, ex_13⟩ : ∃ y : Int32, y = y7_3 + 1 := ⟨_, rfl⟩
              refine lv_iinc (v := x_13) (lv' := [(3, .int x_13), (0, .ref (ad 1)), (1, .int x0), (2, .int x1)]) hx hb dX4_search_82 hl (k := 0) rfl (by rw [ex_13]; rfl) (by decide) rfl (fun ls hl => ?_)
              have k_1 : (1 : Int32).toInt = 1 := by decide
              have tx_13 : x_13.toInt = y7_3.toInt + (1 : Int32).toInt := by rw [ex_13]; exact t_add ⟨by omega, by omega⟩
              refine lv_goto (tgt := 48) hx hb dX4_search_85 (by decide) ?_
              have zn_x_13 : (x_13.toNatClampNeg : Int) = x_13.toInt := t_nn (by omega)
              exact ih_7 x_13 u7 _ _ (by omega) (by omega) (DYI_no hsc hd9 (by omega) hi7_0 (by omega) (by omega)) (by omega) hv hP hD hS ls (lv_sub hl [0, 1, 2, 3] rfl)
            · have tc_12 : x_10.toInt < x_11.toInt := Int32.lt_iff_toInt_lt.mp (Int32.not_le.mp c_12)
              refine lv_aload_n hx hb dX4_search_66 rfl (lv_at hl 1 rfl) ?_
              refine lv_iload_n hx hb dX4_search_67 rfl (lv_at hl 2 rfl) ?_
              refine lv_iload_n hx hb dX4_search_68 rfl (lv_at hl 3 rfl) ?_
              refine lv_aload_n hx hb dX4_search_69 rfl (lv_at hl 1 rfl) ?_
              refine va_get (D := (dC, dI)) (ci := 4) (v := .ref (ad 3)) (C := RX4) (T := TX4) (N := 11) hx hb hts (by decide +kernel) hown hK hP (1) (wl_at (by omega) (ce_1 (by decide))) rfl 4 (by decide) (hts (.fieldLink RX4 15 "QuietStairs$Planner" "weights" "[I") (by decide +kernel)) (fun _ h9 => h9) rfl dX4_search_70 ?_
              refine lv_iload_n hx hb dX4_search_73 rfl (lv_at hl 2 rfl) ?_
              have hx_13 : x0.toNatClampNeg < 4 := by omega
              refine va_iald hx hb hK hP (3) 0 (wl_at (by omega) (ce_17 (by decide))) rfl (vp_in_iff.mpr ⟨by omega, by omega⟩) dX4_search_74 ?_
              refine lv_topi (fun x_14 ex_14 => ?_)
              have qx_14 : x_14.toInt = (u7 (3) (x0.toNatClampNeg)).toInt := congrArg Int32.toInt ex_14
              have hw9 : 1 ≤ x_14.toInt ∧ x_14.toInt ≤ 9 := by rw [ex_14, (SF_G hi7_0.1.1).1.1]; exact SC_w hsc _ (by omega)
              refine lv_iload_n hx hb dX4_search_75 rfl (lv_at hl 0 rfl) ?_
              refine lv_imul hx hb dX4_search_76 ?_
              refine lv_topi (fun x_15 ex_15 => ?_)
              have m0x_15 : 0 ≤ x_14.toInt * y7_3.toInt := Int.mul_nonneg (by omega) (by omega)
              have m1x_15 : x_14.toInt * y7_3.toInt ≤ 9 * 2 := Int.mul_le_mul (by omega) (by omega) (by omega) (by decide)
              have tx_15 : x_15.toInt = x_14.toInt * y7_3.toInt := by rw [ex_15]; exact t_mul ⟨by omega, by omega⟩
              refine lv_iadd hx hb dX4_search_77 ?_
              refine lv_topi (fun x_16 ex_16 => ?_)
              have tx_16 : x_16.toInt = x1.toInt + x_15.toInt := by rw [ex_16]; exact t_add ⟨by omega, by omega⟩
              refine lv_iload_n hx hb dX4_search_78 rfl (lv_at hl 0 rfl) ?_
              refine yw_v (w1 := fun (u : Nat → Nat → Int32) => wl ad kv cy N u) hD hS hA (va_runV (As := [.int x0, .int x_16, .int y7_3]) (rest := []) ⟨hx, hb, hml, hown, hts⟩ (e_X4_searchDay_3 l dC dI cy _ ad kv N hN u7 hv x0 x_16 y7_3 ⟨by omega, by omega⟩ ⟨by omega, by omega⟩ x1.toInt (SC_fr hsc hi7_0.1.1) (by rw [hi7_0.1.1.1.2.1]; omega) (by rw [← ex_14]; omega) (by omega) t1 t2) (cwV 3 hts gX4_search_X4_searchDay rfl rfl rfl (by decide +kernel) ⟨Nat.le_of_ble_eq_true rfl, Nat.le_of_ble_eq_true rfl⟩) ⟨ex_blindT, va_recv hK hP (ci := 4) (q0 := 1) rfl (wl_at (by omega) (ce_1 (by decide))), fun U hU hW => ⟨rfl, ((yw_preS (As := []) hE hK hP hD).2 U hU hW).2, hSt.go hS (yw_F hD hS hA) hU hW⟩⟩ rfl rfl hl.1 rfl (lv_room (Nat.le_of_ble_eq_true rfl)) dX4_search_79 ⟨Nat.le_of_ble_eq_true rfl, Nat.le_of_ble_eq_true rfl⟩) (fun v_17 H locs hw_17 hP hD hS => ?_)
              obtain ⟨hv, hw_17⟩ := hw_17
              obtain ⟨x_18, ex_18⟩ : ∃ y : Int32, y = y7_3 + 1 := ⟨_, rfl⟩
              refine lv_iinc (v := x_18) (lv' := [(3, .int x_18), (0, .ref (ad 1)), (1, .int x0), (2, .int x1)]) hx hb dX4_search_82 hl (k := 0) rfl (by rw [ex_18]; rfl) (by decide) rfl (fun ls hl => ?_)
              have k_1 : (1 : Int32).toInt = 1 := by decide
              have tx_18 : x_18.toInt = y7_3.toInt + (1 : Int32).toInt := by rw [ex_18]; exact t_add ⟨by omega, by omega⟩
              refine lv_goto (tgt := 48) hx hb dX4_search_85 (by decide) ?_
              have zn_x_18 : (x_18.toNatClampNeg : Int) = x_18.toInt := t_nn (by omega)
              exact ih_7 x_18 v_17 _ _ (by omega) (by omega) (DYI_s hi7_0 hw_17 (by omega)) (by omega) hv hP hD hS ls (lv_sub hl [0, 1, 2, 3] rfl)
      exact hc_7 ((3 - (0 : Int32).toInt).toNat + 1) 0 v _ _ (by omega) (by omega) (DYI_0 (by decide)) (by omega) hv hP hD hS ls (lv_sub hl [0, 1, 2, 3] rfl)
    · have tc_6 : x0.toInt ≥ x_5.toInt := Int32.le_iff_toInt_le.mp (Int32.not_lt.mp c_6)
      refine lv_aload_n hx hb dX4_search_23 rfl (lv_at hl 0 rfl) ?_
      refine lv_iload_n hx hb dX4_search_24 rfl (lv_at hl 2 rfl) ?_
      refine va_put (D := (dC, dI)) (ci := 4) (v := .int x1) (ty := .int) (C := RX4) (T := TX4) (N := 11) hx hb hts (by decide +kernel) tyX4 tyX4_ok nmX4 hown hK hP hD hS (1) (wl_at (by omega) (ce_1 (by decide))) rfl 0 (by decide) (hts (.fieldLink RX4 58 "QuietStairs$Planner" "leastWait" "I") (by decide +kernel)) (fun _ h9 => h9) rfl (by decide +kernel) rfl rfl (Nat.le_of_ble_eq_true rfl) dX4_search_25 (fun H locs hP hD hS => ?_)
      obtain ⟨v_7, ev_7⟩ : ∃ u : Nat → Nat → Int32, u = upr v (1) (upd (v (1)) 0 x1) := ⟨_, rfl⟩
      have hP : va_P (dC, dI) vwCl (wl ad kv cy N v_7) H := by rw [ev_7, ← wl_put (e := _) (ce_1 (by decide))]; exact hP
      have hD : va_D A (wl ad kv cy N v_7) := by rw [ev_7, ← wl_put (e := _) (ce_1 (by decide))]; exact hD
      have hv : Iv v_7 := by rw [ev_7]; exact hv.put (K := 1) (by decide) (fun h q => by simp [bd] at q)
      refine lv_aload_n hx hb dX4_search_28 rfl (lv_at hl 0 rfl) ?_
      refine va_get (D := (dC, dI)) (ci := 4) (v := .ref (ad 6)) (C := RX4) (T := TX4) (N := 11) hx hb hts (by decide +kernel) hown hK hP (1) (wl_at (by omega) (ce_1 (by decide))) rfl 7 (by decide) (hts (.fieldLink RX4 24 "QuietStairs$Planner" "seats" "[I") (by decide +kernel)) (fun _ h9 => h9) rfl dX4_search_29 ?_
      refine lv_iconst (v := 0) hx hb dX4_search_32 (by decide) ?_
      refine lv_aload_n hx hb dX4_search_33 rfl (lv_at hl 0 rfl) ?_
      refine va_get (D := (dC, dI)) (ci := 4) (v := .ref (ad 7)) (C := RX4) (T := TX4) (N := 11) hx hb hts (by decide +kernel) hown hK hP (1) (wl_at (by omega) (ce_1 (by decide))) rfl 8 (by decide) (hts (.fieldLink RX4 27 "QuietStairs$Planner" "bestSeats" "[I") (by decide +kernel)) (fun _ h9 => h9) rfl dX4_search_34 ?_
      refine lv_iconst (v := 0) hx hb dX4_search_37 (by decide) ?_
      refine lv_aload_n hx hb dX4_search_38 rfl (lv_at hl 0 rfl) ?_
      refine va_get (D := (dC, dI)) (ci := 4) (v := .int (v_7 (1) 1)) (C := RX4) (T := TX4) (N := 11) hx hb hts (by decide +kernel) hown hK hP (1) (wl_at (by omega) (ce_1 (by decide))) rfl 1 (by decide) (hts (.fieldLink RX4 61 "QuietStairs$Planner" "count" "I") (by decide +kernel)) (fun _ h9 => h9) rfl dX4_search_39 ?_
      refine lv_topi (fun x_8 ex_8 => ?_)
      have bzx_8 : 0 ≤ x_8.toInt ∧ x_8.toInt ≤ 4 := by rw [ex_8]; exact hv.at (K := 1) (by decide) rfl
      rw [ev_7, upr_s, pk_un (by decide)] at ex_8
      obtain rfl : x_5 = x_8 := (ex_8.trans ex_5.symm).symm
      have zn_x_5 : (x_5.toNatClampNeg : Int) = x_5.toInt := t_nn (by omega)
      have hn_9 := t_n (x := x_5) (m := 4) ⟨by omega, by omega⟩
      refine va_copyi hx hb (hml.trans hl.1.symm) hown (hts (.methodLink RX4 99 arraycopyName) (by decide +kernel)) (hts (.native arraycopyName) (by decide +kernel)) (hts (.static arraycopyName) (by decide +kernel)) (hts (.initialized "java/lang/System") (by decide +kernel)) hK hP hD hS (6) (7) 0 0 (wl_at (by omega) (ce_17 (by decide))) (wl_at (by omega) (ce_17 (by decide))) rfl rfl rfl (by decide) (by decide) hn_9.1 (by rw [sb_cl0]; have := hn_9.2; omega) (by rw [sb_cl0]; have := hn_9.2; omega) (fun i hi => rfl) (Nat.le_of_ble_eq_true rfl) (Nat.le_of_ble_eq_true rfl) dX4_search_42 (fun H locs hP hD hS => ?_)
      obtain ⟨v_10, ev_10⟩ : ∃ u : Nat → Nat → Int32, u = upr v_7 (7) (va_cpy (v_7 (6)) (v_7 (7)) (0 : Int32).toNatClampNeg (0 : Int32).toNatClampNeg x_5.toNatClampNeg) := ⟨_, rfl⟩
      have hP : va_P (dC, dI) vwCl (wl ad kv cy N v_10) H := by rw [ev_10, ← wl_put (e := _) (ce_17 (by decide))]; exact hP
      have hD : va_D A (wl ad kv cy N v_10) := by rw [ev_10, ← wl_put (e := _) (ce_17 (by decide))]; exact hD
      have hv : Iv v_10 := by rw [ev_10]; exact hv.row (K := 17) (by decide) (fun j => rfl)
      have hs_10 : v_7 (6) = v (6) := by rw [ev_7, upr_n (by omega)]
      rw [hs_10] at ev_10
      exact W.vret hx hb hr (fun t ht hW => ⟨⟨v_10, rfl, ⟨hv, SC_leaf hsc (by show (v 1 1).toNatClampNeg ≤ _; rw [← ex_5]; omega) (by show _ < (v 1 0).toInt; omega) (fun k h1 h7 => by rw [ev_10, upr_n h7, ev_7, upr_n h1]) (by rw [ev_10, upr_n (by decide), ev_7, upr_s, pk_un (by decide)]) (by rw [ev_10, upr_n (by decide), ev_7, upr_s, pk_un (by decide)]) (by show (v_10 1 0).toInt = _; rw [ev_10, upr_n (by decide), ev_7, upr_s, pk_us]) (fun q hq => by have hq : q < (v 1 1).toNatClampNeg := hq; rw [← ex_5] at hq; rw [ev_10, up3, if_pos ⟨rfl, hq⟩])⟩, by rw [ht]; exact hP, hD⟩, hS.F ht⟩) hS.2.2 dX4_search_45
  · have tc_4 : x_2.toInt ≥ x_3.toInt := Int32.le_iff_toInt_le.mp (Int32.not_lt.mp c_4)
    exact W.vret hx hb hr (fun t ht hW => ⟨⟨v, rfl, ⟨hv, SC_cut hsc hG9 (by show (v 1 0).toInt ≤ _; omega)⟩, by rw [ht]; exact hP, hD⟩, hS.F ht⟩) hS.2.2 dX4_search_14

set_option maxHeartbeats 4000000 in
set_option maxRecDepth 100000 in
theorem e_X4_searchDay_4 (l : Launch) (dC : Nat → ClassId) (dI : Nat → Nat → Nat) (cy : Nat → ClassId) (sz : Nat) (ad : Nat → Nat) (kv : Value) (N : Nat) (hN : 119 ≤ N) (v : Nat → Nat → Int32) (hv : Iv v) (x0 x1 x2 : Int32) (hs : 0 ≤ x0.toInt ∧ x0.toInt ≤ 3) (ht : 0 ≤ x2.toInt ∧ x2.toInt ≤ 2) (wt : Int) (hsc : SC v x0.toNatClampNeg wt) (hd : x0.toInt < (v 1 1).toInt) (hw : x1.toInt = wt + (v 3 x0.toNatClampNeg).toInt * x2.toInt) (h9 : (v 9 x2.toNatClampNeg).toInt < (v 1 2).toInt) (t1 t2 : Nat) : Met l yX4_searchDay wsX4_searchDay ({ frames := 8, cells := 0, slots := 0, locals := 512 }) (va_Pc [.ref (ad 1), .int x0, .int x1, .int x2] (ex_PreT dC dI cy sz (wl ad kv cy N v) t1 t2)) (va_Qv (fun (u : Nat → Nat → Int32) => Iv u ∧ SDI v u x0.toNatClampNeg x2.toNatClampNeg 6) (fun u t => ex_Pst dC dI (va_A (wl ad kv cy N v) sz) (wl ad kv cy N u) t) (va_A (wl ad kv cy N v) sz)) 0 0 (va_A (wl ad kv cy N v) sz) := by
  refine Met.ofW (cc := cX4_searchDay) (maxL := 6) (ret := none) (by decide) rfl ?_
  intro p e s m args below meth c s₁ B hml hv
  obtain ⟨rfl, ⟨hsz, hE, hP, hK, hD0⟩, hSt⟩ := hv
  have hx := B.exec
  have hb := B.bytes
  have hr := B.returns
  have hts := atoms_spec (ws := wsX4_searchDay) B.pre
  have hown : s.vm.findClass RX4 = some m.cls := findClass_of_methodNamed B.named
  have hlocks := B.notSynchronized
  subst hsz
  have hD := hD0.self (sz := s.heap.size)
  generalize hAe : va_A (wl ad kv cy N v) s.heap.size = A at hD hSt ⊢
  have hA : ∀ q : Nat, s.heap.size ≤ q → A q := fun q h => by rw [← hAe]; exact Or.inr h
  have hS : va_S A s.heap s.heap [] := va_S.rf
  have hP : va_P (dC, dI) vwCl (wl ad kv cy N v) s.heap := hP
  have hl := lv_entry ([.ref (ad 1), .int x0, .int x1, .int x2]) (n := 6) (Nat.le_of_ble_eq_true rfl)
  rw [lg_entry_eq]
  generalize (lg_sl ([.ref (ad 1), .int x0, .int x1, .int x2]) ++ List.replicate (6 - (lg_sl ([.ref (ad 1), .int x0, .int x1, .int x2])).length) Slot.unset).toArray = ls at hl ⊢
  have hl : lv_has ls 6 [(0, .ref (ad 1)), (1, .int x0), (2, .int x1), (3, .int x2)] := hl
  have zn_x0 : (x0.toNatClampNeg : Int) = x0.toInt := t_nn (by omega)
  have zn_x2 : (x2.toNatClampNeg : Int) = x2.toInt := t_nn (by omega)
  have hx1 := SC_b hsc
  have k_0 : (0 : Int32).toInt = 0 := by decide
  have hd9 : x0.toNatClampNeg < plm v := by have z := t_nn (x := v 1 1) (by omega); show _ < (v 1 1).toNatClampNeg; omega
  refine lv_iconst (v := 0) hx hb dX4_searchDay_0 (by decide) ?_
  refine lv_istore (lv' := [(4, .int 0), (0, .ref (ad 1)), (1, .int x0), (2, .int x1), (3, .int x2)]) hx hb dX4_searchDay_1 hl (by decide) rfl (fun ls hl => ?_)
  have hc_1 : ∀ (n : Nat) (y1_4 : Int32) (u1 : Nat → Nat → Int32) (H : Heap) (locs : List Loc), 0 ≤ y1_4.toInt → y1_4.toInt ≤ 6 → (SDI v u1 x0.toNatClampNeg x2.toNatClampNeg y1_4.toNatClampNeg) → (6 - y1_4.toInt).toNat < n → Iv u1 → va_P (dC, dI) vwCl (wl ad kv cy N u1) H → va_D A (wl ad kv cy N u1) → va_S A s.heap H locs → ∀ ls : Array Slot, lv_has ls 6 [(4, .int y1_4), (0, .ref (ad 1)), (1, .int x0), (2, .int x1), (3, .int x2)] → W p l e (headSpec wsX4_searchDay ({ frames := 8, cells := 0, slots := 0, locals := 512 })).room s m [Value.ref (ad 1), Value.int x0, Value.int x1, Value.int x2].toArray below meth c H locs 0 0 (MQ below (va_Qv (fun (u : Nat → Nat → Int32) => Iv u ∧ SDI v u x0.toNatClampNeg x2.toNatClampNeg 6) (fun u t => ex_Pst dC dI A (wl ad kv cy N u) t) A) [Value.ref (ad 1), Value.int x0, Value.int x1, Value.int x2].toArray s 0 0 A) (F0 m 3 ls []) := by
    intro n
    induction n with
    | zero =>
      intro y1_4 u1 H locs ay1_4 by1_4 hi1_0 hm_1 hv hP hD hS ls hl
      exact absurd hm_1 (by omega)
    | succ n ih_1 =>
      intro y1_4 u1 H locs ay1_4 by1_4 hi1_0 hm_1 hv hP hD hS ls hl
      refine lv_iload hx hb dX4_searchDay_3 (lv_at hl 0 rfl) ?_
      refine lv_bipush (v := 6) hx hb dX4_searchDay_5 (by decide) ?_
      have k_6 : (6 : Int32).toInt = 6 := by decide
      refine lv_icmp_ge (tgt := 124) hx hb dX4_searchDay_7 (by decide) (fun c_2 => ?_) (fun c_2 => ?_)
      · have tc_2 : y1_4.toInt ≥ (6 : Int32).toInt := Int32.le_iff_toInt_le.mp c_2
        exact W.vret hx hb hr (fun t ht hW => ⟨⟨u1, rfl, ⟨hv, by have q9 := hi1_0; rw [show y1_4.toNatClampNeg = 6 from by have z9 := t_nn (x := y1_4) (by omega); omega] at q9; exact q9⟩, by rw [ht]; exact hP, hD⟩, hS.F ht⟩) hS.2.2 dX4_searchDay_124
      · have tc_2 : y1_4.toInt < (6 : Int32).toInt := Int32.lt_iff_toInt_lt.mp (Int32.not_le.mp c_2)
        refine lv_iconst (v := 1) hx hb dX4_searchDay_10 (by decide) ?_
        refine va_getsN hx hb hSt.2.1 hS hown (va_Nw.use rfl hE.2.2.2.2.2.2.2.2.2.2.2.2.2.2.2.1) (fun _ h => h) dX4_searchDay_11 ?_
        refine lv_iload hx hb dX4_searchDay_14 (lv_at hl 0 rfl) ?_
        have zn_y1_4 : (y1_4.toNatClampNeg : Int) = y1_4.toInt := t_nn (by omega)
        have hx_3 : y1_4.toNatClampNeg < 6 := by omega
        refine va_ti (v := .int (st_l y1_4.toNatClampNeg)) hx hb hSt.2.2 hS (vp_in_iff.mpr ⟨by omega, by omega⟩) rfl dX4_searchDay_16 ?_
        refine lv_topi (fun x_4 ex_4 => ?_)
        have bzx_4 : 0 ≤ x_4.toInt ∧ x_4.toInt ≤ 3 := by rw [ex_4]; exact (st_b _).2
        refine lv_ishl hx hb dX4_searchDay_17 ?_
        refine lv_topi (fun x_5 ex_5 => ?_)
        refine lv_iconst (v := 1) hx hb dX4_searchDay_18 (by decide) ?_
        refine va_getsN hx hb hSt.1.1 hS hown (va_Nw.use rfl hE.2.2.2.2.2.2.2.2.2.2.2.2.2.2.2.2) (fun _ h => h) dX4_searchDay_19 ?_
        refine lv_iload hx hb dX4_searchDay_22 (lv_at hl 0 rfl) ?_
        refine va_ti (v := .int (st_o y1_4.toNatClampNeg)) hx hb hSt.1.2 hS (vp_in_iff.mpr ⟨by omega, by omega⟩) rfl dX4_searchDay_24 ?_
        refine lv_topi (fun x_6 ex_6 => ?_)
        have bzx_6 : 0 ≤ x_6.toInt ∧ x_6.toInt ≤ 3 := by rw [ex_6]; exact (st_b _).1
        refine lv_ishl hx hb dX4_searchDay_25 ?_
        refine lv_topi (fun x_7 ex_7 => ?_)
        refine lv_ior hx hb dX4_searchDay_26 ?_
        refine lv_topi (fun x_8 ex_8 => ?_)
        have hsit : x_8 = sit y1_4.toNatClampNeg := by unfold sit; rw [ex_8, ex_5, ex_4, ex_7, ex_6]
        refine lv_istore (lv' := [(5, .int x_8), (4, .int y1_4), (0, .ref (ad 1)), (1, .int x0), (2, .int x1), (3, .int x2)]) hx hb dX4_searchDay_27 hl (by decide) rfl (fun ls hl => ?_)
        refine lv_aload_n hx hb dX4_searchDay_29 rfl (lv_at hl 2 rfl) ?_
        refine va_get (D := (dC, dI)) (ci := 4) (v := .ref (ad 4)) (C := RX4) (T := TX4) (N := 11) hx hb hts (by decide +kernel) hown hK hP (1) (wl_at (by omega) (ce_1 (by decide))) rfl 5 (by decide) (hts (.fieldLink RX4 18 "QuietStairs$Planner" "pairBits" "[I") (by decide +kernel)) (fun _ h9 => h9) rfl dX4_searchDay_30 ?_
        refine lv_iload_n hx hb dX4_searchDay_33 rfl (lv_at hl 3 rfl) ?_
        have hx_9 : x0.toNatClampNeg < 4 := by omega
        refine va_iald hx hb hK hP (4) 0 (wl_at (by omega) (ce_17 (by decide))) rfl (vp_in_iff.mpr ⟨by omega, by omega⟩) dX4_searchDay_34 ?_
        refine lv_topi (fun x_10 ex_10 => ?_)
        have qx_10 : x_10.toInt = (u1 (4) (x0.toNatClampNeg)).toInt := congrArg Int32.toInt ex_10
        refine lv_iload hx hb dX4_searchDay_35 (lv_at hl 1 rfl) ?_
        refine yc_p hP hS (va_runSN (As := [.int x_10, .int y1_4]) (rest := []) ⟨hx, hb, hml, hown, hts⟩ (e_X7_hasBit l x_10 y1_4) ⟨va_cnB 2 hts gX4_searchDay_X7_hasBit_n115 rfl rfl rfl hE.2.2.2.2.2.2.2.2.2.2.2.1 (hts (.initialized RX7) (by decide +kernel)) (by decide +kernel) ⟨Nat.le_of_ble_eq_true rfl, Nat.le_of_ble_eq_true rfl⟩, (hts (.static yX7_hasBit) (by decide +kernel)), trivial⟩ ex_preP rfl rfl hl.1 rfl (lv_room (Nat.le_of_ble_eq_true rfl)) dX4_searchDay_37 ⟨Nat.le_of_ble_eq_true rfl, Nat.le_of_ble_eq_true rfl⟩) (fun r_11 H locs hw_11 hP hS => ?_)
        rcases hw_11 with ⟨rfl, hh_12⟩ | ⟨rfl, hh_12⟩
        · refine lv_if_eq (tgt := 118) hx hb dX4_searchDay_40 (by decide) (fun c9 => absurd c9 (by decide)) (fun _ => ?_)
          refine lv_aload_n hx hb dX4_searchDay_43 rfl (lv_at hl 2 rfl) ?_
          refine va_get (D := (dC, dI)) (ci := 4) (v := .ref (ad 8)) (C := RX4) (T := TX4) (N := 11) hx hb hts (by decide +kernel) hown hK hP (1) (wl_at (by omega) (ce_1 (by decide))) rfl 9 (by decide) (hts (.fieldLink RX4 30 "QuietStairs$Planner" "busyBits" "[I") (by decide +kernel)) (fun _ h9 => h9) rfl dX4_searchDay_44 ?_
          refine lv_iload_n hx hb dX4_searchDay_47 rfl (lv_at hl 5 rfl) ?_
          have hx_13 : x2.toNatClampNeg < 3 := by omega
          refine va_iald hx hb hK hP (8) 0 (wl_at (by omega) (ce_18 (by decide))) rfl (vp_in_iff.mpr ⟨by omega, by omega⟩) dX4_searchDay_48 ?_
          refine lv_topi (fun x_14 ex_14 => ?_)
          have qx_14 : x_14.toInt = (u1 (8) (x2.toNatClampNeg)).toInt := congrArg Int32.toInt ex_14
          refine lv_iload hx hb dX4_searchDay_49 (lv_at hl 0 rfl) ?_
          refine lv_iand hx hb dX4_searchDay_51 ?_
          refine lv_topi (fun x_15 ex_15 => ?_)
          refine lv_if_ne (tgt := 118) hx hb dX4_searchDay_52 (by decide) (fun c_16 => ?_) (fun c_16 => ?_)
          · have tc_16 : x_15.toInt ≠ (0 : Int32).toInt := fun q => absurd (Int32.toInt_inj.mp q) c_16
            obtain ⟨x_17, ex_17⟩ : ∃ y : Int32, y = y1_4 + 1 := ⟨_, rfl⟩
            refine lv_iinc (v := x_17) (lv' := [(4, .int x_17), (5, .int x_8), (0, .ref (ad 1)), (1, .int x0), (2, .int x1), (3, .int x2)]) hx hb dX4_searchDay_118 hl (k := 1) rfl (by rw [ex_17]; rfl) (by decide) rfl (fun ls hl => ?_)
            have k_1 : (1 : Int32).toInt = 1 := by decide
            have tx_17 : x_17.toInt = y1_4.toInt + (1 : Int32).toInt := by rw [ex_17]; exact t_add ⟨by omega, by omega⟩
            refine lv_goto (tgt := 3) hx hb dX4_searchDay_121 (by decide) ?_
            have zn_x_17 : (x_17.toNatClampNeg : Int) = x_17.toInt := t_nn (by omega)
            exact ih_1 x_17 u1 _ _ (by omega) (by omega) (SDI_no hsc hd9 (by omega) (by omega) hi1_0 (Or.inr (fun q => by rw [← ex_14, ← hsit, ← ex_15] at q; have z9 := congrArg Int32.toInt q; omega)) (by omega)) (by omega) hv hP hD hS ls (lv_sub hl [0, 2, 3, 4, 5] rfl)
          · have tc_16 : x_15.toInt = (0 : Int32).toInt := by rw [c_16]
            refine lv_aload_n hx hb dX4_searchDay_55 rfl (lv_at hl 2 rfl) ?_
            refine va_get (D := (dC, dI)) (ci := 4) (v := .ref (ad 6)) (C := RX4) (T := TX4) (N := 11) hx hb hts (by decide +kernel) hown hK hP (1) (wl_at (by omega) (ce_1 (by decide))) rfl 7 (by decide) (hts (.fieldLink RX4 24 "QuietStairs$Planner" "seats" "[I") (by decide +kernel)) (fun _ h9 => h9) rfl dX4_searchDay_56 ?_
            refine lv_iload_n hx hb dX4_searchDay_59 rfl (lv_at hl 3 rfl) ?_
            refine lv_bipush (v := 6) hx hb dX4_searchDay_60 (by decide) ?_
            refine lv_iload_n hx hb dX4_searchDay_62 rfl (lv_at hl 5 rfl) ?_
            refine lv_imul hx hb dX4_searchDay_63 ?_
            refine lv_topi (fun x_17 ex_17 => ?_)
            have tx_17 : x_17.toInt = 6 * x2.toInt := by rw [ex_17, t_mul (by rw [k_6]; omega), k_6]
            refine lv_iload hx hb dX4_searchDay_64 (lv_at hl 1 rfl) ?_
            refine lv_iadd hx hb dX4_searchDay_66 ?_
            refine lv_topi (fun x_18 ex_18 => ?_)
            have tx_18 : x_18.toInt = x_17.toInt + y1_4.toInt := by rw [ex_18]; exact t_add ⟨by omega, by omega⟩
            refine va_iast hx hb hK hP hD hS (6) 0 (wl_at (by omega) (ce_17 (by decide))) rfl (vp_in_iff.mpr ⟨by omega, by omega⟩) dX4_searchDay_67 (fun H locs hP hD hS => ?_)
            obtain ⟨v_19, ev_19⟩ : ∃ u : Nat → Nat → Int32, u = upr u1 (6) (upd (u1 (6)) (x0.toNatClampNeg) x_18) := ⟨_, rfl⟩
            have hP : va_P (dC, dI) vwCl (wl ad kv cy N v_19) H := by rw [ev_19, ← wl_put (e := _) (ce_17 (by decide))]; exact hP
            have hD : va_D A (wl ad kv cy N v_19) := by rw [ev_19, ← wl_put (e := _) (ce_17 (by decide))]; exact hD
            have hv : Iv v_19 := by rw [ev_19]; exact hv.put (K := 17) (by decide) (fun h q => by simp [bd] at q)
            refine lv_aload_n hx hb dX4_searchDay_68 rfl (lv_at hl 2 rfl) ?_
            refine va_get (D := (dC, dI)) (ci := 4) (v := .ref (ad 8)) (C := RX4) (T := TX4) (N := 11) hx hb hts (by decide +kernel) hown hK hP (1) (wl_at (by omega) (ce_1 (by decide))) rfl 9 (by decide) (hts (.fieldLink RX4 30 "QuietStairs$Planner" "busyBits" "[I") (by decide +kernel)) (fun _ h9 => h9) rfl dX4_searchDay_69 ?_
            refine lv_iload_n hx hb dX4_searchDay_72 rfl (lv_at hl 5 rfl) ?_
            refine lv_dup2_11 hx hb dX4_searchDay_73 rfl rfl ?_
            refine va_iald hx hb hK hP (8) 0 (wl_at (by omega) (ce_18 (by decide))) rfl (vp_in_iff.mpr ⟨by omega, by omega⟩) dX4_searchDay_74 ?_
            refine lv_topi (fun x_20 ex_20 => ?_)
            rw [ev_19, upr_n (by omega)] at ex_20
            obtain rfl : x_14 = x_20 := (ex_20.trans ex_14.symm).symm
            refine lv_iload hx hb dX4_searchDay_75 (lv_at hl 0 rfl) ?_
            refine lv_ior hx hb dX4_searchDay_77 ?_
            refine lv_topi (fun x_21 ex_21 => ?_)
            refine va_iast hx hb hK hP hD hS (8) 0 (wl_at (by omega) (ce_18 (by decide))) rfl (vp_in_iff.mpr ⟨by omega, by omega⟩) dX4_searchDay_78 (fun H locs hP hD hS => ?_)
            obtain ⟨v_22, ev_22⟩ : ∃ u : Nat → Nat → Int32, u = upr v_19 (8) (upd (v_19 (8)) (x2.toNatClampNeg) x_21) := ⟨_, rfl⟩
            have hP : va_P (dC, dI) vwCl (wl ad kv cy N v_22) H := by rw [ev_22, ← wl_put (e := _) (ce_18 (by decide))]; exact hP
            have hD : va_D A (wl ad kv cy N v_22) := by rw [ev_22, ← wl_put (e := _) (ce_18 (by decide))]; exact hD
            have hv : Iv v_22 := by rw [ev_22]; exact hv.put (K := 18) (by decide) (fun h q => by simp [bd] at q)
            refine lv_aload_n hx hb dX4_searchDay_79 rfl (lv_at hl 2 rfl) ?_
            refine va_get (D := (dC, dI)) (ci := 4) (v := .ref (ad 9)) (C := RX4) (T := TX4) (N := 11) hx hb hts (by decide +kernel) hown hK hP (1) (wl_at (by omega) (ce_1 (by decide))) rfl 10 (by decide) (hts (.fieldLink RX4 33 "QuietStairs$Planner" "sittings" "[I") (by decide +kernel)) (fun _ h9 => h9) rfl dX4_searchDay_80 ?_
            refine lv_iload_n hx hb dX4_searchDay_83 rfl (lv_at hl 5 rfl) ?_
            refine lv_dup2_11 hx hb dX4_searchDay_84 rfl rfl ?_
            refine va_iald hx hb hK hP (9) 0 (wl_at (by omega) (ce_18 (by decide))) rfl (vp_in_iff.mpr ⟨by omega, by omega⟩) dX4_searchDay_85 ?_
            refine lv_topi (fun x_23 ex_23 => ?_)
            rw [ev_22, upr_n (by omega), ev_19, upr_n (by omega)] at ex_23
            have qx_23 : x_23.toInt = (u1 (9) (x2.toNatClampNeg)).toInt := congrArg Int32.toInt ex_23
            have hs9 : 0 ≤ x_23.toInt ∧ x_23.toInt ≤ 4 := by rw [ex_23]; exact SC_9 (SC_fr hsc hi1_0.1.1) _ (by omega)
            refine lv_iconst (v := 1) hx hb dX4_searchDay_86 (by decide) ?_
            refine lv_iadd hx hb dX4_searchDay_87 ?_
            refine lv_topi (fun x_24 ex_24 => ?_)
            have k_1 : (1 : Int32).toInt = 1 := by decide
            have tx_24 : x_24.toInt = x_23.toInt + (1 : Int32).toInt := by rw [ex_24]; exact t_add ⟨by omega, by omega⟩
            refine va_iast hx hb hK hP hD hS (9) 0 (wl_at (by omega) (ce_18 (by decide))) rfl (vp_in_iff.mpr ⟨by omega, by omega⟩) dX4_searchDay_88 (fun H locs hP hD hS => ?_)
            obtain ⟨v_25, ev_25⟩ : ∃ u : Nat → Nat → Int32, u = upr v_22 (9) (upd (v_22 (9)) (x2.toNatClampNeg) x_24) := ⟨_, rfl⟩
            have hP : va_P (dC, dI) vwCl (wl ad kv cy N v_25) H := by rw [ev_25, ← wl_put (e := _) (ce_18 (by decide))]; exact hP
            have hD : va_D A (wl ad kv cy N v_25) := by rw [ev_25, ← wl_put (e := _) (ce_18 (by decide))]; exact hD
            have hv : Iv v_25 := by rw [ev_25]; exact hv.put (K := 18) (by decide) (fun h q => by simp [bd] at q)
            refine lv_aload_n hx hb dX4_searchDay_89 rfl (lv_at hl 2 rfl) ?_
            refine lv_iload_n hx hb dX4_searchDay_90 rfl (lv_at hl 3 rfl) ?_
            refine lv_iconst (v := 1) hx hb dX4_searchDay_91 (by decide) ?_
            refine lv_iadd hx hb dX4_searchDay_92 ?_
            refine lv_topi (fun x_26 ex_26 => ?_)
            have tx_26 : x_26.toInt = x0.toInt + (1 : Int32).toInt := by rw [ex_26]; exact t_add ⟨by omega, by omega⟩
            refine lv_iload_n hx hb dX4_searchDay_93 rfl (lv_at hl 4 rfl) ?_
            have zn_x_26 : (x_26.toNatClampNeg : Int) = x_26.toInt := t_nn (by omega)
            have hbt9 : bt (u1 4 x0.toNatClampNeg) y1_4.toNatClampNeg := by rw [← ex_10]; unfold bt; rw [← ofn (x := y1_4) (by omega)]; exact hh_12
            have hbz9 : u1 8 x2.toNatClampNeg &&& sit y1_4.toNatClampNeg = 0 := by rw [← ex_14, ← hsit, ← ex_15]; exact Int32.toInt_inj.mp (by omega)
            have hk9 : ∀ k : Nat, k ≠ 6 → k ≠ 8 → k ≠ 9 → v_25 k = u1 k := fun k h1 h2 h3 => by rw [ev_25, upr_n h3, ev_22, upr_n h2, ev_19, upr_n h1]
            have g6 : v_25 6 = upd (u1 6) x0.toNatClampNeg x_18 := by rw [ev_25, upr_n (by decide), ev_22, upr_n (by decide), ev_19, upr_s]
            have g8 : v_25 8 = upd (u1 8) x2.toNatClampNeg x_21 := by rw [ev_25, upr_n (by decide), ev_22, upr_s, ev_19, upr_n (by decide)]
            have g9 : v_25 9 = upd (u1 9) x2.toNatClampNeg x_24 := by rw [ev_25, upr_s, ev_22, upr_n (by decide), ev_19, upr_n (by decide)]
            have hsc2 : SC v_25 x_26.toNatClampNeg x1.toInt := by
              rw [show x_26.toNatClampNeg = x0.toNatClampNeg + 1 from by omega]
              exact SC_in (D := x2.toNatClampNeg) (y := y1_4.toNatClampNeg) (SC_fr hsc hi1_0.1.1) (by rw [SG_m (SF_G hi1_0.1.1)]; exact hd9) (by omega) (by omega) hbt9 hbz9 (by rw [(hi1_0.1.1.2.2 x2.toNatClampNeg (by omega)).2, hi1_0.1.1.1.2.2]; exact h9) hk9 (fun q hq => by rw [g6, pk_un (by omega)]) (by rw [g6, pk_us]; omega) (by rw [g8, pk_us, ex_21, ex_14, hsit]) (fun E hE => by rw [g8, pk_un hE]) (by rw [g9, pk_us]; omega) (fun E hE => by rw [g9, pk_un hE]) (by have q9 := hw; rw [← zn_x2] at q9; rw [SG_W (SF_G hi1_0.1.1)]; exact q9)
            refine yw_v (w1 := fun (u : Nat → Nat → Int32) => wl ad kv cy N u) hD hS hA (va_runV (As := [.int x_26, .int x1]) (rest := []) ⟨hx, hb, hml, hown, hts⟩ (e_X4_search_3 l dC dI cy _ ad kv N hN v_25 hv x_26 x1 ⟨by omega, by omega⟩ hsc2 t1 t2) (cwV 2 hts gX4_searchDay_X4_search rfl rfl rfl (by decide +kernel) ⟨Nat.le_of_ble_eq_true rfl, Nat.le_of_ble_eq_true rfl⟩) ⟨ex_blindT, va_recv hK hP (ci := 4) (q0 := 1) rfl (wl_at (by omega) (ce_1 (by decide))), fun U hU hW => ⟨rfl, ((yw_preS (As := []) hE hK hP hD).2 U hU hW).2, hSt.go hS (yw_F hD hS hA) hU hW⟩⟩ rfl rfl hl.1 rfl (lv_room (Nat.le_of_ble_eq_true rfl)) dX4_searchDay_94 ⟨Nat.le_of_ble_eq_true rfl, Nat.le_of_ble_eq_true rfl⟩) (fun v_27 H locs hw_27 hP hD hS => ?_)
            obtain ⟨hv, hw_27⟩ := hw_27
            rw [show x_26.toNatClampNeg = x0.toNatClampNeg + 1 from by omega] at hw_27
            refine lv_aload_n hx hb dX4_searchDay_97 rfl (lv_at hl 2 rfl) ?_
            refine va_get (D := (dC, dI)) (ci := 4) (v := .ref (ad 9)) (C := RX4) (T := TX4) (N := 11) hx hb hts (by decide +kernel) hown hK hP (1) (wl_at (by omega) (ce_1 (by decide))) rfl 10 (by decide) (hts (.fieldLink RX4 33 "QuietStairs$Planner" "sittings" "[I") (by decide +kernel)) (fun _ h9 => h9) rfl dX4_searchDay_98 ?_
            refine lv_iload_n hx hb dX4_searchDay_101 rfl (lv_at hl 5 rfl) ?_
            refine lv_dup2_11 hx hb dX4_searchDay_102 rfl rfl ?_
            refine va_iald hx hb hK hP (9) 0 (wl_at (by omega) (ce_18 (by decide))) rfl (vp_in_iff.mpr ⟨by omega, by omega⟩) dX4_searchDay_103 ?_
            refine lv_topi (fun x_28 ex_28 => ?_)
            have qx_28 : x_28.toInt = (v_27 (9) (x2.toNatClampNeg)).toInt := congrArg Int32.toInt ex_28
            have hs8 : x_28.toInt = x_23.toInt + 1 := by rw [ex_28, (hw_27.1.1.2.2 x2.toNatClampNeg (by omega)).2, g9, pk_us]; omega
            refine lv_iconst (v := 1) hx hb dX4_searchDay_104 (by decide) ?_
            refine lv_isub hx hb dX4_searchDay_105 ?_
            refine lv_topi (fun x_29 ex_29 => ?_)
            have tx_29 : x_29.toInt = x_28.toInt - (1 : Int32).toInt := by rw [ex_29]; exact t_sub ⟨by omega, by omega⟩
            refine va_iast hx hb hK hP hD hS (9) 0 (wl_at (by omega) (ce_18 (by decide))) rfl (vp_in_iff.mpr ⟨by omega, by omega⟩) dX4_searchDay_106 (fun H locs hP hD hS => ?_)
            obtain ⟨v_30, ev_30⟩ : ∃ u : Nat → Nat → Int32, u = upr v_27 (9) (upd (v_27 (9)) (x2.toNatClampNeg) x_29) := ⟨_, rfl⟩
            have hP : va_P (dC, dI) vwCl (wl ad kv cy N v_30) H := by rw [ev_30, ← wl_put (e := _) (ce_18 (by decide))]; exact hP
            have hD : va_D A (wl ad kv cy N v_30) := by rw [ev_30, ← wl_put (e := _) (ce_18 (by decide))]; exact hD
            have hv : Iv v_30 := by rw [ev_30]; exact hv.put (K := 18) (by decide) (fun h q => by simp [bd] at q)
            refine lv_aload_n hx hb dX4_searchDay_107 rfl (lv_at hl 2 rfl) ?_
            refine va_get (D := (dC, dI)) (ci := 4) (v := .ref (ad 8)) (C := RX4) (T := TX4) (N := 11) hx hb hts (by decide +kernel) hown hK hP (1) (wl_at (by omega) (ce_1 (by decide))) rfl 9 (by decide) (hts (.fieldLink RX4 30 "QuietStairs$Planner" "busyBits" "[I") (by decide +kernel)) (fun _ h9 => h9) rfl dX4_searchDay_108 ?_
            refine lv_iload_n hx hb dX4_searchDay_111 rfl (lv_at hl 5 rfl) ?_
            refine lv_dup2_11 hx hb dX4_searchDay_112 rfl rfl ?_
            refine va_iald hx hb hK hP (8) 0 (wl_at (by omega) (ce_18 (by decide))) rfl (vp_in_iff.mpr ⟨by omega, by omega⟩) dX4_searchDay_113 ?_
            refine lv_topi (fun x_31 ex_31 => ?_)
            rw [ev_30, upr_n (by omega)] at ex_31
            have qx_31 : x_31.toInt = (v_27 (8) (x2.toNatClampNeg)).toInt := congrArg Int32.toInt ex_31
            refine lv_iload hx hb dX4_searchDay_114 (lv_at hl 0 rfl) ?_
            refine lv_ixor hx hb dX4_searchDay_116 ?_
            refine lv_topi (fun x_32 ex_32 => ?_)
            refine va_iast hx hb hK hP hD hS (8) 0 (wl_at (by omega) (ce_18 (by decide))) rfl (vp_in_iff.mpr ⟨by omega, by omega⟩) dX4_searchDay_117 (fun H locs hP hD hS => ?_)
            obtain ⟨v_33, ev_33⟩ : ∃ u : Nat → Nat → Int32, u = upr v_30 (8) (upd (v_30 (8)) (x2.toNatClampNeg) x_32) := ⟨_, rfl⟩
            have hP : va_P (dC, dI) vwCl (wl ad kv cy N v_33) H := by rw [ev_33, ← wl_put (e := _) (ce_18 (by decide))]; exact hP
            have hD : va_D A (wl ad kv cy N v_33) := by rw [ev_33, ← wl_put (e := _) (ce_18 (by decide))]; exact hD
            have hv : Iv v_33 := by rw [ev_33]; exact hv.put (K := 18) (by decide) (fun h q => by simp [bd] at q)
            obtain ⟨x_34, ex_34⟩ : ∃ y : Int32, y = y1_4 + 1 := ⟨_, rfl⟩
            refine lv_iinc (v := x_34) (lv' := [(4, .int x_34), (5, .int x_8), (0, .ref (ad 1)), (1, .int x0), (2, .int x1), (3, .int x2)]) hx hb dX4_searchDay_118 hl (k := 1) rfl (by rw [ex_34]; rfl) (by decide) rfl (fun ls hl => ?_)
            have tx_34 : x_34.toInt = y1_4.toInt + (1 : Int32).toInt := by rw [ex_34]; exact t_add ⟨by omega, by omega⟩
            refine lv_goto (tgt := 3) hx hb dX4_searchDay_121 (by decide) ?_
            have zn_x_34 : (x_34.toNatClampNeg : Int) = x_34.toInt := t_nn (by omega)
            exact ih_1 x_34 v_33 _ _ (by omega) (by omega) (SDI_s (D := x2.toNatClampNeg) (y := y1_4.toNatClampNeg) hd9 (by omega) hi1_0 ((SC_fr hsc hi1_0.1.1).2.1.1 _ (by omega)).1.1 (by omega) hbz9 hk9 (fun q hq => by rw [g6, pk_un (by omega)]) (by rw [g6, pk_us]; omega) (by rw [g8, pk_us, ex_21, ex_14, hsit]) (fun E hE => by rw [g8, pk_un hE]) (by rw [g9, pk_us]; omega) (fun E hE => by rw [g9, pk_un hE]) hw_27 (fun k h1 h2 => by rw [ev_33, upr_n h1, ev_30, upr_n h2]) (by rw [ev_33, upr_s, pk_us, ex_32, ex_31, hsit]) (fun E hE => by rw [ev_33, upr_s, pk_un hE, ev_30, upr_n (by decide)]) (by rw [ev_33, upr_n (by decide), ev_30, upr_s, pk_us]; omega) (fun E hE => by rw [ev_33, upr_n (by decide), ev_30, upr_s, pk_un hE]) (by omega)) (by omega) hv hP hD hS ls (lv_sub hl [0, 2, 3, 4, 5] rfl)
        · refine lv_if_eq (tgt := 118) hx hb dX4_searchDay_40 (by decide) (fun _ => ?_) (fun c9 => absurd c9 (by decide))
          obtain ⟨x_13, ex_13⟩ : ∃ y : Int32, y = y1_4 + 1 := ⟨_, rfl⟩
          refine lv_iinc (v := x_13) (lv' := [(4, .int x_13), (5, .int x_8), (0, .ref (ad 1)), (1, .int x0), (2, .int x1), (3, .int x2)]) hx hb dX4_searchDay_118 hl (k := 1) rfl (by rw [ex_13]; rfl) (by decide) rfl (fun ls hl => ?_)
          have k_1 : (1 : Int32).toInt = 1 := by decide
          have tx_13 : x_13.toInt = y1_4.toInt + (1 : Int32).toInt := by rw [ex_13]; exact t_add ⟨by omega, by omega⟩
          refine lv_goto (tgt := 3) hx hb dX4_searchDay_121 (by decide) ?_
          have zn_x_13 : (x_13.toNatClampNeg : Int) = x_13.toInt := t_nn (by omega)
          exact ih_1 x_13 u1 _ _ (by omega) (by omega) (SDI_no hsc hd9 (by omega) (by omega) hi1_0 (Or.inl (fun q => absurd (show (btx x_10 y1_4).toInt = 1 by rw [← ex_10] at q; unfold bt at q; rw [← ofn (x := y1_4) (by omega)] at q; exact q) hh_12)) (by omega)) (by omega) hv hP hD hS ls (lv_sub hl [0, 2, 3, 4, 5] rfl)
  exact hc_1 ((6 - (0 : Int32).toInt).toNat + 1) 0 v _ _ (by omega) (by omega) (SDI_0 (by decide)) (by omega) hv hP hD hS ls (lv_sub hl [0, 1, 2, 3, 4] rfl)

set_option maxHeartbeats 4000000 in
set_option maxRecDepth 100000 in
theorem e_X4_search_4 (l : Launch) (dC : Nat → ClassId) (dI : Nat → Nat → Nat) (cy : Nat → ClassId) (sz : Nat) (ad : Nat → Nat) (kv : Value) (N : Nat) (hN : 119 ≤ N) (v : Nat → Nat → Int32) (hv : Iv v) (x0 x1 : Int32) (hs : 0 ≤ x0.toInt ∧ x0.toInt ≤ 4) (hsc : SC v x0.toNatClampNeg x1.toInt) (t1 t2 : Nat) : Met l yX4_search wsX4_search ({ frames := 9, cells := 0, slots := 0, locals := 576 }) (va_Pc [.ref (ad 1), .int x0, .int x1] (ex_PreT dC dI cy sz (wl ad kv cy N v) t1 t2)) (va_Qv (fun (u : Nat → Nat → Int32) => Iv u ∧ SRS v u x0.toNatClampNeg) (fun u t => ex_Pst dC dI (va_A (wl ad kv cy N v) sz) (wl ad kv cy N u) t) (va_A (wl ad kv cy N v) sz)) 0 0 (va_A (wl ad kv cy N v) sz) := by
  refine Met.ofW (cc := cX4_search) (maxL := 4) (ret := none) (by decide) rfl ?_
  intro p e s m args below meth c s₁ B hml hv
  obtain ⟨rfl, ⟨hsz, hE, hP, hK, hD0⟩, hSt⟩ := hv
  have hx := B.exec
  have hb := B.bytes
  have hr := B.returns
  have hts := atoms_spec (ws := wsX4_search) B.pre
  have hown : s.vm.findClass RX4 = some m.cls := findClass_of_methodNamed B.named
  have hlocks := B.notSynchronized
  subst hsz
  have hD := hD0.self (sz := s.heap.size)
  generalize hAe : va_A (wl ad kv cy N v) s.heap.size = A at hD hSt ⊢
  have hA : ∀ q : Nat, s.heap.size ≤ q → A q := fun q h => by rw [← hAe]; exact Or.inr h
  have hS : va_S A s.heap s.heap [] := va_S.rf
  have hP : va_P (dC, dI) vwCl (wl ad kv cy N v) s.heap := hP
  have hl := lv_entry ([.ref (ad 1), .int x0, .int x1]) (n := 4) (Nat.le_of_ble_eq_true rfl)
  rw [lg_entry_eq]
  generalize (lg_sl ([.ref (ad 1), .int x0, .int x1]) ++ List.replicate (4 - (lg_sl ([.ref (ad 1), .int x0, .int x1])).length) Slot.unset).toArray = ls at hl ⊢
  have hl : lv_has ls 4 [(0, .ref (ad 1)), (1, .int x0), (2, .int x1)] := hl
  have zn_x0 : (x0.toNatClampNeg : Int) = x0.toInt := t_nn (by omega)
  have hx1 := SC_b hsc
  have k_0 : (0 : Int32).toInt = 0 := by decide
  refine lv_iload_n hx hb dX4_search_0 rfl (lv_at hl 2 rfl) ?_
  refine lv_aload_n hx hb dX4_search_1 rfl (lv_at hl 0 rfl) ?_
  refine lv_iload_n hx hb dX4_search_2 rfl (lv_at hl 1 rfl) ?_
  refine yw_i (w1 := fun (u : Nat → Nat → Int32) => wl ad kv cy N u) hD hS hA (va_runV (As := [.int x0]) (rest := [.int x1]) ⟨hx, hb, hml, hown, hts⟩ (e_X4_leastBehind l dC dI cy _ ad kv N hN v hv x0 (SC_w hsc) (SC_s hsc) (SC_9 hsc) (by omega)) (cwV 1 hts gX4_search_X4_leastBehind rfl rfl rfl (by decide +kernel) ⟨Nat.le_of_ble_eq_true rfl, Nat.le_of_ble_eq_true rfl⟩) (yw_preV hE hK hP hD (ci := 4) (q0 := 1) rfl (wl_at (by omega) (ce_1 (by decide)))) rfl rfl hl.1 rfl (lv_room (Nat.le_of_ble_eq_true rfl)) dX4_search_3 ⟨Nat.le_of_ble_eq_true rfl, Nat.le_of_ble_eq_true rfl⟩) (fun r_1 v_1 H locs hw_1 hP hD hS => ?_)
  obtain ⟨-, hu_1, hw_1⟩ := hw_1
  replace hu_1 := hu_1.symm
  subst hu_1
  obtain ⟨hr9, dy9, tk9, hG9⟩ := hw_1
  refine lv_iadd hx hb dX4_search_6 ?_
  refine lv_topi (fun x_2 ex_2 => ?_)
  have tx_2 : x_2.toInt = x1.toInt + r_1.toInt := by rw [ex_2]; exact t_add ⟨by omega, by omega⟩
  refine lv_aload_n hx hb dX4_search_7 rfl (lv_at hl 0 rfl) ?_
  refine va_get (D := (dC, dI)) (ci := 4) (v := .int (v (1) 0)) (C := RX4) (T := TX4) (N := 11) hx hb hts (by decide +kernel) hown hK hP (1) (wl_at (by omega) (ce_1 (by decide))) rfl 0 (by decide) (hts (.fieldLink RX4 58 "QuietStairs$Planner" "leastWait" "I") (by decide +kernel)) (fun _ h9 => h9) rfl dX4_search_8 ?_
  refine lv_topi (fun x_3 ex_3 => ?_)
  have qx_3 : x_3.toInt = (v (1) (0)).toInt := congrArg Int32.toInt ex_3
  refine lv_icmp_lt (tgt := 15) hx hb dX4_search_11 (by decide) (fun c_4 => ?_) (fun c_4 => ?_)
  · have tc_4 : x_2.toInt < x_3.toInt := Int32.lt_iff_toInt_lt.mp c_4
    refine lv_iload_n hx hb dX4_search_15 rfl (lv_at hl 1 rfl) ?_
    refine lv_aload_n hx hb dX4_search_16 rfl (lv_at hl 0 rfl) ?_
    refine va_get (D := (dC, dI)) (ci := 4) (v := .int (v (1) 1)) (C := RX4) (T := TX4) (N := 11) hx hb hts (by decide +kernel) hown hK hP (1) (wl_at (by omega) (ce_1 (by decide))) rfl 1 (by decide) (hts (.fieldLink RX4 61 "QuietStairs$Planner" "count" "I") (by decide +kernel)) (fun _ h9 => h9) rfl dX4_search_17 ?_
    refine lv_topi (fun x_5 ex_5 => ?_)
    have bzx_5 : 0 ≤ x_5.toInt ∧ x_5.toInt ≤ 4 := by rw [ex_5]; exact hv.at (K := 1) (by decide) rfl
    have qx_5 : x_5.toInt = (v (1) (1)).toInt := congrArg Int32.toInt ex_5
    refine lv_icmp_lt (tgt := 46) hx hb dX4_search_20 (by decide) (fun c_6 => ?_) (fun c_6 => ?_)
    · have tc_6 : x0.toInt < x_5.toInt := Int32.lt_iff_toInt_lt.mp c_6
      have zn_x_5 : (x_5.toNatClampNeg : Int) = x_5.toInt := t_nn (by omega)
      have hd9 : x0.toNatClampNeg < plm v := by show _ < (v 1 1).toNatClampNeg; rw [← ex_5]; omega
      refine lv_iconst (v := 0) hx hb dX4_search_46 (by decide) ?_
      refine lv_istore_n (lv' := [(3, .int 0), (0, .ref (ad 1)), (1, .int x0), (2, .int x1)]) hx hb dX4_search_47 rfl hl (by decide) rfl (fun ls hl => ?_)
      have hc_7 : ∀ (n : Nat) (y7_3 : Int32) (u7 : Nat → Nat → Int32) (H : Heap) (locs : List Loc), 0 ≤ y7_3.toInt → y7_3.toInt ≤ 3 → (DYI v u7 x0.toNatClampNeg y7_3.toNatClampNeg) → (3 - y7_3.toInt).toNat < n → Iv u7 → va_P (dC, dI) vwCl (wl ad kv cy N u7) H → va_D A (wl ad kv cy N u7) → va_S A s.heap H locs → ∀ ls : Array Slot, lv_has ls 4 [(3, .int y7_3), (0, .ref (ad 1)), (1, .int x0), (2, .int x1)] → W p l e (headSpec wsX4_search ({ frames := 9, cells := 0, slots := 0, locals := 576 })).room s m [Value.ref (ad 1), Value.int x0, Value.int x1].toArray below meth c H locs 0 0 (MQ below (va_Qv (fun (u : Nat → Nat → Int32) => Iv u ∧ SRS v u x0.toNatClampNeg) (fun u t => ex_Pst dC dI A (wl ad kv cy N u) t) A) [Value.ref (ad 1), Value.int x0, Value.int x1].toArray s 0 0 A) (F0 m 48 ls []) := by
        intro n
        induction n with
        | zero =>
          intro y7_3 u7 H locs ay7_3 by7_3 hi7_0 hm_7 hv hP hD hS ls hl
          exact absurd hm_7 (by omega)
        | succ n ih_7 =>
          intro y7_3 u7 H locs ay7_3 by7_3 hi7_0 hm_7 hv hP hD hS ls hl
          refine lv_iload_n hx hb dX4_search_48 rfl (lv_at hl 0 rfl) ?_
          refine lv_iconst (v := 3) hx hb dX4_search_49 (by decide) ?_
          have k_3 : (3 : Int32).toInt = 3 := by decide
          refine lv_icmp_ge (tgt := 88) hx hb dX4_search_50 (by decide) (fun c_8 => ?_) (fun c_8 => ?_)
          · have tc_8 : y7_3.toInt ≥ (3 : Int32).toInt := Int32.le_iff_toInt_le.mp c_8
            refine lv_aload_n hx hb dX4_search_88 rfl (lv_at hl 1 rfl) ?_
            refine va_get (D := (dC, dI)) (ci := 4) (v := .ref (ad 6)) (C := RX4) (T := TX4) (N := 11) hx hb hts (by decide +kernel) hown hK hP (1) (wl_at (by omega) (ce_1 (by decide))) rfl 7 (by decide) (hts (.fieldLink RX4 24 "QuietStairs$Planner" "seats" "[I") (by decide +kernel)) (fun _ h9 => h9) rfl dX4_search_89 ?_
            refine lv_iload_n hx hb dX4_search_92 rfl (lv_at hl 2 rfl) ?_
            refine lv_bipush (v := 18) hx hb dX4_search_93 (by decide) ?_
            have hx_9 : x0.toNatClampNeg < 4 := by omega
            refine va_iast hx hb hK hP hD hS (6) 0 (wl_at (by omega) (ce_17 (by decide))) rfl (vp_in_iff.mpr ⟨by omega, by omega⟩) dX4_search_95 (fun H locs hP hD hS => ?_)
            have k_18 : (18 : Int32).toInt = 18 := by decide
            obtain ⟨v_10, ev_10⟩ : ∃ u : Nat → Nat → Int32, u = upr u7 (6) (upd (u7 (6)) (x0.toNatClampNeg) 18) := ⟨_, rfl⟩
            have hP : va_P (dC, dI) vwCl (wl ad kv cy N v_10) H := by rw [ev_10, ← wl_put (e := _) (ce_17 (by decide))]; exact hP
            have hD : va_D A (wl ad kv cy N v_10) := by rw [ev_10, ← wl_put (e := _) (ce_17 (by decide))]; exact hD
            have hv : Iv v_10 := by rw [ev_10]; exact hv.put (K := 17) (by decide) (fun h q => by simp [bd] at q)
            refine lv_aload_n hx hb dX4_search_96 rfl (lv_at hl 1 rfl) ?_
            refine lv_iload_n hx hb dX4_search_97 rfl (lv_at hl 2 rfl) ?_
            refine lv_iconst (v := 1) hx hb dX4_search_98 (by decide) ?_
            refine lv_iadd hx hb dX4_search_99 ?_
            refine lv_topi (fun x_11 ex_11 => ?_)
            have k_1 : (1 : Int32).toInt = 1 := by decide
            have tx_11 : x_11.toInt = x0.toInt + (1 : Int32).toInt := by rw [ex_11]; exact t_add ⟨by omega, by omega⟩
            refine lv_iload_n hx hb dX4_search_100 rfl (lv_at hl 3 rfl) ?_
            refine lv_aload_n hx hb dX4_search_101 rfl (lv_at hl 1 rfl) ?_
            refine va_get (D := (dC, dI)) (ci := 4) (v := .ref (ad 3)) (C := RX4) (T := TX4) (N := 11) hx hb hts (by decide +kernel) hown hK hP (1) (wl_at (by omega) (ce_1 (by decide))) rfl 4 (by decide) (hts (.fieldLink RX4 15 "QuietStairs$Planner" "weights" "[I") (by decide +kernel)) (fun _ h9 => h9) rfl dX4_search_102 ?_
            refine lv_iload_n hx hb dX4_search_105 rfl (lv_at hl 2 rfl) ?_
            refine va_iald hx hb hK hP (3) 0 (wl_at (by omega) (ce_17 (by decide))) rfl (vp_in_iff.mpr ⟨by omega, by omega⟩) dX4_search_106 ?_
            refine lv_topi (fun x_12 ex_12 => ?_)
            rw [ev_10, upr_n (by omega)] at ex_12
            have qx_12 : x_12.toInt = (u7 (3) (x0.toNatClampNeg)).toInt := congrArg Int32.toInt ex_12
            have hw9 : 1 ≤ x_12.toInt ∧ x_12.toInt ≤ 9 := by rw [ex_12, (SF_G hi7_0.1.1).1.1]; exact SC_w hsc _ (by omega)
            refine lv_iconst (v := 4) hx hb dX4_search_107 (by decide) ?_
            refine lv_imul hx hb dX4_search_108 ?_
            refine lv_topi (fun x_13 ex_13 => ?_)
            have k_4 : (4 : Int32).toInt = 4 := by decide
            have tx_13 : x_13.toInt = 4 * x_12.toInt := by rw [ex_13, t_mul (by rw [k_4]; omega), k_4]; omega
            refine lv_iadd hx hb dX4_search_109 ?_
            refine lv_topi (fun x_14 ex_14 => ?_)
            have tx_14 : x_14.toInt = x1.toInt + x_13.toInt := by rw [ex_14]; exact t_add ⟨by omega, by omega⟩
            have zn_x_11 : (x_11.toNatClampNeg : Int) = x_11.toInt := t_nn (by omega)
            have hsc2 : SC v_10 x_11.toNatClampNeg x_14.toInt := by
              rw [show x_11.toNatClampNeg = x0.toNatClampNeg + 1 from by omega]
              exact SC_18 (SC_fr hsc hi7_0.1.1) (by rw [SG_m (SF_G hi7_0.1.1)]; exact hd9) (fun k h => by rw [ev_10, upr_n h]) (fun q hq => by rw [ev_10, upr_s, pk_un (by omega)]) (by rw [ev_10, upr_s, pk_us]; decide) (by show _ = _ + (u7 3 x0.toNatClampNeg).toInt * 4; omega)
            refine yw_v (w1 := fun (u : Nat → Nat → Int32) => wl ad kv cy N u) hD hS hA (va_runV (As := [.int x_11, .int x_14]) (rest := []) ⟨hx, hb, hml, hown, hts⟩ (e_X4_search_3 l dC dI cy _ ad kv N hN v_10 hv x_11 x_14 ⟨by omega, by omega⟩ hsc2 t1 t2) (cwV 2 hts gX4_search_X4_search rfl rfl rfl (by decide +kernel) ⟨Nat.le_of_ble_eq_true rfl, Nat.le_of_ble_eq_true rfl⟩) ⟨ex_blindT, va_recv hK hP (ci := 4) (q0 := 1) rfl (wl_at (by omega) (ce_1 (by decide))), fun U hU hW => ⟨rfl, ((yw_preS (As := []) hE hK hP hD).2 U hU hW).2, hSt.go hS (yw_F hD hS hA) hU hW⟩⟩ rfl rfl hl.1 rfl (lv_room (Nat.le_of_ble_eq_true rfl)) dX4_search_110 ⟨Nat.le_of_ble_eq_true rfl, Nat.le_of_ble_eq_true rfl⟩) (fun v_15 H locs hw_15 hP hD hS => ?_)
            obtain ⟨hv, hw_15⟩ := hw_15
            rw [show x_11.toNatClampNeg = x0.toNatClampNeg + 1 from by omega] at hw_15
            have zn_y7_3 : (y7_3.toNatClampNeg : Int) = y7_3.toInt := t_nn (by omega)
            exact W.vret hx hb hr (fun t ht hW => ⟨⟨v_15, rfl, ⟨hv, DYI_e hd9 hi7_0 (by omega) (fun k h => by rw [ev_10, upr_n h]) (fun q hq => by rw [ev_10, upr_s, pk_un (by omega)]) (by rw [ev_10, upr_s, pk_us]; decide) hw_15⟩, by rw [ht]; exact hP, hD⟩, hS.F ht⟩) hS.2.2 dX4_search_113
          · have tc_8 : y7_3.toInt < (3 : Int32).toInt := Int32.lt_iff_toInt_lt.mp (Int32.not_le.mp c_8)
            refine lv_aload_n hx hb dX4_search_53 rfl (lv_at hl 1 rfl) ?_
            refine va_get (D := (dC, dI)) (ci := 4) (v := .ref (ad 9)) (C := RX4) (T := TX4) (N := 11) hx hb hts (by decide +kernel) hown hK hP (1) (wl_at (by omega) (ce_1 (by decide))) rfl 10 (by decide) (hts (.fieldLink RX4 33 "QuietStairs$Planner" "sittings" "[I") (by decide +kernel)) (fun _ h9 => h9) rfl dX4_search_54 ?_
            refine lv_iload_n hx hb dX4_search_57 rfl (lv_at hl 0 rfl) ?_
            have zn_y7_3 : (y7_3.toNatClampNeg : Int) = y7_3.toInt := t_nn (by omega)
            have hx_9 : y7_3.toNatClampNeg < 3 := by omega
            refine va_iald hx hb hK hP (9) 0 (wl_at (by omega) (ce_18 (by decide))) rfl (vp_in_iff.mpr ⟨by omega, by omega⟩) dX4_search_58 ?_
            refine lv_topi (fun x_10 ex_10 => ?_)
            have qx_10 : x_10.toInt = (u7 (9) (y7_3.toNatClampNeg)).toInt := congrArg Int32.toInt ex_10
            refine lv_aload_n hx hb dX4_search_59 rfl (lv_at hl 1 rfl) ?_
            refine va_get (D := (dC, dI)) (ci := 4) (v := .int (u7 (1) 2)) (C := RX4) (T := TX4) (N := 11) hx hb hts (by decide +kernel) hown hK hP (1) (wl_at (by omega) (ce_1 (by decide))) rfl 2 (by decide) (hts (.fieldLink RX4 48 "QuietStairs$Planner" "seatsADay" "I") (by decide +kernel)) (fun _ h9 => h9) rfl dX4_search_60 ?_
            refine lv_topi (fun x_11 ex_11 => ?_)
            have qx_11 : x_11.toInt = (u7 (1) (2)).toInt := congrArg Int32.toInt ex_11
            refine lv_icmp_ge (tgt := 82) hx hb dX4_search_63 (by decide) (fun c_12 => ?_) (fun c_12 => ?_)
            · have tc_12 : x_10.toInt ≥ x_11.toInt := Int32.le_iff_toInt_le.mp c_12
              obtain ⟨x_13, ex_13⟩ : ∃ y : Int32, y = y7_3 + 1 := ⟨_, rfl⟩
              refine lv_iinc (v := x_13) (lv' := [(3, .int x_13), (0, .ref (ad 1)), (1, .int x0), (2, .int x1)]) hx hb dX4_search_82 hl (k := 0) rfl (by rw [ex_13]; rfl) (by decide) rfl (fun ls hl => ?_)
              have k_1 : (1 : Int32).toInt = 1 := by decide
              have tx_13 : x_13.toInt = y7_3.toInt + (1 : Int32).toInt := by rw [ex_13]; exact t_add ⟨by omega, by omega⟩
              refine lv_goto (tgt := 48) hx hb dX4_search_85 (by decide) ?_
              have zn_x_13 : (x_13.toNatClampNeg : Int) = x_13.toInt := t_nn (by omega)
              exact ih_7 x_13 u7 _ _ (by omega) (by omega) (DYI_no hsc hd9 (by omega) hi7_0 (by omega) (by omega)) (by omega) hv hP hD hS ls (lv_sub hl [0, 1, 2, 3] rfl)
            · have tc_12 : x_10.toInt < x_11.toInt := Int32.lt_iff_toInt_lt.mp (Int32.not_le.mp c_12)
              refine lv_aload_n hx hb dX4_search_66 rfl (lv_at hl 1 rfl) ?_
              refine lv_iload_n hx hb dX4_search_67 rfl (lv_at hl 2 rfl) ?_
              refine lv_iload_n hx hb dX4_search_68 rfl (lv_at hl 3 rfl) ?_
              refine lv_aload_n hx hb dX4_search_69 rfl (lv_at hl 1 rfl) ?_
              refine va_get (D := (dC, dI)) (ci := 4) (v := .ref (ad 3)) (C := RX4) (T := TX4) (N := 11) hx hb hts (by decide +kernel) hown hK hP (1) (wl_at (by omega) (ce_1 (by decide))) rfl 4 (by decide) (hts (.fieldLink RX4 15 "QuietStairs$Planner" "weights" "[I") (by decide +kernel)) (fun _ h9 => h9) rfl dX4_search_70 ?_
              refine lv_iload_n hx hb dX4_search_73 rfl (lv_at hl 2 rfl) ?_
              have hx_13 : x0.toNatClampNeg < 4 := by omega
              refine va_iald hx hb hK hP (3) 0 (wl_at (by omega) (ce_17 (by decide))) rfl (vp_in_iff.mpr ⟨by omega, by omega⟩) dX4_search_74 ?_
              refine lv_topi (fun x_14 ex_14 => ?_)
              have qx_14 : x_14.toInt = (u7 (3) (x0.toNatClampNeg)).toInt := congrArg Int32.toInt ex_14
              have hw9 : 1 ≤ x_14.toInt ∧ x_14.toInt ≤ 9 := by rw [ex_14, (SF_G hi7_0.1.1).1.1]; exact SC_w hsc _ (by omega)
              refine lv_iload_n hx hb dX4_search_75 rfl (lv_at hl 0 rfl) ?_
              refine lv_imul hx hb dX4_search_76 ?_
              refine lv_topi (fun x_15 ex_15 => ?_)
              have m0x_15 : 0 ≤ x_14.toInt * y7_3.toInt := Int.mul_nonneg (by omega) (by omega)
              have m1x_15 : x_14.toInt * y7_3.toInt ≤ 9 * 2 := Int.mul_le_mul (by omega) (by omega) (by omega) (by decide)
              have tx_15 : x_15.toInt = x_14.toInt * y7_3.toInt := by rw [ex_15]; exact t_mul ⟨by omega, by omega⟩
              refine lv_iadd hx hb dX4_search_77 ?_
              refine lv_topi (fun x_16 ex_16 => ?_)
              have tx_16 : x_16.toInt = x1.toInt + x_15.toInt := by rw [ex_16]; exact t_add ⟨by omega, by omega⟩
              refine lv_iload_n hx hb dX4_search_78 rfl (lv_at hl 0 rfl) ?_
              refine yw_v (w1 := fun (u : Nat → Nat → Int32) => wl ad kv cy N u) hD hS hA (va_runV (As := [.int x0, .int x_16, .int y7_3]) (rest := []) ⟨hx, hb, hml, hown, hts⟩ (e_X4_searchDay_4 l dC dI cy _ ad kv N hN u7 hv x0 x_16 y7_3 ⟨by omega, by omega⟩ ⟨by omega, by omega⟩ x1.toInt (SC_fr hsc hi7_0.1.1) (by rw [hi7_0.1.1.1.2.1]; omega) (by rw [← ex_14]; omega) (by omega) t1 t2) (cwV 3 hts gX4_search_X4_searchDay rfl rfl rfl (by decide +kernel) ⟨Nat.le_of_ble_eq_true rfl, Nat.le_of_ble_eq_true rfl⟩) ⟨ex_blindT, va_recv hK hP (ci := 4) (q0 := 1) rfl (wl_at (by omega) (ce_1 (by decide))), fun U hU hW => ⟨rfl, ((yw_preS (As := []) hE hK hP hD).2 U hU hW).2, hSt.go hS (yw_F hD hS hA) hU hW⟩⟩ rfl rfl hl.1 rfl (lv_room (Nat.le_of_ble_eq_true rfl)) dX4_search_79 ⟨Nat.le_of_ble_eq_true rfl, Nat.le_of_ble_eq_true rfl⟩) (fun v_17 H locs hw_17 hP hD hS => ?_)
              obtain ⟨hv, hw_17⟩ := hw_17
              obtain ⟨x_18, ex_18⟩ : ∃ y : Int32, y = y7_3 + 1 := ⟨_, rfl⟩
              refine lv_iinc (v := x_18) (lv' := [(3, .int x_18), (0, .ref (ad 1)), (1, .int x0), (2, .int x1)]) hx hb dX4_search_82 hl (k := 0) rfl (by rw [ex_18]; rfl) (by decide) rfl (fun ls hl => ?_)
              have k_1 : (1 : Int32).toInt = 1 := by decide
              have tx_18 : x_18.toInt = y7_3.toInt + (1 : Int32).toInt := by rw [ex_18]; exact t_add ⟨by omega, by omega⟩
              refine lv_goto (tgt := 48) hx hb dX4_search_85 (by decide) ?_
              have zn_x_18 : (x_18.toNatClampNeg : Int) = x_18.toInt := t_nn (by omega)
              exact ih_7 x_18 v_17 _ _ (by omega) (by omega) (DYI_s hi7_0 hw_17 (by omega)) (by omega) hv hP hD hS ls (lv_sub hl [0, 1, 2, 3] rfl)
      exact hc_7 ((3 - (0 : Int32).toInt).toNat + 1) 0 v _ _ (by omega) (by omega) (DYI_0 (by decide)) (by omega) hv hP hD hS ls (lv_sub hl [0, 1, 2, 3] rfl)
    · have tc_6 : x0.toInt ≥ x_5.toInt := Int32.le_iff_toInt_le.mp (Int32.not_lt.mp c_6)
      refine lv_aload_n hx hb dX4_search_23 rfl (lv_at hl 0 rfl) ?_
      refine lv_iload_n hx hb dX4_search_24 rfl (lv_at hl 2 rfl) ?_
      refine va_put (D := (dC, dI)) (ci := 4) (v := .int x1) (ty := .int) (C := RX4) (T := TX4) (N := 11) hx hb hts (by decide +kernel) tyX4 tyX4_ok nmX4 hown hK hP hD hS (1) (wl_at (by omega) (ce_1 (by decide))) rfl 0 (by decide) (hts (.fieldLink RX4 58 "QuietStairs$Planner" "leastWait" "I") (by decide +kernel)) (fun _ h9 => h9) rfl (by decide +kernel) rfl rfl (Nat.le_of_ble_eq_true rfl) dX4_search_25 (fun H locs hP hD hS => ?_)
      obtain ⟨v_7, ev_7⟩ : ∃ u : Nat → Nat → Int32, u = upr v (1) (upd (v (1)) 0 x1) := ⟨_, rfl⟩
      have hP : va_P (dC, dI) vwCl (wl ad kv cy N v_7) H := by rw [ev_7, ← wl_put (e := _) (ce_1 (by decide))]; exact hP
      have hD : va_D A (wl ad kv cy N v_7) := by rw [ev_7, ← wl_put (e := _) (ce_1 (by decide))]; exact hD
      have hv : Iv v_7 := by rw [ev_7]; exact hv.put (K := 1) (by decide) (fun h q => by simp [bd] at q)
      refine lv_aload_n hx hb dX4_search_28 rfl (lv_at hl 0 rfl) ?_
      refine va_get (D := (dC, dI)) (ci := 4) (v := .ref (ad 6)) (C := RX4) (T := TX4) (N := 11) hx hb hts (by decide +kernel) hown hK hP (1) (wl_at (by omega) (ce_1 (by decide))) rfl 7 (by decide) (hts (.fieldLink RX4 24 "QuietStairs$Planner" "seats" "[I") (by decide +kernel)) (fun _ h9 => h9) rfl dX4_search_29 ?_
      refine lv_iconst (v := 0) hx hb dX4_search_32 (by decide) ?_
      refine lv_aload_n hx hb dX4_search_33 rfl (lv_at hl 0 rfl) ?_
      refine va_get (D := (dC, dI)) (ci := 4) (v := .ref (ad 7)) (C := RX4) (T := TX4) (N := 11) hx hb hts (by decide +kernel) hown hK hP (1) (wl_at (by omega) (ce_1 (by decide))) rfl 8 (by decide) (hts (.fieldLink RX4 27 "QuietStairs$Planner" "bestSeats" "[I") (by decide +kernel)) (fun _ h9 => h9) rfl dX4_search_34 ?_
      refine lv_iconst (v := 0) hx hb dX4_search_37 (by decide) ?_
      refine lv_aload_n hx hb dX4_search_38 rfl (lv_at hl 0 rfl) ?_
      refine va_get (D := (dC, dI)) (ci := 4) (v := .int (v_7 (1) 1)) (C := RX4) (T := TX4) (N := 11) hx hb hts (by decide +kernel) hown hK hP (1) (wl_at (by omega) (ce_1 (by decide))) rfl 1 (by decide) (hts (.fieldLink RX4 61 "QuietStairs$Planner" "count" "I") (by decide +kernel)) (fun _ h9 => h9) rfl dX4_search_39 ?_
      refine lv_topi (fun x_8 ex_8 => ?_)
      have bzx_8 : 0 ≤ x_8.toInt ∧ x_8.toInt ≤ 4 := by rw [ex_8]; exact hv.at (K := 1) (by decide) rfl
      rw [ev_7, upr_s, pk_un (by decide)] at ex_8
      obtain rfl : x_5 = x_8 := (ex_8.trans ex_5.symm).symm
      have zn_x_5 : (x_5.toNatClampNeg : Int) = x_5.toInt := t_nn (by omega)
      have hn_9 := t_n (x := x_5) (m := 4) ⟨by omega, by omega⟩
      refine va_copyi hx hb (hml.trans hl.1.symm) hown (hts (.methodLink RX4 99 arraycopyName) (by decide +kernel)) (hts (.native arraycopyName) (by decide +kernel)) (hts (.static arraycopyName) (by decide +kernel)) (hts (.initialized "java/lang/System") (by decide +kernel)) hK hP hD hS (6) (7) 0 0 (wl_at (by omega) (ce_17 (by decide))) (wl_at (by omega) (ce_17 (by decide))) rfl rfl rfl (by decide) (by decide) hn_9.1 (by rw [sb_cl0]; have := hn_9.2; omega) (by rw [sb_cl0]; have := hn_9.2; omega) (fun i hi => rfl) (Nat.le_of_ble_eq_true rfl) (Nat.le_of_ble_eq_true rfl) dX4_search_42 (fun H locs hP hD hS => ?_)
      obtain ⟨v_10, ev_10⟩ : ∃ u : Nat → Nat → Int32, u = upr v_7 (7) (va_cpy (v_7 (6)) (v_7 (7)) (0 : Int32).toNatClampNeg (0 : Int32).toNatClampNeg x_5.toNatClampNeg) := ⟨_, rfl⟩
      have hP : va_P (dC, dI) vwCl (wl ad kv cy N v_10) H := by rw [ev_10, ← wl_put (e := _) (ce_17 (by decide))]; exact hP
      have hD : va_D A (wl ad kv cy N v_10) := by rw [ev_10, ← wl_put (e := _) (ce_17 (by decide))]; exact hD
      have hv : Iv v_10 := by rw [ev_10]; exact hv.row (K := 17) (by decide) (fun j => rfl)
      have hs_10 : v_7 (6) = v (6) := by rw [ev_7, upr_n (by omega)]
      rw [hs_10] at ev_10
      exact W.vret hx hb hr (fun t ht hW => ⟨⟨v_10, rfl, ⟨hv, SC_leaf hsc (by show (v 1 1).toNatClampNeg ≤ _; rw [← ex_5]; omega) (by show _ < (v 1 0).toInt; omega) (fun k h1 h7 => by rw [ev_10, upr_n h7, ev_7, upr_n h1]) (by rw [ev_10, upr_n (by decide), ev_7, upr_s, pk_un (by decide)]) (by rw [ev_10, upr_n (by decide), ev_7, upr_s, pk_un (by decide)]) (by show (v_10 1 0).toInt = _; rw [ev_10, upr_n (by decide), ev_7, upr_s, pk_us]) (fun q hq => by have hq : q < (v 1 1).toNatClampNeg := hq; rw [← ex_5] at hq; rw [ev_10, up3, if_pos ⟨rfl, hq⟩])⟩, by rw [ht]; exact hP, hD⟩, hS.F ht⟩) hS.2.2 dX4_search_45
  · have tc_4 : x_2.toInt ≥ x_3.toInt := Int32.le_iff_toInt_le.mp (Int32.not_lt.mp c_4)
    exact W.vret hx hb hr (fun t ht hW => ⟨⟨v, rfl, ⟨hv, SC_cut hsc hG9 (by show (v 1 0).toInt ≤ _; omega)⟩, by rw [ht]; exact hP, hD⟩, hS.F ht⟩) hS.2.2 dX4_search_14
