
set_option maxHeartbeats 4000000 in
set_option maxRecDepth 100000 in
theorem e_X4_gather (l : Launch) (dC : Nat → ClassId) (dI : Nat → Nat → Nat) (cy : Nat → ClassId) (sz : Nat) (ad : Nat → Nat) (kv : Value) (N : Nat) (hN : 119 ≤ N) (v : Nat → Nat → Int32) (hv : Iv v)  (t1 t2 : Nat) : Met l yX4_gather wsX4_gather ({ frames := 4, cells := 0, slots := 0, locals := 256 }) (va_Pc [.ref (ad 1), .ref (ad 13)] (ex_PreT dC dI cy sz (wl ad kv cy N v) t1 t2)) (va_Qv (fun (u : Nat → Nat → Int32) => Iv u ∧ (∀ k : Nat, k ≠ 1 → k ≠ 2 → k ≠ 3 → k ≠ 4 → u k = v k) ∧ (u 1 0 = v 1 0 ∧ u 1 2 = v 1 2) ∧ gth (fun c => (v (29 + 15 * c) 0).toInt = 0) (v 13 2).toNatClampNeg (u 1 1).toInt (fun k => (u 2 k).toInt) ∧ GA (fun c => v (29 + 15 * c) 3) (fun c p => ((st_o p).toInt < (v 13 1).toInt ∧ fit (v (25 + (st_l p).toNatClampNeg) 1) (v (25 + (st_o p).toNatClampNeg) 1) (v (25 + (st_l p).toNatClampNeg) 2) (v (25 + (st_l p).toNatClampNeg) 0) (v (25 + (st_o p).toNatClampNeg) 2) (v (25 + (st_o p).toNatClampNeg) 0) (v (30 + 15 * c) 0) (v (17 + (v (30 + 15 * c) 0).toNatClampNeg) 1) (v (17 + (v (30 + 15 * c) 0).toNatClampNeg) 0) (v (30 + 15 * c) 1) (v (17 + (v (30 + 15 * c) 1).toNatClampNeg) 1) (v (17 + (v (30 + 15 * c) 1).toNatClampNeg) 0))) (u 1 1).toInt (u 2) (u 3) (u 4)) (fun u t => ex_Pst dC dI (va_A (wl ad kv cy N v) sz) (wl ad kv cy N u) t) (va_A (wl ad kv cy N v) sz)) 0 0 (va_A (wl ad kv cy N v) sz) := by
  refine Met.ofW (cc := cX4_gather) (maxL := 4) (ret := none) (by decide) rfl ?_
  intro p e s m args below meth c s₁ B hml hv
  obtain ⟨rfl, ⟨hsz, hE, hP, hK, hD0⟩, hSt⟩ := hv
  have hx := B.exec
  have hb := B.bytes
  have hr := B.returns
  have hts := atoms_spec (ws := wsX4_gather) B.pre
  have hown : s.vm.findClass RX4 = some m.cls := findClass_of_methodNamed B.named
  have hlocks := B.notSynchronized
  subst hsz
  have hD := hD0.self (sz := s.heap.size)
  generalize hAe : va_A (wl ad kv cy N v) s.heap.size = A at hD hSt ⊢
  have hA : ∀ q : Nat, s.heap.size ≤ q → A q := fun q h => by rw [← hAe]; exact Or.inr h
  have hS : va_S A s.heap s.heap [] := va_S.rf
  have hP : va_P (dC, dI) vwCl (wl ad kv cy N v) s.heap := hP
  have hl := lv_entry ([.ref (ad 1), .ref (ad 13)]) (n := 4) (Nat.le_of_ble_eq_true rfl)
  rw [lg_entry_eq]
  generalize (lg_sl ([.ref (ad 1), .ref (ad 13)]) ++ List.replicate (4 - (lg_sl ([.ref (ad 1), .ref (ad 13)])).length) Slot.unset).toArray = ls at hl ⊢
  have hl : lv_has ls 4 [(0, .ref (ad 1)), (1, .ref (ad 13))] := hl
  obtain ⟨cc, ecc⟩ : ∃ z : Int32, z = v 13 2 := ⟨_, rfl⟩
  have hbcc : 0 ≤ cc.toInt ∧ cc.toInt ≤ 6 := by rw [ecc]; exact hv.at (K := 3) (by decide) rfl
  have zn_cc : (cc.toNatClampNeg : Int) = cc.toInt := t_nn (by omega)
  have k_0 : (0 : Int32).toInt = 0 := by decide
  obtain ⟨OP, eOP⟩ : ∃ f : Nat → Prop, f = fun c => (v (29 + 15 * c) 0).toInt = 0 := ⟨_, rfl⟩
  obtain ⟨WW, eWW⟩ : ∃ f : Nat → Int32, f = fun c => v (29 + 15 * c) 3 := ⟨_, rfl⟩
  obtain ⟨FT, eFT⟩ : ∃ f : Nat → Nat → Prop, f = fun c p => ((st_o p).toInt < (v 13 1).toInt ∧ fit (v (25 + (st_l p).toNatClampNeg) 1) (v (25 + (st_o p).toNatClampNeg) 1) (v (25 + (st_l p).toNatClampNeg) 2) (v (25 + (st_l p).toNatClampNeg) 0) (v (25 + (st_o p).toNatClampNeg) 2) (v (25 + (st_o p).toNatClampNeg) 0) (v (30 + 15 * c) 0) (v (17 + (v (30 + 15 * c) 0).toNatClampNeg) 1) (v (17 + (v (30 + 15 * c) 0).toNatClampNeg) 0) (v (30 + 15 * c) 1) (v (17 + (v (30 + 15 * c) 1).toNatClampNeg) 1) (v (17 + (v (30 + 15 * c) 1).toNatClampNeg) 0)) := ⟨_, rfl⟩
  refine lv_aload_n hx hb dX4_gather_0 rfl (lv_at hl 0 rfl) ?_
  refine lv_iconst (v := 0) hx hb dX4_gather_1 (by decide) ?_
  refine va_put (D := (dC, dI)) (ci := 4) (v := .int 0) (ty := .int) (C := RX4) (T := TX4) (N := 11) hx hb hts (by decide +kernel) tyX4 tyX4_ok nmX4 hown hK hP hD hS (1) (wl_at (by omega) (ce_1 (by decide))) rfl 1 (by decide) (hts (.fieldLink RX4 61 "QuietStairs$Planner" "count" "I") (by decide +kernel)) (fun _ h9 => h9) rfl (by decide +kernel) rfl rfl (Nat.le_of_ble_eq_true rfl) dX4_gather_2 (fun H locs hP hD hS => ?_)
  obtain ⟨v_1, ev_1⟩ : ∃ u : Nat → Nat → Int32, u = upr v (1) (upd (v (1)) 1 0) := ⟨_, rfl⟩
  have hP : va_P (dC, dI) vwCl (wl ad kv cy N v_1) H := by rw [ev_1, ← wl_put (e := _) (ce_1 (by decide))]; exact hP
  have hD : va_D A (wl ad kv cy N v_1) := by rw [ev_1, ← wl_put (e := _) (ce_1 (by decide))]; exact hD
  have hv : Iv v_1 := by rw [ev_1]; exact hv.put (K := 1) (by decide) (fun h q => by cases q; exact ⟨by omega, by omega⟩)
  refine lv_iconst (v := 0) hx hb dX4_gather_5 (by decide) ?_
  refine lv_istore_n (lv' := [(2, .int 0), (0, .ref (ad 1)), (1, .ref (ad 13))]) hx hb dX4_gather_6 rfl hl (by decide) rfl (fun ls hl => ?_)
  have hc_2 : ∀ (n : Nat) (y2_2 : Int32) (u2 : Nat → Nat → Int32) (H : Heap) (locs : List Loc), 0 ≤ y2_2.toInt → y2_2.toInt ≤ 6 → (∀ k : Nat, k ≠ 1 → k ≠ 2 → k ≠ 3 → k ≠ 4 → u2 k = v k) → (u2 1 0 = v 1 0 ∧ u2 1 2 = v 1 2) → (gth OP y2_2.toNatClampNeg (u2 1 1).toInt (fun k => (u2 2 k).toInt)) → (GA WW FT (u2 1 1).toInt (u2 2) (u2 3) (u2 4)) → (y2_2.toInt ≤ cc.toInt) → (6 - y2_2.toInt).toNat < n → Iv u2 → va_P (dC, dI) vwCl (wl ad kv cy N u2) H → va_D A (wl ad kv cy N u2) → va_S A s.heap H locs → ∀ ls : Array Slot, lv_has ls 4 [(2, .int y2_2), (0, .ref (ad 1)), (1, .ref (ad 13))] → W p l e (headSpec wsX4_gather ({ frames := 4, cells := 0, slots := 0, locals := 256 })).room s m [Value.ref (ad 1), Value.ref (ad 13)].toArray below meth c H locs 0 0 (MQ below (va_Qv (fun (u : Nat → Nat → Int32) => Iv u ∧ (∀ k : Nat, k ≠ 1 → k ≠ 2 → k ≠ 3 → k ≠ 4 → u k = v k) ∧ (u 1 0 = v 1 0 ∧ u 1 2 = v 1 2) ∧ gth (fun c => (v (29 + 15 * c) 0).toInt = 0) (v 13 2).toNatClampNeg (u 1 1).toInt (fun k => (u 2 k).toInt) ∧ GA (fun c => v (29 + 15 * c) 3) (fun c p => ((st_o p).toInt < (v 13 1).toInt ∧ fit (v (25 + (st_l p).toNatClampNeg) 1) (v (25 + (st_o p).toNatClampNeg) 1) (v (25 + (st_l p).toNatClampNeg) 2) (v (25 + (st_l p).toNatClampNeg) 0) (v (25 + (st_o p).toNatClampNeg) 2) (v (25 + (st_o p).toNatClampNeg) 0) (v (30 + 15 * c) 0) (v (17 + (v (30 + 15 * c) 0).toNatClampNeg) 1) (v (17 + (v (30 + 15 * c) 0).toNatClampNeg) 0) (v (30 + 15 * c) 1) (v (17 + (v (30 + 15 * c) 1).toNatClampNeg) 1) (v (17 + (v (30 + 15 * c) 1).toNatClampNeg) 0))) (u 1 1).toInt (u 2) (u 3) (u 4)) (fun u t => ex_Pst dC dI A (wl ad kv cy N u) t) A) [Value.ref (ad 1), Value.ref (ad 13)].toArray s 0 0 A) (F0 m 7 ls []) := by
    intro n
    induction n with
    | zero =>
      intro y2_2 u2 H locs ay2_2 by2_2 hi2_0 hi2_1 hi2_2 hi2_3 hi2_4 hm_2 hv hP hD hS ls hl
      exact absurd hm_2 (by omega)
    | succ n ih_2 =>
      intro y2_2 u2 H locs ay2_2 by2_2 hi2_0 hi2_1 hi2_2 hi2_3 hi2_4 hm_2 hv hP hD hS ls hl
      refine lv_iload_n hx hb dX4_gather_7 rfl (lv_at hl 0 rfl) ?_
      refine lv_aload_n hx hb dX4_gather_8 rfl (lv_at hl 2 rfl) ?_
      refine va_get (D := (dC, dI)) (ci := 1) (v := .int (u2 (13) 2)) (C := RX1) (T := TX1) (N := 7) hx hb hts (by decide +kernel) hown hK hP (13) (wl_at (by omega) (ce_3 (by decide))) rfl 2 (by decide) (hts (.fieldLink RX4 68 "QuietStairs$House" "caseCount" "I") (by decide +kernel)) (fun _ h9 => h9) rfl dX4_gather_9 ?_
      refine lv_topi (fun x_3 ex_3 => ?_)
      have bzx_3 : 0 ≤ x_3.toInt ∧ x_3.toInt ≤ 6 := by rw [ex_3]; exact hv.at (K := 3) (by decide) rfl
      have qx_3 : x_3.toInt = (u2 (13) (2)).toInt := congrArg Int32.toInt ex_3
      have hcc_x_3 : x_3.toInt = cc.toInt := by rw [ex_3, hi2_0 13 (by decide) (by decide) (by decide) (by decide), ecc]
      refine lv_icmp_ge (tgt := 90) hx hb dX4_gather_12 (by decide) (fun c_4 => ?_) (fun c_4 => ?_)
      · have tc_4 : y2_2.toInt ≥ x_3.toInt := Int32.le_iff_toInt_le.mp c_4
        have zn_y2_2 : (y2_2.toNatClampNeg : Int) = y2_2.toInt := t_nn (by omega)
        exact W.vret hx hb hr (fun t ht hW => ⟨⟨u2, rfl, ⟨hv, hi2_0, hi2_1, by rw [← eOP, ← eWW, ← eFT, ← ecc]; exact ⟨gth_4 hi2_2 (by omega) (Or.inl (by omega)), hi2_3⟩⟩, by rw [ht]; exact hP, hD⟩, hS.F ht⟩) hS.2.2 dX4_gather_90
      · have tc_4 : y2_2.toInt < x_3.toInt := Int32.lt_iff_toInt_lt.mp (Int32.not_le.mp c_4)
        refine lv_aload_n hx hb dX4_gather_15 rfl (lv_at hl 1 rfl) ?_
        refine va_get (D := (dC, dI)) (ci := 4) (v := .int (u2 (1) 1)) (C := RX4) (T := TX4) (N := 11) hx hb hts (by decide +kernel) hown hK hP (1) (wl_at (by omega) (ce_1 (by decide))) rfl 1 (by decide) (hts (.fieldLink RX4 61 "QuietStairs$Planner" "count" "I") (by decide +kernel)) (fun _ h9 => h9) rfl dX4_gather_16 ?_
        refine lv_topi (fun x_5 ex_5 => ?_)
        have bzx_5 : 0 ≤ x_5.toInt ∧ x_5.toInt ≤ 4 := by rw [ex_5]; exact hv.at (K := 1) (by decide) rfl
        have qx_5 : x_5.toInt = (u2 (1) (1)).toInt := congrArg Int32.toInt ex_5
        refine lv_iconst (v := 4) hx hb dX4_gather_19 (by decide) ?_
        have k_4 : (4 : Int32).toInt = 4 := by decide
        refine lv_icmp_ge (tgt := 90) hx hb dX4_gather_20 (by decide) (fun c_6 => ?_) (fun c_6 => ?_)
        · have tc_6 : x_5.toInt ≥ (4 : Int32).toInt := Int32.le_iff_toInt_le.mp c_6
          have zn_y2_2 : (y2_2.toNatClampNeg : Int) = y2_2.toInt := t_nn (by omega)
          have hc9 : (u2 1 1).toInt = x_5.toInt := by rw [← ex_5]
          exact W.vret hx hb hr (fun t ht hW => ⟨⟨u2, rfl, ⟨hv, hi2_0, hi2_1, by rw [← eOP, ← eWW, ← eFT, ← ecc]; exact ⟨gth_4 hi2_2 (by omega) (Or.inr (by omega)), hi2_3⟩⟩, by rw [ht]; exact hP, hD⟩, hS.F ht⟩) hS.2.2 dX4_gather_90
        · have tc_6 : x_5.toInt < (4 : Int32).toInt := Int32.lt_iff_toInt_lt.mp (Int32.not_le.mp c_6)
          refine lv_aload_n hx hb dX4_gather_23 rfl (lv_at hl 2 rfl) ?_
          refine va_get (D := (dC, dI)) (ci := 1) (v := .ref (ad 16)) (C := RX1) (T := TX1) (N := 7) hx hb hts (by decide +kernel) hown hK hP (13) (wl_at (by omega) (ce_3 (by decide))) rfl 6 (by decide) (hts (.fieldLink RX4 71 "QuietStairs$House" "cases" "[LQuietStairs$Case;") (by decide +kernel)) (fun _ h9 => h9) rfl dX4_gather_24 ?_
          refine lv_iload_n hx hb dX4_gather_27 rfl (lv_at hl 0 rfl) ?_
          have zn_y2_2 : (y2_2.toNatClampNeg : Int) = y2_2.toInt := t_nn (by omega)
          have hx_7 : y2_2.toNatClampNeg < 6 := by omega
          refine va_aldq hx hb hK hP (16) 3 (wl_at (by omega) (ce_6 (by decide))) rfl (vp_in_iff.mpr ⟨by omega, by omega⟩) dX4_gather_28 ?_
          refine W.eq (g2 := F0 m 29 ls [.ref (ad (29 + 15 * y2_2.toNatClampNeg))]) (by rw [if_pos hx_7, show 16 + 13 + 15 * y2_2.toNatClampNeg = 29 + 15 * y2_2.toNatClampNeg from by omega]; rfl) ?_
          refine lv_astore_n (lv' := [(3, .ref (ad (29 + 15 * y2_2.toNatClampNeg))), (2, .int y2_2), (0, .ref (ad 1)), (1, .ref (ad 13))]) hx hb dX4_gather_29 rfl hl (by decide) rfl (fun ls hl => ?_)
          refine lv_aload_n hx hb dX4_gather_30 rfl (lv_at hl 0 rfl) ?_
          refine va_get (D := (dC, dI)) (ci := 0) (v := .int (u2 (29 + 15 * y2_2.toNatClampNeg) 0)) (C := RX0) (T := TX0) (N := 11) hx hb hts (by decide +kernel) hown hK hP (29 + 15 * y2_2.toNatClampNeg) (wl_at (by omega) (ce_9 (kd_c _ hx_7).1.1)) rfl 0 (by decide) (hts (.fieldLink RX4 75 "QuietStairs$Case" "state" "I") (by decide +kernel)) (fun _ h9 => h9) rfl dX4_gather_31 ?_
          refine lv_topi (fun x_8 ex_8 => ?_)
          have qx_8 : x_8.toInt = (u2 (29 + 15 * y2_2.toNatClampNeg) (0)).toInt := congrArg Int32.toInt ex_8
          have hst9 : OP y2_2.toNatClampNeg ↔ x_8.toInt = 0 := by rw [eOP, ex_8, hi2_0 _ (by omega) (by omega) (by omega) (by omega)]
          refine lv_if_ne (tgt := 84) hx hb dX4_gather_34 (by decide) (fun c_9 => ?_) (fun c_9 => ?_)
          · have tc_9 : x_8.toInt ≠ (0 : Int32).toInt := fun q => absurd (Int32.toInt_inj.mp q) c_9
            obtain ⟨x_10, ex_10⟩ : ∃ y : Int32, y = y2_2 + 1 := ⟨_, rfl⟩
            refine lv_iinc (v := x_10) (lv' := [(2, .int x_10), (3, .ref (ad (29 + 15 * y2_2.toNatClampNeg))), (0, .ref (ad 1)), (1, .ref (ad 13))]) hx hb dX4_gather_84 hl (k := 1) rfl (by rw [ex_10]; rfl) (by decide) rfl (fun ls hl => ?_)
            have k_1 : (1 : Int32).toInt = 1 := by decide
            have tx_10 : x_10.toInt = y2_2.toInt + (1 : Int32).toInt := by rw [ex_10]; exact t_add ⟨by omega, by omega⟩
            refine lv_goto (tgt := 7) hx hb dX4_gather_87 (by decide) ?_
            have zn_x_10 : (x_10.toNatClampNeg : Int) = x_10.toInt := t_nn (by omega)
            exact ih_2 x_10 u2 _ _ (by omega) (by omega) (hi2_0) (hi2_1) (by rw [show x_10.toNatClampNeg = y2_2.toNatClampNeg + 1 from by omega]; exact gth_no hi2_2 (fun q => absurd (hst9.mp q) (by omega))) (hi2_3) (by omega) (by omega) hv hP hD hS ls (lv_sub hl [0, 2, 3] rfl)
          · have tc_9 : x_8.toInt = (0 : Int32).toInt := by rw [c_9]
            refine lv_aload_n hx hb dX4_gather_37 rfl (lv_at hl 2 rfl) ?_
            refine va_get (D := (dC, dI)) (ci := 4) (v := .ref (ad 2)) (C := RX4) (T := TX4) (N := 11) hx hb hts (by decide +kernel) hown hK hP (1) (wl_at (by omega) (ce_1 (by decide))) rfl 3 (by decide) (hts (.fieldLink RX4 9 "QuietStairs$Planner" "numbers" "[I") (by decide +kernel)) (fun _ h9 => h9) rfl dX4_gather_38 ?_
            refine lv_aload_n hx hb dX4_gather_41 rfl (lv_at hl 2 rfl) ?_
            refine va_get (D := (dC, dI)) (ci := 4) (v := .int (u2 (1) 1)) (C := RX4) (T := TX4) (N := 11) hx hb hts (by decide +kernel) hown hK hP (1) (wl_at (by omega) (ce_1 (by decide))) rfl 1 (by decide) (hts (.fieldLink RX4 61 "QuietStairs$Planner" "count" "I") (by decide +kernel)) (fun _ h9 => h9) rfl dX4_gather_42 ?_
            refine lv_topi (fun x_10 ex_10 => ?_)
            have bzx_10 : 0 ≤ x_10.toInt ∧ x_10.toInt ≤ 4 := by rw [ex_10]; exact hv.at (K := 1) (by decide) rfl
            obtain rfl : x_5 = x_10 := (ex_10.trans ex_5.symm).symm
            refine lv_iload_n hx hb dX4_gather_45 rfl (lv_at hl 1 rfl) ?_
            have zn_x_5 : (x_5.toNatClampNeg : Int) = x_5.toInt := t_nn (by omega)
            have hx_11 : x_5.toNatClampNeg < 4 := by omega
            refine va_iast hx hb hK hP hD hS (2) 0 (wl_at (by omega) (ce_17 (by decide))) rfl (vp_in_iff.mpr ⟨by omega, by omega⟩) dX4_gather_46 (fun H locs hP hD hS => ?_)
            obtain ⟨v_12, ev_12⟩ : ∃ u : Nat → Nat → Int32, u = upr u2 (2) (upd (u2 (2)) (x_5.toNatClampNeg) y2_2) := ⟨_, rfl⟩
            have hP : va_P (dC, dI) vwCl (wl ad kv cy N v_12) H := by rw [ev_12, ← wl_put (e := _) (ce_17 (by decide))]; exact hP
            have hD : va_D A (wl ad kv cy N v_12) := by rw [ev_12, ← wl_put (e := _) (ce_17 (by decide))]; exact hD
            have hv : Iv v_12 := by rw [ev_12]; exact hv.put (K := 17) (by decide) (fun h q => by simp [bd] at q)
            refine lv_aload_n hx hb dX4_gather_47 rfl (lv_at hl 2 rfl) ?_
            refine va_get (D := (dC, dI)) (ci := 4) (v := .ref (ad 3)) (C := RX4) (T := TX4) (N := 11) hx hb hts (by decide +kernel) hown hK hP (1) (wl_at (by omega) (ce_1 (by decide))) rfl 4 (by decide) (hts (.fieldLink RX4 15 "QuietStairs$Planner" "weights" "[I") (by decide +kernel)) (fun _ h9 => h9) rfl dX4_gather_48 ?_
            refine lv_aload_n hx hb dX4_gather_51 rfl (lv_at hl 2 rfl) ?_
            refine va_get (D := (dC, dI)) (ci := 4) (v := .int (v_12 (1) 1)) (C := RX4) (T := TX4) (N := 11) hx hb hts (by decide +kernel) hown hK hP (1) (wl_at (by omega) (ce_1 (by decide))) rfl 1 (by decide) (hts (.fieldLink RX4 61 "QuietStairs$Planner" "count" "I") (by decide +kernel)) (fun _ h9 => h9) rfl dX4_gather_52 ?_
            refine lv_topi (fun x_13 ex_13 => ?_)
            have bzx_13 : 0 ≤ x_13.toInt ∧ x_13.toInt ≤ 4 := by rw [ex_13]; exact hv.at (K := 1) (by decide) rfl
            rw [ev_12, upr_n (by omega)] at ex_13
            obtain rfl : x_5 = x_13 := (ex_13.trans ex_5.symm).symm
            refine lv_aload_n hx hb dX4_gather_55 rfl (lv_at hl 0 rfl) ?_
            refine va_get (D := (dC, dI)) (ci := 0) (v := .int (v_12 (29 + 15 * y2_2.toNatClampNeg) 3)) (C := RX0) (T := TX0) (N := 11) hx hb hts (by decide +kernel) hown hK hP (29 + 15 * y2_2.toNatClampNeg) (wl_at (by omega) (ce_9 (kd_c _ hx_7).1.1)) rfl 3 (by decide) (hts (.fieldLink RX4 80 "QuietStairs$Case" "weight" "I") (by decide +kernel)) (fun _ h9 => h9) rfl dX4_gather_56 ?_
            refine lv_topi (fun x_14 ex_14 => ?_)
            rw [ev_12, upr_n (by omega)] at ex_14
            have qx_14 : x_14.toInt = (u2 (29 + 15 * y2_2.toNatClampNeg) (3)).toInt := congrArg Int32.toInt ex_14
            have hwt9 : x_14 = WW y2_2.toNatClampNeg := by rw [eWW, ex_14, hi2_0 _ (by omega) (by omega) (by omega) (by omega)]
            refine va_iast hx hb hK hP hD hS (3) 0 (wl_at (by omega) (ce_17 (by decide))) rfl (vp_in_iff.mpr ⟨by omega, by omega⟩) dX4_gather_59 (fun H locs hP hD hS => ?_)
            obtain ⟨v_15, ev_15⟩ : ∃ u : Nat → Nat → Int32, u = upr v_12 (3) (upd (v_12 (3)) (x_5.toNatClampNeg) x_14) := ⟨_, rfl⟩
            have hP : va_P (dC, dI) vwCl (wl ad kv cy N v_15) H := by rw [ev_15, ← wl_put (e := _) (ce_17 (by decide))]; exact hP
            have hD : va_D A (wl ad kv cy N v_15) := by rw [ev_15, ← wl_put (e := _) (ce_17 (by decide))]; exact hD
            have hv : Iv v_15 := by rw [ev_15]; exact hv.put (K := 17) (by decide) (fun h q => by simp [bd] at q)
            refine lv_aload_n hx hb dX4_gather_60 rfl (lv_at hl 2 rfl) ?_
            refine va_get (D := (dC, dI)) (ci := 4) (v := .ref (ad 4)) (C := RX4) (T := TX4) (N := 11) hx hb hts (by decide +kernel) hown hK hP (1) (wl_at (by omega) (ce_1 (by decide))) rfl 5 (by decide) (hts (.fieldLink RX4 18 "QuietStairs$Planner" "pairBits" "[I") (by decide +kernel)) (fun _ h9 => h9) rfl dX4_gather_61 ?_
            refine lv_aload_n hx hb dX4_gather_64 rfl (lv_at hl 2 rfl) ?_
            refine va_get (D := (dC, dI)) (ci := 4) (v := .int (v_15 (1) 1)) (C := RX4) (T := TX4) (N := 11) hx hb hts (by decide +kernel) hown hK hP (1) (wl_at (by omega) (ce_1 (by decide))) rfl 1 (by decide) (hts (.fieldLink RX4 61 "QuietStairs$Planner" "count" "I") (by decide +kernel)) (fun _ h9 => h9) rfl dX4_gather_65 ?_
            refine lv_topi (fun x_16 ex_16 => ?_)
            have bzx_16 : 0 ≤ x_16.toInt ∧ x_16.toInt ≤ 4 := by rw [ex_16]; exact hv.at (K := 1) (by decide) rfl
            rw [ev_15, upr_n (by omega), ev_12, upr_n (by omega)] at ex_16
            obtain rfl : x_5 = x_16 := (ex_16.trans ex_5.symm).symm
            refine lv_aload_n hx hb dX4_gather_68 rfl (lv_at hl 3 rfl) ?_
            refine lv_aload_n hx hb dX4_gather_69 rfl (lv_at hl 0 rfl) ?_
            have hK9 : ∀ k : Nat, 13 ≤ k → v_15 k = v k := fun k h => by rw [ev_15, upr_n (by omega), ev_12, upr_n (by omega)]; exact hi2_0 k (by omega) (by omega) (by omega) (by omega)
            refine yw_i (w1 := fun (u : Nat → Nat → Int32) => wl ad kv cy N u) hD hS hA (va_runS (As := [.ref (ad 13), .ref (ad (29 + 15 * y2_2.toNatClampNeg))]) (rest := [.int x_5, .ref (ad 4)]) ⟨hx, hb, hml, hown, hts⟩ (e_X4_fittingPairs l dC dI cy _ ad kv N hN v_15 hv y2_2.toNatClampNeg hx_7 t1 t2) (cwS 2 hts gX4_gather_X4_fittingPairs rfl rfl rfl (by decide +kernel) ⟨Nat.le_of_ble_eq_true rfl, Nat.le_of_ble_eq_true rfl⟩) ⟨ex_blindT, fun U hU hW => ⟨rfl, ((yw_preS (As := []) hE hK hP hD).2 U hU hW).2, hSt.go hS (yw_F hD hS hA) hU hW⟩⟩ rfl rfl hl.1 rfl (lv_room (Nat.le_of_ble_eq_true rfl)) dX4_gather_70 ⟨Nat.le_of_ble_eq_true rfl, Nat.le_of_ble_eq_true rfl⟩) (fun r_17 v_17 H locs hw_17 hP hD hS => ?_)
            obtain ⟨-, hu_17, hw_17⟩ := hw_17
            replace hu_17 := hu_17.symm
            subst hu_17
            have hfp9 : ok6 r_17 ∧ ∀ p : Nat, p < 6 → (bt r_17 p ↔ FT y2_2.toNatClampNeg p) := ⟨hw_17.1, fun p hp => by
              have q := hw_17.2 p hp
              rw [eFT]
              rw [hK9 (13) (by omega), hK9 (25 + (st_l p).toNatClampNeg) (by omega), hK9 (25 + (st_o p).toNatClampNeg) (by omega), hK9 (30 + 15 * y2_2.toNatClampNeg) (by omega), hK9 (17 + (v (30 + 15 * y2_2.toNatClampNeg) 0).toNatClampNeg) (by omega), hK9 (17 + (v (30 + 15 * y2_2.toNatClampNeg) 1).toNatClampNeg) (by omega)] at q
              exact q⟩
            refine va_iast hx hb hK hP hD hS (4) 0 (wl_at (by omega) (ce_17 (by decide))) rfl (vp_in_iff.mpr ⟨by omega, by omega⟩) dX4_gather_73 (fun H locs hP hD hS => ?_)
            obtain ⟨v_18, ev_18⟩ : ∃ u : Nat → Nat → Int32, u = upr v_15 (4) (upd (v_15 (4)) (x_5.toNatClampNeg) r_17) := ⟨_, rfl⟩
            have hP : va_P (dC, dI) vwCl (wl ad kv cy N v_18) H := by rw [ev_18, ← wl_put (e := _) (ce_17 (by decide))]; exact hP
            have hD : va_D A (wl ad kv cy N v_18) := by rw [ev_18, ← wl_put (e := _) (ce_17 (by decide))]; exact hD
            have hv : Iv v_18 := by rw [ev_18]; exact hv.put (K := 17) (by decide) (fun h q => by simp [bd] at q)
            refine lv_aload_n hx hb dX4_gather_74 rfl (lv_at hl 2 rfl) ?_
            refine lv_dup hx hb dX4_gather_75 rfl ?_
            refine va_get (D := (dC, dI)) (ci := 4) (v := .int (v_18 (1) 1)) (C := RX4) (T := TX4) (N := 11) hx hb hts (by decide +kernel) hown hK hP (1) (wl_at (by omega) (ce_1 (by decide))) rfl 1 (by decide) (hts (.fieldLink RX4 61 "QuietStairs$Planner" "count" "I") (by decide +kernel)) (fun _ h9 => h9) rfl dX4_gather_76 ?_
            refine lv_topi (fun x_19 ex_19 => ?_)
            have bzx_19 : 0 ≤ x_19.toInt ∧ x_19.toInt ≤ 4 := by rw [ex_19]; exact hv.at (K := 1) (by decide) rfl
            rw [ev_18, upr_n (by omega), ev_15, upr_n (by omega), ev_12, upr_n (by omega)] at ex_19
            obtain rfl : x_5 = x_19 := (ex_19.trans ex_5.symm).symm
            refine lv_iconst (v := 1) hx hb dX4_gather_79 (by decide) ?_
            refine lv_iadd hx hb dX4_gather_80 ?_
            refine lv_topi (fun x_20 ex_20 => ?_)
            have k_1 : (1 : Int32).toInt = 1 := by decide
            have tx_20 : x_20.toInt = x_5.toInt + (1 : Int32).toInt := by rw [ex_20]; exact t_add ⟨by omega, by omega⟩
            refine va_put (D := (dC, dI)) (ci := 4) (v := .int x_20) (ty := .int) (C := RX4) (T := TX4) (N := 11) hx hb hts (by decide +kernel) tyX4 tyX4_ok nmX4 hown hK hP hD hS (1) (wl_at (by omega) (ce_1 (by decide))) rfl 1 (by decide) (hts (.fieldLink RX4 61 "QuietStairs$Planner" "count" "I") (by decide +kernel)) (fun _ h9 => h9) rfl (by decide +kernel) rfl rfl (Nat.le_of_ble_eq_true rfl) dX4_gather_81 (fun H locs hP hD hS => ?_)
            obtain ⟨v_21, ev_21⟩ : ∃ u : Nat → Nat → Int32, u = upr v_18 (1) (upd (v_18 (1)) 1 x_20) := ⟨_, rfl⟩
            have hP : va_P (dC, dI) vwCl (wl ad kv cy N v_21) H := by rw [ev_21, ← wl_put (e := _) (ce_1 (by decide))]; exact hP
            have hD : va_D A (wl ad kv cy N v_21) := by rw [ev_21, ← wl_put (e := _) (ce_1 (by decide))]; exact hD
            have hv : Iv v_21 := by rw [ev_21]; exact hv.put (K := 1) (by decide) (fun h q => by cases q; exact ⟨by omega, by omega⟩)
            obtain ⟨x_22, ex_22⟩ : ∃ y : Int32, y = y2_2 + 1 := ⟨_, rfl⟩
            refine lv_iinc (v := x_22) (lv' := [(2, .int x_22), (3, .ref (ad (29 + 15 * y2_2.toNatClampNeg))), (0, .ref (ad 1)), (1, .ref (ad 13))]) hx hb dX4_gather_84 hl (k := 1) rfl (by rw [ex_22]; rfl) (by decide) rfl (fun ls hl => ?_)
            have tx_22 : x_22.toInt = y2_2.toInt + (1 : Int32).toInt := by rw [ex_22]; exact t_add ⟨by omega, by omega⟩
            refine lv_goto (tgt := 7) hx hb dX4_gather_87 (by decide) ?_
            have zn_x_22 : (x_22.toNatClampNeg : Int) = x_22.toInt := t_nn (by omega)
            have hc0 : (u2 1 1).toInt = x_5.toInt := by rw [← ex_5]
            have g1 : v_21 1 1 = x_20 := by rw [ev_21, upr_s, pk_us]
            have g2 : v_21 2 = upd (u2 2) (x_5.toNatClampNeg) y2_2 := by rw [ev_21, upr_n (by decide), ev_18, upr_n (by decide), ev_15, upr_n (by decide), ev_12, upr_s]
            have g3 : v_21 3 = upd (u2 3) (x_5.toNatClampNeg) x_14 := by rw [ev_21, upr_n (by decide), ev_18, upr_n (by decide), ev_15, upr_s, ev_12, upr_n (by decide)]
            have g4 : v_21 4 = upd (u2 4) (x_5.toNatClampNeg) r_17 := by rw [ev_21, upr_n (by decide), ev_18, upr_s, ev_15, upr_n (by decide), ev_12, upr_n (by decide)]
            exact ih_2 x_22 v_21 _ _ (by omega) (by omega) (fun k h1 h2 h3 h4 => by rw [ev_21, upr_n h1, ev_18, upr_n h4, ev_15, upr_n h3, ev_12, upr_n h2]; exact hi2_0 k h1 h2 h3 h4) (⟨by rw [ev_21, upr_s, pk_un (by decide), ev_18, upr_n (by decide), ev_15, upr_n (by decide), ev_12, upr_n (by decide)]; exact hi2_1.1, by rw [ev_21, upr_s, pk_un (by decide), ev_18, upr_n (by decide), ev_15, upr_n (by decide), ev_12, upr_n (by decide)]; exact hi2_1.2⟩) (by rw [show x_22.toNatClampNeg = y2_2.toNatClampNeg + 1 from by omega]; exact gth_s hi2_2 (hst9.mpr (by omega)) (by omega) (by rw [g1]; omega) (fun k hk => by show (v_21 2 k).toInt = (u2 2 k).toInt; rw [g2, pk_un (by omega)]) (fun k hk => by show (v_21 2 k).toInt = _; rw [show k = x_5.toNatClampNeg from by omega, g2, pk_us]; omega)) (GA_s (i := y2_2.toNatClampNeg) hi2_3 (by rw [g1]; omega) (fun k hk => ⟨by rw [g2, pk_un (by omega)], by rw [g3, pk_un (by omega)], by rw [g4, pk_un (by omega)]⟩) (fun k hk => by rw [show k = x_5.toNatClampNeg from by omega, g2, g3, g4, pk_us, pk_us, pk_us]; exact ⟨⟨by omega, hwt9⟩, hfp9⟩)) (by omega) (by omega) hv hP hD hS ls (lv_sub hl [0, 2, 3] rfl)
  exact hc_2 ((6 - (0 : Int32).toInt).toNat + 1) 0 v_1 _ _ (by omega) (by omega) (fun k h1 h2 h3 h4 => by rw [ev_1, upr_n h1]) (⟨by rw [ev_1, upr_s, pk_un (by decide)], by rw [ev_1, upr_s, pk_un (by decide)]⟩) (by rw [show (0 : Int32).toNatClampNeg = 0 from by decide]; exact gth_0 (by rw [ev_1, upr_s, pk_us]; decide)) (GA_0 (by rw [ev_1, upr_s, pk_us]; decide)) (by omega) (by omega) hv hP hD hS ls (lv_sub hl [0, 1, 2] rfl)
