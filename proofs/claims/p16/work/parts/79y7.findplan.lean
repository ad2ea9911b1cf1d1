
set_option maxHeartbeats 4000000 in
set_option maxRecDepth 100000 in
theorem e_X4_findPlan (l : Launch) (dC : Nat → ClassId) (dI : Nat → Nat → Nat) (cy : Nat → ClassId) (sz : Nat) (ad : Nat → Nat) (kv : Value) (N : Nat) (hN : 119 ≤ N) (v : Nat → Nat → Int32) (hv : Iv v) (x0 : Int32) (hW : ∀ c : Nat, c < (v 13 2).toNatClampNeg → 1 ≤ (v (29 + 15 * c) 3).toInt ∧ (v (29 + 15 * c) 3).toInt ≤ 9) (t1 t2 : Nat) : Met l yX4_findPlan wsX4_findPlan ({ frames := 10, cells := 0, slots := 0, locals := 640 }) (va_Pc [.ref (ad 1), .ref (ad 13), .int x0] (ex_PreT dC dI cy sz (wl ad kv cy N v) t1 t2)) (va_Qv (fun (u : Nat → Nat → Int32) => Iv u ∧ PL9 v u x0.toInt) (fun u t => ex_Pst dC dI (va_A (wl ad kv cy N v) sz) (wl ad kv cy N u) t) (va_A (wl ad kv cy N v) sz)) 0 0 (va_A (wl ad kv cy N v) sz) := by
  refine Met.ofW (cc := cX4_findPlan) (maxL := 4) (ret := none) (by decide) rfl ?_
  intro p e s m args below meth c s₁ B hml hv
  obtain ⟨rfl, ⟨hsz, hE, hP, hK, hD0⟩, hSt⟩ := hv
  have hx := B.exec
  have hb := B.bytes
  have hr := B.returns
  have hts := atoms_spec (ws := wsX4_findPlan) B.pre
  have hown : s.vm.findClass RX4 = some m.cls := findClass_of_methodNamed B.named
  have hlocks := B.notSynchronized
  subst hsz
  have hD := hD0.self (sz := s.heap.size)
  generalize hAe : va_A (wl ad kv cy N v) s.heap.size = A at hD hSt ⊢
  have hA : ∀ q : Nat, s.heap.size ≤ q → A q := fun q h => by rw [← hAe]; exact Or.inr h
  have hS : va_S A s.heap s.heap [] := va_S.rf
  have hP : va_P (dC, dI) vwCl (wl ad kv cy N v) s.heap := hP
  have hl := lv_entry ([.ref (ad 1), .ref (ad 13), .int x0]) (n := 4) (Nat.le_of_ble_eq_true rfl)
  rw [lg_entry_eq]
  generalize (lg_sl ([.ref (ad 1), .ref (ad 13), .int x0]) ++ List.replicate (4 - (lg_sl ([.ref (ad 1), .ref (ad 13), .int x0])).length) Slot.unset).toArray = ls at hl ⊢
  have hl : lv_has ls 4 [(0, .ref (ad 1)), (1, .ref (ad 13)), (2, .int x0)] := hl
  have k_0 : (0 : Int32).toInt = 0 := by decide
  have k_1 : (1 : Int32).toInt = 1 := by decide
  refine lv_aload_n hx hb dX4_findPlan_0 rfl (lv_at hl 0 rfl) ?_
  refine lv_iload_n hx hb dX4_findPlan_1 rfl (lv_at hl 2 rfl) ?_
  refine lv_aload_n hx hb dX4_findPlan_2 rfl (lv_at hl 1 rfl) ?_
  refine va_get (D := (dC, dI)) (ci := 1) (v := .int (v (13) 1)) (C := RX1) (T := TX1) (N := 7) hx hb hts (by decide +kernel) hown hK hP (13) (wl_at (by omega) (ce_3 (by decide))) rfl 1 (by decide) (hts (.fieldLink RX4 36 "QuietStairs$House" "mediatorCount" "I") (by decide +kernel)) (fun _ h9 => h9) rfl dX4_findPlan_3 ?_
  refine lv_topi (fun x_1 ex_1 => ?_)
  have bzx_1 : 0 ≤ x_1.toInt ∧ x_1.toInt ≤ 4 := by rw [ex_1]; exact hv.at (K := 3) (by decide) rfl
  have qx_1 : x_1.toInt = (v (13) (1)).toInt := congrArg Int32.toInt ex_1
  refine lv_iconst (v := 2) hx hb dX4_findPlan_6 (by decide) ?_
  refine lv_idiv hx hb dX4_findPlan_7 (by decide) ?_
  refine lv_topi (fun x_2 ex_2 => ?_)
  refine va_mmin hx hb (hml.trans hl.1.symm) hown (hts (.methodLink RX4 42 Lib.Math.min.name) (by decide +kernel)) (hts (.static Lib.Math.min.name) (by decide +kernel)) (hts (.initialized "java/lang/Math") (by decide +kernel)) (hts (.code Lib.Math.min.name Lib.Math.min.code 2 (some .int)) (by decide +kernel)) (Nat.le_of_ble_eq_true rfl) (Nat.le_of_ble_eq_true rfl) (Nat.le_of_ble_eq_true rfl) (Nat.le_of_ble_eq_true rfl) dX4_findPlan_8 ?_
  refine lv_topi (fun x_3 ex_3 => ?_)
  have hmn := mn_i ex_3
  have hdv : x_2.toInt = (v 13 1).toInt / 2 := by rw [ex_2, hf2 (x := x_1) ⟨by omega, by omega⟩, ex_1]
  refine va_put (D := (dC, dI)) (ci := 4) (v := .int x_3) (ty := .int) (C := RX4) (T := TX4) (N := 11) hx hb hts (by decide +kernel) tyX4 tyX4_ok nmX4 hown hK hP hD hS (1) (wl_at (by omega) (ce_1 (by decide))) rfl 2 (by decide) (hts (.fieldLink RX4 48 "QuietStairs$Planner" "seatsADay" "I") (by decide +kernel)) (fun _ h9 => h9) rfl (by decide +kernel) rfl rfl (Nat.le_of_ble_eq_true rfl) dX4_findPlan_11 (fun H locs hP hD hS => ?_)
  obtain ⟨v_4, ev_4⟩ : ∃ u : Nat → Nat → Int32, u = upr v (1) (upd (v (1)) 2 x_3) := ⟨_, rfl⟩
  have hP : va_P (dC, dI) vwCl (wl ad kv cy N v_4) H := by rw [ev_4, ← wl_put (e := _) (ce_1 (by decide))]; exact hP
  have hD : va_D A (wl ad kv cy N v_4) := by rw [ev_4, ← wl_put (e := _) (ce_1 (by decide))]; exact hD
  have hv : Iv v_4 := by rw [ev_4]; exact hv.put (K := 1) (by decide) (fun h q => by simp [bd] at q)
  refine lv_aload_n hx hb dX4_findPlan_14 rfl (lv_at hl 0 rfl) ?_
  refine lv_aload_n hx hb dX4_findPlan_15 rfl (lv_at hl 1 rfl) ?_
  refine yw_v (w1 := fun (u : Nat → Nat → Int32) => wl ad kv cy N u) hD hS hA (va_runV (As := [.ref (ad 13)]) (rest := []) ⟨hx, hb, hml, hown, hts⟩ (e_X4_gather l dC dI cy _ ad kv N hN v_4 hv t1 t2) (cwV 1 hts gX4_findPlan_X4_gather rfl rfl rfl (by decide +kernel) ⟨Nat.le_of_ble_eq_true rfl, Nat.le_of_ble_eq_true rfl⟩) ⟨ex_blindT, va_recv hK hP (ci := 4) (q0 := 1) rfl (wl_at (by omega) (ce_1 (by decide))), fun U hU hW => ⟨rfl, ((yw_preS (As := []) hE hK hP hD).2 U hU hW).2, hSt.go hS (yw_F hD hS hA) hU hW⟩⟩ rfl rfl hl.1 rfl (lv_room (Nat.le_of_ble_eq_true rfl)) dX4_findPlan_16 ⟨Nat.le_of_ble_eq_true rfl, Nat.le_of_ble_eq_true rfl⟩) (fun v_5 H locs hw_5 hP hD hS => ?_)
  obtain ⟨hv, hw_5⟩ := hw_5
  obtain ⟨ga1, ga2, ga3, ga4⟩ := hw_5
  have hA9 : ∀ k : Nat, k ≠ 1 → v_4 k = v k := fun k h => by rw [ev_4, upr_n h]
  have hE1 : (fun c : Nat => (v_4 (29 + 15 * c) 0).toInt = 0) = (fun c : Nat => (v (29 + 15 * c) 0).toInt = 0) := by funext c; rw [hA9 _ (by omega)]
  have hE2 : (fun c : Nat => v_4 (29 + 15 * c) 3) = (fun c : Nat => v (29 + 15 * c) 3) := by funext c; rw [hA9 _ (by omega)]
  have hE3 : (fun c p : Nat => ((st_o p).toInt < (v_4 13 1).toInt ∧ fit (v_4 (25 + (st_l p).toNatClampNeg) 1) (v_4 (25 + (st_o p).toNatClampNeg) 1) (v_4 (25 + (st_l p).toNatClampNeg) 2) (v_4 (25 + (st_l p).toNatClampNeg) 0) (v_4 (25 + (st_o p).toNatClampNeg) 2) (v_4 (25 + (st_o p).toNatClampNeg) 0) (v_4 (30 + 15 * c) 0) (v_4 (17 + (v_4 (30 + 15 * c) 0).toNatClampNeg) 1) (v_4 (17 + (v_4 (30 + 15 * c) 0).toNatClampNeg) 0) (v_4 (30 + 15 * c) 1) (v_4 (17 + (v_4 (30 + 15 * c) 1).toNatClampNeg) 1) (v_4 (17 + (v_4 (30 + 15 * c) 1).toNatClampNeg) 0))) = (fun c p : Nat => ((st_o p).toInt < (v 13 1).toInt ∧ fit (v (25 + (st_l p).toNatClampNeg) 1) (v (25 + (st_o p).toNatClampNeg) 1) (v (25 + (st_l p).toNatClampNeg) 2) (v (25 + (st_l p).toNatClampNeg) 0) (v (25 + (st_o p).toNatClampNeg) 2) (v (25 + (st_o p).toNatClampNeg) 0) (v (30 + 15 * c) 0) (v (17 + (v (30 + 15 * c) 0).toNatClampNeg) 1) (v (17 + (v (30 + 15 * c) 0).toNatClampNeg) 0) (v (30 + 15 * c) 1) (v (17 + (v (30 + 15 * c) 1).toNatClampNeg) 1) (v (17 + (v (30 + 15 * c) 1).toNatClampNeg) 0))) := by funext c p; rw [hA9 (13) (by omega), hA9 (25 + (st_l p).toNatClampNeg) (by omega), hA9 (25 + (st_o p).toNatClampNeg) (by omega), hA9 (30 + 15 * c) (by omega), hA9 (17 + (v (30 + 15 * c) 0).toNatClampNeg) (by omega), hA9 (17 + (v (30 + 15 * c) 1).toNatClampNeg) (by omega)]
  rw [hE1, hA9 13 (by decide)] at ga3
  rw [hE2, hE3] at ga4
  have hb9 := GA_b ga3 ga4 hW
  refine lv_aload_n hx hb dX4_findPlan_19 rfl (lv_at hl 0 rfl) ?_
  refine yw_v (w1 := fun (u : Nat → Nat → Int32) => wl ad kv cy N u) hD hS hA (va_runV (As := []) (rest := []) ⟨hx, hb, hml, hown, hts⟩ (e_X4_sortByWeight l dC dI cy _ ad kv N hN v_5 hv ) (cwV 0 hts gX4_findPlan_X4_sortByWeight rfl rfl rfl (by decide +kernel) ⟨Nat.le_of_ble_eq_true rfl, Nat.le_of_ble_eq_true rfl⟩) (yw_preV hE hK hP hD (ci := 4) (q0 := 1) rfl (wl_at (by omega) (ce_1 (by decide)))) rfl rfl hl.1 rfl (lv_room (Nat.le_of_ble_eq_true rfl)) dX4_findPlan_20 ⟨Nat.le_of_ble_eq_true rfl, Nat.le_of_ble_eq_true rfl⟩) (fun v_6 H locs hw_6 hP hD hS => ?_)
  obtain ⟨hv, hw_6⟩ := hw_6
  obtain ⟨so1, so2⟩ := hw_6
  have hPB : PLB v_6 := by
    have b1 : 0 ≤ (v_6 1 1).toInt ∧ (v_6 1 1).toInt ≤ 4 := hv.at (K := 1) (by decide) rfl
    have z1 := t_nn (x := v_6 1 1) b1.1
    refine ⟨⟨b1, fun k hk => ?_⟩, ?_⟩
    · have hk : k < (v_6 1 1).toNatClampNeg := hk
      rw [so1 1 (by decide)] at hk z1
      rw [so1 3 (by decide), so1 4 (by decide)]
      exact hb9 k (by omega)
    · have e1 : plW v_6 = fun k => (v_5 3 k).toInt := funext fun k => congrArg (fun f : Nat → Int32 => (f k).toInt) (so1 3 (by decide))
      have e2 : plm v_6 = (v_5 1 1).toNatClampNeg := congrArg (fun f : Nat → Int32 => (f 1).toNatClampNeg) (so1 1 (by decide))
      rw [e1, e2]
      exact so2
  refine lv_aload_n hx hb dX4_findPlan_23 rfl (lv_at hl 0 rfl) ?_
  refine lv_iconst (v := 1) hx hb dX4_findPlan_24 (by decide) ?_
  refine va_put (D := (dC, dI)) (ci := 4) (v := .int 1) (ty := .int) (C := RX4) (T := TX4) (N := 11) hx hb hts (by decide +kernel) tyX4 tyX4_ok nmX4 hown hK hP hD hS (1) (wl_at (by omega) (ce_1 (by decide))) rfl 0 (by decide) (hts (.fieldLink RX4 58 "QuietStairs$Planner" "leastWait" "I") (by decide +kernel)) (fun _ h9 => h9) rfl (by decide +kernel) rfl rfl (Nat.le_of_ble_eq_true rfl) dX4_findPlan_25 (fun H locs hP hD hS => ?_)
  have k_1 : (1 : Int32).toInt = 1 := by decide
  obtain ⟨v_7, ev_7⟩ : ∃ u : Nat → Nat → Int32, u = upr v_6 (1) (upd (v_6 (1)) 0 1) := ⟨_, rfl⟩
  have hP : va_P (dC, dI) vwCl (wl ad kv cy N v_7) H := by rw [ev_7, ← wl_put (e := _) (ce_1 (by decide))]; exact hP
  have hD : va_D A (wl ad kv cy N v_7) := by rw [ev_7, ← wl_put (e := _) (ce_1 (by decide))]; exact hD
  have hv : Iv v_7 := by rw [ev_7]; exact hv.put (K := 1) (by decide) (fun h q => by simp [bd] at q)
  have hGp : SG v_6 v_7 := ⟨⟨by rw [ev_7, upr_n (by decide)], by rw [ev_7, upr_n (by decide)]⟩, by rw [ev_7, upr_n (by decide)], by rw [ev_7, upr_s, pk_un (by decide)], by rw [ev_7, upr_s, pk_un (by decide)]⟩
  have hPp := SG_B hGp hPB
  refine lv_iconst (v := 0) hx hb dX4_findPlan_28 (by decide) ?_
  refine lv_istore_n (lv' := [(3, .int 0), (0, .ref (ad 1)), (1, .ref (ad 13)), (2, .int x0)]) hx hb dX4_findPlan_29 rfl hl (by decide) rfl (fun ls hl => ?_)
  have hc_8 : ∀ (n : Nat) (y8_3 : Int32) (u8 : Nat → Nat → Int32) (H : Heap) (locs : List Loc), 0 ≤ y8_3.toInt → y8_3.toInt ≤ 4 → (∀ k : Nat, k ≠ 1 → u8 k = v_7 k) → (u8 1 1 = v_7 1 1 ∧ u8 1 2 = v_7 1 2) → ((u8 1 0).toInt = 1 + Wt (plW v_7) (fun _ => 18) y8_3.toNatClampNeg) → (y8_3.toInt ≤ (v_7 1 1).toInt) → (1 ≤ (u8 1 0).toInt ∧ (u8 1 0).toInt ≤ 1 + 36 * y8_3.toInt) → (4 - y8_3.toInt).toNat < n → Iv u8 → va_P (dC, dI) vwCl (wl ad kv cy N u8) H → va_D A (wl ad kv cy N u8) → va_S A s.heap H locs → ∀ ls : Array Slot, lv_has ls 4 [(3, .int y8_3), (0, .ref (ad 1)), (1, .ref (ad 13)), (2, .int x0)] → W p l e (headSpec wsX4_findPlan ({ frames := 10, cells := 0, slots := 0, locals := 640 })).room s m [Value.ref (ad 1), Value.ref (ad 13), Value.int x0].toArray below meth c H locs 0 0 (MQ below (va_Qv (fun (u : Nat → Nat → Int32) => Iv u ∧ PL9 v u x0.toInt) (fun u t => ex_Pst dC dI A (wl ad kv cy N u) t) A) [Value.ref (ad 1), Value.ref (ad 13), Value.int x0].toArray s 0 0 A) (F0 m 30 ls []) := by
    intro n
    induction n with
    | zero =>
      intro y8_3 u8 H locs ay8_3 by8_3 hi8_0 hi8_1 hi8_2 hi8_3 hi8_4 hm_8 hv hP hD hS ls hl
      exact absurd hm_8 (by omega)
    | succ n ih_8 =>
      intro y8_3 u8 H locs ay8_3 by8_3 hi8_0 hi8_1 hi8_2 hi8_3 hi8_4 hm_8 hv hP hD hS ls hl
      refine lv_iload_n hx hb dX4_findPlan_30 rfl (lv_at hl 0 rfl) ?_
      refine lv_aload_n hx hb dX4_findPlan_31 rfl (lv_at hl 1 rfl) ?_
      refine va_get (D := (dC, dI)) (ci := 4) (v := .int (u8 (1) 1)) (C := RX4) (T := TX4) (N := 11) hx hb hts (by decide +kernel) hown hK hP (1) (wl_at (by omega) (ce_1 (by decide))) rfl 1 (by decide) (hts (.fieldLink RX4 61 "QuietStairs$Planner" "count" "I") (by decide +kernel)) (fun _ h9 => h9) rfl dX4_findPlan_32 ?_
      refine lv_topi (fun x_9 ex_9 => ?_)
      have bzx_9 : 0 ≤ x_9.toInt ∧ x_9.toInt ≤ 4 := by rw [ex_9]; exact hv.at (K := 1) (by decide) rfl
      have qx_9 : x_9.toInt = (u8 (1) (1)).toInt := congrArg Int32.toInt ex_9
      have hc9 : x_9.toInt = (v_7 1 1).toInt := by rw [ex_9, hi8_1.1]
      refine lv_icmp_ge (tgt := 61) hx hb dX4_findPlan_35 (by decide) (fun c_10 => ?_) (fun c_10 => ?_)
      · have tc_10 : y8_3.toInt ≥ x_9.toInt := Int32.le_iff_toInt_le.mp c_10
        refine lv_iconst (v := 0) hx hb dX4_findPlan_61 (by decide) ?_
        refine lv_istore_n (lv' := [(3, .int 0), (0, .ref (ad 1)), (1, .ref (ad 13)), (2, .int x0)]) hx hb dX4_findPlan_62 rfl hl (by decide) rfl (fun ls hl => ?_)
        have hc_11 : ∀ (n : Nat) (y11_3 : Int32) (u11 : Nat → Nat → Int32) (H : Heap) (locs : List Loc), 0 ≤ y11_3.toInt → y11_3.toInt ≤ 3 → (∀ k : Nat, k ≠ 8 → k ≠ 9 → u11 k = u8 k) → (∀ D : Nat, (D : Int) < y11_3.toInt → u11 8 D = 0 ∧ u11 9 D = 0) → (3 - y11_3.toInt).toNat < n → Iv u11 → va_P (dC, dI) vwCl (wl ad kv cy N u11) H → va_D A (wl ad kv cy N u11) → va_S A s.heap H locs → ∀ ls : Array Slot, lv_has ls 4 [(3, .int y11_3), (0, .ref (ad 1)), (1, .ref (ad 13)), (2, .int x0)] → W p l e (headSpec wsX4_findPlan ({ frames := 10, cells := 0, slots := 0, locals := 640 })).room s m [Value.ref (ad 1), Value.ref (ad 13), Value.int x0].toArray below meth c H locs 0 0 (MQ below (va_Qv (fun (u : Nat → Nat → Int32) => Iv u ∧ PL9 v u x0.toInt) (fun u t => ex_Pst dC dI A (wl ad kv cy N u) t) A) [Value.ref (ad 1), Value.ref (ad 13), Value.int x0].toArray s 0 0 A) (F0 m 63 ls []) := by
          intro n
          induction n with
          | zero =>
            intro y11_3 u11 H locs ay11_3 by11_3 hi11_0 hi11_1 hm_11 hv hP hD hS ls hl
            exact absurd hm_11 (by omega)
          | succ n ih_11 =>
            intro y11_3 u11 H locs ay11_3 by11_3 hi11_0 hi11_1 hm_11 hv hP hD hS ls hl
            refine lv_iload_n hx hb dX4_findPlan_63 rfl (lv_at hl 0 rfl) ?_
            refine lv_iconst (v := 3) hx hb dX4_findPlan_64 (by decide) ?_
            have k_3 : (3 : Int32).toInt = 3 := by decide
            refine lv_icmp_ge (tgt := 88) hx hb dX4_findPlan_65 (by decide) (fun c_12 => ?_) (fun c_12 => ?_)
            · have tc_12 : y11_3.toInt ≥ (3 : Int32).toInt := Int32.le_iff_toInt_le.mp c_12
              refine lv_aload_n hx hb dX4_findPlan_88 rfl (lv_at hl 1 rfl) ?_
              refine lv_iconst (v := 0) hx hb dX4_findPlan_89 (by decide) ?_
              refine lv_iconst (v := 0) hx hb dX4_findPlan_90 (by decide) ?_
              have zn_y11_3 : (y11_3.toNatClampNeg : Int) = y11_3.toInt := t_nn (by omega)
              have hGu : SG v_7 u11 := ⟨⟨by rw [hi11_0 3 (by decide) (by decide), hi8_0 3 (by decide)], by rw [hi11_0 4 (by decide) (by decide), hi8_0 4 (by decide)]⟩, by rw [hi11_0 5 (by decide) (by decide), hi8_0 5 (by decide)], by rw [hi11_0 1 (by decide) (by decide), hi8_1.1], by rw [hi11_0 1 (by decide) (by decide), hi8_1.2]⟩
              have hSC : SC u11 (0 : Int32).toNatClampNeg (0 : Int32).toInt := by
                rw [show (0 : Int32).toNatClampNeg = 0 from by decide, k_0]
                exact SC_0 (SG_B hGu hPp) (fun D hD => hi11_1 D (by omega))
              refine yw_v (w1 := fun (u : Nat → Nat → Int32) => wl ad kv cy N u) hD hS hA (va_runV (As := [.int 0, .int 0]) (rest := []) ⟨hx, hb, hml, hown, hts⟩ (e_X4_search_4 l dC dI cy _ ad kv N hN u11 hv 0 0 ⟨by decide, by decide⟩ hSC t1 t2) (cwV 2 hts gX4_findPlan_X4_search rfl rfl rfl (by decide +kernel) ⟨Nat.le_of_ble_eq_true rfl, Nat.le_of_ble_eq_true rfl⟩) ⟨ex_blindT, va_recv hK hP (ci := 4) (q0 := 1) rfl (wl_at (by omega) (ce_1 (by decide))), fun U hU hW => ⟨rfl, ((yw_preS (As := []) hE hK hP hD).2 U hU hW).2, hSt.go hS (yw_F hD hS hA) hU hW⟩⟩ rfl rfl hl.1 rfl (lv_room (Nat.le_of_ble_eq_true rfl)) dX4_findPlan_91 ⟨Nat.le_of_ble_eq_true rfl, Nat.le_of_ble_eq_true rfl⟩) (fun v_13 H locs hw_13 hP hD hS => ?_)
              obtain ⟨hv, hw_13⟩ := hw_13
              rw [show (0 : Int32).toNatClampNeg = 0 from by decide] at hw_13
              have zn_y8_3 : (y8_3.toNatClampNeg : Int) = y8_3.toInt := t_nn (by omega)
              have hLu : plL u11 = 1 + Wt (plW u11) (fun _ => 18) (plm u11) := by
                rw [SG_W hGu, SG_m hGu]
                have z := t_nn (x := v_7 1 1) hPp.1.1.1
                show (u11 1 0).toInt = 1 + Wt (plW v_7) (fun _ => 18) (v_7 1 1).toNatClampNeg
                rw [hi11_0 1 (by decide) (by decide), show (v_7 1 1).toNatClampNeg = y8_3.toNatClampNeg from by omega]
                exact hi8_2
              have hfin := SC_fin hLu hw_13
              have hrw : ∀ k : Nat, k ≠ 1 → k ≠ 5 → k ≠ 6 → k ≠ 7 → k ≠ 8 → k ≠ 9 → v_13 k = v_5 k := fun k h1 h5 h6 h7 h8 h9 => by rw [hw_13.1.1.1.1 k h1 h6 h7 h8 h9, hi11_0 k h8 h9, hi8_0 k h1, ev_7, upr_n h1, so1 k h5]
              have hra : ∀ k : Nat, k ≠ 1 → k ≠ 2 → k ≠ 3 → k ≠ 4 → k ≠ 5 → k ≠ 6 → k ≠ 7 → k ≠ 8 → k ≠ 9 → v_13 k = v k := fun k h1 h2 h3 h4 h5 h6 h7 h8 h9 => by rw [hrw k h1 h5 h6 h7 h8 h9, ga1 k h1 h2 h3 h4, hA9 k h1]
              have h11 : v_13 1 1 = v_5 1 1 := by rw [hw_13.1.1.1.2.1, hi11_0 1 (by decide) (by decide), hi8_1.1, ev_7, upr_s, pk_un (by decide), so1 1 (by decide)]
              have h12 : v_13 1 2 = v_5 1 2 := by rw [hw_13.1.1.1.2.2, hi11_0 1 (by decide) (by decide), hi8_1.2, ev_7, upr_s, pk_un (by decide), so1 1 (by decide)]
              exact W.vret hx hb hr (fun t ht hW => ⟨⟨v_13, rfl, ⟨hv, ⟨⟨fun k h => hra k (by omega) (by omega) (by omega) (by omega) (by omega) (by omega) (by omega) (by omega) (by omega), hra 0 (by decide) (by decide) (by decide) (by decide) (by decide) (by decide) (by decide) (by decide) (by decide)⟩, by rw [h11, hrw 2 (by decide) (by decide) (by decide) (by decide) (by decide) (by decide), hrw 3 (by decide) (by decide) (by decide) (by decide) (by decide) (by decide), hrw 4 (by decide) (by decide) (by decide) (by decide) (by decide) (by decide)]; exact ⟨ga3, ga4⟩, by rw [h12, ga2.2, ev_4, upr_s, pk_us, hmn, hdv], hfin⟩⟩, by rw [ht]; exact hP, hD⟩, hS.F ht⟩) hS.2.2 dX4_findPlan_94
            · have tc_12 : y11_3.toInt < (3 : Int32).toInt := Int32.lt_iff_toInt_lt.mp (Int32.not_le.mp c_12)
              refine lv_aload_n hx hb dX4_findPlan_68 rfl (lv_at hl 1 rfl) ?_
              refine va_get (D := (dC, dI)) (ci := 4) (v := .ref (ad 8)) (C := RX4) (T := TX4) (N := 11) hx hb hts (by decide +kernel) hown hK hP (1) (wl_at (by omega) (ce_1 (by decide))) rfl 9 (by decide) (hts (.fieldLink RX4 30 "QuietStairs$Planner" "busyBits" "[I") (by decide +kernel)) (fun _ h9 => h9) rfl dX4_findPlan_69 ?_
              refine lv_iload_n hx hb dX4_findPlan_72 rfl (lv_at hl 0 rfl) ?_
              refine lv_iconst (v := 0) hx hb dX4_findPlan_73 (by decide) ?_
              have zn_y11_3 : (y11_3.toNatClampNeg : Int) = y11_3.toInt := t_nn (by omega)
              have hx_13 : y11_3.toNatClampNeg < 3 := by omega
              refine va_iast hx hb hK hP hD hS (8) 0 (wl_at (by omega) (ce_18 (by decide))) rfl (vp_in_iff.mpr ⟨by omega, by omega⟩) dX4_findPlan_74 (fun H locs hP hD hS => ?_)
              obtain ⟨v_14, ev_14⟩ : ∃ u : Nat → Nat → Int32, u = upr u11 (8) (upd (u11 (8)) (y11_3.toNatClampNeg) 0) := ⟨_, rfl⟩
              have hP : va_P (dC, dI) vwCl (wl ad kv cy N v_14) H := by rw [ev_14, ← wl_put (e := _) (ce_18 (by decide))]; exact hP
              have hD : va_D A (wl ad kv cy N v_14) := by rw [ev_14, ← wl_put (e := _) (ce_18 (by decide))]; exact hD
              have hv : Iv v_14 := by rw [ev_14]; exact hv.put (K := 18) (by decide) (fun h q => by simp [bd] at q)
              refine lv_aload_n hx hb dX4_findPlan_75 rfl (lv_at hl 1 rfl) ?_
              refine va_get (D := (dC, dI)) (ci := 4) (v := .ref (ad 9)) (C := RX4) (T := TX4) (N := 11) hx hb hts (by decide +kernel) hown hK hP (1) (wl_at (by omega) (ce_1 (by decide))) rfl 10 (by decide) (hts (.fieldLink RX4 33 "QuietStairs$Planner" "sittings" "[I") (by decide +kernel)) (fun _ h9 => h9) rfl dX4_findPlan_76 ?_
              refine lv_iload_n hx hb dX4_findPlan_79 rfl (lv_at hl 0 rfl) ?_
              refine lv_iconst (v := 0) hx hb dX4_findPlan_80 (by decide) ?_
              refine va_iast hx hb hK hP hD hS (9) 0 (wl_at (by omega) (ce_18 (by decide))) rfl (vp_in_iff.mpr ⟨by omega, by omega⟩) dX4_findPlan_81 (fun H locs hP hD hS => ?_)
              obtain ⟨v_15, ev_15⟩ : ∃ u : Nat → Nat → Int32, u = upr v_14 (9) (upd (v_14 (9)) (y11_3.toNatClampNeg) 0) := ⟨_, rfl⟩
              have hP : va_P (dC, dI) vwCl (wl ad kv cy N v_15) H := by rw [ev_15, ← wl_put (e := _) (ce_18 (by decide))]; exact hP
              have hD : va_D A (wl ad kv cy N v_15) := by rw [ev_15, ← wl_put (e := _) (ce_18 (by decide))]; exact hD
              have hv : Iv v_15 := by rw [ev_15]; exact hv.put (K := 18) (by decide) (fun h q => by simp [bd] at q)
              obtain ⟨x_16, ex_16⟩ : ∃ y : Int32, y = y11_3 + 1 := ⟨_, rfl⟩
              refine lv_iinc (v := x_16) (lv' := [(3, .int x_16), (0, .ref (ad 1)), (1, .ref (ad 13)), (2, .int x0)]) hx hb dX4_findPlan_82 hl (k := 0) rfl (by rw [ex_16]; rfl) (by decide) rfl (fun ls hl => ?_)
              have tx_16 : x_16.toInt = y11_3.toInt + (1 : Int32).toInt := by rw [ex_16]; exact t_add ⟨by omega, by omega⟩
              refine lv_goto (tgt := 63) hx hb dX4_findPlan_85 (by decide) ?_
              have zn_x_16 : (x_16.toNatClampNeg : Int) = x_16.toInt := t_nn (by omega)
              exact ih_11 x_16 v_15 _ _ (by omega) (by omega) (fun k h8 h9 => by rw [ev_15, upr_n h9, ev_14, upr_n h8]; exact hi11_0 k h8 h9) (fun D hD => by by_cases e : D = y11_3.toNatClampNeg; rw [e]; exact ⟨by rw [ev_15, upr_n (by decide), ev_14, upr_s, pk_us], by rw [ev_15, upr_s, pk_us]⟩; exact ⟨by rw [ev_15, upr_n (by decide), ev_14, upr_s, pk_un e]; exact (hi11_1 D (by omega)).1, by rw [ev_15, upr_s, pk_un e, ev_14, upr_n (by decide)]; exact (hi11_1 D (by omega)).2⟩) (by omega) hv hP hD hS ls (lv_sub hl [0, 1, 2, 3] rfl)
        exact hc_11 ((3 - (0 : Int32).toInt).toNat + 1) 0 u8 _ _ (by omega) (by omega) (fun _ _ _ => rfl) (fun D hD => absurd hD (by omega)) (by omega) hv hP hD hS ls (lv_sub hl [0, 1, 2, 3] rfl)
      · have tc_10 : y8_3.toInt < x_9.toInt := Int32.lt_iff_toInt_lt.mp (Int32.not_le.mp c_10)
        refine lv_aload_n hx hb dX4_findPlan_38 rfl (lv_at hl 1 rfl) ?_
        refine lv_dup hx hb dX4_findPlan_39 rfl ?_
        refine va_get (D := (dC, dI)) (ci := 4) (v := .int (u8 (1) 0)) (C := RX4) (T := TX4) (N := 11) hx hb hts (by decide +kernel) hown hK hP (1) (wl_at (by omega) (ce_1 (by decide))) rfl 0 (by decide) (hts (.fieldLink RX4 58 "QuietStairs$Planner" "leastWait" "I") (by decide +kernel)) (fun _ h9 => h9) rfl dX4_findPlan_40 ?_
        refine lv_topi (fun x_11 ex_11 => ?_)
        have qx_11 : x_11.toInt = (u8 (1) (0)).toInt := congrArg Int32.toInt ex_11
        refine lv_iconst (v := 4) hx hb dX4_findPlan_43 (by decide) ?_
        refine lv_aload_n hx hb dX4_findPlan_44 rfl (lv_at hl 1 rfl) ?_
        refine va_get (D := (dC, dI)) (ci := 4) (v := .ref (ad 3)) (C := RX4) (T := TX4) (N := 11) hx hb hts (by decide +kernel) hown hK hP (1) (wl_at (by omega) (ce_1 (by decide))) rfl 4 (by decide) (hts (.fieldLink RX4 15 "QuietStairs$Planner" "weights" "[I") (by decide +kernel)) (fun _ h9 => h9) rfl dX4_findPlan_45 ?_
        refine lv_iload_n hx hb dX4_findPlan_48 rfl (lv_at hl 0 rfl) ?_
        have zn_y8_3 : (y8_3.toNatClampNeg : Int) = y8_3.toInt := t_nn (by omega)
        have hx_12 : y8_3.toNatClampNeg < 4 := by omega
        refine va_iald hx hb hK hP (3) 0 (wl_at (by omega) (ce_17 (by decide))) rfl (vp_in_iff.mpr ⟨by omega, by omega⟩) dX4_findPlan_49 ?_
        refine lv_topi (fun x_13 ex_13 => ?_)
        have qx_13 : x_13.toInt = (u8 (3) (y8_3.toNatClampNeg)).toInt := congrArg Int32.toInt ex_13
        have hw8 : x_13.toInt = plW v_7 y8_3.toNatClampNeg := by rw [ex_13, hi8_0 3 (by decide)]; rfl
        have hw9 : 1 ≤ plW v_7 y8_3.toNatClampNeg ∧ plW v_7 y8_3.toNatClampNeg ≤ 9 := (hPp.1.2 y8_3.toNatClampNeg (by show _ < (v_7 1 1).toNatClampNeg; have z := t_nn (x := v_7 1 1) (by omega); omega)).1
        refine lv_imul hx hb dX4_findPlan_50 ?_
        refine lv_topi (fun x_14 ex_14 => ?_)
        have k_4 : (4 : Int32).toInt = 4 := by decide
        have tx_14 : x_14.toInt = 4 * x_13.toInt := by rw [ex_14, t_mul (by rw [k_4]; omega), k_4]
        refine lv_iadd hx hb dX4_findPlan_51 ?_
        refine lv_topi (fun x_15 ex_15 => ?_)
        have tx_15 : x_15.toInt = x_11.toInt + x_14.toInt := by rw [ex_15]; exact t_add ⟨by omega, by omega⟩
        refine va_put (D := (dC, dI)) (ci := 4) (v := .int x_15) (ty := .int) (C := RX4) (T := TX4) (N := 11) hx hb hts (by decide +kernel) tyX4 tyX4_ok nmX4 hown hK hP hD hS (1) (wl_at (by omega) (ce_1 (by decide))) rfl 0 (by decide) (hts (.fieldLink RX4 58 "QuietStairs$Planner" "leastWait" "I") (by decide +kernel)) (fun _ h9 => h9) rfl (by decide +kernel) rfl rfl (Nat.le_of_ble_eq_true rfl) dX4_findPlan_52 (fun H locs hP hD hS => ?_)
        obtain ⟨v_16, ev_16⟩ : ∃ u : Nat → Nat → Int32, u = upr u8 (1) (upd (u8 (1)) 0 x_15) := ⟨_, rfl⟩
        have hP : va_P (dC, dI) vwCl (wl ad kv cy N v_16) H := by rw [ev_16, ← wl_put (e := _) (ce_1 (by decide))]; exact hP
        have hD : va_D A (wl ad kv cy N v_16) := by rw [ev_16, ← wl_put (e := _) (ce_1 (by decide))]; exact hD
        have hv : Iv v_16 := by rw [ev_16]; exact hv.put (K := 1) (by decide) (fun h q => by simp [bd] at q)
        obtain ⟨x_17, ex_17⟩ : ∃ y : Int32, y = y8_3 + 1 := ⟨_, rfl⟩
        refine lv_iinc (v := x_17) (lv' := [(3, .int x_17), (0, .ref (ad 1)), (1, .ref (ad 13)), (2, .int x0)]) hx hb dX4_findPlan_55 hl (k := 0) rfl (by rw [ex_17]; rfl) (by decide) rfl (fun ls hl => ?_)
        have tx_17 : x_17.toInt = y8_3.toInt + (1 : Int32).toInt := by rw [ex_17]; exact t_add ⟨by omega, by omega⟩
        refine lv_goto (tgt := 30) hx hb dX4_findPlan_58 (by decide) ?_
        have zn_x_17 : (x_17.toNatClampNeg : Int) = x_17.toInt := t_nn (by omega)
        have hL9 : (v_16 1 0).toInt = x_15.toInt := by rw [ev_16, upr_s, pk_us]
        exact ih_8 x_17 v_16 _ _ (by omega) (by omega) (fun k h => by rw [ev_16, upr_n h]; exact hi8_0 k h) (⟨by rw [ev_16, upr_s, pk_un (by decide)]; exact hi8_1.1, by rw [ev_16, upr_s, pk_un (by decide)]; exact hi8_1.2⟩) (by rw [hL9, show x_17.toNatClampNeg = y8_3.toNatClampNeg + 1 from by omega, Wt_s, show cst 18 = 4 from rfl, ← hw8]; omega) (by omega) (⟨by omega, by omega⟩) (by omega) hv hP hD hS ls (lv_sub hl [0, 1, 2, 3] rfl)
  exact hc_8 ((4 - (0 : Int32).toInt).toNat + 1) 0 v_7 _ _ (by omega) (by omega) (fun _ _ => rfl) (⟨rfl, rfl⟩) (by rw [show (0 : Int32).toNatClampNeg = 0 from by decide]; show (v_7 1 0).toInt = 1 + 0; rw [ev_7, upr_s, pk_us]; decide) (by have z := hPp.1.1; omega) (⟨by rw [ev_7, upr_s, pk_us]; decide, by rw [ev_7, upr_s, pk_us]; decide⟩) (by omega) hv hP hD hS ls (lv_sub hl [0, 1, 2, 3] rfl)
