
set_option maxHeartbeats 4000000 in
set_option maxRecDepth 100000 in
theorem e_X1_quarrelBits (l : Launch) (dC : Nat → ClassId) (dI : Nat → Nat → Nat) (cy : Nat → ClassId) (sz : Nat) (ad : Nat → Nat) (kv : Value) (N : Nat) (hN : 119 ≤ N) (v : Nat → Nat → Int32) (hv : Iv v) (x0 : Int32) : Met l yX1_quarrelBits wsX1_quarrelBits ({ frames := 1, cells := 0, slots := 0, locals := 64 }) (va_Pc [.ref (ad 13), .int x0] (ex_Pre dC dI cy sz (wl ad kv cy N v))) (va_Qi (fun (r : Int32) (u : Nat → Nat → Int32) => Iv u ∧ u = v ∧ r = qB (fun c => v (29 + 15 * c) 4) (v 13 2).toNatClampNeg x0) (fun u t => ex_Pst dC dI (va_A (wl ad kv cy N v) sz) (wl ad kv cy N u) t) (va_A (wl ad kv cy N v) sz)) 0 0 (va_A (wl ad kv cy N v) sz) := by
  refine Met.ofW (cc := cX1_quarrelBits) (maxL := 5) (ret := (some .int)) (by decide) rfl ?_
  intro p e s m args below meth c s₁ B hml hv
  obtain ⟨rfl, hsz, hE, hP, hK, hD0⟩ := hv
  have hx := B.exec
  have hb := B.bytes
  have hr := B.returns
  have hts := atoms_spec (ws := wsX1_quarrelBits) B.pre
  have hown : s.vm.findClass RX1 = some m.cls := findClass_of_methodNamed B.named
  have hlocks := B.notSynchronized
  subst hsz
  have hD := hD0.self (sz := s.heap.size)
  generalize hAe : va_A (wl ad kv cy N v) s.heap.size = A at hD ⊢
  have hA : ∀ q : Nat, s.heap.size ≤ q → A q := fun q h => by rw [← hAe]; exact Or.inr h
  have hS : va_S A s.heap s.heap [] := va_S.rf
  have hP : va_P (dC, dI) vwCl (wl ad kv cy N v) s.heap := hP
  have hl := lv_entry ([.ref (ad 13), .int x0]) (n := 5) (Nat.le_of_ble_eq_true rfl)
  rw [lg_entry_eq]
  generalize (lg_sl ([.ref (ad 13), .int x0]) ++ List.replicate (5 - (lg_sl ([.ref (ad 13), .int x0])).length) Slot.unset).toArray = ls at hl ⊢
  have hl : lv_has ls 5 [(0, .ref (ad 13)), (1, .int x0)] := hl
  obtain ⟨cn, ecn⟩ : ∃ z : Int32, z = v 13 2 := ⟨_, rfl⟩
  have hbcn : 0 ≤ cn.toInt ∧ cn.toInt ≤ 6 := by rw [ecn]; exact hv.at (K := 3) (by decide) rfl
  have zn_cn : (cn.toNatClampNeg : Int) = cn.toInt := t_nn (by omega)
  obtain ⟨QM, eQM⟩ : ∃ f : Nat → Int32, f = (fun c => v (29 + 15 * c) 4) := ⟨_, rfl⟩
  refine lv_iconst (v := 1) hx hb dX1_quarrelBits_0 (by decide) ?_
  refine lv_iload_n hx hb dX1_quarrelBits_1 rfl (lv_at hl 1 rfl) ?_
  refine lv_ishl hx hb dX1_quarrelBits_2 ?_
  refine lv_topi (fun x_1 ex_1 => ?_)
  refine lv_istore_n (lv' := [(2, .int x_1), (0, .ref (ad 13)), (1, .int x0)]) hx hb dX1_quarrelBits_3 rfl hl (by decide) rfl (fun ls hl => ?_)
  refine lv_iconst (v := 1) hx hb dX1_quarrelBits_4 (by decide) ?_
  refine lv_istore_n (lv' := [(3, .int 1), (2, .int x_1), (0, .ref (ad 13)), (1, .int x0)]) hx hb dX1_quarrelBits_5 rfl hl (by decide) rfl (fun ls hl => ?_)
  have hc_2 : ∀ (n : Nat) (y2_3 y2_2 : Int32) (H : Heap) (locs : List Loc), 1 ≤ y2_3.toInt → y2_3.toInt ≤ 6 → (y2_2 = qO QM cn.toNatClampNeg (y2_3.toNatClampNeg - 1) x_1) → (y2_3.toInt ≤ cn.toInt ∨ y2_3.toInt = 1) → (6 - y2_3.toInt).toNat < n → va_P (dC, dI) vwCl (wl ad kv cy N v) H → va_D A (wl ad kv cy N v) → va_S A s.heap H locs → ∀ ls : Array Slot, lv_has ls 5 [(3, .int y2_3), (2, .int y2_2), (0, .ref (ad 13)), (1, .int x0)] → W p l e (headSpec wsX1_quarrelBits ({ frames := 1, cells := 0, slots := 0, locals := 64 })).room s m [Value.ref (ad 13), Value.int x0].toArray below meth c H locs 0 0 (MQ below (va_Qi (fun (r : Int32) (u : Nat → Nat → Int32) => Iv u ∧ u = v ∧ r = qB (fun c => v (29 + 15 * c) 4) (v 13 2).toNatClampNeg x0) (fun u t => ex_Pst dC dI A (wl ad kv cy N u) t) A) [Value.ref (ad 13), Value.int x0].toArray s 0 0 A) (F0 m 6 ls []) := by
    intro n
    induction n with
    | zero =>
      intro y2_3 y2_2 H locs ay2_3 by2_3 hi2_0 hi2_1 hm_2 hP hD hS ls hl
      exact absurd hm_2 (by omega)
    | succ n ih_2 =>
      intro y2_3 y2_2 H locs ay2_3 by2_3 hi2_0 hi2_1 hm_2 hP hD hS ls hl
      refine lv_iload_n hx hb dX1_quarrelBits_6 rfl (lv_at hl 0 rfl) ?_
      refine lv_aload_n hx hb dX1_quarrelBits_7 rfl (lv_at hl 2 rfl) ?_
      refine va_get (D := (dC, dI)) (ci := 1) (v := .int (v (13) 2)) (C := RX1) (T := TX1) (N := 7) hx hb hts iwX1_quarrelBits_X1 hown hK hP (13) (wl_at (by omega) (ce_3 (by decide))) rfl 2 (by decide) (hts (.fieldLink RX1 66 "QuietStairs$House" "caseCount" "I") fwX1_quarrelBits_1) (fun _ h9 => h9) rfl dX1_quarrelBits_8 ?_
      refine lv_topi (fun x_3 ex_3 => ?_)
      have bzx_3 : 0 ≤ x_3.toInt ∧ x_3.toInt ≤ 6 := by rw [ex_3]; exact hv.at (K := 3) (by decide) rfl
      obtain rfl : cn = x_3 := (ex_3.trans ecn.symm).symm
      refine lv_icmp_ge (tgt := 60) hx hb dX1_quarrelBits_11 (by decide) (fun c_4 => ?_) (fun c_4 => ?_)
      · have tc_4 : y2_3.toInt ≥ cn.toInt := Int32.le_iff_toInt_le.mp c_4
        refine lv_iload_n hx hb dX1_quarrelBits_60 rfl (lv_at hl 1 rfl) ?_
        have zn_y2_3 : (y2_3.toNatClampNeg : Int) = y2_3.toInt := t_nn (by omega)
        exact W.iret (v := y2_2) hx hb hr (fun t ht hW => ⟨⟨y2_2, v, rfl, ⟨hv, rfl, by rw [hi2_0, ← ecn, ← eQM]; unfold qB; rw [show y2_3.toNatClampNeg - 1 = cn.toNatClampNeg - 1 from by omega, ex_1]⟩, by rw [ht]; exact hP, hD⟩, hS.F ht⟩) hS.2.2 dX1_quarrelBits_61
      · have tc_4 : y2_3.toInt < cn.toInt := Int32.lt_iff_toInt_lt.mp (Int32.not_le.mp c_4)
        refine lv_iconst (v := 0) hx hb dX1_quarrelBits_14 (by decide) ?_
        refine lv_istore (lv' := [(4, .int 0), (3, .int y2_3), (2, .int y2_2), (0, .ref (ad 13)), (1, .int x0)]) hx hb dX1_quarrelBits_15 hl (by decide) rfl (fun ls hl => ?_)
        have hc_5 : ∀ (n : Nat) (y5_4 y5_2 : Int32) (H : Heap) (locs : List Loc), 0 ≤ y5_4.toInt → y5_4.toInt ≤ 6 → (y5_2 = qI QM y5_4.toNatClampNeg y2_2) → (y5_4.toInt ≤ cn.toInt) → (6 - y5_4.toInt).toNat < n → va_P (dC, dI) vwCl (wl ad kv cy N v) H → va_D A (wl ad kv cy N v) → va_S A s.heap H locs → ∀ ls : Array Slot, lv_has ls 5 [(4, .int y5_4), (3, .int y2_3), (2, .int y5_2), (0, .ref (ad 13)), (1, .int x0)] → W p l e (headSpec wsX1_quarrelBits ({ frames := 1, cells := 0, slots := 0, locals := 64 })).room s m [Value.ref (ad 13), Value.int x0].toArray below meth c H locs 0 0 (MQ below (va_Qi (fun (r : Int32) (u : Nat → Nat → Int32) => Iv u ∧ u = v ∧ r = qB (fun c => v (29 + 15 * c) 4) (v 13 2).toNatClampNeg x0) (fun u t => ex_Pst dC dI A (wl ad kv cy N u) t) A) [Value.ref (ad 13), Value.int x0].toArray s 0 0 A) (F0 m 17 ls []) := by
          intro n
          induction n with
          | zero =>
            intro y5_4 y5_2 H locs ay5_4 by5_4 hi5_0 hi5_1 hm_5 hP hD hS ls hl
            exact absurd hm_5 (by omega)
          | succ n ih_5 =>
            intro y5_4 y5_2 H locs ay5_4 by5_4 hi5_0 hi5_1 hm_5 hP hD hS ls hl
            refine lv_iload hx hb dX1_quarrelBits_17 (lv_at hl 0 rfl) ?_
            refine lv_aload_n hx hb dX1_quarrelBits_19 rfl (lv_at hl 3 rfl) ?_
            refine va_get (D := (dC, dI)) (ci := 1) (v := .int (v (13) 2)) (C := RX1) (T := TX1) (N := 7) hx hb hts iwX1_quarrelBits_X1 hown hK hP (13) (wl_at (by omega) (ce_3 (by decide))) rfl 2 (by decide) (hts (.fieldLink RX1 66 "QuietStairs$House" "caseCount" "I") fwX1_quarrelBits_1) (fun _ h9 => h9) rfl dX1_quarrelBits_20 ?_
            refine lv_topi (fun x_6 ex_6 => ?_)
            have bzx_6 : 0 ≤ x_6.toInt ∧ x_6.toInt ≤ 6 := by rw [ex_6]; exact hv.at (K := 3) (by decide) rfl
            obtain rfl : cn = x_6 := (ex_6.trans ecn.symm).symm
            refine lv_icmp_ge (tgt := 54) hx hb dX1_quarrelBits_23 (by decide) (fun c_7 => ?_) (fun c_7 => ?_)
            · have tc_7 : y5_4.toInt ≥ cn.toInt := Int32.le_iff_toInt_le.mp c_7
              obtain ⟨x_8, ex_8⟩ : ∃ y : Int32, y = y2_3 + 1 := ⟨_, rfl⟩
              refine lv_iinc (v := x_8) (lv' := [(3, .int x_8), (4, .int y5_4), (2, .int y5_2), (0, .ref (ad 13)), (1, .int x0)]) hx hb dX1_quarrelBits_54 hl (k := 1) rfl (by rw [ex_8]; rfl) (by decide) rfl (fun ls hl => ?_)
              have k_1 : (1 : Int32).toInt = 1 := by decide
              have tx_8 : x_8.toInt = y2_3.toInt + (1 : Int32).toInt := by rw [ex_8]; exact t_add ⟨by omega, by omega⟩
              refine lv_goto (tgt := 6) hx hb dX1_quarrelBits_57 (by decide) ?_
              have zn_x_8 : (x_8.toNatClampNeg : Int) = x_8.toInt := t_nn (by omega)
              have zn_y2_3 : (y2_3.toNatClampNeg : Int) = y2_3.toInt := t_nn (by omega)
              have zn_y5_4 : (y5_4.toNatClampNeg : Int) = y5_4.toInt := t_nn (by omega)
              exact ih_2 x_8 y5_2 _ _ (by omega) (by omega) (by rw [hi5_0, show y5_4.toNatClampNeg = cn.toNatClampNeg from by omega, hi2_0, show x_8.toNatClampNeg - 1 = (y2_3.toNatClampNeg - 1) + 1 from by omega]; rfl) (by omega) (by omega) hP hD hS ls (lv_sub hl [0, 2, 3, 4] rfl)
            · have tc_7 : y5_4.toInt < cn.toInt := Int32.lt_iff_toInt_lt.mp (Int32.not_le.mp c_7)
              refine lv_iload_n hx hb dX1_quarrelBits_26 rfl (lv_at hl 2 rfl) ?_
              refine lv_iload hx hb dX1_quarrelBits_27 (lv_at hl 0 rfl) ?_
              refine yc_p hP hS (va_runSN (As := [.int y5_2, .int y5_4]) (rest := []) ⟨hx, hb, hml, hown, hts⟩ (e_X7_hasBit l y5_2 y5_4) ⟨va_cnB 2 hts gX1_quarrelBits_X7_hasBit_n51 rfl rfl rfl hE.2.2.2.2.2.2.2.2.2.2.1 (hts (.initialized RX7) fwX1_quarrelBits_5) (by decide +kernel) ⟨Nat.le_of_ble_eq_true rfl, Nat.le_of_ble_eq_true rfl⟩, (hts (.static yX7_hasBit) fwX1_quarrelBits_4), trivial⟩ ex_preP rfl rfl hl.1 rfl (lv_room (Nat.le_of_ble_eq_true rfl)) dX1_quarrelBits_29 ⟨Nat.le_of_ble_eq_true rfl, Nat.le_of_ble_eq_true rfl⟩) (fun r_8 H locs hw_8 hP hS => ?_)
              rcases hw_8 with ⟨rfl, hh_9⟩ | ⟨rfl, hh_9⟩
              · refine lv_if_eq (tgt := 48) hx hb dX1_quarrelBits_32 (by decide) (fun c9 => absurd c9 (by decide)) (fun _ => ?_)
                refine lv_iload_n hx hb dX1_quarrelBits_35 rfl (lv_at hl 2 rfl) ?_
                refine lv_aload_n hx hb dX1_quarrelBits_36 rfl (lv_at hl 3 rfl) ?_
                refine va_get (D := (dC, dI)) (ci := 1) (v := .ref (ad 16)) (C := RX1) (T := TX1) (N := 7) hx hb hts iwX1_quarrelBits_X1 hown hK hP (13) (wl_at (by omega) (ce_3 (by decide))) rfl 6 (by decide) (hts (.fieldLink RX1 25 "QuietStairs$House" "cases" "[LQuietStairs$Case;") fwX1_quarrelBits_2) (fun _ h9 => h9) rfl dX1_quarrelBits_37 ?_
                refine lv_iload hx hb dX1_quarrelBits_40 (lv_at hl 0 rfl) ?_
                have zn_y5_4 : (y5_4.toNatClampNeg : Int) = y5_4.toInt := t_nn (by omega)
                have hx_10 : y5_4.toNatClampNeg < 6 := by omega
                refine va_aldq hx hb hK hP (16) 3 (wl_at (by omega) (ce_6 (by decide))) rfl (vp_in_iff.mpr ⟨by omega, by omega⟩) dX1_quarrelBits_42 ?_
                refine W.eq (g2 := F0 m 43 ls [.ref (ad (29 + 15 * y5_4.toNatClampNeg)), .int y5_2]) (by rw [if_pos hx_10, show 16 + 13 + 15 * y5_4.toNatClampNeg = 29 + 15 * y5_4.toNatClampNeg from by omega]; rfl) ?_
                refine va_get (D := (dC, dI)) (ci := 0) (v := .int (v (29 + 15 * y5_4.toNatClampNeg) 4)) (C := RX0) (T := TX0) (N := 11) hx hb hts iwX1_quarrelBits_X0 hown hK hP (29 + 15 * y5_4.toNatClampNeg) (wl_at (by omega) (ce_9 (kd_c _ hx_10).1.1)) rfl 4 (by decide) (hts (.fieldLink RX1 69 "QuietStairs$Case" "markedBits" "I") fwX1_quarrelBits_3) (fun _ h9 => h9) rfl dX1_quarrelBits_43 ?_
                refine lv_topi (fun x_11 ex_11 => ?_)
                have qx_11 : x_11.toInt = (v (29 + 15 * y5_4.toNatClampNeg) (4)).toInt := congrArg Int32.toInt ex_11
                refine lv_ior hx hb dX1_quarrelBits_46 ?_
                refine lv_topi (fun x_12 ex_12 => ?_)
                refine lv_istore_n (lv' := [(2, .int x_12), (4, .int y5_4), (3, .int y2_3), (0, .ref (ad 13)), (1, .int x0)]) hx hb dX1_quarrelBits_47 rfl hl (by decide) rfl (fun ls hl => ?_)
                obtain ⟨x_13, ex_13⟩ : ∃ y : Int32, y = y5_4 + 1 := ⟨_, rfl⟩
                refine lv_iinc (v := x_13) (lv' := [(4, .int x_13), (2, .int x_12), (3, .int y2_3), (0, .ref (ad 13)), (1, .int x0)]) hx hb dX1_quarrelBits_48 hl (k := 1) rfl (by rw [ex_13]; rfl) (by decide) rfl (fun ls hl => ?_)
                have k_1 : (1 : Int32).toInt = 1 := by decide
                have tx_13 : x_13.toInt = y5_4.toInt + (1 : Int32).toInt := by rw [ex_13]; exact t_add ⟨by omega, by omega⟩
                refine lv_goto (tgt := 17) hx hb dX1_quarrelBits_51 (by decide) ?_
                have zn_x_13 : (x_13.toNatClampNeg : Int) = x_13.toInt := t_nn (by omega)
                exact ih_5 x_13 x_12 _ _ (by omega) (by omega) (by rw [show x_13.toNatClampNeg = y5_4.toNatClampNeg + 1 from by omega, qI_p (by rw [← hi5_0, ← ofn (x := y5_4) (by omega)]; exact hh_9), ← hi5_0, ex_12, ex_11, eQM]) (by omega) (by omega) hP hD hS ls (lv_sub hl [0, 2, 1, 3, 4] rfl)
              · refine lv_if_eq (tgt := 48) hx hb dX1_quarrelBits_32 (by decide) (fun _ => ?_) (fun c9 => absurd c9 (by decide))
                obtain ⟨x_10, ex_10⟩ : ∃ y : Int32, y = y5_4 + 1 := ⟨_, rfl⟩
                refine lv_iinc (v := x_10) (lv' := [(4, .int x_10), (3, .int y2_3), (2, .int y5_2), (0, .ref (ad 13)), (1, .int x0)]) hx hb dX1_quarrelBits_48 hl (k := 0) rfl (by rw [ex_10]; rfl) (by decide) rfl (fun ls hl => ?_)
                have k_1 : (1 : Int32).toInt = 1 := by decide
                have tx_10 : x_10.toInt = y5_4.toInt + (1 : Int32).toInt := by rw [ex_10]; exact t_add ⟨by omega, by omega⟩
                refine lv_goto (tgt := 17) hx hb dX1_quarrelBits_51 (by decide) ?_
                have zn_x_10 : (x_10.toNatClampNeg : Int) = x_10.toInt := t_nn (by omega)
                have zn_y5_4 : (y5_4.toNatClampNeg : Int) = y5_4.toInt := t_nn (by omega)
                exact ih_5 x_10 y5_2 _ _ (by omega) (by omega) (by rw [show x_10.toNatClampNeg = y5_4.toNatClampNeg + 1 from by omega, qI_n (by rw [← hi5_0, ← ofn (x := y5_4) (by omega)]; exact hh_9)]; exact hi5_0) (by omega) (by omega) hP hD hS ls (lv_sub hl [0, 1, 2, 3, 4] rfl)
        have k_0 : (0 : Int32).toInt = 0 := by decide
        exact hc_5 ((6 - (0 : Int32).toInt).toNat + 1) 0 y2_2 _ _ (by omega) (by omega) (rfl) (by omega) (by omega) hP hD hS ls (lv_sub hl [0, 1, 2, 3, 4] rfl)
  have k_1 : (1 : Int32).toInt = 1 := by decide
  exact hc_2 ((6 - (1 : Int32).toInt).toNat + 1) 1 x_1 _ _ (by omega) (by omega) (rfl) (by omega) (by omega) hP hD hS ls (lv_sub hl [0, 1, 2, 3] rfl)

set_option maxHeartbeats 4000000 in
set_option maxRecDepth 100000 in
theorem e_X1_headOfQuarrel (l : Launch) (dC : Nat → ClassId) (dI : Nat → Nat → Nat) (cy : Nat → ClassId) (sz : Nat) (ad : Nat → Nat) (kv : Value) (N : Nat) (hN : 119 ≤ N) (v : Nat → Nat → Int32) (hv : Iv v) (x0 : Int32) (hs : 0 ≤ x0.toInt ∧ x0.toInt ≤ 5) : Met l yX1_headOfQuarrel wsX1_headOfQuarrel ({ frames := 2, cells := 0, slots := 0, locals := 128 }) (va_Pc [.ref (ad 13), .int x0] (ex_Pre dC dI cy sz (wl ad kv cy N v))) (va_Qi (fun (r : Int32) (u : Nat → Nat → Int32) => Iv u ∧ u = v ∧ r.toInt = ((hF (qB (fun c => v (29 + 15 * c) 4) (v 13 2).toNatClampNeg x0) x0.toNatClampNeg : Nat) : Int)) (fun u t => ex_Pst dC dI (va_A (wl ad kv cy N v) sz) (wl ad kv cy N u) t) (va_A (wl ad kv cy N v) sz)) 0 0 (va_A (wl ad kv cy N v) sz) := by
  refine Met.ofW (cc := cX1_headOfQuarrel) (maxL := 4) (ret := (some .int)) (by decide) rfl ?_
  intro p e s m args below meth c s₁ B hml hv
  obtain ⟨rfl, hsz, hE, hP, hK, hD0⟩ := hv
  have hx := B.exec
  have hb := B.bytes
  have hr := B.returns
  have hts := atoms_spec (ws := wsX1_headOfQuarrel) B.pre
  have hown : s.vm.findClass RX1 = some m.cls := findClass_of_methodNamed B.named
  have hlocks := B.notSynchronized
  subst hsz
  have hD := hD0.self (sz := s.heap.size)
  generalize hAe : va_A (wl ad kv cy N v) s.heap.size = A at hD ⊢
  have hA : ∀ q : Nat, s.heap.size ≤ q → A q := fun q h => by rw [← hAe]; exact Or.inr h
  have hS : va_S A s.heap s.heap [] := va_S.rf
  have hP : va_P (dC, dI) vwCl (wl ad kv cy N v) s.heap := hP
  have hl := lv_entry ([.ref (ad 13), .int x0]) (n := 4) (Nat.le_of_ble_eq_true rfl)
  rw [lg_entry_eq]
  generalize (lg_sl ([.ref (ad 13), .int x0]) ++ List.replicate (4 - (lg_sl ([.ref (ad 13), .int x0])).length) Slot.unset).toArray = ls at hl ⊢
  have hl : lv_has ls 4 [(0, .ref (ad 13)), (1, .int x0)] := hl
  have zn_x0 : (x0.toNatClampNeg : Int) = x0.toInt := t_nn (by omega)
  refine lv_aload_n hx hb dX1_headOfQuarrel_0 rfl (lv_at hl 0 rfl) ?_
  refine lv_iload_n hx hb dX1_headOfQuarrel_1 rfl (lv_at hl 1 rfl) ?_
  refine yw_i (w1 := fun (u : Nat → Nat → Int32) => wl ad kv cy N u) hD hS hA (va_runV (As := [.int x0]) (rest := []) ⟨hx, hb, hml, hown, hts⟩ (e_X1_quarrelBits l dC dI cy _ ad kv N hN v hv x0) (cwV 1 hts gX1_headOfQuarrel_X1_quarrelBits rfl rfl rfl hd_V_X1_quarrelBits_1 ⟨Nat.le_of_ble_eq_true rfl, Nat.le_of_ble_eq_true rfl⟩) (yw_preV hE hK hP hD (ci := 1) (q := (RX1, TX1, 7)) (q0 := 13) rfl (wl_at (by omega) (ce_3 (by decide)))) rfl rfl hl.1 rfl (lv_room (Nat.le_of_ble_eq_true rfl)) dX1_headOfQuarrel_2 ⟨Nat.le_of_ble_eq_true rfl, Nat.le_of_ble_eq_true rfl⟩) (fun r_1 v_1 H locs hw_1 hP hD hS => ?_)
  obtain ⟨-, hu_1, hw_1⟩ := hw_1
  replace hu_1 := hu_1.symm
  subst hu_1
  refine lv_istore_n (lv' := [(2, .int r_1), (0, .ref (ad 13)), (1, .int x0)]) hx hb dX1_headOfQuarrel_5 rfl hl (by decide) rfl (fun ls hl => ?_)
  refine lv_iconst (v := 0) hx hb dX1_headOfQuarrel_6 (by decide) ?_
  refine lv_istore_n (lv' := [(3, .int 0), (2, .int r_1), (0, .ref (ad 13)), (1, .int x0)]) hx hb dX1_headOfQuarrel_7 rfl hl (by decide) rfl (fun ls hl => ?_)
  have hc_2 : ∀ (n : Nat) (y2_3 : Int32) (H : Heap) (locs : List Loc), 0 ≤ y2_3.toInt → y2_3.toInt ≤ 5 → (hF r_1 y2_3.toNatClampNeg = y2_3.toNatClampNeg) → (y2_3.toInt ≤ x0.toInt) → (6 - y2_3.toInt).toNat < n → va_P (dC, dI) vwCl (wl ad kv cy N v) H → va_D A (wl ad kv cy N v) → va_S A s.heap H locs → ∀ ls : Array Slot, lv_has ls 4 [(3, .int y2_3), (2, .int r_1), (0, .ref (ad 13)), (1, .int x0)] → W p l e (headSpec wsX1_headOfQuarrel ({ frames := 2, cells := 0, slots := 0, locals := 128 })).room s m [Value.ref (ad 13), Value.int x0].toArray below meth c H locs 0 0 (MQ below (va_Qi (fun (r : Int32) (u : Nat → Nat → Int32) => Iv u ∧ u = v ∧ r.toInt = ((hF (qB (fun c => v (29 + 15 * c) 4) (v 13 2).toNatClampNeg x0) x0.toNatClampNeg : Nat) : Int)) (fun u t => ex_Pst dC dI A (wl ad kv cy N u) t) A) [Value.ref (ad 13), Value.int x0].toArray s 0 0 A) (F0 m 8 ls []) := by
    intro n
    induction n with
    | zero =>
      intro y2_3 H locs ay2_3 by2_3 hi2_0 hi2_1 hm_2 hP hD hS ls hl
      exact absurd hm_2 (by omega)
    | succ n ih_2 =>
      intro y2_3 H locs ay2_3 by2_3 hi2_0 hi2_1 hm_2 hP hD hS ls hl
      refine lv_iload_n hx hb dX1_headOfQuarrel_8 rfl (lv_at hl 0 rfl) ?_
      refine lv_iload_n hx hb dX1_headOfQuarrel_9 rfl (lv_at hl 3 rfl) ?_
      refine lv_icmp_ge (tgt := 29) hx hb dX1_headOfQuarrel_10 (by decide) (fun c_3 => ?_) (fun c_3 => ?_)
      · have tc_3 : y2_3.toInt ≥ x0.toInt := Int32.le_iff_toInt_le.mp c_3
        refine lv_iload_n hx hb dX1_headOfQuarrel_29 rfl (lv_at hl 3 rfl) ?_
        have zn_y2_3 : (y2_3.toNatClampNeg : Int) = y2_3.toInt := t_nn (by omega)
        exact W.iret (v := x0) hx hb hr (fun t ht hW => ⟨⟨x0, v, rfl, ⟨hv, rfl, by rw [← hw_1, show x0.toNatClampNeg = y2_3.toNatClampNeg from by omega, hi2_0]; omega⟩, by rw [ht]; exact hP, hD⟩, hS.F ht⟩) hS.2.2 dX1_headOfQuarrel_30
      · have tc_3 : y2_3.toInt < x0.toInt := Int32.lt_iff_toInt_lt.mp (Int32.not_le.mp c_3)
        refine lv_iload_n hx hb dX1_headOfQuarrel_13 rfl (lv_at hl 1 rfl) ?_
        refine lv_iload_n hx hb dX1_headOfQuarrel_14 rfl (lv_at hl 0 rfl) ?_
        refine yc_p hP hS (va_runSN (As := [.int r_1, .int y2_3]) (rest := []) ⟨hx, hb, hml, hown, hts⟩ (e_X7_hasBit l r_1 y2_3) ⟨va_cnB 2 hts gX1_headOfQuarrel_X7_hasBit_n51 rfl rfl rfl hE.2.2.2.2.2.2.2.2.2.2.1 (hts (.initialized RX7) fwX1_headOfQuarrel_10) (by decide +kernel) ⟨Nat.le_of_ble_eq_true rfl, Nat.le_of_ble_eq_true rfl⟩, (hts (.static yX7_hasBit) fwX1_headOfQuarrel_9), trivial⟩ ex_preP rfl rfl hl.1 rfl (lv_room (Nat.le_of_ble_eq_true rfl)) dX1_headOfQuarrel_15 ⟨Nat.le_of_ble_eq_true rfl, Nat.le_of_ble_eq_true rfl⟩) (fun r_4 H locs hw_4 hP hS => ?_)
        rcases hw_4 with ⟨rfl, hh_5⟩ | ⟨rfl, hh_5⟩
        · refine lv_if_eq (tgt := 23) hx hb dX1_headOfQuarrel_18 (by decide) (fun c9 => absurd c9 (by decide)) (fun _ => ?_)
          refine lv_iload_n hx hb dX1_headOfQuarrel_21 rfl (lv_at hl 0 rfl) ?_
          have zn_y2_3 : (y2_3.toNatClampNeg : Int) = y2_3.toInt := t_nn (by omega)
          exact W.iret (v := y2_3) hx hb hr (fun t ht hW => ⟨⟨y2_3, v, rfl, ⟨hv, rfl, by rw [← hw_1, hF_hit hi2_0 (by unfold bt; rw [← ofn (x := y2_3) (by omega)]; exact hh_5) x0.toNatClampNeg (by omega)]; omega⟩, by rw [ht]; exact hP, hD⟩, hS.F ht⟩) hS.2.2 dX1_headOfQuarrel_22
        · refine lv_if_eq (tgt := 23) hx hb dX1_headOfQuarrel_18 (by decide) (fun _ => ?_) (fun c9 => absurd c9 (by decide))
          obtain ⟨x_6, ex_6⟩ : ∃ y : Int32, y = y2_3 + 1 := ⟨_, rfl⟩
          refine lv_iinc (v := x_6) (lv' := [(3, .int x_6), (2, .int r_1), (0, .ref (ad 13)), (1, .int x0)]) hx hb dX1_headOfQuarrel_23 hl (k := 0) rfl (by rw [ex_6]; rfl) (by decide) rfl (fun ls hl => ?_)
          have k_1 : (1 : Int32).toInt = 1 := by decide
          have tx_6 : x_6.toInt = y2_3.toInt + (1 : Int32).toInt := by rw [ex_6]; exact t_add ⟨by omega, by omega⟩
          refine lv_goto (tgt := 8) hx hb dX1_headOfQuarrel_26 (by decide) ?_
          have zn_x_6 : (x_6.toNatClampNeg : Int) = x_6.toInt := t_nn (by omega)
          have zn_y2_3 : (y2_3.toNatClampNeg : Int) = y2_3.toInt := t_nn (by omega)
          exact ih_2 x_6 _ _ (by omega) (by omega) (by rw [show x_6.toNatClampNeg = y2_3.toNatClampNeg + 1 from by omega]; exact hF_no hi2_0 (fun q => hh_5 (by unfold bt at q; rw [← ofn (x := y2_3) (by omega)] at q; exact q))) (by omega) (by omega) hP hD hS ls (lv_sub hl [0, 1, 2, 3] rfl)
  have k_0 : (0 : Int32).toInt = 0 := by decide
  exact hc_2 ((6 - (0 : Int32).toInt).toNat + 1) 0 _ _ (by omega) (by omega) (rfl) (by omega) (by omega) hP hD hS ls (lv_sub hl [0, 1, 2, 3] rfl)

set_option maxHeartbeats 4000000 in
set_option maxRecDepth 100000 in
theorem e_X7_of (l : Launch) (dC : Nat → ClassId) (dI : Nat → Nat → Nat) (cy : Nat → ClassId) (sz : Nat) (ad : Nat → Nat) (kv : Value) (N : Nat) (hN : 119 ≤ N) (v : Nat → Nat → Int32) (hv : Iv v) (x0 x1 : Int32) : Met l yX7_of wsX7_of ({ frames := 3, cells := 0, slots := 0, locals := 192 }) (va_Pc [.ref (ad 0), .int x0, .int x1] (ex_Pre dC dI cy sz (wl ad kv cy N v))) (va_Qi (fun (r : Int32) (u : Nat → Nat → Int32) => Iv u ∧ (¬ (0 ≤ x0.toInt ∧ x0.toInt < (v 13 2).toInt) → (r = -1) ∧ u = v) ∧ ((0 ≤ x0.toInt ∧ x0.toInt < (v 13 2).toInt) ∧ x1.toInt = 0 → (r = v (30 + 15 * x0.toNatClampNeg) 0) ∧ u = v) ∧ ((0 ≤ x0.toInt ∧ x0.toInt < (v 13 2).toInt) ∧ x1.toInt = 1 → (r = v (30 + 15 * x0.toNatClampNeg) 1) ∧ u = v) ∧ ((0 ≤ x0.toInt ∧ x0.toInt < (v 13 2).toInt) ∧ x1.toInt = 2 → (r = v (29 + 15 * x0.toNatClampNeg) 0) ∧ u = v) ∧ ((0 ≤ x0.toInt ∧ x0.toInt < (v 13 2).toInt) ∧ x1.toInt = 3 → (((v (29 + 15 * x0.toNatClampNeg) 0).toInt = 1 → r = v (29 + 15 * x0.toNatClampNeg) 1) ∧ ((v (29 + 15 * x0.toNatClampNeg) 0).toInt ≠ 1 → r = -5)) ∧ u = v) ∧ ((0 ≤ x0.toInt ∧ x0.toInt < (v 13 2).toInt) ∧ x1.toInt = 4 → (r = v (29 + 15 * x0.toNatClampNeg) 2) ∧ u = v) ∧ ((0 ≤ x0.toInt ∧ x0.toInt < (v 13 2).toInt) ∧ x1.toInt = 5 → (r.toInt = ((hF (qB (fun c => v (29 + 15 * c) 4) (v 13 2).toNatClampNeg x0) x0.toNatClampNeg : Nat) : Int)) ∧ u = v) ∧ ((0 ≤ x0.toInt ∧ x0.toInt < (v 13 2).toInt) ∧ x1.toInt = 6 → (r = bcF (qB (fun c => v (29 + 15 * c) 4) (v 13 2).toNatClampNeg x0)) ∧ u = v) ∧ ((0 ≤ x0.toInt ∧ x0.toInt < (v 13 2).toInt) ∧ x1.toInt = 7 → (r = v (29 + 15 * x0.toNatClampNeg) 3) ∧ u = v) ∧ ((0 ≤ x0.toInt ∧ x0.toInt < (v 13 2).toInt) ∧ (x1.toInt < 0 ∨ 7 < x1.toInt) → (r = -1) ∧ u = v)) (fun u t => ex_Pst dC dI (va_A (wl ad kv cy N v) sz) (wl ad kv cy N u) t) (va_A (wl ad kv cy N v) sz)) 0 0 (va_A (wl ad kv cy N v) sz) := by
  refine Met.ofW (cc := cX7_of) (maxL := 4) (ret := (some .int)) (by decide) rfl ?_
  intro p e s m args below meth c s₁ B hml hv
  obtain ⟨rfl, hsz, hE, hP, hK, hD0⟩ := hv
  have hx := B.exec
  have hb := B.bytes
  have hr := B.returns
  have hts := atoms_spec (ws := wsX7_of) B.pre
  have hown : s.vm.findClass RX7 = some m.cls := findClass_of_methodNamed B.named
  have hlocks := B.notSynchronized
  subst hsz
  have hD := hD0.self (sz := s.heap.size)
  generalize hAe : va_A (wl ad kv cy N v) s.heap.size = A at hD ⊢
  have hA : ∀ q : Nat, s.heap.size ≤ q → A q := fun q h => by rw [← hAe]; exact Or.inr h
  have hS : va_S A s.heap s.heap [] := va_S.rf
  have hP : va_P (dC, dI) vwCl (wl ad kv cy N v) s.heap := hP
  have hl := lv_entry ([.ref (ad 0), .int x0, .int x1]) (n := 4) (Nat.le_of_ble_eq_true rfl)
  rw [lg_entry_eq]
  generalize (lg_sl ([.ref (ad 0), .int x0, .int x1]) ++ List.replicate (4 - (lg_sl ([.ref (ad 0), .int x0, .int x1])).length) Slot.unset).toArray = ls at hl ⊢
  have hl : lv_has ls 4 [(0, .ref (ad 0)), (1, .int x0), (2, .int x1)] := hl
  refine lv_aload_n hx hb dX7_of_0 rfl (lv_at hl 0 rfl) ?_
  refine lv_iload_n hx hb dX7_of_1 rfl (lv_at hl 1 rfl) ?_
  refine yw_i (w1 := fun (u : Nat → Nat → Int32) => wl ad kv cy N u) hD hS hA (va_runV (As := [.int x0]) (rest := []) ⟨hx, hb, hml, hown, hts⟩ (g_X7_isCase l dC dI cy _ ad kv N hN v hv x0) (cwV 1 hts gX7_of_X7_isCase rfl rfl rfl hd_V_X7_isCase_1 ⟨Nat.le_of_ble_eq_true rfl, Nat.le_of_ble_eq_true rfl⟩) (yw_preV hE hK hP hD (ci := 7) (q := (RX7, TX7, 5)) (q0 := 0) rfl (wl_at (by omega) (ce_0 (by decide)))) rfl rfl hl.1 rfl (lv_room (Nat.le_of_ble_eq_true rfl)) dX7_of_2 ⟨Nat.le_of_ble_eq_true rfl, Nat.le_of_ble_eq_true rfl⟩) (fun r_1 v_1 H locs hw_1 hP hD hS => ?_)
  obtain ⟨-, hu_1, hw_1⟩ := hw_1
  replace hu_1 := hu_1.symm
  subst hu_1
  rcases hw_1 with ⟨rfl, ha_2⟩ | ⟨rfl, ha_2⟩
  · have hb_2 := hv.at (k := 13) (j := 2) (K := 3) (by decide) rfl
    have hj_2 : 0 ≤ x0.toInt ∧ x0.toInt ≤ 5 := ⟨by omega, by omega⟩
    refine lv_if_ne (tgt := 10) hx hb dX7_of_5 (by decide) (fun _ => ?_) (fun c9 => absurd c9 (by decide))
    refine lv_aload_n hx hb dX7_of_10 rfl (lv_at hl 0 rfl) ?_
    refine va_get (D := (dC, dI)) (ci := 7) (v := .ref (ad 13)) (C := RX7) (T := TX7) (N := 5) hx hb hts iwX7_of_X7 hown hK hP (0) (wl_at (by omega) (ce_0 (by decide))) rfl 0 (by decide) (hts (.fieldLink RX7 12 "QuietStairs" "now" "LQuietStairs$House;") fwX7_of_1) (fun _ h9 => h9) rfl dX7_of_11 ?_
    refine va_get (D := (dC, dI)) (ci := 1) (v := .ref (ad 16)) (C := RX1) (T := TX1) (N := 7) hx hb hts iwX7_of_X1 hown hK hP (13) (wl_at (by omega) (ce_3 (by decide))) rfl 6 (by decide) (hts (.fieldLink RX7 86 "QuietStairs$House" "cases" "[LQuietStairs$Case;") fwX7_of_2) (fun _ h9 => h9) rfl dX7_of_14 ?_
    refine lv_iload_n hx hb dX7_of_17 rfl (lv_at hl 1 rfl) ?_
    have zn_x0 : (x0.toNatClampNeg : Int) = x0.toInt := t_nn (by omega)
    have hx_3 : x0.toNatClampNeg < 6 := by omega
    refine va_aldq hx hb hK hP (16) 3 (wl_at (by omega) (ce_6 (by decide))) rfl (vp_in_iff.mpr ⟨by omega, by omega⟩) dX7_of_18 ?_
    refine W.eq (g2 := F0 m 19 ls [.ref (ad (29 + 15 * x0.toNatClampNeg))]) (by rw [if_pos hx_3, show 16 + 13 + 15 * x0.toNatClampNeg = 29 + 15 * x0.toNatClampNeg from by omega]; rfl) ?_
    refine lv_astore_n (lv' := [(3, .ref (ad (29 + 15 * x0.toNatClampNeg))), (0, .ref (ad 0)), (1, .int x0), (2, .int x1)]) hx hb dX7_of_19 rfl hl (by decide) rfl (fun ls hl => ?_)
    refine lv_iload_n hx hb dX7_of_20 rfl (lv_at hl 3 rfl) ?_
    rcases sw_8 x1 with hsw | hsw | hsw | hsw | hsw | hsw | hsw | hsw | hsw
    · refine lv_tableOut (tgt := 136) hx hb dX7_of_21 hsw (by decide) ?_
      refine lv_iconst (v := (-1)) hx hb dX7_of_136 (by decide) ?_
      have hpost : (¬ (0 ≤ x0.toInt ∧ x0.toInt < (v 13 2).toInt) → (((-1) : Int32) = -1) ∧ v = v) ∧ ((0 ≤ x0.toInt ∧ x0.toInt < (v 13 2).toInt) ∧ x1.toInt = 0 → (((-1) : Int32) = v (30 + 15 * x0.toNatClampNeg) 0) ∧ v = v) ∧ ((0 ≤ x0.toInt ∧ x0.toInt < (v 13 2).toInt) ∧ x1.toInt = 1 → (((-1) : Int32) = v (30 + 15 * x0.toNatClampNeg) 1) ∧ v = v) ∧ ((0 ≤ x0.toInt ∧ x0.toInt < (v 13 2).toInt) ∧ x1.toInt = 2 → (((-1) : Int32) = v (29 + 15 * x0.toNatClampNeg) 0) ∧ v = v) ∧ ((0 ≤ x0.toInt ∧ x0.toInt < (v 13 2).toInt) ∧ x1.toInt = 3 → (((v (29 + 15 * x0.toNatClampNeg) 0).toInt = 1 → ((-1) : Int32) = v (29 + 15 * x0.toNatClampNeg) 1) ∧ ((v (29 + 15 * x0.toNatClampNeg) 0).toInt ≠ 1 → ((-1) : Int32) = -5)) ∧ v = v) ∧ ((0 ≤ x0.toInt ∧ x0.toInt < (v 13 2).toInt) ∧ x1.toInt = 4 → (((-1) : Int32) = v (29 + 15 * x0.toNatClampNeg) 2) ∧ v = v) ∧ ((0 ≤ x0.toInt ∧ x0.toInt < (v 13 2).toInt) ∧ x1.toInt = 5 → (((-1) : Int32).toInt = ((hF (qB (fun c => v (29 + 15 * c) 4) (v 13 2).toNatClampNeg x0) x0.toNatClampNeg : Nat) : Int)) ∧ v = v) ∧ ((0 ≤ x0.toInt ∧ x0.toInt < (v 13 2).toInt) ∧ x1.toInt = 6 → (((-1) : Int32) = bcF (qB (fun c => v (29 + 15 * c) 4) (v 13 2).toNatClampNeg x0)) ∧ v = v) ∧ ((0 ≤ x0.toInt ∧ x0.toInt < (v 13 2).toInt) ∧ x1.toInt = 7 → (((-1) : Int32) = v (29 + 15 * x0.toNatClampNeg) 3) ∧ v = v) ∧ ((0 ≤ x0.toInt ∧ x0.toInt < (v 13 2).toInt) ∧ (x1.toInt < 0 ∨ 7 < x1.toInt) → (((-1) : Int32) = -1) ∧ v = v) := by
        refine ⟨fun hq => ?_, fun hq => ?_, fun hq => ?_, fun hq => ?_, fun hq => ?_, fun hq => ?_, fun hq => ?_, fun hq => ?_, fun hq => ?_, fun hq => ?_⟩
        · exfalso; omega
        · exfalso; omega
        · exfalso; omega
        · exfalso; omega
        · exfalso; omega
        · exfalso; omega
        · exfalso; omega
        · exfalso; omega
        · exfalso; omega
        · exact ⟨rfl, rfl⟩
      exact W.iret (v := (-1)) hx hb hr (fun t ht hW => ⟨⟨(-1), v, rfl, ⟨hv, hpost⟩, by rw [ht]; exact hP, hD⟩, hS.F ht⟩) hS.2.2 dX7_of_137
    · refine lv_tableIn (off := 47) (tgt := 68) hx hb dX7_of_21 (by rw [hsw]; decide) (by rw [hsw]; decide) (by rw [hsw]; decide) (by decide) ?_
      have k_0 : (0 : Int32).toInt = 0 := by decide
      have tsw : x1.toInt = 0 := by rw [hsw]; decide
      refine lv_aload_n hx hb dX7_of_68 rfl (lv_at hl 0 rfl) ?_
      refine va_get (D := (dC, dI)) (ci := 0) (v := .ref (ad (29 + 15 * x0.toNatClampNeg + 1))) (C := RX0) (T := TX0) (N := 11) hx hb hts iwX7_of_X0 hown hK hP (29 + 15 * x0.toNatClampNeg) (wl_at (by omega) (ce_9 (kd_c _ hx_3).1.1)) rfl 6 (by decide) (hts (.fieldLink RX7 111 "QuietStairs$Case" "parties" "[I") fwX7_of_3) (fun _ h9 => h9) rfl dX7_of_69 ?_
      refine W.eq (g2 := F0 m 72 ls [.ref (ad (30 + 15 * x0.toNatClampNeg))]) (by rw [show 29 + 15 * x0.toNatClampNeg + 1 = 30 + 15 * x0.toNatClampNeg from by omega]) ?_
      refine lv_iconst (v := 0) hx hb dX7_of_72 (by decide) ?_
      refine va_iald hx hb hK hP (30 + 15 * x0.toNatClampNeg) 0 (wl_at (by omega) (ce_10 (kd_c _ hx_3).1.2.1)) rfl (by unfold vp_in; decide) dX7_of_73 ?_
      refine lv_topi (fun x_4 ex_4 => ?_)
      have ex_4 : x_4 = v (30 + 15 * x0.toNatClampNeg) 0 := ex_4
      have bzx_4 : 0 ≤ x_4.toInt ∧ x_4.toInt ≤ 7 := by rw [ex_4]; exact hv.at (K := 10) (kd_c _ hx_3).1.2.1 rfl
      have qx_4 : x_4.toInt = (v (30 + 15 * x0.toNatClampNeg) (0)).toInt := congrArg Int32.toInt ex_4
      have hpost : (¬ (0 ≤ x0.toInt ∧ x0.toInt < (v 13 2).toInt) → (x_4 = -1) ∧ v = v) ∧ ((0 ≤ x0.toInt ∧ x0.toInt < (v 13 2).toInt) ∧ x1.toInt = 0 → (x_4 = v (30 + 15 * x0.toNatClampNeg) 0) ∧ v = v) ∧ ((0 ≤ x0.toInt ∧ x0.toInt < (v 13 2).toInt) ∧ x1.toInt = 1 → (x_4 = v (30 + 15 * x0.toNatClampNeg) 1) ∧ v = v) ∧ ((0 ≤ x0.toInt ∧ x0.toInt < (v 13 2).toInt) ∧ x1.toInt = 2 → (x_4 = v (29 + 15 * x0.toNatClampNeg) 0) ∧ v = v) ∧ ((0 ≤ x0.toInt ∧ x0.toInt < (v 13 2).toInt) ∧ x1.toInt = 3 → (((v (29 + 15 * x0.toNatClampNeg) 0).toInt = 1 → x_4 = v (29 + 15 * x0.toNatClampNeg) 1) ∧ ((v (29 + 15 * x0.toNatClampNeg) 0).toInt ≠ 1 → x_4 = -5)) ∧ v = v) ∧ ((0 ≤ x0.toInt ∧ x0.toInt < (v 13 2).toInt) ∧ x1.toInt = 4 → (x_4 = v (29 + 15 * x0.toNatClampNeg) 2) ∧ v = v) ∧ ((0 ≤ x0.toInt ∧ x0.toInt < (v 13 2).toInt) ∧ x1.toInt = 5 → (x_4.toInt = ((hF (qB (fun c => v (29 + 15 * c) 4) (v 13 2).toNatClampNeg x0) x0.toNatClampNeg : Nat) : Int)) ∧ v = v) ∧ ((0 ≤ x0.toInt ∧ x0.toInt < (v 13 2).toInt) ∧ x1.toInt = 6 → (x_4 = bcF (qB (fun c => v (29 + 15 * c) 4) (v 13 2).toNatClampNeg x0)) ∧ v = v) ∧ ((0 ≤ x0.toInt ∧ x0.toInt < (v 13 2).toInt) ∧ x1.toInt = 7 → (x_4 = v (29 + 15 * x0.toNatClampNeg) 3) ∧ v = v) ∧ ((0 ≤ x0.toInt ∧ x0.toInt < (v 13 2).toInt) ∧ (x1.toInt < 0 ∨ 7 < x1.toInt) → (x_4 = -1) ∧ v = v) := by
        refine ⟨fun hq => ?_, fun hq => ?_, fun hq => ?_, fun hq => ?_, fun hq => ?_, fun hq => ?_, fun hq => ?_, fun hq => ?_, fun hq => ?_, fun hq => ?_⟩
        · exfalso; omega
        · exact ⟨by rw [ex_4], rfl⟩
        · exfalso; omega
        · exfalso; omega
        · exfalso; omega
        · exfalso; omega
        · exfalso; omega
        · exfalso; omega
        · exfalso; omega
        · exfalso; omega
      exact W.iret (v := x_4) hx hb hr (fun t ht hW => ⟨⟨x_4, v, rfl, ⟨hv, hpost⟩, by rw [ht]; exact hP, hD⟩, hS.F ht⟩) hS.2.2 dX7_of_74
    · refine lv_tableIn (off := 54) (tgt := 75) hx hb dX7_of_21 (by rw [hsw]; decide) (by rw [hsw]; decide) (by rw [hsw]; decide) (by decide) ?_
      have k_1 : (1 : Int32).toInt = 1 := by decide
      have tsw : x1.toInt = 1 := by rw [hsw]; decide
      refine lv_aload_n hx hb dX7_of_75 rfl (lv_at hl 0 rfl) ?_
      refine va_get (D := (dC, dI)) (ci := 0) (v := .ref (ad (29 + 15 * x0.toNatClampNeg + 1))) (C := RX0) (T := TX0) (N := 11) hx hb hts iwX7_of_X0 hown hK hP (29 + 15 * x0.toNatClampNeg) (wl_at (by omega) (ce_9 (kd_c _ hx_3).1.1)) rfl 6 (by decide) (hts (.fieldLink RX7 111 "QuietStairs$Case" "parties" "[I") fwX7_of_3) (fun _ h9 => h9) rfl dX7_of_76 ?_
      refine W.eq (g2 := F0 m 79 ls [.ref (ad (30 + 15 * x0.toNatClampNeg))]) (by rw [show 29 + 15 * x0.toNatClampNeg + 1 = 30 + 15 * x0.toNatClampNeg from by omega]) ?_
      refine lv_iconst (v := 1) hx hb dX7_of_79 (by decide) ?_
      refine va_iald hx hb hK hP (30 + 15 * x0.toNatClampNeg) 0 (wl_at (by omega) (ce_10 (kd_c _ hx_3).1.2.1)) rfl (by unfold vp_in; decide) dX7_of_80 ?_
      refine lv_topi (fun x_4 ex_4 => ?_)
      have ex_4 : x_4 = v (30 + 15 * x0.toNatClampNeg) 1 := ex_4
      have bzx_4 : 0 ≤ x_4.toInt ∧ x_4.toInt ≤ 7 := by rw [ex_4]; exact hv.at (K := 10) (kd_c _ hx_3).1.2.1 rfl
      have qx_4 : x_4.toInt = (v (30 + 15 * x0.toNatClampNeg) (1)).toInt := congrArg Int32.toInt ex_4
      have hpost : (¬ (0 ≤ x0.toInt ∧ x0.toInt < (v 13 2).toInt) → (x_4 = -1) ∧ v = v) ∧ ((0 ≤ x0.toInt ∧ x0.toInt < (v 13 2).toInt) ∧ x1.toInt = 0 → (x_4 = v (30 + 15 * x0.toNatClampNeg) 0) ∧ v = v) ∧ ((0 ≤ x0.toInt ∧ x0.toInt < (v 13 2).toInt) ∧ x1.toInt = 1 → (x_4 = v (30 + 15 * x0.toNatClampNeg) 1) ∧ v = v) ∧ ((0 ≤ x0.toInt ∧ x0.toInt < (v 13 2).toInt) ∧ x1.toInt = 2 → (x_4 = v (29 + 15 * x0.toNatClampNeg) 0) ∧ v = v) ∧ ((0 ≤ x0.toInt ∧ x0.toInt < (v 13 2).toInt) ∧ x1.toInt = 3 → (((v (29 + 15 * x0.toNatClampNeg) 0).toInt = 1 → x_4 = v (29 + 15 * x0.toNatClampNeg) 1) ∧ ((v (29 + 15 * x0.toNatClampNeg) 0).toInt ≠ 1 → x_4 = -5)) ∧ v = v) ∧ ((0 ≤ x0.toInt ∧ x0.toInt < (v 13 2).toInt) ∧ x1.toInt = 4 → (x_4 = v (29 + 15 * x0.toNatClampNeg) 2) ∧ v = v) ∧ ((0 ≤ x0.toInt ∧ x0.toInt < (v 13 2).toInt) ∧ x1.toInt = 5 → (x_4.toInt = ((hF (qB (fun c => v (29 + 15 * c) 4) (v 13 2).toNatClampNeg x0) x0.toNatClampNeg : Nat) : Int)) ∧ v = v) ∧ ((0 ≤ x0.toInt ∧ x0.toInt < (v 13 2).toInt) ∧ x1.toInt = 6 → (x_4 = bcF (qB (fun c => v (29 + 15 * c) 4) (v 13 2).toNatClampNeg x0)) ∧ v = v) ∧ ((0 ≤ x0.toInt ∧ x0.toInt < (v 13 2).toInt) ∧ x1.toInt = 7 → (x_4 = v (29 + 15 * x0.toNatClampNeg) 3) ∧ v = v) ∧ ((0 ≤ x0.toInt ∧ x0.toInt < (v 13 2).toInt) ∧ (x1.toInt < 0 ∨ 7 < x1.toInt) → (x_4 = -1) ∧ v = v) := by
        refine ⟨fun hq => ?_, fun hq => ?_, fun hq => ?_, fun hq => ?_, fun hq => ?_, fun hq => ?_, fun hq => ?_, fun hq => ?_, fun hq => ?_, fun hq => ?_⟩
        · exfalso; omega
        · exfalso; omega
        · exact ⟨by rw [ex_4], rfl⟩
        · exfalso; omega
        · exfalso; omega
        · exfalso; omega
        · exfalso; omega
        · exfalso; omega
        · exfalso; omega
        · exfalso; omega
      exact W.iret (v := x_4) hx hb hr (fun t ht hW => ⟨⟨x_4, v, rfl, ⟨hv, hpost⟩, by rw [ht]; exact hP, hD⟩, hS.F ht⟩) hS.2.2 dX7_of_81
    · refine lv_tableIn (off := 61) (tgt := 82) hx hb dX7_of_21 (by rw [hsw]; decide) (by rw [hsw]; decide) (by rw [hsw]; decide) (by decide) ?_
      have k_2 : (2 : Int32).toInt = 2 := by decide
      have tsw : x1.toInt = 2 := by rw [hsw]; decide
      refine lv_aload_n hx hb dX7_of_82 rfl (lv_at hl 0 rfl) ?_
      refine va_get (D := (dC, dI)) (ci := 0) (v := .int (v (29 + 15 * x0.toNatClampNeg) 0)) (C := RX0) (T := TX0) (N := 11) hx hb hts iwX7_of_X0 hown hK hP (29 + 15 * x0.toNatClampNeg) (wl_at (by omega) (ce_9 (kd_c _ hx_3).1.1)) rfl 0 (by decide) (hts (.fieldLink RX7 99 "QuietStairs$Case" "state" "I") fwX7_of_4) (fun _ h9 => h9) rfl dX7_of_83 ?_
      refine lv_topi (fun x_4 ex_4 => ?_)
      have qx_4 : x_4.toInt = (v (29 + 15 * x0.toNatClampNeg) (0)).toInt := congrArg Int32.toInt ex_4
      have hpost : (¬ (0 ≤ x0.toInt ∧ x0.toInt < (v 13 2).toInt) → (x_4 = -1) ∧ v = v) ∧ ((0 ≤ x0.toInt ∧ x0.toInt < (v 13 2).toInt) ∧ x1.toInt = 0 → (x_4 = v (30 + 15 * x0.toNatClampNeg) 0) ∧ v = v) ∧ ((0 ≤ x0.toInt ∧ x0.toInt < (v 13 2).toInt) ∧ x1.toInt = 1 → (x_4 = v (30 + 15 * x0.toNatClampNeg) 1) ∧ v = v) ∧ ((0 ≤ x0.toInt ∧ x0.toInt < (v 13 2).toInt) ∧ x1.toInt = 2 → (x_4 = v (29 + 15 * x0.toNatClampNeg) 0) ∧ v = v) ∧ ((0 ≤ x0.toInt ∧ x0.toInt < (v 13 2).toInt) ∧ x1.toInt = 3 → (((v (29 + 15 * x0.toNatClampNeg) 0).toInt = 1 → x_4 = v (29 + 15 * x0.toNatClampNeg) 1) ∧ ((v (29 + 15 * x0.toNatClampNeg) 0).toInt ≠ 1 → x_4 = -5)) ∧ v = v) ∧ ((0 ≤ x0.toInt ∧ x0.toInt < (v 13 2).toInt) ∧ x1.toInt = 4 → (x_4 = v (29 + 15 * x0.toNatClampNeg) 2) ∧ v = v) ∧ ((0 ≤ x0.toInt ∧ x0.toInt < (v 13 2).toInt) ∧ x1.toInt = 5 → (x_4.toInt = ((hF (qB (fun c => v (29 + 15 * c) 4) (v 13 2).toNatClampNeg x0) x0.toNatClampNeg : Nat) : Int)) ∧ v = v) ∧ ((0 ≤ x0.toInt ∧ x0.toInt < (v 13 2).toInt) ∧ x1.toInt = 6 → (x_4 = bcF (qB (fun c => v (29 + 15 * c) 4) (v 13 2).toNatClampNeg x0)) ∧ v = v) ∧ ((0 ≤ x0.toInt ∧ x0.toInt < (v 13 2).toInt) ∧ x1.toInt = 7 → (x_4 = v (29 + 15 * x0.toNatClampNeg) 3) ∧ v = v) ∧ ((0 ≤ x0.toInt ∧ x0.toInt < (v 13 2).toInt) ∧ (x1.toInt < 0 ∨ 7 < x1.toInt) → (x_4 = -1) ∧ v = v) := by
        refine ⟨fun hq => ?_, fun hq => ?_, fun hq => ?_, fun hq => ?_, fun hq => ?_, fun hq => ?_, fun hq => ?_, fun hq => ?_, fun hq => ?_, fun hq => ?_⟩
        · exfalso; omega
        · exfalso; omega
        · exfalso; omega
        · exact ⟨by rw [ex_4], rfl⟩
        · exfalso; omega
        · exfalso; omega
        · exfalso; omega
        · exfalso; omega
        · exfalso; omega
        · exfalso; omega
      exact W.iret (v := x_4) hx hb hr (fun t ht hW => ⟨⟨x_4, v, rfl, ⟨hv, hpost⟩, by rw [ht]; exact hP, hD⟩, hS.F ht⟩) hS.2.2 dX7_of_86
    · refine lv_tableIn (off := 66) (tgt := 87) hx hb dX7_of_21 (by rw [hsw]; decide) (by rw [hsw]; decide) (by rw [hsw]; decide) (by decide) ?_
      have k_3 : (3 : Int32).toInt = 3 := by decide
      have tsw : x1.toInt = 3 := by rw [hsw]; decide
      refine lv_aload_n hx hb dX7_of_87 rfl (lv_at hl 0 rfl) ?_
      refine va_get (D := (dC, dI)) (ci := 0) (v := .int (v (29 + 15 * x0.toNatClampNeg) 0)) (C := RX0) (T := TX0) (N := 11) hx hb hts iwX7_of_X0 hown hK hP (29 + 15 * x0.toNatClampNeg) (wl_at (by omega) (ce_9 (kd_c _ hx_3).1.1)) rfl 0 (by decide) (hts (.fieldLink RX7 99 "QuietStairs$Case" "state" "I") fwX7_of_4) (fun _ h9 => h9) rfl dX7_of_88 ?_
      refine lv_topi (fun x_4 ex_4 => ?_)
      have qx_4 : x_4.toInt = (v (29 + 15 * x0.toNatClampNeg) (0)).toInt := congrArg Int32.toInt ex_4
      refine lv_iconst (v := 1) hx hb dX7_of_91 (by decide) ?_
      have k_1 : (1 : Int32).toInt = 1 := by decide
      refine lv_icmp_ne (tgt := 102) hx hb dX7_of_92 (by decide) (fun c_5 => ?_) (fun c_5 => ?_)
      · have tc_5 : x_4.toInt ≠ (1 : Int32).toInt := fun q => absurd (Int32.toInt_inj.mp q) c_5
        refine lv_bipush (v := (-5)) hx hb dX7_of_102 (by decide) ?_
        have hpost : (¬ (0 ≤ x0.toInt ∧ x0.toInt < (v 13 2).toInt) → (((-5) : Int32) = -1) ∧ v = v) ∧ ((0 ≤ x0.toInt ∧ x0.toInt < (v 13 2).toInt) ∧ x1.toInt = 0 → (((-5) : Int32) = v (30 + 15 * x0.toNatClampNeg) 0) ∧ v = v) ∧ ((0 ≤ x0.toInt ∧ x0.toInt < (v 13 2).toInt) ∧ x1.toInt = 1 → (((-5) : Int32) = v (30 + 15 * x0.toNatClampNeg) 1) ∧ v = v) ∧ ((0 ≤ x0.toInt ∧ x0.toInt < (v 13 2).toInt) ∧ x1.toInt = 2 → (((-5) : Int32) = v (29 + 15 * x0.toNatClampNeg) 0) ∧ v = v) ∧ ((0 ≤ x0.toInt ∧ x0.toInt < (v 13 2).toInt) ∧ x1.toInt = 3 → (((v (29 + 15 * x0.toNatClampNeg) 0).toInt = 1 → ((-5) : Int32) = v (29 + 15 * x0.toNatClampNeg) 1) ∧ ((v (29 + 15 * x0.toNatClampNeg) 0).toInt ≠ 1 → ((-5) : Int32) = -5)) ∧ v = v) ∧ ((0 ≤ x0.toInt ∧ x0.toInt < (v 13 2).toInt) ∧ x1.toInt = 4 → (((-5) : Int32) = v (29 + 15 * x0.toNatClampNeg) 2) ∧ v = v) ∧ ((0 ≤ x0.toInt ∧ x0.toInt < (v 13 2).toInt) ∧ x1.toInt = 5 → (((-5) : Int32).toInt = ((hF (qB (fun c => v (29 + 15 * c) 4) (v 13 2).toNatClampNeg x0) x0.toNatClampNeg : Nat) : Int)) ∧ v = v) ∧ ((0 ≤ x0.toInt ∧ x0.toInt < (v 13 2).toInt) ∧ x1.toInt = 6 → (((-5) : Int32) = bcF (qB (fun c => v (29 + 15 * c) 4) (v 13 2).toNatClampNeg x0)) ∧ v = v) ∧ ((0 ≤ x0.toInt ∧ x0.toInt < (v 13 2).toInt) ∧ x1.toInt = 7 → (((-5) : Int32) = v (29 + 15 * x0.toNatClampNeg) 3) ∧ v = v) ∧ ((0 ≤ x0.toInt ∧ x0.toInt < (v 13 2).toInt) ∧ (x1.toInt < 0 ∨ 7 < x1.toInt) → (((-5) : Int32) = -1) ∧ v = v) := by
          refine ⟨fun hq => ?_, fun hq => ?_, fun hq => ?_, fun hq => ?_, fun hq => ?_, fun hq => ?_, fun hq => ?_, fun hq => ?_, fun hq => ?_, fun hq => ?_⟩
          · exfalso; omega
          · exfalso; omega
          · exfalso; omega
          · exfalso; omega
          · exact ⟨⟨fun q => absurd q (by omega), fun _ => rfl⟩, rfl⟩
          · exfalso; omega
          · exfalso; omega
          · exfalso; omega
          · exfalso; omega
          · exfalso; omega
        exact W.iret (v := (-5)) hx hb hr (fun t ht hW => ⟨⟨(-5), v, rfl, ⟨hv, hpost⟩, by rw [ht]; exact hP, hD⟩, hS.F ht⟩) hS.2.2 dX7_of_104
      · have tc_5 : x_4.toInt = (1 : Int32).toInt := by rw [c_5]
        refine lv_aload_n hx hb dX7_of_95 rfl (lv_at hl 0 rfl) ?_
        refine va_get (D := (dC, dI)) (ci := 0) (v := .int (v (29 + 15 * x0.toNatClampNeg) 1)) (C := RX0) (T := TX0) (N := 11) hx hb hts iwX7_of_X0 hown hK hP (29 + 15 * x0.toNatClampNeg) (wl_at (by omega) (ce_9 (kd_c _ hx_3).1.1)) rfl 1 (by decide) (hts (.fieldLink RX7 114 "QuietStairs$Case" "sum" "I") fwX7_of_5) (fun _ h9 => h9) rfl dX7_of_96 ?_
        refine lv_topi (fun x_6 ex_6 => ?_)
        have qx_6 : x_6.toInt = (v (29 + 15 * x0.toNatClampNeg) (1)).toInt := congrArg Int32.toInt ex_6
        refine lv_goto (tgt := 104) hx hb dX7_of_99 (by decide) ?_
        have hpost : (¬ (0 ≤ x0.toInt ∧ x0.toInt < (v 13 2).toInt) → (x_6 = -1) ∧ v = v) ∧ ((0 ≤ x0.toInt ∧ x0.toInt < (v 13 2).toInt) ∧ x1.toInt = 0 → (x_6 = v (30 + 15 * x0.toNatClampNeg) 0) ∧ v = v) ∧ ((0 ≤ x0.toInt ∧ x0.toInt < (v 13 2).toInt) ∧ x1.toInt = 1 → (x_6 = v (30 + 15 * x0.toNatClampNeg) 1) ∧ v = v) ∧ ((0 ≤ x0.toInt ∧ x0.toInt < (v 13 2).toInt) ∧ x1.toInt = 2 → (x_6 = v (29 + 15 * x0.toNatClampNeg) 0) ∧ v = v) ∧ ((0 ≤ x0.toInt ∧ x0.toInt < (v 13 2).toInt) ∧ x1.toInt = 3 → (((v (29 + 15 * x0.toNatClampNeg) 0).toInt = 1 → x_6 = v (29 + 15 * x0.toNatClampNeg) 1) ∧ ((v (29 + 15 * x0.toNatClampNeg) 0).toInt ≠ 1 → x_6 = -5)) ∧ v = v) ∧ ((0 ≤ x0.toInt ∧ x0.toInt < (v 13 2).toInt) ∧ x1.toInt = 4 → (x_6 = v (29 + 15 * x0.toNatClampNeg) 2) ∧ v = v) ∧ ((0 ≤ x0.toInt ∧ x0.toInt < (v 13 2).toInt) ∧ x1.toInt = 5 → (x_6.toInt = ((hF (qB (fun c => v (29 + 15 * c) 4) (v 13 2).toNatClampNeg x0) x0.toNatClampNeg : Nat) : Int)) ∧ v = v) ∧ ((0 ≤ x0.toInt ∧ x0.toInt < (v 13 2).toInt) ∧ x1.toInt = 6 → (x_6 = bcF (qB (fun c => v (29 + 15 * c) 4) (v 13 2).toNatClampNeg x0)) ∧ v = v) ∧ ((0 ≤ x0.toInt ∧ x0.toInt < (v 13 2).toInt) ∧ x1.toInt = 7 → (x_6 = v (29 + 15 * x0.toNatClampNeg) 3) ∧ v = v) ∧ ((0 ≤ x0.toInt ∧ x0.toInt < (v 13 2).toInt) ∧ (x1.toInt < 0 ∨ 7 < x1.toInt) → (x_6 = -1) ∧ v = v) := by
          refine ⟨fun hq => ?_, fun hq => ?_, fun hq => ?_, fun hq => ?_, fun hq => ?_, fun hq => ?_, fun hq => ?_, fun hq => ?_, fun hq => ?_, fun hq => ?_⟩
          · exfalso; omega
          · exfalso; omega
          · exfalso; omega
          · exfalso; omega
          · exact ⟨⟨fun _ => by rw [ex_6], fun q => absurd (by omega) q⟩, rfl⟩
          · exfalso; omega
          · exfalso; omega
          · exfalso; omega
          · exfalso; omega
          · exfalso; omega
        exact W.iret (v := x_6) hx hb hr (fun t ht hW => ⟨⟨x_6, v, rfl, ⟨hv, hpost⟩, by rw [ht]; exact hP, hD⟩, hS.F ht⟩) hS.2.2 dX7_of_104
    · refine lv_tableIn (off := 84) (tgt := 105) hx hb dX7_of_21 (by rw [hsw]; decide) (by rw [hsw]; decide) (by rw [hsw]; decide) (by decide) ?_
      have k_4 : (4 : Int32).toInt = 4 := by decide
      have tsw : x1.toInt = 4 := by rw [hsw]; decide
      refine lv_aload_n hx hb dX7_of_105 rfl (lv_at hl 0 rfl) ?_
      refine va_get (D := (dC, dI)) (ci := 0) (v := .int (v (29 + 15 * x0.toNatClampNeg) 2)) (C := RX0) (T := TX0) (N := 11) hx hb hts iwX7_of_X0 hown hK hP (29 + 15 * x0.toNatClampNeg) (wl_at (by omega) (ce_9 (kd_c _ hx_3).1.1)) rfl 2 (by decide) (hts (.fieldLink RX7 117 "QuietStairs$Case" "roundsOver" "I") fwX7_of_6) (fun _ h9 => h9) rfl dX7_of_106 ?_
      refine lv_topi (fun x_4 ex_4 => ?_)
      have bzx_4 : 0 ≤ x_4.toInt ∧ x_4.toInt ≤ 5 := by rw [ex_4]; exact hv.at (K := 9) (kd_c _ hx_3).1.1 rfl
      have qx_4 : x_4.toInt = (v (29 + 15 * x0.toNatClampNeg) (2)).toInt := congrArg Int32.toInt ex_4
      have hpost : (¬ (0 ≤ x0.toInt ∧ x0.toInt < (v 13 2).toInt) → (x_4 = -1) ∧ v = v) ∧ ((0 ≤ x0.toInt ∧ x0.toInt < (v 13 2).toInt) ∧ x1.toInt = 0 → (x_4 = v (30 + 15 * x0.toNatClampNeg) 0) ∧ v = v) ∧ ((0 ≤ x0.toInt ∧ x0.toInt < (v 13 2).toInt) ∧ x1.toInt = 1 → (x_4 = v (30 + 15 * x0.toNatClampNeg) 1) ∧ v = v) ∧ ((0 ≤ x0.toInt ∧ x0.toInt < (v 13 2).toInt) ∧ x1.toInt = 2 → (x_4 = v (29 + 15 * x0.toNatClampNeg) 0) ∧ v = v) ∧ ((0 ≤ x0.toInt ∧ x0.toInt < (v 13 2).toInt) ∧ x1.toInt = 3 → (((v (29 + 15 * x0.toNatClampNeg) 0).toInt = 1 → x_4 = v (29 + 15 * x0.toNatClampNeg) 1) ∧ ((v (29 + 15 * x0.toNatClampNeg) 0).toInt ≠ 1 → x_4 = -5)) ∧ v = v) ∧ ((0 ≤ x0.toInt ∧ x0.toInt < (v 13 2).toInt) ∧ x1.toInt = 4 → (x_4 = v (29 + 15 * x0.toNatClampNeg) 2) ∧ v = v) ∧ ((0 ≤ x0.toInt ∧ x0.toInt < (v 13 2).toInt) ∧ x1.toInt = 5 → (x_4.toInt = ((hF (qB (fun c => v (29 + 15 * c) 4) (v 13 2).toNatClampNeg x0) x0.toNatClampNeg : Nat) : Int)) ∧ v = v) ∧ ((0 ≤ x0.toInt ∧ x0.toInt < (v 13 2).toInt) ∧ x1.toInt = 6 → (x_4 = bcF (qB (fun c => v (29 + 15 * c) 4) (v 13 2).toNatClampNeg x0)) ∧ v = v) ∧ ((0 ≤ x0.toInt ∧ x0.toInt < (v 13 2).toInt) ∧ x1.toInt = 7 → (x_4 = v (29 + 15 * x0.toNatClampNeg) 3) ∧ v = v) ∧ ((0 ≤ x0.toInt ∧ x0.toInt < (v 13 2).toInt) ∧ (x1.toInt < 0 ∨ 7 < x1.toInt) → (x_4 = -1) ∧ v = v) := by
        refine ⟨fun hq => ?_, fun hq => ?_, fun hq => ?_, fun hq => ?_, fun hq => ?_, fun hq => ?_, fun hq => ?_, fun hq => ?_, fun hq => ?_, fun hq => ?_⟩
        · exfalso; omega
        · exfalso; omega
        · exfalso; omega
        · exfalso; omega
        · exfalso; omega
        · exact ⟨by rw [ex_4], rfl⟩
        · exfalso; omega
        · exfalso; omega
        · exfalso; omega
        · exfalso; omega
      exact W.iret (v := x_4) hx hb hr (fun t ht hW => ⟨⟨x_4, v, rfl, ⟨hv, hpost⟩, by rw [ht]; exact hP, hD⟩, hS.F ht⟩) hS.2.2 dX7_of_109
    · refine lv_tableIn (off := 89) (tgt := 110) hx hb dX7_of_21 (by rw [hsw]; decide) (by rw [hsw]; decide) (by rw [hsw]; decide) (by decide) ?_
      have k_5 : (5 : Int32).toInt = 5 := by decide
      have tsw : x1.toInt = 5 := by rw [hsw]; decide
      refine lv_aload_n hx hb dX7_of_110 rfl (lv_at hl 1 rfl) ?_
      refine va_get (D := (dC, dI)) (ci := 7) (v := .ref (ad 13)) (C := RX7) (T := TX7) (N := 5) hx hb hts iwX7_of_X7 hown hK hP (0) (wl_at (by omega) (ce_0 (by decide))) rfl 0 (by decide) (hts (.fieldLink RX7 12 "QuietStairs" "now" "LQuietStairs$House;") fwX7_of_1) (fun _ h9 => h9) rfl dX7_of_111 ?_
      refine lv_iload_n hx hb dX7_of_114 rfl (lv_at hl 2 rfl) ?_
      refine yw_i (w1 := fun (u : Nat → Nat → Int32) => wl ad kv cy N u) hD hS hA (va_runV (As := [.int x0]) (rest := []) ⟨hx, hb, hml, hown, hts⟩ (e_X1_headOfQuarrel l dC dI cy _ ad kv N hN v hv x0 ⟨by omega, by omega⟩) (cwV 1 hts gX7_of_X1_headOfQuarrel rfl rfl rfl hd_V_X1_headOfQuarrel_1 ⟨Nat.le_of_ble_eq_true rfl, Nat.le_of_ble_eq_true rfl⟩) (yw_preV hE hK hP hD (ci := 1) (q := (RX1, TX1, 7)) (q0 := 13) rfl (wl_at (by omega) (ce_3 (by decide)))) rfl rfl hl.1 rfl (lv_room (Nat.le_of_ble_eq_true rfl)) dX7_of_115 ⟨Nat.le_of_ble_eq_true rfl, Nat.le_of_ble_eq_true rfl⟩) (fun r_4 v_4 H locs hw_4 hP hD hS => ?_)
      obtain ⟨-, hu_4, hw_4⟩ := hw_4
      replace hu_4 := hu_4.symm
      subst hu_4
      have hpost : (¬ (0 ≤ x0.toInt ∧ x0.toInt < (v 13 2).toInt) → (r_4 = -1) ∧ v = v) ∧ ((0 ≤ x0.toInt ∧ x0.toInt < (v 13 2).toInt) ∧ x1.toInt = 0 → (r_4 = v (30 + 15 * x0.toNatClampNeg) 0) ∧ v = v) ∧ ((0 ≤ x0.toInt ∧ x0.toInt < (v 13 2).toInt) ∧ x1.toInt = 1 → (r_4 = v (30 + 15 * x0.toNatClampNeg) 1) ∧ v = v) ∧ ((0 ≤ x0.toInt ∧ x0.toInt < (v 13 2).toInt) ∧ x1.toInt = 2 → (r_4 = v (29 + 15 * x0.toNatClampNeg) 0) ∧ v = v) ∧ ((0 ≤ x0.toInt ∧ x0.toInt < (v 13 2).toInt) ∧ x1.toInt = 3 → (((v (29 + 15 * x0.toNatClampNeg) 0).toInt = 1 → r_4 = v (29 + 15 * x0.toNatClampNeg) 1) ∧ ((v (29 + 15 * x0.toNatClampNeg) 0).toInt ≠ 1 → r_4 = -5)) ∧ v = v) ∧ ((0 ≤ x0.toInt ∧ x0.toInt < (v 13 2).toInt) ∧ x1.toInt = 4 → (r_4 = v (29 + 15 * x0.toNatClampNeg) 2) ∧ v = v) ∧ ((0 ≤ x0.toInt ∧ x0.toInt < (v 13 2).toInt) ∧ x1.toInt = 5 → (r_4.toInt = ((hF (qB (fun c => v (29 + 15 * c) 4) (v 13 2).toNatClampNeg x0) x0.toNatClampNeg : Nat) : Int)) ∧ v = v) ∧ ((0 ≤ x0.toInt ∧ x0.toInt < (v 13 2).toInt) ∧ x1.toInt = 6 → (r_4 = bcF (qB (fun c => v (29 + 15 * c) 4) (v 13 2).toNatClampNeg x0)) ∧ v = v) ∧ ((0 ≤ x0.toInt ∧ x0.toInt < (v 13 2).toInt) ∧ x1.toInt = 7 → (r_4 = v (29 + 15 * x0.toNatClampNeg) 3) ∧ v = v) ∧ ((0 ≤ x0.toInt ∧ x0.toInt < (v 13 2).toInt) ∧ (x1.toInt < 0 ∨ 7 < x1.toInt) → (r_4 = -1) ∧ v = v) := by
        refine ⟨fun hq => ?_, fun hq => ?_, fun hq => ?_, fun hq => ?_, fun hq => ?_, fun hq => ?_, fun hq => ?_, fun hq => ?_, fun hq => ?_, fun hq => ?_⟩
        · exfalso; omega
        · exfalso; omega
        · exfalso; omega
        · exfalso; omega
        · exfalso; omega
        · exfalso; omega
        · exact ⟨hw_4, rfl⟩
        · exfalso; omega
        · exfalso; omega
        · exfalso; omega
      exact W.iret (v := r_4) hx hb hr (fun t ht hW => ⟨⟨r_4, v, rfl, ⟨hv, hpost⟩, by rw [ht]; exact hP, hD⟩, hS.F ht⟩) hS.2.2 dX7_of_118
    · refine lv_tableIn (off := 98) (tgt := 119) hx hb dX7_of_21 (by rw [hsw]; decide) (by rw [hsw]; decide) (by rw [hsw]; decide) (by decide) ?_
      have k_6 : (6 : Int32).toInt = 6 := by decide
      have tsw : x1.toInt = 6 := by rw [hsw]; decide
      refine lv_aload_n hx hb dX7_of_119 rfl (lv_at hl 1 rfl) ?_
      refine va_get (D := (dC, dI)) (ci := 7) (v := .ref (ad 13)) (C := RX7) (T := TX7) (N := 5) hx hb hts iwX7_of_X7 hown hK hP (0) (wl_at (by omega) (ce_0 (by decide))) rfl 0 (by decide) (hts (.fieldLink RX7 12 "QuietStairs" "now" "LQuietStairs$House;") fwX7_of_1) (fun _ h9 => h9) rfl dX7_of_120 ?_
      refine lv_iload_n hx hb dX7_of_123 rfl (lv_at hl 2 rfl) ?_
      refine yw_i (w1 := fun (u : Nat → Nat → Int32) => wl ad kv cy N u) hD hS hA (va_runV (As := [.int x0]) (rest := []) ⟨hx, hb, hml, hown, hts⟩ (e_X1_quarrelBits l dC dI cy _ ad kv N hN v hv x0) (cwV 1 hts gX7_of_X1_quarrelBits rfl rfl rfl hd_V_X1_quarrelBits_1 ⟨Nat.le_of_ble_eq_true rfl, Nat.le_of_ble_eq_true rfl⟩) (yw_preV hE hK hP hD (ci := 1) (q := (RX1, TX1, 7)) (q0 := 13) rfl (wl_at (by omega) (ce_3 (by decide)))) rfl rfl hl.1 rfl (lv_room (Nat.le_of_ble_eq_true rfl)) dX7_of_124 ⟨Nat.le_of_ble_eq_true rfl, Nat.le_of_ble_eq_true rfl⟩) (fun r_4 v_4 H locs hw_4 hP hD hS => ?_)
      obtain ⟨-, hu_4, hw_4⟩ := hw_4
      replace hu_4 := hu_4.symm
      subst hu_4
      refine yc_p hP hS (va_runS (As := [.int r_4]) (rest := []) ⟨hx, hb, hml, hown, hts⟩ (e_bitCount l r_4) (va_cwS 1 hts gX7_of_J6_bitCount_0f7a4 rfl rfl rfl hd_w_J6_bitCount_0f7a4_1 ⟨Nat.le_of_ble_eq_true rfl, Nat.le_of_ble_eq_true rfl⟩) ex_preP rfl rfl hl.1 rfl (lv_room (Nat.le_of_ble_eq_true rfl)) dX7_of_127 ⟨Nat.le_of_ble_eq_true rfl, Nat.le_of_ble_eq_true rfl⟩) (fun r_5 H locs hw_5 hP hS => ?_)
      have hpost : (¬ (0 ≤ x0.toInt ∧ x0.toInt < (v 13 2).toInt) → (r_5 = -1) ∧ v = v) ∧ ((0 ≤ x0.toInt ∧ x0.toInt < (v 13 2).toInt) ∧ x1.toInt = 0 → (r_5 = v (30 + 15 * x0.toNatClampNeg) 0) ∧ v = v) ∧ ((0 ≤ x0.toInt ∧ x0.toInt < (v 13 2).toInt) ∧ x1.toInt = 1 → (r_5 = v (30 + 15 * x0.toNatClampNeg) 1) ∧ v = v) ∧ ((0 ≤ x0.toInt ∧ x0.toInt < (v 13 2).toInt) ∧ x1.toInt = 2 → (r_5 = v (29 + 15 * x0.toNatClampNeg) 0) ∧ v = v) ∧ ((0 ≤ x0.toInt ∧ x0.toInt < (v 13 2).toInt) ∧ x1.toInt = 3 → (((v (29 + 15 * x0.toNatClampNeg) 0).toInt = 1 → r_5 = v (29 + 15 * x0.toNatClampNeg) 1) ∧ ((v (29 + 15 * x0.toNatClampNeg) 0).toInt ≠ 1 → r_5 = -5)) ∧ v = v) ∧ ((0 ≤ x0.toInt ∧ x0.toInt < (v 13 2).toInt) ∧ x1.toInt = 4 → (r_5 = v (29 + 15 * x0.toNatClampNeg) 2) ∧ v = v) ∧ ((0 ≤ x0.toInt ∧ x0.toInt < (v 13 2).toInt) ∧ x1.toInt = 5 → (r_5.toInt = ((hF (qB (fun c => v (29 + 15 * c) 4) (v 13 2).toNatClampNeg x0) x0.toNatClampNeg : Nat) : Int)) ∧ v = v) ∧ ((0 ≤ x0.toInt ∧ x0.toInt < (v 13 2).toInt) ∧ x1.toInt = 6 → (r_5 = bcF (qB (fun c => v (29 + 15 * c) 4) (v 13 2).toNatClampNeg x0)) ∧ v = v) ∧ ((0 ≤ x0.toInt ∧ x0.toInt < (v 13 2).toInt) ∧ x1.toInt = 7 → (r_5 = v (29 + 15 * x0.toNatClampNeg) 3) ∧ v = v) ∧ ((0 ≤ x0.toInt ∧ x0.toInt < (v 13 2).toInt) ∧ (x1.toInt < 0 ∨ 7 < x1.toInt) → (r_5 = -1) ∧ v = v) := by
        refine ⟨fun hq => ?_, fun hq => ?_, fun hq => ?_, fun hq => ?_, fun hq => ?_, fun hq => ?_, fun hq => ?_, fun hq => ?_, fun hq => ?_, fun hq => ?_⟩
        · exfalso; omega
        · exfalso; omega
        · exfalso; omega
        · exfalso; omega
        · exfalso; omega
        · exfalso; omega
        · exfalso; omega
        · exact ⟨by rw [hw_5, hw_4], rfl⟩
        · exfalso; omega
        · exfalso; omega
      exact W.iret (v := r_5) hx hb hr (fun t ht hW => ⟨⟨r_5, v, rfl, ⟨hv, hpost⟩, by rw [ht]; exact hP, hD⟩, hS.F ht⟩) hS.2.2 dX7_of_130
    · refine lv_tableIn (off := 110) (tgt := 131) hx hb dX7_of_21 (by rw [hsw]; decide) (by rw [hsw]; decide) (by rw [hsw]; decide) (by decide) ?_
      have k_7 : (7 : Int32).toInt = 7 := by decide
      have tsw : x1.toInt = 7 := by rw [hsw]; decide
      refine lv_aload_n hx hb dX7_of_131 rfl (lv_at hl 0 rfl) ?_
      refine va_get (D := (dC, dI)) (ci := 0) (v := .int (v (29 + 15 * x0.toNatClampNeg) 3)) (C := RX0) (T := TX0) (N := 11) hx hb hts iwX7_of_X0 hown hK hP (29 + 15 * x0.toNatClampNeg) (wl_at (by omega) (ce_9 (kd_c _ hx_3).1.1)) rfl 3 (by decide) (hts (.fieldLink RX7 102 "QuietStairs$Case" "weight" "I") fwX7_of_7) (fun _ h9 => h9) rfl dX7_of_132 ?_
      refine lv_topi (fun x_4 ex_4 => ?_)
      have qx_4 : x_4.toInt = (v (29 + 15 * x0.toNatClampNeg) (3)).toInt := congrArg Int32.toInt ex_4
      have hpost : (¬ (0 ≤ x0.toInt ∧ x0.toInt < (v 13 2).toInt) → (x_4 = -1) ∧ v = v) ∧ ((0 ≤ x0.toInt ∧ x0.toInt < (v 13 2).toInt) ∧ x1.toInt = 0 → (x_4 = v (30 + 15 * x0.toNatClampNeg) 0) ∧ v = v) ∧ ((0 ≤ x0.toInt ∧ x0.toInt < (v 13 2).toInt) ∧ x1.toInt = 1 → (x_4 = v (30 + 15 * x0.toNatClampNeg) 1) ∧ v = v) ∧ ((0 ≤ x0.toInt ∧ x0.toInt < (v 13 2).toInt) ∧ x1.toInt = 2 → (x_4 = v (29 + 15 * x0.toNatClampNeg) 0) ∧ v = v) ∧ ((0 ≤ x0.toInt ∧ x0.toInt < (v 13 2).toInt) ∧ x1.toInt = 3 → (((v (29 + 15 * x0.toNatClampNeg) 0).toInt = 1 → x_4 = v (29 + 15 * x0.toNatClampNeg) 1) ∧ ((v (29 + 15 * x0.toNatClampNeg) 0).toInt ≠ 1 → x_4 = -5)) ∧ v = v) ∧ ((0 ≤ x0.toInt ∧ x0.toInt < (v 13 2).toInt) ∧ x1.toInt = 4 → (x_4 = v (29 + 15 * x0.toNatClampNeg) 2) ∧ v = v) ∧ ((0 ≤ x0.toInt ∧ x0.toInt < (v 13 2).toInt) ∧ x1.toInt = 5 → (x_4.toInt = ((hF (qB (fun c => v (29 + 15 * c) 4) (v 13 2).toNatClampNeg x0) x0.toNatClampNeg : Nat) : Int)) ∧ v = v) ∧ ((0 ≤ x0.toInt ∧ x0.toInt < (v 13 2).toInt) ∧ x1.toInt = 6 → (x_4 = bcF (qB (fun c => v (29 + 15 * c) 4) (v 13 2).toNatClampNeg x0)) ∧ v = v) ∧ ((0 ≤ x0.toInt ∧ x0.toInt < (v 13 2).toInt) ∧ x1.toInt = 7 → (x_4 = v (29 + 15 * x0.toNatClampNeg) 3) ∧ v = v) ∧ ((0 ≤ x0.toInt ∧ x0.toInt < (v 13 2).toInt) ∧ (x1.toInt < 0 ∨ 7 < x1.toInt) → (x_4 = -1) ∧ v = v) := by
        refine ⟨fun hq => ?_, fun hq => ?_, fun hq => ?_, fun hq => ?_, fun hq => ?_, fun hq => ?_, fun hq => ?_, fun hq => ?_, fun hq => ?_, fun hq => ?_⟩
        · exfalso; omega
        · exfalso; omega
        · exfalso; omega
        · exfalso; omega
        · exfalso; omega
        · exfalso; omega
        · exfalso; omega
        · exfalso; omega
        · exact ⟨by rw [ex_4], rfl⟩
        · exfalso; omega
      exact W.iret (v := x_4) hx hb hr (fun t ht hW => ⟨⟨x_4, v, rfl, ⟨hv, hpost⟩, by rw [ht]; exact hP, hD⟩, hS.F ht⟩) hS.2.2 dX7_of_135
  · refine lv_if_ne (tgt := 10) hx hb dX7_of_5 (by decide) (fun c9 => absurd c9 (by decide)) (fun _ => ?_)
    refine lv_iconst (v := (-1)) hx hb dX7_of_8 (by decide) ?_
    have hpost : (¬ (0 ≤ x0.toInt ∧ x0.toInt < (v 13 2).toInt) → (((-1) : Int32) = -1) ∧ v = v) ∧ ((0 ≤ x0.toInt ∧ x0.toInt < (v 13 2).toInt) ∧ x1.toInt = 0 → (((-1) : Int32) = v (30 + 15 * x0.toNatClampNeg) 0) ∧ v = v) ∧ ((0 ≤ x0.toInt ∧ x0.toInt < (v 13 2).toInt) ∧ x1.toInt = 1 → (((-1) : Int32) = v (30 + 15 * x0.toNatClampNeg) 1) ∧ v = v) ∧ ((0 ≤ x0.toInt ∧ x0.toInt < (v 13 2).toInt) ∧ x1.toInt = 2 → (((-1) : Int32) = v (29 + 15 * x0.toNatClampNeg) 0) ∧ v = v) ∧ ((0 ≤ x0.toInt ∧ x0.toInt < (v 13 2).toInt) ∧ x1.toInt = 3 → (((v (29 + 15 * x0.toNatClampNeg) 0).toInt = 1 → ((-1) : Int32) = v (29 + 15 * x0.toNatClampNeg) 1) ∧ ((v (29 + 15 * x0.toNatClampNeg) 0).toInt ≠ 1 → ((-1) : Int32) = -5)) ∧ v = v) ∧ ((0 ≤ x0.toInt ∧ x0.toInt < (v 13 2).toInt) ∧ x1.toInt = 4 → (((-1) : Int32) = v (29 + 15 * x0.toNatClampNeg) 2) ∧ v = v) ∧ ((0 ≤ x0.toInt ∧ x0.toInt < (v 13 2).toInt) ∧ x1.toInt = 5 → (((-1) : Int32).toInt = ((hF (qB (fun c => v (29 + 15 * c) 4) (v 13 2).toNatClampNeg x0) x0.toNatClampNeg : Nat) : Int)) ∧ v = v) ∧ ((0 ≤ x0.toInt ∧ x0.toInt < (v 13 2).toInt) ∧ x1.toInt = 6 → (((-1) : Int32) = bcF (qB (fun c => v (29 + 15 * c) 4) (v 13 2).toNatClampNeg x0)) ∧ v = v) ∧ ((0 ≤ x0.toInt ∧ x0.toInt < (v 13 2).toInt) ∧ x1.toInt = 7 → (((-1) : Int32) = v (29 + 15 * x0.toNatClampNeg) 3) ∧ v = v) ∧ ((0 ≤ x0.toInt ∧ x0.toInt < (v 13 2).toInt) ∧ (x1.toInt < 0 ∨ 7 < x1.toInt) → (((-1) : Int32) = -1) ∧ v = v) := by
      refine ⟨fun hq => ?_, fun hq => ?_, fun hq => ?_, fun hq => ?_, fun hq => ?_, fun hq => ?_, fun hq => ?_, fun hq => ?_, fun hq => ?_, fun hq => ?_⟩
      · exact ⟨rfl, rfl⟩
      · exfalso; omega
      · exfalso; omega
      · exfalso; omega
      · exfalso; omega
      · exfalso; omega
      · exfalso; omega
      · exfalso; omega
      · exfalso; omega
      · exfalso; omega
    exact W.iret (v := (-1)) hx hb hr (fun t ht hW => ⟨⟨(-1), v, rfl, ⟨hv, hpost⟩, by rw [ht]; exact hP, hD⟩, hS.F ht⟩) hS.2.2 dX7_of_9

set_option maxHeartbeats 4000000 in
set_option maxRecDepth 100000 in
theorem e_X8_findHeads (l : Launch) (dC : Nat → ClassId) (dI : Nat → Nat → Nat) (cy : Nat → ClassId) (sz : Nat) (ad : Nat → Nat) (v : Nat → Nat → Int32) (hv : Ir v) (hG : MG (v 1)) : Met l yX8_findHeads wsX8_findHeads ({ frames := 0, cells := 0, slots := 0, locals := 0 }) (va_Pc [.ref (ad 0)] (ex_Pre dC dI cy sz (wm ad cy v))) (va_Qv (fun (u : Nat → Nat → Int32) => Ir u ∧ Fq v u ∧ HD (v 1) (u 3)) (fun u t => ex_Pst dC dI (va_A (wm ad cy v) sz) (wm ad cy u) t) (va_A (wm ad cy v) sz)) 0 0 (va_A (wm ad cy v) sz) := by
  refine Met.ofW (cc := cX8_findHeads) (maxL := 6) (ret := none) (by decide) rfl ?_
  intro p e s m args below meth c s₁ B hml hv
  obtain ⟨rfl, hsz, hE, hP, hK, hD0⟩ := hv
  have hx := B.exec
  have hb := B.bytes
  have hr := B.returns
  have hts := atoms_spec (ws := wsX8_findHeads) B.pre
  have hown : s.vm.findClass RX8 = some m.cls := findClass_of_methodNamed B.named
  have hlocks := B.notSynchronized
  subst hsz
  have hD := hD0.self (sz := s.heap.size)
  generalize hAe : va_A (wm ad cy v) s.heap.size = A at hD ⊢
  have hA : ∀ q : Nat, s.heap.size ≤ q → A q := fun q h => by rw [← hAe]; exact Or.inr h
  have hS : va_S A s.heap s.heap [] := va_S.rf
  have hP : va_P (dC, dI) vwCl (wm ad cy v) s.heap := hP
  have hl := lv_entry ([.ref (ad 0)]) (n := 6) (Nat.le_of_ble_eq_true rfl)
  rw [lg_entry_eq]
  generalize (lg_sl ([.ref (ad 0)]) ++ List.replicate (6 - (lg_sl ([.ref (ad 0)])).length) Slot.unset).toArray = ls at hl ⊢
  have hl : lv_has ls 6 [(0, .ref (ad 0))] := hl
  have hfr : Fq v v := Fq.rf
  refine lv_iconst (v := 0) hx hb dX8_findHeads_0 (by decide) ?_
  refine lv_istore_n (lv' := [(1, .int 0), (0, .ref (ad 0))]) hx hb dX8_findHeads_1 rfl hl (by decide) rfl (fun ls hl => ?_)
  have hc_1 : ∀ (n : Nat) (y1_1 : Int32) (u1 : Nat → Nat → Int32) (H : Heap) (locs : List Loc), 0 ≤ y1_1.toInt → y1_1.toInt ≤ 6 → (HI (v 1) (u1 3) y1_1.toInt) → (6 - y1_1.toInt).toNat < n → Ir u1 → Fq v u1 → va_P (dC, dI) vwCl (wm ad cy u1) H → va_D A (wm ad cy u1) → va_S A s.heap H locs → ∀ ls : Array Slot, lv_has ls 6 [(1, .int y1_1), (0, .ref (ad 0))] → W p l e (headSpec wsX8_findHeads ({ frames := 0, cells := 0, slots := 0, locals := 0 })).room s m [Value.ref (ad 0)].toArray below meth c H locs 0 0 (MQ below (va_Qv (fun (u : Nat → Nat → Int32) => Ir u ∧ Fq v u ∧ HD (v 1) (u 3)) (fun u t => ex_Pst dC dI A (wm ad cy u) t) A) [Value.ref (ad 0)].toArray s 0 0 A) (F0 m 2 ls []) := by
    intro n
    induction n with
    | zero =>
      intro y1_1 u1 H locs ay1_1 by1_1 hi1_0 hm_1 hv hfr hP hD hS ls hl
      exact absurd hm_1 (by omega)
    | succ n ih_1 =>
      intro y1_1 u1 H locs ay1_1 by1_1 hi1_0 hm_1 hv hfr hP hD hS ls hl
      refine lv_iload_n hx hb dX8_findHeads_2 rfl (lv_at hl 0 rfl) ?_
      refine lv_aload_n hx hb dX8_findHeads_3 rfl (lv_at hl 1 rfl) ?_
      refine va_get (D := (dC, dI)) (ci := 8) (v := .ref (ad 1)) (C := RX8) (T := TX8) (N := 11) hx hb hts iwX8_findHeads_X8 hown hK hP (0) (wm_at (by decide) rc_0) rfl 0 (by decide) (hts (.fieldLink RX8 7 "QuietStairsModel" "s" "[I") fwX8_findHeads_1) (fun _ h9 => h9) rfl dX8_findHeads_4 ?_
      refine lv_iconst (v := 2) hx hb dX8_findHeads_7 (by decide) ?_
      have k_2 : (2 : Int32).toInt = 2 := by decide
      refine va_iald hx hb hK hP (1) 0 (wm_at (by decide) rc_1) rfl (by unfold vp_in; decide) dX8_findHeads_8 ?_
      refine lv_topi (fun x_2 ex_2 => ?_)
      have ex_2 : x_2 = u1 1 2 := ex_2
      have bzx_2 : 0 ≤ x_2.toInt ∧ x_2.toInt ≤ 6 := by rw [ex_2]; exact hv 1 _ 6 (show bS 2 = some 6 from by decide)
      have qx_2 : x_2.toInt = (u1 1 (2)).toInt := congrArg Int32.toInt ex_2
      have hs_x_2 : x_2.toInt = (v 1 2).toInt := by rw [ex_2, hfr.1]
      refine lv_icmp_ge (tgt := 25) hx hb dX8_findHeads_9 (by decide) (fun c_3 => ?_) (fun c_3 => ?_)
      · have tc_3 : y1_1.toInt ≥ x_2.toInt := Int32.le_iff_toInt_le.mp c_3
        refine lv_iconst (v := 1) hx hb dX8_findHeads_25 (by decide) ?_
        refine lv_istore_n (lv' := [(1, .int 1), (0, .ref (ad 0))]) hx hb dX8_findHeads_26 rfl hl (by decide) rfl (fun ls hl => ?_)
        have hc_4 : ∀ (n : Nat) (y4_1 : Int32) (u4 : Nat → Nat → Int32) (H : Heap) (locs : List Loc), 0 ≤ y4_1.toInt → y4_1.toInt ≤ 1 → (HI (v 1) (u4 3) (v 1 2).toInt) → (y4_1.toInt = 0 → ∀ k : Nat, (k : Int) < (v 1 3).toInt → ME_ (v 1) (u4 3) k) → (hs (u4 3)).toNat + y4_1.toInt.toNat < n → Ir u4 → Fq v u4 → va_P (dC, dI) vwCl (wm ad cy u4) H → va_D A (wm ad cy u4) → va_S A s.heap H locs → ∀ ls : Array Slot, lv_has ls 6 [(1, .int y4_1), (0, .ref (ad 0))] → W p l e (headSpec wsX8_findHeads ({ frames := 0, cells := 0, slots := 0, locals := 0 })).room s m [Value.ref (ad 0)].toArray below meth c H locs 0 0 (MQ below (va_Qv (fun (u : Nat → Nat → Int32) => Ir u ∧ Fq v u ∧ HD (v 1) (u 3)) (fun u t => ex_Pst dC dI A (wm ad cy u) t) A) [Value.ref (ad 0)].toArray s 0 0 A) (F0 m 27 ls []) := by
          intro n
          induction n with
          | zero =>
            intro y4_1 u4 H locs ay4_1 by4_1 hi4_0 hi4_1 hm_4 hv hfr hP hD hS ls hl
            exact absurd hm_4 (by omega)
          | succ n ih_4 =>
            intro y4_1 u4 H locs ay4_1 by4_1 hi4_0 hi4_1 hm_4 hv hfr hP hD hS ls hl
            refine lv_iload_n hx hb dX8_findHeads_27 rfl (lv_at hl 0 rfl) ?_
            have k_0 : (0 : Int32).toInt = 0 := by decide
            refine lv_if_eq (tgt := 152) hx hb dX8_findHeads_28 (by decide) (fun c_5 => ?_) (fun c_5 => ?_)
            · have tc_5 : y4_1.toInt = (0 : Int32).toInt := by rw [c_5]
              exact W.vret hx hb hr (fun t ht hW => ⟨⟨u4, rfl, ⟨hv, hfr, hi4_0, hi4_1 (by omega)⟩, by rw [ht]; exact hP, hD⟩, hS.F ht⟩) hS.2.2 dX8_findHeads_152
            · have tc_5 : y4_1.toInt ≠ (0 : Int32).toInt := fun q => absurd (Int32.toInt_inj.mp q) c_5
              refine lv_iconst (v := 0) hx hb dX8_findHeads_31 (by decide) ?_
              refine lv_istore_n (lv' := [(1, .int 0), (0, .ref (ad 0))]) hx hb dX8_findHeads_32 rfl hl (by decide) rfl (fun ls hl => ?_)
              refine lv_iconst (v := 0) hx hb dX8_findHeads_33 (by decide) ?_
              refine lv_istore_n (lv' := [(2, .int 0), (1, .int 0), (0, .ref (ad 0))]) hx hb dX8_findHeads_34 rfl hl (by decide) rfl (fun ls hl => ?_)
              have hc_6 : ∀ (n : Nat) (y6_1 y6_2 : Int32) (u6 : Nat → Nat → Int32) (H : Heap) (locs : List Loc), 0 ≤ y6_1.toInt → y6_1.toInt ≤ 1 → 0 ≤ y6_2.toInt → y6_2.toInt ≤ 6 → (hs (u6 3) + y6_1.toInt ≤ hs (u4 3)) → (HI (v 1) (u6 3) (v 1 2).toInt) → (y6_1.toInt = 0 → ∀ k : Nat, (k : Int) < y6_2.toInt → ME_ (v 1) (u6 3) k) → (6 - y6_2.toInt).toNat < n → Ir u6 → Fq v u6 → va_P (dC, dI) vwCl (wm ad cy u6) H → va_D A (wm ad cy u6) → va_S A s.heap H locs → ∀ ls : Array Slot, lv_has ls 6 [(2, .int y6_2), (1, .int y6_1), (0, .ref (ad 0))] → W p l e (headSpec wsX8_findHeads ({ frames := 0, cells := 0, slots := 0, locals := 0 })).room s m [Value.ref (ad 0)].toArray below meth c H locs 0 0 (MQ below (va_Qv (fun (u : Nat → Nat → Int32) => Ir u ∧ Fq v u ∧ HD (v 1) (u 3)) (fun u t => ex_Pst dC dI A (wm ad cy u) t) A) [Value.ref (ad 0)].toArray s 0 0 A) (F0 m 35 ls []) := by
                intro n
                induction n with
                | zero =>
                  intro y6_1 y6_2 u6 H locs ay6_1 by6_1 ay6_2 by6_2 hi6_0 hi6_1 hi6_2 hm_6 hv hfr hP hD hS ls hl
                  exact absurd hm_6 (by omega)
                | succ n ih_6 =>
                  intro y6_1 y6_2 u6 H locs ay6_1 by6_1 ay6_2 by6_2 hi6_0 hi6_1 hi6_2 hm_6 hv hfr hP hD hS ls hl
                  refine lv_iload_n hx hb dX8_findHeads_35 rfl (lv_at hl 0 rfl) ?_
                  refine lv_aload_n hx hb dX8_findHeads_36 rfl (lv_at hl 2 rfl) ?_
                  refine va_get (D := (dC, dI)) (ci := 8) (v := .ref (ad 1)) (C := RX8) (T := TX8) (N := 11) hx hb hts iwX8_findHeads_X8 hown hK hP (0) (wm_at (by decide) rc_0) rfl 0 (by decide) (hts (.fieldLink RX8 7 "QuietStairsModel" "s" "[I") fwX8_findHeads_1) (fun _ h9 => h9) rfl dX8_findHeads_37 ?_
                  refine lv_iconst (v := 3) hx hb dX8_findHeads_40 (by decide) ?_
                  have k_3 : (3 : Int32).toInt = 3 := by decide
                  refine va_iald hx hb hK hP (1) 0 (wm_at (by decide) rc_1) rfl (by unfold vp_in; decide) dX8_findHeads_41 ?_
                  refine lv_topi (fun x_7 ex_7 => ?_)
                  have ex_7 : x_7 = u6 1 3 := ex_7
                  have bzx_7 : 0 ≤ x_7.toInt ∧ x_7.toInt ≤ 6 := by rw [ex_7]; exact hv 1 _ 6 (show bS 3 = some 6 from by decide)
                  have qx_7 : x_7.toInt = (u6 1 (3)).toInt := congrArg Int32.toInt ex_7
                  have hs_x_7 : x_7.toInt = (v 1 3).toInt := by rw [ex_7, hfr.1]
                  refine lv_icmp_ge (tgt := 149) hx hb dX8_findHeads_42 (by decide) (fun c_8 => ?_) (fun c_8 => ?_)
                  · have tc_8 : y6_2.toInt ≥ x_7.toInt := Int32.le_iff_toInt_le.mp c_8
                    refine lv_goto (tgt := 27) hx hb dX8_findHeads_149 (by decide) ?_
                    exact ih_4 y6_1 u6 _ _ (by omega) (by omega) (hi6_1) (fun q k hk => hi6_2 q k (by omega)) (by have z1 := hs_nn hv; omega) hv hfr hP hD hS ls (lv_sub hl [1, 2] rfl)
                  · have tc_8 : y6_2.toInt < x_7.toInt := Int32.lt_iff_toInt_lt.mp (Int32.not_le.mp c_8)
                    refine lv_aload_n hx hb dX8_findHeads_45 rfl (lv_at hl 2 rfl) ?_
                    refine va_get (D := (dC, dI)) (ci := 8) (v := .ref (ad 1)) (C := RX8) (T := TX8) (N := 11) hx hb hts iwX8_findHeads_X8 hown hK hP (0) (wm_at (by decide) rc_0) rfl 0 (by decide) (hts (.fieldLink RX8 7 "QuietStairsModel" "s" "[I") fwX8_findHeads_1) (fun _ h9 => h9) rfl dX8_findHeads_46 ?_
                    refine lv_sipush (v := 146) hx hb dX8_findHeads_49 (by decide) ?_
                    refine lv_iconst (v := 2) hx hb dX8_findHeads_52 (by decide) ?_
                    refine lv_iload_n hx hb dX8_findHeads_53 rfl (lv_at hl 0 rfl) ?_
                    refine lv_imul hx hb dX8_findHeads_54 ?_
                    refine lv_topi (fun x_9 ex_9 => ?_)
                    have tx_9 : x_9.toInt = 2 * y6_2.toInt := by rw [ex_9, t_mul (by rw [k_2]; omega), k_2]
                    refine lv_iadd hx hb dX8_findHeads_55 ?_
                    refine lv_topi (fun x_10 ex_10 => ?_)
                    have k_146 : (146 : Int32).toInt = 146 := by decide
                    have tx_10 : x_10.toInt = (146 : Int32).toInt + x_9.toInt := by rw [ex_10]; exact t_add ⟨by omega, by omega⟩
                    have zn_y6_2 : (y6_2.toNatClampNeg : Int) = y6_2.toInt := t_nn (by omega)
                    have nx_10 : x_10.toNatClampNeg = 146 + 2 * y6_2.toNatClampNeg := by have z1 := t_nn (x := x_10) (by omega); omega
                    refine va_iald hx hb hK hP (1) 0 (wm_at (by decide) rc_1) rfl (vp_in_iff.mpr ⟨by omega, by omega⟩) dX8_findHeads_56 ?_
                    refine lv_topi (fun x_11 ex_11 => ?_)
                    have bzx_11 : 0 ≤ x_11.toInt ∧ x_11.toInt ≤ 5 := by rw [ex_11]; exact hv 1 _ 5 (bx_m ⟨by omega, by omega⟩)
                    rw [nx_10] at ex_11
                    have qx_11 : x_11.toInt = (u6 1 (146 + 2 * y6_2.toNatClampNeg)).toInt := congrArg Int32.toInt ex_11
                    have ha_x_11 : x_11 = v 1 (146 + 2 * y6_2.toNatClampNeg) := by rw [ex_11, hfr.1]
                    refine lv_istore_n (lv' := [(3, .int x_11), (2, .int y6_2), (1, .int y6_1), (0, .ref (ad 0))]) hx hb dX8_findHeads_57 rfl hl (by decide) rfl (fun ls hl => ?_)
                    refine lv_aload_n hx hb dX8_findHeads_58 rfl (lv_at hl 3 rfl) ?_
                    refine va_get (D := (dC, dI)) (ci := 8) (v := .ref (ad 1)) (C := RX8) (T := TX8) (N := 11) hx hb hts iwX8_findHeads_X8 hown hK hP (0) (wm_at (by decide) rc_0) rfl 0 (by decide) (hts (.fieldLink RX8 7 "QuietStairsModel" "s" "[I") fwX8_findHeads_1) (fun _ h9 => h9) rfl dX8_findHeads_59 ?_
                    refine lv_sipush (v := 146) hx hb dX8_findHeads_62 (by decide) ?_
                    refine lv_iconst (v := 2) hx hb dX8_findHeads_65 (by decide) ?_
                    refine lv_iload_n hx hb dX8_findHeads_66 rfl (lv_at hl 1 rfl) ?_
                    refine lv_imul hx hb dX8_findHeads_67 ?_
                    refine lv_topi (fun x_12 ex_12 => ?_)
                    obtain rfl : x_9 = x_12 := ex_9.trans ex_12.symm
                    refine lv_iadd hx hb dX8_findHeads_68 ?_
                    refine lv_topi (fun x_13 ex_13 => ?_)
                    obtain rfl : x_10 = x_13 := ex_10.trans ex_13.symm
                    refine lv_iconst (v := 1) hx hb dX8_findHeads_69 (by decide) ?_
                    refine lv_iadd hx hb dX8_findHeads_70 ?_
                    refine lv_topi (fun x_14 ex_14 => ?_)
                    have k_1 : (1 : Int32).toInt = 1 := by decide
                    have tx_14 : x_14.toInt = x_10.toInt + (1 : Int32).toInt := by rw [ex_14]; exact t_add ⟨by omega, by omega⟩
                    have nx_14 : x_14.toNatClampNeg = 147 + 2 * y6_2.toNatClampNeg := by have z1 := t_nn (x := x_14) (by omega); omega
                    refine va_iald hx hb hK hP (1) 0 (wm_at (by decide) rc_1) rfl (vp_in_iff.mpr ⟨by omega, by omega⟩) dX8_findHeads_71 ?_
                    refine lv_topi (fun x_15 ex_15 => ?_)
                    have bzx_15 : 0 ≤ x_15.toInt ∧ x_15.toInt ≤ 5 := by rw [ex_15]; exact hv 1 _ 5 (bx_m ⟨by omega, by omega⟩)
                    rw [nx_14] at ex_15
                    have qx_15 : x_15.toInt = (u6 1 (147 + 2 * y6_2.toNatClampNeg)).toInt := congrArg Int32.toInt ex_15
                    have ha_x_15 : x_15 = v 1 (147 + 2 * y6_2.toNatClampNeg) := by rw [ex_15, hfr.1]
                    have hg9 := hG y6_2.toNatClampNeg (by omega)
                    rw [← ha_x_11, ← ha_x_15] at hg9
                    have had : adj (v 1) x_11.toNatClampNeg x_15.toNatClampNeg := ⟨y6_2.toNatClampNeg, by omega, Or.inl ⟨by rw [← ha_x_11]; exact (t_nn hg9.1.1).symm, by rw [← ha_x_15]; exact (t_nn hg9.2.1).symm⟩⟩
                    refine lv_istore (lv' := [(4, .int x_15), (3, .int x_11), (2, .int y6_2), (1, .int y6_1), (0, .ref (ad 0))]) hx hb dX8_findHeads_72 hl (by decide) rfl (fun ls hl => ?_)
                    refine lv_aload_n hx hb dX8_findHeads_74 rfl (lv_at hl 4 rfl) ?_
                    refine va_get (D := (dC, dI)) (ci := 8) (v := .ref (ad 3)) (C := RX8) (T := TX8) (N := 11) hx hb hts iwX8_findHeads_X8 hown hK hP (0) (wm_at (by decide) rc_0) rfl 4 (by decide) (hts (.fieldLink RX8 20 "QuietStairsModel" "headOf" "[I") fwX8_findHeads_2) (fun _ h9 => h9) rfl dX8_findHeads_75 ?_
                    refine lv_iload_n hx hb dX8_findHeads_78 rfl (lv_at hl 1 rfl) ?_
                    have zn_x_11 : (x_11.toNatClampNeg : Int) = x_11.toInt := t_nn (by omega)
                    refine va_iald hx hb hK hP (3) 0 (wm_at (by decide) rc_3) rfl (vp_in_iff.mpr ⟨by omega, by omega⟩) dX8_findHeads_79 ?_
                    refine lv_topi (fun x_16 ex_16 => ?_)
                    have bzx_16 : 0 ≤ x_16.toInt ∧ x_16.toInt ≤ 5 := by rw [ex_16]; exact hv 3 _ 5 rfl
                    have qx_16 : x_16.toInt = (u6 3 (x_11.toNatClampNeg)).toInt := congrArg Int32.toInt ex_16
                    refine lv_aload_n hx hb dX8_findHeads_80 rfl (lv_at hl 4 rfl) ?_
                    refine va_get (D := (dC, dI)) (ci := 8) (v := .ref (ad 3)) (C := RX8) (T := TX8) (N := 11) hx hb hts iwX8_findHeads_X8 hown hK hP (0) (wm_at (by decide) rc_0) rfl 4 (by decide) (hts (.fieldLink RX8 20 "QuietStairsModel" "headOf" "[I") fwX8_findHeads_2) (fun _ h9 => h9) rfl dX8_findHeads_81 ?_
                    refine lv_iload hx hb dX8_findHeads_84 (lv_at hl 0 rfl) ?_
                    have zn_x_15 : (x_15.toNatClampNeg : Int) = x_15.toInt := t_nn (by omega)
                    refine va_iald hx hb hK hP (3) 0 (wm_at (by decide) rc_3) rfl (vp_in_iff.mpr ⟨by omega, by omega⟩) dX8_findHeads_86 ?_
                    refine lv_topi (fun x_17 ex_17 => ?_)
                    have bzx_17 : 0 ≤ x_17.toInt ∧ x_17.toInt ≤ 5 := by rw [ex_17]; exact hv 3 _ 5 rfl
                    have qx_17 : x_17.toInt = (u6 3 (x_15.toNatClampNeg)).toInt := congrArg Int32.toInt ex_17
                    refine lv_icmp_eq (tgt := 143) hx hb dX8_findHeads_87 (by decide) (fun c_18 => ?_) (fun c_18 => ?_)
                    · have tc_18 : x_16.toInt = x_17.toInt := by rw [c_18]
                      obtain ⟨x_19, ex_19⟩ : ∃ y : Int32, y = y6_2 + 1 := ⟨_, rfl⟩
                      refine lv_iinc (v := x_19) (lv' := [(2, .int x_19), (4, .int x_15), (3, .int x_11), (1, .int y6_1), (0, .ref (ad 0))]) hx hb dX8_findHeads_143 hl (k := 2) rfl (by rw [ex_19]; rfl) (by decide) rfl (fun ls hl => ?_)
                      have tx_19 : x_19.toInt = y6_2.toInt + (1 : Int32).toInt := by rw [ex_19]; exact t_add ⟨by omega, by omega⟩
                      refine lv_goto (tgt := 35) hx hb dX8_findHeads_146 (by decide) ?_
                      exact ih_6 y6_1 x_19 u6 _ _ (by omega) (by omega) (by omega) (by omega) (hi6_0) (hi6_1) (fun q0 k hk => by by_cases e : (k : Int) < y6_2.toInt; exact hi6_2 q0 k e; rw [show k = y6_2.toNatClampNeg from by omega]; unfold ME_; rw [← ha_x_11, ← ha_x_15, ← ex_16, ← ex_17]; exact Int32.toInt_inj.mp (by omega)) (by omega) hv hfr hP hD hS ls (lv_sub hl [0, 3, 4] rfl)
                    · have tc_18 : x_16.toInt ≠ x_17.toInt := fun q => absurd (Int32.toInt_inj.mp q) c_18
                      refine lv_aload_n hx hb dX8_findHeads_90 rfl (lv_at hl 4 rfl) ?_
                      refine va_get (D := (dC, dI)) (ci := 8) (v := .ref (ad 3)) (C := RX8) (T := TX8) (N := 11) hx hb hts iwX8_findHeads_X8 hown hK hP (0) (wm_at (by decide) rc_0) rfl 4 (by decide) (hts (.fieldLink RX8 20 "QuietStairsModel" "headOf" "[I") fwX8_findHeads_2) (fun _ h9 => h9) rfl dX8_findHeads_91 ?_
                      refine lv_iload_n hx hb dX8_findHeads_94 rfl (lv_at hl 1 rfl) ?_
                      refine va_iald hx hb hK hP (3) 0 (wm_at (by decide) rc_3) rfl (vp_in_iff.mpr ⟨by omega, by omega⟩) dX8_findHeads_95 ?_
                      refine lv_topi (fun x_19 ex_19 => ?_)
                      have bzx_19 : 0 ≤ x_19.toInt ∧ x_19.toInt ≤ 5 := by rw [ex_19]; exact hv 3 _ 5 rfl
                      obtain rfl : x_16 = x_19 := (ex_19.trans ex_16.symm).symm
                      refine lv_aload_n hx hb dX8_findHeads_96 rfl (lv_at hl 4 rfl) ?_
                      refine va_get (D := (dC, dI)) (ci := 8) (v := .ref (ad 3)) (C := RX8) (T := TX8) (N := 11) hx hb hts iwX8_findHeads_X8 hown hK hP (0) (wm_at (by decide) rc_0) rfl 4 (by decide) (hts (.fieldLink RX8 20 "QuietStairsModel" "headOf" "[I") fwX8_findHeads_2) (fun _ h9 => h9) rfl dX8_findHeads_97 ?_
                      refine lv_iload hx hb dX8_findHeads_100 (lv_at hl 0 rfl) ?_
                      refine va_iald hx hb hK hP (3) 0 (wm_at (by decide) rc_3) rfl (vp_in_iff.mpr ⟨by omega, by omega⟩) dX8_findHeads_102 ?_
                      refine lv_topi (fun x_20 ex_20 => ?_)
                      have bzx_20 : 0 ≤ x_20.toInt ∧ x_20.toInt ≤ 5 := by rw [ex_20]; exact hv 3 _ 5 rfl
                      obtain rfl : x_17 = x_20 := (ex_20.trans ex_17.symm).symm
                      refine lv_icmp_ge (tgt := 115) hx hb dX8_findHeads_103 (by decide) (fun c_21 => ?_) (fun c_21 => ?_)
                      · have tc_21 : x_16.toInt ≥ x_17.toInt := Int32.le_iff_toInt_le.mp c_21
                        refine lv_aload_n hx hb dX8_findHeads_115 rfl (lv_at hl 4 rfl) ?_
                        refine va_get (D := (dC, dI)) (ci := 8) (v := .ref (ad 3)) (C := RX8) (T := TX8) (N := 11) hx hb hts iwX8_findHeads_X8 hown hK hP (0) (wm_at (by decide) rc_0) rfl 4 (by decide) (hts (.fieldLink RX8 20 "QuietStairsModel" "headOf" "[I") fwX8_findHeads_2) (fun _ h9 => h9) rfl dX8_findHeads_116 ?_
                        refine lv_iload hx hb dX8_findHeads_119 (lv_at hl 0 rfl) ?_
                        refine va_iald hx hb hK hP (3) 0 (wm_at (by decide) rc_3) rfl (vp_in_iff.mpr ⟨by omega, by omega⟩) dX8_findHeads_121 ?_
                        refine lv_topi (fun x_22 ex_22 => ?_)
                        have bzx_22 : 0 ≤ x_22.toInt ∧ x_22.toInt ≤ 5 := by rw [ex_22]; exact hv 3 _ 5 rfl
                        obtain rfl : x_17 = x_22 := (ex_22.trans ex_17.symm).symm
                        refine lv_istore (lv' := [(5, .int x_17), (4, .int x_15), (3, .int x_11), (2, .int y6_2), (1, .int y6_1), (0, .ref (ad 0))]) hx hb dX8_findHeads_122 hl (by decide) rfl (fun ls hl => ?_)
                        refine lv_aload_n hx hb dX8_findHeads_124 rfl (lv_at hl 5 rfl) ?_
                        refine va_get (D := (dC, dI)) (ci := 8) (v := .ref (ad 3)) (C := RX8) (T := TX8) (N := 11) hx hb hts iwX8_findHeads_X8 hown hK hP (0) (wm_at (by decide) rc_0) rfl 4 (by decide) (hts (.fieldLink RX8 20 "QuietStairsModel" "headOf" "[I") fwX8_findHeads_2) (fun _ h9 => h9) rfl dX8_findHeads_125 ?_
                        refine lv_iload_n hx hb dX8_findHeads_128 rfl (lv_at hl 2 rfl) ?_
                        refine lv_iload hx hb dX8_findHeads_129 (lv_at hl 0 rfl) ?_
                        refine va_iast hx hb hK hP hD hS (3) 0 (wm_at (by decide) rc_3) rfl (vp_in_iff.mpr ⟨by omega, by omega⟩) dX8_findHeads_131 (fun H locs hP hD hS => ?_)
                        obtain ⟨v_23, ev_23⟩ : ∃ u : Nat → Nat → Int32, u = upr u6 3 (upd (u6 3) (x_11.toNatClampNeg) x_17) := ⟨_, rfl⟩
                        have hP : va_P (dC, dI) vwCl (wm ad cy v_23) H := by rw [ev_23, ← wm_put (e := _) rc_3]; exact hP
                        have hD : va_D A (wm ad cy v_23) := by rw [ev_23, ← wm_put (e := _) rc_3]; exact hD
                        have hv : Ir v_23 := by rw [ev_23]; exact hv.put (k := 3) (fun h q => by rw [(show br 3 _ = some 5 from rfl)] at q; cases q; exact ⟨by omega, by omega⟩)
                        have hfr : Fq v v_23 := by rw [ev_23]; exact hfr.row (by decide)
                        refine lv_aload_n hx hb dX8_findHeads_132 rfl (lv_at hl 5 rfl) ?_
                        refine va_get (D := (dC, dI)) (ci := 8) (v := .ref (ad 3)) (C := RX8) (T := TX8) (N := 11) hx hb hts iwX8_findHeads_X8 hown hK hP (0) (wm_at (by decide) rc_0) rfl 4 (by decide) (hts (.fieldLink RX8 20 "QuietStairsModel" "headOf" "[I") fwX8_findHeads_2) (fun _ h9 => h9) rfl dX8_findHeads_133 ?_
                        refine lv_iload hx hb dX8_findHeads_136 (lv_at hl 1 rfl) ?_
                        refine lv_iload hx hb dX8_findHeads_138 (lv_at hl 0 rfl) ?_
                        refine va_iast hx hb hK hP hD hS (3) 0 (wm_at (by decide) rc_3) rfl (vp_in_iff.mpr ⟨by omega, by omega⟩) dX8_findHeads_140 (fun H locs hP hD hS => ?_)
                        obtain ⟨v_24, ev_24⟩ : ∃ u : Nat → Nat → Int32, u = upr v_23 3 (upd (v_23 3) (x_15.toNatClampNeg) x_17) := ⟨_, rfl⟩
                        have hP : va_P (dC, dI) vwCl (wm ad cy v_24) H := by rw [ev_24, ← wm_put (e := _) rc_3]; exact hP
                        have hD : va_D A (wm ad cy v_24) := by rw [ev_24, ← wm_put (e := _) rc_3]; exact hD
                        have hv : Ir v_24 := by rw [ev_24]; exact hv.put (k := 3) (fun h q => by rw [(show br 3 _ = some 5 from rfl)] at q; cases q; exact ⟨by omega, by omega⟩)
                        have hfr : Fq v v_24 := by rw [ev_24]; exact hfr.row (by decide)
                        refine lv_iconst (v := 1) hx hb dX8_findHeads_141 (by decide) ?_
                        refine lv_istore_n (lv' := [(1, .int 1), (5, .int x_17), (4, .int x_15), (3, .int x_11), (2, .int y6_2), (0, .ref (ad 0))]) hx hb dX8_findHeads_142 rfl hl (by decide) rfl (fun ls hl => ?_)
                        obtain ⟨x_25, ex_25⟩ : ∃ y : Int32, y = y6_2 + 1 := ⟨_, rfl⟩
                        refine lv_iinc (v := x_25) (lv' := [(2, .int x_25), (1, .int 1), (5, .int x_17), (4, .int x_15), (3, .int x_11), (0, .ref (ad 0))]) hx hb dX8_findHeads_143 hl (k := 4) rfl (by rw [ex_25]; rfl) (by decide) rfl (fun ls hl => ?_)
                        have tx_25 : x_25.toInt = y6_2.toInt + (1 : Int32).toInt := by rw [ex_25]; exact t_add ⟨by omega, by omega⟩
                        refine lv_goto (tgt := 35) hx hb dX8_findHeads_146 (by decide) ?_
                        exact ih_6 1 x_25 v_24 _ _ (by omega) (by omega) (by omega) (by omega) (by have z1 := hs_2 (v := u6) (a := x_11) (b := x_15) (x := x_17) ⟨by omega, by omega⟩ ⟨by omega, by omega⟩ ex_16 ex_17 (by omega) (by omega) (by omega); rw [ev_24, upr_s, ev_23, upr_s]; have z2 := hi6_0; omega) (by rw [ev_24, upr_s, ev_23, upr_s]; exact HI_up ⟨by omega, by omega⟩ ⟨by omega, by omega⟩ hi6_1 had (Or.inr ex_17) (by rw [← ex_16]; omega) (by rw [← ex_17]; omega)) (fun q => absurd q (by decide)) (by omega) hv hfr hP hD hS ls (lv_sub hl [0, 1, 5] rfl)
                      · have tc_21 : x_16.toInt < x_17.toInt := Int32.lt_iff_toInt_lt.mp (Int32.not_le.mp c_21)
                        refine lv_aload_n hx hb dX8_findHeads_106 rfl (lv_at hl 4 rfl) ?_
                        refine va_get (D := (dC, dI)) (ci := 8) (v := .ref (ad 3)) (C := RX8) (T := TX8) (N := 11) hx hb hts iwX8_findHeads_X8 hown hK hP (0) (wm_at (by decide) rc_0) rfl 4 (by decide) (hts (.fieldLink RX8 20 "QuietStairsModel" "headOf" "[I") fwX8_findHeads_2) (fun _ h9 => h9) rfl dX8_findHeads_107 ?_
                        refine lv_iload_n hx hb dX8_findHeads_110 rfl (lv_at hl 1 rfl) ?_
                        refine va_iald hx hb hK hP (3) 0 (wm_at (by decide) rc_3) rfl (vp_in_iff.mpr ⟨by omega, by omega⟩) dX8_findHeads_111 ?_
                        refine lv_topi (fun x_22 ex_22 => ?_)
                        have bzx_22 : 0 ≤ x_22.toInt ∧ x_22.toInt ≤ 5 := by rw [ex_22]; exact hv 3 _ 5 rfl
                        obtain rfl : x_16 = x_22 := (ex_22.trans ex_16.symm).symm
                        refine lv_goto (tgt := 122) hx hb dX8_findHeads_112 (by decide) ?_
                        refine lv_istore (lv' := [(5, .int x_16), (4, .int x_15), (3, .int x_11), (2, .int y6_2), (1, .int y6_1), (0, .ref (ad 0))]) hx hb dX8_findHeads_122 hl (by decide) rfl (fun ls hl => ?_)
                        refine lv_aload_n hx hb dX8_findHeads_124 rfl (lv_at hl 5 rfl) ?_
                        refine va_get (D := (dC, dI)) (ci := 8) (v := .ref (ad 3)) (C := RX8) (T := TX8) (N := 11) hx hb hts iwX8_findHeads_X8 hown hK hP (0) (wm_at (by decide) rc_0) rfl 4 (by decide) (hts (.fieldLink RX8 20 "QuietStairsModel" "headOf" "[I") fwX8_findHeads_2) (fun _ h9 => h9) rfl dX8_findHeads_125 ?_
                        refine lv_iload_n hx hb dX8_findHeads_128 rfl (lv_at hl 2 rfl) ?_
                        refine lv_iload hx hb dX8_findHeads_129 (lv_at hl 0 rfl) ?_
                        refine va_iast hx hb hK hP hD hS (3) 0 (wm_at (by decide) rc_3) rfl (vp_in_iff.mpr ⟨by omega, by omega⟩) dX8_findHeads_131 (fun H locs hP hD hS => ?_)
                        obtain ⟨v_23, ev_23⟩ : ∃ u : Nat → Nat → Int32, u = upr u6 3 (upd (u6 3) (x_11.toNatClampNeg) x_16) := ⟨_, rfl⟩
                        have hP : va_P (dC, dI) vwCl (wm ad cy v_23) H := by rw [ev_23, ← wm_put (e := _) rc_3]; exact hP
                        have hD : va_D A (wm ad cy v_23) := by rw [ev_23, ← wm_put (e := _) rc_3]; exact hD
                        have hv : Ir v_23 := by rw [ev_23]; exact hv.put (k := 3) (fun h q => by rw [(show br 3 _ = some 5 from rfl)] at q; cases q; exact ⟨by omega, by omega⟩)
                        have hfr : Fq v v_23 := by rw [ev_23]; exact hfr.row (by decide)
                        refine lv_aload_n hx hb dX8_findHeads_132 rfl (lv_at hl 5 rfl) ?_
                        refine va_get (D := (dC, dI)) (ci := 8) (v := .ref (ad 3)) (C := RX8) (T := TX8) (N := 11) hx hb hts iwX8_findHeads_X8 hown hK hP (0) (wm_at (by decide) rc_0) rfl 4 (by decide) (hts (.fieldLink RX8 20 "QuietStairsModel" "headOf" "[I") fwX8_findHeads_2) (fun _ h9 => h9) rfl dX8_findHeads_133 ?_
                        refine lv_iload hx hb dX8_findHeads_136 (lv_at hl 1 rfl) ?_
                        refine lv_iload hx hb dX8_findHeads_138 (lv_at hl 0 rfl) ?_
                        refine va_iast hx hb hK hP hD hS (3) 0 (wm_at (by decide) rc_3) rfl (vp_in_iff.mpr ⟨by omega, by omega⟩) dX8_findHeads_140 (fun H locs hP hD hS => ?_)
                        obtain ⟨v_24, ev_24⟩ : ∃ u : Nat → Nat → Int32, u = upr v_23 3 (upd (v_23 3) (x_15.toNatClampNeg) x_16) := ⟨_, rfl⟩
                        have hP : va_P (dC, dI) vwCl (wm ad cy v_24) H := by rw [ev_24, ← wm_put (e := _) rc_3]; exact hP
                        have hD : va_D A (wm ad cy v_24) := by rw [ev_24, ← wm_put (e := _) rc_3]; exact hD
                        have hv : Ir v_24 := by rw [ev_24]; exact hv.put (k := 3) (fun h q => by rw [(show br 3 _ = some 5 from rfl)] at q; cases q; exact ⟨by omega, by omega⟩)
                        have hfr : Fq v v_24 := by rw [ev_24]; exact hfr.row (by decide)
                        refine lv_iconst (v := 1) hx hb dX8_findHeads_141 (by decide) ?_
                        refine lv_istore_n (lv' := [(1, .int 1), (5, .int x_16), (4, .int x_15), (3, .int x_11), (2, .int y6_2), (0, .ref (ad 0))]) hx hb dX8_findHeads_142 rfl hl (by decide) rfl (fun ls hl => ?_)
                        obtain ⟨x_25, ex_25⟩ : ∃ y : Int32, y = y6_2 + 1 := ⟨_, rfl⟩
                        refine lv_iinc (v := x_25) (lv' := [(2, .int x_25), (1, .int 1), (5, .int x_16), (4, .int x_15), (3, .int x_11), (0, .ref (ad 0))]) hx hb dX8_findHeads_143 hl (k := 4) rfl (by rw [ex_25]; rfl) (by decide) rfl (fun ls hl => ?_)
                        have tx_25 : x_25.toInt = y6_2.toInt + (1 : Int32).toInt := by rw [ex_25]; exact t_add ⟨by omega, by omega⟩
                        refine lv_goto (tgt := 35) hx hb dX8_findHeads_146 (by decide) ?_
                        exact ih_6 1 x_25 v_24 _ _ (by omega) (by omega) (by omega) (by omega) (by have z1 := hs_2 (v := u6) (a := x_11) (b := x_15) (x := x_16) ⟨by omega, by omega⟩ ⟨by omega, by omega⟩ ex_16 ex_17 (by omega) (by omega) (by omega); rw [ev_24, upr_s, ev_23, upr_s]; have z2 := hi6_0; omega) (by rw [ev_24, upr_s, ev_23, upr_s]; exact HI_up ⟨by omega, by omega⟩ ⟨by omega, by omega⟩ hi6_1 had (Or.inl ex_16) (by rw [← ex_16]; omega) (by rw [← ex_17]; omega)) (fun q => absurd q (by decide)) (by omega) hv hfr hP hD hS ls (lv_sub hl [0, 1, 5] rfl)
              exact hc_6 ((6 - (0 : Int32).toInt).toNat + 1) 0 0 u4 _ _ (by omega) (by omega) (by omega) (by omega) (by omega) (hi4_0) (fun _ k hk => absurd hk (by omega)) (by omega) hv hfr hP hD hS ls (lv_sub hl [0, 1, 2] rfl)
        have k_1 : (1 : Int32).toInt = 1 := by decide
        exact hc_4 ((hs (u1 3)).toNat + (1 : Int32).toInt.toNat + 1) 1 u1 _ _ (by omega) (by omega) (HI_dn hi1_0 (by omega)) (fun q => absurd q (by decide)) (by omega) hv hfr hP hD hS ls (lv_sub hl [0, 1] rfl)
      · have tc_3 : y1_1.toInt < x_2.toInt := Int32.lt_iff_toInt_lt.mp (Int32.not_le.mp c_3)
        refine lv_aload_n hx hb dX8_findHeads_12 rfl (lv_at hl 1 rfl) ?_
        refine va_get (D := (dC, dI)) (ci := 8) (v := .ref (ad 3)) (C := RX8) (T := TX8) (N := 11) hx hb hts iwX8_findHeads_X8 hown hK hP (0) (wm_at (by decide) rc_0) rfl 4 (by decide) (hts (.fieldLink RX8 20 "QuietStairsModel" "headOf" "[I") fwX8_findHeads_2) (fun _ h9 => h9) rfl dX8_findHeads_13 ?_
        refine lv_iload_n hx hb dX8_findHeads_16 rfl (lv_at hl 0 rfl) ?_
        refine lv_iload_n hx hb dX8_findHeads_17 rfl (lv_at hl 0 rfl) ?_
        refine va_iast hx hb hK hP hD hS (3) 0 (wm_at (by decide) rc_3) rfl (vp_in_iff.mpr ⟨by omega, by omega⟩) dX8_findHeads_18 (fun H locs hP hD hS => ?_)
        have zn_y1_1 : (y1_1.toNatClampNeg : Int) = y1_1.toInt := t_nn (by omega)
        obtain ⟨v_4, ev_4⟩ : ∃ u : Nat → Nat → Int32, u = upr u1 3 (upd (u1 3) (y1_1.toNatClampNeg) y1_1) := ⟨_, rfl⟩
        have hP : va_P (dC, dI) vwCl (wm ad cy v_4) H := by rw [ev_4, ← wm_put (e := _) rc_3]; exact hP
        have hD : va_D A (wm ad cy v_4) := by rw [ev_4, ← wm_put (e := _) rc_3]; exact hD
        have hv : Ir v_4 := by rw [ev_4]; exact hv.put (k := 3) (fun h q => by rw [(show br 3 _ = some 5 from rfl)] at q; cases q; exact ⟨by omega, by omega⟩)
        have hfr : Fq v v_4 := by rw [ev_4]; exact hfr.row (by decide)
        obtain ⟨x_5, ex_5⟩ : ∃ y : Int32, y = y1_1 + 1 := ⟨_, rfl⟩
        refine lv_iinc (v := x_5) (lv' := [(1, .int x_5), (0, .ref (ad 0))]) hx hb dX8_findHeads_19 hl (k := 0) rfl (by rw [ex_5]; rfl) (by decide) rfl (fun ls hl => ?_)
        have k_1 : (1 : Int32).toInt = 1 := by decide
        have tx_5 : x_5.toInt = y1_1.toInt + (1 : Int32).toInt := by rw [ex_5]; exact t_add ⟨by omega, by omega⟩
        refine lv_goto (tgt := 2) hx hb dX8_findHeads_22 (by decide) ?_
        exact ih_1 x_5 v_4 _ _ (by omega) (by omega) (by rw [ev_4, upr_s]; exact HI_new (by omega) (by omega) hi1_0) (by omega) hv hfr hP hD hS ls (lv_sub hl [0, 1] rfl)
  have k_0 : (0 : Int32).toInt = 0 := by decide
  exact hc_1 ((6 - (0 : Int32).toInt).toNat + 1) 0 v _ _ (by omega) (by omega) (HI_0 (by omega)) (by omega) hv hfr hP hD hS ls (lv_sub hl [0, 1] rfl)

set_option maxHeartbeats 4000000 in
set_option maxRecDepth 100000 in
theorem e_X8_joined (l : Launch) (dC : Nat → ClassId) (dI : Nat → Nat → Nat) (cy : Nat → ClassId) (sz : Nat) (ad : Nat → Nat) (v : Nat → Nat → Int32) (hv : Ir v) (x0 : Int32) (hs : 0 ≤ x0.toInt ∧ x0.toInt ≤ 5) : Met l yX8_joined wsX8_joined ({ frames := 0, cells := 0, slots := 0, locals := 0 }) (va_Pc [.ref (ad 0), .int x0] (ex_Pre dC dI cy sz (wm ad cy v))) (va_Qi (fun (r : Int32) (u : Nat → Nat → Int32) => Ir u ∧ u = v ∧ r.toInt = cN (fun c => if (v 3 c).toInt = (v 3 x0.toNatClampNeg).toInt then 1 else 0) (v 1 2).toNatClampNeg) (fun u t => ex_Pst dC dI (va_A (wm ad cy v) sz) (wm ad cy u) t) (va_A (wm ad cy v) sz)) 0 0 (va_A (wm ad cy v) sz) := by
  refine Met.ofW (cc := cX8_joined) (maxL := 4) (ret := (some .int)) (by decide) rfl ?_
  intro p e s m args below meth c s₁ B hml hv
  obtain ⟨rfl, hsz, hE, hP, hK, hD0⟩ := hv
  have hx := B.exec
  have hb := B.bytes
  have hr := B.returns
  have hts := atoms_spec (ws := wsX8_joined) B.pre
  have hown : s.vm.findClass RX8 = some m.cls := findClass_of_methodNamed B.named
  have hlocks := B.notSynchronized
  subst hsz
  have hD := hD0.self (sz := s.heap.size)
  generalize hAe : va_A (wm ad cy v) s.heap.size = A at hD ⊢
  have hA : ∀ q : Nat, s.heap.size ≤ q → A q := fun q h => by rw [← hAe]; exact Or.inr h
  have hS : va_S A s.heap s.heap [] := va_S.rf
  have hP : va_P (dC, dI) vwCl (wm ad cy v) s.heap := hP
  have hl := lv_entry ([.ref (ad 0), .int x0]) (n := 4) (Nat.le_of_ble_eq_true rfl)
  rw [lg_entry_eq]
  generalize (lg_sl ([.ref (ad 0), .int x0]) ++ List.replicate (4 - (lg_sl ([.ref (ad 0), .int x0])).length) Slot.unset).toArray = ls at hl ⊢
  have hl : lv_has ls 4 [(0, .ref (ad 0)), (1, .int x0)] := hl
  have zn_x0 : (x0.toNatClampNeg : Int) = x0.toInt := t_nn (by omega)
  obtain ⟨cn, ecn⟩ : ∃ z : Int32, z = v 1 2 := ⟨_, rfl⟩
  have hbcn : 0 ≤ cn.toInt ∧ cn.toInt ≤ 6 := by rw [ecn]; exact hv 1 2 6 (by decide)
  have zn_cn : (cn.toNatClampNeg : Int) = cn.toInt := t_nn (by omega)
  have k_0 : (0 : Int32).toInt = 0 := by decide
  obtain ⟨FF, eFF⟩ : ∃ f : Nat → Int, f = fun c => if (v 3 c).toInt = (v 3 x0.toNatClampNeg).toInt then 1 else 0 := ⟨_, rfl⟩
  refine lv_iconst (v := 0) hx hb dX8_joined_0 (by decide) ?_
  refine lv_istore_n (lv' := [(2, .int 0), (0, .ref (ad 0)), (1, .int x0)]) hx hb dX8_joined_1 rfl hl (by decide) rfl (fun ls hl => ?_)
  refine lv_iconst (v := 0) hx hb dX8_joined_2 (by decide) ?_
  refine lv_istore_n (lv' := [(3, .int 0), (2, .int 0), (0, .ref (ad 0)), (1, .int x0)]) hx hb dX8_joined_3 rfl hl (by decide) rfl (fun ls hl => ?_)
  have hc_1 : ∀ (n : Nat) (y1_3 y1_2 : Int32) (H : Heap) (locs : List Loc), 0 ≤ y1_3.toInt → y1_3.toInt ≤ 6 → 0 ≤ y1_2.toInt → y1_2.toInt ≤ 6 → (y1_2.toInt = cN FF y1_3.toNatClampNeg) → (y1_2.toInt ≤ y1_3.toInt) → (y1_3.toInt ≤ cn.toInt) → (6 - y1_3.toInt).toNat < n → va_P (dC, dI) vwCl (wm ad cy v) H → va_D A (wm ad cy v) → va_S A s.heap H locs → ∀ ls : Array Slot, lv_has ls 4 [(3, .int y1_3), (2, .int y1_2), (0, .ref (ad 0)), (1, .int x0)] → W p l e (headSpec wsX8_joined ({ frames := 0, cells := 0, slots := 0, locals := 0 })).room s m [Value.ref (ad 0), Value.int x0].toArray below meth c H locs 0 0 (MQ below (va_Qi (fun (r : Int32) (u : Nat → Nat → Int32) => Ir u ∧ u = v ∧ r.toInt = cN (fun c => if (v 3 c).toInt = (v 3 x0.toNatClampNeg).toInt then 1 else 0) (v 1 2).toNatClampNeg) (fun u t => ex_Pst dC dI A (wm ad cy u) t) A) [Value.ref (ad 0), Value.int x0].toArray s 0 0 A) (F0 m 4 ls []) := by
    intro n
    induction n with
    | zero =>
      intro y1_3 y1_2 H locs ay1_3 by1_3 ay1_2 by1_2 hi1_0 hi1_1 hi1_2 hm_1 hP hD hS ls hl
      exact absurd hm_1 (by omega)
    | succ n ih_1 =>
      intro y1_3 y1_2 H locs ay1_3 by1_3 ay1_2 by1_2 hi1_0 hi1_1 hi1_2 hm_1 hP hD hS ls hl
      refine lv_iload_n hx hb dX8_joined_4 rfl (lv_at hl 0 rfl) ?_
      refine lv_aload_n hx hb dX8_joined_5 rfl (lv_at hl 2 rfl) ?_
      refine va_get (D := (dC, dI)) (ci := 8) (v := .ref (ad 1)) (C := RX8) (T := TX8) (N := 11) hx hb hts iwX8_joined_X8 hown hK hP (0) (wm_at (by decide) rc_0) rfl 0 (by decide) (hts (.fieldLink RX8 7 "QuietStairsModel" "s" "[I") fwX8_joined_1) (fun _ h9 => h9) rfl dX8_joined_6 ?_
      refine lv_iconst (v := 2) hx hb dX8_joined_9 (by decide) ?_
      have k_2 : (2 : Int32).toInt = 2 := by decide
      refine va_iald hx hb hK hP (1) 0 (wm_at (by decide) rc_1) rfl (by unfold vp_in; decide) dX8_joined_10 ?_
      refine lv_topi (fun x_2 ex_2 => ?_)
      have ex_2 : x_2 = v 1 2 := ex_2
      have bzx_2 : 0 ≤ x_2.toInt ∧ x_2.toInt ≤ 6 := by rw [ex_2]; exact hv 1 _ 6 (show bS 2 = some 6 from by decide)
      obtain rfl : cn = x_2 := (ex_2.trans ecn.symm).symm
      refine lv_icmp_ge (tgt := 43) hx hb dX8_joined_11 (by decide) (fun c_3 => ?_) (fun c_3 => ?_)
      · have tc_3 : y1_3.toInt ≥ cn.toInt := Int32.le_iff_toInt_le.mp c_3
        refine lv_iload_n hx hb dX8_joined_43 rfl (lv_at hl 1 rfl) ?_
        have zn_y1_3 : (y1_3.toNatClampNeg : Int) = y1_3.toInt := t_nn (by omega)
        exact W.iret (v := y1_2) hx hb hr (fun t ht hW => ⟨⟨y1_2, v, rfl, ⟨hv, rfl, by rw [← ecn, ← eFF, show cn.toNatClampNeg = y1_3.toNatClampNeg from by omega]; exact hi1_0⟩, by rw [ht]; exact hP, hD⟩, hS.F ht⟩) hS.2.2 dX8_joined_44
      · have tc_3 : y1_3.toInt < cn.toInt := Int32.lt_iff_toInt_lt.mp (Int32.not_le.mp c_3)
        refine lv_iload_n hx hb dX8_joined_14 rfl (lv_at hl 1 rfl) ?_
        refine lv_aload_n hx hb dX8_joined_15 rfl (lv_at hl 2 rfl) ?_
        refine va_get (D := (dC, dI)) (ci := 8) (v := .ref (ad 3)) (C := RX8) (T := TX8) (N := 11) hx hb hts iwX8_joined_X8 hown hK hP (0) (wm_at (by decide) rc_0) rfl 4 (by decide) (hts (.fieldLink RX8 20 "QuietStairsModel" "headOf" "[I") fwX8_joined_2) (fun _ h9 => h9) rfl dX8_joined_16 ?_
        refine lv_iload_n hx hb dX8_joined_19 rfl (lv_at hl 0 rfl) ?_
        have zn_y1_3 : (y1_3.toNatClampNeg : Int) = y1_3.toInt := t_nn (by omega)
        refine va_iald hx hb hK hP (3) 0 (wm_at (by decide) rc_3) rfl (vp_in_iff.mpr ⟨by omega, by omega⟩) dX8_joined_20 ?_
        refine lv_topi (fun x_4 ex_4 => ?_)
        have bzx_4 : 0 ≤ x_4.toInt ∧ x_4.toInt ≤ 5 := by rw [ex_4]; exact hv 3 _ 5 rfl
        have qx_4 : x_4.toInt = (v 3 (y1_3.toNatClampNeg)).toInt := congrArg Int32.toInt ex_4
        refine lv_aload_n hx hb dX8_joined_21 rfl (lv_at hl 2 rfl) ?_
        refine va_get (D := (dC, dI)) (ci := 8) (v := .ref (ad 3)) (C := RX8) (T := TX8) (N := 11) hx hb hts iwX8_joined_X8 hown hK hP (0) (wm_at (by decide) rc_0) rfl 4 (by decide) (hts (.fieldLink RX8 20 "QuietStairsModel" "headOf" "[I") fwX8_joined_2) (fun _ h9 => h9) rfl dX8_joined_22 ?_
        refine lv_iload_n hx hb dX8_joined_25 rfl (lv_at hl 3 rfl) ?_
        refine va_iald hx hb hK hP (3) 0 (wm_at (by decide) rc_3) rfl (vp_in_iff.mpr ⟨by omega, by omega⟩) dX8_joined_26 ?_
        refine lv_topi (fun x_5 ex_5 => ?_)
        have bzx_5 : 0 ≤ x_5.toInt ∧ x_5.toInt ≤ 5 := by rw [ex_5]; exact hv 3 _ 5 rfl
        have qx_5 : x_5.toInt = (v 3 (x0.toNatClampNeg)).toInt := congrArg Int32.toInt ex_5
        refine lv_icmp_ne (tgt := 34) hx hb dX8_joined_27 (by decide) (fun c_6 => ?_) (fun c_6 => ?_)
        · have tc_6 : x_4.toInt ≠ x_5.toInt := fun q => absurd (Int32.toInt_inj.mp q) c_6
          refine lv_iconst (v := 0) hx hb dX8_joined_34 (by decide) ?_
          refine lv_iadd hx hb dX8_joined_35 ?_
          refine lv_topi (fun x_7 ex_7 => ?_)
          have tx_7 : x_7.toInt = y1_2.toInt + (0 : Int32).toInt := by rw [ex_7]; exact t_add ⟨by omega, by omega⟩
          refine lv_istore_n (lv' := [(2, .int x_7), (3, .int y1_3), (0, .ref (ad 0)), (1, .int x0)]) hx hb dX8_joined_36 rfl hl (by decide) rfl (fun ls hl => ?_)
          obtain ⟨x_8, ex_8⟩ : ∃ y : Int32, y = y1_3 + 1 := ⟨_, rfl⟩
          refine lv_iinc (v := x_8) (lv' := [(3, .int x_8), (2, .int x_7), (0, .ref (ad 0)), (1, .int x0)]) hx hb dX8_joined_37 hl (k := 1) rfl (by rw [ex_8]; rfl) (by decide) rfl (fun ls hl => ?_)
          have k_1 : (1 : Int32).toInt = 1 := by decide
          have tx_8 : x_8.toInt = y1_3.toInt + (1 : Int32).toInt := by rw [ex_8]; exact t_add ⟨by omega, by omega⟩
          refine lv_goto (tgt := 4) hx hb dX8_joined_40 (by decide) ?_
          have zn_x_8 : (x_8.toNatClampNeg : Int) = x_8.toInt := t_nn (by omega)
          have hF9 : FF y1_3.toNatClampNeg = 0 := by rw [eFF]; show (if (v 3 y1_3.toNatClampNeg).toInt = (v 3 x0.toNatClampNeg).toInt then (1 : Int) else 0) = 0; exact if_neg (by rw [← ex_4, ← ex_5]; omega)
          exact ih_1 x_8 x_7 _ _ (by omega) (by omega) (by omega) (by omega) (by rw [show x_8.toNatClampNeg = y1_3.toNatClampNeg + 1 from by omega]; show _ = cN FF y1_3.toNatClampNeg + FF y1_3.toNatClampNeg; omega) (by omega) (by omega) (by omega) hP hD hS ls (lv_sub hl [0, 1, 2, 3] rfl)
        · have tc_6 : x_4.toInt = x_5.toInt := by rw [c_6]
          refine lv_iconst (v := 1) hx hb dX8_joined_30 (by decide) ?_
          refine lv_goto (tgt := 35) hx hb dX8_joined_31 (by decide) ?_
          refine lv_iadd hx hb dX8_joined_35 ?_
          refine lv_topi (fun x_7 ex_7 => ?_)
          have k_1 : (1 : Int32).toInt = 1 := by decide
          have tx_7 : x_7.toInt = y1_2.toInt + (1 : Int32).toInt := by rw [ex_7]; exact t_add ⟨by omega, by omega⟩
          refine lv_istore_n (lv' := [(2, .int x_7), (3, .int y1_3), (0, .ref (ad 0)), (1, .int x0)]) hx hb dX8_joined_36 rfl hl (by decide) rfl (fun ls hl => ?_)
          obtain ⟨x_8, ex_8⟩ : ∃ y : Int32, y = y1_3 + 1 := ⟨_, rfl⟩
          refine lv_iinc (v := x_8) (lv' := [(3, .int x_8), (2, .int x_7), (0, .ref (ad 0)), (1, .int x0)]) hx hb dX8_joined_37 hl (k := 1) rfl (by rw [ex_8]; rfl) (by decide) rfl (fun ls hl => ?_)
          have tx_8 : x_8.toInt = y1_3.toInt + (1 : Int32).toInt := by rw [ex_8]; exact t_add ⟨by omega, by omega⟩
          refine lv_goto (tgt := 4) hx hb dX8_joined_40 (by decide) ?_
          have zn_x_8 : (x_8.toNatClampNeg : Int) = x_8.toInt := t_nn (by omega)
          have hF9 : FF y1_3.toNatClampNeg = 1 := by rw [eFF]; show (if (v 3 y1_3.toNatClampNeg).toInt = (v 3 x0.toNatClampNeg).toInt then (1 : Int) else 0) = 1; exact if_pos (by rw [← ex_4, ← ex_5]; omega)
          exact ih_1 x_8 x_7 _ _ (by omega) (by omega) (by omega) (by omega) (by rw [show x_8.toNatClampNeg = y1_3.toNatClampNeg + 1 from by omega]; show _ = cN FF y1_3.toNatClampNeg + FF y1_3.toNatClampNeg; omega) (by omega) (by omega) (by omega) hP hD hS ls (lv_sub hl [0, 1, 2, 3] rfl)
  exact hc_1 ((6 - (0 : Int32).toInt).toNat + 1) 0 0 _ _ (by omega) (by omega) (by omega) (by omega) (by rw [show (0 : Int32).toNatClampNeg = 0 from by decide]; exact k_0) (by omega) (by omega) (by omega) hP hD hS ls (lv_sub hl [0, 1, 2, 3] rfl)

theorem of_4 {x : Int32} (h : 0 ≤ x.toInt ∧ x.toInt ≤ 4) : x = 0 ∨ x = 1 ∨ x = 2 ∨ x = 3 ∨ x = 4 := by
  rcases sw_5 x with q | q
  · omega
  · exact q

set_option maxHeartbeats 4000000 in
set_option maxRecDepth 100000 in
theorem e_X8_of (l : Launch) (dC : Nat → ClassId) (dI : Nat → Nat → Nat) (cy : Nat → ClassId) (sz : Nat) (ad : Nat → Nat) (v : Nat → Nat → Int32) (hv : Ir v) (hG : MG (v 1)) (x0 x1 : Int32) : Met l yX8_of wsX8_of ({ frames := 2, cells := 0, slots := 0, locals := 128 }) (va_Pc [.ref (ad 0), .int x0, .int x1] (ex_Pre dC dI cy sz (wm ad cy v))) (va_Qi (fun (r : Int32) (u : Nat → Nat → Int32) => Ir u ∧ (¬ (0 ≤ x0.toInt ∧ x0.toInt < (v 1 2).toInt) → (r = -1) ∧ Fq v u) ∧ ((0 ≤ x0.toInt ∧ x0.toInt < (v 1 2).toInt) ∧ x1.toInt = 0 → (r = v 1 (32 + 7 * x0.toNatClampNeg)) ∧ Fq v u) ∧ ((0 ≤ x0.toInt ∧ x0.toInt < (v 1 2).toInt) ∧ x1.toInt = 1 → (r = v 1 (33 + 7 * x0.toNatClampNeg)) ∧ Fq v u) ∧ ((0 ≤ x0.toInt ∧ x0.toInt < (v 1 2).toInt) ∧ x1.toInt = 2 → (r = v 1 (34 + 7 * x0.toNatClampNeg)) ∧ Fq v u) ∧ ((0 ≤ x0.toInt ∧ x0.toInt < (v 1 2).toInt) ∧ x1.toInt = 3 → (r = v 1 (35 + 7 * x0.toNatClampNeg)) ∧ Fq v u) ∧ ((0 ≤ x0.toInt ∧ x0.toInt < (v 1 2).toInt) ∧ x1.toInt = 4 → (r = v 1 (36 + 7 * x0.toNatClampNeg)) ∧ Fq v u) ∧ ((0 ≤ x0.toInt ∧ x0.toInt < (v 1 2).toInt) ∧ x1.toInt = 5 → (r = u 3 x0.toNatClampNeg ∧ HD (v 1) (u 3)) ∧ Fq v u) ∧ ((0 ≤ x0.toInt ∧ x0.toInt < (v 1 2).toInt) ∧ x1.toInt = 6 → (r.toInt = cN (fun c => if (u 3 c).toInt = (u 3 x0.toNatClampNeg).toInt then 1 else 0) (v 1 2).toNatClampNeg ∧ HD (v 1) (u 3)) ∧ Fq v u) ∧ ((0 ≤ x0.toInt ∧ x0.toInt < (v 1 2).toInt) ∧ x1.toInt = 7 → (r = v 1 (37 + 7 * x0.toNatClampNeg)) ∧ Fq v u) ∧ ((0 ≤ x0.toInt ∧ x0.toInt < (v 1 2).toInt) ∧ (x1.toInt < 0 ∨ 7 < x1.toInt) → (r = -1) ∧ Fq v u)) (fun u t => ex_Pst dC dI (va_A (wm ad cy v) sz) (wm ad cy u) t) (va_A (wm ad cy v) sz)) 0 0 (va_A (wm ad cy v) sz) := by
  refine Met.ofW (cc := cX8_of) (maxL := 3) (ret := (some .int)) (by decide) rfl ?_
  intro p e s m args below meth c s₁ B hml hv
  obtain ⟨rfl, hsz, hE, hP, hK, hD0⟩ := hv
  have hx := B.exec
  have hb := B.bytes
  have hr := B.returns
  have hts := atoms_spec (ws := wsX8_of) B.pre
  have hown : s.vm.findClass RX8 = some m.cls := findClass_of_methodNamed B.named
  have hlocks := B.notSynchronized
  subst hsz
  have hD := hD0.self (sz := s.heap.size)
  generalize hAe : va_A (wm ad cy v) s.heap.size = A at hD ⊢
  have hA : ∀ q : Nat, s.heap.size ≤ q → A q := fun q h => by rw [← hAe]; exact Or.inr h
  have hS : va_S A s.heap s.heap [] := va_S.rf
  have hP : va_P (dC, dI) vwCl (wm ad cy v) s.heap := hP
  have hl := lv_entry ([.ref (ad 0), .int x0, .int x1]) (n := 3) (Nat.le_of_ble_eq_true rfl)
  rw [lg_entry_eq]
  generalize (lg_sl ([.ref (ad 0), .int x0, .int x1]) ++ List.replicate (3 - (lg_sl ([.ref (ad 0), .int x0, .int x1])).length) Slot.unset).toArray = ls at hl ⊢
  have hl : lv_has ls 3 [(0, .ref (ad 0)), (1, .int x0), (2, .int x1)] := hl
  refine lv_aload_n hx hb dX8_of_0 rfl (lv_at hl 0 rfl) ?_
  refine lv_iload_n hx hb dX8_of_1 rfl (lv_at hl 1 rfl) ?_
  refine yw_i (w1 := fun (u : Nat → Nat → Int32) => wm ad cy u) hD hS hA (va_runV (As := [.int x0]) (rest := []) ⟨hx, hb, hml, hown, hts⟩ (q_X8_isCase l dC dI cy _ ad v hv x0) (cwV 1 hts gX8_of_X8_isCase rfl rfl rfl hd_V_X8_isCase_1 ⟨Nat.le_of_ble_eq_true rfl, Nat.le_of_ble_eq_true rfl⟩) (yw_preV hE hK hP hD (ci := 8) (q := (RX8, TX8, 11)) (q0 := 0) rfl (wm_at (by decide) rc_0)) rfl rfl hl.1 rfl (lv_room (Nat.le_of_ble_eq_true rfl)) dX8_of_2 ⟨Nat.le_of_ble_eq_true rfl, Nat.le_of_ble_eq_true rfl⟩) (fun r_1 v_1 H locs hw_1 hP hD hS => ?_)
  obtain ⟨-, hu_1, hw_1⟩ := hw_1
  replace hu_1 := hu_1.symm
  subst hu_1
  rcases hw_1 with ⟨rfl, ha_2⟩ | ⟨rfl, ha_2⟩
  · have hb_2 := hv 1 2 6 (by decide)
    have hj_2 : 0 ≤ x0.toInt ∧ x0.toInt ≤ 5 := ⟨by omega, by omega⟩
    refine lv_if_eq (tgt := 18) hx hb dX8_of_5 (by decide) (fun c9 => absurd c9 (by decide)) (fun _ => ?_)
    refine lv_iload_n hx hb dX8_of_8 rfl (lv_at hl 2 rfl) ?_
    refine lv_iconst (v := 0) hx hb dX8_of_9 (by decide) ?_
    refine lv_bipush (v := 7) hx hb dX8_of_10 (by decide) ?_
    refine yc_p hP hS (va_runS (As := [.int x1, .int 0, .int 7]) (rest := []) ⟨hx, hb, hml, hown, hts⟩ (c_X8_in l x1 0 7) (cwS 3 hts gX8_of_X8_in rfl rfl rfl hd_S_X8_in_3 ⟨Nat.le_of_ble_eq_true rfl, Nat.le_of_ble_eq_true rfl⟩) ex_preP rfl rfl hl.1 rfl (lv_room (Nat.le_of_ble_eq_true rfl)) dX8_of_12 ⟨Nat.le_of_ble_eq_true rfl, Nat.le_of_ble_eq_true rfl⟩) (fun r_3 H locs hw_3 hP hS => ?_)
    rcases wi_ca hw_3 with ⟨rfl, hc_4⟩ | ⟨rfl, hc_4⟩
    · have k_0 : (0 : Int32).toInt = 0 := by decide
      have k_7 : (7 : Int32).toInt = 7 := by decide
      have tc_4 := wi_tl hc_4
      refine lv_if_ne (tgt := 20) hx hb dX8_of_15 (by decide) (fun _ => ?_) (fun c9 => absurd c9 (by decide))
      refine lv_iload_n hx hb dX8_of_20 rfl (lv_at hl 2 rfl) ?_
      refine lv_iconst (v := 5) hx hb dX8_of_21 (by decide) ?_
      have k_5 : (5 : Int32).toInt = 5 := by decide
      refine lv_icmp_eq (tgt := 31) hx hb dX8_of_22 (by decide) (fun c_5 => ?_) (fun c_5 => ?_)
      · have tc_5 : x1.toInt = (5 : Int32).toInt := by rw [c_5]
        refine lv_aload_n hx hb dX8_of_31 rfl (lv_at hl 0 rfl) ?_
        refine yw_v (w1 := fun (u : Nat → Nat → Int32) => wm ad cy u) hD hS hA (va_runV (As := []) (rest := []) ⟨hx, hb, hml, hown, hts⟩ (e_X8_findHeads l dC dI cy _ ad v hv hG) (cwV 0 hts gX8_of_X8_findHeads rfl rfl rfl hd_V_X8_findHeads_0 ⟨Nat.le_of_ble_eq_true rfl, Nat.le_of_ble_eq_true rfl⟩) (yw_preV hE hK hP hD (ci := 8) (q := (RX8, TX8, 11)) (q0 := 0) rfl (wm_at (by decide) rc_0)) rfl rfl hl.1 rfl (lv_room (Nat.le_of_ble_eq_true rfl)) dX8_of_32 ⟨Nat.le_of_ble_eq_true rfl, Nat.le_of_ble_eq_true rfl⟩) (fun v_6 H locs hw_6 hP hD hS => ?_)
        obtain ⟨hv, hf_6, hw_6⟩ := hw_6
        refine lv_iload_n hx hb dX8_of_35 rfl (lv_at hl 2 rfl) ?_
        refine lv_iconst (v := 5) hx hb dX8_of_36 (by decide) ?_
        refine lv_icmp_ne (tgt := 49) hx hb dX8_of_37 (by decide) (fun c_7 => ?_) (fun c_7 => ?_)
        · have tc_7 : x1.toInt ≠ (5 : Int32).toInt := fun q => absurd (Int32.toInt_inj.mp q) c_7
          exfalso
          omega
        · have tc_7 : x1.toInt = (5 : Int32).toInt := by rw [c_7]
          refine lv_aload_n hx hb dX8_of_40 rfl (lv_at hl 0 rfl) ?_
          refine va_get (D := (dC, dI)) (ci := 8) (v := .ref (ad 3)) (C := RX8) (T := TX8) (N := 11) hx hb hts iwX8_of_X8 hown hK hP (0) (wm_at (by decide) rc_0) rfl 4 (by decide) (hts (.fieldLink RX8 20 "QuietStairsModel" "headOf" "[I") fwX8_of_1) (fun _ h9 => h9) rfl dX8_of_41 ?_
          refine lv_iload_n hx hb dX8_of_44 rfl (lv_at hl 1 rfl) ?_
          have zn_x0 : (x0.toNatClampNeg : Int) = x0.toInt := t_nn (by omega)
          refine va_iald hx hb hK hP (3) 0 (wm_at (by decide) rc_3) rfl (vp_in_iff.mpr ⟨by omega, by omega⟩) dX8_of_45 ?_
          refine lv_topi (fun x_8 ex_8 => ?_)
          have bzx_8 : 0 ≤ x_8.toInt ∧ x_8.toInt ≤ 5 := by rw [ex_8]; exact hv 3 _ 5 rfl
          have qx_8 : x_8.toInt = (v_6 3 (x0.toNatClampNeg)).toInt := congrArg Int32.toInt ex_8
          refine lv_goto (tgt := 54) hx hb dX8_of_46 (by decide) ?_
          have hpost : (¬ (0 ≤ x0.toInt ∧ x0.toInt < (v 1 2).toInt) → (x_8 = -1) ∧ Fq v v_6) ∧ ((0 ≤ x0.toInt ∧ x0.toInt < (v 1 2).toInt) ∧ x1.toInt = 0 → (x_8 = v 1 (32 + 7 * x0.toNatClampNeg)) ∧ Fq v v_6) ∧ ((0 ≤ x0.toInt ∧ x0.toInt < (v 1 2).toInt) ∧ x1.toInt = 1 → (x_8 = v 1 (33 + 7 * x0.toNatClampNeg)) ∧ Fq v v_6) ∧ ((0 ≤ x0.toInt ∧ x0.toInt < (v 1 2).toInt) ∧ x1.toInt = 2 → (x_8 = v 1 (34 + 7 * x0.toNatClampNeg)) ∧ Fq v v_6) ∧ ((0 ≤ x0.toInt ∧ x0.toInt < (v 1 2).toInt) ∧ x1.toInt = 3 → (x_8 = v 1 (35 + 7 * x0.toNatClampNeg)) ∧ Fq v v_6) ∧ ((0 ≤ x0.toInt ∧ x0.toInt < (v 1 2).toInt) ∧ x1.toInt = 4 → (x_8 = v 1 (36 + 7 * x0.toNatClampNeg)) ∧ Fq v v_6) ∧ ((0 ≤ x0.toInt ∧ x0.toInt < (v 1 2).toInt) ∧ x1.toInt = 5 → (x_8 = v_6 3 x0.toNatClampNeg ∧ HD (v 1) (v_6 3)) ∧ Fq v v_6) ∧ ((0 ≤ x0.toInt ∧ x0.toInt < (v 1 2).toInt) ∧ x1.toInt = 6 → (x_8.toInt = cN (fun c => if (v_6 3 c).toInt = (v_6 3 x0.toNatClampNeg).toInt then 1 else 0) (v 1 2).toNatClampNeg ∧ HD (v 1) (v_6 3)) ∧ Fq v v_6) ∧ ((0 ≤ x0.toInt ∧ x0.toInt < (v 1 2).toInt) ∧ x1.toInt = 7 → (x_8 = v 1 (37 + 7 * x0.toNatClampNeg)) ∧ Fq v v_6) ∧ ((0 ≤ x0.toInt ∧ x0.toInt < (v 1 2).toInt) ∧ (x1.toInt < 0 ∨ 7 < x1.toInt) → (x_8 = -1) ∧ Fq v v_6) := by
            refine ⟨fun hq => ?_, fun hq => ?_, fun hq => ?_, fun hq => ?_, fun hq => ?_, fun hq => ?_, fun hq => ?_, fun hq => ?_, fun hq => ?_, fun hq => ?_⟩
            · exfalso; omega
            · exfalso; omega
            · exfalso; omega
            · exfalso; omega
            · exfalso; omega
            · exfalso; omega
            · exact ⟨⟨by rw [ex_8], hw_6⟩, hf_6⟩
            · exfalso; omega
            · exfalso; omega
            · exfalso; omega
          exact W.iret (v := x_8) hx hb hr (fun t ht hW => ⟨⟨x_8, v_6, rfl, ⟨hv, hpost⟩, by rw [ht]; exact hP, hD⟩, hS.F ht⟩) hS.2.2 dX8_of_54
      · have tc_5 : x1.toInt ≠ (5 : Int32).toInt := fun q => absurd (Int32.toInt_inj.mp q) c_5
        refine lv_iload_n hx hb dX8_of_25 rfl (lv_at hl 2 rfl) ?_
        refine lv_bipush (v := 6) hx hb dX8_of_26 (by decide) ?_
        have k_6 : (6 : Int32).toInt = 6 := by decide
        refine lv_icmp_ne (tgt := 55) hx hb dX8_of_28 (by decide) (fun c_6 => ?_) (fun c_6 => ?_)
        · have tc_6 : x1.toInt ≠ (6 : Int32).toInt := fun q => absurd (Int32.toInt_inj.mp q) c_6
          refine lv_aload_n hx hb dX8_of_55 rfl (lv_at hl 0 rfl) ?_
          refine va_get (D := (dC, dI)) (ci := 8) (v := .ref (ad 1)) (C := RX8) (T := TX8) (N := 11) hx hb hts iwX8_of_X8 hown hK hP (0) (wm_at (by decide) rc_0) rfl 0 (by decide) (hts (.fieldLink RX8 7 "QuietStairsModel" "s" "[I") fwX8_of_2) (fun _ h9 => h9) rfl dX8_of_56 ?_
          refine lv_iload_n hx hb dX8_of_59 rfl (lv_at hl 1 rfl) ?_
          refine lv_iload_n hx hb dX8_of_60 rfl (lv_at hl 2 rfl) ?_
          refine lv_bipush (v := 7) hx hb dX8_of_61 (by decide) ?_
          refine lv_icmp_ne (tgt := 70) hx hb dX8_of_63 (by decide) (fun c_7 => ?_) (fun c_7 => ?_)
          · have tc_7 : x1.toInt ≠ (7 : Int32).toInt := fun q => absurd (Int32.toInt_inj.mp q) c_7
            refine lv_iload_n hx hb dX8_of_70 rfl (lv_at hl 2 rfl) ?_
            rcases of_4 (x := x1) ⟨by omega, by omega⟩ with hsw | hsw | hsw | hsw | hsw
            · have tsw : x1.toInt = 0 := by rw [hsw]; decide
              refine yc_p hP hS (va_runS (As := [.int x0, .int x1]) (rest := [.ref (ad 1)]) ⟨hx, hb, hml, hown, hts⟩ (c_X8_at l x0 x1) (cwS 2 hts gX8_of_X8_at rfl rfl rfl hd_S_X8_at_2 ⟨Nat.le_of_ble_eq_true rfl, Nat.le_of_ble_eq_true rfl⟩) ex_preP rfl rfl hl.1 rfl (lv_room (Nat.le_of_ble_eq_true rfl)) dX8_of_71 ⟨Nat.le_of_ble_eq_true rfl, Nat.le_of_ble_eq_true rfl⟩) (fun r_8 H locs hw_8 hP hS => ?_)
              have tr_8 : r_8.toInt = 32 + 7 * x0.toInt + x1.toInt := t_at hw_8 ⟨by omega, by omega⟩ ⟨by omega, by omega⟩
              have tr_8 : r_8.toInt = 32 + 7 * x0.toInt := by omega
              have zn_x0 : (x0.toNatClampNeg : Int) = x0.toInt := t_nn (by omega)
              have nr_8 : r_8.toNatClampNeg = 32 + 7 * x0.toNatClampNeg := by have z1 := t_nn (x := r_8) (by omega); omega
              refine va_iald hx hb hK hP (1) 0 (wm_at (by decide) rc_1) rfl (vp_in_iff.mpr ⟨by omega, by omega⟩) dX8_of_74 ?_
              refine lv_topi (fun x_9 ex_9 => ?_)
              have bzx_9 : 0 ≤ x_9.toInt ∧ x_9.toInt ≤ 7 := by rw [ex_9]; exact hv 1 _ 7 (bx_0 (i := x0.toInt) (s := 0) (by omega) ⟨by omega, by omega⟩ ⟨by omega, by omega⟩)
              rw [nr_8] at ex_9
              have qx_9 : x_9.toInt = (v 1 (32 + 7 * x0.toNatClampNeg)).toInt := congrArg Int32.toInt ex_9
              have hpost : (¬ (0 ≤ x0.toInt ∧ x0.toInt < (v 1 2).toInt) → (x_9 = -1) ∧ Fq v v) ∧ ((0 ≤ x0.toInt ∧ x0.toInt < (v 1 2).toInt) ∧ x1.toInt = 0 → (x_9 = v 1 (32 + 7 * x0.toNatClampNeg)) ∧ Fq v v) ∧ ((0 ≤ x0.toInt ∧ x0.toInt < (v 1 2).toInt) ∧ x1.toInt = 1 → (x_9 = v 1 (33 + 7 * x0.toNatClampNeg)) ∧ Fq v v) ∧ ((0 ≤ x0.toInt ∧ x0.toInt < (v 1 2).toInt) ∧ x1.toInt = 2 → (x_9 = v 1 (34 + 7 * x0.toNatClampNeg)) ∧ Fq v v) ∧ ((0 ≤ x0.toInt ∧ x0.toInt < (v 1 2).toInt) ∧ x1.toInt = 3 → (x_9 = v 1 (35 + 7 * x0.toNatClampNeg)) ∧ Fq v v) ∧ ((0 ≤ x0.toInt ∧ x0.toInt < (v 1 2).toInt) ∧ x1.toInt = 4 → (x_9 = v 1 (36 + 7 * x0.toNatClampNeg)) ∧ Fq v v) ∧ ((0 ≤ x0.toInt ∧ x0.toInt < (v 1 2).toInt) ∧ x1.toInt = 5 → (x_9 = v 3 x0.toNatClampNeg ∧ HD (v 1) (v 3)) ∧ Fq v v) ∧ ((0 ≤ x0.toInt ∧ x0.toInt < (v 1 2).toInt) ∧ x1.toInt = 6 → (x_9.toInt = cN (fun c => if (v 3 c).toInt = (v 3 x0.toNatClampNeg).toInt then 1 else 0) (v 1 2).toNatClampNeg ∧ HD (v 1) (v 3)) ∧ Fq v v) ∧ ((0 ≤ x0.toInt ∧ x0.toInt < (v 1 2).toInt) ∧ x1.toInt = 7 → (x_9 = v 1 (37 + 7 * x0.toNatClampNeg)) ∧ Fq v v) ∧ ((0 ≤ x0.toInt ∧ x0.toInt < (v 1 2).toInt) ∧ (x1.toInt < 0 ∨ 7 < x1.toInt) → (x_9 = -1) ∧ Fq v v) := by
                refine ⟨fun hq => ?_, fun hq => ?_, fun hq => ?_, fun hq => ?_, fun hq => ?_, fun hq => ?_, fun hq => ?_, fun hq => ?_, fun hq => ?_, fun hq => ?_⟩
                · exfalso; omega
                · exact ⟨by rw [ex_9], Fq.rf⟩
                · exfalso; omega
                · exfalso; omega
                · exfalso; omega
                · exfalso; omega
                · exfalso; omega
                · exfalso; omega
                · exfalso; omega
                · exfalso; omega
              exact W.iret (v := x_9) hx hb hr (fun t ht hW => ⟨⟨x_9, v, rfl, ⟨hv, hpost⟩, by rw [ht]; exact hP, hD⟩, hS.F ht⟩) hS.2.2 dX8_of_75
            · have tsw : x1.toInt = 1 := by rw [hsw]; decide
              refine yc_p hP hS (va_runS (As := [.int x0, .int x1]) (rest := [.ref (ad 1)]) ⟨hx, hb, hml, hown, hts⟩ (c_X8_at l x0 x1) (cwS 2 hts gX8_of_X8_at rfl rfl rfl hd_S_X8_at_2 ⟨Nat.le_of_ble_eq_true rfl, Nat.le_of_ble_eq_true rfl⟩) ex_preP rfl rfl hl.1 rfl (lv_room (Nat.le_of_ble_eq_true rfl)) dX8_of_71 ⟨Nat.le_of_ble_eq_true rfl, Nat.le_of_ble_eq_true rfl⟩) (fun r_8 H locs hw_8 hP hS => ?_)
              have tr_8 : r_8.toInt = 32 + 7 * x0.toInt + x1.toInt := t_at hw_8 ⟨by omega, by omega⟩ ⟨by omega, by omega⟩
              have tr_8 : r_8.toInt = 33 + 7 * x0.toInt := by omega
              have zn_x0 : (x0.toNatClampNeg : Int) = x0.toInt := t_nn (by omega)
              have nr_8 : r_8.toNatClampNeg = 33 + 7 * x0.toNatClampNeg := by have z1 := t_nn (x := r_8) (by omega); omega
              refine va_iald hx hb hK hP (1) 0 (wm_at (by decide) rc_1) rfl (vp_in_iff.mpr ⟨by omega, by omega⟩) dX8_of_74 ?_
              refine lv_topi (fun x_9 ex_9 => ?_)
              have bzx_9 : 0 ≤ x_9.toInt ∧ x_9.toInt ≤ 7 := by rw [ex_9]; exact hv 1 _ 7 (bx_0 (i := x0.toInt) (s := 1) (by omega) ⟨by omega, by omega⟩ ⟨by omega, by omega⟩)
              rw [nr_8] at ex_9
              have qx_9 : x_9.toInt = (v 1 (33 + 7 * x0.toNatClampNeg)).toInt := congrArg Int32.toInt ex_9
              have hpost : (¬ (0 ≤ x0.toInt ∧ x0.toInt < (v 1 2).toInt) → (x_9 = -1) ∧ Fq v v) ∧ ((0 ≤ x0.toInt ∧ x0.toInt < (v 1 2).toInt) ∧ x1.toInt = 0 → (x_9 = v 1 (32 + 7 * x0.toNatClampNeg)) ∧ Fq v v) ∧ ((0 ≤ x0.toInt ∧ x0.toInt < (v 1 2).toInt) ∧ x1.toInt = 1 → (x_9 = v 1 (33 + 7 * x0.toNatClampNeg)) ∧ Fq v v) ∧ ((0 ≤ x0.toInt ∧ x0.toInt < (v 1 2).toInt) ∧ x1.toInt = 2 → (x_9 = v 1 (34 + 7 * x0.toNatClampNeg)) ∧ Fq v v) ∧ ((0 ≤ x0.toInt ∧ x0.toInt < (v 1 2).toInt) ∧ x1.toInt = 3 → (x_9 = v 1 (35 + 7 * x0.toNatClampNeg)) ∧ Fq v v) ∧ ((0 ≤ x0.toInt ∧ x0.toInt < (v 1 2).toInt) ∧ x1.toInt = 4 → (x_9 = v 1 (36 + 7 * x0.toNatClampNeg)) ∧ Fq v v) ∧ ((0 ≤ x0.toInt ∧ x0.toInt < (v 1 2).toInt) ∧ x1.toInt = 5 → (x_9 = v 3 x0.toNatClampNeg ∧ HD (v 1) (v 3)) ∧ Fq v v) ∧ ((0 ≤ x0.toInt ∧ x0.toInt < (v 1 2).toInt) ∧ x1.toInt = 6 → (x_9.toInt = cN (fun c => if (v 3 c).toInt = (v 3 x0.toNatClampNeg).toInt then 1 else 0) (v 1 2).toNatClampNeg ∧ HD (v 1) (v 3)) ∧ Fq v v) ∧ ((0 ≤ x0.toInt ∧ x0.toInt < (v 1 2).toInt) ∧ x1.toInt = 7 → (x_9 = v 1 (37 + 7 * x0.toNatClampNeg)) ∧ Fq v v) ∧ ((0 ≤ x0.toInt ∧ x0.toInt < (v 1 2).toInt) ∧ (x1.toInt < 0 ∨ 7 < x1.toInt) → (x_9 = -1) ∧ Fq v v) := by
                refine ⟨fun hq => ?_, fun hq => ?_, fun hq => ?_, fun hq => ?_, fun hq => ?_, fun hq => ?_, fun hq => ?_, fun hq => ?_, fun hq => ?_, fun hq => ?_⟩
                · exfalso; omega
                · exfalso; omega
                · exact ⟨by rw [ex_9], Fq.rf⟩
                · exfalso; omega
                · exfalso; omega
                · exfalso; omega
                · exfalso; omega
                · exfalso; omega
                · exfalso; omega
                · exfalso; omega
              exact W.iret (v := x_9) hx hb hr (fun t ht hW => ⟨⟨x_9, v, rfl, ⟨hv, hpost⟩, by rw [ht]; exact hP, hD⟩, hS.F ht⟩) hS.2.2 dX8_of_75
            · have tsw : x1.toInt = 2 := by rw [hsw]; decide
              refine yc_p hP hS (va_runS (As := [.int x0, .int x1]) (rest := [.ref (ad 1)]) ⟨hx, hb, hml, hown, hts⟩ (c_X8_at l x0 x1) (cwS 2 hts gX8_of_X8_at rfl rfl rfl hd_S_X8_at_2 ⟨Nat.le_of_ble_eq_true rfl, Nat.le_of_ble_eq_true rfl⟩) ex_preP rfl rfl hl.1 rfl (lv_room (Nat.le_of_ble_eq_true rfl)) dX8_of_71 ⟨Nat.le_of_ble_eq_true rfl, Nat.le_of_ble_eq_true rfl⟩) (fun r_8 H locs hw_8 hP hS => ?_)
              have tr_8 : r_8.toInt = 32 + 7 * x0.toInt + x1.toInt := t_at hw_8 ⟨by omega, by omega⟩ ⟨by omega, by omega⟩
              have tr_8 : r_8.toInt = 34 + 7 * x0.toInt := by omega
              have zn_x0 : (x0.toNatClampNeg : Int) = x0.toInt := t_nn (by omega)
              have nr_8 : r_8.toNatClampNeg = 34 + 7 * x0.toNatClampNeg := by have z1 := t_nn (x := r_8) (by omega); omega
              refine va_iald hx hb hK hP (1) 0 (wm_at (by decide) rc_1) rfl (vp_in_iff.mpr ⟨by omega, by omega⟩) dX8_of_74 ?_
              refine lv_topi (fun x_9 ex_9 => ?_)
              rw [nr_8] at ex_9
              have qx_9 : x_9.toInt = (v 1 (34 + 7 * x0.toNatClampNeg)).toInt := congrArg Int32.toInt ex_9
              have hpost : (¬ (0 ≤ x0.toInt ∧ x0.toInt < (v 1 2).toInt) → (x_9 = -1) ∧ Fq v v) ∧ ((0 ≤ x0.toInt ∧ x0.toInt < (v 1 2).toInt) ∧ x1.toInt = 0 → (x_9 = v 1 (32 + 7 * x0.toNatClampNeg)) ∧ Fq v v) ∧ ((0 ≤ x0.toInt ∧ x0.toInt < (v 1 2).toInt) ∧ x1.toInt = 1 → (x_9 = v 1 (33 + 7 * x0.toNatClampNeg)) ∧ Fq v v) ∧ ((0 ≤ x0.toInt ∧ x0.toInt < (v 1 2).toInt) ∧ x1.toInt = 2 → (x_9 = v 1 (34 + 7 * x0.toNatClampNeg)) ∧ Fq v v) ∧ ((0 ≤ x0.toInt ∧ x0.toInt < (v 1 2).toInt) ∧ x1.toInt = 3 → (x_9 = v 1 (35 + 7 * x0.toNatClampNeg)) ∧ Fq v v) ∧ ((0 ≤ x0.toInt ∧ x0.toInt < (v 1 2).toInt) ∧ x1.toInt = 4 → (x_9 = v 1 (36 + 7 * x0.toNatClampNeg)) ∧ Fq v v) ∧ ((0 ≤ x0.toInt ∧ x0.toInt < (v 1 2).toInt) ∧ x1.toInt = 5 → (x_9 = v 3 x0.toNatClampNeg ∧ HD (v 1) (v 3)) ∧ Fq v v) ∧ ((0 ≤ x0.toInt ∧ x0.toInt < (v 1 2).toInt) ∧ x1.toInt = 6 → (x_9.toInt = cN (fun c => if (v 3 c).toInt = (v 3 x0.toNatClampNeg).toInt then 1 else 0) (v 1 2).toNatClampNeg ∧ HD (v 1) (v 3)) ∧ Fq v v) ∧ ((0 ≤ x0.toInt ∧ x0.toInt < (v 1 2).toInt) ∧ x1.toInt = 7 → (x_9 = v 1 (37 + 7 * x0.toNatClampNeg)) ∧ Fq v v) ∧ ((0 ≤ x0.toInt ∧ x0.toInt < (v 1 2).toInt) ∧ (x1.toInt < 0 ∨ 7 < x1.toInt) → (x_9 = -1) ∧ Fq v v) := by
                refine ⟨fun hq => ?_, fun hq => ?_, fun hq => ?_, fun hq => ?_, fun hq => ?_, fun hq => ?_, fun hq => ?_, fun hq => ?_, fun hq => ?_, fun hq => ?_⟩
                · exfalso; omega
                · exfalso; omega
                · exfalso; omega
                · exact ⟨by rw [ex_9], Fq.rf⟩
                · exfalso; omega
                · exfalso; omega
                · exfalso; omega
                · exfalso; omega
                · exfalso; omega
                · exfalso; omega
              exact W.iret (v := x_9) hx hb hr (fun t ht hW => ⟨⟨x_9, v, rfl, ⟨hv, hpost⟩, by rw [ht]; exact hP, hD⟩, hS.F ht⟩) hS.2.2 dX8_of_75
            · have tsw : x1.toInt = 3 := by rw [hsw]; decide
              refine yc_p hP hS (va_runS (As := [.int x0, .int x1]) (rest := [.ref (ad 1)]) ⟨hx, hb, hml, hown, hts⟩ (c_X8_at l x0 x1) (cwS 2 hts gX8_of_X8_at rfl rfl rfl hd_S_X8_at_2 ⟨Nat.le_of_ble_eq_true rfl, Nat.le_of_ble_eq_true rfl⟩) ex_preP rfl rfl hl.1 rfl (lv_room (Nat.le_of_ble_eq_true rfl)) dX8_of_71 ⟨Nat.le_of_ble_eq_true rfl, Nat.le_of_ble_eq_true rfl⟩) (fun r_8 H locs hw_8 hP hS => ?_)
              have tr_8 : r_8.toInt = 32 + 7 * x0.toInt + x1.toInt := t_at hw_8 ⟨by omega, by omega⟩ ⟨by omega, by omega⟩
              have tr_8 : r_8.toInt = 35 + 7 * x0.toInt := by omega
              have zn_x0 : (x0.toNatClampNeg : Int) = x0.toInt := t_nn (by omega)
              have nr_8 : r_8.toNatClampNeg = 35 + 7 * x0.toNatClampNeg := by have z1 := t_nn (x := r_8) (by omega); omega
              refine va_iald hx hb hK hP (1) 0 (wm_at (by decide) rc_1) rfl (vp_in_iff.mpr ⟨by omega, by omega⟩) dX8_of_74 ?_
              refine lv_topi (fun x_9 ex_9 => ?_)
              rw [nr_8] at ex_9
              have qx_9 : x_9.toInt = (v 1 (35 + 7 * x0.toNatClampNeg)).toInt := congrArg Int32.toInt ex_9
              have hpost : (¬ (0 ≤ x0.toInt ∧ x0.toInt < (v 1 2).toInt) → (x_9 = -1) ∧ Fq v v) ∧ ((0 ≤ x0.toInt ∧ x0.toInt < (v 1 2).toInt) ∧ x1.toInt = 0 → (x_9 = v 1 (32 + 7 * x0.toNatClampNeg)) ∧ Fq v v) ∧ ((0 ≤ x0.toInt ∧ x0.toInt < (v 1 2).toInt) ∧ x1.toInt = 1 → (x_9 = v 1 (33 + 7 * x0.toNatClampNeg)) ∧ Fq v v) ∧ ((0 ≤ x0.toInt ∧ x0.toInt < (v 1 2).toInt) ∧ x1.toInt = 2 → (x_9 = v 1 (34 + 7 * x0.toNatClampNeg)) ∧ Fq v v) ∧ ((0 ≤ x0.toInt ∧ x0.toInt < (v 1 2).toInt) ∧ x1.toInt = 3 → (x_9 = v 1 (35 + 7 * x0.toNatClampNeg)) ∧ Fq v v) ∧ ((0 ≤ x0.toInt ∧ x0.toInt < (v 1 2).toInt) ∧ x1.toInt = 4 → (x_9 = v 1 (36 + 7 * x0.toNatClampNeg)) ∧ Fq v v) ∧ ((0 ≤ x0.toInt ∧ x0.toInt < (v 1 2).toInt) ∧ x1.toInt = 5 → (x_9 = v 3 x0.toNatClampNeg ∧ HD (v 1) (v 3)) ∧ Fq v v) ∧ ((0 ≤ x0.toInt ∧ x0.toInt < (v 1 2).toInt) ∧ x1.toInt = 6 → (x_9.toInt = cN (fun c => if (v 3 c).toInt = (v 3 x0.toNatClampNeg).toInt then 1 else 0) (v 1 2).toNatClampNeg ∧ HD (v 1) (v 3)) ∧ Fq v v) ∧ ((0 ≤ x0.toInt ∧ x0.toInt < (v 1 2).toInt) ∧ x1.toInt = 7 → (x_9 = v 1 (37 + 7 * x0.toNatClampNeg)) ∧ Fq v v) ∧ ((0 ≤ x0.toInt ∧ x0.toInt < (v 1 2).toInt) ∧ (x1.toInt < 0 ∨ 7 < x1.toInt) → (x_9 = -1) ∧ Fq v v) := by
                refine ⟨fun hq => ?_, fun hq => ?_, fun hq => ?_, fun hq => ?_, fun hq => ?_, fun hq => ?_, fun hq => ?_, fun hq => ?_, fun hq => ?_, fun hq => ?_⟩
                · exfalso; omega
                · exfalso; omega
                · exfalso; omega
                · exfalso; omega
                · exact ⟨by rw [ex_9], Fq.rf⟩
                · exfalso; omega
                · exfalso; omega
                · exfalso; omega
                · exfalso; omega
                · exfalso; omega
              exact W.iret (v := x_9) hx hb hr (fun t ht hW => ⟨⟨x_9, v, rfl, ⟨hv, hpost⟩, by rw [ht]; exact hP, hD⟩, hS.F ht⟩) hS.2.2 dX8_of_75
            · have tsw : x1.toInt = 4 := by rw [hsw]; decide
              refine yc_p hP hS (va_runS (As := [.int x0, .int x1]) (rest := [.ref (ad 1)]) ⟨hx, hb, hml, hown, hts⟩ (c_X8_at l x0 x1) (cwS 2 hts gX8_of_X8_at rfl rfl rfl hd_S_X8_at_2 ⟨Nat.le_of_ble_eq_true rfl, Nat.le_of_ble_eq_true rfl⟩) ex_preP rfl rfl hl.1 rfl (lv_room (Nat.le_of_ble_eq_true rfl)) dX8_of_71 ⟨Nat.le_of_ble_eq_true rfl, Nat.le_of_ble_eq_true rfl⟩) (fun r_8 H locs hw_8 hP hS => ?_)
              have tr_8 : r_8.toInt = 32 + 7 * x0.toInt + x1.toInt := t_at hw_8 ⟨by omega, by omega⟩ ⟨by omega, by omega⟩
              have tr_8 : r_8.toInt = 36 + 7 * x0.toInt := by omega
              have zn_x0 : (x0.toNatClampNeg : Int) = x0.toInt := t_nn (by omega)
              have nr_8 : r_8.toNatClampNeg = 36 + 7 * x0.toNatClampNeg := by have z1 := t_nn (x := r_8) (by omega); omega
              refine va_iald hx hb hK hP (1) 0 (wm_at (by decide) rc_1) rfl (vp_in_iff.mpr ⟨by omega, by omega⟩) dX8_of_74 ?_
              refine lv_topi (fun x_9 ex_9 => ?_)
              have bzx_9 : 0 ≤ x_9.toInt ∧ x_9.toInt ≤ 5 := by rw [ex_9]; exact hv 1 _ 5 (bx_4 (i := x0.toInt) (s := 4) (by omega) ⟨by omega, by omega⟩ (by omega))
              rw [nr_8] at ex_9
              have qx_9 : x_9.toInt = (v 1 (36 + 7 * x0.toNatClampNeg)).toInt := congrArg Int32.toInt ex_9
              have hpost : (¬ (0 ≤ x0.toInt ∧ x0.toInt < (v 1 2).toInt) → (x_9 = -1) ∧ Fq v v) ∧ ((0 ≤ x0.toInt ∧ x0.toInt < (v 1 2).toInt) ∧ x1.toInt = 0 → (x_9 = v 1 (32 + 7 * x0.toNatClampNeg)) ∧ Fq v v) ∧ ((0 ≤ x0.toInt ∧ x0.toInt < (v 1 2).toInt) ∧ x1.toInt = 1 → (x_9 = v 1 (33 + 7 * x0.toNatClampNeg)) ∧ Fq v v) ∧ ((0 ≤ x0.toInt ∧ x0.toInt < (v 1 2).toInt) ∧ x1.toInt = 2 → (x_9 = v 1 (34 + 7 * x0.toNatClampNeg)) ∧ Fq v v) ∧ ((0 ≤ x0.toInt ∧ x0.toInt < (v 1 2).toInt) ∧ x1.toInt = 3 → (x_9 = v 1 (35 + 7 * x0.toNatClampNeg)) ∧ Fq v v) ∧ ((0 ≤ x0.toInt ∧ x0.toInt < (v 1 2).toInt) ∧ x1.toInt = 4 → (x_9 = v 1 (36 + 7 * x0.toNatClampNeg)) ∧ Fq v v) ∧ ((0 ≤ x0.toInt ∧ x0.toInt < (v 1 2).toInt) ∧ x1.toInt = 5 → (x_9 = v 3 x0.toNatClampNeg ∧ HD (v 1) (v 3)) ∧ Fq v v) ∧ ((0 ≤ x0.toInt ∧ x0.toInt < (v 1 2).toInt) ∧ x1.toInt = 6 → (x_9.toInt = cN (fun c => if (v 3 c).toInt = (v 3 x0.toNatClampNeg).toInt then 1 else 0) (v 1 2).toNatClampNeg ∧ HD (v 1) (v 3)) ∧ Fq v v) ∧ ((0 ≤ x0.toInt ∧ x0.toInt < (v 1 2).toInt) ∧ x1.toInt = 7 → (x_9 = v 1 (37 + 7 * x0.toNatClampNeg)) ∧ Fq v v) ∧ ((0 ≤ x0.toInt ∧ x0.toInt < (v 1 2).toInt) ∧ (x1.toInt < 0 ∨ 7 < x1.toInt) → (x_9 = -1) ∧ Fq v v) := by
                refine ⟨fun hq => ?_, fun hq => ?_, fun hq => ?_, fun hq => ?_, fun hq => ?_, fun hq => ?_, fun hq => ?_, fun hq => ?_, fun hq => ?_, fun hq => ?_⟩
                · exfalso; omega
                · exfalso; omega
                · exfalso; omega
                · exfalso; omega
                · exfalso; omega
                · exact ⟨by rw [ex_9], Fq.rf⟩
                · exfalso; omega
                · exfalso; omega
                · exfalso; omega
                · exfalso; omega
              exact W.iret (v := x_9) hx hb hr (fun t ht hW => ⟨⟨x_9, v, rfl, ⟨hv, hpost⟩, by rw [ht]; exact hP, hD⟩, hS.F ht⟩) hS.2.2 dX8_of_75
          · have tc_7 : x1.toInt = (7 : Int32).toInt := by rw [c_7]
            refine lv_iconst (v := 5) hx hb dX8_of_66 (by decide) ?_
            refine lv_goto (tgt := 71) hx hb dX8_of_67 (by decide) ?_
            refine yc_p hP hS (va_runS (As := [.int x0, .int 5]) (rest := [.ref (ad 1)]) ⟨hx, hb, hml, hown, hts⟩ (c_X8_at l x0 5) (cwS 2 hts gX8_of_X8_at rfl rfl rfl hd_S_X8_at_2 ⟨Nat.le_of_ble_eq_true rfl, Nat.le_of_ble_eq_true rfl⟩) ex_preP rfl rfl hl.1 rfl (lv_room (Nat.le_of_ble_eq_true rfl)) dX8_of_71 ⟨Nat.le_of_ble_eq_true rfl, Nat.le_of_ble_eq_true rfl⟩) (fun r_8 H locs hw_8 hP hS => ?_)
            have tr_8 : r_8.toInt = 32 + 7 * x0.toInt + (5 : Int32).toInt := t_at hw_8 ⟨by omega, by omega⟩ ⟨by omega, by omega⟩
            have zn_x0 : (x0.toNatClampNeg : Int) = x0.toInt := t_nn (by omega)
            have nr_8 : r_8.toNatClampNeg = 37 + 7 * x0.toNatClampNeg := by have z1 := t_nn (x := r_8) (by omega); omega
            refine va_iald hx hb hK hP (1) 0 (wm_at (by decide) rc_1) rfl (vp_in_iff.mpr ⟨by omega, by omega⟩) dX8_of_74 ?_
            refine lv_topi (fun x_9 ex_9 => ?_)
            rw [nr_8] at ex_9
            have qx_9 : x_9.toInt = (v 1 (37 + 7 * x0.toNatClampNeg)).toInt := congrArg Int32.toInt ex_9
            have hpost : (¬ (0 ≤ x0.toInt ∧ x0.toInt < (v 1 2).toInt) → (x_9 = -1) ∧ Fq v v) ∧ ((0 ≤ x0.toInt ∧ x0.toInt < (v 1 2).toInt) ∧ x1.toInt = 0 → (x_9 = v 1 (32 + 7 * x0.toNatClampNeg)) ∧ Fq v v) ∧ ((0 ≤ x0.toInt ∧ x0.toInt < (v 1 2).toInt) ∧ x1.toInt = 1 → (x_9 = v 1 (33 + 7 * x0.toNatClampNeg)) ∧ Fq v v) ∧ ((0 ≤ x0.toInt ∧ x0.toInt < (v 1 2).toInt) ∧ x1.toInt = 2 → (x_9 = v 1 (34 + 7 * x0.toNatClampNeg)) ∧ Fq v v) ∧ ((0 ≤ x0.toInt ∧ x0.toInt < (v 1 2).toInt) ∧ x1.toInt = 3 → (x_9 = v 1 (35 + 7 * x0.toNatClampNeg)) ∧ Fq v v) ∧ ((0 ≤ x0.toInt ∧ x0.toInt < (v 1 2).toInt) ∧ x1.toInt = 4 → (x_9 = v 1 (36 + 7 * x0.toNatClampNeg)) ∧ Fq v v) ∧ ((0 ≤ x0.toInt ∧ x0.toInt < (v 1 2).toInt) ∧ x1.toInt = 5 → (x_9 = v 3 x0.toNatClampNeg ∧ HD (v 1) (v 3)) ∧ Fq v v) ∧ ((0 ≤ x0.toInt ∧ x0.toInt < (v 1 2).toInt) ∧ x1.toInt = 6 → (x_9.toInt = cN (fun c => if (v 3 c).toInt = (v 3 x0.toNatClampNeg).toInt then 1 else 0) (v 1 2).toNatClampNeg ∧ HD (v 1) (v 3)) ∧ Fq v v) ∧ ((0 ≤ x0.toInt ∧ x0.toInt < (v 1 2).toInt) ∧ x1.toInt = 7 → (x_9 = v 1 (37 + 7 * x0.toNatClampNeg)) ∧ Fq v v) ∧ ((0 ≤ x0.toInt ∧ x0.toInt < (v 1 2).toInt) ∧ (x1.toInt < 0 ∨ 7 < x1.toInt) → (x_9 = -1) ∧ Fq v v) := by
              refine ⟨fun hq => ?_, fun hq => ?_, fun hq => ?_, fun hq => ?_, fun hq => ?_, fun hq => ?_, fun hq => ?_, fun hq => ?_, fun hq => ?_, fun hq => ?_⟩
              · exfalso; omega
              · exfalso; omega
              · exfalso; omega
              · exfalso; omega
              · exfalso; omega
              · exfalso; omega
              · exfalso; omega
              · exfalso; omega
              · exact ⟨by rw [ex_9], Fq.rf⟩
              · exfalso; omega
            exact W.iret (v := x_9) hx hb hr (fun t ht hW => ⟨⟨x_9, v, rfl, ⟨hv, hpost⟩, by rw [ht]; exact hP, hD⟩, hS.F ht⟩) hS.2.2 dX8_of_75
        · have tc_6 : x1.toInt = (6 : Int32).toInt := by rw [c_6]
          refine lv_aload_n hx hb dX8_of_31 rfl (lv_at hl 0 rfl) ?_
          refine yw_v (w1 := fun (u : Nat → Nat → Int32) => wm ad cy u) hD hS hA (va_runV (As := []) (rest := []) ⟨hx, hb, hml, hown, hts⟩ (e_X8_findHeads l dC dI cy _ ad v hv hG) (cwV 0 hts gX8_of_X8_findHeads rfl rfl rfl hd_V_X8_findHeads_0 ⟨Nat.le_of_ble_eq_true rfl, Nat.le_of_ble_eq_true rfl⟩) (yw_preV hE hK hP hD (ci := 8) (q := (RX8, TX8, 11)) (q0 := 0) rfl (wm_at (by decide) rc_0)) rfl rfl hl.1 rfl (lv_room (Nat.le_of_ble_eq_true rfl)) dX8_of_32 ⟨Nat.le_of_ble_eq_true rfl, Nat.le_of_ble_eq_true rfl⟩) (fun v_7 H locs hw_7 hP hD hS => ?_)
          obtain ⟨hv, hf_7, hw_7⟩ := hw_7
          refine lv_iload_n hx hb dX8_of_35 rfl (lv_at hl 2 rfl) ?_
          refine lv_iconst (v := 5) hx hb dX8_of_36 (by decide) ?_
          refine lv_icmp_ne (tgt := 49) hx hb dX8_of_37 (by decide) (fun c_8 => ?_) (fun c_8 => ?_)
          · have tc_8 : x1.toInt ≠ (5 : Int32).toInt := fun q => absurd (Int32.toInt_inj.mp q) c_8
            refine lv_aload_n hx hb dX8_of_49 rfl (lv_at hl 0 rfl) ?_
            refine lv_iload_n hx hb dX8_of_50 rfl (lv_at hl 1 rfl) ?_
            refine yw_i (w1 := fun (u : Nat → Nat → Int32) => wm ad cy u) hD hS hA (va_runV (As := [.int x0]) (rest := []) ⟨hx, hb, hml, hown, hts⟩ (e_X8_joined l dC dI cy _ ad v_7 hv x0 ⟨by omega, by omega⟩) (cwV 1 hts gX8_of_X8_joined rfl rfl rfl hd_V_X8_joined_1 ⟨Nat.le_of_ble_eq_true rfl, Nat.le_of_ble_eq_true rfl⟩) (yw_preV hE hK hP hD (ci := 8) (q := (RX8, TX8, 11)) (q0 := 0) rfl (wm_at (by decide) rc_0)) rfl rfl hl.1 rfl (lv_room (Nat.le_of_ble_eq_true rfl)) dX8_of_51 ⟨Nat.le_of_ble_eq_true rfl, Nat.le_of_ble_eq_true rfl⟩) (fun r_9 v_9 H locs hw_9 hP hD hS => ?_)
            obtain ⟨-, hu_9, hw_9⟩ := hw_9
            replace hu_9 := hu_9.symm
            subst hu_9
            have hpost : (¬ (0 ≤ x0.toInt ∧ x0.toInt < (v 1 2).toInt) → (r_9 = -1) ∧ Fq v v_7) ∧ ((0 ≤ x0.toInt ∧ x0.toInt < (v 1 2).toInt) ∧ x1.toInt = 0 → (r_9 = v 1 (32 + 7 * x0.toNatClampNeg)) ∧ Fq v v_7) ∧ ((0 ≤ x0.toInt ∧ x0.toInt < (v 1 2).toInt) ∧ x1.toInt = 1 → (r_9 = v 1 (33 + 7 * x0.toNatClampNeg)) ∧ Fq v v_7) ∧ ((0 ≤ x0.toInt ∧ x0.toInt < (v 1 2).toInt) ∧ x1.toInt = 2 → (r_9 = v 1 (34 + 7 * x0.toNatClampNeg)) ∧ Fq v v_7) ∧ ((0 ≤ x0.toInt ∧ x0.toInt < (v 1 2).toInt) ∧ x1.toInt = 3 → (r_9 = v 1 (35 + 7 * x0.toNatClampNeg)) ∧ Fq v v_7) ∧ ((0 ≤ x0.toInt ∧ x0.toInt < (v 1 2).toInt) ∧ x1.toInt = 4 → (r_9 = v 1 (36 + 7 * x0.toNatClampNeg)) ∧ Fq v v_7) ∧ ((0 ≤ x0.toInt ∧ x0.toInt < (v 1 2).toInt) ∧ x1.toInt = 5 → (r_9 = v_7 3 x0.toNatClampNeg ∧ HD (v 1) (v_7 3)) ∧ Fq v v_7) ∧ ((0 ≤ x0.toInt ∧ x0.toInt < (v 1 2).toInt) ∧ x1.toInt = 6 → (r_9.toInt = cN (fun c => if (v_7 3 c).toInt = (v_7 3 x0.toNatClampNeg).toInt then 1 else 0) (v 1 2).toNatClampNeg ∧ HD (v 1) (v_7 3)) ∧ Fq v v_7) ∧ ((0 ≤ x0.toInt ∧ x0.toInt < (v 1 2).toInt) ∧ x1.toInt = 7 → (r_9 = v 1 (37 + 7 * x0.toNatClampNeg)) ∧ Fq v v_7) ∧ ((0 ≤ x0.toInt ∧ x0.toInt < (v 1 2).toInt) ∧ (x1.toInt < 0 ∨ 7 < x1.toInt) → (r_9 = -1) ∧ Fq v v_7) := by
              refine ⟨fun hq => ?_, fun hq => ?_, fun hq => ?_, fun hq => ?_, fun hq => ?_, fun hq => ?_, fun hq => ?_, fun hq => ?_, fun hq => ?_, fun hq => ?_⟩
              · exfalso; omega
              · exfalso; omega
              · exfalso; omega
              · exfalso; omega
              · exfalso; omega
              · exfalso; omega
              · exfalso; omega
              · exact ⟨⟨by have q9 := hw_9; rw [hf_7.1] at q9; exact q9, hw_7⟩, hf_7⟩
              · exfalso; omega
              · exfalso; omega
            exact W.iret (v := r_9) hx hb hr (fun t ht hW => ⟨⟨r_9, v_7, rfl, ⟨hv, hpost⟩, by rw [ht]; exact hP, hD⟩, hS.F ht⟩) hS.2.2 dX8_of_54
          · have tc_8 : x1.toInt = (5 : Int32).toInt := by rw [c_8]
            exfalso
            omega
    · have k_0 : (0 : Int32).toInt = 0 := by decide
      have k_7 : (7 : Int32).toInt = 7 := by decide
      have tc_4 : ¬ ((0 : Int32).toInt ≤ x1.toInt ∧ x1.toInt ≤ (7 : Int32).toInt) := fun q => hc_4 ⟨Int32.le_iff_toInt_le.mpr q.1, Int32.le_iff_toInt_le.mpr q.2⟩
      refine lv_if_ne (tgt := 20) hx hb dX8_of_15 (by decide) (fun c9 => absurd c9 (by decide)) (fun _ => ?_)
      refine lv_iconst (v := (-1)) hx hb dX8_of_18 (by decide) ?_
      have hpost : (¬ (0 ≤ x0.toInt ∧ x0.toInt < (v 1 2).toInt) → (((-1) : Int32) = -1) ∧ Fq v v) ∧ ((0 ≤ x0.toInt ∧ x0.toInt < (v 1 2).toInt) ∧ x1.toInt = 0 → (((-1) : Int32) = v 1 (32 + 7 * x0.toNatClampNeg)) ∧ Fq v v) ∧ ((0 ≤ x0.toInt ∧ x0.toInt < (v 1 2).toInt) ∧ x1.toInt = 1 → (((-1) : Int32) = v 1 (33 + 7 * x0.toNatClampNeg)) ∧ Fq v v) ∧ ((0 ≤ x0.toInt ∧ x0.toInt < (v 1 2).toInt) ∧ x1.toInt = 2 → (((-1) : Int32) = v 1 (34 + 7 * x0.toNatClampNeg)) ∧ Fq v v) ∧ ((0 ≤ x0.toInt ∧ x0.toInt < (v 1 2).toInt) ∧ x1.toInt = 3 → (((-1) : Int32) = v 1 (35 + 7 * x0.toNatClampNeg)) ∧ Fq v v) ∧ ((0 ≤ x0.toInt ∧ x0.toInt < (v 1 2).toInt) ∧ x1.toInt = 4 → (((-1) : Int32) = v 1 (36 + 7 * x0.toNatClampNeg)) ∧ Fq v v) ∧ ((0 ≤ x0.toInt ∧ x0.toInt < (v 1 2).toInt) ∧ x1.toInt = 5 → (((-1) : Int32) = v 3 x0.toNatClampNeg ∧ HD (v 1) (v 3)) ∧ Fq v v) ∧ ((0 ≤ x0.toInt ∧ x0.toInt < (v 1 2).toInt) ∧ x1.toInt = 6 → (((-1) : Int32).toInt = cN (fun c => if (v 3 c).toInt = (v 3 x0.toNatClampNeg).toInt then 1 else 0) (v 1 2).toNatClampNeg ∧ HD (v 1) (v 3)) ∧ Fq v v) ∧ ((0 ≤ x0.toInt ∧ x0.toInt < (v 1 2).toInt) ∧ x1.toInt = 7 → (((-1) : Int32) = v 1 (37 + 7 * x0.toNatClampNeg)) ∧ Fq v v) ∧ ((0 ≤ x0.toInt ∧ x0.toInt < (v 1 2).toInt) ∧ (x1.toInt < 0 ∨ 7 < x1.toInt) → (((-1) : Int32) = -1) ∧ Fq v v) := by
        refine ⟨fun hq => ?_, fun hq => ?_, fun hq => ?_, fun hq => ?_, fun hq => ?_, fun hq => ?_, fun hq => ?_, fun hq => ?_, fun hq => ?_, fun hq => ?_⟩
        · exfalso; omega
        · exfalso; omega
        · exfalso; omega
        · exfalso; omega
        · exfalso; omega
        · exfalso; omega
        · exfalso; omega
        · exfalso; omega
        · exfalso; omega
        · exact ⟨rfl, Fq.rf⟩
      exact W.iret (v := (-1)) hx hb hr (fun t ht hW => ⟨⟨(-1), v, rfl, ⟨hv, hpost⟩, by rw [ht]; exact hP, hD⟩, hS.F ht⟩) hS.2.2 dX8_of_19
  · refine lv_if_eq (tgt := 18) hx hb dX8_of_5 (by decide) (fun _ => ?_) (fun c9 => absurd c9 (by decide))
    refine lv_iconst (v := (-1)) hx hb dX8_of_18 (by decide) ?_
    have hpost : (¬ (0 ≤ x0.toInt ∧ x0.toInt < (v 1 2).toInt) → (((-1) : Int32) = -1) ∧ Fq v v) ∧ ((0 ≤ x0.toInt ∧ x0.toInt < (v 1 2).toInt) ∧ x1.toInt = 0 → (((-1) : Int32) = v 1 (32 + 7 * x0.toNatClampNeg)) ∧ Fq v v) ∧ ((0 ≤ x0.toInt ∧ x0.toInt < (v 1 2).toInt) ∧ x1.toInt = 1 → (((-1) : Int32) = v 1 (33 + 7 * x0.toNatClampNeg)) ∧ Fq v v) ∧ ((0 ≤ x0.toInt ∧ x0.toInt < (v 1 2).toInt) ∧ x1.toInt = 2 → (((-1) : Int32) = v 1 (34 + 7 * x0.toNatClampNeg)) ∧ Fq v v) ∧ ((0 ≤ x0.toInt ∧ x0.toInt < (v 1 2).toInt) ∧ x1.toInt = 3 → (((-1) : Int32) = v 1 (35 + 7 * x0.toNatClampNeg)) ∧ Fq v v) ∧ ((0 ≤ x0.toInt ∧ x0.toInt < (v 1 2).toInt) ∧ x1.toInt = 4 → (((-1) : Int32) = v 1 (36 + 7 * x0.toNatClampNeg)) ∧ Fq v v) ∧ ((0 ≤ x0.toInt ∧ x0.toInt < (v 1 2).toInt) ∧ x1.toInt = 5 → (((-1) : Int32) = v 3 x0.toNatClampNeg ∧ HD (v 1) (v 3)) ∧ Fq v v) ∧ ((0 ≤ x0.toInt ∧ x0.toInt < (v 1 2).toInt) ∧ x1.toInt = 6 → (((-1) : Int32).toInt = cN (fun c => if (v 3 c).toInt = (v 3 x0.toNatClampNeg).toInt then 1 else 0) (v 1 2).toNatClampNeg ∧ HD (v 1) (v 3)) ∧ Fq v v) ∧ ((0 ≤ x0.toInt ∧ x0.toInt < (v 1 2).toInt) ∧ x1.toInt = 7 → (((-1) : Int32) = v 1 (37 + 7 * x0.toNatClampNeg)) ∧ Fq v v) ∧ ((0 ≤ x0.toInt ∧ x0.toInt < (v 1 2).toInt) ∧ (x1.toInt < 0 ∨ 7 < x1.toInt) → (((-1) : Int32) = -1) ∧ Fq v v) := by
      refine ⟨fun hq => ?_, fun hq => ?_, fun hq => ?_, fun hq => ?_, fun hq => ?_, fun hq => ?_, fun hq => ?_, fun hq => ?_, fun hq => ?_, fun hq => ?_⟩
      · exact ⟨rfl, Fq.rf⟩
      · exfalso; omega
      · exfalso; omega
      · exfalso; omega
      · exfalso; omega
      · exfalso; omega
      · exfalso; omega
      · exfalso; omega
      · exfalso; omega
      · exfalso; omega
    exact W.iret (v := (-1)) hx hb hr (fun t ht hW => ⟨⟨(-1), v, rfl, ⟨hv, hpost⟩, by rw [ht]; exact hP, hD⟩, hS.F ht⟩) hS.2.2 dX8_of_19

/-- the marks of both sides as one graph -/
theorem RG_M {v : Nat → Nat → Int32} {s : Nat → Int32} (h : RG 13 v s) (h2 : (s 2).toInt ≤ 6) {n : Nat} (hn : (n : Int) = (s 2).toInt) : MG s ∧ ∀ c : Nat, c < n → ok6 ((fun c => v (29 + 15 * c) 4) c) ∧ ∀ d : Nat, d < 6 → (bt ((fun c => v (29 + 15 * c) 4) c) d ↔ adj s c d) := by
  refine ⟨h.2, fun c hc => ?_⟩
  obtain ⟨g1, g2⟩ := h.1 c (by omega) (by omega)
  exact ⟨g1, g2⟩

set_option maxHeartbeats 4000000 in
theorem T_of {n r r2 x0 x1 : Int32} {v u v2 u2 : Nat → Nat → Int32} (hI : Iv v) (hQ : Ir v2) (h : RR n v v2) (p : (¬ (0 ≤ x0.toInt ∧ x0.toInt < (v 13 2).toInt) → (r = -1) ∧ u = v) ∧ ((0 ≤ x0.toInt ∧ x0.toInt < (v 13 2).toInt) ∧ x1.toInt = 0 → (r = v (30 + 15 * x0.toNatClampNeg) 0) ∧ u = v) ∧ ((0 ≤ x0.toInt ∧ x0.toInt < (v 13 2).toInt) ∧ x1.toInt = 1 → (r = v (30 + 15 * x0.toNatClampNeg) 1) ∧ u = v) ∧ ((0 ≤ x0.toInt ∧ x0.toInt < (v 13 2).toInt) ∧ x1.toInt = 2 → (r = v (29 + 15 * x0.toNatClampNeg) 0) ∧ u = v) ∧ ((0 ≤ x0.toInt ∧ x0.toInt < (v 13 2).toInt) ∧ x1.toInt = 3 → (((v (29 + 15 * x0.toNatClampNeg) 0).toInt = 1 → r = v (29 + 15 * x0.toNatClampNeg) 1) ∧ ((v (29 + 15 * x0.toNatClampNeg) 0).toInt ≠ 1 → r = -5)) ∧ u = v) ∧ ((0 ≤ x0.toInt ∧ x0.toInt < (v 13 2).toInt) ∧ x1.toInt = 4 → (r = v (29 + 15 * x0.toNatClampNeg) 2) ∧ u = v) ∧ ((0 ≤ x0.toInt ∧ x0.toInt < (v 13 2).toInt) ∧ x1.toInt = 5 → (r.toInt = ((hF (qB (fun c => v (29 + 15 * c) 4) (v 13 2).toNatClampNeg x0) x0.toNatClampNeg : Nat) : Int)) ∧ u = v) ∧ ((0 ≤ x0.toInt ∧ x0.toInt < (v 13 2).toInt) ∧ x1.toInt = 6 → (r = bcF (qB (fun c => v (29 + 15 * c) 4) (v 13 2).toNatClampNeg x0)) ∧ u = v) ∧ ((0 ≤ x0.toInt ∧ x0.toInt < (v 13 2).toInt) ∧ x1.toInt = 7 → (r = v (29 + 15 * x0.toNatClampNeg) 3) ∧ u = v) ∧ ((0 ≤ x0.toInt ∧ x0.toInt < (v 13 2).toInt) ∧ (x1.toInt < 0 ∨ 7 < x1.toInt) → (r = -1) ∧ u = v)) (q : (¬ (0 ≤ x0.toInt ∧ x0.toInt < (v2 1 2).toInt) → (r2 = -1) ∧ Fq v2 u2) ∧ ((0 ≤ x0.toInt ∧ x0.toInt < (v2 1 2).toInt) ∧ x1.toInt = 0 → (r2 = v2 1 (32 + 7 * x0.toNatClampNeg)) ∧ Fq v2 u2) ∧ ((0 ≤ x0.toInt ∧ x0.toInt < (v2 1 2).toInt) ∧ x1.toInt = 1 → (r2 = v2 1 (33 + 7 * x0.toNatClampNeg)) ∧ Fq v2 u2) ∧ ((0 ≤ x0.toInt ∧ x0.toInt < (v2 1 2).toInt) ∧ x1.toInt = 2 → (r2 = v2 1 (34 + 7 * x0.toNatClampNeg)) ∧ Fq v2 u2) ∧ ((0 ≤ x0.toInt ∧ x0.toInt < (v2 1 2).toInt) ∧ x1.toInt = 3 → (r2 = v2 1 (35 + 7 * x0.toNatClampNeg)) ∧ Fq v2 u2) ∧ ((0 ≤ x0.toInt ∧ x0.toInt < (v2 1 2).toInt) ∧ x1.toInt = 4 → (r2 = v2 1 (36 + 7 * x0.toNatClampNeg)) ∧ Fq v2 u2) ∧ ((0 ≤ x0.toInt ∧ x0.toInt < (v2 1 2).toInt) ∧ x1.toInt = 5 → (r2 = u2 3 x0.toNatClampNeg ∧ HD (v2 1) (u2 3)) ∧ Fq v2 u2) ∧ ((0 ≤ x0.toInt ∧ x0.toInt < (v2 1 2).toInt) ∧ x1.toInt = 6 → (r2.toInt = cN (fun c => if (u2 3 c).toInt = (u2 3 x0.toNatClampNeg).toInt then 1 else 0) (v2 1 2).toNatClampNeg ∧ HD (v2 1) (u2 3)) ∧ Fq v2 u2) ∧ ((0 ≤ x0.toInt ∧ x0.toInt < (v2 1 2).toInt) ∧ x1.toInt = 7 → (r2 = v2 1 (37 + 7 * x0.toNatClampNeg)) ∧ Fq v2 u2) ∧ ((0 ≤ x0.toInt ∧ x0.toInt < (v2 1 2).toInt) ∧ (x1.toInt < 0 ∨ 7 < x1.toInt) → (r2 = -1) ∧ Fq v2 u2)) : r = r2 ∧ RR n u u2 := by
  have e0 : v 13 0 = v2 1 0 := h.1.1 _ _ _ (lk_a (by decide))
  have e1 : v 13 1 = v2 1 1 := h.1.1 _ _ _ (lk_a (by decide))
  have e2 : v 13 2 = v2 1 2 := h.1.1 _ _ _ (lk_a (by decide))
  have e3 : v 13 3 = v2 1 3 := h.1.1 _ _ _ (lk_a (by decide))
  have hb0 := hQ 1 0 8 (by decide)
  have hb1 := hQ 1 1 4 (by decide)
  have hb2 := hQ 1 2 6 (by decide)
  have hb3 := hQ 1 3 6 (by decide)
  rw [e2] at p
  by_cases hC : (0 ≤ x0.toInt ∧ x0.toInt < (v2 1 2).toInt)
  · have zX := t_nn (x := x0) (by omega)
    have hX : x0.toNatClampNeg < 6 := by omega
    have ha : (x0.toNatClampNeg : Int) < (v2 1 2).toInt := by omega
    have zn := t_nn (x := v2 1 2) (by omega)
    obtain ⟨hG, hM⟩ := RG_M h.1.2.2.2 hb2.2 zn
    have hmv : ∀ (f : u = v) (g : Fq v2 u2), RR n u u2 := fun f g => by rw [f]; exact h.mv Fz.rf g
    by_cases w0 : x1.toInt = 0
    · obtain ⟨p1, p2⟩ := p.2.1 ⟨hC, w0⟩
      obtain ⟨q1, q2⟩ := q.2.1 ⟨hC, w0⟩
      refine ⟨?_, hmv p2 q2⟩
      rw [p1, q1]
      exact (h.1.1 _ _ _ (lk_q (j := 0) hX ha (by decide)))
    by_cases w1 : x1.toInt = 1
    · obtain ⟨p1, p2⟩ := p.2.2.1 ⟨hC, w1⟩
      obtain ⟨q1, q2⟩ := q.2.2.1 ⟨hC, w1⟩
      refine ⟨?_, hmv p2 q2⟩
      rw [p1, q1]
      exact (h.1.1 _ _ _ (lk_q (j := 1) hX ha (by decide))).trans (congrArg (v2 1) (by omega))
    by_cases w2 : x1.toInt = 2
    · obtain ⟨p1, p2⟩ := p.2.2.2.1 ⟨hC, w2⟩
      obtain ⟨q1, q2⟩ := q.2.2.2.1 ⟨hC, w2⟩
      refine ⟨?_, hmv p2 q2⟩
      rw [p1, q1]
      exact (h.1.1 _ _ _ (lk_c0 hX ha))
    by_cases w3 : x1.toInt = 3
    · obtain ⟨p1, p2⟩ := p.2.2.2.2.1 ⟨hC, w3⟩
      obtain ⟨q1, q2⟩ := q.2.2.2.2.1 ⟨hC, w3⟩
      refine ⟨?_, hmv p2 q2⟩
      obtain ⟨x1a, x2a, x3a, -⟩ := h.1.2.1 _ hX ha
      have ev : v (29 + 15 * x0.toNatClampNeg) 0 = v2 1 (34 + 7 * x0.toNatClampNeg) := h.1.1 _ _ _ (lk_c0 hX ha)
      rw [ev] at p1
      by_cases e : (v2 1 (34 + 7 * x0.toNatClampNeg)).toInt = 1
      · rw [p1.1 e, q1]
        exact x2a e
      · rw [p1.2 e, q1]
        exact (x3a e).symm
    by_cases w4 : x1.toInt = 4
    · obtain ⟨p1, p2⟩ := p.2.2.2.2.2.1 ⟨hC, w4⟩
      obtain ⟨q1, q2⟩ := q.2.2.2.2.2.1 ⟨hC, w4⟩
      refine ⟨?_, hmv p2 q2⟩
      rw [p1, q1]
      exact (h.1.1 _ _ _ (lk_c2 hX ha))
    by_cases w5 : x1.toInt = 5
    · obtain ⟨p1, p2⟩ := p.2.2.2.2.2.2.1 ⟨hC, w5⟩
      obtain ⟨q1, q2⟩ := q.2.2.2.2.2.2.1 ⟨hC, w5⟩
      refine ⟨?_, hmv p2 q2⟩
      refine Int32.toInt_inj.mp ?_
      rw [p1, q1.1]
      exact head_eq (M := fun c => v (29 + 15 * c) 4) hG hb2.2 q1.2 zn hM zX.symm (by omega)
    by_cases w6 : x1.toInt = 6
    · obtain ⟨p1, p2⟩ := p.2.2.2.2.2.2.2.1 ⟨hC, w6⟩
      obtain ⟨q1, q2⟩ := q.2.2.2.2.2.2.2.1 ⟨hC, w6⟩
      refine ⟨?_, hmv p2 q2⟩
      refine Int32.toInt_inj.mp ?_
      rw [p1, q1.1, bc_n (qB_conn (M := fun c => v (29 + 15 * c) 4) hG hb2.2 zn hM zX.symm (by omega)).1]
      exact many_eq (M := fun c => v (29 + 15 * c) 4) hG hb2.2 q1.2 zn hM zX.symm (by omega)
    by_cases w7 : x1.toInt = 7
    · obtain ⟨p1, p2⟩ := p.2.2.2.2.2.2.2.2.1 ⟨hC, w7⟩
      obtain ⟨q1, q2⟩ := q.2.2.2.2.2.2.2.2.1 ⟨hC, w7⟩
      refine ⟨?_, hmv p2 q2⟩
      rw [p1, q1]
      exact (h.1.1 _ _ _ (lk_c3 hX ha))
    obtain ⟨p1, p2⟩ := p.2.2.2.2.2.2.2.2.2 ⟨hC, by omega⟩
    obtain ⟨q1, q2⟩ := q.2.2.2.2.2.2.2.2.2 ⟨hC, by omega⟩
    exact ⟨by rw [p1, q1], hmv p2 q2⟩
  · obtain ⟨p1, p2⟩ := p.1 hC
    obtain ⟨q1, q2⟩ := q.1 hC
    refine ⟨by rw [p1, q1], ?_⟩
    rw [p2]
    exact h.mv Fz.rf q2

theorem cN_one {f : Nat → Int} : ∀ {n : Nat}, (∀ i : Nat, i < n → f i = 1) → cN f n = n
  | 0, _ => rfl
  | n + 1, h => by
    show cN f n + f n = ((n + 1 : Nat) : Int)
    rw [cN_one (f := f) (n := n) (fun i hi => h i (by omega)), h n (by omega)]
    omega

set_option maxHeartbeats 4000000 in
set_option maxRecDepth 100000 in
theorem e_X1_countState (l : Launch) (dC : Nat → ClassId) (dI : Nat → Nat → Nat) (cy : Nat → ClassId) (sz : Nat) (ad : Nat → Nat) (kv : Value) (N : Nat) (hN : 119 ≤ N) (v : Nat → Nat → Int32) (hv : Iv v) (x0 : Int32) : Met l yX1_countState wsX1_countState ({ frames := 0, cells := 0, slots := 0, locals := 0 }) (va_Pc [.ref (ad 13), .int x0] (ex_Pre dC dI cy sz (wl ad kv cy N v))) (va_Qi (fun (r : Int32) (u : Nat → Nat → Int32) => Iv u ∧ u = v ∧ r.toInt = cN (fun c => if (v (29 + 15 * c) 0).toInt = x0.toInt then 1 else 0) (v 13 2).toNatClampNeg) (fun u t => ex_Pst dC dI (va_A (wl ad kv cy N v) sz) (wl ad kv cy N u) t) (va_A (wl ad kv cy N v) sz)) 0 0 (va_A (wl ad kv cy N v) sz) := by
  refine Met.ofW (cc := cX1_countState) (maxL := 4) (ret := (some .int)) (by decide) rfl ?_
  intro p e s m args below meth c s₁ B hml hv
  obtain ⟨rfl, hsz, hE, hP, hK, hD0⟩ := hv
  have hx := B.exec
  have hb := B.bytes
  have hr := B.returns
  have hts := atoms_spec (ws := wsX1_countState) B.pre
  have hown : s.vm.findClass RX1 = some m.cls := findClass_of_methodNamed B.named
  have hlocks := B.notSynchronized
  subst hsz
  have hD := hD0.self (sz := s.heap.size)
  generalize hAe : va_A (wl ad kv cy N v) s.heap.size = A at hD ⊢
  have hA : ∀ q : Nat, s.heap.size ≤ q → A q := fun q h => by rw [← hAe]; exact Or.inr h
  have hS : va_S A s.heap s.heap [] := va_S.rf
  have hP : va_P (dC, dI) vwCl (wl ad kv cy N v) s.heap := hP
  have hl := lv_entry ([.ref (ad 13), .int x0]) (n := 4) (Nat.le_of_ble_eq_true rfl)
  rw [lg_entry_eq]
  generalize (lg_sl ([.ref (ad 13), .int x0]) ++ List.replicate (4 - (lg_sl ([.ref (ad 13), .int x0])).length) Slot.unset).toArray = ls at hl ⊢
  have hl : lv_has ls 4 [(0, .ref (ad 13)), (1, .int x0)] := hl
  obtain ⟨cn, ecn⟩ : ∃ z : Int32, z = v 13 2 := ⟨_, rfl⟩
  have hbcn : 0 ≤ cn.toInt ∧ cn.toInt ≤ 6 := by rw [ecn]; exact hv.at (K := 3) (by decide) rfl
  have zn_cn : (cn.toNatClampNeg : Int) = cn.toInt := t_nn (by omega)
  have k_0 : (0 : Int32).toInt = 0 := by decide
  obtain ⟨FF, eFF⟩ : ∃ f : Nat → Int, f = fun c => if (v (29 + 15 * c) 0).toInt = x0.toInt then 1 else 0 := ⟨_, rfl⟩
  refine lv_iconst (v := 0) hx hb dX1_countState_0 (by decide) ?_
  refine lv_istore_n (lv' := [(2, .int 0), (0, .ref (ad 13)), (1, .int x0)]) hx hb dX1_countState_1 rfl hl (by decide) rfl (fun ls hl => ?_)
  refine lv_iconst (v := 0) hx hb dX1_countState_2 (by decide) ?_
  refine lv_istore_n (lv' := [(3, .int 0), (2, .int 0), (0, .ref (ad 13)), (1, .int x0)]) hx hb dX1_countState_3 rfl hl (by decide) rfl (fun ls hl => ?_)
  have hc_1 : ∀ (n : Nat) (y1_3 y1_2 : Int32) (H : Heap) (locs : List Loc), 0 ≤ y1_3.toInt → y1_3.toInt ≤ 6 → 0 ≤ y1_2.toInt → y1_2.toInt ≤ 6 → (y1_2.toInt = cN FF y1_3.toNatClampNeg) → (y1_2.toInt ≤ y1_3.toInt) → (y1_3.toInt ≤ cn.toInt) → (6 - y1_3.toInt).toNat < n → va_P (dC, dI) vwCl (wl ad kv cy N v) H → va_D A (wl ad kv cy N v) → va_S A s.heap H locs → ∀ ls : Array Slot, lv_has ls 4 [(3, .int y1_3), (2, .int y1_2), (0, .ref (ad 13)), (1, .int x0)] → W p l e (headSpec wsX1_countState ({ frames := 0, cells := 0, slots := 0, locals := 0 })).room s m [Value.ref (ad 13), Value.int x0].toArray below meth c H locs 0 0 (MQ below (va_Qi (fun (r : Int32) (u : Nat → Nat → Int32) => Iv u ∧ u = v ∧ r.toInt = cN (fun c => if (v (29 + 15 * c) 0).toInt = x0.toInt then 1 else 0) (v 13 2).toNatClampNeg) (fun u t => ex_Pst dC dI A (wl ad kv cy N u) t) A) [Value.ref (ad 13), Value.int x0].toArray s 0 0 A) (F0 m 4 ls []) := by
    intro n
    induction n with
    | zero =>
      intro y1_3 y1_2 H locs ay1_3 by1_3 ay1_2 by1_2 hi1_0 hi1_1 hi1_2 hm_1 hP hD hS ls hl
      exact absurd hm_1 (by omega)
    | succ n ih_1 =>
      intro y1_3 y1_2 H locs ay1_3 by1_3 ay1_2 by1_2 hi1_0 hi1_1 hi1_2 hm_1 hP hD hS ls hl
      refine lv_iload_n hx hb dX1_countState_4 rfl (lv_at hl 0 rfl) ?_
      refine lv_aload_n hx hb dX1_countState_5 rfl (lv_at hl 2 rfl) ?_
      refine va_get (D := (dC, dI)) (ci := 1) (v := .int (v (13) 2)) (C := RX1) (T := TX1) (N := 7) hx hb hts iwX1_countState_X1 hown hK hP (13) (wl_at (by omega) (ce_3 (by decide))) rfl 2 (by decide) (hts (.fieldLink RX1 66 "QuietStairs$House" "caseCount" "I") fwX1_countState_1) (fun _ h9 => h9) rfl dX1_countState_6 ?_
      refine lv_topi (fun x_2 ex_2 => ?_)
      have bzx_2 : 0 ≤ x_2.toInt ∧ x_2.toInt ≤ 6 := by rw [ex_2]; exact hv.at (K := 3) (by decide) rfl
      obtain rfl : cn = x_2 := (ex_2.trans ecn.symm).symm
      refine lv_icmp_ge (tgt := 34) hx hb dX1_countState_9 (by decide) (fun c_3 => ?_) (fun c_3 => ?_)
      · have tc_3 : y1_3.toInt ≥ cn.toInt := Int32.le_iff_toInt_le.mp c_3
        refine lv_iload_n hx hb dX1_countState_34 rfl (lv_at hl 1 rfl) ?_
        have zn_y1_3 : (y1_3.toNatClampNeg : Int) = y1_3.toInt := t_nn (by omega)
        exact W.iret (v := y1_2) hx hb hr (fun t ht hW => ⟨⟨y1_2, v, rfl, ⟨hv, rfl, by rw [← ecn, ← eFF, show cn.toNatClampNeg = y1_3.toNatClampNeg from by omega]; exact hi1_0⟩, by rw [ht]; exact hP, hD⟩, hS.F ht⟩) hS.2.2 dX1_countState_35
      · have tc_3 : y1_3.toInt < cn.toInt := Int32.lt_iff_toInt_lt.mp (Int32.not_le.mp c_3)
        refine lv_aload_n hx hb dX1_countState_12 rfl (lv_at hl 2 rfl) ?_
        refine va_get (D := (dC, dI)) (ci := 1) (v := .ref (ad 16)) (C := RX1) (T := TX1) (N := 7) hx hb hts iwX1_countState_X1 hown hK hP (13) (wl_at (by omega) (ce_3 (by decide))) rfl 6 (by decide) (hts (.fieldLink RX1 25 "QuietStairs$House" "cases" "[LQuietStairs$Case;") fwX1_countState_2) (fun _ h9 => h9) rfl dX1_countState_13 ?_
        refine lv_iload_n hx hb dX1_countState_16 rfl (lv_at hl 0 rfl) ?_
        have zn_y1_3 : (y1_3.toNatClampNeg : Int) = y1_3.toInt := t_nn (by omega)
        have hx_4 : y1_3.toNatClampNeg < 6 := by omega
        refine va_aldq hx hb hK hP (16) 3 (wl_at (by omega) (ce_6 (by decide))) rfl (vp_in_iff.mpr ⟨by omega, by omega⟩) dX1_countState_17 ?_
        refine W.eq (g2 := F0 m 18 ls [.ref (ad (29 + 15 * y1_3.toNatClampNeg))]) (by rw [if_pos hx_4, show 16 + 13 + 15 * y1_3.toNatClampNeg = 29 + 15 * y1_3.toNatClampNeg from by omega]; rfl) ?_
        refine va_get (D := (dC, dI)) (ci := 0) (v := .int (v (29 + 15 * y1_3.toNatClampNeg) 0)) (C := RX0) (T := TX0) (N := 11) hx hb hts iwX1_countState_X0 hown hK hP (29 + 15 * y1_3.toNatClampNeg) (wl_at (by omega) (ce_9 (kd_c _ hx_4).1.1)) rfl 0 (by decide) (hts (.fieldLink RX1 79 "QuietStairs$Case" "state" "I") fwX1_countState_3) (fun _ h9 => h9) rfl dX1_countState_18 ?_
        refine lv_topi (fun x_5 ex_5 => ?_)
        have qx_5 : x_5.toInt = (v (29 + 15 * y1_3.toNatClampNeg) (0)).toInt := congrArg Int32.toInt ex_5
        refine lv_iload_n hx hb dX1_countState_21 rfl (lv_at hl 3 rfl) ?_
        refine lv_icmp_ne (tgt := 28) hx hb dX1_countState_22 (by decide) (fun c_6 => ?_) (fun c_6 => ?_)
        · have tc_6 : x_5.toInt ≠ x0.toInt := fun q => absurd (Int32.toInt_inj.mp q) c_6
          obtain ⟨x_7, ex_7⟩ : ∃ y : Int32, y = y1_3 + 1 := ⟨_, rfl⟩
          refine lv_iinc (v := x_7) (lv' := [(3, .int x_7), (2, .int y1_2), (0, .ref (ad 13)), (1, .int x0)]) hx hb dX1_countState_28 hl (k := 0) rfl (by rw [ex_7]; rfl) (by decide) rfl (fun ls hl => ?_)
          have k_1 : (1 : Int32).toInt = 1 := by decide
          have tx_7 : x_7.toInt = y1_3.toInt + (1 : Int32).toInt := by rw [ex_7]; exact t_add ⟨by omega, by omega⟩
          refine lv_goto (tgt := 4) hx hb dX1_countState_31 (by decide) ?_
          have zn_x_7 : (x_7.toNatClampNeg : Int) = x_7.toInt := t_nn (by omega)
          have hF9 : FF y1_3.toNatClampNeg = 0 := by rw [eFF]; show (if (v (29 + 15 * y1_3.toNatClampNeg) 0).toInt = x0.toInt then (1 : Int) else 0) = 0; exact if_neg (by rw [← ex_5]; omega)
          exact ih_1 x_7 y1_2 _ _ (by omega) (by omega) (by omega) (by omega) (by rw [show x_7.toNatClampNeg = y1_3.toNatClampNeg + 1 from by omega]; show _ = cN FF y1_3.toNatClampNeg + FF y1_3.toNatClampNeg; omega) (by omega) (by omega) (by omega) hP hD hS ls (lv_sub hl [0, 1, 2, 3] rfl)
        · have tc_6 : x_5.toInt = x0.toInt := by rw [c_6]
          obtain ⟨x_7, ex_7⟩ : ∃ y : Int32, y = y1_2 + 1 := ⟨_, rfl⟩
          refine lv_iinc (v := x_7) (lv' := [(2, .int x_7), (3, .int y1_3), (0, .ref (ad 13)), (1, .int x0)]) hx hb dX1_countState_25 hl (k := 1) rfl (by rw [ex_7]; rfl) (by decide) rfl (fun ls hl => ?_)
          have k_1 : (1 : Int32).toInt = 1 := by decide
          have tx_7 : x_7.toInt = y1_2.toInt + (1 : Int32).toInt := by rw [ex_7]; exact t_add ⟨by omega, by omega⟩
          obtain ⟨x_8, ex_8⟩ : ∃ y : Int32, y = y1_3 + 1 := ⟨_, rfl⟩
          refine lv_iinc (v := x_8) (lv' := [(3, .int x_8), (2, .int x_7), (0, .ref (ad 13)), (1, .int x0)]) hx hb dX1_countState_28 hl (k := 1) rfl (by rw [ex_8]; rfl) (by decide) rfl (fun ls hl => ?_)
          have tx_8 : x_8.toInt = y1_3.toInt + (1 : Int32).toInt := by rw [ex_8]; exact t_add ⟨by omega, by omega⟩
          refine lv_goto (tgt := 4) hx hb dX1_countState_31 (by decide) ?_
          have zn_x_8 : (x_8.toNatClampNeg : Int) = x_8.toInt := t_nn (by omega)
          have hF9 : FF y1_3.toNatClampNeg = 1 := by rw [eFF]; show (if (v (29 + 15 * y1_3.toNatClampNeg) 0).toInt = x0.toInt then (1 : Int) else 0) = 1; exact if_pos (by rw [← ex_5]; omega)
          exact ih_1 x_8 x_7 _ _ (by omega) (by omega) (by omega) (by omega) (by rw [show x_8.toNatClampNeg = y1_3.toNatClampNeg + 1 from by omega]; show _ = cN FF y1_3.toNatClampNeg + FF y1_3.toNatClampNeg; omega) (by omega) (by omega) (by omega) hP hD hS ls (lv_sub hl [0, 1, 2, 3] rfl)
  exact hc_1 ((6 - (0 : Int32).toInt).toNat + 1) 0 0 _ _ (by omega) (by omega) (by omega) (by omega) (by rw [show (0 : Int32).toNatClampNeg = 0 from by decide]; exact k_0) (by omega) (by omega) (by omega) hP hD hS ls (lv_sub hl [0, 1, 2, 3] rfl)

set_option maxHeartbeats 4000000 in
set_option maxRecDepth 100000 in
theorem e_X1_countQuarrels (l : Launch) (dC : Nat → ClassId) (dI : Nat → Nat → Nat) (cy : Nat → ClassId) (sz : Nat) (ad : Nat → Nat) (kv : Value) (N : Nat) (hN : 119 ≤ N) (v : Nat → Nat → Int32) (hv : Iv v)  : Met l yX1_countQuarrels wsX1_countQuarrels ({ frames := 3, cells := 0, slots := 0, locals := 192 }) (va_Pc [.ref (ad 13)] (ex_Pre dC dI cy sz (wl ad kv cy N v))) (va_Qi (fun (r : Int32) (u : Nat → Nat → Int32) => Iv u ∧ u = v ∧ r.toInt = cN (fun c => if ((hF (qB (fun c => v (29 + 15 * c) 4) (v 13 2).toNatClampNeg (Int32.ofNat c)) c : Nat) : Int) = ((c : Nat) : Int) then 1 else 0) (v 13 2).toNatClampNeg) (fun u t => ex_Pst dC dI (va_A (wl ad kv cy N v) sz) (wl ad kv cy N u) t) (va_A (wl ad kv cy N v) sz)) 0 0 (va_A (wl ad kv cy N v) sz) := by
  refine Met.ofW (cc := cX1_countQuarrels) (maxL := 3) (ret := (some .int)) (by decide) rfl ?_
  intro p e s m args below meth c s₁ B hml hv
  obtain ⟨rfl, hsz, hE, hP, hK, hD0⟩ := hv
  have hx := B.exec
  have hb := B.bytes
  have hr := B.returns
  have hts := atoms_spec (ws := wsX1_countQuarrels) B.pre
  have hown : s.vm.findClass RX1 = some m.cls := findClass_of_methodNamed B.named
  have hlocks := B.notSynchronized
  subst hsz
  have hD := hD0.self (sz := s.heap.size)
  generalize hAe : va_A (wl ad kv cy N v) s.heap.size = A at hD ⊢
  have hA : ∀ q : Nat, s.heap.size ≤ q → A q := fun q h => by rw [← hAe]; exact Or.inr h
  have hS : va_S A s.heap s.heap [] := va_S.rf
  have hP : va_P (dC, dI) vwCl (wl ad kv cy N v) s.heap := hP
  have hl := lv_entry ([.ref (ad 13)]) (n := 3) (Nat.le_of_ble_eq_true rfl)
  rw [lg_entry_eq]
  generalize (lg_sl ([.ref (ad 13)]) ++ List.replicate (3 - (lg_sl ([.ref (ad 13)])).length) Slot.unset).toArray = ls at hl ⊢
  have hl : lv_has ls 3 [(0, .ref (ad 13))] := hl
  obtain ⟨FF, eFF⟩ : ∃ f : Nat → Int, f = fun c => if ((hF (qB (fun c => v (29 + 15 * c) 4) (v 13 2).toNatClampNeg (Int32.ofNat c)) c : Nat) : Int) = ((c : Nat) : Int) then 1 else 0 := ⟨_, rfl⟩
  obtain ⟨cn, ecn⟩ : ∃ z : Int32, z = v 13 2 := ⟨_, rfl⟩
  have hbcn : 0 ≤ cn.toInt ∧ cn.toInt ≤ 6 := by rw [ecn]; exact hv.at (K := 3) (by decide) rfl
  have zn_cn : (cn.toNatClampNeg : Int) = cn.toInt := t_nn (by omega)
  have k_0 : (0 : Int32).toInt = 0 := by decide
  refine lv_iconst (v := 0) hx hb dX1_countQuarrels_0 (by decide) ?_
  refine lv_istore_n (lv' := [(1, .int 0), (0, .ref (ad 13))]) hx hb dX1_countQuarrels_1 rfl hl (by decide) rfl (fun ls hl => ?_)
  refine lv_iconst (v := 0) hx hb dX1_countQuarrels_2 (by decide) ?_
  refine lv_istore_n (lv' := [(2, .int 0), (1, .int 0), (0, .ref (ad 13))]) hx hb dX1_countQuarrels_3 rfl hl (by decide) rfl (fun ls hl => ?_)
  have hc_1 : ∀ (n : Nat) (y1_2 y1_1 : Int32) (H : Heap) (locs : List Loc), 0 ≤ y1_2.toInt → y1_2.toInt ≤ 6 → 0 ≤ y1_1.toInt → y1_1.toInt ≤ 6 → (y1_1.toInt = cN FF y1_2.toNatClampNeg) → (y1_1.toInt ≤ y1_2.toInt) → (y1_2.toInt ≤ cn.toInt) → (6 - y1_2.toInt).toNat < n → va_P (dC, dI) vwCl (wl ad kv cy N v) H → va_D A (wl ad kv cy N v) → va_S A s.heap H locs → ∀ ls : Array Slot, lv_has ls 3 [(2, .int y1_2), (1, .int y1_1), (0, .ref (ad 13))] → W p l e (headSpec wsX1_countQuarrels ({ frames := 3, cells := 0, slots := 0, locals := 192 })).room s m [Value.ref (ad 13)].toArray below meth c H locs 0 0 (MQ below (va_Qi (fun (r : Int32) (u : Nat → Nat → Int32) => Iv u ∧ u = v ∧ r.toInt = cN (fun c => if ((hF (qB (fun c => v (29 + 15 * c) 4) (v 13 2).toNatClampNeg (Int32.ofNat c)) c : Nat) : Int) = ((c : Nat) : Int) then 1 else 0) (v 13 2).toNatClampNeg) (fun u t => ex_Pst dC dI A (wl ad kv cy N u) t) A) [Value.ref (ad 13)].toArray s 0 0 A) (F0 m 4 ls []) := by
    intro n
    induction n with
    | zero =>
      intro y1_2 y1_1 H locs ay1_2 by1_2 ay1_1 by1_1 hi1_0 hi1_1 hi1_2 hm_1 hP hD hS ls hl
      exact absurd hm_1 (by omega)
    | succ n ih_1 =>
      intro y1_2 y1_1 H locs ay1_2 by1_2 ay1_1 by1_1 hi1_0 hi1_1 hi1_2 hm_1 hP hD hS ls hl
      refine lv_iload_n hx hb dX1_countQuarrels_4 rfl (lv_at hl 0 rfl) ?_
      refine lv_aload_n hx hb dX1_countQuarrels_5 rfl (lv_at hl 2 rfl) ?_
      refine va_get (D := (dC, dI)) (ci := 1) (v := .int (v (13) 2)) (C := RX1) (T := TX1) (N := 7) hx hb hts iwX1_countQuarrels_X1 hown hK hP (13) (wl_at (by omega) (ce_3 (by decide))) rfl 2 (by decide) (hts (.fieldLink RX1 66 "QuietStairs$House" "caseCount" "I") fwX1_countQuarrels_1) (fun _ h9 => h9) rfl dX1_countQuarrels_6 ?_
      refine lv_topi (fun x_2 ex_2 => ?_)
      have bzx_2 : 0 ≤ x_2.toInt ∧ x_2.toInt ≤ 6 := by rw [ex_2]; exact hv.at (K := 3) (by decide) rfl
      obtain rfl : cn = x_2 := (ex_2.trans ecn.symm).symm
      refine lv_icmp_ge (tgt := 30) hx hb dX1_countQuarrels_9 (by decide) (fun c_3 => ?_) (fun c_3 => ?_)
      · have tc_3 : y1_2.toInt ≥ cn.toInt := Int32.le_iff_toInt_le.mp c_3
        refine lv_iload_n hx hb dX1_countQuarrels_30 rfl (lv_at hl 1 rfl) ?_
        have zn_y1_2 : (y1_2.toNatClampNeg : Int) = y1_2.toInt := t_nn (by omega)
        exact W.iret (v := y1_1) hx hb hr (fun t ht hW => ⟨⟨y1_1, v, rfl, ⟨hv, rfl, by rw [← eFF, ← ecn, show cn.toNatClampNeg = y1_2.toNatClampNeg from by omega]; exact hi1_0⟩, by rw [ht]; exact hP, hD⟩, hS.F ht⟩) hS.2.2 dX1_countQuarrels_31
      · have tc_3 : y1_2.toInt < cn.toInt := Int32.lt_iff_toInt_lt.mp (Int32.not_le.mp c_3)
        refine lv_aload_n hx hb dX1_countQuarrels_12 rfl (lv_at hl 2 rfl) ?_
        refine lv_iload_n hx hb dX1_countQuarrels_13 rfl (lv_at hl 0 rfl) ?_
        refine yw_i (w1 := fun (u : Nat → Nat → Int32) => wl ad kv cy N u) hD hS hA (va_runV (As := [.int y1_2]) (rest := []) ⟨hx, hb, hml, hown, hts⟩ (e_X1_headOfQuarrel l dC dI cy _ ad kv N hN v hv y1_2 ⟨by omega, by omega⟩) (cwV 1 hts gX1_countQuarrels_X1_headOfQuarrel rfl rfl rfl hd_V_X1_headOfQuarrel_1 ⟨Nat.le_of_ble_eq_true rfl, Nat.le_of_ble_eq_true rfl⟩) (yw_preV hE hK hP hD (ci := 1) (q := (RX1, TX1, 7)) (q0 := 13) rfl (wl_at (by omega) (ce_3 (by decide)))) rfl rfl hl.1 rfl (lv_room (Nat.le_of_ble_eq_true rfl)) dX1_countQuarrels_14 ⟨Nat.le_of_ble_eq_true rfl, Nat.le_of_ble_eq_true rfl⟩) (fun r_4 v_4 H locs hw_4 hP hD hS => ?_)
        obtain ⟨-, hu_4, hw_4⟩ := hw_4
        replace hu_4 := hu_4.symm
        subst hu_4
        refine lv_iload_n hx hb dX1_countQuarrels_17 rfl (lv_at hl 0 rfl) ?_
        refine lv_icmp_ne (tgt := 24) hx hb dX1_countQuarrels_18 (by decide) (fun c_5 => ?_) (fun c_5 => ?_)
        · have tc_5 : r_4.toInt ≠ y1_2.toInt := fun q => absurd (Int32.toInt_inj.mp q) c_5
          obtain ⟨x_6, ex_6⟩ : ∃ y : Int32, y = y1_2 + 1 := ⟨_, rfl⟩
          refine lv_iinc (v := x_6) (lv' := [(2, .int x_6), (1, .int y1_1), (0, .ref (ad 13))]) hx hb dX1_countQuarrels_24 hl (k := 0) rfl (by rw [ex_6]; rfl) (by decide) rfl (fun ls hl => ?_)
          have k_1 : (1 : Int32).toInt = 1 := by decide
          have tx_6 : x_6.toInt = y1_2.toInt + (1 : Int32).toInt := by rw [ex_6]; exact t_add ⟨by omega, by omega⟩
          refine lv_goto (tgt := 4) hx hb dX1_countQuarrels_27 (by decide) ?_
          have zn_x_6 : (x_6.toNatClampNeg : Int) = x_6.toInt := t_nn (by omega)
          have zn_y1_2 : (y1_2.toNatClampNeg : Int) = y1_2.toInt := t_nn (by omega)
          have hF9 : FF y1_2.toNatClampNeg = 0 := by rw [eFF]; show (if ((hF (qB (fun c => v (29 + 15 * c) 4) (v 13 2).toNatClampNeg (Int32.ofNat y1_2.toNatClampNeg)) y1_2.toNatClampNeg : Nat) : Int) = ((y1_2.toNatClampNeg : Nat) : Int) then (1 : Int) else 0) = 0; exact if_neg (by rw [← ofn (x := y1_2) (by omega), ← hw_4]; omega)
          exact ih_1 x_6 y1_1 _ _ (by omega) (by omega) (by omega) (by omega) (by rw [show x_6.toNatClampNeg = y1_2.toNatClampNeg + 1 from by omega]; show _ = cN FF y1_2.toNatClampNeg + FF y1_2.toNatClampNeg; omega) (by omega) (by omega) (by omega) hP hD hS ls (lv_sub hl [0, 1, 2] rfl)
        · have tc_5 : r_4.toInt = y1_2.toInt := by rw [c_5]
          obtain ⟨x_6, ex_6⟩ : ∃ y : Int32, y = y1_1 + 1 := ⟨_, rfl⟩
          refine lv_iinc (v := x_6) (lv' := [(1, .int x_6), (2, .int y1_2), (0, .ref (ad 13))]) hx hb dX1_countQuarrels_21 hl (k := 1) rfl (by rw [ex_6]; rfl) (by decide) rfl (fun ls hl => ?_)
          have k_1 : (1 : Int32).toInt = 1 := by decide
          have tx_6 : x_6.toInt = y1_1.toInt + (1 : Int32).toInt := by rw [ex_6]; exact t_add ⟨by omega, by omega⟩
          obtain ⟨x_7, ex_7⟩ : ∃ y : Int32, y = y1_2 + 1 := ⟨_, rfl⟩
          refine lv_iinc (v := x_7) (lv' := [(2, .int x_7), (1, .int x_6), (0, .ref (ad 13))]) hx hb dX1_countQuarrels_24 hl (k := 1) rfl (by rw [ex_7]; rfl) (by decide) rfl (fun ls hl => ?_)
          have tx_7 : x_7.toInt = y1_2.toInt + (1 : Int32).toInt := by rw [ex_7]; exact t_add ⟨by omega, by omega⟩
          refine lv_goto (tgt := 4) hx hb dX1_countQuarrels_27 (by decide) ?_
          have zn_x_7 : (x_7.toNatClampNeg : Int) = x_7.toInt := t_nn (by omega)
          have zn_y1_2 : (y1_2.toNatClampNeg : Int) = y1_2.toInt := t_nn (by omega)
          have hF9 : FF y1_2.toNatClampNeg = 1 := by rw [eFF]; show (if ((hF (qB (fun c => v (29 + 15 * c) 4) (v 13 2).toNatClampNeg (Int32.ofNat y1_2.toNatClampNeg)) y1_2.toNatClampNeg : Nat) : Int) = ((y1_2.toNatClampNeg : Nat) : Int) then (1 : Int) else 0) = 1; exact if_pos (by rw [← ofn (x := y1_2) (by omega), ← hw_4]; omega)
          exact ih_1 x_7 x_6 _ _ (by omega) (by omega) (by omega) (by omega) (by rw [show x_7.toNatClampNeg = y1_2.toNatClampNeg + 1 from by omega]; show _ = cN FF y1_2.toNatClampNeg + FF y1_2.toNatClampNeg; omega) (by omega) (by omega) (by omega) hP hD hS ls (lv_sub hl [0, 1, 2] rfl)
  exact hc_1 ((6 - (0 : Int32).toInt).toNat + 1) 0 0 _ _ (by omega) (by omega) (by omega) (by omega) (by rw [show (0 : Int32).toNatClampNeg = 0 from by decide]; exact k_0) (by omega) (by omega) (by omega) hP hD hS ls (lv_sub hl [0, 1, 2] rfl)

set_option maxHeartbeats 4000000 in
set_option maxRecDepth 100000 in
theorem e_X1_countTerms (l : Launch) (dC : Nat → ClassId) (dI : Nat → Nat → Nat) (cy : Nat → ClassId) (sz : Nat) (ad : Nat → Nat) (kv : Value) (N : Nat) (hN : 119 ≤ N) (v : Nat → Nat → Int32) (hv : Iv v)  : Met l yX1_countTerms wsX1_countTerms ({ frames := 0, cells := 0, slots := 0, locals := 0 }) (va_Pc [.ref (ad 13)] (ex_Pre dC dI cy sz (wl ad kv cy N v))) (va_Qi (fun (r : Int32) (u : Nat → Nat → Int32) => Iv u ∧ u = v ∧ r.toInt = cN (fun c => (v (29 + 15 * c) 5).toInt) (v 13 2).toNatClampNeg) (fun u t => ex_Pst dC dI (va_A (wl ad kv cy N v) sz) (wl ad kv cy N u) t) (va_A (wl ad kv cy N v) sz)) 0 0 (va_A (wl ad kv cy N v) sz) := by
  refine Met.ofW (cc := cX1_countTerms) (maxL := 3) (ret := (some .int)) (by decide) rfl ?_
  intro p e s m args below meth c s₁ B hml hv
  obtain ⟨rfl, hsz, hE, hP, hK, hD0⟩ := hv
  have hx := B.exec
  have hb := B.bytes
  have hr := B.returns
  have hts := atoms_spec (ws := wsX1_countTerms) B.pre
  have hown : s.vm.findClass RX1 = some m.cls := findClass_of_methodNamed B.named
  have hlocks := B.notSynchronized
  subst hsz
  have hD := hD0.self (sz := s.heap.size)
  generalize hAe : va_A (wl ad kv cy N v) s.heap.size = A at hD ⊢
  have hA : ∀ q : Nat, s.heap.size ≤ q → A q := fun q h => by rw [← hAe]; exact Or.inr h
  have hS : va_S A s.heap s.heap [] := va_S.rf
  have hP : va_P (dC, dI) vwCl (wl ad kv cy N v) s.heap := hP
  have hl := lv_entry ([.ref (ad 13)]) (n := 3) (Nat.le_of_ble_eq_true rfl)
  rw [lg_entry_eq]
  generalize (lg_sl ([.ref (ad 13)]) ++ List.replicate (3 - (lg_sl ([.ref (ad 13)])).length) Slot.unset).toArray = ls at hl ⊢
  have hl : lv_has ls 3 [(0, .ref (ad 13))] := hl
  obtain ⟨cn, ecn⟩ : ∃ z : Int32, z = v 13 2 := ⟨_, rfl⟩
  have hbcn : 0 ≤ cn.toInt ∧ cn.toInt ≤ 6 := by rw [ecn]; exact hv.at (K := 3) (by decide) rfl
  have zn_cn : (cn.toNatClampNeg : Int) = cn.toInt := t_nn (by omega)
  have k_0 : (0 : Int32).toInt = 0 := by decide
  obtain ⟨FF, eFF⟩ : ∃ f : Nat → Int, f = fun c => (v (29 + 15 * c) 5).toInt := ⟨_, rfl⟩
  refine lv_iconst (v := 0) hx hb dX1_countTerms_0 (by decide) ?_
  refine lv_istore_n (lv' := [(1, .int 0), (0, .ref (ad 13))]) hx hb dX1_countTerms_1 rfl hl (by decide) rfl (fun ls hl => ?_)
  refine lv_iconst (v := 0) hx hb dX1_countTerms_2 (by decide) ?_
  refine lv_istore_n (lv' := [(2, .int 0), (1, .int 0), (0, .ref (ad 13))]) hx hb dX1_countTerms_3 rfl hl (by decide) rfl (fun ls hl => ?_)
  have hc_1 : ∀ (n : Nat) (y1_2 y1_1 : Int32) (H : Heap) (locs : List Loc), 0 ≤ y1_2.toInt → y1_2.toInt ≤ 6 → 0 ≤ y1_1.toInt → y1_1.toInt ≤ 30 → (y1_1.toInt = cN FF y1_2.toNatClampNeg) → (y1_1.toInt ≤ 5 * y1_2.toInt) → (y1_2.toInt ≤ cn.toInt) → (6 - y1_2.toInt).toNat < n → va_P (dC, dI) vwCl (wl ad kv cy N v) H → va_D A (wl ad kv cy N v) → va_S A s.heap H locs → ∀ ls : Array Slot, lv_has ls 3 [(2, .int y1_2), (1, .int y1_1), (0, .ref (ad 13))] → W p l e (headSpec wsX1_countTerms ({ frames := 0, cells := 0, slots := 0, locals := 0 })).room s m [Value.ref (ad 13)].toArray below meth c H locs 0 0 (MQ below (va_Qi (fun (r : Int32) (u : Nat → Nat → Int32) => Iv u ∧ u = v ∧ r.toInt = cN (fun c => (v (29 + 15 * c) 5).toInt) (v 13 2).toNatClampNeg) (fun u t => ex_Pst dC dI A (wl ad kv cy N u) t) A) [Value.ref (ad 13)].toArray s 0 0 A) (F0 m 4 ls []) := by
    intro n
    induction n with
    | zero =>
      intro y1_2 y1_1 H locs ay1_2 by1_2 ay1_1 by1_1 hi1_0 hi1_1 hi1_2 hm_1 hP hD hS ls hl
      exact absurd hm_1 (by omega)
    | succ n ih_1 =>
      intro y1_2 y1_1 H locs ay1_2 by1_2 ay1_1 by1_1 hi1_0 hi1_1 hi1_2 hm_1 hP hD hS ls hl
      refine lv_iload_n hx hb dX1_countTerms_4 rfl (lv_at hl 0 rfl) ?_
      refine lv_aload_n hx hb dX1_countTerms_5 rfl (lv_at hl 2 rfl) ?_
      refine va_get (D := (dC, dI)) (ci := 1) (v := .int (v (13) 2)) (C := RX1) (T := TX1) (N := 7) hx hb hts iwX1_countTerms_X1 hown hK hP (13) (wl_at (by omega) (ce_3 (by decide))) rfl 2 (by decide) (hts (.fieldLink RX1 66 "QuietStairs$House" "caseCount" "I") fwX1_countTerms_1) (fun _ h9 => h9) rfl dX1_countTerms_6 ?_
      refine lv_topi (fun x_2 ex_2 => ?_)
      have bzx_2 : 0 ≤ x_2.toInt ∧ x_2.toInt ≤ 6 := by rw [ex_2]; exact hv.at (K := 3) (by decide) rfl
      obtain rfl : cn = x_2 := (ex_2.trans ecn.symm).symm
      refine lv_icmp_ge (tgt := 30) hx hb dX1_countTerms_9 (by decide) (fun c_3 => ?_) (fun c_3 => ?_)
      · have tc_3 : y1_2.toInt ≥ cn.toInt := Int32.le_iff_toInt_le.mp c_3
        refine lv_iload_n hx hb dX1_countTerms_30 rfl (lv_at hl 1 rfl) ?_
        have zn_y1_2 : (y1_2.toNatClampNeg : Int) = y1_2.toInt := t_nn (by omega)
        exact W.iret (v := y1_1) hx hb hr (fun t ht hW => ⟨⟨y1_1, v, rfl, ⟨hv, rfl, by rw [← ecn, ← eFF, show cn.toNatClampNeg = y1_2.toNatClampNeg from by omega]; exact hi1_0⟩, by rw [ht]; exact hP, hD⟩, hS.F ht⟩) hS.2.2 dX1_countTerms_31
      · have tc_3 : y1_2.toInt < cn.toInt := Int32.lt_iff_toInt_lt.mp (Int32.not_le.mp c_3)
        refine lv_iload_n hx hb dX1_countTerms_12 rfl (lv_at hl 1 rfl) ?_
        refine lv_aload_n hx hb dX1_countTerms_13 rfl (lv_at hl 2 rfl) ?_
        refine va_get (D := (dC, dI)) (ci := 1) (v := .ref (ad 16)) (C := RX1) (T := TX1) (N := 7) hx hb hts iwX1_countTerms_X1 hown hK hP (13) (wl_at (by omega) (ce_3 (by decide))) rfl 6 (by decide) (hts (.fieldLink RX1 25 "QuietStairs$House" "cases" "[LQuietStairs$Case;") fwX1_countTerms_2) (fun _ h9 => h9) rfl dX1_countTerms_14 ?_
        refine lv_iload_n hx hb dX1_countTerms_17 rfl (lv_at hl 0 rfl) ?_
        have zn_y1_2 : (y1_2.toNatClampNeg : Int) = y1_2.toInt := t_nn (by omega)
        have hx_4 : y1_2.toNatClampNeg < 6 := by omega
        refine va_aldq hx hb hK hP (16) 3 (wl_at (by omega) (ce_6 (by decide))) rfl (vp_in_iff.mpr ⟨by omega, by omega⟩) dX1_countTerms_18 ?_
        refine W.eq (g2 := F0 m 19 ls [.ref (ad (29 + 15 * y1_2.toNatClampNeg)), .int y1_1]) (by rw [if_pos hx_4, show 16 + 13 + 15 * y1_2.toNatClampNeg = 29 + 15 * y1_2.toNatClampNeg from by omega]; rfl) ?_
        refine va_get (D := (dC, dI)) (ci := 0) (v := .int (v (29 + 15 * y1_2.toNatClampNeg) 5)) (C := RX0) (T := TX0) (N := 11) hx hb hts iwX1_countTerms_X0 hown hK hP (29 + 15 * y1_2.toNatClampNeg) (wl_at (by omega) (ce_9 (kd_c _ hx_4).1.1)) rfl 5 (by decide) (hts (.fieldLink RX1 82 "QuietStairs$Case" "termCount" "I") fwX1_countTerms_3) (fun _ h9 => h9) rfl dX1_countTerms_19 ?_
        refine lv_topi (fun x_5 ex_5 => ?_)
        have bzx_5 : 0 ≤ x_5.toInt ∧ x_5.toInt ≤ 5 := by rw [ex_5]; exact hv.at (K := 9) (kd_c _ hx_4).1.1 rfl
        have qx_5 : x_5.toInt = (v (29 + 15 * y1_2.toNatClampNeg) (5)).toInt := congrArg Int32.toInt ex_5
        refine lv_iadd hx hb dX1_countTerms_22 ?_
        refine lv_topi (fun x_6 ex_6 => ?_)
        have tx_6 : x_6.toInt = y1_1.toInt + x_5.toInt := by rw [ex_6]; exact t_add ⟨by omega, by omega⟩
        refine lv_istore_n (lv' := [(1, .int x_6), (2, .int y1_2), (0, .ref (ad 13))]) hx hb dX1_countTerms_23 rfl hl (by decide) rfl (fun ls hl => ?_)
        obtain ⟨x_7, ex_7⟩ : ∃ y : Int32, y = y1_2 + 1 := ⟨_, rfl⟩
        refine lv_iinc (v := x_7) (lv' := [(2, .int x_7), (1, .int x_6), (0, .ref (ad 13))]) hx hb dX1_countTerms_24 hl (k := 1) rfl (by rw [ex_7]; rfl) (by decide) rfl (fun ls hl => ?_)
        have k_1 : (1 : Int32).toInt = 1 := by decide
        have tx_7 : x_7.toInt = y1_2.toInt + (1 : Int32).toInt := by rw [ex_7]; exact t_add ⟨by omega, by omega⟩
        refine lv_goto (tgt := 4) hx hb dX1_countTerms_27 (by decide) ?_
        have zn_x_7 : (x_7.toNatClampNeg : Int) = x_7.toInt := t_nn (by omega)
        have hF9 : FF y1_2.toNatClampNeg = x_5.toInt := by rw [eFF, ex_5]
        exact ih_1 x_7 x_6 _ _ (by omega) (by omega) (by omega) (by omega) (by rw [show x_7.toNatClampNeg = y1_2.toNatClampNeg + 1 from by omega]; show _ = cN FF y1_2.toNatClampNeg + FF y1_2.toNatClampNeg; omega) (by omega) (by omega) (by omega) hP hD hS ls (lv_sub hl [0, 1, 2] rfl)
  exact hc_1 ((6 - (0 : Int32).toInt).toNat + 1) 0 0 _ _ (by omega) (by omega) (by omega) (by omega) (by rw [show (0 : Int32).toNatClampNeg = 0 from by decide]; exact k_0) (by omega) (by omega) (by omega) hP hD hS ls (lv_sub hl [0, 1, 2] rfl)

set_option maxHeartbeats 4000000 in
set_option maxRecDepth 100000 in
theorem e_X1_countJudged (l : Launch) (dC : Nat → ClassId) (dI : Nat → Nat → Nat) (cy : Nat → ClassId) (sz : Nat) (ad : Nat → Nat) (kv : Value) (N : Nat) (hN : 119 ≤ N) (v : Nat → Nat → Int32) (hv : Iv v) (x0 : Int32) : Met l yX1_countJudged wsX1_countJudged ({ frames := 2, cells := 0, slots := 0, locals := 128 }) (va_Pc [.ref (ad 13), .int x0] (ex_Pre dC dI cy sz (wl ad kv cy N v))) (va_Qi (fun (r : Int32) (u : Nat → Nat → Int32) => Iv u ∧ u = v ∧ r.toInt = cN (fun c => cN (fun t => if (jF (v (39 + 15 * c + t) 1) (v (36 + 15 * c + (v (39 + 15 * c + t) 0).toNatClampNeg)) (v (39 + 15 * c + t) 3) (v (39 + 15 * c + t) 4) (v (39 + 15 * c + t) 2)).toInt = x0.toInt then 1 else 0) (v (29 + 15 * c) 5).toNatClampNeg) (v 13 2).toNatClampNeg) (fun u t => ex_Pst dC dI (va_A (wl ad kv cy N v) sz) (wl ad kv cy N u) t) (va_A (wl ad kv cy N v) sz)) 0 0 (va_A (wl ad kv cy N v) sz) := by
  refine Met.ofW (cc := cX1_countJudged) (maxL := 5) (ret := (some .int)) (by decide) rfl ?_
  intro p e s m args below meth c s₁ B hml hv
  obtain ⟨rfl, hsz, hE, hP, hK, hD0⟩ := hv
  have hx := B.exec
  have hb := B.bytes
  have hr := B.returns
  have hts := atoms_spec (ws := wsX1_countJudged) B.pre
  have hown : s.vm.findClass RX1 = some m.cls := findClass_of_methodNamed B.named
  have hlocks := B.notSynchronized
  subst hsz
  have hD := hD0.self (sz := s.heap.size)
  generalize hAe : va_A (wl ad kv cy N v) s.heap.size = A at hD ⊢
  have hA : ∀ q : Nat, s.heap.size ≤ q → A q := fun q h => by rw [← hAe]; exact Or.inr h
  have hS : va_S A s.heap s.heap [] := va_S.rf
  have hP : va_P (dC, dI) vwCl (wl ad kv cy N v) s.heap := hP
  have hl := lv_entry ([.ref (ad 13), .int x0]) (n := 5) (Nat.le_of_ble_eq_true rfl)
  rw [lg_entry_eq]
  generalize (lg_sl ([.ref (ad 13), .int x0]) ++ List.replicate (5 - (lg_sl ([.ref (ad 13), .int x0])).length) Slot.unset).toArray = ls at hl ⊢
  have hl : lv_has ls 5 [(0, .ref (ad 13)), (1, .int x0)] := hl
  obtain ⟨GI, eGI⟩ : ∃ f : Nat → Nat → Int, f = fun c t => if (jF (v (39 + 15 * c + t) 1) (v (36 + 15 * c + (v (39 + 15 * c + t) 0).toNatClampNeg)) (v (39 + 15 * c + t) 3) (v (39 + 15 * c + t) 4) (v (39 + 15 * c + t) 2)).toInt = x0.toInt then 1 else 0 := ⟨_, rfl⟩
  obtain ⟨OO, eOO⟩ : ∃ f : Nat → Int, f = fun c => cN (GI c) (v (29 + 15 * c) 5).toNatClampNeg := ⟨_, rfl⟩
  obtain ⟨cn, ecn⟩ : ∃ z : Int32, z = v 13 2 := ⟨_, rfl⟩
  have hbcn : 0 ≤ cn.toInt ∧ cn.toInt ≤ 6 := by rw [ecn]; exact hv.at (K := 3) (by decide) rfl
  have zn_cn : (cn.toNatClampNeg : Int) = cn.toInt := t_nn (by omega)
  have k_0 : (0 : Int32).toInt = 0 := by decide
  refine lv_iconst (v := 0) hx hb dX1_countJudged_0 (by decide) ?_
  refine lv_istore_n (lv' := [(2, .int 0), (0, .ref (ad 13)), (1, .int x0)]) hx hb dX1_countJudged_1 rfl hl (by decide) rfl (fun ls hl => ?_)
  refine lv_iconst (v := 0) hx hb dX1_countJudged_2 (by decide) ?_
  refine lv_istore_n (lv' := [(3, .int 0), (2, .int 0), (0, .ref (ad 13)), (1, .int x0)]) hx hb dX1_countJudged_3 rfl hl (by decide) rfl (fun ls hl => ?_)
  have hc_1 : ∀ (n : Nat) (y1_3 y1_2 : Int32) (H : Heap) (locs : List Loc), 0 ≤ y1_3.toInt → y1_3.toInt ≤ 6 → 0 ≤ y1_2.toInt → y1_2.toInt ≤ 30 → (y1_2.toInt = cN OO y1_3.toNatClampNeg) → (y1_2.toInt ≤ 5 * y1_3.toInt) → (y1_3.toInt ≤ cn.toInt) → (6 - y1_3.toInt).toNat < n → va_P (dC, dI) vwCl (wl ad kv cy N v) H → va_D A (wl ad kv cy N v) → va_S A s.heap H locs → ∀ ls : Array Slot, lv_has ls 5 [(3, .int y1_3), (2, .int y1_2), (0, .ref (ad 13)), (1, .int x0)] → W p l e (headSpec wsX1_countJudged ({ frames := 2, cells := 0, slots := 0, locals := 128 })).room s m [Value.ref (ad 13), Value.int x0].toArray below meth c H locs 0 0 (MQ below (va_Qi (fun (r : Int32) (u : Nat → Nat → Int32) => Iv u ∧ u = v ∧ r.toInt = cN (fun c => cN (fun t => if (jF (v (39 + 15 * c + t) 1) (v (36 + 15 * c + (v (39 + 15 * c + t) 0).toNatClampNeg)) (v (39 + 15 * c + t) 3) (v (39 + 15 * c + t) 4) (v (39 + 15 * c + t) 2)).toInt = x0.toInt then 1 else 0) (v (29 + 15 * c) 5).toNatClampNeg) (v 13 2).toNatClampNeg) (fun u t => ex_Pst dC dI A (wl ad kv cy N u) t) A) [Value.ref (ad 13), Value.int x0].toArray s 0 0 A) (F0 m 4 ls []) := by
    intro n
    induction n with
    | zero =>
      intro y1_3 y1_2 H locs ay1_3 by1_3 ay1_2 by1_2 hi1_0 hi1_1 hi1_2 hm_1 hP hD hS ls hl
      exact absurd hm_1 (by omega)
    | succ n ih_1 =>
      intro y1_3 y1_2 H locs ay1_3 by1_3 ay1_2 by1_2 hi1_0 hi1_1 hi1_2 hm_1 hP hD hS ls hl
      refine lv_iload_n hx hb dX1_countJudged_4 rfl (lv_at hl 0 rfl) ?_
      refine lv_aload_n hx hb dX1_countJudged_5 rfl (lv_at hl 2 rfl) ?_
      refine va_get (D := (dC, dI)) (ci := 1) (v := .int (v (13) 2)) (C := RX1) (T := TX1) (N := 7) hx hb hts iwX1_countJudged_X1 hown hK hP (13) (wl_at (by omega) (ce_3 (by decide))) rfl 2 (by decide) (hts (.fieldLink RX1 66 "QuietStairs$House" "caseCount" "I") fwX1_countJudged_1) (fun _ h9 => h9) rfl dX1_countJudged_6 ?_
      refine lv_topi (fun x_2 ex_2 => ?_)
      have bzx_2 : 0 ≤ x_2.toInt ∧ x_2.toInt ≤ 6 := by rw [ex_2]; exact hv.at (K := 3) (by decide) rfl
      obtain rfl : cn = x_2 := (ex_2.trans ecn.symm).symm
      refine lv_icmp_ge (tgt := 59) hx hb dX1_countJudged_9 (by decide) (fun c_3 => ?_) (fun c_3 => ?_)
      · have tc_3 : y1_3.toInt ≥ cn.toInt := Int32.le_iff_toInt_le.mp c_3
        refine lv_iload_n hx hb dX1_countJudged_59 rfl (lv_at hl 1 rfl) ?_
        have zn_y1_3 : (y1_3.toNatClampNeg : Int) = y1_3.toInt := t_nn (by omega)
        have hOO : OO = fun c => cN (fun t => if (jF (v (39 + 15 * c + t) 1) (v (36 + 15 * c + (v (39 + 15 * c + t) 0).toNatClampNeg)) (v (39 + 15 * c + t) 3) (v (39 + 15 * c + t) 4) (v (39 + 15 * c + t) 2)).toInt = x0.toInt then 1 else 0) (v (29 + 15 * c) 5).toNatClampNeg := by rw [eOO, eGI]
        exact W.iret (v := y1_2) hx hb hr (fun t ht hW => ⟨⟨y1_2, v, rfl, ⟨hv, rfl, by rw [← ecn, ← hOO, show cn.toNatClampNeg = y1_3.toNatClampNeg from by omega]; exact hi1_0⟩, by rw [ht]; exact hP, hD⟩, hS.F ht⟩) hS.2.2 dX1_countJudged_60
      · have tc_3 : y1_3.toInt < cn.toInt := Int32.lt_iff_toInt_lt.mp (Int32.not_le.mp c_3)
        refine lv_iconst (v := 0) hx hb dX1_countJudged_12 (by decide) ?_
        refine lv_istore (lv' := [(4, .int 0), (3, .int y1_3), (2, .int y1_2), (0, .ref (ad 13)), (1, .int x0)]) hx hb dX1_countJudged_13 hl (by decide) rfl (fun ls hl => ?_)
        have hc_4 : ∀ (n : Nat) (y4_4 y4_2 : Int32) (H : Heap) (locs : List Loc), 0 ≤ y4_4.toInt → y4_4.toInt ≤ 5 → 0 ≤ y4_2.toInt → y4_2.toInt ≤ 30 → (y4_2.toInt = y1_2.toInt + cN (GI y1_3.toNatClampNeg) y4_4.toNatClampNeg) → (y4_2.toInt ≤ y1_2.toInt + y4_4.toInt) → (y4_4.toInt ≤ 0 ∨ y4_4.toInt ≤ (v (29 + 15 * y1_3.toNatClampNeg) 5).toInt) → (5 - y4_4.toInt).toNat < n → va_P (dC, dI) vwCl (wl ad kv cy N v) H → va_D A (wl ad kv cy N v) → va_S A s.heap H locs → ∀ ls : Array Slot, lv_has ls 5 [(4, .int y4_4), (3, .int y1_3), (2, .int y4_2), (0, .ref (ad 13)), (1, .int x0)] → W p l e (headSpec wsX1_countJudged ({ frames := 2, cells := 0, slots := 0, locals := 128 })).room s m [Value.ref (ad 13), Value.int x0].toArray below meth c H locs 0 0 (MQ below (va_Qi (fun (r : Int32) (u : Nat → Nat → Int32) => Iv u ∧ u = v ∧ r.toInt = cN (fun c => cN (fun t => if (jF (v (39 + 15 * c + t) 1) (v (36 + 15 * c + (v (39 + 15 * c + t) 0).toNatClampNeg)) (v (39 + 15 * c + t) 3) (v (39 + 15 * c + t) 4) (v (39 + 15 * c + t) 2)).toInt = x0.toInt then 1 else 0) (v (29 + 15 * c) 5).toNatClampNeg) (v 13 2).toNatClampNeg) (fun u t => ex_Pst dC dI A (wl ad kv cy N u) t) A) [Value.ref (ad 13), Value.int x0].toArray s 0 0 A) (F0 m 15 ls []) := by
          intro n
          induction n with
          | zero =>
            intro y4_4 y4_2 H locs ay4_4 by4_4 ay4_2 by4_2 hi4_0 hi4_1 hi4_2 hm_4 hP hD hS ls hl
            exact absurd hm_4 (by omega)
          | succ n ih_4 =>
            intro y4_4 y4_2 H locs ay4_4 by4_4 ay4_2 by4_2 hi4_0 hi4_1 hi4_2 hm_4 hP hD hS ls hl
            refine lv_iload hx hb dX1_countJudged_15 (lv_at hl 0 rfl) ?_
            refine lv_aload_n hx hb dX1_countJudged_17 rfl (lv_at hl 3 rfl) ?_
            refine va_get (D := (dC, dI)) (ci := 1) (v := .ref (ad 16)) (C := RX1) (T := TX1) (N := 7) hx hb hts iwX1_countJudged_X1 hown hK hP (13) (wl_at (by omega) (ce_3 (by decide))) rfl 6 (by decide) (hts (.fieldLink RX1 25 "QuietStairs$House" "cases" "[LQuietStairs$Case;") fwX1_countJudged_2) (fun _ h9 => h9) rfl dX1_countJudged_18 ?_
            refine lv_iload_n hx hb dX1_countJudged_21 rfl (lv_at hl 1 rfl) ?_
            have zn_y1_3 : (y1_3.toNatClampNeg : Int) = y1_3.toInt := t_nn (by omega)
            have hx_5 : y1_3.toNatClampNeg < 6 := by omega
            refine va_aldq hx hb hK hP (16) 3 (wl_at (by omega) (ce_6 (by decide))) rfl (vp_in_iff.mpr ⟨by omega, by omega⟩) dX1_countJudged_22 ?_
            refine W.eq (g2 := F0 m 23 ls [.ref (ad (29 + 15 * y1_3.toNatClampNeg)), .int y4_4]) (by rw [if_pos hx_5, show 16 + 13 + 15 * y1_3.toNatClampNeg = 29 + 15 * y1_3.toNatClampNeg from by omega]; rfl) ?_
            refine va_get (D := (dC, dI)) (ci := 0) (v := .int (v (29 + 15 * y1_3.toNatClampNeg) 5)) (C := RX0) (T := TX0) (N := 11) hx hb hts iwX1_countJudged_X0 hown hK hP (29 + 15 * y1_3.toNatClampNeg) (wl_at (by omega) (ce_9 (kd_c _ hx_5).1.1)) rfl 5 (by decide) (hts (.fieldLink RX1 82 "QuietStairs$Case" "termCount" "I") fwX1_countJudged_3) (fun _ h9 => h9) rfl dX1_countJudged_23 ?_
            refine lv_topi (fun x_6 ex_6 => ?_)
            have bzx_6 : 0 ≤ x_6.toInt ∧ x_6.toInt ≤ 5 := by rw [ex_6]; exact hv.at (K := 9) (kd_c _ hx_5).1.1 rfl
            have qx_6 : x_6.toInt = (v (29 + 15 * y1_3.toNatClampNeg) (5)).toInt := congrArg Int32.toInt ex_6
            refine lv_icmp_ge (tgt := 53) hx hb dX1_countJudged_26 (by decide) (fun c_7 => ?_) (fun c_7 => ?_)
            · have tc_7 : y4_4.toInt ≥ x_6.toInt := Int32.le_iff_toInt_le.mp c_7
              obtain ⟨x_8, ex_8⟩ : ∃ y : Int32, y = y1_3 + 1 := ⟨_, rfl⟩
              refine lv_iinc (v := x_8) (lv' := [(3, .int x_8), (4, .int y4_4), (2, .int y4_2), (0, .ref (ad 13)), (1, .int x0)]) hx hb dX1_countJudged_53 hl (k := 1) rfl (by rw [ex_8]; rfl) (by decide) rfl (fun ls hl => ?_)
              have k_1 : (1 : Int32).toInt = 1 := by decide
              have tx_8 : x_8.toInt = y1_3.toInt + (1 : Int32).toInt := by rw [ex_8]; exact t_add ⟨by omega, by omega⟩
              refine lv_goto (tgt := 4) hx hb dX1_countJudged_56 (by decide) ?_
              have zn_x_8 : (x_8.toNatClampNeg : Int) = x_8.toInt := t_nn (by omega)
              have zn_y4_4 : (y4_4.toNatClampNeg : Int) = y4_4.toInt := t_nn (by omega)
              have zn_x_6 : (x_6.toNatClampNeg : Int) = x_6.toInt := t_nn (by omega)
              have hO9 : OO y1_3.toNatClampNeg = cN (GI y1_3.toNatClampNeg) y4_4.toNatClampNeg := by rw [eOO]; show cN _ (Int32.toNatClampNeg _) = _; rw [← ex_6, show x_6.toNatClampNeg = y4_4.toNatClampNeg from by omega]
              exact ih_1 x_8 y4_2 _ _ (by omega) (by omega) (by omega) (by omega) (by rw [show x_8.toNatClampNeg = y1_3.toNatClampNeg + 1 from by omega]; show _ = cN OO y1_3.toNatClampNeg + OO y1_3.toNatClampNeg; omega) (by omega) (by omega) (by omega) hP hD hS ls (lv_sub hl [0, 2, 3, 4] rfl)
            · have tc_7 : y4_4.toInt < x_6.toInt := Int32.lt_iff_toInt_lt.mp (Int32.not_le.mp c_7)
              refine lv_aload_n hx hb dX1_countJudged_29 rfl (lv_at hl 3 rfl) ?_
              refine va_get (D := (dC, dI)) (ci := 1) (v := .ref (ad 16)) (C := RX1) (T := TX1) (N := 7) hx hb hts iwX1_countJudged_X1 hown hK hP (13) (wl_at (by omega) (ce_3 (by decide))) rfl 6 (by decide) (hts (.fieldLink RX1 25 "QuietStairs$House" "cases" "[LQuietStairs$Case;") fwX1_countJudged_2) (fun _ h9 => h9) rfl dX1_countJudged_30 ?_
              refine lv_iload_n hx hb dX1_countJudged_33 rfl (lv_at hl 1 rfl) ?_
              refine va_aldq hx hb hK hP (16) 3 (wl_at (by omega) (ce_6 (by decide))) rfl (vp_in_iff.mpr ⟨by omega, by omega⟩) dX1_countJudged_34 ?_
              refine W.eq (g2 := F0 m 35 ls [.ref (ad (29 + 15 * y1_3.toNatClampNeg))]) (by rw [if_pos hx_5, show 16 + 13 + 15 * y1_3.toNatClampNeg = 29 + 15 * y1_3.toNatClampNeg from by omega]; rfl) ?_
              refine lv_iload hx hb dX1_countJudged_35 (lv_at hl 0 rfl) ?_
              refine yw_i (w1 := fun (u : Nat → Nat → Int32) => wl ad kv cy N u) hD hS hA (va_runV (As := [.int y4_4]) (rest := []) ⟨hx, hb, hml, hown, hts⟩ (e_X0_judge l dC dI cy _ ad kv N hN v hv y1_3.toNatClampNeg hx_5 y4_4 ⟨by omega, by omega⟩) (cwV 1 hts gX1_countJudged_X0_judge rfl rfl rfl hd_V_X0_judge_1 ⟨Nat.le_of_ble_eq_true rfl, Nat.le_of_ble_eq_true rfl⟩) (yw_preV hE hK hP hD (ci := 0) (q := (RX0, TX0, 11)) (q0 := (29 + 15 * y1_3.toNatClampNeg)) rfl (wl_at (by omega) (ce_9 (kd_c _ hx_5).1.1))) rfl rfl hl.1 rfl (lv_room (Nat.le_of_ble_eq_true rfl)) dX1_countJudged_37 ⟨Nat.le_of_ble_eq_true rfl, Nat.le_of_ble_eq_true rfl⟩) (fun r_8 v_8 H locs hw_8 hP hD hS => ?_)
              obtain ⟨-, hu_8, hw_8⟩ := hw_8
              replace hu_8 := hu_8.symm
              subst hu_8
              refine lv_iload_n hx hb dX1_countJudged_40 rfl (lv_at hl 4 rfl) ?_
              refine lv_icmp_ne (tgt := 47) hx hb dX1_countJudged_41 (by decide) (fun c_9 => ?_) (fun c_9 => ?_)
              · have tc_9 : r_8.toInt ≠ x0.toInt := fun q => absurd (Int32.toInt_inj.mp q) c_9
                obtain ⟨x_10, ex_10⟩ : ∃ y : Int32, y = y4_4 + 1 := ⟨_, rfl⟩
                refine lv_iinc (v := x_10) (lv' := [(4, .int x_10), (3, .int y1_3), (2, .int y4_2), (0, .ref (ad 13)), (1, .int x0)]) hx hb dX1_countJudged_47 hl (k := 0) rfl (by rw [ex_10]; rfl) (by decide) rfl (fun ls hl => ?_)
                have k_1 : (1 : Int32).toInt = 1 := by decide
                have tx_10 : x_10.toInt = y4_4.toInt + (1 : Int32).toInt := by rw [ex_10]; exact t_add ⟨by omega, by omega⟩
                refine lv_goto (tgt := 15) hx hb dX1_countJudged_50 (by decide) ?_
                have zn_x_10 : (x_10.toNatClampNeg : Int) = x_10.toInt := t_nn (by omega)
                have zn_y4_4 : (y4_4.toNatClampNeg : Int) = y4_4.toInt := t_nn (by omega)
                have hF9 : GI y1_3.toNatClampNeg y4_4.toNatClampNeg = 0 := by rw [eGI]; show (if (jF (v (39 + 15 * y1_3.toNatClampNeg + y4_4.toNatClampNeg) 1) (v (36 + 15 * y1_3.toNatClampNeg + (v (39 + 15 * y1_3.toNatClampNeg + y4_4.toNatClampNeg) 0).toNatClampNeg)) (v (39 + 15 * y1_3.toNatClampNeg + y4_4.toNatClampNeg) 3) (v (39 + 15 * y1_3.toNatClampNeg + y4_4.toNatClampNeg) 4) (v (39 + 15 * y1_3.toNatClampNeg + y4_4.toNatClampNeg) 2)).toInt = x0.toInt then (1 : Int) else 0) = 0; exact if_neg (by rw [← hw_8]; omega)
                exact ih_4 x_10 y4_2 _ _ (by omega) (by omega) (by omega) (by omega) (by rw [show x_10.toNatClampNeg = y4_4.toNatClampNeg + 1 from by omega]; show _ = _ + (cN (GI y1_3.toNatClampNeg) y4_4.toNatClampNeg + GI y1_3.toNatClampNeg y4_4.toNatClampNeg); omega) (by omega) (by omega) (by omega) hP hD hS ls (lv_sub hl [0, 1, 2, 3, 4] rfl)
              · have tc_9 : r_8.toInt = x0.toInt := by rw [c_9]
                obtain ⟨x_10, ex_10⟩ : ∃ y : Int32, y = y4_2 + 1 := ⟨_, rfl⟩
                refine lv_iinc (v := x_10) (lv' := [(2, .int x_10), (4, .int y4_4), (3, .int y1_3), (0, .ref (ad 13)), (1, .int x0)]) hx hb dX1_countJudged_44 hl (k := 2) rfl (by rw [ex_10]; rfl) (by decide) rfl (fun ls hl => ?_)
                have k_1 : (1 : Int32).toInt = 1 := by decide
                have tx_10 : x_10.toInt = y4_2.toInt + (1 : Int32).toInt := by rw [ex_10]; exact t_add ⟨by omega, by omega⟩
                obtain ⟨x_11, ex_11⟩ : ∃ y : Int32, y = y4_4 + 1 := ⟨_, rfl⟩
                refine lv_iinc (v := x_11) (lv' := [(4, .int x_11), (2, .int x_10), (3, .int y1_3), (0, .ref (ad 13)), (1, .int x0)]) hx hb dX1_countJudged_47 hl (k := 1) rfl (by rw [ex_11]; rfl) (by decide) rfl (fun ls hl => ?_)
                have tx_11 : x_11.toInt = y4_4.toInt + (1 : Int32).toInt := by rw [ex_11]; exact t_add ⟨by omega, by omega⟩
                refine lv_goto (tgt := 15) hx hb dX1_countJudged_50 (by decide) ?_
                have zn_x_11 : (x_11.toNatClampNeg : Int) = x_11.toInt := t_nn (by omega)
                have zn_y4_4 : (y4_4.toNatClampNeg : Int) = y4_4.toInt := t_nn (by omega)
                have hF9 : GI y1_3.toNatClampNeg y4_4.toNatClampNeg = 1 := by rw [eGI]; show (if (jF (v (39 + 15 * y1_3.toNatClampNeg + y4_4.toNatClampNeg) 1) (v (36 + 15 * y1_3.toNatClampNeg + (v (39 + 15 * y1_3.toNatClampNeg + y4_4.toNatClampNeg) 0).toNatClampNeg)) (v (39 + 15 * y1_3.toNatClampNeg + y4_4.toNatClampNeg) 3) (v (39 + 15 * y1_3.toNatClampNeg + y4_4.toNatClampNeg) 4) (v (39 + 15 * y1_3.toNatClampNeg + y4_4.toNatClampNeg) 2)).toInt = x0.toInt then (1 : Int) else 0) = 1; exact if_pos (by rw [← hw_8]; omega)
                exact ih_4 x_11 x_10 _ _ (by omega) (by omega) (by omega) (by omega) (by rw [show x_11.toNatClampNeg = y4_4.toNatClampNeg + 1 from by omega]; show _ = _ + (cN (GI y1_3.toNatClampNeg) y4_4.toNatClampNeg + GI y1_3.toNatClampNeg y4_4.toNatClampNeg); omega) (by omega) (by omega) (by omega) hP hD hS ls (lv_sub hl [0, 2, 1, 3, 4] rfl)
        exact hc_4 ((5 - (0 : Int32).toInt).toNat + 1) 0 y1_2 _ _ (by omega) (by omega) (by omega) (by omega) (by rw [show (0 : Int32).toNatClampNeg = 0 from by decide]; show _ = _ + (0 : Int); omega) (by omega) (by omega) (by omega) hP hD hS ls (lv_sub hl [0, 1, 2, 3, 4] rfl)
  exact hc_1 ((6 - (0 : Int32).toInt).toNat + 1) 0 0 _ _ (by omega) (by omega) (by omega) (by omega) (by rw [show (0 : Int32).toNatClampNeg = 0 from by decide]; exact k_0) (by omega) (by omega) (by omega) hP hD hS ls (lv_sub hl [0, 1, 2, 3] rfl)

set_option maxHeartbeats 4000000 in
set_option maxRecDepth 100000 in
theorem e_X8_casesThat (l : Launch) (dC : Nat → ClassId) (dI : Nat → Nat → Nat) (cy : Nat → ClassId) (sz : Nat) (ad : Nat → Nat) (v : Nat → Nat → Int32) (hv : Ir v) (x0 : Int32) : Met l yX8_casesThat wsX8_casesThat ({ frames := 1, cells := 0, slots := 0, locals := 64 }) (va_Pc [.ref (ad 0), .int x0] (ex_Pre dC dI cy sz (wm ad cy v))) (va_Qi (fun (r : Int32) (u : Nat → Nat → Int32) => Ir u ∧ u = v ∧ r.toInt = cN (fun c => if (v 1 (34 + 7 * c)).toInt = x0.toInt then 1 else 0) (v 1 2).toNatClampNeg) (fun u t => ex_Pst dC dI (va_A (wm ad cy v) sz) (wm ad cy u) t) (va_A (wm ad cy v) sz)) 0 0 (va_A (wm ad cy v) sz) := by
  refine Met.ofW (cc := cX8_casesThat) (maxL := 4) (ret := (some .int)) (by decide) rfl ?_
  intro p e s m args below meth c s₁ B hml hv
  obtain ⟨rfl, hsz, hE, hP, hK, hD0⟩ := hv
  have hx := B.exec
  have hb := B.bytes
  have hr := B.returns
  have hts := atoms_spec (ws := wsX8_casesThat) B.pre
  have hown : s.vm.findClass RX8 = some m.cls := findClass_of_methodNamed B.named
  have hlocks := B.notSynchronized
  subst hsz
  have hD := hD0.self (sz := s.heap.size)
  generalize hAe : va_A (wm ad cy v) s.heap.size = A at hD ⊢
  have hA : ∀ q : Nat, s.heap.size ≤ q → A q := fun q h => by rw [← hAe]; exact Or.inr h
  have hS : va_S A s.heap s.heap [] := va_S.rf
  have hP : va_P (dC, dI) vwCl (wm ad cy v) s.heap := hP
  have hl := lv_entry ([.ref (ad 0), .int x0]) (n := 4) (Nat.le_of_ble_eq_true rfl)
  rw [lg_entry_eq]
  generalize (lg_sl ([.ref (ad 0), .int x0]) ++ List.replicate (4 - (lg_sl ([.ref (ad 0), .int x0])).length) Slot.unset).toArray = ls at hl ⊢
  have hl : lv_has ls 4 [(0, .ref (ad 0)), (1, .int x0)] := hl
  obtain ⟨cn, ecn⟩ : ∃ z : Int32, z = v 1 2 := ⟨_, rfl⟩
  have hbcn : 0 ≤ cn.toInt ∧ cn.toInt ≤ 6 := by rw [ecn]; exact hv 1 2 6 (by decide)
  have zn_cn : (cn.toNatClampNeg : Int) = cn.toInt := t_nn (by omega)
  have k_0 : (0 : Int32).toInt = 0 := by decide
  obtain ⟨FF, eFF⟩ : ∃ f : Nat → Int, f = fun c => if (v 1 (34 + 7 * c)).toInt = x0.toInt then 1 else 0 := ⟨_, rfl⟩
  refine lv_iconst (v := 0) hx hb dX8_casesThat_0 (by decide) ?_
  refine lv_istore_n (lv' := [(2, .int 0), (0, .ref (ad 0)), (1, .int x0)]) hx hb dX8_casesThat_1 rfl hl (by decide) rfl (fun ls hl => ?_)
  refine lv_iconst (v := 0) hx hb dX8_casesThat_2 (by decide) ?_
  refine lv_istore_n (lv' := [(3, .int 0), (2, .int 0), (0, .ref (ad 0)), (1, .int x0)]) hx hb dX8_casesThat_3 rfl hl (by decide) rfl (fun ls hl => ?_)
  have hc_1 : ∀ (n : Nat) (y1_3 y1_2 : Int32) (H : Heap) (locs : List Loc), 0 ≤ y1_3.toInt → y1_3.toInt ≤ 6 → 0 ≤ y1_2.toInt → y1_2.toInt ≤ 6 → (y1_2.toInt = cN FF y1_3.toNatClampNeg) → (y1_2.toInt ≤ y1_3.toInt) → (y1_3.toInt ≤ cn.toInt) → (6 - y1_3.toInt).toNat < n → va_P (dC, dI) vwCl (wm ad cy v) H → va_D A (wm ad cy v) → va_S A s.heap H locs → ∀ ls : Array Slot, lv_has ls 4 [(3, .int y1_3), (2, .int y1_2), (0, .ref (ad 0)), (1, .int x0)] → W p l e (headSpec wsX8_casesThat ({ frames := 1, cells := 0, slots := 0, locals := 64 })).room s m [Value.ref (ad 0), Value.int x0].toArray below meth c H locs 0 0 (MQ below (va_Qi (fun (r : Int32) (u : Nat → Nat → Int32) => Ir u ∧ u = v ∧ r.toInt = cN (fun c => if (v 1 (34 + 7 * c)).toInt = x0.toInt then 1 else 0) (v 1 2).toNatClampNeg) (fun u t => ex_Pst dC dI A (wm ad cy u) t) A) [Value.ref (ad 0), Value.int x0].toArray s 0 0 A) (F0 m 4 ls []) := by
    intro n
    induction n with
    | zero =>
      intro y1_3 y1_2 H locs ay1_3 by1_3 ay1_2 by1_2 hi1_0 hi1_1 hi1_2 hm_1 hP hD hS ls hl
      exact absurd hm_1 (by omega)
    | succ n ih_1 =>
      intro y1_3 y1_2 H locs ay1_3 by1_3 ay1_2 by1_2 hi1_0 hi1_1 hi1_2 hm_1 hP hD hS ls hl
      refine lv_iload_n hx hb dX8_casesThat_4 rfl (lv_at hl 0 rfl) ?_
      refine lv_aload_n hx hb dX8_casesThat_5 rfl (lv_at hl 2 rfl) ?_
      refine va_get (D := (dC, dI)) (ci := 8) (v := .ref (ad 1)) (C := RX8) (T := TX8) (N := 11) hx hb hts iwX8_casesThat_X8 hown hK hP (0) (wm_at (by decide) rc_0) rfl 0 (by decide) (hts (.fieldLink RX8 7 "QuietStairsModel" "s" "[I") fwX8_casesThat_1) (fun _ h9 => h9) rfl dX8_casesThat_6 ?_
      refine lv_iconst (v := 2) hx hb dX8_casesThat_9 (by decide) ?_
      have k_2 : (2 : Int32).toInt = 2 := by decide
      refine va_iald hx hb hK hP (1) 0 (wm_at (by decide) rc_1) rfl (by unfold vp_in; decide) dX8_casesThat_10 ?_
      refine lv_topi (fun x_2 ex_2 => ?_)
      have ex_2 : x_2 = v 1 2 := ex_2
      have bzx_2 : 0 ≤ x_2.toInt ∧ x_2.toInt ≤ 6 := by rw [ex_2]; exact hv 1 _ 6 (show bS 2 = some 6 from by decide)
      obtain rfl : cn = x_2 := (ex_2.trans ecn.symm).symm
      refine lv_icmp_ge (tgt := 42) hx hb dX8_casesThat_11 (by decide) (fun c_3 => ?_) (fun c_3 => ?_)
      · have tc_3 : y1_3.toInt ≥ cn.toInt := Int32.le_iff_toInt_le.mp c_3
        refine lv_iload_n hx hb dX8_casesThat_42 rfl (lv_at hl 1 rfl) ?_
        have zn_y1_3 : (y1_3.toNatClampNeg : Int) = y1_3.toInt := t_nn (by omega)
        exact W.iret (v := y1_2) hx hb hr (fun t ht hW => ⟨⟨y1_2, v, rfl, ⟨hv, rfl, by rw [← ecn, ← eFF, show cn.toNatClampNeg = y1_3.toNatClampNeg from by omega]; exact hi1_0⟩, by rw [ht]; exact hP, hD⟩, hS.F ht⟩) hS.2.2 dX8_casesThat_43
      · have tc_3 : y1_3.toInt < cn.toInt := Int32.lt_iff_toInt_lt.mp (Int32.not_le.mp c_3)
        refine lv_iload_n hx hb dX8_casesThat_14 rfl (lv_at hl 1 rfl) ?_
        refine lv_aload_n hx hb dX8_casesThat_15 rfl (lv_at hl 2 rfl) ?_
        refine va_get (D := (dC, dI)) (ci := 8) (v := .ref (ad 1)) (C := RX8) (T := TX8) (N := 11) hx hb hts iwX8_casesThat_X8 hown hK hP (0) (wm_at (by decide) rc_0) rfl 0 (by decide) (hts (.fieldLink RX8 7 "QuietStairsModel" "s" "[I") fwX8_casesThat_1) (fun _ h9 => h9) rfl dX8_casesThat_16 ?_
        refine lv_iload_n hx hb dX8_casesThat_19 rfl (lv_at hl 0 rfl) ?_
        refine lv_iconst (v := 2) hx hb dX8_casesThat_20 (by decide) ?_
        refine yc_p hP hS (va_runS (As := [.int y1_3, .int 2]) (rest := [.ref (ad 1), .int y1_2]) ⟨hx, hb, hml, hown, hts⟩ (c_X8_at l y1_3 2) (cwS 2 hts gX8_casesThat_X8_at rfl rfl rfl hd_S_X8_at_2 ⟨Nat.le_of_ble_eq_true rfl, Nat.le_of_ble_eq_true rfl⟩) ex_preP rfl rfl hl.1 rfl (lv_room (Nat.le_of_ble_eq_true rfl)) dX8_casesThat_21 ⟨Nat.le_of_ble_eq_true rfl, Nat.le_of_ble_eq_true rfl⟩) (fun r_4 H locs hw_4 hP hS => ?_)
        have tr_4 : r_4.toInt = 32 + 7 * y1_3.toInt + (2 : Int32).toInt := t_at hw_4 ⟨by omega, by omega⟩ ⟨by omega, by omega⟩
        have zn_y1_3 : (y1_3.toNatClampNeg : Int) = y1_3.toInt := t_nn (by omega)
        have nr_4 : r_4.toNatClampNeg = 34 + 7 * y1_3.toNatClampNeg := by have z1 := t_nn (x := r_4) (by omega); omega
        refine va_iald hx hb hK hP (1) 0 (wm_at (by decide) rc_1) rfl (vp_in_iff.mpr ⟨by omega, by omega⟩) dX8_casesThat_24 ?_
        refine lv_topi (fun x_5 ex_5 => ?_)
        rw [nr_4] at ex_5
        have qx_5 : x_5.toInt = (v 1 (34 + 7 * y1_3.toNatClampNeg)).toInt := congrArg Int32.toInt ex_5
        refine lv_iload_n hx hb dX8_casesThat_25 rfl (lv_at hl 3 rfl) ?_
        refine lv_icmp_ne (tgt := 33) hx hb dX8_casesThat_26 (by decide) (fun c_6 => ?_) (fun c_6 => ?_)
        · have tc_6 : x_5.toInt ≠ x0.toInt := fun q => absurd (Int32.toInt_inj.mp q) c_6
          refine lv_iconst (v := 0) hx hb dX8_casesThat_33 (by decide) ?_
          refine lv_iadd hx hb dX8_casesThat_34 ?_
          refine lv_topi (fun x_7 ex_7 => ?_)
          have tx_7 : x_7.toInt = y1_2.toInt + (0 : Int32).toInt := by rw [ex_7]; exact t_add ⟨by omega, by omega⟩
          refine lv_istore_n (lv' := [(2, .int x_7), (3, .int y1_3), (0, .ref (ad 0)), (1, .int x0)]) hx hb dX8_casesThat_35 rfl hl (by decide) rfl (fun ls hl => ?_)
          obtain ⟨x_8, ex_8⟩ : ∃ y : Int32, y = y1_3 + 1 := ⟨_, rfl⟩
          refine lv_iinc (v := x_8) (lv' := [(3, .int x_8), (2, .int x_7), (0, .ref (ad 0)), (1, .int x0)]) hx hb dX8_casesThat_36 hl (k := 1) rfl (by rw [ex_8]; rfl) (by decide) rfl (fun ls hl => ?_)
          have k_1 : (1 : Int32).toInt = 1 := by decide
          have tx_8 : x_8.toInt = y1_3.toInt + (1 : Int32).toInt := by rw [ex_8]; exact t_add ⟨by omega, by omega⟩
          refine lv_goto (tgt := 4) hx hb dX8_casesThat_39 (by decide) ?_
          have zn_x_8 : (x_8.toNatClampNeg : Int) = x_8.toInt := t_nn (by omega)
          have hF9 : FF y1_3.toNatClampNeg = 0 := by rw [eFF]; show (if (v 1 (34 + 7 * y1_3.toNatClampNeg)).toInt = x0.toInt then (1 : Int) else 0) = 0; exact if_neg (by rw [← ex_5]; omega)
          exact ih_1 x_8 x_7 _ _ (by omega) (by omega) (by omega) (by omega) (by rw [show x_8.toNatClampNeg = y1_3.toNatClampNeg + 1 from by omega]; show _ = cN FF y1_3.toNatClampNeg + FF y1_3.toNatClampNeg; omega) (by omega) (by omega) (by omega) hP hD hS ls (lv_sub hl [0, 1, 2, 3] rfl)
        · have tc_6 : x_5.toInt = x0.toInt := by rw [c_6]
          refine lv_iconst (v := 1) hx hb dX8_casesThat_29 (by decide) ?_
          refine lv_goto (tgt := 34) hx hb dX8_casesThat_30 (by decide) ?_
          refine lv_iadd hx hb dX8_casesThat_34 ?_
          refine lv_topi (fun x_7 ex_7 => ?_)
          have k_1 : (1 : Int32).toInt = 1 := by decide
          have tx_7 : x_7.toInt = y1_2.toInt + (1 : Int32).toInt := by rw [ex_7]; exact t_add ⟨by omega, by omega⟩
          refine lv_istore_n (lv' := [(2, .int x_7), (3, .int y1_3), (0, .ref (ad 0)), (1, .int x0)]) hx hb dX8_casesThat_35 rfl hl (by decide) rfl (fun ls hl => ?_)
          obtain ⟨x_8, ex_8⟩ : ∃ y : Int32, y = y1_3 + 1 := ⟨_, rfl⟩
          refine lv_iinc (v := x_8) (lv' := [(3, .int x_8), (2, .int x_7), (0, .ref (ad 0)), (1, .int x0)]) hx hb dX8_casesThat_36 hl (k := 1) rfl (by rw [ex_8]; rfl) (by decide) rfl (fun ls hl => ?_)
          have tx_8 : x_8.toInt = y1_3.toInt + (1 : Int32).toInt := by rw [ex_8]; exact t_add ⟨by omega, by omega⟩
          refine lv_goto (tgt := 4) hx hb dX8_casesThat_39 (by decide) ?_
          have zn_x_8 : (x_8.toNatClampNeg : Int) = x_8.toInt := t_nn (by omega)
          have hF9 : FF y1_3.toNatClampNeg = 1 := by rw [eFF]; show (if (v 1 (34 + 7 * y1_3.toNatClampNeg)).toInt = x0.toInt then (1 : Int) else 0) = 1; exact if_pos (by rw [← ex_5]; omega)
          exact ih_1 x_8 x_7 _ _ (by omega) (by omega) (by omega) (by omega) (by rw [show x_8.toNatClampNeg = y1_3.toNatClampNeg + 1 from by omega]; show _ = cN FF y1_3.toNatClampNeg + FF y1_3.toNatClampNeg; omega) (by omega) (by omega) (by omega) hP hD hS ls (lv_sub hl [0, 1, 2, 3] rfl)
  exact hc_1 ((6 - (0 : Int32).toInt).toNat + 1) 0 0 _ _ (by omega) (by omega) (by omega) (by omega) (by rw [show (0 : Int32).toNatClampNeg = 0 from by decide]; exact k_0) (by omega) (by omega) (by omega) hP hD hS ls (lv_sub hl [0, 1, 2, 3] rfl)

set_option maxHeartbeats 4000000 in
set_option maxRecDepth 100000 in
theorem e_X8_quarrels (l : Launch) (dC : Nat → ClassId) (dI : Nat → Nat → Nat) (cy : Nat → ClassId) (sz : Nat) (ad : Nat → Nat) (v : Nat → Nat → Int32) (hv : Ir v) (hG : MG (v 1)) : Met l yX8_quarrels wsX8_quarrels ({ frames := 1, cells := 0, slots := 0, locals := 64 }) (va_Pc [.ref (ad 0)] (ex_Pre dC dI cy sz (wm ad cy v))) (va_Qi (fun (r : Int32) (u : Nat → Nat → Int32) => Ir u ∧ Fq v u ∧ HD (v 1) (u 3) ∧ r.toInt = cN (fun c => if (u 3 c).toInt = ((c : Nat) : Int) then 1 else 0) (v 1 2).toNatClampNeg) (fun u t => ex_Pst dC dI (va_A (wm ad cy v) sz) (wm ad cy u) t) (va_A (wm ad cy v) sz)) 0 0 (va_A (wm ad cy v) sz) := by
  refine Met.ofW (cc := cX8_quarrels) (maxL := 3) (ret := (some .int)) (by decide) rfl ?_
  intro p e s m args below meth c s₁ B hml hv
  obtain ⟨rfl, hsz, hE, hP, hK, hD0⟩ := hv
  have hx := B.exec
  have hb := B.bytes
  have hr := B.returns
  have hts := atoms_spec (ws := wsX8_quarrels) B.pre
  have hown : s.vm.findClass RX8 = some m.cls := findClass_of_methodNamed B.named
  have hlocks := B.notSynchronized
  subst hsz
  have hD := hD0.self (sz := s.heap.size)
  generalize hAe : va_A (wm ad cy v) s.heap.size = A at hD ⊢
  have hA : ∀ q : Nat, s.heap.size ≤ q → A q := fun q h => by rw [← hAe]; exact Or.inr h
  have hS : va_S A s.heap s.heap [] := va_S.rf
  have hP : va_P (dC, dI) vwCl (wm ad cy v) s.heap := hP
  have hl := lv_entry ([.ref (ad 0)]) (n := 3) (Nat.le_of_ble_eq_true rfl)
  rw [lg_entry_eq]
  generalize (lg_sl ([.ref (ad 0)]) ++ List.replicate (3 - (lg_sl ([.ref (ad 0)])).length) Slot.unset).toArray = ls at hl ⊢
  have hl : lv_has ls 3 [(0, .ref (ad 0))] := hl
  have k_0 : (0 : Int32).toInt = 0 := by decide
  refine lv_aload_n hx hb dX8_quarrels_0 rfl (lv_at hl 0 rfl) ?_
  refine yw_v (w1 := fun (u : Nat → Nat → Int32) => wm ad cy u) hD hS hA (va_runV (As := []) (rest := []) ⟨hx, hb, hml, hown, hts⟩ (e_X8_findHeads l dC dI cy _ ad v hv hG) (cwV 0 hts gX8_quarrels_X8_findHeads rfl rfl rfl hd_V_X8_findHeads_0 ⟨Nat.le_of_ble_eq_true rfl, Nat.le_of_ble_eq_true rfl⟩) (yw_preV hE hK hP hD (ci := 8) (q := (RX8, TX8, 11)) (q0 := 0) rfl (wm_at (by decide) rc_0)) rfl rfl hl.1 rfl (lv_room (Nat.le_of_ble_eq_true rfl)) dX8_quarrels_1 ⟨Nat.le_of_ble_eq_true rfl, Nat.le_of_ble_eq_true rfl⟩) (fun v_1 H locs hw_1 hP hD hS => ?_)
  obtain ⟨hv, hf_1, hw_1⟩ := hw_1
  obtain ⟨cn, ecn⟩ : ∃ z : Int32, z = v 1 2 := ⟨_, rfl⟩
  have hbcn : 0 ≤ cn.toInt ∧ cn.toInt ≤ 6 := by rw [ecn, ← hf_1.1]; exact hv 1 2 6 (by decide)
  have zn_cn : (cn.toNatClampNeg : Int) = cn.toInt := t_nn (by omega)
  obtain ⟨FF, eFF⟩ : ∃ f : Nat → Int, f = fun c => if (v_1 3 c).toInt = ((c : Nat) : Int) then 1 else 0 := ⟨_, rfl⟩
  refine lv_iconst (v := 0) hx hb dX8_quarrels_4 (by decide) ?_
  refine lv_istore_n (lv' := [(1, .int 0), (0, .ref (ad 0))]) hx hb dX8_quarrels_5 rfl hl (by decide) rfl (fun ls hl => ?_)
  refine lv_iconst (v := 0) hx hb dX8_quarrels_6 (by decide) ?_
  refine lv_istore_n (lv' := [(2, .int 0), (1, .int 0), (0, .ref (ad 0))]) hx hb dX8_quarrels_7 rfl hl (by decide) rfl (fun ls hl => ?_)
  have hc_2 : ∀ (n : Nat) (y2_2 y2_1 : Int32) (H : Heap) (locs : List Loc), 0 ≤ y2_2.toInt → y2_2.toInt ≤ 6 → 0 ≤ y2_1.toInt → y2_1.toInt ≤ 6 → (y2_1.toInt = cN FF y2_2.toNatClampNeg) → (y2_1.toInt ≤ y2_2.toInt) → (y2_2.toInt ≤ cn.toInt) → (6 - y2_2.toInt).toNat < n → va_P (dC, dI) vwCl (wm ad cy v_1) H → va_D A (wm ad cy v_1) → va_S A s.heap H locs → ∀ ls : Array Slot, lv_has ls 3 [(2, .int y2_2), (1, .int y2_1), (0, .ref (ad 0))] → W p l e (headSpec wsX8_quarrels ({ frames := 1, cells := 0, slots := 0, locals := 64 })).room s m [Value.ref (ad 0)].toArray below meth c H locs 0 0 (MQ below (va_Qi (fun (r : Int32) (u : Nat → Nat → Int32) => Ir u ∧ Fq v u ∧ HD (v 1) (u 3) ∧ r.toInt = cN (fun c => if (u 3 c).toInt = ((c : Nat) : Int) then 1 else 0) (v 1 2).toNatClampNeg) (fun u t => ex_Pst dC dI A (wm ad cy u) t) A) [Value.ref (ad 0)].toArray s 0 0 A) (F0 m 8 ls []) := by
    intro n
    induction n with
    | zero =>
      intro y2_2 y2_1 H locs ay2_2 by2_2 ay2_1 by2_1 hi2_0 hi2_1 hi2_2 hm_2 hP hD hS ls hl
      exact absurd hm_2 (by omega)
    | succ n ih_2 =>
      intro y2_2 y2_1 H locs ay2_2 by2_2 ay2_1 by2_1 hi2_0 hi2_1 hi2_2 hm_2 hP hD hS ls hl
      refine lv_iload_n hx hb dX8_quarrels_8 rfl (lv_at hl 0 rfl) ?_
      refine lv_aload_n hx hb dX8_quarrels_9 rfl (lv_at hl 2 rfl) ?_
      refine va_get (D := (dC, dI)) (ci := 8) (v := .ref (ad 1)) (C := RX8) (T := TX8) (N := 11) hx hb hts iwX8_quarrels_X8 hown hK hP (0) (wm_at (by decide) rc_0) rfl 0 (by decide) (hts (.fieldLink RX8 7 "QuietStairsModel" "s" "[I") fwX8_quarrels_1) (fun _ h9 => h9) rfl dX8_quarrels_10 ?_
      refine lv_iconst (v := 2) hx hb dX8_quarrels_13 (by decide) ?_
      have k_2 : (2 : Int32).toInt = 2 := by decide
      refine va_iald hx hb hK hP (1) 0 (wm_at (by decide) rc_1) rfl (by unfold vp_in; decide) dX8_quarrels_14 ?_
      refine lv_topi (fun x_3 ex_3 => ?_)
      have ex_3 : x_3 = v_1 1 2 := ex_3
      have bzx_3 : 0 ≤ x_3.toInt ∧ x_3.toInt ≤ 6 := by rw [ex_3]; exact hv 1 _ 6 (show bS 2 = some 6 from by decide)
      rw [hf_1.1] at ex_3
      obtain rfl : cn = x_3 := (ex_3.trans ecn.symm).symm
      refine lv_icmp_ge (tgt := 42) hx hb dX8_quarrels_15 (by decide) (fun c_4 => ?_) (fun c_4 => ?_)
      · have tc_4 : y2_2.toInt ≥ cn.toInt := Int32.le_iff_toInt_le.mp c_4
        refine lv_iload_n hx hb dX8_quarrels_42 rfl (lv_at hl 1 rfl) ?_
        have zn_y2_2 : (y2_2.toNatClampNeg : Int) = y2_2.toInt := t_nn (by omega)
        exact W.iret (v := y2_1) hx hb hr (fun t ht hW => ⟨⟨y2_1, v_1, rfl, ⟨hv, hf_1, hw_1, by rw [← ecn, ← eFF, show cn.toNatClampNeg = y2_2.toNatClampNeg from by omega]; exact hi2_0⟩, by rw [ht]; exact hP, hD⟩, hS.F ht⟩) hS.2.2 dX8_quarrels_43
      · have tc_4 : y2_2.toInt < cn.toInt := Int32.lt_iff_toInt_lt.mp (Int32.not_le.mp c_4)
        refine lv_iload_n hx hb dX8_quarrels_18 rfl (lv_at hl 1 rfl) ?_
        refine lv_aload_n hx hb dX8_quarrels_19 rfl (lv_at hl 2 rfl) ?_
        refine va_get (D := (dC, dI)) (ci := 8) (v := .ref (ad 3)) (C := RX8) (T := TX8) (N := 11) hx hb hts iwX8_quarrels_X8 hown hK hP (0) (wm_at (by decide) rc_0) rfl 4 (by decide) (hts (.fieldLink RX8 20 "QuietStairsModel" "headOf" "[I") fwX8_quarrels_2) (fun _ h9 => h9) rfl dX8_quarrels_20 ?_
        refine lv_iload_n hx hb dX8_quarrels_23 rfl (lv_at hl 0 rfl) ?_
        have zn_y2_2 : (y2_2.toNatClampNeg : Int) = y2_2.toInt := t_nn (by omega)
        refine va_iald hx hb hK hP (3) 0 (wm_at (by decide) rc_3) rfl (vp_in_iff.mpr ⟨by omega, by omega⟩) dX8_quarrels_24 ?_
        refine lv_topi (fun x_5 ex_5 => ?_)
        have bzx_5 : 0 ≤ x_5.toInt ∧ x_5.toInt ≤ 5 := by rw [ex_5]; exact hv 3 _ 5 rfl
        have qx_5 : x_5.toInt = (v_1 3 (y2_2.toNatClampNeg)).toInt := congrArg Int32.toInt ex_5
        refine lv_iload_n hx hb dX8_quarrels_25 rfl (lv_at hl 0 rfl) ?_
        refine lv_icmp_ne (tgt := 33) hx hb dX8_quarrels_26 (by decide) (fun c_6 => ?_) (fun c_6 => ?_)
        · have tc_6 : x_5.toInt ≠ y2_2.toInt := fun q => absurd (Int32.toInt_inj.mp q) c_6
          refine lv_iconst (v := 0) hx hb dX8_quarrels_33 (by decide) ?_
          refine lv_iadd hx hb dX8_quarrels_34 ?_
          refine lv_topi (fun x_7 ex_7 => ?_)
          have tx_7 : x_7.toInt = y2_1.toInt + (0 : Int32).toInt := by rw [ex_7]; exact t_add ⟨by omega, by omega⟩
          refine lv_istore_n (lv' := [(1, .int x_7), (2, .int y2_2), (0, .ref (ad 0))]) hx hb dX8_quarrels_35 rfl hl (by decide) rfl (fun ls hl => ?_)
          obtain ⟨x_8, ex_8⟩ : ∃ y : Int32, y = y2_2 + 1 := ⟨_, rfl⟩
          refine lv_iinc (v := x_8) (lv' := [(2, .int x_8), (1, .int x_7), (0, .ref (ad 0))]) hx hb dX8_quarrels_36 hl (k := 1) rfl (by rw [ex_8]; rfl) (by decide) rfl (fun ls hl => ?_)
          have k_1 : (1 : Int32).toInt = 1 := by decide
          have tx_8 : x_8.toInt = y2_2.toInt + (1 : Int32).toInt := by rw [ex_8]; exact t_add ⟨by omega, by omega⟩
          refine lv_goto (tgt := 8) hx hb dX8_quarrels_39 (by decide) ?_
          have zn_x_8 : (x_8.toNatClampNeg : Int) = x_8.toInt := t_nn (by omega)
          have hF9 : FF y2_2.toNatClampNeg = 0 := by rw [eFF]; show (if (v_1 3 y2_2.toNatClampNeg).toInt = ((y2_2.toNatClampNeg : Nat) : Int) then (1 : Int) else 0) = 0; exact if_neg (by rw [← ex_5]; omega)
          exact ih_2 x_8 x_7 _ _ (by omega) (by omega) (by omega) (by omega) (by rw [show x_8.toNatClampNeg = y2_2.toNatClampNeg + 1 from by omega]; show _ = cN FF y2_2.toNatClampNeg + FF y2_2.toNatClampNeg; omega) (by omega) (by omega) (by omega) hP hD hS ls (lv_sub hl [0, 1, 2] rfl)
        · have tc_6 : x_5.toInt = y2_2.toInt := by rw [c_6]
          refine lv_iconst (v := 1) hx hb dX8_quarrels_29 (by decide) ?_
          refine lv_goto (tgt := 34) hx hb dX8_quarrels_30 (by decide) ?_
          refine lv_iadd hx hb dX8_quarrels_34 ?_
          refine lv_topi (fun x_7 ex_7 => ?_)
          have k_1 : (1 : Int32).toInt = 1 := by decide
          have tx_7 : x_7.toInt = y2_1.toInt + (1 : Int32).toInt := by rw [ex_7]; exact t_add ⟨by omega, by omega⟩
          refine lv_istore_n (lv' := [(1, .int x_7), (2, .int y2_2), (0, .ref (ad 0))]) hx hb dX8_quarrels_35 rfl hl (by decide) rfl (fun ls hl => ?_)
          obtain ⟨x_8, ex_8⟩ : ∃ y : Int32, y = y2_2 + 1 := ⟨_, rfl⟩
          refine lv_iinc (v := x_8) (lv' := [(2, .int x_8), (1, .int x_7), (0, .ref (ad 0))]) hx hb dX8_quarrels_36 hl (k := 1) rfl (by rw [ex_8]; rfl) (by decide) rfl (fun ls hl => ?_)
          have tx_8 : x_8.toInt = y2_2.toInt + (1 : Int32).toInt := by rw [ex_8]; exact t_add ⟨by omega, by omega⟩
          refine lv_goto (tgt := 8) hx hb dX8_quarrels_39 (by decide) ?_
          have zn_x_8 : (x_8.toNatClampNeg : Int) = x_8.toInt := t_nn (by omega)
          have hF9 : FF y2_2.toNatClampNeg = 1 := by rw [eFF]; show (if (v_1 3 y2_2.toNatClampNeg).toInt = ((y2_2.toNatClampNeg : Nat) : Int) then (1 : Int) else 0) = 1; exact if_pos (by rw [← ex_5]; omega)
          exact ih_2 x_8 x_7 _ _ (by omega) (by omega) (by omega) (by omega) (by rw [show x_8.toNatClampNeg = y2_2.toNatClampNeg + 1 from by omega]; show _ = cN FF y2_2.toNatClampNeg + FF y2_2.toNatClampNeg; omega) (by omega) (by omega) (by omega) hP hD hS ls (lv_sub hl [0, 1, 2] rfl)
  exact hc_2 ((6 - (0 : Int32).toInt).toNat + 1) 0 0 _ _ (by omega) (by omega) (by omega) (by omega) (by rw [show (0 : Int32).toNatClampNeg = 0 from by decide]; exact k_0) (by omega) (by omega) (by omega) hP hD hS ls (lv_sub hl [0, 1, 2] rfl)

set_option maxHeartbeats 4000000 in
set_option maxRecDepth 100000 in
theorem e_X8_termsThat (l : Launch) (dC : Nat → ClassId) (dI : Nat → Nat → Nat) (cy : Nat → ClassId) (sz : Nat) (ad : Nat → Nat) (v : Nat → Nat → Int32) (hv : Ir v) (x0 : Int32) : Met l yX8_termsThat wsX8_termsThat ({ frames := 2, cells := 0, slots := 0, locals := 128 }) (va_Pc [.ref (ad 0), .int x0] (ex_Pre dC dI cy sz (wm ad cy v))) (va_Qi (fun (r : Int32) (u : Nat → Nat → Int32) => Ir u ∧ u = v ∧ r.toInt = cN (fun c => cN (fun t => if x0.toInt < 0 ∨ (jF (v 1 (159 + 25 * c + 5 * t)) (fun h => v 1 (308 + 48 * c + 24 * (v 1 (158 + 25 * c + 5 * t)).toNatClampNeg + h)) (v 1 (161 + 25 * c + 5 * t)) (v 1 (162 + 25 * c + 5 * t)) (v 1 (160 + 25 * c + 5 * t))).toInt = x0.toInt then 1 else 0) (v 1 (38 + 7 * c)).toNatClampNeg) (v 1 2).toNatClampNeg) (fun u t => ex_Pst dC dI (va_A (wm ad cy v) sz) (wm ad cy u) t) (va_A (wm ad cy v) sz)) 0 0 (va_A (wm ad cy v) sz) := by
  refine Met.ofW (cc := cX8_termsThat) (maxL := 5) (ret := (some .int)) (by decide) rfl ?_
  intro p e s m args below meth c s₁ B hml hv
  obtain ⟨rfl, hsz, hE, hP, hK, hD0⟩ := hv
  have hx := B.exec
  have hb := B.bytes
  have hr := B.returns
  have hts := atoms_spec (ws := wsX8_termsThat) B.pre
  have hown : s.vm.findClass RX8 = some m.cls := findClass_of_methodNamed B.named
  have hlocks := B.notSynchronized
  subst hsz
  have hD := hD0.self (sz := s.heap.size)
  generalize hAe : va_A (wm ad cy v) s.heap.size = A at hD ⊢
  have hA : ∀ q : Nat, s.heap.size ≤ q → A q := fun q h => by rw [← hAe]; exact Or.inr h
  have hS : va_S A s.heap s.heap [] := va_S.rf
  have hP : va_P (dC, dI) vwCl (wm ad cy v) s.heap := hP
  have hl := lv_entry ([.ref (ad 0), .int x0]) (n := 5) (Nat.le_of_ble_eq_true rfl)
  rw [lg_entry_eq]
  generalize (lg_sl ([.ref (ad 0), .int x0]) ++ List.replicate (5 - (lg_sl ([.ref (ad 0), .int x0])).length) Slot.unset).toArray = ls at hl ⊢
  have hl : lv_has ls 5 [(0, .ref (ad 0)), (1, .int x0)] := hl
  obtain ⟨GI, eGI⟩ : ∃ f : Nat → Nat → Int, f = fun c t => if x0.toInt < 0 ∨ (jF (v 1 (159 + 25 * c + 5 * t)) (fun h => v 1 (308 + 48 * c + 24 * (v 1 (158 + 25 * c + 5 * t)).toNatClampNeg + h)) (v 1 (161 + 25 * c + 5 * t)) (v 1 (162 + 25 * c + 5 * t)) (v 1 (160 + 25 * c + 5 * t))).toInt = x0.toInt then 1 else 0 := ⟨_, rfl⟩
  obtain ⟨OO, eOO⟩ : ∃ f : Nat → Int, f = fun c => cN (GI c) (v 1 (38 + 7 * c)).toNatClampNeg := ⟨_, rfl⟩
  obtain ⟨cn, ecn⟩ : ∃ z : Int32, z = v 1 2 := ⟨_, rfl⟩
  have hbcn : 0 ≤ cn.toInt ∧ cn.toInt ≤ 6 := by rw [ecn]; exact hv 1 2 6 (by decide)
  have zn_cn : (cn.toNatClampNeg : Int) = cn.toInt := t_nn (by omega)
  have k_0 : (0 : Int32).toInt = 0 := by decide
  refine lv_iconst (v := 0) hx hb dX8_termsThat_0 (by decide) ?_
  refine lv_istore_n (lv' := [(2, .int 0), (0, .ref (ad 0)), (1, .int x0)]) hx hb dX8_termsThat_1 rfl hl (by decide) rfl (fun ls hl => ?_)
  refine lv_iconst (v := 0) hx hb dX8_termsThat_2 (by decide) ?_
  refine lv_istore_n (lv' := [(3, .int 0), (2, .int 0), (0, .ref (ad 0)), (1, .int x0)]) hx hb dX8_termsThat_3 rfl hl (by decide) rfl (fun ls hl => ?_)
  have hc_1 : ∀ (n : Nat) (y1_3 y1_2 : Int32) (H : Heap) (locs : List Loc), 0 ≤ y1_3.toInt → y1_3.toInt ≤ 6 → 0 ≤ y1_2.toInt → y1_2.toInt ≤ 30 → (y1_2.toInt = cN OO y1_3.toNatClampNeg) → (y1_2.toInt ≤ 5 * y1_3.toInt) → (y1_3.toInt ≤ cn.toInt) → (6 - y1_3.toInt).toNat < n → va_P (dC, dI) vwCl (wm ad cy v) H → va_D A (wm ad cy v) → va_S A s.heap H locs → ∀ ls : Array Slot, lv_has ls 5 [(3, .int y1_3), (2, .int y1_2), (0, .ref (ad 0)), (1, .int x0)] → W p l e (headSpec wsX8_termsThat ({ frames := 2, cells := 0, slots := 0, locals := 128 })).room s m [Value.ref (ad 0), Value.int x0].toArray below meth c H locs 0 0 (MQ below (va_Qi (fun (r : Int32) (u : Nat → Nat → Int32) => Ir u ∧ u = v ∧ r.toInt = cN (fun c => cN (fun t => if x0.toInt < 0 ∨ (jF (v 1 (159 + 25 * c + 5 * t)) (fun h => v 1 (308 + 48 * c + 24 * (v 1 (158 + 25 * c + 5 * t)).toNatClampNeg + h)) (v 1 (161 + 25 * c + 5 * t)) (v 1 (162 + 25 * c + 5 * t)) (v 1 (160 + 25 * c + 5 * t))).toInt = x0.toInt then 1 else 0) (v 1 (38 + 7 * c)).toNatClampNeg) (v 1 2).toNatClampNeg) (fun u t => ex_Pst dC dI A (wm ad cy u) t) A) [Value.ref (ad 0), Value.int x0].toArray s 0 0 A) (F0 m 4 ls []) := by
    intro n
    induction n with
    | zero =>
      intro y1_3 y1_2 H locs ay1_3 by1_3 ay1_2 by1_2 hi1_0 hi1_1 hi1_2 hm_1 hP hD hS ls hl
      exact absurd hm_1 (by omega)
    | succ n ih_1 =>
      intro y1_3 y1_2 H locs ay1_3 by1_3 ay1_2 by1_2 hi1_0 hi1_1 hi1_2 hm_1 hP hD hS ls hl
      refine lv_iload_n hx hb dX8_termsThat_4 rfl (lv_at hl 0 rfl) ?_
      refine lv_aload_n hx hb dX8_termsThat_5 rfl (lv_at hl 2 rfl) ?_
      refine va_get (D := (dC, dI)) (ci := 8) (v := .ref (ad 1)) (C := RX8) (T := TX8) (N := 11) hx hb hts iwX8_termsThat_X8 hown hK hP (0) (wm_at (by decide) rc_0) rfl 0 (by decide) (hts (.fieldLink RX8 7 "QuietStairsModel" "s" "[I") fwX8_termsThat_1) (fun _ h9 => h9) rfl dX8_termsThat_6 ?_
      refine lv_iconst (v := 2) hx hb dX8_termsThat_9 (by decide) ?_
      have k_2 : (2 : Int32).toInt = 2 := by decide
      refine va_iald hx hb hK hP (1) 0 (wm_at (by decide) rc_1) rfl (by unfold vp_in; decide) dX8_termsThat_10 ?_
      refine lv_topi (fun x_2 ex_2 => ?_)
      have ex_2 : x_2 = v 1 2 := ex_2
      have bzx_2 : 0 ≤ x_2.toInt ∧ x_2.toInt ≤ 6 := by rw [ex_2]; exact hv 1 _ 6 (show bS 2 = some 6 from by decide)
      obtain rfl : cn = x_2 := (ex_2.trans ecn.symm).symm
      refine lv_icmp_ge (tgt := 68) hx hb dX8_termsThat_11 (by decide) (fun c_3 => ?_) (fun c_3 => ?_)
      · have tc_3 : y1_3.toInt ≥ cn.toInt := Int32.le_iff_toInt_le.mp c_3
        refine lv_iload_n hx hb dX8_termsThat_68 rfl (lv_at hl 1 rfl) ?_
        have zn_y1_3 : (y1_3.toNatClampNeg : Int) = y1_3.toInt := t_nn (by omega)
        have hOO : OO = fun c => cN (fun t => if x0.toInt < 0 ∨ (jF (v 1 (159 + 25 * c + 5 * t)) (fun h => v 1 (308 + 48 * c + 24 * (v 1 (158 + 25 * c + 5 * t)).toNatClampNeg + h)) (v 1 (161 + 25 * c + 5 * t)) (v 1 (162 + 25 * c + 5 * t)) (v 1 (160 + 25 * c + 5 * t))).toInt = x0.toInt then 1 else 0) (v 1 (38 + 7 * c)).toNatClampNeg := by rw [eOO, eGI]
        exact W.iret (v := y1_2) hx hb hr (fun t ht hW => ⟨⟨y1_2, v, rfl, ⟨hv, rfl, by rw [← ecn, ← hOO, show cn.toNatClampNeg = y1_3.toNatClampNeg from by omega]; exact hi1_0⟩, by rw [ht]; exact hP, hD⟩, hS.F ht⟩) hS.2.2 dX8_termsThat_69
      · have tc_3 : y1_3.toInt < cn.toInt := Int32.lt_iff_toInt_lt.mp (Int32.not_le.mp c_3)
        refine lv_iconst (v := 0) hx hb dX8_termsThat_14 (by decide) ?_
        refine lv_istore (lv' := [(4, .int 0), (3, .int y1_3), (2, .int y1_2), (0, .ref (ad 0)), (1, .int x0)]) hx hb dX8_termsThat_15 hl (by decide) rfl (fun ls hl => ?_)
        have hc_4 : ∀ (n : Nat) (y4_4 y4_2 : Int32) (H : Heap) (locs : List Loc), 0 ≤ y4_4.toInt → y4_4.toInt ≤ 5 → 0 ≤ y4_2.toInt → y4_2.toInt ≤ 30 → (y4_2.toInt = y1_2.toInt + cN (GI y1_3.toNatClampNeg) y4_4.toNatClampNeg) → (y4_2.toInt ≤ y1_2.toInt + y4_4.toInt) → (y4_4.toInt ≤ 0 ∨ y4_4.toInt ≤ (v 1 (38 + 7 * y1_3.toNatClampNeg)).toInt) → (5 - y4_4.toInt).toNat < n → va_P (dC, dI) vwCl (wm ad cy v) H → va_D A (wm ad cy v) → va_S A s.heap H locs → ∀ ls : Array Slot, lv_has ls 5 [(4, .int y4_4), (3, .int y1_3), (2, .int y4_2), (0, .ref (ad 0)), (1, .int x0)] → W p l e (headSpec wsX8_termsThat ({ frames := 2, cells := 0, slots := 0, locals := 128 })).room s m [Value.ref (ad 0), Value.int x0].toArray below meth c H locs 0 0 (MQ below (va_Qi (fun (r : Int32) (u : Nat → Nat → Int32) => Ir u ∧ u = v ∧ r.toInt = cN (fun c => cN (fun t => if x0.toInt < 0 ∨ (jF (v 1 (159 + 25 * c + 5 * t)) (fun h => v 1 (308 + 48 * c + 24 * (v 1 (158 + 25 * c + 5 * t)).toNatClampNeg + h)) (v 1 (161 + 25 * c + 5 * t)) (v 1 (162 + 25 * c + 5 * t)) (v 1 (160 + 25 * c + 5 * t))).toInt = x0.toInt then 1 else 0) (v 1 (38 + 7 * c)).toNatClampNeg) (v 1 2).toNatClampNeg) (fun u t => ex_Pst dC dI A (wm ad cy u) t) A) [Value.ref (ad 0), Value.int x0].toArray s 0 0 A) (F0 m 17 ls []) := by
          intro n
          induction n with
          | zero =>
            intro y4_4 y4_2 H locs ay4_4 by4_4 ay4_2 by4_2 hi4_0 hi4_1 hi4_2 hm_4 hP hD hS ls hl
            exact absurd hm_4 (by omega)
          | succ n ih_4 =>
            intro y4_4 y4_2 H locs ay4_4 by4_4 ay4_2 by4_2 hi4_0 hi4_1 hi4_2 hm_4 hP hD hS ls hl
            refine lv_iload hx hb dX8_termsThat_17 (lv_at hl 0 rfl) ?_
            refine lv_aload_n hx hb dX8_termsThat_19 rfl (lv_at hl 3 rfl) ?_
            refine va_get (D := (dC, dI)) (ci := 8) (v := .ref (ad 1)) (C := RX8) (T := TX8) (N := 11) hx hb hts iwX8_termsThat_X8 hown hK hP (0) (wm_at (by decide) rc_0) rfl 0 (by decide) (hts (.fieldLink RX8 7 "QuietStairsModel" "s" "[I") fwX8_termsThat_1) (fun _ h9 => h9) rfl dX8_termsThat_20 ?_
            refine lv_iload_n hx hb dX8_termsThat_23 rfl (lv_at hl 1 rfl) ?_
            refine lv_bipush (v := 6) hx hb dX8_termsThat_24 (by decide) ?_
            refine yc_p hP hS (va_runS (As := [.int y1_3, .int 6]) (rest := [.ref (ad 1), .int y4_4]) ⟨hx, hb, hml, hown, hts⟩ (c_X8_at l y1_3 6) (cwS 2 hts gX8_termsThat_X8_at rfl rfl rfl hd_S_X8_at_2 ⟨Nat.le_of_ble_eq_true rfl, Nat.le_of_ble_eq_true rfl⟩) ex_preP rfl rfl hl.1 rfl (lv_room (Nat.le_of_ble_eq_true rfl)) dX8_termsThat_26 ⟨Nat.le_of_ble_eq_true rfl, Nat.le_of_ble_eq_true rfl⟩) (fun r_5 H locs hw_5 hP hS => ?_)
            have k_6 : (6 : Int32).toInt = 6 := by decide
            have tr_5 : r_5.toInt = 32 + 7 * y1_3.toInt + (6 : Int32).toInt := t_at hw_5 ⟨by omega, by omega⟩ ⟨by omega, by omega⟩
            have zn_y1_3 : (y1_3.toNatClampNeg : Int) = y1_3.toInt := t_nn (by omega)
            have nr_5 : r_5.toNatClampNeg = 38 + 7 * y1_3.toNatClampNeg := by have z1 := t_nn (x := r_5) (by omega); omega
            refine va_iald hx hb hK hP (1) 0 (wm_at (by decide) rc_1) rfl (vp_in_iff.mpr ⟨by omega, by omega⟩) dX8_termsThat_29 ?_
            refine lv_topi (fun x_6 ex_6 => ?_)
            have bzx_6 : 0 ≤ x_6.toInt ∧ x_6.toInt ≤ 5 := by rw [ex_6]; exact hv 1 _ 5 (bx_4 (i := y1_3.toInt) (s := 6) (by omega) ⟨by omega, by omega⟩ (by omega))
            rw [nr_5] at ex_6
            have qx_6 : x_6.toInt = (v 1 (38 + 7 * y1_3.toNatClampNeg)).toInt := congrArg Int32.toInt ex_6
            refine lv_icmp_ge (tgt := 62) hx hb dX8_termsThat_30 (by decide) (fun c_7 => ?_) (fun c_7 => ?_)
            · have tc_7 : y4_4.toInt ≥ x_6.toInt := Int32.le_iff_toInt_le.mp c_7
              obtain ⟨x_8, ex_8⟩ : ∃ y : Int32, y = y1_3 + 1 := ⟨_, rfl⟩
              refine lv_iinc (v := x_8) (lv' := [(3, .int x_8), (4, .int y4_4), (2, .int y4_2), (0, .ref (ad 0)), (1, .int x0)]) hx hb dX8_termsThat_62 hl (k := 1) rfl (by rw [ex_8]; rfl) (by decide) rfl (fun ls hl => ?_)
              have k_1 : (1 : Int32).toInt = 1 := by decide
              have tx_8 : x_8.toInt = y1_3.toInt + (1 : Int32).toInt := by rw [ex_8]; exact t_add ⟨by omega, by omega⟩
              refine lv_goto (tgt := 4) hx hb dX8_termsThat_65 (by decide) ?_
              have zn_x_8 : (x_8.toNatClampNeg : Int) = x_8.toInt := t_nn (by omega)
              have zn_y4_4 : (y4_4.toNatClampNeg : Int) = y4_4.toInt := t_nn (by omega)
              have zn_x_6 : (x_6.toNatClampNeg : Int) = x_6.toInt := t_nn (by omega)
              have hO9 : OO y1_3.toNatClampNeg = cN (GI y1_3.toNatClampNeg) y4_4.toNatClampNeg := by rw [eOO]; show cN _ (Int32.toNatClampNeg _) = _; rw [← ex_6, show x_6.toNatClampNeg = y4_4.toNatClampNeg from by omega]
              exact ih_1 x_8 y4_2 _ _ (by omega) (by omega) (by omega) (by omega) (by rw [show x_8.toNatClampNeg = y1_3.toNatClampNeg + 1 from by omega]; show _ = cN OO y1_3.toNatClampNeg + OO y1_3.toNatClampNeg; omega) (by omega) (by omega) (by omega) hP hD hS ls (lv_sub hl [0, 2, 3, 4] rfl)
            · have tc_7 : y4_4.toInt < x_6.toInt := Int32.lt_iff_toInt_lt.mp (Int32.not_le.mp c_7)
              refine lv_iload_n hx hb dX8_termsThat_33 rfl (lv_at hl 2 rfl) ?_
              refine lv_iload_n hx hb dX8_termsThat_34 rfl (lv_at hl 4 rfl) ?_
              refine lv_if_lt (tgt := 49) hx hb dX8_termsThat_35 (by decide) (fun c_8 => ?_) (fun c_8 => ?_)
              · have tc_8 : x0.toInt < (0 : Int32).toInt := Int32.lt_iff_toInt_lt.mp c_8
                refine lv_iconst (v := 1) hx hb dX8_termsThat_49 (by decide) ?_
                refine lv_goto (tgt := 54) hx hb dX8_termsThat_50 (by decide) ?_
                refine lv_iadd hx hb dX8_termsThat_54 ?_
                refine lv_topi (fun x_9 ex_9 => ?_)
                have k_1 : (1 : Int32).toInt = 1 := by decide
                have tx_9 : x_9.toInt = y4_2.toInt + (1 : Int32).toInt := by rw [ex_9]; exact t_add ⟨by omega, by omega⟩
                refine lv_istore_n (lv' := [(2, .int x_9), (4, .int y4_4), (3, .int y1_3), (0, .ref (ad 0)), (1, .int x0)]) hx hb dX8_termsThat_55 rfl hl (by decide) rfl (fun ls hl => ?_)
                obtain ⟨x_10, ex_10⟩ : ∃ y : Int32, y = y4_4 + 1 := ⟨_, rfl⟩
                refine lv_iinc (v := x_10) (lv' := [(4, .int x_10), (2, .int x_9), (3, .int y1_3), (0, .ref (ad 0)), (1, .int x0)]) hx hb dX8_termsThat_56 hl (k := 1) rfl (by rw [ex_10]; rfl) (by decide) rfl (fun ls hl => ?_)
                have tx_10 : x_10.toInt = y4_4.toInt + (1 : Int32).toInt := by rw [ex_10]; exact t_add ⟨by omega, by omega⟩
                refine lv_goto (tgt := 17) hx hb dX8_termsThat_59 (by decide) ?_
                have zn_x_10 : (x_10.toNatClampNeg : Int) = x_10.toInt := t_nn (by omega)
                have zn_y4_4 : (y4_4.toNatClampNeg : Int) = y4_4.toInt := t_nn (by omega)
                have hF9 : GI y1_3.toNatClampNeg y4_4.toNatClampNeg = 1 := by rw [eGI]; show (if x0.toInt < 0 ∨ (jF (v 1 (159 + 25 * y1_3.toNatClampNeg + 5 * y4_4.toNatClampNeg)) (fun h => v 1 (308 + 48 * y1_3.toNatClampNeg + 24 * (v 1 (158 + 25 * y1_3.toNatClampNeg + 5 * y4_4.toNatClampNeg)).toNatClampNeg + h)) (v 1 (161 + 25 * y1_3.toNatClampNeg + 5 * y4_4.toNatClampNeg)) (v 1 (162 + 25 * y1_3.toNatClampNeg + 5 * y4_4.toNatClampNeg)) (v 1 (160 + 25 * y1_3.toNatClampNeg + 5 * y4_4.toNatClampNeg))).toInt = x0.toInt then (1 : Int) else 0) = 1; exact if_pos (Or.inl (by omega))
                exact ih_4 x_10 x_9 _ _ (by omega) (by omega) (by omega) (by omega) (by rw [show x_10.toNatClampNeg = y4_4.toNatClampNeg + 1 from by omega]; show _ = _ + (cN (GI y1_3.toNatClampNeg) y4_4.toNatClampNeg + GI y1_3.toNatClampNeg y4_4.toNatClampNeg); omega) (by omega) (by omega) (by omega) hP hD hS ls (lv_sub hl [0, 2, 1, 3, 4] rfl)
              · have tc_8 : x0.toInt ≥ (0 : Int32).toInt := Int32.le_iff_toInt_le.mp (Int32.not_lt.mp c_8)
                refine lv_aload_n hx hb dX8_termsThat_38 rfl (lv_at hl 3 rfl) ?_
                refine lv_iload_n hx hb dX8_termsThat_39 rfl (lv_at hl 1 rfl) ?_
                refine lv_iload hx hb dX8_termsThat_40 (lv_at hl 0 rfl) ?_
                refine yw_i (w1 := fun (u : Nat → Nat → Int32) => wm ad cy u) hD hS hA (va_runV (As := [.int y1_3, .int y4_4]) (rest := [.int y4_2]) ⟨hx, hb, hml, hown, hts⟩ (e_X8_judge l dC dI cy _ ad v hv y1_3 y4_4 ⟨by omega, by omega⟩ ⟨by omega, by omega⟩) (cwV 2 hts gX8_termsThat_X8_judge rfl rfl rfl hd_V_X8_judge_2 ⟨Nat.le_of_ble_eq_true rfl, Nat.le_of_ble_eq_true rfl⟩) (yw_preV hE hK hP hD (ci := 8) (q := (RX8, TX8, 11)) (q0 := 0) rfl (wm_at (by decide) rc_0)) rfl rfl hl.1 rfl (lv_room (Nat.le_of_ble_eq_true rfl)) dX8_termsThat_42 ⟨Nat.le_of_ble_eq_true rfl, Nat.le_of_ble_eq_true rfl⟩) (fun r_9 v_9 H locs hw_9 hP hD hS => ?_)
                obtain ⟨-, hu_9, hw_9⟩ := hw_9
                replace hu_9 := hu_9.symm
                subst hu_9
                refine lv_iload_n hx hb dX8_termsThat_45 rfl (lv_at hl 4 rfl) ?_
                refine lv_icmp_ne (tgt := 53) hx hb dX8_termsThat_46 (by decide) (fun c_10 => ?_) (fun c_10 => ?_)
                · have tc_10 : r_9.toInt ≠ x0.toInt := fun q => absurd (Int32.toInt_inj.mp q) c_10
                  refine lv_iconst (v := 0) hx hb dX8_termsThat_53 (by decide) ?_
                  refine lv_iadd hx hb dX8_termsThat_54 ?_
                  refine lv_topi (fun x_11 ex_11 => ?_)
                  have tx_11 : x_11.toInt = y4_2.toInt + (0 : Int32).toInt := by rw [ex_11]; exact t_add ⟨by omega, by omega⟩
                  refine lv_istore_n (lv' := [(2, .int x_11), (4, .int y4_4), (3, .int y1_3), (0, .ref (ad 0)), (1, .int x0)]) hx hb dX8_termsThat_55 rfl hl (by decide) rfl (fun ls hl => ?_)
                  obtain ⟨x_12, ex_12⟩ : ∃ y : Int32, y = y4_4 + 1 := ⟨_, rfl⟩
                  refine lv_iinc (v := x_12) (lv' := [(4, .int x_12), (2, .int x_11), (3, .int y1_3), (0, .ref (ad 0)), (1, .int x0)]) hx hb dX8_termsThat_56 hl (k := 1) rfl (by rw [ex_12]; rfl) (by decide) rfl (fun ls hl => ?_)
                  have k_1 : (1 : Int32).toInt = 1 := by decide
                  have tx_12 : x_12.toInt = y4_4.toInt + (1 : Int32).toInt := by rw [ex_12]; exact t_add ⟨by omega, by omega⟩
                  refine lv_goto (tgt := 17) hx hb dX8_termsThat_59 (by decide) ?_
                  have zn_x_12 : (x_12.toNatClampNeg : Int) = x_12.toInt := t_nn (by omega)
                  have zn_y4_4 : (y4_4.toNatClampNeg : Int) = y4_4.toInt := t_nn (by omega)
                  have hF9 : GI y1_3.toNatClampNeg y4_4.toNatClampNeg = 0 := by rw [eGI]; show (if x0.toInt < 0 ∨ (jF (v 1 (159 + 25 * y1_3.toNatClampNeg + 5 * y4_4.toNatClampNeg)) (fun h => v 1 (308 + 48 * y1_3.toNatClampNeg + 24 * (v 1 (158 + 25 * y1_3.toNatClampNeg + 5 * y4_4.toNatClampNeg)).toNatClampNeg + h)) (v 1 (161 + 25 * y1_3.toNatClampNeg + 5 * y4_4.toNatClampNeg)) (v 1 (162 + 25 * y1_3.toNatClampNeg + 5 * y4_4.toNatClampNeg)) (v 1 (160 + 25 * y1_3.toNatClampNeg + 5 * y4_4.toNatClampNeg))).toInt = x0.toInt then (1 : Int) else 0) = 0; exact if_neg (fun q => by rw [← hw_9] at q; omega)
                  exact ih_4 x_12 x_11 _ _ (by omega) (by omega) (by omega) (by omega) (by rw [show x_12.toNatClampNeg = y4_4.toNatClampNeg + 1 from by omega]; show _ = _ + (cN (GI y1_3.toNatClampNeg) y4_4.toNatClampNeg + GI y1_3.toNatClampNeg y4_4.toNatClampNeg); omega) (by omega) (by omega) (by omega) hP hD hS ls (lv_sub hl [0, 2, 1, 3, 4] rfl)
                · have tc_10 : r_9.toInt = x0.toInt := by rw [c_10]
                  refine lv_iconst (v := 1) hx hb dX8_termsThat_49 (by decide) ?_
                  refine lv_goto (tgt := 54) hx hb dX8_termsThat_50 (by decide) ?_
                  refine lv_iadd hx hb dX8_termsThat_54 ?_
                  refine lv_topi (fun x_11 ex_11 => ?_)
                  have k_1 : (1 : Int32).toInt = 1 := by decide
                  have tx_11 : x_11.toInt = y4_2.toInt + (1 : Int32).toInt := by rw [ex_11]; exact t_add ⟨by omega, by omega⟩
                  refine lv_istore_n (lv' := [(2, .int x_11), (4, .int y4_4), (3, .int y1_3), (0, .ref (ad 0)), (1, .int x0)]) hx hb dX8_termsThat_55 rfl hl (by decide) rfl (fun ls hl => ?_)
                  obtain ⟨x_12, ex_12⟩ : ∃ y : Int32, y = y4_4 + 1 := ⟨_, rfl⟩
                  refine lv_iinc (v := x_12) (lv' := [(4, .int x_12), (2, .int x_11), (3, .int y1_3), (0, .ref (ad 0)), (1, .int x0)]) hx hb dX8_termsThat_56 hl (k := 1) rfl (by rw [ex_12]; rfl) (by decide) rfl (fun ls hl => ?_)
                  have tx_12 : x_12.toInt = y4_4.toInt + (1 : Int32).toInt := by rw [ex_12]; exact t_add ⟨by omega, by omega⟩
                  refine lv_goto (tgt := 17) hx hb dX8_termsThat_59 (by decide) ?_
                  have zn_x_12 : (x_12.toNatClampNeg : Int) = x_12.toInt := t_nn (by omega)
                  have zn_y4_4 : (y4_4.toNatClampNeg : Int) = y4_4.toInt := t_nn (by omega)
                  have hF9 : GI y1_3.toNatClampNeg y4_4.toNatClampNeg = 1 := by rw [eGI]; show (if x0.toInt < 0 ∨ (jF (v 1 (159 + 25 * y1_3.toNatClampNeg + 5 * y4_4.toNatClampNeg)) (fun h => v 1 (308 + 48 * y1_3.toNatClampNeg + 24 * (v 1 (158 + 25 * y1_3.toNatClampNeg + 5 * y4_4.toNatClampNeg)).toNatClampNeg + h)) (v 1 (161 + 25 * y1_3.toNatClampNeg + 5 * y4_4.toNatClampNeg)) (v 1 (162 + 25 * y1_3.toNatClampNeg + 5 * y4_4.toNatClampNeg)) (v 1 (160 + 25 * y1_3.toNatClampNeg + 5 * y4_4.toNatClampNeg))).toInt = x0.toInt then (1 : Int) else 0) = 1; exact if_pos (Or.inr (by rw [← hw_9]; omega))
                  exact ih_4 x_12 x_11 _ _ (by omega) (by omega) (by omega) (by omega) (by rw [show x_12.toNatClampNeg = y4_4.toNatClampNeg + 1 from by omega]; show _ = _ + (cN (GI y1_3.toNatClampNeg) y4_4.toNatClampNeg + GI y1_3.toNatClampNeg y4_4.toNatClampNeg); omega) (by omega) (by omega) (by omega) hP hD hS ls (lv_sub hl [0, 2, 1, 3, 4] rfl)
        exact hc_4 ((5 - (0 : Int32).toInt).toNat + 1) 0 y1_2 _ _ (by omega) (by omega) (by omega) (by omega) (by rw [show (0 : Int32).toNatClampNeg = 0 from by decide]; show _ = _ + (0 : Int); omega) (by omega) (by omega) (by omega) hP hD hS ls (lv_sub hl [0, 1, 2, 3, 4] rfl)
  exact hc_1 ((6 - (0 : Int32).toInt).toNat + 1) 0 0 _ _ (by omega) (by omega) (by omega) (by omega) (by rw [show (0 : Int32).toNatClampNeg = 0 from by decide]; exact k_0) (by omega) (by omega) (by omega) hP hD hS ls (lv_sub hl [0, 1, 2, 3] rfl)

set_option maxHeartbeats 4000000 in
set_option maxRecDepth 100000 in
theorem e_X7_many (l : Launch) (dC : Nat → ClassId) (dI : Nat → Nat → Nat) (cy : Nat → ClassId) (sz : Nat) (ad : Nat → Nat) (kv : Value) (N : Nat) (hN : 119 ≤ N) (v : Nat → Nat → Int32) (hv : Iv v) (x0 : Int32) : Met l yX7_many wsX7_many ({ frames := 4, cells := 0, slots := 0, locals := 256 }) (va_Pc [.ref (ad 0), .int x0] (ex_Pre dC dI cy sz (wl ad kv cy N v))) (va_Qi (fun (r : Int32) (u : Nat → Nat → Int32) => Iv u ∧ (x0.toInt = 0 → (r = v 13 0) ∧ u = v) ∧ (x0.toInt = 1 → (r = v 13 1) ∧ u = v) ∧ (x0.toInt = 2 → (r = v 13 2) ∧ u = v) ∧ (x0.toInt = 3 → (r.toInt = cN (fun c => if (v (29 + 15 * c) 0).toInt = (0 : Int32).toInt then 1 else 0) (v 13 2).toNatClampNeg) ∧ u = v) ∧ (x0.toInt = 4 → (r.toInt = cN (fun c => if (v (29 + 15 * c) 0).toInt = (1 : Int32).toInt then 1 else 0) (v 13 2).toNatClampNeg) ∧ u = v) ∧ (x0.toInt = 5 → (r = v 13 3) ∧ u = v) ∧ (x0.toInt = 6 → (r.toInt = cN (fun c => if ((hF (qB (fun c => v (29 + 15 * c) 4) (v 13 2).toNatClampNeg (Int32.ofNat c)) c : Nat) : Int) = ((c : Nat) : Int) then 1 else 0) (v 13 2).toNatClampNeg) ∧ u = v) ∧ (x0.toInt = 7 → (r.toInt = cN (fun c => (v (29 + 15 * c) 5).toInt) (v 13 2).toNatClampNeg) ∧ u = v) ∧ (x0.toInt = 8 → (r.toInt = cN (fun c => cN (fun t => if (jF (v (39 + 15 * c + t) 1) (v (36 + 15 * c + (v (39 + 15 * c + t) 0).toNatClampNeg)) (v (39 + 15 * c + t) 3) (v (39 + 15 * c + t) 4) (v (39 + 15 * c + t) 2)).toInt = (1 : Int32).toInt then 1 else 0) (v (29 + 15 * c) 5).toNatClampNeg) (v 13 2).toNatClampNeg) ∧ u = v) ∧ (x0.toInt = 9 → (r.toInt = cN (fun c => cN (fun t => if (jF (v (39 + 15 * c + t) 1) (v (36 + 15 * c + (v (39 + 15 * c + t) 0).toNatClampNeg)) (v (39 + 15 * c + t) 3) (v (39 + 15 * c + t) 4) (v (39 + 15 * c + t) 2)).toInt = (0 : Int32).toInt then 1 else 0) (v (29 + 15 * c) 5).toNatClampNeg) (v 13 2).toNatClampNeg) ∧ u = v) ∧ (x0.toInt = 10 → (r.toInt = cN (fun c => cN (fun t => if (jF (v (39 + 15 * c + t) 1) (v (36 + 15 * c + (v (39 + 15 * c + t) 0).toNatClampNeg)) (v (39 + 15 * c + t) 3) (v (39 + 15 * c + t) 4) (v (39 + 15 * c + t) 2)).toInt = (2 : Int32).toInt then 1 else 0) (v (29 + 15 * c) 5).toNatClampNeg) (v 13 2).toNatClampNeg) ∧ u = v) ∧ ((x0.toInt < 0 ∨ 10 < x0.toInt) → (r = -1) ∧ u = v)) (fun u t => ex_Pst dC dI (va_A (wl ad kv cy N v) sz) (wl ad kv cy N u) t) (va_A (wl ad kv cy N v) sz)) 0 0 (va_A (wl ad kv cy N v) sz) := by
  refine Met.ofW (cc := cX7_many) (maxL := 2) (ret := (some .int)) (by decide) rfl ?_
  intro p e s m args below meth c s₁ B hml hv
  obtain ⟨rfl, hsz, hE, hP, hK, hD0⟩ := hv
  have hx := B.exec
  have hb := B.bytes
  have hr := B.returns
  have hts := atoms_spec (ws := wsX7_many) B.pre
  have hown : s.vm.findClass RX7 = some m.cls := findClass_of_methodNamed B.named
  have hlocks := B.notSynchronized
  subst hsz
  have hD := hD0.self (sz := s.heap.size)
  generalize hAe : va_A (wl ad kv cy N v) s.heap.size = A at hD ⊢
  have hA : ∀ q : Nat, s.heap.size ≤ q → A q := fun q h => by rw [← hAe]; exact Or.inr h
  have hS : va_S A s.heap s.heap [] := va_S.rf
  have hP : va_P (dC, dI) vwCl (wl ad kv cy N v) s.heap := hP
  have hl := lv_entry ([.ref (ad 0), .int x0]) (n := 2) (Nat.le_of_ble_eq_true rfl)
  rw [lg_entry_eq]
  generalize (lg_sl ([.ref (ad 0), .int x0]) ++ List.replicate (2 - (lg_sl ([.ref (ad 0), .int x0])).length) Slot.unset).toArray = ls at hl ⊢
  have hl : lv_has ls 2 [(0, .ref (ad 0)), (1, .int x0)] := hl
  refine lv_iload_n hx hb dX7_many_0 rfl (lv_at hl 1 rfl) ?_
  rcases sw_11 x0 with hsw | hsw | hsw | hsw | hsw | hsw | hsw | hsw | hsw | hsw | hsw | hsw
  · refine lv_tableOut (tgt := 153) hx hb dX7_many_1 hsw (by decide) ?_
    refine lv_iconst (v := (-1)) hx hb dX7_many_153 (by decide) ?_
    have hpost : (x0.toInt = 0 → (((-1) : Int32) = v 13 0) ∧ v = v) ∧ (x0.toInt = 1 → (((-1) : Int32) = v 13 1) ∧ v = v) ∧ (x0.toInt = 2 → (((-1) : Int32) = v 13 2) ∧ v = v) ∧ (x0.toInt = 3 → (((-1) : Int32).toInt = cN (fun c => if (v (29 + 15 * c) 0).toInt = (0 : Int32).toInt then 1 else 0) (v 13 2).toNatClampNeg) ∧ v = v) ∧ (x0.toInt = 4 → (((-1) : Int32).toInt = cN (fun c => if (v (29 + 15 * c) 0).toInt = (1 : Int32).toInt then 1 else 0) (v 13 2).toNatClampNeg) ∧ v = v) ∧ (x0.toInt = 5 → (((-1) : Int32) = v 13 3) ∧ v = v) ∧ (x0.toInt = 6 → (((-1) : Int32).toInt = cN (fun c => if ((hF (qB (fun c => v (29 + 15 * c) 4) (v 13 2).toNatClampNeg (Int32.ofNat c)) c : Nat) : Int) = ((c : Nat) : Int) then 1 else 0) (v 13 2).toNatClampNeg) ∧ v = v) ∧ (x0.toInt = 7 → (((-1) : Int32).toInt = cN (fun c => (v (29 + 15 * c) 5).toInt) (v 13 2).toNatClampNeg) ∧ v = v) ∧ (x0.toInt = 8 → (((-1) : Int32).toInt = cN (fun c => cN (fun t => if (jF (v (39 + 15 * c + t) 1) (v (36 + 15 * c + (v (39 + 15 * c + t) 0).toNatClampNeg)) (v (39 + 15 * c + t) 3) (v (39 + 15 * c + t) 4) (v (39 + 15 * c + t) 2)).toInt = (1 : Int32).toInt then 1 else 0) (v (29 + 15 * c) 5).toNatClampNeg) (v 13 2).toNatClampNeg) ∧ v = v) ∧ (x0.toInt = 9 → (((-1) : Int32).toInt = cN (fun c => cN (fun t => if (jF (v (39 + 15 * c + t) 1) (v (36 + 15 * c + (v (39 + 15 * c + t) 0).toNatClampNeg)) (v (39 + 15 * c + t) 3) (v (39 + 15 * c + t) 4) (v (39 + 15 * c + t) 2)).toInt = (0 : Int32).toInt then 1 else 0) (v (29 + 15 * c) 5).toNatClampNeg) (v 13 2).toNatClampNeg) ∧ v = v) ∧ (x0.toInt = 10 → (((-1) : Int32).toInt = cN (fun c => cN (fun t => if (jF (v (39 + 15 * c + t) 1) (v (36 + 15 * c + (v (39 + 15 * c + t) 0).toNatClampNeg)) (v (39 + 15 * c + t) 3) (v (39 + 15 * c + t) 4) (v (39 + 15 * c + t) 2)).toInt = (2 : Int32).toInt then 1 else 0) (v (29 + 15 * c) 5).toNatClampNeg) (v 13 2).toNatClampNeg) ∧ v = v) ∧ ((x0.toInt < 0 ∨ 10 < x0.toInt) → (((-1) : Int32) = -1) ∧ v = v) := by
      refine ⟨fun hq => ?_, fun hq => ?_, fun hq => ?_, fun hq => ?_, fun hq => ?_, fun hq => ?_, fun hq => ?_, fun hq => ?_, fun hq => ?_, fun hq => ?_, fun hq => ?_, fun hq => ?_⟩
      · exfalso; omega
      · exfalso; omega
      · exfalso; omega
      · exfalso; omega
      · exfalso; omega
      · exfalso; omega
      · exfalso; omega
      · exfalso; omega
      · exfalso; omega
      · exfalso; omega
      · exfalso; omega
      · exact ⟨rfl, rfl⟩
    exact W.iret (v := (-1)) hx hb hr (fun t ht hW => ⟨⟨(-1), v, rfl, ⟨hv, hpost⟩, by rw [ht]; exact hP, hD⟩, hS.F ht⟩) hS.2.2 dX7_many_154
  · refine lv_tableIn (off := 59) (tgt := 60) hx hb dX7_many_1 (by rw [hsw]; decide) (by rw [hsw]; decide) (by rw [hsw]; decide) (by decide) ?_
    have k_0 : (0 : Int32).toInt = 0 := by decide
    have tsw : x0.toInt = 0 := by rw [hsw]; decide
    refine lv_aload_n hx hb dX7_many_60 rfl (lv_at hl 0 rfl) ?_
    refine va_get (D := (dC, dI)) (ci := 7) (v := .ref (ad 13)) (C := RX7) (T := TX7) (N := 5) hx hb hts iwX7_many_X7 hown hK hP (0) (wl_at (by omega) (ce_0 (by decide))) rfl 0 (by decide) (hts (.fieldLink RX7 12 "QuietStairs" "now" "LQuietStairs$House;") fwX7_many_1) (fun _ h9 => h9) rfl dX7_many_61 ?_
    refine va_get (D := (dC, dI)) (ci := 1) (v := .int (v (13) 0)) (C := RX1) (T := TX1) (N := 7) hx hb hts iwX7_many_X1 hown hK hP (13) (wl_at (by omega) (ce_3 (by decide))) rfl 0 (by decide) (hts (.fieldLink RX7 41 "QuietStairs$House" "partyCount" "I") fwX7_many_2) (fun _ h9 => h9) rfl dX7_many_64 ?_
    refine lv_topi (fun x_1 ex_1 => ?_)
    have bzx_1 : 0 ≤ x_1.toInt ∧ x_1.toInt ≤ 8 := by rw [ex_1]; exact hv.at (K := 3) (by decide) rfl
    have qx_1 : x_1.toInt = (v (13) (0)).toInt := congrArg Int32.toInt ex_1
    have hpost : (x0.toInt = 0 → (x_1 = v 13 0) ∧ v = v) ∧ (x0.toInt = 1 → (x_1 = v 13 1) ∧ v = v) ∧ (x0.toInt = 2 → (x_1 = v 13 2) ∧ v = v) ∧ (x0.toInt = 3 → (x_1.toInt = cN (fun c => if (v (29 + 15 * c) 0).toInt = (0 : Int32).toInt then 1 else 0) (v 13 2).toNatClampNeg) ∧ v = v) ∧ (x0.toInt = 4 → (x_1.toInt = cN (fun c => if (v (29 + 15 * c) 0).toInt = (1 : Int32).toInt then 1 else 0) (v 13 2).toNatClampNeg) ∧ v = v) ∧ (x0.toInt = 5 → (x_1 = v 13 3) ∧ v = v) ∧ (x0.toInt = 6 → (x_1.toInt = cN (fun c => if ((hF (qB (fun c => v (29 + 15 * c) 4) (v 13 2).toNatClampNeg (Int32.ofNat c)) c : Nat) : Int) = ((c : Nat) : Int) then 1 else 0) (v 13 2).toNatClampNeg) ∧ v = v) ∧ (x0.toInt = 7 → (x_1.toInt = cN (fun c => (v (29 + 15 * c) 5).toInt) (v 13 2).toNatClampNeg) ∧ v = v) ∧ (x0.toInt = 8 → (x_1.toInt = cN (fun c => cN (fun t => if (jF (v (39 + 15 * c + t) 1) (v (36 + 15 * c + (v (39 + 15 * c + t) 0).toNatClampNeg)) (v (39 + 15 * c + t) 3) (v (39 + 15 * c + t) 4) (v (39 + 15 * c + t) 2)).toInt = (1 : Int32).toInt then 1 else 0) (v (29 + 15 * c) 5).toNatClampNeg) (v 13 2).toNatClampNeg) ∧ v = v) ∧ (x0.toInt = 9 → (x_1.toInt = cN (fun c => cN (fun t => if (jF (v (39 + 15 * c + t) 1) (v (36 + 15 * c + (v (39 + 15 * c + t) 0).toNatClampNeg)) (v (39 + 15 * c + t) 3) (v (39 + 15 * c + t) 4) (v (39 + 15 * c + t) 2)).toInt = (0 : Int32).toInt then 1 else 0) (v (29 + 15 * c) 5).toNatClampNeg) (v 13 2).toNatClampNeg) ∧ v = v) ∧ (x0.toInt = 10 → (x_1.toInt = cN (fun c => cN (fun t => if (jF (v (39 + 15 * c + t) 1) (v (36 + 15 * c + (v (39 + 15 * c + t) 0).toNatClampNeg)) (v (39 + 15 * c + t) 3) (v (39 + 15 * c + t) 4) (v (39 + 15 * c + t) 2)).toInt = (2 : Int32).toInt then 1 else 0) (v (29 + 15 * c) 5).toNatClampNeg) (v 13 2).toNatClampNeg) ∧ v = v) ∧ ((x0.toInt < 0 ∨ 10 < x0.toInt) → (x_1 = -1) ∧ v = v) := by
      refine ⟨fun hq => ?_, fun hq => ?_, fun hq => ?_, fun hq => ?_, fun hq => ?_, fun hq => ?_, fun hq => ?_, fun hq => ?_, fun hq => ?_, fun hq => ?_, fun hq => ?_, fun hq => ?_⟩
      · exact ⟨by rw [ex_1], rfl⟩
      · exfalso; omega
      · exfalso; omega
      · exfalso; omega
      · exfalso; omega
      · exfalso; omega
      · exfalso; omega
      · exfalso; omega
      · exfalso; omega
      · exfalso; omega
      · exfalso; omega
      · exfalso; omega
    exact W.iret (v := x_1) hx hb hr (fun t ht hW => ⟨⟨x_1, v, rfl, ⟨hv, hpost⟩, by rw [ht]; exact hP, hD⟩, hS.F ht⟩) hS.2.2 dX7_many_67
  · refine lv_tableIn (off := 67) (tgt := 68) hx hb dX7_many_1 (by rw [hsw]; decide) (by rw [hsw]; decide) (by rw [hsw]; decide) (by decide) ?_
    have k_1 : (1 : Int32).toInt = 1 := by decide
    have tsw : x0.toInt = 1 := by rw [hsw]; decide
    refine lv_aload_n hx hb dX7_many_68 rfl (lv_at hl 0 rfl) ?_
    refine va_get (D := (dC, dI)) (ci := 7) (v := .ref (ad 13)) (C := RX7) (T := TX7) (N := 5) hx hb hts iwX7_many_X7 hown hK hP (0) (wl_at (by omega) (ce_0 (by decide))) rfl 0 (by decide) (hts (.fieldLink RX7 12 "QuietStairs" "now" "LQuietStairs$House;") fwX7_many_1) (fun _ h9 => h9) rfl dX7_many_69 ?_
    refine va_get (D := (dC, dI)) (ci := 1) (v := .int (v (13) 1)) (C := RX1) (T := TX1) (N := 7) hx hb hts iwX7_many_X1 hown hK hP (13) (wl_at (by omega) (ce_3 (by decide))) rfl 1 (by decide) (hts (.fieldLink RX7 56 "QuietStairs$House" "mediatorCount" "I") fwX7_many_3) (fun _ h9 => h9) rfl dX7_many_72 ?_
    refine lv_topi (fun x_1 ex_1 => ?_)
    have bzx_1 : 0 ≤ x_1.toInt ∧ x_1.toInt ≤ 4 := by rw [ex_1]; exact hv.at (K := 3) (by decide) rfl
    have qx_1 : x_1.toInt = (v (13) (1)).toInt := congrArg Int32.toInt ex_1
    have hpost : (x0.toInt = 0 → (x_1 = v 13 0) ∧ v = v) ∧ (x0.toInt = 1 → (x_1 = v 13 1) ∧ v = v) ∧ (x0.toInt = 2 → (x_1 = v 13 2) ∧ v = v) ∧ (x0.toInt = 3 → (x_1.toInt = cN (fun c => if (v (29 + 15 * c) 0).toInt = (0 : Int32).toInt then 1 else 0) (v 13 2).toNatClampNeg) ∧ v = v) ∧ (x0.toInt = 4 → (x_1.toInt = cN (fun c => if (v (29 + 15 * c) 0).toInt = (1 : Int32).toInt then 1 else 0) (v 13 2).toNatClampNeg) ∧ v = v) ∧ (x0.toInt = 5 → (x_1 = v 13 3) ∧ v = v) ∧ (x0.toInt = 6 → (x_1.toInt = cN (fun c => if ((hF (qB (fun c => v (29 + 15 * c) 4) (v 13 2).toNatClampNeg (Int32.ofNat c)) c : Nat) : Int) = ((c : Nat) : Int) then 1 else 0) (v 13 2).toNatClampNeg) ∧ v = v) ∧ (x0.toInt = 7 → (x_1.toInt = cN (fun c => (v (29 + 15 * c) 5).toInt) (v 13 2).toNatClampNeg) ∧ v = v) ∧ (x0.toInt = 8 → (x_1.toInt = cN (fun c => cN (fun t => if (jF (v (39 + 15 * c + t) 1) (v (36 + 15 * c + (v (39 + 15 * c + t) 0).toNatClampNeg)) (v (39 + 15 * c + t) 3) (v (39 + 15 * c + t) 4) (v (39 + 15 * c + t) 2)).toInt = (1 : Int32).toInt then 1 else 0) (v (29 + 15 * c) 5).toNatClampNeg) (v 13 2).toNatClampNeg) ∧ v = v) ∧ (x0.toInt = 9 → (x_1.toInt = cN (fun c => cN (fun t => if (jF (v (39 + 15 * c + t) 1) (v (36 + 15 * c + (v (39 + 15 * c + t) 0).toNatClampNeg)) (v (39 + 15 * c + t) 3) (v (39 + 15 * c + t) 4) (v (39 + 15 * c + t) 2)).toInt = (0 : Int32).toInt then 1 else 0) (v (29 + 15 * c) 5).toNatClampNeg) (v 13 2).toNatClampNeg) ∧ v = v) ∧ (x0.toInt = 10 → (x_1.toInt = cN (fun c => cN (fun t => if (jF (v (39 + 15 * c + t) 1) (v (36 + 15 * c + (v (39 + 15 * c + t) 0).toNatClampNeg)) (v (39 + 15 * c + t) 3) (v (39 + 15 * c + t) 4) (v (39 + 15 * c + t) 2)).toInt = (2 : Int32).toInt then 1 else 0) (v (29 + 15 * c) 5).toNatClampNeg) (v 13 2).toNatClampNeg) ∧ v = v) ∧ ((x0.toInt < 0 ∨ 10 < x0.toInt) → (x_1 = -1) ∧ v = v) := by
      refine ⟨fun hq => ?_, fun hq => ?_, fun hq => ?_, fun hq => ?_, fun hq => ?_, fun hq => ?_, fun hq => ?_, fun hq => ?_, fun hq => ?_, fun hq => ?_, fun hq => ?_, fun hq => ?_⟩
      · exfalso; omega
      · exact ⟨by rw [ex_1], rfl⟩
      · exfalso; omega
      · exfalso; omega
      · exfalso; omega
      · exfalso; omega
      · exfalso; omega
      · exfalso; omega
      · exfalso; omega
      · exfalso; omega
      · exfalso; omega
      · exfalso; omega
    exact W.iret (v := x_1) hx hb hr (fun t ht hW => ⟨⟨x_1, v, rfl, ⟨hv, hpost⟩, by rw [ht]; exact hP, hD⟩, hS.F ht⟩) hS.2.2 dX7_many_75
  · refine lv_tableIn (off := 75) (tgt := 76) hx hb dX7_many_1 (by rw [hsw]; decide) (by rw [hsw]; decide) (by rw [hsw]; decide) (by decide) ?_
    have k_2 : (2 : Int32).toInt = 2 := by decide
    have tsw : x0.toInt = 2 := by rw [hsw]; decide
    refine lv_aload_n hx hb dX7_many_76 rfl (lv_at hl 0 rfl) ?_
    refine va_get (D := (dC, dI)) (ci := 7) (v := .ref (ad 13)) (C := RX7) (T := TX7) (N := 5) hx hb hts iwX7_many_X7 hown hK hP (0) (wl_at (by omega) (ce_0 (by decide))) rfl 0 (by decide) (hts (.fieldLink RX7 12 "QuietStairs" "now" "LQuietStairs$House;") fwX7_many_1) (fun _ h9 => h9) rfl dX7_many_77 ?_
    refine va_get (D := (dC, dI)) (ci := 1) (v := .int (v (13) 2)) (C := RX1) (T := TX1) (N := 7) hx hb hts iwX7_many_X1 hown hK hP (13) (wl_at (by omega) (ce_3 (by decide))) rfl 2 (by decide) (hts (.fieldLink RX7 83 "QuietStairs$House" "caseCount" "I") fwX7_many_4) (fun _ h9 => h9) rfl dX7_many_80 ?_
    refine lv_topi (fun x_1 ex_1 => ?_)
    have bzx_1 : 0 ≤ x_1.toInt ∧ x_1.toInt ≤ 6 := by rw [ex_1]; exact hv.at (K := 3) (by decide) rfl
    have qx_1 : x_1.toInt = (v (13) (2)).toInt := congrArg Int32.toInt ex_1
    have hpost : (x0.toInt = 0 → (x_1 = v 13 0) ∧ v = v) ∧ (x0.toInt = 1 → (x_1 = v 13 1) ∧ v = v) ∧ (x0.toInt = 2 → (x_1 = v 13 2) ∧ v = v) ∧ (x0.toInt = 3 → (x_1.toInt = cN (fun c => if (v (29 + 15 * c) 0).toInt = (0 : Int32).toInt then 1 else 0) (v 13 2).toNatClampNeg) ∧ v = v) ∧ (x0.toInt = 4 → (x_1.toInt = cN (fun c => if (v (29 + 15 * c) 0).toInt = (1 : Int32).toInt then 1 else 0) (v 13 2).toNatClampNeg) ∧ v = v) ∧ (x0.toInt = 5 → (x_1 = v 13 3) ∧ v = v) ∧ (x0.toInt = 6 → (x_1.toInt = cN (fun c => if ((hF (qB (fun c => v (29 + 15 * c) 4) (v 13 2).toNatClampNeg (Int32.ofNat c)) c : Nat) : Int) = ((c : Nat) : Int) then 1 else 0) (v 13 2).toNatClampNeg) ∧ v = v) ∧ (x0.toInt = 7 → (x_1.toInt = cN (fun c => (v (29 + 15 * c) 5).toInt) (v 13 2).toNatClampNeg) ∧ v = v) ∧ (x0.toInt = 8 → (x_1.toInt = cN (fun c => cN (fun t => if (jF (v (39 + 15 * c + t) 1) (v (36 + 15 * c + (v (39 + 15 * c + t) 0).toNatClampNeg)) (v (39 + 15 * c + t) 3) (v (39 + 15 * c + t) 4) (v (39 + 15 * c + t) 2)).toInt = (1 : Int32).toInt then 1 else 0) (v (29 + 15 * c) 5).toNatClampNeg) (v 13 2).toNatClampNeg) ∧ v = v) ∧ (x0.toInt = 9 → (x_1.toInt = cN (fun c => cN (fun t => if (jF (v (39 + 15 * c + t) 1) (v (36 + 15 * c + (v (39 + 15 * c + t) 0).toNatClampNeg)) (v (39 + 15 * c + t) 3) (v (39 + 15 * c + t) 4) (v (39 + 15 * c + t) 2)).toInt = (0 : Int32).toInt then 1 else 0) (v (29 + 15 * c) 5).toNatClampNeg) (v 13 2).toNatClampNeg) ∧ v = v) ∧ (x0.toInt = 10 → (x_1.toInt = cN (fun c => cN (fun t => if (jF (v (39 + 15 * c + t) 1) (v (36 + 15 * c + (v (39 + 15 * c + t) 0).toNatClampNeg)) (v (39 + 15 * c + t) 3) (v (39 + 15 * c + t) 4) (v (39 + 15 * c + t) 2)).toInt = (2 : Int32).toInt then 1 else 0) (v (29 + 15 * c) 5).toNatClampNeg) (v 13 2).toNatClampNeg) ∧ v = v) ∧ ((x0.toInt < 0 ∨ 10 < x0.toInt) → (x_1 = -1) ∧ v = v) := by
      refine ⟨fun hq => ?_, fun hq => ?_, fun hq => ?_, fun hq => ?_, fun hq => ?_, fun hq => ?_, fun hq => ?_, fun hq => ?_, fun hq => ?_, fun hq => ?_, fun hq => ?_, fun hq => ?_⟩
      · exfalso; omega
      · exfalso; omega
      · exact ⟨by rw [ex_1], rfl⟩
      · exfalso; omega
      · exfalso; omega
      · exfalso; omega
      · exfalso; omega
      · exfalso; omega
      · exfalso; omega
      · exfalso; omega
      · exfalso; omega
      · exfalso; omega
    exact W.iret (v := x_1) hx hb hr (fun t ht hW => ⟨⟨x_1, v, rfl, ⟨hv, hpost⟩, by rw [ht]; exact hP, hD⟩, hS.F ht⟩) hS.2.2 dX7_many_83
  · refine lv_tableIn (off := 83) (tgt := 84) hx hb dX7_many_1 (by rw [hsw]; decide) (by rw [hsw]; decide) (by rw [hsw]; decide) (by decide) ?_
    have k_3 : (3 : Int32).toInt = 3 := by decide
    have tsw : x0.toInt = 3 := by rw [hsw]; decide
    refine lv_aload_n hx hb dX7_many_84 rfl (lv_at hl 0 rfl) ?_
    refine va_get (D := (dC, dI)) (ci := 7) (v := .ref (ad 13)) (C := RX7) (T := TX7) (N := 5) hx hb hts iwX7_many_X7 hown hK hP (0) (wl_at (by omega) (ce_0 (by decide))) rfl 0 (by decide) (hts (.fieldLink RX7 12 "QuietStairs" "now" "LQuietStairs$House;") fwX7_many_1) (fun _ h9 => h9) rfl dX7_many_85 ?_
    refine lv_iconst (v := 0) hx hb dX7_many_88 (by decide) ?_
    have k_0 : (0 : Int32).toInt = 0 := by decide
    refine yw_i (w1 := fun (u : Nat → Nat → Int32) => wl ad kv cy N u) hD hS hA (va_runV (As := [.int 0]) (rest := []) ⟨hx, hb, hml, hown, hts⟩ (e_X1_countState l dC dI cy _ ad kv N hN v hv (0 : Int32)) (cwV 1 hts gX7_many_X1_countState rfl rfl rfl hd_V_X1_countState_1 ⟨Nat.le_of_ble_eq_true rfl, Nat.le_of_ble_eq_true rfl⟩) (yw_preV hE hK hP hD (ci := 1) (q := (RX1, TX1, 7)) (q0 := 13) rfl (wl_at (by omega) (ce_3 (by decide)))) rfl rfl hl.1 rfl (lv_room (Nat.le_of_ble_eq_true rfl)) dX7_many_89 ⟨Nat.le_of_ble_eq_true rfl, Nat.le_of_ble_eq_true rfl⟩) (fun r_1 v_1 H locs hw_1 hP hD hS => ?_)
    obtain ⟨-, hu_1, hw_1⟩ := hw_1
    replace hu_1 := hu_1.symm
    subst hu_1
    have hpost : (x0.toInt = 0 → (r_1 = v 13 0) ∧ v = v) ∧ (x0.toInt = 1 → (r_1 = v 13 1) ∧ v = v) ∧ (x0.toInt = 2 → (r_1 = v 13 2) ∧ v = v) ∧ (x0.toInt = 3 → (r_1.toInt = cN (fun c => if (v (29 + 15 * c) 0).toInt = (0 : Int32).toInt then 1 else 0) (v 13 2).toNatClampNeg) ∧ v = v) ∧ (x0.toInt = 4 → (r_1.toInt = cN (fun c => if (v (29 + 15 * c) 0).toInt = (1 : Int32).toInt then 1 else 0) (v 13 2).toNatClampNeg) ∧ v = v) ∧ (x0.toInt = 5 → (r_1 = v 13 3) ∧ v = v) ∧ (x0.toInt = 6 → (r_1.toInt = cN (fun c => if ((hF (qB (fun c => v (29 + 15 * c) 4) (v 13 2).toNatClampNeg (Int32.ofNat c)) c : Nat) : Int) = ((c : Nat) : Int) then 1 else 0) (v 13 2).toNatClampNeg) ∧ v = v) ∧ (x0.toInt = 7 → (r_1.toInt = cN (fun c => (v (29 + 15 * c) 5).toInt) (v 13 2).toNatClampNeg) ∧ v = v) ∧ (x0.toInt = 8 → (r_1.toInt = cN (fun c => cN (fun t => if (jF (v (39 + 15 * c + t) 1) (v (36 + 15 * c + (v (39 + 15 * c + t) 0).toNatClampNeg)) (v (39 + 15 * c + t) 3) (v (39 + 15 * c + t) 4) (v (39 + 15 * c + t) 2)).toInt = (1 : Int32).toInt then 1 else 0) (v (29 + 15 * c) 5).toNatClampNeg) (v 13 2).toNatClampNeg) ∧ v = v) ∧ (x0.toInt = 9 → (r_1.toInt = cN (fun c => cN (fun t => if (jF (v (39 + 15 * c + t) 1) (v (36 + 15 * c + (v (39 + 15 * c + t) 0).toNatClampNeg)) (v (39 + 15 * c + t) 3) (v (39 + 15 * c + t) 4) (v (39 + 15 * c + t) 2)).toInt = (0 : Int32).toInt then 1 else 0) (v (29 + 15 * c) 5).toNatClampNeg) (v 13 2).toNatClampNeg) ∧ v = v) ∧ (x0.toInt = 10 → (r_1.toInt = cN (fun c => cN (fun t => if (jF (v (39 + 15 * c + t) 1) (v (36 + 15 * c + (v (39 + 15 * c + t) 0).toNatClampNeg)) (v (39 + 15 * c + t) 3) (v (39 + 15 * c + t) 4) (v (39 + 15 * c + t) 2)).toInt = (2 : Int32).toInt then 1 else 0) (v (29 + 15 * c) 5).toNatClampNeg) (v 13 2).toNatClampNeg) ∧ v = v) ∧ ((x0.toInt < 0 ∨ 10 < x0.toInt) → (r_1 = -1) ∧ v = v) := by
      refine ⟨fun hq => ?_, fun hq => ?_, fun hq => ?_, fun hq => ?_, fun hq => ?_, fun hq => ?_, fun hq => ?_, fun hq => ?_, fun hq => ?_, fun hq => ?_, fun hq => ?_, fun hq => ?_⟩
      · exfalso; omega
      · exfalso; omega
      · exfalso; omega
      · exact ⟨hw_1, rfl⟩
      · exfalso; omega
      · exfalso; omega
      · exfalso; omega
      · exfalso; omega
      · exfalso; omega
      · exfalso; omega
      · exfalso; omega
      · exfalso; omega
    exact W.iret (v := r_1) hx hb hr (fun t ht hW => ⟨⟨r_1, v, rfl, ⟨hv, hpost⟩, by rw [ht]; exact hP, hD⟩, hS.F ht⟩) hS.2.2 dX7_many_92
  · refine lv_tableIn (off := 92) (tgt := 93) hx hb dX7_many_1 (by rw [hsw]; decide) (by rw [hsw]; decide) (by rw [hsw]; decide) (by decide) ?_
    have k_4 : (4 : Int32).toInt = 4 := by decide
    have tsw : x0.toInt = 4 := by rw [hsw]; decide
    refine lv_aload_n hx hb dX7_many_93 rfl (lv_at hl 0 rfl) ?_
    refine va_get (D := (dC, dI)) (ci := 7) (v := .ref (ad 13)) (C := RX7) (T := TX7) (N := 5) hx hb hts iwX7_many_X7 hown hK hP (0) (wl_at (by omega) (ce_0 (by decide))) rfl 0 (by decide) (hts (.fieldLink RX7 12 "QuietStairs" "now" "LQuietStairs$House;") fwX7_many_1) (fun _ h9 => h9) rfl dX7_many_94 ?_
    refine lv_iconst (v := 1) hx hb dX7_many_97 (by decide) ?_
    have k_1 : (1 : Int32).toInt = 1 := by decide
    refine yw_i (w1 := fun (u : Nat → Nat → Int32) => wl ad kv cy N u) hD hS hA (va_runV (As := [.int 1]) (rest := []) ⟨hx, hb, hml, hown, hts⟩ (e_X1_countState l dC dI cy _ ad kv N hN v hv (1 : Int32)) (cwV 1 hts gX7_many_X1_countState rfl rfl rfl hd_V_X1_countState_1 ⟨Nat.le_of_ble_eq_true rfl, Nat.le_of_ble_eq_true rfl⟩) (yw_preV hE hK hP hD (ci := 1) (q := (RX1, TX1, 7)) (q0 := 13) rfl (wl_at (by omega) (ce_3 (by decide)))) rfl rfl hl.1 rfl (lv_room (Nat.le_of_ble_eq_true rfl)) dX7_many_98 ⟨Nat.le_of_ble_eq_true rfl, Nat.le_of_ble_eq_true rfl⟩) (fun r_1 v_1 H locs hw_1 hP hD hS => ?_)
    obtain ⟨-, hu_1, hw_1⟩ := hw_1
    replace hu_1 := hu_1.symm
    subst hu_1
    have hpost : (x0.toInt = 0 → (r_1 = v 13 0) ∧ v = v) ∧ (x0.toInt = 1 → (r_1 = v 13 1) ∧ v = v) ∧ (x0.toInt = 2 → (r_1 = v 13 2) ∧ v = v) ∧ (x0.toInt = 3 → (r_1.toInt = cN (fun c => if (v (29 + 15 * c) 0).toInt = (0 : Int32).toInt then 1 else 0) (v 13 2).toNatClampNeg) ∧ v = v) ∧ (x0.toInt = 4 → (r_1.toInt = cN (fun c => if (v (29 + 15 * c) 0).toInt = (1 : Int32).toInt then 1 else 0) (v 13 2).toNatClampNeg) ∧ v = v) ∧ (x0.toInt = 5 → (r_1 = v 13 3) ∧ v = v) ∧ (x0.toInt = 6 → (r_1.toInt = cN (fun c => if ((hF (qB (fun c => v (29 + 15 * c) 4) (v 13 2).toNatClampNeg (Int32.ofNat c)) c : Nat) : Int) = ((c : Nat) : Int) then 1 else 0) (v 13 2).toNatClampNeg) ∧ v = v) ∧ (x0.toInt = 7 → (r_1.toInt = cN (fun c => (v (29 + 15 * c) 5).toInt) (v 13 2).toNatClampNeg) ∧ v = v) ∧ (x0.toInt = 8 → (r_1.toInt = cN (fun c => cN (fun t => if (jF (v (39 + 15 * c + t) 1) (v (36 + 15 * c + (v (39 + 15 * c + t) 0).toNatClampNeg)) (v (39 + 15 * c + t) 3) (v (39 + 15 * c + t) 4) (v (39 + 15 * c + t) 2)).toInt = (1 : Int32).toInt then 1 else 0) (v (29 + 15 * c) 5).toNatClampNeg) (v 13 2).toNatClampNeg) ∧ v = v) ∧ (x0.toInt = 9 → (r_1.toInt = cN (fun c => cN (fun t => if (jF (v (39 + 15 * c + t) 1) (v (36 + 15 * c + (v (39 + 15 * c + t) 0).toNatClampNeg)) (v (39 + 15 * c + t) 3) (v (39 + 15 * c + t) 4) (v (39 + 15 * c + t) 2)).toInt = (0 : Int32).toInt then 1 else 0) (v (29 + 15 * c) 5).toNatClampNeg) (v 13 2).toNatClampNeg) ∧ v = v) ∧ (x0.toInt = 10 → (r_1.toInt = cN (fun c => cN (fun t => if (jF (v (39 + 15 * c + t) 1) (v (36 + 15 * c + (v (39 + 15 * c + t) 0).toNatClampNeg)) (v (39 + 15 * c + t) 3) (v (39 + 15 * c + t) 4) (v (39 + 15 * c + t) 2)).toInt = (2 : Int32).toInt then 1 else 0) (v (29 + 15 * c) 5).toNatClampNeg) (v 13 2).toNatClampNeg) ∧ v = v) ∧ ((x0.toInt < 0 ∨ 10 < x0.toInt) → (r_1 = -1) ∧ v = v) := by
      refine ⟨fun hq => ?_, fun hq => ?_, fun hq => ?_, fun hq => ?_, fun hq => ?_, fun hq => ?_, fun hq => ?_, fun hq => ?_, fun hq => ?_, fun hq => ?_, fun hq => ?_, fun hq => ?_⟩
      · exfalso; omega
      · exfalso; omega
      · exfalso; omega
      · exfalso; omega
      · exact ⟨hw_1, rfl⟩
      · exfalso; omega
      · exfalso; omega
      · exfalso; omega
      · exfalso; omega
      · exfalso; omega
      · exfalso; omega
      · exfalso; omega
    exact W.iret (v := r_1) hx hb hr (fun t ht hW => ⟨⟨r_1, v, rfl, ⟨hv, hpost⟩, by rw [ht]; exact hP, hD⟩, hS.F ht⟩) hS.2.2 dX7_many_101
  · refine lv_tableIn (off := 101) (tgt := 102) hx hb dX7_many_1 (by rw [hsw]; decide) (by rw [hsw]; decide) (by rw [hsw]; decide) (by decide) ?_
    have k_5 : (5 : Int32).toInt = 5 := by decide
    have tsw : x0.toInt = 5 := by rw [hsw]; decide
    refine lv_aload_n hx hb dX7_many_102 rfl (lv_at hl 0 rfl) ?_
    refine va_get (D := (dC, dI)) (ci := 7) (v := .ref (ad 13)) (C := RX7) (T := TX7) (N := 5) hx hb hts iwX7_many_X7 hown hK hP (0) (wl_at (by omega) (ce_0 (by decide))) rfl 0 (by decide) (hts (.fieldLink RX7 12 "QuietStairs" "now" "LQuietStairs$House;") fwX7_many_1) (fun _ h9 => h9) rfl dX7_many_103 ?_
    refine va_get (D := (dC, dI)) (ci := 1) (v := .int (v (13) 3)) (C := RX1) (T := TX1) (N := 7) hx hb hts iwX7_many_X1 hown hK hP (13) (wl_at (by omega) (ce_3 (by decide))) rfl 3 (by decide) (hts (.fieldLink RX7 108 "QuietStairs$House" "markCount" "I") fwX7_many_5) (fun _ h9 => h9) rfl dX7_many_106 ?_
    refine lv_topi (fun x_1 ex_1 => ?_)
    have bzx_1 : 0 ≤ x_1.toInt ∧ x_1.toInt ≤ 6 := by rw [ex_1]; exact hv.at (K := 3) (by decide) rfl
    have qx_1 : x_1.toInt = (v (13) (3)).toInt := congrArg Int32.toInt ex_1
    have hpost : (x0.toInt = 0 → (x_1 = v 13 0) ∧ v = v) ∧ (x0.toInt = 1 → (x_1 = v 13 1) ∧ v = v) ∧ (x0.toInt = 2 → (x_1 = v 13 2) ∧ v = v) ∧ (x0.toInt = 3 → (x_1.toInt = cN (fun c => if (v (29 + 15 * c) 0).toInt = (0 : Int32).toInt then 1 else 0) (v 13 2).toNatClampNeg) ∧ v = v) ∧ (x0.toInt = 4 → (x_1.toInt = cN (fun c => if (v (29 + 15 * c) 0).toInt = (1 : Int32).toInt then 1 else 0) (v 13 2).toNatClampNeg) ∧ v = v) ∧ (x0.toInt = 5 → (x_1 = v 13 3) ∧ v = v) ∧ (x0.toInt = 6 → (x_1.toInt = cN (fun c => if ((hF (qB (fun c => v (29 + 15 * c) 4) (v 13 2).toNatClampNeg (Int32.ofNat c)) c : Nat) : Int) = ((c : Nat) : Int) then 1 else 0) (v 13 2).toNatClampNeg) ∧ v = v) ∧ (x0.toInt = 7 → (x_1.toInt = cN (fun c => (v (29 + 15 * c) 5).toInt) (v 13 2).toNatClampNeg) ∧ v = v) ∧ (x0.toInt = 8 → (x_1.toInt = cN (fun c => cN (fun t => if (jF (v (39 + 15 * c + t) 1) (v (36 + 15 * c + (v (39 + 15 * c + t) 0).toNatClampNeg)) (v (39 + 15 * c + t) 3) (v (39 + 15 * c + t) 4) (v (39 + 15 * c + t) 2)).toInt = (1 : Int32).toInt then 1 else 0) (v (29 + 15 * c) 5).toNatClampNeg) (v 13 2).toNatClampNeg) ∧ v = v) ∧ (x0.toInt = 9 → (x_1.toInt = cN (fun c => cN (fun t => if (jF (v (39 + 15 * c + t) 1) (v (36 + 15 * c + (v (39 + 15 * c + t) 0).toNatClampNeg)) (v (39 + 15 * c + t) 3) (v (39 + 15 * c + t) 4) (v (39 + 15 * c + t) 2)).toInt = (0 : Int32).toInt then 1 else 0) (v (29 + 15 * c) 5).toNatClampNeg) (v 13 2).toNatClampNeg) ∧ v = v) ∧ (x0.toInt = 10 → (x_1.toInt = cN (fun c => cN (fun t => if (jF (v (39 + 15 * c + t) 1) (v (36 + 15 * c + (v (39 + 15 * c + t) 0).toNatClampNeg)) (v (39 + 15 * c + t) 3) (v (39 + 15 * c + t) 4) (v (39 + 15 * c + t) 2)).toInt = (2 : Int32).toInt then 1 else 0) (v (29 + 15 * c) 5).toNatClampNeg) (v 13 2).toNatClampNeg) ∧ v = v) ∧ ((x0.toInt < 0 ∨ 10 < x0.toInt) → (x_1 = -1) ∧ v = v) := by
      refine ⟨fun hq => ?_, fun hq => ?_, fun hq => ?_, fun hq => ?_, fun hq => ?_, fun hq => ?_, fun hq => ?_, fun hq => ?_, fun hq => ?_, fun hq => ?_, fun hq => ?_, fun hq => ?_⟩
      · exfalso; omega
      · exfalso; omega
      · exfalso; omega
      · exfalso; omega
      · exfalso; omega
      · exact ⟨by rw [ex_1], rfl⟩
      · exfalso; omega
      · exfalso; omega
      · exfalso; omega
      · exfalso; omega
      · exfalso; omega
      · exfalso; omega
    exact W.iret (v := x_1) hx hb hr (fun t ht hW => ⟨⟨x_1, v, rfl, ⟨hv, hpost⟩, by rw [ht]; exact hP, hD⟩, hS.F ht⟩) hS.2.2 dX7_many_109
  · refine lv_tableIn (off := 109) (tgt := 110) hx hb dX7_many_1 (by rw [hsw]; decide) (by rw [hsw]; decide) (by rw [hsw]; decide) (by decide) ?_
    have k_6 : (6 : Int32).toInt = 6 := by decide
    have tsw : x0.toInt = 6 := by rw [hsw]; decide
    refine lv_aload_n hx hb dX7_many_110 rfl (lv_at hl 0 rfl) ?_
    refine va_get (D := (dC, dI)) (ci := 7) (v := .ref (ad 13)) (C := RX7) (T := TX7) (N := 5) hx hb hts iwX7_many_X7 hown hK hP (0) (wl_at (by omega) (ce_0 (by decide))) rfl 0 (by decide) (hts (.fieldLink RX7 12 "QuietStairs" "now" "LQuietStairs$House;") fwX7_many_1) (fun _ h9 => h9) rfl dX7_many_111 ?_
    refine yw_i (w1 := fun (u : Nat → Nat → Int32) => wl ad kv cy N u) hD hS hA (va_runV (As := []) (rest := []) ⟨hx, hb, hml, hown, hts⟩ (e_X1_countQuarrels l dC dI cy _ ad kv N hN v hv ) (cwV 0 hts gX7_many_X1_countQuarrels rfl rfl rfl hd_V_X1_countQuarrels_0 ⟨Nat.le_of_ble_eq_true rfl, Nat.le_of_ble_eq_true rfl⟩) (yw_preV hE hK hP hD (ci := 1) (q := (RX1, TX1, 7)) (q0 := 13) rfl (wl_at (by omega) (ce_3 (by decide)))) rfl rfl hl.1 rfl (lv_room (Nat.le_of_ble_eq_true rfl)) dX7_many_114 ⟨Nat.le_of_ble_eq_true rfl, Nat.le_of_ble_eq_true rfl⟩) (fun r_1 v_1 H locs hw_1 hP hD hS => ?_)
    obtain ⟨-, hu_1, hw_1⟩ := hw_1
    replace hu_1 := hu_1.symm
    subst hu_1
    have hpost : (x0.toInt = 0 → (r_1 = v 13 0) ∧ v = v) ∧ (x0.toInt = 1 → (r_1 = v 13 1) ∧ v = v) ∧ (x0.toInt = 2 → (r_1 = v 13 2) ∧ v = v) ∧ (x0.toInt = 3 → (r_1.toInt = cN (fun c => if (v (29 + 15 * c) 0).toInt = (0 : Int32).toInt then 1 else 0) (v 13 2).toNatClampNeg) ∧ v = v) ∧ (x0.toInt = 4 → (r_1.toInt = cN (fun c => if (v (29 + 15 * c) 0).toInt = (1 : Int32).toInt then 1 else 0) (v 13 2).toNatClampNeg) ∧ v = v) ∧ (x0.toInt = 5 → (r_1 = v 13 3) ∧ v = v) ∧ (x0.toInt = 6 → (r_1.toInt = cN (fun c => if ((hF (qB (fun c => v (29 + 15 * c) 4) (v 13 2).toNatClampNeg (Int32.ofNat c)) c : Nat) : Int) = ((c : Nat) : Int) then 1 else 0) (v 13 2).toNatClampNeg) ∧ v = v) ∧ (x0.toInt = 7 → (r_1.toInt = cN (fun c => (v (29 + 15 * c) 5).toInt) (v 13 2).toNatClampNeg) ∧ v = v) ∧ (x0.toInt = 8 → (r_1.toInt = cN (fun c => cN (fun t => if (jF (v (39 + 15 * c + t) 1) (v (36 + 15 * c + (v (39 + 15 * c + t) 0).toNatClampNeg)) (v (39 + 15 * c + t) 3) (v (39 + 15 * c + t) 4) (v (39 + 15 * c + t) 2)).toInt = (1 : Int32).toInt then 1 else 0) (v (29 + 15 * c) 5).toNatClampNeg) (v 13 2).toNatClampNeg) ∧ v = v) ∧ (x0.toInt = 9 → (r_1.toInt = cN (fun c => cN (fun t => if (jF (v (39 + 15 * c + t) 1) (v (36 + 15 * c + (v (39 + 15 * c + t) 0).toNatClampNeg)) (v (39 + 15 * c + t) 3) (v (39 + 15 * c + t) 4) (v (39 + 15 * c + t) 2)).toInt = (0 : Int32).toInt then 1 else 0) (v (29 + 15 * c) 5).toNatClampNeg) (v 13 2).toNatClampNeg) ∧ v = v) ∧ (x0.toInt = 10 → (r_1.toInt = cN (fun c => cN (fun t => if (jF (v (39 + 15 * c + t) 1) (v (36 + 15 * c + (v (39 + 15 * c + t) 0).toNatClampNeg)) (v (39 + 15 * c + t) 3) (v (39 + 15 * c + t) 4) (v (39 + 15 * c + t) 2)).toInt = (2 : Int32).toInt then 1 else 0) (v (29 + 15 * c) 5).toNatClampNeg) (v 13 2).toNatClampNeg) ∧ v = v) ∧ ((x0.toInt < 0 ∨ 10 < x0.toInt) → (r_1 = -1) ∧ v = v) := by
      refine ⟨fun hq => ?_, fun hq => ?_, fun hq => ?_, fun hq => ?_, fun hq => ?_, fun hq => ?_, fun hq => ?_, fun hq => ?_, fun hq => ?_, fun hq => ?_, fun hq => ?_, fun hq => ?_⟩
      · exfalso; omega
      · exfalso; omega
      · exfalso; omega
      · exfalso; omega
      · exfalso; omega
      · exfalso; omega
      · exact ⟨hw_1, rfl⟩
      · exfalso; omega
      · exfalso; omega
      · exfalso; omega
      · exfalso; omega
      · exfalso; omega
    exact W.iret (v := r_1) hx hb hr (fun t ht hW => ⟨⟨r_1, v, rfl, ⟨hv, hpost⟩, by rw [ht]; exact hP, hD⟩, hS.F ht⟩) hS.2.2 dX7_many_117
  · refine lv_tableIn (off := 117) (tgt := 118) hx hb dX7_many_1 (by rw [hsw]; decide) (by rw [hsw]; decide) (by rw [hsw]; decide) (by decide) ?_
    have k_7 : (7 : Int32).toInt = 7 := by decide
    have tsw : x0.toInt = 7 := by rw [hsw]; decide
    refine lv_aload_n hx hb dX7_many_118 rfl (lv_at hl 0 rfl) ?_
    refine va_get (D := (dC, dI)) (ci := 7) (v := .ref (ad 13)) (C := RX7) (T := TX7) (N := 5) hx hb hts iwX7_many_X7 hown hK hP (0) (wl_at (by omega) (ce_0 (by decide))) rfl 0 (by decide) (hts (.fieldLink RX7 12 "QuietStairs" "now" "LQuietStairs$House;") fwX7_many_1) (fun _ h9 => h9) rfl dX7_many_119 ?_
    refine yw_i (w1 := fun (u : Nat → Nat → Int32) => wl ad kv cy N u) hD hS hA (va_runV (As := []) (rest := []) ⟨hx, hb, hml, hown, hts⟩ (e_X1_countTerms l dC dI cy _ ad kv N hN v hv ) (cwV 0 hts gX7_many_X1_countTerms rfl rfl rfl hd_V_X1_countTerms_0 ⟨Nat.le_of_ble_eq_true rfl, Nat.le_of_ble_eq_true rfl⟩) (yw_preV hE hK hP hD (ci := 1) (q := (RX1, TX1, 7)) (q0 := 13) rfl (wl_at (by omega) (ce_3 (by decide)))) rfl rfl hl.1 rfl (lv_room (Nat.le_of_ble_eq_true rfl)) dX7_many_122 ⟨Nat.le_of_ble_eq_true rfl, Nat.le_of_ble_eq_true rfl⟩) (fun r_1 v_1 H locs hw_1 hP hD hS => ?_)
    obtain ⟨-, hu_1, hw_1⟩ := hw_1
    replace hu_1 := hu_1.symm
    subst hu_1
    have hpost : (x0.toInt = 0 → (r_1 = v 13 0) ∧ v = v) ∧ (x0.toInt = 1 → (r_1 = v 13 1) ∧ v = v) ∧ (x0.toInt = 2 → (r_1 = v 13 2) ∧ v = v) ∧ (x0.toInt = 3 → (r_1.toInt = cN (fun c => if (v (29 + 15 * c) 0).toInt = (0 : Int32).toInt then 1 else 0) (v 13 2).toNatClampNeg) ∧ v = v) ∧ (x0.toInt = 4 → (r_1.toInt = cN (fun c => if (v (29 + 15 * c) 0).toInt = (1 : Int32).toInt then 1 else 0) (v 13 2).toNatClampNeg) ∧ v = v) ∧ (x0.toInt = 5 → (r_1 = v 13 3) ∧ v = v) ∧ (x0.toInt = 6 → (r_1.toInt = cN (fun c => if ((hF (qB (fun c => v (29 + 15 * c) 4) (v 13 2).toNatClampNeg (Int32.ofNat c)) c : Nat) : Int) = ((c : Nat) : Int) then 1 else 0) (v 13 2).toNatClampNeg) ∧ v = v) ∧ (x0.toInt = 7 → (r_1.toInt = cN (fun c => (v (29 + 15 * c) 5).toInt) (v 13 2).toNatClampNeg) ∧ v = v) ∧ (x0.toInt = 8 → (r_1.toInt = cN (fun c => cN (fun t => if (jF (v (39 + 15 * c + t) 1) (v (36 + 15 * c + (v (39 + 15 * c + t) 0).toNatClampNeg)) (v (39 + 15 * c + t) 3) (v (39 + 15 * c + t) 4) (v (39 + 15 * c + t) 2)).toInt = (1 : Int32).toInt then 1 else 0) (v (29 + 15 * c) 5).toNatClampNeg) (v 13 2).toNatClampNeg) ∧ v = v) ∧ (x0.toInt = 9 → (r_1.toInt = cN (fun c => cN (fun t => if (jF (v (39 + 15 * c + t) 1) (v (36 + 15 * c + (v (39 + 15 * c + t) 0).toNatClampNeg)) (v (39 + 15 * c + t) 3) (v (39 + 15 * c + t) 4) (v (39 + 15 * c + t) 2)).toInt = (0 : Int32).toInt then 1 else 0) (v (29 + 15 * c) 5).toNatClampNeg) (v 13 2).toNatClampNeg) ∧ v = v) ∧ (x0.toInt = 10 → (r_1.toInt = cN (fun c => cN (fun t => if (jF (v (39 + 15 * c + t) 1) (v (36 + 15 * c + (v (39 + 15 * c + t) 0).toNatClampNeg)) (v (39 + 15 * c + t) 3) (v (39 + 15 * c + t) 4) (v (39 + 15 * c + t) 2)).toInt = (2 : Int32).toInt then 1 else 0) (v (29 + 15 * c) 5).toNatClampNeg) (v 13 2).toNatClampNeg) ∧ v = v) ∧ ((x0.toInt < 0 ∨ 10 < x0.toInt) → (r_1 = -1) ∧ v = v) := by
      refine ⟨fun hq => ?_, fun hq => ?_, fun hq => ?_, fun hq => ?_, fun hq => ?_, fun hq => ?_, fun hq => ?_, fun hq => ?_, fun hq => ?_, fun hq => ?_, fun hq => ?_, fun hq => ?_⟩
      · exfalso; omega
      · exfalso; omega
      · exfalso; omega
      · exfalso; omega
      · exfalso; omega
      · exfalso; omega
      · exfalso; omega
      · exact ⟨hw_1, rfl⟩
      · exfalso; omega
      · exfalso; omega
      · exfalso; omega
      · exfalso; omega
    exact W.iret (v := r_1) hx hb hr (fun t ht hW => ⟨⟨r_1, v, rfl, ⟨hv, hpost⟩, by rw [ht]; exact hP, hD⟩, hS.F ht⟩) hS.2.2 dX7_many_125
  · refine lv_tableIn (off := 125) (tgt := 126) hx hb dX7_many_1 (by rw [hsw]; decide) (by rw [hsw]; decide) (by rw [hsw]; decide) (by decide) ?_
    have k_8 : (8 : Int32).toInt = 8 := by decide
    have tsw : x0.toInt = 8 := by rw [hsw]; decide
    refine lv_aload_n hx hb dX7_many_126 rfl (lv_at hl 0 rfl) ?_
    refine va_get (D := (dC, dI)) (ci := 7) (v := .ref (ad 13)) (C := RX7) (T := TX7) (N := 5) hx hb hts iwX7_many_X7 hown hK hP (0) (wl_at (by omega) (ce_0 (by decide))) rfl 0 (by decide) (hts (.fieldLink RX7 12 "QuietStairs" "now" "LQuietStairs$House;") fwX7_many_1) (fun _ h9 => h9) rfl dX7_many_127 ?_
    refine lv_iconst (v := 1) hx hb dX7_many_130 (by decide) ?_
    have k_1 : (1 : Int32).toInt = 1 := by decide
    refine yw_i (w1 := fun (u : Nat → Nat → Int32) => wl ad kv cy N u) hD hS hA (va_runV (As := [.int 1]) (rest := []) ⟨hx, hb, hml, hown, hts⟩ (e_X1_countJudged l dC dI cy _ ad kv N hN v hv (1 : Int32)) (cwV 1 hts gX7_many_X1_countJudged rfl rfl rfl hd_V_X1_countJudged_1 ⟨Nat.le_of_ble_eq_true rfl, Nat.le_of_ble_eq_true rfl⟩) (yw_preV hE hK hP hD (ci := 1) (q := (RX1, TX1, 7)) (q0 := 13) rfl (wl_at (by omega) (ce_3 (by decide)))) rfl rfl hl.1 rfl (lv_room (Nat.le_of_ble_eq_true rfl)) dX7_many_131 ⟨Nat.le_of_ble_eq_true rfl, Nat.le_of_ble_eq_true rfl⟩) (fun r_1 v_1 H locs hw_1 hP hD hS => ?_)
    obtain ⟨-, hu_1, hw_1⟩ := hw_1
    replace hu_1 := hu_1.symm
    subst hu_1
    have hpost : (x0.toInt = 0 → (r_1 = v 13 0) ∧ v = v) ∧ (x0.toInt = 1 → (r_1 = v 13 1) ∧ v = v) ∧ (x0.toInt = 2 → (r_1 = v 13 2) ∧ v = v) ∧ (x0.toInt = 3 → (r_1.toInt = cN (fun c => if (v (29 + 15 * c) 0).toInt = (0 : Int32).toInt then 1 else 0) (v 13 2).toNatClampNeg) ∧ v = v) ∧ (x0.toInt = 4 → (r_1.toInt = cN (fun c => if (v (29 + 15 * c) 0).toInt = (1 : Int32).toInt then 1 else 0) (v 13 2).toNatClampNeg) ∧ v = v) ∧ (x0.toInt = 5 → (r_1 = v 13 3) ∧ v = v) ∧ (x0.toInt = 6 → (r_1.toInt = cN (fun c => if ((hF (qB (fun c => v (29 + 15 * c) 4) (v 13 2).toNatClampNeg (Int32.ofNat c)) c : Nat) : Int) = ((c : Nat) : Int) then 1 else 0) (v 13 2).toNatClampNeg) ∧ v = v) ∧ (x0.toInt = 7 → (r_1.toInt = cN (fun c => (v (29 + 15 * c) 5).toInt) (v 13 2).toNatClampNeg) ∧ v = v) ∧ (x0.toInt = 8 → (r_1.toInt = cN (fun c => cN (fun t => if (jF (v (39 + 15 * c + t) 1) (v (36 + 15 * c + (v (39 + 15 * c + t) 0).toNatClampNeg)) (v (39 + 15 * c + t) 3) (v (39 + 15 * c + t) 4) (v (39 + 15 * c + t) 2)).toInt = (1 : Int32).toInt then 1 else 0) (v (29 + 15 * c) 5).toNatClampNeg) (v 13 2).toNatClampNeg) ∧ v = v) ∧ (x0.toInt = 9 → (r_1.toInt = cN (fun c => cN (fun t => if (jF (v (39 + 15 * c + t) 1) (v (36 + 15 * c + (v (39 + 15 * c + t) 0).toNatClampNeg)) (v (39 + 15 * c + t) 3) (v (39 + 15 * c + t) 4) (v (39 + 15 * c + t) 2)).toInt = (0 : Int32).toInt then 1 else 0) (v (29 + 15 * c) 5).toNatClampNeg) (v 13 2).toNatClampNeg) ∧ v = v) ∧ (x0.toInt = 10 → (r_1.toInt = cN (fun c => cN (fun t => if (jF (v (39 + 15 * c + t) 1) (v (36 + 15 * c + (v (39 + 15 * c + t) 0).toNatClampNeg)) (v (39 + 15 * c + t) 3) (v (39 + 15 * c + t) 4) (v (39 + 15 * c + t) 2)).toInt = (2 : Int32).toInt then 1 else 0) (v (29 + 15 * c) 5).toNatClampNeg) (v 13 2).toNatClampNeg) ∧ v = v) ∧ ((x0.toInt < 0 ∨ 10 < x0.toInt) → (r_1 = -1) ∧ v = v) := by
      refine ⟨fun hq => ?_, fun hq => ?_, fun hq => ?_, fun hq => ?_, fun hq => ?_, fun hq => ?_, fun hq => ?_, fun hq => ?_, fun hq => ?_, fun hq => ?_, fun hq => ?_, fun hq => ?_⟩
      · exfalso; omega
      · exfalso; omega
      · exfalso; omega
      · exfalso; omega
      · exfalso; omega
      · exfalso; omega
      · exfalso; omega
      · exfalso; omega
      · exact ⟨hw_1, rfl⟩
      · exfalso; omega
      · exfalso; omega
      · exfalso; omega
    exact W.iret (v := r_1) hx hb hr (fun t ht hW => ⟨⟨r_1, v, rfl, ⟨hv, hpost⟩, by rw [ht]; exact hP, hD⟩, hS.F ht⟩) hS.2.2 dX7_many_134
  · refine lv_tableIn (off := 134) (tgt := 135) hx hb dX7_many_1 (by rw [hsw]; decide) (by rw [hsw]; decide) (by rw [hsw]; decide) (by decide) ?_
    have k_9 : (9 : Int32).toInt = 9 := by decide
    have tsw : x0.toInt = 9 := by rw [hsw]; decide
    refine lv_aload_n hx hb dX7_many_135 rfl (lv_at hl 0 rfl) ?_
    refine va_get (D := (dC, dI)) (ci := 7) (v := .ref (ad 13)) (C := RX7) (T := TX7) (N := 5) hx hb hts iwX7_many_X7 hown hK hP (0) (wl_at (by omega) (ce_0 (by decide))) rfl 0 (by decide) (hts (.fieldLink RX7 12 "QuietStairs" "now" "LQuietStairs$House;") fwX7_many_1) (fun _ h9 => h9) rfl dX7_many_136 ?_
    refine lv_iconst (v := 0) hx hb dX7_many_139 (by decide) ?_
    have k_0 : (0 : Int32).toInt = 0 := by decide
    refine yw_i (w1 := fun (u : Nat → Nat → Int32) => wl ad kv cy N u) hD hS hA (va_runV (As := [.int 0]) (rest := []) ⟨hx, hb, hml, hown, hts⟩ (e_X1_countJudged l dC dI cy _ ad kv N hN v hv (0 : Int32)) (cwV 1 hts gX7_many_X1_countJudged rfl rfl rfl hd_V_X1_countJudged_1 ⟨Nat.le_of_ble_eq_true rfl, Nat.le_of_ble_eq_true rfl⟩) (yw_preV hE hK hP hD (ci := 1) (q := (RX1, TX1, 7)) (q0 := 13) rfl (wl_at (by omega) (ce_3 (by decide)))) rfl rfl hl.1 rfl (lv_room (Nat.le_of_ble_eq_true rfl)) dX7_many_140 ⟨Nat.le_of_ble_eq_true rfl, Nat.le_of_ble_eq_true rfl⟩) (fun r_1 v_1 H locs hw_1 hP hD hS => ?_)
    obtain ⟨-, hu_1, hw_1⟩ := hw_1
    replace hu_1 := hu_1.symm
    subst hu_1
    have hpost : (x0.toInt = 0 → (r_1 = v 13 0) ∧ v = v) ∧ (x0.toInt = 1 → (r_1 = v 13 1) ∧ v = v) ∧ (x0.toInt = 2 → (r_1 = v 13 2) ∧ v = v) ∧ (x0.toInt = 3 → (r_1.toInt = cN (fun c => if (v (29 + 15 * c) 0).toInt = (0 : Int32).toInt then 1 else 0) (v 13 2).toNatClampNeg) ∧ v = v) ∧ (x0.toInt = 4 → (r_1.toInt = cN (fun c => if (v (29 + 15 * c) 0).toInt = (1 : Int32).toInt then 1 else 0) (v 13 2).toNatClampNeg) ∧ v = v) ∧ (x0.toInt = 5 → (r_1 = v 13 3) ∧ v = v) ∧ (x0.toInt = 6 → (r_1.toInt = cN (fun c => if ((hF (qB (fun c => v (29 + 15 * c) 4) (v 13 2).toNatClampNeg (Int32.ofNat c)) c : Nat) : Int) = ((c : Nat) : Int) then 1 else 0) (v 13 2).toNatClampNeg) ∧ v = v) ∧ (x0.toInt = 7 → (r_1.toInt = cN (fun c => (v (29 + 15 * c) 5).toInt) (v 13 2).toNatClampNeg) ∧ v = v) ∧ (x0.toInt = 8 → (r_1.toInt = cN (fun c => cN (fun t => if (jF (v (39 + 15 * c + t) 1) (v (36 + 15 * c + (v (39 + 15 * c + t) 0).toNatClampNeg)) (v (39 + 15 * c + t) 3) (v (39 + 15 * c + t) 4) (v (39 + 15 * c + t) 2)).toInt = (1 : Int32).toInt then 1 else 0) (v (29 + 15 * c) 5).toNatClampNeg) (v 13 2).toNatClampNeg) ∧ v = v) ∧ (x0.toInt = 9 → (r_1.toInt = cN (fun c => cN (fun t => if (jF (v (39 + 15 * c + t) 1) (v (36 + 15 * c + (v (39 + 15 * c + t) 0).toNatClampNeg)) (v (39 + 15 * c + t) 3) (v (39 + 15 * c + t) 4) (v (39 + 15 * c + t) 2)).toInt = (0 : Int32).toInt then 1 else 0) (v (29 + 15 * c) 5).toNatClampNeg) (v 13 2).toNatClampNeg) ∧ v = v) ∧ (x0.toInt = 10 → (r_1.toInt = cN (fun c => cN (fun t => if (jF (v (39 + 15 * c + t) 1) (v (36 + 15 * c + (v (39 + 15 * c + t) 0).toNatClampNeg)) (v (39 + 15 * c + t) 3) (v (39 + 15 * c + t) 4) (v (39 + 15 * c + t) 2)).toInt = (2 : Int32).toInt then 1 else 0) (v (29 + 15 * c) 5).toNatClampNeg) (v 13 2).toNatClampNeg) ∧ v = v) ∧ ((x0.toInt < 0 ∨ 10 < x0.toInt) → (r_1 = -1) ∧ v = v) := by
      refine ⟨fun hq => ?_, fun hq => ?_, fun hq => ?_, fun hq => ?_, fun hq => ?_, fun hq => ?_, fun hq => ?_, fun hq => ?_, fun hq => ?_, fun hq => ?_, fun hq => ?_, fun hq => ?_⟩
      · exfalso; omega
      · exfalso; omega
      · exfalso; omega
      · exfalso; omega
      · exfalso; omega
      · exfalso; omega
      · exfalso; omega
      · exfalso; omega
      · exfalso; omega
      · exact ⟨hw_1, rfl⟩
      · exfalso; omega
      · exfalso; omega
    exact W.iret (v := r_1) hx hb hr (fun t ht hW => ⟨⟨r_1, v, rfl, ⟨hv, hpost⟩, by rw [ht]; exact hP, hD⟩, hS.F ht⟩) hS.2.2 dX7_many_143
  · refine lv_tableIn (off := 143) (tgt := 144) hx hb dX7_many_1 (by rw [hsw]; decide) (by rw [hsw]; decide) (by rw [hsw]; decide) (by decide) ?_
    have k_10 : (10 : Int32).toInt = 10 := by decide
    have tsw : x0.toInt = 10 := by rw [hsw]; decide
    refine lv_aload_n hx hb dX7_many_144 rfl (lv_at hl 0 rfl) ?_
    refine va_get (D := (dC, dI)) (ci := 7) (v := .ref (ad 13)) (C := RX7) (T := TX7) (N := 5) hx hb hts iwX7_many_X7 hown hK hP (0) (wl_at (by omega) (ce_0 (by decide))) rfl 0 (by decide) (hts (.fieldLink RX7 12 "QuietStairs" "now" "LQuietStairs$House;") fwX7_many_1) (fun _ h9 => h9) rfl dX7_many_145 ?_
    refine lv_iconst (v := 2) hx hb dX7_many_148 (by decide) ?_
    have k_2 : (2 : Int32).toInt = 2 := by decide
    refine yw_i (w1 := fun (u : Nat → Nat → Int32) => wl ad kv cy N u) hD hS hA (va_runV (As := [.int 2]) (rest := []) ⟨hx, hb, hml, hown, hts⟩ (e_X1_countJudged l dC dI cy _ ad kv N hN v hv (2 : Int32)) (cwV 1 hts gX7_many_X1_countJudged rfl rfl rfl hd_V_X1_countJudged_1 ⟨Nat.le_of_ble_eq_true rfl, Nat.le_of_ble_eq_true rfl⟩) (yw_preV hE hK hP hD (ci := 1) (q := (RX1, TX1, 7)) (q0 := 13) rfl (wl_at (by omega) (ce_3 (by decide)))) rfl rfl hl.1 rfl (lv_room (Nat.le_of_ble_eq_true rfl)) dX7_many_149 ⟨Nat.le_of_ble_eq_true rfl, Nat.le_of_ble_eq_true rfl⟩) (fun r_1 v_1 H locs hw_1 hP hD hS => ?_)
    obtain ⟨-, hu_1, hw_1⟩ := hw_1
    replace hu_1 := hu_1.symm
    subst hu_1
    have hpost : (x0.toInt = 0 → (r_1 = v 13 0) ∧ v = v) ∧ (x0.toInt = 1 → (r_1 = v 13 1) ∧ v = v) ∧ (x0.toInt = 2 → (r_1 = v 13 2) ∧ v = v) ∧ (x0.toInt = 3 → (r_1.toInt = cN (fun c => if (v (29 + 15 * c) 0).toInt = (0 : Int32).toInt then 1 else 0) (v 13 2).toNatClampNeg) ∧ v = v) ∧ (x0.toInt = 4 → (r_1.toInt = cN (fun c => if (v (29 + 15 * c) 0).toInt = (1 : Int32).toInt then 1 else 0) (v 13 2).toNatClampNeg) ∧ v = v) ∧ (x0.toInt = 5 → (r_1 = v 13 3) ∧ v = v) ∧ (x0.toInt = 6 → (r_1.toInt = cN (fun c => if ((hF (qB (fun c => v (29 + 15 * c) 4) (v 13 2).toNatClampNeg (Int32.ofNat c)) c : Nat) : Int) = ((c : Nat) : Int) then 1 else 0) (v 13 2).toNatClampNeg) ∧ v = v) ∧ (x0.toInt = 7 → (r_1.toInt = cN (fun c => (v (29 + 15 * c) 5).toInt) (v 13 2).toNatClampNeg) ∧ v = v) ∧ (x0.toInt = 8 → (r_1.toInt = cN (fun c => cN (fun t => if (jF (v (39 + 15 * c + t) 1) (v (36 + 15 * c + (v (39 + 15 * c + t) 0).toNatClampNeg)) (v (39 + 15 * c + t) 3) (v (39 + 15 * c + t) 4) (v (39 + 15 * c + t) 2)).toInt = (1 : Int32).toInt then 1 else 0) (v (29 + 15 * c) 5).toNatClampNeg) (v 13 2).toNatClampNeg) ∧ v = v) ∧ (x0.toInt = 9 → (r_1.toInt = cN (fun c => cN (fun t => if (jF (v (39 + 15 * c + t) 1) (v (36 + 15 * c + (v (39 + 15 * c + t) 0).toNatClampNeg)) (v (39 + 15 * c + t) 3) (v (39 + 15 * c + t) 4) (v (39 + 15 * c + t) 2)).toInt = (0 : Int32).toInt then 1 else 0) (v (29 + 15 * c) 5).toNatClampNeg) (v 13 2).toNatClampNeg) ∧ v = v) ∧ (x0.toInt = 10 → (r_1.toInt = cN (fun c => cN (fun t => if (jF (v (39 + 15 * c + t) 1) (v (36 + 15 * c + (v (39 + 15 * c + t) 0).toNatClampNeg)) (v (39 + 15 * c + t) 3) (v (39 + 15 * c + t) 4) (v (39 + 15 * c + t) 2)).toInt = (2 : Int32).toInt then 1 else 0) (v (29 + 15 * c) 5).toNatClampNeg) (v 13 2).toNatClampNeg) ∧ v = v) ∧ ((x0.toInt < 0 ∨ 10 < x0.toInt) → (r_1 = -1) ∧ v = v) := by
      refine ⟨fun hq => ?_, fun hq => ?_, fun hq => ?_, fun hq => ?_, fun hq => ?_, fun hq => ?_, fun hq => ?_, fun hq => ?_, fun hq => ?_, fun hq => ?_, fun hq => ?_, fun hq => ?_⟩
      · exfalso; omega
      · exfalso; omega
      · exfalso; omega
      · exfalso; omega
      · exfalso; omega
      · exfalso; omega
      · exfalso; omega
      · exfalso; omega
      · exfalso; omega
      · exfalso; omega
      · exact ⟨hw_1, rfl⟩
      · exfalso; omega
    exact W.iret (v := r_1) hx hb hr (fun t ht hW => ⟨⟨r_1, v, rfl, ⟨hv, hpost⟩, by rw [ht]; exact hP, hD⟩, hS.F ht⟩) hS.2.2 dX7_many_152

set_option maxHeartbeats 4000000 in
set_option maxRecDepth 100000 in
theorem e_X8_many (l : Launch) (dC : Nat → ClassId) (dI : Nat → Nat → Nat) (cy : Nat → ClassId) (sz : Nat) (ad : Nat → Nat) (v : Nat → Nat → Int32) (hv : Ir v) (hG : MG (v 1)) (x0 : Int32) : Met l yX8_many wsX8_many ({ frames := 3, cells := 0, slots := 0, locals := 192 }) (va_Pc [.ref (ad 0), .int x0] (ex_Pre dC dI cy sz (wm ad cy v))) (va_Qi (fun (r : Int32) (u : Nat → Nat → Int32) => Ir u ∧ (x0.toInt = 0 → (r = v 1 0) ∧ Fq v u) ∧ (x0.toInt = 1 → (r = v 1 1) ∧ Fq v u) ∧ (x0.toInt = 2 → (r = v 1 2) ∧ Fq v u) ∧ (x0.toInt = 3 → (r.toInt = cN (fun c => if (v 1 (34 + 7 * c)).toInt = (0 : Int32).toInt then 1 else 0) (v 1 2).toNatClampNeg) ∧ Fq v u) ∧ (x0.toInt = 4 → (r.toInt = cN (fun c => if (v 1 (34 + 7 * c)).toInt = (1 : Int32).toInt then 1 else 0) (v 1 2).toNatClampNeg) ∧ Fq v u) ∧ (x0.toInt = 5 → (r = v 1 3) ∧ Fq v u) ∧ (x0.toInt = 6 → (HD (v 1) (u 3) ∧ r.toInt = cN (fun c => if (u 3 c).toInt = ((c : Nat) : Int) then 1 else 0) (v 1 2).toNatClampNeg) ∧ Fq v u) ∧ (x0.toInt = 7 → (r.toInt = cN (fun c => cN (fun t => if (-1 : Int32).toInt < 0 ∨ (jF (v 1 (159 + 25 * c + 5 * t)) (fun h => v 1 (308 + 48 * c + 24 * (v 1 (158 + 25 * c + 5 * t)).toNatClampNeg + h)) (v 1 (161 + 25 * c + 5 * t)) (v 1 (162 + 25 * c + 5 * t)) (v 1 (160 + 25 * c + 5 * t))).toInt = (-1 : Int32).toInt then 1 else 0) (v 1 (38 + 7 * c)).toNatClampNeg) (v 1 2).toNatClampNeg) ∧ Fq v u) ∧ (x0.toInt = 8 → (r.toInt = cN (fun c => cN (fun t => if (1 : Int32).toInt < 0 ∨ (jF (v 1 (159 + 25 * c + 5 * t)) (fun h => v 1 (308 + 48 * c + 24 * (v 1 (158 + 25 * c + 5 * t)).toNatClampNeg + h)) (v 1 (161 + 25 * c + 5 * t)) (v 1 (162 + 25 * c + 5 * t)) (v 1 (160 + 25 * c + 5 * t))).toInt = (1 : Int32).toInt then 1 else 0) (v 1 (38 + 7 * c)).toNatClampNeg) (v 1 2).toNatClampNeg) ∧ Fq v u) ∧ (x0.toInt = 9 → (r.toInt = cN (fun c => cN (fun t => if (0 : Int32).toInt < 0 ∨ (jF (v 1 (159 + 25 * c + 5 * t)) (fun h => v 1 (308 + 48 * c + 24 * (v 1 (158 + 25 * c + 5 * t)).toNatClampNeg + h)) (v 1 (161 + 25 * c + 5 * t)) (v 1 (162 + 25 * c + 5 * t)) (v 1 (160 + 25 * c + 5 * t))).toInt = (0 : Int32).toInt then 1 else 0) (v 1 (38 + 7 * c)).toNatClampNeg) (v 1 2).toNatClampNeg) ∧ Fq v u) ∧ (x0.toInt = 10 → (r.toInt = cN (fun c => cN (fun t => if (2 : Int32).toInt < 0 ∨ (jF (v 1 (159 + 25 * c + 5 * t)) (fun h => v 1 (308 + 48 * c + 24 * (v 1 (158 + 25 * c + 5 * t)).toNatClampNeg + h)) (v 1 (161 + 25 * c + 5 * t)) (v 1 (162 + 25 * c + 5 * t)) (v 1 (160 + 25 * c + 5 * t))).toInt = (2 : Int32).toInt then 1 else 0) (v 1 (38 + 7 * c)).toNatClampNeg) (v 1 2).toNatClampNeg) ∧ Fq v u) ∧ ((x0.toInt < 0 ∨ 10 < x0.toInt) → (r = -1) ∧ Fq v u)) (fun u t => ex_Pst dC dI (va_A (wm ad cy v) sz) (wm ad cy u) t) (va_A (wm ad cy v) sz)) 0 0 (va_A (wm ad cy v) sz) := by
  refine Met.ofW (cc := cX8_many) (maxL := 2) (ret := (some .int)) (by decide) rfl ?_
  intro p e s m args below meth c s₁ B hml hv
  obtain ⟨rfl, hsz, hE, hP, hK, hD0⟩ := hv
  have hx := B.exec
  have hb := B.bytes
  have hr := B.returns
  have hts := atoms_spec (ws := wsX8_many) B.pre
  have hown : s.vm.findClass RX8 = some m.cls := findClass_of_methodNamed B.named
  have hlocks := B.notSynchronized
  subst hsz
  have hD := hD0.self (sz := s.heap.size)
  generalize hAe : va_A (wm ad cy v) s.heap.size = A at hD ⊢
  have hA : ∀ q : Nat, s.heap.size ≤ q → A q := fun q h => by rw [← hAe]; exact Or.inr h
  have hS : va_S A s.heap s.heap [] := va_S.rf
  have hP : va_P (dC, dI) vwCl (wm ad cy v) s.heap := hP
  have hl := lv_entry ([.ref (ad 0), .int x0]) (n := 2) (Nat.le_of_ble_eq_true rfl)
  rw [lg_entry_eq]
  generalize (lg_sl ([.ref (ad 0), .int x0]) ++ List.replicate (2 - (lg_sl ([.ref (ad 0), .int x0])).length) Slot.unset).toArray = ls at hl ⊢
  have hl : lv_has ls 2 [(0, .ref (ad 0)), (1, .int x0)] := hl
  refine lv_iload_n hx hb dX8_many_0 rfl (lv_at hl 1 rfl) ?_
  rcases sw_11 x0 with hsw | hsw | hsw | hsw | hsw | hsw | hsw | hsw | hsw | hsw | hsw | hsw
  · refine lv_tableOut (tgt := 129) hx hb dX8_many_1 hsw (by decide) ?_
    refine lv_iconst (v := (-1)) hx hb dX8_many_129 (by decide) ?_
    have hpost : (x0.toInt = 0 → (((-1) : Int32) = v 1 0) ∧ Fq v v) ∧ (x0.toInt = 1 → (((-1) : Int32) = v 1 1) ∧ Fq v v) ∧ (x0.toInt = 2 → (((-1) : Int32) = v 1 2) ∧ Fq v v) ∧ (x0.toInt = 3 → (((-1) : Int32).toInt = cN (fun c => if (v 1 (34 + 7 * c)).toInt = (0 : Int32).toInt then 1 else 0) (v 1 2).toNatClampNeg) ∧ Fq v v) ∧ (x0.toInt = 4 → (((-1) : Int32).toInt = cN (fun c => if (v 1 (34 + 7 * c)).toInt = (1 : Int32).toInt then 1 else 0) (v 1 2).toNatClampNeg) ∧ Fq v v) ∧ (x0.toInt = 5 → (((-1) : Int32) = v 1 3) ∧ Fq v v) ∧ (x0.toInt = 6 → (HD (v 1) (v 3) ∧ ((-1) : Int32).toInt = cN (fun c => if (v 3 c).toInt = ((c : Nat) : Int) then 1 else 0) (v 1 2).toNatClampNeg) ∧ Fq v v) ∧ (x0.toInt = 7 → (((-1) : Int32).toInt = cN (fun c => cN (fun t => if (-1 : Int32).toInt < 0 ∨ (jF (v 1 (159 + 25 * c + 5 * t)) (fun h => v 1 (308 + 48 * c + 24 * (v 1 (158 + 25 * c + 5 * t)).toNatClampNeg + h)) (v 1 (161 + 25 * c + 5 * t)) (v 1 (162 + 25 * c + 5 * t)) (v 1 (160 + 25 * c + 5 * t))).toInt = (-1 : Int32).toInt then 1 else 0) (v 1 (38 + 7 * c)).toNatClampNeg) (v 1 2).toNatClampNeg) ∧ Fq v v) ∧ (x0.toInt = 8 → (((-1) : Int32).toInt = cN (fun c => cN (fun t => if (1 : Int32).toInt < 0 ∨ (jF (v 1 (159 + 25 * c + 5 * t)) (fun h => v 1 (308 + 48 * c + 24 * (v 1 (158 + 25 * c + 5 * t)).toNatClampNeg + h)) (v 1 (161 + 25 * c + 5 * t)) (v 1 (162 + 25 * c + 5 * t)) (v 1 (160 + 25 * c + 5 * t))).toInt = (1 : Int32).toInt then 1 else 0) (v 1 (38 + 7 * c)).toNatClampNeg) (v 1 2).toNatClampNeg) ∧ Fq v v) ∧ (x0.toInt = 9 → (((-1) : Int32).toInt = cN (fun c => cN (fun t => if (0 : Int32).toInt < 0 ∨ (jF (v 1 (159 + 25 * c + 5 * t)) (fun h => v 1 (308 + 48 * c + 24 * (v 1 (158 + 25 * c + 5 * t)).toNatClampNeg + h)) (v 1 (161 + 25 * c + 5 * t)) (v 1 (162 + 25 * c + 5 * t)) (v 1 (160 + 25 * c + 5 * t))).toInt = (0 : Int32).toInt then 1 else 0) (v 1 (38 + 7 * c)).toNatClampNeg) (v 1 2).toNatClampNeg) ∧ Fq v v) ∧ (x0.toInt = 10 → (((-1) : Int32).toInt = cN (fun c => cN (fun t => if (2 : Int32).toInt < 0 ∨ (jF (v 1 (159 + 25 * c + 5 * t)) (fun h => v 1 (308 + 48 * c + 24 * (v 1 (158 + 25 * c + 5 * t)).toNatClampNeg + h)) (v 1 (161 + 25 * c + 5 * t)) (v 1 (162 + 25 * c + 5 * t)) (v 1 (160 + 25 * c + 5 * t))).toInt = (2 : Int32).toInt then 1 else 0) (v 1 (38 + 7 * c)).toNatClampNeg) (v 1 2).toNatClampNeg) ∧ Fq v v) ∧ ((x0.toInt < 0 ∨ 10 < x0.toInt) → (((-1) : Int32) = -1) ∧ Fq v v) := by
      refine ⟨fun hq => ?_, fun hq => ?_, fun hq => ?_, fun hq => ?_, fun hq => ?_, fun hq => ?_, fun hq => ?_, fun hq => ?_, fun hq => ?_, fun hq => ?_, fun hq => ?_, fun hq => ?_⟩
      · exfalso; omega
      · exfalso; omega
      · exfalso; omega
      · exfalso; omega
      · exfalso; omega
      · exfalso; omega
      · exfalso; omega
      · exfalso; omega
      · exfalso; omega
      · exfalso; omega
      · exfalso; omega
      · exact ⟨rfl, Fq.rf⟩
    exact W.iret (v := (-1)) hx hb hr (fun t ht hW => ⟨⟨(-1), v, rfl, ⟨hv, hpost⟩, by rw [ht]; exact hP, hD⟩, hS.F ht⟩) hS.2.2 dX8_many_130
  · refine lv_tableIn (off := 59) (tgt := 60) hx hb dX8_many_1 (by rw [hsw]; decide) (by rw [hsw]; decide) (by rw [hsw]; decide) (by decide) ?_
    have k_0 : (0 : Int32).toInt = 0 := by decide
    have tsw : x0.toInt = 0 := by rw [hsw]; decide
    refine lv_aload_n hx hb dX8_many_60 rfl (lv_at hl 0 rfl) ?_
    refine va_get (D := (dC, dI)) (ci := 8) (v := .ref (ad 1)) (C := RX8) (T := TX8) (N := 11) hx hb hts iwX8_many_X8 hown hK hP (0) (wm_at (by decide) rc_0) rfl 0 (by decide) (hts (.fieldLink RX8 7 "QuietStairsModel" "s" "[I") fwX8_many_1) (fun _ h9 => h9) rfl dX8_many_61 ?_
    refine lv_iconst (v := 0) hx hb dX8_many_64 (by decide) ?_
    refine va_iald hx hb hK hP (1) 0 (wm_at (by decide) rc_1) rfl (by unfold vp_in; decide) dX8_many_65 ?_
    refine lv_topi (fun x_1 ex_1 => ?_)
    have ex_1 : x_1 = v 1 0 := ex_1
    have bzx_1 : 0 ≤ x_1.toInt ∧ x_1.toInt ≤ 8 := by rw [ex_1]; exact hv 1 _ 8 (show bS 0 = some 8 from by decide)
    have qx_1 : x_1.toInt = (v 1 (0)).toInt := congrArg Int32.toInt ex_1
    have hpost : (x0.toInt = 0 → (x_1 = v 1 0) ∧ Fq v v) ∧ (x0.toInt = 1 → (x_1 = v 1 1) ∧ Fq v v) ∧ (x0.toInt = 2 → (x_1 = v 1 2) ∧ Fq v v) ∧ (x0.toInt = 3 → (x_1.toInt = cN (fun c => if (v 1 (34 + 7 * c)).toInt = (0 : Int32).toInt then 1 else 0) (v 1 2).toNatClampNeg) ∧ Fq v v) ∧ (x0.toInt = 4 → (x_1.toInt = cN (fun c => if (v 1 (34 + 7 * c)).toInt = (1 : Int32).toInt then 1 else 0) (v 1 2).toNatClampNeg) ∧ Fq v v) ∧ (x0.toInt = 5 → (x_1 = v 1 3) ∧ Fq v v) ∧ (x0.toInt = 6 → (HD (v 1) (v 3) ∧ x_1.toInt = cN (fun c => if (v 3 c).toInt = ((c : Nat) : Int) then 1 else 0) (v 1 2).toNatClampNeg) ∧ Fq v v) ∧ (x0.toInt = 7 → (x_1.toInt = cN (fun c => cN (fun t => if (-1 : Int32).toInt < 0 ∨ (jF (v 1 (159 + 25 * c + 5 * t)) (fun h => v 1 (308 + 48 * c + 24 * (v 1 (158 + 25 * c + 5 * t)).toNatClampNeg + h)) (v 1 (161 + 25 * c + 5 * t)) (v 1 (162 + 25 * c + 5 * t)) (v 1 (160 + 25 * c + 5 * t))).toInt = (-1 : Int32).toInt then 1 else 0) (v 1 (38 + 7 * c)).toNatClampNeg) (v 1 2).toNatClampNeg) ∧ Fq v v) ∧ (x0.toInt = 8 → (x_1.toInt = cN (fun c => cN (fun t => if (1 : Int32).toInt < 0 ∨ (jF (v 1 (159 + 25 * c + 5 * t)) (fun h => v 1 (308 + 48 * c + 24 * (v 1 (158 + 25 * c + 5 * t)).toNatClampNeg + h)) (v 1 (161 + 25 * c + 5 * t)) (v 1 (162 + 25 * c + 5 * t)) (v 1 (160 + 25 * c + 5 * t))).toInt = (1 : Int32).toInt then 1 else 0) (v 1 (38 + 7 * c)).toNatClampNeg) (v 1 2).toNatClampNeg) ∧ Fq v v) ∧ (x0.toInt = 9 → (x_1.toInt = cN (fun c => cN (fun t => if (0 : Int32).toInt < 0 ∨ (jF (v 1 (159 + 25 * c + 5 * t)) (fun h => v 1 (308 + 48 * c + 24 * (v 1 (158 + 25 * c + 5 * t)).toNatClampNeg + h)) (v 1 (161 + 25 * c + 5 * t)) (v 1 (162 + 25 * c + 5 * t)) (v 1 (160 + 25 * c + 5 * t))).toInt = (0 : Int32).toInt then 1 else 0) (v 1 (38 + 7 * c)).toNatClampNeg) (v 1 2).toNatClampNeg) ∧ Fq v v) ∧ (x0.toInt = 10 → (x_1.toInt = cN (fun c => cN (fun t => if (2 : Int32).toInt < 0 ∨ (jF (v 1 (159 + 25 * c + 5 * t)) (fun h => v 1 (308 + 48 * c + 24 * (v 1 (158 + 25 * c + 5 * t)).toNatClampNeg + h)) (v 1 (161 + 25 * c + 5 * t)) (v 1 (162 + 25 * c + 5 * t)) (v 1 (160 + 25 * c + 5 * t))).toInt = (2 : Int32).toInt then 1 else 0) (v 1 (38 + 7 * c)).toNatClampNeg) (v 1 2).toNatClampNeg) ∧ Fq v v) ∧ ((x0.toInt < 0 ∨ 10 < x0.toInt) → (x_1 = -1) ∧ Fq v v) := by
      refine ⟨fun hq => ?_, fun hq => ?_, fun hq => ?_, fun hq => ?_, fun hq => ?_, fun hq => ?_, fun hq => ?_, fun hq => ?_, fun hq => ?_, fun hq => ?_, fun hq => ?_, fun hq => ?_⟩
      · exact ⟨by rw [ex_1], Fq.rf⟩
      · exfalso; omega
      · exfalso; omega
      · exfalso; omega
      · exfalso; omega
      · exfalso; omega
      · exfalso; omega
      · exfalso; omega
      · exfalso; omega
      · exfalso; omega
      · exfalso; omega
      · exfalso; omega
    exact W.iret (v := x_1) hx hb hr (fun t ht hW => ⟨⟨x_1, v, rfl, ⟨hv, hpost⟩, by rw [ht]; exact hP, hD⟩, hS.F ht⟩) hS.2.2 dX8_many_66
  · refine lv_tableIn (off := 66) (tgt := 67) hx hb dX8_many_1 (by rw [hsw]; decide) (by rw [hsw]; decide) (by rw [hsw]; decide) (by decide) ?_
    have k_1 : (1 : Int32).toInt = 1 := by decide
    have tsw : x0.toInt = 1 := by rw [hsw]; decide
    refine lv_aload_n hx hb dX8_many_67 rfl (lv_at hl 0 rfl) ?_
    refine va_get (D := (dC, dI)) (ci := 8) (v := .ref (ad 1)) (C := RX8) (T := TX8) (N := 11) hx hb hts iwX8_many_X8 hown hK hP (0) (wm_at (by decide) rc_0) rfl 0 (by decide) (hts (.fieldLink RX8 7 "QuietStairsModel" "s" "[I") fwX8_many_1) (fun _ h9 => h9) rfl dX8_many_68 ?_
    refine lv_iconst (v := 1) hx hb dX8_many_71 (by decide) ?_
    refine va_iald hx hb hK hP (1) 0 (wm_at (by decide) rc_1) rfl (by unfold vp_in; decide) dX8_many_72 ?_
    refine lv_topi (fun x_1 ex_1 => ?_)
    have ex_1 : x_1 = v 1 1 := ex_1
    have bzx_1 : 0 ≤ x_1.toInt ∧ x_1.toInt ≤ 4 := by rw [ex_1]; exact hv 1 _ 4 (show bS 1 = some 4 from by decide)
    have qx_1 : x_1.toInt = (v 1 (1)).toInt := congrArg Int32.toInt ex_1
    have hpost : (x0.toInt = 0 → (x_1 = v 1 0) ∧ Fq v v) ∧ (x0.toInt = 1 → (x_1 = v 1 1) ∧ Fq v v) ∧ (x0.toInt = 2 → (x_1 = v 1 2) ∧ Fq v v) ∧ (x0.toInt = 3 → (x_1.toInt = cN (fun c => if (v 1 (34 + 7 * c)).toInt = (0 : Int32).toInt then 1 else 0) (v 1 2).toNatClampNeg) ∧ Fq v v) ∧ (x0.toInt = 4 → (x_1.toInt = cN (fun c => if (v 1 (34 + 7 * c)).toInt = (1 : Int32).toInt then 1 else 0) (v 1 2).toNatClampNeg) ∧ Fq v v) ∧ (x0.toInt = 5 → (x_1 = v 1 3) ∧ Fq v v) ∧ (x0.toInt = 6 → (HD (v 1) (v 3) ∧ x_1.toInt = cN (fun c => if (v 3 c).toInt = ((c : Nat) : Int) then 1 else 0) (v 1 2).toNatClampNeg) ∧ Fq v v) ∧ (x0.toInt = 7 → (x_1.toInt = cN (fun c => cN (fun t => if (-1 : Int32).toInt < 0 ∨ (jF (v 1 (159 + 25 * c + 5 * t)) (fun h => v 1 (308 + 48 * c + 24 * (v 1 (158 + 25 * c + 5 * t)).toNatClampNeg + h)) (v 1 (161 + 25 * c + 5 * t)) (v 1 (162 + 25 * c + 5 * t)) (v 1 (160 + 25 * c + 5 * t))).toInt = (-1 : Int32).toInt then 1 else 0) (v 1 (38 + 7 * c)).toNatClampNeg) (v 1 2).toNatClampNeg) ∧ Fq v v) ∧ (x0.toInt = 8 → (x_1.toInt = cN (fun c => cN (fun t => if (1 : Int32).toInt < 0 ∨ (jF (v 1 (159 + 25 * c + 5 * t)) (fun h => v 1 (308 + 48 * c + 24 * (v 1 (158 + 25 * c + 5 * t)).toNatClampNeg + h)) (v 1 (161 + 25 * c + 5 * t)) (v 1 (162 + 25 * c + 5 * t)) (v 1 (160 + 25 * c + 5 * t))).toInt = (1 : Int32).toInt then 1 else 0) (v 1 (38 + 7 * c)).toNatClampNeg) (v 1 2).toNatClampNeg) ∧ Fq v v) ∧ (x0.toInt = 9 → (x_1.toInt = cN (fun c => cN (fun t => if (0 : Int32).toInt < 0 ∨ (jF (v 1 (159 + 25 * c + 5 * t)) (fun h => v 1 (308 + 48 * c + 24 * (v 1 (158 + 25 * c + 5 * t)).toNatClampNeg + h)) (v 1 (161 + 25 * c + 5 * t)) (v 1 (162 + 25 * c + 5 * t)) (v 1 (160 + 25 * c + 5 * t))).toInt = (0 : Int32).toInt then 1 else 0) (v 1 (38 + 7 * c)).toNatClampNeg) (v 1 2).toNatClampNeg) ∧ Fq v v) ∧ (x0.toInt = 10 → (x_1.toInt = cN (fun c => cN (fun t => if (2 : Int32).toInt < 0 ∨ (jF (v 1 (159 + 25 * c + 5 * t)) (fun h => v 1 (308 + 48 * c + 24 * (v 1 (158 + 25 * c + 5 * t)).toNatClampNeg + h)) (v 1 (161 + 25 * c + 5 * t)) (v 1 (162 + 25 * c + 5 * t)) (v 1 (160 + 25 * c + 5 * t))).toInt = (2 : Int32).toInt then 1 else 0) (v 1 (38 + 7 * c)).toNatClampNeg) (v 1 2).toNatClampNeg) ∧ Fq v v) ∧ ((x0.toInt < 0 ∨ 10 < x0.toInt) → (x_1 = -1) ∧ Fq v v) := by
      refine ⟨fun hq => ?_, fun hq => ?_, fun hq => ?_, fun hq => ?_, fun hq => ?_, fun hq => ?_, fun hq => ?_, fun hq => ?_, fun hq => ?_, fun hq => ?_, fun hq => ?_, fun hq => ?_⟩
      · exfalso; omega
      · exact ⟨by rw [ex_1], Fq.rf⟩
      · exfalso; omega
      · exfalso; omega
      · exfalso; omega
      · exfalso; omega
      · exfalso; omega
      · exfalso; omega
      · exfalso; omega
      · exfalso; omega
      · exfalso; omega
      · exfalso; omega
    exact W.iret (v := x_1) hx hb hr (fun t ht hW => ⟨⟨x_1, v, rfl, ⟨hv, hpost⟩, by rw [ht]; exact hP, hD⟩, hS.F ht⟩) hS.2.2 dX8_many_73
  · refine lv_tableIn (off := 73) (tgt := 74) hx hb dX8_many_1 (by rw [hsw]; decide) (by rw [hsw]; decide) (by rw [hsw]; decide) (by decide) ?_
    have k_2 : (2 : Int32).toInt = 2 := by decide
    have tsw : x0.toInt = 2 := by rw [hsw]; decide
    refine lv_aload_n hx hb dX8_many_74 rfl (lv_at hl 0 rfl) ?_
    refine va_get (D := (dC, dI)) (ci := 8) (v := .ref (ad 1)) (C := RX8) (T := TX8) (N := 11) hx hb hts iwX8_many_X8 hown hK hP (0) (wm_at (by decide) rc_0) rfl 0 (by decide) (hts (.fieldLink RX8 7 "QuietStairsModel" "s" "[I") fwX8_many_1) (fun _ h9 => h9) rfl dX8_many_75 ?_
    refine lv_iconst (v := 2) hx hb dX8_many_78 (by decide) ?_
    refine va_iald hx hb hK hP (1) 0 (wm_at (by decide) rc_1) rfl (by unfold vp_in; decide) dX8_many_79 ?_
    refine lv_topi (fun x_1 ex_1 => ?_)
    have ex_1 : x_1 = v 1 2 := ex_1
    have bzx_1 : 0 ≤ x_1.toInt ∧ x_1.toInt ≤ 6 := by rw [ex_1]; exact hv 1 _ 6 (show bS 2 = some 6 from by decide)
    have qx_1 : x_1.toInt = (v 1 (2)).toInt := congrArg Int32.toInt ex_1
    have hpost : (x0.toInt = 0 → (x_1 = v 1 0) ∧ Fq v v) ∧ (x0.toInt = 1 → (x_1 = v 1 1) ∧ Fq v v) ∧ (x0.toInt = 2 → (x_1 = v 1 2) ∧ Fq v v) ∧ (x0.toInt = 3 → (x_1.toInt = cN (fun c => if (v 1 (34 + 7 * c)).toInt = (0 : Int32).toInt then 1 else 0) (v 1 2).toNatClampNeg) ∧ Fq v v) ∧ (x0.toInt = 4 → (x_1.toInt = cN (fun c => if (v 1 (34 + 7 * c)).toInt = (1 : Int32).toInt then 1 else 0) (v 1 2).toNatClampNeg) ∧ Fq v v) ∧ (x0.toInt = 5 → (x_1 = v 1 3) ∧ Fq v v) ∧ (x0.toInt = 6 → (HD (v 1) (v 3) ∧ x_1.toInt = cN (fun c => if (v 3 c).toInt = ((c : Nat) : Int) then 1 else 0) (v 1 2).toNatClampNeg) ∧ Fq v v) ∧ (x0.toInt = 7 → (x_1.toInt = cN (fun c => cN (fun t => if (-1 : Int32).toInt < 0 ∨ (jF (v 1 (159 + 25 * c + 5 * t)) (fun h => v 1 (308 + 48 * c + 24 * (v 1 (158 + 25 * c + 5 * t)).toNatClampNeg + h)) (v 1 (161 + 25 * c + 5 * t)) (v 1 (162 + 25 * c + 5 * t)) (v 1 (160 + 25 * c + 5 * t))).toInt = (-1 : Int32).toInt then 1 else 0) (v 1 (38 + 7 * c)).toNatClampNeg) (v 1 2).toNatClampNeg) ∧ Fq v v) ∧ (x0.toInt = 8 → (x_1.toInt = cN (fun c => cN (fun t => if (1 : Int32).toInt < 0 ∨ (jF (v 1 (159 + 25 * c + 5 * t)) (fun h => v 1 (308 + 48 * c + 24 * (v 1 (158 + 25 * c + 5 * t)).toNatClampNeg + h)) (v 1 (161 + 25 * c + 5 * t)) (v 1 (162 + 25 * c + 5 * t)) (v 1 (160 + 25 * c + 5 * t))).toInt = (1 : Int32).toInt then 1 else 0) (v 1 (38 + 7 * c)).toNatClampNeg) (v 1 2).toNatClampNeg) ∧ Fq v v) ∧ (x0.toInt = 9 → (x_1.toInt = cN (fun c => cN (fun t => if (0 : Int32).toInt < 0 ∨ (jF (v 1 (159 + 25 * c + 5 * t)) (fun h => v 1 (308 + 48 * c + 24 * (v 1 (158 + 25 * c + 5 * t)).toNatClampNeg + h)) (v 1 (161 + 25 * c + 5 * t)) (v 1 (162 + 25 * c + 5 * t)) (v 1 (160 + 25 * c + 5 * t))).toInt = (0 : Int32).toInt then 1 else 0) (v 1 (38 + 7 * c)).toNatClampNeg) (v 1 2).toNatClampNeg) ∧ Fq v v) ∧ (x0.toInt = 10 → (x_1.toInt = cN (fun c => cN (fun t => if (2 : Int32).toInt < 0 ∨ (jF (v 1 (159 + 25 * c + 5 * t)) (fun h => v 1 (308 + 48 * c + 24 * (v 1 (158 + 25 * c + 5 * t)).toNatClampNeg + h)) (v 1 (161 + 25 * c + 5 * t)) (v 1 (162 + 25 * c + 5 * t)) (v 1 (160 + 25 * c + 5 * t))).toInt = (2 : Int32).toInt then 1 else 0) (v 1 (38 + 7 * c)).toNatClampNeg) (v 1 2).toNatClampNeg) ∧ Fq v v) ∧ ((x0.toInt < 0 ∨ 10 < x0.toInt) → (x_1 = -1) ∧ Fq v v) := by
      refine ⟨fun hq => ?_, fun hq => ?_, fun hq => ?_, fun hq => ?_, fun hq => ?_, fun hq => ?_, fun hq => ?_, fun hq => ?_, fun hq => ?_, fun hq => ?_, fun hq => ?_, fun hq => ?_⟩
      · exfalso; omega
      · exfalso; omega
      · exact ⟨by rw [ex_1], Fq.rf⟩
      · exfalso; omega
      · exfalso; omega
      · exfalso; omega
      · exfalso; omega
      · exfalso; omega
      · exfalso; omega
      · exfalso; omega
      · exfalso; omega
      · exfalso; omega
    exact W.iret (v := x_1) hx hb hr (fun t ht hW => ⟨⟨x_1, v, rfl, ⟨hv, hpost⟩, by rw [ht]; exact hP, hD⟩, hS.F ht⟩) hS.2.2 dX8_many_80
  · refine lv_tableIn (off := 80) (tgt := 81) hx hb dX8_many_1 (by rw [hsw]; decide) (by rw [hsw]; decide) (by rw [hsw]; decide) (by decide) ?_
    have k_3 : (3 : Int32).toInt = 3 := by decide
    have tsw : x0.toInt = 3 := by rw [hsw]; decide
    refine lv_aload_n hx hb dX8_many_81 rfl (lv_at hl 0 rfl) ?_
    refine lv_iconst (v := 0) hx hb dX8_many_82 (by decide) ?_
    have k_0 : (0 : Int32).toInt = 0 := by decide
    refine yw_i (w1 := fun (u : Nat → Nat → Int32) => wm ad cy u) hD hS hA (va_runV (As := [.int 0]) (rest := []) ⟨hx, hb, hml, hown, hts⟩ (e_X8_casesThat l dC dI cy _ ad v hv (0 : Int32)) (cwV 1 hts gX8_many_X8_casesThat rfl rfl rfl hd_V_X8_casesThat_1 ⟨Nat.le_of_ble_eq_true rfl, Nat.le_of_ble_eq_true rfl⟩) (yw_preV hE hK hP hD (ci := 8) (q := (RX8, TX8, 11)) (q0 := 0) rfl (wm_at (by decide) rc_0)) rfl rfl hl.1 rfl (lv_room (Nat.le_of_ble_eq_true rfl)) dX8_many_83 ⟨Nat.le_of_ble_eq_true rfl, Nat.le_of_ble_eq_true rfl⟩) (fun r_1 v_1 H locs hw_1 hP hD hS => ?_)
    obtain ⟨-, hu_1, hw_1⟩ := hw_1
    replace hu_1 := hu_1.symm
    subst hu_1
    have hpost : (x0.toInt = 0 → (r_1 = v 1 0) ∧ Fq v v) ∧ (x0.toInt = 1 → (r_1 = v 1 1) ∧ Fq v v) ∧ (x0.toInt = 2 → (r_1 = v 1 2) ∧ Fq v v) ∧ (x0.toInt = 3 → (r_1.toInt = cN (fun c => if (v 1 (34 + 7 * c)).toInt = (0 : Int32).toInt then 1 else 0) (v 1 2).toNatClampNeg) ∧ Fq v v) ∧ (x0.toInt = 4 → (r_1.toInt = cN (fun c => if (v 1 (34 + 7 * c)).toInt = (1 : Int32).toInt then 1 else 0) (v 1 2).toNatClampNeg) ∧ Fq v v) ∧ (x0.toInt = 5 → (r_1 = v 1 3) ∧ Fq v v) ∧ (x0.toInt = 6 → (HD (v 1) (v 3) ∧ r_1.toInt = cN (fun c => if (v 3 c).toInt = ((c : Nat) : Int) then 1 else 0) (v 1 2).toNatClampNeg) ∧ Fq v v) ∧ (x0.toInt = 7 → (r_1.toInt = cN (fun c => cN (fun t => if (-1 : Int32).toInt < 0 ∨ (jF (v 1 (159 + 25 * c + 5 * t)) (fun h => v 1 (308 + 48 * c + 24 * (v 1 (158 + 25 * c + 5 * t)).toNatClampNeg + h)) (v 1 (161 + 25 * c + 5 * t)) (v 1 (162 + 25 * c + 5 * t)) (v 1 (160 + 25 * c + 5 * t))).toInt = (-1 : Int32).toInt then 1 else 0) (v 1 (38 + 7 * c)).toNatClampNeg) (v 1 2).toNatClampNeg) ∧ Fq v v) ∧ (x0.toInt = 8 → (r_1.toInt = cN (fun c => cN (fun t => if (1 : Int32).toInt < 0 ∨ (jF (v 1 (159 + 25 * c + 5 * t)) (fun h => v 1 (308 + 48 * c + 24 * (v 1 (158 + 25 * c + 5 * t)).toNatClampNeg + h)) (v 1 (161 + 25 * c + 5 * t)) (v 1 (162 + 25 * c + 5 * t)) (v 1 (160 + 25 * c + 5 * t))).toInt = (1 : Int32).toInt then 1 else 0) (v 1 (38 + 7 * c)).toNatClampNeg) (v 1 2).toNatClampNeg) ∧ Fq v v) ∧ (x0.toInt = 9 → (r_1.toInt = cN (fun c => cN (fun t => if (0 : Int32).toInt < 0 ∨ (jF (v 1 (159 + 25 * c + 5 * t)) (fun h => v 1 (308 + 48 * c + 24 * (v 1 (158 + 25 * c + 5 * t)).toNatClampNeg + h)) (v 1 (161 + 25 * c + 5 * t)) (v 1 (162 + 25 * c + 5 * t)) (v 1 (160 + 25 * c + 5 * t))).toInt = (0 : Int32).toInt then 1 else 0) (v 1 (38 + 7 * c)).toNatClampNeg) (v 1 2).toNatClampNeg) ∧ Fq v v) ∧ (x0.toInt = 10 → (r_1.toInt = cN (fun c => cN (fun t => if (2 : Int32).toInt < 0 ∨ (jF (v 1 (159 + 25 * c + 5 * t)) (fun h => v 1 (308 + 48 * c + 24 * (v 1 (158 + 25 * c + 5 * t)).toNatClampNeg + h)) (v 1 (161 + 25 * c + 5 * t)) (v 1 (162 + 25 * c + 5 * t)) (v 1 (160 + 25 * c + 5 * t))).toInt = (2 : Int32).toInt then 1 else 0) (v 1 (38 + 7 * c)).toNatClampNeg) (v 1 2).toNatClampNeg) ∧ Fq v v) ∧ ((x0.toInt < 0 ∨ 10 < x0.toInt) → (r_1 = -1) ∧ Fq v v) := by
      refine ⟨fun hq => ?_, fun hq => ?_, fun hq => ?_, fun hq => ?_, fun hq => ?_, fun hq => ?_, fun hq => ?_, fun hq => ?_, fun hq => ?_, fun hq => ?_, fun hq => ?_, fun hq => ?_⟩
      · exfalso; omega
      · exfalso; omega
      · exfalso; omega
      · exact ⟨hw_1, Fq.rf⟩
      · exfalso; omega
      · exfalso; omega
      · exfalso; omega
      · exfalso; omega
      · exfalso; omega
      · exfalso; omega
      · exfalso; omega
      · exfalso; omega
    exact W.iret (v := r_1) hx hb hr (fun t ht hW => ⟨⟨r_1, v, rfl, ⟨hv, hpost⟩, by rw [ht]; exact hP, hD⟩, hS.F ht⟩) hS.2.2 dX8_many_86
  · refine lv_tableIn (off := 86) (tgt := 87) hx hb dX8_many_1 (by rw [hsw]; decide) (by rw [hsw]; decide) (by rw [hsw]; decide) (by decide) ?_
    have k_4 : (4 : Int32).toInt = 4 := by decide
    have tsw : x0.toInt = 4 := by rw [hsw]; decide
    refine lv_aload_n hx hb dX8_many_87 rfl (lv_at hl 0 rfl) ?_
    refine lv_iconst (v := 1) hx hb dX8_many_88 (by decide) ?_
    have k_1 : (1 : Int32).toInt = 1 := by decide
    refine yw_i (w1 := fun (u : Nat → Nat → Int32) => wm ad cy u) hD hS hA (va_runV (As := [.int 1]) (rest := []) ⟨hx, hb, hml, hown, hts⟩ (e_X8_casesThat l dC dI cy _ ad v hv (1 : Int32)) (cwV 1 hts gX8_many_X8_casesThat rfl rfl rfl hd_V_X8_casesThat_1 ⟨Nat.le_of_ble_eq_true rfl, Nat.le_of_ble_eq_true rfl⟩) (yw_preV hE hK hP hD (ci := 8) (q := (RX8, TX8, 11)) (q0 := 0) rfl (wm_at (by decide) rc_0)) rfl rfl hl.1 rfl (lv_room (Nat.le_of_ble_eq_true rfl)) dX8_many_89 ⟨Nat.le_of_ble_eq_true rfl, Nat.le_of_ble_eq_true rfl⟩) (fun r_1 v_1 H locs hw_1 hP hD hS => ?_)
    obtain ⟨-, hu_1, hw_1⟩ := hw_1
    replace hu_1 := hu_1.symm
    subst hu_1
    have hpost : (x0.toInt = 0 → (r_1 = v 1 0) ∧ Fq v v) ∧ (x0.toInt = 1 → (r_1 = v 1 1) ∧ Fq v v) ∧ (x0.toInt = 2 → (r_1 = v 1 2) ∧ Fq v v) ∧ (x0.toInt = 3 → (r_1.toInt = cN (fun c => if (v 1 (34 + 7 * c)).toInt = (0 : Int32).toInt then 1 else 0) (v 1 2).toNatClampNeg) ∧ Fq v v) ∧ (x0.toInt = 4 → (r_1.toInt = cN (fun c => if (v 1 (34 + 7 * c)).toInt = (1 : Int32).toInt then 1 else 0) (v 1 2).toNatClampNeg) ∧ Fq v v) ∧ (x0.toInt = 5 → (r_1 = v 1 3) ∧ Fq v v) ∧ (x0.toInt = 6 → (HD (v 1) (v 3) ∧ r_1.toInt = cN (fun c => if (v 3 c).toInt = ((c : Nat) : Int) then 1 else 0) (v 1 2).toNatClampNeg) ∧ Fq v v) ∧ (x0.toInt = 7 → (r_1.toInt = cN (fun c => cN (fun t => if (-1 : Int32).toInt < 0 ∨ (jF (v 1 (159 + 25 * c + 5 * t)) (fun h => v 1 (308 + 48 * c + 24 * (v 1 (158 + 25 * c + 5 * t)).toNatClampNeg + h)) (v 1 (161 + 25 * c + 5 * t)) (v 1 (162 + 25 * c + 5 * t)) (v 1 (160 + 25 * c + 5 * t))).toInt = (-1 : Int32).toInt then 1 else 0) (v 1 (38 + 7 * c)).toNatClampNeg) (v 1 2).toNatClampNeg) ∧ Fq v v) ∧ (x0.toInt = 8 → (r_1.toInt = cN (fun c => cN (fun t => if (1 : Int32).toInt < 0 ∨ (jF (v 1 (159 + 25 * c + 5 * t)) (fun h => v 1 (308 + 48 * c + 24 * (v 1 (158 + 25 * c + 5 * t)).toNatClampNeg + h)) (v 1 (161 + 25 * c + 5 * t)) (v 1 (162 + 25 * c + 5 * t)) (v 1 (160 + 25 * c + 5 * t))).toInt = (1 : Int32).toInt then 1 else 0) (v 1 (38 + 7 * c)).toNatClampNeg) (v 1 2).toNatClampNeg) ∧ Fq v v) ∧ (x0.toInt = 9 → (r_1.toInt = cN (fun c => cN (fun t => if (0 : Int32).toInt < 0 ∨ (jF (v 1 (159 + 25 * c + 5 * t)) (fun h => v 1 (308 + 48 * c + 24 * (v 1 (158 + 25 * c + 5 * t)).toNatClampNeg + h)) (v 1 (161 + 25 * c + 5 * t)) (v 1 (162 + 25 * c + 5 * t)) (v 1 (160 + 25 * c + 5 * t))).toInt = (0 : Int32).toInt then 1 else 0) (v 1 (38 + 7 * c)).toNatClampNeg) (v 1 2).toNatClampNeg) ∧ Fq v v) ∧ (x0.toInt = 10 → (r_1.toInt = cN (fun c => cN (fun t => if (2 : Int32).toInt < 0 ∨ (jF (v 1 (159 + 25 * c + 5 * t)) (fun h => v 1 (308 + 48 * c + 24 * (v 1 (158 + 25 * c + 5 * t)).toNatClampNeg + h)) (v 1 (161 + 25 * c + 5 * t)) (v 1 (162 + 25 * c + 5 * t)) (v 1 (160 + 25 * c + 5 * t))).toInt = (2 : Int32).toInt then 1 else 0) (v 1 (38 + 7 * c)).toNatClampNeg) (v 1 2).toNatClampNeg) ∧ Fq v v) ∧ ((x0.toInt < 0 ∨ 10 < x0.toInt) → (r_1 = -1) ∧ Fq v v) := by
      refine ⟨fun hq => ?_, fun hq => ?_, fun hq => ?_, fun hq => ?_, fun hq => ?_, fun hq => ?_, fun hq => ?_, fun hq => ?_, fun hq => ?_, fun hq => ?_, fun hq => ?_, fun hq => ?_⟩
      · exfalso; omega
      · exfalso; omega
      · exfalso; omega
      · exfalso; omega
      · exact ⟨hw_1, Fq.rf⟩
      · exfalso; omega
      · exfalso; omega
      · exfalso; omega
      · exfalso; omega
      · exfalso; omega
      · exfalso; omega
      · exfalso; omega
    exact W.iret (v := r_1) hx hb hr (fun t ht hW => ⟨⟨r_1, v, rfl, ⟨hv, hpost⟩, by rw [ht]; exact hP, hD⟩, hS.F ht⟩) hS.2.2 dX8_many_92
  · refine lv_tableIn (off := 92) (tgt := 93) hx hb dX8_many_1 (by rw [hsw]; decide) (by rw [hsw]; decide) (by rw [hsw]; decide) (by decide) ?_
    have k_5 : (5 : Int32).toInt = 5 := by decide
    have tsw : x0.toInt = 5 := by rw [hsw]; decide
    refine lv_aload_n hx hb dX8_many_93 rfl (lv_at hl 0 rfl) ?_
    refine va_get (D := (dC, dI)) (ci := 8) (v := .ref (ad 1)) (C := RX8) (T := TX8) (N := 11) hx hb hts iwX8_many_X8 hown hK hP (0) (wm_at (by decide) rc_0) rfl 0 (by decide) (hts (.fieldLink RX8 7 "QuietStairsModel" "s" "[I") fwX8_many_1) (fun _ h9 => h9) rfl dX8_many_94 ?_
    refine lv_iconst (v := 3) hx hb dX8_many_97 (by decide) ?_
    have k_3 : (3 : Int32).toInt = 3 := by decide
    refine va_iald hx hb hK hP (1) 0 (wm_at (by decide) rc_1) rfl (by unfold vp_in; decide) dX8_many_98 ?_
    refine lv_topi (fun x_1 ex_1 => ?_)
    have ex_1 : x_1 = v 1 3 := ex_1
    have bzx_1 : 0 ≤ x_1.toInt ∧ x_1.toInt ≤ 6 := by rw [ex_1]; exact hv 1 _ 6 (show bS 3 = some 6 from by decide)
    have qx_1 : x_1.toInt = (v 1 (3)).toInt := congrArg Int32.toInt ex_1
    have hpost : (x0.toInt = 0 → (x_1 = v 1 0) ∧ Fq v v) ∧ (x0.toInt = 1 → (x_1 = v 1 1) ∧ Fq v v) ∧ (x0.toInt = 2 → (x_1 = v 1 2) ∧ Fq v v) ∧ (x0.toInt = 3 → (x_1.toInt = cN (fun c => if (v 1 (34 + 7 * c)).toInt = (0 : Int32).toInt then 1 else 0) (v 1 2).toNatClampNeg) ∧ Fq v v) ∧ (x0.toInt = 4 → (x_1.toInt = cN (fun c => if (v 1 (34 + 7 * c)).toInt = (1 : Int32).toInt then 1 else 0) (v 1 2).toNatClampNeg) ∧ Fq v v) ∧ (x0.toInt = 5 → (x_1 = v 1 3) ∧ Fq v v) ∧ (x0.toInt = 6 → (HD (v 1) (v 3) ∧ x_1.toInt = cN (fun c => if (v 3 c).toInt = ((c : Nat) : Int) then 1 else 0) (v 1 2).toNatClampNeg) ∧ Fq v v) ∧ (x0.toInt = 7 → (x_1.toInt = cN (fun c => cN (fun t => if (-1 : Int32).toInt < 0 ∨ (jF (v 1 (159 + 25 * c + 5 * t)) (fun h => v 1 (308 + 48 * c + 24 * (v 1 (158 + 25 * c + 5 * t)).toNatClampNeg + h)) (v 1 (161 + 25 * c + 5 * t)) (v 1 (162 + 25 * c + 5 * t)) (v 1 (160 + 25 * c + 5 * t))).toInt = (-1 : Int32).toInt then 1 else 0) (v 1 (38 + 7 * c)).toNatClampNeg) (v 1 2).toNatClampNeg) ∧ Fq v v) ∧ (x0.toInt = 8 → (x_1.toInt = cN (fun c => cN (fun t => if (1 : Int32).toInt < 0 ∨ (jF (v 1 (159 + 25 * c + 5 * t)) (fun h => v 1 (308 + 48 * c + 24 * (v 1 (158 + 25 * c + 5 * t)).toNatClampNeg + h)) (v 1 (161 + 25 * c + 5 * t)) (v 1 (162 + 25 * c + 5 * t)) (v 1 (160 + 25 * c + 5 * t))).toInt = (1 : Int32).toInt then 1 else 0) (v 1 (38 + 7 * c)).toNatClampNeg) (v 1 2).toNatClampNeg) ∧ Fq v v) ∧ (x0.toInt = 9 → (x_1.toInt = cN (fun c => cN (fun t => if (0 : Int32).toInt < 0 ∨ (jF (v 1 (159 + 25 * c + 5 * t)) (fun h => v 1 (308 + 48 * c + 24 * (v 1 (158 + 25 * c + 5 * t)).toNatClampNeg + h)) (v 1 (161 + 25 * c + 5 * t)) (v 1 (162 + 25 * c + 5 * t)) (v 1 (160 + 25 * c + 5 * t))).toInt = (0 : Int32).toInt then 1 else 0) (v 1 (38 + 7 * c)).toNatClampNeg) (v 1 2).toNatClampNeg) ∧ Fq v v) ∧ (x0.toInt = 10 → (x_1.toInt = cN (fun c => cN (fun t => if (2 : Int32).toInt < 0 ∨ (jF (v 1 (159 + 25 * c + 5 * t)) (fun h => v 1 (308 + 48 * c + 24 * (v 1 (158 + 25 * c + 5 * t)).toNatClampNeg + h)) (v 1 (161 + 25 * c + 5 * t)) (v 1 (162 + 25 * c + 5 * t)) (v 1 (160 + 25 * c + 5 * t))).toInt = (2 : Int32).toInt then 1 else 0) (v 1 (38 + 7 * c)).toNatClampNeg) (v 1 2).toNatClampNeg) ∧ Fq v v) ∧ ((x0.toInt < 0 ∨ 10 < x0.toInt) → (x_1 = -1) ∧ Fq v v) := by
      refine ⟨fun hq => ?_, fun hq => ?_, fun hq => ?_, fun hq => ?_, fun hq => ?_, fun hq => ?_, fun hq => ?_, fun hq => ?_, fun hq => ?_, fun hq => ?_, fun hq => ?_, fun hq => ?_⟩
      · exfalso; omega
      · exfalso; omega
      · exfalso; omega
      · exfalso; omega
      · exfalso; omega
      · exact ⟨by rw [ex_1], Fq.rf⟩
      · exfalso; omega
      · exfalso; omega
      · exfalso; omega
      · exfalso; omega
      · exfalso; omega
      · exfalso; omega
    exact W.iret (v := x_1) hx hb hr (fun t ht hW => ⟨⟨x_1, v, rfl, ⟨hv, hpost⟩, by rw [ht]; exact hP, hD⟩, hS.F ht⟩) hS.2.2 dX8_many_99
  · refine lv_tableIn (off := 99) (tgt := 100) hx hb dX8_many_1 (by rw [hsw]; decide) (by rw [hsw]; decide) (by rw [hsw]; decide) (by decide) ?_
    have k_6 : (6 : Int32).toInt = 6 := by decide
    have tsw : x0.toInt = 6 := by rw [hsw]; decide
    refine lv_aload_n hx hb dX8_many_100 rfl (lv_at hl 0 rfl) ?_
    refine yw_i (w1 := fun (u : Nat → Nat → Int32) => wm ad cy u) hD hS hA (va_runV (As := []) (rest := []) ⟨hx, hb, hml, hown, hts⟩ (e_X8_quarrels l dC dI cy _ ad v hv hG) (cwV 0 hts gX8_many_X8_quarrels rfl rfl rfl hd_V_X8_quarrels_0 ⟨Nat.le_of_ble_eq_true rfl, Nat.le_of_ble_eq_true rfl⟩) (yw_preV hE hK hP hD (ci := 8) (q := (RX8, TX8, 11)) (q0 := 0) rfl (wm_at (by decide) rc_0)) rfl rfl hl.1 rfl (lv_room (Nat.le_of_ble_eq_true rfl)) dX8_many_101 ⟨Nat.le_of_ble_eq_true rfl, Nat.le_of_ble_eq_true rfl⟩) (fun r_1 v_1 H locs hw_1 hP hD hS => ?_)
    obtain ⟨hv, hf_1, hw_1⟩ := hw_1
    have hpost : (x0.toInt = 0 → (r_1 = v 1 0) ∧ Fq v v_1) ∧ (x0.toInt = 1 → (r_1 = v 1 1) ∧ Fq v v_1) ∧ (x0.toInt = 2 → (r_1 = v 1 2) ∧ Fq v v_1) ∧ (x0.toInt = 3 → (r_1.toInt = cN (fun c => if (v 1 (34 + 7 * c)).toInt = (0 : Int32).toInt then 1 else 0) (v 1 2).toNatClampNeg) ∧ Fq v v_1) ∧ (x0.toInt = 4 → (r_1.toInt = cN (fun c => if (v 1 (34 + 7 * c)).toInt = (1 : Int32).toInt then 1 else 0) (v 1 2).toNatClampNeg) ∧ Fq v v_1) ∧ (x0.toInt = 5 → (r_1 = v 1 3) ∧ Fq v v_1) ∧ (x0.toInt = 6 → (HD (v 1) (v_1 3) ∧ r_1.toInt = cN (fun c => if (v_1 3 c).toInt = ((c : Nat) : Int) then 1 else 0) (v 1 2).toNatClampNeg) ∧ Fq v v_1) ∧ (x0.toInt = 7 → (r_1.toInt = cN (fun c => cN (fun t => if (-1 : Int32).toInt < 0 ∨ (jF (v 1 (159 + 25 * c + 5 * t)) (fun h => v 1 (308 + 48 * c + 24 * (v 1 (158 + 25 * c + 5 * t)).toNatClampNeg + h)) (v 1 (161 + 25 * c + 5 * t)) (v 1 (162 + 25 * c + 5 * t)) (v 1 (160 + 25 * c + 5 * t))).toInt = (-1 : Int32).toInt then 1 else 0) (v 1 (38 + 7 * c)).toNatClampNeg) (v 1 2).toNatClampNeg) ∧ Fq v v_1) ∧ (x0.toInt = 8 → (r_1.toInt = cN (fun c => cN (fun t => if (1 : Int32).toInt < 0 ∨ (jF (v 1 (159 + 25 * c + 5 * t)) (fun h => v 1 (308 + 48 * c + 24 * (v 1 (158 + 25 * c + 5 * t)).toNatClampNeg + h)) (v 1 (161 + 25 * c + 5 * t)) (v 1 (162 + 25 * c + 5 * t)) (v 1 (160 + 25 * c + 5 * t))).toInt = (1 : Int32).toInt then 1 else 0) (v 1 (38 + 7 * c)).toNatClampNeg) (v 1 2).toNatClampNeg) ∧ Fq v v_1) ∧ (x0.toInt = 9 → (r_1.toInt = cN (fun c => cN (fun t => if (0 : Int32).toInt < 0 ∨ (jF (v 1 (159 + 25 * c + 5 * t)) (fun h => v 1 (308 + 48 * c + 24 * (v 1 (158 + 25 * c + 5 * t)).toNatClampNeg + h)) (v 1 (161 + 25 * c + 5 * t)) (v 1 (162 + 25 * c + 5 * t)) (v 1 (160 + 25 * c + 5 * t))).toInt = (0 : Int32).toInt then 1 else 0) (v 1 (38 + 7 * c)).toNatClampNeg) (v 1 2).toNatClampNeg) ∧ Fq v v_1) ∧ (x0.toInt = 10 → (r_1.toInt = cN (fun c => cN (fun t => if (2 : Int32).toInt < 0 ∨ (jF (v 1 (159 + 25 * c + 5 * t)) (fun h => v 1 (308 + 48 * c + 24 * (v 1 (158 + 25 * c + 5 * t)).toNatClampNeg + h)) (v 1 (161 + 25 * c + 5 * t)) (v 1 (162 + 25 * c + 5 * t)) (v 1 (160 + 25 * c + 5 * t))).toInt = (2 : Int32).toInt then 1 else 0) (v 1 (38 + 7 * c)).toNatClampNeg) (v 1 2).toNatClampNeg) ∧ Fq v v_1) ∧ ((x0.toInt < 0 ∨ 10 < x0.toInt) → (r_1 = -1) ∧ Fq v v_1) := by
      refine ⟨fun hq => ?_, fun hq => ?_, fun hq => ?_, fun hq => ?_, fun hq => ?_, fun hq => ?_, fun hq => ?_, fun hq => ?_, fun hq => ?_, fun hq => ?_, fun hq => ?_, fun hq => ?_⟩
      · exfalso; omega
      · exfalso; omega
      · exfalso; omega
      · exfalso; omega
      · exfalso; omega
      · exfalso; omega
      · exact ⟨hw_1, hf_1⟩
      · exfalso; omega
      · exfalso; omega
      · exfalso; omega
      · exfalso; omega
      · exfalso; omega
    exact W.iret (v := r_1) hx hb hr (fun t ht hW => ⟨⟨r_1, v_1, rfl, ⟨hv, hpost⟩, by rw [ht]; exact hP, hD⟩, hS.F ht⟩) hS.2.2 dX8_many_104
  · refine lv_tableIn (off := 104) (tgt := 105) hx hb dX8_many_1 (by rw [hsw]; decide) (by rw [hsw]; decide) (by rw [hsw]; decide) (by decide) ?_
    have k_7 : (7 : Int32).toInt = 7 := by decide
    have tsw : x0.toInt = 7 := by rw [hsw]; decide
    refine lv_aload_n hx hb dX8_many_105 rfl (lv_at hl 0 rfl) ?_
    refine lv_iconst (v := (-1)) hx hb dX8_many_106 (by decide) ?_
    have k_m1 : ((-1) : Int32).toInt = -1 := by decide
    refine yw_i (w1 := fun (u : Nat → Nat → Int32) => wm ad cy u) hD hS hA (va_runV (As := [.int (-1)]) (rest := []) ⟨hx, hb, hml, hown, hts⟩ (e_X8_termsThat l dC dI cy _ ad v hv ((-1) : Int32)) (cwV 1 hts gX8_many_X8_termsThat rfl rfl rfl hd_V_X8_termsThat_1 ⟨Nat.le_of_ble_eq_true rfl, Nat.le_of_ble_eq_true rfl⟩) (yw_preV hE hK hP hD (ci := 8) (q := (RX8, TX8, 11)) (q0 := 0) rfl (wm_at (by decide) rc_0)) rfl rfl hl.1 rfl (lv_room (Nat.le_of_ble_eq_true rfl)) dX8_many_107 ⟨Nat.le_of_ble_eq_true rfl, Nat.le_of_ble_eq_true rfl⟩) (fun r_1 v_1 H locs hw_1 hP hD hS => ?_)
    obtain ⟨-, hu_1, hw_1⟩ := hw_1
    replace hu_1 := hu_1.symm
    subst hu_1
    have hpost : (x0.toInt = 0 → (r_1 = v 1 0) ∧ Fq v v) ∧ (x0.toInt = 1 → (r_1 = v 1 1) ∧ Fq v v) ∧ (x0.toInt = 2 → (r_1 = v 1 2) ∧ Fq v v) ∧ (x0.toInt = 3 → (r_1.toInt = cN (fun c => if (v 1 (34 + 7 * c)).toInt = (0 : Int32).toInt then 1 else 0) (v 1 2).toNatClampNeg) ∧ Fq v v) ∧ (x0.toInt = 4 → (r_1.toInt = cN (fun c => if (v 1 (34 + 7 * c)).toInt = (1 : Int32).toInt then 1 else 0) (v 1 2).toNatClampNeg) ∧ Fq v v) ∧ (x0.toInt = 5 → (r_1 = v 1 3) ∧ Fq v v) ∧ (x0.toInt = 6 → (HD (v 1) (v 3) ∧ r_1.toInt = cN (fun c => if (v 3 c).toInt = ((c : Nat) : Int) then 1 else 0) (v 1 2).toNatClampNeg) ∧ Fq v v) ∧ (x0.toInt = 7 → (r_1.toInt = cN (fun c => cN (fun t => if (-1 : Int32).toInt < 0 ∨ (jF (v 1 (159 + 25 * c + 5 * t)) (fun h => v 1 (308 + 48 * c + 24 * (v 1 (158 + 25 * c + 5 * t)).toNatClampNeg + h)) (v 1 (161 + 25 * c + 5 * t)) (v 1 (162 + 25 * c + 5 * t)) (v 1 (160 + 25 * c + 5 * t))).toInt = (-1 : Int32).toInt then 1 else 0) (v 1 (38 + 7 * c)).toNatClampNeg) (v 1 2).toNatClampNeg) ∧ Fq v v) ∧ (x0.toInt = 8 → (r_1.toInt = cN (fun c => cN (fun t => if (1 : Int32).toInt < 0 ∨ (jF (v 1 (159 + 25 * c + 5 * t)) (fun h => v 1 (308 + 48 * c + 24 * (v 1 (158 + 25 * c + 5 * t)).toNatClampNeg + h)) (v 1 (161 + 25 * c + 5 * t)) (v 1 (162 + 25 * c + 5 * t)) (v 1 (160 + 25 * c + 5 * t))).toInt = (1 : Int32).toInt then 1 else 0) (v 1 (38 + 7 * c)).toNatClampNeg) (v 1 2).toNatClampNeg) ∧ Fq v v) ∧ (x0.toInt = 9 → (r_1.toInt = cN (fun c => cN (fun t => if (0 : Int32).toInt < 0 ∨ (jF (v 1 (159 + 25 * c + 5 * t)) (fun h => v 1 (308 + 48 * c + 24 * (v 1 (158 + 25 * c + 5 * t)).toNatClampNeg + h)) (v 1 (161 + 25 * c + 5 * t)) (v 1 (162 + 25 * c + 5 * t)) (v 1 (160 + 25 * c + 5 * t))).toInt = (0 : Int32).toInt then 1 else 0) (v 1 (38 + 7 * c)).toNatClampNeg) (v 1 2).toNatClampNeg) ∧ Fq v v) ∧ (x0.toInt = 10 → (r_1.toInt = cN (fun c => cN (fun t => if (2 : Int32).toInt < 0 ∨ (jF (v 1 (159 + 25 * c + 5 * t)) (fun h => v 1 (308 + 48 * c + 24 * (v 1 (158 + 25 * c + 5 * t)).toNatClampNeg + h)) (v 1 (161 + 25 * c + 5 * t)) (v 1 (162 + 25 * c + 5 * t)) (v 1 (160 + 25 * c + 5 * t))).toInt = (2 : Int32).toInt then 1 else 0) (v 1 (38 + 7 * c)).toNatClampNeg) (v 1 2).toNatClampNeg) ∧ Fq v v) ∧ ((x0.toInt < 0 ∨ 10 < x0.toInt) → (r_1 = -1) ∧ Fq v v) := by
      refine ⟨fun hq => ?_, fun hq => ?_, fun hq => ?_, fun hq => ?_, fun hq => ?_, fun hq => ?_, fun hq => ?_, fun hq => ?_, fun hq => ?_, fun hq => ?_, fun hq => ?_, fun hq => ?_⟩
      · exfalso; omega
      · exfalso; omega
      · exfalso; omega
      · exfalso; omega
      · exfalso; omega
      · exfalso; omega
      · exfalso; omega
      · exact ⟨hw_1, Fq.rf⟩
      · exfalso; omega
      · exfalso; omega
      · exfalso; omega
      · exfalso; omega
    exact W.iret (v := r_1) hx hb hr (fun t ht hW => ⟨⟨r_1, v, rfl, ⟨hv, hpost⟩, by rw [ht]; exact hP, hD⟩, hS.F ht⟩) hS.2.2 dX8_many_110
  · refine lv_tableIn (off := 110) (tgt := 111) hx hb dX8_many_1 (by rw [hsw]; decide) (by rw [hsw]; decide) (by rw [hsw]; decide) (by decide) ?_
    have k_8 : (8 : Int32).toInt = 8 := by decide
    have tsw : x0.toInt = 8 := by rw [hsw]; decide
    refine lv_aload_n hx hb dX8_many_111 rfl (lv_at hl 0 rfl) ?_
    refine lv_iconst (v := 1) hx hb dX8_many_112 (by decide) ?_
    have k_1 : (1 : Int32).toInt = 1 := by decide
    refine yw_i (w1 := fun (u : Nat → Nat → Int32) => wm ad cy u) hD hS hA (va_runV (As := [.int 1]) (rest := []) ⟨hx, hb, hml, hown, hts⟩ (e_X8_termsThat l dC dI cy _ ad v hv (1 : Int32)) (cwV 1 hts gX8_many_X8_termsThat rfl rfl rfl hd_V_X8_termsThat_1 ⟨Nat.le_of_ble_eq_true rfl, Nat.le_of_ble_eq_true rfl⟩) (yw_preV hE hK hP hD (ci := 8) (q := (RX8, TX8, 11)) (q0 := 0) rfl (wm_at (by decide) rc_0)) rfl rfl hl.1 rfl (lv_room (Nat.le_of_ble_eq_true rfl)) dX8_many_113 ⟨Nat.le_of_ble_eq_true rfl, Nat.le_of_ble_eq_true rfl⟩) (fun r_1 v_1 H locs hw_1 hP hD hS => ?_)
    obtain ⟨-, hu_1, hw_1⟩ := hw_1
    replace hu_1 := hu_1.symm
    subst hu_1
    have hpost : (x0.toInt = 0 → (r_1 = v 1 0) ∧ Fq v v) ∧ (x0.toInt = 1 → (r_1 = v 1 1) ∧ Fq v v) ∧ (x0.toInt = 2 → (r_1 = v 1 2) ∧ Fq v v) ∧ (x0.toInt = 3 → (r_1.toInt = cN (fun c => if (v 1 (34 + 7 * c)).toInt = (0 : Int32).toInt then 1 else 0) (v 1 2).toNatClampNeg) ∧ Fq v v) ∧ (x0.toInt = 4 → (r_1.toInt = cN (fun c => if (v 1 (34 + 7 * c)).toInt = (1 : Int32).toInt then 1 else 0) (v 1 2).toNatClampNeg) ∧ Fq v v) ∧ (x0.toInt = 5 → (r_1 = v 1 3) ∧ Fq v v) ∧ (x0.toInt = 6 → (HD (v 1) (v 3) ∧ r_1.toInt = cN (fun c => if (v 3 c).toInt = ((c : Nat) : Int) then 1 else 0) (v 1 2).toNatClampNeg) ∧ Fq v v) ∧ (x0.toInt = 7 → (r_1.toInt = cN (fun c => cN (fun t => if (-1 : Int32).toInt < 0 ∨ (jF (v 1 (159 + 25 * c + 5 * t)) (fun h => v 1 (308 + 48 * c + 24 * (v 1 (158 + 25 * c + 5 * t)).toNatClampNeg + h)) (v 1 (161 + 25 * c + 5 * t)) (v 1 (162 + 25 * c + 5 * t)) (v 1 (160 + 25 * c + 5 * t))).toInt = (-1 : Int32).toInt then 1 else 0) (v 1 (38 + 7 * c)).toNatClampNeg) (v 1 2).toNatClampNeg) ∧ Fq v v) ∧ (x0.toInt = 8 → (r_1.toInt = cN (fun c => cN (fun t => if (1 : Int32).toInt < 0 ∨ (jF (v 1 (159 + 25 * c + 5 * t)) (fun h => v 1 (308 + 48 * c + 24 * (v 1 (158 + 25 * c + 5 * t)).toNatClampNeg + h)) (v 1 (161 + 25 * c + 5 * t)) (v 1 (162 + 25 * c + 5 * t)) (v 1 (160 + 25 * c + 5 * t))).toInt = (1 : Int32).toInt then 1 else 0) (v 1 (38 + 7 * c)).toNatClampNeg) (v 1 2).toNatClampNeg) ∧ Fq v v) ∧ (x0.toInt = 9 → (r_1.toInt = cN (fun c => cN (fun t => if (0 : Int32).toInt < 0 ∨ (jF (v 1 (159 + 25 * c + 5 * t)) (fun h => v 1 (308 + 48 * c + 24 * (v 1 (158 + 25 * c + 5 * t)).toNatClampNeg + h)) (v 1 (161 + 25 * c + 5 * t)) (v 1 (162 + 25 * c + 5 * t)) (v 1 (160 + 25 * c + 5 * t))).toInt = (0 : Int32).toInt then 1 else 0) (v 1 (38 + 7 * c)).toNatClampNeg) (v 1 2).toNatClampNeg) ∧ Fq v v) ∧ (x0.toInt = 10 → (r_1.toInt = cN (fun c => cN (fun t => if (2 : Int32).toInt < 0 ∨ (jF (v 1 (159 + 25 * c + 5 * t)) (fun h => v 1 (308 + 48 * c + 24 * (v 1 (158 + 25 * c + 5 * t)).toNatClampNeg + h)) (v 1 (161 + 25 * c + 5 * t)) (v 1 (162 + 25 * c + 5 * t)) (v 1 (160 + 25 * c + 5 * t))).toInt = (2 : Int32).toInt then 1 else 0) (v 1 (38 + 7 * c)).toNatClampNeg) (v 1 2).toNatClampNeg) ∧ Fq v v) ∧ ((x0.toInt < 0 ∨ 10 < x0.toInt) → (r_1 = -1) ∧ Fq v v) := by
      refine ⟨fun hq => ?_, fun hq => ?_, fun hq => ?_, fun hq => ?_, fun hq => ?_, fun hq => ?_, fun hq => ?_, fun hq => ?_, fun hq => ?_, fun hq => ?_, fun hq => ?_, fun hq => ?_⟩
      · exfalso; omega
      · exfalso; omega
      · exfalso; omega
      · exfalso; omega
      · exfalso; omega
      · exfalso; omega
      · exfalso; omega
      · exfalso; omega
      · exact ⟨hw_1, Fq.rf⟩
      · exfalso; omega
      · exfalso; omega
      · exfalso; omega
    exact W.iret (v := r_1) hx hb hr (fun t ht hW => ⟨⟨r_1, v, rfl, ⟨hv, hpost⟩, by rw [ht]; exact hP, hD⟩, hS.F ht⟩) hS.2.2 dX8_many_116
  · refine lv_tableIn (off := 116) (tgt := 117) hx hb dX8_many_1 (by rw [hsw]; decide) (by rw [hsw]; decide) (by rw [hsw]; decide) (by decide) ?_
    have k_9 : (9 : Int32).toInt = 9 := by decide
    have tsw : x0.toInt = 9 := by rw [hsw]; decide
    refine lv_aload_n hx hb dX8_many_117 rfl (lv_at hl 0 rfl) ?_
    refine lv_iconst (v := 0) hx hb dX8_many_118 (by decide) ?_
    have k_0 : (0 : Int32).toInt = 0 := by decide
    refine yw_i (w1 := fun (u : Nat → Nat → Int32) => wm ad cy u) hD hS hA (va_runV (As := [.int 0]) (rest := []) ⟨hx, hb, hml, hown, hts⟩ (e_X8_termsThat l dC dI cy _ ad v hv (0 : Int32)) (cwV 1 hts gX8_many_X8_termsThat rfl rfl rfl hd_V_X8_termsThat_1 ⟨Nat.le_of_ble_eq_true rfl, Nat.le_of_ble_eq_true rfl⟩) (yw_preV hE hK hP hD (ci := 8) (q := (RX8, TX8, 11)) (q0 := 0) rfl (wm_at (by decide) rc_0)) rfl rfl hl.1 rfl (lv_room (Nat.le_of_ble_eq_true rfl)) dX8_many_119 ⟨Nat.le_of_ble_eq_true rfl, Nat.le_of_ble_eq_true rfl⟩) (fun r_1 v_1 H locs hw_1 hP hD hS => ?_)
    obtain ⟨-, hu_1, hw_1⟩ := hw_1
    replace hu_1 := hu_1.symm
    subst hu_1
    have hpost : (x0.toInt = 0 → (r_1 = v 1 0) ∧ Fq v v) ∧ (x0.toInt = 1 → (r_1 = v 1 1) ∧ Fq v v) ∧ (x0.toInt = 2 → (r_1 = v 1 2) ∧ Fq v v) ∧ (x0.toInt = 3 → (r_1.toInt = cN (fun c => if (v 1 (34 + 7 * c)).toInt = (0 : Int32).toInt then 1 else 0) (v 1 2).toNatClampNeg) ∧ Fq v v) ∧ (x0.toInt = 4 → (r_1.toInt = cN (fun c => if (v 1 (34 + 7 * c)).toInt = (1 : Int32).toInt then 1 else 0) (v 1 2).toNatClampNeg) ∧ Fq v v) ∧ (x0.toInt = 5 → (r_1 = v 1 3) ∧ Fq v v) ∧ (x0.toInt = 6 → (HD (v 1) (v 3) ∧ r_1.toInt = cN (fun c => if (v 3 c).toInt = ((c : Nat) : Int) then 1 else 0) (v 1 2).toNatClampNeg) ∧ Fq v v) ∧ (x0.toInt = 7 → (r_1.toInt = cN (fun c => cN (fun t => if (-1 : Int32).toInt < 0 ∨ (jF (v 1 (159 + 25 * c + 5 * t)) (fun h => v 1 (308 + 48 * c + 24 * (v 1 (158 + 25 * c + 5 * t)).toNatClampNeg + h)) (v 1 (161 + 25 * c + 5 * t)) (v 1 (162 + 25 * c + 5 * t)) (v 1 (160 + 25 * c + 5 * t))).toInt = (-1 : Int32).toInt then 1 else 0) (v 1 (38 + 7 * c)).toNatClampNeg) (v 1 2).toNatClampNeg) ∧ Fq v v) ∧ (x0.toInt = 8 → (r_1.toInt = cN (fun c => cN (fun t => if (1 : Int32).toInt < 0 ∨ (jF (v 1 (159 + 25 * c + 5 * t)) (fun h => v 1 (308 + 48 * c + 24 * (v 1 (158 + 25 * c + 5 * t)).toNatClampNeg + h)) (v 1 (161 + 25 * c + 5 * t)) (v 1 (162 + 25 * c + 5 * t)) (v 1 (160 + 25 * c + 5 * t))).toInt = (1 : Int32).toInt then 1 else 0) (v 1 (38 + 7 * c)).toNatClampNeg) (v 1 2).toNatClampNeg) ∧ Fq v v) ∧ (x0.toInt = 9 → (r_1.toInt = cN (fun c => cN (fun t => if (0 : Int32).toInt < 0 ∨ (jF (v 1 (159 + 25 * c + 5 * t)) (fun h => v 1 (308 + 48 * c + 24 * (v 1 (158 + 25 * c + 5 * t)).toNatClampNeg + h)) (v 1 (161 + 25 * c + 5 * t)) (v 1 (162 + 25 * c + 5 * t)) (v 1 (160 + 25 * c + 5 * t))).toInt = (0 : Int32).toInt then 1 else 0) (v 1 (38 + 7 * c)).toNatClampNeg) (v 1 2).toNatClampNeg) ∧ Fq v v) ∧ (x0.toInt = 10 → (r_1.toInt = cN (fun c => cN (fun t => if (2 : Int32).toInt < 0 ∨ (jF (v 1 (159 + 25 * c + 5 * t)) (fun h => v 1 (308 + 48 * c + 24 * (v 1 (158 + 25 * c + 5 * t)).toNatClampNeg + h)) (v 1 (161 + 25 * c + 5 * t)) (v 1 (162 + 25 * c + 5 * t)) (v 1 (160 + 25 * c + 5 * t))).toInt = (2 : Int32).toInt then 1 else 0) (v 1 (38 + 7 * c)).toNatClampNeg) (v 1 2).toNatClampNeg) ∧ Fq v v) ∧ ((x0.toInt < 0 ∨ 10 < x0.toInt) → (r_1 = -1) ∧ Fq v v) := by
      refine ⟨fun hq => ?_, fun hq => ?_, fun hq => ?_, fun hq => ?_, fun hq => ?_, fun hq => ?_, fun hq => ?_, fun hq => ?_, fun hq => ?_, fun hq => ?_, fun hq => ?_, fun hq => ?_⟩
      · exfalso; omega
      · exfalso; omega
      · exfalso; omega
      · exfalso; omega
      · exfalso; omega
      · exfalso; omega
      · exfalso; omega
      · exfalso; omega
      · exfalso; omega
      · exact ⟨hw_1, Fq.rf⟩
      · exfalso; omega
      · exfalso; omega
    exact W.iret (v := r_1) hx hb hr (fun t ht hW => ⟨⟨r_1, v, rfl, ⟨hv, hpost⟩, by rw [ht]; exact hP, hD⟩, hS.F ht⟩) hS.2.2 dX8_many_122
  · refine lv_tableIn (off := 122) (tgt := 123) hx hb dX8_many_1 (by rw [hsw]; decide) (by rw [hsw]; decide) (by rw [hsw]; decide) (by decide) ?_
    have k_10 : (10 : Int32).toInt = 10 := by decide
    have tsw : x0.toInt = 10 := by rw [hsw]; decide
    refine lv_aload_n hx hb dX8_many_123 rfl (lv_at hl 0 rfl) ?_
    refine lv_iconst (v := 2) hx hb dX8_many_124 (by decide) ?_
    have k_2 : (2 : Int32).toInt = 2 := by decide
    refine yw_i (w1 := fun (u : Nat → Nat → Int32) => wm ad cy u) hD hS hA (va_runV (As := [.int 2]) (rest := []) ⟨hx, hb, hml, hown, hts⟩ (e_X8_termsThat l dC dI cy _ ad v hv (2 : Int32)) (cwV 1 hts gX8_many_X8_termsThat rfl rfl rfl hd_V_X8_termsThat_1 ⟨Nat.le_of_ble_eq_true rfl, Nat.le_of_ble_eq_true rfl⟩) (yw_preV hE hK hP hD (ci := 8) (q := (RX8, TX8, 11)) (q0 := 0) rfl (wm_at (by decide) rc_0)) rfl rfl hl.1 rfl (lv_room (Nat.le_of_ble_eq_true rfl)) dX8_many_125 ⟨Nat.le_of_ble_eq_true rfl, Nat.le_of_ble_eq_true rfl⟩) (fun r_1 v_1 H locs hw_1 hP hD hS => ?_)
    obtain ⟨-, hu_1, hw_1⟩ := hw_1
    replace hu_1 := hu_1.symm
    subst hu_1
    have hpost : (x0.toInt = 0 → (r_1 = v 1 0) ∧ Fq v v) ∧ (x0.toInt = 1 → (r_1 = v 1 1) ∧ Fq v v) ∧ (x0.toInt = 2 → (r_1 = v 1 2) ∧ Fq v v) ∧ (x0.toInt = 3 → (r_1.toInt = cN (fun c => if (v 1 (34 + 7 * c)).toInt = (0 : Int32).toInt then 1 else 0) (v 1 2).toNatClampNeg) ∧ Fq v v) ∧ (x0.toInt = 4 → (r_1.toInt = cN (fun c => if (v 1 (34 + 7 * c)).toInt = (1 : Int32).toInt then 1 else 0) (v 1 2).toNatClampNeg) ∧ Fq v v) ∧ (x0.toInt = 5 → (r_1 = v 1 3) ∧ Fq v v) ∧ (x0.toInt = 6 → (HD (v 1) (v 3) ∧ r_1.toInt = cN (fun c => if (v 3 c).toInt = ((c : Nat) : Int) then 1 else 0) (v 1 2).toNatClampNeg) ∧ Fq v v) ∧ (x0.toInt = 7 → (r_1.toInt = cN (fun c => cN (fun t => if (-1 : Int32).toInt < 0 ∨ (jF (v 1 (159 + 25 * c + 5 * t)) (fun h => v 1 (308 + 48 * c + 24 * (v 1 (158 + 25 * c + 5 * t)).toNatClampNeg + h)) (v 1 (161 + 25 * c + 5 * t)) (v 1 (162 + 25 * c + 5 * t)) (v 1 (160 + 25 * c + 5 * t))).toInt = (-1 : Int32).toInt then 1 else 0) (v 1 (38 + 7 * c)).toNatClampNeg) (v 1 2).toNatClampNeg) ∧ Fq v v) ∧ (x0.toInt = 8 → (r_1.toInt = cN (fun c => cN (fun t => if (1 : Int32).toInt < 0 ∨ (jF (v 1 (159 + 25 * c + 5 * t)) (fun h => v 1 (308 + 48 * c + 24 * (v 1 (158 + 25 * c + 5 * t)).toNatClampNeg + h)) (v 1 (161 + 25 * c + 5 * t)) (v 1 (162 + 25 * c + 5 * t)) (v 1 (160 + 25 * c + 5 * t))).toInt = (1 : Int32).toInt then 1 else 0) (v 1 (38 + 7 * c)).toNatClampNeg) (v 1 2).toNatClampNeg) ∧ Fq v v) ∧ (x0.toInt = 9 → (r_1.toInt = cN (fun c => cN (fun t => if (0 : Int32).toInt < 0 ∨ (jF (v 1 (159 + 25 * c + 5 * t)) (fun h => v 1 (308 + 48 * c + 24 * (v 1 (158 + 25 * c + 5 * t)).toNatClampNeg + h)) (v 1 (161 + 25 * c + 5 * t)) (v 1 (162 + 25 * c + 5 * t)) (v 1 (160 + 25 * c + 5 * t))).toInt = (0 : Int32).toInt then 1 else 0) (v 1 (38 + 7 * c)).toNatClampNeg) (v 1 2).toNatClampNeg) ∧ Fq v v) ∧ (x0.toInt = 10 → (r_1.toInt = cN (fun c => cN (fun t => if (2 : Int32).toInt < 0 ∨ (jF (v 1 (159 + 25 * c + 5 * t)) (fun h => v 1 (308 + 48 * c + 24 * (v 1 (158 + 25 * c + 5 * t)).toNatClampNeg + h)) (v 1 (161 + 25 * c + 5 * t)) (v 1 (162 + 25 * c + 5 * t)) (v 1 (160 + 25 * c + 5 * t))).toInt = (2 : Int32).toInt then 1 else 0) (v 1 (38 + 7 * c)).toNatClampNeg) (v 1 2).toNatClampNeg) ∧ Fq v v) ∧ ((x0.toInt < 0 ∨ 10 < x0.toInt) → (r_1 = -1) ∧ Fq v v) := by
      refine ⟨fun hq => ?_, fun hq => ?_, fun hq => ?_, fun hq => ?_, fun hq => ?_, fun hq => ?_, fun hq => ?_, fun hq => ?_, fun hq => ?_, fun hq => ?_, fun hq => ?_, fun hq => ?_⟩
      · exfalso; omega
      · exfalso; omega
      · exfalso; omega
      · exfalso; omega
      · exfalso; omega
      · exfalso; omega
      · exfalso; omega
      · exfalso; omega
      · exfalso; omega
      · exfalso; omega
      · exact ⟨hw_1, Fq.rf⟩
      · exfalso; omega
    exact W.iret (v := r_1) hx hb hr (fun t ht hW => ⟨⟨r_1, v, rfl, ⟨hv, hpost⟩, by rw [ht]; exact hP, hD⟩, hS.F ht⟩) hS.2.2 dX8_many_128

set_option maxHeartbeats 4000000 in
theorem T_many {n r r2 x0 : Int32} {v u v2 u2 : Nat → Nat → Int32} (hI : Iv v) (hQ : Ir v2) (h : RR n v v2) (p : (x0.toInt = 0 → (r = v 13 0) ∧ u = v) ∧ (x0.toInt = 1 → (r = v 13 1) ∧ u = v) ∧ (x0.toInt = 2 → (r = v 13 2) ∧ u = v) ∧ (x0.toInt = 3 → (r.toInt = cN (fun c => if (v (29 + 15 * c) 0).toInt = (0 : Int32).toInt then 1 else 0) (v 13 2).toNatClampNeg) ∧ u = v) ∧ (x0.toInt = 4 → (r.toInt = cN (fun c => if (v (29 + 15 * c) 0).toInt = (1 : Int32).toInt then 1 else 0) (v 13 2).toNatClampNeg) ∧ u = v) ∧ (x0.toInt = 5 → (r = v 13 3) ∧ u = v) ∧ (x0.toInt = 6 → (r.toInt = cN (fun c => if ((hF (qB (fun c => v (29 + 15 * c) 4) (v 13 2).toNatClampNeg (Int32.ofNat c)) c : Nat) : Int) = ((c : Nat) : Int) then 1 else 0) (v 13 2).toNatClampNeg) ∧ u = v) ∧ (x0.toInt = 7 → (r.toInt = cN (fun c => (v (29 + 15 * c) 5).toInt) (v 13 2).toNatClampNeg) ∧ u = v) ∧ (x0.toInt = 8 → (r.toInt = cN (fun c => cN (fun t => if (jF (v (39 + 15 * c + t) 1) (v (36 + 15 * c + (v (39 + 15 * c + t) 0).toNatClampNeg)) (v (39 + 15 * c + t) 3) (v (39 + 15 * c + t) 4) (v (39 + 15 * c + t) 2)).toInt = (1 : Int32).toInt then 1 else 0) (v (29 + 15 * c) 5).toNatClampNeg) (v 13 2).toNatClampNeg) ∧ u = v) ∧ (x0.toInt = 9 → (r.toInt = cN (fun c => cN (fun t => if (jF (v (39 + 15 * c + t) 1) (v (36 + 15 * c + (v (39 + 15 * c + t) 0).toNatClampNeg)) (v (39 + 15 * c + t) 3) (v (39 + 15 * c + t) 4) (v (39 + 15 * c + t) 2)).toInt = (0 : Int32).toInt then 1 else 0) (v (29 + 15 * c) 5).toNatClampNeg) (v 13 2).toNatClampNeg) ∧ u = v) ∧ (x0.toInt = 10 → (r.toInt = cN (fun c => cN (fun t => if (jF (v (39 + 15 * c + t) 1) (v (36 + 15 * c + (v (39 + 15 * c + t) 0).toNatClampNeg)) (v (39 + 15 * c + t) 3) (v (39 + 15 * c + t) 4) (v (39 + 15 * c + t) 2)).toInt = (2 : Int32).toInt then 1 else 0) (v (29 + 15 * c) 5).toNatClampNeg) (v 13 2).toNatClampNeg) ∧ u = v) ∧ ((x0.toInt < 0 ∨ 10 < x0.toInt) → (r = -1) ∧ u = v)) (q : (x0.toInt = 0 → (r2 = v2 1 0) ∧ Fq v2 u2) ∧ (x0.toInt = 1 → (r2 = v2 1 1) ∧ Fq v2 u2) ∧ (x0.toInt = 2 → (r2 = v2 1 2) ∧ Fq v2 u2) ∧ (x0.toInt = 3 → (r2.toInt = cN (fun c => if (v2 1 (34 + 7 * c)).toInt = (0 : Int32).toInt then 1 else 0) (v2 1 2).toNatClampNeg) ∧ Fq v2 u2) ∧ (x0.toInt = 4 → (r2.toInt = cN (fun c => if (v2 1 (34 + 7 * c)).toInt = (1 : Int32).toInt then 1 else 0) (v2 1 2).toNatClampNeg) ∧ Fq v2 u2) ∧ (x0.toInt = 5 → (r2 = v2 1 3) ∧ Fq v2 u2) ∧ (x0.toInt = 6 → (HD (v2 1) (u2 3) ∧ r2.toInt = cN (fun c => if (u2 3 c).toInt = ((c : Nat) : Int) then 1 else 0) (v2 1 2).toNatClampNeg) ∧ Fq v2 u2) ∧ (x0.toInt = 7 → (r2.toInt = cN (fun c => cN (fun t => if (-1 : Int32).toInt < 0 ∨ (jF (v2 1 (159 + 25 * c + 5 * t)) (fun h => v2 1 (308 + 48 * c + 24 * (v2 1 (158 + 25 * c + 5 * t)).toNatClampNeg + h)) (v2 1 (161 + 25 * c + 5 * t)) (v2 1 (162 + 25 * c + 5 * t)) (v2 1 (160 + 25 * c + 5 * t))).toInt = (-1 : Int32).toInt then 1 else 0) (v2 1 (38 + 7 * c)).toNatClampNeg) (v2 1 2).toNatClampNeg) ∧ Fq v2 u2) ∧ (x0.toInt = 8 → (r2.toInt = cN (fun c => cN (fun t => if (1 : Int32).toInt < 0 ∨ (jF (v2 1 (159 + 25 * c + 5 * t)) (fun h => v2 1 (308 + 48 * c + 24 * (v2 1 (158 + 25 * c + 5 * t)).toNatClampNeg + h)) (v2 1 (161 + 25 * c + 5 * t)) (v2 1 (162 + 25 * c + 5 * t)) (v2 1 (160 + 25 * c + 5 * t))).toInt = (1 : Int32).toInt then 1 else 0) (v2 1 (38 + 7 * c)).toNatClampNeg) (v2 1 2).toNatClampNeg) ∧ Fq v2 u2) ∧ (x0.toInt = 9 → (r2.toInt = cN (fun c => cN (fun t => if (0 : Int32).toInt < 0 ∨ (jF (v2 1 (159 + 25 * c + 5 * t)) (fun h => v2 1 (308 + 48 * c + 24 * (v2 1 (158 + 25 * c + 5 * t)).toNatClampNeg + h)) (v2 1 (161 + 25 * c + 5 * t)) (v2 1 (162 + 25 * c + 5 * t)) (v2 1 (160 + 25 * c + 5 * t))).toInt = (0 : Int32).toInt then 1 else 0) (v2 1 (38 + 7 * c)).toNatClampNeg) (v2 1 2).toNatClampNeg) ∧ Fq v2 u2) ∧ (x0.toInt = 10 → (r2.toInt = cN (fun c => cN (fun t => if (2 : Int32).toInt < 0 ∨ (jF (v2 1 (159 + 25 * c + 5 * t)) (fun h => v2 1 (308 + 48 * c + 24 * (v2 1 (158 + 25 * c + 5 * t)).toNatClampNeg + h)) (v2 1 (161 + 25 * c + 5 * t)) (v2 1 (162 + 25 * c + 5 * t)) (v2 1 (160 + 25 * c + 5 * t))).toInt = (2 : Int32).toInt then 1 else 0) (v2 1 (38 + 7 * c)).toNatClampNeg) (v2 1 2).toNatClampNeg) ∧ Fq v2 u2) ∧ ((x0.toInt < 0 ∨ 10 < x0.toInt) → (r2 = -1) ∧ Fq v2 u2)) : r = r2 ∧ RR n u u2 := by
  have e0 : v 13 0 = v2 1 0 := h.1.1 _ _ _ (lk_a (by decide))
  have e1 : v 13 1 = v2 1 1 := h.1.1 _ _ _ (lk_a (by decide))
  have e2 : v 13 2 = v2 1 2 := h.1.1 _ _ _ (lk_a (by decide))
  have e3 : v 13 3 = v2 1 3 := h.1.1 _ _ _ (lk_a (by decide))
  have hb0 := hQ 1 0 8 (by decide)
  have hb1 := hQ 1 1 4 (by decide)
  have hb2 := hQ 1 2 6 (by decide)
  have hb3 := hQ 1 3 6 (by decide)
  have hmv : ∀ (f : u = v) (g : Fq v2 u2), RR n u u2 := fun f g => by rw [f]; exact h.mv Fz.rf g
  have zn := t_nn (x := v2 1 2) (by omega)
  obtain ⟨hG, hM⟩ := RG_M h.1.2.2.2 hb2.2 zn
  rw [e0, e1, e2, e3] at p
  by_cases w0 : x0.toInt = 0
  · obtain ⟨p1, p2⟩ := p.1 w0
    obtain ⟨q1, q2⟩ := q.1 w0
    refine ⟨?_, hmv p2 q2⟩
    rw [p1, q1]
  by_cases w1 : x0.toInt = 1
  · obtain ⟨p1, p2⟩ := p.2.1 w1
    obtain ⟨q1, q2⟩ := q.2.1 w1
    refine ⟨?_, hmv p2 q2⟩
    rw [p1, q1]
  by_cases w2 : x0.toInt = 2
  · obtain ⟨p1, p2⟩ := p.2.2.1 w2
    obtain ⟨q1, q2⟩ := q.2.2.1 w2
    refine ⟨?_, hmv p2 q2⟩
    rw [p1, q1]
  by_cases w3 : x0.toInt = 3
  · obtain ⟨p1, p2⟩ := p.2.2.2.1 w3
    obtain ⟨q1, q2⟩ := q.2.2.2.1 w3
    refine ⟨?_, hmv p2 q2⟩
    refine Int32.toInt_inj.mp ?_
    rw [p1, q1]
    refine cN_cg (fun c hc => ?_)
    have ev : v (29 + 15 * c) 0 = v2 1 (34 + 7 * c) := h.1.1 _ _ _ (lk_c0 (by omega) (by omega))
    rw [ev]
  by_cases w4 : x0.toInt = 4
  · obtain ⟨p1, p2⟩ := p.2.2.2.2.1 w4
    obtain ⟨q1, q2⟩ := q.2.2.2.2.1 w4
    refine ⟨?_, hmv p2 q2⟩
    refine Int32.toInt_inj.mp ?_
    rw [p1, q1]
    refine cN_cg (fun c hc => ?_)
    have ev : v (29 + 15 * c) 0 = v2 1 (34 + 7 * c) := h.1.1 _ _ _ (lk_c0 (by omega) (by omega))
    rw [ev]
  by_cases w5 : x0.toInt = 5
  · obtain ⟨p1, p2⟩ := p.2.2.2.2.2.1 w5
    obtain ⟨q1, q2⟩ := q.2.2.2.2.2.1 w5
    refine ⟨?_, hmv p2 q2⟩
    rw [p1, q1]
  by_cases w6 : x0.toInt = 6
  · obtain ⟨p1, p2⟩ := p.2.2.2.2.2.2.1 w6
    obtain ⟨q1, q2⟩ := q.2.2.2.2.2.2.1 w6
    refine ⟨?_, hmv p2 q2⟩
    refine Int32.toInt_inj.mp ?_
    rw [p1, q1.2]
    refine cN_cg (fun c hc => ?_)
    have k9 := head_eq (M := fun c => v (29 + 15 * c) 4) hG hb2.2 q1.1 zn hM (x := Int32.ofNat c) (o := c) (Int32.toInt_ofNat_of_lt (by omega)) hc
    rw [k9]
  by_cases w7 : x0.toInt = 7
  · obtain ⟨p1, p2⟩ := p.2.2.2.2.2.2.2.1 w7
    obtain ⟨q1, q2⟩ := q.2.2.2.2.2.2.2.1 w7
    refine ⟨?_, hmv p2 q2⟩
    refine Int32.toInt_inj.mp ?_
    rw [p1, q1]
    refine cN_cg (fun c hc => ?_)
    have ev : v (29 + 15 * c) 5 = v2 1 (38 + 7 * c) := h.1.1 _ _ _ (lk_c5 (by omega) (by omega))
    have hb := hQ 1 (38 + 7 * c) 5 (bS_c (by omega) (by omega))
    rw [ev]
    refine Eq.trans (t_nn hb.1).symm (Eq.symm (cN_one (fun t _ => ?_)))
    exact if_pos (Or.inl (by decide))
  by_cases w8 : x0.toInt = 8
  · obtain ⟨p1, p2⟩ := p.2.2.2.2.2.2.2.2.1 w8
    obtain ⟨q1, q2⟩ := q.2.2.2.2.2.2.2.2.1 w8
    refine ⟨?_, hmv p2 q2⟩
    refine Int32.toInt_inj.mp ?_
    rw [p1, q1]
    refine cN_cg (fun c hc => ?_)
    have ev : v (29 + 15 * c) 5 = v2 1 (38 + 7 * c) := h.1.1 _ _ _ (lk_c5 (by omega) (by omega))
    have hb := hQ 1 (38 + 7 * c) 5 (bS_c (by omega) (by omega))
    have zt := t_nn hb.1
    rw [ev]
    refine cN_cg (fun t ht => ?_)
    have k9 := jF_rel (B := 13) (s := v2 1) (Ir_t hQ) h.1.1 (c := c) (t := t) (by omega) (by omega) (by omega) (by omega)
    show (if (jF (v (39 + 15 * c + t) 1) (v (36 + 15 * c + (v (39 + 15 * c + t) 0).toNatClampNeg)) (v (39 + 15 * c + t) 3) (v (39 + 15 * c + t) 4) (v (39 + 15 * c + t) 2)).toInt = (1 : Int32).toInt then (1 : Int) else 0) = if (1 : Int32).toInt < 0 ∨ (jF (v2 1 (159 + 25 * c + 5 * t)) (fun h => v2 1 (308 + 48 * c + 24 * (v2 1 (158 + 25 * c + 5 * t)).toNatClampNeg + h)) (v2 1 (161 + 25 * c + 5 * t)) (v2 1 (162 + 25 * c + 5 * t)) (v2 1 (160 + 25 * c + 5 * t))).toInt = (1 : Int32).toInt then (1 : Int) else 0
    rw [k9]
    by_cases e : (jF (v2 1 (159 + 25 * c + 5 * t)) (fun h => v2 1 (308 + 48 * c + 24 * (v2 1 (158 + 25 * c + 5 * t)).toNatClampNeg + h)) (v2 1 (161 + 25 * c + 5 * t)) (v2 1 (162 + 25 * c + 5 * t)) (v2 1 (160 + 25 * c + 5 * t))).toInt = (1 : Int32).toInt
    · rw [if_pos e, if_pos (Or.inr e)]
    · rw [if_neg e, if_neg (fun q => q.elim (fun q => absurd q (by decide)) e)]
  by_cases w9 : x0.toInt = 9
  · obtain ⟨p1, p2⟩ := p.2.2.2.2.2.2.2.2.2.1 w9
    obtain ⟨q1, q2⟩ := q.2.2.2.2.2.2.2.2.2.1 w9
    refine ⟨?_, hmv p2 q2⟩
    refine Int32.toInt_inj.mp ?_
    rw [p1, q1]
    refine cN_cg (fun c hc => ?_)
    have ev : v (29 + 15 * c) 5 = v2 1 (38 + 7 * c) := h.1.1 _ _ _ (lk_c5 (by omega) (by omega))
    have hb := hQ 1 (38 + 7 * c) 5 (bS_c (by omega) (by omega))
    have zt := t_nn hb.1
    rw [ev]
    refine cN_cg (fun t ht => ?_)
    have k9 := jF_rel (B := 13) (s := v2 1) (Ir_t hQ) h.1.1 (c := c) (t := t) (by omega) (by omega) (by omega) (by omega)
    show (if (jF (v (39 + 15 * c + t) 1) (v (36 + 15 * c + (v (39 + 15 * c + t) 0).toNatClampNeg)) (v (39 + 15 * c + t) 3) (v (39 + 15 * c + t) 4) (v (39 + 15 * c + t) 2)).toInt = (0 : Int32).toInt then (1 : Int) else 0) = if (0 : Int32).toInt < 0 ∨ (jF (v2 1 (159 + 25 * c + 5 * t)) (fun h => v2 1 (308 + 48 * c + 24 * (v2 1 (158 + 25 * c + 5 * t)).toNatClampNeg + h)) (v2 1 (161 + 25 * c + 5 * t)) (v2 1 (162 + 25 * c + 5 * t)) (v2 1 (160 + 25 * c + 5 * t))).toInt = (0 : Int32).toInt then (1 : Int) else 0
    rw [k9]
    by_cases e : (jF (v2 1 (159 + 25 * c + 5 * t)) (fun h => v2 1 (308 + 48 * c + 24 * (v2 1 (158 + 25 * c + 5 * t)).toNatClampNeg + h)) (v2 1 (161 + 25 * c + 5 * t)) (v2 1 (162 + 25 * c + 5 * t)) (v2 1 (160 + 25 * c + 5 * t))).toInt = (0 : Int32).toInt
    · rw [if_pos e, if_pos (Or.inr e)]
    · rw [if_neg e, if_neg (fun q => q.elim (fun q => absurd q (by decide)) e)]
  by_cases w10 : x0.toInt = 10
  · obtain ⟨p1, p2⟩ := p.2.2.2.2.2.2.2.2.2.2.1 w10
    obtain ⟨q1, q2⟩ := q.2.2.2.2.2.2.2.2.2.2.1 w10
    refine ⟨?_, hmv p2 q2⟩
    refine Int32.toInt_inj.mp ?_
    rw [p1, q1]
    refine cN_cg (fun c hc => ?_)
    have ev : v (29 + 15 * c) 5 = v2 1 (38 + 7 * c) := h.1.1 _ _ _ (lk_c5 (by omega) (by omega))
    have hb := hQ 1 (38 + 7 * c) 5 (bS_c (by omega) (by omega))
    have zt := t_nn hb.1
    rw [ev]
    refine cN_cg (fun t ht => ?_)
    have k9 := jF_rel (B := 13) (s := v2 1) (Ir_t hQ) h.1.1 (c := c) (t := t) (by omega) (by omega) (by omega) (by omega)
    show (if (jF (v (39 + 15 * c + t) 1) (v (36 + 15 * c + (v (39 + 15 * c + t) 0).toNatClampNeg)) (v (39 + 15 * c + t) 3) (v (39 + 15 * c + t) 4) (v (39 + 15 * c + t) 2)).toInt = (2 : Int32).toInt then (1 : Int) else 0) = if (2 : Int32).toInt < 0 ∨ (jF (v2 1 (159 + 25 * c + 5 * t)) (fun h => v2 1 (308 + 48 * c + 24 * (v2 1 (158 + 25 * c + 5 * t)).toNatClampNeg + h)) (v2 1 (161 + 25 * c + 5 * t)) (v2 1 (162 + 25 * c + 5 * t)) (v2 1 (160 + 25 * c + 5 * t))).toInt = (2 : Int32).toInt then (1 : Int) else 0
    rw [k9]
    by_cases e : (jF (v2 1 (159 + 25 * c + 5 * t)) (fun h => v2 1 (308 + 48 * c + 24 * (v2 1 (158 + 25 * c + 5 * t)).toNatClampNeg + h)) (v2 1 (161 + 25 * c + 5 * t)) (v2 1 (162 + 25 * c + 5 * t)) (v2 1 (160 + 25 * c + 5 * t))).toInt = (2 : Int32).toInt
    · rw [if_pos e, if_pos (Or.inr e)]
    · rw [if_neg e, if_neg (fun q => q.elim (fun q => absurd q (by decide)) e)]
  obtain ⟨p1, p2⟩ := p.2.2.2.2.2.2.2.2.2.2.2 (by omega)
  obtain ⟨q1, q2⟩ := q.2.2.2.2.2.2.2.2.2.2.2 (by omega)
  exact ⟨by rw [p1, q1], hmv p2 q2⟩
noncomputable def wsL_law_r1 : List Cond := [Cond.classLink RL 7 RX7, Cond.instantiable RX7 5, Cond.initialized RX7, Cond.classLink RL 10 RX8, Cond.instantiable RX8 11, Cond.initialized RX8, Cond.methodLink RL 9 yX7_init, Cond.instanceMethod yX7_init, Cond.code yX7_init cX7_init 1 none, Cond.methodLink RX7 3 objectInit, Cond.instanceMethod objectInit, Cond.code objectInit ⟨#[0xb1]⟩ 1 none, Cond.classLink RX7 9 RX1, Cond.instantiable RX1 7, Cond.initialized RX1, Cond.fieldLink RX7 12 "QuietStairs" "now" "LQuietStairs$House;", Cond.classLink RX7 16 RX4, Cond.instantiable RX4 11, Cond.initialized RX4, Cond.fieldLink RX7 19 "QuietStairs" "planner" "LQuietStairs$Planner;", Cond.classLink RX7 23 RX5, Cond.instantiable RX5 3, Cond.initialized RX5, Cond.fieldLink RX7 26 "QuietStairs" "table" "LQuietStairs$Table;"]
noncomputable def wsL_law_r2 : List Cond := [Cond.fieldLink RX7 30 "QuietStairs" "kept" "LQuietStairs$House;", Cond.fieldLink RX7 33 "QuietStairs" "roomCount" "I", Cond.methodLink RX7 11 yX1_init, Cond.instanceMethod yX1_init, Cond.code yX1_init cX1_init 2 none, Cond.methodLink RX1 3 objectInit, Cond.classLink RX1 9 RX3, Cond.fieldLink RX1 11 "QuietStairs$House" "parties" "[LQuietStairs$Party;", Cond.classLink RX1 17 RX2, Cond.fieldLink RX1 19 "QuietStairs$House" "mediators" "[LQuietStairs$Mediator;", Cond.classLink RX1 23 RX0, Cond.fieldLink RX1 25 "QuietStairs$House" "cases" "[LQuietStairs$Case;", Cond.instantiable RX3 2, Cond.initialized RX3, Cond.instantiable RX2 3, Cond.initialized RX2, Cond.instantiable RX0 11, Cond.initialized RX0, Cond.instanceMethod yX3_init, Cond.code yX3_init cX3_init 1 none, Cond.methodLink RX3 1 objectInit, Cond.instanceMethod yX2_init, Cond.code yX2_init cX2_init 1 none, Cond.methodLink RX2 1 objectInit]
noncomputable def wsL_law_r3 : List Cond := [Cond.methodLink RX1 31 yX0_init, Cond.instanceMethod yX0_init, Cond.code yX0_init cX0_init 2 none, Cond.methodLink RX0 3 objectInit, Cond.arrayClass .int, Cond.fieldLink RX0 9 "QuietStairs$Case" "parties" "[I", Cond.fieldLink RX0 15 "QuietStairs$Case" "box" "[I", Cond.classLink RX0 18 "[[I", Cond.fieldLink RX0 20 "QuietStairs$Case" "offers" "[[I", Cond.fieldLink RX0 23 "QuietStairs$Case" "logs" "[[I", Cond.classLink RX0 26 RX6, Cond.fieldLink RX0 28 "QuietStairs$Case" "terms" "[LQuietStairs$Term;", Cond.instantiable RX6 5, Cond.initialized RX6, Cond.instanceMethod yX6_init, Cond.code yX6_init cX6_init 1 none, Cond.methodLink RX6 1 objectInit, Cond.instanceMethod yX4_init, Cond.code yX4_init cX4_init 1 none, Cond.methodLink RX4 3 objectInit, Cond.fieldLink RX4 9 "QuietStairs$Planner" "numbers" "[I", Cond.fieldLink RX4 15 "QuietStairs$Planner" "weights" "[I", Cond.fieldLink RX4 18 "QuietStairs$Planner" "pairBits" "[I", Cond.fieldLink RX4 21 "QuietStairs$Planner" "heaviestFirst" "[I"]
noncomputable def wsL_law_r4 : List Cond := [Cond.fieldLink RX4 24 "QuietStairs$Planner" "seats" "[I", Cond.fieldLink RX4 27 "QuietStairs$Planner" "bestSeats" "[I", Cond.fieldLink RX4 30 "QuietStairs$Planner" "busyBits" "[I", Cond.fieldLink RX4 33 "QuietStairs$Planner" "sittings" "[I", Cond.instanceMethod yX5_init, Cond.code yX5_init cX5_init 1 none, Cond.methodLink RX5 3 objectInit, Cond.fieldLink RX5 9 "QuietStairs$Table" "musts" "[I", Cond.fieldLink RX5 15 "QuietStairs$Table" "hourBits" "[I", Cond.methodLink RL 12 yX8_init, Cond.instanceMethod yX8_init, Cond.code yX8_init cX8_init 1 none, Cond.methodLink RX8 1 objectInit, Cond.fieldLink RX8 7 "QuietStairsModel" "s" "[I", Cond.fieldLink RX8 13 "QuietStairsModel" "kept" "[I", Cond.fieldLink RX8 16 "QuietStairsModel" "rooms" "I", Cond.fieldLink RX8 20 "QuietStairsModel" "headOf" "[I", Cond.fieldLink RX8 23 "QuietStairsModel" "planned" "[I", Cond.fieldLink RX8 26 "QuietStairsModel" "tried" "[I", Cond.fieldLink RX8 29 "QuietStairsModel" "best" "[I", Cond.fieldLink RX8 32 "QuietStairsModel" "hours" "[I", Cond.methodLink RL 13 yX7_party, Cond.instanceMethod yX7_party, Cond.selects RX7 yX7_party yX7_party]
noncomputable def wsL_law_r5 : List Cond := [Cond.code yX7_party cX7_party 4 (some .int), Cond.fieldLink RX7 41 "QuietStairs$House" "partyCount" "I", Cond.fieldLink RX7 44 "QuietStairs$House" "parties" "[LQuietStairs$Party;", Cond.fieldLink RX7 48 "QuietStairs$Party" "floor" "I", Cond.fieldLink RX7 53 "QuietStairs$Party" "tongue" "I", Cond.methodLink RX7 37 yX7_isWithin, Cond.static yX7_isWithin, Cond.code yX7_isWithin cX7_isWithin 3 (some .boolean), Cond.methodLink RL 17 yX8_party, Cond.instanceMethod yX8_party, Cond.selects RX8 yX8_party yX8_party, Cond.code yX8_party cX8_party 5 (some .int), Cond.methodLink RX8 35 yX8_in, Cond.static yX8_in, Cond.code yX8_in cX8_in 3 (some .boolean), Cond.methodLink RL 18 yX7_mediator, Cond.instanceMethod yX7_mediator, Cond.selects RX7 yX7_mediator yX7_mediator, Cond.code yX7_mediator cX7_mediator 4 (some .int), Cond.fieldLink RX7 56 "QuietStairs$House" "mediatorCount" "I", Cond.fieldLink RX7 59 "QuietStairs$House" "mediators" "[LQuietStairs$Mediator;", Cond.fieldLink RX7 63 "QuietStairs$Mediator" "floor" "I", Cond.fieldLink RX7 66 "QuietStairs$Mediator" "tongues" "I", Cond.fieldLink RX7 69 "QuietStairs$Mediator" "kinBits" "I"]
noncomputable def wsL_law_r6 : List Cond := [Cond.methodLink RL 21 yX8_mediator, Cond.instanceMethod yX8_mediator, Cond.selects RX8 yX8_mediator yX8_mediator, Cond.code yX8_mediator cX8_mediator 4 (some .int), Cond.methodLink RL 22 yX7_kin, Cond.instanceMethod yX7_kin, Cond.selects RX7 yX7_kin yX7_kin, Cond.code yX7_kin cX7_kin 5 (some .int), Cond.methodLink RX7 72 yX7_isMediator, Cond.instanceMethod yX7_isMediator, Cond.selects RX7 yX7_isMediator yX7_isMediator, Cond.code yX7_isMediator cX7_isMediator 2 (some .boolean), Cond.methodLink RX7 76 yX7_isParty, Cond.instanceMethod yX7_isParty, Cond.selects RX7 yX7_isParty yX7_isParty, Cond.code yX7_isParty cX7_isParty 2 (some .boolean), Cond.methodLink RX7 79 yX7_hasBit, Cond.static yX7_hasBit, Cond.code yX7_hasBit cX7_hasBit 2 (some .boolean), Cond.methodLink RL 26 yX8_kin, Cond.instanceMethod yX8_kin, Cond.selects RX8 yX8_kin yX8_kin, Cond.code yX8_kin cX8_kin 5 (some .int), Cond.methodLink RX8 39 yX8_isMediator]
noncomputable def wsL_law_r7 : List Cond := [Cond.instanceMethod yX8_isMediator, Cond.selects RX8 yX8_isMediator yX8_isMediator, Cond.code yX8_isMediator cX8_isMediator 2 (some .boolean), Cond.methodLink RX8 43 yX8_isParty, Cond.instanceMethod yX8_isParty, Cond.selects RX8 yX8_isParty yX8_isParty, Cond.code yX8_isParty cX8_isParty 2 (some .boolean), Cond.methodLink RL 27 yX7_open, Cond.instanceMethod yX7_open, Cond.selects RX7 yX7_open yX7_open, Cond.code yX7_open cX7_open 3 (some .int), Cond.fieldLink RX7 83 "QuietStairs$House" "caseCount" "I", Cond.fieldLink RX7 86 "QuietStairs$House" "cases" "[LQuietStairs$Case;", Cond.methodLink RX7 90 yX0_begin, Cond.instanceMethod yX0_begin, Cond.selects RX0 yX0_begin yX0_begin, Cond.code yX0_begin cX0_begin 5 none, Cond.fieldLink RX0 33 "QuietStairs$Case" "state" "I", Cond.fieldLink RX0 37 "QuietStairs$Case" "sum" "I", Cond.fieldLink RX0 40 "QuietStairs$Case" "roundsOver" "I", Cond.fieldLink RX0 43 "QuietStairs$Case" "weight" "I", Cond.fieldLink RX0 46 "QuietStairs$Case" "markedBits" "I", Cond.fieldLink RX0 49 "QuietStairs$Case" "termCount" "I", Cond.methodLink RL 30 yX8_open]
noncomputable def wsL_law_r8 : List Cond := [Cond.instanceMethod yX8_open, Cond.selects RX8 yX8_open yX8_open, Cond.code yX8_open cX8_open 5 (some .int), Cond.methodLink RX8 46 yX8_at, Cond.static yX8_at, Cond.code yX8_at cX8_at 2 (some .int), Cond.methodLink RL 31 yX7_close, Cond.instanceMethod yX7_close, Cond.selects RX7 yX7_close yX7_close, Cond.code yX7_close cX7_close 2 (some .int), Cond.fieldLink RX7 99 "QuietStairs$Case" "state" "I", Cond.methodLink RX7 96 yX7_isCase, Cond.instanceMethod yX7_isCase, Cond.selects RX7 yX7_isCase yX7_isCase, Cond.code yX7_isCase cX7_isCase 2 (some .boolean), Cond.methodLink RL 35 yX8_close, Cond.instanceMethod yX8_close, Cond.selects RX8 yX8_close yX8_close, Cond.code yX8_close cX8_close 2 (some .int), Cond.methodLink RX8 50 yX8_isCase, Cond.instanceMethod yX8_isCase, Cond.selects RX8 yX8_isCase yX8_isCase, Cond.code yX8_isCase cX8_isCase 2 (some .boolean), Cond.methodLink RL 36 yX7_weight]
noncomputable def wsL_law_r9 : List Cond := [Cond.instanceMethod yX7_weight, Cond.selects RX7 yX7_weight yX7_weight, Cond.code yX7_weight cX7_weight 4 (some .int), Cond.fieldLink RX7 102 "QuietStairs$Case" "weight" "I", Cond.methodLink RL 39 yX8_weight, Cond.instanceMethod yX8_weight, Cond.selects RX8 yX8_weight yX8_weight, Cond.code yX8_weight cX8_weight 4 (some .int), Cond.methodLink RL 40 yX7_mark, Cond.instanceMethod yX7_mark, Cond.selects RX7 yX7_mark yX7_mark, Cond.code yX7_mark cX7_mark 3 (some .int), Cond.fieldLink RX7 105 "QuietStairs$Case" "markedBits" "I", Cond.fieldLink RX7 108 "QuietStairs$House" "markCount" "I", Cond.methodLink RL 43 yX8_mark, Cond.instanceMethod yX8_mark, Cond.selects RX8 yX8_mark yX8_mark, Cond.code yX8_mark cX8_mark 6 (some .int), Cond.methodLink RL 44 yX7_of, Cond.instanceMethod yX7_of, Cond.selects RX7 yX7_of yX7_of, Cond.code yX7_of cX7_of 4 (some .int), Cond.fieldLink RX7 111 "QuietStairs$Case" "parties" "[I", Cond.fieldLink RX7 114 "QuietStairs$Case" "sum" "I"]
noncomputable def wsL_law_r10 : List Cond := [Cond.fieldLink RX7 117 "QuietStairs$Case" "roundsOver" "I", Cond.methodLink RX7 120 yX1_headOfQuarrel, Cond.instanceMethod yX1_headOfQuarrel, Cond.selects RX1 yX1_headOfQuarrel yX1_headOfQuarrel, Cond.code yX1_headOfQuarrel cX1_headOfQuarrel 4 (some .int), Cond.methodLink RX1 72 yX1_quarrelBits, Cond.instanceMethod yX1_quarrelBits, Cond.selects RX1 yX1_quarrelBits yX1_quarrelBits, Cond.code yX1_quarrelBits cX1_quarrelBits 5 (some .int), Cond.fieldLink RX1 66 "QuietStairs$House" "caseCount" "I", Cond.fieldLink RX1 69 "QuietStairs$Case" "markedBits" "I", Cond.methodLink RX7 124 yX1_quarrelBits, Cond.methodLink RX7 127 yJ6_bitCount_0f7a4, Cond.static yJ6_bitCount_0f7a4, Cond.initialized RJ6, Cond.code yJ6_bitCount_0f7a4 cJ6_bitCount_0f7a4 1 (some .int), Cond.constant RJ6 265 (1431655765), Cond.constant RJ6 266 (858993459), Cond.constant RJ6 267 (252645135), Cond.methodLink RL 47 yX8_of, Cond.instanceMethod yX8_of, Cond.selects RX8 yX8_of yX8_of, Cond.code yX8_of cX8_of 3 (some .int), Cond.methodLink RX8 53 yX8_findHeads]
noncomputable def wsL_law_r11 : List Cond := [Cond.instanceMethod yX8_findHeads, Cond.selects RX8 yX8_findHeads yX8_findHeads, Cond.code yX8_findHeads cX8_findHeads 6 none, Cond.methodLink RX8 56 yX8_joined, Cond.instanceMethod yX8_joined, Cond.selects RX8 yX8_joined yX8_joined, Cond.code yX8_joined cX8_joined 4 (some .int), Cond.methodLink RL 48 yX7_offer, Cond.instanceMethod yX7_offer, Cond.selects RX7 yX7_offer yX7_offer, Cond.code yX7_offer cX7_offer 5 (some .int), Cond.fieldLink RX7 135 "QuietStairs$Case" "box" "[I", Cond.methodLink RX7 132 yX7_isSide, Cond.static yX7_isSide, Cond.code yX7_isSide cX7_isSide 1 (some .boolean), Cond.methodLink RX7 138 yX0_endRound, Cond.instanceMethod yX0_endRound, Cond.selects RX0 yX0_endRound yX0_endRound, Cond.code yX0_endRound cX0_endRound 3 (some .boolean), Cond.methodLink RL 52 yX8_offer, Cond.instanceMethod yX8_offer, Cond.selects RX8 yX8_offer yX8_offer, Cond.code yX8_offer cX8_offer 7 (some .int), Cond.methodLink RX8 60 yX8_isSide]
noncomputable def wsL_law_r12 : List Cond := [Cond.static yX8_isSide, Cond.code yX8_isSide cX8_isSide 1 (some .boolean), Cond.methodLink RL 53 yX7_put, Cond.instanceMethod yX7_put, Cond.selects RX7 yX7_put yX7_put, Cond.code yX7_put cX7_put 3 (some .int), Cond.methodLink RL 56 yX8_put, Cond.instanceMethod yX8_put, Cond.selects RX8 yX8_put yX8_put, Cond.code yX8_put cX8_put 3 (some .int), Cond.methodLink RL 57 yX7_learns, Cond.instanceMethod yX7_learns, Cond.selects RX7 yX7_learns yX7_learns, Cond.code yX7_learns cX7_learns 6 (some .int), Cond.methodLink RX7 142 yX0_greatestOfOther, Cond.instanceMethod yX0_greatestOfOther, Cond.selects RX0 yX0_greatestOfOther yX0_greatestOfOther, Cond.code yX0_greatestOfOther cX0_greatestOfOther 5 (some .int), Cond.methodLink RX0 62 Lib.Math.min.name, Cond.static Lib.Math.min.name, Cond.initialized "java/lang/Math", Cond.code Lib.Math.min.name Lib.Math.min.code 2 (some .int), Cond.methodLink RX0 52 yX0_hasMet, Cond.instanceMethod yX0_hasMet]
noncomputable def wsL_law_r13 : List Cond := [Cond.selects RX0 yX0_hasMet yX0_hasMet, Cond.code yX0_hasMet cX0_hasMet 2 (some .boolean), Cond.methodLink RX7 146 yX0_leastOfOther, Cond.instanceMethod yX0_leastOfOther, Cond.selects RX0 yX0_leastOfOther yX0_leastOfOther, Cond.code yX0_leastOfOther cX0_leastOfOther 5 (some .int), Cond.methodLink RX0 56 Lib.Math.max.name, Cond.static Lib.Math.max.name, Cond.code Lib.Math.max.name Lib.Math.max.code 2 (some .int), Cond.methodLink RL 61 yX8_learns, Cond.instanceMethod yX8_learns, Cond.selects RX8 yX8_learns yX8_learns, Cond.code yX8_learns cX8_learns 14 (some .int), Cond.methodLink RL 62 yX7_maySit, Cond.instanceMethod yX7_maySit, Cond.selects RX7 yX7_maySit yX7_maySit, Cond.code yX7_maySit cX7_maySit 3 (some .int), Cond.methodLink RX7 149 yX1_hasPair, Cond.instanceMethod yX1_hasPair, Cond.selects RX1 yX1_hasPair yX1_hasPair, Cond.code yX1_hasPair cX1_hasPair 2 (some .boolean), Cond.fieldLink RX1 36 "QuietStairs$House" "mediatorCount" "I", Cond.methodLink RX7 152 yX1_pairFits, Cond.instanceMethod yX1_pairFits]
noncomputable def wsL_law_r14 : List Cond := [Cond.selects RX1 yX1_pairFits yX1_pairFits, Cond.code yX1_pairFits cX1_pairFits 8 (some .boolean), Cond.fieldLink RX1 43 "QuietStairs$Mediator" "tongues" "I", Cond.fieldLink RX1 46 "QuietStairs$Case" "parties" "[I", Cond.fieldLink RX1 48 "QuietStairs$Party" "tongue" "I", Cond.methodLink RX1 55 yX1_isNear, Cond.instanceMethod yX1_isNear, Cond.selects RX1 yX1_isNear yX1_isNear, Cond.code yX1_isNear cX1_isNear 3 (some .boolean), Cond.fieldLink RX1 59 "QuietStairs$Mediator" "kinBits" "I", Cond.fieldLink RX1 62 "QuietStairs$Mediator" "floor" "I", Cond.fieldLink RX1 65 "QuietStairs$Party" "floor" "I", Cond.methodLink RL 65 yX8_maySit, Cond.instanceMethod yX8_maySit, Cond.selects RX8 yX8_maySit yX8_maySit, Cond.code yX8_maySit cX8_maySit 3 (some .int), Cond.methodLink RX8 73 yX8_isPair, Cond.instanceMethod yX8_isPair, Cond.selects RX8 yX8_isPair yX8_isPair, Cond.code yX8_isPair cX8_isPair 2 (some .boolean), Cond.methodLink RX8 63 yX8_otherOf, Cond.static yX8_otherOf, Cond.code yX8_otherOf cX8_otherOf 1 (some .int), Cond.methodLink RX8 76 yX8_may]
noncomputable def wsL_law_r15 : List Cond := [Cond.instanceMethod yX8_may, Cond.selects RX8 yX8_may yX8_may, Cond.code yX8_may cX8_may 9 (some .boolean), Cond.methodLink RX8 66 yX8_oneOf, Cond.static yX8_oneOf, Cond.code yX8_oneOf cX8_oneOf 1 (some .int), Cond.methodLink RX8 69 yX8_mayMeet, Cond.instanceMethod yX8_mayMeet, Cond.selects RX8 yX8_mayMeet yX8_mayMeet, Cond.code yX8_mayMeet cX8_mayMeet 3 (some .boolean), Cond.methodLink RL 66 yX7_rooms, Cond.instanceMethod yX7_rooms, Cond.selects RX7 yX7_rooms yX7_rooms, Cond.code yX7_rooms cX7_rooms 3 (some .int), Cond.methodLink RL 69 yX8_rooms, Cond.instanceMethod yX8_rooms, Cond.selects RX8 yX8_rooms yX8_rooms, Cond.code yX8_rooms cX8_rooms 3 (some .int), Cond.methodLink RL 70 yX7_plan, Cond.instanceMethod yX7_plan, Cond.selects RX7 yX7_plan yX7_plan, Cond.code yX7_plan cX7_plan 2 (some .int), Cond.methodLink RX7 156 yX4_findPlan, Cond.instanceMethod yX4_findPlan]
noncomputable def wsL_law_r16 : List Cond := [Cond.selects RX4 yX4_findPlan yX4_findPlan, Cond.code yX4_findPlan cX4_findPlan 4 none, Cond.fieldLink RX4 36 "QuietStairs$House" "mediatorCount" "I", Cond.methodLink RX4 42 Lib.Math.min.name, Cond.fieldLink RX4 48 "QuietStairs$Planner" "seatsADay" "I", Cond.fieldLink RX4 58 "QuietStairs$Planner" "leastWait" "I", Cond.fieldLink RX4 61 "QuietStairs$Planner" "count" "I", Cond.methodLink RX4 51 yX4_gather, Cond.instanceMethod yX4_gather, Cond.selects RX4 yX4_gather yX4_gather, Cond.code yX4_gather cX4_gather 4 none, Cond.fieldLink RX4 68 "QuietStairs$House" "caseCount" "I", Cond.fieldLink RX4 71 "QuietStairs$House" "cases" "[LQuietStairs$Case;", Cond.fieldLink RX4 75 "QuietStairs$Case" "state" "I", Cond.fieldLink RX4 80 "QuietStairs$Case" "weight" "I", Cond.methodLink RX4 83 yX4_fittingPairs, Cond.static yX4_fittingPairs, Cond.code yX4_fittingPairs cX4_fittingPairs 4 (some .int), Cond.methodLink RX4 87 yX1_hasPair, Cond.methodLink RX4 91 yX1_pairFits, Cond.methodLink RX4 55 yX4_sortByWeight, Cond.instanceMethod yX4_sortByWeight, Cond.selects RX4 yX4_sortByWeight yX4_sortByWeight, Cond.code yX4_sortByWeight cX4_sortByWeight 3 none]
noncomputable def wsL_law_r17 : List Cond := [Cond.methodLink RX4 64 yX4_search, Cond.instanceMethod yX4_search, Cond.selects RX4 yX4_search yX4_search, Cond.code yX4_search cX4_search 4 none, Cond.methodLink RX4 99 arraycopyName, Cond.native arraycopyName, Cond.static arraycopyName, Cond.initialized "java/lang/System", Cond.methodLink RX4 95 yX4_leastBehind, Cond.instanceMethod yX4_leastBehind, Cond.selects RX4 yX4_leastBehind yX4_leastBehind, Cond.code yX4_leastBehind cX4_leastBehind 8 (some .int), Cond.methodLink RX4 105 yX4_searchDay, Cond.instanceMethod yX4_searchDay, Cond.selects RX4 yX4_searchDay yX4_searchDay, Cond.code yX4_searchDay cX4_searchDay 6 none, Cond.methodLink RX7 160 yX4_seatOf, Cond.instanceMethod yX4_seatOf, Cond.selects RX4 yX4_seatOf yX4_seatOf, Cond.code yX4_seatOf cX4_seatOf 3 (some .int), Cond.methodLink RL 73 yX8_plan, Cond.instanceMethod yX8_plan, Cond.selects RX8 yX8_plan yX8_plan, Cond.code yX8_plan cX8_plan 3 (some .int)]
noncomputable def wsL_law_r18 : List Cond := [Cond.fieldLink RX8 79 "QuietStairsModel" "many" "I", Cond.methodLink RX8 95 yX8_makePlan, Cond.instanceMethod yX8_makePlan, Cond.selects RX8 yX8_makePlan yX8_makePlan, Cond.code yX8_makePlan cX8_makePlan 2 none, Cond.constant RX8 88 (1000000), Cond.fieldLink RX8 85 "QuietStairsModel" "least" "I", Cond.methodLink RX8 89 yX8_note, Cond.instanceMethod yX8_note, Cond.selects RX8 yX8_note yX8_note, Cond.code yX8_note cX8_note 3 none, Cond.methodLink RX8 82 yX8_waitsOf, Cond.instanceMethod yX8_waitsOf, Cond.selects RX8 yX8_waitsOf yX8_waitsOf, Cond.code yX8_waitsOf cX8_waitsOf 4 (some .int), Cond.methodLink RX8 92 yX8_fits, Cond.instanceMethod yX8_fits, Cond.selects RX8 yX8_fits yX8_fits, Cond.code yX8_fits cX8_fits 8 (some .boolean), Cond.methodLink RL 74 yX7_waits, Cond.instanceMethod yX7_waits, Cond.selects RX7 yX7_waits yX7_waits, Cond.code yX7_waits cX7_waits 1 (some .int), Cond.fieldLink RX7 163 "QuietStairs$Planner" "leastWait" "I"]
noncomputable def wsL_law_r19 : List Cond := [Cond.methodLink RL 78 yX8_waits, Cond.instanceMethod yX8_waits, Cond.selects RX8 yX8_waits yX8_waits, Cond.code yX8_waits cX8_waits 1 (some .int), Cond.methodLink RL 79 yX7_term, Cond.instanceMethod yX7_term, Cond.selects RX7 yX7_term yX7_term, Cond.code yX7_term cX7_term 9 (some .int), Cond.fieldLink RX7 169 "QuietStairs$Case" "termCount" "I", Cond.fieldLink RX7 172 "QuietStairs$Case" "terms" "[LQuietStairs$Term;", Cond.fieldLink RX7 176 "QuietStairs$Term" "side" "I", Cond.fieldLink RX7 181 "QuietStairs$Term" "must" "Z", Cond.fieldLink RX7 185 "QuietStairs$Term" "act" "I", Cond.fieldLink RX7 188 "QuietStairs$Term" "first" "I", Cond.fieldLink RX7 191 "QuietStairs$Term" "last" "I", Cond.methodLink RX7 166 yX7_isHour, Cond.static yX7_isHour, Cond.code yX7_isHour cX7_isHour 1 (some .boolean), Cond.methodLink RL 83 yX8_term, Cond.instanceMethod yX8_term, Cond.selects RX8 yX8_term yX8_term, Cond.code yX8_term cX8_term 8 (some .int), Cond.methodLink RX8 98 yX8_termAt, Cond.static yX8_termAt]
noncomputable def wsL_law_r20 : List Cond := [Cond.code yX8_termAt cX8_termAt 2 (some .int), Cond.methodLink RL 84 yX7_strike, Cond.instanceMethod yX7_strike, Cond.selects RX7 yX7_strike yX7_strike, Cond.code yX7_strike cX7_strike 2 (some .int), Cond.methodLink RL 87 yX8_strike, Cond.instanceMethod yX8_strike, Cond.selects RX8 yX8_strike yX8_strike, Cond.code yX8_strike cX8_strike 2 (some .int), Cond.methodLink RL 88 yX7_termOf, Cond.instanceMethod yX7_termOf, Cond.selects RX7 yX7_termOf yX7_termOf, Cond.code yX7_termOf cX7_termOf 5 (some .int), Cond.methodLink RX7 194 yX7_isTerm, Cond.instanceMethod yX7_isTerm, Cond.selects RX7 yX7_isTerm yX7_isTerm, Cond.code yX7_isTerm cX7_isTerm 3 (some .boolean), Cond.methodLink RL 91 yX8_termOf, Cond.instanceMethod yX8_termOf, Cond.selects RX8 yX8_termOf yX8_termOf, Cond.code yX8_termOf cX8_termOf 4 (some .int), Cond.methodLink RX8 101 yX8_isTerm, Cond.instanceMethod yX8_isTerm, Cond.selects RX8 yX8_isTerm yX8_isTerm]
noncomputable def wsL_law_r21 : List Cond := [Cond.code yX8_isTerm cX8_isTerm 3 (some .boolean), Cond.methodLink RL 92 yX7_hour, Cond.instanceMethod yX7_hour, Cond.selects RX7 yX7_hour yX7_hour, Cond.code yX7_hour cX7_hour 4 (some .int), Cond.methodLink RX7 197 yX5_read, Cond.instanceMethod yX5_read, Cond.selects RX5 yX5_read yX5_read, Cond.code yX5_read cX5_read 6 none, Cond.fieldLink RX5 18 "QuietStairs$Table" "count" "I", Cond.fieldLink RX5 22 "QuietStairs$Case" "terms" "[LQuietStairs$Term;", Cond.fieldLink RX5 28 "QuietStairs$Term" "side" "I", Cond.fieldLink RX5 33 "QuietStairs$Term" "must" "Z", Cond.methodLink RX5 37 yX5_allowedHours, Cond.static yX5_allowedHours, Cond.code yX5_allowedHours cX5_allowedHours 6 (some .int), Cond.fieldLink RX5 44 "QuietStairs$Term" "act" "I", Cond.methodLink RX5 41 yX6_hourBits, Cond.instanceMethod yX6_hourBits, Cond.selects RX6 yX6_hourBits yX6_hourBits, Cond.code yX6_hourBits cX6_hourBits 1 (some .int), Cond.fieldLink RX6 7 "QuietStairs$Term" "last" "I", Cond.fieldLink RX6 13 "QuietStairs$Term" "first" "I", Cond.methodLink RX7 201 yX5_stands]
noncomputable def wsL_law_r22 : List Cond := [Cond.instanceMethod yX5_stands, Cond.selects RX5 yX5_stands yX5_stands, Cond.code yX5_stands cX5_stands 4 (some .boolean), Cond.methodLink RX5 51 yJ6_bitCount_0f7a4, Cond.methodLink RX7 204 yX5_hourOf, Cond.instanceMethod yX5_hourOf, Cond.selects RX5 yX5_hourOf yX5_hourOf, Cond.code yX5_hourOf cX5_hourOf 4 (some .int), Cond.methodLink RX5 57 yX5_pinLeastHour, Cond.instanceMethod yX5_pinLeastHour, Cond.selects RX5 yX5_pinLeastHour yX5_pinLeastHour, Cond.code yX5_pinLeastHour cX5_pinLeastHour 4 (some .int), Cond.methodLink RX5 60 yX5_stands, Cond.methodLink RL 95 yX8_hour, Cond.instanceMethod yX8_hour, Cond.selects RX8 yX8_hour yX8_hour, Cond.code yX8_hour cX8_hour 4 (some .int), Cond.methodLink RX8 118 yX8_makeTable, Cond.instanceMethod yX8_makeTable, Cond.selects RX8 yX8_makeTable yX8_makeTable, Cond.code yX8_makeTable cX8_makeTable 7 (some .boolean), Cond.methodLink RX8 111 yX8_next, Cond.instanceMethod yX8_next, Cond.selects RX8 yX8_next yX8_next]
noncomputable def wsL_law_r23 : List Cond := [Cond.code yX8_next cX8_next 7 (some .int), Cond.methodLink RX8 108 yX8_isOwn, Cond.instanceMethod yX8_isOwn, Cond.selects RX8 yX8_isOwn yX8_isOwn, Cond.code yX8_isOwn cX8_isOwn 4 (some .boolean), Cond.methodLink RX8 115 yX8_hourFrom, Cond.instanceMethod yX8_hourFrom, Cond.selects RX8 yX8_hourFrom yX8_hourFrom, Cond.code yX8_hourFrom cX8_hourFrom 6 (some .int), Cond.methodLink RX8 104 yX8_mayBe, Cond.instanceMethod yX8_mayBe, Cond.selects RX8 yX8_mayBe yX8_mayBe, Cond.code yX8_mayBe cX8_mayBe 9 (some .boolean), Cond.methodLink RL 96 yX7_canHold, Cond.instanceMethod yX7_canHold, Cond.selects RX7 yX7_canHold yX7_canHold, Cond.code yX7_canHold cX7_canHold 3 (some .int), Cond.methodLink RL 99 yX8_canHold, Cond.instanceMethod yX8_canHold, Cond.selects RX8 yX8_canHold yX8_canHold, Cond.code yX8_canHold cX8_canHold 3 (some .int), Cond.methodLink RL 100 yX7_breaks, Cond.instanceMethod yX7_breaks, Cond.selects RX7 yX7_breaks yX7_breaks]
noncomputable def wsL_law_r24 : List Cond := [Cond.code yX7_breaks cX7_breaks 5 (some .int), Cond.methodLink RL 103 yX8_breaks, Cond.instanceMethod yX8_breaks, Cond.selects RX8 yX8_breaks yX8_breaks, Cond.code yX8_breaks cX8_breaks 4 (some .int), Cond.methodLink RL 104 yX7_log, Cond.instanceMethod yX7_log, Cond.selects RX7 yX7_log yX7_log, Cond.code yX7_log cX7_log 7 (some .int), Cond.fieldLink RX7 207 "QuietStairs$Case" "logs" "[[I", Cond.methodLink RL 108 yX8_log, Cond.instanceMethod yX8_log, Cond.selects RX8 yX8_log yX8_log, Cond.code yX8_log cX8_log 7 (some .int), Cond.methodLink RL 109 yX7_judged, Cond.instanceMethod yX7_judged, Cond.selects RX7 yX7_judged yX7_judged, Cond.code yX7_judged cX7_judged 3 (some .int), Cond.methodLink RX7 211 yX0_judge, Cond.instanceMethod yX0_judge, Cond.selects RX0 yX0_judge yX0_judge, Cond.code yX0_judge cX0_judge 6 (some .int), Cond.fieldLink RX0 65 "QuietStairs$Term" "first" "I", Cond.fieldLink RX0 68 "QuietStairs$Term" "last" "I"]
noncomputable def wsL_law_r25 : List Cond := [Cond.fieldLink RX0 71 "QuietStairs$Term" "side" "I", Cond.fieldLink RX0 74 "QuietStairs$Term" "act" "I", Cond.fieldLink RX0 77 "QuietStairs$Term" "must" "Z", Cond.methodLink RL 112 yX8_judged, Cond.instanceMethod yX8_judged, Cond.selects RX8 yX8_judged yX8_judged, Cond.code yX8_judged cX8_judged 3 (some .int), Cond.methodLink RX8 121 yX8_judge, Cond.instanceMethod yX8_judge, Cond.selects RX8 yX8_judge yX8_judge, Cond.code yX8_judge cX8_judge 8 (some .int), Cond.methodLink RL 113 yX7_many, Cond.instanceMethod yX7_many, Cond.selects RX7 yX7_many yX7_many, Cond.code yX7_many cX7_many 2 (some .int), Cond.methodLink RX7 214 yX1_countState, Cond.instanceMethod yX1_countState, Cond.selects RX1 yX1_countState yX1_countState, Cond.code yX1_countState cX1_countState 4 (some .int), Cond.fieldLink RX1 79 "QuietStairs$Case" "state" "I", Cond.methodLink RX7 217 yX1_countQuarrels, Cond.instanceMethod yX1_countQuarrels, Cond.selects RX1 yX1_countQuarrels yX1_countQuarrels, Cond.code yX1_countQuarrels cX1_countQuarrels 3 (some .int)]
noncomputable def wsL_law_r26 : List Cond := [Cond.methodLink RX1 76 yX1_headOfQuarrel, Cond.methodLink RX7 221 yX1_countTerms, Cond.instanceMethod yX1_countTerms, Cond.selects RX1 yX1_countTerms yX1_countTerms, Cond.code yX1_countTerms cX1_countTerms 3 (some .int), Cond.fieldLink RX1 82 "QuietStairs$Case" "termCount" "I", Cond.methodLink RX7 224 yX1_countJudged, Cond.instanceMethod yX1_countJudged, Cond.selects RX1 yX1_countJudged yX1_countJudged, Cond.code yX1_countJudged cX1_countJudged 5 (some .int), Cond.methodLink RX1 85 yX0_judge, Cond.methodLink RL 116 yX8_many, Cond.instanceMethod yX8_many, Cond.selects RX8 yX8_many yX8_many, Cond.code yX8_many cX8_many 2 (some .int), Cond.methodLink RX8 124 yX8_casesThat, Cond.instanceMethod yX8_casesThat, Cond.selects RX8 yX8_casesThat yX8_casesThat, Cond.code yX8_casesThat cX8_casesThat 4 (some .int), Cond.methodLink RX8 127 yX8_quarrels, Cond.instanceMethod yX8_quarrels, Cond.selects RX8 yX8_quarrels yX8_quarrels, Cond.code yX8_quarrels cX8_quarrels 3 (some .int), Cond.methodLink RX8 131 yX8_termsThat]
noncomputable def wsL_law_r27 : List Cond := [Cond.instanceMethod yX8_termsThat, Cond.selects RX8 yX8_termsThat yX8_termsThat, Cond.code yX8_termsThat cX8_termsThat 5 (some .int), Cond.methodLink RL 117 yX7_keep, Cond.instanceMethod yX7_keep, Cond.selects RX7 yX7_keep yX7_keep, Cond.code yX7_keep cX7_keep 1 (some .int), Cond.methodLink RX7 227 yX1_copyFrom, Cond.instanceMethod yX1_copyFrom, Cond.selects RX1 yX1_copyFrom yX1_copyFrom, Cond.code yX1_copyFrom cX1_copyFrom 3 none, Cond.fieldLink RX1 88 "QuietStairs$House" "partyCount" "I", Cond.fieldLink RX1 91 "QuietStairs$House" "markCount" "I", Cond.methodLink RX1 94 yX3_copyFrom, Cond.instanceMethod yX3_copyFrom, Cond.selects RX3 yX3_copyFrom yX3_copyFrom, Cond.code yX3_copyFrom cX3_copyFrom 2 none, Cond.fieldLink RX3 7 "QuietStairs$Party" "floor" "I", Cond.fieldLink RX3 13 "QuietStairs$Party" "tongue" "I", Cond.methodLink RX1 98 yX2_copyFrom, Cond.instanceMethod yX2_copyFrom, Cond.selects RX2 yX2_copyFrom yX2_copyFrom, Cond.code yX2_copyFrom cX2_copyFrom 2 none, Cond.fieldLink RX2 7 "QuietStairs$Mediator" "floor" "I"]
noncomputable def wsL_law_r28 : List Cond := [Cond.fieldLink RX2 13 "QuietStairs$Mediator" "tongues" "I", Cond.fieldLink RX2 16 "QuietStairs$Mediator" "kinBits" "I", Cond.methodLink RX1 101 yX0_copyFrom, Cond.instanceMethod yX0_copyFrom, Cond.selects RX0 yX0_copyFrom yX0_copyFrom, Cond.code yX0_copyFrom cX0_copyFrom 3 none, Cond.methodLink RX0 81 arraycopyName, Cond.methodLink RX0 87 yX6_copyFrom, Cond.instanceMethod yX6_copyFrom, Cond.selects RX6 yX6_copyFrom yX6_copyFrom, Cond.code yX6_copyFrom cX6_copyFrom 2 none, Cond.fieldLink RX6 16 "QuietStairs$Term" "side" "I", Cond.fieldLink RX6 19 "QuietStairs$Term" "must" "Z", Cond.fieldLink RX6 23 "QuietStairs$Term" "act" "I", Cond.methodLink RL 120 yX8_keep, Cond.instanceMethod yX8_keep, Cond.selects RX8 yX8_keep yX8_keep, Cond.code yX8_keep cX8_keep 2 (some .int), Cond.fieldLink RX8 134 "QuietStairsModel" "isKept" "Z", Cond.methodLink RL 121 yX7_back, Cond.instanceMethod yX7_back, Cond.selects RX7 yX7_back yX7_back, Cond.code yX7_back cX7_back 1 (some .int), Cond.methodLink RL 124 yX8_back]
noncomputable def wsL_law_r29 : List Cond := [Cond.instanceMethod yX8_back, Cond.selects RX8 yX8_back yX8_back, Cond.code yX8_back cX8_back 2 (some .int)]
noncomputable def wsL_law : List Cond := (wsL_law_r1 ++ (wsL_law_r2 ++ (wsL_law_r3 ++ (wsL_law_r4 ++ (wsL_law_r5 ++ (wsL_law_r6 ++ (wsL_law_r7 ++ (wsL_law_r8 ++ (wsL_law_r9 ++ (wsL_law_r10 ++ (wsL_law_r11 ++ (wsL_law_r12 ++ (wsL_law_r13 ++ (wsL_law_r14 ++ (wsL_law_r15 ++ (wsL_law_r16 ++ (wsL_law_r17 ++ (wsL_law_r18 ++ (wsL_law_r19 ++ (wsL_law_r20 ++ (wsL_law_r21 ++ (wsL_law_r22 ++ (wsL_law_r23 ++ (wsL_law_r24 ++ (wsL_law_r25 ++ (wsL_law_r26 ++ (wsL_law_r27 ++ (wsL_law_r28 ++ wsL_law_r29)))))))))))))))))))))))))))) ++ wsX70 ++ wsX80 ++ wsX10 ++ wsX40 ++ wsX50 ++ wsX30 ++ wsX20 ++ wsX00 ++ wsX60 ++ ([] : List Cond)
theorem mem_r {big : List Cond} (ws : List Cond) (ps : List Nat) (hp : ws = ps.filterMap (fun i => big[i]?)) : ∀ w ∈ ws, w ∈ big := by
  intro w hw
  rw [hp] at hw
  obtain ⟨i, -, hi⟩ := List.mem_filterMap.mp hw
  exact List.mem_of_getElem? hi
set_option maxRecDepth 20000 in
theorem wl_r1 : GoodIn lw_tbl wsL_law_r1 := goodIn_r _ [45, 46, 33, 601, 602, 41, 47, 48, 49, 50, 51, 52, 53, 54, 34, 286, 229, 230, 39, 287, 270, 271, 40, 288] rfl (by decide +kernel)
set_option maxRecDepth 20000 in
theorem wl_r2 : GoodIn lw_tbl wsL_law_r2 := goodIn_r _ [289, 290, 55, 56, 57, 58, 59, 207, 61, 209, 63, 211, 65, 35, 81, 36, 102, 37, 67, 68, 69, 83, 84, 85] rfl (by decide +kernel)
set_option maxRecDepth 20000 in
theorem wl_r3 : GoodIn lw_tbl wsL_law_r3 := goodIn_r _ [103, 104, 105, 106, 145, 163, 166, 107, 168, 169, 109, 171, 111, 38, 113, 114, 115, 232, 233, 234, 239, 240, 241, 242] rfl (by decide +kernel)
set_option maxRecDepth 20000 in
theorem wl_r4 : GoodIn lw_tbl wsL_law_r4 := goodIn_r _ [243, 244, 245, 246, 273, 274, 275, 277, 278, 603, 604, 605, 606, 607, 608, 610, 611, 613, 614, 615, 617, 302, 303, 304] rfl (by decide +kernel)
set_option maxRecDepth 20000 in
theorem wl_r5 : GoodIn lw_tbl wsL_law_r5 := goodIn_r _ [305, 197, 208, 71, 74, 306, 307, 308, 641, 642, 643, 644, 645, 646, 647, 309, 310, 311, 312, 201, 210, 87, 91, 93] rfl (by decide +kernel)
set_option maxRecDepth 20000 in
theorem wl_r6 : GoodIn lw_tbl wsL_law_r6 := goodIn_r _ [648, 649, 650, 651, 313, 314, 315, 316, 317, 319, 0, 320, 321, 323, 1, 324, 325, 326, 327, 652, 653, 654, 655, 656] rfl (by decide +kernel)
set_option maxRecDepth 20000 in
theorem wl_r7 : GoodIn lw_tbl wsL_law_r7 := goodIn_r _ [658, 10, 659, 660, 662, 11, 663, 328, 329, 330, 331, 204, 213, 332, 333, 334, 335, 146, 150, 152, 154, 157, 160, 664] rfl (by decide +kernel)
set_option maxRecDepth 20000 in
theorem wl_r8 : GoodIn lw_tbl wsL_law_r8 := goodIn_r _ [665, 666, 667, 668, 669, 670, 336, 337, 338, 339, 148, 340, 342, 2, 343, 671, 672, 673, 674, 675, 677, 12, 678, 344] rfl (by decide +kernel)
set_option maxRecDepth 20000 in
theorem wl_r9 : GoodIn lw_tbl wsL_law_r9 := goodIn_r _ [345, 346, 347, 156, 679, 680, 681, 682, 348, 349, 350, 351, 159, 205, 683, 684, 685, 686, 352, 353, 354, 355, 165, 151] rfl (by decide +kernel)
set_option maxRecDepth 20000 in
theorem wl_r10 : GoodIn lw_tbl wsL_law_r10 := goodIn_r _ [153, 356, 357, 358, 359, 360, 361, 362, 363, 203, 158, 365, 366, 367, 42, 368, 369, 370, 371, 687, 688, 689, 690, 691] rfl (by decide +kernel)
set_option maxRecDepth 20000 in
theorem wl_r11 : GoodIn lw_tbl wsL_law_r11 := goodIn_r _ [693, 13, 694, 695, 697, 14, 698, 372, 373, 374, 375, 167, 376, 377, 378, 379, 380, 381, 382, 699, 700, 701, 702, 703] rfl (by decide +kernel)
set_option maxRecDepth 20000 in
theorem wl_r12 : GoodIn lw_tbl wsL_law_r12 := goodIn_r _ [704, 705, 383, 384, 385, 386, 706, 707, 708, 709, 387, 388, 389, 390, 391, 392, 393, 394, 399, 400, 43, 401, 395, 396] rfl (by decide +kernel)
set_option maxRecDepth 20000 in
theorem wl_r13 : GoodIn lw_tbl wsL_law_r13 := goodIn_r _ [397, 398, 402, 403, 404, 405, 406, 407, 408, 710, 711, 712, 713, 409, 410, 411, 412, 413, 414, 415, 416, 200, 419, 420] rfl (by decide +kernel)
set_option maxRecDepth 20000 in
theorem wl_r14 : GoodIn lw_tbl wsL_law_r14 := goodIn_r _ [421, 422, 90, 164, 75, 425, 426, 427, 428, 94, 88, 72, 714, 715, 716, 717, 718, 720, 15, 721, 722, 723, 724, 725] rfl (by decide +kernel)
set_option maxRecDepth 20000 in
theorem wl_r15 : GoodIn lw_tbl wsL_law_r15 := goodIn_r _ [727, 16, 728, 729, 730, 731, 732, 734, 17, 735, 429, 430, 431, 432, 736, 737, 738, 739, 433, 434, 435, 436, 437, 438] rfl (by decide +kernel)
set_option maxRecDepth 20000 in
theorem wl_r16 : GoodIn lw_tbl wsL_law_r16 := goodIn_r _ [439, 440, 199, 441, 238, 235, 237, 442, 444, 3, 445, 202, 212, 147, 155, 446, 447, 448, 449, 450, 451, 453, 4, 454] rfl (by decide +kernel)
set_option maxRecDepth 20000 in
theorem wl_r17 : GoodIn lw_tbl wsL_law_r17 := goodIn_r _ [455, 457, 5, 458, 463, 465, 464, 44, 459, 461, 6, 462, 466, 468, 7, 469, 473, 474, 475, 476, 740, 741, 742, 743] rfl (by decide +kernel)
set_option maxRecDepth 20000 in
theorem wl_r18 : GoodIn lw_tbl wsL_law_r18 := goodIn_r _ [612, 744, 746, 18, 747, 748, 616, 749, 751, 19, 752, 753, 755, 20, 756, 757, 759, 21, 760, 477, 478, 479, 480, 236] rfl (by decide +kernel)
set_option maxRecDepth 20000 in
theorem wl_r19 : GoodIn lw_tbl wsL_law_r19 := goodIn_r _ [761, 762, 763, 764, 481, 482, 483, 484, 162, 173, 119, 123, 127, 130, 133, 485, 486, 487, 765, 766, 767, 768, 769, 770] rfl (by decide +kernel)
set_option maxRecDepth 20000 in
theorem wl_r20 : GoodIn lw_tbl wsL_law_r20 := goodIn_r _ [771, 488, 489, 490, 491, 772, 773, 774, 775, 492, 493, 494, 495, 496, 498, 8, 499, 776, 777, 778, 779, 780, 782, 22] rfl (by decide +kernel)
set_option maxRecDepth 20000 in
theorem wl_r21 : GoodIn lw_tbl wsL_law_r21 := goodIn_r _ [783, 500, 501, 502, 503, 504, 505, 506, 507, 276, 172, 116, 120, 508, 509, 510, 125, 511, 512, 513, 514, 131, 128, 515] rfl (by decide +kernel)
set_option maxRecDepth 20000 in
theorem wl_r22 : GoodIn lw_tbl wsL_law_r22 := goodIn_r _ [516, 517, 518, 520, 521, 522, 523, 524, 525, 527, 9, 528, 529, 784, 785, 786, 787, 788, 790, 23, 791, 792, 794, 24] rfl (by decide +kernel)
set_option maxRecDepth 20000 in
theorem wl_r23 : GoodIn lw_tbl wsL_law_r23 := goodIn_r _ [795, 796, 798, 25, 799, 800, 802, 26, 803, 804, 806, 27, 807, 530, 531, 532, 533, 808, 809, 810, 811, 534, 535, 536] rfl (by decide +kernel)
set_option maxRecDepth 20000 in
theorem wl_r24 : GoodIn lw_tbl wsL_law_r24 := goodIn_r _ [537, 812, 813, 814, 815, 538, 539, 540, 541, 170, 816, 817, 818, 819, 542, 543, 544, 545, 546, 547, 548, 549, 129, 132] rfl (by decide +kernel)
set_option maxRecDepth 20000 in
theorem wl_r25 : GoodIn lw_tbl wsL_law_r25 := goodIn_r _ [118, 126, 122, 820, 821, 822, 823, 824, 826, 28, 827, 550, 551, 552, 553, 554, 555, 556, 557, 149, 558, 559, 560, 561] rfl (by decide +kernel)
set_option maxRecDepth 20000 in
theorem wl_r26 : GoodIn lw_tbl wsL_law_r26 := goodIn_r _ [562, 563, 564, 565, 566, 161, 567, 568, 569, 570, 571, 828, 829, 830, 831, 832, 834, 29, 835, 836, 838, 30, 839, 840] rfl (by decide +kernel)
set_option maxRecDepth 20000 in
theorem wl_r27 : GoodIn lw_tbl wsL_law_r27 := goodIn_r _ [842, 31, 843, 572, 573, 574, 575, 576, 577, 578, 579, 198, 206, 580, 581, 582, 583, 70, 73, 584, 585, 586, 587, 86] rfl (by decide +kernel)
set_option maxRecDepth 20000 in
theorem wl_r28 : GoodIn lw_tbl wsL_law_r28 := goodIn_r _ [89, 92, 588, 589, 590, 591, 592, 593, 594, 595, 596, 117, 121, 124, 844, 845, 846, 847, 609, 597, 598, 599, 600, 848] rfl (by decide +kernel)
set_option maxRecDepth 20000 in
theorem wl_r29 : GoodIn lw_tbl wsL_law_r29 := goodIn_r _ [849, 850, 851] rfl (by decide +kernel)
set_option maxRecDepth 20000 in
theorem wl_wsX70 : ∀ w ∈ wsX70, w ∈ lw_tbl := mem_r _ [291, 293, 295, 297, 299] rfl
set_option maxRecDepth 20000 in
theorem wl_wsX80 : ∀ w ∈ wsX80, w ∈ lw_tbl := mem_r _ [618, 620, 622, 624, 626, 628, 630, 632, 634, 636, 638] rfl
set_option maxRecDepth 20000 in
theorem wl_wsX10 : ∀ w ∈ wsX10, w ∈ lw_tbl := mem_r _ [214, 216, 218, 220, 222, 224, 226] rfl
set_option maxRecDepth 20000 in
theorem wl_wsX40 : ∀ w ∈ wsX40, w ∈ lw_tbl := mem_r _ [247, 249, 251, 253, 255, 257, 259, 261, 263, 265, 267] rfl
set_option maxRecDepth 20000 in
theorem wl_wsX50 : ∀ w ∈ wsX50, w ∈ lw_tbl := mem_r _ [279, 281, 283] rfl
set_option maxRecDepth 20000 in
theorem wl_wsX30 : ∀ w ∈ wsX30, w ∈ lw_tbl := mem_r _ [76, 78] rfl
set_option maxRecDepth 20000 in
theorem wl_wsX20 : ∀ w ∈ wsX20, w ∈ lw_tbl := mem_r _ [95, 97, 99] rfl
set_option maxRecDepth 20000 in
theorem wl_wsX00 : ∀ w ∈ wsX00, w ∈ lw_tbl := mem_r _ [174, 176, 178, 180, 182, 184, 186, 188, 190, 192, 194] rfl
set_option maxRecDepth 20000 in
theorem wl_wsX60 : ∀ w ∈ wsX60, w ∈ lw_tbl := mem_r _ [134, 136, 138, 140, 142] rfl
theorem wsL_law_in : ∀ w ∈ wsL_law, w ∈ lw_tbl := (fun w h => (List.mem_append.mp h).elim ((fun w h => (List.mem_append.mp h).elim ((fun w h => (List.mem_append.mp h).elim ((fun w h => (List.mem_append.mp h).elim ((fun w h => (List.mem_append.mp h).elim ((fun w h => (List.mem_append.mp h).elim ((fun w h => (List.mem_append.mp h).elim ((fun w h => (List.mem_append.mp h).elim ((fun w h => (List.mem_append.mp h).elim ((fun w h => (List.mem_append.mp h).elim ((fun w h => (List.mem_append.mp h).elim (fun h => (wl_r1 w h).1) ((fun w h => (List.mem_append.mp h).elim (fun h => (wl_r2 w h).1) ((fun w h => (List.mem_append.mp h).elim (fun h => (wl_r3 w h).1) ((fun w h => (List.mem_append.mp h).elim (fun h => (wl_r4 w h).1) ((fun w h => (List.mem_append.mp h).elim (fun h => (wl_r5 w h).1) ((fun w h => (List.mem_append.mp h).elim (fun h => (wl_r6 w h).1) ((fun w h => (List.mem_append.mp h).elim (fun h => (wl_r7 w h).1) ((fun w h => (List.mem_append.mp h).elim (fun h => (wl_r8 w h).1) ((fun w h => (List.mem_append.mp h).elim (fun h => (wl_r9 w h).1) ((fun w h => (List.mem_append.mp h).elim (fun h => (wl_r10 w h).1) ((fun w h => (List.mem_append.mp h).elim (fun h => (wl_r11 w h).1) ((fun w h => (List.mem_append.mp h).elim (fun h => (wl_r12 w h).1) ((fun w h => (List.mem_append.mp h).elim (fun h => (wl_r13 w h).1) ((fun w h => (List.mem_append.mp h).elim (fun h => (wl_r14 w h).1) ((fun w h => (List.mem_append.mp h).elim (fun h => (wl_r15 w h).1) ((fun w h => (List.mem_append.mp h).elim (fun h => (wl_r16 w h).1) ((fun w h => (List.mem_append.mp h).elim (fun h => (wl_r17 w h).1) ((fun w h => (List.mem_append.mp h).elim (fun h => (wl_r18 w h).1) ((fun w h => (List.mem_append.mp h).elim (fun h => (wl_r19 w h).1) ((fun w h => (List.mem_append.mp h).elim (fun h => (wl_r20 w h).1) ((fun w h => (List.mem_append.mp h).elim (fun h => (wl_r21 w h).1) ((fun w h => (List.mem_append.mp h).elim (fun h => (wl_r22 w h).1) ((fun w h => (List.mem_append.mp h).elim (fun h => (wl_r23 w h).1) ((fun w h => (List.mem_append.mp h).elim (fun h => (wl_r24 w h).1) ((fun w h => (List.mem_append.mp h).elim (fun h => (wl_r25 w h).1) ((fun w h => (List.mem_append.mp h).elim (fun h => (wl_r26 w h).1) ((fun w h => (List.mem_append.mp h).elim (fun h => (wl_r27 w h).1) ((fun w h => (List.mem_append.mp h).elim (fun h => (wl_r28 w h).1) ((fun w h => (wl_r29 w h).1) w)) w)) w)) w)) w)) w)) w)) w)) w)) w)) w)) w)) w)) w)) w)) w)) w)) w)) w)) w)) w)) w)) w)) w)) w)) w)) w)) w)) w) (wl_wsX70 w)) w) (wl_wsX80 w)) w) (wl_wsX10 w)) w) (wl_wsX40 w)) w) (wl_wsX50 w)) w) (wl_wsX30 w)) w) (wl_wsX20 w)) w) (wl_wsX00 w)) w) (wl_wsX60 w)) w) (fun h => absurd h List.not_mem_nil))
theorem inlX0 : ∀ w ∈ wsX00, w ∈ wsL_law := fun _ h => List.mem_append_left _ (List.mem_append_left _ (List.mem_append_right _ h))
theorem inX0 : ∀ w ∈ wsX00, w ∈ lw_tbl := fun w h => wsL_law_in w (inlX0 w h)
theorem inlX1 : ∀ w ∈ wsX10, w ∈ wsL_law := fun _ h => List.mem_append_left _ (List.mem_append_left _ (List.mem_append_left _ (List.mem_append_left _ (List.mem_append_left _ (List.mem_append_left _ (List.mem_append_left _ (List.mem_append_right _ h)))))))
theorem inX1 : ∀ w ∈ wsX10, w ∈ lw_tbl := fun w h => wsL_law_in w (inlX1 w h)
theorem inlX2 : ∀ w ∈ wsX20, w ∈ wsL_law := fun _ h => List.mem_append_left _ (List.mem_append_left _ (List.mem_append_left _ (List.mem_append_right _ h)))
theorem inX2 : ∀ w ∈ wsX20, w ∈ lw_tbl := fun w h => wsL_law_in w (inlX2 w h)
theorem inlX3 : ∀ w ∈ wsX30, w ∈ wsL_law := fun _ h => List.mem_append_left _ (List.mem_append_left _ (List.mem_append_left _ (List.mem_append_left _ (List.mem_append_right _ h))))
theorem inX3 : ∀ w ∈ wsX30, w ∈ lw_tbl := fun w h => wsL_law_in w (inlX3 w h)
theorem inlX4 : ∀ w ∈ wsX40, w ∈ wsL_law := fun _ h => List.mem_append_left _ (List.mem_append_left _ (List.mem_append_left _ (List.mem_append_left _ (List.mem_append_left _ (List.mem_append_left _ (List.mem_append_right _ h))))))
theorem inX4 : ∀ w ∈ wsX40, w ∈ lw_tbl := fun w h => wsL_law_in w (inlX4 w h)
theorem inlX5 : ∀ w ∈ wsX50, w ∈ wsL_law := fun _ h => List.mem_append_left _ (List.mem_append_left _ (List.mem_append_left _ (List.mem_append_left _ (List.mem_append_left _ (List.mem_append_right _ h)))))
theorem inX5 : ∀ w ∈ wsX50, w ∈ lw_tbl := fun w h => wsL_law_in w (inlX5 w h)
theorem inlX6 : ∀ w ∈ wsX60, w ∈ wsL_law := fun _ h => List.mem_append_left _ (List.mem_append_right _ h)
theorem inX6 : ∀ w ∈ wsX60, w ∈ lw_tbl := fun w h => wsL_law_in w (inlX6 w h)
theorem inlX7 : ∀ w ∈ wsX70, w ∈ wsL_law := fun _ h => List.mem_append_left _ (List.mem_append_left _ (List.mem_append_left _ (List.mem_append_left _ (List.mem_append_left _ (List.mem_append_left _ (List.mem_append_left _ (List.mem_append_left _ (List.mem_append_left _ (List.mem_append_right _ h)))))))))
theorem inX7 : ∀ w ∈ wsX70, w ∈ lw_tbl := fun w h => wsL_law_in w (inlX7 w h)
theorem inlX8 : ∀ w ∈ wsX80, w ∈ wsL_law := fun _ h => List.mem_append_left _ (List.mem_append_left _ (List.mem_append_left _ (List.mem_append_left _ (List.mem_append_left _ (List.mem_append_left _ (List.mem_append_left _ (List.mem_append_left _ (List.mem_append_right _ h))))))))
theorem inX8 : ∀ w ∈ wsX80, w ∈ lw_tbl := fun w h => wsL_law_in w (inlX8 w h)
theorem inJ6 : ∀ w ∈ wsJ60, w ∈ lw_tbl := by decide +kernel
theorem inJ9 : ∀ w ∈ wsJ90, w ∈ lw_tbl := by decide +kernel
theorem inJ10 : ∀ w ∈ wsJ100, w ∈ lw_tbl := by decide +kernel
noncomputable def lw_ch (k j : Nat) : Option Cond := match k with
  | 0 => wsL_law_r1[j]?
  | 1 => wsL_law_r2[j]?
  | 2 => wsL_law_r3[j]?
  | 3 => wsL_law_r4[j]?
  | 4 => wsL_law_r5[j]?
  | 5 => wsL_law_r6[j]?
  | 6 => wsL_law_r7[j]?
  | 7 => wsL_law_r8[j]?
  | 8 => wsL_law_r9[j]?
  | 9 => wsL_law_r10[j]?
  | 10 => wsL_law_r11[j]?
  | 11 => wsL_law_r12[j]?
  | 12 => wsL_law_r13[j]?
  | 13 => wsL_law_r14[j]?
  | 14 => wsL_law_r15[j]?
  | 15 => wsL_law_r16[j]?
  | 16 => wsL_law_r17[j]?
  | 17 => wsL_law_r18[j]?
  | 18 => wsL_law_r19[j]?
  | 19 => wsL_law_r20[j]?
  | 20 => wsL_law_r21[j]?
  | 21 => wsL_law_r22[j]?
  | 22 => wsL_law_r23[j]?
  | 23 => wsL_law_r24[j]?
  | 24 => wsL_law_r25[j]?
  | 25 => wsL_law_r26[j]?
  | 26 => wsL_law_r27[j]?
  | 27 => wsL_law_r28[j]?
  | 28 => wsL_law_r29[j]?
  | 29 => wsX70[j]?
  | 30 => wsX80[j]?
  | 31 => wsX10[j]?
  | 32 => wsX40[j]?
  | 33 => wsX50[j]?
  | 34 => wsX30[j]?
  | 35 => wsX20[j]?
  | 36 => wsX00[j]?
  | _ => wsX60[j]?
theorem lw_chin : ∀ (k j : Nat) (c : Cond), lw_ch k j = some c → c ∈ wsL_law
  | 0, _, _, h => List.mem_append_left _ (List.mem_append_left _ (List.mem_append_left _ (List.mem_append_left _ (List.mem_append_left _ (List.mem_append_left _ (List.mem_append_left _ (List.mem_append_left _ (List.mem_append_left _ (List.mem_append_left _ (List.mem_append_left _ (List.mem_of_getElem? h)))))))))))
  | 1, _, _, h => List.mem_append_left _ (List.mem_append_left _ (List.mem_append_left _ (List.mem_append_left _ (List.mem_append_left _ (List.mem_append_left _ (List.mem_append_left _ (List.mem_append_left _ (List.mem_append_left _ (List.mem_append_left _ (List.mem_append_right _ (List.mem_append_left _ (List.mem_of_getElem? h))))))))))))
  | 2, _, _, h => List.mem_append_left _ (List.mem_append_left _ (List.mem_append_left _ (List.mem_append_left _ (List.mem_append_left _ (List.mem_append_left _ (List.mem_append_left _ (List.mem_append_left _ (List.mem_append_left _ (List.mem_append_left _ (List.mem_append_right _ (List.mem_append_right _ (List.mem_append_left _ (List.mem_of_getElem? h)))))))))))))
  | 3, _, _, h => List.mem_append_left _ (List.mem_append_left _ (List.mem_append_left _ (List.mem_append_left _ (List.mem_append_left _ (List.mem_append_left _ (List.mem_append_left _ (List.mem_append_left _ (List.mem_append_left _ (List.mem_append_left _ (List.mem_append_right _ (List.mem_append_right _ (List.mem_append_right _ (List.mem_append_left _ (List.mem_of_getElem? h))))))))))))))
  | 4, _, _, h => List.mem_append_left _ (List.mem_append_left _ (List.mem_append_left _ (List.mem_append_left _ (List.mem_append_left _ (List.mem_append_left _ (List.mem_append_left _ (List.mem_append_left _ (List.mem_append_left _ (List.mem_append_left _ (List.mem_append_right _ (List.mem_append_right _ (List.mem_append_right _ (List.mem_append_right _ (List.mem_append_left _ (List.mem_of_getElem? h)))))))))))))))
  | 5, _, _, h => List.mem_append_left _ (List.mem_append_left _ (List.mem_append_left _ (List.mem_append_left _ (List.mem_append_left _ (List.mem_append_left _ (List.mem_append_left _ (List.mem_append_left _ (List.mem_append_left _ (List.mem_append_left _ (List.mem_append_right _ (List.mem_append_right _ (List.mem_append_right _ (List.mem_append_right _ (List.mem_append_right _ (List.mem_append_left _ (List.mem_of_getElem? h))))))))))))))))
  | 6, _, _, h => List.mem_append_left _ (List.mem_append_left _ (List.mem_append_left _ (List.mem_append_left _ (List.mem_append_left _ (List.mem_append_left _ (List.mem_append_left _ (List.mem_append_left _ (List.mem_append_left _ (List.mem_append_left _ (List.mem_append_right _ (List.mem_append_right _ (List.mem_append_right _ (List.mem_append_right _ (List.mem_append_right _ (List.mem_append_right _ (List.mem_append_left _ (List.mem_of_getElem? h)))))))))))))))))
  | 7, _, _, h => List.mem_append_left _ (List.mem_append_left _ (List.mem_append_left _ (List.mem_append_left _ (List.mem_append_left _ (List.mem_append_left _ (List.mem_append_left _ (List.mem_append_left _ (List.mem_append_left _ (List.mem_append_left _ (List.mem_append_right _ (List.mem_append_right _ (List.mem_append_right _ (List.mem_append_right _ (List.mem_append_right _ (List.mem_append_right _ (List.mem_append_right _ (List.mem_append_left _ (List.mem_of_getElem? h))))))))))))))))))
  | 8, _, _, h => List.mem_append_left _ (List.mem_append_left _ (List.mem_append_left _ (List.mem_append_left _ (List.mem_append_left _ (List.mem_append_left _ (List.mem_append_left _ (List.mem_append_left _ (List.mem_append_left _ (List.mem_append_left _ (List.mem_append_right _ (List.mem_append_right _ (List.mem_append_right _ (List.mem_append_right _ (List.mem_append_right _ (List.mem_append_right _ (List.mem_append_right _ (List.mem_append_right _ (List.mem_append_left _ (List.mem_of_getElem? h)))))))))))))))))))
  | 9, _, _, h => List.mem_append_left _ (List.mem_append_left _ (List.mem_append_left _ (List.mem_append_left _ (List.mem_append_left _ (List.mem_append_left _ (List.mem_append_left _ (List.mem_append_left _ (List.mem_append_left _ (List.mem_append_left _ (List.mem_append_right _ (List.mem_append_right _ (List.mem_append_right _ (List.mem_append_right _ (List.mem_append_right _ (List.mem_append_right _ (List.mem_append_right _ (List.mem_append_right _ (List.mem_append_right _ (List.mem_append_left _ (List.mem_of_getElem? h))))))))))))))))))))
  | 10, _, _, h => List.mem_append_left _ (List.mem_append_left _ (List.mem_append_left _ (List.mem_append_left _ (List.mem_append_left _ (List.mem_append_left _ (List.mem_append_left _ (List.mem_append_left _ (List.mem_append_left _ (List.mem_append_left _ (List.mem_append_right _ (List.mem_append_right _ (List.mem_append_right _ (List.mem_append_right _ (List.mem_append_right _ (List.mem_append_right _ (List.mem_append_right _ (List.mem_append_right _ (List.mem_append_right _ (List.mem_append_right _ (List.mem_append_left _ (List.mem_of_getElem? h)))))))))))))))))))))
  | 11, _, _, h => List.mem_append_left _ (List.mem_append_left _ (List.mem_append_left _ (List.mem_append_left _ (List.mem_append_left _ (List.mem_append_left _ (List.mem_append_left _ (List.mem_append_left _ (List.mem_append_left _ (List.mem_append_left _ (List.mem_append_right _ (List.mem_append_right _ (List.mem_append_right _ (List.mem_append_right _ (List.mem_append_right _ (List.mem_append_right _ (List.mem_append_right _ (List.mem_append_right _ (List.mem_append_right _ (List.mem_append_right _ (List.mem_append_right _ (List.mem_append_left _ (List.mem_of_getElem? h))))))))))))))))))))))
  | 12, _, _, h => List.mem_append_left _ (List.mem_append_left _ (List.mem_append_left _ (List.mem_append_left _ (List.mem_append_left _ (List.mem_append_left _ (List.mem_append_left _ (List.mem_append_left _ (List.mem_append_left _ (List.mem_append_left _ (List.mem_append_right _ (List.mem_append_right _ (List.mem_append_right _ (List.mem_append_right _ (List.mem_append_right _ (List.mem_append_right _ (List.mem_append_right _ (List.mem_append_right _ (List.mem_append_right _ (List.mem_append_right _ (List.mem_append_right _ (List.mem_append_right _ (List.mem_append_left _ (List.mem_of_getElem? h)))))))))))))))))))))))
  | 13, _, _, h => List.mem_append_left _ (List.mem_append_left _ (List.mem_append_left _ (List.mem_append_left _ (List.mem_append_left _ (List.mem_append_left _ (List.mem_append_left _ (List.mem_append_left _ (List.mem_append_left _ (List.mem_append_left _ (List.mem_append_right _ (List.mem_append_right _ (List.mem_append_right _ (List.mem_append_right _ (List.mem_append_right _ (List.mem_append_right _ (List.mem_append_right _ (List.mem_append_right _ (List.mem_append_right _ (List.mem_append_right _ (List.mem_append_right _ (List.mem_append_right _ (List.mem_append_right _ (List.mem_append_left _ (List.mem_of_getElem? h))))))))))))))))))))))))
  | 14, _, _, h => List.mem_append_left _ (List.mem_append_left _ (List.mem_append_left _ (List.mem_append_left _ (List.mem_append_left _ (List.mem_append_left _ (List.mem_append_left _ (List.mem_append_left _ (List.mem_append_left _ (List.mem_append_left _ (List.mem_append_right _ (List.mem_append_right _ (List.mem_append_right _ (List.mem_append_right _ (List.mem_append_right _ (List.mem_append_right _ (List.mem_append_right _ (List.mem_append_right _ (List.mem_append_right _ (List.mem_append_right _ (List.mem_append_right _ (List.mem_append_right _ (List.mem_append_right _ (List.mem_append_right _ (List.mem_append_left _ (List.mem_of_getElem? h)))))))))))))))))))))))))
  | 15, _, _, h => List.mem_append_left _ (List.mem_append_left _ (List.mem_append_left _ (List.mem_append_left _ (List.mem_append_left _ (List.mem_append_left _ (List.mem_append_left _ (List.mem_append_left _ (List.mem_append_left _ (List.mem_append_left _ (List.mem_append_right _ (List.mem_append_right _ (List.mem_append_right _ (List.mem_append_right _ (List.mem_append_right _ (List.mem_append_right _ (List.mem_append_right _ (List.mem_append_right _ (List.mem_append_right _ (List.mem_append_right _ (List.mem_append_right _ (List.mem_append_right _ (List.mem_append_right _ (List.mem_append_right _ (List.mem_append_right _ (List.mem_append_left _ (List.mem_of_getElem? h))))))))))))))))))))))))))
  | 16, _, _, h => List.mem_append_left _ (List.mem_append_left _ (List.mem_append_left _ (List.mem_append_left _ (List.mem_append_left _ (List.mem_append_left _ (List.mem_append_left _ (List.mem_append_left _ (List.mem_append_left _ (List.mem_append_left _ (List.mem_append_right _ (List.mem_append_right _ (List.mem_append_right _ (List.mem_append_right _ (List.mem_append_right _ (List.mem_append_right _ (List.mem_append_right _ (List.mem_append_right _ (List.mem_append_right _ (List.mem_append_right _ (List.mem_append_right _ (List.mem_append_right _ (List.mem_append_right _ (List.mem_append_right _ (List.mem_append_right _ (List.mem_append_right _ (List.mem_append_left _ (List.mem_of_getElem? h)))))))))))))))))))))))))))
  | 17, _, _, h => List.mem_append_left _ (List.mem_append_left _ (List.mem_append_left _ (List.mem_append_left _ (List.mem_append_left _ (List.mem_append_left _ (List.mem_append_left _ (List.mem_append_left _ (List.mem_append_left _ (List.mem_append_left _ (List.mem_append_right _ (List.mem_append_right _ (List.mem_append_right _ (List.mem_append_right _ (List.mem_append_right _ (List.mem_append_right _ (List.mem_append_right _ (List.mem_append_right _ (List.mem_append_right _ (List.mem_append_right _ (List.mem_append_right _ (List.mem_append_right _ (List.mem_append_right _ (List.mem_append_right _ (List.mem_append_right _ (List.mem_append_right _ (List.mem_append_right _ (List.mem_append_left _ (List.mem_of_getElem? h))))))))))))))))))))))))))))
  | 18, _, _, h => List.mem_append_left _ (List.mem_append_left _ (List.mem_append_left _ (List.mem_append_left _ (List.mem_append_left _ (List.mem_append_left _ (List.mem_append_left _ (List.mem_append_left _ (List.mem_append_left _ (List.mem_append_left _ (List.mem_append_right _ (List.mem_append_right _ (List.mem_append_right _ (List.mem_append_right _ (List.mem_append_right _ (List.mem_append_right _ (List.mem_append_right _ (List.mem_append_right _ (List.mem_append_right _ (List.mem_append_right _ (List.mem_append_right _ (List.mem_append_right _ (List.mem_append_right _ (List.mem_append_right _ (List.mem_append_right _ (List.mem_append_right _ (List.mem_append_right _ (List.mem_append_right _ (List.mem_append_left _ (List.mem_of_getElem? h)))))))))))))))))))))))))))))
  | 19, _, _, h => List.mem_append_left _ (List.mem_append_left _ (List.mem_append_left _ (List.mem_append_left _ (List.mem_append_left _ (List.mem_append_left _ (List.mem_append_left _ (List.mem_append_left _ (List.mem_append_left _ (List.mem_append_left _ (List.mem_append_right _ (List.mem_append_right _ (List.mem_append_right _ (List.mem_append_right _ (List.mem_append_right _ (List.mem_append_right _ (List.mem_append_right _ (List.mem_append_right _ (List.mem_append_right _ (List.mem_append_right _ (List.mem_append_right _ (List.mem_append_right _ (List.mem_append_right _ (List.mem_append_right _ (List.mem_append_right _ (List.mem_append_right _ (List.mem_append_right _ (List.mem_append_right _ (List.mem_append_right _ (List.mem_append_left _ (List.mem_of_getElem? h))))))))))))))))))))))))))))))
  | 20, _, _, h => List.mem_append_left _ (List.mem_append_left _ (List.mem_append_left _ (List.mem_append_left _ (List.mem_append_left _ (List.mem_append_left _ (List.mem_append_left _ (List.mem_append_left _ (List.mem_append_left _ (List.mem_append_left _ (List.mem_append_right _ (List.mem_append_right _ (List.mem_append_right _ (List.mem_append_right _ (List.mem_append_right _ (List.mem_append_right _ (List.mem_append_right _ (List.mem_append_right _ (List.mem_append_right _ (List.mem_append_right _ (List.mem_append_right _ (List.mem_append_right _ (List.mem_append_right _ (List.mem_append_right _ (List.mem_append_right _ (List.mem_append_right _ (List.mem_append_right _ (List.mem_append_right _ (List.mem_append_right _ (List.mem_append_right _ (List.mem_append_left _ (List.mem_of_getElem? h)))))))))))))))))))))))))))))))
  | 21, _, _, h => List.mem_append_left _ (List.mem_append_left _ (List.mem_append_left _ (List.mem_append_left _ (List.mem_append_left _ (List.mem_append_left _ (List.mem_append_left _ (List.mem_append_left _ (List.mem_append_left _ (List.mem_append_left _ (List.mem_append_right _ (List.mem_append_right _ (List.mem_append_right _ (List.mem_append_right _ (List.mem_append_right _ (List.mem_append_right _ (List.mem_append_right _ (List.mem_append_right _ (List.mem_append_right _ (List.mem_append_right _ (List.mem_append_right _ (List.mem_append_right _ (List.mem_append_right _ (List.mem_append_right _ (List.mem_append_right _ (List.mem_append_right _ (List.mem_append_right _ (List.mem_append_right _ (List.mem_append_right _ (List.mem_append_right _ (List.mem_append_right _ (List.mem_append_left _ (List.mem_of_getElem? h))))))))))))))))))))))))))))))))
  | 22, _, _, h => List.mem_append_left _ (List.mem_append_left _ (List.mem_append_left _ (List.mem_append_left _ (List.mem_append_left _ (List.mem_append_left _ (List.mem_append_left _ (List.mem_append_left _ (List.mem_append_left _ (List.mem_append_left _ (List.mem_append_right _ (List.mem_append_right _ (List.mem_append_right _ (List.mem_append_right _ (List.mem_append_right _ (List.mem_append_right _ (List.mem_append_right _ (List.mem_append_right _ (List.mem_append_right _ (List.mem_append_right _ (List.mem_append_right _ (List.mem_append_right _ (List.mem_append_right _ (List.mem_append_right _ (List.mem_append_right _ (List.mem_append_right _ (List.mem_append_right _ (List.mem_append_right _ (List.mem_append_right _ (List.mem_append_right _ (List.mem_append_right _ (List.mem_append_right _ (List.mem_append_left _ (List.mem_of_getElem? h)))))))))))))))))))))))))))))))))
  | 23, _, _, h => List.mem_append_left _ (List.mem_append_left _ (List.mem_append_left _ (List.mem_append_left _ (List.mem_append_left _ (List.mem_append_left _ (List.mem_append_left _ (List.mem_append_left _ (List.mem_append_left _ (List.mem_append_left _ (List.mem_append_right _ (List.mem_append_right _ (List.mem_append_right _ (List.mem_append_right _ (List.mem_append_right _ (List.mem_append_right _ (List.mem_append_right _ (List.mem_append_right _ (List.mem_append_right _ (List.mem_append_right _ (List.mem_append_right _ (List.mem_append_right _ (List.mem_append_right _ (List.mem_append_right _ (List.mem_append_right _ (List.mem_append_right _ (List.mem_append_right _ (List.mem_append_right _ (List.mem_append_right _ (List.mem_append_right _ (List.mem_append_right _ (List.mem_append_right _ (List.mem_append_right _ (List.mem_append_left _ (List.mem_of_getElem? h))))))))))))))))))))))))))))))))))
  | 24, _, _, h => List.mem_append_left _ (List.mem_append_left _ (List.mem_append_left _ (List.mem_append_left _ (List.mem_append_left _ (List.mem_append_left _ (List.mem_append_left _ (List.mem_append_left _ (List.mem_append_left _ (List.mem_append_left _ (List.mem_append_right _ (List.mem_append_right _ (List.mem_append_right _ (List.mem_append_right _ (List.mem_append_right _ (List.mem_append_right _ (List.mem_append_right _ (List.mem_append_right _ (List.mem_append_right _ (List.mem_append_right _ (List.mem_append_right _ (List.mem_append_right _ (List.mem_append_right _ (List.mem_append_right _ (List.mem_append_right _ (List.mem_append_right _ (List.mem_append_right _ (List.mem_append_right _ (List.mem_append_right _ (List.mem_append_right _ (List.mem_append_right _ (List.mem_append_right _ (List.mem_append_right _ (List.mem_append_right _ (List.mem_append_left _ (List.mem_of_getElem? h)))))))))))))))))))))))))))))))))))
  | 25, _, _, h => List.mem_append_left _ (List.mem_append_left _ (List.mem_append_left _ (List.mem_append_left _ (List.mem_append_left _ (List.mem_append_left _ (List.mem_append_left _ (List.mem_append_left _ (List.mem_append_left _ (List.mem_append_left _ (List.mem_append_right _ (List.mem_append_right _ (List.mem_append_right _ (List.mem_append_right _ (List.mem_append_right _ (List.mem_append_right _ (List.mem_append_right _ (List.mem_append_right _ (List.mem_append_right _ (List.mem_append_right _ (List.mem_append_right _ (List.mem_append_right _ (List.mem_append_right _ (List.mem_append_right _ (List.mem_append_right _ (List.mem_append_right _ (List.mem_append_right _ (List.mem_append_right _ (List.mem_append_right _ (List.mem_append_right _ (List.mem_append_right _ (List.mem_append_right _ (List.mem_append_right _ (List.mem_append_right _ (List.mem_append_right _ (List.mem_append_left _ (List.mem_of_getElem? h))))))))))))))))))))))))))))))))))))
  | 26, _, _, h => List.mem_append_left _ (List.mem_append_left _ (List.mem_append_left _ (List.mem_append_left _ (List.mem_append_left _ (List.mem_append_left _ (List.mem_append_left _ (List.mem_append_left _ (List.mem_append_left _ (List.mem_append_left _ (List.mem_append_right _ (List.mem_append_right _ (List.mem_append_right _ (List.mem_append_right _ (List.mem_append_right _ (List.mem_append_right _ (List.mem_append_right _ (List.mem_append_right _ (List.mem_append_right _ (List.mem_append_right _ (List.mem_append_right _ (List.mem_append_right _ (List.mem_append_right _ (List.mem_append_right _ (List.mem_append_right _ (List.mem_append_right _ (List.mem_append_right _ (List.mem_append_right _ (List.mem_append_right _ (List.mem_append_right _ (List.mem_append_right _ (List.mem_append_right _ (List.mem_append_right _ (List.mem_append_right _ (List.mem_append_right _ (List.mem_append_right _ (List.mem_append_left _ (List.mem_of_getElem? h)))))))))))))))))))))))))))))))))))))
  | 27, _, _, h => List.mem_append_left _ (List.mem_append_left _ (List.mem_append_left _ (List.mem_append_left _ (List.mem_append_left _ (List.mem_append_left _ (List.mem_append_left _ (List.mem_append_left _ (List.mem_append_left _ (List.mem_append_left _ (List.mem_append_right _ (List.mem_append_right _ (List.mem_append_right _ (List.mem_append_right _ (List.mem_append_right _ (List.mem_append_right _ (List.mem_append_right _ (List.mem_append_right _ (List.mem_append_right _ (List.mem_append_right _ (List.mem_append_right _ (List.mem_append_right _ (List.mem_append_right _ (List.mem_append_right _ (List.mem_append_right _ (List.mem_append_right _ (List.mem_append_right _ (List.mem_append_right _ (List.mem_append_right _ (List.mem_append_right _ (List.mem_append_right _ (List.mem_append_right _ (List.mem_append_right _ (List.mem_append_right _ (List.mem_append_right _ (List.mem_append_right _ (List.mem_append_right _ (List.mem_append_left _ (List.mem_of_getElem? h))))))))))))))))))))))))))))))))))))))
  | 28, _, _, h => List.mem_append_left _ (List.mem_append_left _ (List.mem_append_left _ (List.mem_append_left _ (List.mem_append_left _ (List.mem_append_left _ (List.mem_append_left _ (List.mem_append_left _ (List.mem_append_left _ (List.mem_append_left _ (List.mem_append_right _ (List.mem_append_right _ (List.mem_append_right _ (List.mem_append_right _ (List.mem_append_right _ (List.mem_append_right _ (List.mem_append_right _ (List.mem_append_right _ (List.mem_append_right _ (List.mem_append_right _ (List.mem_append_right _ (List.mem_append_right _ (List.mem_append_right _ (List.mem_append_right _ (List.mem_append_right _ (List.mem_append_right _ (List.mem_append_right _ (List.mem_append_right _ (List.mem_append_right _ (List.mem_append_right _ (List.mem_append_right _ (List.mem_append_right _ (List.mem_append_right _ (List.mem_append_right _ (List.mem_append_right _ (List.mem_append_right _ (List.mem_append_right _ (List.mem_append_right _ (List.mem_of_getElem? h))))))))))))))))))))))))))))))))))))))
  | 29, _, _, h => List.mem_append_left _ (List.mem_append_left _ (List.mem_append_left _ (List.mem_append_left _ (List.mem_append_left _ (List.mem_append_left _ (List.mem_append_left _ (List.mem_append_left _ (List.mem_append_left _ (List.mem_append_right _ (List.mem_of_getElem? h))))))))))
  | 30, _, _, h => List.mem_append_left _ (List.mem_append_left _ (List.mem_append_left _ (List.mem_append_left _ (List.mem_append_left _ (List.mem_append_left _ (List.mem_append_left _ (List.mem_append_left _ (List.mem_append_right _ (List.mem_of_getElem? h)))))))))
  | 31, _, _, h => List.mem_append_left _ (List.mem_append_left _ (List.mem_append_left _ (List.mem_append_left _ (List.mem_append_left _ (List.mem_append_left _ (List.mem_append_left _ (List.mem_append_right _ (List.mem_of_getElem? h))))))))
  | 32, _, _, h => List.mem_append_left _ (List.mem_append_left _ (List.mem_append_left _ (List.mem_append_left _ (List.mem_append_left _ (List.mem_append_left _ (List.mem_append_right _ (List.mem_of_getElem? h)))))))
  | 33, _, _, h => List.mem_append_left _ (List.mem_append_left _ (List.mem_append_left _ (List.mem_append_left _ (List.mem_append_left _ (List.mem_append_right _ (List.mem_of_getElem? h))))))
  | 34, _, _, h => List.mem_append_left _ (List.mem_append_left _ (List.mem_append_left _ (List.mem_append_left _ (List.mem_append_right _ (List.mem_of_getElem? h)))))
  | 35, _, _, h => List.mem_append_left _ (List.mem_append_left _ (List.mem_append_left _ (List.mem_append_right _ (List.mem_of_getElem? h))))
  | 36, _, _, h => List.mem_append_left _ (List.mem_append_left _ (List.mem_append_right _ (List.mem_of_getElem? h)))
  | _ + 37, _, _, h => List.mem_append_left _ (List.mem_append_right _ (List.mem_of_getElem? h))
theorem goodIn_ch (ws : List Cond) (ps : List (Nat × Nat)) (hp : ws = ps.filterMap (fun p => lw_ch p.1 p.2)) (h : ws.all goodWord = true) : GoodIn wsL_law ws := by
  intro w hw
  have h1 := List.all_eq_true.mp h w hw
  rw [hp] at hw
  obtain ⟨p, -, hi⟩ := List.mem_filterMap.mp hw
  exact ⟨lw_chin _ _ _ hi, good_of_word h1⟩
