
set_option maxHeartbeats 4000000 in
set_option maxRecDepth 100000 in
theorem e_X1_quarrelBits (l : Launch) (dC : Nat → ClassId) (dI : Nat → Nat → Nat) (cy : Nat → ClassId) (sz : Nat) (ad : Nat → Nat) (kv : Value) (N : Nat) (hN : 119 ≤ N) (v : Nat → Nat → Int32) (hv : Iv v) (x0 : Int32) : Met l yX1_quarrelBits wsX1_quarrelBits ({ frames := 1, cells := 0, slots := 0, locals := 64 }) (va_Pc [.ref (ad 13), .int x0] (ex_Pre dC dI cy sz (wl ad kv cy N v))) (va_Qi (fun (r : Int32) (u : Nat → Nat → Int32) => Iv u ∧ u = v ∧ r = qB (fun c => v (29 + 15 * c) 4) (v 13 2).toNatClampNeg x0) (fun u t => ex_Pst dC dI (va_A (wl ad kv cy N v) sz) (wl ad kv cy N u) t) (va_A (wl ad kv cy N v) sz)) 0 0 (va_A (wl ad kv cy N v) sz) := by
  refine Met.ofW (cc := cX1_quarrelBits) (maxL := 5) (ret := (some .int)) (by decide) rfl ?_
  intro p e s m args below meth c s₁ B hml hv
  obtain ⟨rfl, hsz, hE, hP, hK, hD0⟩ := hv
  have hx := B.exec
  have hb := B.bytes
  have hr := B.returns
  have hts := atoms_spec (ws := wsX1_quarrelBits) B.pre
  have hown : s.vm.findClass RX1 = some m.cls := findClass_of_methodNamed B.named
  have hlocks := B.notSynchronized
  subst hsz
  have hD := hD0.self (sz := s.heap.size)
  generalize hAe : va_A (wl ad kv cy N v) s.heap.size = A at hD ⊢
  have hA : ∀ q : Nat, s.heap.size ≤ q → A q := fun q h => by rw [← hAe]; exact Or.inr h
  have hS : va_S A s.heap s.heap [] := va_S.rf
  have hP : va_P (dC, dI) vwCl (wl ad kv cy N v) s.heap := hP
  have hl := lv_entry ([.ref (ad 13), .int x0]) (n := 5) (Nat.le_of_ble_eq_true rfl)
  rw [lg_entry_eq]
  generalize (lg_sl ([.ref (ad 13), .int x0]) ++ List.replicate (5 - (lg_sl ([.ref (ad 13), .int x0])).length) Slot.unset).toArray = ls at hl ⊢
  have hl : lv_has ls 5 [(0, .ref (ad 13)), (1, .int x0)] := hl
  obtain ⟨cn, ecn⟩ : ∃ z : Int32, z = v 13 2 := ⟨_, rfl⟩
  have hbcn : 0 ≤ cn.toInt ∧ cn.toInt ≤ 6 := by rw [ecn]; exact hv.at (K := 3) (by decide) rfl
  have zn_cn : (cn.toNatClampNeg : Int) = cn.toInt := t_nn (by omega)
  obtain ⟨QM, eQM⟩ : ∃ f : Nat → Int32, f = (fun c => v (29 + 15 * c) 4) := ⟨_, rfl⟩
  refine lv_iconst (v := 1) hx hb dX1_quarrelBits_0 (by decide) ?_
  refine lv_iload_n hx hb dX1_quarrelBits_1 rfl (lv_at hl 1 rfl) ?_
  refine lv_ishl hx hb dX1_quarrelBits_2 ?_
  refine lv_topi (fun x_1 ex_1 => ?_)
  refine lv_istore_n (lv' := [(2, .int x_1), (0, .ref (ad 13)), (1, .int x0)]) hx hb dX1_quarrelBits_3 rfl hl (by decide) rfl (fun ls hl => ?_)
  refine lv_iconst (v := 1) hx hb dX1_quarrelBits_4 (by decide) ?_
  refine lv_istore_n (lv' := [(3, .int 1), (2, .int x_1), (0, .ref (ad 13)), (1, .int x0)]) hx hb dX1_quarrelBits_5 rfl hl (by decide) rfl (fun ls hl => ?_)
  have hc_2 : ∀ (n : Nat) (y2_3 y2_2 : Int32) (H : Heap) (locs : List Loc), 1 ≤ y2_3.toInt → y2_3.toInt ≤ 6 → (y2_2 = qO QM cn.toNatClampNeg (y2_3.toNatClampNeg - 1) x_1) → (y2_3.toInt ≤ cn.toInt ∨ y2_3.toInt = 1) → (6 - y2_3.toInt).toNat < n → va_P (dC, dI) vwCl (wl ad kv cy N v) H → va_D A (wl ad kv cy N v) → va_S A s.heap H locs → ∀ ls : Array Slot, lv_has ls 5 [(3, .int y2_3), (2, .int y2_2), (0, .ref (ad 13)), (1, .int x0)] → W p l e (headSpec wsX1_quarrelBits ({ frames := 1, cells := 0, slots := 0, locals := 64 })).room s m [Value.ref (ad 13), Value.int x0].toArray below meth c H locs 0 0 (MQ below (va_Qi (fun (r : Int32) (u : Nat → Nat → Int32) => Iv u ∧ u = v ∧ r = qB (fun c => v (29 + 15 * c) 4) (v 13 2).toNatClampNeg x0) (fun u t => ex_Pst dC dI A (wl ad kv cy N u) t) A) [Value.ref (ad 13), Value.int x0].toArray s 0 0 A) (F0 m 6 ls []) := by
    intro n
    induction n with
    | zero =>
      intro y2_3 y2_2 H locs ay2_3 by2_3 hi2_0 hi2_1 hm_2 hP hD hS ls hl
      exact absurd hm_2 (by omega)
    | succ n ih_2 =>
      intro y2_3 y2_2 H locs ay2_3 by2_3 hi2_0 hi2_1 hm_2 hP hD hS ls hl
      refine lv_iload_n hx hb dX1_quarrelBits_6 rfl (lv_at hl 0 rfl) ?_
      refine lv_aload_n hx hb dX1_quarrelBits_7 rfl (lv_at hl 2 rfl) ?_
      refine va_get (D := (dC, dI)) (ci := 1) (v := .int (v (13) 2)) (C := RX1) (T := TX1) (N := 7) hx hb hts (by decide +kernel) hown hK hP (13) (wl_at (by omega) (ce_3 (by decide))) rfl 2 (by decide) (hts (.fieldLink RX1 66 "QuietStairs$House" "caseCount" "I") (by decide +kernel)) (fun _ h9 => h9) rfl dX1_quarrelBits_8 ?_
      refine lv_topi (fun x_3 ex_3 => ?_)
      have bzx_3 : 0 ≤ x_3.toInt ∧ x_3.toInt ≤ 6 := by rw [ex_3]; exact hv.at (K := 3) (by decide) rfl
      obtain rfl : cn = x_3 := (ex_3.trans ecn.symm).symm
      refine lv_icmp_ge (tgt := 60) hx hb dX1_quarrelBits_11 (by decide) (fun c_4 => ?_) (fun c_4 => ?_)
      · have tc_4 : y2_3.toInt ≥ cn.toInt := Int32.le_iff_toInt_le.mp c_4
        refine lv_iload_n hx hb dX1_quarrelBits_60 rfl (lv_at hl 1 rfl) ?_
        have zn_y2_3 : (y2_3.toNatClampNeg : Int) = y2_3.toInt := t_nn (by omega)
        exact W.iret (v := y2_2) hx hb hr (fun t ht hW => ⟨⟨y2_2, v, rfl, ⟨hv, rfl, by rw [hi2_0, ← ecn, ← eQM]; unfold qB; rw [show y2_3.toNatClampNeg - 1 = cn.toNatClampNeg - 1 from by omega, ex_1]⟩, by rw [ht]; exact hP, hD⟩, hS.F ht⟩) hS.2.2 dX1_quarrelBits_61
      · have tc_4 : y2_3.toInt < cn.toInt := Int32.lt_iff_toInt_lt.mp (Int32.not_le.mp c_4)
        refine lv_iconst (v := 0) hx hb dX1_quarrelBits_14 (by decide) ?_
        refine lv_istore (lv' := [(4, .int 0), (3, .int y2_3), (2, .int y2_2), (0, .ref (ad 13)), (1, .int x0)]) hx hb dX1_quarrelBits_15 hl (by decide) rfl (fun ls hl => ?_)
        have hc_5 : ∀ (n : Nat) (y5_4 y5_2 : Int32) (H : Heap) (locs : List Loc), 0 ≤ y5_4.toInt → y5_4.toInt ≤ 6 → (y5_2 = qI QM y5_4.toNatClampNeg y2_2) → (y5_4.toInt ≤ cn.toInt) → (6 - y5_4.toInt).toNat < n → va_P (dC, dI) vwCl (wl ad kv cy N v) H → va_D A (wl ad kv cy N v) → va_S A s.heap H locs → ∀ ls : Array Slot, lv_has ls 5 [(4, .int y5_4), (3, .int y2_3), (2, .int y5_2), (0, .ref (ad 13)), (1, .int x0)] → W p l e (headSpec wsX1_quarrelBits ({ frames := 1, cells := 0, slots := 0, locals := 64 })).room s m [Value.ref (ad 13), Value.int x0].toArray below meth c H locs 0 0 (MQ below (va_Qi (fun (r : Int32) (u : Nat → Nat → Int32) => Iv u ∧ u = v ∧ r = qB (fun c => v (29 + 15 * c) 4) (v 13 2).toNatClampNeg x0) (fun u t => ex_Pst dC dI A (wl ad kv cy N u) t) A) [Value.ref (ad 13), Value.int x0].toArray s 0 0 A) (F0 m 17 ls []) := by
          intro n
          induction n with
          | zero =>
            intro y5_4 y5_2 H locs ay5_4 by5_4 hi5_0 hi5_1 hm_5 hP hD hS ls hl
            exact absurd hm_5 (by omega)
          | succ n ih_5 =>
            intro y5_4 y5_2 H locs ay5_4 by5_4 hi5_0 hi5_1 hm_5 hP hD hS ls hl
            refine lv_iload hx hb dX1_quarrelBits_17 (lv_at hl 0 rfl) ?_
            refine lv_aload_n hx hb dX1_quarrelBits_19 rfl (lv_at hl 3 rfl) ?_
            refine va_get (D := (dC, dI)) (ci := 1) (v := .int (v (13) 2)) (C := RX1) (T := TX1) (N := 7) hx hb hts (by decide +kernel) hown hK hP (13) (wl_at (by omega) (ce_3 (by decide))) rfl 2 (by decide) (hts (.fieldLink RX1 66 "QuietStairs$House" "caseCount" "I") (by decide +kernel)) (fun _ h9 => h9) rfl dX1_quarrelBits_20 ?_
            refine lv_topi (fun x_6 ex_6 => ?_)
            have bzx_6 : 0 ≤ x_6.toInt ∧ x_6.toInt ≤ 6 := by rw [ex_6]; exact hv.at (K := 3) (by decide) rfl
            obtain rfl : cn = x_6 := (ex_6.trans ecn.symm).symm
            refine lv_icmp_ge (tgt := 54) hx hb dX1_quarrelBits_23 (by decide) (fun c_7 => ?_) (fun c_7 => ?_)
            · have tc_7 : y5_4.toInt ≥ cn.toInt := Int32.le_iff_toInt_le.mp c_7
              obtain ⟨x_8, ex_8⟩ : ∃ y : Int32, y = y2_3 + 1 := ⟨_, rfl⟩
              refine lv_iinc (v := x_8) (lv' := [(3, .int x_8), (4, .int y5_4), (2, .int y5_2), (0, .ref (ad 13)), (1, .int x0)]) hx hb dX1_quarrelBits_54 hl (k := 1) rfl (by rw [ex_8]; rfl) (by decide) rfl (fun ls hl => ?_)
              have k_1 : (1 : Int32).toInt = 1 := by decide
              have tx_8 : x_8.toInt = y2_3.toInt + (1 : Int32).toInt := by rw [ex_8]; exact t_add ⟨by omega, by omega⟩
              refine lv_goto (tgt := 6) hx hb dX1_quarrelBits_57 (by decide) ?_
              have zn_x_8 : (x_8.toNatClampNeg : Int) = x_8.toInt := t_nn (by omega)
              have zn_y2_3 : (y2_3.toNatClampNeg : Int) = y2_3.toInt := t_nn (by omega)
              have zn_y5_4 : (y5_4.toNatClampNeg : Int) = y5_4.toInt := t_nn (by omega)
              exact ih_2 x_8 y5_2 _ _ (by omega) (by omega) (by rw [hi5_0, show y5_4.toNatClampNeg = cn.toNatClampNeg from by omega, hi2_0, show x_8.toNatClampNeg - 1 = (y2_3.toNatClampNeg - 1) + 1 from by omega]; rfl) (by omega) (by omega) hP hD hS ls (lv_sub hl [0, 2, 3, 4] rfl)
            · have tc_7 : y5_4.toInt < cn.toInt := Int32.lt_iff_toInt_lt.mp (Int32.not_le.mp c_7)
              refine lv_iload_n hx hb dX1_quarrelBits_26 rfl (lv_at hl 2 rfl) ?_
              refine lv_iload hx hb dX1_quarrelBits_27 (lv_at hl 0 rfl) ?_
              refine yc_p hP hS (va_runSN (As := [.int y5_2, .int y5_4]) (rest := []) ⟨hx, hb, hml, hown, hts⟩ (e_X7_hasBit l y5_2 y5_4) ⟨va_cnB 2 hts gX1_quarrelBits_X7_hasBit_n51 rfl rfl rfl hE.2.2.2.2.2.2.2.2.2.2.1 (hts (.initialized RX7) (by decide +kernel)) (by decide +kernel) ⟨Nat.le_of_ble_eq_true rfl, Nat.le_of_ble_eq_true rfl⟩, (hts (.static yX7_hasBit) (by decide +kernel)), trivial⟩ ex_preP rfl rfl hl.1 rfl (lv_room (Nat.le_of_ble_eq_true rfl)) dX1_quarrelBits_29 ⟨Nat.le_of_ble_eq_true rfl, Nat.le_of_ble_eq_true rfl⟩) (fun r_8 H locs hw_8 hP hS => ?_)
              rcases hw_8 with ⟨rfl, hh_9⟩ | ⟨rfl, hh_9⟩
              · refine lv_if_eq (tgt := 48) hx hb dX1_quarrelBits_32 (by decide) (fun c9 => absurd c9 (by decide)) (fun _ => ?_)
                refine lv_iload_n hx hb dX1_quarrelBits_35 rfl (lv_at hl 2 rfl) ?_
                refine lv_aload_n hx hb dX1_quarrelBits_36 rfl (lv_at hl 3 rfl) ?_
                refine va_get (D := (dC, dI)) (ci := 1) (v := .ref (ad 16)) (C := RX1) (T := TX1) (N := 7) hx hb hts (by decide +kernel) hown hK hP (13) (wl_at (by omega) (ce_3 (by decide))) rfl 6 (by decide) (hts (.fieldLink RX1 25 "QuietStairs$House" "cases" "[LQuietStairs$Case;") (by decide +kernel)) (fun _ h9 => h9) rfl dX1_quarrelBits_37 ?_
                refine lv_iload hx hb dX1_quarrelBits_40 (lv_at hl 0 rfl) ?_
                have zn_y5_4 : (y5_4.toNatClampNeg : Int) = y5_4.toInt := t_nn (by omega)
                have hx_10 : y5_4.toNatClampNeg < 6 := by omega
                refine va_aldq hx hb hK hP (16) 3 (wl_at (by omega) (ce_6 (by decide))) rfl (vp_in_iff.mpr ⟨by omega, by omega⟩) dX1_quarrelBits_42 ?_
                refine W.eq (g2 := F0 m 43 ls [.ref (ad (29 + 15 * y5_4.toNatClampNeg)), .int y5_2]) (by rw [if_pos hx_10, show 16 + 13 + 15 * y5_4.toNatClampNeg = 29 + 15 * y5_4.toNatClampNeg from by omega]; rfl) ?_
                refine va_get (D := (dC, dI)) (ci := 0) (v := .int (v (29 + 15 * y5_4.toNatClampNeg) 4)) (C := RX0) (T := TX0) (N := 11) hx hb hts (by decide +kernel) hown hK hP (29 + 15 * y5_4.toNatClampNeg) (wl_at (by omega) (ce_9 (kd_c _ hx_10).1.1)) rfl 4 (by decide) (hts (.fieldLink RX1 69 "QuietStairs$Case" "markedBits" "I") (by decide +kernel)) (fun _ h9 => h9) rfl dX1_quarrelBits_43 ?_
                refine lv_topi (fun x_11 ex_11 => ?_)
                have qx_11 : x_11.toInt = (v (29 + 15 * y5_4.toNatClampNeg) (4)).toInt := congrArg Int32.toInt ex_11
                refine lv_ior hx hb dX1_quarrelBits_46 ?_
                refine lv_topi (fun x_12 ex_12 => ?_)
                refine lv_istore_n (lv' := [(2, .int x_12), (4, .int y5_4), (3, .int y2_3), (0, .ref (ad 13)), (1, .int x0)]) hx hb dX1_quarrelBits_47 rfl hl (by decide) rfl (fun ls hl => ?_)
                obtain ⟨x_13, ex_13⟩ : ∃ y : Int32, y = y5_4 + 1 := ⟨_, rfl⟩
                refine lv_iinc (v := x_13) (lv' := [(4, .int x_13), (2, .int x_12), (3, .int y2_3), (0, .ref (ad 13)), (1, .int x0)]) hx hb dX1_quarrelBits_48 hl (k := 1) rfl (by rw [ex_13]; rfl) (by decide) rfl (fun ls hl => ?_)
                have k_1 : (1 : Int32).toInt = 1 := by decide
                have tx_13 : x_13.toInt = y5_4.toInt + (1 : Int32).toInt := by rw [ex_13]; exact t_add ⟨by omega, by omega⟩
                refine lv_goto (tgt := 17) hx hb dX1_quarrelBits_51 (by decide) ?_
                have zn_x_13 : (x_13.toNatClampNeg : Int) = x_13.toInt := t_nn (by omega)
                exact ih_5 x_13 x_12 _ _ (by omega) (by omega) (by rw [show x_13.toNatClampNeg = y5_4.toNatClampNeg + 1 from by omega, qI_p (by rw [← hi5_0, ← ofn (x := y5_4) (by omega)]; exact hh_9), ← hi5_0, ex_12, ex_11, eQM]) (by omega) (by omega) hP hD hS ls (lv_sub hl [0, 2, 1, 3, 4] rfl)
              · refine lv_if_eq (tgt := 48) hx hb dX1_quarrelBits_32 (by decide) (fun _ => ?_) (fun c9 => absurd c9 (by decide))
                obtain ⟨x_10, ex_10⟩ : ∃ y : Int32, y = y5_4 + 1 := ⟨_, rfl⟩
                refine lv_iinc (v := x_10) (lv' := [(4, .int x_10), (3, .int y2_3), (2, .int y5_2), (0, .ref (ad 13)), (1, .int x0)]) hx hb dX1_quarrelBits_48 hl (k := 0) rfl (by rw [ex_10]; rfl) (by decide) rfl (fun ls hl => ?_)
                have k_1 : (1 : Int32).toInt = 1 := by decide
                have tx_10 : x_10.toInt = y5_4.toInt + (1 : Int32).toInt := by rw [ex_10]; exact t_add ⟨by omega, by omega⟩
                refine lv_goto (tgt := 17) hx hb dX1_quarrelBits_51 (by decide) ?_
                have zn_x_10 : (x_10.toNatClampNeg : Int) = x_10.toInt := t_nn (by omega)
                have zn_y5_4 : (y5_4.toNatClampNeg : Int) = y5_4.toInt := t_nn (by omega)
                exact ih_5 x_10 y5_2 _ _ (by omega) (by omega) (by rw [show x_10.toNatClampNeg = y5_4.toNatClampNeg + 1 from by omega, qI_n (by rw [← hi5_0, ← ofn (x := y5_4) (by omega)]; exact hh_9)]; exact hi5_0) (by omega) (by omega) hP hD hS ls (lv_sub hl [0, 1, 2, 3, 4] rfl)
        have k_0 : (0 : Int32).toInt = 0 := by decide
        exact hc_5 ((6 - (0 : Int32).toInt).toNat + 1) 0 y2_2 _ _ (by omega) (by omega) (rfl) (by omega) (by omega) hP hD hS ls (lv_sub hl [0, 1, 2, 3, 4] rfl)
  have k_1 : (1 : Int32).toInt = 1 := by decide
  exact hc_2 ((6 - (1 : Int32).toInt).toNat + 1) 1 x_1 _ _ (by omega) (by omega) (rfl) (by omega) (by omega) hP hD hS ls (lv_sub hl [0, 1, 2, 3] rfl)

set_option maxHeartbeats 4000000 in
set_option maxRecDepth 100000 in
theorem e_X1_headOfQuarrel (l : Launch) (dC : Nat → ClassId) (dI : Nat → Nat → Nat) (cy : Nat → ClassId) (sz : Nat) (ad : Nat → Nat) (kv : Value) (N : Nat) (hN : 119 ≤ N) (v : Nat → Nat → Int32) (hv : Iv v) (x0 : Int32) (hs : 0 ≤ x0.toInt ∧ x0.toInt ≤ 5) : Met l yX1_headOfQuarrel wsX1_headOfQuarrel ({ frames := 2, cells := 0, slots := 0, locals := 128 }) (va_Pc [.ref (ad 13), .int x0] (ex_Pre dC dI cy sz (wl ad kv cy N v))) (va_Qi (fun (r : Int32) (u : Nat → Nat → Int32) => Iv u ∧ u = v ∧ r.toInt = ((hF (qB (fun c => v (29 + 15 * c) 4) (v 13 2).toNatClampNeg x0) x0.toNatClampNeg : Nat) : Int)) (fun u t => ex_Pst dC dI (va_A (wl ad kv cy N v) sz) (wl ad kv cy N u) t) (va_A (wl ad kv cy N v) sz)) 0 0 (va_A (wl ad kv cy N v) sz) := by
  refine Met.ofW (cc := cX1_headOfQuarrel) (maxL := 4) (ret := (some .int)) (by decide) rfl ?_
  intro p e s m args below meth c s₁ B hml hv
  obtain ⟨rfl, hsz, hE, hP, hK, hD0⟩ := hv
  have hx := B.exec
  have hb := B.bytes
  have hr := B.returns
  have hts := atoms_spec (ws := wsX1_headOfQuarrel) B.pre
  have hown : s.vm.findClass RX1 = some m.cls := findClass_of_methodNamed B.named
  have hlocks := B.notSynchronized
  subst hsz
  have hD := hD0.self (sz := s.heap.size)
  generalize hAe : va_A (wl ad kv cy N v) s.heap.size = A at hD ⊢
  have hA : ∀ q : Nat, s.heap.size ≤ q → A q := fun q h => by rw [← hAe]; exact Or.inr h
  have hS : va_S A s.heap s.heap [] := va_S.rf
  have hP : va_P (dC, dI) vwCl (wl ad kv cy N v) s.heap := hP
  have hl := lv_entry ([.ref (ad 13), .int x0]) (n := 4) (Nat.le_of_ble_eq_true rfl)
  rw [lg_entry_eq]
  generalize (lg_sl ([.ref (ad 13), .int x0]) ++ List.replicate (4 - (lg_sl ([.ref (ad 13), .int x0])).length) Slot.unset).toArray = ls at hl ⊢
  have hl : lv_has ls 4 [(0, .ref (ad 13)), (1, .int x0)] := hl
  have zn_x0 : (x0.toNatClampNeg : Int) = x0.toInt := t_nn (by omega)
  refine lv_aload_n hx hb dX1_headOfQuarrel_0 rfl (lv_at hl 0 rfl) ?_
  refine lv_iload_n hx hb dX1_headOfQuarrel_1 rfl (lv_at hl 1 rfl) ?_
  refine yw_i (w1 := fun (u : Nat → Nat → Int32) => wl ad kv cy N u) hD hS hA (va_runV (As := [.int x0]) (rest := []) ⟨hx, hb, hml, hown, hts⟩ (e_X1_quarrelBits l dC dI cy _ ad kv N hN v hv x0) (cwV 1 hts gX1_headOfQuarrel_X1_quarrelBits rfl rfl rfl (by decide +kernel) ⟨Nat.le_of_ble_eq_true rfl, Nat.le_of_ble_eq_true rfl⟩) (yw_preV hE hK hP hD (ci := 1) (q0 := 13) rfl (wl_at (by omega) (ce_3 (by decide)))) rfl rfl hl.1 rfl (lv_room (Nat.le_of_ble_eq_true rfl)) dX1_headOfQuarrel_2 ⟨Nat.le_of_ble_eq_true rfl, Nat.le_of_ble_eq_true rfl⟩) (fun r_1 v_1 H locs hw_1 hP hD hS => ?_)
  obtain ⟨-, hu_1, hw_1⟩ := hw_1
  replace hu_1 := hu_1.symm
  subst hu_1
  refine lv_istore_n (lv' := [(2, .int r_1), (0, .ref (ad 13)), (1, .int x0)]) hx hb dX1_headOfQuarrel_5 rfl hl (by decide) rfl (fun ls hl => ?_)
  refine lv_iconst (v := 0) hx hb dX1_headOfQuarrel_6 (by decide) ?_
  refine lv_istore_n (lv' := [(3, .int 0), (2, .int r_1), (0, .ref (ad 13)), (1, .int x0)]) hx hb dX1_headOfQuarrel_7 rfl hl (by decide) rfl (fun ls hl => ?_)
  have hc_2 : ∀ (n : Nat) (y2_3 : Int32) (H : Heap) (locs : List Loc), 0 ≤ y2_3.toInt → y2_3.toInt ≤ 5 → (hF r_1 y2_3.toNatClampNeg = y2_3.toNatClampNeg) → (y2_3.toInt ≤ x0.toInt) → (6 - y2_3.toInt).toNat < n → va_P (dC, dI) vwCl (wl ad kv cy N v) H → va_D A (wl ad kv cy N v) → va_S A s.heap H locs → ∀ ls : Array Slot, lv_has ls 4 [(3, .int y2_3), (2, .int r_1), (0, .ref (ad 13)), (1, .int x0)] → W p l e (headSpec wsX1_headOfQuarrel ({ frames := 2, cells := 0, slots := 0, locals := 128 })).room s m [Value.ref (ad 13), Value.int x0].toArray below meth c H locs 0 0 (MQ below (va_Qi (fun (r : Int32) (u : Nat → Nat → Int32) => Iv u ∧ u = v ∧ r.toInt = ((hF (qB (fun c => v (29 + 15 * c) 4) (v 13 2).toNatClampNeg x0) x0.toNatClampNeg : Nat) : Int)) (fun u t => ex_Pst dC dI A (wl ad kv cy N u) t) A) [Value.ref (ad 13), Value.int x0].toArray s 0 0 A) (F0 m 8 ls []) := by
    intro n
    induction n with
    | zero =>
      intro y2_3 H locs ay2_3 by2_3 hi2_0 hi2_1 hm_2 hP hD hS ls hl
      exact absurd hm_2 (by omega)
    | succ n ih_2 =>
      intro y2_3 H locs ay2_3 by2_3 hi2_0 hi2_1 hm_2 hP hD hS ls hl
      refine lv_iload_n hx hb dX1_headOfQuarrel_8 rfl (lv_at hl 0 rfl) ?_
      refine lv_iload_n hx hb dX1_headOfQuarrel_9 rfl (lv_at hl 3 rfl) ?_
      refine lv_icmp_ge (tgt := 29) hx hb dX1_headOfQuarrel_10 (by decide) (fun c_3 => ?_) (fun c_3 => ?_)
      · have tc_3 : y2_3.toInt ≥ x0.toInt := Int32.le_iff_toInt_le.mp c_3
        refine lv_iload_n hx hb dX1_headOfQuarrel_29 rfl (lv_at hl 3 rfl) ?_
        have zn_y2_3 : (y2_3.toNatClampNeg : Int) = y2_3.toInt := t_nn (by omega)
        exact W.iret (v := x0) hx hb hr (fun t ht hW => ⟨⟨x0, v, rfl, ⟨hv, rfl, by rw [← hw_1, show x0.toNatClampNeg = y2_3.toNatClampNeg from by omega, hi2_0]; omega⟩, by rw [ht]; exact hP, hD⟩, hS.F ht⟩) hS.2.2 dX1_headOfQuarrel_30
      · have tc_3 : y2_3.toInt < x0.toInt := Int32.lt_iff_toInt_lt.mp (Int32.not_le.mp c_3)
        refine lv_iload_n hx hb dX1_headOfQuarrel_13 rfl (lv_at hl 1 rfl) ?_
        refine lv_iload_n hx hb dX1_headOfQuarrel_14 rfl (lv_at hl 0 rfl) ?_
        refine yc_p hP hS (va_runSN (As := [.int r_1, .int y2_3]) (rest := []) ⟨hx, hb, hml, hown, hts⟩ (e_X7_hasBit l r_1 y2_3) ⟨va_cnB 2 hts gX1_headOfQuarrel_X7_hasBit_n51 rfl rfl rfl hE.2.2.2.2.2.2.2.2.2.2.1 (hts (.initialized RX7) (by decide +kernel)) (by decide +kernel) ⟨Nat.le_of_ble_eq_true rfl, Nat.le_of_ble_eq_true rfl⟩, (hts (.static yX7_hasBit) (by decide +kernel)), trivial⟩ ex_preP rfl rfl hl.1 rfl (lv_room (Nat.le_of_ble_eq_true rfl)) dX1_headOfQuarrel_15 ⟨Nat.le_of_ble_eq_true rfl, Nat.le_of_ble_eq_true rfl⟩) (fun r_4 H locs hw_4 hP hS => ?_)
        rcases hw_4 with ⟨rfl, hh_5⟩ | ⟨rfl, hh_5⟩
        · refine lv_if_eq (tgt := 23) hx hb dX1_headOfQuarrel_18 (by decide) (fun c9 => absurd c9 (by decide)) (fun _ => ?_)
          refine lv_iload_n hx hb dX1_headOfQuarrel_21 rfl (lv_at hl 0 rfl) ?_
          have zn_y2_3 : (y2_3.toNatClampNeg : Int) = y2_3.toInt := t_nn (by omega)
          exact W.iret (v := y2_3) hx hb hr (fun t ht hW => ⟨⟨y2_3, v, rfl, ⟨hv, rfl, by rw [← hw_1, hF_hit hi2_0 (by unfold bt; rw [← ofn (x := y2_3) (by omega)]; exact hh_5) x0.toNatClampNeg (by omega)]; omega⟩, by rw [ht]; exact hP, hD⟩, hS.F ht⟩) hS.2.2 dX1_headOfQuarrel_22
        · refine lv_if_eq (tgt := 23) hx hb dX1_headOfQuarrel_18 (by decide) (fun _ => ?_) (fun c9 => absurd c9 (by decide))
          obtain ⟨x_6, ex_6⟩ : ∃ y : Int32, y = y2_3 + 1 := ⟨_, rfl⟩
          refine lv_iinc (v := x_6) (lv' := [(3, .int x_6), (2, .int r_1), (0, .ref (ad 13)), (1, .int x0)]) hx hb dX1_headOfQuarrel_23 hl (k := 0) rfl (by rw [ex_6]; rfl) (by decide) rfl (fun ls hl => ?_)
          have k_1 : (1 : Int32).toInt = 1 := by decide
          have tx_6 : x_6.toInt = y2_3.toInt + (1 : Int32).toInt := by rw [ex_6]; exact t_add ⟨by omega, by omega⟩
          refine lv_goto (tgt := 8) hx hb dX1_headOfQuarrel_26 (by decide) ?_
          have zn_x_6 : (x_6.toNatClampNeg : Int) = x_6.toInt := t_nn (by omega)
          have zn_y2_3 : (y2_3.toNatClampNeg : Int) = y2_3.toInt := t_nn (by omega)
          exact ih_2 x_6 _ _ (by omega) (by omega) (by rw [show x_6.toNatClampNeg = y2_3.toNatClampNeg + 1 from by omega]; exact hF_no hi2_0 (fun q => hh_5 (by unfold bt at q; rw [← ofn (x := y2_3) (by omega)] at q; exact q))) (by omega) (by omega) hP hD hS ls (lv_sub hl [0, 1, 2, 3] rfl)
  have k_0 : (0 : Int32).toInt = 0 := by decide
  exact hc_2 ((6 - (0 : Int32).toInt).toNat + 1) 0 _ _ (by omega) (by omega) (rfl) (by omega) (by omega) hP hD hS ls (lv_sub hl [0, 1, 2, 3] rfl)

set_option maxHeartbeats 4000000 in
set_option maxRecDepth 100000 in
theorem e_X7_of (l : Launch) (dC : Nat → ClassId) (dI : Nat → Nat → Nat) (cy : Nat → ClassId) (sz : Nat) (ad : Nat → Nat) (kv : Value) (N : Nat) (hN : 119 ≤ N) (v : Nat → Nat → Int32) (hv : Iv v) (x0 x1 : Int32) : Met l yX7_of wsX7_of ({ frames := 3, cells := 0, slots := 0, locals := 192 }) (va_Pc [.ref (ad 0), .int x0, .int x1] (ex_Pre dC dI cy sz (wl ad kv cy N v))) (va_Qi (fun (r : Int32) (u : Nat → Nat → Int32) => Iv u ∧ (¬ (0 ≤ x0.toInt ∧ x0.toInt < (v 13 2).toInt) → (r = -1) ∧ u = v) ∧ ((0 ≤ x0.toInt ∧ x0.toInt < (v 13 2).toInt) ∧ x1.toInt = 0 → (r = v (30 + 15 * x0.toNatClampNeg) 0) ∧ u = v) ∧ ((0 ≤ x0.toInt ∧ x0.toInt < (v 13 2).toInt) ∧ x1.toInt = 1 → (r = v (30 + 15 * x0.toNatClampNeg) 1) ∧ u = v) ∧ ((0 ≤ x0.toInt ∧ x0.toInt < (v 13 2).toInt) ∧ x1.toInt = 2 → (r = v (29 + 15 * x0.toNatClampNeg) 0) ∧ u = v) ∧ ((0 ≤ x0.toInt ∧ x0.toInt < (v 13 2).toInt) ∧ x1.toInt = 3 → (((v (29 + 15 * x0.toNatClampNeg) 0).toInt = 1 → r = v (29 + 15 * x0.toNatClampNeg) 1) ∧ ((v (29 + 15 * x0.toNatClampNeg) 0).toInt ≠ 1 → r = -5)) ∧ u = v) ∧ ((0 ≤ x0.toInt ∧ x0.toInt < (v 13 2).toInt) ∧ x1.toInt = 4 → (r = v (29 + 15 * x0.toNatClampNeg) 2) ∧ u = v) ∧ ((0 ≤ x0.toInt ∧ x0.toInt < (v 13 2).toInt) ∧ x1.toInt = 5 → (r.toInt = ((hF (qB (fun c => v (29 + 15 * c) 4) (v 13 2).toNatClampNeg x0) x0.toNatClampNeg : Nat) : Int)) ∧ u = v) ∧ ((0 ≤ x0.toInt ∧ x0.toInt < (v 13 2).toInt) ∧ x1.toInt = 6 → (r = bcF (qB (fun c => v (29 + 15 * c) 4) (v 13 2).toNatClampNeg x0)) ∧ u = v) ∧ ((0 ≤ x0.toInt ∧ x0.toInt < (v 13 2).toInt) ∧ x1.toInt = 7 → (r = v (29 + 15 * x0.toNatClampNeg) 3) ∧ u = v) ∧ ((0 ≤ x0.toInt ∧ x0.toInt < (v 13 2).toInt) ∧ (x1.toInt < 0 ∨ 7 < x1.toInt) → (r = -1) ∧ u = v)) (fun u t => ex_Pst dC dI (va_A (wl ad kv cy N v) sz) (wl ad kv cy N u) t) (va_A (wl ad kv cy N v) sz)) 0 0 (va_A (wl ad kv cy N v) sz) := by
  refine Met.ofW (cc := cX7_of) (maxL := 4) (ret := (some .int)) (by decide) rfl ?_
  intro p e s m args below meth c s₁ B hml hv
  obtain ⟨rfl, hsz, hE, hP, hK, hD0⟩ := hv
  have hx := B.exec
  have hb := B.bytes
  have hr := B.returns
  have hts := atoms_spec (ws := wsX7_of) B.pre
  have hown : s.vm.findClass RX7 = some m.cls := findClass_of_methodNamed B.named
  have hlocks := B.notSynchronized
  subst hsz
  have hD := hD0.self (sz := s.heap.size)
  generalize hAe : va_A (wl ad kv cy N v) s.heap.size = A at hD ⊢
  have hA : ∀ q : Nat, s.heap.size ≤ q → A q := fun q h => by rw [← hAe]; exact Or.inr h
  have hS : va_S A s.heap s.heap [] := va_S.rf
  have hP : va_P (dC, dI) vwCl (wl ad kv cy N v) s.heap := hP
  have hl := lv_entry ([.ref (ad 0), .int x0, .int x1]) (n := 4) (Nat.le_of_ble_eq_true rfl)
  rw [lg_entry_eq]
  generalize (lg_sl ([.ref (ad 0), .int x0, .int x1]) ++ List.replicate (4 - (lg_sl ([.ref (ad 0), .int x0, .int x1])).length) Slot.unset).toArray = ls at hl ⊢
  have hl : lv_has ls 4 [(0, .ref (ad 0)), (1, .int x0), (2, .int x1)] := hl
  refine lv_aload_n hx hb dX7_of_0 rfl (lv_at hl 0 rfl) ?_
  refine lv_iload_n hx hb dX7_of_1 rfl (lv_at hl 1 rfl) ?_
  refine yw_i (w1 := fun (u : Nat → Nat → Int32) => wl ad kv cy N u) hD hS hA (va_runV (As := [.int x0]) (rest := []) ⟨hx, hb, hml, hown, hts⟩ (g_X7_isCase l dC dI cy _ ad kv N hN v hv x0) (cwV 1 hts gX7_of_X7_isCase rfl rfl rfl (by decide +kernel) ⟨Nat.le_of_ble_eq_true rfl, Nat.le_of_ble_eq_true rfl⟩) (yw_preV hE hK hP hD (ci := 7) (q0 := 0) rfl (wl_at (by omega) (ce_0 (by decide)))) rfl rfl hl.1 rfl (lv_room (Nat.le_of_ble_eq_true rfl)) dX7_of_2 ⟨Nat.le_of_ble_eq_true rfl, Nat.le_of_ble_eq_true rfl⟩) (fun r_1 v_1 H locs hw_1 hP hD hS => ?_)
  obtain ⟨-, hu_1, hw_1⟩ := hw_1
  replace hu_1 := hu_1.symm
  subst hu_1
  rcases hw_1 with ⟨rfl, ha_2⟩ | ⟨rfl, ha_2⟩
  · have hb_2 := hv.at (k := 13) (j := 2) (K := 3) (by decide) rfl
    have hj_2 : 0 ≤ x0.toInt ∧ x0.toInt ≤ 5 := ⟨by omega, by omega⟩
    refine lv_if_ne (tgt := 10) hx hb dX7_of_5 (by decide) (fun _ => ?_) (fun c9 => absurd c9 (by decide))
    refine lv_aload_n hx hb dX7_of_10 rfl (lv_at hl 0 rfl) ?_
    refine va_get (D := (dC, dI)) (ci := 7) (v := .ref (ad 13)) (C := RX7) (T := TX7) (N := 5) hx hb hts (by decide +kernel) hown hK hP (0) (wl_at (by omega) (ce_0 (by decide))) rfl 0 (by decide) (hts (.fieldLink RX7 12 "QuietStairs" "now" "LQuietStairs$House;") (by decide +kernel)) (fun _ h9 => h9) rfl dX7_of_11 ?_
    refine va_get (D := (dC, dI)) (ci := 1) (v := .ref (ad 16)) (C := RX1) (T := TX1) (N := 7) hx hb hts (by decide +kernel) hown hK hP (13) (wl_at (by omega) (ce_3 (by decide))) rfl 6 (by decide) (hts (.fieldLink RX7 86 "QuietStairs$House" "cases" "[LQuietStairs$Case;") (by decide +kernel)) (fun _ h9 => h9) rfl dX7_of_14 ?_
    refine lv_iload_n hx hb dX7_of_17 rfl (lv_at hl 1 rfl) ?_
    have zn_x0 : (x0.toNatClampNeg : Int) = x0.toInt := t_nn (by omega)
    have hx_3 : x0.toNatClampNeg < 6 := by omega
    refine va_aldq hx hb hK hP (16) 3 (wl_at (by omega) (ce_6 (by decide))) rfl (vp_in_iff.mpr ⟨by omega, by omega⟩) dX7_of_18 ?_
    refine W.eq (g2 := F0 m 19 ls [.ref (ad (29 + 15 * x0.toNatClampNeg))]) (by rw [if_pos hx_3, show 16 + 13 + 15 * x0.toNatClampNeg = 29 + 15 * x0.toNatClampNeg from by omega]; rfl) ?_
    refine lv_astore_n (lv' := [(3, .ref (ad (29 + 15 * x0.toNatClampNeg))), (0, .ref (ad 0)), (1, .int x0), (2, .int x1)]) hx hb dX7_of_19 rfl hl (by decide) rfl (fun ls hl => ?_)
    refine lv_iload_n hx hb dX7_of_20 rfl (lv_at hl 3 rfl) ?_
    rcases sw_8 x1 with hsw | hsw | hsw | hsw | hsw | hsw | hsw | hsw | hsw
    · refine lv_tableOut (tgt := 136) hx hb dX7_of_21 hsw (by decide) ?_
      refine lv_iconst (v := (-1)) hx hb dX7_of_136 (by decide) ?_
      have hpost : (¬ (0 ≤ x0.toInt ∧ x0.toInt < (v 13 2).toInt) → (((-1) : Int32) = -1) ∧ v = v) ∧ ((0 ≤ x0.toInt ∧ x0.toInt < (v 13 2).toInt) ∧ x1.toInt = 0 → (((-1) : Int32) = v (30 + 15 * x0.toNatClampNeg) 0) ∧ v = v) ∧ ((0 ≤ x0.toInt ∧ x0.toInt < (v 13 2).toInt) ∧ x1.toInt = 1 → (((-1) : Int32) = v (30 + 15 * x0.toNatClampNeg) 1) ∧ v = v) ∧ ((0 ≤ x0.toInt ∧ x0.toInt < (v 13 2).toInt) ∧ x1.toInt = 2 → (((-1) : Int32) = v (29 + 15 * x0.toNatClampNeg) 0) ∧ v = v) ∧ ((0 ≤ x0.toInt ∧ x0.toInt < (v 13 2).toInt) ∧ x1.toInt = 3 → (((v (29 + 15 * x0.toNatClampNeg) 0).toInt = 1 → ((-1) : Int32) = v (29 + 15 * x0.toNatClampNeg) 1) ∧ ((v (29 + 15 * x0.toNatClampNeg) 0).toInt ≠ 1 → ((-1) : Int32) = -5)) ∧ v = v) ∧ ((0 ≤ x0.toInt ∧ x0.toInt < (v 13 2).toInt) ∧ x1.toInt = 4 → (((-1) : Int32) = v (29 + 15 * x0.toNatClampNeg) 2) ∧ v = v) ∧ ((0 ≤ x0.toInt ∧ x0.toInt < (v 13 2).toInt) ∧ x1.toInt = 5 → (((-1) : Int32).toInt = ((hF (qB (fun c => v (29 + 15 * c) 4) (v 13 2).toNatClampNeg x0) x0.toNatClampNeg : Nat) : Int)) ∧ v = v) ∧ ((0 ≤ x0.toInt ∧ x0.toInt < (v 13 2).toInt) ∧ x1.toInt = 6 → (((-1) : Int32) = bcF (qB (fun c => v (29 + 15 * c) 4) (v 13 2).toNatClampNeg x0)) ∧ v = v) ∧ ((0 ≤ x0.toInt ∧ x0.toInt < (v 13 2).toInt) ∧ x1.toInt = 7 → (((-1) : Int32) = v (29 + 15 * x0.toNatClampNeg) 3) ∧ v = v) ∧ ((0 ≤ x0.toInt ∧ x0.toInt < (v 13 2).toInt) ∧ (x1.toInt < 0 ∨ 7 < x1.toInt) → (((-1) : Int32) = -1) ∧ v = v) := by
        refine ⟨fun hq => ?_, fun hq => ?_, fun hq => ?_, fun hq => ?_, fun hq => ?_, fun hq => ?_, fun hq => ?_, fun hq => ?_, fun hq => ?_, fun hq => ?_⟩
        · exfalso; omega
        · exfalso; omega
        · exfalso; omega
        · exfalso; omega
        · exfalso; omega
        · exfalso; omega
        · exfalso; omega
        · exfalso; omega
        · exfalso; omega
        · exact ⟨rfl, rfl⟩
      exact W.iret (v := (-1)) hx hb hr (fun t ht hW => ⟨⟨(-1), v, rfl, ⟨hv, hpost⟩, by rw [ht]; exact hP, hD⟩, hS.F ht⟩) hS.2.2 dX7_of_137
    · refine lv_tableIn (off := 47) (tgt := 68) hx hb dX7_of_21 (by rw [hsw]; decide) (by rw [hsw]; decide) (by rw [hsw]; decide) (by decide) ?_
      have k_0 : (0 : Int32).toInt = 0 := by decide
      have tsw : x1.toInt = 0 := by rw [hsw]; decide
      refine lv_aload_n hx hb dX7_of_68 rfl (lv_at hl 0 rfl) ?_
      refine va_get (D := (dC, dI)) (ci := 0) (v := .ref (ad (29 + 15 * x0.toNatClampNeg + 1))) (C := RX0) (T := TX0) (N := 11) hx hb hts (by decide +kernel) hown hK hP (29 + 15 * x0.toNatClampNeg) (wl_at (by omega) (ce_9 (kd_c _ hx_3).1.1)) rfl 6 (by decide) (hts (.fieldLink RX7 111 "QuietStairs$Case" "parties" "[I") (by decide +kernel)) (fun _ h9 => h9) rfl dX7_of_69 ?_
      refine W.eq (g2 := F0 m 72 ls [.ref (ad (30 + 15 * x0.toNatClampNeg))]) (by rw [show 29 + 15 * x0.toNatClampNeg + 1 = 30 + 15 * x0.toNatClampNeg from by omega]) ?_
      refine lv_iconst (v := 0) hx hb dX7_of_72 (by decide) ?_
      refine va_iald hx hb hK hP (30 + 15 * x0.toNatClampNeg) 0 (wl_at (by omega) (ce_10 (kd_c _ hx_3).1.2.1)) rfl (by unfold vp_in; decide) dX7_of_73 ?_
      refine lv_topi (fun x_4 ex_4 => ?_)
      have ex_4 : x_4 = v (30 + 15 * x0.toNatClampNeg) 0 := ex_4
      have bzx_4 : 0 ≤ x_4.toInt ∧ x_4.toInt ≤ 7 := by rw [ex_4]; exact hv.at (K := 10) (kd_c _ hx_3).1.2.1 rfl
      have qx_4 : x_4.toInt = (v (30 + 15 * x0.toNatClampNeg) (0)).toInt := congrArg Int32.toInt ex_4
      have hpost : (¬ (0 ≤ x0.toInt ∧ x0.toInt < (v 13 2).toInt) → (x_4 = -1) ∧ v = v) ∧ ((0 ≤ x0.toInt ∧ x0.toInt < (v 13 2).toInt) ∧ x1.toInt = 0 → (x_4 = v (30 + 15 * x0.toNatClampNeg) 0) ∧ v = v) ∧ ((0 ≤ x0.toInt ∧ x0.toInt < (v 13 2).toInt) ∧ x1.toInt = 1 → (x_4 = v (30 + 15 * x0.toNatClampNeg) 1) ∧ v = v) ∧ ((0 ≤ x0.toInt ∧ x0.toInt < (v 13 2).toInt) ∧ x1.toInt = 2 → (x_4 = v (29 + 15 * x0.toNatClampNeg) 0) ∧ v = v) ∧ ((0 ≤ x0.toInt ∧ x0.toInt < (v 13 2).toInt) ∧ x1.toInt = 3 → (((v (29 + 15 * x0.toNatClampNeg) 0).toInt = 1 → x_4 = v (29 + 15 * x0.toNatClampNeg) 1) ∧ ((v (29 + 15 * x0.toNatClampNeg) 0).toInt ≠ 1 → x_4 = -5)) ∧ v = v) ∧ ((0 ≤ x0.toInt ∧ x0.toInt < (v 13 2).toInt) ∧ x1.toInt = 4 → (x_4 = v (29 + 15 * x0.toNatClampNeg) 2) ∧ v = v) ∧ ((0 ≤ x0.toInt ∧ x0.toInt < (v 13 2).toInt) ∧ x1.toInt = 5 → (x_4.toInt = ((hF (qB (fun c => v (29 + 15 * c) 4) (v 13 2).toNatClampNeg x0) x0.toNatClampNeg : Nat) : Int)) ∧ v = v) ∧ ((0 ≤ x0.toInt ∧ x0.toInt < (v 13 2).toInt) ∧ x1.toInt = 6 → (x_4 = bcF (qB (fun c => v (29 + 15 * c) 4) (v 13 2).toNatClampNeg x0)) ∧ v = v) ∧ ((0 ≤ x0.toInt ∧ x0.toInt < (v 13 2).toInt) ∧ x1.toInt = 7 → (x_4 = v (29 + 15 * x0.toNatClampNeg) 3) ∧ v = v) ∧ ((0 ≤ x0.toInt ∧ x0.toInt < (v 13 2).toInt) ∧ (x1.toInt < 0 ∨ 7 < x1.toInt) → (x_4 = -1) ∧ v = v) := by
        refine ⟨fun hq => ?_, fun hq => ?_, fun hq => ?_, fun hq => ?_, fun hq => ?_, fun hq => ?_, fun hq => ?_, fun hq => ?_, fun hq => ?_, fun hq => ?_⟩
        · exfalso; omega
        · exact ⟨by rw [ex_4], rfl⟩
        · exfalso; omega
        · exfalso; omega
        · exfalso; omega
        · exfalso; omega
        · exfalso; omega
        · exfalso; omega
        · exfalso; omega
        · exfalso; omega
      exact W.iret (v := x_4) hx hb hr (fun t ht hW => ⟨⟨x_4, v, rfl, ⟨hv, hpost⟩, by rw [ht]; exact hP, hD⟩, hS.F ht⟩) hS.2.2 dX7_of_74
    · refine lv_tableIn (off := 54) (tgt := 75) hx hb dX7_of_21 (by rw [hsw]; decide) (by rw [hsw]; decide) (by rw [hsw]; decide) (by decide) ?_
      have k_1 : (1 : Int32).toInt = 1 := by decide
      have tsw : x1.toInt = 1 := by rw [hsw]; decide
      refine lv_aload_n hx hb dX7_of_75 rfl (lv_at hl 0 rfl) ?_
      refine va_get (D := (dC, dI)) (ci := 0) (v := .ref (ad (29 + 15 * x0.toNatClampNeg + 1))) (C := RX0) (T := TX0) (N := 11) hx hb hts (by decide +kernel) hown hK hP (29 + 15 * x0.toNatClampNeg) (wl_at (by omega) (ce_9 (kd_c _ hx_3).1.1)) rfl 6 (by decide) (hts (.fieldLink RX7 111 "QuietStairs$Case" "parties" "[I") (by decide +kernel)) (fun _ h9 => h9) rfl dX7_of_76 ?_
      refine W.eq (g2 := F0 m 79 ls [.ref (ad (30 + 15 * x0.toNatClampNeg))]) (by rw [show 29 + 15 * x0.toNatClampNeg + 1 = 30 + 15 * x0.toNatClampNeg from by omega]) ?_
      refine lv_iconst (v := 1) hx hb dX7_of_79 (by decide) ?_
      refine va_iald hx hb hK hP (30 + 15 * x0.toNatClampNeg) 0 (wl_at (by omega) (ce_10 (kd_c _ hx_3).1.2.1)) rfl (by unfold vp_in; decide) dX7_of_80 ?_
      refine lv_topi (fun x_4 ex_4 => ?_)
      have ex_4 : x_4 = v (30 + 15 * x0.toNatClampNeg) 1 := ex_4
      have bzx_4 : 0 ≤ x_4.toInt ∧ x_4.toInt ≤ 7 := by rw [ex_4]; exact hv.at (K := 10) (kd_c _ hx_3).1.2.1 rfl
      have qx_4 : x_4.toInt = (v (30 + 15 * x0.toNatClampNeg) (1)).toInt := congrArg Int32.toInt ex_4
      have hpost : (¬ (0 ≤ x0.toInt ∧ x0.toInt < (v 13 2).toInt) → (x_4 = -1) ∧ v = v) ∧ ((0 ≤ x0.toInt ∧ x0.toInt < (v 13 2).toInt) ∧ x1.toInt = 0 → (x_4 = v (30 + 15 * x0.toNatClampNeg) 0) ∧ v = v) ∧ ((0 ≤ x0.toInt ∧ x0.toInt < (v 13 2).toInt) ∧ x1.toInt = 1 → (x_4 = v (30 + 15 * x0.toNatClampNeg) 1) ∧ v = v) ∧ ((0 ≤ x0.toInt ∧ x0.toInt < (v 13 2).toInt) ∧ x1.toInt = 2 → (x_4 = v (29 + 15 * x0.toNatClampNeg) 0) ∧ v = v) ∧ ((0 ≤ x0.toInt ∧ x0.toInt < (v 13 2).toInt) ∧ x1.toInt = 3 → (((v (29 + 15 * x0.toNatClampNeg) 0).toInt = 1 → x_4 = v (29 + 15 * x0.toNatClampNeg) 1) ∧ ((v (29 + 15 * x0.toNatClampNeg) 0).toInt ≠ 1 → x_4 = -5)) ∧ v = v) ∧ ((0 ≤ x0.toInt ∧ x0.toInt < (v 13 2).toInt) ∧ x1.toInt = 4 → (x_4 = v (29 + 15 * x0.toNatClampNeg) 2) ∧ v = v) ∧ ((0 ≤ x0.toInt ∧ x0.toInt < (v 13 2).toInt) ∧ x1.toInt = 5 → (x_4.toInt = ((hF (qB (fun c => v (29 + 15 * c) 4) (v 13 2).toNatClampNeg x0) x0.toNatClampNeg : Nat) : Int)) ∧ v = v) ∧ ((0 ≤ x0.toInt ∧ x0.toInt < (v 13 2).toInt) ∧ x1.toInt = 6 → (x_4 = bcF (qB (fun c => v (29 + 15 * c) 4) (v 13 2).toNatClampNeg x0)) ∧ v = v) ∧ ((0 ≤ x0.toInt ∧ x0.toInt < (v 13 2).toInt) ∧ x1.toInt = 7 → (x_4 = v (29 + 15 * x0.toNatClampNeg) 3) ∧ v = v) ∧ ((0 ≤ x0.toInt ∧ x0.toInt < (v 13 2).toInt) ∧ (x1.toInt < 0 ∨ 7 < x1.toInt) → (x_4 = -1) ∧ v = v) := by
        refine ⟨fun hq => ?_, fun hq => ?_, fun hq => ?_, fun hq => ?_, fun hq => ?_, fun hq => ?_, fun hq => ?_, fun hq => ?_, fun hq => ?_, fun hq => ?_⟩
        · exfalso; omega
        · exfalso; omega
        · exact ⟨by rw [ex_4], rfl⟩
        · exfalso; omega
        · exfalso; omega
        · exfalso; omega
        · exfalso; omega
        · exfalso; omega
        · exfalso; omega
        · exfalso; omega
      exact W.iret (v := x_4) hx hb hr (fun t ht hW => ⟨⟨x_4, v, rfl, ⟨hv, hpost⟩, by rw [ht]; exact hP, hD⟩, hS.F ht⟩) hS.2.2 dX7_of_81
    · refine lv_tableIn (off := 61) (tgt := 82) hx hb dX7_of_21 (by rw [hsw]; decide) (by rw [hsw]; decide) (by rw [hsw]; decide) (by decide) ?_
      have k_2 : (2 : Int32).toInt = 2 := by decide
      have tsw : x1.toInt = 2 := by rw [hsw]; decide
      refine lv_aload_n hx hb dX7_of_82 rfl (lv_at hl 0 rfl) ?_
      refine va_get (D := (dC, dI)) (ci := 0) (v := .int (v (29 + 15 * x0.toNatClampNeg) 0)) (C := RX0) (T := TX0) (N := 11) hx hb hts (by decide +kernel) hown hK hP (29 + 15 * x0.toNatClampNeg) (wl_at (by omega) (ce_9 (kd_c _ hx_3).1.1)) rfl 0 (by decide) (hts (.fieldLink RX7 99 "QuietStairs$Case" "state" "I") (by decide +kernel)) (fun _ h9 => h9) rfl dX7_of_83 ?_
      refine lv_topi (fun x_4 ex_4 => ?_)
      have qx_4 : x_4.toInt = (v (29 + 15 * x0.toNatClampNeg) (0)).toInt := congrArg Int32.toInt ex_4
      have hpost : (¬ (0 ≤ x0.toInt ∧ x0.toInt < (v 13 2).toInt) → (x_4 = -1) ∧ v = v) ∧ ((0 ≤ x0.toInt ∧ x0.toInt < (v 13 2).toInt) ∧ x1.toInt = 0 → (x_4 = v (30 + 15 * x0.toNatClampNeg) 0) ∧ v = v) ∧ ((0 ≤ x0.toInt ∧ x0.toInt < (v 13 2).toInt) ∧ x1.toInt = 1 → (x_4 = v (30 + 15 * x0.toNatClampNeg) 1) ∧ v = v) ∧ ((0 ≤ x0.toInt ∧ x0.toInt < (v 13 2).toInt) ∧ x1.toInt = 2 → (x_4 = v (29 + 15 * x0.toNatClampNeg) 0) ∧ v = v) ∧ ((0 ≤ x0.toInt ∧ x0.toInt < (v 13 2).toInt) ∧ x1.toInt = 3 → (((v (29 + 15 * x0.toNatClampNeg) 0).toInt = 1 → x_4 = v (29 + 15 * x0.toNatClampNeg) 1) ∧ ((v (29 + 15 * x0.toNatClampNeg) 0).toInt ≠ 1 → x_4 = -5)) ∧ v = v) ∧ ((0 ≤ x0.toInt ∧ x0.toInt < (v 13 2).toInt) ∧ x1.toInt = 4 → (x_4 = v (29 + 15 * x0.toNatClampNeg) 2) ∧ v = v) ∧ ((0 ≤ x0.toInt ∧ x0.toInt < (v 13 2).toInt) ∧ x1.toInt = 5 → (x_4.toInt = ((hF (qB (fun c => v (29 + 15 * c) 4) (v 13 2).toNatClampNeg x0) x0.toNatClampNeg : Nat) : Int)) ∧ v = v) ∧ ((0 ≤ x0.toInt ∧ x0.toInt < (v 13 2).toInt) ∧ x1.toInt = 6 → (x_4 = bcF (qB (fun c => v (29 + 15 * c) 4) (v 13 2).toNatClampNeg x0)) ∧ v = v) ∧ ((0 ≤ x0.toInt ∧ x0.toInt < (v 13 2).toInt) ∧ x1.toInt = 7 → (x_4 = v (29 + 15 * x0.toNatClampNeg) 3) ∧ v = v) ∧ ((0 ≤ x0.toInt ∧ x0.toInt < (v 13 2).toInt) ∧ (x1.toInt < 0 ∨ 7 < x1.toInt) → (x_4 = -1) ∧ v = v) := by
        refine ⟨fun hq => ?_, fun hq => ?_, fun hq => ?_, fun hq => ?_, fun hq => ?_, fun hq => ?_, fun hq => ?_, fun hq => ?_, fun hq => ?_, fun hq => ?_⟩
        · exfalso; omega
        · exfalso; omega
        · exfalso; omega
        · exact ⟨by rw [ex_4], rfl⟩
        · exfalso; omega
        · exfalso; omega
        · exfalso; omega
        · exfalso; omega
        · exfalso; omega
        · exfalso; omega
      exact W.iret (v := x_4) hx hb hr (fun t ht hW => ⟨⟨x_4, v, rfl, ⟨hv, hpost⟩, by rw [ht]; exact hP, hD⟩, hS.F ht⟩) hS.2.2 dX7_of_86
    · refine lv_tableIn (off := 66) (tgt := 87) hx hb dX7_of_21 (by rw [hsw]; decide) (by rw [hsw]; decide) (by rw [hsw]; decide) (by decide) ?_
      have k_3 : (3 : Int32).toInt = 3 := by decide
      have tsw : x1.toInt = 3 := by rw [hsw]; decide
      refine lv_aload_n hx hb dX7_of_87 rfl (lv_at hl 0 rfl) ?_
      refine va_get (D := (dC, dI)) (ci := 0) (v := .int (v (29 + 15 * x0.toNatClampNeg) 0)) (C := RX0) (T := TX0) (N := 11) hx hb hts (by decide +kernel) hown hK hP (29 + 15 * x0.toNatClampNeg) (wl_at (by omega) (ce_9 (kd_c _ hx_3).1.1)) rfl 0 (by decide) (hts (.fieldLink RX7 99 "QuietStairs$Case" "state" "I") (by decide +kernel)) (fun _ h9 => h9) rfl dX7_of_88 ?_
      refine lv_topi (fun x_4 ex_4 => ?_)
      have qx_4 : x_4.toInt = (v (29 + 15 * x0.toNatClampNeg) (0)).toInt := congrArg Int32.toInt ex_4
      refine lv_iconst (v := 1) hx hb dX7_of_91 (by decide) ?_
      have k_1 : (1 : Int32).toInt = 1 := by decide
      refine lv_icmp_ne (tgt := 102) hx hb dX7_of_92 (by decide) (fun c_5 => ?_) (fun c_5 => ?_)
      · have tc_5 : x_4.toInt ≠ (1 : Int32).toInt := fun q => absurd (Int32.toInt_inj.mp q) c_5
        refine lv_bipush (v := (-5)) hx hb dX7_of_102 (by decide) ?_
        have hpost : (¬ (0 ≤ x0.toInt ∧ x0.toInt < (v 13 2).toInt) → (((-5) : Int32) = -1) ∧ v = v) ∧ ((0 ≤ x0.toInt ∧ x0.toInt < (v 13 2).toInt) ∧ x1.toInt = 0 → (((-5) : Int32) = v (30 + 15 * x0.toNatClampNeg) 0) ∧ v = v) ∧ ((0 ≤ x0.toInt ∧ x0.toInt < (v 13 2).toInt) ∧ x1.toInt = 1 → (((-5) : Int32) = v (30 + 15 * x0.toNatClampNeg) 1) ∧ v = v) ∧ ((0 ≤ x0.toInt ∧ x0.toInt < (v 13 2).toInt) ∧ x1.toInt = 2 → (((-5) : Int32) = v (29 + 15 * x0.toNatClampNeg) 0) ∧ v = v) ∧ ((0 ≤ x0.toInt ∧ x0.toInt < (v 13 2).toInt) ∧ x1.toInt = 3 → (((v (29 + 15 * x0.toNatClampNeg) 0).toInt = 1 → ((-5) : Int32) = v (29 + 15 * x0.toNatClampNeg) 1) ∧ ((v (29 + 15 * x0.toNatClampNeg) 0).toInt ≠ 1 → ((-5) : Int32) = -5)) ∧ v = v) ∧ ((0 ≤ x0.toInt ∧ x0.toInt < (v 13 2).toInt) ∧ x1.toInt = 4 → (((-5) : Int32) = v (29 + 15 * x0.toNatClampNeg) 2) ∧ v = v) ∧ ((0 ≤ x0.toInt ∧ x0.toInt < (v 13 2).toInt) ∧ x1.toInt = 5 → (((-5) : Int32).toInt = ((hF (qB (fun c => v (29 + 15 * c) 4) (v 13 2).toNatClampNeg x0) x0.toNatClampNeg : Nat) : Int)) ∧ v = v) ∧ ((0 ≤ x0.toInt ∧ x0.toInt < (v 13 2).toInt) ∧ x1.toInt = 6 → (((-5) : Int32) = bcF (qB (fun c => v (29 + 15 * c) 4) (v 13 2).toNatClampNeg x0)) ∧ v = v) ∧ ((0 ≤ x0.toInt ∧ x0.toInt < (v 13 2).toInt) ∧ x1.toInt = 7 → (((-5) : Int32) = v (29 + 15 * x0.toNatClampNeg) 3) ∧ v = v) ∧ ((0 ≤ x0.toInt ∧ x0.toInt < (v 13 2).toInt) ∧ (x1.toInt < 0 ∨ 7 < x1.toInt) → (((-5) : Int32) = -1) ∧ v = v) := by
          refine ⟨fun hq => ?_, fun hq => ?_, fun hq => ?_, fun hq => ?_, fun hq => ?_, fun hq => ?_, fun hq => ?_, fun hq => ?_, fun hq => ?_, fun hq => ?_⟩
          · exfalso; omega
          · exfalso; omega
          · exfalso; omega
          · exfalso; omega
          · exact ⟨⟨fun q => absurd q (by omega), fun _ => rfl⟩, rfl⟩
          · exfalso; omega
          · exfalso; omega
          · exfalso; omega
          · exfalso; omega
          · exfalso; omega
        exact W.iret (v := (-5)) hx hb hr (fun t ht hW => ⟨⟨(-5), v, rfl, ⟨hv, hpost⟩, by rw [ht]; exact hP, hD⟩, hS.F ht⟩) hS.2.2 dX7_of_104
      · have tc_5 : x_4.toInt = (1 : Int32).toInt := by rw [c_5]
        refine lv_aload_n hx hb dX7_of_95 rfl (lv_at hl 0 rfl) ?_
        refine va_get (D := (dC, dI)) (ci := 0) (v := .int (v (29 + 15 * x0.toNatClampNeg) 1)) (C := RX0) (T := TX0) (N := 11) hx hb hts (by decide +kernel) hown hK hP (29 + 15 * x0.toNatClampNeg) (wl_at (by omega) (ce_9 (kd_c _ hx_3).1.1)) rfl 1 (by decide) (hts (.fieldLink RX7 114 "QuietStairs$Case" "sum" "I") (by decide +kernel)) (fun _ h9 => h9) rfl dX7_of_96 ?_
        refine lv_topi (fun x_6 ex_6 => ?_)
        have qx_6 : x_6.toInt = (v (29 + 15 * x0.toNatClampNeg) (1)).toInt := congrArg Int32.toInt ex_6
        refine lv_goto (tgt := 104) hx hb dX7_of_99 (by decide) ?_
        have hpost : (¬ (0 ≤ x0.toInt ∧ x0.toInt < (v 13 2).toInt) → (x_6 = -1) ∧ v = v) ∧ ((0 ≤ x0.toInt ∧ x0.toInt < (v 13 2).toInt) ∧ x1.toInt = 0 → (x_6 = v (30 + 15 * x0.toNatClampNeg) 0) ∧ v = v) ∧ ((0 ≤ x0.toInt ∧ x0.toInt < (v 13 2).toInt) ∧ x1.toInt = 1 → (x_6 = v (30 + 15 * x0.toNatClampNeg) 1) ∧ v = v) ∧ ((0 ≤ x0.toInt ∧ x0.toInt < (v 13 2).toInt) ∧ x1.toInt = 2 → (x_6 = v (29 + 15 * x0.toNatClampNeg) 0) ∧ v = v) ∧ ((0 ≤ x0.toInt ∧ x0.toInt < (v 13 2).toInt) ∧ x1.toInt = 3 → (((v (29 + 15 * x0.toNatClampNeg) 0).toInt = 1 → x_6 = v (29 + 15 * x0.toNatClampNeg) 1) ∧ ((v (29 + 15 * x0.toNatClampNeg) 0).toInt ≠ 1 → x_6 = -5)) ∧ v = v) ∧ ((0 ≤ x0.toInt ∧ x0.toInt < (v 13 2).toInt) ∧ x1.toInt = 4 → (x_6 = v (29 + 15 * x0.toNatClampNeg) 2) ∧ v = v) ∧ ((0 ≤ x0.toInt ∧ x0.toInt < (v 13 2).toInt) ∧ x1.toInt = 5 → (x_6.toInt = ((hF (qB (fun c => v (29 + 15 * c) 4) (v 13 2).toNatClampNeg x0) x0.toNatClampNeg : Nat) : Int)) ∧ v = v) ∧ ((0 ≤ x0.toInt ∧ x0.toInt < (v 13 2).toInt) ∧ x1.toInt = 6 → (x_6 = bcF (qB (fun c => v (29 + 15 * c) 4) (v 13 2).toNatClampNeg x0)) ∧ v = v) ∧ ((0 ≤ x0.toInt ∧ x0.toInt < (v 13 2).toInt) ∧ x1.toInt = 7 → (x_6 = v (29 + 15 * x0.toNatClampNeg) 3) ∧ v = v) ∧ ((0 ≤ x0.toInt ∧ x0.toInt < (v 13 2).toInt) ∧ (x1.toInt < 0 ∨ 7 < x1.toInt) → (x_6 = -1) ∧ v = v) := by
          refine ⟨fun hq => ?_, fun hq => ?_, fun hq => ?_, fun hq => ?_, fun hq => ?_, fun hq => ?_, fun hq => ?_, fun hq => ?_, fun hq => ?_, fun hq => ?_⟩
          · exfalso; omega
          · exfalso; omega
          · exfalso; omega
          · exfalso; omega
          · exact ⟨⟨fun _ => by rw [ex_6], fun q => absurd (by omega) q⟩, rfl⟩
          · exfalso; omega
          · exfalso; omega
          · exfalso; omega
          · exfalso; omega
          · exfalso; omega
        exact W.iret (v := x_6) hx hb hr (fun t ht hW => ⟨⟨x_6, v, rfl, ⟨hv, hpost⟩, by rw [ht]; exact hP, hD⟩, hS.F ht⟩) hS.2.2 dX7_of_104
    · refine lv_tableIn (off := 84) (tgt := 105) hx hb dX7_of_21 (by rw [hsw]; decide) (by rw [hsw]; decide) (by rw [hsw]; decide) (by decide) ?_
      have k_4 : (4 : Int32).toInt = 4 := by decide
      have tsw : x1.toInt = 4 := by rw [hsw]; decide
      refine lv_aload_n hx hb dX7_of_105 rfl (lv_at hl 0 rfl) ?_
      refine va_get (D := (dC, dI)) (ci := 0) (v := .int (v (29 + 15 * x0.toNatClampNeg) 2)) (C := RX0) (T := TX0) (N := 11) hx hb hts (by decide +kernel) hown hK hP (29 + 15 * x0.toNatClampNeg) (wl_at (by omega) (ce_9 (kd_c _ hx_3).1.1)) rfl 2 (by decide) (hts (.fieldLink RX7 117 "QuietStairs$Case" "roundsOver" "I") (by decide +kernel)) (fun _ h9 => h9) rfl dX7_of_106 ?_
      refine lv_topi (fun x_4 ex_4 => ?_)
      have bzx_4 : 0 ≤ x_4.toInt ∧ x_4.toInt ≤ 5 := by rw [ex_4]; exact hv.at (K := 9) (kd_c _ hx_3).1.1 rfl
      have qx_4 : x_4.toInt = (v (29 + 15 * x0.toNatClampNeg) (2)).toInt := congrArg Int32.toInt ex_4
      have hpost : (¬ (0 ≤ x0.toInt ∧ x0.toInt < (v 13 2).toInt) → (x_4 = -1) ∧ v = v) ∧ ((0 ≤ x0.toInt ∧ x0.toInt < (v 13 2).toInt) ∧ x1.toInt = 0 → (x_4 = v (30 + 15 * x0.toNatClampNeg) 0) ∧ v = v) ∧ ((0 ≤ x0.toInt ∧ x0.toInt < (v 13 2).toInt) ∧ x1.toInt = 1 → (x_4 = v (30 + 15 * x0.toNatClampNeg) 1) ∧ v = v) ∧ ((0 ≤ x0.toInt ∧ x0.toInt < (v 13 2).toInt) ∧ x1.toInt = 2 → (x_4 = v (29 + 15 * x0.toNatClampNeg) 0) ∧ v = v) ∧ ((0 ≤ x0.toInt ∧ x0.toInt < (v 13 2).toInt) ∧ x1.toInt = 3 → (((v (29 + 15 * x0.toNatClampNeg) 0).toInt = 1 → x_4 = v (29 + 15 * x0.toNatClampNeg) 1) ∧ ((v (29 + 15 * x0.toNatClampNeg) 0).toInt ≠ 1 → x_4 = -5)) ∧ v = v) ∧ ((0 ≤ x0.toInt ∧ x0.toInt < (v 13 2).toInt) ∧ x1.toInt = 4 → (x_4 = v (29 + 15 * x0.toNatClampNeg) 2) ∧ v = v) ∧ ((0 ≤ x0.toInt ∧ x0.toInt < (v 13 2).toInt) ∧ x1.toInt = 5 → (x_4.toInt = ((hF (qB (fun c => v (29 + 15 * c) 4) (v 13 2).toNatClampNeg x0) x0.toNatClampNeg : Nat) : Int)) ∧ v = v) ∧ ((0 ≤ x0.toInt ∧ x0.toInt < (v 13 2).toInt) ∧ x1.toInt = 6 → (x_4 = bcF (qB (fun c => v (29 + 15 * c) 4) (v 13 2).toNatClampNeg x0)) ∧ v = v) ∧ ((0 ≤ x0.toInt ∧ x0.toInt < (v 13 2).toInt) ∧ x1.toInt = 7 → (x_4 = v (29 + 15 * x0.toNatClampNeg) 3) ∧ v = v) ∧ ((0 ≤ x0.toInt ∧ x0.toInt < (v 13 2).toInt) ∧ (x1.toInt < 0 ∨ 7 < x1.toInt) → (x_4 = -1) ∧ v = v) := by
        refine ⟨fun hq => ?_, fun hq => ?_, fun hq => ?_, fun hq => ?_, fun hq => ?_, fun hq => ?_, fun hq => ?_, fun hq => ?_, fun hq => ?_, fun hq => ?_⟩
        · exfalso; omega
        · exfalso; omega
        · exfalso; omega
        · exfalso; omega
        · exfalso; omega
        · exact ⟨by rw [ex_4], rfl⟩
        · exfalso; omega
        · exfalso; omega
        · exfalso; omega
        · exfalso; omega
      exact W.iret (v := x_4) hx hb hr (fun t ht hW => ⟨⟨x_4, v, rfl, ⟨hv, hpost⟩, by rw [ht]; exact hP, hD⟩, hS.F ht⟩) hS.2.2 dX7_of_109
    · refine lv_tableIn (off := 89) (tgt := 110) hx hb dX7_of_21 (by rw [hsw]; decide) (by rw [hsw]; decide) (by rw [hsw]; decide) (by decide) ?_
      have k_5 : (5 : Int32).toInt = 5 := by decide
      have tsw : x1.toInt = 5 := by rw [hsw]; decide
      refine lv_aload_n hx hb dX7_of_110 rfl (lv_at hl 1 rfl) ?_
      refine va_get (D := (dC, dI)) (ci := 7) (v := .ref (ad 13)) (C := RX7) (T := TX7) (N := 5) hx hb hts (by decide +kernel) hown hK hP (0) (wl_at (by omega) (ce_0 (by decide))) rfl 0 (by decide) (hts (.fieldLink RX7 12 "QuietStairs" "now" "LQuietStairs$House;") (by decide +kernel)) (fun _ h9 => h9) rfl dX7_of_111 ?_
      refine lv_iload_n hx hb dX7_of_114 rfl (lv_at hl 2 rfl) ?_
      refine yw_i (w1 := fun (u : Nat → Nat → Int32) => wl ad kv cy N u) hD hS hA (va_runV (As := [.int x0]) (rest := []) ⟨hx, hb, hml, hown, hts⟩ (e_X1_headOfQuarrel l dC dI cy _ ad kv N hN v hv x0 ⟨by omega, by omega⟩) (cwV 1 hts gX7_of_X1_headOfQuarrel rfl rfl rfl (by decide +kernel) ⟨Nat.le_of_ble_eq_true rfl, Nat.le_of_ble_eq_true rfl⟩) (yw_preV hE hK hP hD (ci := 1) (q0 := 13) rfl (wl_at (by omega) (ce_3 (by decide)))) rfl rfl hl.1 rfl (lv_room (Nat.le_of_ble_eq_true rfl)) dX7_of_115 ⟨Nat.le_of_ble_eq_true rfl, Nat.le_of_ble_eq_true rfl⟩) (fun r_4 v_4 H locs hw_4 hP hD hS => ?_)
      obtain ⟨-, hu_4, hw_4⟩ := hw_4
      replace hu_4 := hu_4.symm
      subst hu_4
      have hpost : (¬ (0 ≤ x0.toInt ∧ x0.toInt < (v 13 2).toInt) → (r_4 = -1) ∧ v = v) ∧ ((0 ≤ x0.toInt ∧ x0.toInt < (v 13 2).toInt) ∧ x1.toInt = 0 → (r_4 = v (30 + 15 * x0.toNatClampNeg) 0) ∧ v = v) ∧ ((0 ≤ x0.toInt ∧ x0.toInt < (v 13 2).toInt) ∧ x1.toInt = 1 → (r_4 = v (30 + 15 * x0.toNatClampNeg) 1) ∧ v = v) ∧ ((0 ≤ x0.toInt ∧ x0.toInt < (v 13 2).toInt) ∧ x1.toInt = 2 → (r_4 = v (29 + 15 * x0.toNatClampNeg) 0) ∧ v = v) ∧ ((0 ≤ x0.toInt ∧ x0.toInt < (v 13 2).toInt) ∧ x1.toInt = 3 → (((v (29 + 15 * x0.toNatClampNeg) 0).toInt = 1 → r_4 = v (29 + 15 * x0.toNatClampNeg) 1) ∧ ((v (29 + 15 * x0.toNatClampNeg) 0).toInt ≠ 1 → r_4 = -5)) ∧ v = v) ∧ ((0 ≤ x0.toInt ∧ x0.toInt < (v 13 2).toInt) ∧ x1.toInt = 4 → (r_4 = v (29 + 15 * x0.toNatClampNeg) 2) ∧ v = v) ∧ ((0 ≤ x0.toInt ∧ x0.toInt < (v 13 2).toInt) ∧ x1.toInt = 5 → (r_4.toInt = ((hF (qB (fun c => v (29 + 15 * c) 4) (v 13 2).toNatClampNeg x0) x0.toNatClampNeg : Nat) : Int)) ∧ v = v) ∧ ((0 ≤ x0.toInt ∧ x0.toInt < (v 13 2).toInt) ∧ x1.toInt = 6 → (r_4 = bcF (qB (fun c => v (29 + 15 * c) 4) (v 13 2).toNatClampNeg x0)) ∧ v = v) ∧ ((0 ≤ x0.toInt ∧ x0.toInt < (v 13 2).toInt) ∧ x1.toInt = 7 → (r_4 = v (29 + 15 * x0.toNatClampNeg) 3) ∧ v = v) ∧ ((0 ≤ x0.toInt ∧ x0.toInt < (v 13 2).toInt) ∧ (x1.toInt < 0 ∨ 7 < x1.toInt) → (r_4 = -1) ∧ v = v) := by
        refine ⟨fun hq => ?_, fun hq => ?_, fun hq => ?_, fun hq => ?_, fun hq => ?_, fun hq => ?_, fun hq => ?_, fun hq => ?_, fun hq => ?_, fun hq => ?_⟩
        · exfalso; omega
        · exfalso; omega
        · exfalso; omega
        · exfalso; omega
        · exfalso; omega
        · exfalso; omega
        · exact ⟨hw_4, rfl⟩
        · exfalso; omega
        · exfalso; omega
        · exfalso; omega
      exact W.iret (v := r_4) hx hb hr (fun t ht hW => ⟨⟨r_4, v, rfl, ⟨hv, hpost⟩, by rw [ht]; exact hP, hD⟩, hS.F ht⟩) hS.2.2 dX7_of_118
    · refine lv_tableIn (off := 98) (tgt := 119) hx hb dX7_of_21 (by rw [hsw]; decide) (by rw [hsw]; decide) (by rw [hsw]; decide) (by decide) ?_
      have k_6 : (6 : Int32).toInt = 6 := by decide
      have tsw : x1.toInt = 6 := by rw [hsw]; decide
      refine lv_aload_n hx hb dX7_of_119 rfl (lv_at hl 1 rfl) ?_
      refine va_get (D := (dC, dI)) (ci := 7) (v := .ref (ad 13)) (C := RX7) (T := TX7) (N := 5) hx hb hts (by decide +kernel) hown hK hP (0) (wl_at (by omega) (ce_0 (by decide))) rfl 0 (by decide) (hts (.fieldLink RX7 12 "QuietStairs" "now" "LQuietStairs$House;") (by decide +kernel)) (fun _ h9 => h9) rfl dX7_of_120 ?_
      refine lv_iload_n hx hb dX7_of_123 rfl (lv_at hl 2 rfl) ?_
      refine yw_i (w1 := fun (u : Nat → Nat → Int32) => wl ad kv cy N u) hD hS hA (va_runV (As := [.int x0]) (rest := []) ⟨hx, hb, hml, hown, hts⟩ (e_X1_quarrelBits l dC dI cy _ ad kv N hN v hv x0) (cwV 1 hts gX7_of_X1_quarrelBits rfl rfl rfl (by decide +kernel) ⟨Nat.le_of_ble_eq_true rfl, Nat.le_of_ble_eq_true rfl⟩) (yw_preV hE hK hP hD (ci := 1) (q0 := 13) rfl (wl_at (by omega) (ce_3 (by decide)))) rfl rfl hl.1 rfl (lv_room (Nat.le_of_ble_eq_true rfl)) dX7_of_124 ⟨Nat.le_of_ble_eq_true rfl, Nat.le_of_ble_eq_true rfl⟩) (fun r_4 v_4 H locs hw_4 hP hD hS => ?_)
      obtain ⟨-, hu_4, hw_4⟩ := hw_4
      replace hu_4 := hu_4.symm
      subst hu_4
      refine yc_p hP hS (va_runS (As := [.int r_4]) (rest := []) ⟨hx, hb, hml, hown, hts⟩ (e_bitCount l r_4) (va_cwS 1 hts gX7_of_J6_bitCount_0f7a4 rfl rfl rfl (by decide +kernel) ⟨Nat.le_of_ble_eq_true rfl, Nat.le_of_ble_eq_true rfl⟩) ex_preP rfl rfl hl.1 rfl (lv_room (Nat.le_of_ble_eq_true rfl)) dX7_of_127 ⟨Nat.le_of_ble_eq_true rfl, Nat.le_of_ble_eq_true rfl⟩) (fun r_5 H locs hw_5 hP hS => ?_)
      have hpost : (¬ (0 ≤ x0.toInt ∧ x0.toInt < (v 13 2).toInt) → (r_5 = -1) ∧ v = v) ∧ ((0 ≤ x0.toInt ∧ x0.toInt < (v 13 2).toInt) ∧ x1.toInt = 0 → (r_5 = v (30 + 15 * x0.toNatClampNeg) 0) ∧ v = v) ∧ ((0 ≤ x0.toInt ∧ x0.toInt < (v 13 2).toInt) ∧ x1.toInt = 1 → (r_5 = v (30 + 15 * x0.toNatClampNeg) 1) ∧ v = v) ∧ ((0 ≤ x0.toInt ∧ x0.toInt < (v 13 2).toInt) ∧ x1.toInt = 2 → (r_5 = v (29 + 15 * x0.toNatClampNeg) 0) ∧ v = v) ∧ ((0 ≤ x0.toInt ∧ x0.toInt < (v 13 2).toInt) ∧ x1.toInt = 3 → (((v (29 + 15 * x0.toNatClampNeg) 0).toInt = 1 → r_5 = v (29 + 15 * x0.toNatClampNeg) 1) ∧ ((v (29 + 15 * x0.toNatClampNeg) 0).toInt ≠ 1 → r_5 = -5)) ∧ v = v) ∧ ((0 ≤ x0.toInt ∧ x0.toInt < (v 13 2).toInt) ∧ x1.toInt = 4 → (r_5 = v (29 + 15 * x0.toNatClampNeg) 2) ∧ v = v) ∧ ((0 ≤ x0.toInt ∧ x0.toInt < (v 13 2).toInt) ∧ x1.toInt = 5 → (r_5.toInt = ((hF (qB (fun c => v (29 + 15 * c) 4) (v 13 2).toNatClampNeg x0) x0.toNatClampNeg : Nat) : Int)) ∧ v = v) ∧ ((0 ≤ x0.toInt ∧ x0.toInt < (v 13 2).toInt) ∧ x1.toInt = 6 → (r_5 = bcF (qB (fun c => v (29 + 15 * c) 4) (v 13 2).toNatClampNeg x0)) ∧ v = v) ∧ ((0 ≤ x0.toInt ∧ x0.toInt < (v 13 2).toInt) ∧ x1.toInt = 7 → (r_5 = v (29 + 15 * x0.toNatClampNeg) 3) ∧ v = v) ∧ ((0 ≤ x0.toInt ∧ x0.toInt < (v 13 2).toInt) ∧ (x1.toInt < 0 ∨ 7 < x1.toInt) → (r_5 = -1) ∧ v = v) := by
        refine ⟨fun hq => ?_, fun hq => ?_, fun hq => ?_, fun hq => ?_, fun hq => ?_, fun hq => ?_, fun hq => ?_, fun hq => ?_, fun hq => ?_, fun hq => ?_⟩
        · exfalso; omega
        · exfalso; omega
        · exfalso; omega
        · exfalso; omega
        · exfalso; omega
        · exfalso; omega
        · exfalso; omega
        · exact ⟨by rw [hw_5, hw_4], rfl⟩
        · exfalso; omega
        · exfalso; omega
      exact W.iret (v := r_5) hx hb hr (fun t ht hW => ⟨⟨r_5, v, rfl, ⟨hv, hpost⟩, by rw [ht]; exact hP, hD⟩, hS.F ht⟩) hS.2.2 dX7_of_130
    · refine lv_tableIn (off := 110) (tgt := 131) hx hb dX7_of_21 (by rw [hsw]; decide) (by rw [hsw]; decide) (by rw [hsw]; decide) (by decide) ?_
      have k_7 : (7 : Int32).toInt = 7 := by decide
      have tsw : x1.toInt = 7 := by rw [hsw]; decide
      refine lv_aload_n hx hb dX7_of_131 rfl (lv_at hl 0 rfl) ?_
      refine va_get (D := (dC, dI)) (ci := 0) (v := .int (v (29 + 15 * x0.toNatClampNeg) 3)) (C := RX0) (T := TX0) (N := 11) hx hb hts (by decide +kernel) hown hK hP (29 + 15 * x0.toNatClampNeg) (wl_at (by omega) (ce_9 (kd_c _ hx_3).1.1)) rfl 3 (by decide) (hts (.fieldLink RX7 102 "QuietStairs$Case" "weight" "I") (by decide +kernel)) (fun _ h9 => h9) rfl dX7_of_132 ?_
      refine lv_topi (fun x_4 ex_4 => ?_)
      have qx_4 : x_4.toInt = (v (29 + 15 * x0.toNatClampNeg) (3)).toInt := congrArg Int32.toInt ex_4
      have hpost : (¬ (0 ≤ x0.toInt ∧ x0.toInt < (v 13 2).toInt) → (x_4 = -1) ∧ v = v) ∧ ((0 ≤ x0.toInt ∧ x0.toInt < (v 13 2).toInt) ∧ x1.toInt = 0 → (x_4 = v (30 + 15 * x0.toNatClampNeg) 0) ∧ v = v) ∧ ((0 ≤ x0.toInt ∧ x0.toInt < (v 13 2).toInt) ∧ x1.toInt = 1 → (x_4 = v (30 + 15 * x0.toNatClampNeg) 1) ∧ v = v) ∧ ((0 ≤ x0.toInt ∧ x0.toInt < (v 13 2).toInt) ∧ x1.toInt = 2 → (x_4 = v (29 + 15 * x0.toNatClampNeg) 0) ∧ v = v) ∧ ((0 ≤ x0.toInt ∧ x0.toInt < (v 13 2).toInt) ∧ x1.toInt = 3 → (((v (29 + 15 * x0.toNatClampNeg) 0).toInt = 1 → x_4 = v (29 + 15 * x0.toNatClampNeg) 1) ∧ ((v (29 + 15 * x0.toNatClampNeg) 0).toInt ≠ 1 → x_4 = -5)) ∧ v = v) ∧ ((0 ≤ x0.toInt ∧ x0.toInt < (v 13 2).toInt) ∧ x1.toInt = 4 → (x_4 = v (29 + 15 * x0.toNatClampNeg) 2) ∧ v = v) ∧ ((0 ≤ x0.toInt ∧ x0.toInt < (v 13 2).toInt) ∧ x1.toInt = 5 → (x_4.toInt = ((hF (qB (fun c => v (29 + 15 * c) 4) (v 13 2).toNatClampNeg x0) x0.toNatClampNeg : Nat) : Int)) ∧ v = v) ∧ ((0 ≤ x0.toInt ∧ x0.toInt < (v 13 2).toInt) ∧ x1.toInt = 6 → (x_4 = bcF (qB (fun c => v (29 + 15 * c) 4) (v 13 2).toNatClampNeg x0)) ∧ v = v) ∧ ((0 ≤ x0.toInt ∧ x0.toInt < (v 13 2).toInt) ∧ x1.toInt = 7 → (x_4 = v (29 + 15 * x0.toNatClampNeg) 3) ∧ v = v) ∧ ((0 ≤ x0.toInt ∧ x0.toInt < (v 13 2).toInt) ∧ (x1.toInt < 0 ∨ 7 < x1.toInt) → (x_4 = -1) ∧ v = v) := by
        refine ⟨fun hq => ?_, fun hq => ?_, fun hq => ?_, fun hq => ?_, fun hq => ?_, fun hq => ?_, fun hq => ?_, fun hq => ?_, fun hq => ?_, fun hq => ?_⟩
        · exfalso; omega
        · exfalso; omega
        · exfalso; omega
        · exfalso; omega
        · exfalso; omega
        · exfalso; omega
        · exfalso; omega
        · exfalso; omega
        · exact ⟨by rw [ex_4], rfl⟩
        · exfalso; omega
      exact W.iret (v := x_4) hx hb hr (fun t ht hW => ⟨⟨x_4, v, rfl, ⟨hv, hpost⟩, by rw [ht]; exact hP, hD⟩, hS.F ht⟩) hS.2.2 dX7_of_135
  · refine lv_if_ne (tgt := 10) hx hb dX7_of_5 (by decide) (fun c9 => absurd c9 (by decide)) (fun _ => ?_)
    refine lv_iconst (v := (-1)) hx hb dX7_of_8 (by decide) ?_
    have hpost : (¬ (0 ≤ x0.toInt ∧ x0.toInt < (v 13 2).toInt) → (((-1) : Int32) = -1) ∧ v = v) ∧ ((0 ≤ x0.toInt ∧ x0.toInt < (v 13 2).toInt) ∧ x1.toInt = 0 → (((-1) : Int32) = v (30 + 15 * x0.toNatClampNeg) 0) ∧ v = v) ∧ ((0 ≤ x0.toInt ∧ x0.toInt < (v 13 2).toInt) ∧ x1.toInt = 1 → (((-1) : Int32) = v (30 + 15 * x0.toNatClampNeg) 1) ∧ v = v) ∧ ((0 ≤ x0.toInt ∧ x0.toInt < (v 13 2).toInt) ∧ x1.toInt = 2 → (((-1) : Int32) = v (29 + 15 * x0.toNatClampNeg) 0) ∧ v = v) ∧ ((0 ≤ x0.toInt ∧ x0.toInt < (v 13 2).toInt) ∧ x1.toInt = 3 → (((v (29 + 15 * x0.toNatClampNeg) 0).toInt = 1 → ((-1) : Int32) = v (29 + 15 * x0.toNatClampNeg) 1) ∧ ((v (29 + 15 * x0.toNatClampNeg) 0).toInt ≠ 1 → ((-1) : Int32) = -5)) ∧ v = v) ∧ ((0 ≤ x0.toInt ∧ x0.toInt < (v 13 2).toInt) ∧ x1.toInt = 4 → (((-1) : Int32) = v (29 + 15 * x0.toNatClampNeg) 2) ∧ v = v) ∧ ((0 ≤ x0.toInt ∧ x0.toInt < (v 13 2).toInt) ∧ x1.toInt = 5 → (((-1) : Int32).toInt = ((hF (qB (fun c => v (29 + 15 * c) 4) (v 13 2).toNatClampNeg x0) x0.toNatClampNeg : Nat) : Int)) ∧ v = v) ∧ ((0 ≤ x0.toInt ∧ x0.toInt < (v 13 2).toInt) ∧ x1.toInt = 6 → (((-1) : Int32) = bcF (qB (fun c => v (29 + 15 * c) 4) (v 13 2).toNatClampNeg x0)) ∧ v = v) ∧ ((0 ≤ x0.toInt ∧ x0.toInt < (v 13 2).toInt) ∧ x1.toInt = 7 → (((-1) : Int32) = v (29 + 15 * x0.toNatClampNeg) 3) ∧ v = v) ∧ ((0 ≤ x0.toInt ∧ x0.toInt < (v 13 2).toInt) ∧ (x1.toInt < 0 ∨ 7 < x1.toInt) → (((-1) : Int32) = -1) ∧ v = v) := by
      refine ⟨fun hq => ?_, fun hq => ?_, fun hq => ?_, fun hq => ?_, fun hq => ?_, fun hq => ?_, fun hq => ?_, fun hq => ?_, fun hq => ?_, fun hq => ?_⟩
      · exact ⟨rfl, rfl⟩
      · exfalso; omega
      · exfalso; omega
      · exfalso; omega
      · exfalso; omega
      · exfalso; omega
      · exfalso; omega
      · exfalso; omega
      · exfalso; omega
      · exfalso; omega
    exact W.iret (v := (-1)) hx hb hr (fun t ht hW => ⟨⟨(-1), v, rfl, ⟨hv, hpost⟩, by rw [ht]; exact hP, hD⟩, hS.F ht⟩) hS.2.2 dX7_of_9

set_option maxHeartbeats 4000000 in
set_option maxRecDepth 100000 in
theorem e_X8_findHeads (l : Launch) (dC : Nat → ClassId) (dI : Nat → Nat → Nat) (cy : Nat → ClassId) (sz : Nat) (ad : Nat → Nat) (v : Nat → Nat → Int32) (hv : Ir v) (hG : MG (v 1)) : Met l yX8_findHeads wsX8_findHeads ({ frames := 0, cells := 0, slots := 0, locals := 0 }) (va_Pc [.ref (ad 0)] (ex_Pre dC dI cy sz (wm ad cy v))) (va_Qv (fun (u : Nat → Nat → Int32) => Ir u ∧ Fq v u ∧ HD (v 1) (u 3)) (fun u t => ex_Pst dC dI (va_A (wm ad cy v) sz) (wm ad cy u) t) (va_A (wm ad cy v) sz)) 0 0 (va_A (wm ad cy v) sz) := by
  refine Met.ofW (cc := cX8_findHeads) (maxL := 6) (ret := none) (by decide) rfl ?_
  intro p e s m args below meth c s₁ B hml hv
  obtain ⟨rfl, hsz, hE, hP, hK, hD0⟩ := hv
  have hx := B.exec
  have hb := B.bytes
  have hr := B.returns
  have hts := atoms_spec (ws := wsX8_findHeads) B.pre
  have hown : s.vm.findClass RX8 = some m.cls := findClass_of_methodNamed B.named
  have hlocks := B.notSynchronized
  subst hsz
  have hD := hD0.self (sz := s.heap.size)
  generalize hAe : va_A (wm ad cy v) s.heap.size = A at hD ⊢
  have hA : ∀ q : Nat, s.heap.size ≤ q → A q := fun q h => by rw [← hAe]; exact Or.inr h
  have hS : va_S A s.heap s.heap [] := va_S.rf
  have hP : va_P (dC, dI) vwCl (wm ad cy v) s.heap := hP
  have hl := lv_entry ([.ref (ad 0)]) (n := 6) (Nat.le_of_ble_eq_true rfl)
  rw [lg_entry_eq]
  generalize (lg_sl ([.ref (ad 0)]) ++ List.replicate (6 - (lg_sl ([.ref (ad 0)])).length) Slot.unset).toArray = ls at hl ⊢
  have hl : lv_has ls 6 [(0, .ref (ad 0))] := hl
  have hfr : Fq v v := Fq.rf
  refine lv_iconst (v := 0) hx hb dX8_findHeads_0 (by decide) ?_
  refine lv_istore_n (lv' := [(1, .int 0), (0, .ref (ad 0))]) hx hb dX8_findHeads_1 rfl hl (by decide) rfl (fun ls hl => ?_)
  have hc_1 : ∀ (n : Nat) (y1_1 : Int32) (u1 : Nat → Nat → Int32) (H : Heap) (locs : List Loc), 0 ≤ y1_1.toInt → y1_1.toInt ≤ 6 → (HI (v 1) (u1 3) y1_1.toInt) → (6 - y1_1.toInt).toNat < n → Ir u1 → Fq v u1 → va_P (dC, dI) vwCl (wm ad cy u1) H → va_D A (wm ad cy u1) → va_S A s.heap H locs → ∀ ls : Array Slot, lv_has ls 6 [(1, .int y1_1), (0, .ref (ad 0))] → W p l e (headSpec wsX8_findHeads ({ frames := 0, cells := 0, slots := 0, locals := 0 })).room s m [Value.ref (ad 0)].toArray below meth c H locs 0 0 (MQ below (va_Qv (fun (u : Nat → Nat → Int32) => Ir u ∧ Fq v u ∧ HD (v 1) (u 3)) (fun u t => ex_Pst dC dI A (wm ad cy u) t) A) [Value.ref (ad 0)].toArray s 0 0 A) (F0 m 2 ls []) := by
    intro n
    induction n with
    | zero =>
      intro y1_1 u1 H locs ay1_1 by1_1 hi1_0 hm_1 hv hfr hP hD hS ls hl
      exact absurd hm_1 (by omega)
    | succ n ih_1 =>
      intro y1_1 u1 H locs ay1_1 by1_1 hi1_0 hm_1 hv hfr hP hD hS ls hl
      refine lv_iload_n hx hb dX8_findHeads_2 rfl (lv_at hl 0 rfl) ?_
      refine lv_aload_n hx hb dX8_findHeads_3 rfl (lv_at hl 1 rfl) ?_
      refine va_get (D := (dC, dI)) (ci := 8) (v := .ref (ad 1)) (C := RX8) (T := TX8) (N := 11) hx hb hts (by decide +kernel) hown hK hP (0) (wm_at (by decide) rc_0) rfl 0 (by decide) (hts (.fieldLink RX8 7 "QuietStairsModel" "s" "[I") (by decide +kernel)) (fun _ h9 => h9) rfl dX8_findHeads_4 ?_
      refine lv_iconst (v := 2) hx hb dX8_findHeads_7 (by decide) ?_
      have k_2 : (2 : Int32).toInt = 2 := by decide
      refine va_iald hx hb hK hP (1) 0 (wm_at (by decide) rc_1) rfl (by unfold vp_in; decide) dX8_findHeads_8 ?_
      refine lv_topi (fun x_2 ex_2 => ?_)
      have ex_2 : x_2 = u1 1 2 := ex_2
      have bzx_2 : 0 ≤ x_2.toInt ∧ x_2.toInt ≤ 6 := by rw [ex_2]; exact hv 1 _ 6 (show bS 2 = some 6 from by decide)
      have qx_2 : x_2.toInt = (u1 1 (2)).toInt := congrArg Int32.toInt ex_2
      have hs_x_2 : x_2.toInt = (v 1 2).toInt := by rw [ex_2, hfr.1]
      refine lv_icmp_ge (tgt := 25) hx hb dX8_findHeads_9 (by decide) (fun c_3 => ?_) (fun c_3 => ?_)
      · have tc_3 : y1_1.toInt ≥ x_2.toInt := Int32.le_iff_toInt_le.mp c_3
        refine lv_iconst (v := 1) hx hb dX8_findHeads_25 (by decide) ?_
        refine lv_istore_n (lv' := [(1, .int 1), (0, .ref (ad 0))]) hx hb dX8_findHeads_26 rfl hl (by decide) rfl (fun ls hl => ?_)
        have hc_4 : ∀ (n : Nat) (y4_1 : Int32) (u4 : Nat → Nat → Int32) (H : Heap) (locs : List Loc), 0 ≤ y4_1.toInt → y4_1.toInt ≤ 1 → (HI (v 1) (u4 3) (v 1 2).toInt) → (y4_1.toInt = 0 → ∀ k : Nat, (k : Int) < (v 1 3).toInt → ME_ (v 1) (u4 3) k) → (hs (u4 3)).toNat + y4_1.toInt.toNat < n → Ir u4 → Fq v u4 → va_P (dC, dI) vwCl (wm ad cy u4) H → va_D A (wm ad cy u4) → va_S A s.heap H locs → ∀ ls : Array Slot, lv_has ls 6 [(1, .int y4_1), (0, .ref (ad 0))] → W p l e (headSpec wsX8_findHeads ({ frames := 0, cells := 0, slots := 0, locals := 0 })).room s m [Value.ref (ad 0)].toArray below meth c H locs 0 0 (MQ below (va_Qv (fun (u : Nat → Nat → Int32) => Ir u ∧ Fq v u ∧ HD (v 1) (u 3)) (fun u t => ex_Pst dC dI A (wm ad cy u) t) A) [Value.ref (ad 0)].toArray s 0 0 A) (F0 m 27 ls []) := by
          intro n
          induction n with
          | zero =>
            intro y4_1 u4 H locs ay4_1 by4_1 hi4_0 hi4_1 hm_4 hv hfr hP hD hS ls hl
            exact absurd hm_4 (by omega)
          | succ n ih_4 =>
            intro y4_1 u4 H locs ay4_1 by4_1 hi4_0 hi4_1 hm_4 hv hfr hP hD hS ls hl
            refine lv_iload_n hx hb dX8_findHeads_27 rfl (lv_at hl 0 rfl) ?_
            have k_0 : (0 : Int32).toInt = 0 := by decide
            refine lv_if_eq (tgt := 152) hx hb dX8_findHeads_28 (by decide) (fun c_5 => ?_) (fun c_5 => ?_)
            · have tc_5 : y4_1.toInt = (0 : Int32).toInt := by rw [c_5]
              exact W.vret hx hb hr (fun t ht hW => ⟨⟨u4, rfl, ⟨hv, hfr, hi4_0, hi4_1 (by omega)⟩, by rw [ht]; exact hP, hD⟩, hS.F ht⟩) hS.2.2 dX8_findHeads_152
            · have tc_5 : y4_1.toInt ≠ (0 : Int32).toInt := fun q => absurd (Int32.toInt_inj.mp q) c_5
              refine lv_iconst (v := 0) hx hb dX8_findHeads_31 (by decide) ?_
              refine lv_istore_n (lv' := [(1, .int 0), (0, .ref (ad 0))]) hx hb dX8_findHeads_32 rfl hl (by decide) rfl (fun ls hl => ?_)
              refine lv_iconst (v := 0) hx hb dX8_findHeads_33 (by decide) ?_
              refine lv_istore_n (lv' := [(2, .int 0), (1, .int 0), (0, .ref (ad 0))]) hx hb dX8_findHeads_34 rfl hl (by decide) rfl (fun ls hl => ?_)
              have hc_6 : ∀ (n : Nat) (y6_1 y6_2 : Int32) (u6 : Nat → Nat → Int32) (H : Heap) (locs : List Loc), 0 ≤ y6_1.toInt → y6_1.toInt ≤ 1 → 0 ≤ y6_2.toInt → y6_2.toInt ≤ 6 → (hs (u6 3) + y6_1.toInt ≤ hs (u4 3)) → (HI (v 1) (u6 3) (v 1 2).toInt) → (y6_1.toInt = 0 → ∀ k : Nat, (k : Int) < y6_2.toInt → ME_ (v 1) (u6 3) k) → (6 - y6_2.toInt).toNat < n → Ir u6 → Fq v u6 → va_P (dC, dI) vwCl (wm ad cy u6) H → va_D A (wm ad cy u6) → va_S A s.heap H locs → ∀ ls : Array Slot, lv_has ls 6 [(2, .int y6_2), (1, .int y6_1), (0, .ref (ad 0))] → W p l e (headSpec wsX8_findHeads ({ frames := 0, cells := 0, slots := 0, locals := 0 })).room s m [Value.ref (ad 0)].toArray below meth c H locs 0 0 (MQ below (va_Qv (fun (u : Nat → Nat → Int32) => Ir u ∧ Fq v u ∧ HD (v 1) (u 3)) (fun u t => ex_Pst dC dI A (wm ad cy u) t) A) [Value.ref (ad 0)].toArray s 0 0 A) (F0 m 35 ls []) := by
                intro n
                induction n with
                | zero =>
                  intro y6_1 y6_2 u6 H locs ay6_1 by6_1 ay6_2 by6_2 hi6_0 hi6_1 hi6_2 hm_6 hv hfr hP hD hS ls hl
                  exact absurd hm_6 (by omega)
                | succ n ih_6 =>
                  intro y6_1 y6_2 u6 H locs ay6_1 by6_1 ay6_2 by6_2 hi6_0 hi6_1 hi6_2 hm_6 hv hfr hP hD hS ls hl
                  refine lv_iload_n hx hb dX8_findHeads_35 rfl (lv_at hl 0 rfl) ?_
                  refine lv_aload_n hx hb dX8_findHeads_36 rfl (lv_at hl 2 rfl) ?_
                  refine va_get (D := (dC, dI)) (ci := 8) (v := .ref (ad 1)) (C := RX8) (T := TX8) (N := 11) hx hb hts (by decide +kernel) hown hK hP (0) (wm_at (by decide) rc_0) rfl 0 (by decide) (hts (.fieldLink RX8 7 "QuietStairsModel" "s" "[I") (by decide +kernel)) (fun _ h9 => h9) rfl dX8_findHeads_37 ?_
                  refine lv_iconst (v := 3) hx hb dX8_findHeads_40 (by decide) ?_
                  have k_3 : (3 : Int32).toInt = 3 := by decide
                  refine va_iald hx hb hK hP (1) 0 (wm_at (by decide) rc_1) rfl (by unfold vp_in; decide) dX8_findHeads_41 ?_
                  refine lv_topi (fun x_7 ex_7 => ?_)
                  have ex_7 : x_7 = u6 1 3 := ex_7
                  have bzx_7 : 0 ≤ x_7.toInt ∧ x_7.toInt ≤ 6 := by rw [ex_7]; exact hv 1 _ 6 (show bS 3 = some 6 from by decide)
                  have qx_7 : x_7.toInt = (u6 1 (3)).toInt := congrArg Int32.toInt ex_7
                  have hs_x_7 : x_7.toInt = (v 1 3).toInt := by rw [ex_7, hfr.1]
                  refine lv_icmp_ge (tgt := 149) hx hb dX8_findHeads_42 (by decide) (fun c_8 => ?_) (fun c_8 => ?_)
                  · have tc_8 : y6_2.toInt ≥ x_7.toInt := Int32.le_iff_toInt_le.mp c_8
                    refine lv_goto (tgt := 27) hx hb dX8_findHeads_149 (by decide) ?_
                    exact ih_4 y6_1 u6 _ _ (by omega) (by omega) (hi6_1) (fun q k hk => hi6_2 q k (by omega)) (by have z1 := hs_nn hv; omega) hv hfr hP hD hS ls (lv_sub hl [1, 2] rfl)
                  · have tc_8 : y6_2.toInt < x_7.toInt := Int32.lt_iff_toInt_lt.mp (Int32.not_le.mp c_8)
                    refine lv_aload_n hx hb dX8_findHeads_45 rfl (lv_at hl 2 rfl) ?_
                    refine va_get (D := (dC, dI)) (ci := 8) (v := .ref (ad 1)) (C := RX8) (T := TX8) (N := 11) hx hb hts (by decide +kernel) hown hK hP (0) (wm_at (by decide) rc_0) rfl 0 (by decide) (hts (.fieldLink RX8 7 "QuietStairsModel" "s" "[I") (by decide +kernel)) (fun _ h9 => h9) rfl dX8_findHeads_46 ?_
                    refine lv_sipush (v := 146) hx hb dX8_findHeads_49 (by decide) ?_
                    refine lv_iconst (v := 2) hx hb dX8_findHeads_52 (by decide) ?_
                    refine lv_iload_n hx hb dX8_findHeads_53 rfl (lv_at hl 0 rfl) ?_
                    refine lv_imul hx hb dX8_findHeads_54 ?_
                    refine lv_topi (fun x_9 ex_9 => ?_)
                    have tx_9 : x_9.toInt = 2 * y6_2.toInt := by rw [ex_9, t_mul (by rw [k_2]; omega), k_2]
                    refine lv_iadd hx hb dX8_findHeads_55 ?_
                    refine lv_topi (fun x_10 ex_10 => ?_)
                    have k_146 : (146 : Int32).toInt = 146 := by decide
                    have tx_10 : x_10.toInt = (146 : Int32).toInt + x_9.toInt := by rw [ex_10]; exact t_add ⟨by omega, by omega⟩
                    have zn_y6_2 : (y6_2.toNatClampNeg : Int) = y6_2.toInt := t_nn (by omega)
                    have nx_10 : x_10.toNatClampNeg = 146 + 2 * y6_2.toNatClampNeg := by have z1 := t_nn (x := x_10) (by omega); omega
                    refine va_iald hx hb hK hP (1) 0 (wm_at (by decide) rc_1) rfl (vp_in_iff.mpr ⟨by omega, by omega⟩) dX8_findHeads_56 ?_
                    refine lv_topi (fun x_11 ex_11 => ?_)
                    have bzx_11 : 0 ≤ x_11.toInt ∧ x_11.toInt ≤ 5 := by rw [ex_11]; exact hv 1 _ 5 (bx_m ⟨by omega, by omega⟩)
                    rw [nx_10] at ex_11
                    have qx_11 : x_11.toInt = (u6 1 (146 + 2 * y6_2.toNatClampNeg)).toInt := congrArg Int32.toInt ex_11
                    have ha_x_11 : x_11 = v 1 (146 + 2 * y6_2.toNatClampNeg) := by rw [ex_11, hfr.1]
                    refine lv_istore_n (lv' := [(3, .int x_11), (2, .int y6_2), (1, .int y6_1), (0, .ref (ad 0))]) hx hb dX8_findHeads_57 rfl hl (by decide) rfl (fun ls hl => ?_)
                    refine lv_aload_n hx hb dX8_findHeads_58 rfl (lv_at hl 3 rfl) ?_
                    refine va_get (D := (dC, dI)) (ci := 8) (v := .ref (ad 1)) (C := RX8) (T := TX8) (N := 11) hx hb hts (by decide +kernel) hown hK hP (0) (wm_at (by decide) rc_0) rfl 0 (by decide) (hts (.fieldLink RX8 7 "QuietStairsModel" "s" "[I") (by decide +kernel)) (fun _ h9 => h9) rfl dX8_findHeads_59 ?_
                    refine lv_sipush (v := 146) hx hb dX8_findHeads_62 (by decide) ?_
                    refine lv_iconst (v := 2) hx hb dX8_findHeads_65 (by decide) ?_
                    refine lv_iload_n hx hb dX8_findHeads_66 rfl (lv_at hl 1 rfl) ?_
                    refine lv_imul hx hb dX8_findHeads_67 ?_
                    refine lv_topi (fun x_12 ex_12 => ?_)
                    obtain rfl : x_9 = x_12 := ex_9.trans ex_12.symm
                    refine lv_iadd hx hb dX8_findHeads_68 ?_
                    refine lv_topi (fun x_13 ex_13 => ?_)
                    obtain rfl : x_10 = x_13 := ex_10.trans ex_13.symm
                    refine lv_iconst (v := 1) hx hb dX8_findHeads_69 (by decide) ?_
                    refine lv_iadd hx hb dX8_findHeads_70 ?_
                    refine lv_topi (fun x_14 ex_14 => ?_)
                    have k_1 : (1 : Int32).toInt = 1 := by decide
                    have tx_14 : x_14.toInt = x_10.toInt + (1 : Int32).toInt := by rw [ex_14]; exact t_add ⟨by omega, by omega⟩
                    have nx_14 : x_14.toNatClampNeg = 147 + 2 * y6_2.toNatClampNeg := by have z1 := t_nn (x := x_14) (by omega); omega
                    refine va_iald hx hb hK hP (1) 0 (wm_at (by decide) rc_1) rfl (vp_in_iff.mpr ⟨by omega, by omega⟩) dX8_findHeads_71 ?_
                    refine lv_topi (fun x_15 ex_15 => ?_)
                    have bzx_15 : 0 ≤ x_15.toInt ∧ x_15.toInt ≤ 5 := by rw [ex_15]; exact hv 1 _ 5 (bx_m ⟨by omega, by omega⟩)
                    rw [nx_14] at ex_15
                    have qx_15 : x_15.toInt = (u6 1 (147 + 2 * y6_2.toNatClampNeg)).toInt := congrArg Int32.toInt ex_15
                    have ha_x_15 : x_15 = v 1 (147 + 2 * y6_2.toNatClampNeg) := by rw [ex_15, hfr.1]
                    have hg9 := hG y6_2.toNatClampNeg (by omega)
                    rw [← ha_x_11, ← ha_x_15] at hg9
                    have had : adj (v 1) x_11.toNatClampNeg x_15.toNatClampNeg := ⟨y6_2.toNatClampNeg, by omega, Or.inl ⟨by rw [← ha_x_11]; exact (t_nn hg9.1.1).symm, by rw [← ha_x_15]; exact (t_nn hg9.2.1).symm⟩⟩
                    refine lv_istore (lv' := [(4, .int x_15), (3, .int x_11), (2, .int y6_2), (1, .int y6_1), (0, .ref (ad 0))]) hx hb dX8_findHeads_72 hl (by decide) rfl (fun ls hl => ?_)
                    refine lv_aload_n hx hb dX8_findHeads_74 rfl (lv_at hl 4 rfl) ?_
                    refine va_get (D := (dC, dI)) (ci := 8) (v := .ref (ad 3)) (C := RX8) (T := TX8) (N := 11) hx hb hts (by decide +kernel) hown hK hP (0) (wm_at (by decide) rc_0) rfl 4 (by decide) (hts (.fieldLink RX8 20 "QuietStairsModel" "headOf" "[I") (by decide +kernel)) (fun _ h9 => h9) rfl dX8_findHeads_75 ?_
                    refine lv_iload_n hx hb dX8_findHeads_78 rfl (lv_at hl 1 rfl) ?_
                    have zn_x_11 : (x_11.toNatClampNeg : Int) = x_11.toInt := t_nn (by omega)
                    refine va_iald hx hb hK hP (3) 0 (wm_at (by decide) rc_3) rfl (vp_in_iff.mpr ⟨by omega, by omega⟩) dX8_findHeads_79 ?_
                    refine lv_topi (fun x_16 ex_16 => ?_)
                    have bzx_16 : 0 ≤ x_16.toInt ∧ x_16.toInt ≤ 5 := by rw [ex_16]; exact hv 3 _ 5 rfl
                    have qx_16 : x_16.toInt = (u6 3 (x_11.toNatClampNeg)).toInt := congrArg Int32.toInt ex_16
                    refine lv_aload_n hx hb dX8_findHeads_80 rfl (lv_at hl 4 rfl) ?_
                    refine va_get (D := (dC, dI)) (ci := 8) (v := .ref (ad 3)) (C := RX8) (T := TX8) (N := 11) hx hb hts (by decide +kernel) hown hK hP (0) (wm_at (by decide) rc_0) rfl 4 (by decide) (hts (.fieldLink RX8 20 "QuietStairsModel" "headOf" "[I") (by decide +kernel)) (fun _ h9 => h9) rfl dX8_findHeads_81 ?_
                    refine lv_iload hx hb dX8_findHeads_84 (lv_at hl 0 rfl) ?_
                    have zn_x_15 : (x_15.toNatClampNeg : Int) = x_15.toInt := t_nn (by omega)
                    refine va_iald hx hb hK hP (3) 0 (wm_at (by decide) rc_3) rfl (vp_in_iff.mpr ⟨by omega, by omega⟩) dX8_findHeads_86 ?_
                    refine lv_topi (fun x_17 ex_17 => ?_)
                    have bzx_17 : 0 ≤ x_17.toInt ∧ x_17.toInt ≤ 5 := by rw [ex_17]; exact hv 3 _ 5 rfl
                    have qx_17 : x_17.toInt = (u6 3 (x_15.toNatClampNeg)).toInt := congrArg Int32.toInt ex_17
                    refine lv_icmp_eq (tgt := 143) hx hb dX8_findHeads_87 (by decide) (fun c_18 => ?_) (fun c_18 => ?_)
                    · have tc_18 : x_16.toInt = x_17.toInt := by rw [c_18]
                      obtain ⟨x_19, ex_19⟩ : ∃ y : Int32, y = y6_2 + 1 := ⟨_, rfl⟩
                      refine lv_iinc (v := x_19) (lv' := [(2, .int x_19), (4, .int x_15), (3, .int x_11), (1, .int y6_1), (0, .ref (ad 0))]) hx hb dX8_findHeads_143 hl (k := 2) rfl (by rw [ex_19]; rfl) (by decide) rfl (fun ls hl => ?_)
                      have tx_19 : x_19.toInt = y6_2.toInt + (1 : Int32).toInt := by rw [ex_19]; exact t_add ⟨by omega, by omega⟩
                      refine lv_goto (tgt := 35) hx hb dX8_findHeads_146 (by decide) ?_
                      exact ih_6 y6_1 x_19 u6 _ _ (by omega) (by omega) (by omega) (by omega) (hi6_0) (hi6_1) (fun q0 k hk => by by_cases e : (k : Int) < y6_2.toInt; exact hi6_2 q0 k e; rw [show k = y6_2.toNatClampNeg from by omega]; unfold ME_; rw [← ha_x_11, ← ha_x_15, ← ex_16, ← ex_17]; exact Int32.toInt_inj.mp (by omega)) (by omega) hv hfr hP hD hS ls (lv_sub hl [0, 3, 4] rfl)
                    · have tc_18 : x_16.toInt ≠ x_17.toInt := fun q => absurd (Int32.toInt_inj.mp q) c_18
                      refine lv_aload_n hx hb dX8_findHeads_90 rfl (lv_at hl 4 rfl) ?_
                      refine va_get (D := (dC, dI)) (ci := 8) (v := .ref (ad 3)) (C := RX8) (T := TX8) (N := 11) hx hb hts (by decide +kernel) hown hK hP (0) (wm_at (by decide) rc_0) rfl 4 (by decide) (hts (.fieldLink RX8 20 "QuietStairsModel" "headOf" "[I") (by decide +kernel)) (fun _ h9 => h9) rfl dX8_findHeads_91 ?_
                      refine lv_iload_n hx hb dX8_findHeads_94 rfl (lv_at hl 1 rfl) ?_
                      refine va_iald hx hb hK hP (3) 0 (wm_at (by decide) rc_3) rfl (vp_in_iff.mpr ⟨by omega, by omega⟩) dX8_findHeads_95 ?_
                      refine lv_topi (fun x_19 ex_19 => ?_)
                      have bzx_19 : 0 ≤ x_19.toInt ∧ x_19.toInt ≤ 5 := by rw [ex_19]; exact hv 3 _ 5 rfl
                      obtain rfl : x_16 = x_19 := (ex_19.trans ex_16.symm).symm
                      refine lv_aload_n hx hb dX8_findHeads_96 rfl (lv_at hl 4 rfl) ?_
                      refine va_get (D := (dC, dI)) (ci := 8) (v := .ref (ad 3)) (C := RX8) (T := TX8) (N := 11) hx hb hts (by decide +kernel) hown hK hP (0) (wm_at (by decide) rc_0) rfl 4 (by decide) (hts (.fieldLink RX8 20 "QuietStairsModel" "headOf" "[I") (by decide +kernel)) (fun _ h9 => h9) rfl dX8_findHeads_97 ?_
                      refine lv_iload hx hb dX8_findHeads_100 (lv_at hl 0 rfl) ?_
                      refine va_iald hx hb hK hP (3) 0 (wm_at (by decide) rc_3) rfl (vp_in_iff.mpr ⟨by omega, by omega⟩) dX8_findHeads_102 ?_
                      refine lv_topi (fun x_20 ex_20 => ?_)
                      have bzx_20 : 0 ≤ x_20.toInt ∧ x_20.toInt ≤ 5 := by rw [ex_20]; exact hv 3 _ 5 rfl
                      obtain rfl : x_17 = x_20 := (ex_20.trans ex_17.symm).symm
                      refine lv_icmp_ge (tgt := 115) hx hb dX8_findHeads_103 (by decide) (fun c_21 => ?_) (fun c_21 => ?_)
                      · have tc_21 : x_16.toInt ≥ x_17.toInt := Int32.le_iff_toInt_le.mp c_21
                        refine lv_aload_n hx hb dX8_findHeads_115 rfl (lv_at hl 4 rfl) ?_
                        refine va_get (D := (dC, dI)) (ci := 8) (v := .ref (ad 3)) (C := RX8) (T := TX8) (N := 11) hx hb hts (by decide +kernel) hown hK hP (0) (wm_at (by decide) rc_0) rfl 4 (by decide) (hts (.fieldLink RX8 20 "QuietStairsModel" "headOf" "[I") (by decide +kernel)) (fun _ h9 => h9) rfl dX8_findHeads_116 ?_
                        refine lv_iload hx hb dX8_findHeads_119 (lv_at hl 0 rfl) ?_
                        refine va_iald hx hb hK hP (3) 0 (wm_at (by decide) rc_3) rfl (vp_in_iff.mpr ⟨by omega, by omega⟩) dX8_findHeads_121 ?_
                        refine lv_topi (fun x_22 ex_22 => ?_)
                        have bzx_22 : 0 ≤ x_22.toInt ∧ x_22.toInt ≤ 5 := by rw [ex_22]; exact hv 3 _ 5 rfl
                        obtain rfl : x_17 = x_22 := (ex_22.trans ex_17.symm).symm
                        refine lv_istore (lv' := [(5, .int x_17), (4, .int x_15), (3, .int x_11), (2, .int y6_2), (1, .int y6_1), (0, .ref (ad 0))]) hx hb dX8_findHeads_122 hl (by decide) rfl (fun ls hl => ?_)
                        refine lv_aload_n hx hb dX8_findHeads_124 rfl (lv_at hl 5 rfl) ?_
                        refine va_get (D := (dC, dI)) (ci := 8) (v := .ref (ad 3)) (C := RX8) (T := TX8) (N := 11) hx hb hts (by decide +kernel) hown hK hP (0) (wm_at (by decide) rc_0) rfl 4 (by decide) (hts (.fieldLink RX8 20 "QuietStairsModel" "headOf" "[I") (by decide +kernel)) (fun _ h9 => h9) rfl dX8_findHeads_125 ?_
                        refine lv_iload_n hx hb dX8_findHeads_128 rfl (lv_at hl 2 rfl) ?_
                        refine lv_iload hx hb dX8_findHeads_129 (lv_at hl 0 rfl) ?_
                        refine va_iast hx hb hK hP hD hS (3) 0 (wm_at (by decide) rc_3) rfl (vp_in_iff.mpr ⟨by omega, by omega⟩) dX8_findHeads_131 (fun H locs hP hD hS => ?_)
                        obtain ⟨v_23, ev_23⟩ : ∃ u : Nat → Nat → Int32, u = upr u6 3 (upd (u6 3) (x_11.toNatClampNeg) x_17) := ⟨_, rfl⟩
                        have hP : va_P (dC, dI) vwCl (wm ad cy v_23) H := by rw [ev_23, ← wm_put (e := _) rc_3]; exact hP
                        have hD : va_D A (wm ad cy v_23) := by rw [ev_23, ← wm_put (e := _) rc_3]; exact hD
                        have hv : Ir v_23 := by rw [ev_23]; exact hv.put (k := 3) (fun h q => by rw [(show br 3 _ = some 5 from rfl)] at q; cases q; exact ⟨by omega, by omega⟩)
                        have hfr : Fq v v_23 := by rw [ev_23]; exact hfr.row (by decide)
                        refine lv_aload_n hx hb dX8_findHeads_132 rfl (lv_at hl 5 rfl) ?_
                        refine va_get (D := (dC, dI)) (ci := 8) (v := .ref (ad 3)) (C := RX8) (T := TX8) (N := 11) hx hb hts (by decide +kernel) hown hK hP (0) (wm_at (by decide) rc_0) rfl 4 (by decide) (hts (.fieldLink RX8 20 "QuietStairsModel" "headOf" "[I") (by decide +kernel)) (fun _ h9 => h9) rfl dX8_findHeads_133 ?_
                        refine lv_iload hx hb dX8_findHeads_136 (lv_at hl 1 rfl) ?_
                        refine lv_iload hx hb dX8_findHeads_138 (lv_at hl 0 rfl) ?_
                        refine va_iast hx hb hK hP hD hS (3) 0 (wm_at (by decide) rc_3) rfl (vp_in_iff.mpr ⟨by omega, by omega⟩) dX8_findHeads_140 (fun H locs hP hD hS => ?_)
                        obtain ⟨v_24, ev_24⟩ : ∃ u : Nat → Nat → Int32, u = upr v_23 3 (upd (v_23 3) (x_15.toNatClampNeg) x_17) := ⟨_, rfl⟩
                        have hP : va_P (dC, dI) vwCl (wm ad cy v_24) H := by rw [ev_24, ← wm_put (e := _) rc_3]; exact hP
                        have hD : va_D A (wm ad cy v_24) := by rw [ev_24, ← wm_put (e := _) rc_3]; exact hD
                        have hv : Ir v_24 := by rw [ev_24]; exact hv.put (k := 3) (fun h q => by rw [(show br 3 _ = some 5 from rfl)] at q; cases q; exact ⟨by omega, by omega⟩)
                        have hfr : Fq v v_24 := by rw [ev_24]; exact hfr.row (by decide)
                        refine lv_iconst (v := 1) hx hb dX8_findHeads_141 (by decide) ?_
                        refine lv_istore_n (lv' := [(1, .int 1), (5, .int x_17), (4, .int x_15), (3, .int x_11), (2, .int y6_2), (0, .ref (ad 0))]) hx hb dX8_findHeads_142 rfl hl (by decide) rfl (fun ls hl => ?_)
                        obtain ⟨x_25, ex_25⟩ : ∃ y : Int32, y = y6_2 + 1 := ⟨_, rfl⟩
                        refine lv_iinc (v := x_25) (lv' := [(2, .int x_25), (1, .int 1), (5, .int x_17), (4, .int x_15), (3, .int x_11), (0, .ref (ad 0))]) hx hb dX8_findHeads_143 hl (k := 4) rfl (by rw [ex_25]; rfl) (by decide) rfl (fun ls hl => ?_)
                        have tx_25 : x_25.toInt = y6_2.toInt + (1 : Int32).toInt := by rw [ex_25]; exact t_add ⟨by omega, by omega⟩
                        refine lv_goto (tgt := 35) hx hb dX8_findHeads_146 (by decide) ?_
                        exact ih_6 1 x_25 v_24 _ _ (by omega) (by omega) (by omega) (by omega) (by have z1 := hs_2 (v := u6) (a := x_11) (b := x_15) (x := x_17) ⟨by omega, by omega⟩ ⟨by omega, by omega⟩ ex_16 ex_17 (by omega) (by omega) (by omega); rw [ev_24, upr_s, ev_23, upr_s]; have z2 := hi6_0; omega) (by rw [ev_24, upr_s, ev_23, upr_s]; exact HI_up ⟨by omega, by omega⟩ ⟨by omega, by omega⟩ hi6_1 had (Or.inr ex_17) (by rw [← ex_16]; omega) (by rw [← ex_17]; omega)) (fun q => absurd q (by decide)) (by omega) hv hfr hP hD hS ls (lv_sub hl [0, 1, 5] rfl)
                      · have tc_21 : x_16.toInt < x_17.toInt := Int32.lt_iff_toInt_lt.mp (Int32.not_le.mp c_21)
                        refine lv_aload_n hx hb dX8_findHeads_106 rfl (lv_at hl 4 rfl) ?_
                        refine va_get (D := (dC, dI)) (ci := 8) (v := .ref (ad 3)) (C := RX8) (T := TX8) (N := 11) hx hb hts (by decide +kernel) hown hK hP (0) (wm_at (by decide) rc_0) rfl 4 (by decide) (hts (.fieldLink RX8 20 "QuietStairsModel" "headOf" "[I") (by decide +kernel)) (fun _ h9 => h9) rfl dX8_findHeads_107 ?_
                        refine lv_iload_n hx hb dX8_findHeads_110 rfl (lv_at hl 1 rfl) ?_
                        refine va_iald hx hb hK hP (3) 0 (wm_at (by decide) rc_3) rfl (vp_in_iff.mpr ⟨by omega, by omega⟩) dX8_findHeads_111 ?_
                        refine lv_topi (fun x_22 ex_22 => ?_)
                        have bzx_22 : 0 ≤ x_22.toInt ∧ x_22.toInt ≤ 5 := by rw [ex_22]; exact hv 3 _ 5 rfl
                        obtain rfl : x_16 = x_22 := (ex_22.trans ex_16.symm).symm
                        refine lv_goto (tgt := 122) hx hb dX8_findHeads_112 (by decide) ?_
                        refine lv_istore (lv' := [(5, .int x_16), (4, .int x_15), (3, .int x_11), (2, .int y6_2), (1, .int y6_1), (0, .ref (ad 0))]) hx hb dX8_findHeads_122 hl (by decide) rfl (fun ls hl => ?_)
                        refine lv_aload_n hx hb dX8_findHeads_124 rfl (lv_at hl 5 rfl) ?_
                        refine va_get (D := (dC, dI)) (ci := 8) (v := .ref (ad 3)) (C := RX8) (T := TX8) (N := 11) hx hb hts (by decide +kernel) hown hK hP (0) (wm_at (by decide) rc_0) rfl 4 (by decide) (hts (.fieldLink RX8 20 "QuietStairsModel" "headOf" "[I") (by decide +kernel)) (fun _ h9 => h9) rfl dX8_findHeads_125 ?_
                        refine lv_iload_n hx hb dX8_findHeads_128 rfl (lv_at hl 2 rfl) ?_
                        refine lv_iload hx hb dX8_findHeads_129 (lv_at hl 0 rfl) ?_
                        refine va_iast hx hb hK hP hD hS (3) 0 (wm_at (by decide) rc_3) rfl (vp_in_iff.mpr ⟨by omega, by omega⟩) dX8_findHeads_131 (fun H locs hP hD hS => ?_)
                        obtain ⟨v_23, ev_23⟩ : ∃ u : Nat → Nat → Int32, u = upr u6 3 (upd (u6 3) (x_11.toNatClampNeg) x_16) := ⟨_, rfl⟩
                        have hP : va_P (dC, dI) vwCl (wm ad cy v_23) H := by rw [ev_23, ← wm_put (e := _) rc_3]; exact hP
                        have hD : va_D A (wm ad cy v_23) := by rw [ev_23, ← wm_put (e := _) rc_3]; exact hD
                        have hv : Ir v_23 := by rw [ev_23]; exact hv.put (k := 3) (fun h q => by rw [(show br 3 _ = some 5 from rfl)] at q; cases q; exact ⟨by omega, by omega⟩)
                        have hfr : Fq v v_23 := by rw [ev_23]; exact hfr.row (by decide)
                        refine lv_aload_n hx hb dX8_findHeads_132 rfl (lv_at hl 5 rfl) ?_
                        refine va_get (D := (dC, dI)) (ci := 8) (v := .ref (ad 3)) (C := RX8) (T := TX8) (N := 11) hx hb hts (by decide +kernel) hown hK hP (0) (wm_at (by decide) rc_0) rfl 4 (by decide) (hts (.fieldLink RX8 20 "QuietStairsModel" "headOf" "[I") (by decide +kernel)) (fun _ h9 => h9) rfl dX8_findHeads_133 ?_
                        refine lv_iload hx hb dX8_findHeads_136 (lv_at hl 1 rfl) ?_
                        refine lv_iload hx hb dX8_findHeads_138 (lv_at hl 0 rfl) ?_
                        refine va_iast hx hb hK hP hD hS (3) 0 (wm_at (by decide) rc_3) rfl (vp_in_iff.mpr ⟨by omega, by omega⟩) dX8_findHeads_140 (fun H locs hP hD hS => ?_)
                        obtain ⟨v_24, ev_24⟩ : ∃ u : Nat → Nat → Int32, u = upr v_23 3 (upd (v_23 3) (x_15.toNatClampNeg) x_16) := ⟨_, rfl⟩
                        have hP : va_P (dC, dI) vwCl (wm ad cy v_24) H := by rw [ev_24, ← wm_put (e := _) rc_3]; exact hP
                        have hD : va_D A (wm ad cy v_24) := by rw [ev_24, ← wm_put (e := _) rc_3]; exact hD
                        have hv : Ir v_24 := by rw [ev_24]; exact hv.put (k := 3) (fun h q => by rw [(show br 3 _ = some 5 from rfl)] at q; cases q; exact ⟨by omega, by omega⟩)
                        have hfr : Fq v v_24 := by rw [ev_24]; exact hfr.row (by decide)
                        refine lv_iconst (v := 1) hx hb dX8_findHeads_141 (by decide) ?_
                        refine lv_istore_n (lv' := [(1, .int 1), (5, .int x_16), (4, .int x_15), (3, .int x_11), (2, .int y6_2), (0, .ref (ad 0))]) hx hb dX8_findHeads_142 rfl hl (by decide) rfl (fun ls hl => ?_)
                        obtain ⟨x_25, ex_25⟩ : ∃ y : Int32, y = y6_2 + 1 := ⟨_, rfl⟩
                        refine lv_iinc (v := x_25) (lv' := [(2, .int x_25), (1, .int 1), (5, .int x_16), (4, .int x_15), (3, .int x_11), (0, .ref (ad 0))]) hx hb dX8_findHeads_143 hl (k := 4) rfl (by rw [ex_25]; rfl) (by decide) rfl (fun ls hl => ?_)
                        have tx_25 : x_25.toInt = y6_2.toInt + (1 : Int32).toInt := by rw [ex_25]; exact t_add ⟨by omega, by omega⟩
                        refine lv_goto (tgt := 35) hx hb dX8_findHeads_146 (by decide) ?_
                        exact ih_6 1 x_25 v_24 _ _ (by omega) (by omega) (by omega) (by omega) (by have z1 := hs_2 (v := u6) (a := x_11) (b := x_15) (x := x_16) ⟨by omega, by omega⟩ ⟨by omega, by omega⟩ ex_16 ex_17 (by omega) (by omega) (by omega); rw [ev_24, upr_s, ev_23, upr_s]; have z2 := hi6_0; omega) (by rw [ev_24, upr_s, ev_23, upr_s]; exact HI_up ⟨by omega, by omega⟩ ⟨by omega, by omega⟩ hi6_1 had (Or.inl ex_16) (by rw [← ex_16]; omega) (by rw [← ex_17]; omega)) (fun q => absurd q (by decide)) (by omega) hv hfr hP hD hS ls (lv_sub hl [0, 1, 5] rfl)
              exact hc_6 ((6 - (0 : Int32).toInt).toNat + 1) 0 0 u4 _ _ (by omega) (by omega) (by omega) (by omega) (by omega) (hi4_0) (fun _ k hk => absurd hk (by omega)) (by omega) hv hfr hP hD hS ls (lv_sub hl [0, 1, 2] rfl)
        have k_1 : (1 : Int32).toInt = 1 := by decide
        exact hc_4 ((hs (u1 3)).toNat + (1 : Int32).toInt.toNat + 1) 1 u1 _ _ (by omega) (by omega) (HI_dn hi1_0 (by omega)) (fun q => absurd q (by decide)) (by omega) hv hfr hP hD hS ls (lv_sub hl [0, 1] rfl)
      · have tc_3 : y1_1.toInt < x_2.toInt := Int32.lt_iff_toInt_lt.mp (Int32.not_le.mp c_3)
        refine lv_aload_n hx hb dX8_findHeads_12 rfl (lv_at hl 1 rfl) ?_
        refine va_get (D := (dC, dI)) (ci := 8) (v := .ref (ad 3)) (C := RX8) (T := TX8) (N := 11) hx hb hts (by decide +kernel) hown hK hP (0) (wm_at (by decide) rc_0) rfl 4 (by decide) (hts (.fieldLink RX8 20 "QuietStairsModel" "headOf" "[I") (by decide +kernel)) (fun _ h9 => h9) rfl dX8_findHeads_13 ?_
        refine lv_iload_n hx hb dX8_findHeads_16 rfl (lv_at hl 0 rfl) ?_
        refine lv_iload_n hx hb dX8_findHeads_17 rfl (lv_at hl 0 rfl) ?_
        refine va_iast hx hb hK hP hD hS (3) 0 (wm_at (by decide) rc_3) rfl (vp_in_iff.mpr ⟨by omega, by omega⟩) dX8_findHeads_18 (fun H locs hP hD hS => ?_)
        have zn_y1_1 : (y1_1.toNatClampNeg : Int) = y1_1.toInt := t_nn (by omega)
        obtain ⟨v_4, ev_4⟩ : ∃ u : Nat → Nat → Int32, u = upr u1 3 (upd (u1 3) (y1_1.toNatClampNeg) y1_1) := ⟨_, rfl⟩
        have hP : va_P (dC, dI) vwCl (wm ad cy v_4) H := by rw [ev_4, ← wm_put (e := _) rc_3]; exact hP
        have hD : va_D A (wm ad cy v_4) := by rw [ev_4, ← wm_put (e := _) rc_3]; exact hD
        have hv : Ir v_4 := by rw [ev_4]; exact hv.put (k := 3) (fun h q => by rw [(show br 3 _ = some 5 from rfl)] at q; cases q; exact ⟨by omega, by omega⟩)
        have hfr : Fq v v_4 := by rw [ev_4]; exact hfr.row (by decide)
        obtain ⟨x_5, ex_5⟩ : ∃ y : Int32, y = y1_1 + 1 := ⟨_, rfl⟩
        refine lv_iinc (v := x_5) (lv' := [(1, .int x_5), (0, .ref (ad 0))]) hx hb dX8_findHeads_19 hl (k := 0) rfl (by rw [ex_5]; rfl) (by decide) rfl (fun ls hl => ?_)
        have k_1 : (1 : Int32).toInt = 1 := by decide
        have tx_5 : x_5.toInt = y1_1.toInt + (1 : Int32).toInt := by rw [ex_5]; exact t_add ⟨by omega, by omega⟩
        refine lv_goto (tgt := 2) hx hb dX8_findHeads_22 (by decide) ?_
        exact ih_1 x_5 v_4 _ _ (by omega) (by omega) (by rw [ev_4, upr_s]; exact HI_new (by omega) (by omega) hi1_0) (by omega) hv hfr hP hD hS ls (lv_sub hl [0, 1] rfl)
  have k_0 : (0 : Int32).toInt = 0 := by decide
  exact hc_1 ((6 - (0 : Int32).toInt).toNat + 1) 0 v _ _ (by omega) (by omega) (HI_0 (by omega)) (by omega) hv hfr hP hD hS ls (lv_sub hl [0, 1] rfl)

set_option maxHeartbeats 4000000 in
set_option maxRecDepth 100000 in
theorem e_X8_joined (l : Launch) (dC : Nat → ClassId) (dI : Nat → Nat → Nat) (cy : Nat → ClassId) (sz : Nat) (ad : Nat → Nat) (v : Nat → Nat → Int32) (hv : Ir v) (x0 : Int32) (hs : 0 ≤ x0.toInt ∧ x0.toInt ≤ 5) : Met l yX8_joined wsX8_joined ({ frames := 0, cells := 0, slots := 0, locals := 0 }) (va_Pc [.ref (ad 0), .int x0] (ex_Pre dC dI cy sz (wm ad cy v))) (va_Qi (fun (r : Int32) (u : Nat → Nat → Int32) => Ir u ∧ u = v ∧ r.toInt = cN (fun c => if (v 3 c).toInt = (v 3 x0.toNatClampNeg).toInt then 1 else 0) (v 1 2).toNatClampNeg) (fun u t => ex_Pst dC dI (va_A (wm ad cy v) sz) (wm ad cy u) t) (va_A (wm ad cy v) sz)) 0 0 (va_A (wm ad cy v) sz) := by
  refine Met.ofW (cc := cX8_joined) (maxL := 4) (ret := (some .int)) (by decide) rfl ?_
  intro p e s m args below meth c s₁ B hml hv
  obtain ⟨rfl, hsz, hE, hP, hK, hD0⟩ := hv
  have hx := B.exec
  have hb := B.bytes
  have hr := B.returns
  have hts := atoms_spec (ws := wsX8_joined) B.pre
  have hown : s.vm.findClass RX8 = some m.cls := findClass_of_methodNamed B.named
  have hlocks := B.notSynchronized
  subst hsz
  have hD := hD0.self (sz := s.heap.size)
  generalize hAe : va_A (wm ad cy v) s.heap.size = A at hD ⊢
  have hA : ∀ q : Nat, s.heap.size ≤ q → A q := fun q h => by rw [← hAe]; exact Or.inr h
  have hS : va_S A s.heap s.heap [] := va_S.rf
  have hP : va_P (dC, dI) vwCl (wm ad cy v) s.heap := hP
  have hl := lv_entry ([.ref (ad 0), .int x0]) (n := 4) (Nat.le_of_ble_eq_true rfl)
  rw [lg_entry_eq]
  generalize (lg_sl ([.ref (ad 0), .int x0]) ++ List.replicate (4 - (lg_sl ([.ref (ad 0), .int x0])).length) Slot.unset).toArray = ls at hl ⊢
  have hl : lv_has ls 4 [(0, .ref (ad 0)), (1, .int x0)] := hl
  have zn_x0 : (x0.toNatClampNeg : Int) = x0.toInt := t_nn (by omega)
  obtain ⟨cn, ecn⟩ : ∃ z : Int32, z = v 1 2 := ⟨_, rfl⟩
  have hbcn : 0 ≤ cn.toInt ∧ cn.toInt ≤ 6 := by rw [ecn]; exact hv 1 2 6 (by decide)
  have zn_cn : (cn.toNatClampNeg : Int) = cn.toInt := t_nn (by omega)
  have k_0 : (0 : Int32).toInt = 0 := by decide
  obtain ⟨FF, eFF⟩ : ∃ f : Nat → Int, f = fun c => if (v 3 c).toInt = (v 3 x0.toNatClampNeg).toInt then 1 else 0 := ⟨_, rfl⟩
  refine lv_iconst (v := 0) hx hb dX8_joined_0 (by decide) ?_
  refine lv_istore_n (lv' := [(2, .int 0), (0, .ref (ad 0)), (1, .int x0)]) hx hb dX8_joined_1 rfl hl (by decide) rfl (fun ls hl => ?_)
  refine lv_iconst (v := 0) hx hb dX8_joined_2 (by decide) ?_
  refine lv_istore_n (lv' := [(3, .int 0), (2, .int 0), (0, .ref (ad 0)), (1, .int x0)]) hx hb dX8_joined_3 rfl hl (by decide) rfl (fun ls hl => ?_)
  have hc_1 : ∀ (n : Nat) (y1_3 y1_2 : Int32) (H : Heap) (locs : List Loc), 0 ≤ y1_3.toInt → y1_3.toInt ≤ 6 → 0 ≤ y1_2.toInt → y1_2.toInt ≤ 6 → (y1_2.toInt = cN FF y1_3.toNatClampNeg) → (y1_2.toInt ≤ y1_3.toInt) → (y1_3.toInt ≤ cn.toInt) → (6 - y1_3.toInt).toNat < n → va_P (dC, dI) vwCl (wm ad cy v) H → va_D A (wm ad cy v) → va_S A s.heap H locs → ∀ ls : Array Slot, lv_has ls 4 [(3, .int y1_3), (2, .int y1_2), (0, .ref (ad 0)), (1, .int x0)] → W p l e (headSpec wsX8_joined ({ frames := 0, cells := 0, slots := 0, locals := 0 })).room s m [Value.ref (ad 0), Value.int x0].toArray below meth c H locs 0 0 (MQ below (va_Qi (fun (r : Int32) (u : Nat → Nat → Int32) => Ir u ∧ u = v ∧ r.toInt = cN (fun c => if (v 3 c).toInt = (v 3 x0.toNatClampNeg).toInt then 1 else 0) (v 1 2).toNatClampNeg) (fun u t => ex_Pst dC dI A (wm ad cy u) t) A) [Value.ref (ad 0), Value.int x0].toArray s 0 0 A) (F0 m 4 ls []) := by
    intro n
    induction n with
    | zero =>
      intro y1_3 y1_2 H locs ay1_3 by1_3 ay1_2 by1_2 hi1_0 hi1_1 hi1_2 hm_1 hP hD hS ls hl
      exact absurd hm_1 (by omega)
    | succ n ih_1 =>
      intro y1_3 y1_2 H locs ay1_3 by1_3 ay1_2 by1_2 hi1_0 hi1_1 hi1_2 hm_1 hP hD hS ls hl
      refine lv_iload_n hx hb dX8_joined_4 rfl (lv_at hl 0 rfl) ?_
      refine lv_aload_n hx hb dX8_joined_5 rfl (lv_at hl 2 rfl) ?_
      refine va_get (D := (dC, dI)) (ci := 8) (v := .ref (ad 1)) (C := RX8) (T := TX8) (N := 11) hx hb hts (by decide +kernel) hown hK hP (0) (wm_at (by decide) rc_0) rfl 0 (by decide) (hts (.fieldLink RX8 7 "QuietStairsModel" "s" "[I") (by decide +kernel)) (fun _ h9 => h9) rfl dX8_joined_6 ?_
      refine lv_iconst (v := 2) hx hb dX8_joined_9 (by decide) ?_
      have k_2 : (2 : Int32).toInt = 2 := by decide
      refine va_iald hx hb hK hP (1) 0 (wm_at (by decide) rc_1) rfl (by unfold vp_in; decide) dX8_joined_10 ?_
      refine lv_topi (fun x_2 ex_2 => ?_)
      have ex_2 : x_2 = v 1 2 := ex_2
      have bzx_2 : 0 ≤ x_2.toInt ∧ x_2.toInt ≤ 6 := by rw [ex_2]; exact hv 1 _ 6 (show bS 2 = some 6 from by decide)
      obtain rfl : cn = x_2 := (ex_2.trans ecn.symm).symm
      refine lv_icmp_ge (tgt := 43) hx hb dX8_joined_11 (by decide) (fun c_3 => ?_) (fun c_3 => ?_)
      · have tc_3 : y1_3.toInt ≥ cn.toInt := Int32.le_iff_toInt_le.mp c_3
        refine lv_iload_n hx hb dX8_joined_43 rfl (lv_at hl 1 rfl) ?_
        have zn_y1_3 : (y1_3.toNatClampNeg : Int) = y1_3.toInt := t_nn (by omega)
        exact W.iret (v := y1_2) hx hb hr (fun t ht hW => ⟨⟨y1_2, v, rfl, ⟨hv, rfl, by rw [← ecn, ← eFF, show cn.toNatClampNeg = y1_3.toNatClampNeg from by omega]; exact hi1_0⟩, by rw [ht]; exact hP, hD⟩, hS.F ht⟩) hS.2.2 dX8_joined_44
      · have tc_3 : y1_3.toInt < cn.toInt := Int32.lt_iff_toInt_lt.mp (Int32.not_le.mp c_3)
        refine lv_iload_n hx hb dX8_joined_14 rfl (lv_at hl 1 rfl) ?_
        refine lv_aload_n hx hb dX8_joined_15 rfl (lv_at hl 2 rfl) ?_
        refine va_get (D := (dC, dI)) (ci := 8) (v := .ref (ad 3)) (C := RX8) (T := TX8) (N := 11) hx hb hts (by decide +kernel) hown hK hP (0) (wm_at (by decide) rc_0) rfl 4 (by decide) (hts (.fieldLink RX8 20 "QuietStairsModel" "headOf" "[I") (by decide +kernel)) (fun _ h9 => h9) rfl dX8_joined_16 ?_
        refine lv_iload_n hx hb dX8_joined_19 rfl (lv_at hl 0 rfl) ?_
        have zn_y1_3 : (y1_3.toNatClampNeg : Int) = y1_3.toInt := t_nn (by omega)
        refine va_iald hx hb hK hP (3) 0 (wm_at (by decide) rc_3) rfl (vp_in_iff.mpr ⟨by omega, by omega⟩) dX8_joined_20 ?_
        refine lv_topi (fun x_4 ex_4 => ?_)
        have bzx_4 : 0 ≤ x_4.toInt ∧ x_4.toInt ≤ 5 := by rw [ex_4]; exact hv 3 _ 5 rfl
        have qx_4 : x_4.toInt = (v 3 (y1_3.toNatClampNeg)).toInt := congrArg Int32.toInt ex_4
        refine lv_aload_n hx hb dX8_joined_21 rfl (lv_at hl 2 rfl) ?_
        refine va_get (D := (dC, dI)) (ci := 8) (v := .ref (ad 3)) (C := RX8) (T := TX8) (N := 11) hx hb hts (by decide +kernel) hown hK hP (0) (wm_at (by decide) rc_0) rfl 4 (by decide) (hts (.fieldLink RX8 20 "QuietStairsModel" "headOf" "[I") (by decide +kernel)) (fun _ h9 => h9) rfl dX8_joined_22 ?_
        refine lv_iload_n hx hb dX8_joined_25 rfl (lv_at hl 3 rfl) ?_
        refine va_iald hx hb hK hP (3) 0 (wm_at (by decide) rc_3) rfl (vp_in_iff.mpr ⟨by omega, by omega⟩) dX8_joined_26 ?_
        refine lv_topi (fun x_5 ex_5 => ?_)
        have bzx_5 : 0 ≤ x_5.toInt ∧ x_5.toInt ≤ 5 := by rw [ex_5]; exact hv 3 _ 5 rfl
        have qx_5 : x_5.toInt = (v 3 (x0.toNatClampNeg)).toInt := congrArg Int32.toInt ex_5
        refine lv_icmp_ne (tgt := 34) hx hb dX8_joined_27 (by decide) (fun c_6 => ?_) (fun c_6 => ?_)
        · have tc_6 : x_4.toInt ≠ x_5.toInt := fun q => absurd (Int32.toInt_inj.mp q) c_6
          refine lv_iconst (v := 0) hx hb dX8_joined_34 (by decide) ?_
          refine lv_iadd hx hb dX8_joined_35 ?_
          refine lv_topi (fun x_7 ex_7 => ?_)
          have tx_7 : x_7.toInt = y1_2.toInt + (0 : Int32).toInt := by rw [ex_7]; exact t_add ⟨by omega, by omega⟩
          refine lv_istore_n (lv' := [(2, .int x_7), (3, .int y1_3), (0, .ref (ad 0)), (1, .int x0)]) hx hb dX8_joined_36 rfl hl (by decide) rfl (fun ls hl => ?_)
          obtain ⟨x_8, ex_8⟩ : ∃ y : Int32, y = y1_3 + 1 := ⟨_, rfl⟩
          refine lv_iinc (v := x_8) (lv' := [(3, .int x_8), (2, .int x_7), (0, .ref (ad 0)), (1, .int x0)]) hx hb dX8_joined_37 hl (k := 1) rfl (by rw [ex_8]; rfl) (by decide) rfl (fun ls hl => ?_)
          have k_1 : (1 : Int32).toInt = 1 := by decide
          have tx_8 : x_8.toInt = y1_3.toInt + (1 : Int32).toInt := by rw [ex_8]; exact t_add ⟨by omega, by omega⟩
          refine lv_goto (tgt := 4) hx hb dX8_joined_40 (by decide) ?_
          have zn_x_8 : (x_8.toNatClampNeg : Int) = x_8.toInt := t_nn (by omega)
          have hF9 : FF y1_3.toNatClampNeg = 0 := by rw [eFF]; show (if (v 3 y1_3.toNatClampNeg).toInt = (v 3 x0.toNatClampNeg).toInt then (1 : Int) else 0) = 0; exact if_neg (by rw [← ex_4, ← ex_5]; omega)
          exact ih_1 x_8 x_7 _ _ (by omega) (by omega) (by omega) (by omega) (by rw [show x_8.toNatClampNeg = y1_3.toNatClampNeg + 1 from by omega]; show _ = cN FF y1_3.toNatClampNeg + FF y1_3.toNatClampNeg; omega) (by omega) (by omega) (by omega) hP hD hS ls (lv_sub hl [0, 1, 2, 3] rfl)
        · have tc_6 : x_4.toInt = x_5.toInt := by rw [c_6]
          refine lv_iconst (v := 1) hx hb dX8_joined_30 (by decide) ?_
          refine lv_goto (tgt := 35) hx hb dX8_joined_31 (by decide) ?_
          refine lv_iadd hx hb dX8_joined_35 ?_
          refine lv_topi (fun x_7 ex_7 => ?_)
          have k_1 : (1 : Int32).toInt = 1 := by decide
          have tx_7 : x_7.toInt = y1_2.toInt + (1 : Int32).toInt := by rw [ex_7]; exact t_add ⟨by omega, by omega⟩
          refine lv_istore_n (lv' := [(2, .int x_7), (3, .int y1_3), (0, .ref (ad 0)), (1, .int x0)]) hx hb dX8_joined_36 rfl hl (by decide) rfl (fun ls hl => ?_)
          obtain ⟨x_8, ex_8⟩ : ∃ y : Int32, y = y1_3 + 1 := ⟨_, rfl⟩
          refine lv_iinc (v := x_8) (lv' := [(3, .int x_8), (2, .int x_7), (0, .ref (ad 0)), (1, .int x0)]) hx hb dX8_joined_37 hl (k := 1) rfl (by rw [ex_8]; rfl) (by decide) rfl (fun ls hl => ?_)
          have tx_8 : x_8.toInt = y1_3.toInt + (1 : Int32).toInt := by rw [ex_8]; exact t_add ⟨by omega, by omega⟩
          refine lv_goto (tgt := 4) hx hb dX8_joined_40 (by decide) ?_
          have zn_x_8 : (x_8.toNatClampNeg : Int) = x_8.toInt := t_nn (by omega)
          have hF9 : FF y1_3.toNatClampNeg = 1 := by rw [eFF]; show (if (v 3 y1_3.toNatClampNeg).toInt = (v 3 x0.toNatClampNeg).toInt then (1 : Int) else 0) = 1; exact if_pos (by rw [← ex_4, ← ex_5]; omega)
          exact ih_1 x_8 x_7 _ _ (by omega) (by omega) (by omega) (by omega) (by rw [show x_8.toNatClampNeg = y1_3.toNatClampNeg + 1 from by omega]; show _ = cN FF y1_3.toNatClampNeg + FF y1_3.toNatClampNeg; omega) (by omega) (by omega) (by omega) hP hD hS ls (lv_sub hl [0, 1, 2, 3] rfl)
  exact hc_1 ((6 - (0 : Int32).toInt).toNat + 1) 0 0 _ _ (by omega) (by omega) (by omega) (by omega) (by rw [show (0 : Int32).toNatClampNeg = 0 from by decide]; exact k_0) (by omega) (by omega) (by omega) hP hD hS ls (lv_sub hl [0, 1, 2, 3] rfl)

theorem of_4 {x : Int32} (h : 0 ≤ x.toInt ∧ x.toInt ≤ 4) : x = 0 ∨ x = 1 ∨ x = 2 ∨ x = 3 ∨ x = 4 := by
  rcases sw_5 x with q | q
  · omega
  · exact q

set_option maxHeartbeats 4000000 in
set_option maxRecDepth 100000 in
theorem e_X8_of (l : Launch) (dC : Nat → ClassId) (dI : Nat → Nat → Nat) (cy : Nat → ClassId) (sz : Nat) (ad : Nat → Nat) (v : Nat → Nat → Int32) (hv : Ir v) (hG : MG (v 1)) (x0 x1 : Int32) : Met l yX8_of wsX8_of ({ frames := 2, cells := 0, slots := 0, locals := 128 }) (va_Pc [.ref (ad 0), .int x0, .int x1] (ex_Pre dC dI cy sz (wm ad cy v))) (va_Qi (fun (r : Int32) (u : Nat → Nat → Int32) => Ir u ∧ (¬ (0 ≤ x0.toInt ∧ x0.toInt < (v 1 2).toInt) → (r = -1) ∧ Fq v u) ∧ ((0 ≤ x0.toInt ∧ x0.toInt < (v 1 2).toInt) ∧ x1.toInt = 0 → (r = v 1 (32 + 7 * x0.toNatClampNeg)) ∧ Fq v u) ∧ ((0 ≤ x0.toInt ∧ x0.toInt < (v 1 2).toInt) ∧ x1.toInt = 1 → (r = v 1 (33 + 7 * x0.toNatClampNeg)) ∧ Fq v u) ∧ ((0 ≤ x0.toInt ∧ x0.toInt < (v 1 2).toInt) ∧ x1.toInt = 2 → (r = v 1 (34 + 7 * x0.toNatClampNeg)) ∧ Fq v u) ∧ ((0 ≤ x0.toInt ∧ x0.toInt < (v 1 2).toInt) ∧ x1.toInt = 3 → (r = v 1 (35 + 7 * x0.toNatClampNeg)) ∧ Fq v u) ∧ ((0 ≤ x0.toInt ∧ x0.toInt < (v 1 2).toInt) ∧ x1.toInt = 4 → (r = v 1 (36 + 7 * x0.toNatClampNeg)) ∧ Fq v u) ∧ ((0 ≤ x0.toInt ∧ x0.toInt < (v 1 2).toInt) ∧ x1.toInt = 5 → (r = u 3 x0.toNatClampNeg ∧ HD (v 1) (u 3)) ∧ Fq v u) ∧ ((0 ≤ x0.toInt ∧ x0.toInt < (v 1 2).toInt) ∧ x1.toInt = 6 → (r.toInt = cN (fun c => if (u 3 c).toInt = (u 3 x0.toNatClampNeg).toInt then 1 else 0) (v 1 2).toNatClampNeg ∧ HD (v 1) (u 3)) ∧ Fq v u) ∧ ((0 ≤ x0.toInt ∧ x0.toInt < (v 1 2).toInt) ∧ x1.toInt = 7 → (r = v 1 (37 + 7 * x0.toNatClampNeg)) ∧ Fq v u) ∧ ((0 ≤ x0.toInt ∧ x0.toInt < (v 1 2).toInt) ∧ (x1.toInt < 0 ∨ 7 < x1.toInt) → (r = -1) ∧ Fq v u)) (fun u t => ex_Pst dC dI (va_A (wm ad cy v) sz) (wm ad cy u) t) (va_A (wm ad cy v) sz)) 0 0 (va_A (wm ad cy v) sz) := by
  refine Met.ofW (cc := cX8_of) (maxL := 3) (ret := (some .int)) (by decide) rfl ?_
  intro p e s m args below meth c s₁ B hml hv
  obtain ⟨rfl, hsz, hE, hP, hK, hD0⟩ := hv
  have hx := B.exec
  have hb := B.bytes
  have hr := B.returns
  have hts := atoms_spec (ws := wsX8_of) B.pre
  have hown : s.vm.findClass RX8 = some m.cls := findClass_of_methodNamed B.named
  have hlocks := B.notSynchronized
  subst hsz
  have hD := hD0.self (sz := s.heap.size)
  generalize hAe : va_A (wm ad cy v) s.heap.size = A at hD ⊢
  have hA : ∀ q : Nat, s.heap.size ≤ q → A q := fun q h => by rw [← hAe]; exact Or.inr h
  have hS : va_S A s.heap s.heap [] := va_S.rf
  have hP : va_P (dC, dI) vwCl (wm ad cy v) s.heap := hP
  have hl := lv_entry ([.ref (ad 0), .int x0, .int x1]) (n := 3) (Nat.le_of_ble_eq_true rfl)
  rw [lg_entry_eq]
  generalize (lg_sl ([.ref (ad 0), .int x0, .int x1]) ++ List.replicate (3 - (lg_sl ([.ref (ad 0), .int x0, .int x1])).length) Slot.unset).toArray = ls at hl ⊢
  have hl : lv_has ls 3 [(0, .ref (ad 0)), (1, .int x0), (2, .int x1)] := hl
  refine lv_aload_n hx hb dX8_of_0 rfl (lv_at hl 0 rfl) ?_
  refine lv_iload_n hx hb dX8_of_1 rfl (lv_at hl 1 rfl) ?_
  refine yw_i (w1 := fun (u : Nat → Nat → Int32) => wm ad cy u) hD hS hA (va_runV (As := [.int x0]) (rest := []) ⟨hx, hb, hml, hown, hts⟩ (q_X8_isCase l dC dI cy _ ad v hv x0) (cwV 1 hts gX8_of_X8_isCase rfl rfl rfl (by decide +kernel) ⟨Nat.le_of_ble_eq_true rfl, Nat.le_of_ble_eq_true rfl⟩) (yw_preV hE hK hP hD (ci := 8) (q0 := 0) rfl (wm_at (by decide) rc_0)) rfl rfl hl.1 rfl (lv_room (Nat.le_of_ble_eq_true rfl)) dX8_of_2 ⟨Nat.le_of_ble_eq_true rfl, Nat.le_of_ble_eq_true rfl⟩) (fun r_1 v_1 H locs hw_1 hP hD hS => ?_)
  obtain ⟨-, hu_1, hw_1⟩ := hw_1
  replace hu_1 := hu_1.symm
  subst hu_1
  rcases hw_1 with ⟨rfl, ha_2⟩ | ⟨rfl, ha_2⟩
  · have hb_2 := hv 1 2 6 (by decide)
    have hj_2 : 0 ≤ x0.toInt ∧ x0.toInt ≤ 5 := ⟨by omega, by omega⟩
    refine lv_if_eq (tgt := 18) hx hb dX8_of_5 (by decide) (fun c9 => absurd c9 (by decide)) (fun _ => ?_)
    refine lv_iload_n hx hb dX8_of_8 rfl (lv_at hl 2 rfl) ?_
    refine lv_iconst (v := 0) hx hb dX8_of_9 (by decide) ?_
    refine lv_bipush (v := 7) hx hb dX8_of_10 (by decide) ?_
    refine yc_p hP hS (va_runS (As := [.int x1, .int 0, .int 7]) (rest := []) ⟨hx, hb, hml, hown, hts⟩ (c_X8_in l x1 0 7) (cwS 3 hts gX8_of_X8_in rfl rfl rfl (by decide +kernel) ⟨Nat.le_of_ble_eq_true rfl, Nat.le_of_ble_eq_true rfl⟩) ex_preP rfl rfl hl.1 rfl (lv_room (Nat.le_of_ble_eq_true rfl)) dX8_of_12 ⟨Nat.le_of_ble_eq_true rfl, Nat.le_of_ble_eq_true rfl⟩) (fun r_3 H locs hw_3 hP hS => ?_)
    rcases wi_ca hw_3 with ⟨rfl, hc_4⟩ | ⟨rfl, hc_4⟩
    · have k_0 : (0 : Int32).toInt = 0 := by decide
      have k_7 : (7 : Int32).toInt = 7 := by decide
      have tc_4 := wi_tl hc_4
      refine lv_if_ne (tgt := 20) hx hb dX8_of_15 (by decide) (fun _ => ?_) (fun c9 => absurd c9 (by decide))
      refine lv_iload_n hx hb dX8_of_20 rfl (lv_at hl 2 rfl) ?_
      refine lv_iconst (v := 5) hx hb dX8_of_21 (by decide) ?_
      have k_5 : (5 : Int32).toInt = 5 := by decide
      refine lv_icmp_eq (tgt := 31) hx hb dX8_of_22 (by decide) (fun c_5 => ?_) (fun c_5 => ?_)
      · have tc_5 : x1.toInt = (5 : Int32).toInt := by rw [c_5]
        refine lv_aload_n hx hb dX8_of_31 rfl (lv_at hl 0 rfl) ?_
        refine yw_v (w1 := fun (u : Nat → Nat → Int32) => wm ad cy u) hD hS hA (va_runV (As := []) (rest := []) ⟨hx, hb, hml, hown, hts⟩ (e_X8_findHeads l dC dI cy _ ad v hv hG) (cwV 0 hts gX8_of_X8_findHeads rfl rfl rfl (by decide +kernel) ⟨Nat.le_of_ble_eq_true rfl, Nat.le_of_ble_eq_true rfl⟩) (yw_preV hE hK hP hD (ci := 8) (q0 := 0) rfl (wm_at (by decide) rc_0)) rfl rfl hl.1 rfl (lv_room (Nat.le_of_ble_eq_true rfl)) dX8_of_32 ⟨Nat.le_of_ble_eq_true rfl, Nat.le_of_ble_eq_true rfl⟩) (fun v_6 H locs hw_6 hP hD hS => ?_)
        obtain ⟨hv, hf_6, hw_6⟩ := hw_6
        refine lv_iload_n hx hb dX8_of_35 rfl (lv_at hl 2 rfl) ?_
        refine lv_iconst (v := 5) hx hb dX8_of_36 (by decide) ?_
        refine lv_icmp_ne (tgt := 49) hx hb dX8_of_37 (by decide) (fun c_7 => ?_) (fun c_7 => ?_)
        · have tc_7 : x1.toInt ≠ (5 : Int32).toInt := fun q => absurd (Int32.toInt_inj.mp q) c_7
          exfalso
          omega
        · have tc_7 : x1.toInt = (5 : Int32).toInt := by rw [c_7]
          refine lv_aload_n hx hb dX8_of_40 rfl (lv_at hl 0 rfl) ?_
          refine va_get (D := (dC, dI)) (ci := 8) (v := .ref (ad 3)) (C := RX8) (T := TX8) (N := 11) hx hb hts (by decide +kernel) hown hK hP (0) (wm_at (by decide) rc_0) rfl 4 (by decide) (hts (.fieldLink RX8 20 "QuietStairsModel" "headOf" "[I") (by decide +kernel)) (fun _ h9 => h9) rfl dX8_of_41 ?_
          refine lv_iload_n hx hb dX8_of_44 rfl (lv_at hl 1 rfl) ?_
          have zn_x0 : (x0.toNatClampNeg : Int) = x0.toInt := t_nn (by omega)
          refine va_iald hx hb hK hP (3) 0 (wm_at (by decide) rc_3) rfl (vp_in_iff.mpr ⟨by omega, by omega⟩) dX8_of_45 ?_
          refine lv_topi (fun x_8 ex_8 => ?_)
          have bzx_8 : 0 ≤ x_8.toInt ∧ x_8.toInt ≤ 5 := by rw [ex_8]; exact hv 3 _ 5 rfl
          have qx_8 : x_8.toInt = (v_6 3 (x0.toNatClampNeg)).toInt := congrArg Int32.toInt ex_8
          refine lv_goto (tgt := 54) hx hb dX8_of_46 (by decide) ?_
          have hpost : (¬ (0 ≤ x0.toInt ∧ x0.toInt < (v 1 2).toInt) → (x_8 = -1) ∧ Fq v v_6) ∧ ((0 ≤ x0.toInt ∧ x0.toInt < (v 1 2).toInt) ∧ x1.toInt = 0 → (x_8 = v 1 (32 + 7 * x0.toNatClampNeg)) ∧ Fq v v_6) ∧ ((0 ≤ x0.toInt ∧ x0.toInt < (v 1 2).toInt) ∧ x1.toInt = 1 → (x_8 = v 1 (33 + 7 * x0.toNatClampNeg)) ∧ Fq v v_6) ∧ ((0 ≤ x0.toInt ∧ x0.toInt < (v 1 2).toInt) ∧ x1.toInt = 2 → (x_8 = v 1 (34 + 7 * x0.toNatClampNeg)) ∧ Fq v v_6) ∧ ((0 ≤ x0.toInt ∧ x0.toInt < (v 1 2).toInt) ∧ x1.toInt = 3 → (x_8 = v 1 (35 + 7 * x0.toNatClampNeg)) ∧ Fq v v_6) ∧ ((0 ≤ x0.toInt ∧ x0.toInt < (v 1 2).toInt) ∧ x1.toInt = 4 → (x_8 = v 1 (36 + 7 * x0.toNatClampNeg)) ∧ Fq v v_6) ∧ ((0 ≤ x0.toInt ∧ x0.toInt < (v 1 2).toInt) ∧ x1.toInt = 5 → (x_8 = v_6 3 x0.toNatClampNeg ∧ HD (v 1) (v_6 3)) ∧ Fq v v_6) ∧ ((0 ≤ x0.toInt ∧ x0.toInt < (v 1 2).toInt) ∧ x1.toInt = 6 → (x_8.toInt = cN (fun c => if (v_6 3 c).toInt = (v_6 3 x0.toNatClampNeg).toInt then 1 else 0) (v 1 2).toNatClampNeg ∧ HD (v 1) (v_6 3)) ∧ Fq v v_6) ∧ ((0 ≤ x0.toInt ∧ x0.toInt < (v 1 2).toInt) ∧ x1.toInt = 7 → (x_8 = v 1 (37 + 7 * x0.toNatClampNeg)) ∧ Fq v v_6) ∧ ((0 ≤ x0.toInt ∧ x0.toInt < (v 1 2).toInt) ∧ (x1.toInt < 0 ∨ 7 < x1.toInt) → (x_8 = -1) ∧ Fq v v_6) := by
            refine ⟨fun hq => ?_, fun hq => ?_, fun hq => ?_, fun hq => ?_, fun hq => ?_, fun hq => ?_, fun hq => ?_, fun hq => ?_, fun hq => ?_, fun hq => ?_⟩
            · exfalso; omega
            · exfalso; omega
            · exfalso; omega
            · exfalso; omega
            · exfalso; omega
            · exfalso; omega
            · exact ⟨⟨by rw [ex_8], hw_6⟩, hf_6⟩
            · exfalso; omega
            · exfalso; omega
            · exfalso; omega
          exact W.iret (v := x_8) hx hb hr (fun t ht hW => ⟨⟨x_8, v_6, rfl, ⟨hv, hpost⟩, by rw [ht]; exact hP, hD⟩, hS.F ht⟩) hS.2.2 dX8_of_54
      · have tc_5 : x1.toInt ≠ (5 : Int32).toInt := fun q => absurd (Int32.toInt_inj.mp q) c_5
        refine lv_iload_n hx hb dX8_of_25 rfl (lv_at hl 2 rfl) ?_
        refine lv_bipush (v := 6) hx hb dX8_of_26 (by decide) ?_
        have k_6 : (6 : Int32).toInt = 6 := by decide
        refine lv_icmp_ne (tgt := 55) hx hb dX8_of_28 (by decide) (fun c_6 => ?_) (fun c_6 => ?_)
        · have tc_6 : x1.toInt ≠ (6 : Int32).toInt := fun q => absurd (Int32.toInt_inj.mp q) c_6
          refine lv_aload_n hx hb dX8_of_55 rfl (lv_at hl 0 rfl) ?_
          refine va_get (D := (dC, dI)) (ci := 8) (v := .ref (ad 1)) (C := RX8) (T := TX8) (N := 11) hx hb hts (by decide +kernel) hown hK hP (0) (wm_at (by decide) rc_0) rfl 0 (by decide) (hts (.fieldLink RX8 7 "QuietStairsModel" "s" "[I") (by decide +kernel)) (fun _ h9 => h9) rfl dX8_of_56 ?_
          refine lv_iload_n hx hb dX8_of_59 rfl (lv_at hl 1 rfl) ?_
          refine lv_iload_n hx hb dX8_of_60 rfl (lv_at hl 2 rfl) ?_
          refine lv_bipush (v := 7) hx hb dX8_of_61 (by decide) ?_
          refine lv_icmp_ne (tgt := 70) hx hb dX8_of_63 (by decide) (fun c_7 => ?_) (fun c_7 => ?_)
          · have tc_7 : x1.toInt ≠ (7 : Int32).toInt := fun q => absurd (Int32.toInt_inj.mp q) c_7
            refine lv_iload_n hx hb dX8_of_70 rfl (lv_at hl 2 rfl) ?_
            rcases of_4 (x := x1) ⟨by omega, by omega⟩ with hsw | hsw | hsw | hsw | hsw
            · have tsw : x1.toInt = 0 := by rw [hsw]; decide
              refine yc_p hP hS (va_runS (As := [.int x0, .int x1]) (rest := [.ref (ad 1)]) ⟨hx, hb, hml, hown, hts⟩ (c_X8_at l x0 x1) (cwS 2 hts gX8_of_X8_at rfl rfl rfl (by decide +kernel) ⟨Nat.le_of_ble_eq_true rfl, Nat.le_of_ble_eq_true rfl⟩) ex_preP rfl rfl hl.1 rfl (lv_room (Nat.le_of_ble_eq_true rfl)) dX8_of_71 ⟨Nat.le_of_ble_eq_true rfl, Nat.le_of_ble_eq_true rfl⟩) (fun r_8 H locs hw_8 hP hS => ?_)
              have tr_8 : r_8.toInt = 32 + 7 * x0.toInt + x1.toInt := t_at hw_8 ⟨by omega, by omega⟩ ⟨by omega, by omega⟩
              have tr_8 : r_8.toInt = 32 + 7 * x0.toInt := by omega
              have zn_x0 : (x0.toNatClampNeg : Int) = x0.toInt := t_nn (by omega)
              have nr_8 : r_8.toNatClampNeg = 32 + 7 * x0.toNatClampNeg := by have z1 := t_nn (x := r_8) (by omega); omega
              refine va_iald hx hb hK hP (1) 0 (wm_at (by decide) rc_1) rfl (vp_in_iff.mpr ⟨by omega, by omega⟩) dX8_of_74 ?_
              refine lv_topi (fun x_9 ex_9 => ?_)
              have bzx_9 : 0 ≤ x_9.toInt ∧ x_9.toInt ≤ 7 := by rw [ex_9]; exact hv 1 _ 7 (bx_0 (i := x0.toInt) (s := 0) (by omega) ⟨by omega, by omega⟩ ⟨by omega, by omega⟩)
              rw [nr_8] at ex_9
              have qx_9 : x_9.toInt = (v 1 (32 + 7 * x0.toNatClampNeg)).toInt := congrArg Int32.toInt ex_9
              have hpost : (¬ (0 ≤ x0.toInt ∧ x0.toInt < (v 1 2).toInt) → (x_9 = -1) ∧ Fq v v) ∧ ((0 ≤ x0.toInt ∧ x0.toInt < (v 1 2).toInt) ∧ x1.toInt = 0 → (x_9 = v 1 (32 + 7 * x0.toNatClampNeg)) ∧ Fq v v) ∧ ((0 ≤ x0.toInt ∧ x0.toInt < (v 1 2).toInt) ∧ x1.toInt = 1 → (x_9 = v 1 (33 + 7 * x0.toNatClampNeg)) ∧ Fq v v) ∧ ((0 ≤ x0.toInt ∧ x0.toInt < (v 1 2).toInt) ∧ x1.toInt = 2 → (x_9 = v 1 (34 + 7 * x0.toNatClampNeg)) ∧ Fq v v) ∧ ((0 ≤ x0.toInt ∧ x0.toInt < (v 1 2).toInt) ∧ x1.toInt = 3 → (x_9 = v 1 (35 + 7 * x0.toNatClampNeg)) ∧ Fq v v) ∧ ((0 ≤ x0.toInt ∧ x0.toInt < (v 1 2).toInt) ∧ x1.toInt = 4 → (x_9 = v 1 (36 + 7 * x0.toNatClampNeg)) ∧ Fq v v) ∧ ((0 ≤ x0.toInt ∧ x0.toInt < (v 1 2).toInt) ∧ x1.toInt = 5 → (x_9 = v 3 x0.toNatClampNeg ∧ HD (v 1) (v 3)) ∧ Fq v v) ∧ ((0 ≤ x0.toInt ∧ x0.toInt < (v 1 2).toInt) ∧ x1.toInt = 6 → (x_9.toInt = cN (fun c => if (v 3 c).toInt = (v 3 x0.toNatClampNeg).toInt then 1 else 0) (v 1 2).toNatClampNeg ∧ HD (v 1) (v 3)) ∧ Fq v v) ∧ ((0 ≤ x0.toInt ∧ x0.toInt < (v 1 2).toInt) ∧ x1.toInt = 7 → (x_9 = v 1 (37 + 7 * x0.toNatClampNeg)) ∧ Fq v v) ∧ ((0 ≤ x0.toInt ∧ x0.toInt < (v 1 2).toInt) ∧ (x1.toInt < 0 ∨ 7 < x1.toInt) → (x_9 = -1) ∧ Fq v v) := by
                refine ⟨fun hq => ?_, fun hq => ?_, fun hq => ?_, fun hq => ?_, fun hq => ?_, fun hq => ?_, fun hq => ?_, fun hq => ?_, fun hq => ?_, fun hq => ?_⟩
                · exfalso; omega
                · exact ⟨by rw [ex_9], Fq.rf⟩
                · exfalso; omega
                · exfalso; omega
                · exfalso; omega
                · exfalso; omega
                · exfalso; omega
                · exfalso; omega
                · exfalso; omega
                · exfalso; omega
              exact W.iret (v := x_9) hx hb hr (fun t ht hW => ⟨⟨x_9, v, rfl, ⟨hv, hpost⟩, by rw [ht]; exact hP, hD⟩, hS.F ht⟩) hS.2.2 dX8_of_75
            · have tsw : x1.toInt = 1 := by rw [hsw]; decide
              refine yc_p hP hS (va_runS (As := [.int x0, .int x1]) (rest := [.ref (ad 1)]) ⟨hx, hb, hml, hown, hts⟩ (c_X8_at l x0 x1) (cwS 2 hts gX8_of_X8_at rfl rfl rfl (by decide +kernel) ⟨Nat.le_of_ble_eq_true rfl, Nat.le_of_ble_eq_true rfl⟩) ex_preP rfl rfl hl.1 rfl (lv_room (Nat.le_of_ble_eq_true rfl)) dX8_of_71 ⟨Nat.le_of_ble_eq_true rfl, Nat.le_of_ble_eq_true rfl⟩) (fun r_8 H locs hw_8 hP hS => ?_)
              have tr_8 : r_8.toInt = 32 + 7 * x0.toInt + x1.toInt := t_at hw_8 ⟨by omega, by omega⟩ ⟨by omega, by omega⟩
              have tr_8 : r_8.toInt = 33 + 7 * x0.toInt := by omega
              have zn_x0 : (x0.toNatClampNeg : Int) = x0.toInt := t_nn (by omega)
              have nr_8 : r_8.toNatClampNeg = 33 + 7 * x0.toNatClampNeg := by have z1 := t_nn (x := r_8) (by omega); omega
              refine va_iald hx hb hK hP (1) 0 (wm_at (by decide) rc_1) rfl (vp_in_iff.mpr ⟨by omega, by omega⟩) dX8_of_74 ?_
              refine lv_topi (fun x_9 ex_9 => ?_)
              have bzx_9 : 0 ≤ x_9.toInt ∧ x_9.toInt ≤ 7 := by rw [ex_9]; exact hv 1 _ 7 (bx_0 (i := x0.toInt) (s := 1) (by omega) ⟨by omega, by omega⟩ ⟨by omega, by omega⟩)
              rw [nr_8] at ex_9
              have qx_9 : x_9.toInt = (v 1 (33 + 7 * x0.toNatClampNeg)).toInt := congrArg Int32.toInt ex_9
              have hpost : (¬ (0 ≤ x0.toInt ∧ x0.toInt < (v 1 2).toInt) → (x_9 = -1) ∧ Fq v v) ∧ ((0 ≤ x0.toInt ∧ x0.toInt < (v 1 2).toInt) ∧ x1.toInt = 0 → (x_9 = v 1 (32 + 7 * x0.toNatClampNeg)) ∧ Fq v v) ∧ ((0 ≤ x0.toInt ∧ x0.toInt < (v 1 2).toInt) ∧ x1.toInt = 1 → (x_9 = v 1 (33 + 7 * x0.toNatClampNeg)) ∧ Fq v v) ∧ ((0 ≤ x0.toInt ∧ x0.toInt < (v 1 2).toInt) ∧ x1.toInt = 2 → (x_9 = v 1 (34 + 7 * x0.toNatClampNeg)) ∧ Fq v v) ∧ ((0 ≤ x0.toInt ∧ x0.toInt < (v 1 2).toInt) ∧ x1.toInt = 3 → (x_9 = v 1 (35 + 7 * x0.toNatClampNeg)) ∧ Fq v v) ∧ ((0 ≤ x0.toInt ∧ x0.toInt < (v 1 2).toInt) ∧ x1.toInt = 4 → (x_9 = v 1 (36 + 7 * x0.toNatClampNeg)) ∧ Fq v v) ∧ ((0 ≤ x0.toInt ∧ x0.toInt < (v 1 2).toInt) ∧ x1.toInt = 5 → (x_9 = v 3 x0.toNatClampNeg ∧ HD (v 1) (v 3)) ∧ Fq v v) ∧ ((0 ≤ x0.toInt ∧ x0.toInt < (v 1 2).toInt) ∧ x1.toInt = 6 → (x_9.toInt = cN (fun c => if (v 3 c).toInt = (v 3 x0.toNatClampNeg).toInt then 1 else 0) (v 1 2).toNatClampNeg ∧ HD (v 1) (v 3)) ∧ Fq v v) ∧ ((0 ≤ x0.toInt ∧ x0.toInt < (v 1 2).toInt) ∧ x1.toInt = 7 → (x_9 = v 1 (37 + 7 * x0.toNatClampNeg)) ∧ Fq v v) ∧ ((0 ≤ x0.toInt ∧ x0.toInt < (v 1 2).toInt) ∧ (x1.toInt < 0 ∨ 7 < x1.toInt) → (x_9 = -1) ∧ Fq v v) := by
                refine ⟨fun hq => ?_, fun hq => ?_, fun hq => ?_, fun hq => ?_, fun hq => ?_, fun hq => ?_, fun hq => ?_, fun hq => ?_, fun hq => ?_, fun hq => ?_⟩
                · exfalso; omega
                · exfalso; omega
                · exact ⟨by rw [ex_9], Fq.rf⟩
                · exfalso; omega
                · exfalso; omega
                · exfalso; omega
                · exfalso; omega
                · exfalso; omega
                · exfalso; omega
                · exfalso; omega
              exact W.iret (v := x_9) hx hb hr (fun t ht hW => ⟨⟨x_9, v, rfl, ⟨hv, hpost⟩, by rw [ht]; exact hP, hD⟩, hS.F ht⟩) hS.2.2 dX8_of_75
            · have tsw : x1.toInt = 2 := by rw [hsw]; decide
              refine yc_p hP hS (va_runS (As := [.int x0, .int x1]) (rest := [.ref (ad 1)]) ⟨hx, hb, hml, hown, hts⟩ (c_X8_at l x0 x1) (cwS 2 hts gX8_of_X8_at rfl rfl rfl (by decide +kernel) ⟨Nat.le_of_ble_eq_true rfl, Nat.le_of_ble_eq_true rfl⟩) ex_preP rfl rfl hl.1 rfl (lv_room (Nat.le_of_ble_eq_true rfl)) dX8_of_71 ⟨Nat.le_of_ble_eq_true rfl, Nat.le_of_ble_eq_true rfl⟩) (fun r_8 H locs hw_8 hP hS => ?_)
              have tr_8 : r_8.toInt = 32 + 7 * x0.toInt + x1.toInt := t_at hw_8 ⟨by omega, by omega⟩ ⟨by omega, by omega⟩
              have tr_8 : r_8.toInt = 34 + 7 * x0.toInt := by omega
              have zn_x0 : (x0.toNatClampNeg : Int) = x0.toInt := t_nn (by omega)
              have nr_8 : r_8.toNatClampNeg = 34 + 7 * x0.toNatClampNeg := by have z1 := t_nn (x := r_8) (by omega); omega
              refine va_iald hx hb hK hP (1) 0 (wm_at (by decide) rc_1) rfl (vp_in_iff.mpr ⟨by omega, by omega⟩) dX8_of_74 ?_
              refine lv_topi (fun x_9 ex_9 => ?_)
              rw [nr_8] at ex_9
              have qx_9 : x_9.toInt = (v 1 (34 + 7 * x0.toNatClampNeg)).toInt := congrArg Int32.toInt ex_9
              have hpost : (¬ (0 ≤ x0.toInt ∧ x0.toInt < (v 1 2).toInt) → (x_9 = -1) ∧ Fq v v) ∧ ((0 ≤ x0.toInt ∧ x0.toInt < (v 1 2).toInt) ∧ x1.toInt = 0 → (x_9 = v 1 (32 + 7 * x0.toNatClampNeg)) ∧ Fq v v) ∧ ((0 ≤ x0.toInt ∧ x0.toInt < (v 1 2).toInt) ∧ x1.toInt = 1 → (x_9 = v 1 (33 + 7 * x0.toNatClampNeg)) ∧ Fq v v) ∧ ((0 ≤ x0.toInt ∧ x0.toInt < (v 1 2).toInt) ∧ x1.toInt = 2 → (x_9 = v 1 (34 + 7 * x0.toNatClampNeg)) ∧ Fq v v) ∧ ((0 ≤ x0.toInt ∧ x0.toInt < (v 1 2).toInt) ∧ x1.toInt = 3 → (x_9 = v 1 (35 + 7 * x0.toNatClampNeg)) ∧ Fq v v) ∧ ((0 ≤ x0.toInt ∧ x0.toInt < (v 1 2).toInt) ∧ x1.toInt = 4 → (x_9 = v 1 (36 + 7 * x0.toNatClampNeg)) ∧ Fq v v) ∧ ((0 ≤ x0.toInt ∧ x0.toInt < (v 1 2).toInt) ∧ x1.toInt = 5 → (x_9 = v 3 x0.toNatClampNeg ∧ HD (v 1) (v 3)) ∧ Fq v v) ∧ ((0 ≤ x0.toInt ∧ x0.toInt < (v 1 2).toInt) ∧ x1.toInt = 6 → (x_9.toInt = cN (fun c => if (v 3 c).toInt = (v 3 x0.toNatClampNeg).toInt then 1 else 0) (v 1 2).toNatClampNeg ∧ HD (v 1) (v 3)) ∧ Fq v v) ∧ ((0 ≤ x0.toInt ∧ x0.toInt < (v 1 2).toInt) ∧ x1.toInt = 7 → (x_9 = v 1 (37 + 7 * x0.toNatClampNeg)) ∧ Fq v v) ∧ ((0 ≤ x0.toInt ∧ x0.toInt < (v 1 2).toInt) ∧ (x1.toInt < 0 ∨ 7 < x1.toInt) → (x_9 = -1) ∧ Fq v v) := by
                refine ⟨fun hq => ?_, fun hq => ?_, fun hq => ?_, fun hq => ?_, fun hq => ?_, fun hq => ?_, fun hq => ?_, fun hq => ?_, fun hq => ?_, fun hq => ?_⟩
                · exfalso; omega
                · exfalso; omega
                · exfalso; omega
                · exact ⟨by rw [ex_9], Fq.rf⟩
                · exfalso; omega
                · exfalso; omega
                · exfalso; omega
                · exfalso; omega
                · exfalso; omega
                · exfalso; omega
              exact W.iret (v := x_9) hx hb hr (fun t ht hW => ⟨⟨x_9, v, rfl, ⟨hv, hpost⟩, by rw [ht]; exact hP, hD⟩, hS.F ht⟩) hS.2.2 dX8_of_75
            · have tsw : x1.toInt = 3 := by rw [hsw]; decide
              refine yc_p hP hS (va_runS (As := [.int x0, .int x1]) (rest := [.ref (ad 1)]) ⟨hx, hb, hml, hown, hts⟩ (c_X8_at l x0 x1) (cwS 2 hts gX8_of_X8_at rfl rfl rfl (by decide +kernel) ⟨Nat.le_of_ble_eq_true rfl, Nat.le_of_ble_eq_true rfl⟩) ex_preP rfl rfl hl.1 rfl (lv_room (Nat.le_of_ble_eq_true rfl)) dX8_of_71 ⟨Nat.le_of_ble_eq_true rfl, Nat.le_of_ble_eq_true rfl⟩) (fun r_8 H locs hw_8 hP hS => ?_)
              have tr_8 : r_8.toInt = 32 + 7 * x0.toInt + x1.toInt := t_at hw_8 ⟨by omega, by omega⟩ ⟨by omega, by omega⟩
              have tr_8 : r_8.toInt = 35 + 7 * x0.toInt := by omega
              have zn_x0 : (x0.toNatClampNeg : Int) = x0.toInt := t_nn (by omega)
              have nr_8 : r_8.toNatClampNeg = 35 + 7 * x0.toNatClampNeg := by have z1 := t_nn (x := r_8) (by omega); omega
              refine va_iald hx hb hK hP (1) 0 (wm_at (by decide) rc_1) rfl (vp_in_iff.mpr ⟨by omega, by omega⟩) dX8_of_74 ?_
              refine lv_topi (fun x_9 ex_9 => ?_)
              rw [nr_8] at ex_9
              have qx_9 : x_9.toInt = (v 1 (35 + 7 * x0.toNatClampNeg)).toInt := congrArg Int32.toInt ex_9
              have hpost : (¬ (0 ≤ x0.toInt ∧ x0.toInt < (v 1 2).toInt) → (x_9 = -1) ∧ Fq v v) ∧ ((0 ≤ x0.toInt ∧ x0.toInt < (v 1 2).toInt) ∧ x1.toInt = 0 → (x_9 = v 1 (32 + 7 * x0.toNatClampNeg)) ∧ Fq v v) ∧ ((0 ≤ x0.toInt ∧ x0.toInt < (v 1 2).toInt) ∧ x1.toInt = 1 → (x_9 = v 1 (33 + 7 * x0.toNatClampNeg)) ∧ Fq v v) ∧ ((0 ≤ x0.toInt ∧ x0.toInt < (v 1 2).toInt) ∧ x1.toInt = 2 → (x_9 = v 1 (34 + 7 * x0.toNatClampNeg)) ∧ Fq v v) ∧ ((0 ≤ x0.toInt ∧ x0.toInt < (v 1 2).toInt) ∧ x1.toInt = 3 → (x_9 = v 1 (35 + 7 * x0.toNatClampNeg)) ∧ Fq v v) ∧ ((0 ≤ x0.toInt ∧ x0.toInt < (v 1 2).toInt) ∧ x1.toInt = 4 → (x_9 = v 1 (36 + 7 * x0.toNatClampNeg)) ∧ Fq v v) ∧ ((0 ≤ x0.toInt ∧ x0.toInt < (v 1 2).toInt) ∧ x1.toInt = 5 → (x_9 = v 3 x0.toNatClampNeg ∧ HD (v 1) (v 3)) ∧ Fq v v) ∧ ((0 ≤ x0.toInt ∧ x0.toInt < (v 1 2).toInt) ∧ x1.toInt = 6 → (x_9.toInt = cN (fun c => if (v 3 c).toInt = (v 3 x0.toNatClampNeg).toInt then 1 else 0) (v 1 2).toNatClampNeg ∧ HD (v 1) (v 3)) ∧ Fq v v) ∧ ((0 ≤ x0.toInt ∧ x0.toInt < (v 1 2).toInt) ∧ x1.toInt = 7 → (x_9 = v 1 (37 + 7 * x0.toNatClampNeg)) ∧ Fq v v) ∧ ((0 ≤ x0.toInt ∧ x0.toInt < (v 1 2).toInt) ∧ (x1.toInt < 0 ∨ 7 < x1.toInt) → (x_9 = -1) ∧ Fq v v) := by
                refine ⟨fun hq => ?_, fun hq => ?_, fun hq => ?_, fun hq => ?_, fun hq => ?_, fun hq => ?_, fun hq => ?_, fun hq => ?_, fun hq => ?_, fun hq => ?_⟩
                · exfalso; omega
                · exfalso; omega
                · exfalso; omega
                · exfalso; omega
                · exact ⟨by rw [ex_9], Fq.rf⟩
                · exfalso; omega
                · exfalso; omega
                · exfalso; omega
                · exfalso; omega
                · exfalso; omega
              exact W.iret (v := x_9) hx hb hr (fun t ht hW => ⟨⟨x_9, v, rfl, ⟨hv, hpost⟩, by rw [ht]; exact hP, hD⟩, hS.F ht⟩) hS.2.2 dX8_of_75
            · have tsw : x1.toInt = 4 := by rw [hsw]; decide
              refine yc_p hP hS (va_runS (As := [.int x0, .int x1]) (rest := [.ref (ad 1)]) ⟨hx, hb, hml, hown, hts⟩ (c_X8_at l x0 x1) (cwS 2 hts gX8_of_X8_at rfl rfl rfl (by decide +kernel) ⟨Nat.le_of_ble_eq_true rfl, Nat.le_of_ble_eq_true rfl⟩) ex_preP rfl rfl hl.1 rfl (lv_room (Nat.le_of_ble_eq_true rfl)) dX8_of_71 ⟨Nat.le_of_ble_eq_true rfl, Nat.le_of_ble_eq_true rfl⟩) (fun r_8 H locs hw_8 hP hS => ?_)
              have tr_8 : r_8.toInt = 32 + 7 * x0.toInt + x1.toInt := t_at hw_8 ⟨by omega, by omega⟩ ⟨by omega, by omega⟩
              have tr_8 : r_8.toInt = 36 + 7 * x0.toInt := by omega
              have zn_x0 : (x0.toNatClampNeg : Int) = x0.toInt := t_nn (by omega)
              have nr_8 : r_8.toNatClampNeg = 36 + 7 * x0.toNatClampNeg := by have z1 := t_nn (x := r_8) (by omega); omega
              refine va_iald hx hb hK hP (1) 0 (wm_at (by decide) rc_1) rfl (vp_in_iff.mpr ⟨by omega, by omega⟩) dX8_of_74 ?_
              refine lv_topi (fun x_9 ex_9 => ?_)
              have bzx_9 : 0 ≤ x_9.toInt ∧ x_9.toInt ≤ 5 := by rw [ex_9]; exact hv 1 _ 5 (bx_4 (i := x0.toInt) (s := 4) (by omega) ⟨by omega, by omega⟩ (by omega))
              rw [nr_8] at ex_9
              have qx_9 : x_9.toInt = (v 1 (36 + 7 * x0.toNatClampNeg)).toInt := congrArg Int32.toInt ex_9
              have hpost : (¬ (0 ≤ x0.toInt ∧ x0.toInt < (v 1 2).toInt) → (x_9 = -1) ∧ Fq v v) ∧ ((0 ≤ x0.toInt ∧ x0.toInt < (v 1 2).toInt) ∧ x1.toInt = 0 → (x_9 = v 1 (32 + 7 * x0.toNatClampNeg)) ∧ Fq v v) ∧ ((0 ≤ x0.toInt ∧ x0.toInt < (v 1 2).toInt) ∧ x1.toInt = 1 → (x_9 = v 1 (33 + 7 * x0.toNatClampNeg)) ∧ Fq v v) ∧ ((0 ≤ x0.toInt ∧ x0.toInt < (v 1 2).toInt) ∧ x1.toInt = 2 → (x_9 = v 1 (34 + 7 * x0.toNatClampNeg)) ∧ Fq v v) ∧ ((0 ≤ x0.toInt ∧ x0.toInt < (v 1 2).toInt) ∧ x1.toInt = 3 → (x_9 = v 1 (35 + 7 * x0.toNatClampNeg)) ∧ Fq v v) ∧ ((0 ≤ x0.toInt ∧ x0.toInt < (v 1 2).toInt) ∧ x1.toInt = 4 → (x_9 = v 1 (36 + 7 * x0.toNatClampNeg)) ∧ Fq v v) ∧ ((0 ≤ x0.toInt ∧ x0.toInt < (v 1 2).toInt) ∧ x1.toInt = 5 → (x_9 = v 3 x0.toNatClampNeg ∧ HD (v 1) (v 3)) ∧ Fq v v) ∧ ((0 ≤ x0.toInt ∧ x0.toInt < (v 1 2).toInt) ∧ x1.toInt = 6 → (x_9.toInt = cN (fun c => if (v 3 c).toInt = (v 3 x0.toNatClampNeg).toInt then 1 else 0) (v 1 2).toNatClampNeg ∧ HD (v 1) (v 3)) ∧ Fq v v) ∧ ((0 ≤ x0.toInt ∧ x0.toInt < (v 1 2).toInt) ∧ x1.toInt = 7 → (x_9 = v 1 (37 + 7 * x0.toNatClampNeg)) ∧ Fq v v) ∧ ((0 ≤ x0.toInt ∧ x0.toInt < (v 1 2).toInt) ∧ (x1.toInt < 0 ∨ 7 < x1.toInt) → (x_9 = -1) ∧ Fq v v) := by
                refine ⟨fun hq => ?_, fun hq => ?_, fun hq => ?_, fun hq => ?_, fun hq => ?_, fun hq => ?_, fun hq => ?_, fun hq => ?_, fun hq => ?_, fun hq => ?_⟩
                · exfalso; omega
                · exfalso; omega
                · exfalso; omega
                · exfalso; omega
                · exfalso; omega
                · exact ⟨by rw [ex_9], Fq.rf⟩
                · exfalso; omega
                · exfalso; omega
                · exfalso; omega
                · exfalso; omega
              exact W.iret (v := x_9) hx hb hr (fun t ht hW => ⟨⟨x_9, v, rfl, ⟨hv, hpost⟩, by rw [ht]; exact hP, hD⟩, hS.F ht⟩) hS.2.2 dX8_of_75
          · have tc_7 : x1.toInt = (7 : Int32).toInt := by rw [c_7]
            refine lv_iconst (v := 5) hx hb dX8_of_66 (by decide) ?_
            refine lv_goto (tgt := 71) hx hb dX8_of_67 (by decide) ?_
            refine yc_p hP hS (va_runS (As := [.int x0, .int 5]) (rest := [.ref (ad 1)]) ⟨hx, hb, hml, hown, hts⟩ (c_X8_at l x0 5) (cwS 2 hts gX8_of_X8_at rfl rfl rfl (by decide +kernel) ⟨Nat.le_of_ble_eq_true rfl, Nat.le_of_ble_eq_true rfl⟩) ex_preP rfl rfl hl.1 rfl (lv_room (Nat.le_of_ble_eq_true rfl)) dX8_of_71 ⟨Nat.le_of_ble_eq_true rfl, Nat.le_of_ble_eq_true rfl⟩) (fun r_8 H locs hw_8 hP hS => ?_)
            have tr_8 : r_8.toInt = 32 + 7 * x0.toInt + (5 : Int32).toInt := t_at hw_8 ⟨by omega, by omega⟩ ⟨by omega, by omega⟩
            have zn_x0 : (x0.toNatClampNeg : Int) = x0.toInt := t_nn (by omega)
            have nr_8 : r_8.toNatClampNeg = 37 + 7 * x0.toNatClampNeg := by have z1 := t_nn (x := r_8) (by omega); omega
            refine va_iald hx hb hK hP (1) 0 (wm_at (by decide) rc_1) rfl (vp_in_iff.mpr ⟨by omega, by omega⟩) dX8_of_74 ?_
            refine lv_topi (fun x_9 ex_9 => ?_)
            rw [nr_8] at ex_9
            have qx_9 : x_9.toInt = (v 1 (37 + 7 * x0.toNatClampNeg)).toInt := congrArg Int32.toInt ex_9
            have hpost : (¬ (0 ≤ x0.toInt ∧ x0.toInt < (v 1 2).toInt) → (x_9 = -1) ∧ Fq v v) ∧ ((0 ≤ x0.toInt ∧ x0.toInt < (v 1 2).toInt) ∧ x1.toInt = 0 → (x_9 = v 1 (32 + 7 * x0.toNatClampNeg)) ∧ Fq v v) ∧ ((0 ≤ x0.toInt ∧ x0.toInt < (v 1 2).toInt) ∧ x1.toInt = 1 → (x_9 = v 1 (33 + 7 * x0.toNatClampNeg)) ∧ Fq v v) ∧ ((0 ≤ x0.toInt ∧ x0.toInt < (v 1 2).toInt) ∧ x1.toInt = 2 → (x_9 = v 1 (34 + 7 * x0.toNatClampNeg)) ∧ Fq v v) ∧ ((0 ≤ x0.toInt ∧ x0.toInt < (v 1 2).toInt) ∧ x1.toInt = 3 → (x_9 = v 1 (35 + 7 * x0.toNatClampNeg)) ∧ Fq v v) ∧ ((0 ≤ x0.toInt ∧ x0.toInt < (v 1 2).toInt) ∧ x1.toInt = 4 → (x_9 = v 1 (36 + 7 * x0.toNatClampNeg)) ∧ Fq v v) ∧ ((0 ≤ x0.toInt ∧ x0.toInt < (v 1 2).toInt) ∧ x1.toInt = 5 → (x_9 = v 3 x0.toNatClampNeg ∧ HD (v 1) (v 3)) ∧ Fq v v) ∧ ((0 ≤ x0.toInt ∧ x0.toInt < (v 1 2).toInt) ∧ x1.toInt = 6 → (x_9.toInt = cN (fun c => if (v 3 c).toInt = (v 3 x0.toNatClampNeg).toInt then 1 else 0) (v 1 2).toNatClampNeg ∧ HD (v 1) (v 3)) ∧ Fq v v) ∧ ((0 ≤ x0.toInt ∧ x0.toInt < (v 1 2).toInt) ∧ x1.toInt = 7 → (x_9 = v 1 (37 + 7 * x0.toNatClampNeg)) ∧ Fq v v) ∧ ((0 ≤ x0.toInt ∧ x0.toInt < (v 1 2).toInt) ∧ (x1.toInt < 0 ∨ 7 < x1.toInt) → (x_9 = -1) ∧ Fq v v) := by
              refine ⟨fun hq => ?_, fun hq => ?_, fun hq => ?_, fun hq => ?_, fun hq => ?_, fun hq => ?_, fun hq => ?_, fun hq => ?_, fun hq => ?_, fun hq => ?_⟩
              · exfalso; omega
              · exfalso; omega
              · exfalso; omega
              · exfalso; omega
              · exfalso; omega
              · exfalso; omega
              · exfalso; omega
              · exfalso; omega
              · exact ⟨by rw [ex_9], Fq.rf⟩
              · exfalso; omega
            exact W.iret (v := x_9) hx hb hr (fun t ht hW => ⟨⟨x_9, v, rfl, ⟨hv, hpost⟩, by rw [ht]; exact hP, hD⟩, hS.F ht⟩) hS.2.2 dX8_of_75
        · have tc_6 : x1.toInt = (6 : Int32).toInt := by rw [c_6]
          refine lv_aload_n hx hb dX8_of_31 rfl (lv_at hl 0 rfl) ?_
          refine yw_v (w1 := fun (u : Nat → Nat → Int32) => wm ad cy u) hD hS hA (va_runV (As := []) (rest := []) ⟨hx, hb, hml, hown, hts⟩ (e_X8_findHeads l dC dI cy _ ad v hv hG) (cwV 0 hts gX8_of_X8_findHeads rfl rfl rfl (by decide +kernel) ⟨Nat.le_of_ble_eq_true rfl, Nat.le_of_ble_eq_true rfl⟩) (yw_preV hE hK hP hD (ci := 8) (q0 := 0) rfl (wm_at (by decide) rc_0)) rfl rfl hl.1 rfl (lv_room (Nat.le_of_ble_eq_true rfl)) dX8_of_32 ⟨Nat.le_of_ble_eq_true rfl, Nat.le_of_ble_eq_true rfl⟩) (fun v_7 H locs hw_7 hP hD hS => ?_)
          obtain ⟨hv, hf_7, hw_7⟩ := hw_7
          refine lv_iload_n hx hb dX8_of_35 rfl (lv_at hl 2 rfl) ?_
          refine lv_iconst (v := 5) hx hb dX8_of_36 (by decide) ?_
          refine lv_icmp_ne (tgt := 49) hx hb dX8_of_37 (by decide) (fun c_8 => ?_) (fun c_8 => ?_)
          · have tc_8 : x1.toInt ≠ (5 : Int32).toInt := fun q => absurd (Int32.toInt_inj.mp q) c_8
            refine lv_aload_n hx hb dX8_of_49 rfl (lv_at hl 0 rfl) ?_
            refine lv_iload_n hx hb dX8_of_50 rfl (lv_at hl 1 rfl) ?_
            refine yw_i (w1 := fun (u : Nat → Nat → Int32) => wm ad cy u) hD hS hA (va_runV (As := [.int x0]) (rest := []) ⟨hx, hb, hml, hown, hts⟩ (e_X8_joined l dC dI cy _ ad v_7 hv x0 ⟨by omega, by omega⟩) (cwV 1 hts gX8_of_X8_joined rfl rfl rfl (by decide +kernel) ⟨Nat.le_of_ble_eq_true rfl, Nat.le_of_ble_eq_true rfl⟩) (yw_preV hE hK hP hD (ci := 8) (q0 := 0) rfl (wm_at (by decide) rc_0)) rfl rfl hl.1 rfl (lv_room (Nat.le_of_ble_eq_true rfl)) dX8_of_51 ⟨Nat.le_of_ble_eq_true rfl, Nat.le_of_ble_eq_true rfl⟩) (fun r_9 v_9 H locs hw_9 hP hD hS => ?_)
            obtain ⟨-, hu_9, hw_9⟩ := hw_9
            replace hu_9 := hu_9.symm
            subst hu_9
            have hpost : (¬ (0 ≤ x0.toInt ∧ x0.toInt < (v 1 2).toInt) → (r_9 = -1) ∧ Fq v v_7) ∧ ((0 ≤ x0.toInt ∧ x0.toInt < (v 1 2).toInt) ∧ x1.toInt = 0 → (r_9 = v 1 (32 + 7 * x0.toNatClampNeg)) ∧ Fq v v_7) ∧ ((0 ≤ x0.toInt ∧ x0.toInt < (v 1 2).toInt) ∧ x1.toInt = 1 → (r_9 = v 1 (33 + 7 * x0.toNatClampNeg)) ∧ Fq v v_7) ∧ ((0 ≤ x0.toInt ∧ x0.toInt < (v 1 2).toInt) ∧ x1.toInt = 2 → (r_9 = v 1 (34 + 7 * x0.toNatClampNeg)) ∧ Fq v v_7) ∧ ((0 ≤ x0.toInt ∧ x0.toInt < (v 1 2).toInt) ∧ x1.toInt = 3 → (r_9 = v 1 (35 + 7 * x0.toNatClampNeg)) ∧ Fq v v_7) ∧ ((0 ≤ x0.toInt ∧ x0.toInt < (v 1 2).toInt) ∧ x1.toInt = 4 → (r_9 = v 1 (36 + 7 * x0.toNatClampNeg)) ∧ Fq v v_7) ∧ ((0 ≤ x0.toInt ∧ x0.toInt < (v 1 2).toInt) ∧ x1.toInt = 5 → (r_9 = v_7 3 x0.toNatClampNeg ∧ HD (v 1) (v_7 3)) ∧ Fq v v_7) ∧ ((0 ≤ x0.toInt ∧ x0.toInt < (v 1 2).toInt) ∧ x1.toInt = 6 → (r_9.toInt = cN (fun c => if (v_7 3 c).toInt = (v_7 3 x0.toNatClampNeg).toInt then 1 else 0) (v 1 2).toNatClampNeg ∧ HD (v 1) (v_7 3)) ∧ Fq v v_7) ∧ ((0 ≤ x0.toInt ∧ x0.toInt < (v 1 2).toInt) ∧ x1.toInt = 7 → (r_9 = v 1 (37 + 7 * x0.toNatClampNeg)) ∧ Fq v v_7) ∧ ((0 ≤ x0.toInt ∧ x0.toInt < (v 1 2).toInt) ∧ (x1.toInt < 0 ∨ 7 < x1.toInt) → (r_9 = -1) ∧ Fq v v_7) := by
              refine ⟨fun hq => ?_, fun hq => ?_, fun hq => ?_, fun hq => ?_, fun hq => ?_, fun hq => ?_, fun hq => ?_, fun hq => ?_, fun hq => ?_, fun hq => ?_⟩
              · exfalso; omega
              · exfalso; omega
              · exfalso; omega
              · exfalso; omega
              · exfalso; omega
              · exfalso; omega
              · exfalso; omega
              · exact ⟨⟨by have q9 := hw_9; rw [hf_7.1] at q9; exact q9, hw_7⟩, hf_7⟩
              · exfalso; omega
              · exfalso; omega
            exact W.iret (v := r_9) hx hb hr (fun t ht hW => ⟨⟨r_9, v_7, rfl, ⟨hv, hpost⟩, by rw [ht]; exact hP, hD⟩, hS.F ht⟩) hS.2.2 dX8_of_54
          · have tc_8 : x1.toInt = (5 : Int32).toInt := by rw [c_8]
            exfalso
            omega
    · have k_0 : (0 : Int32).toInt = 0 := by decide
      have k_7 : (7 : Int32).toInt = 7 := by decide
      have tc_4 : ¬ ((0 : Int32).toInt ≤ x1.toInt ∧ x1.toInt ≤ (7 : Int32).toInt) := fun q => hc_4 ⟨Int32.le_iff_toInt_le.mpr q.1, Int32.le_iff_toInt_le.mpr q.2⟩
      refine lv_if_ne (tgt := 20) hx hb dX8_of_15 (by decide) (fun c9 => absurd c9 (by decide)) (fun _ => ?_)
      refine lv_iconst (v := (-1)) hx hb dX8_of_18 (by decide) ?_
      have hpost : (¬ (0 ≤ x0.toInt ∧ x0.toInt < (v 1 2).toInt) → (((-1) : Int32) = -1) ∧ Fq v v) ∧ ((0 ≤ x0.toInt ∧ x0.toInt < (v 1 2).toInt) ∧ x1.toInt = 0 → (((-1) : Int32) = v 1 (32 + 7 * x0.toNatClampNeg)) ∧ Fq v v) ∧ ((0 ≤ x0.toInt ∧ x0.toInt < (v 1 2).toInt) ∧ x1.toInt = 1 → (((-1) : Int32) = v 1 (33 + 7 * x0.toNatClampNeg)) ∧ Fq v v) ∧ ((0 ≤ x0.toInt ∧ x0.toInt < (v 1 2).toInt) ∧ x1.toInt = 2 → (((-1) : Int32) = v 1 (34 + 7 * x0.toNatClampNeg)) ∧ Fq v v) ∧ ((0 ≤ x0.toInt ∧ x0.toInt < (v 1 2).toInt) ∧ x1.toInt = 3 → (((-1) : Int32) = v 1 (35 + 7 * x0.toNatClampNeg)) ∧ Fq v v) ∧ ((0 ≤ x0.toInt ∧ x0.toInt < (v 1 2).toInt) ∧ x1.toInt = 4 → (((-1) : Int32) = v 1 (36 + 7 * x0.toNatClampNeg)) ∧ Fq v v) ∧ ((0 ≤ x0.toInt ∧ x0.toInt < (v 1 2).toInt) ∧ x1.toInt = 5 → (((-1) : Int32) = v 3 x0.toNatClampNeg ∧ HD (v 1) (v 3)) ∧ Fq v v) ∧ ((0 ≤ x0.toInt ∧ x0.toInt < (v 1 2).toInt) ∧ x1.toInt = 6 → (((-1) : Int32).toInt = cN (fun c => if (v 3 c).toInt = (v 3 x0.toNatClampNeg).toInt then 1 else 0) (v 1 2).toNatClampNeg ∧ HD (v 1) (v 3)) ∧ Fq v v) ∧ ((0 ≤ x0.toInt ∧ x0.toInt < (v 1 2).toInt) ∧ x1.toInt = 7 → (((-1) : Int32) = v 1 (37 + 7 * x0.toNatClampNeg)) ∧ Fq v v) ∧ ((0 ≤ x0.toInt ∧ x0.toInt < (v 1 2).toInt) ∧ (x1.toInt < 0 ∨ 7 < x1.toInt) → (((-1) : Int32) = -1) ∧ Fq v v) := by
        refine ⟨fun hq => ?_, fun hq => ?_, fun hq => ?_, fun hq => ?_, fun hq => ?_, fun hq => ?_, fun hq => ?_, fun hq => ?_, fun hq => ?_, fun hq => ?_⟩
        · exfalso; omega
        · exfalso; omega
        · exfalso; omega
        · exfalso; omega
        · exfalso; omega
        · exfalso; omega
        · exfalso; omega
        · exfalso; omega
        · exfalso; omega
        · exact ⟨rfl, Fq.rf⟩
      exact W.iret (v := (-1)) hx hb hr (fun t ht hW => ⟨⟨(-1), v, rfl, ⟨hv, hpost⟩, by rw [ht]; exact hP, hD⟩, hS.F ht⟩) hS.2.2 dX8_of_19
  · refine lv_if_eq (tgt := 18) hx hb dX8_of_5 (by decide) (fun _ => ?_) (fun c9 => absurd c9 (by decide))
    refine lv_iconst (v := (-1)) hx hb dX8_of_18 (by decide) ?_
    have hpost : (¬ (0 ≤ x0.toInt ∧ x0.toInt < (v 1 2).toInt) → (((-1) : Int32) = -1) ∧ Fq v v) ∧ ((0 ≤ x0.toInt ∧ x0.toInt < (v 1 2).toInt) ∧ x1.toInt = 0 → (((-1) : Int32) = v 1 (32 + 7 * x0.toNatClampNeg)) ∧ Fq v v) ∧ ((0 ≤ x0.toInt ∧ x0.toInt < (v 1 2).toInt) ∧ x1.toInt = 1 → (((-1) : Int32) = v 1 (33 + 7 * x0.toNatClampNeg)) ∧ Fq v v) ∧ ((0 ≤ x0.toInt ∧ x0.toInt < (v 1 2).toInt) ∧ x1.toInt = 2 → (((-1) : Int32) = v 1 (34 + 7 * x0.toNatClampNeg)) ∧ Fq v v) ∧ ((0 ≤ x0.toInt ∧ x0.toInt < (v 1 2).toInt) ∧ x1.toInt = 3 → (((-1) : Int32) = v 1 (35 + 7 * x0.toNatClampNeg)) ∧ Fq v v) ∧ ((0 ≤ x0.toInt ∧ x0.toInt < (v 1 2).toInt) ∧ x1.toInt = 4 → (((-1) : Int32) = v 1 (36 + 7 * x0.toNatClampNeg)) ∧ Fq v v) ∧ ((0 ≤ x0.toInt ∧ x0.toInt < (v 1 2).toInt) ∧ x1.toInt = 5 → (((-1) : Int32) = v 3 x0.toNatClampNeg ∧ HD (v 1) (v 3)) ∧ Fq v v) ∧ ((0 ≤ x0.toInt ∧ x0.toInt < (v 1 2).toInt) ∧ x1.toInt = 6 → (((-1) : Int32).toInt = cN (fun c => if (v 3 c).toInt = (v 3 x0.toNatClampNeg).toInt then 1 else 0) (v 1 2).toNatClampNeg ∧ HD (v 1) (v 3)) ∧ Fq v v) ∧ ((0 ≤ x0.toInt ∧ x0.toInt < (v 1 2).toInt) ∧ x1.toInt = 7 → (((-1) : Int32) = v 1 (37 + 7 * x0.toNatClampNeg)) ∧ Fq v v) ∧ ((0 ≤ x0.toInt ∧ x0.toInt < (v 1 2).toInt) ∧ (x1.toInt < 0 ∨ 7 < x1.toInt) → (((-1) : Int32) = -1) ∧ Fq v v) := by
      refine ⟨fun hq => ?_, fun hq => ?_, fun hq => ?_, fun hq => ?_, fun hq => ?_, fun hq => ?_, fun hq => ?_, fun hq => ?_, fun hq => ?_, fun hq => ?_⟩
      · exact ⟨rfl, Fq.rf⟩
      · exfalso; omega
      · exfalso; omega
      · exfalso; omega
      · exfalso; omega
      · exfalso; omega
      · exfalso; omega
      · exfalso; omega
      · exfalso; omega
      · exfalso; omega
    exact W.iret (v := (-1)) hx hb hr (fun t ht hW => ⟨⟨(-1), v, rfl, ⟨hv, hpost⟩, by rw [ht]; exact hP, hD⟩, hS.F ht⟩) hS.2.2 dX8_of_19

/-- the marks of both sides as one graph -/
theorem RG_M {v : Nat → Nat → Int32} {s : Nat → Int32} (h : RG 13 v s) (h2 : (s 2).toInt ≤ 6) {n : Nat} (hn : (n : Int) = (s 2).toInt) : MG s ∧ ∀ c : Nat, c < n → ok6 ((fun c => v (29 + 15 * c) 4) c) ∧ ∀ d : Nat, d < 6 → (bt ((fun c => v (29 + 15 * c) 4) c) d ↔ adj s c d) := by
  refine ⟨h.2, fun c hc => ?_⟩
  obtain ⟨g1, g2⟩ := h.1 c (by omega) (by omega)
  exact ⟨g1, g2⟩

set_option maxHeartbeats 4000000 in
theorem T_of {n r r2 x0 x1 : Int32} {v u v2 u2 : Nat → Nat → Int32} (hI : Iv v) (hQ : Ir v2) (h : RR n v v2) (p : (¬ (0 ≤ x0.toInt ∧ x0.toInt < (v 13 2).toInt) → (r = -1) ∧ u = v) ∧ ((0 ≤ x0.toInt ∧ x0.toInt < (v 13 2).toInt) ∧ x1.toInt = 0 → (r = v (30 + 15 * x0.toNatClampNeg) 0) ∧ u = v) ∧ ((0 ≤ x0.toInt ∧ x0.toInt < (v 13 2).toInt) ∧ x1.toInt = 1 → (r = v (30 + 15 * x0.toNatClampNeg) 1) ∧ u = v) ∧ ((0 ≤ x0.toInt ∧ x0.toInt < (v 13 2).toInt) ∧ x1.toInt = 2 → (r = v (29 + 15 * x0.toNatClampNeg) 0) ∧ u = v) ∧ ((0 ≤ x0.toInt ∧ x0.toInt < (v 13 2).toInt) ∧ x1.toInt = 3 → (((v (29 + 15 * x0.toNatClampNeg) 0).toInt = 1 → r = v (29 + 15 * x0.toNatClampNeg) 1) ∧ ((v (29 + 15 * x0.toNatClampNeg) 0).toInt ≠ 1 → r = -5)) ∧ u = v) ∧ ((0 ≤ x0.toInt ∧ x0.toInt < (v 13 2).toInt) ∧ x1.toInt = 4 → (r = v (29 + 15 * x0.toNatClampNeg) 2) ∧ u = v) ∧ ((0 ≤ x0.toInt ∧ x0.toInt < (v 13 2).toInt) ∧ x1.toInt = 5 → (r.toInt = ((hF (qB (fun c => v (29 + 15 * c) 4) (v 13 2).toNatClampNeg x0) x0.toNatClampNeg : Nat) : Int)) ∧ u = v) ∧ ((0 ≤ x0.toInt ∧ x0.toInt < (v 13 2).toInt) ∧ x1.toInt = 6 → (r = bcF (qB (fun c => v (29 + 15 * c) 4) (v 13 2).toNatClampNeg x0)) ∧ u = v) ∧ ((0 ≤ x0.toInt ∧ x0.toInt < (v 13 2).toInt) ∧ x1.toInt = 7 → (r = v (29 + 15 * x0.toNatClampNeg) 3) ∧ u = v) ∧ ((0 ≤ x0.toInt ∧ x0.toInt < (v 13 2).toInt) ∧ (x1.toInt < 0 ∨ 7 < x1.toInt) → (r = -1) ∧ u = v)) (q : (¬ (0 ≤ x0.toInt ∧ x0.toInt < (v2 1 2).toInt) → (r2 = -1) ∧ Fq v2 u2) ∧ ((0 ≤ x0.toInt ∧ x0.toInt < (v2 1 2).toInt) ∧ x1.toInt = 0 → (r2 = v2 1 (32 + 7 * x0.toNatClampNeg)) ∧ Fq v2 u2) ∧ ((0 ≤ x0.toInt ∧ x0.toInt < (v2 1 2).toInt) ∧ x1.toInt = 1 → (r2 = v2 1 (33 + 7 * x0.toNatClampNeg)) ∧ Fq v2 u2) ∧ ((0 ≤ x0.toInt ∧ x0.toInt < (v2 1 2).toInt) ∧ x1.toInt = 2 → (r2 = v2 1 (34 + 7 * x0.toNatClampNeg)) ∧ Fq v2 u2) ∧ ((0 ≤ x0.toInt ∧ x0.toInt < (v2 1 2).toInt) ∧ x1.toInt = 3 → (r2 = v2 1 (35 + 7 * x0.toNatClampNeg)) ∧ Fq v2 u2) ∧ ((0 ≤ x0.toInt ∧ x0.toInt < (v2 1 2).toInt) ∧ x1.toInt = 4 → (r2 = v2 1 (36 + 7 * x0.toNatClampNeg)) ∧ Fq v2 u2) ∧ ((0 ≤ x0.toInt ∧ x0.toInt < (v2 1 2).toInt) ∧ x1.toInt = 5 → (r2 = u2 3 x0.toNatClampNeg ∧ HD (v2 1) (u2 3)) ∧ Fq v2 u2) ∧ ((0 ≤ x0.toInt ∧ x0.toInt < (v2 1 2).toInt) ∧ x1.toInt = 6 → (r2.toInt = cN (fun c => if (u2 3 c).toInt = (u2 3 x0.toNatClampNeg).toInt then 1 else 0) (v2 1 2).toNatClampNeg ∧ HD (v2 1) (u2 3)) ∧ Fq v2 u2) ∧ ((0 ≤ x0.toInt ∧ x0.toInt < (v2 1 2).toInt) ∧ x1.toInt = 7 → (r2 = v2 1 (37 + 7 * x0.toNatClampNeg)) ∧ Fq v2 u2) ∧ ((0 ≤ x0.toInt ∧ x0.toInt < (v2 1 2).toInt) ∧ (x1.toInt < 0 ∨ 7 < x1.toInt) → (r2 = -1) ∧ Fq v2 u2)) : r = r2 ∧ RR n u u2 := by
  have e0 : v 13 0 = v2 1 0 := h.1.1 _ _ _ (lk_a (by decide))
  have e1 : v 13 1 = v2 1 1 := h.1.1 _ _ _ (lk_a (by decide))
  have e2 : v 13 2 = v2 1 2 := h.1.1 _ _ _ (lk_a (by decide))
  have e3 : v 13 3 = v2 1 3 := h.1.1 _ _ _ (lk_a (by decide))
  have hb0 := hQ 1 0 8 (by decide)
  have hb1 := hQ 1 1 4 (by decide)
  have hb2 := hQ 1 2 6 (by decide)
  have hb3 := hQ 1 3 6 (by decide)
  rw [e2] at p
  by_cases hC : (0 ≤ x0.toInt ∧ x0.toInt < (v2 1 2).toInt)
  · have zX := t_nn (x := x0) (by omega)
    have hX : x0.toNatClampNeg < 6 := by omega
    have ha : (x0.toNatClampNeg : Int) < (v2 1 2).toInt := by omega
    have zn := t_nn (x := v2 1 2) (by omega)
    obtain ⟨hG, hM⟩ := RG_M h.1.2.2.2 hb2.2 zn
    have hmv : ∀ (f : u = v) (g : Fq v2 u2), RR n u u2 := fun f g => by rw [f]; exact h.mv Fz.rf g
    by_cases w0 : x1.toInt = 0
    · obtain ⟨p1, p2⟩ := p.2.1 ⟨hC, w0⟩
      obtain ⟨q1, q2⟩ := q.2.1 ⟨hC, w0⟩
      refine ⟨?_, hmv p2 q2⟩
      rw [p1, q1]
      exact (h.1.1 _ _ _ (lk_q (j := 0) hX ha (by decide)))
    by_cases w1 : x1.toInt = 1
    · obtain ⟨p1, p2⟩ := p.2.2.1 ⟨hC, w1⟩
      obtain ⟨q1, q2⟩ := q.2.2.1 ⟨hC, w1⟩
      refine ⟨?_, hmv p2 q2⟩
      rw [p1, q1]
      exact (h.1.1 _ _ _ (lk_q (j := 1) hX ha (by decide))).trans (congrArg (v2 1) (by omega))
    by_cases w2 : x1.toInt = 2
    · obtain ⟨p1, p2⟩ := p.2.2.2.1 ⟨hC, w2⟩
      obtain ⟨q1, q2⟩ := q.2.2.2.1 ⟨hC, w2⟩
      refine ⟨?_, hmv p2 q2⟩
      rw [p1, q1]
      exact (h.1.1 _ _ _ (lk_c0 hX ha))
    by_cases w3 : x1.toInt = 3
    · obtain ⟨p1, p2⟩ := p.2.2.2.2.1 ⟨hC, w3⟩
      obtain ⟨q1, q2⟩ := q.2.2.2.2.1 ⟨hC, w3⟩
      refine ⟨?_, hmv p2 q2⟩
      obtain ⟨x1a, x2a, x3a, -⟩ := h.1.2.1 _ hX ha
      have ev : v (29 + 15 * x0.toNatClampNeg) 0 = v2 1 (34 + 7 * x0.toNatClampNeg) := h.1.1 _ _ _ (lk_c0 hX ha)
      rw [ev] at p1
      by_cases e : (v2 1 (34 + 7 * x0.toNatClampNeg)).toInt = 1
      · rw [p1.1 e, q1]
        exact x2a e
      · rw [p1.2 e, q1]
        exact (x3a e).symm
    by_cases w4 : x1.toInt = 4
    · obtain ⟨p1, p2⟩ := p.2.2.2.2.2.1 ⟨hC, w4⟩
      obtain ⟨q1, q2⟩ := q.2.2.2.2.2.1 ⟨hC, w4⟩
      refine ⟨?_, hmv p2 q2⟩
      rw [p1, q1]
      exact (h.1.1 _ _ _ (lk_c2 hX ha))
    by_cases w5 : x1.toInt = 5
    · obtain ⟨p1, p2⟩ := p.2.2.2.2.2.2.1 ⟨hC, w5⟩
      obtain ⟨q1, q2⟩ := q.2.2.2.2.2.2.1 ⟨hC, w5⟩
      refine ⟨?_, hmv p2 q2⟩
      refine Int32.toInt_inj.mp ?_
      rw [p1, q1.1]
      exact head_eq (M := fun c => v (29 + 15 * c) 4) hG hb2.2 q1.2 zn hM zX.symm (by omega)
    by_cases w6 : x1.toInt = 6
    · obtain ⟨p1, p2⟩ := p.2.2.2.2.2.2.2.1 ⟨hC, w6⟩
      obtain ⟨q1, q2⟩ := q.2.2.2.2.2.2.2.1 ⟨hC, w6⟩
      refine ⟨?_, hmv p2 q2⟩
      refine Int32.toInt_inj.mp ?_
      rw [p1, q1.1, bc_n (qB_conn (M := fun c => v (29 + 15 * c) 4) hG hb2.2 zn hM zX.symm (by omega)).1]
      exact many_eq (M := fun c => v (29 + 15 * c) 4) hG hb2.2 q1.2 zn hM zX.symm (by omega)
    by_cases w7 : x1.toInt = 7
    · obtain ⟨p1, p2⟩ := p.2.2.2.2.2.2.2.2.1 ⟨hC, w7⟩
      obtain ⟨q1, q2⟩ := q.2.2.2.2.2.2.2.2.1 ⟨hC, w7⟩
      refine ⟨?_, hmv p2 q2⟩
      rw [p1, q1]
      exact (h.1.1 _ _ _ (lk_c3 hX ha))
    obtain ⟨p1, p2⟩ := p.2.2.2.2.2.2.2.2.2 ⟨hC, by omega⟩
    obtain ⟨q1, q2⟩ := q.2.2.2.2.2.2.2.2.2 ⟨hC, by omega⟩
    exact ⟨by rw [p1, q1], hmv p2 q2⟩
  · obtain ⟨p1, p2⟩ := p.1 hC
    obtain ⟨q1, q2⟩ := q.1 hC
    refine ⟨by rw [p1, q1], ?_⟩
    rw [p2]
    exact h.mv Fz.rf q2
