
set_option maxHeartbeats 4000000 in
set_option maxRecDepth 100000 in
theorem e_X8_waitsOf (l : Launch) (dC : Nat → ClassId) (dI : Nat → Nat → Nat) (cy : Nat → ClassId) (sz : Nat) (ad : Nat → Nat) (v : Nat → Nat → Int32) (hv : Ir v) (x0 : Int32) (h0 : -1 ≤ x0.toInt ∧ x0.toInt ≤ 3) (h5 : ∀ q : Nat, (q : Int) ≤ x0.toInt → 0 ≤ (v 5 q).toInt ∧ (v 5 q).toInt ≤ 18) (hW : ∀ q : Nat, (q : Int) ≤ x0.toInt → 1 ≤ (v 1 (37 + 7 * (v 4 q).toNatClampNeg)).toInt ∧ (v 1 (37 + 7 * (v 4 q).toNatClampNeg)).toInt ≤ 9) : Met l yX8_waitsOf wsX8_waitsOf ({ frames := 1, cells := 0, slots := 0, locals := 64 }) (va_Pc [.ref (ad 0), .int x0] (ex_Pre dC dI cy sz (wm ad cy v))) (va_Qi (fun (r : Int32) (u : Nat → Nat → Int32) => Ir u ∧ u = v ∧ (0 ≤ r.toInt ∧ r.toInt ≤ 144) ∧ r.toInt = Wt (fun k => (v 1 (37 + 7 * (v 4 k).toNatClampNeg)).toInt) (fun q => (v 5 q).toNatClampNeg) (x0.toInt + 1).toNat) (fun u t => ex_Pst dC dI (va_A (wm ad cy v) sz) (wm ad cy u) t) (va_A (wm ad cy v) sz)) 0 0 (va_A (wm ad cy v) sz) := by
  refine Met.ofW (cc := cX8_waitsOf) (maxL := 4) (ret := (some .int)) (by decide) rfl ?_
  intro p e s m args below meth c s₁ B hml hv
  obtain ⟨rfl, hsz, hE, hP, hK, hD0⟩ := hv
  have hx := B.exec
  have hb := B.bytes
  have hr := B.returns
  have hts := atoms_spec (ws := wsX8_waitsOf) B.pre
  have hown : s.vm.findClass RX8 = some m.cls := findClass_of_methodNamed B.named
  have hlocks := B.notSynchronized
  subst hsz
  have hD := hD0.self (sz := s.heap.size)
  generalize hAe : va_A (wm ad cy v) s.heap.size = A at hD ⊢
  have hA : ∀ q : Nat, s.heap.size ≤ q → A q := fun q h => by rw [← hAe]; exact Or.inr h
  have hS : va_S A s.heap s.heap [] := va_S.rf
  have hP : va_P (dC, dI) vwCl (wm ad cy v) s.heap := hP
  have hl := lv_entry ([.ref (ad 0), .int x0]) (n := 4) (Nat.le_of_ble_eq_true rfl)
  rw [lg_entry_eq]
  generalize (lg_sl ([.ref (ad 0), .int x0]) ++ List.replicate (4 - (lg_sl ([.ref (ad 0), .int x0])).length) Slot.unset).toArray = ls at hl ⊢
  have hl : lv_has ls 4 [(0, .ref (ad 0)), (1, .int x0)] := hl
  obtain ⟨WW, eWW⟩ : ∃ f : Nat → Int, f = (fun k => (v 1 (37 + 7 * (v 4 k).toNatClampNeg)).toInt) := ⟨_, rfl⟩
  obtain ⟨P, eP⟩ : ∃ f : Nat → Nat, f = fun q => (v 5 q).toNatClampNeg := ⟨_, rfl⟩
  have k_0 : (0 : Int32).toInt = 0 := by decide
  have k_18 : (18 : Int32).toInt = 18 := by decide
  refine lv_iconst (v := 0) hx hb dX8_waitsOf_0 (by decide) ?_
  refine lv_istore_n (lv' := [(2, .int 0), (0, .ref (ad 0)), (1, .int x0)]) hx hb dX8_waitsOf_1 rfl hl (by decide) rfl (fun ls hl => ?_)
  refine lv_iconst (v := 0) hx hb dX8_waitsOf_2 (by decide) ?_
  refine lv_istore_n (lv' := [(3, .int 0), (2, .int 0), (0, .ref (ad 0)), (1, .int x0)]) hx hb dX8_waitsOf_3 rfl hl (by decide) rfl (fun ls hl => ?_)
  have hc_1 : ∀ (n : Nat) (y1_3 y1_2 : Int32) (H : Heap) (locs : List Loc), 0 ≤ y1_3.toInt → y1_3.toInt ≤ 4 → 0 ≤ y1_2.toInt → y1_2.toInt ≤ 144 → (y1_2.toInt = Wt WW P y1_3.toNatClampNeg) → (y1_2.toInt ≤ 36 * y1_3.toInt) → (y1_3.toInt ≤ x0.toInt + 1) → (5 - y1_3.toInt).toNat < n → va_P (dC, dI) vwCl (wm ad cy v) H → va_D A (wm ad cy v) → va_S A s.heap H locs → ∀ ls : Array Slot, lv_has ls 4 [(3, .int y1_3), (2, .int y1_2), (0, .ref (ad 0)), (1, .int x0)] → W p l e (headSpec wsX8_waitsOf ({ frames := 1, cells := 0, slots := 0, locals := 64 })).room s m [Value.ref (ad 0), Value.int x0].toArray below meth c H locs 0 0 (MQ below (va_Qi (fun (r : Int32) (u : Nat → Nat → Int32) => Ir u ∧ u = v ∧ (0 ≤ r.toInt ∧ r.toInt ≤ 144) ∧ r.toInt = Wt (fun k => (v 1 (37 + 7 * (v 4 k).toNatClampNeg)).toInt) (fun q => (v 5 q).toNatClampNeg) (x0.toInt + 1).toNat) (fun u t => ex_Pst dC dI A (wm ad cy u) t) A) [Value.ref (ad 0), Value.int x0].toArray s 0 0 A) (F0 m 4 ls []) := by
    intro n
    induction n with
    | zero =>
      intro y1_3 y1_2 H locs ay1_3 by1_3 ay1_2 by1_2 hi1_0 hi1_1 hi1_2 hm_1 hP hD hS ls hl
      exact absurd hm_1 (by omega)
    | succ n ih_1 =>
      intro y1_3 y1_2 H locs ay1_3 by1_3 ay1_2 by1_2 hi1_0 hi1_1 hi1_2 hm_1 hP hD hS ls hl
      refine lv_iload_n hx hb dX8_waitsOf_4 rfl (lv_at hl 0 rfl) ?_
      refine lv_iload_n hx hb dX8_waitsOf_5 rfl (lv_at hl 3 rfl) ?_
      refine lv_icmp_gt (tgt := 58) hx hb dX8_waitsOf_6 (by decide) (fun c_2 => ?_) (fun c_2 => ?_)
      · have tc_2 : y1_3.toInt > x0.toInt := Int32.lt_iff_toInt_lt.mp c_2
        refine lv_iload_n hx hb dX8_waitsOf_58 rfl (lv_at hl 1 rfl) ?_
        have zn_y1_3 : (y1_3.toNatClampNeg : Int) = y1_3.toInt := t_nn (by omega)
        exact W.iret (v := y1_2) hx hb hr (fun t ht hW => ⟨⟨y1_2, v, rfl, ⟨hv, rfl, ⟨by omega, by omega⟩, by rw [← eWW, ← eP, show (x0.toInt + 1).toNat = y1_3.toNatClampNeg from by omega]; exact hi1_0⟩, by rw [ht]; exact hP, hD⟩, hS.F ht⟩) hS.2.2 dX8_waitsOf_59
      · have tc_2 : y1_3.toInt ≤ x0.toInt := Int32.le_iff_toInt_le.mp (Int32.not_lt.mp c_2)
        refine lv_iload_n hx hb dX8_waitsOf_9 rfl (lv_at hl 1 rfl) ?_
        refine lv_aload_n hx hb dX8_waitsOf_10 rfl (lv_at hl 2 rfl) ?_
        refine va_get (D := (dC, dI)) (ci := 8) (v := .ref (ad 1)) (C := RX8) (T := TX8) (N := 11) hx hb hts (by decide +kernel) hown hK hP (0) (wm_at (by decide) rc_0) rfl 0 (by decide) (hts (.fieldLink RX8 7 "QuietStairsModel" "s" "[I") (by decide +kernel)) (fun _ h9 => h9) rfl dX8_waitsOf_11 ?_
        refine lv_aload_n hx hb dX8_waitsOf_14 rfl (lv_at hl 2 rfl) ?_
        refine va_get (D := (dC, dI)) (ci := 8) (v := .ref (ad 4)) (C := RX8) (T := TX8) (N := 11) hx hb hts (by decide +kernel) hown hK hP (0) (wm_at (by decide) rc_0) rfl 6 (by decide) (hts (.fieldLink RX8 23 "QuietStairsModel" "planned" "[I") (by decide +kernel)) (fun _ h9 => h9) rfl dX8_waitsOf_15 ?_
        refine lv_iload_n hx hb dX8_waitsOf_18 rfl (lv_at hl 0 rfl) ?_
        have zn_y1_3 : (y1_3.toNatClampNeg : Int) = y1_3.toInt := t_nn (by omega)
        refine va_iald hx hb hK hP (4) 0 (wm_at (by decide) rc_4) rfl (vp_in_iff.mpr ⟨by omega, by omega⟩) dX8_waitsOf_19 ?_
        refine lv_topi (fun x_3 ex_3 => ?_)
        have bzx_3 : 0 ≤ x_3.toInt ∧ x_3.toInt ≤ 5 := by rw [ex_3]; exact hv 4 _ 5 rfl
        have qx_3 : x_3.toInt = (v 4 (y1_3.toNatClampNeg)).toInt := congrArg Int32.toInt ex_3
        refine lv_iconst (v := 5) hx hb dX8_waitsOf_20 (by decide) ?_
        refine yc_p hP hS (va_runS (As := [.int x_3, .int 5]) (rest := [.ref (ad 1), .int y1_2]) ⟨hx, hb, hml, hown, hts⟩ (c_X8_at l x_3 5) (cwS 2 hts gX8_waitsOf_X8_at rfl rfl rfl (by decide +kernel) ⟨Nat.le_of_ble_eq_true rfl, Nat.le_of_ble_eq_true rfl⟩) ex_preP rfl rfl hl.1 rfl (lv_room (Nat.le_of_ble_eq_true rfl)) dX8_waitsOf_21 ⟨Nat.le_of_ble_eq_true rfl, Nat.le_of_ble_eq_true rfl⟩) (fun r_4 H locs hw_4 hP hS => ?_)
        have k_5 : (5 : Int32).toInt = 5 := by decide
        have tr_4 : r_4.toInt = 32 + 7 * x_3.toInt + (5 : Int32).toInt := t_at hw_4 ⟨by omega, by omega⟩ ⟨by omega, by omega⟩
        have zn_x_3 : (x_3.toNatClampNeg : Int) = x_3.toInt := t_nn (by omega)
        have nr_4 : r_4.toNatClampNeg = 37 + 7 * x_3.toNatClampNeg := by have z1 := t_nn (x := r_4) (by omega); omega
        refine va_iald hx hb hK hP (1) 0 (wm_at (by decide) rc_1) rfl (vp_in_iff.mpr ⟨by omega, by omega⟩) dX8_waitsOf_24 ?_
        refine lv_topi (fun x_5 ex_5 => ?_)
        rw [nr_4] at ex_5
        have qx_5 : x_5.toInt = (v 1 (37 + 7 * x_3.toNatClampNeg)).toInt := congrArg Int32.toInt ex_5
        have hw9 : x_5.toInt = WW y1_3.toNatClampNeg := by rw [eWW]; show _ = (v 1 (37 + 7 * (v 4 y1_3.toNatClampNeg).toNatClampNeg)).toInt; rw [← ex_3]; exact congrArg Int32.toInt ex_5
        have hwb : 1 ≤ WW y1_3.toNatClampNeg ∧ WW y1_3.toNatClampNeg ≤ 9 := by rw [eWW]; exact hW _ (by omega)
        refine lv_aload_n hx hb dX8_waitsOf_25 rfl (lv_at hl 2 rfl) ?_
        refine va_get (D := (dC, dI)) (ci := 8) (v := .ref (ad 5)) (C := RX8) (T := TX8) (N := 11) hx hb hts (by decide +kernel) hown hK hP (0) (wm_at (by decide) rc_0) rfl 7 (by decide) (hts (.fieldLink RX8 26 "QuietStairsModel" "tried" "[I") (by decide +kernel)) (fun _ h9 => h9) rfl dX8_waitsOf_26 ?_
        refine lv_iload_n hx hb dX8_waitsOf_29 rfl (lv_at hl 0 rfl) ?_
        refine va_iald hx hb hK hP (5) 0 (wm_at (by decide) rc_5) rfl (vp_in_iff.mpr ⟨by omega, by omega⟩) dX8_waitsOf_30 ?_
        refine lv_topi (fun x_6 ex_6 => ?_)
        have qx_6 : x_6.toInt = (v 5 (y1_3.toNatClampNeg)).toInt := congrArg Int32.toInt ex_6
        have bs9 : 0 ≤ x_6.toInt ∧ x_6.toInt ≤ 18 := by rw [ex_6]; exact h5 _ (by omega)
        have zn_x_6 : (x_6.toNatClampNeg : Int) = x_6.toInt := t_nn (by omega)
        have hPs : P y1_3.toNatClampNeg = x_6.toNatClampNeg := by rw [eP, ex_6]
        refine lv_bipush (v := 18) hx hb dX8_waitsOf_31 (by decide) ?_
        refine lv_icmp_ne (tgt := 40) hx hb dX8_waitsOf_33 (by decide) (fun c_7 => ?_) (fun c_7 => ?_)
        · have tc_7 : x_6.toInt ≠ (18 : Int32).toInt := fun q => absurd (Int32.toInt_inj.mp q) c_7
          refine lv_aload_n hx hb dX8_waitsOf_40 rfl (lv_at hl 2 rfl) ?_
          refine va_get (D := (dC, dI)) (ci := 8) (v := .ref (ad 5)) (C := RX8) (T := TX8) (N := 11) hx hb hts (by decide +kernel) hown hK hP (0) (wm_at (by decide) rc_0) rfl 7 (by decide) (hts (.fieldLink RX8 26 "QuietStairsModel" "tried" "[I") (by decide +kernel)) (fun _ h9 => h9) rfl dX8_waitsOf_41 ?_
          refine lv_iload_n hx hb dX8_waitsOf_44 rfl (lv_at hl 0 rfl) ?_
          refine va_iald hx hb hK hP (5) 0 (wm_at (by decide) rc_5) rfl (vp_in_iff.mpr ⟨by omega, by omega⟩) dX8_waitsOf_45 ?_
          refine lv_topi (fun x_8 ex_8 => ?_)
          obtain rfl : x_6 = x_8 := (ex_8.trans ex_6.symm).symm
          refine lv_bipush (v := 6) hx hb dX8_waitsOf_46 (by decide) ?_
          refine lv_idiv hx hb dX8_waitsOf_48 (by decide) ?_
          refine lv_topi (fun x_9 ex_9 => ?_)
          have hd9 : x_9.toInt = x_6.toInt / 6 := by rw [ex_9]; exact (rem6 bs9).2
          refine lv_imul hx hb dX8_waitsOf_49 ?_
          refine lv_topi (fun x_10 ex_10 => ?_)
          have m0x_10 : 0 ≤ x_5.toInt * x_9.toInt := Int.mul_nonneg (by omega) (by omega)
          have m1x_10 : x_5.toInt * x_9.toInt ≤ 9 * 3 := Int.mul_le_mul (by omega) (by omega) (by omega) (by decide)
          have tx_10 : x_10.toInt = x_5.toInt * x_9.toInt := by rw [ex_10]; exact t_mul ⟨by omega, by omega⟩
          refine lv_iadd hx hb dX8_waitsOf_50 ?_
          refine lv_topi (fun x_11 ex_11 => ?_)
          have tx_11 : x_11.toInt = y1_2.toInt + x_10.toInt := by rw [ex_11]; exact t_add ⟨by omega, by omega⟩
          refine lv_istore_n (lv' := [(2, .int x_11), (3, .int y1_3), (0, .ref (ad 0)), (1, .int x0)]) hx hb dX8_waitsOf_51 rfl hl (by decide) rfl (fun ls hl => ?_)
          obtain ⟨x_12, ex_12⟩ : ∃ y : Int32, y = y1_3 + 1 := ⟨_, rfl⟩
          refine lv_iinc (v := x_12) (lv' := [(3, .int x_12), (2, .int x_11), (0, .ref (ad 0)), (1, .int x0)]) hx hb dX8_waitsOf_52 hl (k := 1) rfl (by rw [ex_12]; rfl) (by decide) rfl (fun ls hl => ?_)
          have k_1 : (1 : Int32).toInt = 1 := by decide
          have tx_12 : x_12.toInt = y1_3.toInt + (1 : Int32).toInt := by rw [ex_12]; exact t_add ⟨by omega, by omega⟩
          refine lv_goto (tgt := 4) hx hb dX8_waitsOf_55 (by decide) ?_
          have zn_x_12 : (x_12.toNatClampNeg : Int) = x_12.toInt := t_nn (by omega)
          have hc9 : cst (P y1_3.toNatClampNeg) = x_9.toInt := by unfold cst; rw [if_neg (by omega)]; omega
          exact ih_1 x_12 x_11 _ _ (by omega) (by omega) (by omega) (by omega) (by rw [show x_12.toNatClampNeg = y1_3.toNatClampNeg + 1 from by omega, Wt_s, hc9, ← hw9]; omega) (by omega) (by omega) (by omega) hP hD hS ls (lv_sub hl [0, 1, 2, 3] rfl)
        · have tc_7 : x_6.toInt = (18 : Int32).toInt := by rw [c_7]
          refine lv_iconst (v := 4) hx hb dX8_waitsOf_36 (by decide) ?_
          refine lv_goto (tgt := 49) hx hb dX8_waitsOf_37 (by decide) ?_
          refine lv_imul hx hb dX8_waitsOf_49 ?_
          refine lv_topi (fun x_8 ex_8 => ?_)
          have k_4 : (4 : Int32).toInt = 4 := by decide
          have tx_8 : x_8.toInt = 4 * x_5.toInt := by rw [ex_8, t_mul (by rw [k_4]; omega), k_4]; omega
          refine lv_iadd hx hb dX8_waitsOf_50 ?_
          refine lv_topi (fun x_9 ex_9 => ?_)
          have tx_9 : x_9.toInt = y1_2.toInt + x_8.toInt := by rw [ex_9]; exact t_add ⟨by omega, by omega⟩
          refine lv_istore_n (lv' := [(2, .int x_9), (3, .int y1_3), (0, .ref (ad 0)), (1, .int x0)]) hx hb dX8_waitsOf_51 rfl hl (by decide) rfl (fun ls hl => ?_)
          obtain ⟨x_10, ex_10⟩ : ∃ y : Int32, y = y1_3 + 1 := ⟨_, rfl⟩
          refine lv_iinc (v := x_10) (lv' := [(3, .int x_10), (2, .int x_9), (0, .ref (ad 0)), (1, .int x0)]) hx hb dX8_waitsOf_52 hl (k := 1) rfl (by rw [ex_10]; rfl) (by decide) rfl (fun ls hl => ?_)
          have k_1 : (1 : Int32).toInt = 1 := by decide
          have tx_10 : x_10.toInt = y1_3.toInt + (1 : Int32).toInt := by rw [ex_10]; exact t_add ⟨by omega, by omega⟩
          refine lv_goto (tgt := 4) hx hb dX8_waitsOf_55 (by decide) ?_
          have zn_x_10 : (x_10.toNatClampNeg : Int) = x_10.toInt := t_nn (by omega)
          have hc9 : cst (P y1_3.toNatClampNeg) = 4 := by unfold cst; rw [if_pos (by omega)]
          exact ih_1 x_10 x_9 _ _ (by omega) (by omega) (by omega) (by omega) (by rw [show x_10.toNatClampNeg = y1_3.toNatClampNeg + 1 from by omega, Wt_s, hc9, ← hw9]; omega) (by omega) (by omega) (by omega) hP hD hS ls (lv_sub hl [0, 1, 2, 3] rfl)
  exact hc_1 ((5 - (0 : Int32).toInt).toNat + 1) 0 0 _ _ (by omega) (by omega) (by omega) (by omega) (by rw [show (0 : Int32).toNatClampNeg = 0 from by decide, k_0]; rfl) (by omega) (by omega) (by omega) hP hD hS ls (lv_sub hl [0, 1, 2, 3] rfl)
