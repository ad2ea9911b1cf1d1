
set_option maxHeartbeats 4000000 in
set_option maxRecDepth 100000 in
theorem e_X8_isOwn (l : Launch) (dC : Nat → ClassId) (dI : Nat → Nat → Nat) (cy : Nat → ClassId) (sz : Nat) (ad : Nat → Nat) (v : Nat → Nat → Int32) (hv : Ir v) (x0 x1 x2 : Int32) (h0 : 0 ≤ x0.toInt ∧ x0.toInt ≤ 5) (h2 : 0 ≤ x2.toInt ∧ x2.toInt ≤ 4) : Met l yX8_isOwn wsX8_isOwn ({ frames := 1, cells := 0, slots := 0, locals := 64 }) (va_Pc [.ref (ad 0), .int x0, .int x1, .int x2] (ex_Pre dC dI cy sz (wm ad cy v))) (va_Qi (fun (r : Int32) (u : Nat → Nat → Int32) => Ir u ∧ u = v ∧ ((r = 1 ∧ own (fun t k => (v 1 (158 + k + 25 * x0.toNatClampNeg + 5 * t)).toInt) x1.toInt x2.toNatClampNeg) ∨ (r = 0 ∧ ¬ own (fun t k => (v 1 (158 + k + 25 * x0.toNatClampNeg + 5 * t)).toInt) x1.toInt x2.toNatClampNeg))) (fun u t => ex_Pst dC dI (va_A (wm ad cy v) sz) (wm ad cy u) t) (va_A (wm ad cy v) sz)) 0 0 (va_A (wm ad cy v) sz) := by
  refine Met.ofW (cc := cX8_isOwn) (maxL := 4) (ret := (some .boolean)) (by decide) rfl ?_
  intro p e s m args below meth c s₁ B hml hv
  obtain ⟨rfl, hsz, hE, hP, hK, hD0⟩ := hv
  have hx := B.exec
  have hb := B.bytes
  have hr := B.returns
  have hts := atoms_spec (ws := wsX8_isOwn) B.pre
  have hown : s.vm.findClass RX8 = some m.cls := findClass_of_methodNamed B.named
  have hlocks := B.notSynchronized
  subst hsz
  have hD := hD0.self (sz := s.heap.size)
  generalize hAe : va_A (wm ad cy v) s.heap.size = A at hD ⊢
  have hA : ∀ q : Nat, s.heap.size ≤ q → A q := fun q h => by rw [← hAe]; exact Or.inr h
  have hS : va_S A s.heap s.heap [] := va_S.rf
  have hP : va_P (dC, dI) vwCl (wm ad cy v) s.heap := hP
  have hl := lv_entry ([.ref (ad 0), .int x0, .int x1, .int x2]) (n := 4) (Nat.le_of_ble_eq_true rfl)
  rw [lg_entry_eq]
  generalize (lg_sl ([.ref (ad 0), .int x0, .int x1, .int x2]) ++ List.replicate (4 - (lg_sl ([.ref (ad 0), .int x0, .int x1, .int x2])).length) Slot.unset).toArray = ls at hl ⊢
  have hl : lv_has ls 4 [(0, .ref (ad 0)), (1, .int x0), (2, .int x1), (3, .int x2)] := hl
  have zn_x0 : (x0.toNatClampNeg : Int) = x0.toInt := t_nn (by omega)
  have zn_x2 : (x2.toNatClampNeg : Int) = x2.toInt := t_nn (by omega)
  obtain ⟨DD, eDD⟩ : ∃ f : Nat → Nat → Int, f = fun t k => (v 1 (158 + k + 25 * x0.toNatClampNeg + 5 * t)).toInt := ⟨_, rfl⟩
  refine lv_aload_n hx hb dX8_isOwn_0 rfl (lv_at hl 0 rfl) ?_
  refine va_get (D := (dC, dI)) (ci := 8) (v := .ref (ad 1)) (C := RX8) (T := TX8) (N := 11) hx hb hts (by decide +kernel) hown hK hP (0) (wm_at (by decide) rc_0) rfl 0 (by decide) (hts (.fieldLink RX8 7 "QuietStairsModel" "s" "[I") (by decide +kernel)) (fun _ h9 => h9) rfl dX8_isOwn_1 ?_
  refine lv_iload_n hx hb dX8_isOwn_4 rfl (lv_at hl 1 rfl) ?_
  refine lv_iload_n hx hb dX8_isOwn_5 rfl (lv_at hl 3 rfl) ?_
  refine yc_p hP hS (va_runS (As := [.int x0, .int x2]) (rest := [.ref (ad 1)]) ⟨hx, hb, hml, hown, hts⟩ (c_X8_termAt l x0 x2) (cwS 2 hts gX8_isOwn_X8_termAt rfl rfl rfl (by decide +kernel) ⟨Nat.le_of_ble_eq_true rfl, Nat.le_of_ble_eq_true rfl⟩) ex_preP rfl rfl hl.1 rfl (lv_room (Nat.le_of_ble_eq_true rfl)) dX8_isOwn_6 ⟨Nat.le_of_ble_eq_true rfl, Nat.le_of_ble_eq_true rfl⟩) (fun r_1 H locs hw_1 hP hS => ?_)
  have tr_1 : r_1.toInt = 158 + 25 * x0.toInt + 5 * x2.toInt := t_tm hw_1 ⟨by omega, by omega⟩ ⟨by omega, by omega⟩
  have nr_1 : r_1.toNatClampNeg = 158 + 25 * x0.toNatClampNeg + 5 * x2.toNatClampNeg := by have z1 := t_nn (x := r_1) (by omega); omega
  refine va_iald hx hb hK hP (1) 0 (wm_at (by decide) rc_1) rfl (vp_in_iff.mpr ⟨by omega, by omega⟩) dX8_isOwn_9 ?_
  refine lv_topi (fun x_2 ex_2 => ?_)
  have bzx_2 : 0 ≤ x_2.toInt ∧ x_2.toInt ≤ 1 := by rw [ex_2]; exact hv 1 _ 1 (bx_t0 (i := 5 * x0.toInt + x2.toInt) (s := 0) (by omega) ⟨by omega, by omega⟩ (by omega))
  rw [nr_1] at ex_2
  have qx_2 : x_2.toInt = (v 1 (158 + 25 * x0.toNatClampNeg + 5 * x2.toNatClampNeg)).toInt := congrArg Int32.toInt ex_2
  have hF0 : DD x2.toNatClampNeg 0 = x_2.toInt := by rw [eDD]; exact congrArg Int32.toInt ex_2.symm
  refine lv_iload_n hx hb dX8_isOwn_10 rfl (lv_at hl 2 rfl) ?_
  refine lv_icmp_ne (tgt := 34) hx hb dX8_isOwn_11 (by decide) (fun c_3 => ?_) (fun c_3 => ?_)
  · have tc_3 : x_2.toInt ≠ x1.toInt := fun q => absurd (Int32.toInt_inj.mp q) c_3
    refine lv_iconst (v := 0) hx hb dX8_isOwn_34 (by decide) ?_
    exact W.zret (ty := .boolean) (v := 0) hx hb hr rfl (fun t ht hW => ⟨⟨0, v, rfl, ⟨hv, rfl, by rw [← eDD]; unfold own; rw [hF0]; exact Or.inr ⟨rfl, by omega⟩⟩, by rw [ht]; exact hP, hD⟩, hS.F ht⟩) hS.2.2 dX8_isOwn_35
  · have tc_3 : x_2.toInt = x1.toInt := by rw [c_3]
    refine lv_aload_n hx hb dX8_isOwn_14 rfl (lv_at hl 0 rfl) ?_
    refine va_get (D := (dC, dI)) (ci := 8) (v := .ref (ad 1)) (C := RX8) (T := TX8) (N := 11) hx hb hts (by decide +kernel) hown hK hP (0) (wm_at (by decide) rc_0) rfl 0 (by decide) (hts (.fieldLink RX8 7 "QuietStairsModel" "s" "[I") (by decide +kernel)) (fun _ h9 => h9) rfl dX8_isOwn_15 ?_
    refine lv_iload_n hx hb dX8_isOwn_18 rfl (lv_at hl 1 rfl) ?_
    refine lv_iload_n hx hb dX8_isOwn_19 rfl (lv_at hl 3 rfl) ?_
    refine yc_p hP hS (va_runS (As := [.int x0, .int x2]) (rest := [.ref (ad 1)]) ⟨hx, hb, hml, hown, hts⟩ (c_X8_termAt l x0 x2) (cwS 2 hts gX8_isOwn_X8_termAt rfl rfl rfl (by decide +kernel) ⟨Nat.le_of_ble_eq_true rfl, Nat.le_of_ble_eq_true rfl⟩) ex_preP rfl rfl hl.1 rfl (lv_room (Nat.le_of_ble_eq_true rfl)) dX8_isOwn_20 ⟨Nat.le_of_ble_eq_true rfl, Nat.le_of_ble_eq_true rfl⟩) (fun r_4 H locs hw_4 hP hS => ?_)
    obtain rfl : r_1 = r_4 := hw_1.trans hw_4.symm
    refine lv_iconst (v := 1) hx hb dX8_isOwn_23 (by decide) ?_
    refine lv_iadd hx hb dX8_isOwn_24 ?_
    refine lv_topi (fun x_5 ex_5 => ?_)
    have k_1 : (1 : Int32).toInt = 1 := by decide
    have tx_5 : x_5.toInt = r_1.toInt + (1 : Int32).toInt := by rw [ex_5]; exact t_add ⟨by omega, by omega⟩
    have nx_5 : x_5.toNatClampNeg = 159 + 25 * x0.toNatClampNeg + 5 * x2.toNatClampNeg := by have z1 := t_nn (x := x_5) (by omega); omega
    refine va_iald hx hb hK hP (1) 0 (wm_at (by decide) rc_1) rfl (vp_in_iff.mpr ⟨by omega, by omega⟩) dX8_isOwn_25 ?_
    refine lv_topi (fun x_6 ex_6 => ?_)
    have bzx_6 : 0 ≤ x_6.toInt ∧ x_6.toInt ≤ 1 := by rw [ex_6]; exact hv 1 _ 1 (bx_t0 (i := 5 * x0.toInt + x2.toInt) (s := 1) (by omega) ⟨by omega, by omega⟩ (by omega))
    rw [nx_5] at ex_6
    have qx_6 : x_6.toInt = (v 1 (159 + 25 * x0.toNatClampNeg + 5 * x2.toNatClampNeg)).toInt := congrArg Int32.toInt ex_6
    have hF1 : DD x2.toNatClampNeg 1 = x_6.toInt := by rw [eDD]; exact congrArg Int32.toInt ex_6.symm
    refine lv_iconst (v := 1) hx hb dX8_isOwn_26 (by decide) ?_
    refine lv_icmp_ne (tgt := 34) hx hb dX8_isOwn_27 (by decide) (fun c_7 => ?_) (fun c_7 => ?_)
    · have tc_7 : x_6.toInt ≠ (1 : Int32).toInt := fun q => absurd (Int32.toInt_inj.mp q) c_7
      refine lv_iconst (v := 0) hx hb dX8_isOwn_34 (by decide) ?_
      exact W.zret (ty := .boolean) (v := 0) hx hb hr rfl (fun t ht hW => ⟨⟨0, v, rfl, ⟨hv, rfl, by rw [← eDD]; unfold own; rw [hF0, hF1]; exact Or.inr ⟨rfl, by omega⟩⟩, by rw [ht]; exact hP, hD⟩, hS.F ht⟩) hS.2.2 dX8_isOwn_35
    · have tc_7 : x_6.toInt = (1 : Int32).toInt := by rw [c_7]
      refine lv_iconst (v := 1) hx hb dX8_isOwn_30 (by decide) ?_
      refine lv_goto (tgt := 35) hx hb dX8_isOwn_31 (by decide) ?_
      exact W.zret (ty := .boolean) (v := 1) hx hb hr rfl (fun t ht hW => ⟨⟨1, v, rfl, ⟨hv, rfl, by rw [← eDD]; unfold own; rw [hF0, hF1]; exact Or.inl ⟨rfl, by omega, by omega⟩⟩, by rw [ht]; exact hP, hD⟩, hS.F ht⟩) hS.2.2 dX8_isOwn_35

set_option maxHeartbeats 4000000 in
set_option maxRecDepth 100000 in
theorem e_X8_next_f (l : Launch) (dC : Nat → ClassId) (dI : Nat → Nat → Nat) (cy : Nat → ClassId) (sz : Nat) (ad : Nat → Nat) (v : Nat → Nat → Int32) (hv : Ir v) (x0 x1 x2 x4 : Int32) (h0 : 0 ≤ x0.toInt ∧ x0.toInt ≤ 5) (h2 : -1 ≤ x2.toInt ∧ x2.toInt < x4.toInt) (h4 : 0 ≤ x4.toInt ∧ x4.toInt ≤ 5) : Met l yX8_next wsX8_next ({ frames := 2, cells := 0, slots := 0, locals := 128 }) (va_Pc [.ref (ad 0), .int x0, .int x1, .int x2, .int 1, .int x4] (ex_Pre dC dI cy sz (wm ad cy v))) (va_Qi (fun (r : Int32) (u : Nat → Nat → Int32) => Ir u ∧ u = v ∧ (x2.toInt < r.toInt ∧ r.toInt ≤ x4.toInt) ∧ (∀ i : Nat, x2.toInt < (i : Int) → (i : Int) < r.toInt → ¬ own (fun t k => (v 1 (158 + k + 25 * x0.toNatClampNeg + 5 * t)).toInt) x1.toInt i) ∧ (r.toInt < x4.toInt → own (fun t k => (v 1 (158 + k + 25 * x0.toNatClampNeg + 5 * t)).toInt) x1.toInt r.toNatClampNeg)) (fun u t => ex_Pst dC dI (va_A (wm ad cy v) sz) (wm ad cy u) t) (va_A (wm ad cy v) sz)) 0 0 (va_A (wm ad cy v) sz) := by
  refine Met.ofW (cc := cX8_next) (maxL := 7) (ret := (some .int)) (by decide) rfl ?_
  intro p e s m args below meth c s₁ B hml hv
  obtain ⟨rfl, hsz, hE, hP, hK, hD0⟩ := hv
  have hx := B.exec
  have hb := B.bytes
  have hr := B.returns
  have hts := atoms_spec (ws := wsX8_next) B.pre
  have hown : s.vm.findClass RX8 = some m.cls := findClass_of_methodNamed B.named
  have hlocks := B.notSynchronized
  subst hsz
  have hD := hD0.self (sz := s.heap.size)
  generalize hAe : va_A (wm ad cy v) s.heap.size = A at hD ⊢
  have hA : ∀ q : Nat, s.heap.size ≤ q → A q := fun q h => by rw [← hAe]; exact Or.inr h
  have hS : va_S A s.heap s.heap [] := va_S.rf
  have hP : va_P (dC, dI) vwCl (wm ad cy v) s.heap := hP
  have hl := lv_entry ([.ref (ad 0), .int x0, .int x1, .int x2, .int 1, .int x4]) (n := 7) (Nat.le_of_ble_eq_true rfl)
  rw [lg_entry_eq]
  generalize (lg_sl ([.ref (ad 0), .int x0, .int x1, .int x2, .int 1, .int x4]) ++ List.replicate (7 - (lg_sl ([.ref (ad 0), .int x0, .int x1, .int x2, .int 1, .int x4])).length) Slot.unset).toArray = ls at hl ⊢
  have hl : lv_has ls 7 [(0, .ref (ad 0)), (1, .int x0), (2, .int x1), (3, .int x2), (4, .int 1), (5, .int x4)] := hl
  have zn_x0 : (x0.toNatClampNeg : Int) = x0.toInt := t_nn (by omega)
  obtain ⟨DD, eDD⟩ : ∃ f : Nat → Nat → Int, f = fun t k => (v 1 (158 + k + 25 * x0.toNatClampNeg + 5 * t)).toInt := ⟨_, rfl⟩
  refine lv_iload_n hx hb dX8_next_0 rfl (lv_at hl 3 rfl) ?_
  refine lv_iload hx hb dX8_next_1 (lv_at hl 4 rfl) ?_
  refine lv_iadd hx hb dX8_next_3 ?_
  refine lv_topi (fun x_1 ex_1 => ?_)
  have k_1 : (1 : Int32).toInt = 1 := by decide
  have tx_1 : x_1.toInt = x2.toInt + (1 : Int32).toInt := by rw [ex_1]; exact t_add ⟨by omega, by omega⟩
  refine lv_istore (lv' := [(6, .int x_1), (0, .ref (ad 0)), (1, .int x0), (2, .int x1), (3, .int x2), (4, .int 1), (5, .int x4)]) hx hb dX8_next_4 hl (by decide) rfl (fun ls hl => ?_)
  have hc_2 : ∀ (n : Nat) (y2_6 : Int32) (H : Heap) (locs : List Loc), 0 ≤ y2_6.toInt → y2_6.toInt ≤ 5 → (∀ i : Nat, x2.toInt < (i : Int) → (i : Int) < y2_6.toInt → ¬ own DD x1.toInt i) → (x2.toInt < y2_6.toInt) → (y2_6.toInt ≤ x4.toInt) → (6 - y2_6.toInt).toNat < n → va_P (dC, dI) vwCl (wm ad cy v) H → va_D A (wm ad cy v) → va_S A s.heap H locs → ∀ ls : Array Slot, lv_has ls 7 [(6, .int y2_6), (0, .ref (ad 0)), (1, .int x0), (2, .int x1), (3, .int x2), (4, .int 1), (5, .int x4)] → W p l e (headSpec wsX8_next ({ frames := 2, cells := 0, slots := 0, locals := 128 })).room s m [Value.ref (ad 0), Value.int x0, Value.int x1, Value.int x2, Value.int 1, Value.int x4].toArray below meth c H locs 0 0 (MQ below (va_Qi (fun (r : Int32) (u : Nat → Nat → Int32) => Ir u ∧ u = v ∧ (x2.toInt < r.toInt ∧ r.toInt ≤ x4.toInt) ∧ (∀ i : Nat, x2.toInt < (i : Int) → (i : Int) < r.toInt → ¬ own (fun t k => (v 1 (158 + k + 25 * x0.toNatClampNeg + 5 * t)).toInt) x1.toInt i) ∧ (r.toInt < x4.toInt → own (fun t k => (v 1 (158 + k + 25 * x0.toNatClampNeg + 5 * t)).toInt) x1.toInt r.toNatClampNeg)) (fun u t => ex_Pst dC dI A (wm ad cy u) t) A) [Value.ref (ad 0), Value.int x0, Value.int x1, Value.int x2, Value.int 1, Value.int x4].toArray s 0 0 A) (F0 m 6 ls []) := by
    intro n
    induction n with
    | zero =>
      intro y2_6 H locs ay2_6 by2_6 hi2_0 hi2_1 hi2_2 hm_2 hP hD hS ls hl
      exact absurd hm_2 (by omega)
    | succ n ih_2 =>
      intro y2_6 H locs ay2_6 by2_6 hi2_0 hi2_1 hi2_2 hm_2 hP hD hS ls hl
      refine lv_iload hx hb dX8_next_6 (lv_at hl 0 rfl) ?_
      refine lv_iconst (v := 0) hx hb dX8_next_8 (by decide) ?_
      refine lv_iload hx hb dX8_next_9 (lv_at hl 6 rfl) ?_
      refine lv_iconst (v := 1) hx hb dX8_next_11 (by decide) ?_
      refine lv_isub hx hb dX8_next_12 ?_
      refine lv_topi (fun x_3 ex_3 => ?_)
      have tx_3 : x_3.toInt = x4.toInt - (1 : Int32).toInt := by rw [ex_3]; exact t_sub ⟨by omega, by omega⟩
      refine yc_p hP hS (va_runS (As := [.int y2_6, .int 0, .int x_3]) (rest := []) ⟨hx, hb, hml, hown, hts⟩ (c_X8_in l y2_6 0 x_3) (cwS 3 hts gX8_next_X8_in rfl rfl rfl (by decide +kernel) ⟨Nat.le_of_ble_eq_true rfl, Nat.le_of_ble_eq_true rfl⟩) ex_preP rfl rfl hl.1 rfl (lv_room (Nat.le_of_ble_eq_true rfl)) dX8_next_13 ⟨Nat.le_of_ble_eq_true rfl, Nat.le_of_ble_eq_true rfl⟩) (fun r_4 H locs hw_4 hP hS => ?_)
      rcases wi_ca hw_4 with ⟨rfl, hc_5⟩ | ⟨rfl, hc_5⟩
      · have k_0 : (0 : Int32).toInt = 0 := by decide
        have tc_5 := wi_tl hc_5
        refine lv_if_eq (tgt := 40) hx hb dX8_next_16 (by decide) (fun c9 => absurd c9 (by decide)) (fun _ => ?_)
        refine lv_aload_n hx hb dX8_next_19 rfl (lv_at hl 1 rfl) ?_
        refine lv_iload_n hx hb dX8_next_20 rfl (lv_at hl 2 rfl) ?_
        refine lv_iload_n hx hb dX8_next_21 rfl (lv_at hl 3 rfl) ?_
        refine lv_iload hx hb dX8_next_22 (lv_at hl 0 rfl) ?_
        refine yw_i (w1 := fun (u : Nat → Nat → Int32) => wm ad cy u) hD hS hA (va_runV (As := [.int x0, .int x1, .int y2_6]) (rest := []) ⟨hx, hb, hml, hown, hts⟩ (e_X8_isOwn l dC dI cy _ ad v hv x0 x1 y2_6 ⟨by omega, by omega⟩ ⟨by omega, by omega⟩) (cwV 3 hts gX8_next_X8_isOwn rfl rfl rfl (by decide +kernel) ⟨Nat.le_of_ble_eq_true rfl, Nat.le_of_ble_eq_true rfl⟩) (yw_preV hE hK hP hD (ci := 8) (q0 := 0) rfl (wm_at (by decide) rc_0)) rfl rfl hl.1 rfl (lv_room (Nat.le_of_ble_eq_true rfl)) dX8_next_24 ⟨Nat.le_of_ble_eq_true rfl, Nat.le_of_ble_eq_true rfl⟩) (fun r_6 v_6 H locs hw_6 hP hD hS => ?_)
        obtain ⟨-, hu_6, hw_6⟩ := hw_6
        replace hu_6 := hu_6.symm
        subst hu_6
        rcases hw_6 with ⟨rfl, ho_7⟩ | ⟨rfl, ho_7⟩
        · rw [← eDD] at ho_7
          refine lv_if_ne (tgt := 40) hx hb dX8_next_27 (by decide) (fun _ => ?_) (fun c9 => absurd c9 (by decide))
          refine lv_iload hx hb dX8_next_40 (lv_at hl 0 rfl) ?_
          exact W.iret (v := y2_6) hx hb hr (fun t ht hW => ⟨⟨y2_6, v, rfl, ⟨hv, rfl, ⟨by omega, by omega⟩, by rw [← eDD]; exact hi2_0, fun _ => by rw [← eDD]; exact ho_7⟩, by rw [ht]; exact hP, hD⟩, hS.F ht⟩) hS.2.2 dX8_next_42
        · rw [← eDD] at ho_7
          refine lv_if_ne (tgt := 40) hx hb dX8_next_27 (by decide) (fun c9 => absurd c9 (by decide)) (fun _ => ?_)
          refine lv_iload hx hb dX8_next_30 (lv_at hl 0 rfl) ?_
          refine lv_iload hx hb dX8_next_32 (lv_at hl 5 rfl) ?_
          refine lv_iadd hx hb dX8_next_34 ?_
          refine lv_topi (fun x_8 ex_8 => ?_)
          have tx_8 : x_8.toInt = y2_6.toInt + (1 : Int32).toInt := by rw [ex_8]; exact t_add ⟨by omega, by omega⟩
          refine lv_istore (lv' := [(6, .int x_8), (0, .ref (ad 0)), (1, .int x0), (2, .int x1), (3, .int x2), (4, .int 1), (5, .int x4)]) hx hb dX8_next_35 hl (by decide) rfl (fun ls hl => ?_)
          refine lv_goto (tgt := 6) hx hb dX8_next_37 (by decide) ?_
          have zn_y2_6 : (y2_6.toNatClampNeg : Int) = y2_6.toInt := t_nn (by omega)
          exact ih_2 x_8 _ _ (by omega) (by omega) (fun i h1 h2 => by by_cases q : (i : Int) < y2_6.toInt; exact hi2_0 i h1 q; rw [show i = y2_6.toNatClampNeg from by omega]; exact ho_7) (by omega) (by omega) (by omega) hP hD hS ls (lv_sub hl [0, 1, 2, 3, 4, 5, 6] rfl)
      · have k_0 : (0 : Int32).toInt = 0 := by decide
        have tc_5 : ¬ ((0 : Int32).toInt ≤ y2_6.toInt ∧ y2_6.toInt ≤ x_3.toInt) := fun q => hc_5 ⟨Int32.le_iff_toInt_le.mpr q.1, Int32.le_iff_toInt_le.mpr q.2⟩
        refine lv_if_eq (tgt := 40) hx hb dX8_next_16 (by decide) (fun _ => ?_) (fun c9 => absurd c9 (by decide))
        refine lv_iload hx hb dX8_next_40 (lv_at hl 0 rfl) ?_
        exact W.iret (v := y2_6) hx hb hr (fun t ht hW => ⟨⟨y2_6, v, rfl, ⟨hv, rfl, ⟨by omega, by omega⟩, by rw [← eDD]; exact hi2_0, fun q => absurd q (by omega)⟩, by rw [ht]; exact hP, hD⟩, hS.F ht⟩) hS.2.2 dX8_next_42
  exact hc_2 ((6 - x_1.toInt).toNat + 1) x_1 _ _ (by omega) (by omega) (fun i h1 h2 => absurd h2 (by omega)) (by omega) (by omega) (by omega) hP hD hS ls (lv_sub hl [0, 1, 2, 3, 4, 5, 6] rfl)

set_option maxHeartbeats 4000000 in
set_option maxRecDepth 100000 in
theorem e_X8_next_b (l : Launch) (dC : Nat → ClassId) (dI : Nat → Nat → Nat) (cy : Nat → ClassId) (sz : Nat) (ad : Nat → Nat) (v : Nat → Nat → Int32) (hv : Ir v) (x0 x1 x2 x4 : Int32) (h0 : 0 ≤ x0.toInt ∧ x0.toInt ≤ 5) (h2 : 0 ≤ x2.toInt ∧ x2.toInt < x4.toInt) (h4 : 0 ≤ x4.toInt ∧ x4.toInt ≤ 5) : Met l yX8_next wsX8_next ({ frames := 2, cells := 0, slots := 0, locals := 128 }) (va_Pc [.ref (ad 0), .int x0, .int x1, .int x2, .int (-1), .int x4] (ex_Pre dC dI cy sz (wm ad cy v))) (va_Qi (fun (r : Int32) (u : Nat → Nat → Int32) => Ir u ∧ u = v ∧ (-1 ≤ r.toInt ∧ r.toInt < x2.toInt) ∧ (∀ i : Nat, r.toInt < (i : Int) → (i : Int) < x2.toInt → ¬ own (fun t k => (v 1 (158 + k + 25 * x0.toNatClampNeg + 5 * t)).toInt) x1.toInt i) ∧ (0 ≤ r.toInt → own (fun t k => (v 1 (158 + k + 25 * x0.toNatClampNeg + 5 * t)).toInt) x1.toInt r.toNatClampNeg)) (fun u t => ex_Pst dC dI (va_A (wm ad cy v) sz) (wm ad cy u) t) (va_A (wm ad cy v) sz)) 0 0 (va_A (wm ad cy v) sz) := by
  refine Met.ofW (cc := cX8_next) (maxL := 7) (ret := (some .int)) (by decide) rfl ?_
  intro p e s m args below meth c s₁ B hml hv
  obtain ⟨rfl, hsz, hE, hP, hK, hD0⟩ := hv
  have hx := B.exec
  have hb := B.bytes
  have hr := B.returns
  have hts := atoms_spec (ws := wsX8_next) B.pre
  have hown : s.vm.findClass RX8 = some m.cls := findClass_of_methodNamed B.named
  have hlocks := B.notSynchronized
  subst hsz
  have hD := hD0.self (sz := s.heap.size)
  generalize hAe : va_A (wm ad cy v) s.heap.size = A at hD ⊢
  have hA : ∀ q : Nat, s.heap.size ≤ q → A q := fun q h => by rw [← hAe]; exact Or.inr h
  have hS : va_S A s.heap s.heap [] := va_S.rf
  have hP : va_P (dC, dI) vwCl (wm ad cy v) s.heap := hP
  have hl := lv_entry ([.ref (ad 0), .int x0, .int x1, .int x2, .int (-1), .int x4]) (n := 7) (Nat.le_of_ble_eq_true rfl)
  rw [lg_entry_eq]
  generalize (lg_sl ([.ref (ad 0), .int x0, .int x1, .int x2, .int (-1), .int x4]) ++ List.replicate (7 - (lg_sl ([.ref (ad 0), .int x0, .int x1, .int x2, .int (-1), .int x4])).length) Slot.unset).toArray = ls at hl ⊢
  have hl : lv_has ls 7 [(0, .ref (ad 0)), (1, .int x0), (2, .int x1), (3, .int x2), (4, .int (-1)), (5, .int x4)] := hl
  have zn_x0 : (x0.toNatClampNeg : Int) = x0.toInt := t_nn (by omega)
  obtain ⟨DD, eDD⟩ : ∃ f : Nat → Nat → Int, f = fun t k => (v 1 (158 + k + 25 * x0.toNatClampNeg + 5 * t)).toInt := ⟨_, rfl⟩
  refine lv_iload_n hx hb dX8_next_0 rfl (lv_at hl 3 rfl) ?_
  refine lv_iload hx hb dX8_next_1 (lv_at hl 4 rfl) ?_
  refine lv_iadd hx hb dX8_next_3 ?_
  refine lv_topi (fun x_1 ex_1 => ?_)
  have k_m1 : ((-1) : Int32).toInt = -1 := by decide
  have tx_1 : x_1.toInt = x2.toInt + ((-1) : Int32).toInt := by rw [ex_1]; exact t_add ⟨by omega, by omega⟩
  refine lv_istore (lv' := [(6, .int x_1), (0, .ref (ad 0)), (1, .int x0), (2, .int x1), (3, .int x2), (4, .int (-1)), (5, .int x4)]) hx hb dX8_next_4 hl (by decide) rfl (fun ls hl => ?_)
  have hc_2 : ∀ (n : Nat) (y2_6 : Int32) (H : Heap) (locs : List Loc), -1 ≤ y2_6.toInt → y2_6.toInt ≤ 4 → (∀ i : Nat, y2_6.toInt < (i : Int) → (i : Int) < x2.toInt → ¬ own DD x1.toInt i) → (y2_6.toInt < x2.toInt) → (y2_6.toInt + 1).toNat < n → va_P (dC, dI) vwCl (wm ad cy v) H → va_D A (wm ad cy v) → va_S A s.heap H locs → ∀ ls : Array Slot, lv_has ls 7 [(6, .int y2_6), (0, .ref (ad 0)), (1, .int x0), (2, .int x1), (3, .int x2), (4, .int (-1)), (5, .int x4)] → W p l e (headSpec wsX8_next ({ frames := 2, cells := 0, slots := 0, locals := 128 })).room s m [Value.ref (ad 0), Value.int x0, Value.int x1, Value.int x2, Value.int (-1), Value.int x4].toArray below meth c H locs 0 0 (MQ below (va_Qi (fun (r : Int32) (u : Nat → Nat → Int32) => Ir u ∧ u = v ∧ (-1 ≤ r.toInt ∧ r.toInt < x2.toInt) ∧ (∀ i : Nat, r.toInt < (i : Int) → (i : Int) < x2.toInt → ¬ own (fun t k => (v 1 (158 + k + 25 * x0.toNatClampNeg + 5 * t)).toInt) x1.toInt i) ∧ (0 ≤ r.toInt → own (fun t k => (v 1 (158 + k + 25 * x0.toNatClampNeg + 5 * t)).toInt) x1.toInt r.toNatClampNeg)) (fun u t => ex_Pst dC dI A (wm ad cy u) t) A) [Value.ref (ad 0), Value.int x0, Value.int x1, Value.int x2, Value.int (-1), Value.int x4].toArray s 0 0 A) (F0 m 6 ls []) := by
    intro n
    induction n with
    | zero =>
      intro y2_6 H locs ay2_6 by2_6 hi2_0 hi2_1 hm_2 hP hD hS ls hl
      exact absurd hm_2 (by omega)
    | succ n ih_2 =>
      intro y2_6 H locs ay2_6 by2_6 hi2_0 hi2_1 hm_2 hP hD hS ls hl
      refine lv_iload hx hb dX8_next_6 (lv_at hl 0 rfl) ?_
      refine lv_iconst (v := 0) hx hb dX8_next_8 (by decide) ?_
      refine lv_iload hx hb dX8_next_9 (lv_at hl 6 rfl) ?_
      refine lv_iconst (v := 1) hx hb dX8_next_11 (by decide) ?_
      refine lv_isub hx hb dX8_next_12 ?_
      refine lv_topi (fun x_3 ex_3 => ?_)
      have k_1 : (1 : Int32).toInt = 1 := by decide
      have tx_3 : x_3.toInt = x4.toInt - (1 : Int32).toInt := by rw [ex_3]; exact t_sub ⟨by omega, by omega⟩
      refine yc_p hP hS (va_runS (As := [.int y2_6, .int 0, .int x_3]) (rest := []) ⟨hx, hb, hml, hown, hts⟩ (c_X8_in l y2_6 0 x_3) (cwS 3 hts gX8_next_X8_in rfl rfl rfl (by decide +kernel) ⟨Nat.le_of_ble_eq_true rfl, Nat.le_of_ble_eq_true rfl⟩) ex_preP rfl rfl hl.1 rfl (lv_room (Nat.le_of_ble_eq_true rfl)) dX8_next_13 ⟨Nat.le_of_ble_eq_true rfl, Nat.le_of_ble_eq_true rfl⟩) (fun r_4 H locs hw_4 hP hS => ?_)
      rcases wi_ca hw_4 with ⟨rfl, hc_5⟩ | ⟨rfl, hc_5⟩
      · have k_0 : (0 : Int32).toInt = 0 := by decide
        have tc_5 := wi_tl hc_5
        refine lv_if_eq (tgt := 40) hx hb dX8_next_16 (by decide) (fun c9 => absurd c9 (by decide)) (fun _ => ?_)
        refine lv_aload_n hx hb dX8_next_19 rfl (lv_at hl 1 rfl) ?_
        refine lv_iload_n hx hb dX8_next_20 rfl (lv_at hl 2 rfl) ?_
        refine lv_iload_n hx hb dX8_next_21 rfl (lv_at hl 3 rfl) ?_
        refine lv_iload hx hb dX8_next_22 (lv_at hl 0 rfl) ?_
        refine yw_i (w1 := fun (u : Nat → Nat → Int32) => wm ad cy u) hD hS hA (va_runV (As := [.int x0, .int x1, .int y2_6]) (rest := []) ⟨hx, hb, hml, hown, hts⟩ (e_X8_isOwn l dC dI cy _ ad v hv x0 x1 y2_6 ⟨by omega, by omega⟩ ⟨by omega, by omega⟩) (cwV 3 hts gX8_next_X8_isOwn rfl rfl rfl (by decide +kernel) ⟨Nat.le_of_ble_eq_true rfl, Nat.le_of_ble_eq_true rfl⟩) (yw_preV hE hK hP hD (ci := 8) (q0 := 0) rfl (wm_at (by decide) rc_0)) rfl rfl hl.1 rfl (lv_room (Nat.le_of_ble_eq_true rfl)) dX8_next_24 ⟨Nat.le_of_ble_eq_true rfl, Nat.le_of_ble_eq_true rfl⟩) (fun r_6 v_6 H locs hw_6 hP hD hS => ?_)
        obtain ⟨-, hu_6, hw_6⟩ := hw_6
        replace hu_6 := hu_6.symm
        subst hu_6
        rcases hw_6 with ⟨rfl, ho_7⟩ | ⟨rfl, ho_7⟩
        · rw [← eDD] at ho_7
          refine lv_if_ne (tgt := 40) hx hb dX8_next_27 (by decide) (fun _ => ?_) (fun c9 => absurd c9 (by decide))
          refine lv_iload hx hb dX8_next_40 (lv_at hl 0 rfl) ?_
          exact W.iret (v := y2_6) hx hb hr (fun t ht hW => ⟨⟨y2_6, v, rfl, ⟨hv, rfl, ⟨by omega, by omega⟩, by rw [← eDD]; exact hi2_0, fun _ => by rw [← eDD]; exact ho_7⟩, by rw [ht]; exact hP, hD⟩, hS.F ht⟩) hS.2.2 dX8_next_42
        · rw [← eDD] at ho_7
          refine lv_if_ne (tgt := 40) hx hb dX8_next_27 (by decide) (fun c9 => absurd c9 (by decide)) (fun _ => ?_)
          refine lv_iload hx hb dX8_next_30 (lv_at hl 0 rfl) ?_
          refine lv_iload hx hb dX8_next_32 (lv_at hl 5 rfl) ?_
          refine lv_iadd hx hb dX8_next_34 ?_
          refine lv_topi (fun x_8 ex_8 => ?_)
          have tx_8 : x_8.toInt = y2_6.toInt + ((-1) : Int32).toInt := by rw [ex_8]; exact t_add ⟨by omega, by omega⟩
          refine lv_istore (lv' := [(6, .int x_8), (0, .ref (ad 0)), (1, .int x0), (2, .int x1), (3, .int x2), (4, .int (-1)), (5, .int x4)]) hx hb dX8_next_35 hl (by decide) rfl (fun ls hl => ?_)
          refine lv_goto (tgt := 6) hx hb dX8_next_37 (by decide) ?_
          have zn_y2_6 : (y2_6.toNatClampNeg : Int) = y2_6.toInt := t_nn (by omega)
          exact ih_2 x_8 _ _ (by omega) (by omega) (fun i h1 h2 => by by_cases q : y2_6.toInt < (i : Int); exact hi2_0 i q h2; rw [show i = y2_6.toNatClampNeg from by omega]; exact ho_7) (by omega) (by omega) hP hD hS ls (lv_sub hl [0, 1, 2, 3, 4, 5, 6] rfl)
      · have k_0 : (0 : Int32).toInt = 0 := by decide
        have tc_5 : ¬ ((0 : Int32).toInt ≤ y2_6.toInt ∧ y2_6.toInt ≤ x_3.toInt) := fun q => hc_5 ⟨Int32.le_iff_toInt_le.mpr q.1, Int32.le_iff_toInt_le.mpr q.2⟩
        refine lv_if_eq (tgt := 40) hx hb dX8_next_16 (by decide) (fun _ => ?_) (fun c9 => absurd c9 (by decide))
        refine lv_iload hx hb dX8_next_40 (lv_at hl 0 rfl) ?_
        exact W.iret (v := y2_6) hx hb hr (fun t ht hW => ⟨⟨y2_6, v, rfl, ⟨hv, rfl, ⟨by omega, by omega⟩, by rw [← eDD]; exact hi2_0, fun q => absurd q (by omega)⟩, by rw [ht]; exact hP, hD⟩, hS.F ht⟩) hS.2.2 dX8_next_42
  exact hc_2 ((x_1.toInt + 1).toNat + 1) x_1 _ _ (by omega) (by omega) (fun i h1 h2 => absurd h1 (by omega)) (by omega) (by omega) hP hD hS ls (lv_sub hl [0, 1, 2, 3, 4, 5, 6] rfl)

set_option maxHeartbeats 4000000 in
set_option maxRecDepth 100000 in
theorem e_X8_mayBe (l : Launch) (dC : Nat → ClassId) (dI : Nat → Nat → Nat) (cy : Nat → ClassId) (sz : Nat) (ad : Nat → Nat) (v : Nat → Nat → Int32) (hv : Ir v) (x0 x1 x2 x3 : Int32) (h0 : 0 ≤ x0.toInt ∧ x0.toInt ≤ 5) (h2 : 0 ≤ x2.toInt ∧ x2.toInt ≤ 4) (h3 : 0 ≤ x3.toInt ∧ x3.toInt ≤ 5) (h23 : x2.toInt < x3.toInt) : Met l yX8_mayBe wsX8_mayBe ({ frames := 1, cells := 0, slots := 0, locals := 64 }) (va_Pc [.ref (ad 0), .int x0, .int x1, .int x2, .int x3] (ex_Pre dC dI cy sz (wm ad cy v))) (va_Qi (fun (r : Int32) (u : Nat → Nat → Int32) => Ir u ∧ u = v ∧ ((r = 1 ∧ VH (fun t k => (v 1 (158 + k + 25 * x0.toNatClampNeg + 5 * t)).toInt) x1.toInt x3.toInt x2.toNatClampNeg (v 7) (v 7 x2.toNatClampNeg).toInt) ∨ (r = 0 ∧ ¬ VH (fun t k => (v 1 (158 + k + 25 * x0.toNatClampNeg + 5 * t)).toInt) x1.toInt x3.toInt x2.toNatClampNeg (v 7) (v 7 x2.toNatClampNeg).toInt))) (fun u t => ex_Pst dC dI (va_A (wm ad cy v) sz) (wm ad cy u) t) (va_A (wm ad cy v) sz)) 0 0 (va_A (wm ad cy v) sz) := by
  refine Met.ofW (cc := cX8_mayBe) (maxL := 9) (ret := (some .boolean)) (by decide) rfl ?_
  intro p e s m args below meth c s₁ B hml hv
  obtain ⟨rfl, hsz, hE, hP, hK, hD0⟩ := hv
  have hx := B.exec
  have hb := B.bytes
  have hr := B.returns
  have hts := atoms_spec (ws := wsX8_mayBe) B.pre
  have hown : s.vm.findClass RX8 = some m.cls := findClass_of_methodNamed B.named
  have hlocks := B.notSynchronized
  subst hsz
  have hD := hD0.self (sz := s.heap.size)
  generalize hAe : va_A (wm ad cy v) s.heap.size = A at hD ⊢
  have hA : ∀ q : Nat, s.heap.size ≤ q → A q := fun q h => by rw [← hAe]; exact Or.inr h
  have hS : va_S A s.heap s.heap [] := va_S.rf
  have hP : va_P (dC, dI) vwCl (wm ad cy v) s.heap := hP
  have hl := lv_entry ([.ref (ad 0), .int x0, .int x1, .int x2, .int x3]) (n := 9) (Nat.le_of_ble_eq_true rfl)
  rw [lg_entry_eq]
  generalize (lg_sl ([.ref (ad 0), .int x0, .int x1, .int x2, .int x3]) ++ List.replicate (9 - (lg_sl ([.ref (ad 0), .int x0, .int x1, .int x2, .int x3])).length) Slot.unset).toArray = ls at hl ⊢
  have hl : lv_has ls 9 [(0, .ref (ad 0)), (1, .int x0), (2, .int x1), (3, .int x2), (4, .int x3)] := hl
  have zn_x0 : (x0.toNatClampNeg : Int) = x0.toInt := t_nn (by omega)
  have zn_x2 : (x2.toNatClampNeg : Int) = x2.toInt := t_nn (by omega)
  obtain ⟨DD, eDD⟩ : ∃ f : Nat → Nat → Int, f = fun t k => (v 1 (158 + k + 25 * x0.toNatClampNeg + 5 * t)).toInt := ⟨_, rfl⟩
  obtain ⟨hh, ehh⟩ : ∃ z : Int32, z = v 7 x2.toNatClampNeg := ⟨_, rfl⟩
  refine lv_iload_n hx hb dX8_mayBe_0 rfl (lv_at hl 1 rfl) ?_
  refine lv_iload_n hx hb dX8_mayBe_1 rfl (lv_at hl 3 rfl) ?_
  refine yc_p hP hS (va_runS (As := [.int x0, .int x2]) (rest := []) ⟨hx, hb, hml, hown, hts⟩ (c_X8_termAt l x0 x2) (cwS 2 hts gX8_mayBe_X8_termAt rfl rfl rfl (by decide +kernel) ⟨Nat.le_of_ble_eq_true rfl, Nat.le_of_ble_eq_true rfl⟩) ex_preP rfl rfl hl.1 rfl (lv_room (Nat.le_of_ble_eq_true rfl)) dX8_mayBe_2 ⟨Nat.le_of_ble_eq_true rfl, Nat.le_of_ble_eq_true rfl⟩) (fun r_1 H locs hw_1 hP hS => ?_)
  have tr_1 : r_1.toInt = 158 + 25 * x0.toInt + 5 * x2.toInt := t_tm hw_1 ⟨by omega, by omega⟩ ⟨by omega, by omega⟩
  refine lv_istore (lv' := [(5, .int r_1), (0, .ref (ad 0)), (1, .int x0), (2, .int x1), (3, .int x2), (4, .int x3)]) hx hb dX8_mayBe_5 hl (by decide) rfl (fun ls hl => ?_)
  refine lv_iconst (v := 0) hx hb dX8_mayBe_7 (by decide) ?_
  refine lv_istore (lv' := [(6, .int 0), (5, .int r_1), (0, .ref (ad 0)), (1, .int x0), (2, .int x1), (3, .int x2), (4, .int x3)]) hx hb dX8_mayBe_8 hl (by decide) rfl (fun ls hl => ?_)
  have hc_2 : ∀ (n : Nat) (y2_6 : Int32) (H : Heap) (locs : List Loc), 0 ≤ y2_6.toInt → y2_6.toInt ≤ 5 → (¬ bar DD x1.toInt y2_6.toInt x2.toNatClampNeg hh.toInt) → (∀ o : Nat, (o : Int) < y2_6.toInt → o < x2.toNatClampNeg → own DD x1.toInt o → (v 7 o).toInt ≠ hh.toInt) → (y2_6.toInt ≤ x3.toInt) → (5 - y2_6.toInt).toNat < n → va_P (dC, dI) vwCl (wm ad cy v) H → va_D A (wm ad cy v) → va_S A s.heap H locs → ∀ ls : Array Slot, lv_has ls 9 [(6, .int y2_6), (5, .int r_1), (0, .ref (ad 0)), (1, .int x0), (2, .int x1), (3, .int x2), (4, .int x3)] → W p l e (headSpec wsX8_mayBe ({ frames := 1, cells := 0, slots := 0, locals := 64 })).room s m [Value.ref (ad 0), Value.int x0, Value.int x1, Value.int x2, Value.int x3].toArray below meth c H locs 0 0 (MQ below (va_Qi (fun (r : Int32) (u : Nat → Nat → Int32) => Ir u ∧ u = v ∧ ((r = 1 ∧ VH (fun t k => (v 1 (158 + k + 25 * x0.toNatClampNeg + 5 * t)).toInt) x1.toInt x3.toInt x2.toNatClampNeg (v 7) (v 7 x2.toNatClampNeg).toInt) ∨ (r = 0 ∧ ¬ VH (fun t k => (v 1 (158 + k + 25 * x0.toNatClampNeg + 5 * t)).toInt) x1.toInt x3.toInt x2.toNatClampNeg (v 7) (v 7 x2.toNatClampNeg).toInt))) (fun u t => ex_Pst dC dI A (wm ad cy u) t) A) [Value.ref (ad 0), Value.int x0, Value.int x1, Value.int x2, Value.int x3].toArray s 0 0 A) (F0 m 10 ls []) := by
    intro n
    induction n with
    | zero =>
      intro y2_6 H locs ay2_6 by2_6 hi2_0 hi2_1 hi2_2 hm_2 hP hD hS ls hl
      exact absurd hm_2 (by omega)
    | succ n ih_2 =>
      intro y2_6 H locs ay2_6 by2_6 hi2_0 hi2_1 hi2_2 hm_2 hP hD hS ls hl
      refine lv_iload hx hb dX8_mayBe_10 (lv_at hl 0 rfl) ?_
      refine lv_iload hx hb dX8_mayBe_12 (lv_at hl 6 rfl) ?_
      refine lv_icmp_ge (tgt := 157) hx hb dX8_mayBe_14 (by decide) (fun c_3 => ?_) (fun c_3 => ?_)
      · have tc_3 : y2_6.toInt ≥ x3.toInt := Int32.le_iff_toInt_le.mp c_3
        refine lv_iconst (v := 1) hx hb dX8_mayBe_157 (by decide) ?_
        have zn_y2_6 : (y2_6.toNatClampNeg : Int) = y2_6.toInt := t_nn (by omega)
        exact W.zret (ty := .boolean) (v := 1) hx hb hr rfl (fun t ht hW => ⟨⟨1, v, rfl, ⟨hv, rfl, by rw [← eDD, ← ehh]; exact Or.inl ⟨rfl, by rw [show x3.toInt = y2_6.toInt from by omega]; exact hi2_0, fun o h1 h2 => hi2_1 o (by omega) h1 h2⟩⟩, by rw [ht]; exact hP, hD⟩, hS.F ht⟩) hS.2.2 dX8_mayBe_158
      · have tc_3 : y2_6.toInt < x3.toInt := Int32.lt_iff_toInt_lt.mp (Int32.not_le.mp c_3)
        refine lv_iload_n hx hb dX8_mayBe_17 rfl (lv_at hl 3 rfl) ?_
        refine lv_iload hx hb dX8_mayBe_18 (lv_at hl 0 rfl) ?_
        refine yc_p hP hS (va_runS (As := [.int x0, .int y2_6]) (rest := []) ⟨hx, hb, hml, hown, hts⟩ (c_X8_termAt l x0 y2_6) (cwS 2 hts gX8_mayBe_X8_termAt rfl rfl rfl (by decide +kernel) ⟨Nat.le_of_ble_eq_true rfl, Nat.le_of_ble_eq_true rfl⟩) ex_preP rfl rfl hl.1 rfl (lv_room (Nat.le_of_ble_eq_true rfl)) dX8_mayBe_20 ⟨Nat.le_of_ble_eq_true rfl, Nat.le_of_ble_eq_true rfl⟩) (fun r_4 H locs hw_4 hP hS => ?_)
        have tr_4 : r_4.toInt = 158 + 25 * x0.toInt + 5 * y2_6.toInt := t_tm hw_4 ⟨by omega, by omega⟩ ⟨by omega, by omega⟩
        refine lv_istore (lv' := [(7, .int r_4), (6, .int y2_6), (5, .int r_1), (0, .ref (ad 0)), (1, .int x0), (2, .int x1), (3, .int x2), (4, .int x3)]) hx hb dX8_mayBe_23 hl (by decide) rfl (fun ls hl => ?_)
        refine lv_aload_n hx hb dX8_mayBe_25 rfl (lv_at hl 3 rfl) ?_
        refine va_get (D := (dC, dI)) (ci := 8) (v := .ref (ad 1)) (C := RX8) (T := TX8) (N := 11) hx hb hts (by decide +kernel) hown hK hP (0) (wm_at (by decide) rc_0) rfl 0 (by decide) (hts (.fieldLink RX8 7 "QuietStairsModel" "s" "[I") (by decide +kernel)) (fun _ h9 => h9) rfl dX8_mayBe_26 ?_
        refine lv_iload hx hb dX8_mayBe_29 (lv_at hl 0 rfl) ?_
        have zn_y2_6 : (y2_6.toNatClampNeg : Int) = y2_6.toInt := t_nn (by omega)
        have nr_4 : r_4.toNatClampNeg = 158 + 25 * x0.toNatClampNeg + 5 * y2_6.toNatClampNeg := by have z1 := t_nn (x := r_4) (by omega); omega
        refine va_iald hx hb hK hP (1) 0 (wm_at (by decide) rc_1) rfl (vp_in_iff.mpr ⟨by omega, by omega⟩) dX8_mayBe_31 ?_
        refine lv_topi (fun x_5 ex_5 => ?_)
        have bzx_5 : 0 ≤ x_5.toInt ∧ x_5.toInt ≤ 1 := by rw [ex_5]; exact hv 1 _ 1 (bx_t0 (i := 5 * x0.toInt + y2_6.toInt) (s := 0) (by omega) ⟨by omega, by omega⟩ (by omega))
        rw [nr_4] at ex_5
        have qx_5 : x_5.toInt = (v 1 (158 + 25 * x0.toNatClampNeg + 5 * y2_6.toNatClampNeg)).toInt := congrArg Int32.toInt ex_5
        have hF0 : DD y2_6.toNatClampNeg 0 = x_5.toInt := by rw [eDD]; exact congrArg Int32.toInt ex_5.symm
        refine lv_iload_n hx hb dX8_mayBe_32 rfl (lv_at hl 5 rfl) ?_
        refine lv_icmp_eq (tgt := 39) hx hb dX8_mayBe_33 (by decide) (fun c_6 => ?_) (fun c_6 => ?_)
        · have tc_6 : x_5.toInt = x1.toInt := by rw [c_6]
          refine lv_aload_n hx hb dX8_mayBe_39 rfl (lv_at hl 3 rfl) ?_
          refine va_get (D := (dC, dI)) (ci := 8) (v := .ref (ad 1)) (C := RX8) (T := TX8) (N := 11) hx hb hts (by decide +kernel) hown hK hP (0) (wm_at (by decide) rc_0) rfl 0 (by decide) (hts (.fieldLink RX8 7 "QuietStairsModel" "s" "[I") (by decide +kernel)) (fun _ h9 => h9) rfl dX8_mayBe_40 ?_
          refine lv_iload hx hb dX8_mayBe_43 (lv_at hl 0 rfl) ?_
          refine lv_iconst (v := 1) hx hb dX8_mayBe_45 (by decide) ?_
          refine lv_iadd hx hb dX8_mayBe_46 ?_
          refine lv_topi (fun x_7 ex_7 => ?_)
          have k_1 : (1 : Int32).toInt = 1 := by decide
          have tx_7 : x_7.toInt = r_4.toInt + (1 : Int32).toInt := by rw [ex_7]; exact t_add ⟨by omega, by omega⟩
          have nx_7 : x_7.toNatClampNeg = 159 + 25 * x0.toNatClampNeg + 5 * y2_6.toNatClampNeg := by have z1 := t_nn (x := x_7) (by omega); omega
          refine va_iald hx hb hK hP (1) 0 (wm_at (by decide) rc_1) rfl (vp_in_iff.mpr ⟨by omega, by omega⟩) dX8_mayBe_47 ?_
          refine lv_topi (fun x_8 ex_8 => ?_)
          have bzx_8 : 0 ≤ x_8.toInt ∧ x_8.toInt ≤ 1 := by rw [ex_8]; exact hv 1 _ 1 (bx_t0 (i := 5 * x0.toInt + y2_6.toInt) (s := 1) (by omega) ⟨by omega, by omega⟩ (by omega))
          rw [nx_7] at ex_8
          have qx_8 : x_8.toInt = (v 1 (159 + 25 * x0.toNatClampNeg + 5 * y2_6.toNatClampNeg)).toInt := congrArg Int32.toInt ex_8
          have hF1 : DD y2_6.toNatClampNeg 1 = x_8.toInt := by rw [eDD]; exact congrArg Int32.toInt ex_8.symm
          have k_0 : (0 : Int32).toInt = 0 := by decide
          refine lv_if_ne (tgt := 106) hx hb dX8_mayBe_48 (by decide) (fun c_9 => ?_) (fun c_9 => ?_)
          · have tc_9 : x_8.toInt ≠ (0 : Int32).toInt := fun q => absurd (Int32.toInt_inj.mp q) c_9
            refine lv_iconst (v := 0) hx hb dX8_mayBe_106 (by decide) ?_
            refine lv_istore (lv' := [(8, .int 0), (7, .int r_4), (6, .int y2_6), (5, .int r_1), (0, .ref (ad 0)), (1, .int x0), (2, .int x1), (3, .int x2), (4, .int x3)]) hx hb dX8_mayBe_107 hl (by decide) rfl (fun ls hl => ?_)
            refine lv_iload hx hb dX8_mayBe_109 (lv_at hl 0 rfl) ?_
            refine lv_if_ne (tgt := 149) hx hb dX8_mayBe_111 (by decide) (fun c9 => absurd c9 (by decide)) (fun _ => ?_)
            refine lv_aload_n hx hb dX8_mayBe_114 rfl (lv_at hl 4 rfl) ?_
            refine va_get (D := (dC, dI)) (ci := 8) (v := .ref (ad 1)) (C := RX8) (T := TX8) (N := 11) hx hb hts (by decide +kernel) hown hK hP (0) (wm_at (by decide) rc_0) rfl 0 (by decide) (hts (.fieldLink RX8 7 "QuietStairsModel" "s" "[I") (by decide +kernel)) (fun _ h9 => h9) rfl dX8_mayBe_115 ?_
            refine lv_iload hx hb dX8_mayBe_118 (lv_at hl 1 rfl) ?_
            refine lv_iconst (v := 1) hx hb dX8_mayBe_120 (by decide) ?_
            refine lv_iadd hx hb dX8_mayBe_121 ?_
            refine lv_topi (fun x_10 ex_10 => ?_)
            obtain rfl : x_7 = x_10 := ex_7.trans ex_10.symm
            refine va_iald hx hb hK hP (1) 0 (wm_at (by decide) rc_1) rfl (vp_in_iff.mpr ⟨by omega, by omega⟩) dX8_mayBe_122 ?_
            refine lv_topi (fun x_11 ex_11 => ?_)
            have bzx_11 : 0 ≤ x_11.toInt ∧ x_11.toInt ≤ 1 := by rw [ex_11]; exact hv 1 _ 1 (bx_t0 (i := 5 * x0.toInt + y2_6.toInt) (s := 1) (by omega) ⟨by omega, by omega⟩ (by omega))
            rw [nx_7] at ex_11
            obtain rfl : x_8 = x_11 := (ex_11.trans ex_8.symm).symm
            refine lv_iconst (v := 1) hx hb dX8_mayBe_123 (by decide) ?_
            refine lv_icmp_ne (tgt := 151) hx hb dX8_mayBe_124 (by decide) (fun c_12 => ?_) (fun c_12 => ?_)
            · have tc_12 : x_8.toInt ≠ (1 : Int32).toInt := fun q => absurd (Int32.toInt_inj.mp q) c_12
              exfalso
              omega
            · have tc_12 : x_8.toInt = (1 : Int32).toInt := by rw [c_12]
              refine lv_iload hx hb dX8_mayBe_127 (lv_at hl 2 rfl) ?_
              refine lv_iload_n hx hb dX8_mayBe_129 rfl (lv_at hl 7 rfl) ?_
              refine lv_icmp_ge (tgt := 151) hx hb dX8_mayBe_130 (by decide) (fun c_13 => ?_) (fun c_13 => ?_)
              · have tc_13 : y2_6.toInt ≥ x2.toInt := Int32.le_iff_toInt_le.mp c_13
                obtain ⟨x_14, ex_14⟩ : ∃ y : Int32, y = y2_6 + 1 := ⟨_, rfl⟩
                refine lv_iinc (v := x_14) (lv' := [(6, .int x_14), (8, .int 0), (7, .int r_4), (5, .int r_1), (0, .ref (ad 0)), (1, .int x0), (2, .int x1), (3, .int x2), (4, .int x3)]) hx hb dX8_mayBe_151 hl (k := 2) rfl (by rw [ex_14]; rfl) (by decide) rfl (fun ls hl => ?_)
                have tx_14 : x_14.toInt = y2_6.toInt + (1 : Int32).toInt := by rw [ex_14]; exact t_add ⟨by omega, by omega⟩
                refine lv_goto (tgt := 10) hx hb dX8_mayBe_154 (by decide) ?_
                exact ih_2 x_14 _ _ (by omega) (by omega) (fun q => by rw [bar_s (o := y2_6.toNatClampNeg) (n := y2_6.toInt) (by omega) (by omega)] at q; rcases q with q | q; exact hi2_0 q; unfold bro at q; rw [hF0, hF1] at q; omega) (fun o h1 h2 h3 => by by_cases e : (o : Int) < y2_6.toInt; exact hi2_1 o e h2 h3; rw [show o = y2_6.toNatClampNeg from by omega] at h2 h3 ⊢; unfold own at h3; rw [hF0, hF1] at h3; omega) (by omega) (by omega) hP hD hS ls (lv_sub hl [0, 3, 4, 5, 6, 7, 8] rfl)
              · have tc_13 : y2_6.toInt < x2.toInt := Int32.lt_iff_toInt_lt.mp (Int32.not_le.mp c_13)
                refine lv_aload_n hx hb dX8_mayBe_133 rfl (lv_at hl 4 rfl) ?_
                refine va_get (D := (dC, dI)) (ci := 8) (v := .ref (ad 7)) (C := RX8) (T := TX8) (N := 11) hx hb hts (by decide +kernel) hown hK hP (0) (wm_at (by decide) rc_0) rfl 10 (by decide) (hts (.fieldLink RX8 32 "QuietStairsModel" "hours" "[I") (by decide +kernel)) (fun _ h9 => h9) rfl dX8_mayBe_134 ?_
                refine lv_iload hx hb dX8_mayBe_137 (lv_at hl 2 rfl) ?_
                refine va_iald hx hb hK hP (7) 0 (wm_at (by decide) rc_7) rfl (vp_in_iff.mpr ⟨by omega, by omega⟩) dX8_mayBe_139 ?_
                refine lv_topi (fun x_14 ex_14 => ?_)
                have qx_14 : x_14.toInt = (v 7 (y2_6.toNatClampNeg)).toInt := congrArg Int32.toInt ex_14
                have hh9 : x_14.toInt = (v 7 y2_6.toNatClampNeg).toInt := by rw [ex_14]
                refine lv_aload_n hx hb dX8_mayBe_140 rfl (lv_at hl 4 rfl) ?_
                refine va_get (D := (dC, dI)) (ci := 8) (v := .ref (ad 7)) (C := RX8) (T := TX8) (N := 11) hx hb hts (by decide +kernel) hown hK hP (0) (wm_at (by decide) rc_0) rfl 10 (by decide) (hts (.fieldLink RX8 32 "QuietStairsModel" "hours" "[I") (by decide +kernel)) (fun _ h9 => h9) rfl dX8_mayBe_141 ?_
                refine lv_iload_n hx hb dX8_mayBe_144 rfl (lv_at hl 7 rfl) ?_
                refine va_iald hx hb hK hP (7) 0 (wm_at (by decide) rc_7) rfl (vp_in_iff.mpr ⟨by omega, by omega⟩) dX8_mayBe_145 ?_
                refine lv_topi (fun x_15 ex_15 => ?_)
                obtain rfl : hh = x_15 := (ex_15.trans ehh.symm).symm
                refine lv_icmp_ne (tgt := 151) hx hb dX8_mayBe_146 (by decide) (fun c_16 => ?_) (fun c_16 => ?_)
                · have tc_16 : x_14.toInt ≠ hh.toInt := fun q => absurd (Int32.toInt_inj.mp q) c_16
                  obtain ⟨x_17, ex_17⟩ : ∃ y : Int32, y = y2_6 + 1 := ⟨_, rfl⟩
                  refine lv_iinc (v := x_17) (lv' := [(6, .int x_17), (8, .int 0), (7, .int r_4), (5, .int r_1), (0, .ref (ad 0)), (1, .int x0), (2, .int x1), (3, .int x2), (4, .int x3)]) hx hb dX8_mayBe_151 hl (k := 2) rfl (by rw [ex_17]; rfl) (by decide) rfl (fun ls hl => ?_)
                  have tx_17 : x_17.toInt = y2_6.toInt + (1 : Int32).toInt := by rw [ex_17]; exact t_add ⟨by omega, by omega⟩
                  refine lv_goto (tgt := 10) hx hb dX8_mayBe_154 (by decide) ?_
                  exact ih_2 x_17 _ _ (by omega) (by omega) (fun q => by rw [bar_s (o := y2_6.toNatClampNeg) (n := y2_6.toInt) (by omega) (by omega)] at q; rcases q with q | q; exact hi2_0 q; unfold bro at q; rw [hF0, hF1] at q; omega) (fun o h1 h2 h3 => by by_cases e : (o : Int) < y2_6.toInt; exact hi2_1 o e h2 h3; rw [show o = y2_6.toNatClampNeg from by omega] at h2 h3 ⊢; unfold own at h3; rw [hF0, hF1] at h3; rw [← hh9]; omega) (by omega) (by omega) hP hD hS ls (lv_sub hl [0, 3, 4, 5, 6, 7, 8] rfl)
                · have tc_16 : x_14.toInt = hh.toInt := by rw [c_16]
                  refine lv_iconst (v := 0) hx hb dX8_mayBe_149 (by decide) ?_
                  exact W.zret (ty := .boolean) (v := 0) hx hb hr rfl (fun t ht hW => ⟨⟨0, v, rfl, ⟨hv, rfl, by rw [← eDD, ← ehh]; exact Or.inr ⟨rfl, fun q => absurd (by rw [← hh9]; omega) (q.2 y2_6.toNatClampNeg (by omega) (by unfold own; rw [hF0, hF1]; omega))⟩⟩, by rw [ht]; exact hP, hD⟩, hS.F ht⟩) hS.2.2 dX8_mayBe_150
          · have tc_9 : x_8.toInt = (0 : Int32).toInt := by rw [c_9]
            refine lv_aload_n hx hb dX8_mayBe_51 rfl (lv_at hl 3 rfl) ?_
            refine va_get (D := (dC, dI)) (ci := 8) (v := .ref (ad 1)) (C := RX8) (T := TX8) (N := 11) hx hb hts (by decide +kernel) hown hK hP (0) (wm_at (by decide) rc_0) rfl 0 (by decide) (hts (.fieldLink RX8 7 "QuietStairsModel" "s" "[I") (by decide +kernel)) (fun _ h9 => h9) rfl dX8_mayBe_52 ?_
            refine lv_iload hx hb dX8_mayBe_55 (lv_at hl 0 rfl) ?_
            refine lv_iconst (v := 2) hx hb dX8_mayBe_57 (by decide) ?_
            refine lv_iadd hx hb dX8_mayBe_58 ?_
            refine lv_topi (fun x_10 ex_10 => ?_)
            have k_2 : (2 : Int32).toInt = 2 := by decide
            have tx_10 : x_10.toInt = r_4.toInt + (2 : Int32).toInt := by rw [ex_10]; exact t_add ⟨by omega, by omega⟩
            have nx_10 : x_10.toNatClampNeg = 160 + 25 * x0.toNatClampNeg + 5 * y2_6.toNatClampNeg := by have z1 := t_nn (x := x_10) (by omega); omega
            refine va_iald hx hb hK hP (1) 0 (wm_at (by decide) rc_1) rfl (vp_in_iff.mpr ⟨by omega, by omega⟩) dX8_mayBe_59 ?_
            refine lv_topi (fun x_11 ex_11 => ?_)
            rw [nx_10] at ex_11
            have qx_11 : x_11.toInt = (v 1 (160 + 25 * x0.toNatClampNeg + 5 * y2_6.toNatClampNeg)).toInt := congrArg Int32.toInt ex_11
            have hF2 : DD y2_6.toNatClampNeg 2 = x_11.toInt := by rw [eDD]; exact congrArg Int32.toInt ex_11.symm
            refine lv_aload_n hx hb dX8_mayBe_60 rfl (lv_at hl 3 rfl) ?_
            refine va_get (D := (dC, dI)) (ci := 8) (v := .ref (ad 1)) (C := RX8) (T := TX8) (N := 11) hx hb hts (by decide +kernel) hown hK hP (0) (wm_at (by decide) rc_0) rfl 0 (by decide) (hts (.fieldLink RX8 7 "QuietStairsModel" "s" "[I") (by decide +kernel)) (fun _ h9 => h9) rfl dX8_mayBe_61 ?_
            refine lv_iload hx hb dX8_mayBe_64 (lv_at hl 2 rfl) ?_
            refine lv_iconst (v := 2) hx hb dX8_mayBe_66 (by decide) ?_
            refine lv_iadd hx hb dX8_mayBe_67 ?_
            refine lv_topi (fun x_12 ex_12 => ?_)
            have tx_12 : x_12.toInt = r_1.toInt + (2 : Int32).toInt := by rw [ex_12]; exact t_add ⟨by omega, by omega⟩
            have nx_12 : x_12.toNatClampNeg = 160 + 25 * x0.toNatClampNeg + 5 * x2.toNatClampNeg := by have z1 := t_nn (x := x_12) (by omega); omega
            refine va_iald hx hb hK hP (1) 0 (wm_at (by decide) rc_1) rfl (vp_in_iff.mpr ⟨by omega, by omega⟩) dX8_mayBe_68 ?_
            refine lv_topi (fun x_13 ex_13 => ?_)
            rw [nx_12] at ex_13
            have qx_13 : x_13.toInt = (v 1 (160 + 25 * x0.toNatClampNeg + 5 * x2.toNatClampNeg)).toInt := congrArg Int32.toInt ex_13
            have hT2 : DD x2.toNatClampNeg 2 = x_13.toInt := by rw [eDD]; exact congrArg Int32.toInt ex_13.symm
            refine lv_icmp_ne (tgt := 106) hx hb dX8_mayBe_69 (by decide) (fun c_14 => ?_) (fun c_14 => ?_)
            · have tc_14 : x_11.toInt ≠ x_13.toInt := fun q => absurd (Int32.toInt_inj.mp q) c_14
              refine lv_iconst (v := 0) hx hb dX8_mayBe_106 (by decide) ?_
              refine lv_istore (lv' := [(8, .int 0), (7, .int r_4), (6, .int y2_6), (5, .int r_1), (0, .ref (ad 0)), (1, .int x0), (2, .int x1), (3, .int x2), (4, .int x3)]) hx hb dX8_mayBe_107 hl (by decide) rfl (fun ls hl => ?_)
              refine lv_iload hx hb dX8_mayBe_109 (lv_at hl 0 rfl) ?_
              refine lv_if_ne (tgt := 149) hx hb dX8_mayBe_111 (by decide) (fun c9 => absurd c9 (by decide)) (fun _ => ?_)
              refine lv_aload_n hx hb dX8_mayBe_114 rfl (lv_at hl 4 rfl) ?_
              refine va_get (D := (dC, dI)) (ci := 8) (v := .ref (ad 1)) (C := RX8) (T := TX8) (N := 11) hx hb hts (by decide +kernel) hown hK hP (0) (wm_at (by decide) rc_0) rfl 0 (by decide) (hts (.fieldLink RX8 7 "QuietStairsModel" "s" "[I") (by decide +kernel)) (fun _ h9 => h9) rfl dX8_mayBe_115 ?_
              refine lv_iload hx hb dX8_mayBe_118 (lv_at hl 1 rfl) ?_
              refine lv_iconst (v := 1) hx hb dX8_mayBe_120 (by decide) ?_
              refine lv_iadd hx hb dX8_mayBe_121 ?_
              refine lv_topi (fun x_15 ex_15 => ?_)
              obtain rfl : x_7 = x_15 := ex_7.trans ex_15.symm
              refine va_iald hx hb hK hP (1) 0 (wm_at (by decide) rc_1) rfl (vp_in_iff.mpr ⟨by omega, by omega⟩) dX8_mayBe_122 ?_
              refine lv_topi (fun x_16 ex_16 => ?_)
              have bzx_16 : 0 ≤ x_16.toInt ∧ x_16.toInt ≤ 1 := by rw [ex_16]; exact hv 1 _ 1 (bx_t0 (i := 5 * x0.toInt + y2_6.toInt) (s := 1) (by omega) ⟨by omega, by omega⟩ (by omega))
              rw [nx_7] at ex_16
              obtain rfl : x_8 = x_16 := (ex_16.trans ex_8.symm).symm
              refine lv_iconst (v := 1) hx hb dX8_mayBe_123 (by decide) ?_
              refine lv_icmp_ne (tgt := 151) hx hb dX8_mayBe_124 (by decide) (fun c_17 => ?_) (fun c_17 => ?_)
              · have tc_17 : x_8.toInt ≠ (1 : Int32).toInt := fun q => absurd (Int32.toInt_inj.mp q) c_17
                obtain ⟨x_18, ex_18⟩ : ∃ y : Int32, y = y2_6 + 1 := ⟨_, rfl⟩
                refine lv_iinc (v := x_18) (lv' := [(6, .int x_18), (8, .int 0), (7, .int r_4), (5, .int r_1), (0, .ref (ad 0)), (1, .int x0), (2, .int x1), (3, .int x2), (4, .int x3)]) hx hb dX8_mayBe_151 hl (k := 2) rfl (by rw [ex_18]; rfl) (by decide) rfl (fun ls hl => ?_)
                have tx_18 : x_18.toInt = y2_6.toInt + (1 : Int32).toInt := by rw [ex_18]; exact t_add ⟨by omega, by omega⟩
                refine lv_goto (tgt := 10) hx hb dX8_mayBe_154 (by decide) ?_
                exact ih_2 x_18 _ _ (by omega) (by omega) (fun q => by rw [bar_s (o := y2_6.toNatClampNeg) (n := y2_6.toInt) (by omega) (by omega)] at q; rcases q with q | q; exact hi2_0 q; unfold bro at q; rw [hF0, hF1, hF2, hT2] at q; omega) (fun o h1 h2 h3 => by by_cases e : (o : Int) < y2_6.toInt; exact hi2_1 o e h2 h3; rw [show o = y2_6.toNatClampNeg from by omega] at h2 h3 ⊢; unfold own at h3; rw [hF0, hF1] at h3; omega) (by omega) (by omega) hP hD hS ls (lv_sub hl [0, 3, 4, 5, 6, 7, 8] rfl)
              · have tc_17 : x_8.toInt = (1 : Int32).toInt := by rw [c_17]
                exfalso
                omega
            · have tc_14 : x_11.toInt = x_13.toInt := by rw [c_14]
              refine lv_aload_n hx hb dX8_mayBe_72 rfl (lv_at hl 3 rfl) ?_
              refine va_get (D := (dC, dI)) (ci := 8) (v := .ref (ad 7)) (C := RX8) (T := TX8) (N := 11) hx hb hts (by decide +kernel) hown hK hP (0) (wm_at (by decide) rc_0) rfl 10 (by decide) (hts (.fieldLink RX8 32 "QuietStairsModel" "hours" "[I") (by decide +kernel)) (fun _ h9 => h9) rfl dX8_mayBe_73 ?_
              refine lv_iload_n hx hb dX8_mayBe_76 rfl (lv_at hl 6 rfl) ?_
              refine va_iald hx hb hK hP (7) 0 (wm_at (by decide) rc_7) rfl (vp_in_iff.mpr ⟨by omega, by omega⟩) dX8_mayBe_77 ?_
              refine lv_topi (fun x_15 ex_15 => ?_)
              obtain rfl : hh = x_15 := (ex_15.trans ehh.symm).symm
              refine lv_aload_n hx hb dX8_mayBe_78 rfl (lv_at hl 3 rfl) ?_
              refine va_get (D := (dC, dI)) (ci := 8) (v := .ref (ad 1)) (C := RX8) (T := TX8) (N := 11) hx hb hts (by decide +kernel) hown hK hP (0) (wm_at (by decide) rc_0) rfl 0 (by decide) (hts (.fieldLink RX8 7 "QuietStairsModel" "s" "[I") (by decide +kernel)) (fun _ h9 => h9) rfl dX8_mayBe_79 ?_
              refine lv_iload hx hb dX8_mayBe_82 (lv_at hl 0 rfl) ?_
              refine lv_iconst (v := 3) hx hb dX8_mayBe_84 (by decide) ?_
              refine lv_iadd hx hb dX8_mayBe_85 ?_
              refine lv_topi (fun x_16 ex_16 => ?_)
              have k_3 : (3 : Int32).toInt = 3 := by decide
              have tx_16 : x_16.toInt = r_4.toInt + (3 : Int32).toInt := by rw [ex_16]; exact t_add ⟨by omega, by omega⟩
              have nx_16 : x_16.toNatClampNeg = 161 + 25 * x0.toNatClampNeg + 5 * y2_6.toNatClampNeg := by have z1 := t_nn (x := x_16) (by omega); omega
              refine va_iald hx hb hK hP (1) 0 (wm_at (by decide) rc_1) rfl (vp_in_iff.mpr ⟨by omega, by omega⟩) dX8_mayBe_86 ?_
              refine lv_topi (fun x_17 ex_17 => ?_)
              have bzx_17 : 0 ≤ x_17.toInt ∧ x_17.toInt ≤ 23 := by rw [ex_17]; exact hv 1 _ 23 (bx_t3 (i := 5 * x0.toInt + y2_6.toInt) (s := 3) (by omega) ⟨by omega, by omega⟩ (by omega))
              rw [nx_16] at ex_17
              have qx_17 : x_17.toInt = (v 1 (161 + 25 * x0.toNatClampNeg + 5 * y2_6.toNatClampNeg)).toInt := congrArg Int32.toInt ex_17
              have hF3 : DD y2_6.toNatClampNeg 3 = x_17.toInt := by rw [eDD]; exact congrArg Int32.toInt ex_17.symm
              refine lv_aload_n hx hb dX8_mayBe_87 rfl (lv_at hl 3 rfl) ?_
              refine va_get (D := (dC, dI)) (ci := 8) (v := .ref (ad 1)) (C := RX8) (T := TX8) (N := 11) hx hb hts (by decide +kernel) hown hK hP (0) (wm_at (by decide) rc_0) rfl 0 (by decide) (hts (.fieldLink RX8 7 "QuietStairsModel" "s" "[I") (by decide +kernel)) (fun _ h9 => h9) rfl dX8_mayBe_88 ?_
              refine lv_iload hx hb dX8_mayBe_91 (lv_at hl 0 rfl) ?_
              refine lv_iconst (v := 4) hx hb dX8_mayBe_93 (by decide) ?_
              refine lv_iadd hx hb dX8_mayBe_94 ?_
              refine lv_topi (fun x_18 ex_18 => ?_)
              have k_4 : (4 : Int32).toInt = 4 := by decide
              have tx_18 : x_18.toInt = r_4.toInt + (4 : Int32).toInt := by rw [ex_18]; exact t_add ⟨by omega, by omega⟩
              have nx_18 : x_18.toNatClampNeg = 162 + 25 * x0.toNatClampNeg + 5 * y2_6.toNatClampNeg := by have z1 := t_nn (x := x_18) (by omega); omega
              refine va_iald hx hb hK hP (1) 0 (wm_at (by decide) rc_1) rfl (vp_in_iff.mpr ⟨by omega, by omega⟩) dX8_mayBe_95 ?_
              refine lv_topi (fun x_19 ex_19 => ?_)
              have bzx_19 : 0 ≤ x_19.toInt ∧ x_19.toInt ≤ 23 := by rw [ex_19]; exact hv 1 _ 23 (bx_t3 (i := 5 * x0.toInt + y2_6.toInt) (s := 4) (by omega) ⟨by omega, by omega⟩ (by omega))
              rw [nx_18] at ex_19
              have qx_19 : x_19.toInt = (v 1 (162 + 25 * x0.toNatClampNeg + 5 * y2_6.toNatClampNeg)).toInt := congrArg Int32.toInt ex_19
              have hF4 : DD y2_6.toNatClampNeg 4 = x_19.toInt := by rw [eDD]; exact congrArg Int32.toInt ex_19.symm
              refine yc_p hP hS (va_runS (As := [.int hh, .int x_17, .int x_19]) (rest := []) ⟨hx, hb, hml, hown, hts⟩ (c_X8_in l hh x_17 x_19) (cwS 3 hts gX8_mayBe_X8_in rfl rfl rfl (by decide +kernel) ⟨Nat.le_of_ble_eq_true rfl, Nat.le_of_ble_eq_true rfl⟩) ex_preP rfl rfl hl.1 rfl (lv_room (Nat.le_of_ble_eq_true rfl)) dX8_mayBe_96 ⟨Nat.le_of_ble_eq_true rfl, Nat.le_of_ble_eq_true rfl⟩) (fun r_20 H locs hw_20 hP hS => ?_)
              rcases wi_ca hw_20 with ⟨rfl, hc_21⟩ | ⟨rfl, hc_21⟩
              · have tc_21 := wi_tl hc_21
                refine lv_if_eq (tgt := 106) hx hb dX8_mayBe_99 (by decide) (fun c9 => absurd c9 (by decide)) (fun _ => ?_)
                refine lv_iconst (v := 1) hx hb dX8_mayBe_102 (by decide) ?_
                refine lv_goto (tgt := 107) hx hb dX8_mayBe_103 (by decide) ?_
                refine lv_istore (lv' := [(8, .int 1), (7, .int r_4), (6, .int y2_6), (5, .int r_1), (0, .ref (ad 0)), (1, .int x0), (2, .int x1), (3, .int x2), (4, .int x3)]) hx hb dX8_mayBe_107 hl (by decide) rfl (fun ls hl => ?_)
                refine lv_iload hx hb dX8_mayBe_109 (lv_at hl 0 rfl) ?_
                refine lv_if_ne (tgt := 149) hx hb dX8_mayBe_111 (by decide) (fun _ => ?_) (fun c9 => absurd c9 (by decide))
                refine lv_iconst (v := 0) hx hb dX8_mayBe_149 (by decide) ?_
                exact W.zret (ty := .boolean) (v := 0) hx hb hr rfl (fun t ht hW => ⟨⟨0, v, rfl, ⟨hv, rfl, by rw [← eDD, ← ehh]; exact Or.inr ⟨rfl, fun q => q.1 ⟨y2_6.toNatClampNeg, by omega, by unfold bro; rw [hF0, hF1, hF2, hT2, hF3, hF4]; omega⟩⟩⟩, by rw [ht]; exact hP, hD⟩, hS.F ht⟩) hS.2.2 dX8_mayBe_150
              · have tc_21 : ¬ (x_17.toInt ≤ hh.toInt ∧ hh.toInt ≤ x_19.toInt) := fun q => hc_21 ⟨Int32.le_iff_toInt_le.mpr q.1, Int32.le_iff_toInt_le.mpr q.2⟩
                refine lv_if_eq (tgt := 106) hx hb dX8_mayBe_99 (by decide) (fun _ => ?_) (fun c9 => absurd c9 (by decide))
                refine lv_iconst (v := 0) hx hb dX8_mayBe_106 (by decide) ?_
                refine lv_istore (lv' := [(8, .int 0), (7, .int r_4), (6, .int y2_6), (5, .int r_1), (0, .ref (ad 0)), (1, .int x0), (2, .int x1), (3, .int x2), (4, .int x3)]) hx hb dX8_mayBe_107 hl (by decide) rfl (fun ls hl => ?_)
                refine lv_iload hx hb dX8_mayBe_109 (lv_at hl 0 rfl) ?_
                refine lv_if_ne (tgt := 149) hx hb dX8_mayBe_111 (by decide) (fun c9 => absurd c9 (by decide)) (fun _ => ?_)
                refine lv_aload_n hx hb dX8_mayBe_114 rfl (lv_at hl 4 rfl) ?_
                refine va_get (D := (dC, dI)) (ci := 8) (v := .ref (ad 1)) (C := RX8) (T := TX8) (N := 11) hx hb hts (by decide +kernel) hown hK hP (0) (wm_at (by decide) rc_0) rfl 0 (by decide) (hts (.fieldLink RX8 7 "QuietStairsModel" "s" "[I") (by decide +kernel)) (fun _ h9 => h9) rfl dX8_mayBe_115 ?_
                refine lv_iload hx hb dX8_mayBe_118 (lv_at hl 1 rfl) ?_
                refine lv_iconst (v := 1) hx hb dX8_mayBe_120 (by decide) ?_
                refine lv_iadd hx hb dX8_mayBe_121 ?_
                refine lv_topi (fun x_22 ex_22 => ?_)
                obtain rfl : x_7 = x_22 := ex_7.trans ex_22.symm
                refine va_iald hx hb hK hP (1) 0 (wm_at (by decide) rc_1) rfl (vp_in_iff.mpr ⟨by omega, by omega⟩) dX8_mayBe_122 ?_
                refine lv_topi (fun x_23 ex_23 => ?_)
                have bzx_23 : 0 ≤ x_23.toInt ∧ x_23.toInt ≤ 1 := by rw [ex_23]; exact hv 1 _ 1 (bx_t0 (i := 5 * x0.toInt + y2_6.toInt) (s := 1) (by omega) ⟨by omega, by omega⟩ (by omega))
                rw [nx_7] at ex_23
                obtain rfl : x_8 = x_23 := (ex_23.trans ex_8.symm).symm
                refine lv_iconst (v := 1) hx hb dX8_mayBe_123 (by decide) ?_
                refine lv_icmp_ne (tgt := 151) hx hb dX8_mayBe_124 (by decide) (fun c_24 => ?_) (fun c_24 => ?_)
                · have tc_24 : x_8.toInt ≠ (1 : Int32).toInt := fun q => absurd (Int32.toInt_inj.mp q) c_24
                  obtain ⟨x_25, ex_25⟩ : ∃ y : Int32, y = y2_6 + 1 := ⟨_, rfl⟩
                  refine lv_iinc (v := x_25) (lv' := [(6, .int x_25), (8, .int 0), (7, .int r_4), (5, .int r_1), (0, .ref (ad 0)), (1, .int x0), (2, .int x1), (3, .int x2), (4, .int x3)]) hx hb dX8_mayBe_151 hl (k := 2) rfl (by rw [ex_25]; rfl) (by decide) rfl (fun ls hl => ?_)
                  have tx_25 : x_25.toInt = y2_6.toInt + (1 : Int32).toInt := by rw [ex_25]; exact t_add ⟨by omega, by omega⟩
                  refine lv_goto (tgt := 10) hx hb dX8_mayBe_154 (by decide) ?_
                  exact ih_2 x_25 _ _ (by omega) (by omega) (fun q => by rw [bar_s (o := y2_6.toNatClampNeg) (n := y2_6.toInt) (by omega) (by omega)] at q; rcases q with q | q; exact hi2_0 q; unfold bro at q; rw [hF0, hF1, hF2, hT2, hF3, hF4] at q; omega) (fun o h1 h2 h3 => by by_cases e : (o : Int) < y2_6.toInt; exact hi2_1 o e h2 h3; rw [show o = y2_6.toNatClampNeg from by omega] at h2 h3 ⊢; unfold own at h3; rw [hF0, hF1] at h3; omega) (by omega) (by omega) hP hD hS ls (lv_sub hl [0, 3, 4, 5, 6, 7, 8] rfl)
                · have tc_24 : x_8.toInt = (1 : Int32).toInt := by rw [c_24]
                  exfalso
                  omega
        · have tc_6 : x_5.toInt ≠ x1.toInt := fun q => absurd (Int32.toInt_inj.mp q) c_6
          refine lv_goto (tgt := 151) hx hb dX8_mayBe_36 (by decide) ?_
          obtain ⟨x_7, ex_7⟩ : ∃ y : Int32, y = y2_6 + 1 := ⟨_, rfl⟩
          refine lv_iinc (v := x_7) (lv' := [(6, .int x_7), (7, .int r_4), (5, .int r_1), (0, .ref (ad 0)), (1, .int x0), (2, .int x1), (3, .int x2), (4, .int x3)]) hx hb dX8_mayBe_151 hl (k := 1) rfl (by rw [ex_7]; rfl) (by decide) rfl (fun ls hl => ?_)
          have k_1 : (1 : Int32).toInt = 1 := by decide
          have tx_7 : x_7.toInt = y2_6.toInt + (1 : Int32).toInt := by rw [ex_7]; exact t_add ⟨by omega, by omega⟩
          refine lv_goto (tgt := 10) hx hb dX8_mayBe_154 (by decide) ?_
          exact ih_2 x_7 _ _ (by omega) (by omega) (fun q => by rw [bar_s (o := y2_6.toNatClampNeg) (n := y2_6.toInt) (by omega) (by omega)] at q; rcases q with q | q; exact hi2_0 q; unfold bro at q; rw [hF0] at q; omega) (fun o h1 h2 h3 => by by_cases e : (o : Int) < y2_6.toInt; exact hi2_1 o e h2 h3; rw [show o = y2_6.toNatClampNeg from by omega] at h2 h3 ⊢; unfold own at h3; rw [hF0] at h3; omega) (by omega) (by omega) hP hD hS ls (lv_sub hl [0, 2, 3, 4, 5, 6, 7] rfl)
  have k_0 : (0 : Int32).toInt = 0 := by decide
  exact hc_2 ((5 - (0 : Int32).toInt).toNat + 1) 0 _ _ (by omega) (by omega) (bar_0 (by omega)) (fun o h1 => absurd h1 (by omega)) (by omega) (by omega) hP hD hS ls (lv_sub hl [0, 1, 2, 3, 4, 5, 6] rfl)

theorem VH_cg {D : Nat → Nat → Int} {sd n h : Int} {t : Nat} {f g : Nat → Int32} (e : ∀ o : Nat, o < t → f o = g o) : VH D sd n t f h ↔ VH D sd n t g h := and_congr Iff.rfl ⟨fun q o h1 h2 => by rw [← e o h1]; exact q o h1 h2, fun q o h1 h2 => by rw [e o h1]; exact q o h1 h2⟩
theorem bS_v {c t w : Nat} (hc : c < 6) (ht : t < 5) (hw : w = 161 ∨ w = 162) : bS (w + 25 * c + 5 * t) = some 23 := by
  unfold bS
  repeat' split
  all_goals first | rfl | (exfalso; omega)
theorem bS_w {c t : Nat} (hc : c < 6) (ht : t < 5) : bS (158 + 3 + 25 * c + 5 * t) = some 23 ∧ bS (158 + 4 + 25 * c + 5 * t) = some 23 := ⟨bS_v (w := 161) hc ht (by omega), bS_v (w := 162) hc ht (by omega)⟩

set_option maxHeartbeats 4000000 in
set_option maxRecDepth 100000 in
theorem e_X8_hourFrom (l : Launch) (dC : Nat → ClassId) (dI : Nat → Nat → Nat) (cy : Nat → ClassId) (sz : Nat) (ad : Nat → Nat) (v : Nat → Nat → Int32) (hv : Ir v) (x0 x1 x2 x3 x4 : Int32) (h0 : 0 ≤ x0.toInt ∧ x0.toInt ≤ 5) (h2 : 0 ≤ x2.toInt ∧ x2.toInt ≤ 4) (h3 : 0 ≤ x3.toInt ∧ x3.toInt ≤ 24) (h4 : 0 ≤ x4.toInt ∧ x4.toInt ≤ 5) (h24 : x2.toInt < x4.toInt) : Met l yX8_hourFrom wsX8_hourFrom ({ frames := 2, cells := 0, slots := 0, locals := 128 }) (va_Pc [.ref (ad 0), .int x0, .int x1, .int x2, .int x3, .int x4] (ex_Pre dC dI cy sz (wm ad cy v))) (va_Qi (fun (r : Int32) (u : Nat → Nat → Int32) => Ir u ∧ Fq v u ∧ (∀ i : Nat, i ≠ x2.toNatClampNeg → u 7 i = v 7 i) ∧ ((r.toInt = -1 ∧ ∀ h : Int, x3.toInt ≤ h → h ≤ (fun t k => (v 1 (158 + k + 25 * x0.toNatClampNeg + 5 * t)).toInt) x2.toNatClampNeg 4 → ¬ VH (fun t k => (v 1 (158 + k + 25 * x0.toNatClampNeg + 5 * t)).toInt) x1.toInt x4.toInt x2.toNatClampNeg (v 7) h) ∨ ((x3.toInt ≤ r.toInt ∧ r.toInt ≤ (fun t k => (v 1 (158 + k + 25 * x0.toNatClampNeg + 5 * t)).toInt) x2.toNatClampNeg 4) ∧ u 7 x2.toNatClampNeg = r ∧ VH (fun t k => (v 1 (158 + k + 25 * x0.toNatClampNeg + 5 * t)).toInt) x1.toInt x4.toInt x2.toNatClampNeg (v 7) r.toInt ∧ ∀ h : Int, x3.toInt ≤ h → h < r.toInt → ¬ VH (fun t k => (v 1 (158 + k + 25 * x0.toNatClampNeg + 5 * t)).toInt) x1.toInt x4.toInt x2.toNatClampNeg (v 7) h))) (fun u t => ex_Pst dC dI (va_A (wm ad cy v) sz) (wm ad cy u) t) (va_A (wm ad cy v) sz)) 0 0 (va_A (wm ad cy v) sz) := by
  refine Met.ofW (cc := cX8_hourFrom) (maxL := 6) (ret := (some .int)) (by decide) rfl ?_
  intro p e s m args below meth c s₁ B hml hv
  obtain ⟨rfl, hsz, hE, hP, hK, hD0⟩ := hv
  have hx := B.exec
  have hb := B.bytes
  have hr := B.returns
  have hts := atoms_spec (ws := wsX8_hourFrom) B.pre
  have hown : s.vm.findClass RX8 = some m.cls := findClass_of_methodNamed B.named
  have hlocks := B.notSynchronized
  subst hsz
  have hD := hD0.self (sz := s.heap.size)
  generalize hAe : va_A (wm ad cy v) s.heap.size = A at hD ⊢
  have hA : ∀ q : Nat, s.heap.size ≤ q → A q := fun q h => by rw [← hAe]; exact Or.inr h
  have hS : va_S A s.heap s.heap [] := va_S.rf
  have hP : va_P (dC, dI) vwCl (wm ad cy v) s.heap := hP
  have hl := lv_entry ([.ref (ad 0), .int x0, .int x1, .int x2, .int x3, .int x4]) (n := 6) (Nat.le_of_ble_eq_true rfl)
  rw [lg_entry_eq]
  generalize (lg_sl ([.ref (ad 0), .int x0, .int x1, .int x2, .int x3, .int x4]) ++ List.replicate (6 - (lg_sl ([.ref (ad 0), .int x0, .int x1, .int x2, .int x3, .int x4])).length) Slot.unset).toArray = ls at hl ⊢
  have hl : lv_has ls 6 [(0, .ref (ad 0)), (1, .int x0), (2, .int x1), (3, .int x2), (4, .int x3), (5, .int x4)] := hl
  have hfr : Fq v v := Fq.rf
  have zn_x0 : (x0.toNatClampNeg : Int) = x0.toInt := t_nn (by omega)
  have zn_x2 : (x2.toNatClampNeg : Int) = x2.toInt := t_nn (by omega)
  obtain ⟨DD, eDD⟩ : ∃ f : Nat → Nat → Int, f = fun t k => (v 1 (158 + k + 25 * x0.toNatClampNeg + 5 * t)).toInt := ⟨_, rfl⟩
  have hD4 : DD x2.toNatClampNeg 4 ≤ 23 := by rw [eDD]; exact (hv 1 _ 23 (bS_w (by omega) (by omega)).2).2
  refine lv_aload_n hx hb dX8_hourFrom_0 rfl (lv_at hl 0 rfl) ?_
  refine va_get (D := (dC, dI)) (ci := 8) (v := .ref (ad 7)) (C := RX8) (T := TX8) (N := 11) hx hb hts (by decide +kernel) hown hK hP (0) (wm_at (by decide) rc_0) rfl 10 (by decide) (hts (.fieldLink RX8 32 "QuietStairsModel" "hours" "[I") (by decide +kernel)) (fun _ h9 => h9) rfl dX8_hourFrom_1 ?_
  refine lv_iload_n hx hb dX8_hourFrom_4 rfl (lv_at hl 3 rfl) ?_
  refine lv_iload hx hb dX8_hourFrom_5 (lv_at hl 4 rfl) ?_
  refine va_iast hx hb hK hP hD hS (7) 0 (wm_at (by decide) rc_7) rfl (vp_in_iff.mpr ⟨by omega, by omega⟩) dX8_hourFrom_7 (fun H locs hP hD hS => ?_)
  obtain ⟨v_1, ev_1⟩ : ∃ u : Nat → Nat → Int32, u = upr v 7 (upd (v 7) (x2.toNatClampNeg) x3) := ⟨_, rfl⟩
  have hP : va_P (dC, dI) vwCl (wm ad cy v_1) H := by rw [ev_1, ← wm_put (e := _) rc_7]; exact hP
  have hD : va_D A (wm ad cy v_1) := by rw [ev_1, ← wm_put (e := _) rc_7]; exact hD
  have hv : Ir v_1 := by rw [ev_1]; exact hv.put (k := 7) (fun h q => by rw [(show br 7 _ = none from rfl)] at q; cases q)
  have hfr : Fq v v_1 := by rw [ev_1]; exact hfr.row (by decide)
  have hc_2 : ∀ (n : Nat) (u2 : Nat → Nat → Int32) (H : Heap) (locs : List Loc), (x3.toInt ≤ (u2 7 x2.toNatClampNeg).toInt) → ((u2 7 x2.toNatClampNeg).toInt ≤ 24) → (∀ i : Nat, i ≠ x2.toNatClampNeg → u2 7 i = v 7 i) → (∀ h : Int, x3.toInt ≤ h → h < (u2 7 x2.toNatClampNeg).toInt → ¬ VH DD x1.toInt x4.toInt x2.toNatClampNeg (v 7) h) → (25 - (u2 7 x2.toNatClampNeg).toInt).toNat < n → Ir u2 → Fq v u2 → va_P (dC, dI) vwCl (wm ad cy u2) H → va_D A (wm ad cy u2) → va_S A s.heap H locs → ∀ ls : Array Slot, lv_has ls 6 [(0, .ref (ad 0)), (1, .int x0), (2, .int x1), (3, .int x2), (4, .int x3), (5, .int x4)] → W p l e (headSpec wsX8_hourFrom ({ frames := 2, cells := 0, slots := 0, locals := 128 })).room s m [Value.ref (ad 0), Value.int x0, Value.int x1, Value.int x2, Value.int x3, Value.int x4].toArray below meth c H locs 0 0 (MQ below (va_Qi (fun (r : Int32) (u : Nat → Nat → Int32) => Ir u ∧ Fq v u ∧ (∀ i : Nat, i ≠ x2.toNatClampNeg → u 7 i = v 7 i) ∧ ((r.toInt = -1 ∧ ∀ h : Int, x3.toInt ≤ h → h ≤ (fun t k => (v 1 (158 + k + 25 * x0.toNatClampNeg + 5 * t)).toInt) x2.toNatClampNeg 4 → ¬ VH (fun t k => (v 1 (158 + k + 25 * x0.toNatClampNeg + 5 * t)).toInt) x1.toInt x4.toInt x2.toNatClampNeg (v 7) h) ∨ ((x3.toInt ≤ r.toInt ∧ r.toInt ≤ (fun t k => (v 1 (158 + k + 25 * x0.toNatClampNeg + 5 * t)).toInt) x2.toNatClampNeg 4) ∧ u 7 x2.toNatClampNeg = r ∧ VH (fun t k => (v 1 (158 + k + 25 * x0.toNatClampNeg + 5 * t)).toInt) x1.toInt x4.toInt x2.toNatClampNeg (v 7) r.toInt ∧ ∀ h : Int, x3.toInt ≤ h → h < r.toInt → ¬ VH (fun t k => (v 1 (158 + k + 25 * x0.toNatClampNeg + 5 * t)).toInt) x1.toInt x4.toInt x2.toNatClampNeg (v 7) h))) (fun u t => ex_Pst dC dI A (wm ad cy u) t) A) [Value.ref (ad 0), Value.int x0, Value.int x1, Value.int x2, Value.int x3, Value.int x4].toArray s 0 0 A) (F0 m 8 ls []) := by
    intro n
    induction n with
    | zero =>
      intro u2 H locs hi2_0 hi2_1 hi2_2 hi2_3 hm_2 hv hfr hP hD hS ls hl
      exact absurd hm_2 (by omega)
    | succ n ih_2 =>
      intro u2 H locs hi2_0 hi2_1 hi2_2 hi2_3 hm_2 hv hfr hP hD hS ls hl
      refine lv_aload_n hx hb dX8_hourFrom_8 rfl (lv_at hl 0 rfl) ?_
      refine va_get (D := (dC, dI)) (ci := 8) (v := .ref (ad 7)) (C := RX8) (T := TX8) (N := 11) hx hb hts (by decide +kernel) hown hK hP (0) (wm_at (by decide) rc_0) rfl 10 (by decide) (hts (.fieldLink RX8 32 "QuietStairsModel" "hours" "[I") (by decide +kernel)) (fun _ h9 => h9) rfl dX8_hourFrom_9 ?_
      refine lv_iload_n hx hb dX8_hourFrom_12 rfl (lv_at hl 3 rfl) ?_
      refine va_iald hx hb hK hP (7) 0 (wm_at (by decide) rc_7) rfl (vp_in_iff.mpr ⟨by omega, by omega⟩) dX8_hourFrom_13 ?_
      refine lv_topi (fun x_3 ex_3 => ?_)
      have qx_3 : x_3.toInt = (u2 7 (x2.toNatClampNeg)).toInt := congrArg Int32.toInt ex_3
      have bzx_3 : x3.toInt ≤ x_3.toInt ∧ x_3.toInt ≤ 24 := by rw [ex_3]; exact ⟨hi2_0, hi2_1⟩
      refine lv_aload_n hx hb dX8_hourFrom_14 rfl (lv_at hl 0 rfl) ?_
      refine va_get (D := (dC, dI)) (ci := 8) (v := .ref (ad 1)) (C := RX8) (T := TX8) (N := 11) hx hb hts (by decide +kernel) hown hK hP (0) (wm_at (by decide) rc_0) rfl 0 (by decide) (hts (.fieldLink RX8 7 "QuietStairsModel" "s" "[I") (by decide +kernel)) (fun _ h9 => h9) rfl dX8_hourFrom_15 ?_
      refine lv_iload_n hx hb dX8_hourFrom_18 rfl (lv_at hl 1 rfl) ?_
      refine lv_iload_n hx hb dX8_hourFrom_19 rfl (lv_at hl 3 rfl) ?_
      refine yc_p hP hS (va_runS (As := [.int x0, .int x2]) (rest := [.ref (ad 1), .int x_3]) ⟨hx, hb, hml, hown, hts⟩ (c_X8_termAt l x0 x2) (cwS 2 hts gX8_hourFrom_X8_termAt rfl rfl rfl (by decide +kernel) ⟨Nat.le_of_ble_eq_true rfl, Nat.le_of_ble_eq_true rfl⟩) ex_preP rfl rfl hl.1 rfl (lv_room (Nat.le_of_ble_eq_true rfl)) dX8_hourFrom_20 ⟨Nat.le_of_ble_eq_true rfl, Nat.le_of_ble_eq_true rfl⟩) (fun r_4 H locs hw_4 hP hS => ?_)
      have tr_4 : r_4.toInt = 158 + 25 * x0.toInt + 5 * x2.toInt := t_tm hw_4 ⟨by omega, by omega⟩ ⟨by omega, by omega⟩
      refine lv_iconst (v := 4) hx hb dX8_hourFrom_23 (by decide) ?_
      refine lv_iadd hx hb dX8_hourFrom_24 ?_
      refine lv_topi (fun x_5 ex_5 => ?_)
      have k_4 : (4 : Int32).toInt = 4 := by decide
      have tx_5 : x_5.toInt = r_4.toInt + (4 : Int32).toInt := by rw [ex_5]; exact t_add ⟨by omega, by omega⟩
      have nx_5 : x_5.toNatClampNeg = 162 + 25 * x0.toNatClampNeg + 5 * x2.toNatClampNeg := by have z1 := t_nn (x := x_5) (by omega); omega
      refine va_iald hx hb hK hP (1) 0 (wm_at (by decide) rc_1) rfl (vp_in_iff.mpr ⟨by omega, by omega⟩) dX8_hourFrom_25 ?_
      refine lv_topi (fun x_6 ex_6 => ?_)
      have bzx_6 : 0 ≤ x_6.toInt ∧ x_6.toInt ≤ 23 := by rw [ex_6]; exact hv 1 _ 23 (bx_t3 (i := 5 * x0.toInt + x2.toInt) (s := 4) (by omega) ⟨by omega, by omega⟩ (by omega))
      rw [nx_5] at ex_6
      have qx_6 : x_6.toInt = (u2 1 (162 + 25 * x0.toNatClampNeg + 5 * x2.toNatClampNeg)).toInt := congrArg Int32.toInt ex_6
      have h49 : DD x2.toNatClampNeg 4 = x_6.toInt := by rw [eDD, ex_6, hfr.1]
      refine lv_icmp_gt (tgt := 61) hx hb dX8_hourFrom_26 (by decide) (fun c_7 => ?_) (fun c_7 => ?_)
      · have tc_7 : x_3.toInt > x_6.toInt := Int32.lt_iff_toInt_lt.mp c_7
        refine lv_iconst (v := (-1)) hx hb dX8_hourFrom_61 (by decide) ?_
        exact W.iret (v := (-1)) hx hb hr (fun t ht hW => ⟨⟨(-1), u2, rfl, ⟨hv, hfr, hi2_2, by rw [← eDD]; exact Or.inl ⟨by decide, fun h h1 h2 => hi2_3 h h1 (by rw [← ex_3]; omega)⟩⟩, by rw [ht]; exact hP, hD⟩, hS.F ht⟩) hS.2.2 dX8_hourFrom_62
      · have tc_7 : x_3.toInt ≤ x_6.toInt := Int32.le_iff_toInt_le.mp (Int32.not_lt.mp c_7)
        refine lv_aload_n hx hb dX8_hourFrom_29 rfl (lv_at hl 0 rfl) ?_
        refine lv_iload_n hx hb dX8_hourFrom_30 rfl (lv_at hl 1 rfl) ?_
        refine lv_iload_n hx hb dX8_hourFrom_31 rfl (lv_at hl 2 rfl) ?_
        refine lv_iload_n hx hb dX8_hourFrom_32 rfl (lv_at hl 3 rfl) ?_
        refine lv_iload hx hb dX8_hourFrom_33 (lv_at hl 5 rfl) ?_
        refine yw_i (w1 := fun (u : Nat → Nat → Int32) => wm ad cy u) hD hS hA (va_runV (As := [.int x0, .int x1, .int x2, .int x4]) (rest := []) ⟨hx, hb, hml, hown, hts⟩ (e_X8_mayBe l dC dI cy _ ad u2 hv x0 x1 x2 x4 ⟨by omega, by omega⟩ ⟨by omega, by omega⟩ ⟨by omega, by omega⟩ h24) (cwV 4 hts gX8_hourFrom_X8_mayBe rfl rfl rfl (by decide +kernel) ⟨Nat.le_of_ble_eq_true rfl, Nat.le_of_ble_eq_true rfl⟩) (yw_preV hE hK hP hD (ci := 8) (q0 := 0) rfl (wm_at (by decide) rc_0)) rfl rfl hl.1 rfl (lv_room (Nat.le_of_ble_eq_true rfl)) dX8_hourFrom_35 ⟨Nat.le_of_ble_eq_true rfl, Nat.le_of_ble_eq_true rfl⟩) (fun r_8 v_8 H locs hw_8 hP hD hS => ?_)
        obtain ⟨-, hu_8, hw_8⟩ := hw_8
        replace hu_8 := hu_8.symm
        subst hu_8
        rcases hw_8 with ⟨rfl, hb_9⟩ | ⟨rfl, hb_9⟩
        · rw [show (fun t k => (u2 1 (158 + k + 25 * x0.toNatClampNeg + 5 * t)).toInt) = DD from by rw [eDD, hfr.1], VH_cg (g := v 7) (fun o ho => hi2_2 o (by omega)), ← ex_3] at hb_9
          refine lv_if_eq (tgt := 48) hx hb dX8_hourFrom_38 (by decide) (fun c9 => absurd c9 (by decide)) (fun _ => ?_)
          refine lv_aload_n hx hb dX8_hourFrom_41 rfl (lv_at hl 0 rfl) ?_
          refine va_get (D := (dC, dI)) (ci := 8) (v := .ref (ad 7)) (C := RX8) (T := TX8) (N := 11) hx hb hts (by decide +kernel) hown hK hP (0) (wm_at (by decide) rc_0) rfl 10 (by decide) (hts (.fieldLink RX8 32 "QuietStairsModel" "hours" "[I") (by decide +kernel)) (fun _ h9 => h9) rfl dX8_hourFrom_42 ?_
          refine lv_iload_n hx hb dX8_hourFrom_45 rfl (lv_at hl 3 rfl) ?_
          refine va_iald hx hb hK hP (7) 0 (wm_at (by decide) rc_7) rfl (vp_in_iff.mpr ⟨by omega, by omega⟩) dX8_hourFrom_46 ?_
          refine lv_topi (fun x_10 ex_10 => ?_)
          obtain rfl : x_3 = x_10 := (ex_10.trans ex_3.symm).symm
          exact W.iret (v := x_3) hx hb hr (fun t ht hW => ⟨⟨x_3, u2, rfl, ⟨hv, hfr, hi2_2, by rw [← eDD]; exact Or.inr ⟨⟨by omega, by omega⟩, ex_3.symm, hb_9, fun h h1 h2 => hi2_3 h h1 (by rw [← ex_3]; exact h2)⟩⟩, by rw [ht]; exact hP, hD⟩, hS.F ht⟩) hS.2.2 dX8_hourFrom_47
        · rw [show (fun t k => (u2 1 (158 + k + 25 * x0.toNatClampNeg + 5 * t)).toInt) = DD from by rw [eDD, hfr.1], VH_cg (g := v 7) (fun o ho => hi2_2 o (by omega)), ← ex_3] at hb_9
          refine lv_if_eq (tgt := 48) hx hb dX8_hourFrom_38 (by decide) (fun _ => ?_) (fun c9 => absurd c9 (by decide))
          refine lv_aload_n hx hb dX8_hourFrom_48 rfl (lv_at hl 0 rfl) ?_
          refine va_get (D := (dC, dI)) (ci := 8) (v := .ref (ad 7)) (C := RX8) (T := TX8) (N := 11) hx hb hts (by decide +kernel) hown hK hP (0) (wm_at (by decide) rc_0) rfl 10 (by decide) (hts (.fieldLink RX8 32 "QuietStairsModel" "hours" "[I") (by decide +kernel)) (fun _ h9 => h9) rfl dX8_hourFrom_49 ?_
          refine lv_iload_n hx hb dX8_hourFrom_52 rfl (lv_at hl 3 rfl) ?_
          refine lv_dup2_11 hx hb dX8_hourFrom_53 rfl rfl ?_
          refine va_iald hx hb hK hP (7) 0 (wm_at (by decide) rc_7) rfl (vp_in_iff.mpr ⟨by omega, by omega⟩) dX8_hourFrom_54 ?_
          refine lv_topi (fun x_10 ex_10 => ?_)
          obtain rfl : x_3 = x_10 := (ex_10.trans ex_3.symm).symm
          refine lv_iconst (v := 1) hx hb dX8_hourFrom_55 (by decide) ?_
          refine lv_iadd hx hb dX8_hourFrom_56 ?_
          refine lv_topi (fun x_11 ex_11 => ?_)
          have k_1 : (1 : Int32).toInt = 1 := by decide
          have tx_11 : x_11.toInt = x_3.toInt + (1 : Int32).toInt := by rw [ex_11]; exact t_add ⟨by omega, by omega⟩
          refine va_iast hx hb hK hP hD hS (7) 0 (wm_at (by decide) rc_7) rfl (vp_in_iff.mpr ⟨by omega, by omega⟩) dX8_hourFrom_57 (fun H locs hP hD hS => ?_)
          obtain ⟨v_12, ev_12⟩ : ∃ u : Nat → Nat → Int32, u = upr u2 7 (upd (u2 7) (x2.toNatClampNeg) x_11) := ⟨_, rfl⟩
          have hP : va_P (dC, dI) vwCl (wm ad cy v_12) H := by rw [ev_12, ← wm_put (e := _) rc_7]; exact hP
          have hD : va_D A (wm ad cy v_12) := by rw [ev_12, ← wm_put (e := _) rc_7]; exact hD
          have hv : Ir v_12 := by rw [ev_12]; exact hv.put (k := 7) (fun h q => by rw [(show br 7 _ = none from rfl)] at q; cases q)
          have hfr : Fq v v_12 := by rw [ev_12]; exact hfr.row (by decide)
          refine lv_goto (tgt := 8) hx hb dX8_hourFrom_58 (by decide) ?_
          exact ih_2 v_12 _ _  (by rw [ev_12, upr_s, pk_us]; omega) (by rw [ev_12, upr_s, pk_us]; omega) (fun i hi => by rw [ev_12, upr_s, pk_un hi]; exact hi2_2 i hi) (fun h h1 h2 => by rw [ev_12, upr_s, pk_us] at h2; by_cases e : h < x_3.toInt; exact hi2_3 h h1 (by rw [← ex_3]; exact e); rw [show h = x_3.toInt from by omega]; exact hb_9) (by rw [ev_12, upr_s, pk_us]; have z1 := ex_3; rw [← ex_3] at hm_2; omega) hv hfr hP hD hS ls (lv_sub hl [0, 1, 2, 3, 4, 5] rfl)
  exact hc_2 ((25 - (v_1 7 x2.toNatClampNeg).toInt).toNat + 1) v_1 _ _  (by rw [ev_1, upr_s, pk_us]; omega) (by rw [ev_1, upr_s, pk_us]; omega) (fun i hi => by rw [ev_1, upr_s, pk_un hi]) (fun h h1 h2 => absurd h2 (by rw [ev_1, upr_s, pk_us]; omega)) (by omega) hv hfr hP hD hS ls (lv_sub hl [0, 1, 2, 3, 4, 5] rfl)
