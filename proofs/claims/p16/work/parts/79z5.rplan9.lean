
set_option maxHeartbeats 4000000 in
set_option maxRecDepth 100000 in
theorem e_X8_waits (l : Launch) (dC : Nat → ClassId) (dI : Nat → Nat → Nat) (cy : Nat → ClassId) (sz : Nat) (ad : Nat → Nat) (v : Nat → Nat → Int32) (hv : Ir v) (hW : ∀ c : Nat, c < (v 1 2).toNatClampNeg → 1 ≤ (v 1 (37 + 7 * c)).toInt ∧ (v 1 (37 + 7 * c)).toInt ≤ 9) : Met l yX8_waits wsX8_waits ({ frames := 5, cells := 0, slots := 0, locals := 320 }) (va_Pc [.ref (ad 0)] (ex_Pre dC dI cy sz (wm ad cy v))) (va_Qi (fun (r : Int32) (u : Nat → Nat → Int32) => Ir u ∧ Fq v u ∧ RP9 v u ∧ r = u 0 9) (fun u t => ex_Pst dC dI (va_A (wm ad cy v) sz) (wm ad cy u) t) (va_A (wm ad cy v) sz)) 0 0 (va_A (wm ad cy v) sz) := by
  refine Met.ofW (cc := cX8_waits) (maxL := 1) (ret := (some .int)) (by decide) rfl ?_
  intro p e s m args below meth c s₁ B hml hv
  obtain ⟨rfl, hsz, hE, hP, hK, hD0⟩ := hv
  have hx := B.exec
  have hb := B.bytes
  have hr := B.returns
  have hts := atoms_spec (ws := wsX8_waits) B.pre
  have hown : s.vm.findClass RX8 = some m.cls := findClass_of_methodNamed B.named
  have hlocks := B.notSynchronized
  subst hsz
  have hD := hD0.self (sz := s.heap.size)
  generalize hAe : va_A (wm ad cy v) s.heap.size = A at hD ⊢
  have hA : ∀ q : Nat, s.heap.size ≤ q → A q := fun q h => by rw [← hAe]; exact Or.inr h
  have hS : va_S A s.heap s.heap [] := va_S.rf
  have hP : va_P (dC, dI) vwCl (wm ad cy v) s.heap := hP
  have hl := lv_entry ([.ref (ad 0)]) (n := 1) (Nat.le_of_ble_eq_true rfl)
  rw [lg_entry_eq]
  generalize (lg_sl ([.ref (ad 0)]) ++ List.replicate (1 - (lg_sl ([.ref (ad 0)])).length) Slot.unset).toArray = ls at hl ⊢
  have hl : lv_has ls 1 [(0, .ref (ad 0))] := hl
  have hfr : Fq v v := Fq.rf
  refine lv_aload_n hx hb dX8_waits_0 rfl (lv_at hl 0 rfl) ?_
  refine yw_v (w1 := fun (u : Nat → Nat → Int32) => wm ad cy u) hD hS hA (va_runV (As := []) (rest := []) ⟨hx, hb, hml, hown, hts⟩ (e_X8_makePlan l dC dI cy _ ad v hv hW) (cwV 0 hts gX8_waits_X8_makePlan rfl rfl rfl (by decide +kernel) ⟨Nat.le_of_ble_eq_true rfl, Nat.le_of_ble_eq_true rfl⟩) (yw_preV hE hK hP hD (ci := 8) (q0 := 0) rfl (wm_at (by decide) rc_0)) rfl rfl hl.1 rfl (lv_room (Nat.le_of_ble_eq_true rfl)) dX8_waits_1 ⟨Nat.le_of_ble_eq_true rfl, Nat.le_of_ble_eq_true rfl⟩) (fun v_1 H locs hw_1 hP hD hS => ?_)
  obtain ⟨hv, hf_1, hw_1⟩ := hw_1
  have hfr : Fq v v_1 := hfr.trans hf_1
  have hrp : RP9 v v_1 := hw_1
  refine lv_aload_n hx hb dX8_waits_4 rfl (lv_at hl 0 rfl) ?_
  refine va_get (D := (dC, dI)) (ci := 8) (v := .int (v_1 0 9)) (C := RX8) (T := TX8) (N := 11) hx hb hts (by decide +kernel) hown hK hP (0) (wm_at (by decide) rc_0) rfl 9 (by decide) (hts (.fieldLink RX8 85 "QuietStairsModel" "least" "I") (by decide +kernel)) (fun _ h9 => h9) rfl dX8_waits_5 ?_
  refine lv_topi (fun x_2 ex_2 => ?_)
  exact W.iret (v := x_2) hx hb hr (fun t ht hW => ⟨⟨x_2, v_1, rfl, ⟨hv, hfr, hrp, ex_2⟩, by rw [ht]; exact hP, hD⟩, hS.F ht⟩) hS.2.2 dX8_waits_8

set_option maxHeartbeats 4000000 in
set_option maxRecDepth 100000 in
theorem e_X8_plan (l : Launch) (dC : Nat → ClassId) (dI : Nat → Nat → Nat) (cy : Nat → ClassId) (sz : Nat) (ad : Nat → Nat) (v : Nat → Nat → Int32) (hv : Ir v) (x0 : Int32) (hW : ∀ c : Nat, c < (v 1 2).toNatClampNeg → 1 ≤ (v 1 (37 + 7 * c)).toInt ∧ (v 1 (37 + 7 * c)).toInt ≤ 9) : Met l yX8_plan wsX8_plan ({ frames := 5, cells := 0, slots := 0, locals := 320 }) (va_Pc [.ref (ad 0), .int x0] (ex_Pre dC dI cy sz (wm ad cy v))) (va_Qi (fun (r : Int32) (u : Nat → Nat → Int32) => Ir u ∧ (¬ (0 ≤ x0.toInt ∧ x0.toInt < (v 1 2).toInt) → (r = -1) ∧ Fq v u) ∧ ((0 ≤ x0.toInt ∧ x0.toInt < (v 1 2).toInt) ∧ (v 1 (34 + 7 * x0.toNatClampNeg)).toInt ≠ 0 → (r = -4) ∧ Fq v u) ∧ ((0 ≤ x0.toInt ∧ x0.toInt < (v 1 2).toInt) ∧ (v 1 (34 + 7 * x0.toNatClampNeg)).toInt = 0 → (RP9 v u ∧ ((∃ k : Nat, ((k : Int) < (u 0 5).toInt ∧ (u 4 k).toInt = x0.toInt) ∧ r = u 6 k ∧ (u 6 k).toInt ≠ 18) ∨ (r = -5 ∧ ∀ k : Nat, (k : Int) < (u 0 5).toInt → (u 4 k).toInt = x0.toInt → (u 6 k).toInt = 18))) ∧ Fq v u)) (fun u t => ex_Pst dC dI (va_A (wm ad cy v) sz) (wm ad cy u) t) (va_A (wm ad cy v) sz)) 0 0 (va_A (wm ad cy v) sz) := by
  refine Met.ofW (cc := cX8_plan) (maxL := 3) (ret := (some .int)) (by decide) rfl ?_
  intro p e s m args below meth c s₁ B hml hv
  obtain ⟨rfl, hsz, hE, hP, hK, hD0⟩ := hv
  have hx := B.exec
  have hb := B.bytes
  have hr := B.returns
  have hts := atoms_spec (ws := wsX8_plan) B.pre
  have hown : s.vm.findClass RX8 = some m.cls := findClass_of_methodNamed B.named
  have hlocks := B.notSynchronized
  subst hsz
  have hD := hD0.self (sz := s.heap.size)
  generalize hAe : va_A (wm ad cy v) s.heap.size = A at hD ⊢
  have hA : ∀ q : Nat, s.heap.size ≤ q → A q := fun q h => by rw [← hAe]; exact Or.inr h
  have hS : va_S A s.heap s.heap [] := va_S.rf
  have hP : va_P (dC, dI) vwCl (wm ad cy v) s.heap := hP
  have hl := lv_entry ([.ref (ad 0), .int x0]) (n := 3) (Nat.le_of_ble_eq_true rfl)
  rw [lg_entry_eq]
  generalize (lg_sl ([.ref (ad 0), .int x0]) ++ List.replicate (3 - (lg_sl ([.ref (ad 0), .int x0])).length) Slot.unset).toArray = ls at hl ⊢
  have hl : lv_has ls 3 [(0, .ref (ad 0)), (1, .int x0)] := hl
  have hfr : Fq v v := Fq.rf
  refine lv_aload_n hx hb dX8_plan_0 rfl (lv_at hl 0 rfl) ?_
  refine lv_iload_n hx hb dX8_plan_1 rfl (lv_at hl 1 rfl) ?_
  refine yw_i (w1 := fun (u : Nat → Nat → Int32) => wm ad cy u) hD hS hA (va_runV (As := [.int x0]) (rest := []) ⟨hx, hb, hml, hown, hts⟩ (q_X8_isCase l dC dI cy _ ad v hv x0) (cwV 1 hts gX8_plan_X8_isCase rfl rfl rfl (by decide +kernel) ⟨Nat.le_of_ble_eq_true rfl, Nat.le_of_ble_eq_true rfl⟩) (yw_preV hE hK hP hD (ci := 8) (q0 := 0) rfl (wm_at (by decide) rc_0)) rfl rfl hl.1 rfl (lv_room (Nat.le_of_ble_eq_true rfl)) dX8_plan_2 ⟨Nat.le_of_ble_eq_true rfl, Nat.le_of_ble_eq_true rfl⟩) (fun r_1 v_1 H locs hw_1 hP hD hS => ?_)
  obtain ⟨-, hu_1, hw_1⟩ := hw_1
  replace hu_1 := hu_1.symm
  subst hu_1
  rcases hw_1 with ⟨rfl, ha_2⟩ | ⟨rfl, ha_2⟩
  · have hb_2 := hv 1 2 6 (by decide)
    have hj_2 : 0 ≤ x0.toInt ∧ x0.toInt ≤ 5 := ⟨by omega, by omega⟩
    refine lv_if_ne (tgt := 10) hx hb dX8_plan_5 (by decide) (fun _ => ?_) (fun c9 => absurd c9 (by decide))
    refine lv_aload_n hx hb dX8_plan_10 rfl (lv_at hl 0 rfl) ?_
    refine va_get (D := (dC, dI)) (ci := 8) (v := .ref (ad 1)) (C := RX8) (T := TX8) (N := 11) hx hb hts (by decide +kernel) hown hK hP (0) (wm_at (by decide) rc_0) rfl 0 (by decide) (hts (.fieldLink RX8 7 "QuietStairsModel" "s" "[I") (by decide +kernel)) (fun _ h9 => h9) rfl dX8_plan_11 ?_
    refine lv_iload_n hx hb dX8_plan_14 rfl (lv_at hl 1 rfl) ?_
    refine lv_iconst (v := 2) hx hb dX8_plan_15 (by decide) ?_
    refine yc_p hP hS (va_runS (As := [.int x0, .int 2]) (rest := [.ref (ad 1)]) ⟨hx, hb, hml, hown, hts⟩ (c_X8_at l x0 2) (cwS 2 hts gX8_plan_X8_at rfl rfl rfl (by decide +kernel) ⟨Nat.le_of_ble_eq_true rfl, Nat.le_of_ble_eq_true rfl⟩) ex_preP rfl rfl hl.1 rfl (lv_room (Nat.le_of_ble_eq_true rfl)) dX8_plan_16 ⟨Nat.le_of_ble_eq_true rfl, Nat.le_of_ble_eq_true rfl⟩) (fun r_3 H locs hw_3 hP hS => ?_)
    have k_2 : (2 : Int32).toInt = 2 := by decide
    have tr_3 : r_3.toInt = 32 + 7 * x0.toInt + (2 : Int32).toInt := t_at hw_3 ⟨by omega, by omega⟩ ⟨by omega, by omega⟩
    have zn_x0 : (x0.toNatClampNeg : Int) = x0.toInt := t_nn (by omega)
    have nr_3 : r_3.toNatClampNeg = 34 + 7 * x0.toNatClampNeg := by have z1 := t_nn (x := r_3) (by omega); omega
    refine va_iald hx hb hK hP (1) 0 (wm_at (by decide) rc_1) rfl (vp_in_iff.mpr ⟨by omega, by omega⟩) dX8_plan_19 ?_
    refine lv_topi (fun x_4 ex_4 => ?_)
    rw [nr_3] at ex_4
    have qx_4 : x_4.toInt = (v 1 (34 + 7 * x0.toNatClampNeg)).toInt := congrArg Int32.toInt ex_4
    have k_0 : (0 : Int32).toInt = 0 := by decide
    refine lv_if_eq (tgt := 26) hx hb dX8_plan_20 (by decide) (fun c_5 => ?_) (fun c_5 => ?_)
    · have tc_5 : x_4.toInt = (0 : Int32).toInt := by rw [c_5]
      refine lv_aload_n hx hb dX8_plan_26 rfl (lv_at hl 0 rfl) ?_
      refine yw_v (w1 := fun (u : Nat → Nat → Int32) => wm ad cy u) hD hS hA (va_runV (As := []) (rest := []) ⟨hx, hb, hml, hown, hts⟩ (e_X8_makePlan l dC dI cy _ ad v hv hW) (cwV 0 hts gX8_plan_X8_makePlan rfl rfl rfl (by decide +kernel) ⟨Nat.le_of_ble_eq_true rfl, Nat.le_of_ble_eq_true rfl⟩) (yw_preV hE hK hP hD (ci := 8) (q0 := 0) rfl (wm_at (by decide) rc_0)) rfl rfl hl.1 rfl (lv_room (Nat.le_of_ble_eq_true rfl)) dX8_plan_27 ⟨Nat.le_of_ble_eq_true rfl, Nat.le_of_ble_eq_true rfl⟩) (fun v_6 H locs hw_6 hP hD hS => ?_)
      obtain ⟨hv, hf_6, hw_6⟩ := hw_6
      have hfr : Fq v v_6 := hfr.trans hf_6
      have hrp : RP9 v v_6 := hw_6
      have k_18 : (18 : Int32).toInt = 18 := by decide
      refine lv_iconst (v := 0) hx hb dX8_plan_30 (by decide) ?_
      refine lv_istore_n (lv' := [(2, .int 0), (0, .ref (ad 0)), (1, .int x0)]) hx hb dX8_plan_31 rfl hl (by decide) rfl (fun ls hl => ?_)
      have hc_7 : ∀ (n : Nat) (y7_2 : Int32) (H : Heap) (locs : List Loc), 0 ≤ y7_2.toInt → y7_2.toInt ≤ 4 → (∀ k : Nat, (k : Int) < y7_2.toInt → ¬ ((v_6 4 k).toInt = x0.toInt ∧ (v_6 6 k).toInt ≠ 18)) → (4 - y7_2.toInt).toNat < n → va_P (dC, dI) vwCl (wm ad cy v_6) H → va_D A (wm ad cy v_6) → va_S A s.heap H locs → ∀ ls : Array Slot, lv_has ls 3 [(2, .int y7_2), (0, .ref (ad 0)), (1, .int x0)] → W p l e (headSpec wsX8_plan ({ frames := 5, cells := 0, slots := 0, locals := 320 })).room s m [Value.ref (ad 0), Value.int x0].toArray below meth c H locs 0 0 (MQ below (va_Qi (fun (r : Int32) (u : Nat → Nat → Int32) => Ir u ∧ (¬ (0 ≤ x0.toInt ∧ x0.toInt < (v 1 2).toInt) → (r = -1) ∧ Fq v u) ∧ ((0 ≤ x0.toInt ∧ x0.toInt < (v 1 2).toInt) ∧ (v 1 (34 + 7 * x0.toNatClampNeg)).toInt ≠ 0 → (r = -4) ∧ Fq v u) ∧ ((0 ≤ x0.toInt ∧ x0.toInt < (v 1 2).toInt) ∧ (v 1 (34 + 7 * x0.toNatClampNeg)).toInt = 0 → (RP9 v u ∧ ((∃ k : Nat, ((k : Int) < (u 0 5).toInt ∧ (u 4 k).toInt = x0.toInt) ∧ r = u 6 k ∧ (u 6 k).toInt ≠ 18) ∨ (r = -5 ∧ ∀ k : Nat, (k : Int) < (u 0 5).toInt → (u 4 k).toInt = x0.toInt → (u 6 k).toInt = 18))) ∧ Fq v u)) (fun u t => ex_Pst dC dI A (wm ad cy u) t) A) [Value.ref (ad 0), Value.int x0].toArray s 0 0 A) (F0 m 32 ls []) := by
        intro n
        induction n with
        | zero =>
          intro y7_2 H locs ay7_2 by7_2 hi7_0 hm_7 hP hD hS ls hl
          exact absurd hm_7 (by omega)
        | succ n ih_7 =>
          intro y7_2 H locs ay7_2 by7_2 hi7_0 hm_7 hP hD hS ls hl
          refine lv_iload_n hx hb dX8_plan_32 rfl (lv_at hl 0 rfl) ?_
          refine lv_aload_n hx hb dX8_plan_33 rfl (lv_at hl 1 rfl) ?_
          refine va_get (D := (dC, dI)) (ci := 8) (v := .int (v_6 0 5)) (C := RX8) (T := TX8) (N := 11) hx hb hts (by decide +kernel) hown hK hP (0) (wm_at (by decide) rc_0) rfl 5 (by decide) (hts (.fieldLink RX8 79 "QuietStairsModel" "many" "I") (by decide +kernel)) (fun _ h9 => h9) rfl dX8_plan_34 ?_
          refine lv_topi (fun x_8 ex_8 => ?_)
          have bzx_8 : 0 ≤ x_8.toInt ∧ x_8.toInt ≤ 4 := by rw [ex_8]; exact hv 0 5 4 (by decide)
          have hc9 : x_8.toInt = (v_6 0 5).toInt := by rw [ex_8]
          refine lv_icmp_ge (tgt := 74) hx hb dX8_plan_37 (by decide) (fun c_9 => ?_) (fun c_9 => ?_)
          · have tc_9 : y7_2.toInt ≥ x_8.toInt := Int32.le_iff_toInt_le.mp c_9
            refine lv_bipush (v := (-5)) hx hb dX8_plan_74 (by decide) ?_
            have hpost : (¬ (0 ≤ x0.toInt ∧ x0.toInt < (v 1 2).toInt) → (((-5) : Int32) = -1) ∧ Fq v v_6) ∧ ((0 ≤ x0.toInt ∧ x0.toInt < (v 1 2).toInt) ∧ (v 1 (34 + 7 * x0.toNatClampNeg)).toInt ≠ 0 → (((-5) : Int32) = -4) ∧ Fq v v_6) ∧ ((0 ≤ x0.toInt ∧ x0.toInt < (v 1 2).toInt) ∧ (v 1 (34 + 7 * x0.toNatClampNeg)).toInt = 0 → (RP9 v v_6 ∧ ((∃ k : Nat, ((k : Int) < (v_6 0 5).toInt ∧ (v_6 4 k).toInt = x0.toInt) ∧ ((-5) : Int32) = v_6 6 k ∧ (v_6 6 k).toInt ≠ 18) ∨ (((-5) : Int32) = -5 ∧ ∀ k : Nat, (k : Int) < (v_6 0 5).toInt → (v_6 4 k).toInt = x0.toInt → (v_6 6 k).toInt = 18))) ∧ Fq v v_6) := by
              refine ⟨fun hq => ?_, fun hq => ?_, fun hq => ?_⟩
              · exfalso; omega
              · exfalso; omega
              · exact ⟨⟨hrp, Or.inr ⟨rfl, fun k hk q => by have h := hi7_0 k (by omega); omega⟩⟩, hfr⟩
            exact W.iret (v := (-5)) hx hb hr (fun t ht hW => ⟨⟨(-5), v_6, rfl, ⟨hv, hpost⟩, by rw [ht]; exact hP, hD⟩, hS.F ht⟩) hS.2.2 dX8_plan_76
          · have tc_9 : y7_2.toInt < x_8.toInt := Int32.lt_iff_toInt_lt.mp (Int32.not_le.mp c_9)
            refine lv_aload_n hx hb dX8_plan_40 rfl (lv_at hl 1 rfl) ?_
            refine va_get (D := (dC, dI)) (ci := 8) (v := .ref (ad 4)) (C := RX8) (T := TX8) (N := 11) hx hb hts (by decide +kernel) hown hK hP (0) (wm_at (by decide) rc_0) rfl 6 (by decide) (hts (.fieldLink RX8 23 "QuietStairsModel" "planned" "[I") (by decide +kernel)) (fun _ h9 => h9) rfl dX8_plan_41 ?_
            refine lv_iload_n hx hb dX8_plan_44 rfl (lv_at hl 0 rfl) ?_
            have zn_y7_2 : (y7_2.toNatClampNeg : Int) = y7_2.toInt := t_nn (by omega)
            refine va_iald hx hb hK hP (4) 0 (wm_at (by decide) rc_4) rfl (vp_in_iff.mpr ⟨by omega, by omega⟩) dX8_plan_45 ?_
            refine lv_topi (fun x_10 ex_10 => ?_)
            have bzx_10 : 0 ≤ x_10.toInt ∧ x_10.toInt ≤ 5 := by rw [ex_10]; exact hv 4 _ 5 rfl
            have qx_10 : x_10.toInt = (v_6 4 (y7_2.toNatClampNeg)).toInt := congrArg Int32.toInt ex_10
            refine lv_iload_n hx hb dX8_plan_46 rfl (lv_at hl 2 rfl) ?_
            refine lv_icmp_ne (tgt := 68) hx hb dX8_plan_47 (by decide) (fun c_11 => ?_) (fun c_11 => ?_)
            · have tc_11 : x_10.toInt ≠ x0.toInt := fun q => absurd (Int32.toInt_inj.mp q) c_11
              obtain ⟨x_12, ex_12⟩ : ∃ y : Int32, y = y7_2 + 1 := ⟨_, rfl⟩
              refine lv_iinc (v := x_12) (lv' := [(2, .int x_12), (0, .ref (ad 0)), (1, .int x0)]) hx hb dX8_plan_68 hl (k := 0) rfl (by rw [ex_12]; rfl) (by decide) rfl (fun ls hl => ?_)
              have k_1 : (1 : Int32).toInt = 1 := by decide
              have tx_12 : x_12.toInt = y7_2.toInt + (1 : Int32).toInt := by rw [ex_12]; exact t_add ⟨by omega, by omega⟩
              refine lv_goto (tgt := 32) hx hb dX8_plan_71 (by decide) ?_
              exact ih_7 x_12 _ _ (by omega) (by omega) (fun k hk => by by_cases e : (k : Int) < y7_2.toInt; exact hi7_0 k e; rw [show k = y7_2.toNatClampNeg from by omega]; omega) (by omega) hP hD hS ls (lv_sub hl [0, 1, 2] rfl)
            · have tc_11 : x_10.toInt = x0.toInt := by rw [c_11]
              refine lv_aload_n hx hb dX8_plan_50 rfl (lv_at hl 1 rfl) ?_
              refine va_get (D := (dC, dI)) (ci := 8) (v := .ref (ad 6)) (C := RX8) (T := TX8) (N := 11) hx hb hts (by decide +kernel) hown hK hP (0) (wm_at (by decide) rc_0) rfl 8 (by decide) (hts (.fieldLink RX8 29 "QuietStairsModel" "best" "[I") (by decide +kernel)) (fun _ h9 => h9) rfl dX8_plan_51 ?_
              refine lv_iload_n hx hb dX8_plan_54 rfl (lv_at hl 0 rfl) ?_
              refine va_iald hx hb hK hP (6) 0 (wm_at (by decide) rc_6) rfl (vp_in_iff.mpr ⟨by omega, by omega⟩) dX8_plan_55 ?_
              refine lv_topi (fun x_12 ex_12 => ?_)
              have qx_12 : x_12.toInt = (v_6 6 (y7_2.toNatClampNeg)).toInt := congrArg Int32.toInt ex_12
              refine lv_bipush (v := 18) hx hb dX8_plan_56 (by decide) ?_
              refine lv_icmp_eq (tgt := 68) hx hb dX8_plan_58 (by decide) (fun c_13 => ?_) (fun c_13 => ?_)
              · have tc_13 : x_12.toInt = (18 : Int32).toInt := by rw [c_13]
                obtain ⟨x_14, ex_14⟩ : ∃ y : Int32, y = y7_2 + 1 := ⟨_, rfl⟩
                refine lv_iinc (v := x_14) (lv' := [(2, .int x_14), (0, .ref (ad 0)), (1, .int x0)]) hx hb dX8_plan_68 hl (k := 0) rfl (by rw [ex_14]; rfl) (by decide) rfl (fun ls hl => ?_)
                have k_1 : (1 : Int32).toInt = 1 := by decide
                have tx_14 : x_14.toInt = y7_2.toInt + (1 : Int32).toInt := by rw [ex_14]; exact t_add ⟨by omega, by omega⟩
                refine lv_goto (tgt := 32) hx hb dX8_plan_71 (by decide) ?_
                exact ih_7 x_14 _ _ (by omega) (by omega) (fun k hk => by by_cases e : (k : Int) < y7_2.toInt; exact hi7_0 k e; rw [show k = y7_2.toNatClampNeg from by omega]; omega) (by omega) hP hD hS ls (lv_sub hl [0, 1, 2] rfl)
              · have tc_13 : x_12.toInt ≠ (18 : Int32).toInt := fun q => absurd (Int32.toInt_inj.mp q) c_13
                refine lv_aload_n hx hb dX8_plan_61 rfl (lv_at hl 1 rfl) ?_
                refine va_get (D := (dC, dI)) (ci := 8) (v := .ref (ad 6)) (C := RX8) (T := TX8) (N := 11) hx hb hts (by decide +kernel) hown hK hP (0) (wm_at (by decide) rc_0) rfl 8 (by decide) (hts (.fieldLink RX8 29 "QuietStairsModel" "best" "[I") (by decide +kernel)) (fun _ h9 => h9) rfl dX8_plan_62 ?_
                refine lv_iload_n hx hb dX8_plan_65 rfl (lv_at hl 0 rfl) ?_
                refine va_iald hx hb hK hP (6) 0 (wm_at (by decide) rc_6) rfl (vp_in_iff.mpr ⟨by omega, by omega⟩) dX8_plan_66 ?_
                refine lv_topi (fun x_14 ex_14 => ?_)
                obtain rfl : x_12 = x_14 := (ex_14.trans ex_12.symm).symm
                have hpost : (¬ (0 ≤ x0.toInt ∧ x0.toInt < (v 1 2).toInt) → (x_12 = -1) ∧ Fq v v_6) ∧ ((0 ≤ x0.toInt ∧ x0.toInt < (v 1 2).toInt) ∧ (v 1 (34 + 7 * x0.toNatClampNeg)).toInt ≠ 0 → (x_12 = -4) ∧ Fq v v_6) ∧ ((0 ≤ x0.toInt ∧ x0.toInt < (v 1 2).toInt) ∧ (v 1 (34 + 7 * x0.toNatClampNeg)).toInt = 0 → (RP9 v v_6 ∧ ((∃ k : Nat, ((k : Int) < (v_6 0 5).toInt ∧ (v_6 4 k).toInt = x0.toInt) ∧ x_12 = v_6 6 k ∧ (v_6 6 k).toInt ≠ 18) ∨ (x_12 = -5 ∧ ∀ k : Nat, (k : Int) < (v_6 0 5).toInt → (v_6 4 k).toInt = x0.toInt → (v_6 6 k).toInt = 18))) ∧ Fq v v_6) := by
                  refine ⟨fun hq => ?_, fun hq => ?_, fun hq => ?_⟩
                  · exfalso; omega
                  · exfalso; omega
                  · exact ⟨⟨hrp, Or.inl ⟨y7_2.toNatClampNeg, ⟨by omega, by omega⟩, ex_12, by rw [← ex_12]; omega⟩⟩, hfr⟩
                exact W.iret (v := x_12) hx hb hr (fun t ht hW => ⟨⟨x_12, v_6, rfl, ⟨hv, hpost⟩, by rw [ht]; exact hP, hD⟩, hS.F ht⟩) hS.2.2 dX8_plan_67
      exact hc_7 ((4 - (0 : Int32).toInt).toNat + 1) 0 _ _ (by omega) (by omega) (fun k hk => absurd hk (by omega)) (by omega) hP hD hS ls (lv_sub hl [0, 1, 2] rfl)
    · have tc_5 : x_4.toInt ≠ (0 : Int32).toInt := fun q => absurd (Int32.toInt_inj.mp q) c_5
      refine lv_bipush (v := (-4)) hx hb dX8_plan_23 (by decide) ?_
      have hpost : (¬ (0 ≤ x0.toInt ∧ x0.toInt < (v 1 2).toInt) → (((-4) : Int32) = -1) ∧ Fq v v) ∧ ((0 ≤ x0.toInt ∧ x0.toInt < (v 1 2).toInt) ∧ (v 1 (34 + 7 * x0.toNatClampNeg)).toInt ≠ 0 → (((-4) : Int32) = -4) ∧ Fq v v) ∧ ((0 ≤ x0.toInt ∧ x0.toInt < (v 1 2).toInt) ∧ (v 1 (34 + 7 * x0.toNatClampNeg)).toInt = 0 → (RP9 v v ∧ ((∃ k : Nat, ((k : Int) < (v 0 5).toInt ∧ (v 4 k).toInt = x0.toInt) ∧ ((-4) : Int32) = v 6 k ∧ (v 6 k).toInt ≠ 18) ∨ (((-4) : Int32) = -5 ∧ ∀ k : Nat, (k : Int) < (v 0 5).toInt → (v 4 k).toInt = x0.toInt → (v 6 k).toInt = 18))) ∧ Fq v v) := by
        refine ⟨fun hq => ?_, fun hq => ?_, fun hq => ?_⟩
        · exfalso; omega
        · exact ⟨rfl, Fq.rf⟩
        · exfalso; omega
      exact W.iret (v := (-4)) hx hb hr (fun t ht hW => ⟨⟨(-4), v, rfl, ⟨hv, hpost⟩, by rw [ht]; exact hP, hD⟩, hS.F ht⟩) hS.2.2 dX8_plan_25
  · refine lv_if_ne (tgt := 10) hx hb dX8_plan_5 (by decide) (fun c9 => absurd c9 (by decide)) (fun _ => ?_)
    refine lv_iconst (v := (-1)) hx hb dX8_plan_8 (by decide) ?_
    have hpost : (¬ (0 ≤ x0.toInt ∧ x0.toInt < (v 1 2).toInt) → (((-1) : Int32) = -1) ∧ Fq v v) ∧ ((0 ≤ x0.toInt ∧ x0.toInt < (v 1 2).toInt) ∧ (v 1 (34 + 7 * x0.toNatClampNeg)).toInt ≠ 0 → (((-1) : Int32) = -4) ∧ Fq v v) ∧ ((0 ≤ x0.toInt ∧ x0.toInt < (v 1 2).toInt) ∧ (v 1 (34 + 7 * x0.toNatClampNeg)).toInt = 0 → (RP9 v v ∧ ((∃ k : Nat, ((k : Int) < (v 0 5).toInt ∧ (v 4 k).toInt = x0.toInt) ∧ ((-1) : Int32) = v 6 k ∧ (v 6 k).toInt ≠ 18) ∨ (((-1) : Int32) = -5 ∧ ∀ k : Nat, (k : Int) < (v 0 5).toInt → (v 4 k).toInt = x0.toInt → (v 6 k).toInt = 18))) ∧ Fq v v) := by
      refine ⟨fun hq => ?_, fun hq => ?_, fun hq => ?_⟩
      · exact ⟨rfl, Fq.rf⟩
      · exact absurd hq.1 (by omega)
      · exact absurd hq.1 (by omega)
    exact W.iret (v := (-1)) hx hb hr (fun t ht hW => ⟨⟨(-1), v, rfl, ⟨hv, hpost⟩, by rw [ht]; exact hP, hD⟩, hS.F ht⟩) hS.2.2 dX8_plan_9
