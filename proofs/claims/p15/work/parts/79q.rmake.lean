
theorem ow_own {s : Nat → Int32} {c i : Nat} {x : Int32} : ow s (158 + 25 * c) x i ↔ own (fun t k => (s (158 + k + 25 * c + 5 * t)).toInt) x.toInt i := by
  have e0 : s (158 + 25 * c + 5 * i) = s (158 + 0 + 25 * c + 5 * i) := rfl
  have e1 : s (158 + 25 * c + 5 * i + 1) = s (158 + 1 + 25 * c + 5 * i) := congrArg s (by omega)
  have k1 : (1 : Int32).toInt = 1 := by decide
  refine ⟨fun h => ⟨?_, ?_⟩, fun h => ⟨?_, ?_⟩⟩
  · show (s (158 + 0 + 25 * c + 5 * i)).toInt = _
    rw [← e0, h.1]
  · show (s (158 + 1 + 25 * c + 5 * i)).toInt = 1
    rw [← e1, h.2]
    exact k1
  · exact Int32.toInt_inj.mp h.1
  · rw [e1]
    exact Int32.toInt_inj.mp (h.2.trans k1.symm)

set_option maxHeartbeats 4000000 in
set_option maxRecDepth 100000 in
theorem e_X8_makeTable (l : Launch) (dC : Nat → ClassId) (dI : Nat → Nat → Nat) (cy : Nat → ClassId) (sz : Nat) (ad : Nat → Nat) (v : Nat → Nat → Int32) (hv : Ir v) (x0 x1 x2 : Int32) (h0 : 0 ≤ x0.toInt ∧ x0.toInt ≤ 5) (h2 : 0 ≤ x2.toInt ∧ x2.toInt ≤ 5) : Met l yX8_makeTable wsX8_makeTable ({ frames := 3, cells := 0, slots := 0, locals := 192 }) (va_Pc [.ref (ad 0), .int x0, .int x1, .int x2] (ex_Pre dC dI cy sz (wm ad cy v))) (va_Qi (fun (r : Int32) (u : Nat → Nat → Int32) => Ir u ∧ Fq v u ∧ ((r = 1 ∧ lmin x2.toNatClampNeg (alw (fun t k => (v 1 (158 + k + 25 * x0.toNatClampNeg + 5 * t)).toInt) x1.toInt x2.toNatClampNeg) (own (fun t k => (v 1 (158 + k + 25 * x0.toNatClampNeg + 5 * t)).toInt) x1.toInt) (fun q => (u 7 q).toNatClampNeg) ∧ ∀ q : Nat, q < x2.toNatClampNeg → own (fun t k => (v 1 (158 + k + 25 * x0.toNatClampNeg + 5 * t)).toInt) x1.toInt q → 0 ≤ (u 7 q).toInt) ∨ (r = 0 ∧ ¬ TB (fun t k => (v 1 (158 + k + 25 * x0.toNatClampNeg + 5 * t)).toInt) x1.toInt x2.toNatClampNeg))) (fun u t => ex_Pst dC dI (va_A (wm ad cy v) sz) (wm ad cy u) t) (va_A (wm ad cy v) sz)) 0 0 (va_A (wm ad cy v) sz) := by
  refine Met.ofW (cc := cX8_makeTable) (maxL := 7) (ret := (some .boolean)) (by decide) rfl ?_
  intro p e s m args below meth c s₁ B hml hv
  obtain ⟨rfl, hsz, hE, hP, hK, hD0⟩ := hv
  have hx := B.exec
  have hb := B.bytes
  have hr := B.returns
  have hts := atoms_spec (ws := wsX8_makeTable) B.pre
  have hown : s.vm.findClass RX8 = some m.cls := findClass_of_methodNamed B.named
  have hlocks := B.notSynchronized
  subst hsz
  have hD := hD0.self (sz := s.heap.size)
  generalize hAe : va_A (wm ad cy v) s.heap.size = A at hD ⊢
  have hA : ∀ q : Nat, s.heap.size ≤ q → A q := fun q h => by rw [← hAe]; exact Or.inr h
  have hS : va_S A s.heap s.heap [] := va_S.rf
  have hP : va_P (dC, dI) vwCl (wm ad cy v) s.heap := hP
  have hl := lv_entry ([.ref (ad 0), .int x0, .int x1, .int x2]) (n := 7) (Nat.le_of_ble_eq_true rfl)
  rw [lg_entry_eq]
  generalize (lg_sl ([.ref (ad 0), .int x0, .int x1, .int x2]) ++ List.replicate (7 - (lg_sl ([.ref (ad 0), .int x0, .int x1, .int x2])).length) Slot.unset).toArray = ls at hl ⊢
  have hl : lv_has ls 7 [(0, .ref (ad 0)), (1, .int x0), (2, .int x1), (3, .int x2)] := hl
  have hfr : Fq v v := Fq.rf
  have zn_x0 : (x0.toNatClampNeg : Int) = x0.toInt := t_nn (by omega)
  obtain ⟨DD, eDD⟩ : ∃ f : Nat → Nat → Int, f = fun t k => (v 1 (158 + k + 25 * x0.toNatClampNeg + 5 * t)).toInt := ⟨_, rfl⟩
  have zn_x2 : (x2.toNatClampNeg : Int) = x2.toInt := t_nn (by omega)
  have oo : ∀ i : Nat, ow (v 1) (158 + 25 * x0.toNatClampNeg) x1 i ↔ own DD x1.toInt i := fun i => by rw [eDD]; exact ow_own
  have hB9 : ∀ t : Nat, t < 5 → (0 ≤ DD t 3 ∧ DD t 3 ≤ 23) ∧ DD t 4 ≤ 23 := fun t ht => by rw [eDD]; exact ⟨hv 1 _ 23 (bS_w (by omega) ht).1, (hv 1 _ 23 (bS_w (by omega) ht).2).2⟩
  refine lv_aload_n hx hb dX8_makeTable_0 rfl (lv_at hl 0 rfl) ?_
  refine lv_iload_n hx hb dX8_makeTable_1 rfl (lv_at hl 1 rfl) ?_
  refine lv_iload_n hx hb dX8_makeTable_2 rfl (lv_at hl 2 rfl) ?_
  refine lv_iconst (v := (-1)) hx hb dX8_makeTable_3 (by decide) ?_
  refine lv_iconst (v := 1) hx hb dX8_makeTable_4 (by decide) ?_
  refine lv_iload_n hx hb dX8_makeTable_5 rfl (lv_at hl 3 rfl) ?_
  have k_1 : (1 : Int32).toInt = 1 := by decide
  have k_m1 : ((-1) : Int32).toInt = -1 := by decide
  refine yw_i (w1 := fun (u : Nat → Nat → Int32) => wm ad cy u) hD hS hA (va_runV (As := [.int x0, .int x1, .int (-1), .int 1, .int x2]) (rest := []) ⟨hx, hb, hml, hown, hts⟩ (e_X8_next_f l dC dI cy _ ad v hv x0 x1 ((-1) : Int32) x2 ⟨by omega, by omega⟩ ⟨by omega, by omega⟩ ⟨by omega, by omega⟩) (cwV 5 hts gX8_makeTable_X8_next rfl rfl rfl (by decide +kernel) ⟨Nat.le_of_ble_eq_true rfl, Nat.le_of_ble_eq_true rfl⟩) (yw_preV hE hK hP hD (ci := 8) (q0 := 0) rfl (wm_at (by decide) rc_0)) rfl rfl hl.1 rfl (lv_room (Nat.le_of_ble_eq_true rfl)) dX8_makeTable_6 ⟨Nat.le_of_ble_eq_true rfl, Nat.le_of_ble_eq_true rfl⟩) (fun r_1 v_1 H locs hw_1 hP hD hS => ?_)
  obtain ⟨-, hu_1, hw_1⟩ := hw_1
  replace hu_1 := hu_1.symm
  subst hu_1
  obtain ⟨hn_2, hg_2, hq_2⟩ := hw_1
  rw [← eDD] at hg_2 hq_2
  refine lv_istore (lv' := [(4, .int r_1), (0, .ref (ad 0)), (1, .int x0), (2, .int x1), (3, .int x2)]) hx hb dX8_makeTable_9 hl (by decide) rfl (fun ls hl => ?_)
  refine lv_iload hx hb dX8_makeTable_11 (lv_at hl 0 rfl) ?_
  refine lv_iload_n hx hb dX8_makeTable_13 rfl (lv_at hl 4 rfl) ?_
  refine lv_icmp_ge (tgt := 33) hx hb dX8_makeTable_14 (by decide) (fun c_3 => ?_) (fun c_3 => ?_)
  · have tc_3 : r_1.toInt ≥ x2.toInt := Int32.le_iff_toInt_le.mp c_3
    refine lv_iconst (v := 0) hx hb dX8_makeTable_33 (by decide) ?_
    refine lv_istore (lv' := [(5, .int 0), (4, .int r_1), (0, .ref (ad 0)), (1, .int x0), (2, .int x1), (3, .int x2)]) hx hb dX8_makeTable_34 hl (by decide) rfl (fun ls hl => ?_)
    have hc_4 : ∀ (n : Nat) (y4_4 y4_5 : Int32) (u4 : Nat → Nat → Int32) (H : Heap) (locs : List Loc), -1 ≤ y4_4.toInt → y4_4.toInt ≤ 5 → 0 ≤ y4_5.toInt → y4_5.toInt ≤ 24 → (∀ i : Nat, (i : Int) < y4_4.toInt → ow (v 1) (158 + 25 * x0.toNatClampNeg) x1 i → 0 ≤ (u4 7 i).toInt ∧ (u4 7 i).toInt ≤ 23) → (y4_4.toInt ≤ x2.toInt) → (MI DD x1.toInt x2.toNatClampNeg y4_4.toInt y4_5.toInt (u4 7)) → (mt (dg (v 1) (158 + 25 * x0.toNatClampNeg) x1 (u4 7)) y4_4.toInt y4_5.toInt).toNat < n → Ir u4 → Fq v u4 → va_P (dC, dI) vwCl (wm ad cy u4) H → va_D A (wm ad cy u4) → va_S A s.heap H locs → ∀ ls : Array Slot, lv_has ls 7 [(5, .int y4_5), (4, .int y4_4), (0, .ref (ad 0)), (1, .int x0), (2, .int x1), (3, .int x2)] → W p l e (headSpec wsX8_makeTable ({ frames := 3, cells := 0, slots := 0, locals := 192 })).room s m [Value.ref (ad 0), Value.int x0, Value.int x1, Value.int x2].toArray below meth c H locs 0 0 (MQ below (va_Qi (fun (r : Int32) (u : Nat → Nat → Int32) => Ir u ∧ Fq v u ∧ ((r = 1 ∧ lmin x2.toNatClampNeg (alw (fun t k => (v 1 (158 + k + 25 * x0.toNatClampNeg + 5 * t)).toInt) x1.toInt x2.toNatClampNeg) (own (fun t k => (v 1 (158 + k + 25 * x0.toNatClampNeg + 5 * t)).toInt) x1.toInt) (fun q => (u 7 q).toNatClampNeg) ∧ ∀ q : Nat, q < x2.toNatClampNeg → own (fun t k => (v 1 (158 + k + 25 * x0.toNatClampNeg + 5 * t)).toInt) x1.toInt q → 0 ≤ (u 7 q).toInt) ∨ (r = 0 ∧ ¬ TB (fun t k => (v 1 (158 + k + 25 * x0.toNatClampNeg + 5 * t)).toInt) x1.toInt x2.toNatClampNeg))) (fun u t => ex_Pst dC dI A (wm ad cy u) t) A) [Value.ref (ad 0), Value.int x0, Value.int x1, Value.int x2].toArray s 0 0 A) (F0 m 36 ls []) := by
      intro n
      induction n with
      | zero =>
        intro y4_4 y4_5 u4 H locs ay4_4 by4_4 ay4_5 by4_5 hi4_0 hi4_1 hi4_2 hm_4 hv hfr hP hD hS ls hl
        exact absurd hm_4 (by omega)
      | succ n ih_4 =>
        intro y4_4 y4_5 u4 H locs ay4_4 by4_4 ay4_5 by4_5 hi4_0 hi4_1 hi4_2 hm_4 hv hfr hP hD hS ls hl
        refine lv_iload hx hb dX8_makeTable_36 (lv_at hl 1 rfl) ?_
        have k_0 : (0 : Int32).toInt = 0 := by decide
        refine lv_if_lt (tgt := 140) hx hb dX8_makeTable_38 (by decide) (fun c_5 => ?_) (fun c_5 => ?_)
        · have tc_5 : y4_4.toInt < (0 : Int32).toInt := Int32.lt_iff_toInt_lt.mp c_5
          refine lv_iload hx hb dX8_makeTable_140 (lv_at hl 1 rfl) ?_
          refine lv_if_lt (tgt := 149) hx hb dX8_makeTable_142 (by decide) (fun c_6 => ?_) (fun c_6 => ?_)
          · have tc_6 : y4_4.toInt < (0 : Int32).toInt := Int32.lt_iff_toInt_lt.mp c_6
            refine lv_iconst (v := 0) hx hb dX8_makeTable_149 (by decide) ?_
            exact W.zret (ty := .boolean) (v := 0) hx hb hr rfl (fun t ht hW => ⟨⟨0, u4, rfl, ⟨hv, hfr, by rw [← eDD]; exact Or.inr ⟨rfl, MI_no hi4_2 (by omega)⟩⟩, by rw [ht]; exact hP, hD⟩, hS.F ht⟩) hS.2.2 dX8_makeTable_150
          · have tc_6 : y4_4.toInt ≥ (0 : Int32).toInt := Int32.le_iff_toInt_le.mp (Int32.not_lt.mp c_6)
            exfalso
            omega
        · have tc_5 : y4_4.toInt ≥ (0 : Int32).toInt := Int32.le_iff_toInt_le.mp (Int32.not_lt.mp c_5)
          refine lv_iload hx hb dX8_makeTable_41 (lv_at hl 1 rfl) ?_
          refine lv_iload_n hx hb dX8_makeTable_43 rfl (lv_at hl 5 rfl) ?_
          refine lv_icmp_ge (tgt := 140) hx hb dX8_makeTable_44 (by decide) (fun c_6 => ?_) (fun c_6 => ?_)
          · have tc_6 : y4_4.toInt ≥ x2.toInt := Int32.le_iff_toInt_le.mp c_6
            refine lv_iload hx hb dX8_makeTable_140 (lv_at hl 1 rfl) ?_
            refine lv_if_lt (tgt := 149) hx hb dX8_makeTable_142 (by decide) (fun c_7 => ?_) (fun c_7 => ?_)
            · have tc_7 : y4_4.toInt < (0 : Int32).toInt := Int32.lt_iff_toInt_lt.mp c_7
              exfalso
              omega
            · have tc_7 : y4_4.toInt ≥ (0 : Int32).toInt := Int32.le_iff_toInt_le.mp (Int32.not_lt.mp c_7)
              refine lv_iconst (v := 1) hx hb dX8_makeTable_145 (by decide) ?_
              refine lv_goto (tgt := 150) hx hb dX8_makeTable_146 (by decide) ?_
              exact W.zret (ty := .boolean) (v := 1) hx hb hr rfl (fun t ht hW => ⟨⟨1, u4, rfl, ⟨hv, hfr, by rw [← eDD]; exact Or.inl ⟨rfl, MI_yes hi4_2 (by omega), MI_nn hi4_2 (by omega)⟩⟩, by rw [ht]; exact hP, hD⟩, hS.F ht⟩) hS.2.2 dX8_makeTable_150
          · have tc_6 : y4_4.toInt < x2.toInt := Int32.lt_iff_toInt_lt.mp (Int32.not_le.mp c_6)
            have hfv9 := hfr
            refine lv_aload_n hx hb dX8_makeTable_47 rfl (lv_at hl 2 rfl) ?_
            refine lv_iload_n hx hb dX8_makeTable_48 rfl (lv_at hl 3 rfl) ?_
            refine lv_iload_n hx hb dX8_makeTable_49 rfl (lv_at hl 4 rfl) ?_
            refine lv_iload hx hb dX8_makeTable_50 (lv_at hl 1 rfl) ?_
            refine lv_iload hx hb dX8_makeTable_52 (lv_at hl 0 rfl) ?_
            refine lv_iload_n hx hb dX8_makeTable_54 rfl (lv_at hl 5 rfl) ?_
            refine yw_i (w1 := fun (u : Nat → Nat → Int32) => wm ad cy u) hD hS hA (va_runV (As := [.int x0, .int x1, .int y4_4, .int y4_5, .int x2]) (rest := []) ⟨hx, hb, hml, hown, hts⟩ (e_X8_hourFrom l dC dI cy _ ad u4 hv x0 x1 y4_4 y4_5 x2 ⟨by omega, by omega⟩ ⟨by omega, by omega⟩ ⟨by omega, by omega⟩ ⟨by omega, by omega⟩ (by omega)) (cwV 5 hts gX8_makeTable_X8_hourFrom rfl rfl rfl (by decide +kernel) ⟨Nat.le_of_ble_eq_true rfl, Nat.le_of_ble_eq_true rfl⟩) (yw_preV hE hK hP hD (ci := 8) (q0 := 0) rfl (wm_at (by decide) rc_0)) rfl rfl hl.1 rfl (lv_room (Nat.le_of_ble_eq_true rfl)) dX8_makeTable_55 ⟨Nat.le_of_ble_eq_true rfl, Nat.le_of_ble_eq_true rfl⟩) (fun r_7 v_7 H locs hw_7 hP hD hS => ?_)
            obtain ⟨hv, hf_7, hw_7⟩ := hw_7
            have hfr : Fq v v_7 := hfr.trans hf_7
            have zn_y4_4 : (y4_4.toNatClampNeg : Int) = y4_4.toInt := t_nn (by omega)
            obtain ⟨he_8, hr_8⟩ := hw_7
            rw [show (fun t k => (u4 1 (158 + k + 25 * x0.toNatClampNeg + 5 * t)).toInt) = DD from by rw [eDD, hfv9.1]] at hr_8
            have hb_8 : -1 ≤ r_7.toInt ∧ r_7.toInt ≤ 23 := by have q := (hB9 y4_4.toNatClampNeg (by omega)).2; rcases hr_8 with ⟨q1, -⟩ | ⟨q1, -⟩ <;> omega
            refine lv_istore (lv' := [(6, .int r_7), (5, .int y4_5), (4, .int y4_4), (0, .ref (ad 0)), (1, .int x0), (2, .int x1), (3, .int x2)]) hx hb dX8_makeTable_58 hl (by decide) rfl (fun ls hl => ?_)
            refine lv_iload hx hb dX8_makeTable_60 (lv_at hl 0 rfl) ?_
            refine lv_if_lt (tgt := 105) hx hb dX8_makeTable_62 (by decide) (fun c_9 => ?_) (fun c_9 => ?_)
            · have tc_9 : r_7.toInt < (0 : Int32).toInt := Int32.lt_iff_toInt_lt.mp c_9
              have hr9 : ∀ h : Int, y4_5.toInt ≤ h → h ≤ DD y4_4.toNatClampNeg 4 → ¬ VH DD x1.toInt x2.toInt y4_4.toNatClampNeg (u4 7) h := by rcases hr_8 with ⟨-, q⟩ | ⟨q1, -⟩; exact q; omega
              refine lv_aload_n hx hb dX8_makeTable_105 rfl (lv_at hl 3 rfl) ?_
              refine lv_iload_n hx hb dX8_makeTable_106 rfl (lv_at hl 4 rfl) ?_
              refine lv_iload_n hx hb dX8_makeTable_107 rfl (lv_at hl 5 rfl) ?_
              refine lv_iload hx hb dX8_makeTable_108 (lv_at hl 2 rfl) ?_
              refine lv_iconst (v := (-1)) hx hb dX8_makeTable_110 (by decide) ?_
              refine lv_iload_n hx hb dX8_makeTable_111 rfl (lv_at hl 6 rfl) ?_
              refine yw_i (w1 := fun (u : Nat → Nat → Int32) => wm ad cy u) hD hS hA (va_runV (As := [.int x0, .int x1, .int y4_4, .int (-1), .int x2]) (rest := []) ⟨hx, hb, hml, hown, hts⟩ (e_X8_next_b l dC dI cy _ ad v_7 hv x0 x1 y4_4 x2 ⟨by omega, by omega⟩ ⟨by omega, by omega⟩ ⟨by omega, by omega⟩) (cwV 5 hts gX8_makeTable_X8_next rfl rfl rfl (by decide +kernel) ⟨Nat.le_of_ble_eq_true rfl, Nat.le_of_ble_eq_true rfl⟩) (yw_preV hE hK hP hD (ci := 8) (q0 := 0) rfl (wm_at (by decide) rc_0)) rfl rfl hl.1 rfl (lv_room (Nat.le_of_ble_eq_true rfl)) dX8_makeTable_112 ⟨Nat.le_of_ble_eq_true rfl, Nat.le_of_ble_eq_true rfl⟩) (fun r_10 v_10 H locs hw_10 hP hD hS => ?_)
              obtain ⟨-, hu_10, hw_10⟩ := hw_10
              replace hu_10 := hu_10.symm
              subst hu_10
              obtain ⟨hn_11, hg_11, hq_11⟩ := hw_10
              rw [show (fun t k => (v_7 1 (158 + k + 25 * x0.toNatClampNeg + 5 * t)).toInt) = DD from by rw [eDD, hfr.1]] at hg_11 hq_11
              refine lv_istore (lv' := [(4, .int r_10), (6, .int r_7), (5, .int y4_5), (0, .ref (ad 0)), (1, .int x0), (2, .int x1), (3, .int x2)]) hx hb dX8_makeTable_115 hl (by decide) rfl (fun ls hl => ?_)
              refine lv_iload hx hb dX8_makeTable_117 (lv_at hl 0 rfl) ?_
              refine lv_if_ge (tgt := 126) hx hb dX8_makeTable_119 (by decide) (fun c_12 => ?_) (fun c_12 => ?_)
              · have tc_12 : r_10.toInt ≥ (0 : Int32).toInt := Int32.le_iff_toInt_le.mp c_12
                refine lv_aload_n hx hb dX8_makeTable_126 rfl (lv_at hl 3 rfl) ?_
                refine va_get (D := (dC, dI)) (ci := 8) (v := .ref (ad 7)) (C := RX8) (T := TX8) (N := 11) hx hb hts (by decide +kernel) hown hK hP (0) (wm_at (by decide) rc_0) rfl 10 (by decide) (hts (.fieldLink RX8 32 "QuietStairsModel" "hours" "[I") (by decide +kernel)) (fun _ h9 => h9) rfl dX8_makeTable_127 ?_
                refine lv_iload hx hb dX8_makeTable_130 (lv_at hl 0 rfl) ?_
                have zn_r_10 : (r_10.toNatClampNeg : Int) = r_10.toInt := t_nn (by omega)
                refine va_iald hx hb hK hP (7) 0 (wm_at (by decide) rc_7) rfl (vp_in_iff.mpr ⟨by omega, by omega⟩) dX8_makeTable_132 ?_
                refine lv_topi (fun x_13 ex_13 => ?_)
                have qx_13 : x_13.toInt = (v_7 7 (r_10.toNatClampNeg)).toInt := congrArg Int32.toInt ex_13
                have bzx_13 : 0 ≤ x_13.toInt ∧ x_13.toInt ≤ 23 := by rw [ex_13, he_8 _ (by omega)]; exact hi4_0 _ (by omega) ((oo _).mpr (hq_11 (by omega)))
                refine lv_iconst (v := 1) hx hb dX8_makeTable_133 (by decide) ?_
                refine lv_iadd hx hb dX8_makeTable_134 ?_
                refine lv_topi (fun x_14 ex_14 => ?_)
                have tx_14 : x_14.toInt = x_13.toInt + (1 : Int32).toInt := by rw [ex_14]; exact t_add ⟨by omega, by omega⟩
                refine lv_istore (lv' := [(5, .int x_14), (4, .int r_10), (6, .int r_7), (0, .ref (ad 0)), (1, .int x0), (2, .int x1), (3, .int x2)]) hx hb dX8_makeTable_135 hl (by decide) rfl (fun ls hl => ?_)
                refine lv_goto (tgt := 36) hx hb dX8_makeTable_137 (by decide) ?_
                exact ih_4 r_10 x_14 v_7 _ _ (by omega) (by omega) (by omega) (by omega) ((mt_b (s := v 1) (B := (158 + 25 * x0.toNatClampNeg)) (sd := x1) (h := u4 7) (h' := v_7 7) (t := y4_4) (t' := r_10) (f := y4_5) (f' := x_14) ⟨by omega, by omega⟩ ⟨by omega, by omega⟩ ⟨by omega, by omega⟩ he_8 (fun q => (oo _).mpr (hq_11 q)) (Or.inr ⟨by omega, by rw [← ex_13]; omega⟩) hi4_0).1) (by omega) (MI_dn (T := y4_4.toNatClampNeg) (by omega) (by omega) hi4_2 (hB9 _ (by omega)).2 (by rw [show ((x2.toNatClampNeg : Nat) : Int) = x2.toInt from by omega]; exact hr9) he_8 ⟨by omega, by omega⟩ (fun i h1 h2 => hg_11 i (by omega) (by omega)) (fun U hU => ⟨by rw [show U = r_10.toNatClampNeg from by have z9 := t_nn (x := r_10) (by omega); omega]; exact hq_11 (by omega), by have q9 := ex_13; rw [show U = r_10.toNatClampNeg from by omega, ← q9]; omega⟩)) (by have z1 := (mt_b (s := v 1) (B := (158 + 25 * x0.toNatClampNeg)) (sd := x1) (h := u4 7) (h' := v_7 7) (t := y4_4) (t' := r_10) (f := y4_5) (f' := x_14) ⟨by omega, by omega⟩ ⟨by omega, by omega⟩ ⟨by omega, by omega⟩ he_8 (fun q => (oo _).mpr (hq_11 q)) (Or.inr ⟨by omega, by rw [← ex_13]; omega⟩) hi4_0).2; omega) hv hfr hP hD hS ls (lv_sub hl [0, 1, 3, 4, 5, 6] rfl)
              · have tc_12 : r_10.toInt < (0 : Int32).toInt := Int32.lt_iff_toInt_lt.mp (Int32.not_le.mp c_12)
                refine lv_iconst (v := 0) hx hb dX8_makeTable_122 (by decide) ?_
                refine lv_goto (tgt := 135) hx hb dX8_makeTable_123 (by decide) ?_
                refine lv_istore (lv' := [(5, .int 0), (4, .int r_10), (6, .int r_7), (0, .ref (ad 0)), (1, .int x0), (2, .int x1), (3, .int x2)]) hx hb dX8_makeTable_135 hl (by decide) rfl (fun ls hl => ?_)
                refine lv_goto (tgt := 36) hx hb dX8_makeTable_137 (by decide) ?_
                exact ih_4 r_10 0 v_7 _ _ (by omega) (by omega) (by omega) (by omega) ((mt_b (s := v 1) (B := (158 + 25 * x0.toNatClampNeg)) (sd := x1) (h := u4 7) (h' := v_7 7) (t := y4_4) (t' := r_10) (f := y4_5) (f' := (0 : Int32)) ⟨by omega, by omega⟩ ⟨by omega, by omega⟩ ⟨by omega, by omega⟩ he_8 (fun q => (oo _).mpr (hq_11 q)) (Or.inl ⟨by omega, by omega⟩) hi4_0).1) (by omega) (MI_dn (T := y4_4.toNatClampNeg) (by omega) (by omega) hi4_2 (hB9 _ (by omega)).2 (by rw [show ((x2.toNatClampNeg : Nat) : Int) = x2.toInt from by omega]; exact hr9) he_8 ⟨by omega, by omega⟩ (fun i h1 h2 => hg_11 i (by omega) (by omega)) (fun U hU => ⟨by rw [show U = r_10.toNatClampNeg from by have z9 := t_nn (x := r_10) (by omega); omega]; exact hq_11 (by omega), by omega⟩)) (by have z1 := (mt_b (s := v 1) (B := (158 + 25 * x0.toNatClampNeg)) (sd := x1) (h := u4 7) (h' := v_7 7) (t := y4_4) (t' := r_10) (f := y4_5) (f' := (0 : Int32)) ⟨by omega, by omega⟩ ⟨by omega, by omega⟩ ⟨by omega, by omega⟩ he_8 (fun q => (oo _).mpr (hq_11 q)) (Or.inl ⟨by omega, by omega⟩) hi4_0).2; omega) hv hfr hP hD hS ls (lv_sub hl [0, 1, 3, 4, 5, 6] rfl)
            · have tc_9 : r_7.toInt ≥ (0 : Int32).toInt := Int32.le_iff_toInt_le.mp (Int32.not_lt.mp c_9)
              have hr9 : ((y4_5.toInt ≤ r_7.toInt ∧ r_7.toInt ≤ DD y4_4.toNatClampNeg 4) ∧ v_7 7 y4_4.toNatClampNeg = r_7 ∧ VH DD x1.toInt x2.toInt y4_4.toNatClampNeg (u4 7) r_7.toInt ∧ ∀ h : Int, y4_5.toInt ≤ h → h < r_7.toInt → ¬ VH DD x1.toInt x2.toInt y4_4.toNatClampNeg (u4 7) h) := by rcases hr_8 with ⟨q1, -⟩ | q; omega; exact q
              refine lv_aload_n hx hb dX8_makeTable_65 rfl (lv_at hl 3 rfl) ?_
              refine lv_iload_n hx hb dX8_makeTable_66 rfl (lv_at hl 4 rfl) ?_
              refine lv_iload_n hx hb dX8_makeTable_67 rfl (lv_at hl 5 rfl) ?_
              refine lv_iload hx hb dX8_makeTable_68 (lv_at hl 2 rfl) ?_
              refine lv_iconst (v := 1) hx hb dX8_makeTable_70 (by decide) ?_
              refine lv_iload_n hx hb dX8_makeTable_71 rfl (lv_at hl 6 rfl) ?_
              refine yw_i (w1 := fun (u : Nat → Nat → Int32) => wm ad cy u) hD hS hA (va_runV (As := [.int x0, .int x1, .int y4_4, .int 1, .int x2]) (rest := []) ⟨hx, hb, hml, hown, hts⟩ (e_X8_next_f l dC dI cy _ ad v_7 hv x0 x1 y4_4 x2 ⟨by omega, by omega⟩ ⟨by omega, by omega⟩ ⟨by omega, by omega⟩) (cwV 5 hts gX8_makeTable_X8_next rfl rfl rfl (by decide +kernel) ⟨Nat.le_of_ble_eq_true rfl, Nat.le_of_ble_eq_true rfl⟩) (yw_preV hE hK hP hD (ci := 8) (q0 := 0) rfl (wm_at (by decide) rc_0)) rfl rfl hl.1 rfl (lv_room (Nat.le_of_ble_eq_true rfl)) dX8_makeTable_72 ⟨Nat.le_of_ble_eq_true rfl, Nat.le_of_ble_eq_true rfl⟩) (fun r_10 v_10 H locs hw_10 hP hD hS => ?_)
              obtain ⟨-, hu_10, hw_10⟩ := hw_10
              replace hu_10 := hu_10.symm
              subst hu_10
              obtain ⟨hn_11, hg_11, hq_11⟩ := hw_10
              rw [show (fun t k => (v_7 1 (158 + k + 25 * x0.toNatClampNeg + 5 * t)).toInt) = DD from by rw [eDD, hfr.1]] at hg_11 hq_11
              refine lv_istore (lv' := [(4, .int r_10), (6, .int r_7), (5, .int y4_5), (0, .ref (ad 0)), (1, .int x0), (2, .int x1), (3, .int x2)]) hx hb dX8_makeTable_75 hl (by decide) rfl (fun ls hl => ?_)
              refine lv_iload hx hb dX8_makeTable_77 (lv_at hl 0 rfl) ?_
              refine lv_iload_n hx hb dX8_makeTable_79 rfl (lv_at hl 6 rfl) ?_
              refine lv_icmp_ge (tgt := 99) hx hb dX8_makeTable_80 (by decide) (fun c_12 => ?_) (fun c_12 => ?_)
              · have tc_12 : r_10.toInt ≥ x2.toInt := Int32.le_iff_toInt_le.mp c_12
                refine lv_iconst (v := 0) hx hb dX8_makeTable_99 (by decide) ?_
                refine lv_istore (lv' := [(5, .int 0), (4, .int r_10), (6, .int r_7), (0, .ref (ad 0)), (1, .int x0), (2, .int x1), (3, .int x2)]) hx hb dX8_makeTable_100 hl (by decide) rfl (fun ls hl => ?_)
                refine lv_goto (tgt := 137) hx hb dX8_makeTable_102 (by decide) ?_
                refine lv_goto (tgt := 36) hx hb dX8_makeTable_137 (by decide) ?_
                have zn_r_10 : (r_10.toNatClampNeg : Int) = r_10.toInt := t_nn (by omega)
                exact ih_4 r_10 0 v_7 _ _ (by omega) (by omega) (by omega) (by omega) ((mt_f (s := v 1) (B := (158 + 25 * x0.toNatClampNeg)) (sd := x1) (h := u4 7) (h' := v_7 7) (t := y4_4) (t' := r_10) (f := y4_5) (f' := (0 : Int32)) (r := r_7) ⟨by omega, by omega⟩ ⟨by omega, by omega⟩ ⟨by omega, by omega⟩ (by omega) ⟨by omega, by omega⟩ he_8 (by rw [hr9.2.1]) (fun i h1 h2 q => hg_11 i (by omega) h2 ((oo i).mp q)) hi4_0).1) (by omega) (MI_up (T := y4_4.toNatClampNeg) (U := r_10.toNatClampNeg) (r := r_7.toInt) (by omega) (by omega) hi4_2 ⟨⟨by omega, by omega⟩, by omega, by omega⟩ (by rw [show ((x2.toNatClampNeg : Nat) : Int) = x2.toInt from by omega]; exact hr9.2.2.1) (by rw [show ((x2.toNatClampNeg : Nat) : Int) = x2.toInt from by omega]; exact hr9.2.2.2) he_8 (by rw [hr9.2.1]) (by omega) (by omega) (by omega) (fun i h1 h2 => hg_11 i (by omega) (by omega)) (fun h => ⟨hq_11 (by omega), by omega⟩)) (by have z1 := (mt_f (s := v 1) (B := (158 + 25 * x0.toNatClampNeg)) (sd := x1) (h := u4 7) (h' := v_7 7) (t := y4_4) (t' := r_10) (f := y4_5) (f' := (0 : Int32)) (r := r_7) ⟨by omega, by omega⟩ ⟨by omega, by omega⟩ ⟨by omega, by omega⟩ (by omega) ⟨by omega, by omega⟩ he_8 (by rw [hr9.2.1]) (fun i h1 h2 q => hg_11 i (by omega) h2 ((oo i).mp q)) hi4_0).2; omega) hv hfr hP hD hS ls (lv_sub hl [0, 1, 3, 4, 5, 6] rfl)
              · have tc_12 : r_10.toInt < x2.toInt := Int32.lt_iff_toInt_lt.mp (Int32.not_le.mp c_12)
                refine lv_aload_n hx hb dX8_makeTable_83 rfl (lv_at hl 3 rfl) ?_
                refine va_get (D := (dC, dI)) (ci := 8) (v := .ref (ad 1)) (C := RX8) (T := TX8) (N := 11) hx hb hts (by decide +kernel) hown hK hP (0) (wm_at (by decide) rc_0) rfl 0 (by decide) (hts (.fieldLink RX8 7 "QuietStairsModel" "s" "[I") (by decide +kernel)) (fun _ h9 => h9) rfl dX8_makeTable_84 ?_
                refine lv_iload_n hx hb dX8_makeTable_87 rfl (lv_at hl 4 rfl) ?_
                refine lv_iload hx hb dX8_makeTable_88 (lv_at hl 0 rfl) ?_
                refine yc_p hP hS (va_runS (As := [.int x0, .int r_10]) (rest := [.ref (ad 1)]) ⟨hx, hb, hml, hown, hts⟩ (c_X8_termAt l x0 r_10) (cwS 2 hts gX8_makeTable_X8_termAt rfl rfl rfl (by decide +kernel) ⟨Nat.le_of_ble_eq_true rfl, Nat.le_of_ble_eq_true rfl⟩) ex_preP rfl rfl hl.1 rfl (lv_room (Nat.le_of_ble_eq_true rfl)) dX8_makeTable_90 ⟨Nat.le_of_ble_eq_true rfl, Nat.le_of_ble_eq_true rfl⟩) (fun r_13 H locs hw_13 hP hS => ?_)
                have tr_13 : r_13.toInt = 158 + 25 * x0.toInt + 5 * r_10.toInt := t_tm hw_13 ⟨by omega, by omega⟩ ⟨by omega, by omega⟩
                refine lv_iconst (v := 3) hx hb dX8_makeTable_93 (by decide) ?_
                refine lv_iadd hx hb dX8_makeTable_94 ?_
                refine lv_topi (fun x_14 ex_14 => ?_)
                have k_3 : (3 : Int32).toInt = 3 := by decide
                have tx_14 : x_14.toInt = r_13.toInt + (3 : Int32).toInt := by rw [ex_14]; exact t_add ⟨by omega, by omega⟩
                have zn_r_10 : (r_10.toNatClampNeg : Int) = r_10.toInt := t_nn (by omega)
                have nx_14 : x_14.toNatClampNeg = 161 + 25 * x0.toNatClampNeg + 5 * r_10.toNatClampNeg := by have z1 := t_nn (x := x_14) (by omega); omega
                refine va_iald hx hb hK hP (1) 0 (wm_at (by decide) rc_1) rfl (vp_in_iff.mpr ⟨by omega, by omega⟩) dX8_makeTable_95 ?_
                refine lv_topi (fun x_15 ex_15 => ?_)
                have bzx_15 : 0 ≤ x_15.toInt ∧ x_15.toInt ≤ 23 := by rw [ex_15]; exact hv 1 _ 23 (bx_t3 (i := 5 * x0.toInt + r_10.toInt) (s := 3) (by omega) ⟨by omega, by omega⟩ (by omega))
                rw [nx_14] at ex_15
                rw [hf_7.1] at ex_15
                have qx_15 : x_15.toInt = (u4 1 (161 + 25 * x0.toNatClampNeg + 5 * r_10.toNatClampNeg)).toInt := congrArg Int32.toInt ex_15
                have h3_x_15 : x_15.toInt = DD r_10.toNatClampNeg 3 := by rw [eDD]; exact congrArg Int32.toInt (ex_15.trans (congrFun hfv9.1 _))
                refine lv_goto (tgt := 100) hx hb dX8_makeTable_96 (by decide) ?_
                refine lv_istore (lv' := [(5, .int x_15), (4, .int r_10), (6, .int r_7), (0, .ref (ad 0)), (1, .int x0), (2, .int x1), (3, .int x2)]) hx hb dX8_makeTable_100 hl (by decide) rfl (fun ls hl => ?_)
                refine lv_goto (tgt := 137) hx hb dX8_makeTable_102 (by decide) ?_
                refine lv_goto (tgt := 36) hx hb dX8_makeTable_137 (by decide) ?_
                exact ih_4 r_10 x_15 v_7 _ _ (by omega) (by omega) (by omega) (by omega) ((mt_f (s := v 1) (B := (158 + 25 * x0.toNatClampNeg)) (sd := x1) (h := u4 7) (h' := v_7 7) (t := y4_4) (t' := r_10) (f := y4_5) (f' := x_15) (r := r_7) ⟨by omega, by omega⟩ ⟨by omega, by omega⟩ ⟨by omega, by omega⟩ (by omega) ⟨by omega, by omega⟩ he_8 (by rw [hr9.2.1]) (fun i h1 h2 q => hg_11 i (by omega) h2 ((oo i).mp q)) hi4_0).1) (by omega) (MI_up (T := y4_4.toNatClampNeg) (U := r_10.toNatClampNeg) (r := r_7.toInt) (by omega) (by omega) hi4_2 ⟨⟨by omega, by omega⟩, by omega, by omega⟩ (by rw [show ((x2.toNatClampNeg : Nat) : Int) = x2.toInt from by omega]; exact hr9.2.2.1) (by rw [show ((x2.toNatClampNeg : Nat) : Int) = x2.toInt from by omega]; exact hr9.2.2.2) he_8 (by rw [hr9.2.1]) (by omega) (by omega) (by omega) (fun i h1 h2 => hg_11 i (by omega) (by omega)) (fun h => ⟨hq_11 (by omega), by omega⟩)) (by have z1 := (mt_f (s := v 1) (B := (158 + 25 * x0.toNatClampNeg)) (sd := x1) (h := u4 7) (h' := v_7 7) (t := y4_4) (t' := r_10) (f := y4_5) (f' := x_15) (r := r_7) ⟨by omega, by omega⟩ ⟨by omega, by omega⟩ ⟨by omega, by omega⟩ (by omega) ⟨by omega, by omega⟩ he_8 (by rw [hr9.2.1]) (fun i h1 h2 q => hg_11 i (by omega) h2 ((oo i).mp q)) hi4_0).2; omega) hv hfr hP hD hS ls (lv_sub hl [0, 1, 3, 4, 5, 6] rfl)
    have k_0 : (0 : Int32).toInt = 0 := by decide
    have zn_r_1 : (r_1.toNatClampNeg : Int) = r_1.toInt := t_nn (by omega)
    exact hc_4 ((mt (dg (v 1) (158 + 25 * x0.toNatClampNeg) x1 (v 7)) r_1.toInt (0 : Int32).toInt).toNat + 1) r_1 0 v _ _ (by omega) (by omega) (by omega) (by omega) (fun i h1 h2 => absurd ((oo i).mp h2) (hg_2 i (by omega) h1)) (by omega) (MI_0 (T := r_1.toNatClampNeg) (by omega) (by omega) (fun i h => hg_2 i (by omega) (by omega)) (fun h => ⟨hq_2 (by omega), by omega⟩)) (by omega) hv hfr hP hD hS ls (lv_sub hl [0, 1, 2, 3, 4, 5] rfl)
  · have tc_3 : r_1.toInt < x2.toInt := Int32.lt_iff_toInt_lt.mp (Int32.not_le.mp c_3)
    refine lv_aload_n hx hb dX8_makeTable_17 rfl (lv_at hl 1 rfl) ?_
    refine va_get (D := (dC, dI)) (ci := 8) (v := .ref (ad 1)) (C := RX8) (T := TX8) (N := 11) hx hb hts (by decide +kernel) hown hK hP (0) (wm_at (by decide) rc_0) rfl 0 (by decide) (hts (.fieldLink RX8 7 "QuietStairsModel" "s" "[I") (by decide +kernel)) (fun _ h9 => h9) rfl dX8_makeTable_18 ?_
    refine lv_iload_n hx hb dX8_makeTable_21 rfl (lv_at hl 2 rfl) ?_
    refine lv_iload hx hb dX8_makeTable_22 (lv_at hl 0 rfl) ?_
    refine yc_p hP hS (va_runS (As := [.int x0, .int r_1]) (rest := [.ref (ad 1)]) ⟨hx, hb, hml, hown, hts⟩ (c_X8_termAt l x0 r_1) (cwS 2 hts gX8_makeTable_X8_termAt rfl rfl rfl (by decide +kernel) ⟨Nat.le_of_ble_eq_true rfl, Nat.le_of_ble_eq_true rfl⟩) ex_preP rfl rfl hl.1 rfl (lv_room (Nat.le_of_ble_eq_true rfl)) dX8_makeTable_24 ⟨Nat.le_of_ble_eq_true rfl, Nat.le_of_ble_eq_true rfl⟩) (fun r_4 H locs hw_4 hP hS => ?_)
    have tr_4 : r_4.toInt = 158 + 25 * x0.toInt + 5 * r_1.toInt := t_tm hw_4 ⟨by omega, by omega⟩ ⟨by omega, by omega⟩
    refine lv_iconst (v := 3) hx hb dX8_makeTable_27 (by decide) ?_
    refine lv_iadd hx hb dX8_makeTable_28 ?_
    refine lv_topi (fun x_5 ex_5 => ?_)
    have k_3 : (3 : Int32).toInt = 3 := by decide
    have tx_5 : x_5.toInt = r_4.toInt + (3 : Int32).toInt := by rw [ex_5]; exact t_add ⟨by omega, by omega⟩
    have zn_r_1 : (r_1.toNatClampNeg : Int) = r_1.toInt := t_nn (by omega)
    have nx_5 : x_5.toNatClampNeg = 161 + 25 * x0.toNatClampNeg + 5 * r_1.toNatClampNeg := by have z1 := t_nn (x := x_5) (by omega); omega
    refine va_iald hx hb hK hP (1) 0 (wm_at (by decide) rc_1) rfl (vp_in_iff.mpr ⟨by omega, by omega⟩) dX8_makeTable_29 ?_
    refine lv_topi (fun x_6 ex_6 => ?_)
    have bzx_6 : 0 ≤ x_6.toInt ∧ x_6.toInt ≤ 23 := by rw [ex_6]; exact hv 1 _ 23 (bx_t3 (i := 5 * x0.toInt + r_1.toInt) (s := 3) (by omega) ⟨by omega, by omega⟩ (by omega))
    rw [nx_5] at ex_6
    have qx_6 : x_6.toInt = (v 1 (161 + 25 * x0.toNatClampNeg + 5 * r_1.toNatClampNeg)).toInt := congrArg Int32.toInt ex_6
    have h3_x_6 : x_6.toInt = DD r_1.toNatClampNeg 3 := by rw [eDD]; exact congrArg Int32.toInt ex_6
    refine lv_goto (tgt := 34) hx hb dX8_makeTable_30 (by decide) ?_
    refine lv_istore (lv' := [(5, .int x_6), (4, .int r_1), (0, .ref (ad 0)), (1, .int x0), (2, .int x1), (3, .int x2)]) hx hb dX8_makeTable_34 hl (by decide) rfl (fun ls hl => ?_)
    have hc_7 : ∀ (n : Nat) (y7_4 y7_5 : Int32) (u7 : Nat → Nat → Int32) (H : Heap) (locs : List Loc), -1 ≤ y7_4.toInt → y7_4.toInt ≤ 5 → 0 ≤ y7_5.toInt → y7_5.toInt ≤ 24 → (∀ i : Nat, (i : Int) < y7_4.toInt → ow (v 1) (158 + 25 * x0.toNatClampNeg) x1 i → 0 ≤ (u7 7 i).toInt ∧ (u7 7 i).toInt ≤ 23) → (y7_4.toInt ≤ x2.toInt) → (MI DD x1.toInt x2.toNatClampNeg y7_4.toInt y7_5.toInt (u7 7)) → (mt (dg (v 1) (158 + 25 * x0.toNatClampNeg) x1 (u7 7)) y7_4.toInt y7_5.toInt).toNat < n → Ir u7 → Fq v u7 → va_P (dC, dI) vwCl (wm ad cy u7) H → va_D A (wm ad cy u7) → va_S A s.heap H locs → ∀ ls : Array Slot, lv_has ls 7 [(5, .int y7_5), (4, .int y7_4), (0, .ref (ad 0)), (1, .int x0), (2, .int x1), (3, .int x2)] → W p l e (headSpec wsX8_makeTable ({ frames := 3, cells := 0, slots := 0, locals := 192 })).room s m [Value.ref (ad 0), Value.int x0, Value.int x1, Value.int x2].toArray below meth c H locs 0 0 (MQ below (va_Qi (fun (r : Int32) (u : Nat → Nat → Int32) => Ir u ∧ Fq v u ∧ ((r = 1 ∧ lmin x2.toNatClampNeg (alw (fun t k => (v 1 (158 + k + 25 * x0.toNatClampNeg + 5 * t)).toInt) x1.toInt x2.toNatClampNeg) (own (fun t k => (v 1 (158 + k + 25 * x0.toNatClampNeg + 5 * t)).toInt) x1.toInt) (fun q => (u 7 q).toNatClampNeg) ∧ ∀ q : Nat, q < x2.toNatClampNeg → own (fun t k => (v 1 (158 + k + 25 * x0.toNatClampNeg + 5 * t)).toInt) x1.toInt q → 0 ≤ (u 7 q).toInt) ∨ (r = 0 ∧ ¬ TB (fun t k => (v 1 (158 + k + 25 * x0.toNatClampNeg + 5 * t)).toInt) x1.toInt x2.toNatClampNeg))) (fun u t => ex_Pst dC dI A (wm ad cy u) t) A) [Value.ref (ad 0), Value.int x0, Value.int x1, Value.int x2].toArray s 0 0 A) (F0 m 36 ls []) := by
      intro n
      induction n with
      | zero =>
        intro y7_4 y7_5 u7 H locs ay7_4 by7_4 ay7_5 by7_5 hi7_0 hi7_1 hi7_2 hm_7 hv hfr hP hD hS ls hl
        exact absurd hm_7 (by omega)
      | succ n ih_7 =>
        intro y7_4 y7_5 u7 H locs ay7_4 by7_4 ay7_5 by7_5 hi7_0 hi7_1 hi7_2 hm_7 hv hfr hP hD hS ls hl
        refine lv_iload hx hb dX8_makeTable_36 (lv_at hl 1 rfl) ?_
        have k_0 : (0 : Int32).toInt = 0 := by decide
        refine lv_if_lt (tgt := 140) hx hb dX8_makeTable_38 (by decide) (fun c_8 => ?_) (fun c_8 => ?_)
        · have tc_8 : y7_4.toInt < (0 : Int32).toInt := Int32.lt_iff_toInt_lt.mp c_8
          refine lv_iload hx hb dX8_makeTable_140 (lv_at hl 1 rfl) ?_
          refine lv_if_lt (tgt := 149) hx hb dX8_makeTable_142 (by decide) (fun c_9 => ?_) (fun c_9 => ?_)
          · have tc_9 : y7_4.toInt < (0 : Int32).toInt := Int32.lt_iff_toInt_lt.mp c_9
            refine lv_iconst (v := 0) hx hb dX8_makeTable_149 (by decide) ?_
            exact W.zret (ty := .boolean) (v := 0) hx hb hr rfl (fun t ht hW => ⟨⟨0, u7, rfl, ⟨hv, hfr, by rw [← eDD]; exact Or.inr ⟨rfl, MI_no hi7_2 (by omega)⟩⟩, by rw [ht]; exact hP, hD⟩, hS.F ht⟩) hS.2.2 dX8_makeTable_150
          · have tc_9 : y7_4.toInt ≥ (0 : Int32).toInt := Int32.le_iff_toInt_le.mp (Int32.not_lt.mp c_9)
            exfalso
            omega
        · have tc_8 : y7_4.toInt ≥ (0 : Int32).toInt := Int32.le_iff_toInt_le.mp (Int32.not_lt.mp c_8)
          refine lv_iload hx hb dX8_makeTable_41 (lv_at hl 1 rfl) ?_
          refine lv_iload_n hx hb dX8_makeTable_43 rfl (lv_at hl 5 rfl) ?_
          refine lv_icmp_ge (tgt := 140) hx hb dX8_makeTable_44 (by decide) (fun c_9 => ?_) (fun c_9 => ?_)
          · have tc_9 : y7_4.toInt ≥ x2.toInt := Int32.le_iff_toInt_le.mp c_9
            refine lv_iload hx hb dX8_makeTable_140 (lv_at hl 1 rfl) ?_
            refine lv_if_lt (tgt := 149) hx hb dX8_makeTable_142 (by decide) (fun c_10 => ?_) (fun c_10 => ?_)
            · have tc_10 : y7_4.toInt < (0 : Int32).toInt := Int32.lt_iff_toInt_lt.mp c_10
              exfalso
              omega
            · have tc_10 : y7_4.toInt ≥ (0 : Int32).toInt := Int32.le_iff_toInt_le.mp (Int32.not_lt.mp c_10)
              refine lv_iconst (v := 1) hx hb dX8_makeTable_145 (by decide) ?_
              refine lv_goto (tgt := 150) hx hb dX8_makeTable_146 (by decide) ?_
              exact W.zret (ty := .boolean) (v := 1) hx hb hr rfl (fun t ht hW => ⟨⟨1, u7, rfl, ⟨hv, hfr, by rw [← eDD]; exact Or.inl ⟨rfl, MI_yes hi7_2 (by omega), MI_nn hi7_2 (by omega)⟩⟩, by rw [ht]; exact hP, hD⟩, hS.F ht⟩) hS.2.2 dX8_makeTable_150
          · have tc_9 : y7_4.toInt < x2.toInt := Int32.lt_iff_toInt_lt.mp (Int32.not_le.mp c_9)
            have hfv9 := hfr
            refine lv_aload_n hx hb dX8_makeTable_47 rfl (lv_at hl 2 rfl) ?_
            refine lv_iload_n hx hb dX8_makeTable_48 rfl (lv_at hl 3 rfl) ?_
            refine lv_iload_n hx hb dX8_makeTable_49 rfl (lv_at hl 4 rfl) ?_
            refine lv_iload hx hb dX8_makeTable_50 (lv_at hl 1 rfl) ?_
            refine lv_iload hx hb dX8_makeTable_52 (lv_at hl 0 rfl) ?_
            refine lv_iload_n hx hb dX8_makeTable_54 rfl (lv_at hl 5 rfl) ?_
            refine yw_i (w1 := fun (u : Nat → Nat → Int32) => wm ad cy u) hD hS hA (va_runV (As := [.int x0, .int x1, .int y7_4, .int y7_5, .int x2]) (rest := []) ⟨hx, hb, hml, hown, hts⟩ (e_X8_hourFrom l dC dI cy _ ad u7 hv x0 x1 y7_4 y7_5 x2 ⟨by omega, by omega⟩ ⟨by omega, by omega⟩ ⟨by omega, by omega⟩ ⟨by omega, by omega⟩ (by omega)) (cwV 5 hts gX8_makeTable_X8_hourFrom rfl rfl rfl (by decide +kernel) ⟨Nat.le_of_ble_eq_true rfl, Nat.le_of_ble_eq_true rfl⟩) (yw_preV hE hK hP hD (ci := 8) (q0 := 0) rfl (wm_at (by decide) rc_0)) rfl rfl hl.1 rfl (lv_room (Nat.le_of_ble_eq_true rfl)) dX8_makeTable_55 ⟨Nat.le_of_ble_eq_true rfl, Nat.le_of_ble_eq_true rfl⟩) (fun r_10 v_10 H locs hw_10 hP hD hS => ?_)
            obtain ⟨hv, hf_10, hw_10⟩ := hw_10
            have hfr : Fq v v_10 := hfr.trans hf_10
            have zn_y7_4 : (y7_4.toNatClampNeg : Int) = y7_4.toInt := t_nn (by omega)
            obtain ⟨he_11, hr_11⟩ := hw_10
            rw [show (fun t k => (u7 1 (158 + k + 25 * x0.toNatClampNeg + 5 * t)).toInt) = DD from by rw [eDD, hfv9.1]] at hr_11
            have hb_11 : -1 ≤ r_10.toInt ∧ r_10.toInt ≤ 23 := by have q := (hB9 y7_4.toNatClampNeg (by omega)).2; rcases hr_11 with ⟨q1, -⟩ | ⟨q1, -⟩ <;> omega
            refine lv_istore (lv' := [(6, .int r_10), (5, .int y7_5), (4, .int y7_4), (0, .ref (ad 0)), (1, .int x0), (2, .int x1), (3, .int x2)]) hx hb dX8_makeTable_58 hl (by decide) rfl (fun ls hl => ?_)
            refine lv_iload hx hb dX8_makeTable_60 (lv_at hl 0 rfl) ?_
            refine lv_if_lt (tgt := 105) hx hb dX8_makeTable_62 (by decide) (fun c_12 => ?_) (fun c_12 => ?_)
            · have tc_12 : r_10.toInt < (0 : Int32).toInt := Int32.lt_iff_toInt_lt.mp c_12
              have hr9 : ∀ h : Int, y7_5.toInt ≤ h → h ≤ DD y7_4.toNatClampNeg 4 → ¬ VH DD x1.toInt x2.toInt y7_4.toNatClampNeg (u7 7) h := by rcases hr_11 with ⟨-, q⟩ | ⟨q1, -⟩; exact q; omega
              refine lv_aload_n hx hb dX8_makeTable_105 rfl (lv_at hl 3 rfl) ?_
              refine lv_iload_n hx hb dX8_makeTable_106 rfl (lv_at hl 4 rfl) ?_
              refine lv_iload_n hx hb dX8_makeTable_107 rfl (lv_at hl 5 rfl) ?_
              refine lv_iload hx hb dX8_makeTable_108 (lv_at hl 2 rfl) ?_
              refine lv_iconst (v := (-1)) hx hb dX8_makeTable_110 (by decide) ?_
              refine lv_iload_n hx hb dX8_makeTable_111 rfl (lv_at hl 6 rfl) ?_
              refine yw_i (w1 := fun (u : Nat → Nat → Int32) => wm ad cy u) hD hS hA (va_runV (As := [.int x0, .int x1, .int y7_4, .int (-1), .int x2]) (rest := []) ⟨hx, hb, hml, hown, hts⟩ (e_X8_next_b l dC dI cy _ ad v_10 hv x0 x1 y7_4 x2 ⟨by omega, by omega⟩ ⟨by omega, by omega⟩ ⟨by omega, by omega⟩) (cwV 5 hts gX8_makeTable_X8_next rfl rfl rfl (by decide +kernel) ⟨Nat.le_of_ble_eq_true rfl, Nat.le_of_ble_eq_true rfl⟩) (yw_preV hE hK hP hD (ci := 8) (q0 := 0) rfl (wm_at (by decide) rc_0)) rfl rfl hl.1 rfl (lv_room (Nat.le_of_ble_eq_true rfl)) dX8_makeTable_112 ⟨Nat.le_of_ble_eq_true rfl, Nat.le_of_ble_eq_true rfl⟩) (fun r_13 v_13 H locs hw_13 hP hD hS => ?_)
              obtain ⟨-, hu_13, hw_13⟩ := hw_13
              replace hu_13 := hu_13.symm
              subst hu_13
              obtain ⟨hn_14, hg_14, hq_14⟩ := hw_13
              rw [show (fun t k => (v_10 1 (158 + k + 25 * x0.toNatClampNeg + 5 * t)).toInt) = DD from by rw [eDD, hfr.1]] at hg_14 hq_14
              refine lv_istore (lv' := [(4, .int r_13), (6, .int r_10), (5, .int y7_5), (0, .ref (ad 0)), (1, .int x0), (2, .int x1), (3, .int x2)]) hx hb dX8_makeTable_115 hl (by decide) rfl (fun ls hl => ?_)
              refine lv_iload hx hb dX8_makeTable_117 (lv_at hl 0 rfl) ?_
              refine lv_if_ge (tgt := 126) hx hb dX8_makeTable_119 (by decide) (fun c_15 => ?_) (fun c_15 => ?_)
              · have tc_15 : r_13.toInt ≥ (0 : Int32).toInt := Int32.le_iff_toInt_le.mp c_15
                refine lv_aload_n hx hb dX8_makeTable_126 rfl (lv_at hl 3 rfl) ?_
                refine va_get (D := (dC, dI)) (ci := 8) (v := .ref (ad 7)) (C := RX8) (T := TX8) (N := 11) hx hb hts (by decide +kernel) hown hK hP (0) (wm_at (by decide) rc_0) rfl 10 (by decide) (hts (.fieldLink RX8 32 "QuietStairsModel" "hours" "[I") (by decide +kernel)) (fun _ h9 => h9) rfl dX8_makeTable_127 ?_
                refine lv_iload hx hb dX8_makeTable_130 (lv_at hl 0 rfl) ?_
                have zn_r_13 : (r_13.toNatClampNeg : Int) = r_13.toInt := t_nn (by omega)
                refine va_iald hx hb hK hP (7) 0 (wm_at (by decide) rc_7) rfl (vp_in_iff.mpr ⟨by omega, by omega⟩) dX8_makeTable_132 ?_
                refine lv_topi (fun x_16 ex_16 => ?_)
                have qx_16 : x_16.toInt = (v_10 7 (r_13.toNatClampNeg)).toInt := congrArg Int32.toInt ex_16
                have bzx_16 : 0 ≤ x_16.toInt ∧ x_16.toInt ≤ 23 := by rw [ex_16, he_11 _ (by omega)]; exact hi7_0 _ (by omega) ((oo _).mpr (hq_14 (by omega)))
                refine lv_iconst (v := 1) hx hb dX8_makeTable_133 (by decide) ?_
                refine lv_iadd hx hb dX8_makeTable_134 ?_
                refine lv_topi (fun x_17 ex_17 => ?_)
                have tx_17 : x_17.toInt = x_16.toInt + (1 : Int32).toInt := by rw [ex_17]; exact t_add ⟨by omega, by omega⟩
                refine lv_istore (lv' := [(5, .int x_17), (4, .int r_13), (6, .int r_10), (0, .ref (ad 0)), (1, .int x0), (2, .int x1), (3, .int x2)]) hx hb dX8_makeTable_135 hl (by decide) rfl (fun ls hl => ?_)
                refine lv_goto (tgt := 36) hx hb dX8_makeTable_137 (by decide) ?_
                exact ih_7 r_13 x_17 v_10 _ _ (by omega) (by omega) (by omega) (by omega) ((mt_b (s := v 1) (B := (158 + 25 * x0.toNatClampNeg)) (sd := x1) (h := u7 7) (h' := v_10 7) (t := y7_4) (t' := r_13) (f := y7_5) (f' := x_17) ⟨by omega, by omega⟩ ⟨by omega, by omega⟩ ⟨by omega, by omega⟩ he_11 (fun q => (oo _).mpr (hq_14 q)) (Or.inr ⟨by omega, by rw [← ex_16]; omega⟩) hi7_0).1) (by omega) (MI_dn (T := y7_4.toNatClampNeg) (by omega) (by omega) hi7_2 (hB9 _ (by omega)).2 (by rw [show ((x2.toNatClampNeg : Nat) : Int) = x2.toInt from by omega]; exact hr9) he_11 ⟨by omega, by omega⟩ (fun i h1 h2 => hg_14 i (by omega) (by omega)) (fun U hU => ⟨by rw [show U = r_13.toNatClampNeg from by have z9 := t_nn (x := r_13) (by omega); omega]; exact hq_14 (by omega), by have q9 := ex_16; rw [show U = r_13.toNatClampNeg from by omega, ← q9]; omega⟩)) (by have z1 := (mt_b (s := v 1) (B := (158 + 25 * x0.toNatClampNeg)) (sd := x1) (h := u7 7) (h' := v_10 7) (t := y7_4) (t' := r_13) (f := y7_5) (f' := x_17) ⟨by omega, by omega⟩ ⟨by omega, by omega⟩ ⟨by omega, by omega⟩ he_11 (fun q => (oo _).mpr (hq_14 q)) (Or.inr ⟨by omega, by rw [← ex_16]; omega⟩) hi7_0).2; omega) hv hfr hP hD hS ls (lv_sub hl [0, 1, 3, 4, 5, 6] rfl)
              · have tc_15 : r_13.toInt < (0 : Int32).toInt := Int32.lt_iff_toInt_lt.mp (Int32.not_le.mp c_15)
                refine lv_iconst (v := 0) hx hb dX8_makeTable_122 (by decide) ?_
                refine lv_goto (tgt := 135) hx hb dX8_makeTable_123 (by decide) ?_
                refine lv_istore (lv' := [(5, .int 0), (4, .int r_13), (6, .int r_10), (0, .ref (ad 0)), (1, .int x0), (2, .int x1), (3, .int x2)]) hx hb dX8_makeTable_135 hl (by decide) rfl (fun ls hl => ?_)
                refine lv_goto (tgt := 36) hx hb dX8_makeTable_137 (by decide) ?_
                exact ih_7 r_13 0 v_10 _ _ (by omega) (by omega) (by omega) (by omega) ((mt_b (s := v 1) (B := (158 + 25 * x0.toNatClampNeg)) (sd := x1) (h := u7 7) (h' := v_10 7) (t := y7_4) (t' := r_13) (f := y7_5) (f' := (0 : Int32)) ⟨by omega, by omega⟩ ⟨by omega, by omega⟩ ⟨by omega, by omega⟩ he_11 (fun q => (oo _).mpr (hq_14 q)) (Or.inl ⟨by omega, by omega⟩) hi7_0).1) (by omega) (MI_dn (T := y7_4.toNatClampNeg) (by omega) (by omega) hi7_2 (hB9 _ (by omega)).2 (by rw [show ((x2.toNatClampNeg : Nat) : Int) = x2.toInt from by omega]; exact hr9) he_11 ⟨by omega, by omega⟩ (fun i h1 h2 => hg_14 i (by omega) (by omega)) (fun U hU => ⟨by rw [show U = r_13.toNatClampNeg from by have z9 := t_nn (x := r_13) (by omega); omega]; exact hq_14 (by omega), by omega⟩)) (by have z1 := (mt_b (s := v 1) (B := (158 + 25 * x0.toNatClampNeg)) (sd := x1) (h := u7 7) (h' := v_10 7) (t := y7_4) (t' := r_13) (f := y7_5) (f' := (0 : Int32)) ⟨by omega, by omega⟩ ⟨by omega, by omega⟩ ⟨by omega, by omega⟩ he_11 (fun q => (oo _).mpr (hq_14 q)) (Or.inl ⟨by omega, by omega⟩) hi7_0).2; omega) hv hfr hP hD hS ls (lv_sub hl [0, 1, 3, 4, 5, 6] rfl)
            · have tc_12 : r_10.toInt ≥ (0 : Int32).toInt := Int32.le_iff_toInt_le.mp (Int32.not_lt.mp c_12)
              have hr9 : ((y7_5.toInt ≤ r_10.toInt ∧ r_10.toInt ≤ DD y7_4.toNatClampNeg 4) ∧ v_10 7 y7_4.toNatClampNeg = r_10 ∧ VH DD x1.toInt x2.toInt y7_4.toNatClampNeg (u7 7) r_10.toInt ∧ ∀ h : Int, y7_5.toInt ≤ h → h < r_10.toInt → ¬ VH DD x1.toInt x2.toInt y7_4.toNatClampNeg (u7 7) h) := by rcases hr_11 with ⟨q1, -⟩ | q; omega; exact q
              refine lv_aload_n hx hb dX8_makeTable_65 rfl (lv_at hl 3 rfl) ?_
              refine lv_iload_n hx hb dX8_makeTable_66 rfl (lv_at hl 4 rfl) ?_
              refine lv_iload_n hx hb dX8_makeTable_67 rfl (lv_at hl 5 rfl) ?_
              refine lv_iload hx hb dX8_makeTable_68 (lv_at hl 2 rfl) ?_
              refine lv_iconst (v := 1) hx hb dX8_makeTable_70 (by decide) ?_
              refine lv_iload_n hx hb dX8_makeTable_71 rfl (lv_at hl 6 rfl) ?_
              refine yw_i (w1 := fun (u : Nat → Nat → Int32) => wm ad cy u) hD hS hA (va_runV (As := [.int x0, .int x1, .int y7_4, .int 1, .int x2]) (rest := []) ⟨hx, hb, hml, hown, hts⟩ (e_X8_next_f l dC dI cy _ ad v_10 hv x0 x1 y7_4 x2 ⟨by omega, by omega⟩ ⟨by omega, by omega⟩ ⟨by omega, by omega⟩) (cwV 5 hts gX8_makeTable_X8_next rfl rfl rfl (by decide +kernel) ⟨Nat.le_of_ble_eq_true rfl, Nat.le_of_ble_eq_true rfl⟩) (yw_preV hE hK hP hD (ci := 8) (q0 := 0) rfl (wm_at (by decide) rc_0)) rfl rfl hl.1 rfl (lv_room (Nat.le_of_ble_eq_true rfl)) dX8_makeTable_72 ⟨Nat.le_of_ble_eq_true rfl, Nat.le_of_ble_eq_true rfl⟩) (fun r_13 v_13 H locs hw_13 hP hD hS => ?_)
              obtain ⟨-, hu_13, hw_13⟩ := hw_13
              replace hu_13 := hu_13.symm
              subst hu_13
              obtain ⟨hn_14, hg_14, hq_14⟩ := hw_13
              rw [show (fun t k => (v_10 1 (158 + k + 25 * x0.toNatClampNeg + 5 * t)).toInt) = DD from by rw [eDD, hfr.1]] at hg_14 hq_14
              refine lv_istore (lv' := [(4, .int r_13), (6, .int r_10), (5, .int y7_5), (0, .ref (ad 0)), (1, .int x0), (2, .int x1), (3, .int x2)]) hx hb dX8_makeTable_75 hl (by decide) rfl (fun ls hl => ?_)
              refine lv_iload hx hb dX8_makeTable_77 (lv_at hl 0 rfl) ?_
              refine lv_iload_n hx hb dX8_makeTable_79 rfl (lv_at hl 6 rfl) ?_
              refine lv_icmp_ge (tgt := 99) hx hb dX8_makeTable_80 (by decide) (fun c_15 => ?_) (fun c_15 => ?_)
              · have tc_15 : r_13.toInt ≥ x2.toInt := Int32.le_iff_toInt_le.mp c_15
                refine lv_iconst (v := 0) hx hb dX8_makeTable_99 (by decide) ?_
                refine lv_istore (lv' := [(5, .int 0), (4, .int r_13), (6, .int r_10), (0, .ref (ad 0)), (1, .int x0), (2, .int x1), (3, .int x2)]) hx hb dX8_makeTable_100 hl (by decide) rfl (fun ls hl => ?_)
                refine lv_goto (tgt := 137) hx hb dX8_makeTable_102 (by decide) ?_
                refine lv_goto (tgt := 36) hx hb dX8_makeTable_137 (by decide) ?_
                have zn_r_13 : (r_13.toNatClampNeg : Int) = r_13.toInt := t_nn (by omega)
                exact ih_7 r_13 0 v_10 _ _ (by omega) (by omega) (by omega) (by omega) ((mt_f (s := v 1) (B := (158 + 25 * x0.toNatClampNeg)) (sd := x1) (h := u7 7) (h' := v_10 7) (t := y7_4) (t' := r_13) (f := y7_5) (f' := (0 : Int32)) (r := r_10) ⟨by omega, by omega⟩ ⟨by omega, by omega⟩ ⟨by omega, by omega⟩ (by omega) ⟨by omega, by omega⟩ he_11 (by rw [hr9.2.1]) (fun i h1 h2 q => hg_14 i (by omega) h2 ((oo i).mp q)) hi7_0).1) (by omega) (MI_up (T := y7_4.toNatClampNeg) (U := r_13.toNatClampNeg) (r := r_10.toInt) (by omega) (by omega) hi7_2 ⟨⟨by omega, by omega⟩, by omega, by omega⟩ (by rw [show ((x2.toNatClampNeg : Nat) : Int) = x2.toInt from by omega]; exact hr9.2.2.1) (by rw [show ((x2.toNatClampNeg : Nat) : Int) = x2.toInt from by omega]; exact hr9.2.2.2) he_11 (by rw [hr9.2.1]) (by omega) (by omega) (by omega) (fun i h1 h2 => hg_14 i (by omega) (by omega)) (fun h => ⟨hq_14 (by omega), by omega⟩)) (by have z1 := (mt_f (s := v 1) (B := (158 + 25 * x0.toNatClampNeg)) (sd := x1) (h := u7 7) (h' := v_10 7) (t := y7_4) (t' := r_13) (f := y7_5) (f' := (0 : Int32)) (r := r_10) ⟨by omega, by omega⟩ ⟨by omega, by omega⟩ ⟨by omega, by omega⟩ (by omega) ⟨by omega, by omega⟩ he_11 (by rw [hr9.2.1]) (fun i h1 h2 q => hg_14 i (by omega) h2 ((oo i).mp q)) hi7_0).2; omega) hv hfr hP hD hS ls (lv_sub hl [0, 1, 3, 4, 5, 6] rfl)
              · have tc_15 : r_13.toInt < x2.toInt := Int32.lt_iff_toInt_lt.mp (Int32.not_le.mp c_15)
                refine lv_aload_n hx hb dX8_makeTable_83 rfl (lv_at hl 3 rfl) ?_
                refine va_get (D := (dC, dI)) (ci := 8) (v := .ref (ad 1)) (C := RX8) (T := TX8) (N := 11) hx hb hts (by decide +kernel) hown hK hP (0) (wm_at (by decide) rc_0) rfl 0 (by decide) (hts (.fieldLink RX8 7 "QuietStairsModel" "s" "[I") (by decide +kernel)) (fun _ h9 => h9) rfl dX8_makeTable_84 ?_
                refine lv_iload_n hx hb dX8_makeTable_87 rfl (lv_at hl 4 rfl) ?_
                refine lv_iload hx hb dX8_makeTable_88 (lv_at hl 0 rfl) ?_
                refine yc_p hP hS (va_runS (As := [.int x0, .int r_13]) (rest := [.ref (ad 1)]) ⟨hx, hb, hml, hown, hts⟩ (c_X8_termAt l x0 r_13) (cwS 2 hts gX8_makeTable_X8_termAt rfl rfl rfl (by decide +kernel) ⟨Nat.le_of_ble_eq_true rfl, Nat.le_of_ble_eq_true rfl⟩) ex_preP rfl rfl hl.1 rfl (lv_room (Nat.le_of_ble_eq_true rfl)) dX8_makeTable_90 ⟨Nat.le_of_ble_eq_true rfl, Nat.le_of_ble_eq_true rfl⟩) (fun r_16 H locs hw_16 hP hS => ?_)
                have tr_16 : r_16.toInt = 158 + 25 * x0.toInt + 5 * r_13.toInt := t_tm hw_16 ⟨by omega, by omega⟩ ⟨by omega, by omega⟩
                refine lv_iconst (v := 3) hx hb dX8_makeTable_93 (by decide) ?_
                refine lv_iadd hx hb dX8_makeTable_94 ?_
                refine lv_topi (fun x_17 ex_17 => ?_)
                have tx_17 : x_17.toInt = r_16.toInt + (3 : Int32).toInt := by rw [ex_17]; exact t_add ⟨by omega, by omega⟩
                have zn_r_13 : (r_13.toNatClampNeg : Int) = r_13.toInt := t_nn (by omega)
                have nx_17 : x_17.toNatClampNeg = 161 + 25 * x0.toNatClampNeg + 5 * r_13.toNatClampNeg := by have z1 := t_nn (x := x_17) (by omega); omega
                refine va_iald hx hb hK hP (1) 0 (wm_at (by decide) rc_1) rfl (vp_in_iff.mpr ⟨by omega, by omega⟩) dX8_makeTable_95 ?_
                refine lv_topi (fun x_18 ex_18 => ?_)
                have bzx_18 : 0 ≤ x_18.toInt ∧ x_18.toInt ≤ 23 := by rw [ex_18]; exact hv 1 _ 23 (bx_t3 (i := 5 * x0.toInt + r_13.toInt) (s := 3) (by omega) ⟨by omega, by omega⟩ (by omega))
                rw [nx_17] at ex_18
                rw [hf_10.1] at ex_18
                have qx_18 : x_18.toInt = (u7 1 (161 + 25 * x0.toNatClampNeg + 5 * r_13.toNatClampNeg)).toInt := congrArg Int32.toInt ex_18
                have h3_x_18 : x_18.toInt = DD r_13.toNatClampNeg 3 := by rw [eDD]; exact congrArg Int32.toInt (ex_18.trans (congrFun hfv9.1 _))
                refine lv_goto (tgt := 100) hx hb dX8_makeTable_96 (by decide) ?_
                refine lv_istore (lv' := [(5, .int x_18), (4, .int r_13), (6, .int r_10), (0, .ref (ad 0)), (1, .int x0), (2, .int x1), (3, .int x2)]) hx hb dX8_makeTable_100 hl (by decide) rfl (fun ls hl => ?_)
                refine lv_goto (tgt := 137) hx hb dX8_makeTable_102 (by decide) ?_
                refine lv_goto (tgt := 36) hx hb dX8_makeTable_137 (by decide) ?_
                exact ih_7 r_13 x_18 v_10 _ _ (by omega) (by omega) (by omega) (by omega) ((mt_f (s := v 1) (B := (158 + 25 * x0.toNatClampNeg)) (sd := x1) (h := u7 7) (h' := v_10 7) (t := y7_4) (t' := r_13) (f := y7_5) (f' := x_18) (r := r_10) ⟨by omega, by omega⟩ ⟨by omega, by omega⟩ ⟨by omega, by omega⟩ (by omega) ⟨by omega, by omega⟩ he_11 (by rw [hr9.2.1]) (fun i h1 h2 q => hg_14 i (by omega) h2 ((oo i).mp q)) hi7_0).1) (by omega) (MI_up (T := y7_4.toNatClampNeg) (U := r_13.toNatClampNeg) (r := r_10.toInt) (by omega) (by omega) hi7_2 ⟨⟨by omega, by omega⟩, by omega, by omega⟩ (by rw [show ((x2.toNatClampNeg : Nat) : Int) = x2.toInt from by omega]; exact hr9.2.2.1) (by rw [show ((x2.toNatClampNeg : Nat) : Int) = x2.toInt from by omega]; exact hr9.2.2.2) he_11 (by rw [hr9.2.1]) (by omega) (by omega) (by omega) (fun i h1 h2 => hg_14 i (by omega) (by omega)) (fun h => ⟨hq_14 (by omega), by omega⟩)) (by have z1 := (mt_f (s := v 1) (B := (158 + 25 * x0.toNatClampNeg)) (sd := x1) (h := u7 7) (h' := v_10 7) (t := y7_4) (t' := r_13) (f := y7_5) (f' := x_18) (r := r_10) ⟨by omega, by omega⟩ ⟨by omega, by omega⟩ ⟨by omega, by omega⟩ (by omega) ⟨by omega, by omega⟩ he_11 (by rw [hr9.2.1]) (fun i h1 h2 q => hg_14 i (by omega) h2 ((oo i).mp q)) hi7_0).2; omega) hv hfr hP hD hS ls (lv_sub hl [0, 1, 3, 4, 5, 6] rfl)
    exact hc_7 ((mt (dg (v 1) (158 + 25 * x0.toNatClampNeg) x1 (v 7)) r_1.toInt x_6.toInt).toNat + 1) r_1 x_6 v _ _ (by omega) (by omega) (by omega) (by omega) (fun i h1 h2 => absurd ((oo i).mp h2) (hg_2 i (by omega) h1)) (by omega) (MI_0 (T := r_1.toNatClampNeg) (by omega) (by omega) (fun i h => hg_2 i (by omega) (by omega)) (fun h => ⟨hq_2 (by omega), by omega⟩)) (by omega) hv hfr hP hD hS ls (lv_sub hl [0, 1, 2, 3, 4, 5] rfl)
