
set_option maxHeartbeats 4000000 in
set_option maxRecDepth 100000 in
theorem e_X4_leastBehind (l : Launch) (dC : Nat → ClassId) (dI : Nat → Nat → Nat) (cy : Nat → ClassId) (sz : Nat) (ad : Nat → Nat) (kv : Value) (N : Nat) (hN : 119 ≤ N) (v : Nat → Nat → Int32) (hv : Iv v) (x0 : Int32) (hw : ∀ k : Nat, (k : Int) < (v 1 1).toInt → 1 ≤ (v 3 k).toInt ∧ (v 3 k).toInt ≤ 9) (hs : srt (fun k => (v 3 k).toInt) (v 1 1).toNatClampNeg (fun j => (v 5 j).toNatClampNeg)) (h9 : ∀ D : Nat, D < 3 → 0 ≤ (v 9 D).toInt ∧ (v 9 D).toInt ≤ 4) (hx : 0 ≤ x0.toInt) : Met l yX4_leastBehind wsX4_leastBehind ({ frames := 0, cells := 0, slots := 0, locals := 0 }) (va_Pc [.ref (ad 1), .int x0] (ex_Pre dC dI cy sz (wl ad kv cy N v))) (va_Qi (fun (r : Int32) (u : Nat → Nat → Int32) => Iv u ∧ u = v ∧ (0 ≤ r.toInt ∧ r.toInt ≤ 144) ∧ ∃ (day : Nat) (taken : Int), GR (fun j => (v 5 j).toNatClampNeg) (fun k => (v 3 k).toInt) (fun k => (v 4 k).toInt ≠ 0) x0.toNatClampNeg (v 1 2).toInt (fun D => (v 9 D).toInt) (v 1 1).toNatClampNeg r.toInt day taken) (fun u t => ex_Pst dC dI (va_A (wl ad kv cy N v) sz) (wl ad kv cy N u) t) (va_A (wl ad kv cy N v) sz)) 0 0 (va_A (wl ad kv cy N v) sz) := by
  refine Met.ofW (cc := cX4_leastBehind) (maxL := 8) (ret := (some .int)) (by decide) rfl ?_
  intro p e s m args below meth c s₁ B hml hv
  obtain ⟨rfl, hsz, hE, hP, hK, hD0⟩ := hv
  have hx := B.exec
  have hb := B.bytes
  have hr := B.returns
  have hts := atoms_spec (ws := wsX4_leastBehind) B.pre
  have hown : s.vm.findClass RX4 = some m.cls := findClass_of_methodNamed B.named
  have hlocks := B.notSynchronized
  subst hsz
  have hD := hD0.self (sz := s.heap.size)
  generalize hAe : va_A (wl ad kv cy N v) s.heap.size = A at hD ⊢
  have hA : ∀ q : Nat, s.heap.size ≤ q → A q := fun q h => by rw [← hAe]; exact Or.inr h
  have hS : va_S A s.heap s.heap [] := va_S.rf
  have hP : va_P (dC, dI) vwCl (wl ad kv cy N v) s.heap := hP
  have hl := lv_entry ([.ref (ad 1), .int x0]) (n := 8) (Nat.le_of_ble_eq_true rfl)
  rw [lg_entry_eq]
  generalize (lg_sl ([.ref (ad 1), .int x0]) ++ List.replicate (8 - (lg_sl ([.ref (ad 1), .int x0])).length) Slot.unset).toArray = ls at hl ⊢
  have hl : lv_has ls 8 [(0, .ref (ad 1)), (1, .int x0)] := hl
  have zn_x0 : (x0.toNatClampNeg : Int) = x0.toInt := t_nn (by omega)
  obtain ⟨cn, ecn⟩ : ∃ z : Int32, z = v 1 1 := ⟨_, rfl⟩
  obtain ⟨sa, esa⟩ : ∃ z : Int32, z = v 1 2 := ⟨_, rfl⟩
  have hbcn : 0 ≤ cn.toInt ∧ cn.toInt ≤ 4 := by rw [ecn]; exact hv.at (K := 1) (by decide) rfl
  have zn_cn : (cn.toNatClampNeg : Int) = cn.toInt := t_nn (by omega)
  obtain ⟨HS, eHS⟩ : ∃ f : Nat → Nat, f = fun j => (v 5 j).toNatClampNeg := ⟨_, rfl⟩
  obtain ⟨WG, eWG⟩ : ∃ f : Nat → Int, f = fun k => (v 3 k).toInt := ⟨_, rfl⟩
  obtain ⟨PB, ePB⟩ : ∃ f : Nat → Prop, f = fun k => (v 4 k).toInt ≠ 0 := ⟨_, rfl⟩
  obtain ⟨ST, eST⟩ : ∃ f : Nat → Int, f = fun D => (v 9 D).toInt := ⟨_, rfl⟩
  have hb9 : ∀ D : Nat, D < 3 → 0 ≤ ST D ∧ ST D ≤ 4 := fun D hD => by rw [eST]; exact h9 D hD
  have hwW : ∀ k : Nat, (k : Int) < cn.toInt → 1 ≤ WG k ∧ WG k ≤ 9 := fun k hk => by rw [eWG]; exact hw k (by rw [← ecn]; exact hk)
  have hsr : ∀ j : Nat, j < cn.toNatClampNeg → HS j < cn.toNatClampNeg := by rw [eHS, ecn]; exact hs.1.1
  have k_0 : (0 : Int32).toInt = 0 := by decide
  refine lv_iconst (v := 0) hx hb dX4_leastBehind_0 (by decide) ?_
  refine lv_istore_n (lv' := [(2, .int 0), (0, .ref (ad 1)), (1, .int x0)]) hx hb dX4_leastBehind_1 rfl hl (by decide) rfl (fun ls hl => ?_)
  refine lv_iconst (v := 0) hx hb dX4_leastBehind_2 (by decide) ?_
  refine lv_istore_n (lv' := [(3, .int 0), (2, .int 0), (0, .ref (ad 1)), (1, .int x0)]) hx hb dX4_leastBehind_3 rfl hl (by decide) rfl (fun ls hl => ?_)
  refine lv_aload_n hx hb dX4_leastBehind_4 rfl (lv_at hl 2 rfl) ?_
  refine va_get (D := (dC, dI)) (ci := 4) (v := .ref (ad 9)) (C := RX4) (T := TX4) (N := 11) hx hb hts (by decide +kernel) hown hK hP (1) (wl_at (by omega) (ce_1 (by decide))) rfl 10 (by decide) (hts (.fieldLink RX4 33 "QuietStairs$Planner" "sittings" "[I") (by decide +kernel)) (fun _ h9 => h9) rfl dX4_leastBehind_5 ?_
  refine lv_iconst (v := 0) hx hb dX4_leastBehind_8 (by decide) ?_
  refine va_iald hx hb hK hP (9) 0 (wl_at (by omega) (ce_18 (by decide))) rfl (by unfold vp_in; decide) dX4_leastBehind_9 ?_
  refine lv_topi (fun x_1 ex_1 => ?_)
  have ex_1 : x_1 = v (9) 0 := ex_1
  have qx_1 : x_1.toInt = (v (9) (0)).toInt := congrArg Int32.toInt ex_1
  have h0_x_1 : x_1.toInt = ST 0 := by rw [ex_1, eST]
  have h1_x_1 := hb9 0 (by decide)
  refine lv_istore (lv' := [(4, .int x_1), (3, .int 0), (2, .int 0), (0, .ref (ad 1)), (1, .int x0)]) hx hb dX4_leastBehind_10 hl (by decide) rfl (fun ls hl => ?_)
  refine lv_iconst (v := 0) hx hb dX4_leastBehind_12 (by decide) ?_
  refine lv_istore (lv' := [(5, .int 0), (4, .int x_1), (3, .int 0), (2, .int 0), (0, .ref (ad 1)), (1, .int x0)]) hx hb dX4_leastBehind_13 hl (by decide) rfl (fun ls hl => ?_)
  have hc_2 : ∀ (n : Nat) (y2_5 y2_2 y2_3 y2_4 : Int32) (H : Heap) (locs : List Loc), 0 ≤ y2_5.toInt → y2_5.toInt ≤ 4 → 0 ≤ y2_2.toInt → y2_2.toInt ≤ 144 → 0 ≤ y2_3.toInt → y2_3.toInt ≤ 3 → 0 ≤ y2_4.toInt → y2_4.toInt ≤ 8 → (GR HS WG PB x0.toNatClampNeg sa.toInt ST y2_5.toNatClampNeg y2_2.toInt y2_3.toNatClampNeg y2_4.toInt) → (y2_2.toInt ≤ 36 * y2_5.toInt) → (y2_4.toInt ≤ 4 + y2_5.toInt) → (y2_5.toInt ≤ cn.toInt) → (4 - y2_5.toInt).toNat < n → va_P (dC, dI) vwCl (wl ad kv cy N v) H → va_D A (wl ad kv cy N v) → va_S A s.heap H locs → ∀ ls : Array Slot, lv_has ls 8 [(5, .int y2_5), (4, .int y2_4), (3, .int y2_3), (2, .int y2_2), (0, .ref (ad 1)), (1, .int x0)] → W p l e (headSpec wsX4_leastBehind ({ frames := 0, cells := 0, slots := 0, locals := 0 })).room s m [Value.ref (ad 1), Value.int x0].toArray below meth c H locs 0 0 (MQ below (va_Qi (fun (r : Int32) (u : Nat → Nat → Int32) => Iv u ∧ u = v ∧ (0 ≤ r.toInt ∧ r.toInt ≤ 144) ∧ ∃ (day : Nat) (taken : Int), GR (fun j => (v 5 j).toNatClampNeg) (fun k => (v 3 k).toInt) (fun k => (v 4 k).toInt ≠ 0) x0.toNatClampNeg (v 1 2).toInt (fun D => (v 9 D).toInt) (v 1 1).toNatClampNeg r.toInt day taken) (fun u t => ex_Pst dC dI A (wl ad kv cy N u) t) A) [Value.ref (ad 1), Value.int x0].toArray s 0 0 A) (F0 m 15 ls []) := by
    intro n
    induction n with
    | zero =>
      intro y2_5 y2_2 y2_3 y2_4 H locs ay2_5 by2_5 ay2_2 by2_2 ay2_3 by2_3 ay2_4 by2_4 hi2_0 hi2_1 hi2_2 hi2_3 hm_2 hP hD hS ls hl
      exact absurd hm_2 (by omega)
    | succ n ih_2 =>
      intro y2_5 y2_2 y2_3 y2_4 H locs ay2_5 by2_5 ay2_2 by2_2 ay2_3 by2_3 ay2_4 by2_4 hi2_0 hi2_1 hi2_2 hi2_3 hm_2 hP hD hS ls hl
      refine lv_iload hx hb dX4_leastBehind_15 (lv_at hl 0 rfl) ?_
      refine lv_aload_n hx hb dX4_leastBehind_17 rfl (lv_at hl 4 rfl) ?_
      refine va_get (D := (dC, dI)) (ci := 4) (v := .int (v (1) 1)) (C := RX4) (T := TX4) (N := 11) hx hb hts (by decide +kernel) hown hK hP (1) (wl_at (by omega) (ce_1 (by decide))) rfl 1 (by decide) (hts (.fieldLink RX4 61 "QuietStairs$Planner" "count" "I") (by decide +kernel)) (fun _ h9 => h9) rfl dX4_leastBehind_18 ?_
      refine lv_topi (fun x_3 ex_3 => ?_)
      have bzx_3 : 0 ≤ x_3.toInt ∧ x_3.toInt ≤ 4 := by rw [ex_3]; exact hv.at (K := 1) (by decide) rfl
      obtain rfl : cn = x_3 := (ex_3.trans ecn.symm).symm
      refine lv_icmp_ge (tgt := 140) hx hb dX4_leastBehind_21 (by decide) (fun c_4 => ?_) (fun c_4 => ?_)
      · have tc_4 : y2_5.toInt ≥ cn.toInt := Int32.le_iff_toInt_le.mp c_4
        refine lv_iload_n hx hb dX4_leastBehind_140 rfl (lv_at hl 3 rfl) ?_
        have zn_y2_5 : (y2_5.toNatClampNeg : Int) = y2_5.toInt := t_nn (by omega)
        have zn_y2_3 : (y2_3.toNatClampNeg : Int) = y2_3.toInt := t_nn (by omega)
        exact W.iret (v := y2_2) hx hb hr (fun t ht hW => ⟨⟨y2_2, v, rfl, ⟨hv, rfl, ⟨by omega, by omega⟩, ⟨_, _, by rw [← eHS, ← eWG, ← ePB, ← eST, ← esa, ← ecn, show cn.toNatClampNeg = y2_5.toNatClampNeg from by omega]; exact hi2_0⟩⟩, by rw [ht]; exact hP, hD⟩, hS.F ht⟩) hS.2.2 dX4_leastBehind_141
      · have tc_4 : y2_5.toInt < cn.toInt := Int32.lt_iff_toInt_lt.mp (Int32.not_le.mp c_4)
        refine lv_aload_n hx hb dX4_leastBehind_24 rfl (lv_at hl 4 rfl) ?_
        refine va_get (D := (dC, dI)) (ci := 4) (v := .ref (ad 5)) (C := RX4) (T := TX4) (N := 11) hx hb hts (by decide +kernel) hown hK hP (1) (wl_at (by omega) (ce_1 (by decide))) rfl 6 (by decide) (hts (.fieldLink RX4 21 "QuietStairs$Planner" "heaviestFirst" "[I") (by decide +kernel)) (fun _ h9 => h9) rfl dX4_leastBehind_25 ?_
        refine lv_iload hx hb dX4_leastBehind_28 (lv_at hl 0 rfl) ?_
        have zn_y2_5 : (y2_5.toNatClampNeg : Int) = y2_5.toInt := t_nn (by omega)
        have hx_5 : y2_5.toNatClampNeg < 4 := by omega
        refine va_iald hx hb hK hP (5) 0 (wl_at (by omega) (ce_21 (by decide))) rfl (vp_in_iff.mpr ⟨by omega, by omega⟩) dX4_leastBehind_30 ?_
        refine lv_topi (fun x_6 ex_6 => ?_)
        have bzx_6 : 0 ≤ x_6.toInt ∧ x_6.toInt ≤ 3 := by rw [ex_6]; exact hv.at (K := 21) (by decide) rfl
        have qx_6 : x_6.toInt = (v (5) (y2_5.toNatClampNeg)).toInt := congrArg Int32.toInt ex_6
        have zn_x_6 : (x_6.toNatClampNeg : Int) = x_6.toInt := t_nn (by omega)
        have hh9 : x_6.toNatClampNeg = HS y2_5.toNatClampNeg := by rw [eHS, ex_6]
        have hl9 := hsr y2_5.toNatClampNeg (by omega)
        refine lv_istore (lv' := [(6, .int x_6), (5, .int y2_5), (4, .int y2_4), (3, .int y2_3), (2, .int y2_2), (0, .ref (ad 1)), (1, .int x0)]) hx hb dX4_leastBehind_31 hl (by decide) rfl (fun ls hl => ?_)
        refine lv_iload hx hb dX4_leastBehind_33 (lv_at hl 0 rfl) ?_
        refine lv_iload_n hx hb dX4_leastBehind_35 rfl (lv_at hl 6 rfl) ?_
        refine lv_icmp_lt (tgt := 134) hx hb dX4_leastBehind_36 (by decide) (fun c_7 => ?_) (fun c_7 => ?_)
        · have tc_7 : x_6.toInt < x0.toInt := Int32.lt_iff_toInt_lt.mp c_7
          obtain ⟨x_8, ex_8⟩ : ∃ y : Int32, y = y2_5 + 1 := ⟨_, rfl⟩
          refine lv_iinc (v := x_8) (lv' := [(5, .int x_8), (6, .int x_6), (4, .int y2_4), (3, .int y2_3), (2, .int y2_2), (0, .ref (ad 1)), (1, .int x0)]) hx hb dX4_leastBehind_134 hl (k := 1) rfl (by rw [ex_8]; rfl) (by decide) rfl (fun ls hl => ?_)
          have k_1 : (1 : Int32).toInt = 1 := by decide
          have tx_8 : x_8.toInt = y2_5.toInt + (1 : Int32).toInt := by rw [ex_8]; exact t_add ⟨by omega, by omega⟩
          refine lv_goto (tgt := 15) hx hb dX4_leastBehind_137 (by decide) ?_
          have zn_x_8 : (x_8.toNatClampNeg : Int) = x_8.toInt := t_nn (by omega)
          exact ih_2 x_8 y2_2 y2_3 y2_4 _ _ (by omega) (by omega) (by omega) (by omega) (by omega) (by omega) (by omega) (by omega) (GR_no hi2_0 (by omega) (by rw [← hh9]; omega)) (by omega) (by omega) (by omega) (by omega) hP hD hS ls (lv_sub hl [0, 2, 3, 4, 5, 6] rfl)
        · have tc_7 : x_6.toInt ≥ x0.toInt := Int32.le_iff_toInt_le.mp (Int32.not_lt.mp c_7)
          have hc_8 : ∀ (n : Nat) (y8_3 y8_4 : Int32) (H : Heap) (locs : List Loc), 0 ≤ y8_3.toInt → y8_3.toInt ≤ 3 → 0 ≤ y8_4.toInt → y8_4.toInt ≤ 8 → (GR HS WG PB x0.toNatClampNeg sa.toInt ST y2_5.toNatClampNeg y2_2.toInt y8_3.toNatClampNeg y8_4.toInt) → (y8_4.toInt ≤ 4 + y2_5.toInt) → (3 - y8_3.toInt).toNat < n → va_P (dC, dI) vwCl (wl ad kv cy N v) H → va_D A (wl ad kv cy N v) → va_S A s.heap H locs → ∀ ls : Array Slot, lv_has ls 8 [(6, .int x_6), (5, .int y2_5), (4, .int y8_4), (3, .int y8_3), (2, .int y2_2), (0, .ref (ad 1)), (1, .int x0)] → W p l e (headSpec wsX4_leastBehind ({ frames := 0, cells := 0, slots := 0, locals := 0 })).room s m [Value.ref (ad 1), Value.int x0].toArray below meth c H locs 0 0 (MQ below (va_Qi (fun (r : Int32) (u : Nat → Nat → Int32) => Iv u ∧ u = v ∧ (0 ≤ r.toInt ∧ r.toInt ≤ 144) ∧ ∃ (day : Nat) (taken : Int), GR (fun j => (v 5 j).toNatClampNeg) (fun k => (v 3 k).toInt) (fun k => (v 4 k).toInt ≠ 0) x0.toNatClampNeg (v 1 2).toInt (fun D => (v 9 D).toInt) (v 1 1).toNatClampNeg r.toInt day taken) (fun u t => ex_Pst dC dI A (wl ad kv cy N u) t) A) [Value.ref (ad 1), Value.int x0].toArray s 0 0 A) (F0 m 39 ls []) := by
            intro n
            induction n with
            | zero =>
              intro y8_3 y8_4 H locs ay8_3 by8_3 ay8_4 by8_4 hi8_0 hi8_1 hm_8 hP hD hS ls hl
              exact absurd hm_8 (by omega)
            | succ n ih_8 =>
              intro y8_3 y8_4 H locs ay8_3 by8_3 ay8_4 by8_4 hi8_0 hi8_1 hm_8 hP hD hS ls hl
              refine lv_iload_n hx hb dX4_leastBehind_39 rfl (lv_at hl 3 rfl) ?_
              refine lv_iconst (v := 3) hx hb dX4_leastBehind_40 (by decide) ?_
              have k_3 : (3 : Int32).toInt = 3 := by decide
              refine lv_icmp_ge (tgt := 76) hx hb dX4_leastBehind_41 (by decide) (fun c_9 => ?_) (fun c_9 => ?_)
              · have tc_9 : y8_3.toInt ≥ (3 : Int32).toInt := Int32.le_iff_toInt_le.mp c_9
                refine lv_iload_n hx hb dX4_leastBehind_76 rfl (lv_at hl 3 rfl) ?_
                refine lv_iconst (v := 3) hx hb dX4_leastBehind_77 (by decide) ?_
                refine lv_icmp_ge (tgt := 95) hx hb dX4_leastBehind_78 (by decide) (fun c_10 => ?_) (fun c_10 => ?_)
                · have tc_10 : y8_3.toInt ≥ (3 : Int32).toInt := Int32.le_iff_toInt_le.mp c_10
                  refine lv_iconst (v := 0) hx hb dX4_leastBehind_95 (by decide) ?_
                  refine lv_istore (lv' := [(7, .int 0), (6, .int x_6), (5, .int y2_5), (4, .int y8_4), (3, .int y8_3), (2, .int y2_2), (0, .ref (ad 1)), (1, .int x0)]) hx hb dX4_leastBehind_96 hl (by decide) rfl (fun ls hl => ?_)
                  refine lv_iload_n hx hb dX4_leastBehind_98 rfl (lv_at hl 5 rfl) ?_
                  refine lv_aload_n hx hb dX4_leastBehind_99 rfl (lv_at hl 6 rfl) ?_
                  refine va_get (D := (dC, dI)) (ci := 4) (v := .ref (ad 3)) (C := RX4) (T := TX4) (N := 11) hx hb hts (by decide +kernel) hown hK hP (1) (wl_at (by omega) (ce_1 (by decide))) rfl 4 (by decide) (hts (.fieldLink RX4 15 "QuietStairs$Planner" "weights" "[I") (by decide +kernel)) (fun _ h9 => h9) rfl dX4_leastBehind_100 ?_
                  refine lv_iload hx hb dX4_leastBehind_103 (lv_at hl 1 rfl) ?_
                  have hx_11 : x_6.toNatClampNeg < 4 := by omega
                  refine va_iald hx hb hK hP (3) 0 (wl_at (by omega) (ce_17 (by decide))) rfl (vp_in_iff.mpr ⟨by omega, by omega⟩) dX4_leastBehind_105 ?_
                  refine lv_topi (fun x_12 ex_12 => ?_)
                  have qx_12 : x_12.toInt = (v (3) (x_6.toNatClampNeg)).toInt := congrArg Int32.toInt ex_12
                  have hw9 : x_12.toInt = WG x_6.toNatClampNeg := by rw [ex_12, eWG]
                  have hwb := hwW x_6.toNatClampNeg (by omega)
                  refine lv_iload hx hb dX4_leastBehind_106 (lv_at hl 0 rfl) ?_
                  refine lv_if_eq (tgt := 115) hx hb dX4_leastBehind_108 (by decide) (fun _ => ?_) (fun c9 => absurd c9 (by decide))
                  refine lv_iconst (v := 4) hx hb dX4_leastBehind_115 (by decide) ?_
                  refine lv_imul hx hb dX4_leastBehind_116 ?_
                  refine lv_topi (fun x_13 ex_13 => ?_)
                  have k_4 : (4 : Int32).toInt = 4 := by decide
                  have tx_13 : x_13.toInt = 4 * x_12.toInt := by rw [ex_13, t_mul (by rw [k_4]; omega), k_4]; omega
                  refine lv_iadd hx hb dX4_leastBehind_117 ?_
                  refine lv_topi (fun x_14 ex_14 => ?_)
                  have tx_14 : x_14.toInt = y2_2.toInt + x_13.toInt := by rw [ex_14]; exact t_add ⟨by omega, by omega⟩
                  refine lv_istore_n (lv' := [(2, .int x_14), (7, .int 0), (6, .int x_6), (5, .int y2_5), (4, .int y8_4), (3, .int y8_3), (0, .ref (ad 1)), (1, .int x0)]) hx hb dX4_leastBehind_118 rfl hl (by decide) rfl (fun ls hl => ?_)
                  refine lv_iload hx hb dX4_leastBehind_119 (lv_at hl 4 rfl) ?_
                  refine lv_iload hx hb dX4_leastBehind_121 (lv_at hl 1 rfl) ?_
                  refine lv_if_eq (tgt := 130) hx hb dX4_leastBehind_123 (by decide) (fun _ => ?_) (fun c9 => absurd c9 (by decide))
                  refine lv_iconst (v := 0) hx hb dX4_leastBehind_130 (by decide) ?_
                  refine lv_iadd hx hb dX4_leastBehind_131 ?_
                  refine lv_topi (fun x_15 ex_15 => ?_)
                  have tx_15 : x_15.toInt = y8_4.toInt + (0 : Int32).toInt := by rw [ex_15]; exact t_add ⟨by omega, by omega⟩
                  refine lv_istore (lv' := [(4, .int x_15), (2, .int x_14), (7, .int 0), (6, .int x_6), (5, .int y2_5), (3, .int y8_3), (0, .ref (ad 1)), (1, .int x0)]) hx hb dX4_leastBehind_132 hl (by decide) rfl (fun ls hl => ?_)
                  obtain ⟨x_16, ex_16⟩ : ∃ y : Int32, y = y2_5 + 1 := ⟨_, rfl⟩
                  refine lv_iinc (v := x_16) (lv' := [(5, .int x_16), (4, .int x_15), (2, .int x_14), (7, .int 0), (6, .int x_6), (3, .int y8_3), (0, .ref (ad 1)), (1, .int x0)]) hx hb dX4_leastBehind_134 hl (k := 4) rfl (by rw [ex_16]; rfl) (by decide) rfl (fun ls hl => ?_)
                  have k_1 : (1 : Int32).toInt = 1 := by decide
                  have tx_16 : x_16.toInt = y2_5.toInt + (1 : Int32).toInt := by rw [ex_16]; exact t_add ⟨by omega, by omega⟩
                  refine lv_goto (tgt := 15) hx hb dX4_leastBehind_137 (by decide) ?_
                  have zn_x_16 : (x_16.toNatClampNeg : Int) = x_16.toInt := t_nn (by omega)
                  have zn_y8_3 : (y8_3.toNatClampNeg : Int) = y8_3.toInt := t_nn (by omega)
                  exact ih_2 x_16 x_14 y8_3 x_15 _ _ (by omega) (by omega) (by omega) (by omega) (by omega) (by omega) (by omega) (by omega) (GR_n hi8_0 (by omega) (by rw [← hh9]; omega) (Or.inl (by omega)) (by rw [← hh9, ← hw9]; omega) (by omega)) (by omega) (by omega) (by omega) (by omega) hP hD hS ls (lv_sub hl [0, 1, 5, 2, 6, 7] rfl)
                · have tc_10 : y8_3.toInt < (3 : Int32).toInt := Int32.lt_iff_toInt_lt.mp (Int32.not_le.mp c_10)
                  exfalso
                  omega
              · have tc_9 : y8_3.toInt < (3 : Int32).toInt := Int32.lt_iff_toInt_lt.mp (Int32.not_le.mp c_9)
                refine lv_iload hx hb dX4_leastBehind_44 (lv_at hl 2 rfl) ?_
                refine lv_aload_n hx hb dX4_leastBehind_46 rfl (lv_at hl 5 rfl) ?_
                refine va_get (D := (dC, dI)) (ci := 4) (v := .int (v (1) 2)) (C := RX4) (T := TX4) (N := 11) hx hb hts (by decide +kernel) hown hK hP (1) (wl_at (by omega) (ce_1 (by decide))) rfl 2 (by decide) (hts (.fieldLink RX4 48 "QuietStairs$Planner" "seatsADay" "I") (by decide +kernel)) (fun _ h9 => h9) rfl dX4_leastBehind_47 ?_
                refine lv_topi (fun x_10 ex_10 => ?_)
                obtain rfl : sa = x_10 := (ex_10.trans esa.symm).symm
                refine lv_icmp_lt (tgt := 76) hx hb dX4_leastBehind_50 (by decide) (fun c_11 => ?_) (fun c_11 => ?_)
                · have tc_11 : y8_4.toInt < sa.toInt := Int32.lt_iff_toInt_lt.mp c_11
                  refine lv_iload_n hx hb dX4_leastBehind_76 rfl (lv_at hl 3 rfl) ?_
                  refine lv_iconst (v := 3) hx hb dX4_leastBehind_77 (by decide) ?_
                  refine lv_icmp_ge (tgt := 95) hx hb dX4_leastBehind_78 (by decide) (fun c_12 => ?_) (fun c_12 => ?_)
                  · have tc_12 : y8_3.toInt ≥ (3 : Int32).toInt := Int32.le_iff_toInt_le.mp c_12
                    exfalso
                    omega
                  · have tc_12 : y8_3.toInt < (3 : Int32).toInt := Int32.lt_iff_toInt_lt.mp (Int32.not_le.mp c_12)
                    refine lv_aload_n hx hb dX4_leastBehind_81 rfl (lv_at hl 5 rfl) ?_
                    refine va_get (D := (dC, dI)) (ci := 4) (v := .ref (ad 4)) (C := RX4) (T := TX4) (N := 11) hx hb hts (by decide +kernel) hown hK hP (1) (wl_at (by omega) (ce_1 (by decide))) rfl 5 (by decide) (hts (.fieldLink RX4 18 "QuietStairs$Planner" "pairBits" "[I") (by decide +kernel)) (fun _ h9 => h9) rfl dX4_leastBehind_82 ?_
                    refine lv_iload hx hb dX4_leastBehind_85 (lv_at hl 0 rfl) ?_
                    have hx_13 : x_6.toNatClampNeg < 4 := by omega
                    refine va_iald hx hb hK hP (4) 0 (wl_at (by omega) (ce_17 (by decide))) rfl (vp_in_iff.mpr ⟨by omega, by omega⟩) dX4_leastBehind_87 ?_
                    refine lv_topi (fun x_14 ex_14 => ?_)
                    have qx_14 : x_14.toInt = (v (4) (x_6.toNatClampNeg)).toInt := congrArg Int32.toInt ex_14
                    have hp9 : PB x_6.toNatClampNeg ↔ x_14.toInt ≠ 0 := by rw [ePB, ex_14]
                    refine lv_if_eq (tgt := 95) hx hb dX4_leastBehind_88 (by decide) (fun c_15 => ?_) (fun c_15 => ?_)
                    · have tc_15 : x_14.toInt = (0 : Int32).toInt := by rw [c_15]
                      refine lv_iconst (v := 0) hx hb dX4_leastBehind_95 (by decide) ?_
                      refine lv_istore (lv' := [(7, .int 0), (6, .int x_6), (5, .int y2_5), (4, .int y8_4), (3, .int y8_3), (2, .int y2_2), (0, .ref (ad 1)), (1, .int x0)]) hx hb dX4_leastBehind_96 hl (by decide) rfl (fun ls hl => ?_)
                      refine lv_iload_n hx hb dX4_leastBehind_98 rfl (lv_at hl 5 rfl) ?_
                      refine lv_aload_n hx hb dX4_leastBehind_99 rfl (lv_at hl 6 rfl) ?_
                      refine va_get (D := (dC, dI)) (ci := 4) (v := .ref (ad 3)) (C := RX4) (T := TX4) (N := 11) hx hb hts (by decide +kernel) hown hK hP (1) (wl_at (by omega) (ce_1 (by decide))) rfl 4 (by decide) (hts (.fieldLink RX4 15 "QuietStairs$Planner" "weights" "[I") (by decide +kernel)) (fun _ h9 => h9) rfl dX4_leastBehind_100 ?_
                      refine lv_iload hx hb dX4_leastBehind_103 (lv_at hl 1 rfl) ?_
                      refine va_iald hx hb hK hP (3) 0 (wl_at (by omega) (ce_17 (by decide))) rfl (vp_in_iff.mpr ⟨by omega, by omega⟩) dX4_leastBehind_105 ?_
                      refine lv_topi (fun x_16 ex_16 => ?_)
                      have qx_16 : x_16.toInt = (v (3) (x_6.toNatClampNeg)).toInt := congrArg Int32.toInt ex_16
                      have hw9 : x_16.toInt = WG x_6.toNatClampNeg := by rw [ex_16, eWG]
                      have hwb := hwW x_6.toNatClampNeg (by omega)
                      refine lv_iload hx hb dX4_leastBehind_106 (lv_at hl 0 rfl) ?_
                      refine lv_if_eq (tgt := 115) hx hb dX4_leastBehind_108 (by decide) (fun _ => ?_) (fun c9 => absurd c9 (by decide))
                      refine lv_iconst (v := 4) hx hb dX4_leastBehind_115 (by decide) ?_
                      refine lv_imul hx hb dX4_leastBehind_116 ?_
                      refine lv_topi (fun x_17 ex_17 => ?_)
                      have k_4 : (4 : Int32).toInt = 4 := by decide
                      have tx_17 : x_17.toInt = 4 * x_16.toInt := by rw [ex_17, t_mul (by rw [k_4]; omega), k_4]; omega
                      refine lv_iadd hx hb dX4_leastBehind_117 ?_
                      refine lv_topi (fun x_18 ex_18 => ?_)
                      have tx_18 : x_18.toInt = y2_2.toInt + x_17.toInt := by rw [ex_18]; exact t_add ⟨by omega, by omega⟩
                      refine lv_istore_n (lv' := [(2, .int x_18), (7, .int 0), (6, .int x_6), (5, .int y2_5), (4, .int y8_4), (3, .int y8_3), (0, .ref (ad 1)), (1, .int x0)]) hx hb dX4_leastBehind_118 rfl hl (by decide) rfl (fun ls hl => ?_)
                      refine lv_iload hx hb dX4_leastBehind_119 (lv_at hl 4 rfl) ?_
                      refine lv_iload hx hb dX4_leastBehind_121 (lv_at hl 1 rfl) ?_
                      refine lv_if_eq (tgt := 130) hx hb dX4_leastBehind_123 (by decide) (fun _ => ?_) (fun c9 => absurd c9 (by decide))
                      refine lv_iconst (v := 0) hx hb dX4_leastBehind_130 (by decide) ?_
                      refine lv_iadd hx hb dX4_leastBehind_131 ?_
                      refine lv_topi (fun x_19 ex_19 => ?_)
                      have tx_19 : x_19.toInt = y8_4.toInt + (0 : Int32).toInt := by rw [ex_19]; exact t_add ⟨by omega, by omega⟩
                      refine lv_istore (lv' := [(4, .int x_19), (2, .int x_18), (7, .int 0), (6, .int x_6), (5, .int y2_5), (3, .int y8_3), (0, .ref (ad 1)), (1, .int x0)]) hx hb dX4_leastBehind_132 hl (by decide) rfl (fun ls hl => ?_)
                      obtain ⟨x_20, ex_20⟩ : ∃ y : Int32, y = y2_5 + 1 := ⟨_, rfl⟩
                      refine lv_iinc (v := x_20) (lv' := [(5, .int x_20), (4, .int x_19), (2, .int x_18), (7, .int 0), (6, .int x_6), (3, .int y8_3), (0, .ref (ad 1)), (1, .int x0)]) hx hb dX4_leastBehind_134 hl (k := 4) rfl (by rw [ex_20]; rfl) (by decide) rfl (fun ls hl => ?_)
                      have k_1 : (1 : Int32).toInt = 1 := by decide
                      have tx_20 : x_20.toInt = y2_5.toInt + (1 : Int32).toInt := by rw [ex_20]; exact t_add ⟨by omega, by omega⟩
                      refine lv_goto (tgt := 15) hx hb dX4_leastBehind_137 (by decide) ?_
                      have zn_x_20 : (x_20.toNatClampNeg : Int) = x_20.toInt := t_nn (by omega)
                      have zn_y8_3 : (y8_3.toNatClampNeg : Int) = y8_3.toInt := t_nn (by omega)
                      exact ih_2 x_20 x_18 y8_3 x_19 _ _ (by omega) (by omega) (by omega) (by omega) (by omega) (by omega) (by omega) (by omega) (GR_n hi8_0 (by omega) (by rw [← hh9]; omega) (Or.inr ⟨by rw [← hh9]; exact fun q => absurd (hp9.mp q) (by omega), by omega⟩) (by rw [← hh9, ← hw9]; omega) (by omega)) (by omega) (by omega) (by omega) (by omega) hP hD hS ls (lv_sub hl [0, 1, 5, 2, 6, 7] rfl)
                    · have tc_15 : x_14.toInt ≠ (0 : Int32).toInt := fun q => absurd (Int32.toInt_inj.mp q) c_15
                      refine lv_iconst (v := 1) hx hb dX4_leastBehind_91 (by decide) ?_
                      refine lv_goto (tgt := 96) hx hb dX4_leastBehind_92 (by decide) ?_
                      refine lv_istore (lv' := [(7, .int 1), (6, .int x_6), (5, .int y2_5), (4, .int y8_4), (3, .int y8_3), (2, .int y2_2), (0, .ref (ad 1)), (1, .int x0)]) hx hb dX4_leastBehind_96 hl (by decide) rfl (fun ls hl => ?_)
                      refine lv_iload_n hx hb dX4_leastBehind_98 rfl (lv_at hl 5 rfl) ?_
                      refine lv_aload_n hx hb dX4_leastBehind_99 rfl (lv_at hl 6 rfl) ?_
                      refine va_get (D := (dC, dI)) (ci := 4) (v := .ref (ad 3)) (C := RX4) (T := TX4) (N := 11) hx hb hts (by decide +kernel) hown hK hP (1) (wl_at (by omega) (ce_1 (by decide))) rfl 4 (by decide) (hts (.fieldLink RX4 15 "QuietStairs$Planner" "weights" "[I") (by decide +kernel)) (fun _ h9 => h9) rfl dX4_leastBehind_100 ?_
                      refine lv_iload hx hb dX4_leastBehind_103 (lv_at hl 1 rfl) ?_
                      refine va_iald hx hb hK hP (3) 0 (wl_at (by omega) (ce_17 (by decide))) rfl (vp_in_iff.mpr ⟨by omega, by omega⟩) dX4_leastBehind_105 ?_
                      refine lv_topi (fun x_16 ex_16 => ?_)
                      have qx_16 : x_16.toInt = (v (3) (x_6.toNatClampNeg)).toInt := congrArg Int32.toInt ex_16
                      have hw9 : x_16.toInt = WG x_6.toNatClampNeg := by rw [ex_16, eWG]
                      have hwb := hwW x_6.toNatClampNeg (by omega)
                      refine lv_iload hx hb dX4_leastBehind_106 (lv_at hl 0 rfl) ?_
                      refine lv_if_eq (tgt := 115) hx hb dX4_leastBehind_108 (by decide) (fun c9 => absurd c9 (by decide)) (fun _ => ?_)
                      refine lv_iload_n hx hb dX4_leastBehind_111 rfl (lv_at hl 4 rfl) ?_
                      refine lv_goto (tgt := 116) hx hb dX4_leastBehind_112 (by decide) ?_
                      refine lv_imul hx hb dX4_leastBehind_116 ?_
                      refine lv_topi (fun x_17 ex_17 => ?_)
                      have m0x_17 : 0 ≤ x_16.toInt * y8_3.toInt := Int.mul_nonneg (by omega) (by omega)
                      have m1x_17 : x_16.toInt * y8_3.toInt ≤ 9 * 2 := Int.mul_le_mul (by omega) (by omega) (by omega) (by decide)
                      have tx_17 : x_17.toInt = x_16.toInt * y8_3.toInt := by rw [ex_17]; exact t_mul ⟨by omega, by omega⟩
                      refine lv_iadd hx hb dX4_leastBehind_117 ?_
                      refine lv_topi (fun x_18 ex_18 => ?_)
                      have tx_18 : x_18.toInt = y2_2.toInt + x_17.toInt := by rw [ex_18]; exact t_add ⟨by omega, by omega⟩
                      refine lv_istore_n (lv' := [(2, .int x_18), (7, .int 1), (6, .int x_6), (5, .int y2_5), (4, .int y8_4), (3, .int y8_3), (0, .ref (ad 1)), (1, .int x0)]) hx hb dX4_leastBehind_118 rfl hl (by decide) rfl (fun ls hl => ?_)
                      refine lv_iload hx hb dX4_leastBehind_119 (lv_at hl 4 rfl) ?_
                      refine lv_iload hx hb dX4_leastBehind_121 (lv_at hl 1 rfl) ?_
                      refine lv_if_eq (tgt := 130) hx hb dX4_leastBehind_123 (by decide) (fun c9 => absurd c9 (by decide)) (fun _ => ?_)
                      refine lv_iconst (v := 1) hx hb dX4_leastBehind_126 (by decide) ?_
                      refine lv_goto (tgt := 131) hx hb dX4_leastBehind_127 (by decide) ?_
                      refine lv_iadd hx hb dX4_leastBehind_131 ?_
                      refine lv_topi (fun x_19 ex_19 => ?_)
                      have k_1 : (1 : Int32).toInt = 1 := by decide
                      have tx_19 : x_19.toInt = y8_4.toInt + (1 : Int32).toInt := by rw [ex_19]; exact t_add ⟨by omega, by omega⟩
                      refine lv_istore (lv' := [(4, .int x_19), (2, .int x_18), (7, .int 1), (6, .int x_6), (5, .int y2_5), (3, .int y8_3), (0, .ref (ad 1)), (1, .int x0)]) hx hb dX4_leastBehind_132 hl (by decide) rfl (fun ls hl => ?_)
                      obtain ⟨x_20, ex_20⟩ : ∃ y : Int32, y = y2_5 + 1 := ⟨_, rfl⟩
                      refine lv_iinc (v := x_20) (lv' := [(5, .int x_20), (4, .int x_19), (2, .int x_18), (7, .int 1), (6, .int x_6), (3, .int y8_3), (0, .ref (ad 1)), (1, .int x0)]) hx hb dX4_leastBehind_134 hl (k := 4) rfl (by rw [ex_20]; rfl) (by decide) rfl (fun ls hl => ?_)
                      have tx_20 : x_20.toInt = y2_5.toInt + (1 : Int32).toInt := by rw [ex_20]; exact t_add ⟨by omega, by omega⟩
                      refine lv_goto (tgt := 15) hx hb dX4_leastBehind_137 (by decide) ?_
                      have zn_x_20 : (x_20.toNatClampNeg : Int) = x_20.toInt := t_nn (by omega)
                      have zn_y8_3 : (y8_3.toNatClampNeg : Int) = y8_3.toInt := t_nn (by omega)
                      exact ih_2 x_20 x_18 y8_3 x_19 _ _ (by omega) (by omega) (by omega) (by omega) (by omega) (by omega) (by omega) (by omega) (GR_y hi8_0 (by omega) (by rw [← hh9]; omega) (by omega) (by omega) (by rw [← hh9]; exact hp9.mpr (by omega)) (by rw [← hh9, ← hw9, show ((y8_3.toNatClampNeg : Nat) : Int) = y8_3.toInt from by omega]; omega) (by omega)) (by omega) (by omega) (by omega) (by omega) hP hD hS ls (lv_sub hl [0, 1, 5, 2, 6, 7] rfl)
                · have tc_11 : y8_4.toInt ≥ sa.toInt := Int32.le_iff_toInt_le.mp (Int32.not_lt.mp c_11)
                  obtain ⟨x_12, ex_12⟩ : ∃ y : Int32, y = y8_3 + 1 := ⟨_, rfl⟩
                  refine lv_iinc (v := x_12) (lv' := [(3, .int x_12), (6, .int x_6), (5, .int y2_5), (4, .int y8_4), (2, .int y2_2), (0, .ref (ad 1)), (1, .int x0)]) hx hb dX4_leastBehind_53 hl (k := 3) rfl (by rw [ex_12]; rfl) (by decide) rfl (fun ls hl => ?_)
                  have k_1 : (1 : Int32).toInt = 1 := by decide
                  have tx_12 : x_12.toInt = y8_3.toInt + (1 : Int32).toInt := by rw [ex_12]; exact t_add ⟨by omega, by omega⟩
                  refine lv_iload_n hx hb dX4_leastBehind_56 rfl (lv_at hl 0 rfl) ?_
                  refine lv_iconst (v := 3) hx hb dX4_leastBehind_57 (by decide) ?_
                  refine lv_icmp_ge (tgt := 70) hx hb dX4_leastBehind_58 (by decide) (fun c_13 => ?_) (fun c_13 => ?_)
                  · have tc_13 : x_12.toInt ≥ (3 : Int32).toInt := Int32.le_iff_toInt_le.mp c_13
                    refine lv_iconst (v := 0) hx hb dX4_leastBehind_70 (by decide) ?_
                    refine lv_istore (lv' := [(4, .int 0), (3, .int x_12), (6, .int x_6), (5, .int y2_5), (2, .int y2_2), (0, .ref (ad 1)), (1, .int x0)]) hx hb dX4_leastBehind_71 hl (by decide) rfl (fun ls hl => ?_)
                    refine lv_goto (tgt := 39) hx hb dX4_leastBehind_73 (by decide) ?_
                    have zn_y8_3 : (y8_3.toNatClampNeg : Int) = y8_3.toInt := t_nn (by omega)
                    have zn_x_12 : (x_12.toNatClampNeg : Int) = x_12.toInt := t_nn (by omega)
                    exact ih_8 x_12 0 _ _ (by omega) (by omega) (by omega) (by omega) (GR_d hi8_0 (by omega) (by omega) (by omega) (fun q => absurd q (by omega))) (by omega) (by omega) hP hD hS ls (lv_sub hl [2, 3, 0, 1, 4, 5, 6] rfl)
                  · have tc_13 : x_12.toInt < (3 : Int32).toInt := Int32.lt_iff_toInt_lt.mp (Int32.not_le.mp c_13)
                    refine lv_aload_n hx hb dX4_leastBehind_61 rfl (lv_at hl 5 rfl) ?_
                    refine va_get (D := (dC, dI)) (ci := 4) (v := .ref (ad 9)) (C := RX4) (T := TX4) (N := 11) hx hb hts (by decide +kernel) hown hK hP (1) (wl_at (by omega) (ce_1 (by decide))) rfl 10 (by decide) (hts (.fieldLink RX4 33 "QuietStairs$Planner" "sittings" "[I") (by decide +kernel)) (fun _ h9 => h9) rfl dX4_leastBehind_62 ?_
                    refine lv_iload_n hx hb dX4_leastBehind_65 rfl (lv_at hl 0 rfl) ?_
                    have zn_x_12 : (x_12.toNatClampNeg : Int) = x_12.toInt := t_nn (by omega)
                    have hx_14 : x_12.toNatClampNeg < 3 := by omega
                    refine va_iald hx hb hK hP (9) 0 (wl_at (by omega) (ce_18 (by decide))) rfl (vp_in_iff.mpr ⟨by omega, by omega⟩) dX4_leastBehind_66 ?_
                    refine lv_topi (fun x_15 ex_15 => ?_)
                    have qx_15 : x_15.toInt = (v (9) (x_12.toNatClampNeg)).toInt := congrArg Int32.toInt ex_15
                    have hs_x_15 : x_15.toInt = ST x_12.toNatClampNeg := by rw [ex_15, eST]
                    have hs2_x_15 := hb9 x_12.toNatClampNeg (by omega)
                    refine lv_goto (tgt := 71) hx hb dX4_leastBehind_67 (by decide) ?_
                    refine lv_istore (lv' := [(4, .int x_15), (3, .int x_12), (6, .int x_6), (5, .int y2_5), (2, .int y2_2), (0, .ref (ad 1)), (1, .int x0)]) hx hb dX4_leastBehind_71 hl (by decide) rfl (fun ls hl => ?_)
                    refine lv_goto (tgt := 39) hx hb dX4_leastBehind_73 (by decide) ?_
                    have zn_y8_3 : (y8_3.toNatClampNeg : Int) = y8_3.toInt := t_nn (by omega)
                    exact ih_8 x_12 x_15 _ _ (by omega) (by omega) (by omega) (by omega) (GR_d hi8_0 (by omega) (by omega) (by omega) (fun q => by rw [← hs_x_15])) (by omega) (by omega) hP hD hS ls (lv_sub hl [2, 3, 0, 1, 4, 5, 6] rfl)
          exact hc_8 ((3 - y2_3.toInt).toNat + 1) y2_3 y2_4 _ _ (by omega) (by omega) (by omega) (by omega) (hi2_0) (by omega) (by omega) hP hD hS ls (lv_sub hl [0, 1, 2, 3, 4, 5, 6] rfl)
  exact hc_2 ((4 - (0 : Int32).toInt).toNat + 1) 0 0 0 x_1 _ _ (by omega) (by omega) (by omega) (by omega) (by omega) (by omega) (by omega) (by omega) (GR_0 (by decide) (by decide) (by decide) (by omega)) (by omega) (by omega) (by omega) (by omega) hP hD hS ls (lv_sub hl [0, 1, 2, 3, 4, 5] rfl)
