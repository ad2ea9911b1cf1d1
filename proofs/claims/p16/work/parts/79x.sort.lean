
set_option maxHeartbeats 4000000 in
set_option maxRecDepth 100000 in
theorem e_X4_sortByWeight (l : Launch) (dC : Nat → ClassId) (dI : Nat → Nat → Nat) (cy : Nat → ClassId) (sz : Nat) (ad : Nat → Nat) (kv : Value) (N : Nat) (hN : 119 ≤ N) (v : Nat → Nat → Int32) (hv : Iv v)  : Met l yX4_sortByWeight wsX4_sortByWeight ({ frames := 0, cells := 0, slots := 0, locals := 0 }) (va_Pc [.ref (ad 1)] (ex_Pre dC dI cy sz (wl ad kv cy N v))) (va_Qv (fun (u : Nat → Nat → Int32) => Iv u ∧ (∀ k : Nat, k ≠ 5 → u k = v k) ∧ srt (fun k => (v 3 k).toInt) (v 1 1).toNatClampNeg (fun j => (u 5 j).toNatClampNeg)) (fun u t => ex_Pst dC dI (va_A (wl ad kv cy N v) sz) (wl ad kv cy N u) t) (va_A (wl ad kv cy N v) sz)) 0 0 (va_A (wl ad kv cy N v) sz) := by
  refine Met.ofW (cc := cX4_sortByWeight) (maxL := 3) (ret := none) (by decide) rfl ?_
  intro p e s m args below meth c s₁ B hml hv
  obtain ⟨rfl, hsz, hE, hP, hK, hD0⟩ := hv
  have hx := B.exec
  have hb := B.bytes
  have hr := B.returns
  have hts := atoms_spec (ws := wsX4_sortByWeight) B.pre
  have hown : s.vm.findClass RX4 = some m.cls := findClass_of_methodNamed B.named
  have hlocks := B.notSynchronized
  subst hsz
  have hD := hD0.self (sz := s.heap.size)
  generalize hAe : va_A (wl ad kv cy N v) s.heap.size = A at hD ⊢
  have hA : ∀ q : Nat, s.heap.size ≤ q → A q := fun q h => by rw [← hAe]; exact Or.inr h
  have hS : va_S A s.heap s.heap [] := va_S.rf
  have hP : va_P (dC, dI) vwCl (wl ad kv cy N v) s.heap := hP
  have hl := lv_entry ([.ref (ad 1)]) (n := 3) (Nat.le_of_ble_eq_true rfl)
  rw [lg_entry_eq]
  generalize (lg_sl ([.ref (ad 1)]) ++ List.replicate (3 - (lg_sl ([.ref (ad 1)])).length) Slot.unset).toArray = ls at hl ⊢
  have hl : lv_has ls 3 [(0, .ref (ad 1))] := hl
  obtain ⟨WG, eWG⟩ : ∃ f : Nat → Int, f = fun k => (v 3 k).toInt := ⟨_, rfl⟩
  obtain ⟨cn, ecn⟩ : ∃ z : Int32, z = v 1 1 := ⟨_, rfl⟩
  have hbcn : 0 ≤ cn.toInt ∧ cn.toInt ≤ 4 := by rw [ecn]; exact hv.at (K := 1) (by decide) rfl
  have zn_cn : (cn.toNatClampNeg : Int) = cn.toInt := t_nn (by omega)
  have k_0 : (0 : Int32).toInt = 0 := by decide
  refine lv_iconst (v := 0) hx hb dX4_sortByWeight_0 (by decide) ?_
  refine lv_istore_n (lv' := [(1, .int 0), (0, .ref (ad 1))]) hx hb dX4_sortByWeight_1 rfl hl (by decide) rfl (fun ls hl => ?_)
  have hc_1 : ∀ (n : Nat) (y1_1 : Int32) (u1 : Nat → Nat → Int32) (H : Heap) (locs : List Loc), 0 ≤ y1_1.toInt → y1_1.toInt ≤ 4 → (∀ k : Nat, k ≠ 5 → u1 k = v k) → (srt WG y1_1.toNatClampNeg (fun j => (u1 5 j).toNatClampNeg)) → (y1_1.toInt ≤ cn.toInt) → (4 - y1_1.toInt).toNat < n → Iv u1 → va_P (dC, dI) vwCl (wl ad kv cy N u1) H → va_D A (wl ad kv cy N u1) → va_S A s.heap H locs → ∀ ls : Array Slot, lv_has ls 3 [(1, .int y1_1), (0, .ref (ad 1))] → W p l e (headSpec wsX4_sortByWeight ({ frames := 0, cells := 0, slots := 0, locals := 0 })).room s m [Value.ref (ad 1)].toArray below meth c H locs 0 0 (MQ below (va_Qv (fun (u : Nat → Nat → Int32) => Iv u ∧ (∀ k : Nat, k ≠ 5 → u k = v k) ∧ srt (fun k => (v 3 k).toInt) (v 1 1).toNatClampNeg (fun j => (u 5 j).toNatClampNeg)) (fun u t => ex_Pst dC dI A (wl ad kv cy N u) t) A) [Value.ref (ad 1)].toArray s 0 0 A) (F0 m 2 ls []) := by
    intro n
    induction n with
    | zero =>
      intro y1_1 u1 H locs ay1_1 by1_1 hi1_0 hi1_1 hi1_2 hm_1 hv hP hD hS ls hl
      exact absurd hm_1 (by omega)
    | succ n ih_1 =>
      intro y1_1 u1 H locs ay1_1 by1_1 hi1_0 hi1_1 hi1_2 hm_1 hv hP hD hS ls hl
      refine lv_iload_n hx hb dX4_sortByWeight_2 rfl (lv_at hl 0 rfl) ?_
      refine lv_aload_n hx hb dX4_sortByWeight_3 rfl (lv_at hl 1 rfl) ?_
      refine va_get (D := (dC, dI)) (ci := 4) (v := .int (u1 (1) 1)) (C := RX4) (T := TX4) (N := 11) hx hb hts (by decide +kernel) hown hK hP (1) (wl_at (by omega) (ce_1 (by decide))) rfl 1 (by decide) (hts (.fieldLink RX4 61 "QuietStairs$Planner" "count" "I") (by decide +kernel)) (fun _ h9 => h9) rfl dX4_sortByWeight_4 ?_
      refine lv_topi (fun x_2 ex_2 => ?_)
      have bzx_2 : 0 ≤ x_2.toInt ∧ x_2.toInt ≤ 4 := by rw [ex_2]; exact hv.at (K := 1) (by decide) rfl
      have qx_2 : x_2.toInt = (u1 (1) (1)).toInt := congrArg Int32.toInt ex_2
      have hcn_x_2 : x_2.toInt = cn.toInt := by rw [ex_2, hi1_0 1 (by decide), ecn]
      refine lv_icmp_ge (tgt := 71) hx hb dX4_sortByWeight_7 (by decide) (fun c_3 => ?_) (fun c_3 => ?_)
      · have tc_3 : y1_1.toInt ≥ x_2.toInt := Int32.le_iff_toInt_le.mp c_3
        exact W.vret hx hb hr (fun t ht hW => ⟨⟨u1, rfl, ⟨hv, hi1_0, by rw [← eWG, ← ecn, show cn.toNatClampNeg = y1_1.toNatClampNeg from by have z9 := t_nn (x := y1_1) (by omega); omega]; exact hi1_1⟩, by rw [ht]; exact hP, hD⟩, hS.F ht⟩) hS.2.2 dX4_sortByWeight_71
      · have tc_3 : y1_1.toInt < x_2.toInt := Int32.lt_iff_toInt_lt.mp (Int32.not_le.mp c_3)
        refine lv_iload_n hx hb dX4_sortByWeight_10 rfl (lv_at hl 0 rfl) ?_
        refine lv_istore_n (lv' := [(2, .int y1_1), (1, .int y1_1), (0, .ref (ad 1))]) hx hb dX4_sortByWeight_11 rfl hl (by decide) rfl (fun ls hl => ?_)
        have hc_4 : ∀ (n : Nat) (y4_2 : Int32) (u4 : Nat → Nat → Int32) (H : Heap) (locs : List Loc), 0 ≤ y4_2.toInt → y4_2.toInt ≤ 3 → (∀ k : Nat, k ≠ 5 → u4 k = v k) → (∀ j : Nat, (j : Int) < y4_2.toInt → u4 5 j = u1 5 j) → (∀ j : Nat, y4_2.toInt < (j : Int) → (j : Int) ≤ y1_1.toInt → u4 5 j = u1 5 (j - 1)) → (∀ j : Nat, y4_2.toInt ≤ (j : Int) → (j : Int) < y1_1.toInt → WG (u1 5 j).toNatClampNeg < WG y1_1.toNatClampNeg) → (y4_2.toInt ≤ y1_1.toInt) → y4_2.toInt.toNat < n → Iv u4 → va_P (dC, dI) vwCl (wl ad kv cy N u4) H → va_D A (wl ad kv cy N u4) → va_S A s.heap H locs → ∀ ls : Array Slot, lv_has ls 3 [(2, .int y4_2), (1, .int y1_1), (0, .ref (ad 1))] → W p l e (headSpec wsX4_sortByWeight ({ frames := 0, cells := 0, slots := 0, locals := 0 })).room s m [Value.ref (ad 1)].toArray below meth c H locs 0 0 (MQ below (va_Qv (fun (u : Nat → Nat → Int32) => Iv u ∧ (∀ k : Nat, k ≠ 5 → u k = v k) ∧ srt (fun k => (v 3 k).toInt) (v 1 1).toNatClampNeg (fun j => (u 5 j).toNatClampNeg)) (fun u t => ex_Pst dC dI A (wl ad kv cy N u) t) A) [Value.ref (ad 1)].toArray s 0 0 A) (F0 m 12 ls []) := by
          intro n
          induction n with
          | zero =>
            intro y4_2 u4 H locs ay4_2 by4_2 hi4_0 hi4_1 hi4_2 hi4_3 hi4_4 hm_4 hv hP hD hS ls hl
            exact absurd hm_4 (by omega)
          | succ n ih_4 =>
            intro y4_2 u4 H locs ay4_2 by4_2 hi4_0 hi4_1 hi4_2 hi4_3 hi4_4 hm_4 hv hP hD hS ls hl
            refine lv_iload_n hx hb dX4_sortByWeight_12 rfl (lv_at hl 0 rfl) ?_
            refine lv_if_le (tgt := 58) hx hb dX4_sortByWeight_13 (by decide) (fun c_5 => ?_) (fun c_5 => ?_)
            · have tc_5 : y4_2.toInt ≤ (0 : Int32).toInt := Int32.le_iff_toInt_le.mp c_5
              refine lv_aload_n hx hb dX4_sortByWeight_58 rfl (lv_at hl 2 rfl) ?_
              refine va_get (D := (dC, dI)) (ci := 4) (v := .ref (ad 5)) (C := RX4) (T := TX4) (N := 11) hx hb hts (by decide +kernel) hown hK hP (1) (wl_at (by omega) (ce_1 (by decide))) rfl 6 (by decide) (hts (.fieldLink RX4 21 "QuietStairs$Planner" "heaviestFirst" "[I") (by decide +kernel)) (fun _ h9 => h9) rfl dX4_sortByWeight_59 ?_
              refine lv_iload_n hx hb dX4_sortByWeight_62 rfl (lv_at hl 0 rfl) ?_
              refine lv_iload_n hx hb dX4_sortByWeight_63 rfl (lv_at hl 1 rfl) ?_
              have zn_y4_2 : (y4_2.toNatClampNeg : Int) = y4_2.toInt := t_nn (by omega)
              have hx_6 : y4_2.toNatClampNeg < 4 := by omega
              refine va_iast hx hb hK hP hD hS (5) 0 (wl_at (by omega) (ce_21 (by decide))) rfl (vp_in_iff.mpr ⟨by omega, by omega⟩) dX4_sortByWeight_64 (fun H locs hP hD hS => ?_)
              obtain ⟨v_7, ev_7⟩ : ∃ u : Nat → Nat → Int32, u = upr u4 (5) (upd (u4 (5)) (y4_2.toNatClampNeg) y1_1) := ⟨_, rfl⟩
              have hP : va_P (dC, dI) vwCl (wl ad kv cy N v_7) H := by rw [ev_7, ← wl_put (e := _) (ce_21 (by decide))]; exact hP
              have hD : va_D A (wl ad kv cy N v_7) := by rw [ev_7, ← wl_put (e := _) (ce_21 (by decide))]; exact hD
              have hv : Iv v_7 := by rw [ev_7]; exact hv.put (K := 21) (by decide) (fun h q => by cases q; exact ⟨by omega, by omega⟩)
              obtain ⟨x_8, ex_8⟩ : ∃ y : Int32, y = y1_1 + 1 := ⟨_, rfl⟩
              refine lv_iinc (v := x_8) (lv' := [(1, .int x_8), (2, .int y4_2), (0, .ref (ad 1))]) hx hb dX4_sortByWeight_65 hl (k := 1) rfl (by rw [ex_8]; rfl) (by decide) rfl (fun ls hl => ?_)
              have k_1 : (1 : Int32).toInt = 1 := by decide
              have tx_8 : x_8.toInt = y1_1.toInt + (1 : Int32).toInt := by rw [ex_8]; exact t_add ⟨by omega, by omega⟩
              refine lv_goto (tgt := 2) hx hb dX4_sortByWeight_68 (by decide) ?_
              have zn_x_8 : (x_8.toNatClampNeg : Int) = x_8.toInt := t_nn (by omega)
              have zn_y1_1 : (y1_1.toNatClampNeg : Int) = y1_1.toInt := t_nn (by omega)
              have g5 : v_7 5 = upd (u4 5) (y4_2.toNatClampNeg) y1_1 := by rw [ev_7, upr_s]
              exact ih_1 x_8 v_7 _ _ (by omega) (by omega) (fun k h => by rw [ev_7, upr_n h]; exact hi4_0 k h) (by rw [show x_8.toNatClampNeg = y1_1.toNatClampNeg + 1 from by omega]; exact srt_s hi1_1 (p := y4_2.toNatClampNeg) (by omega) (fun j hj => by show (v_7 5 j).toNatClampNeg = (u1 5 j).toNatClampNeg; rw [g5, pk_un (by omega), hi4_1 j (by omega)]) (by show (v_7 5 y4_2.toNatClampNeg).toNatClampNeg = y1_1.toNatClampNeg; rw [g5, pk_us]) (fun j h1 h2 => by show (v_7 5 j).toNatClampNeg = (u1 5 (j - 1)).toNatClampNeg; rw [g5, pk_un (by omega), hi4_2 j (by omega) (by omega)]) (fun j h1 h2 => hi4_3 j (by omega) (by omega)) (fun h => absurd h (by omega))) (by omega) (by omega) hv hP hD hS ls (lv_sub hl [0, 2] rfl)
            · have tc_5 : y4_2.toInt > (0 : Int32).toInt := Int32.lt_iff_toInt_lt.mp (Int32.not_le.mp c_5)
              refine lv_aload_n hx hb dX4_sortByWeight_16 rfl (lv_at hl 2 rfl) ?_
              refine va_get (D := (dC, dI)) (ci := 4) (v := .ref (ad 3)) (C := RX4) (T := TX4) (N := 11) hx hb hts (by decide +kernel) hown hK hP (1) (wl_at (by omega) (ce_1 (by decide))) rfl 4 (by decide) (hts (.fieldLink RX4 15 "QuietStairs$Planner" "weights" "[I") (by decide +kernel)) (fun _ h9 => h9) rfl dX4_sortByWeight_17 ?_
              refine lv_aload_n hx hb dX4_sortByWeight_20 rfl (lv_at hl 2 rfl) ?_
              refine va_get (D := (dC, dI)) (ci := 4) (v := .ref (ad 5)) (C := RX4) (T := TX4) (N := 11) hx hb hts (by decide +kernel) hown hK hP (1) (wl_at (by omega) (ce_1 (by decide))) rfl 6 (by decide) (hts (.fieldLink RX4 21 "QuietStairs$Planner" "heaviestFirst" "[I") (by decide +kernel)) (fun _ h9 => h9) rfl dX4_sortByWeight_21 ?_
              refine lv_iload_n hx hb dX4_sortByWeight_24 rfl (lv_at hl 0 rfl) ?_
              refine lv_iconst (v := 1) hx hb dX4_sortByWeight_25 (by decide) ?_
              refine lv_isub hx hb dX4_sortByWeight_26 ?_
              refine lv_topi (fun x_6 ex_6 => ?_)
              have k_1 : (1 : Int32).toInt = 1 := by decide
              have tx_6 : x_6.toInt = y4_2.toInt - (1 : Int32).toInt := by rw [ex_6]; exact t_sub ⟨by omega, by omega⟩
              have zn_x_6 : (x_6.toNatClampNeg : Int) = x_6.toInt := t_nn (by omega)
              have hx_7 : x_6.toNatClampNeg < 4 := by omega
              refine va_iald hx hb hK hP (5) 0 (wl_at (by omega) (ce_21 (by decide))) rfl (vp_in_iff.mpr ⟨by omega, by omega⟩) dX4_sortByWeight_27 ?_
              refine lv_topi (fun x_8 ex_8 => ?_)
              have bzx_8 : 0 ≤ x_8.toInt ∧ x_8.toInt ≤ 3 := by rw [ex_8]; exact hv.at (K := 21) (by decide) rfl
              have qx_8 : x_8.toInt = (u4 (5) (x_6.toNatClampNeg)).toInt := congrArg Int32.toInt ex_8
              have zn_x_8 : (x_8.toNatClampNeg : Int) = x_8.toInt := t_nn (by omega)
              have hx_9 : x_8.toNatClampNeg < 4 := by omega
              refine va_iald hx hb hK hP (3) 0 (wl_at (by omega) (ce_17 (by decide))) rfl (vp_in_iff.mpr ⟨by omega, by omega⟩) dX4_sortByWeight_28 ?_
              refine lv_topi (fun x_10 ex_10 => ?_)
              have qx_10 : x_10.toInt = (u4 (3) (x_8.toNatClampNeg)).toInt := congrArg Int32.toInt ex_10
              have hA9 : x_10.toInt = WG x_8.toNatClampNeg := by rw [ex_10, hi4_0 3 (by decide), eWG]
              refine lv_aload_n hx hb dX4_sortByWeight_29 rfl (lv_at hl 2 rfl) ?_
              refine va_get (D := (dC, dI)) (ci := 4) (v := .ref (ad 3)) (C := RX4) (T := TX4) (N := 11) hx hb hts (by decide +kernel) hown hK hP (1) (wl_at (by omega) (ce_1 (by decide))) rfl 4 (by decide) (hts (.fieldLink RX4 15 "QuietStairs$Planner" "weights" "[I") (by decide +kernel)) (fun _ h9 => h9) rfl dX4_sortByWeight_30 ?_
              refine lv_iload_n hx hb dX4_sortByWeight_33 rfl (lv_at hl 1 rfl) ?_
              have zn_y1_1 : (y1_1.toNatClampNeg : Int) = y1_1.toInt := t_nn (by omega)
              have hx_11 : y1_1.toNatClampNeg < 4 := by omega
              refine va_iald hx hb hK hP (3) 0 (wl_at (by omega) (ce_17 (by decide))) rfl (vp_in_iff.mpr ⟨by omega, by omega⟩) dX4_sortByWeight_34 ?_
              refine lv_topi (fun x_12 ex_12 => ?_)
              have qx_12 : x_12.toInt = (u4 (3) (y1_1.toNatClampNeg)).toInt := congrArg Int32.toInt ex_12
              have hB9 : x_12.toInt = WG y1_1.toNatClampNeg := by rw [ex_12, hi4_0 3 (by decide), eWG]
              have zn_y4_2 : (y4_2.toNatClampNeg : Int) = y4_2.toInt := t_nn (by omega)
              have hpg9 : u1 5 (y4_2.toNatClampNeg - 1) = x_8 := by rw [← hi4_1 (y4_2.toNatClampNeg - 1) (by omega), ex_8, show x_6.toNatClampNeg = y4_2.toNatClampNeg - 1 from by omega]
              refine lv_icmp_ge (tgt := 58) hx hb dX4_sortByWeight_35 (by decide) (fun c_13 => ?_) (fun c_13 => ?_)
              · have tc_13 : x_10.toInt ≥ x_12.toInt := Int32.le_iff_toInt_le.mp c_13
                refine lv_aload_n hx hb dX4_sortByWeight_58 rfl (lv_at hl 2 rfl) ?_
                refine va_get (D := (dC, dI)) (ci := 4) (v := .ref (ad 5)) (C := RX4) (T := TX4) (N := 11) hx hb hts (by decide +kernel) hown hK hP (1) (wl_at (by omega) (ce_1 (by decide))) rfl 6 (by decide) (hts (.fieldLink RX4 21 "QuietStairs$Planner" "heaviestFirst" "[I") (by decide +kernel)) (fun _ h9 => h9) rfl dX4_sortByWeight_59 ?_
                refine lv_iload_n hx hb dX4_sortByWeight_62 rfl (lv_at hl 0 rfl) ?_
                refine lv_iload_n hx hb dX4_sortByWeight_63 rfl (lv_at hl 1 rfl) ?_
                have hx_14 : y4_2.toNatClampNeg < 4 := by omega
                refine va_iast hx hb hK hP hD hS (5) 0 (wl_at (by omega) (ce_21 (by decide))) rfl (vp_in_iff.mpr ⟨by omega, by omega⟩) dX4_sortByWeight_64 (fun H locs hP hD hS => ?_)
                obtain ⟨v_15, ev_15⟩ : ∃ u : Nat → Nat → Int32, u = upr u4 (5) (upd (u4 (5)) (y4_2.toNatClampNeg) y1_1) := ⟨_, rfl⟩
                have hP : va_P (dC, dI) vwCl (wl ad kv cy N v_15) H := by rw [ev_15, ← wl_put (e := _) (ce_21 (by decide))]; exact hP
                have hD : va_D A (wl ad kv cy N v_15) := by rw [ev_15, ← wl_put (e := _) (ce_21 (by decide))]; exact hD
                have hv : Iv v_15 := by rw [ev_15]; exact hv.put (K := 21) (by decide) (fun h q => by cases q; exact ⟨by omega, by omega⟩)
                obtain ⟨x_16, ex_16⟩ : ∃ y : Int32, y = y1_1 + 1 := ⟨_, rfl⟩
                refine lv_iinc (v := x_16) (lv' := [(1, .int x_16), (2, .int y4_2), (0, .ref (ad 1))]) hx hb dX4_sortByWeight_65 hl (k := 1) rfl (by rw [ex_16]; rfl) (by decide) rfl (fun ls hl => ?_)
                have tx_16 : x_16.toInt = y1_1.toInt + (1 : Int32).toInt := by rw [ex_16]; exact t_add ⟨by omega, by omega⟩
                refine lv_goto (tgt := 2) hx hb dX4_sortByWeight_68 (by decide) ?_
                have zn_x_16 : (x_16.toNatClampNeg : Int) = x_16.toInt := t_nn (by omega)
                have g5 : v_15 5 = upd (u4 5) (y4_2.toNatClampNeg) y1_1 := by rw [ev_15, upr_s]
                exact ih_1 x_16 v_15 _ _ (by omega) (by omega) (fun k h => by rw [ev_15, upr_n h]; exact hi4_0 k h) (by rw [show x_16.toNatClampNeg = y1_1.toNatClampNeg + 1 from by omega]; exact srt_s hi1_1 (p := y4_2.toNatClampNeg) (by omega) (fun j hj => by show (v_15 5 j).toNatClampNeg = (u1 5 j).toNatClampNeg; rw [g5, pk_un (by omega), hi4_1 j (by omega)]) (by show (v_15 5 y4_2.toNatClampNeg).toNatClampNeg = y1_1.toNatClampNeg; rw [g5, pk_us]) (fun j h1 h2 => by show (v_15 5 j).toNatClampNeg = (u1 5 (j - 1)).toNatClampNeg; rw [g5, pk_un (by omega), hi4_2 j (by omega) (by omega)]) (fun j h1 h2 => hi4_3 j (by omega) (by omega)) (fun _ => by show WG y1_1.toNatClampNeg ≤ WG (u1 5 (y4_2.toNatClampNeg - 1)).toNatClampNeg; rw [hpg9]; omega)) (by omega) (by omega) hv hP hD hS ls (lv_sub hl [0, 2] rfl)
              · have tc_13 : x_10.toInt < x_12.toInt := Int32.lt_iff_toInt_lt.mp (Int32.not_le.mp c_13)
                refine lv_aload_n hx hb dX4_sortByWeight_38 rfl (lv_at hl 2 rfl) ?_
                refine va_get (D := (dC, dI)) (ci := 4) (v := .ref (ad 5)) (C := RX4) (T := TX4) (N := 11) hx hb hts (by decide +kernel) hown hK hP (1) (wl_at (by omega) (ce_1 (by decide))) rfl 6 (by decide) (hts (.fieldLink RX4 21 "QuietStairs$Planner" "heaviestFirst" "[I") (by decide +kernel)) (fun _ h9 => h9) rfl dX4_sortByWeight_39 ?_
                refine lv_iload_n hx hb dX4_sortByWeight_42 rfl (lv_at hl 0 rfl) ?_
                refine lv_aload_n hx hb dX4_sortByWeight_43 rfl (lv_at hl 2 rfl) ?_
                refine va_get (D := (dC, dI)) (ci := 4) (v := .ref (ad 5)) (C := RX4) (T := TX4) (N := 11) hx hb hts (by decide +kernel) hown hK hP (1) (wl_at (by omega) (ce_1 (by decide))) rfl 6 (by decide) (hts (.fieldLink RX4 21 "QuietStairs$Planner" "heaviestFirst" "[I") (by decide +kernel)) (fun _ h9 => h9) rfl dX4_sortByWeight_44 ?_
                refine lv_iload_n hx hb dX4_sortByWeight_47 rfl (lv_at hl 0 rfl) ?_
                refine lv_iconst (v := 1) hx hb dX4_sortByWeight_48 (by decide) ?_
                refine lv_isub hx hb dX4_sortByWeight_49 ?_
                refine lv_topi (fun x_14 ex_14 => ?_)
                obtain rfl : x_6 = x_14 := ex_6.trans ex_14.symm
                refine va_iald hx hb hK hP (5) 0 (wl_at (by omega) (ce_21 (by decide))) rfl (vp_in_iff.mpr ⟨by omega, by omega⟩) dX4_sortByWeight_50 ?_
                refine lv_topi (fun x_15 ex_15 => ?_)
                have bzx_15 : 0 ≤ x_15.toInt ∧ x_15.toInt ≤ 3 := by rw [ex_15]; exact hv.at (K := 21) (by decide) rfl
                obtain rfl : x_8 = x_15 := (ex_15.trans ex_8.symm).symm
                have hx_16 : y4_2.toNatClampNeg < 4 := by omega
                refine va_iast hx hb hK hP hD hS (5) 0 (wl_at (by omega) (ce_21 (by decide))) rfl (vp_in_iff.mpr ⟨by omega, by omega⟩) dX4_sortByWeight_51 (fun H locs hP hD hS => ?_)
                obtain ⟨v_17, ev_17⟩ : ∃ u : Nat → Nat → Int32, u = upr u4 (5) (upd (u4 (5)) (y4_2.toNatClampNeg) x_8) := ⟨_, rfl⟩
                have hP : va_P (dC, dI) vwCl (wl ad kv cy N v_17) H := by rw [ev_17, ← wl_put (e := _) (ce_21 (by decide))]; exact hP
                have hD : va_D A (wl ad kv cy N v_17) := by rw [ev_17, ← wl_put (e := _) (ce_21 (by decide))]; exact hD
                have hv : Iv v_17 := by rw [ev_17]; exact hv.put (K := 21) (by decide) (fun h q => by cases q; exact ⟨by omega, by omega⟩)
                obtain ⟨x_18, ex_18⟩ : ∃ y : Int32, y = y4_2 + (-1) := ⟨_, rfl⟩
                refine lv_iinc (v := x_18) (lv' := [(2, .int x_18), (1, .int y1_1), (0, .ref (ad 1))]) hx hb dX4_sortByWeight_52 hl (k := 0) rfl (by rw [ex_18]; rfl) (by decide) rfl (fun ls hl => ?_)
                have k_m1 : ((-1) : Int32).toInt = -1 := by decide
                have tx_18 : x_18.toInt = y4_2.toInt + ((-1) : Int32).toInt := by rw [ex_18]; exact t_add ⟨by omega, by omega⟩
                refine lv_goto (tgt := 12) hx hb dX4_sortByWeight_55 (by decide) ?_
                have zn_x_18 : (x_18.toNatClampNeg : Int) = x_18.toInt := t_nn (by omega)
                exact ih_4 x_18 v_17 _ _ (by omega) (by omega) (fun k h => by rw [ev_17, upr_n h]; exact hi4_0 k h) (fun j hj => by rw [ev_17, upr_s, pk_un (by omega)]; exact hi4_1 j (by omega)) (fun j h1 h2 => by rw [ev_17, upr_s]; by_cases e : j = y4_2.toNatClampNeg; rw [e, pk_us]; exact hpg9.symm; rw [pk_un e]; exact hi4_2 j (by omega) h2) (fun j h1 h2 => by by_cases e : y4_2.toInt ≤ (j : Int); exact hi4_3 j e h2; rw [show j = y4_2.toNatClampNeg - 1 from by omega, hpg9, ← hA9, ← hB9]; omega) (by omega) (by omega) hv hP hD hS ls (lv_sub hl [0, 1, 2] rfl)
        exact hc_4 (y1_1.toInt.toNat + 1) y1_1 u1 _ _ (by omega) (by omega) (hi1_0) (fun _ _ => rfl) (fun j h1 h2 => absurd h1 (by omega)) (fun j h1 h2 => absurd h2 (by omega)) (by omega) (by omega) hv hP hD hS ls (lv_sub hl [0, 1, 2] rfl)
  exact hc_1 ((4 - (0 : Int32).toInt).toNat + 1) 0 v _ _ (by omega) (by omega) (fun _ _ => rfl) (by rw [show (0 : Int32).toNatClampNeg = 0 from by decide]; exact ⟨⟨fun j hj => absurd hj (Nat.not_lt_zero _), fun i j hi => absurd hi (Nat.not_lt_zero _), fun k hk => absurd hk (Nat.not_lt_zero _)⟩, fun a b _ hb => absurd hb (Nat.not_lt_zero _)⟩) (by omega) (by omega) hv hP hD hS ls (lv_sub hl [0, 1] rfl)
