
set_option maxHeartbeats 4000000 in
set_option maxRecDepth 100000 in
theorem e_X5_pinLeastHour (l : Launch) (dC : Nat → ClassId) (dI : Nat → Nat → Nat) (cy : Nat → ClassId) (sz : Nat) (ad : Nat → Nat) (kv : Value) (N : Nat) (hN : 119 ≤ N) (v : Nat → Nat → Int32) (hv : Iv v) (x0 : Int32) (hs : 0 ≤ x0.toInt ∧ x0.toInt ≤ 4) : Met l yX5_pinLeastHour wsX5_pinLeastHour ({ frames := 2, cells := 0, slots := 0, locals := 128 }) (va_Pc [.ref (ad 10), .int x0] (ex_Pre dC dI cy sz (wl ad kv cy N v))) (va_Qi (fun (r : Int32) (u : Nat → Nat → Int32) => Iv u ∧ (∀ k : Nat, k ≠ 12 → u k = v k) ∧ (∀ j : Nat, j ≠ x0.toNatClampNeg → u 12 j = v 12 j) ∧ ((r.toInt = -5 ∧ u 12 x0.toNatClampNeg = v 12 x0.toNatClampNeg ∧ ∀ h : Nat, h < 24 → bt (v 12 x0.toNatClampNeg) h → ¬ HL (v 10 0) (upd (v 12) x0.toNatClampNeg (pin h))) ∨ ((0 ≤ r.toInt ∧ r.toInt < 24) ∧ bt (v 12 x0.toNatClampNeg) r.toNatClampNeg ∧ u 12 x0.toNatClampNeg = pin r.toNatClampNeg ∧ HL (v 10 0) (upd (v 12) x0.toNatClampNeg (pin r.toNatClampNeg)) ∧ ∀ h : Nat, h < r.toNatClampNeg → bt (v 12 x0.toNatClampNeg) h → ¬ HL (v 10 0) (upd (v 12) x0.toNatClampNeg (pin h))))) (fun u t => ex_Pst dC dI (va_A (wl ad kv cy N v) sz) (wl ad kv cy N u) t) (va_A (wl ad kv cy N v) sz)) 0 0 (va_A (wl ad kv cy N v) sz) := by
  refine Met.ofW (cc := cX5_pinLeastHour) (maxL := 4) (ret := (some .int)) (by decide) rfl ?_
  intro p e s m args below meth c s₁ B hml hv
  obtain ⟨rfl, hsz, hE, hP, hK, hD0⟩ := hv
  have hx := B.exec
  have hb := B.bytes
  have hr := B.returns
  have hts := atoms_spec (ws := wsX5_pinLeastHour) B.pre
  have hown : s.vm.findClass RX5 = some m.cls := findClass_of_methodNamed B.named
  have hlocks := B.notSynchronized
  subst hsz
  have hD := hD0.self (sz := s.heap.size)
  generalize hAe : va_A (wl ad kv cy N v) s.heap.size = A at hD ⊢
  have hA : ∀ q : Nat, s.heap.size ≤ q → A q := fun q h => by rw [← hAe]; exact Or.inr h
  have hS : va_S A s.heap s.heap [] := va_S.rf
  have hP : va_P (dC, dI) vwCl (wl ad kv cy N v) s.heap := hP
  have hl := lv_entry ([.ref (ad 10), .int x0]) (n := 4) (Nat.le_of_ble_eq_true rfl)
  rw [lg_entry_eq]
  generalize (lg_sl ([.ref (ad 10), .int x0]) ++ List.replicate (4 - (lg_sl ([.ref (ad 10), .int x0])).length) Slot.unset).toArray = ls at hl ⊢
  have hl : lv_has ls 4 [(0, .ref (ad 10)), (1, .int x0)] := hl
  have zn_x0 : (x0.toNatClampNeg : Int) = x0.toInt := t_nn (by omega)
  have hx5 : x0.toNatClampNeg < 5 := by omega
  refine lv_aload_n hx hb dX5_pinLeastHour_0 rfl (lv_at hl 0 rfl) ?_
  refine va_get (D := (dC, dI)) (ci := 5) (v := .ref (ad 12)) (C := RX5) (T := TX5) (N := 3) hx hb hts (by decide +kernel) hown hK hP (10) (wl_at (by omega) (ce_2 (by decide))) rfl 2 (by decide) (hts (.fieldLink RX5 15 "QuietStairs$Table" "hourBits" "[I") (by decide +kernel)) (fun _ h9 => h9) rfl dX5_pinLeastHour_1 ?_
  refine lv_iload_n hx hb dX5_pinLeastHour_4 rfl (lv_at hl 1 rfl) ?_
  refine va_iald hx hb hK hP (12) 0 (wl_at (by omega) (ce_19 (by decide))) rfl (vp_in_iff.mpr ⟨by omega, by omega⟩) dX5_pinLeastHour_5 ?_
  refine lv_topi (fun x_1 ex_1 => ?_)
  have qx_1 : x_1.toInt = (v (12) (x0.toNatClampNeg)).toInt := congrArg Int32.toInt ex_1
  refine lv_istore_n (lv' := [(2, .int x_1), (0, .ref (ad 10)), (1, .int x0)]) hx hb dX5_pinLeastHour_6 rfl hl (by decide) rfl (fun ls hl => ?_)
  refine lv_iconst (v := 0) hx hb dX5_pinLeastHour_7 (by decide) ?_
  refine lv_istore_n (lv' := [(3, .int 0), (2, .int x_1), (0, .ref (ad 10)), (1, .int x0)]) hx hb dX5_pinLeastHour_8 rfl hl (by decide) rfl (fun ls hl => ?_)
  have hc_2 : ∀ (n : Nat) (y2_3 : Int32) (u2 : Nat → Nat → Int32) (H : Heap) (locs : List Loc), 0 ≤ y2_3.toInt → y2_3.toInt ≤ 24 → (∀ k : Nat, k ≠ 12 → u2 k = v k) → (∀ j : Nat, j ≠ x0.toNatClampNeg → u2 12 j = v 12 j) → (∀ h : Nat, (h : Int) < y2_3.toInt → bt x_1 h → ¬ HL (v 10 0) (upd (v 12) x0.toNatClampNeg (pin h))) → (24 - y2_3.toInt).toNat < n → Iv u2 → va_P (dC, dI) vwCl (wl ad kv cy N u2) H → va_D A (wl ad kv cy N u2) → va_S A s.heap H locs → ∀ ls : Array Slot, lv_has ls 4 [(3, .int y2_3), (2, .int x_1), (0, .ref (ad 10)), (1, .int x0)] → W p l e (headSpec wsX5_pinLeastHour ({ frames := 2, cells := 0, slots := 0, locals := 128 })).room s m [Value.ref (ad 10), Value.int x0].toArray below meth c H locs 0 0 (MQ below (va_Qi (fun (r : Int32) (u : Nat → Nat → Int32) => Iv u ∧ (∀ k : Nat, k ≠ 12 → u k = v k) ∧ (∀ j : Nat, j ≠ x0.toNatClampNeg → u 12 j = v 12 j) ∧ ((r.toInt = -5 ∧ u 12 x0.toNatClampNeg = v 12 x0.toNatClampNeg ∧ ∀ h : Nat, h < 24 → bt (v 12 x0.toNatClampNeg) h → ¬ HL (v 10 0) (upd (v 12) x0.toNatClampNeg (pin h))) ∨ ((0 ≤ r.toInt ∧ r.toInt < 24) ∧ bt (v 12 x0.toNatClampNeg) r.toNatClampNeg ∧ u 12 x0.toNatClampNeg = pin r.toNatClampNeg ∧ HL (v 10 0) (upd (v 12) x0.toNatClampNeg (pin r.toNatClampNeg)) ∧ ∀ h : Nat, h < r.toNatClampNeg → bt (v 12 x0.toNatClampNeg) h → ¬ HL (v 10 0) (upd (v 12) x0.toNatClampNeg (pin h))))) (fun u t => ex_Pst dC dI A (wl ad kv cy N u) t) A) [Value.ref (ad 10), Value.int x0].toArray s 0 0 A) (F0 m 9 ls []) := by
    intro n
    induction n with
    | zero =>
      intro y2_3 u2 H locs ay2_3 by2_3 hi2_0 hi2_1 hi2_2 hm_2 hv hP hD hS ls hl
      exact absurd hm_2 (by omega)
    | succ n ih_2 =>
      intro y2_3 u2 H locs ay2_3 by2_3 hi2_0 hi2_1 hi2_2 hm_2 hv hP hD hS ls hl
      refine lv_iload_n hx hb dX5_pinLeastHour_9 rfl (lv_at hl 0 rfl) ?_
      refine lv_bipush (v := 24) hx hb dX5_pinLeastHour_10 (by decide) ?_
      have k_24 : (24 : Int32).toInt = 24 := by decide
      refine lv_icmp_ge (tgt := 47) hx hb dX5_pinLeastHour_12 (by decide) (fun c_3 => ?_) (fun c_3 => ?_)
      · have tc_3 : y2_3.toInt ≥ (24 : Int32).toInt := Int32.le_iff_toInt_le.mp c_3
        refine lv_aload_n hx hb dX5_pinLeastHour_47 rfl (lv_at hl 2 rfl) ?_
        refine va_get (D := (dC, dI)) (ci := 5) (v := .ref (ad 12)) (C := RX5) (T := TX5) (N := 3) hx hb hts (by decide +kernel) hown hK hP (10) (wl_at (by omega) (ce_2 (by decide))) rfl 2 (by decide) (hts (.fieldLink RX5 15 "QuietStairs$Table" "hourBits" "[I") (by decide +kernel)) (fun _ h9 => h9) rfl dX5_pinLeastHour_48 ?_
        refine lv_iload_n hx hb dX5_pinLeastHour_51 rfl (lv_at hl 3 rfl) ?_
        refine lv_iload_n hx hb dX5_pinLeastHour_52 rfl (lv_at hl 1 rfl) ?_
        refine va_iast hx hb hK hP hD hS (12) 0 (wl_at (by omega) (ce_19 (by decide))) rfl (vp_in_iff.mpr ⟨by omega, by omega⟩) dX5_pinLeastHour_53 (fun H locs hP hD hS => ?_)
        obtain ⟨v_4, ev_4⟩ : ∃ u : Nat → Nat → Int32, u = upr u2 (12) (upd (u2 (12)) (x0.toNatClampNeg) x_1) := ⟨_, rfl⟩
        have hP : va_P (dC, dI) vwCl (wl ad kv cy N v_4) H := by rw [ev_4, ← wl_put (e := _) (ce_19 (by decide))]; exact hP
        have hD : va_D A (wl ad kv cy N v_4) := by rw [ev_4, ← wl_put (e := _) (ce_19 (by decide))]; exact hD
        have hv : Iv v_4 := by rw [ev_4]; exact hv.put (K := 19) (by decide) (fun h q => by simp [bd] at q)
        refine lv_bipush (v := (-5)) hx hb dX5_pinLeastHour_54 (by decide) ?_
        have zn_y2_3 : (y2_3.toNatClampNeg : Int) = y2_3.toInt := t_nn (by omega)
        exact W.iret (v := (-5)) hx hb hr (fun t ht hW => ⟨⟨(-5), v_4, rfl, ⟨hv, fun k h => by rw [ev_4, upr_n h]; exact hi2_0 k h, fun j h => by rw [ev_4, upr_s, pk_un h]; exact hi2_1 j h, Or.inl ⟨by decide, by rw [ev_4, upr_s, pk_us, ex_1], fun h h1 h2 => hi2_2 h (by omega) (by rw [ex_1]; exact h2)⟩⟩, by rw [ht]; exact hP, hD⟩, hS.F ht⟩) hS.2.2 dX5_pinLeastHour_56
      · have tc_3 : y2_3.toInt < (24 : Int32).toInt := Int32.lt_iff_toInt_lt.mp (Int32.not_le.mp c_3)
        refine lv_iload_n hx hb dX5_pinLeastHour_15 rfl (lv_at hl 1 rfl) ?_
        refine lv_iload_n hx hb dX5_pinLeastHour_16 rfl (lv_at hl 0 rfl) ?_
        refine yc_p hP hS (va_runSN (As := [.int x_1, .int y2_3]) (rest := []) ⟨hx, hb, hml, hown, hts⟩ (e_X7_hasBit l x_1 y2_3) ⟨va_cnB 2 hts gX5_pinLeastHour_X7_hasBit_n47 rfl rfl rfl hE.2.2.2.2.2.2.2.2.2.2.2.2.1 (hts (.initialized RX7) (by decide +kernel)) (by decide +kernel) ⟨Nat.le_of_ble_eq_true rfl, Nat.le_of_ble_eq_true rfl⟩, (hts (.static yX7_hasBit) (by decide +kernel)), trivial⟩ ex_preP rfl rfl hl.1 rfl (lv_room (Nat.le_of_ble_eq_true rfl)) dX5_pinLeastHour_17 ⟨Nat.le_of_ble_eq_true rfl, Nat.le_of_ble_eq_true rfl⟩) (fun r_4 H locs hw_4 hP hS => ?_)
        rcases hw_4 with ⟨rfl, hh_5⟩ | ⟨rfl, hh_5⟩
        · refine lv_if_eq (tgt := 41) hx hb dX5_pinLeastHour_20 (by decide) (fun c9 => absurd c9 (by decide)) (fun _ => ?_)
          refine lv_aload_n hx hb dX5_pinLeastHour_23 rfl (lv_at hl 2 rfl) ?_
          refine va_get (D := (dC, dI)) (ci := 5) (v := .ref (ad 12)) (C := RX5) (T := TX5) (N := 3) hx hb hts (by decide +kernel) hown hK hP (10) (wl_at (by omega) (ce_2 (by decide))) rfl 2 (by decide) (hts (.fieldLink RX5 15 "QuietStairs$Table" "hourBits" "[I") (by decide +kernel)) (fun _ h9 => h9) rfl dX5_pinLeastHour_24 ?_
          refine lv_iload_n hx hb dX5_pinLeastHour_27 rfl (lv_at hl 3 rfl) ?_
          refine lv_iconst (v := 1) hx hb dX5_pinLeastHour_28 (by decide) ?_
          refine lv_iload_n hx hb dX5_pinLeastHour_29 rfl (lv_at hl 0 rfl) ?_
          refine lv_ishl hx hb dX5_pinLeastHour_30 ?_
          refine lv_topi (fun x_6 ex_6 => ?_)
          refine va_iast hx hb hK hP hD hS (12) 0 (wl_at (by omega) (ce_19 (by decide))) rfl (vp_in_iff.mpr ⟨by omega, by omega⟩) dX5_pinLeastHour_31 (fun H locs hP hD hS => ?_)
          obtain ⟨v_7, ev_7⟩ : ∃ u : Nat → Nat → Int32, u = upr u2 (12) (upd (u2 (12)) (x0.toNatClampNeg) x_6) := ⟨_, rfl⟩
          have hP : va_P (dC, dI) vwCl (wl ad kv cy N v_7) H := by rw [ev_7, ← wl_put (e := _) (ce_19 (by decide))]; exact hP
          have hD : va_D A (wl ad kv cy N v_7) := by rw [ev_7, ← wl_put (e := _) (ce_19 (by decide))]; exact hD
          have hv : Iv v_7 := by rw [ev_7]; exact hv.put (K := 19) (by decide) (fun h q => by simp [bd] at q)
          have zn_y2_3 : (y2_3.toNatClampNeg : Int) = y2_3.toInt := t_nn (by omega)
          have hp9 : x_6 = pin y2_3.toNatClampNeg := by unfold pin; rw [← ofn (x := y2_3) (by omega), ex_6]
          have hq9 : v_7 12 = upd (v 12) x0.toNatClampNeg (pin y2_3.toNatClampNeg) := by rw [ev_7, upr_s, hp9]; funext j; by_cases e : j = x0.toNatClampNeg; rw [e, pk_us, pk_us]; rw [pk_un e, pk_un e]; exact hi2_1 j e
          have hq10 : v_7 10 0 = v 10 0 := by rw [ev_7, upr_n (by decide), hi2_0 10 (by decide)]
          refine lv_aload_n hx hb dX5_pinLeastHour_32 rfl (lv_at hl 2 rfl) ?_
          refine yw_i (w1 := fun (u : Nat → Nat → Int32) => wl ad kv cy N u) hD hS hA (va_runV (As := []) (rest := []) ⟨hx, hb, hml, hown, hts⟩ (e_X5_stands l dC dI cy _ ad kv N hN v_7 hv ) (cwV 0 hts gX5_pinLeastHour_X5_stands rfl rfl rfl (by decide +kernel) ⟨Nat.le_of_ble_eq_true rfl, Nat.le_of_ble_eq_true rfl⟩) (yw_preV hE hK hP hD (ci := 5) (q0 := 10) rfl (wl_at (by omega) (ce_2 (by decide)))) rfl rfl hl.1 rfl (lv_room (Nat.le_of_ble_eq_true rfl)) dX5_pinLeastHour_33 ⟨Nat.le_of_ble_eq_true rfl, Nat.le_of_ble_eq_true rfl⟩) (fun r_8 v_8 H locs hw_8 hP hD hS => ?_)
          obtain ⟨-, hu_8, hw_8⟩ := hw_8
          replace hu_8 := hu_8.symm
          subst hu_8
          rcases hw_8 with ⟨rfl, hz_9⟩ | ⟨rfl, hz_9⟩
          · rw [hq10, hq9] at hz_9
            refine lv_if_eq (tgt := 41) hx hb dX5_pinLeastHour_36 (by decide) (fun c9 => absurd c9 (by decide)) (fun _ => ?_)
            refine lv_iload_n hx hb dX5_pinLeastHour_39 rfl (lv_at hl 0 rfl) ?_
            exact W.iret (v := y2_3) hx hb hr (fun t ht hW => ⟨⟨y2_3, v_7, rfl, ⟨hv, fun k h => by rw [ev_7, upr_n h]; exact hi2_0 k h, fun j h => by rw [ev_7, upr_s, pk_un h]; exact hi2_1 j h, Or.inr ⟨⟨by omega, by omega⟩, by rw [← ex_1]; unfold bt; rw [← ofn (x := y2_3) (by omega)]; exact hh_5, by rw [hq9, pk_us], hz_9, fun h h1 h2 => hi2_2 h (by omega) (by rw [ex_1]; exact h2)⟩⟩, by rw [ht]; exact hP, hD⟩, hS.F ht⟩) hS.2.2 dX5_pinLeastHour_40
          · rw [hq10, hq9] at hz_9
            refine lv_if_eq (tgt := 41) hx hb dX5_pinLeastHour_36 (by decide) (fun _ => ?_) (fun c9 => absurd c9 (by decide))
            obtain ⟨x_10, ex_10⟩ : ∃ y : Int32, y = y2_3 + 1 := ⟨_, rfl⟩
            refine lv_iinc (v := x_10) (lv' := [(3, .int x_10), (2, .int x_1), (0, .ref (ad 10)), (1, .int x0)]) hx hb dX5_pinLeastHour_41 hl (k := 0) rfl (by rw [ex_10]; rfl) (by decide) rfl (fun ls hl => ?_)
            have k_1 : (1 : Int32).toInt = 1 := by decide
            have tx_10 : x_10.toInt = y2_3.toInt + (1 : Int32).toInt := by rw [ex_10]; exact t_add ⟨by omega, by omega⟩
            refine lv_goto (tgt := 9) hx hb dX5_pinLeastHour_44 (by decide) ?_
            exact ih_2 x_10 v_7 _ _ (by omega) (by omega) (fun k h => by rw [ev_7, upr_n h]; exact hi2_0 k h) (fun j h => by rw [ev_7, upr_s, pk_un h]; exact hi2_1 j h) (fun h h1 h2 => by by_cases e : (h : Int) < y2_3.toInt; exact hi2_2 h e h2; rw [show h = y2_3.toNatClampNeg from by omega]; exact hz_9) (by omega) hv hP hD hS ls (lv_sub hl [0, 1, 2, 3] rfl)
        · refine lv_if_eq (tgt := 41) hx hb dX5_pinLeastHour_20 (by decide) (fun _ => ?_) (fun c9 => absurd c9 (by decide))
          obtain ⟨x_6, ex_6⟩ : ∃ y : Int32, y = y2_3 + 1 := ⟨_, rfl⟩
          refine lv_iinc (v := x_6) (lv' := [(3, .int x_6), (2, .int x_1), (0, .ref (ad 10)), (1, .int x0)]) hx hb dX5_pinLeastHour_41 hl (k := 0) rfl (by rw [ex_6]; rfl) (by decide) rfl (fun ls hl => ?_)
          have k_1 : (1 : Int32).toInt = 1 := by decide
          have tx_6 : x_6.toInt = y2_3.toInt + (1 : Int32).toInt := by rw [ex_6]; exact t_add ⟨by omega, by omega⟩
          refine lv_goto (tgt := 9) hx hb dX5_pinLeastHour_44 (by decide) ?_
          have zn_y2_3 : (y2_3.toNatClampNeg : Int) = y2_3.toInt := t_nn (by omega)
          exact ih_2 x_6 u2 _ _ (by omega) (by omega) (hi2_0) (hi2_1) (fun h h1 h2 => by by_cases e : (h : Int) < y2_3.toInt; exact hi2_2 h e h2; rw [show h = y2_3.toNatClampNeg from by omega] at h2; unfold bt at h2; rw [← ofn (x := y2_3) (by omega)] at h2; exact absurd h2 hh_5) (by omega) hv hP hD hS ls (lv_sub hl [0, 1, 2, 3] rfl)
  have k_0 : (0 : Int32).toInt = 0 := by decide
  exact hc_2 ((24 - (0 : Int32).toInt).toNat + 1) 0 v _ _ (by omega) (by omega) (fun _ _ => rfl) (fun _ _ => rfl) (fun h h1 => absurd h1 (by omega)) (by omega) hv hP hD hS ls (lv_sub hl [0, 1, 2, 3] rfl)

set_option maxHeartbeats 4000000 in
set_option maxRecDepth 100000 in
theorem e_X5_hourOf (l : Launch) (dC : Nat → ClassId) (dI : Nat → Nat → Nat) (cy : Nat → ClassId) (sz : Nat) (ad : Nat → Nat) (kv : Value) (N : Nat) (hN : 119 ≤ N) (v : Nat → Nat → Int32) (hv : Iv v) (x0 : Int32) (hH : ∀ i : Nat, i < (v 10 0).toNatClampNeg → ok24 (v 12 i)) : Met l yX5_hourOf wsX5_hourOf ({ frames := 3, cells := 0, slots := 0, locals := 192 }) (va_Pc [.ref (ad 10), .int x0] (ex_Pre dC dI cy sz (wl ad kv cy N v))) (va_Qi (fun (r : Int32) (u : Nat → Nat → Int32) => Iv u ∧ (∀ k : Nat, k ≠ 12 → u k = v k) ∧ ∀ M : Nat → Nat, lmin (v 10 0).toNatClampNeg (fun i x => bt (v 12 i) x) (fun _ => True) M → ∀ i : Nat, i < (v 10 0).toNatClampNeg → (v 11 i).toInt = x0.toInt → (∀ j : Nat, j < i → (v 11 j).toInt ≠ x0.toInt) → r.toInt = ((M i : Nat) : Int)) (fun u t => ex_Pst dC dI (va_A (wl ad kv cy N v) sz) (wl ad kv cy N u) t) (va_A (wl ad kv cy N v) sz)) 0 0 (va_A (wl ad kv cy N v) sz) := by
  refine Met.ofW (cc := cX5_hourOf) (maxL := 4) (ret := (some .int)) (by decide) rfl ?_
  intro p e s m args below meth c s₁ B hml hv
  obtain ⟨rfl, hsz, hE, hP, hK, hD0⟩ := hv
  have hx := B.exec
  have hb := B.bytes
  have hr := B.returns
  have hts := atoms_spec (ws := wsX5_hourOf) B.pre
  have hown : s.vm.findClass RX5 = some m.cls := findClass_of_methodNamed B.named
  have hlocks := B.notSynchronized
  subst hsz
  have hD := hD0.self (sz := s.heap.size)
  generalize hAe : va_A (wl ad kv cy N v) s.heap.size = A at hD ⊢
  have hA : ∀ q : Nat, s.heap.size ≤ q → A q := fun q h => by rw [← hAe]; exact Or.inr h
  have hS : va_S A s.heap s.heap [] := va_S.rf
  have hP : va_P (dC, dI) vwCl (wl ad kv cy N v) s.heap := hP
  have hl := lv_entry ([.ref (ad 10), .int x0]) (n := 4) (Nat.le_of_ble_eq_true rfl)
  rw [lg_entry_eq]
  generalize (lg_sl ([.ref (ad 10), .int x0]) ++ List.replicate (4 - (lg_sl ([.ref (ad 10), .int x0])).length) Slot.unset).toArray = ls at hl ⊢
  have hl : lv_has ls 4 [(0, .ref (ad 10)), (1, .int x0)] := hl
  obtain ⟨ct, ect⟩ : ∃ z : Int32, z = v 10 0 := ⟨_, rfl⟩
  have hbct : 0 ≤ ct.toInt ∧ ct.toInt ≤ 5 := by rw [ect]; exact hv.at (K := 2) (by decide) rfl
  have zn_ct : (ct.toNatClampNeg : Int) = ct.toInt := t_nn (by omega)
  have k_0 : (0 : Int32).toInt = 0 := by decide
  refine lv_iconst (v := 0) hx hb dX5_hourOf_0 (by decide) ?_
  refine lv_istore_n (lv' := [(2, .int 0), (0, .ref (ad 10)), (1, .int x0)]) hx hb dX5_hourOf_1 rfl hl (by decide) rfl (fun ls hl => ?_)
  have hc_1 : ∀ (n : Nat) (y1_2 : Int32) (u1 : Nat → Nat → Int32) (H : Heap) (locs : List Loc), 0 ≤ y1_2.toInt → y1_2.toInt ≤ 5 → (∀ k : Nat, k ≠ 12 → u1 k = v k) → (∀ M : Nat → Nat, lmin ct.toNatClampNeg (fun i x => bt (v 12 i) x) (fun _ => True) M → pnd ct.toNatClampNeg y1_2.toNatClampNeg (v 12) (u1 12) M) → (∀ j : Nat, (j : Int) < y1_2.toInt → (v 11 j).toInt ≠ x0.toInt) → (y1_2.toInt ≤ ct.toInt) → (5 - y1_2.toInt).toNat < n → Iv u1 → va_P (dC, dI) vwCl (wl ad kv cy N u1) H → va_D A (wl ad kv cy N u1) → va_S A s.heap H locs → ∀ ls : Array Slot, lv_has ls 4 [(2, .int y1_2), (0, .ref (ad 10)), (1, .int x0)] → W p l e (headSpec wsX5_hourOf ({ frames := 3, cells := 0, slots := 0, locals := 192 })).room s m [Value.ref (ad 10), Value.int x0].toArray below meth c H locs 0 0 (MQ below (va_Qi (fun (r : Int32) (u : Nat → Nat → Int32) => Iv u ∧ (∀ k : Nat, k ≠ 12 → u k = v k) ∧ ∀ M : Nat → Nat, lmin (v 10 0).toNatClampNeg (fun i x => bt (v 12 i) x) (fun _ => True) M → ∀ i : Nat, i < (v 10 0).toNatClampNeg → (v 11 i).toInt = x0.toInt → (∀ j : Nat, j < i → (v 11 j).toInt ≠ x0.toInt) → r.toInt = ((M i : Nat) : Int)) (fun u t => ex_Pst dC dI A (wl ad kv cy N u) t) A) [Value.ref (ad 10), Value.int x0].toArray s 0 0 A) (F0 m 2 ls []) := by
    intro n
    induction n with
    | zero =>
      intro y1_2 u1 H locs ay1_2 by1_2 hi1_0 hi1_1 hi1_2 hi1_3 hm_1 hv hP hD hS ls hl
      exact absurd hm_1 (by omega)
    | succ n ih_1 =>
      intro y1_2 u1 H locs ay1_2 by1_2 hi1_0 hi1_1 hi1_2 hi1_3 hm_1 hv hP hD hS ls hl
      refine lv_iload_n hx hb dX5_hourOf_2 rfl (lv_at hl 0 rfl) ?_
      refine lv_aload_n hx hb dX5_hourOf_3 rfl (lv_at hl 1 rfl) ?_
      refine va_get (D := (dC, dI)) (ci := 5) (v := .int (u1 (10) 0)) (C := RX5) (T := TX5) (N := 3) hx hb hts (by decide +kernel) hown hK hP (10) (wl_at (by omega) (ce_2 (by decide))) rfl 0 (by decide) (hts (.fieldLink RX5 18 "QuietStairs$Table" "count" "I") (by decide +kernel)) (fun _ h9 => h9) rfl dX5_hourOf_4 ?_
      refine lv_topi (fun x_2 ex_2 => ?_)
      have bzx_2 : 0 ≤ x_2.toInt ∧ x_2.toInt ≤ 5 := by rw [ex_2]; exact hv.at (K := 2) (by decide) rfl
      have qx_2 : x_2.toInt = (u1 (10) (0)).toInt := congrArg Int32.toInt ex_2
      have hct : x_2 = ct := by rw [ex_2, hi1_0 10 (by decide), ← ect]
      have hcti : x_2.toInt = ct.toInt := by rw [hct]
      refine lv_icmp_ge (tgt := 34) hx hb dX5_hourOf_7 (by decide) (fun c_3 => ?_) (fun c_3 => ?_)
      · have tc_3 : y1_2.toInt ≥ x_2.toInt := Int32.le_iff_toInt_le.mp c_3
        refine lv_bipush (v := (-5)) hx hb dX5_hourOf_34 (by decide) ?_
        have zn_y1_2 : (y1_2.toNatClampNeg : Int) = y1_2.toInt := t_nn (by omega)
        exact W.iret (v := (-5)) hx hb hr (fun t ht hW => ⟨⟨(-5), u1, rfl, ⟨hv, hi1_0, fun M hM i h1 h2 _ => absurd h2 (hi1_2 i (by rw [← ect] at h1; omega))⟩, by rw [ht]; exact hP, hD⟩, hS.F ht⟩) hS.2.2 dX5_hourOf_36
      · have tc_3 : y1_2.toInt < x_2.toInt := Int32.lt_iff_toInt_lt.mp (Int32.not_le.mp c_3)
        refine lv_aload_n hx hb dX5_hourOf_10 rfl (lv_at hl 1 rfl) ?_
        refine lv_iload_n hx hb dX5_hourOf_11 rfl (lv_at hl 0 rfl) ?_
        have zn_y1_2 : (y1_2.toNatClampNeg : Int) = y1_2.toInt := t_nn (by omega)
        refine yw_i (w1 := fun (u : Nat → Nat → Int32) => wl ad kv cy N u) hD hS hA (va_runV (As := [.int y1_2]) (rest := []) ⟨hx, hb, hml, hown, hts⟩ (e_X5_pinLeastHour l dC dI cy _ ad kv N hN u1 hv y1_2 ⟨by omega, by omega⟩) (cwV 1 hts gX5_hourOf_X5_pinLeastHour rfl rfl rfl (by decide +kernel) ⟨Nat.le_of_ble_eq_true rfl, Nat.le_of_ble_eq_true rfl⟩) (yw_preV hE hK hP hD (ci := 5) (q0 := 10) rfl (wl_at (by omega) (ce_2 (by decide)))) rfl rfl hl.1 rfl (lv_room (Nat.le_of_ble_eq_true rfl)) dX5_hourOf_12 ⟨Nat.le_of_ble_eq_true rfl, Nat.le_of_ble_eq_true rfl⟩) (fun r_4 v_4 H locs hw_4 hP hD hS => ?_)
        obtain ⟨hv, hw_4⟩ := hw_4
        obtain ⟨hf1, hf2, hf3⟩ := hw_4
        rw [hi1_0 10 (by decide), ← ect] at hf3
        have hfr9 : ∀ k : Nat, k ≠ 12 → v_4 k = v k := fun k h => (hf1 k h).trans (hi1_0 k h)
        have hpin : ∀ M : Nat → Nat, lmin ct.toNatClampNeg (fun i x => bt (v 12 i) x) (fun _ => True) M → r_4.toInt = ((M y1_2.toNatClampNeg : Nat) : Int) ∧ pnd ct.toNatClampNeg (y1_2.toNatClampNeg + 1) (v 12) (v_4 12) M := fun M hM => by
          have hG := hi1_1 M hM
          have hk9 : ct.toInt = ((ct.toNatClampNeg : Nat) : Int) := by omega
          have hok : ∀ i : Nat, i < ct.toNatClampNeg → ok24 (v 12 i) := fun i hi => hH i (by rw [← ect]; exact hi)
          obtain ⟨⟨m1, m2⟩, m3⟩ := pnd_M hk9 (by omega) hok hM hG (by omega)
          rcases hf3 with ⟨-, -, f3⟩ | ⟨f1, f2, f3, f4, f5⟩
          · exact absurd m3 (f3 _ m1 m2)
          · have zr := t_nn f1.1
            have e := pnd_r hk9 (by omega) hok hM hG (by omega) (by omega) f2 f4 f5
            refine ⟨by rw [← e]; omega, pnd_s hG (fun j => ?_)⟩
            by_cases h : j = y1_2.toNatClampNeg
            · rw [if_pos h, h, f3, e]
            · rw [if_neg h]
              exact hf2 j h
        refine lv_istore_n (lv' := [(3, .int r_4), (2, .int y1_2), (0, .ref (ad 10)), (1, .int x0)]) hx hb dX5_hourOf_15 rfl hl (by decide) rfl (fun ls hl => ?_)
        refine lv_aload_n hx hb dX5_hourOf_16 rfl (lv_at hl 2 rfl) ?_
        refine va_get (D := (dC, dI)) (ci := 5) (v := .ref (ad 11)) (C := RX5) (T := TX5) (N := 3) hx hb hts (by decide +kernel) hown hK hP (10) (wl_at (by omega) (ce_2 (by decide))) rfl 1 (by decide) (hts (.fieldLink RX5 9 "QuietStairs$Table" "musts" "[I") (by decide +kernel)) (fun _ h9 => h9) rfl dX5_hourOf_17 ?_
        refine lv_iload_n hx hb dX5_hourOf_20 rfl (lv_at hl 1 rfl) ?_
        have hx_6 : y1_2.toNatClampNeg < 5 := by omega
        refine va_iald hx hb hK hP (11) 0 (wl_at (by omega) (ce_19 (by decide))) rfl (vp_in_iff.mpr ⟨by omega, by omega⟩) dX5_hourOf_21 ?_
        refine lv_topi (fun x_7 ex_7 => ?_)
        have qx_7 : x_7.toInt = (v_4 (11) (y1_2.toNatClampNeg)).toInt := congrArg Int32.toInt ex_7
        have hm9 : x_7.toInt = (v 11 y1_2.toNatClampNeg).toInt := by rw [ex_7, hfr9 11 (by decide)]
        refine lv_iload_n hx hb dX5_hourOf_22 rfl (lv_at hl 3 rfl) ?_
        refine lv_icmp_ne (tgt := 28) hx hb dX5_hourOf_23 (by decide) (fun c_8 => ?_) (fun c_8 => ?_)
        · have tc_8 : x_7.toInt ≠ x0.toInt := fun q => absurd (Int32.toInt_inj.mp q) c_8
          obtain ⟨x_9, ex_9⟩ : ∃ y : Int32, y = y1_2 + 1 := ⟨_, rfl⟩
          refine lv_iinc (v := x_9) (lv' := [(2, .int x_9), (3, .int r_4), (0, .ref (ad 10)), (1, .int x0)]) hx hb dX5_hourOf_28 hl (k := 1) rfl (by rw [ex_9]; rfl) (by decide) rfl (fun ls hl => ?_)
          have k_1 : (1 : Int32).toInt = 1 := by decide
          have tx_9 : x_9.toInt = y1_2.toInt + (1 : Int32).toInt := by rw [ex_9]; exact t_add ⟨by omega, by omega⟩
          refine lv_goto (tgt := 2) hx hb dX5_hourOf_31 (by decide) ?_
          have zn_x_9 : (x_9.toNatClampNeg : Int) = x_9.toInt := t_nn (by omega)
          exact ih_1 x_9 v_4 _ _ (by omega) (by omega) (hfr9) (fun M hM => by rw [show x_9.toNatClampNeg = y1_2.toNatClampNeg + 1 from by omega]; exact (hpin M hM).2) (fun j hj => by by_cases e : (j : Int) < y1_2.toInt; exact hi1_2 j e; rw [show j = y1_2.toNatClampNeg from by omega, ← hm9]; omega) (by omega) (by omega) hv hP hD hS ls (lv_sub hl [0, 2, 3] rfl)
        · have tc_8 : x_7.toInt = x0.toInt := by rw [c_8]
          refine lv_iload_n hx hb dX5_hourOf_26 rfl (lv_at hl 0 rfl) ?_
          exact W.iret (v := r_4) hx hb hr (fun t ht hW => ⟨⟨r_4, v_4, rfl, ⟨hv, hfr9, fun M hM i h1 h2 h3 => by rw [← ect] at hM; rcases Nat.lt_trichotomy i y1_2.toNatClampNeg with q | q | q; exact absurd h2 (hi1_2 i (by omega)); rw [q]; exact (hpin M hM).1; exact absurd (by rw [← hm9]; omega) (h3 _ q)⟩, by rw [ht]; exact hP, hD⟩, hS.F ht⟩) hS.2.2 dX5_hourOf_27
  exact hc_1 ((5 - (0 : Int32).toInt).toNat + 1) 0 v _ _ (by omega) (by omega) (fun _ _ => rfl) (fun M hM => ⟨fun j hj => absurd hj (by rw [show (0 : Int32).toNatClampNeg = 0 from by decide]; omega), fun j _ _ => rfl⟩) (fun j hj => absurd hj (by omega)) (by omega) (by omega) hv hP hD hS ls (lv_sub hl [0, 1, 2] rfl)
