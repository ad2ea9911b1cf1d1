
set_option maxHeartbeats 4000000 in
set_option maxRecDepth 100000 in
theorem e_X6_hourBits (l : Launch) (dC : Nat → ClassId) (dI : Nat → Nat → Nat) (cy : Nat → ClassId) (sz : Nat) (ad : Nat → Nat) (kv : Value) (N : Nat) (hN : 119 ≤ N) (v : Nat → Nat → Int32) (hv : Iv v) (i : Nat) (hi : i < 6) (j : Nat) (hj : j < 5)  : Met l yX6_hourBits wsX6_hourBits ({ frames := 0, cells := 0, slots := 0, locals := 0 }) (va_Pc [.ref (ad (39 + 15 * i + j))] (ex_Pre dC dI cy sz (wl ad kv cy N v))) (va_Qi (fun (r : Int32) (u : Nat → Nat → Int32) => Iv u ∧ u = v ∧ r = hB (v (39 + 15 * i + j) 3) (v (39 + 15 * i + j) 4)) (fun u t => ex_Pst dC dI (va_A (wl ad kv cy N v) sz) (wl ad kv cy N u) t) (va_A (wl ad kv cy N v) sz)) 0 0 (va_A (wl ad kv cy N v) sz) := by
  refine Met.ofW (cc := cX6_hourBits) (maxL := 1) (ret := (some .int)) (by decide) rfl ?_
  intro p e s m args below meth c s₁ B hml hv
  obtain ⟨rfl, hsz, hE, hP, hK, hD0⟩ := hv
  have hx := B.exec
  have hb := B.bytes
  have hr := B.returns
  have hts := atoms_spec (ws := wsX6_hourBits) B.pre
  have hown : s.vm.findClass RX6 = some m.cls := findClass_of_methodNamed B.named
  have hlocks := B.notSynchronized
  subst hsz
  have hD := hD0.self (sz := s.heap.size)
  generalize hAe : va_A (wl ad kv cy N v) s.heap.size = A at hD ⊢
  have hA : ∀ q : Nat, s.heap.size ≤ q → A q := fun q h => by rw [← hAe]; exact Or.inr h
  have hS : va_S A s.heap s.heap [] := va_S.rf
  have hP : va_P (dC, dI) vwCl (wl ad kv cy N v) s.heap := hP
  have hl := lv_entry ([.ref (ad (39 + 15 * i + j))]) (n := 1) (Nat.le_of_ble_eq_true rfl)
  rw [lg_entry_eq]
  generalize (lg_sl ([.ref (ad (39 + 15 * i + j))]) ++ List.replicate (1 - (lg_sl ([.ref (ad (39 + 15 * i + j))])).length) Slot.unset).toArray = ls at hl ⊢
  have hl : lv_has ls 1 [(0, .ref (ad (39 + 15 * i + j)))] := hl
  refine lv_iconst (v := 1) hx hb dX6_hourBits_0 (by decide) ?_
  refine lv_aload_n hx hb dX6_hourBits_1 rfl (lv_at hl 0 rfl) ?_
  refine va_get (D := (dC, dI)) (ci := 6) (v := .int (v (39 + 15 * i + j) 4)) (C := RX6) (T := TX6) (N := 5) hx hb hts iwX6_hourBits_X6 hown hK hP (39 + 15 * i + j) (wl_at (by omega) (ce_16 (kd_t _ hi _ hj).1)) rfl 4 (by decide) (hts (.fieldLink RX6 7 "QuietStairs$Term" "last" "I") fwX6_hourBits_1) (fun _ h9 => h9) rfl dX6_hourBits_2 ?_
  refine lv_topi (fun x_1 ex_1 => ?_)
  have bzx_1 : 0 ≤ x_1.toInt ∧ x_1.toInt ≤ 23 := by rw [ex_1]; exact hv.at (K := 16) (kd_t _ hi _ hj).1 rfl
  have qx_1 : x_1.toInt = (v (39 + 15 * i + j) (4)).toInt := congrArg Int32.toInt ex_1
  refine lv_iconst (v := 1) hx hb dX6_hourBits_5 (by decide) ?_
  refine lv_iadd hx hb dX6_hourBits_6 ?_
  refine lv_topi (fun x_2 ex_2 => ?_)
  have k_1 : (1 : Int32).toInt = 1 := by decide
  have tx_2 : x_2.toInt = x_1.toInt + (1 : Int32).toInt := by rw [ex_2]; exact t_add ⟨by omega, by omega⟩
  refine lv_ishl hx hb dX6_hourBits_7 ?_
  refine lv_topi (fun x_3 ex_3 => ?_)
  refine lv_iconst (v := 1) hx hb dX6_hourBits_8 (by decide) ?_
  refine lv_aload_n hx hb dX6_hourBits_9 rfl (lv_at hl 0 rfl) ?_
  refine va_get (D := (dC, dI)) (ci := 6) (v := .int (v (39 + 15 * i + j) 3)) (C := RX6) (T := TX6) (N := 5) hx hb hts iwX6_hourBits_X6 hown hK hP (39 + 15 * i + j) (wl_at (by omega) (ce_16 (kd_t _ hi _ hj).1)) rfl 3 (by decide) (hts (.fieldLink RX6 13 "QuietStairs$Term" "first" "I") fwX6_hourBits_2) (fun _ h9 => h9) rfl dX6_hourBits_10 ?_
  refine lv_topi (fun x_4 ex_4 => ?_)
  have bzx_4 : 0 ≤ x_4.toInt ∧ x_4.toInt ≤ 23 := by rw [ex_4]; exact hv.at (K := 16) (kd_t _ hi _ hj).1 rfl
  have qx_4 : x_4.toInt = (v (39 + 15 * i + j) (3)).toInt := congrArg Int32.toInt ex_4
  refine lv_ishl hx hb dX6_hourBits_13 ?_
  refine lv_topi (fun x_5 ex_5 => ?_)
  refine lv_isub hx hb dX6_hourBits_14 ?_
  refine lv_topi (fun x_6 ex_6 => ?_)
  exact W.iret (v := x_6) hx hb hr (fun t ht hW => ⟨⟨x_6, v, rfl, ⟨hv, rfl, by unfold hB; rw [ex_6, ex_3, ex_2, ex_1, ex_5, ex_4]⟩, by rw [ht]; exact hP, hD⟩, hS.F ht⟩) hS.2.2 dX6_hourBits_15

set_option maxHeartbeats 4000000 in
set_option maxRecDepth 100000 in
theorem e_X5_allowedHours (l : Launch) (dC : Nat → ClassId) (dI : Nat → Nat → Nat) (cy : Nat → ClassId) (sz : Nat) (ad : Nat → Nat) (kv : Value) (N : Nat) (hN : 119 ≤ N) (v : Nat → Nat → Int32) (hv : Iv v) (i : Nat) (hi : i < 6) (j : Nat) (hj : j < 5) (x0 : Int32) (hs : 0 ≤ x0.toInt ∧ x0.toInt ≤ 5) (hj2 : (j : Int) < x0.toInt) (hT : ∀ t : Nat, t < 5 → (t : Int) < x0.toInt → (v (39 + 15 * i + t) 3).toInt ≤ (v (39 + 15 * i + t) 4).toInt) : Met l yX5_allowedHours wsX5_allowedHours ({ frames := 1, cells := 0, slots := 0, locals := 64 }) (va_Pc [.ref (ad (29 + 15 * i)), .ref (ad (39 + 15 * i + j)), .int x0] (ex_Pre dC dI cy sz (wl ad kv cy N v))) (va_Qi (fun (r : Int32) (u : Nat → Nat → Int32) => Iv u ∧ u = v ∧ AL (fun t k => (v (39 + 15 * i + t) k).toInt) (v (39 + 15 * i + j) 0).toInt j r x0.toInt) (fun u t => ex_Pst dC dI (va_A (wl ad kv cy N v) sz) (wl ad kv cy N u) t) (va_A (wl ad kv cy N v) sz)) 0 0 (va_A (wl ad kv cy N v) sz) := by
  refine Met.ofW (cc := cX5_allowedHours) (maxL := 6) (ret := (some .int)) (by decide) rfl ?_
  intro p e s m args below meth c s₁ B hml hv
  obtain ⟨rfl, hsz, hE, hP, hK, hD0⟩ := hv
  have hx := B.exec
  have hb := B.bytes
  have hr := B.returns
  have hts := atoms_spec (ws := wsX5_allowedHours) B.pre
  have hown : s.vm.findClass RX5 = some m.cls := findClass_of_methodNamed B.named
  have hlocks := B.notSynchronized
  subst hsz
  have hD := hD0.self (sz := s.heap.size)
  generalize hAe : va_A (wl ad kv cy N v) s.heap.size = A at hD ⊢
  have hA : ∀ q : Nat, s.heap.size ≤ q → A q := fun q h => by rw [← hAe]; exact Or.inr h
  have hS : va_S A s.heap s.heap [] := va_S.rf
  have hP : va_P (dC, dI) vwCl (wl ad kv cy N v) s.heap := hP
  have hl := lv_entry ([.ref (ad (29 + 15 * i)), .ref (ad (39 + 15 * i + j)), .int x0]) (n := 6) (Nat.le_of_ble_eq_true rfl)
  rw [lg_entry_eq]
  generalize (lg_sl ([.ref (ad (29 + 15 * i)), .ref (ad (39 + 15 * i + j)), .int x0]) ++ List.replicate (6 - (lg_sl ([.ref (ad (29 + 15 * i)), .ref (ad (39 + 15 * i + j)), .int x0])).length) Slot.unset).toArray = ls at hl ⊢
  have hl : lv_has ls 6 [(0, .ref (ad (29 + 15 * i))), (1, .ref (ad (39 + 15 * i + j))), (2, .int x0)] := hl
  obtain ⟨DD, eDD⟩ : ∃ f : Nat → Nat → Int, f = fun t k => (v (39 + 15 * i + t) k).toInt := ⟨_, rfl⟩
  obtain ⟨sj, esj⟩ : ∃ z : Int32, z = v (39 + 15 * i + j) 0 := ⟨_, rfl⟩
  have hDsj : DD j 0 = sj.toInt := by rw [eDD, esj]
  obtain ⟨aj, eaj⟩ : ∃ z : Int32, z = v (39 + 15 * i + j) 2 := ⟨_, rfl⟩
  have hDaj : DD j 2 = aj.toInt := by rw [eDD, eaj]
  have hL9 : ∀ t : Nat, t < 5 → (t : Int) < x0.toInt → ok24 (hB (v (39 + 15 * i + t) 3) (v (39 + 15 * i + t) 4)) ∧ ∀ h : Nat, h < 24 → (bt (hB (v (39 + 15 * i + t) 3) (v (39 + 15 * i + t) 4)) h ↔ (DD t 3 ≤ (h : Int) ∧ (h : Int) ≤ DD t 4)) := fun t ht h1 => by
    have q1 := hv.at (k := 39 + 15 * i + t) (j := 3) (K := 16) (kd_t _ hi _ ht).1 rfl
    have q2 := hv.at (k := 39 + 15 * i + t) (j := 4) (K := 16) (kd_t _ hi _ ht).1 rfl
    rw [eDD]
    exact hB_b q1.1 (hT t ht h1) q2.2
  refine lv_aload_n hx hb dX5_allowedHours_0 rfl (lv_at hl 1 rfl) ?_
  refine yw_i (w1 := fun (u : Nat → Nat → Int32) => wl ad kv cy N u) hD hS hA (va_runV (As := []) (rest := []) ⟨hx, hb, hml, hown, hts⟩ (e_X6_hourBits l dC dI cy _ ad kv N hN v hv i hi j hj) (cwV 0 hts gX5_allowedHours_X6_hourBits rfl rfl rfl hd_V_X6_hourBits_0 ⟨Nat.le_of_ble_eq_true rfl, Nat.le_of_ble_eq_true rfl⟩) (yw_preV hE hK hP hD (ci := 6) (q := (RX6, TX6, 5)) (q0 := (39 + 15 * i + j)) rfl (wl_at (by omega) (ce_16 (kd_t _ hi _ hj).1))) rfl rfl hl.1 rfl (lv_room (Nat.le_of_ble_eq_true rfl)) dX5_allowedHours_1 ⟨Nat.le_of_ble_eq_true rfl, Nat.le_of_ble_eq_true rfl⟩) (fun r_1 v_1 H locs hw_1 hP hD hS => ?_)
  obtain ⟨-, hu_1, hw_1⟩ := hw_1
  replace hu_1 := hu_1.symm
  subst hu_1
  refine lv_istore_n (lv' := [(3, .int r_1), (0, .ref (ad (29 + 15 * i))), (1, .ref (ad (39 + 15 * i + j))), (2, .int x0)]) hx hb dX5_allowedHours_4 rfl hl (by decide) rfl (fun ls hl => ?_)
  refine lv_iconst (v := 0) hx hb dX5_allowedHours_5 (by decide) ?_
  refine lv_istore (lv' := [(4, .int 0), (3, .int r_1), (0, .ref (ad (29 + 15 * i))), (1, .ref (ad (39 + 15 * i + j))), (2, .int x0)]) hx hb dX5_allowedHours_6 hl (by decide) rfl (fun ls hl => ?_)
  have hc_2 : ∀ (n : Nat) (y2_4 y2_3 : Int32) (H : Heap) (locs : List Loc), 0 ≤ y2_4.toInt → y2_4.toInt ≤ 5 → (AL DD sj.toInt j y2_3 y2_4.toInt) → (y2_4.toInt ≤ x0.toInt) → (5 - y2_4.toInt).toNat < n → va_P (dC, dI) vwCl (wl ad kv cy N v) H → va_D A (wl ad kv cy N v) → va_S A s.heap H locs → ∀ ls : Array Slot, lv_has ls 6 [(4, .int y2_4), (3, .int y2_3), (0, .ref (ad (29 + 15 * i))), (1, .ref (ad (39 + 15 * i + j))), (2, .int x0)] → W p l e (headSpec wsX5_allowedHours ({ frames := 1, cells := 0, slots := 0, locals := 64 })).room s m [Value.ref (ad (29 + 15 * i)), Value.ref (ad (39 + 15 * i + j)), Value.int x0].toArray below meth c H locs 0 0 (MQ below (va_Qi (fun (r : Int32) (u : Nat → Nat → Int32) => Iv u ∧ u = v ∧ AL (fun t k => (v (39 + 15 * i + t) k).toInt) (v (39 + 15 * i + j) 0).toInt j r x0.toInt) (fun u t => ex_Pst dC dI A (wl ad kv cy N u) t) A) [Value.ref (ad (29 + 15 * i)), Value.ref (ad (39 + 15 * i + j)), Value.int x0].toArray s 0 0 A) (F0 m 8 ls []) := by
    intro n
    induction n with
    | zero =>
      intro y2_4 y2_3 H locs ay2_4 by2_4 hi2_0 hi2_1 hm_2 hP hD hS ls hl
      exact absurd hm_2 (by omega)
    | succ n ih_2 =>
      intro y2_4 y2_3 H locs ay2_4 by2_4 hi2_0 hi2_1 hm_2 hP hD hS ls hl
      refine lv_iload hx hb dX5_allowedHours_8 (lv_at hl 0 rfl) ?_
      refine lv_iload_n hx hb dX5_allowedHours_10 rfl (lv_at hl 4 rfl) ?_
      refine lv_icmp_ge (tgt := 71) hx hb dX5_allowedHours_11 (by decide) (fun c_3 => ?_) (fun c_3 => ?_)
      · have tc_3 : y2_4.toInt ≥ x0.toInt := Int32.le_iff_toInt_le.mp c_3
        refine lv_iload_n hx hb dX5_allowedHours_71 rfl (lv_at hl 1 rfl) ?_
        exact W.iret (v := y2_3) hx hb hr (fun t ht hW => ⟨⟨y2_3, v, rfl, ⟨hv, rfl, by rw [← eDD, ← esj, show x0.toInt = y2_4.toInt from by omega]; exact hi2_0⟩, by rw [ht]; exact hP, hD⟩, hS.F ht⟩) hS.2.2 dX5_allowedHours_72
      · have tc_3 : y2_4.toInt < x0.toInt := Int32.lt_iff_toInt_lt.mp (Int32.not_le.mp c_3)
        refine lv_aload_n hx hb dX5_allowedHours_14 rfl (lv_at hl 2 rfl) ?_
        refine va_get (D := (dC, dI)) (ci := 0) (v := .ref (ad (29 + 15 * i + 9))) (C := RX0) (T := TX0) (N := 11) hx hb hts iwX5_allowedHours_X0 hown hK hP (29 + 15 * i) (wl_at (by omega) (ce_9 (kd_c _ hi).1.1)) rfl 10 (by decide) (hts (.fieldLink RX5 22 "QuietStairs$Case" "terms" "[LQuietStairs$Term;") fwX5_allowedHours_1) (fun _ h9 => h9) rfl dX5_allowedHours_15 ?_
        refine W.eq (g2 := F0 m 18 ls [.ref (ad (38 + 15 * i))]) (by rw [show 29 + 15 * i + 9 = 38 + 15 * i from by omega]) ?_
        refine lv_iload hx hb dX5_allowedHours_18 (lv_at hl 0 rfl) ?_
        have zn_y2_4 : (y2_4.toNatClampNeg : Int) = y2_4.toInt := t_nn (by omega)
        have hx_4 : y2_4.toNatClampNeg < 5 := by omega
        refine va_aldq hx hb hK hP (38 + 15 * i) 4 (wl_at (by omega) (ce_15 (kd_c _ hi).1.2.2.2.2.2)) rfl (vp_in_iff.mpr ⟨by omega, by omega⟩) dX5_allowedHours_20 ?_
        refine W.eq (g2 := F0 m 21 ls [.ref (ad (39 + 15 * i + y2_4.toNatClampNeg))]) (by rw [if_pos hx_4, show 38 + 15 * i + 1 + y2_4.toNatClampNeg = 39 + 15 * i + y2_4.toNatClampNeg from by omega]; rfl) ?_
        refine lv_astore (lv' := [(5, .ref (ad (39 + 15 * i + y2_4.toNatClampNeg))), (4, .int y2_4), (3, .int y2_3), (0, .ref (ad (29 + 15 * i))), (1, .ref (ad (39 + 15 * i + j))), (2, .int x0)]) hx hb dX5_allowedHours_21 hl (by decide) rfl (fun ls hl => ?_)
        refine lv_aload hx hb dX5_allowedHours_23 (lv_at hl 0 rfl) ?_
        refine va_get (D := (dC, dI)) (ci := 6) (v := .int (v (39 + 15 * i + y2_4.toNatClampNeg) 0)) (C := RX6) (T := TX6) (N := 5) hx hb hts iwX5_allowedHours_X6 hown hK hP (39 + 15 * i + y2_4.toNatClampNeg) (wl_at (by omega) (ce_16 (kd_t _ hi _ hx_4).1)) rfl 0 (by decide) (hts (.fieldLink RX5 28 "QuietStairs$Term" "side" "I") fwX5_allowedHours_2) (fun _ h9 => h9) rfl dX5_allowedHours_25 ?_
        refine lv_topi (fun x_5 ex_5 => ?_)
        have bzx_5 : 0 ≤ x_5.toInt ∧ x_5.toInt ≤ 1 := by rw [ex_5]; exact hv.at (K := 16) (kd_t _ hi _ hx_4).1 rfl
        have qx_5 : x_5.toInt = (v (39 + 15 * i + y2_4.toNatClampNeg) (0)).toInt := congrArg Int32.toInt ex_5
        refine lv_aload_n hx hb dX5_allowedHours_28 rfl (lv_at hl 4 rfl) ?_
        refine va_get (D := (dC, dI)) (ci := 6) (v := .int (v (39 + 15 * i + j) 0)) (C := RX6) (T := TX6) (N := 5) hx hb hts iwX5_allowedHours_X6 hown hK hP (39 + 15 * i + j) (wl_at (by omega) (ce_16 (kd_t _ hi _ hj).1)) rfl 0 (by decide) (hts (.fieldLink RX5 28 "QuietStairs$Term" "side" "I") fwX5_allowedHours_2) (fun _ h9 => h9) rfl dX5_allowedHours_29 ?_
        refine lv_topi (fun x_6 ex_6 => ?_)
        have bzx_6 : 0 ≤ x_6.toInt ∧ x_6.toInt ≤ 1 := by rw [ex_6]; exact hv.at (K := 16) (kd_t _ hi _ hj).1 rfl
        obtain rfl : sj = x_6 := (ex_6.trans esj.symm).symm
        refine lv_icmp_ne (tgt := 65) hx hb dX5_allowedHours_32 (by decide) (fun c_7 => ?_) (fun c_7 => ?_)
        · have tc_7 : x_5.toInt ≠ sj.toInt := fun q => absurd (Int32.toInt_inj.mp q) c_7
          obtain ⟨x_8, ex_8⟩ : ∃ y : Int32, y = y2_4 + 1 := ⟨_, rfl⟩
          refine lv_iinc (v := x_8) (lv' := [(4, .int x_8), (5, .ref (ad (39 + 15 * i + y2_4.toNatClampNeg))), (3, .int y2_3), (0, .ref (ad (29 + 15 * i))), (1, .ref (ad (39 + 15 * i + j))), (2, .int x0)]) hx hb dX5_allowedHours_65 hl (k := 1) rfl (by rw [ex_8]; rfl) (by decide) rfl (fun ls hl => ?_)
          have k_1 : (1 : Int32).toInt = 1 := by decide
          have tx_8 : x_8.toInt = y2_4.toInt + (1 : Int32).toInt := by rw [ex_8]; exact t_add ⟨by omega, by omega⟩
          refine lv_goto (tgt := 8) hx hb dX5_allowedHours_68 (by decide) ?_
          have hF0 : DD y2_4.toNatClampNeg 0 = x_5.toInt := by rw [eDD, ex_5]
          exact ih_2 x_8 y2_3 _ _ (by omega) (by omega) (AL_no (o := y2_4.toNatClampNeg) (by omega) (by omega) (fun q => by rw [hF0] at q; omega) hi2_0) (by omega) (by omega) hP hD hS ls (lv_sub hl [0, 2, 3, 4, 5] rfl)
        · have tc_7 : x_5.toInt = sj.toInt := by rw [c_7]
          refine lv_aload hx hb dX5_allowedHours_35 (lv_at hl 0 rfl) ?_
          refine va_get (D := (dC, dI)) (ci := 6) (v := .int (v (39 + 15 * i + y2_4.toNatClampNeg) 1)) (C := RX6) (T := TX6) (N := 5) hx hb hts iwX5_allowedHours_X6 hown hK hP (39 + 15 * i + y2_4.toNatClampNeg) (wl_at (by omega) (ce_16 (kd_t _ hi _ hx_4).1)) rfl 1 (by decide) (hts (.fieldLink RX5 33 "QuietStairs$Term" "must" "Z") fwX5_allowedHours_3) (fun _ h9 => h9) rfl dX5_allowedHours_37 ?_
          refine lv_topi (fun x_8 ex_8 => ?_)
          have bzx_8 : 0 ≤ x_8.toInt ∧ x_8.toInt ≤ 1 := by rw [ex_8]; exact hv.at (K := 16) (kd_t _ hi _ hx_4).1 rfl
          have qx_8 : x_8.toInt = (v (39 + 15 * i + y2_4.toNatClampNeg) (1)).toInt := congrArg Int32.toInt ex_8
          have k_0 : (0 : Int32).toInt = 0 := by decide
          refine lv_if_ne (tgt := 65) hx hb dX5_allowedHours_40 (by decide) (fun c_9 => ?_) (fun c_9 => ?_)
          · have tc_9 : x_8.toInt ≠ (0 : Int32).toInt := fun q => absurd (Int32.toInt_inj.mp q) c_9
            obtain ⟨x_10, ex_10⟩ : ∃ y : Int32, y = y2_4 + 1 := ⟨_, rfl⟩
            refine lv_iinc (v := x_10) (lv' := [(4, .int x_10), (5, .ref (ad (39 + 15 * i + y2_4.toNatClampNeg))), (3, .int y2_3), (0, .ref (ad (29 + 15 * i))), (1, .ref (ad (39 + 15 * i + j))), (2, .int x0)]) hx hb dX5_allowedHours_65 hl (k := 1) rfl (by rw [ex_10]; rfl) (by decide) rfl (fun ls hl => ?_)
            have k_1 : (1 : Int32).toInt = 1 := by decide
            have tx_10 : x_10.toInt = y2_4.toInt + (1 : Int32).toInt := by rw [ex_10]; exact t_add ⟨by omega, by omega⟩
            refine lv_goto (tgt := 8) hx hb dX5_allowedHours_68 (by decide) ?_
            have hF0 : DD y2_4.toNatClampNeg 0 = x_5.toInt := by rw [eDD, ex_5]
            have hF1 : DD y2_4.toNatClampNeg 1 = x_8.toInt := by rw [eDD, ex_8]
            exact ih_2 x_10 y2_3 _ _ (by omega) (by omega) (AL_no (o := y2_4.toNatClampNeg) (by omega) (by omega) (fun q => by rw [hF0, hF1] at q; omega) hi2_0) (by omega) (by omega) hP hD hS ls (lv_sub hl [0, 2, 3, 4, 5] rfl)
          · have tc_9 : x_8.toInt = (0 : Int32).toInt := by rw [c_9]
            refine lv_aload hx hb dX5_allowedHours_43 (lv_at hl 0 rfl) ?_
            refine va_get (D := (dC, dI)) (ci := 6) (v := .int (v (39 + 15 * i + y2_4.toNatClampNeg) 2)) (C := RX6) (T := TX6) (N := 5) hx hb hts iwX5_allowedHours_X6 hown hK hP (39 + 15 * i + y2_4.toNatClampNeg) (wl_at (by omega) (ce_16 (kd_t _ hi _ hx_4).1)) rfl 2 (by decide) (hts (.fieldLink RX5 44 "QuietStairs$Term" "act" "I") fwX5_allowedHours_4) (fun _ h9 => h9) rfl dX5_allowedHours_45 ?_
            refine lv_topi (fun x_10 ex_10 => ?_)
            have qx_10 : x_10.toInt = (v (39 + 15 * i + y2_4.toNatClampNeg) (2)).toInt := congrArg Int32.toInt ex_10
            refine lv_aload_n hx hb dX5_allowedHours_48 rfl (lv_at hl 4 rfl) ?_
            refine va_get (D := (dC, dI)) (ci := 6) (v := .int (v (39 + 15 * i + j) 2)) (C := RX6) (T := TX6) (N := 5) hx hb hts iwX5_allowedHours_X6 hown hK hP (39 + 15 * i + j) (wl_at (by omega) (ce_16 (kd_t _ hi _ hj).1)) rfl 2 (by decide) (hts (.fieldLink RX5 44 "QuietStairs$Term" "act" "I") fwX5_allowedHours_4) (fun _ h9 => h9) rfl dX5_allowedHours_49 ?_
            refine lv_topi (fun x_11 ex_11 => ?_)
            obtain rfl : aj = x_11 := (ex_11.trans eaj.symm).symm
            refine lv_icmp_ne (tgt := 65) hx hb dX5_allowedHours_52 (by decide) (fun c_12 => ?_) (fun c_12 => ?_)
            · have tc_12 : x_10.toInt ≠ aj.toInt := fun q => absurd (Int32.toInt_inj.mp q) c_12
              obtain ⟨x_13, ex_13⟩ : ∃ y : Int32, y = y2_4 + 1 := ⟨_, rfl⟩
              refine lv_iinc (v := x_13) (lv' := [(4, .int x_13), (5, .ref (ad (39 + 15 * i + y2_4.toNatClampNeg))), (3, .int y2_3), (0, .ref (ad (29 + 15 * i))), (1, .ref (ad (39 + 15 * i + j))), (2, .int x0)]) hx hb dX5_allowedHours_65 hl (k := 1) rfl (by rw [ex_13]; rfl) (by decide) rfl (fun ls hl => ?_)
              have k_1 : (1 : Int32).toInt = 1 := by decide
              have tx_13 : x_13.toInt = y2_4.toInt + (1 : Int32).toInt := by rw [ex_13]; exact t_add ⟨by omega, by omega⟩
              refine lv_goto (tgt := 8) hx hb dX5_allowedHours_68 (by decide) ?_
              have hF0 : DD y2_4.toNatClampNeg 0 = x_5.toInt := by rw [eDD, ex_5]
              have hF1 : DD y2_4.toNatClampNeg 1 = x_8.toInt := by rw [eDD, ex_8]
              have hF2 : DD y2_4.toNatClampNeg 2 = x_10.toInt := by rw [eDD, ex_10]
              exact ih_2 x_13 y2_3 _ _ (by omega) (by omega) (AL_no (o := y2_4.toNatClampNeg) (by omega) (by omega) (fun q => by rw [hF0, hF1, hF2, hDaj] at q; omega) hi2_0) (by omega) (by omega) hP hD hS ls (lv_sub hl [0, 2, 3, 4, 5] rfl)
            · have tc_12 : x_10.toInt = aj.toInt := by rw [c_12]
              refine lv_iload_n hx hb dX5_allowedHours_55 rfl (lv_at hl 2 rfl) ?_
              refine lv_aload hx hb dX5_allowedHours_56 (lv_at hl 0 rfl) ?_
              refine yw_i (w1 := fun (u : Nat → Nat → Int32) => wl ad kv cy N u) hD hS hA (va_runV (As := []) (rest := [.int y2_3]) ⟨hx, hb, hml, hown, hts⟩ (e_X6_hourBits l dC dI cy _ ad kv N hN v hv i hi y2_4.toNatClampNeg hx_4) (cwV 0 hts gX5_allowedHours_X6_hourBits rfl rfl rfl hd_V_X6_hourBits_0 ⟨Nat.le_of_ble_eq_true rfl, Nat.le_of_ble_eq_true rfl⟩) (yw_preV hE hK hP hD (ci := 6) (q := (RX6, TX6, 5)) (q0 := (39 + 15 * i + y2_4.toNatClampNeg)) rfl (wl_at (by omega) (ce_16 (kd_t _ hi _ hx_4).1))) rfl rfl hl.1 rfl (lv_room (Nat.le_of_ble_eq_true rfl)) dX5_allowedHours_58 ⟨Nat.le_of_ble_eq_true rfl, Nat.le_of_ble_eq_true rfl⟩) (fun r_13 v_13 H locs hw_13 hP hD hS => ?_)
              obtain ⟨-, hu_13, hw_13⟩ := hw_13
              replace hu_13 := hu_13.symm
              subst hu_13
              refine lv_iconst (v := (-1)) hx hb dX5_allowedHours_61 (by decide) ?_
              refine lv_ixor hx hb dX5_allowedHours_62 ?_
              refine lv_topi (fun x_14 ex_14 => ?_)
              refine lv_iand hx hb dX5_allowedHours_63 ?_
              refine lv_topi (fun x_15 ex_15 => ?_)
              refine lv_istore_n (lv' := [(3, .int x_15), (5, .ref (ad (39 + 15 * i + y2_4.toNatClampNeg))), (4, .int y2_4), (0, .ref (ad (29 + 15 * i))), (1, .ref (ad (39 + 15 * i + j))), (2, .int x0)]) hx hb dX5_allowedHours_64 rfl hl (by decide) rfl (fun ls hl => ?_)
              obtain ⟨x_16, ex_16⟩ : ∃ y : Int32, y = y2_4 + 1 := ⟨_, rfl⟩
              refine lv_iinc (v := x_16) (lv' := [(4, .int x_16), (3, .int x_15), (5, .ref (ad (39 + 15 * i + y2_4.toNatClampNeg))), (0, .ref (ad (29 + 15 * i))), (1, .ref (ad (39 + 15 * i + j))), (2, .int x0)]) hx hb dX5_allowedHours_65 hl (k := 2) rfl (by rw [ex_16]; rfl) (by decide) rfl (fun ls hl => ?_)
              have k_1 : (1 : Int32).toInt = 1 := by decide
              have tx_16 : x_16.toInt = y2_4.toInt + (1 : Int32).toInt := by rw [ex_16]; exact t_add ⟨by omega, by omega⟩
              refine lv_goto (tgt := 8) hx hb dX5_allowedHours_68 (by decide) ?_
              have hF0 : DD y2_4.toNatClampNeg 0 = x_5.toInt := by rw [eDD, ex_5]
              have hF1 : DD y2_4.toNatClampNeg 1 = x_8.toInt := by rw [eDD, ex_8]
              have hF2 : DD y2_4.toNatClampNeg 2 = x_10.toInt := by rw [eDD, ex_10]
              exact ih_2 x_16 x_15 _ _ (by omega) (by omega) (by rw [ex_15, ex_14]; exact AL_yes (o := y2_4.toNatClampNeg) (by omega) (by omega) ⟨by rw [hF0]; omega, by rw [hF1]; omega, by rw [hF2, hDaj]; omega⟩ (by rw [hw_13]; exact (hL9 _ (by omega) (by omega)).2) hi2_0) (by omega) (by omega) hP hD hS ls (lv_sub hl [0, 1, 3, 4, 5] rfl)
  have k_0 : (0 : Int32).toInt = 0 := by decide
  exact hc_2 ((5 - (0 : Int32).toInt).toNat + 1) 0 r_1 _ _ (by omega) (by omega) (AL_0 (by rw [hw_1]; exact hL9 j hj hj2) (by omega)) (by omega) (by omega) hP hD hS ls (lv_sub hl [0, 1, 2, 3, 4] rfl)

set_option maxHeartbeats 4000000 in
set_option maxRecDepth 100000 in
theorem e_X5_read (l : Launch) (dC : Nat → ClassId) (dI : Nat → Nat → Nat) (cy : Nat → ClassId) (sz : Nat) (ad : Nat → Nat) (kv : Value) (N : Nat) (hN : 119 ≤ N) (v : Nat → Nat → Int32) (hv : Iv v) (i : Nat) (hi : i < 6) (x0 x1 : Int32) (hs : 0 ≤ x1.toInt ∧ x1.toInt ≤ 5) (hT : ∀ t : Nat, t < 5 → (t : Int) < x1.toInt → (v (39 + 15 * i + t) 3).toInt ≤ (v (39 + 15 * i + t) 4).toInt) : Met l yX5_read wsX5_read ({ frames := 2, cells := 0, slots := 0, locals := 128 }) (va_Pc [.ref (ad 10), .ref (ad (29 + 15 * i)), .int x0, .int x1] (ex_Pre dC dI cy sz (wl ad kv cy N v))) (va_Qv (fun (u : Nat → Nat → Int32) => Iv u ∧ (∀ k : Nat, k ≠ 10 → k ≠ 11 → k ≠ 12 → u k = v k) ∧ RD (fun t k => (v (39 + 15 * i + t) k).toInt) x0.toInt x1.toInt (u 10 0).toNatClampNeg (fun q => (u 11 q).toNatClampNeg) (u 12) ∧ ∀ q : Nat, (q : Int) < (u 10 0).toInt → 0 ≤ (u 11 q).toInt) (fun u t => ex_Pst dC dI (va_A (wl ad kv cy N v) sz) (wl ad kv cy N u) t) (va_A (wl ad kv cy N v) sz)) 0 0 (va_A (wl ad kv cy N v) sz) := by
  refine Met.ofW (cc := cX5_read) (maxL := 6) (ret := none) (by decide) rfl ?_
  intro p e s m args below meth c s₁ B hml hv
  obtain ⟨rfl, hsz, hE, hP, hK, hD0⟩ := hv
  have hx := B.exec
  have hb := B.bytes
  have hr := B.returns
  have hts := atoms_spec (ws := wsX5_read) B.pre
  have hown : s.vm.findClass RX5 = some m.cls := findClass_of_methodNamed B.named
  have hlocks := B.notSynchronized
  subst hsz
  have hD := hD0.self (sz := s.heap.size)
  generalize hAe : va_A (wl ad kv cy N v) s.heap.size = A at hD ⊢
  have hA : ∀ q : Nat, s.heap.size ≤ q → A q := fun q h => by rw [← hAe]; exact Or.inr h
  have hS : va_S A s.heap s.heap [] := va_S.rf
  have hP : va_P (dC, dI) vwCl (wl ad kv cy N v) s.heap := hP
  have hl := lv_entry ([.ref (ad 10), .ref (ad (29 + 15 * i)), .int x0, .int x1]) (n := 6) (Nat.le_of_ble_eq_true rfl)
  rw [lg_entry_eq]
  generalize (lg_sl ([.ref (ad 10), .ref (ad (29 + 15 * i)), .int x0, .int x1]) ++ List.replicate (6 - (lg_sl ([.ref (ad 10), .ref (ad (29 + 15 * i)), .int x0, .int x1])).length) Slot.unset).toArray = ls at hl ⊢
  have hl : lv_has ls 6 [(0, .ref (ad 10)), (1, .ref (ad (29 + 15 * i))), (2, .int x0), (3, .int x1)] := hl
  obtain ⟨DD, eDD⟩ : ∃ f : Nat → Nat → Int, f = fun t k => (v (39 + 15 * i + t) k).toInt := ⟨_, rfl⟩
  refine lv_aload_n hx hb dX5_read_0 rfl (lv_at hl 0 rfl) ?_
  refine lv_iconst (v := 0) hx hb dX5_read_1 (by decide) ?_
  refine va_put (D := (dC, dI)) (ci := 5) (v := .int 0) (ty := .int) (C := RX5) (T := TX5) (N := 3) hx hb hts iwX5_read_X5 tyX5 tyX5_ok nmX5 hown hK hP hD hS (10) (wl_at (by omega) (ce_2 (by decide))) rfl 0 (by decide) (hts (.fieldLink RX5 18 "QuietStairs$Table" "count" "I") fwX5_read_1) (fun _ h9 => h9) rfl (by decide +kernel) rfl rfl (Nat.le_of_ble_eq_true rfl) dX5_read_2 (fun H locs hP hD hS => ?_)
  have k_0 : (0 : Int32).toInt = 0 := by decide
  obtain ⟨v_1, ev_1⟩ : ∃ u : Nat → Nat → Int32, u = upr v (10) (upd (v (10)) 0 0) := ⟨_, rfl⟩
  have hP : va_P (dC, dI) vwCl (wl ad kv cy N v_1) H := by rw [ev_1, ← wl_put (e := _) (ce_2 (by decide))]; exact hP
  have hD : va_D A (wl ad kv cy N v_1) := by rw [ev_1, ← wl_put (e := _) (ce_2 (by decide))]; exact hD
  have hv : Iv v_1 := by rw [ev_1]; exact hv.put (K := 2) (by decide) (fun h q => by cases q; exact ⟨by omega, by omega⟩)
  refine lv_iconst (v := 0) hx hb dX5_read_5 (by decide) ?_
  refine lv_istore (lv' := [(4, .int 0), (0, .ref (ad 10)), (1, .ref (ad (29 + 15 * i))), (2, .int x0), (3, .int x1)]) hx hb dX5_read_6 hl (by decide) rfl (fun ls hl => ?_)
  have hc_2 : ∀ (n : Nat) (y2_4 : Int32) (u2 : Nat → Nat → Int32) (H : Heap) (locs : List Loc), 0 ≤ y2_4.toInt → y2_4.toInt ≤ 5 → (RDp DD x0.toInt x1.toInt y2_4.toInt (u2 10 0).toNatClampNeg (fun q => (u2 11 q).toNatClampNeg) (u2 12)) → (∀ k : Nat, k ≠ 10 → k ≠ 11 → k ≠ 12 → u2 k = v k) → ((u2 10 0).toInt ≤ y2_4.toInt) → (y2_4.toInt ≤ x1.toInt) → (∀ q : Nat, (q : Int) < (u2 10 0).toInt → 0 ≤ (u2 11 q).toInt) → (5 - y2_4.toInt).toNat < n → Iv u2 → va_P (dC, dI) vwCl (wl ad kv cy N u2) H → va_D A (wl ad kv cy N u2) → va_S A s.heap H locs → ∀ ls : Array Slot, lv_has ls 6 [(4, .int y2_4), (0, .ref (ad 10)), (1, .ref (ad (29 + 15 * i))), (2, .int x0), (3, .int x1)] → W p l e (headSpec wsX5_read ({ frames := 2, cells := 0, slots := 0, locals := 128 })).room s m [Value.ref (ad 10), Value.ref (ad (29 + 15 * i)), Value.int x0, Value.int x1].toArray below meth c H locs 0 0 (MQ below (va_Qv (fun (u : Nat → Nat → Int32) => Iv u ∧ (∀ k : Nat, k ≠ 10 → k ≠ 11 → k ≠ 12 → u k = v k) ∧ RD (fun t k => (v (39 + 15 * i + t) k).toInt) x0.toInt x1.toInt (u 10 0).toNatClampNeg (fun q => (u 11 q).toNatClampNeg) (u 12) ∧ ∀ q : Nat, (q : Int) < (u 10 0).toInt → 0 ≤ (u 11 q).toInt) (fun u t => ex_Pst dC dI A (wl ad kv cy N u) t) A) [Value.ref (ad 10), Value.ref (ad (29 + 15 * i)), Value.int x0, Value.int x1].toArray s 0 0 A) (F0 m 8 ls []) := by
    intro n
    induction n with
    | zero =>
      intro y2_4 u2 H locs ay2_4 by2_4 hi2_0 hi2_1 hi2_2 hi2_3 hi2_4 hm_2 hv hP hD hS ls hl
      exact absurd hm_2 (by omega)
    | succ n ih_2 =>
      intro y2_4 u2 H locs ay2_4 by2_4 hi2_0 hi2_1 hi2_2 hi2_3 hi2_4 hm_2 hv hP hD hS ls hl
      refine lv_iload hx hb dX5_read_8 (lv_at hl 0 rfl) ?_
      refine lv_iload_n hx hb dX5_read_10 rfl (lv_at hl 4 rfl) ?_
      refine lv_icmp_ge (tgt := 83) hx hb dX5_read_11 (by decide) (fun c_3 => ?_) (fun c_3 => ?_)
      · have tc_3 : y2_4.toInt ≥ x1.toInt := Int32.le_iff_toInt_le.mp c_3
        exact W.vret hx hb hr (fun t ht hW => ⟨⟨u2, rfl, ⟨hv, hi2_1, (by rw [← eDD]; have q := hi2_0; rw [show y2_4.toInt = x1.toInt from by omega] at q; exact q), hi2_4⟩, by rw [ht]; exact hP, hD⟩, hS.F ht⟩) hS.2.2 dX5_read_83
      · have tc_3 : y2_4.toInt < x1.toInt := Int32.lt_iff_toInt_lt.mp (Int32.not_le.mp c_3)
        refine lv_aload_n hx hb dX5_read_14 rfl (lv_at hl 2 rfl) ?_
        refine va_get (D := (dC, dI)) (ci := 0) (v := .ref (ad (29 + 15 * i + 9))) (C := RX0) (T := TX0) (N := 11) hx hb hts iwX5_read_X0 hown hK hP (29 + 15 * i) (wl_at (by omega) (ce_9 (kd_c _ hi).1.1)) rfl 10 (by decide) (hts (.fieldLink RX5 22 "QuietStairs$Case" "terms" "[LQuietStairs$Term;") fwX5_read_2) (fun _ h9 => h9) rfl dX5_read_15 ?_
        refine W.eq (g2 := F0 m 18 ls [.ref (ad (38 + 15 * i))]) (by rw [show 29 + 15 * i + 9 = 38 + 15 * i from by omega]) ?_
        refine lv_iload hx hb dX5_read_18 (lv_at hl 0 rfl) ?_
        have zn_y2_4 : (y2_4.toNatClampNeg : Int) = y2_4.toInt := t_nn (by omega)
        have hx_4 : y2_4.toNatClampNeg < 5 := by omega
        refine va_aldq hx hb hK hP (38 + 15 * i) 4 (wl_at (by omega) (ce_15 (kd_c _ hi).1.2.2.2.2.2)) rfl (vp_in_iff.mpr ⟨by omega, by omega⟩) dX5_read_20 ?_
        refine W.eq (g2 := F0 m 21 ls [.ref (ad (39 + 15 * i + y2_4.toNatClampNeg))]) (by rw [if_pos hx_4, show 38 + 15 * i + 1 + y2_4.toNatClampNeg = 39 + 15 * i + y2_4.toNatClampNeg from by omega]; rfl) ?_
        refine lv_astore (lv' := [(5, .ref (ad (39 + 15 * i + y2_4.toNatClampNeg))), (4, .int y2_4), (0, .ref (ad 10)), (1, .ref (ad (29 + 15 * i))), (2, .int x0), (3, .int x1)]) hx hb dX5_read_21 hl (by decide) rfl (fun ls hl => ?_)
        refine lv_aload hx hb dX5_read_23 (lv_at hl 0 rfl) ?_
        refine va_get (D := (dC, dI)) (ci := 6) (v := .int (u2 (39 + 15 * i + y2_4.toNatClampNeg) 0)) (C := RX6) (T := TX6) (N := 5) hx hb hts iwX5_read_X6 hown hK hP (39 + 15 * i + y2_4.toNatClampNeg) (wl_at (by omega) (ce_16 (kd_t _ hi _ hx_4).1)) rfl 0 (by decide) (hts (.fieldLink RX5 28 "QuietStairs$Term" "side" "I") fwX5_read_3) (fun _ h9 => h9) rfl dX5_read_25 ?_
        refine lv_topi (fun x_5 ex_5 => ?_)
        have bzx_5 : 0 ≤ x_5.toInt ∧ x_5.toInt ≤ 1 := by rw [ex_5]; exact hv.at (K := 16) (kd_t _ hi _ hx_4).1 rfl
        have qx_5 : x_5.toInt = (u2 (39 + 15 * i + y2_4.toNatClampNeg) (0)).toInt := congrArg Int32.toInt ex_5
        refine lv_iload_n hx hb dX5_read_28 rfl (lv_at hl 4 rfl) ?_
        have hF0 : DD y2_4.toNatClampNeg 0 = x_5.toInt := by rw [eDD, ex_5, hi2_1 _ (by omega) (by omega) (by omega)]
        refine lv_icmp_ne (tgt := 77) hx hb dX5_read_29 (by decide) (fun c_6 => ?_) (fun c_6 => ?_)
        · have tc_6 : x_5.toInt ≠ x0.toInt := fun q => absurd (Int32.toInt_inj.mp q) c_6
          obtain ⟨x_7, ex_7⟩ : ∃ y : Int32, y = y2_4 + 1 := ⟨_, rfl⟩
          refine lv_iinc (v := x_7) (lv' := [(4, .int x_7), (5, .ref (ad (39 + 15 * i + y2_4.toNatClampNeg))), (0, .ref (ad 10)), (1, .ref (ad (29 + 15 * i))), (2, .int x0), (3, .int x1)]) hx hb dX5_read_77 hl (k := 1) rfl (by rw [ex_7]; rfl) (by decide) rfl (fun ls hl => ?_)
          have k_1 : (1 : Int32).toInt = 1 := by decide
          have tx_7 : x_7.toInt = y2_4.toInt + (1 : Int32).toInt := by rw [ex_7]; exact t_add ⟨by omega, by omega⟩
          refine lv_goto (tgt := 8) hx hb dX5_read_80 (by decide) ?_
          exact ih_2 x_7 u2 _ _ (by omega) (by omega) (RDp_no (t := y2_4.toNatClampNeg) (by omega) (by omega) (fun q => by unfold own at q; rw [hF0] at q; omega) hi2_0) (hi2_1) (by omega) (by omega) (hi2_4) (by omega) hv hP hD hS ls (lv_sub hl [0, 2, 3, 4, 5] rfl)
        · have tc_6 : x_5.toInt = x0.toInt := by rw [c_6]
          refine lv_aload hx hb dX5_read_32 (lv_at hl 0 rfl) ?_
          refine va_get (D := (dC, dI)) (ci := 6) (v := .int (u2 (39 + 15 * i + y2_4.toNatClampNeg) 1)) (C := RX6) (T := TX6) (N := 5) hx hb hts iwX5_read_X6 hown hK hP (39 + 15 * i + y2_4.toNatClampNeg) (wl_at (by omega) (ce_16 (kd_t _ hi _ hx_4).1)) rfl 1 (by decide) (hts (.fieldLink RX5 33 "QuietStairs$Term" "must" "Z") fwX5_read_4) (fun _ h9 => h9) rfl dX5_read_34 ?_
          refine lv_topi (fun x_7 ex_7 => ?_)
          have bzx_7 : 0 ≤ x_7.toInt ∧ x_7.toInt ≤ 1 := by rw [ex_7]; exact hv.at (K := 16) (kd_t _ hi _ hx_4).1 rfl
          have qx_7 : x_7.toInt = (u2 (39 + 15 * i + y2_4.toNatClampNeg) (1)).toInt := congrArg Int32.toInt ex_7
          have hF1 : DD y2_4.toNatClampNeg 1 = x_7.toInt := by rw [eDD, ex_7, hi2_1 _ (by omega) (by omega) (by omega)]
          refine lv_if_eq (tgt := 77) hx hb dX5_read_37 (by decide) (fun c_8 => ?_) (fun c_8 => ?_)
          · have tc_8 : x_7.toInt = (0 : Int32).toInt := by rw [c_8]
            obtain ⟨x_9, ex_9⟩ : ∃ y : Int32, y = y2_4 + 1 := ⟨_, rfl⟩
            refine lv_iinc (v := x_9) (lv' := [(4, .int x_9), (5, .ref (ad (39 + 15 * i + y2_4.toNatClampNeg))), (0, .ref (ad 10)), (1, .ref (ad (29 + 15 * i))), (2, .int x0), (3, .int x1)]) hx hb dX5_read_77 hl (k := 1) rfl (by rw [ex_9]; rfl) (by decide) rfl (fun ls hl => ?_)
            have k_1 : (1 : Int32).toInt = 1 := by decide
            have tx_9 : x_9.toInt = y2_4.toInt + (1 : Int32).toInt := by rw [ex_9]; exact t_add ⟨by omega, by omega⟩
            refine lv_goto (tgt := 8) hx hb dX5_read_80 (by decide) ?_
            exact ih_2 x_9 u2 _ _ (by omega) (by omega) (RDp_no (t := y2_4.toNatClampNeg) (by omega) (by omega) (fun q => by unfold own at q; rw [hF0, hF1] at q; omega) hi2_0) (hi2_1) (by omega) (by omega) (hi2_4) (by omega) hv hP hD hS ls (lv_sub hl [0, 2, 3, 4, 5] rfl)
          · have tc_8 : x_7.toInt ≠ (0 : Int32).toInt := fun q => absurd (Int32.toInt_inj.mp q) c_8
            refine lv_aload_n hx hb dX5_read_40 rfl (lv_at hl 2 rfl) ?_
            refine va_get (D := (dC, dI)) (ci := 5) (v := .ref (ad 11)) (C := RX5) (T := TX5) (N := 3) hx hb hts iwX5_read_X5 hown hK hP (10) (wl_at (by omega) (ce_2 (by decide))) rfl 1 (by decide) (hts (.fieldLink RX5 9 "QuietStairs$Table" "musts" "[I") fwX5_read_5) (fun _ h9 => h9) rfl dX5_read_41 ?_
            refine lv_aload_n hx hb dX5_read_44 rfl (lv_at hl 2 rfl) ?_
            refine va_get (D := (dC, dI)) (ci := 5) (v := .int (u2 (10) 0)) (C := RX5) (T := TX5) (N := 3) hx hb hts iwX5_read_X5 hown hK hP (10) (wl_at (by omega) (ce_2 (by decide))) rfl 0 (by decide) (hts (.fieldLink RX5 18 "QuietStairs$Table" "count" "I") fwX5_read_1) (fun _ h9 => h9) rfl dX5_read_45 ?_
            refine lv_topi (fun x_9 ex_9 => ?_)
            have bzx_9 : 0 ≤ x_9.toInt ∧ x_9.toInt ≤ 5 := by rw [ex_9]; exact hv.at (K := 2) (by decide) rfl
            have qx_9 : x_9.toInt = (u2 (10) (0)).toInt := congrArg Int32.toInt ex_9
            refine lv_iload hx hb dX5_read_48 (lv_at hl 1 rfl) ?_
            have zn_x_9 : (x_9.toNatClampNeg : Int) = x_9.toInt := t_nn (by omega)
            have hx_10 : x_9.toNatClampNeg < 5 := by omega
            refine va_iast hx hb hK hP hD hS (11) 0 (wl_at (by omega) (ce_19 (by decide))) rfl (vp_in_iff.mpr ⟨by omega, by omega⟩) dX5_read_50 (fun H locs hP hD hS => ?_)
            obtain ⟨v_11, ev_11⟩ : ∃ u : Nat → Nat → Int32, u = upr u2 (11) (upd (u2 (11)) (x_9.toNatClampNeg) y2_4) := ⟨_, rfl⟩
            have hP : va_P (dC, dI) vwCl (wl ad kv cy N v_11) H := by rw [ev_11, ← wl_put (e := _) (ce_19 (by decide))]; exact hP
            have hD : va_D A (wl ad kv cy N v_11) := by rw [ev_11, ← wl_put (e := _) (ce_19 (by decide))]; exact hD
            have hv : Iv v_11 := by rw [ev_11]; exact hv.put (K := 19) (by decide) (fun h q => by simp [bd] at q)
            refine lv_aload_n hx hb dX5_read_51 rfl (lv_at hl 2 rfl) ?_
            refine va_get (D := (dC, dI)) (ci := 5) (v := .ref (ad 12)) (C := RX5) (T := TX5) (N := 3) hx hb hts iwX5_read_X5 hown hK hP (10) (wl_at (by omega) (ce_2 (by decide))) rfl 2 (by decide) (hts (.fieldLink RX5 15 "QuietStairs$Table" "hourBits" "[I") fwX5_read_6) (fun _ h9 => h9) rfl dX5_read_52 ?_
            refine lv_aload_n hx hb dX5_read_55 rfl (lv_at hl 2 rfl) ?_
            refine va_get (D := (dC, dI)) (ci := 5) (v := .int (v_11 (10) 0)) (C := RX5) (T := TX5) (N := 3) hx hb hts iwX5_read_X5 hown hK hP (10) (wl_at (by omega) (ce_2 (by decide))) rfl 0 (by decide) (hts (.fieldLink RX5 18 "QuietStairs$Table" "count" "I") fwX5_read_1) (fun _ h9 => h9) rfl dX5_read_56 ?_
            refine lv_topi (fun x_12 ex_12 => ?_)
            have bzx_12 : 0 ≤ x_12.toInt ∧ x_12.toInt ≤ 5 := by rw [ex_12]; exact hv.at (K := 2) (by decide) rfl
            rw [ev_11, upr_n (by omega)] at ex_12
            obtain rfl : x_9 = x_12 := (ex_12.trans ex_9.symm).symm
            refine lv_aload_n hx hb dX5_read_59 rfl (lv_at hl 3 rfl) ?_
            refine lv_aload hx hb dX5_read_60 (lv_at hl 0 rfl) ?_
            refine lv_iload_n hx hb dX5_read_62 rfl (lv_at hl 5 rfl) ?_
            have hK9 : ∀ k : Nat, 13 ≤ k → v_11 k = v k := fun k h => by rw [ev_11, upr_n (by omega)]; exact hi2_1 k (by omega) (by omega) (by omega)
            have hE9 : (fun t k => (v_11 (39 + 15 * i + t) k).toInt) = DD := by rw [eDD]; funext t k; rw [hK9 _ (by omega)]
            refine yw_i (w1 := fun (u : Nat → Nat → Int32) => wl ad kv cy N u) hD hS hA (va_runS (As := [.ref (ad (29 + 15 * i)), .ref (ad (39 + 15 * i + y2_4.toNatClampNeg)), .int x1]) (rest := [.int x_9, .ref (ad 12)]) ⟨hx, hb, hml, hown, hts⟩ (e_X5_allowedHours l dC dI cy _ ad kv N hN v_11 hv i hi y2_4.toNatClampNeg hx_4 x1 ⟨by omega, by omega⟩ (by omega) (fun t ht h1 => by rw [hK9 _ (by omega)]; exact hT t ht h1)) (cwS 3 hts gX5_read_X5_allowedHours rfl rfl rfl hd_S_X5_allowedHours_3 ⟨Nat.le_of_ble_eq_true rfl, Nat.le_of_ble_eq_true rfl⟩) (yw_preS hE hK hP hD) rfl rfl hl.1 rfl (lv_room (Nat.le_of_ble_eq_true rfl)) dX5_read_63 ⟨Nat.le_of_ble_eq_true rfl, Nat.le_of_ble_eq_true rfl⟩) (fun r_13 v_13 H locs hw_13 hP hD hS => ?_)
            obtain ⟨-, hu_13, hw_13⟩ := hw_13
            replace hu_13 := hu_13.symm
            subst hu_13
            rw [hE9] at hw_13
            have hs9 : (v_11 (39 + 15 * i + y2_4.toNatClampNeg) 0).toInt = x0.toInt := by rw [hK9 _ (by omega)]; have q := hF0; rw [eDD] at q; have q2 : (v (39 + 15 * i + y2_4.toNatClampNeg) 0).toInt = _ := q; omega
            rw [hs9] at hw_13
            have hAL9 : ok24 r_13 ∧ ∀ h : Nat, h < 24 → (bt r_13 h ↔ alw DD x0.toInt x1.toInt y2_4.toNatClampNeg h) := hw_13
            refine va_iast hx hb hK hP hD hS (12) 0 (wl_at (by omega) (ce_19 (by decide))) rfl (vp_in_iff.mpr ⟨by omega, by omega⟩) dX5_read_66 (fun H locs hP hD hS => ?_)
            obtain ⟨v_14, ev_14⟩ : ∃ u : Nat → Nat → Int32, u = upr v_11 (12) (upd (v_11 (12)) (x_9.toNatClampNeg) r_13) := ⟨_, rfl⟩
            have hP : va_P (dC, dI) vwCl (wl ad kv cy N v_14) H := by rw [ev_14, ← wl_put (e := _) (ce_19 (by decide))]; exact hP
            have hD : va_D A (wl ad kv cy N v_14) := by rw [ev_14, ← wl_put (e := _) (ce_19 (by decide))]; exact hD
            have hv : Iv v_14 := by rw [ev_14]; exact hv.put (K := 19) (by decide) (fun h q => by simp [bd] at q)
            refine lv_aload_n hx hb dX5_read_67 rfl (lv_at hl 2 rfl) ?_
            refine lv_dup hx hb dX5_read_68 rfl ?_
            refine va_get (D := (dC, dI)) (ci := 5) (v := .int (v_14 (10) 0)) (C := RX5) (T := TX5) (N := 3) hx hb hts iwX5_read_X5 hown hK hP (10) (wl_at (by omega) (ce_2 (by decide))) rfl 0 (by decide) (hts (.fieldLink RX5 18 "QuietStairs$Table" "count" "I") fwX5_read_1) (fun _ h9 => h9) rfl dX5_read_69 ?_
            refine lv_topi (fun x_15 ex_15 => ?_)
            have bzx_15 : 0 ≤ x_15.toInt ∧ x_15.toInt ≤ 5 := by rw [ex_15]; exact hv.at (K := 2) (by decide) rfl
            rw [ev_14, upr_n (by omega), ev_11, upr_n (by omega)] at ex_15
            obtain rfl : x_9 = x_15 := (ex_15.trans ex_9.symm).symm
            refine lv_iconst (v := 1) hx hb dX5_read_72 (by decide) ?_
            refine lv_iadd hx hb dX5_read_73 ?_
            refine lv_topi (fun x_16 ex_16 => ?_)
            have k_1 : (1 : Int32).toInt = 1 := by decide
            have tx_16 : x_16.toInt = x_9.toInt + (1 : Int32).toInt := by rw [ex_16]; exact t_add ⟨by omega, by omega⟩
            refine va_put (D := (dC, dI)) (ci := 5) (v := .int x_16) (ty := .int) (C := RX5) (T := TX5) (N := 3) hx hb hts iwX5_read_X5 tyX5 tyX5_ok nmX5 hown hK hP hD hS (10) (wl_at (by omega) (ce_2 (by decide))) rfl 0 (by decide) (hts (.fieldLink RX5 18 "QuietStairs$Table" "count" "I") fwX5_read_1) (fun _ h9 => h9) rfl (by decide +kernel) rfl rfl (Nat.le_of_ble_eq_true rfl) dX5_read_74 (fun H locs hP hD hS => ?_)
            obtain ⟨v_17, ev_17⟩ : ∃ u : Nat → Nat → Int32, u = upr v_14 (10) (upd (v_14 (10)) 0 x_16) := ⟨_, rfl⟩
            have hP : va_P (dC, dI) vwCl (wl ad kv cy N v_17) H := by rw [ev_17, ← wl_put (e := _) (ce_2 (by decide))]; exact hP
            have hD : va_D A (wl ad kv cy N v_17) := by rw [ev_17, ← wl_put (e := _) (ce_2 (by decide))]; exact hD
            have hv : Iv v_17 := by rw [ev_17]; exact hv.put (K := 2) (by decide) (fun h q => by cases q; exact ⟨by omega, by omega⟩)
            obtain ⟨x_18, ex_18⟩ : ∃ y : Int32, y = y2_4 + 1 := ⟨_, rfl⟩
            refine lv_iinc (v := x_18) (lv' := [(4, .int x_18), (5, .ref (ad (39 + 15 * i + y2_4.toNatClampNeg))), (0, .ref (ad 10)), (1, .ref (ad (29 + 15 * i))), (2, .int x0), (3, .int x1)]) hx hb dX5_read_77 hl (k := 1) rfl (by rw [ex_18]; rfl) (by decide) rfl (fun ls hl => ?_)
            have tx_18 : x_18.toInt = y2_4.toInt + (1 : Int32).toInt := by rw [ex_18]; exact t_add ⟨by omega, by omega⟩
            refine lv_goto (tgt := 8) hx hb dX5_read_80 (by decide) ?_
            have hc0 : (u2 10 0).toNatClampNeg = x_9.toNatClampNeg := by rw [← ex_9]
            have g10 : v_17 10 0 = x_16 := by rw [ev_17, upr_s, pk_us]
            have g11 : v_17 11 = upd (u2 11) (x_9.toNatClampNeg) y2_4 := by rw [ev_17, upr_n (by decide), ev_14, upr_n (by decide), ev_11, upr_s]
            have g12 : v_17 12 = upd (u2 12) (x_9.toNatClampNeg) r_13 := by rw [ev_17, upr_n (by decide), ev_14, upr_s, ev_11, upr_n (by decide)]
            have zn_x_16 : (x_16.toNatClampNeg : Int) = x_16.toInt := t_nn (by omega)
            exact ih_2 x_18 v_17 _ _ (by omega) (by omega) (RDp_new (t := y2_4.toNatClampNeg) (b := r_13) (by omega) (by omega) ⟨by rw [hF0]; omega, by rw [hF1]; omega⟩ hAL9 hi2_0 (by rw [g10, hc0]; omega) (fun q hq => by rw [hc0] at hq; show (v_17 11 q).toNatClampNeg = _; rw [g11, pk_un (by omega)]) (by show (v_17 11 (u2 10 0).toNatClampNeg).toNatClampNeg = _; rw [g11, hc0, pk_us]) (fun q hq => by rw [hc0] at hq; rw [g12, pk_un (by omega)]) (by rw [g12, hc0, pk_us])) (fun k h1 h2 h3 => by rw [ev_17, upr_n h1, ev_14, upr_n h3, ev_11, upr_n h2]; exact hi2_1 k h1 h2 h3) (by rw [g10]; omega) (by omega) (fun q hq => by rw [g10] at hq; rw [g11]; by_cases e : q = x_9.toNatClampNeg; rw [e, pk_us]; omega; rw [pk_un e]; exact hi2_4 q (by omega)) (by omega) hv hP hD hS ls (lv_sub hl [0, 2, 3, 4, 5] rfl)
  exact hc_2 ((5 - (0 : Int32).toInt).toNat + 1) 0 v_1 _ _ (by omega) (by omega) (RDp_0 (by rw [ev_1, upr_s, pk_us]; decide) (by decide)) (fun k h1 h2 h3 => by rw [ev_1, upr_n h1]) (by rw [ev_1, upr_s, pk_us]; decide) (by omega) (fun q hq => absurd hq (by rw [ev_1, upr_s, pk_us]; omega)) (by omega) hv hP hD hS ls (lv_sub hl [0, 1, 2, 3, 4] rfl)

set_option maxHeartbeats 4000000 in
set_option maxRecDepth 100000 in
theorem e_X5_stands (l : Launch) (dC : Nat → ClassId) (dI : Nat → Nat → Nat) (cy : Nat → ClassId) (sz : Nat) (ad : Nat → Nat) (kv : Value) (N : Nat) (hN : 119 ≤ N) (v : Nat → Nat → Int32) (hv : Iv v)  : Met l yX5_stands wsX5_stands ({ frames := 1, cells := 0, slots := 0, locals := 64 }) (va_Pc [.ref (ad 10)] (ex_Pre dC dI cy sz (wl ad kv cy N v))) (va_Qi (fun (r : Int32) (u : Nat → Nat → Int32) => Iv u ∧ u = v ∧ ((r = 1 ∧ HL (v 10 0) (v 12)) ∨ (r = 0 ∧ ¬ HL (v 10 0) (v 12)))) (fun u t => ex_Pst dC dI (va_A (wl ad kv cy N v) sz) (wl ad kv cy N u) t) (va_A (wl ad kv cy N v) sz)) 0 0 (va_A (wl ad kv cy N v) sz) := by
  refine Met.ofW (cc := cX5_stands) (maxL := 4) (ret := (some .boolean)) (by decide) rfl ?_
  intro p e s m args below meth c s₁ B hml hv
  obtain ⟨rfl, hsz, hE, hP, hK, hD0⟩ := hv
  have hx := B.exec
  have hb := B.bytes
  have hr := B.returns
  have hts := atoms_spec (ws := wsX5_stands) B.pre
  have hown : s.vm.findClass RX5 = some m.cls := findClass_of_methodNamed B.named
  have hlocks := B.notSynchronized
  subst hsz
  have hD := hD0.self (sz := s.heap.size)
  generalize hAe : va_A (wl ad kv cy N v) s.heap.size = A at hD ⊢
  have hA : ∀ q : Nat, s.heap.size ≤ q → A q := fun q h => by rw [← hAe]; exact Or.inr h
  have hS : va_S A s.heap s.heap [] := va_S.rf
  have hP : va_P (dC, dI) vwCl (wl ad kv cy N v) s.heap := hP
  have hl := lv_entry ([.ref (ad 10)]) (n := 4) (Nat.le_of_ble_eq_true rfl)
  rw [lg_entry_eq]
  generalize (lg_sl ([.ref (ad 10)]) ++ List.replicate (4 - (lg_sl ([.ref (ad 10)])).length) Slot.unset).toArray = ls at hl ⊢
  have hl : lv_has ls 4 [(0, .ref (ad 10))] := hl
  obtain ⟨ct, ect⟩ : ∃ z : Int32, z = v 10 0 := ⟨_, rfl⟩
  have hbct : 0 ≤ ct.toInt ∧ ct.toInt ≤ 5 := by rw [ect]; exact hv.at (K := 2) (by decide) rfl
  have zn_ct : (ct.toNatClampNeg : Int) = ct.toInt := t_nn (by omega)
  obtain ⟨HH, eHH⟩ : ∃ f : Nat → Int32, f = v 12 := ⟨_, rfl⟩
  refine lv_iconst (v := 1) hx hb dX5_stands_0 (by decide) ?_
  refine lv_istore_n (lv' := [(1, .int 1), (0, .ref (ad 10))]) hx hb dX5_stands_1 rfl hl (by decide) rfl (fun ls hl => ?_)
  have hc_1 : ∀ (n : Nat) (y1_1 : Int32) (H : Heap) (locs : List Loc), 1 ≤ y1_1.toInt → y1_1.toInt ≤ 33 → (∀ g : Int32, 1 ≤ g.toInt → g.toInt < y1_1.toInt → (bcF g).toInt ≤ (bcF (uI HH g ct.toNatClampNeg)).toInt) → (33 - y1_1.toInt).toNat < n → va_P (dC, dI) vwCl (wl ad kv cy N v) H → va_D A (wl ad kv cy N v) → va_S A s.heap H locs → ∀ ls : Array Slot, lv_has ls 4 [(1, .int y1_1), (0, .ref (ad 10))] → W p l e (headSpec wsX5_stands ({ frames := 1, cells := 0, slots := 0, locals := 64 })).room s m [Value.ref (ad 10)].toArray below meth c H locs 0 0 (MQ below (va_Qi (fun (r : Int32) (u : Nat → Nat → Int32) => Iv u ∧ u = v ∧ ((r = 1 ∧ HL (v 10 0) (v 12)) ∨ (r = 0 ∧ ¬ HL (v 10 0) (v 12)))) (fun u t => ex_Pst dC dI A (wl ad kv cy N u) t) A) [Value.ref (ad 10)].toArray s 0 0 A) (F0 m 2 ls []) := by
    intro n
    induction n with
    | zero =>
      intro y1_1 H locs ay1_1 by1_1 hi1_0 hm_1 hP hD hS ls hl
      exact absurd hm_1 (by omega)
    | succ n ih_1 =>
      intro y1_1 H locs ay1_1 by1_1 hi1_0 hm_1 hP hD hS ls hl
      refine lv_iload_n hx hb dX5_stands_2 rfl (lv_at hl 0 rfl) ?_
      refine lv_iconst (v := 1) hx hb dX5_stands_3 (by decide) ?_
      refine lv_aload_n hx hb dX5_stands_4 rfl (lv_at hl 1 rfl) ?_
      refine va_get (D := (dC, dI)) (ci := 5) (v := .int (v (10) 0)) (C := RX5) (T := TX5) (N := 3) hx hb hts iwX5_stands_X5 hown hK hP (10) (wl_at (by omega) (ce_2 (by decide))) rfl 0 (by decide) (hts (.fieldLink RX5 18 "QuietStairs$Table" "count" "I") fwX5_stands_1) (fun _ h9 => h9) rfl dX5_stands_5 ?_
      refine lv_topi (fun x_2 ex_2 => ?_)
      have bzx_2 : 0 ≤ x_2.toInt ∧ x_2.toInt ≤ 5 := by rw [ex_2]; exact hv.at (K := 2) (by decide) rfl
      obtain rfl : ct = x_2 := (ex_2.trans ect.symm).symm
      refine lv_ishl hx hb dX5_stands_8 ?_
      refine lv_topi (fun x_3 ex_3 => ?_)
      have tx_3 : 1 ≤ x_3.toInt ∧ x_3.toInt ≤ 32 := by rw [ex_3]; exact t_shl ⟨by omega, by omega⟩
      refine lv_icmp_ge (tgt := 66) hx hb dX5_stands_9 (by decide) (fun c_4 => ?_) (fun c_4 => ?_)
      · have tc_4 : y1_1.toInt ≥ x_3.toInt := Int32.le_iff_toInt_le.mp c_4
        refine lv_iconst (v := 1) hx hb dX5_stands_66 (by decide) ?_
        exact W.zret (ty := .boolean) (v := 1) hx hb hr rfl (fun t ht hW => ⟨⟨1, v, rfl, ⟨hv, rfl, Or.inl ⟨rfl, by rw [← ect, ← eHH]; intro g h1 h2; rw [← ex_3] at h2; exact hi1_0 g h1 (by omega)⟩⟩, by rw [ht]; exact hP, hD⟩, hS.F ht⟩) hS.2.2 dX5_stands_67
      · have tc_4 : y1_1.toInt < x_3.toInt := Int32.lt_iff_toInt_lt.mp (Int32.not_le.mp c_4)
        refine lv_iconst (v := 0) hx hb dX5_stands_12 (by decide) ?_
        refine lv_istore_n (lv' := [(2, .int 0), (1, .int y1_1), (0, .ref (ad 10))]) hx hb dX5_stands_13 rfl hl (by decide) rfl (fun ls hl => ?_)
        refine lv_iconst (v := 0) hx hb dX5_stands_14 (by decide) ?_
        refine lv_istore_n (lv' := [(3, .int 0), (2, .int 0), (1, .int y1_1), (0, .ref (ad 10))]) hx hb dX5_stands_15 rfl hl (by decide) rfl (fun ls hl => ?_)
        have hc_5 : ∀ (n : Nat) (y5_3 y5_2 : Int32) (H : Heap) (locs : List Loc), 0 ≤ y5_3.toInt → y5_3.toInt ≤ 5 → (y5_2 = uI HH y1_1 y5_3.toNatClampNeg) → (y5_3.toInt ≤ ct.toInt) → (5 - y5_3.toInt).toNat < n → va_P (dC, dI) vwCl (wl ad kv cy N v) H → va_D A (wl ad kv cy N v) → va_S A s.heap H locs → ∀ ls : Array Slot, lv_has ls 4 [(3, .int y5_3), (2, .int y5_2), (1, .int y1_1), (0, .ref (ad 10))] → W p l e (headSpec wsX5_stands ({ frames := 1, cells := 0, slots := 0, locals := 64 })).room s m [Value.ref (ad 10)].toArray below meth c H locs 0 0 (MQ below (va_Qi (fun (r : Int32) (u : Nat → Nat → Int32) => Iv u ∧ u = v ∧ ((r = 1 ∧ HL (v 10 0) (v 12)) ∨ (r = 0 ∧ ¬ HL (v 10 0) (v 12)))) (fun u t => ex_Pst dC dI A (wl ad kv cy N u) t) A) [Value.ref (ad 10)].toArray s 0 0 A) (F0 m 16 ls []) := by
          intro n
          induction n with
          | zero =>
            intro y5_3 y5_2 H locs ay5_3 by5_3 hi5_0 hi5_1 hm_5 hP hD hS ls hl
            exact absurd hm_5 (by omega)
          | succ n ih_5 =>
            intro y5_3 y5_2 H locs ay5_3 by5_3 hi5_0 hi5_1 hm_5 hP hD hS ls hl
            refine lv_iload_n hx hb dX5_stands_16 rfl (lv_at hl 0 rfl) ?_
            refine lv_aload_n hx hb dX5_stands_17 rfl (lv_at hl 3 rfl) ?_
            refine va_get (D := (dC, dI)) (ci := 5) (v := .int (v (10) 0)) (C := RX5) (T := TX5) (N := 3) hx hb hts iwX5_stands_X5 hown hK hP (10) (wl_at (by omega) (ce_2 (by decide))) rfl 0 (by decide) (hts (.fieldLink RX5 18 "QuietStairs$Table" "count" "I") fwX5_stands_1) (fun _ h9 => h9) rfl dX5_stands_18 ?_
            refine lv_topi (fun x_6 ex_6 => ?_)
            have bzx_6 : 0 ≤ x_6.toInt ∧ x_6.toInt ≤ 5 := by rw [ex_6]; exact hv.at (K := 2) (by decide) rfl
            obtain rfl : ct = x_6 := (ex_6.trans ect.symm).symm
            refine lv_icmp_ge (tgt := 47) hx hb dX5_stands_21 (by decide) (fun c_7 => ?_) (fun c_7 => ?_)
            · have tc_7 : y5_3.toInt ≥ ct.toInt := Int32.le_iff_toInt_le.mp c_7
              refine lv_iload_n hx hb dX5_stands_47 rfl (lv_at hl 1 rfl) ?_
              refine yc_p hP hS (va_runS (As := [.int y5_2]) (rest := []) ⟨hx, hb, hml, hown, hts⟩ (e_bitCount l y5_2) (va_cwS 1 hts gX5_stands_J6_bitCount_0f7a4 rfl rfl rfl hd_w_J6_bitCount_0f7a4_1 ⟨Nat.le_of_ble_eq_true rfl, Nat.le_of_ble_eq_true rfl⟩) ex_preP rfl rfl hl.1 rfl (lv_room (Nat.le_of_ble_eq_true rfl)) dX5_stands_48 ⟨Nat.le_of_ble_eq_true rfl, Nat.le_of_ble_eq_true rfl⟩) (fun r_8 H locs hw_8 hP hS => ?_)
              refine lv_iload_n hx hb dX5_stands_51 rfl (lv_at hl 2 rfl) ?_
              refine yc_p hP hS (va_runS (As := [.int y1_1]) (rest := [.int r_8]) ⟨hx, hb, hml, hown, hts⟩ (e_bitCount l y1_1) (va_cwS 1 hts gX5_stands_J6_bitCount_0f7a4 rfl rfl rfl hd_w_J6_bitCount_0f7a4_1 ⟨Nat.le_of_ble_eq_true rfl, Nat.le_of_ble_eq_true rfl⟩) ex_preP rfl rfl hl.1 rfl (lv_room (Nat.le_of_ble_eq_true rfl)) dX5_stands_52 ⟨Nat.le_of_ble_eq_true rfl, Nat.le_of_ble_eq_true rfl⟩) (fun r_9 H locs hw_9 hP hS => ?_)
              refine lv_icmp_ge (tgt := 60) hx hb dX5_stands_55 (by decide) (fun c_10 => ?_) (fun c_10 => ?_)
              · have tc_10 : r_8.toInt ≥ r_9.toInt := Int32.le_iff_toInt_le.mp c_10
                obtain ⟨x_11, ex_11⟩ : ∃ y : Int32, y = y1_1 + 1 := ⟨_, rfl⟩
                refine lv_iinc (v := x_11) (lv' := [(1, .int x_11), (3, .int y5_3), (2, .int y5_2), (0, .ref (ad 10))]) hx hb dX5_stands_60 hl (k := 2) rfl (by rw [ex_11]; rfl) (by decide) rfl (fun ls hl => ?_)
                have k_1 : (1 : Int32).toInt = 1 := by decide
                have tx_11 : x_11.toInt = y1_1.toInt + (1 : Int32).toInt := by rw [ex_11]; exact t_add ⟨by omega, by omega⟩
                refine lv_goto (tgt := 2) hx hb dX5_stands_63 (by decide) ?_
                have zn_y5_3 : (y5_3.toNatClampNeg : Int) = y5_3.toInt := t_nn (by omega)
                have hu9 : y5_2 = uI HH y1_1 ct.toNatClampNeg := by rw [hi5_0, show y5_3.toNatClampNeg = ct.toNatClampNeg from by omega]
                exact ih_1 x_11 _ _ (by omega) (by omega) (fun g h1 h2 => by by_cases e : g.toInt < y1_1.toInt; exact hi1_0 g h1 e; rw [show g = y1_1 from Int32.toInt_inj.mp (by omega), ← hu9, ← hw_8, ← hw_9]; omega) (by omega) hP hD hS ls (lv_sub hl [0, 3] rfl)
              · have tc_10 : r_8.toInt < r_9.toInt := Int32.lt_iff_toInt_lt.mp (Int32.not_le.mp c_10)
                refine lv_iconst (v := 0) hx hb dX5_stands_58 (by decide) ?_
                have zn_y5_3 : (y5_3.toNatClampNeg : Int) = y5_3.toInt := t_nn (by omega)
                have hu9 : y5_2 = uI HH y1_1 ct.toNatClampNeg := by rw [hi5_0, show y5_3.toNatClampNeg = ct.toNatClampNeg from by omega]
                exact W.zret (ty := .boolean) (v := 0) hx hb hr rfl (fun t ht hW => ⟨⟨0, v, rfl, ⟨hv, rfl, Or.inr ⟨rfl, fun q => by rw [← ect, ← eHH] at q; have w9 := q y1_1 (by omega) (by rw [← ex_3]; omega); rw [← hu9, ← hw_8, ← hw_9] at w9; omega⟩⟩, by rw [ht]; exact hP, hD⟩, hS.F ht⟩) hS.2.2 dX5_stands_59
            · have tc_7 : y5_3.toInt < ct.toInt := Int32.lt_iff_toInt_lt.mp (Int32.not_le.mp c_7)
              refine lv_iload_n hx hb dX5_stands_24 rfl (lv_at hl 2 rfl) ?_
              refine lv_iload_n hx hb dX5_stands_25 rfl (lv_at hl 0 rfl) ?_
              refine yc_p hP hS (va_runSN (As := [.int y1_1, .int y5_3]) (rest := []) ⟨hx, hb, hml, hown, hts⟩ (e_X7_hasBit l y1_1 y5_3) ⟨va_cnB 2 hts gX5_stands_X7_hasBit_n47 rfl rfl rfl hE.2.2.2.2.2.2.2.2.2.2.2.2.1 (hts (.initialized RX7) fwX5_stands_4) (by decide +kernel) ⟨Nat.le_of_ble_eq_true rfl, Nat.le_of_ble_eq_true rfl⟩, (hts (.static yX7_hasBit) fwX5_stands_3), trivial⟩ ex_preP rfl rfl hl.1 rfl (lv_room (Nat.le_of_ble_eq_true rfl)) dX5_stands_26 ⟨Nat.le_of_ble_eq_true rfl, Nat.le_of_ble_eq_true rfl⟩) (fun r_8 H locs hw_8 hP hS => ?_)
              rcases hw_8 with ⟨rfl, hh_9⟩ | ⟨rfl, hh_9⟩
              · refine lv_if_eq (tgt := 41) hx hb dX5_stands_29 (by decide) (fun c9 => absurd c9 (by decide)) (fun _ => ?_)
                refine lv_iload_n hx hb dX5_stands_32 rfl (lv_at hl 1 rfl) ?_
                refine lv_aload_n hx hb dX5_stands_33 rfl (lv_at hl 3 rfl) ?_
                refine va_get (D := (dC, dI)) (ci := 5) (v := .ref (ad 12)) (C := RX5) (T := TX5) (N := 3) hx hb hts iwX5_stands_X5 hown hK hP (10) (wl_at (by omega) (ce_2 (by decide))) rfl 2 (by decide) (hts (.fieldLink RX5 15 "QuietStairs$Table" "hourBits" "[I") fwX5_stands_2) (fun _ h9 => h9) rfl dX5_stands_34 ?_
                refine lv_iload_n hx hb dX5_stands_37 rfl (lv_at hl 0 rfl) ?_
                have zn_y5_3 : (y5_3.toNatClampNeg : Int) = y5_3.toInt := t_nn (by omega)
                have hx_10 : y5_3.toNatClampNeg < 5 := by omega
                refine va_iald hx hb hK hP (12) 0 (wl_at (by omega) (ce_19 (by decide))) rfl (vp_in_iff.mpr ⟨by omega, by omega⟩) dX5_stands_38 ?_
                refine lv_topi (fun x_11 ex_11 => ?_)
                have qx_11 : x_11.toInt = (v (12) (y5_3.toNatClampNeg)).toInt := congrArg Int32.toInt ex_11
                refine lv_ior hx hb dX5_stands_39 ?_
                refine lv_topi (fun x_12 ex_12 => ?_)
                refine lv_istore_n (lv' := [(2, .int x_12), (3, .int y5_3), (1, .int y1_1), (0, .ref (ad 10))]) hx hb dX5_stands_40 rfl hl (by decide) rfl (fun ls hl => ?_)
                obtain ⟨x_13, ex_13⟩ : ∃ y : Int32, y = y5_3 + 1 := ⟨_, rfl⟩
                refine lv_iinc (v := x_13) (lv' := [(3, .int x_13), (2, .int x_12), (1, .int y1_1), (0, .ref (ad 10))]) hx hb dX5_stands_41 hl (k := 1) rfl (by rw [ex_13]; rfl) (by decide) rfl (fun ls hl => ?_)
                have k_1 : (1 : Int32).toInt = 1 := by decide
                have tx_13 : x_13.toInt = y5_3.toInt + (1 : Int32).toInt := by rw [ex_13]; exact t_add ⟨by omega, by omega⟩
                refine lv_goto (tgt := 16) hx hb dX5_stands_44 (by decide) ?_
                have zn_x_13 : (x_13.toNatClampNeg : Int) = x_13.toInt := t_nn (by omega)
                exact ih_5 x_13 x_12 _ _ (by omega) (by omega) (by rw [show x_13.toNatClampNeg = y5_3.toNatClampNeg + 1 from by omega, uI_p (by rw [← ofn (x := y5_3) (by omega)]; exact hh_9), ← hi5_0, ex_12, ex_11, eHH]) (by omega) (by omega) hP hD hS ls (lv_sub hl [0, 1, 2, 3] rfl)
              · refine lv_if_eq (tgt := 41) hx hb dX5_stands_29 (by decide) (fun _ => ?_) (fun c9 => absurd c9 (by decide))
                obtain ⟨x_10, ex_10⟩ : ∃ y : Int32, y = y5_3 + 1 := ⟨_, rfl⟩
                refine lv_iinc (v := x_10) (lv' := [(3, .int x_10), (2, .int y5_2), (1, .int y1_1), (0, .ref (ad 10))]) hx hb dX5_stands_41 hl (k := 0) rfl (by rw [ex_10]; rfl) (by decide) rfl (fun ls hl => ?_)
                have k_1 : (1 : Int32).toInt = 1 := by decide
                have tx_10 : x_10.toInt = y5_3.toInt + (1 : Int32).toInt := by rw [ex_10]; exact t_add ⟨by omega, by omega⟩
                refine lv_goto (tgt := 16) hx hb dX5_stands_44 (by decide) ?_
                have zn_x_10 : (x_10.toNatClampNeg : Int) = x_10.toInt := t_nn (by omega)
                have zn_y5_3 : (y5_3.toNatClampNeg : Int) = y5_3.toInt := t_nn (by omega)
                exact ih_5 x_10 y5_2 _ _ (by omega) (by omega) (by rw [show x_10.toNatClampNeg = y5_3.toNatClampNeg + 1 from by omega, uI_n (by rw [← ofn (x := y5_3) (by omega)]; exact hh_9)]; exact hi5_0) (by omega) (by omega) hP hD hS ls (lv_sub hl [0, 1, 2, 3] rfl)
        have k_0 : (0 : Int32).toInt = 0 := by decide
        exact hc_5 ((5 - (0 : Int32).toInt).toNat + 1) 0 0 _ _ (by omega) (by omega) (by rw [show (0 : Int32).toNatClampNeg = 0 from by decide]; rfl) (by omega) (by omega) hP hD hS ls (lv_sub hl [0, 1, 2, 3] rfl)
  have k_1 : (1 : Int32).toInt = 1 := by decide
  exact hc_1 ((33 - (1 : Int32).toInt).toNat + 1) 1 _ _ (by omega) (by omega) (fun g h1 h2 => absurd h2 (by omega)) (by omega) hP hD hS ls (lv_sub hl [0, 1] rfl)

theorem RD_HL {D : Nat → Nat → Int} {sd : Int} {n K : Nat} {m : Nat → Nat} {H : Nat → Int32} {k : Int32} (h : RD D sd n K m H) (hk : k.toInt = (K : Int)) (hK : K ≤ 5) : HL k H ↔ ∃ S : Nat → Nat, sdr n 24 (alw D sd n) (own D sd) S := (HL_sdr hk hK (fun i hi => (h.1.2 i hi).2.1)).trans (RD_iff h)
/-- there is a table for a side among the first n terms -/
def TB (D : Nat → Nat → Int) (sd : Int) (n : Nat) : Prop := ∃ S : Nat → Nat, sdr n 24 (alw D sd n) (own D sd) S

theorem fz_of {v u : Nat → Nat → Int32} (h : ∀ k : Nat, k ≠ 10 → k ≠ 11 → k ≠ 12 → u k = v k) : Fz v u := ⟨h 0 (by decide) (by decide) (by decide), fun k hk => h k (by omega) (by omega) (by omega)⟩

set_option maxHeartbeats 4000000 in
set_option maxRecDepth 100000 in
theorem e_X7_canHold (l : Launch) (dC : Nat → ClassId) (dI : Nat → Nat → Nat) (cy : Nat → ClassId) (sz : Nat) (ad : Nat → Nat) (kv : Value) (N : Nat) (hN : 119 ≤ N) (v : Nat → Nat → Int32) (hv : Iv v) (x0 x1 : Int32) (hT : ∀ c t : Nat, c < 6 → (c : Int) < (v 13 2).toInt → t < 5 → (t : Int) < (v (29 + 15 * c) 5).toInt → (v (39 + 15 * c + t) 3).toInt ≤ (v (39 + 15 * c + t) 4).toInt) : Met l yX7_canHold wsX7_canHold ({ frames := 3, cells := 0, slots := 0, locals := 192 }) (va_Pc [.ref (ad 0), .int x0, .int x1] (ex_Pre dC dI cy sz (wl ad kv cy N v))) (va_Qi (fun (r : Int32) (u : Nat → Nat → Int32) => Iv u ∧ (¬ ((0 ≤ x0.toInt ∧ x0.toInt < (v 13 2).toInt) ∧ 0 ≤ x1.toInt ∧ x1.toInt ≤ 1) → (r = -1) ∧ Fz v u) ∧ (((0 ≤ x0.toInt ∧ x0.toInt < (v 13 2).toInt) ∧ 0 ≤ x1.toInt ∧ x1.toInt ≤ 1) ∧ TB (fun t k => (v (39 + 15 * x0.toNatClampNeg + t) k).toInt) x1.toInt (v (29 + 15 * x0.toNatClampNeg) 5).toNatClampNeg → (r = 1) ∧ Fz v u) ∧ (((0 ≤ x0.toInt ∧ x0.toInt < (v 13 2).toInt) ∧ 0 ≤ x1.toInt ∧ x1.toInt ≤ 1) ∧ ¬ TB (fun t k => (v (39 + 15 * x0.toNatClampNeg + t) k).toInt) x1.toInt (v (29 + 15 * x0.toNatClampNeg) 5).toNatClampNeg → (r = 0) ∧ Fz v u)) (fun u t => ex_Pst dC dI (va_A (wl ad kv cy N v) sz) (wl ad kv cy N u) t) (va_A (wl ad kv cy N v) sz)) 0 0 (va_A (wl ad kv cy N v) sz) := by
  refine Met.ofW (cc := cX7_canHold) (maxL := 3) (ret := (some .int)) (by decide) rfl ?_
  intro p e s m args below meth c s₁ B hml hv
  obtain ⟨rfl, hsz, hE, hP, hK, hD0⟩ := hv
  have hx := B.exec
  have hb := B.bytes
  have hr := B.returns
  have hts := atoms_spec (ws := wsX7_canHold) B.pre
  have hown : s.vm.findClass RX7 = some m.cls := findClass_of_methodNamed B.named
  have hlocks := B.notSynchronized
  subst hsz
  have hD := hD0.self (sz := s.heap.size)
  generalize hAe : va_A (wl ad kv cy N v) s.heap.size = A at hD ⊢
  have hA : ∀ q : Nat, s.heap.size ≤ q → A q := fun q h => by rw [← hAe]; exact Or.inr h
  have hS : va_S A s.heap s.heap [] := va_S.rf
  have hP : va_P (dC, dI) vwCl (wl ad kv cy N v) s.heap := hP
  have hl := lv_entry ([.ref (ad 0), .int x0, .int x1]) (n := 3) (Nat.le_of_ble_eq_true rfl)
  rw [lg_entry_eq]
  generalize (lg_sl ([.ref (ad 0), .int x0, .int x1]) ++ List.replicate (3 - (lg_sl ([.ref (ad 0), .int x0, .int x1])).length) Slot.unset).toArray = ls at hl ⊢
  have hl : lv_has ls 3 [(0, .ref (ad 0)), (1, .int x0), (2, .int x1)] := hl
  refine lv_aload_n hx hb dX7_canHold_0 rfl (lv_at hl 0 rfl) ?_
  refine lv_iload_n hx hb dX7_canHold_1 rfl (lv_at hl 1 rfl) ?_
  refine yw_i (w1 := fun (u : Nat → Nat → Int32) => wl ad kv cy N u) hD hS hA (va_runV (As := [.int x0]) (rest := []) ⟨hx, hb, hml, hown, hts⟩ (g_X7_isCase l dC dI cy _ ad kv N hN v hv x0) (cwV 1 hts gX7_canHold_X7_isCase rfl rfl rfl hd_V_X7_isCase_1 ⟨Nat.le_of_ble_eq_true rfl, Nat.le_of_ble_eq_true rfl⟩) (yw_preV hE hK hP hD (ci := 7) (q := (RX7, TX7, 5)) (q0 := 0) rfl (wl_at (by omega) (ce_0 (by decide)))) rfl rfl hl.1 rfl (lv_room (Nat.le_of_ble_eq_true rfl)) dX7_canHold_2 ⟨Nat.le_of_ble_eq_true rfl, Nat.le_of_ble_eq_true rfl⟩) (fun r_1 v_1 H locs hw_1 hP hD hS => ?_)
  obtain ⟨-, hu_1, hw_1⟩ := hw_1
  replace hu_1 := hu_1.symm
  subst hu_1
  rcases hw_1 with ⟨rfl, ha_2⟩ | ⟨rfl, ha_2⟩
  · have hb_2 := hv.at (k := 13) (j := 2) (K := 3) (by decide) rfl
    have hj_2 : 0 ≤ x0.toInt ∧ x0.toInt ≤ 5 := ⟨by omega, by omega⟩
    refine lv_if_eq (tgt := 15) hx hb dX7_canHold_5 (by decide) (fun c9 => absurd c9 (by decide)) (fun _ => ?_)
    refine lv_iload_n hx hb dX7_canHold_8 rfl (lv_at hl 2 rfl) ?_
    refine yc_p hP hS (va_runS (As := [.int x1]) (rest := []) ⟨hx, hb, hml, hown, hts⟩ (c_X7_isSide l x1) (cwS 1 hts gX7_canHold_X7_isSide rfl rfl rfl hd_S_X7_isSide_1 ⟨Nat.le_of_ble_eq_true rfl, Nat.le_of_ble_eq_true rfl⟩) ex_preP rfl rfl hl.1 rfl (lv_room (Nat.le_of_ble_eq_true rfl)) dX7_canHold_9 ⟨Nat.le_of_ble_eq_true rfl, Nat.le_of_ble_eq_true rfl⟩) (fun r_3 H locs hw_3 hP hS => ?_)
    rcases wi_ca hw_3 with ⟨rfl, hc_4⟩ | ⟨rfl, hc_4⟩
    · have k_0 : (0 : Int32).toInt = 0 := by decide
      have k_1 : (1 : Int32).toInt = 1 := by decide
      have tc_4 := wi_tl hc_4
      refine lv_if_ne (tgt := 17) hx hb dX7_canHold_12 (by decide) (fun _ => ?_) (fun c9 => absurd c9 (by decide))
      refine lv_aload_n hx hb dX7_canHold_17 rfl (lv_at hl 0 rfl) ?_
      refine va_get (D := (dC, dI)) (ci := 7) (v := .ref (ad 10)) (C := RX7) (T := TX7) (N := 5) hx hb hts iwX7_canHold_X7 hown hK hP (0) (wl_at (by omega) (ce_0 (by decide))) rfl 2 (by decide) (hts (.fieldLink RX7 26 "QuietStairs" "table" "LQuietStairs$Table;") fwX7_canHold_1) (fun _ h9 => h9) rfl dX7_canHold_18 ?_
      refine lv_aload_n hx hb dX7_canHold_21 rfl (lv_at hl 0 rfl) ?_
      refine va_get (D := (dC, dI)) (ci := 7) (v := .ref (ad 13)) (C := RX7) (T := TX7) (N := 5) hx hb hts iwX7_canHold_X7 hown hK hP (0) (wl_at (by omega) (ce_0 (by decide))) rfl 0 (by decide) (hts (.fieldLink RX7 12 "QuietStairs" "now" "LQuietStairs$House;") fwX7_canHold_2) (fun _ h9 => h9) rfl dX7_canHold_22 ?_
      refine va_get (D := (dC, dI)) (ci := 1) (v := .ref (ad 16)) (C := RX1) (T := TX1) (N := 7) hx hb hts iwX7_canHold_X1 hown hK hP (13) (wl_at (by omega) (ce_3 (by decide))) rfl 6 (by decide) (hts (.fieldLink RX7 86 "QuietStairs$House" "cases" "[LQuietStairs$Case;") fwX7_canHold_3) (fun _ h9 => h9) rfl dX7_canHold_25 ?_
      refine lv_iload_n hx hb dX7_canHold_28 rfl (lv_at hl 1 rfl) ?_
      have zn_x0 : (x0.toNatClampNeg : Int) = x0.toInt := t_nn (by omega)
      have hx_5 : x0.toNatClampNeg < 6 := by omega
      refine va_aldq hx hb hK hP (16) 3 (wl_at (by omega) (ce_6 (by decide))) rfl (vp_in_iff.mpr ⟨by omega, by omega⟩) dX7_canHold_29 ?_
      refine W.eq (g2 := F0 m 30 ls [.ref (ad (29 + 15 * x0.toNatClampNeg)), .ref (ad 10)]) (by rw [if_pos hx_5, show 16 + 13 + 15 * x0.toNatClampNeg = 29 + 15 * x0.toNatClampNeg from by omega]; rfl) ?_
      refine lv_iload_n hx hb dX7_canHold_30 rfl (lv_at hl 2 rfl) ?_
      refine lv_aload_n hx hb dX7_canHold_31 rfl (lv_at hl 0 rfl) ?_
      refine va_get (D := (dC, dI)) (ci := 7) (v := .ref (ad 13)) (C := RX7) (T := TX7) (N := 5) hx hb hts iwX7_canHold_X7 hown hK hP (0) (wl_at (by omega) (ce_0 (by decide))) rfl 0 (by decide) (hts (.fieldLink RX7 12 "QuietStairs" "now" "LQuietStairs$House;") fwX7_canHold_2) (fun _ h9 => h9) rfl dX7_canHold_32 ?_
      refine va_get (D := (dC, dI)) (ci := 1) (v := .ref (ad 16)) (C := RX1) (T := TX1) (N := 7) hx hb hts iwX7_canHold_X1 hown hK hP (13) (wl_at (by omega) (ce_3 (by decide))) rfl 6 (by decide) (hts (.fieldLink RX7 86 "QuietStairs$House" "cases" "[LQuietStairs$Case;") fwX7_canHold_3) (fun _ h9 => h9) rfl dX7_canHold_35 ?_
      refine lv_iload_n hx hb dX7_canHold_38 rfl (lv_at hl 1 rfl) ?_
      refine va_aldq hx hb hK hP (16) 3 (wl_at (by omega) (ce_6 (by decide))) rfl (vp_in_iff.mpr ⟨by omega, by omega⟩) dX7_canHold_39 ?_
      refine W.eq (g2 := F0 m 40 ls [.ref (ad (29 + 15 * x0.toNatClampNeg)), .int x1, .ref (ad (29 + 15 * x0.toNatClampNeg)), .ref (ad 10)]) (by rw [if_pos hx_5, show 16 + 13 + 15 * x0.toNatClampNeg = 29 + 15 * x0.toNatClampNeg from by omega]; rfl) ?_
      refine va_get (D := (dC, dI)) (ci := 0) (v := .int (v (29 + 15 * x0.toNatClampNeg) 5)) (C := RX0) (T := TX0) (N := 11) hx hb hts iwX7_canHold_X0 hown hK hP (29 + 15 * x0.toNatClampNeg) (wl_at (by omega) (ce_9 (kd_c _ hx_5).1.1)) rfl 5 (by decide) (hts (.fieldLink RX7 169 "QuietStairs$Case" "termCount" "I") fwX7_canHold_4) (fun _ h9 => h9) rfl dX7_canHold_40 ?_
      refine lv_topi (fun x_6 ex_6 => ?_)
      have bzx_6 : 0 ≤ x_6.toInt ∧ x_6.toInt ≤ 5 := by rw [ex_6]; exact hv.at (K := 9) (kd_c _ hx_5).1.1 rfl
      have qx_6 : x_6.toInt = (v (29 + 15 * x0.toNatClampNeg) (5)).toInt := congrArg Int32.toInt ex_6
      have zn_x_6 : (x_6.toNatClampNeg : Int) = x_6.toInt := t_nn (by omega)
      refine yw_v (w1 := fun (u : Nat → Nat → Int32) => wl ad kv cy N u) hD hS hA (va_runV (As := [.ref (ad (29 + 15 * x0.toNatClampNeg)), .int x1, .int x_6]) (rest := []) ⟨hx, hb, hml, hown, hts⟩ (e_X5_read l dC dI cy _ ad kv N hN v hv x0.toNatClampNeg hx_5 x1 x_6 ⟨by omega, by omega⟩ (fun t ht h1 => hT _ t hx_5 (by omega) ht (by omega))) (cwV 3 hts gX7_canHold_X5_read rfl rfl rfl hd_V_X5_read_3 ⟨Nat.le_of_ble_eq_true rfl, Nat.le_of_ble_eq_true rfl⟩) (yw_preV hE hK hP hD (ci := 5) (q := (RX5, TX5, 3)) (q0 := 10) rfl (wl_at (by omega) (ce_2 (by decide)))) rfl rfl hl.1 rfl (lv_room (Nat.le_of_ble_eq_true rfl)) dX7_canHold_43 ⟨Nat.le_of_ble_eq_true rfl, Nat.le_of_ble_eq_true rfl⟩) (fun v_7 H locs hw_7 hP hD hS => ?_)
      obtain ⟨hv, hw_7⟩ := hw_7
      obtain ⟨hg_8, hd_8, hn_8⟩ := hw_7
      have hk_8 := hv.at (k := 10) (j := 0) (K := 2) (by decide) rfl
      have hz_8 := t_nn hk_8.1
      refine lv_aload_n hx hb dX7_canHold_46 rfl (lv_at hl 0 rfl) ?_
      refine va_get (D := (dC, dI)) (ci := 7) (v := .ref (ad 10)) (C := RX7) (T := TX7) (N := 5) hx hb hts iwX7_canHold_X7 hown hK hP (0) (wl_at (by omega) (ce_0 (by decide))) rfl 2 (by decide) (hts (.fieldLink RX7 26 "QuietStairs" "table" "LQuietStairs$Table;") fwX7_canHold_1) (fun _ h9 => h9) rfl dX7_canHold_47 ?_
      refine yw_i (w1 := fun (u : Nat → Nat → Int32) => wl ad kv cy N u) hD hS hA (va_runV (As := []) (rest := []) ⟨hx, hb, hml, hown, hts⟩ (e_X5_stands l dC dI cy _ ad kv N hN v_7 hv ) (cwV 0 hts gX7_canHold_X5_stands rfl rfl rfl hd_V_X5_stands_0 ⟨Nat.le_of_ble_eq_true rfl, Nat.le_of_ble_eq_true rfl⟩) (yw_preV hE hK hP hD (ci := 5) (q := (RX5, TX5, 3)) (q0 := 10) rfl (wl_at (by omega) (ce_2 (by decide)))) rfl rfl hl.1 rfl (lv_room (Nat.le_of_ble_eq_true rfl)) dX7_canHold_50 ⟨Nat.le_of_ble_eq_true rfl, Nat.le_of_ble_eq_true rfl⟩) (fun r_9 v_9 H locs hw_9 hP hD hS => ?_)
      obtain ⟨-, hu_9, hw_9⟩ := hw_9
      replace hu_9 := hu_9.symm
      subst hu_9
      rcases hw_9 with ⟨rfl, hz_10⟩ | ⟨rfl, hz_10⟩
      · have hq_10 : HL (v_7 10 0) (v_7 12) ↔ TB (fun t k => (v (39 + 15 * x0.toNatClampNeg + t) k).toInt) x1.toInt x_6.toNatClampNeg := RD_HL (by rw [show ((x_6.toNatClampNeg : Nat) : Int) = x_6.toInt from t_nn (by omega)]; exact hd_8) (by omega) (by omega)
        have ht_10 : TB (fun t k => (v (39 + 15 * x0.toNatClampNeg + t) k).toInt) x1.toInt x_6.toNatClampNeg := hq_10.mp hz_10
        refine lv_if_eq (tgt := 60) hx hb dX7_canHold_53 (by decide) (fun c9 => absurd c9 (by decide)) (fun _ => ?_)
        refine lv_iconst (v := 1) hx hb dX7_canHold_56 (by decide) ?_
        refine lv_goto (tgt := 61) hx hb dX7_canHold_57 (by decide) ?_
        have htb : TB (fun t k => (v (39 + 15 * x0.toNatClampNeg + t) k).toInt) x1.toInt (v (29 + 15 * x0.toNatClampNeg) 5).toNatClampNeg := by rw [← ex_6]; exact ht_10
        have hpost : (¬ ((0 ≤ x0.toInt ∧ x0.toInt < (v 13 2).toInt) ∧ 0 ≤ x1.toInt ∧ x1.toInt ≤ 1) → ((1 : Int32) = -1) ∧ Fz v v_7) ∧ (((0 ≤ x0.toInt ∧ x0.toInt < (v 13 2).toInt) ∧ 0 ≤ x1.toInt ∧ x1.toInt ≤ 1) ∧ TB (fun t k => (v (39 + 15 * x0.toNatClampNeg + t) k).toInt) x1.toInt (v (29 + 15 * x0.toNatClampNeg) 5).toNatClampNeg → ((1 : Int32) = 1) ∧ Fz v v_7) ∧ (((0 ≤ x0.toInt ∧ x0.toInt < (v 13 2).toInt) ∧ 0 ≤ x1.toInt ∧ x1.toInt ≤ 1) ∧ ¬ TB (fun t k => (v (39 + 15 * x0.toNatClampNeg + t) k).toInt) x1.toInt (v (29 + 15 * x0.toNatClampNeg) 5).toNatClampNeg → ((1 : Int32) = 0) ∧ Fz v v_7) := by
          refine ⟨fun hq => ?_, fun hq => ?_, fun hq => ?_⟩
          · exfalso; omega
          · exact ⟨rfl, fz_of hg_8⟩
          · exact absurd htb hq.2
        exact W.iret (v := 1) hx hb hr (fun t ht hW => ⟨⟨1, v_7, rfl, ⟨hv, hpost⟩, by rw [ht]; exact hP, hD⟩, hS.F ht⟩) hS.2.2 dX7_canHold_61
      · have hq_10 : HL (v_7 10 0) (v_7 12) ↔ TB (fun t k => (v (39 + 15 * x0.toNatClampNeg + t) k).toInt) x1.toInt x_6.toNatClampNeg := RD_HL (by rw [show ((x_6.toNatClampNeg : Nat) : Int) = x_6.toInt from t_nn (by omega)]; exact hd_8) (by omega) (by omega)
        have ht_10 : ¬ TB (fun t k => (v (39 + 15 * x0.toNatClampNeg + t) k).toInt) x1.toInt x_6.toNatClampNeg := fun q => hz_10 (hq_10.mpr q)
        refine lv_if_eq (tgt := 60) hx hb dX7_canHold_53 (by decide) (fun _ => ?_) (fun c9 => absurd c9 (by decide))
        refine lv_iconst (v := 0) hx hb dX7_canHold_60 (by decide) ?_
        have htb : ¬ TB (fun t k => (v (39 + 15 * x0.toNatClampNeg + t) k).toInt) x1.toInt (v (29 + 15 * x0.toNatClampNeg) 5).toNatClampNeg := by rw [← ex_6]; exact ht_10
        have hpost : (¬ ((0 ≤ x0.toInt ∧ x0.toInt < (v 13 2).toInt) ∧ 0 ≤ x1.toInt ∧ x1.toInt ≤ 1) → ((0 : Int32) = -1) ∧ Fz v v_7) ∧ (((0 ≤ x0.toInt ∧ x0.toInt < (v 13 2).toInt) ∧ 0 ≤ x1.toInt ∧ x1.toInt ≤ 1) ∧ TB (fun t k => (v (39 + 15 * x0.toNatClampNeg + t) k).toInt) x1.toInt (v (29 + 15 * x0.toNatClampNeg) 5).toNatClampNeg → ((0 : Int32) = 1) ∧ Fz v v_7) ∧ (((0 ≤ x0.toInt ∧ x0.toInt < (v 13 2).toInt) ∧ 0 ≤ x1.toInt ∧ x1.toInt ≤ 1) ∧ ¬ TB (fun t k => (v (39 + 15 * x0.toNatClampNeg + t) k).toInt) x1.toInt (v (29 + 15 * x0.toNatClampNeg) 5).toNatClampNeg → ((0 : Int32) = 0) ∧ Fz v v_7) := by
          refine ⟨fun hq => ?_, fun hq => ?_, fun hq => ?_⟩
          · exfalso; omega
          · exact absurd hq.2 htb
          · exact ⟨rfl, fz_of hg_8⟩
        exact W.iret (v := 0) hx hb hr (fun t ht hW => ⟨⟨0, v_7, rfl, ⟨hv, hpost⟩, by rw [ht]; exact hP, hD⟩, hS.F ht⟩) hS.2.2 dX7_canHold_61
    · have k_0 : (0 : Int32).toInt = 0 := by decide
      have k_1 : (1 : Int32).toInt = 1 := by decide
      have tc_4 : ¬ ((0 : Int32).toInt ≤ x1.toInt ∧ x1.toInt ≤ (1 : Int32).toInt) := fun q => hc_4 ⟨Int32.le_iff_toInt_le.mpr q.1, Int32.le_iff_toInt_le.mpr q.2⟩
      refine lv_if_ne (tgt := 17) hx hb dX7_canHold_12 (by decide) (fun c9 => absurd c9 (by decide)) (fun _ => ?_)
      refine lv_iconst (v := (-1)) hx hb dX7_canHold_15 (by decide) ?_
      have hpost : (¬ ((0 ≤ x0.toInt ∧ x0.toInt < (v 13 2).toInt) ∧ 0 ≤ x1.toInt ∧ x1.toInt ≤ 1) → (((-1) : Int32) = -1) ∧ Fz v v) ∧ (((0 ≤ x0.toInt ∧ x0.toInt < (v 13 2).toInt) ∧ 0 ≤ x1.toInt ∧ x1.toInt ≤ 1) ∧ TB (fun t k => (v (39 + 15 * x0.toNatClampNeg + t) k).toInt) x1.toInt (v (29 + 15 * x0.toNatClampNeg) 5).toNatClampNeg → (((-1) : Int32) = 1) ∧ Fz v v) ∧ (((0 ≤ x0.toInt ∧ x0.toInt < (v 13 2).toInt) ∧ 0 ≤ x1.toInt ∧ x1.toInt ≤ 1) ∧ ¬ TB (fun t k => (v (39 + 15 * x0.toNatClampNeg + t) k).toInt) x1.toInt (v (29 + 15 * x0.toNatClampNeg) 5).toNatClampNeg → (((-1) : Int32) = 0) ∧ Fz v v) := by
        refine ⟨fun hq => ?_, fun hq => ?_, fun hq => ?_⟩
        · exact ⟨rfl, Fz.rf⟩
        · exact absurd hq.1 (by omega)
        · exact absurd hq.1 (by omega)
      exact W.iret (v := (-1)) hx hb hr (fun t ht hW => ⟨⟨(-1), v, rfl, ⟨hv, hpost⟩, by rw [ht]; exact hP, hD⟩, hS.F ht⟩) hS.2.2 dX7_canHold_16
  · refine lv_if_eq (tgt := 15) hx hb dX7_canHold_5 (by decide) (fun _ => ?_) (fun c9 => absurd c9 (by decide))
    refine lv_iconst (v := (-1)) hx hb dX7_canHold_15 (by decide) ?_
    have hpost : (¬ ((0 ≤ x0.toInt ∧ x0.toInt < (v 13 2).toInt) ∧ 0 ≤ x1.toInt ∧ x1.toInt ≤ 1) → (((-1) : Int32) = -1) ∧ Fz v v) ∧ (((0 ≤ x0.toInt ∧ x0.toInt < (v 13 2).toInt) ∧ 0 ≤ x1.toInt ∧ x1.toInt ≤ 1) ∧ TB (fun t k => (v (39 + 15 * x0.toNatClampNeg + t) k).toInt) x1.toInt (v (29 + 15 * x0.toNatClampNeg) 5).toNatClampNeg → (((-1) : Int32) = 1) ∧ Fz v v) ∧ (((0 ≤ x0.toInt ∧ x0.toInt < (v 13 2).toInt) ∧ 0 ≤ x1.toInt ∧ x1.toInt ≤ 1) ∧ ¬ TB (fun t k => (v (39 + 15 * x0.toNatClampNeg + t) k).toInt) x1.toInt (v (29 + 15 * x0.toNatClampNeg) 5).toNatClampNeg → (((-1) : Int32) = 0) ∧ Fz v v) := by
      refine ⟨fun hq => ?_, fun hq => ?_, fun hq => ?_⟩
      · exact ⟨rfl, Fz.rf⟩
      · exact absurd hq.1 (by omega)
      · exact absurd hq.1 (by omega)
    exact W.iret (v := (-1)) hx hb hr (fun t ht hW => ⟨⟨(-1), v, rfl, ⟨hv, hpost⟩, by rw [ht]; exact hP, hD⟩, hS.F ht⟩) hS.2.2 dX7_canHold_16

set_option maxHeartbeats 4000000 in
set_option maxRecDepth 100000 in
theorem e_X7_breaks (l : Launch) (dC : Nat → ClassId) (dI : Nat → Nat → Nat) (cy : Nat → ClassId) (sz : Nat) (ad : Nat → Nat) (kv : Value) (N : Nat) (hN : 119 ≤ N) (v : Nat → Nat → Int32) (hv : Iv v) (x0 x1 : Int32) (hT : ∀ c t : Nat, c < 6 → (c : Int) < (v 13 2).toInt → t < 5 → (t : Int) < (v (29 + 15 * c) 5).toInt → (v (39 + 15 * c + t) 3).toInt ≤ (v (39 + 15 * c + t) 4).toInt) : Met l yX7_breaks wsX7_breaks ({ frames := 3, cells := 0, slots := 0, locals := 192 }) (va_Pc [.ref (ad 0), .int x0, .int x1] (ex_Pre dC dI cy sz (wl ad kv cy N v))) (va_Qi (fun (r : Int32) (u : Nat → Nat → Int32) => Iv u ∧ (¬ ((0 ≤ x0.toInt ∧ x0.toInt < (v 13 2).toInt) ∧ 0 ≤ x1.toInt ∧ x1.toInt ≤ 1) → (r = -1) ∧ Fz v u) ∧ ((0 ≤ x0.toInt ∧ x0.toInt < (v 13 2).toInt) ∧ 0 ≤ x1.toInt ∧ x1.toInt ≤ 1 → (((r.toInt = -5 ∧ ∀ t : Nat, t < (v (29 + 15 * x0.toNatClampNeg) 5).toNatClampNeg → (fun t k => (v (39 + 15 * x0.toNatClampNeg + t) k).toInt) t 0 = x1.toInt → TB (fun t k => (v (39 + 15 * x0.toNatClampNeg + t) k).toInt) x1.toInt (t + 1)) ∨ ((0 ≤ r.toInt ∧ r.toNatClampNeg < (v (29 + 15 * x0.toNatClampNeg) 5).toNatClampNeg) ∧ ((fun t k => (v (39 + 15 * x0.toNatClampNeg + t) k).toInt) r.toNatClampNeg 0 = x1.toInt ∧ ¬ TB (fun t k => (v (39 + 15 * x0.toNatClampNeg + t) k).toInt) x1.toInt (r.toNatClampNeg + 1)) ∧ ∀ t : Nat, t < r.toNatClampNeg → (fun t k => (v (39 + 15 * x0.toNatClampNeg + t) k).toInt) t 0 = x1.toInt → TB (fun t k => (v (39 + 15 * x0.toNatClampNeg + t) k).toInt) x1.toInt (t + 1)))) ∧ Fz v u)) (fun u t => ex_Pst dC dI (va_A (wl ad kv cy N v) sz) (wl ad kv cy N u) t) (va_A (wl ad kv cy N v) sz)) 0 0 (va_A (wl ad kv cy N v) sz) := by
  refine Met.ofW (cc := cX7_breaks) (maxL := 5) (ret := (some .int)) (by decide) rfl ?_
  intro p e s m args below meth c s₁ B hml hv
  obtain ⟨rfl, hsz, hE, hP, hK, hD0⟩ := hv
  have hx := B.exec
  have hb := B.bytes
  have hr := B.returns
  have hts := atoms_spec (ws := wsX7_breaks) B.pre
  have hown : s.vm.findClass RX7 = some m.cls := findClass_of_methodNamed B.named
  have hlocks := B.notSynchronized
  subst hsz
  have hD := hD0.self (sz := s.heap.size)
  generalize hAe : va_A (wl ad kv cy N v) s.heap.size = A at hD ⊢
  have hA : ∀ q : Nat, s.heap.size ≤ q → A q := fun q h => by rw [← hAe]; exact Or.inr h
  have hS : va_S A s.heap s.heap [] := va_S.rf
  have hP : va_P (dC, dI) vwCl (wl ad kv cy N v) s.heap := hP
  have hl := lv_entry ([.ref (ad 0), .int x0, .int x1]) (n := 5) (Nat.le_of_ble_eq_true rfl)
  rw [lg_entry_eq]
  generalize (lg_sl ([.ref (ad 0), .int x0, .int x1]) ++ List.replicate (5 - (lg_sl ([.ref (ad 0), .int x0, .int x1])).length) Slot.unset).toArray = ls at hl ⊢
  have hl : lv_has ls 5 [(0, .ref (ad 0)), (1, .int x0), (2, .int x1)] := hl
  obtain ⟨DD, eDD⟩ : ∃ f : Nat → Nat → Int, f = fun t k => (v (39 + 15 * x0.toNatClampNeg + t) k).toInt := ⟨_, rfl⟩
  refine lv_aload_n hx hb dX7_breaks_0 rfl (lv_at hl 0 rfl) ?_
  refine lv_iload_n hx hb dX7_breaks_1 rfl (lv_at hl 1 rfl) ?_
  refine yw_i (w1 := fun (u : Nat → Nat → Int32) => wl ad kv cy N u) hD hS hA (va_runV (As := [.int x0]) (rest := []) ⟨hx, hb, hml, hown, hts⟩ (g_X7_isCase l dC dI cy _ ad kv N hN v hv x0) (cwV 1 hts gX7_breaks_X7_isCase rfl rfl rfl hd_V_X7_isCase_1 ⟨Nat.le_of_ble_eq_true rfl, Nat.le_of_ble_eq_true rfl⟩) (yw_preV hE hK hP hD (ci := 7) (q := (RX7, TX7, 5)) (q0 := 0) rfl (wl_at (by omega) (ce_0 (by decide)))) rfl rfl hl.1 rfl (lv_room (Nat.le_of_ble_eq_true rfl)) dX7_breaks_2 ⟨Nat.le_of_ble_eq_true rfl, Nat.le_of_ble_eq_true rfl⟩) (fun r_1 v_1 H locs hw_1 hP hD hS => ?_)
  obtain ⟨-, hu_1, hw_1⟩ := hw_1
  replace hu_1 := hu_1.symm
  subst hu_1
  rcases hw_1 with ⟨rfl, ha_2⟩ | ⟨rfl, ha_2⟩
  · have hb_2 := hv.at (k := 13) (j := 2) (K := 3) (by decide) rfl
    have hj_2 : 0 ≤ x0.toInt ∧ x0.toInt ≤ 5 := ⟨by omega, by omega⟩
    refine lv_if_eq (tgt := 15) hx hb dX7_breaks_5 (by decide) (fun c9 => absurd c9 (by decide)) (fun _ => ?_)
    refine lv_iload_n hx hb dX7_breaks_8 rfl (lv_at hl 2 rfl) ?_
    refine yc_p hP hS (va_runS (As := [.int x1]) (rest := []) ⟨hx, hb, hml, hown, hts⟩ (c_X7_isSide l x1) (cwS 1 hts gX7_breaks_X7_isSide rfl rfl rfl hd_S_X7_isSide_1 ⟨Nat.le_of_ble_eq_true rfl, Nat.le_of_ble_eq_true rfl⟩) ex_preP rfl rfl hl.1 rfl (lv_room (Nat.le_of_ble_eq_true rfl)) dX7_breaks_9 ⟨Nat.le_of_ble_eq_true rfl, Nat.le_of_ble_eq_true rfl⟩) (fun r_3 H locs hw_3 hP hS => ?_)
    rcases wi_ca hw_3 with ⟨rfl, hc_4⟩ | ⟨rfl, hc_4⟩
    · have k_0 : (0 : Int32).toInt = 0 := by decide
      have k_1 : (1 : Int32).toInt = 1 := by decide
      have tc_4 := wi_tl hc_4
      refine lv_if_ne (tgt := 17) hx hb dX7_breaks_12 (by decide) (fun _ => ?_) (fun c9 => absurd c9 (by decide))
      refine lv_aload_n hx hb dX7_breaks_17 rfl (lv_at hl 0 rfl) ?_
      refine va_get (D := (dC, dI)) (ci := 7) (v := .ref (ad 13)) (C := RX7) (T := TX7) (N := 5) hx hb hts iwX7_breaks_X7 hown hK hP (0) (wl_at (by omega) (ce_0 (by decide))) rfl 0 (by decide) (hts (.fieldLink RX7 12 "QuietStairs" "now" "LQuietStairs$House;") fwX7_breaks_1) (fun _ h9 => h9) rfl dX7_breaks_18 ?_
      refine va_get (D := (dC, dI)) (ci := 1) (v := .ref (ad 16)) (C := RX1) (T := TX1) (N := 7) hx hb hts iwX7_breaks_X1 hown hK hP (13) (wl_at (by omega) (ce_3 (by decide))) rfl 6 (by decide) (hts (.fieldLink RX7 86 "QuietStairs$House" "cases" "[LQuietStairs$Case;") fwX7_breaks_2) (fun _ h9 => h9) rfl dX7_breaks_21 ?_
      refine lv_iload_n hx hb dX7_breaks_24 rfl (lv_at hl 1 rfl) ?_
      have zn_x0 : (x0.toNatClampNeg : Int) = x0.toInt := t_nn (by omega)
      have hx_5 : x0.toNatClampNeg < 6 := by omega
      refine va_aldq hx hb hK hP (16) 3 (wl_at (by omega) (ce_6 (by decide))) rfl (vp_in_iff.mpr ⟨by omega, by omega⟩) dX7_breaks_25 ?_
      refine W.eq (g2 := F0 m 26 ls [.ref (ad (29 + 15 * x0.toNatClampNeg))]) (by rw [if_pos hx_5, show 16 + 13 + 15 * x0.toNatClampNeg = 29 + 15 * x0.toNatClampNeg from by omega]; rfl) ?_
      refine lv_astore_n (lv' := [(3, .ref (ad (29 + 15 * x0.toNatClampNeg))), (0, .ref (ad 0)), (1, .int x0), (2, .int x1)]) hx hb dX7_breaks_26 rfl hl (by decide) rfl (fun ls hl => ?_)
      refine lv_iconst (v := 0) hx hb dX7_breaks_27 (by decide) ?_
      refine lv_istore (lv' := [(4, .int 0), (3, .ref (ad (29 + 15 * x0.toNatClampNeg))), (0, .ref (ad 0)), (1, .int x0), (2, .int x1)]) hx hb dX7_breaks_28 hl (by decide) rfl (fun ls hl => ?_)
      have hc_6 : ∀ (n : Nat) (y6_4 : Int32) (u6 : Nat → Nat → Int32) (H : Heap) (locs : List Loc), 0 ≤ y6_4.toInt → y6_4.toInt ≤ 5 → (∀ k : Nat, k ≠ 10 → k ≠ 11 → k ≠ 12 → u6 k = v k) → (∀ t : Nat, (t : Int) < y6_4.toInt → DD t 0 = x1.toInt → TB DD x1.toInt (t + 1)) → (5 - y6_4.toInt).toNat < n → Iv u6 → va_P (dC, dI) vwCl (wl ad kv cy N u6) H → va_D A (wl ad kv cy N u6) → va_S A s.heap H locs → ∀ ls : Array Slot, lv_has ls 5 [(4, .int y6_4), (3, .ref (ad (29 + 15 * x0.toNatClampNeg))), (0, .ref (ad 0)), (1, .int x0), (2, .int x1)] → W p l e (headSpec wsX7_breaks ({ frames := 3, cells := 0, slots := 0, locals := 192 })).room s m [Value.ref (ad 0), Value.int x0, Value.int x1].toArray below meth c H locs 0 0 (MQ below (va_Qi (fun (r : Int32) (u : Nat → Nat → Int32) => Iv u ∧ (¬ ((0 ≤ x0.toInt ∧ x0.toInt < (v 13 2).toInt) ∧ 0 ≤ x1.toInt ∧ x1.toInt ≤ 1) → (r = -1) ∧ Fz v u) ∧ ((0 ≤ x0.toInt ∧ x0.toInt < (v 13 2).toInt) ∧ 0 ≤ x1.toInt ∧ x1.toInt ≤ 1 → (((r.toInt = -5 ∧ ∀ t : Nat, t < (v (29 + 15 * x0.toNatClampNeg) 5).toNatClampNeg → (fun t k => (v (39 + 15 * x0.toNatClampNeg + t) k).toInt) t 0 = x1.toInt → TB (fun t k => (v (39 + 15 * x0.toNatClampNeg + t) k).toInt) x1.toInt (t + 1)) ∨ ((0 ≤ r.toInt ∧ r.toNatClampNeg < (v (29 + 15 * x0.toNatClampNeg) 5).toNatClampNeg) ∧ ((fun t k => (v (39 + 15 * x0.toNatClampNeg + t) k).toInt) r.toNatClampNeg 0 = x1.toInt ∧ ¬ TB (fun t k => (v (39 + 15 * x0.toNatClampNeg + t) k).toInt) x1.toInt (r.toNatClampNeg + 1)) ∧ ∀ t : Nat, t < r.toNatClampNeg → (fun t k => (v (39 + 15 * x0.toNatClampNeg + t) k).toInt) t 0 = x1.toInt → TB (fun t k => (v (39 + 15 * x0.toNatClampNeg + t) k).toInt) x1.toInt (t + 1)))) ∧ Fz v u)) (fun u t => ex_Pst dC dI A (wl ad kv cy N u) t) A) [Value.ref (ad 0), Value.int x0, Value.int x1].toArray s 0 0 A) (F0 m 30 ls []) := by
        intro n
        induction n with
        | zero =>
          intro y6_4 u6 H locs ay6_4 by6_4 hi6_0 hi6_1 hm_6 hv hP hD hS ls hl
          exact absurd hm_6 (by omega)
        | succ n ih_6 =>
          intro y6_4 u6 H locs ay6_4 by6_4 hi6_0 hi6_1 hm_6 hv hP hD hS ls hl
          refine lv_iload hx hb dX7_breaks_30 (lv_at hl 0 rfl) ?_
          refine lv_aload_n hx hb dX7_breaks_32 rfl (lv_at hl 1 rfl) ?_
          refine va_get (D := (dC, dI)) (ci := 0) (v := .int (u6 (29 + 15 * x0.toNatClampNeg) 5)) (C := RX0) (T := TX0) (N := 11) hx hb hts iwX7_breaks_X0 hown hK hP (29 + 15 * x0.toNatClampNeg) (wl_at (by omega) (ce_9 (kd_c _ hx_5).1.1)) rfl 5 (by decide) (hts (.fieldLink RX7 169 "QuietStairs$Case" "termCount" "I") fwX7_breaks_3) (fun _ h9 => h9) rfl dX7_breaks_33 ?_
          refine lv_topi (fun x_7 ex_7 => ?_)
          have bzx_7 : 0 ≤ x_7.toInt ∧ x_7.toInt ≤ 5 := by rw [ex_7]; exact hv.at (K := 9) (kd_c _ hx_5).1.1 rfl
          have qx_7 : x_7.toInt = (u6 (29 + 15 * x0.toNatClampNeg) (5)).toInt := congrArg Int32.toInt ex_7
          have hn9 : x_7 = v (29 + 15 * x0.toNatClampNeg) 5 := by rw [ex_7, hi6_0 _ (by omega) (by omega) (by omega)]
          have hn8 : x_7.toInt = (v (29 + 15 * x0.toNatClampNeg) 5).toInt := by rw [hn9]
          refine lv_icmp_ge (tgt := 85) hx hb dX7_breaks_36 (by decide) (fun c_8 => ?_) (fun c_8 => ?_)
          · have tc_8 : y6_4.toInt ≥ x_7.toInt := Int32.le_iff_toInt_le.mp c_8
            refine lv_bipush (v := (-5)) hx hb dX7_breaks_85 (by decide) ?_
            have zn_y6_4 : (y6_4.toNatClampNeg : Int) = y6_4.toInt := t_nn (by omega)
            have zN9 := t_nn (x := v (29 + 15 * x0.toNatClampNeg) 5) (by omega)
            have hpost : (¬ ((0 ≤ x0.toInt ∧ x0.toInt < (v 13 2).toInt) ∧ 0 ≤ x1.toInt ∧ x1.toInt ≤ 1) → (((-5) : Int32) = -1) ∧ Fz v u6) ∧ ((0 ≤ x0.toInt ∧ x0.toInt < (v 13 2).toInt) ∧ 0 ≤ x1.toInt ∧ x1.toInt ≤ 1 → (((((-5) : Int32).toInt = -5 ∧ ∀ t : Nat, t < (v (29 + 15 * x0.toNatClampNeg) 5).toNatClampNeg → (fun t k => (v (39 + 15 * x0.toNatClampNeg + t) k).toInt) t 0 = x1.toInt → TB (fun t k => (v (39 + 15 * x0.toNatClampNeg + t) k).toInt) x1.toInt (t + 1)) ∨ ((0 ≤ ((-5) : Int32).toInt ∧ ((-5) : Int32).toNatClampNeg < (v (29 + 15 * x0.toNatClampNeg) 5).toNatClampNeg) ∧ ((fun t k => (v (39 + 15 * x0.toNatClampNeg + t) k).toInt) ((-5) : Int32).toNatClampNeg 0 = x1.toInt ∧ ¬ TB (fun t k => (v (39 + 15 * x0.toNatClampNeg + t) k).toInt) x1.toInt (((-5) : Int32).toNatClampNeg + 1)) ∧ ∀ t : Nat, t < ((-5) : Int32).toNatClampNeg → (fun t k => (v (39 + 15 * x0.toNatClampNeg + t) k).toInt) t 0 = x1.toInt → TB (fun t k => (v (39 + 15 * x0.toNatClampNeg + t) k).toInt) x1.toInt (t + 1)))) ∧ Fz v u6) := by
              refine ⟨fun hq => ?_, fun hq => ?_⟩
              · exfalso; omega
              · rw [← eDD]; exact ⟨Or.inl ⟨by decide, fun t ht h0 => hi6_1 t (by omega) h0⟩, fz_of hi6_0⟩
            exact W.iret (v := (-5)) hx hb hr (fun t ht hW => ⟨⟨(-5), u6, rfl, ⟨hv, hpost⟩, by rw [ht]; exact hP, hD⟩, hS.F ht⟩) hS.2.2 dX7_breaks_87
          · have tc_8 : y6_4.toInt < x_7.toInt := Int32.lt_iff_toInt_lt.mp (Int32.not_le.mp c_8)
            refine lv_aload_n hx hb dX7_breaks_39 rfl (lv_at hl 1 rfl) ?_
            refine va_get (D := (dC, dI)) (ci := 0) (v := .ref (ad (29 + 15 * x0.toNatClampNeg + 9))) (C := RX0) (T := TX0) (N := 11) hx hb hts iwX7_breaks_X0 hown hK hP (29 + 15 * x0.toNatClampNeg) (wl_at (by omega) (ce_9 (kd_c _ hx_5).1.1)) rfl 10 (by decide) (hts (.fieldLink RX7 172 "QuietStairs$Case" "terms" "[LQuietStairs$Term;") fwX7_breaks_4) (fun _ h9 => h9) rfl dX7_breaks_40 ?_
            refine W.eq (g2 := F0 m 43 ls [.ref (ad (38 + 15 * x0.toNatClampNeg))]) (by rw [show 29 + 15 * x0.toNatClampNeg + 9 = 38 + 15 * x0.toNatClampNeg from by omega]) ?_
            refine lv_iload hx hb dX7_breaks_43 (lv_at hl 0 rfl) ?_
            have zn_y6_4 : (y6_4.toNatClampNeg : Int) = y6_4.toInt := t_nn (by omega)
            have hx_9 : y6_4.toNatClampNeg < 5 := by omega
            refine va_aldq hx hb hK hP (38 + 15 * x0.toNatClampNeg) 4 (wl_at (by omega) (ce_15 (kd_c _ hx_5).1.2.2.2.2.2)) rfl (vp_in_iff.mpr ⟨by omega, by omega⟩) dX7_breaks_45 ?_
            refine W.eq (g2 := F0 m 46 ls [.ref (ad (39 + 15 * x0.toNatClampNeg + y6_4.toNatClampNeg))]) (by rw [if_pos hx_9, show 38 + 15 * x0.toNatClampNeg + 1 + y6_4.toNatClampNeg = 39 + 15 * x0.toNatClampNeg + y6_4.toNatClampNeg from by omega]; rfl) ?_
            refine va_get (D := (dC, dI)) (ci := 6) (v := .int (u6 (39 + 15 * x0.toNatClampNeg + y6_4.toNatClampNeg) 0)) (C := RX6) (T := TX6) (N := 5) hx hb hts iwX7_breaks_X6 hown hK hP (39 + 15 * x0.toNatClampNeg + y6_4.toNatClampNeg) (wl_at (by omega) (ce_16 (kd_t _ hx_5 _ hx_9).1)) rfl 0 (by decide) (hts (.fieldLink RX7 176 "QuietStairs$Term" "side" "I") fwX7_breaks_5) (fun _ h9 => h9) rfl dX7_breaks_46 ?_
            refine lv_topi (fun x_10 ex_10 => ?_)
            have bzx_10 : 0 ≤ x_10.toInt ∧ x_10.toInt ≤ 1 := by rw [ex_10]; exact hv.at (K := 16) (kd_t _ hx_5 _ hx_9).1 rfl
            have qx_10 : x_10.toInt = (u6 (39 + 15 * x0.toNatClampNeg + y6_4.toNatClampNeg) (0)).toInt := congrArg Int32.toInt ex_10
            refine lv_iload_n hx hb dX7_breaks_49 rfl (lv_at hl 4 rfl) ?_
            have hS9 : DD y6_4.toNatClampNeg 0 = x_10.toInt := by rw [eDD, ex_10, hi6_0 _ (by omega) (by omega) (by omega)]
            have hDe : (fun t k => (u6 (39 + 15 * x0.toNatClampNeg + t) k).toInt) = (fun t k => (v (39 + 15 * x0.toNatClampNeg + t) k).toInt) := by funext t k; rw [hi6_0 _ (by omega) (by omega) (by omega)]
            refine lv_icmp_ne (tgt := 79) hx hb dX7_breaks_50 (by decide) (fun c_11 => ?_) (fun c_11 => ?_)
            · have tc_11 : x_10.toInt ≠ x1.toInt := fun q => absurd (Int32.toInt_inj.mp q) c_11
              obtain ⟨x_12, ex_12⟩ : ∃ y : Int32, y = y6_4 + 1 := ⟨_, rfl⟩
              refine lv_iinc (v := x_12) (lv' := [(4, .int x_12), (3, .ref (ad (29 + 15 * x0.toNatClampNeg))), (0, .ref (ad 0)), (1, .int x0), (2, .int x1)]) hx hb dX7_breaks_79 hl (k := 0) rfl (by rw [ex_12]; rfl) (by decide) rfl (fun ls hl => ?_)
              have tx_12 : x_12.toInt = y6_4.toInt + (1 : Int32).toInt := by rw [ex_12]; exact t_add ⟨by omega, by omega⟩
              refine lv_goto (tgt := 30) hx hb dX7_breaks_82 (by decide) ?_
              exact ih_6 x_12 u6 _ _ (by omega) (by omega) (hi6_0) (fun t ht h0 => by by_cases e : (t : Int) < y6_4.toInt; exact hi6_1 t e h0; rw [show t = y6_4.toNatClampNeg from by omega, hS9] at h0; exact absurd h0 (by omega)) (by omega) hv hP hD hS ls (lv_sub hl [0, 1, 2, 3, 4] rfl)
            · have tc_11 : x_10.toInt = x1.toInt := by rw [c_11]
              refine lv_aload_n hx hb dX7_breaks_53 rfl (lv_at hl 2 rfl) ?_
              refine va_get (D := (dC, dI)) (ci := 7) (v := .ref (ad 10)) (C := RX7) (T := TX7) (N := 5) hx hb hts iwX7_breaks_X7 hown hK hP (0) (wl_at (by omega) (ce_0 (by decide))) rfl 2 (by decide) (hts (.fieldLink RX7 26 "QuietStairs" "table" "LQuietStairs$Table;") fwX7_breaks_6) (fun _ h9 => h9) rfl dX7_breaks_54 ?_
              refine lv_aload_n hx hb dX7_breaks_57 rfl (lv_at hl 1 rfl) ?_
              refine lv_iload_n hx hb dX7_breaks_58 rfl (lv_at hl 4 rfl) ?_
              refine lv_iload hx hb dX7_breaks_59 (lv_at hl 0 rfl) ?_
              refine lv_iconst (v := 1) hx hb dX7_breaks_61 (by decide) ?_
              refine lv_iadd hx hb dX7_breaks_62 ?_
              refine lv_topi (fun x_12 ex_12 => ?_)
              have tx_12 : x_12.toInt = y6_4.toInt + (1 : Int32).toInt := by rw [ex_12]; exact t_add ⟨by omega, by omega⟩
              have zn_x_12 : (x_12.toNatClampNeg : Int) = x_12.toInt := t_nn (by omega)
              refine yw_v (w1 := fun (u : Nat → Nat → Int32) => wl ad kv cy N u) hD hS hA (va_runV (As := [.ref (ad (29 + 15 * x0.toNatClampNeg)), .int x1, .int x_12]) (rest := []) ⟨hx, hb, hml, hown, hts⟩ (e_X5_read l dC dI cy _ ad kv N hN u6 hv x0.toNatClampNeg hx_5 x1 x_12 ⟨by omega, by omega⟩ (fun t ht h1 => by rw [hi6_0 _ (by omega) (by omega) (by omega)]; exact hT _ t hx_5 (by omega) ht (by omega))) (cwV 3 hts gX7_breaks_X5_read rfl rfl rfl hd_V_X5_read_3 ⟨Nat.le_of_ble_eq_true rfl, Nat.le_of_ble_eq_true rfl⟩) (yw_preV hE hK hP hD (ci := 5) (q := (RX5, TX5, 3)) (q0 := 10) rfl (wl_at (by omega) (ce_2 (by decide)))) rfl rfl hl.1 rfl (lv_room (Nat.le_of_ble_eq_true rfl)) dX7_breaks_63 ⟨Nat.le_of_ble_eq_true rfl, Nat.le_of_ble_eq_true rfl⟩) (fun v_13 H locs hw_13 hP hD hS => ?_)
              obtain ⟨hv, hw_13⟩ := hw_13
              obtain ⟨hg_14, hd_14, hn_14⟩ := hw_13
              have hk_14 := hv.at (k := 10) (j := 0) (K := 2) (by decide) rfl
              have hz_14 := t_nn hk_14.1
              refine lv_aload_n hx hb dX7_breaks_66 rfl (lv_at hl 2 rfl) ?_
              refine va_get (D := (dC, dI)) (ci := 7) (v := .ref (ad 10)) (C := RX7) (T := TX7) (N := 5) hx hb hts iwX7_breaks_X7 hown hK hP (0) (wl_at (by omega) (ce_0 (by decide))) rfl 2 (by decide) (hts (.fieldLink RX7 26 "QuietStairs" "table" "LQuietStairs$Table;") fwX7_breaks_6) (fun _ h9 => h9) rfl dX7_breaks_67 ?_
              refine yw_i (w1 := fun (u : Nat → Nat → Int32) => wl ad kv cy N u) hD hS hA (va_runV (As := []) (rest := []) ⟨hx, hb, hml, hown, hts⟩ (e_X5_stands l dC dI cy _ ad kv N hN v_13 hv ) (cwV 0 hts gX7_breaks_X5_stands rfl rfl rfl hd_V_X5_stands_0 ⟨Nat.le_of_ble_eq_true rfl, Nat.le_of_ble_eq_true rfl⟩) (yw_preV hE hK hP hD (ci := 5) (q := (RX5, TX5, 3)) (q0 := 10) rfl (wl_at (by omega) (ce_2 (by decide)))) rfl rfl hl.1 rfl (lv_room (Nat.le_of_ble_eq_true rfl)) dX7_breaks_70 ⟨Nat.le_of_ble_eq_true rfl, Nat.le_of_ble_eq_true rfl⟩) (fun r_15 v_15 H locs hw_15 hP hD hS => ?_)
              obtain ⟨-, hu_15, hw_15⟩ := hw_15
              replace hu_15 := hu_15.symm
              subst hu_15
              rcases hw_15 with ⟨rfl, hz_16⟩ | ⟨rfl, hz_16⟩
              · have hq_16 : HL (v_13 10 0) (v_13 12) ↔ TB (fun t k => (u6 (39 + 15 * x0.toNatClampNeg + t) k).toInt) x1.toInt x_12.toNatClampNeg := RD_HL (by rw [show ((x_12.toNatClampNeg : Nat) : Int) = x_12.toInt from t_nn (by omega)]; exact hd_14) (by omega) (by omega)
                rw [hDe] at hq_16
                have ht_16 : TB (fun t k => (v (39 + 15 * x0.toNatClampNeg + t) k).toInt) x1.toInt x_12.toNatClampNeg := hq_16.mp hz_16
                refine lv_if_ne (tgt := 79) hx hb dX7_breaks_73 (by decide) (fun _ => ?_) (fun c9 => absurd c9 (by decide))
                obtain ⟨x_17, ex_17⟩ : ∃ y : Int32, y = y6_4 + 1 := ⟨_, rfl⟩
                refine lv_iinc (v := x_17) (lv' := [(4, .int x_17), (3, .ref (ad (29 + 15 * x0.toNatClampNeg))), (0, .ref (ad 0)), (1, .int x0), (2, .int x1)]) hx hb dX7_breaks_79 hl (k := 0) rfl (by rw [ex_17]; rfl) (by decide) rfl (fun ls hl => ?_)
                have tx_17 : x_17.toInt = y6_4.toInt + (1 : Int32).toInt := by rw [ex_17]; exact t_add ⟨by omega, by omega⟩
                refine lv_goto (tgt := 30) hx hb dX7_breaks_82 (by decide) ?_
                exact ih_6 x_17 v_13 _ _ (by omega) (by omega) (fun k h1 h2 h3 => (hg_14 k h1 h2 h3).trans (hi6_0 k h1 h2 h3)) (fun t ht h0 => by by_cases e : (t : Int) < y6_4.toInt; exact hi6_1 t e h0; rw [show t + 1 = x_12.toNatClampNeg from by omega, eDD]; exact ht_16) (by omega) hv hP hD hS ls (lv_sub hl [0, 1, 2, 3, 4] rfl)
              · have hq_16 : HL (v_13 10 0) (v_13 12) ↔ TB (fun t k => (u6 (39 + 15 * x0.toNatClampNeg + t) k).toInt) x1.toInt x_12.toNatClampNeg := RD_HL (by rw [show ((x_12.toNatClampNeg : Nat) : Int) = x_12.toInt from t_nn (by omega)]; exact hd_14) (by omega) (by omega)
                rw [hDe] at hq_16
                have ht_16 : ¬ TB (fun t k => (v (39 + 15 * x0.toNatClampNeg + t) k).toInt) x1.toInt x_12.toNatClampNeg := fun q => hz_16 (hq_16.mpr q)
                refine lv_if_ne (tgt := 79) hx hb dX7_breaks_73 (by decide) (fun c9 => absurd c9 (by decide)) (fun _ => ?_)
                refine lv_iload hx hb dX7_breaks_76 (lv_at hl 0 rfl) ?_
                have zN9 := t_nn (x := v (29 + 15 * x0.toNatClampNeg) 5) (by omega)
                have hpost : (¬ ((0 ≤ x0.toInt ∧ x0.toInt < (v 13 2).toInt) ∧ 0 ≤ x1.toInt ∧ x1.toInt ≤ 1) → (y6_4 = -1) ∧ Fz v v_13) ∧ ((0 ≤ x0.toInt ∧ x0.toInt < (v 13 2).toInt) ∧ 0 ≤ x1.toInt ∧ x1.toInt ≤ 1 → (((y6_4.toInt = -5 ∧ ∀ t : Nat, t < (v (29 + 15 * x0.toNatClampNeg) 5).toNatClampNeg → (fun t k => (v (39 + 15 * x0.toNatClampNeg + t) k).toInt) t 0 = x1.toInt → TB (fun t k => (v (39 + 15 * x0.toNatClampNeg + t) k).toInt) x1.toInt (t + 1)) ∨ ((0 ≤ y6_4.toInt ∧ y6_4.toNatClampNeg < (v (29 + 15 * x0.toNatClampNeg) 5).toNatClampNeg) ∧ ((fun t k => (v (39 + 15 * x0.toNatClampNeg + t) k).toInt) y6_4.toNatClampNeg 0 = x1.toInt ∧ ¬ TB (fun t k => (v (39 + 15 * x0.toNatClampNeg + t) k).toInt) x1.toInt (y6_4.toNatClampNeg + 1)) ∧ ∀ t : Nat, t < y6_4.toNatClampNeg → (fun t k => (v (39 + 15 * x0.toNatClampNeg + t) k).toInt) t 0 = x1.toInt → TB (fun t k => (v (39 + 15 * x0.toNatClampNeg + t) k).toInt) x1.toInt (t + 1)))) ∧ Fz v v_13) := by
                  refine ⟨fun hq => ?_, fun hq => ?_⟩
                  · exfalso; omega
                  · refine ⟨Or.inr ⟨⟨by omega, by omega⟩, ⟨?_, ?_⟩, fun t ht h0 => ?_⟩, fz_of (fun k h1 h2 h3 => (hg_14 k h1 h2 h3).trans (hi6_0 k h1 h2 h3))⟩
                    · rw [← eDD, hS9]; omega
                    · rw [show y6_4.toNatClampNeg + 1 = x_12.toNatClampNeg from by omega]; exact ht_16
                    · rw [← eDD] at h0 ⊢; exact hi6_1 t (by omega) h0
                exact W.iret (v := y6_4) hx hb hr (fun t ht hW => ⟨⟨y6_4, v_13, rfl, ⟨hv, hpost⟩, by rw [ht]; exact hP, hD⟩, hS.F ht⟩) hS.2.2 dX7_breaks_78
      exact hc_6 ((5 - (0 : Int32).toInt).toNat + 1) 0 v _ _ (by omega) (by omega) (fun _ _ _ _ => rfl) (fun t ht => absurd ht (by omega)) (by omega) hv hP hD hS ls (lv_sub hl [0, 1, 2, 3, 4] rfl)
    · have k_0 : (0 : Int32).toInt = 0 := by decide
      have k_1 : (1 : Int32).toInt = 1 := by decide
      have tc_4 : ¬ ((0 : Int32).toInt ≤ x1.toInt ∧ x1.toInt ≤ (1 : Int32).toInt) := fun q => hc_4 ⟨Int32.le_iff_toInt_le.mpr q.1, Int32.le_iff_toInt_le.mpr q.2⟩
      refine lv_if_ne (tgt := 17) hx hb dX7_breaks_12 (by decide) (fun c9 => absurd c9 (by decide)) (fun _ => ?_)
      refine lv_iconst (v := (-1)) hx hb dX7_breaks_15 (by decide) ?_
      have hpost : (¬ ((0 ≤ x0.toInt ∧ x0.toInt < (v 13 2).toInt) ∧ 0 ≤ x1.toInt ∧ x1.toInt ≤ 1) → (((-1) : Int32) = -1) ∧ Fz v v) ∧ ((0 ≤ x0.toInt ∧ x0.toInt < (v 13 2).toInt) ∧ 0 ≤ x1.toInt ∧ x1.toInt ≤ 1 → (((((-1) : Int32).toInt = -5 ∧ ∀ t : Nat, t < (v (29 + 15 * x0.toNatClampNeg) 5).toNatClampNeg → (fun t k => (v (39 + 15 * x0.toNatClampNeg + t) k).toInt) t 0 = x1.toInt → TB (fun t k => (v (39 + 15 * x0.toNatClampNeg + t) k).toInt) x1.toInt (t + 1)) ∨ ((0 ≤ ((-1) : Int32).toInt ∧ ((-1) : Int32).toNatClampNeg < (v (29 + 15 * x0.toNatClampNeg) 5).toNatClampNeg) ∧ ((fun t k => (v (39 + 15 * x0.toNatClampNeg + t) k).toInt) ((-1) : Int32).toNatClampNeg 0 = x1.toInt ∧ ¬ TB (fun t k => (v (39 + 15 * x0.toNatClampNeg + t) k).toInt) x1.toInt (((-1) : Int32).toNatClampNeg + 1)) ∧ ∀ t : Nat, t < ((-1) : Int32).toNatClampNeg → (fun t k => (v (39 + 15 * x0.toNatClampNeg + t) k).toInt) t 0 = x1.toInt → TB (fun t k => (v (39 + 15 * x0.toNatClampNeg + t) k).toInt) x1.toInt (t + 1)))) ∧ Fz v v) := by
        refine ⟨fun hq => ⟨rfl, Fz.rf⟩, fun hq => ?_⟩
        exfalso; omega
      exact W.iret (v := (-1)) hx hb hr (fun t ht hW => ⟨⟨(-1), v, rfl, ⟨hv, hpost⟩, by rw [ht]; exact hP, hD⟩, hS.F ht⟩) hS.2.2 dX7_breaks_16
  · refine lv_if_eq (tgt := 15) hx hb dX7_breaks_5 (by decide) (fun _ => ?_) (fun c9 => absurd c9 (by decide))
    refine lv_iconst (v := (-1)) hx hb dX7_breaks_15 (by decide) ?_
    have hpost : (¬ ((0 ≤ x0.toInt ∧ x0.toInt < (v 13 2).toInt) ∧ 0 ≤ x1.toInt ∧ x1.toInt ≤ 1) → (((-1) : Int32) = -1) ∧ Fz v v) ∧ ((0 ≤ x0.toInt ∧ x0.toInt < (v 13 2).toInt) ∧ 0 ≤ x1.toInt ∧ x1.toInt ≤ 1 → (((((-1) : Int32).toInt = -5 ∧ ∀ t : Nat, t < (v (29 + 15 * x0.toNatClampNeg) 5).toNatClampNeg → (fun t k => (v (39 + 15 * x0.toNatClampNeg + t) k).toInt) t 0 = x1.toInt → TB (fun t k => (v (39 + 15 * x0.toNatClampNeg + t) k).toInt) x1.toInt (t + 1)) ∨ ((0 ≤ ((-1) : Int32).toInt ∧ ((-1) : Int32).toNatClampNeg < (v (29 + 15 * x0.toNatClampNeg) 5).toNatClampNeg) ∧ ((fun t k => (v (39 + 15 * x0.toNatClampNeg + t) k).toInt) ((-1) : Int32).toNatClampNeg 0 = x1.toInt ∧ ¬ TB (fun t k => (v (39 + 15 * x0.toNatClampNeg + t) k).toInt) x1.toInt (((-1) : Int32).toNatClampNeg + 1)) ∧ ∀ t : Nat, t < ((-1) : Int32).toNatClampNeg → (fun t k => (v (39 + 15 * x0.toNatClampNeg + t) k).toInt) t 0 = x1.toInt → TB (fun t k => (v (39 + 15 * x0.toNatClampNeg + t) k).toInt) x1.toInt (t + 1)))) ∧ Fz v v) := by
      refine ⟨fun hq => ⟨rfl, Fz.rf⟩, fun hq => ?_⟩
      exfalso; omega
    exact W.iret (v := (-1)) hx hb hr (fun t ht hW => ⟨⟨(-1), v, rfl, ⟨hv, hpost⟩, by rw [ht]; exact hP, hD⟩, hS.F ht⟩) hS.2.2 dX7_breaks_16

/-- h may be the hour of must t, beside the hours f of the musts before it -/
def VH (D : Nat → Nat → Int) (sd n : Int) (t : Nat) (f : Nat → Int32) (h : Int) : Prop := ¬ bar D sd n t h ∧ ∀ o : Nat, o < t → own D sd o → (f o).toInt ≠ h
/-- the search for the first table, at must t from hour fr on -/
def MI (D : Nat → Nat → Int) (sd : Int) (n : Nat) (t fr : Int) (f : Nat → Int32) : Prop := (t < 0 ∧ ¬ TB D sd n) ∨ ∃ T : Nat, (t = (T : Int) ∧ T ≤ n ∧ (T < n → own D sd T ∧ D T 3 ≤ fr)) ∧ (∀ q : Nat, q < T → own D sd q → (0 ≤ (f q).toInt ∧ (f q).toInt ≤ 23) ∧ alw D sd n q (f q).toNatClampNeg ∧ ∀ o : Nat, o < q → own D sd o → (f o).toNatClampNeg ≠ (f q).toNatClampNeg) ∧ ∀ S : Nat → Nat, sdr n 24 (alw D sd n) (own D sd) S → (∃ i : Nat, i < T ∧ own D sd i ∧ (∀ q : Nat, q < i → own D sd q → S q = (f q).toNatClampNeg) ∧ (f i).toNatClampNeg < S i) ∨ ((∀ q : Nat, q < T → own D sd q → S q = (f q).toNatClampNeg) ∧ (T < n → fr ≤ (S T : Int)))
section MIS
variable {D : Nat → Nat → Int} {sd : Int} {n : Nat} {t fr t2 fr2 r : Int} {f g : Nat → Int32}
theorem MI_0 {T : Nat} (ht : t = (T : Int)) (hT : T ≤ n) (hno : ∀ i : Nat, i < T → ¬ own D sd i) (hO : T < n → own D sd T ∧ fr = D T 3) : MI D sd n t fr f := by
  refine Or.inr ⟨T, ⟨ht, hT, fun h => ⟨(hO h).1, by rw [(hO h).2]; exact Int.le_refl _⟩⟩, fun q hq hw => absurd hw (hno q hq), fun S hS => Or.inr ⟨fun q hq hw => absurd hw (hno q hq), fun h => ?_⟩⟩
  rw [(hO h).2]
  exact (hS T h (hO h).1).1.2.1.1
theorem MI_up {T U : Nat} (ht : t = (T : Int)) (hTn : T < n) (h : MI D sd n t fr f) (hr : (0 ≤ r ∧ r ≤ 23) ∧ fr ≤ r ∧ r ≤ D T 4) (hV : VH D sd n T f r) (hL : ∀ x : Int, fr ≤ x → x < r → ¬ VH D sd n T f x) (hg : ∀ q : Nat, q ≠ T → g q = f q) (hgT : (g T).toInt = r) (hU : t2 = (U : Int)) (hTU : T < U) (hUn : U ≤ n) (hno : ∀ i : Nat, T < i → i < U → ¬ own D sd i) (hO : U < n → own D sd U ∧ fr2 = D U 3) : MI D sd n t2 fr2 g := by
  rcases h with ⟨h0, -⟩ | ⟨T', ⟨e, -, h1⟩, h2, h3⟩
  · omega
  have eT : T' = T := by omega
  rw [eT] at h1 h2 h3
  obtain ⟨o1, o2⟩ := h1 hTn
  have zr := t_nn (x := g T) (by omega)
  have gq : ∀ q : Nat, q < U → own D sd q → q ≠ T → q < T ∧ g q = f q := fun q hq hw hn => by
    have : ¬ T < q := fun w => hno q w hq hw
    exact ⟨by omega, hg q hn⟩
  refine Or.inr ⟨U, ⟨hU, hUn, fun w => ⟨(hO w).1, by rw [(hO w).2]; exact Int.le_refl _⟩⟩, fun q hq hw => ?_, fun S hS => ?_⟩
  · by_cases e1 : q = T
    · rw [e1]
      refine ⟨by omega, ⟨⟨by omega, by omega⟩, ?_⟩, fun o ho hwo => ?_⟩
      · rw [zr, hgT]
        exact hV.1
      · obtain ⟨b1, b2⟩ := gq o (by omega) hwo (by omega)
        rw [b2]
        have w := hV.2 o ho hwo
        have w0 := (h2 o ho hwo).1
        have zo := t_nn w0.1
        omega
    · obtain ⟨b1, b2⟩ := gq q hq hw e1
      rw [b2]
      obtain ⟨c1, c2, c3⟩ := h2 q b1 hw
      refine ⟨c1, c2, fun o ho hwo => ?_⟩
      rw [hg o (by omega)]
      exact c3 o ho hwo
  · rcases h3 S hS with ⟨i, i1, i2, i3, i4⟩ | ⟨p1, p2⟩
    · refine Or.inl ⟨i, by omega, i2, fun q hq hw => ?_, ?_⟩
      · rw [hg q (by omega)]
        exact i3 q hq hw
      · rw [hg i (by omega)]
        exact i4
    · obtain ⟨⟨s1, s2⟩, s3⟩ := hS T hTn o1
      have p2 := p2 hTn
      have vS : VH D sd n T f (S T : Int) := by
        refine ⟨s2.2, fun o ho hwo => ?_⟩
        have w0 := (h2 o ho hwo).1
        have zo := t_nn w0.1
        have w1 := p1 o ho hwo
        have w2 := s3 o (by omega) hwo (by omega)
        omega
      have le : r ≤ (S T : Int) := Int.not_lt.mp (fun q => hL _ p2 q vS)
      by_cases e1 : (S T : Int) = r
      · refine Or.inr ⟨fun q hq hw => ?_, fun w => ?_⟩
        · by_cases e2 : q = T
          · rw [e2]
            omega
          · obtain ⟨b1, b2⟩ := gq q hq hw e2
            rw [b2]
            exact p1 q b1 hw
        · rw [(hO w).2]
          exact (hS U w (hO w).1).1.2.1.1
      · refine Or.inl ⟨T, hTU, o1, fun q hq hw => ?_, by omega⟩
        rw [hg q (by omega)]
        exact p1 q hq hw
theorem MI_dn {T : Nat} (ht : t = (T : Int)) (hTn : T < n) (h : MI D sd n t fr f) (hD4 : D T 4 ≤ 23) (hL : ∀ x : Int, fr ≤ x → x ≤ D T 4 → ¬ VH D sd n T f x) (hg : ∀ q : Nat, q ≠ T → g q = f q) (h2t : -1 ≤ t2 ∧ t2 < t) (hno : ∀ i : Nat, t2 < (i : Int) → i < T → ¬ own D sd i) (hO : ∀ U : Nat, t2 = (U : Int) → own D sd U ∧ fr2 = (g U).toInt + 1) : MI D sd n t2 fr2 g := by
  rcases h with ⟨h0, -⟩ | ⟨T', ⟨e, -, h1⟩, h2, h3⟩
  · omega
  have eT : T' = T := by omega
  rw [eT] at h1 h2 h3
  obtain ⟨o1, o2⟩ := h1 hTn
  have key : ∀ S : Nat → Nat, sdr n 24 (alw D sd n) (own D sd) S → ∃ i : Nat, i < T ∧ own D sd i ∧ (∀ q : Nat, q < i → own D sd q → S q = (f q).toNatClampNeg) ∧ (f i).toNatClampNeg < S i := fun S hS => by
    rcases h3 S hS with q | ⟨p1, p2⟩
    · exact q
    · obtain ⟨⟨s1, s2⟩, s3⟩ := hS T hTn o1
      refine absurd ⟨s2.2, fun o ho hwo => ?_⟩ (hL (S T : Int) (p2 hTn) s2.1.2)
      have w0 := (h2 o ho hwo).1
      have zo := t_nn w0.1
      have w1 := p1 o ho hwo
      have w2 := s3 o (by omega) hwo (by omega)
      omega
  by_cases hneg : t2 < 0
  · refine Or.inl ⟨hneg, fun ⟨S, hS⟩ => ?_⟩
    obtain ⟨i, i1, i2, -⟩ := key S hS
    exact hno i (by omega) i1 i2
  · have eU : t2 = ((t2.toNat : Nat) : Int) := by omega
    obtain ⟨u1, u2⟩ := hO t2.toNat eU
    have hUT : t2.toNat < T := by omega
    obtain ⟨⟨c1, c1b⟩, c2, c3⟩ := h2 t2.toNat hUT u1
    have zU := t_nn c1
    have gU : g t2.toNat = f t2.toNat := hg _ (by omega)
    refine Or.inr ⟨t2.toNat, ⟨eU, by omega, fun _ => ⟨u1, ?_⟩⟩, fun q hq hw => ?_, fun S hS => ?_⟩
    · have := c2.1.1
      rw [u2, gU]
      omega
    · rw [hg q (by omega)]
      obtain ⟨d1, d2, d3⟩ := h2 q (by omega) hw
      refine ⟨d1, d2, fun o ho hwo => ?_⟩
      rw [hg o (by omega)]
      exact d3 o ho hwo
    · obtain ⟨i, i1, i2, i3, i4⟩ := key S hS
      by_cases e1 : i < t2.toNat
      · refine Or.inl ⟨i, e1, i2, fun q hq hw => ?_, ?_⟩
        · rw [hg q (by omega)]
          exact i3 q hq hw
        · rw [hg i (by omega)]
          exact i4
      · have e2 : i = t2.toNat := by
          refine Nat.le_antisymm (Nat.le_of_not_lt (fun w => ?_)) (by omega)
          exact hno i (by omega) i1 i2
        rw [e2] at i3 i4
        refine Or.inr ⟨fun q hq hw => ?_, fun _ => ?_⟩
        · rw [hg q (by omega)]
          exact i3 q hq hw
        · rw [u2, gU]
          omega
theorem MI_no (h : MI D sd n t fr f) (ht : t < 0) : ¬ TB D sd n := by
  rcases h with ⟨-, h⟩ | ⟨T, ⟨e, -⟩, -⟩
  · exact h
  · omega
theorem MI_yes (h : MI D sd n t fr f) (ht : (n : Int) ≤ t) : lmin n (alw D sd n) (own D sd) (fun q => (f q).toNatClampNeg) := by
  rcases h with ⟨h0, -⟩ | ⟨T, ⟨e, hT, -⟩, h2, h3⟩
  · omega
  have eT : T = n := by omega
  rw [eT] at h2 h3
  refine ⟨fun q hq hw => ?_, fun S hS => ?_⟩
  · obtain ⟨c1, c2, c3⟩ := h2 q hq hw
    have zq := t_nn c1.1
    refine ⟨⟨by show (f q).toNatClampNeg < 24; omega, c2⟩, fun o ho hwo hne => ?_⟩
    show (f q).toNatClampNeg ≠ (f o).toNatClampNeg
    rcases Nat.lt_trichotomy q o with w | w | w
    · exact (h2 o ho hwo).2.2 q w hw
    · exact absurd w hne
    · exact (c3 o w hwo).symm
  · intro x hx hw hp
    show (f x).toNatClampNeg ≤ S x
    rcases h3 S hS with ⟨i, i1, i2, i3, i4⟩ | ⟨p1, -⟩
    · rcases Nat.lt_trichotomy i x with w | w | w
      · have q := hp i w i2
        have q : S i = (f i).toNatClampNeg := q
        omega
      · rw [← w]
        omega
      · have q : S x = (f x).toNatClampNeg := i3 x w hw
        omega
    · have q : S x = (f x).toNatClampNeg := p1 x hx hw
      omega
theorem MI_nn (h : MI D sd n t fr f) (ht : (n : Int) ≤ t) : ∀ q : Nat, q < n → own D sd q → 0 ≤ (f q).toInt := by
  rcases h with ⟨h0, -⟩ | ⟨T, ⟨e, hT, -⟩, h2, -⟩
  · omega
  · exact fun q hq hw => (h2 q (by omega) hw).1.1
end MIS
/-- terms that are alike -/
theorem sdr_cg {k m : Nat} {A B : Nat → Nat → Prop} {I J : Nat → Prop} {S : Nat → Nat} (hI : ∀ i : Nat, i < k → (I i ↔ J i)) (hA : ∀ i h : Nat, i < k → (A i h ↔ B i h)) : sdr k m A I S ↔ sdr k m B J S :=
  ⟨fun h i hi hj => ⟨⟨(h i hi ((hI i hi).mpr hj)).1.1, (hA i _ hi).mp (h i hi ((hI i hi).mpr hj)).1.2⟩, fun j hj2 hJ => (h i hi ((hI i hi).mpr hj)).2 j hj2 ((hI j hj2).mpr hJ)⟩, fun h i hi hj => ⟨⟨(h i hi ((hI i hi).mp hj)).1.1, (hA i _ hi).mpr (h i hi ((hI i hi).mp hj)).1.2⟩, fun j hj2 hJ => (h i hi ((hI i hi).mp hj)).2 j hj2 ((hI j hj2).mp hJ)⟩⟩
section DCG
variable {D E : Nat → Nat → Int} {sd : Int} {n : Nat}
theorem own_cg (e : ∀ t k : Nat, t < n → k < 5 → D t k = E t k) {t : Nat} (ht : t < n) : own D sd t ↔ own E sd t := by
  unfold own
  rw [e t 0 ht (by decide), e t 1 ht (by decide)]
theorem bar_cg (e : ∀ t k : Nat, t < n → k < 5 → D t k = E t k) {t : Nat} (ht : t < n) {h : Int} : bar D sd n t h ↔ bar E sd n t h := by
  have key : ∀ o : Nat, o < n → (bro D sd t o h ↔ bro E sd t o h) := fun o ho => by
    unfold bro
    rw [e o 0 ho (by decide), e o 1 ho (by decide), e o 2 ho (by decide), e o 3 ho (by decide), e o 4 ho (by decide), e t 2 ht (by decide)]
  exact ⟨fun ⟨o, h1, h2⟩ => ⟨o, h1, (key o (by omega)).mp h2⟩, fun ⟨o, h1, h2⟩ => ⟨o, h1, (key o (by omega)).mpr h2⟩⟩
theorem alw_cg (e : ∀ t k : Nat, t < n → k < 5 → D t k = E t k) {t h : Nat} (ht : t < n) : alw D sd n t h ↔ alw E sd n t h := by
  unfold alw
  rw [e t 3 ht (by decide), e t 4 ht (by decide), bar_cg e ht]
theorem sd_cg (e : ∀ t k : Nat, t < n → k < 5 → D t k = E t k) {S : Nat → Nat} : sdr n 24 (alw D sd n) (own D sd) S ↔ sdr n 24 (alw E sd n) (own E sd) S := sdr_cg (fun i hi => own_cg e hi) (fun i h hi => alw_cg e hi)
theorem TB_cg (e : ∀ t k : Nat, t < n → k < 5 → D t k = E t k) : TB D sd n ↔ TB E sd n := ⟨fun ⟨S, h⟩ => ⟨S, (sd_cg e).mp h⟩, fun ⟨S, h⟩ => ⟨S, (sd_cg e).mpr h⟩⟩
theorem lmin_cg (e : ∀ t k : Nat, t < n → k < 5 → D t k = E t k) {M : Nat → Nat} (h : lmin n (alw E sd n) (own E sd) M) : lmin n (alw D sd n) (own D sd) M := by
  refine ⟨(sd_cg e).mpr h.1, fun S hS t ht hO hp => ?_⟩
  refine h.2 S ((sd_cg e).mp hS) t ht ((own_cg e ht).mp hO) (fun q hq hw => hp q hq ((own_cg e (by omega)).mpr hw))
end DCG

set_option maxHeartbeats 4000000 in
set_option maxRecDepth 100000 in
theorem e_X8_isOwn (l : Launch) (dC : Nat → ClassId) (dI : Nat → Nat → Nat) (cy : Nat → ClassId) (sz : Nat) (ad : Nat → Nat) (v : Nat → Nat → Int32) (hv : Ir v) (x0 x1 x2 : Int32) (h0 : 0 ≤ x0.toInt ∧ x0.toInt ≤ 5) (h2 : 0 ≤ x2.toInt ∧ x2.toInt ≤ 4) : Met l yX8_isOwn wsX8_isOwn ({ frames := 1, cells := 0, slots := 0, locals := 64 }) (va_Pc [.ref (ad 0), .int x0, .int x1, .int x2] (ex_Pre dC dI cy sz (wm ad cy v))) (va_Qi (fun (r : Int32) (u : Nat → Nat → Int32) => Ir u ∧ u = v ∧ ((r = 1 ∧ own (fun t k => (v 1 (158 + k + 25 * x0.toNatClampNeg + 5 * t)).toInt) x1.toInt x2.toNatClampNeg) ∨ (r = 0 ∧ ¬ own (fun t k => (v 1 (158 + k + 25 * x0.toNatClampNeg + 5 * t)).toInt) x1.toInt x2.toNatClampNeg))) (fun u t => ex_Pst dC dI (va_A (wm ad cy v) sz) (wm ad cy u) t) (va_A (wm ad cy v) sz)) 0 0 (va_A (wm ad cy v) sz) := by
  refine Met.ofW (cc := cX8_isOwn) (maxL := 4) (ret := (some .boolean)) (by decide) rfl ?_
  intro p e s m args below meth c s₁ B hml hv
  obtain ⟨rfl, hsz, hE, hP, hK, hD0⟩ := hv
  have hx := B.exec
  have hb := B.bytes
  have hr := B.returns
  have hts := atoms_spec (ws := wsX8_isOwn) B.pre
  have hown : s.vm.findClass RX8 = some m.cls := findClass_of_methodNamed B.named
  have hlocks := B.notSynchronized
  subst hsz
  have hD := hD0.self (sz := s.heap.size)
  generalize hAe : va_A (wm ad cy v) s.heap.size = A at hD ⊢
  have hA : ∀ q : Nat, s.heap.size ≤ q → A q := fun q h => by rw [← hAe]; exact Or.inr h
  have hS : va_S A s.heap s.heap [] := va_S.rf
  have hP : va_P (dC, dI) vwCl (wm ad cy v) s.heap := hP
  have hl := lv_entry ([.ref (ad 0), .int x0, .int x1, .int x2]) (n := 4) (Nat.le_of_ble_eq_true rfl)
  rw [lg_entry_eq]
  generalize (lg_sl ([.ref (ad 0), .int x0, .int x1, .int x2]) ++ List.replicate (4 - (lg_sl ([.ref (ad 0), .int x0, .int x1, .int x2])).length) Slot.unset).toArray = ls at hl ⊢
  have hl : lv_has ls 4 [(0, .ref (ad 0)), (1, .int x0), (2, .int x1), (3, .int x2)] := hl
  have zn_x0 : (x0.toNatClampNeg : Int) = x0.toInt := t_nn (by omega)
  have zn_x2 : (x2.toNatClampNeg : Int) = x2.toInt := t_nn (by omega)
  obtain ⟨DD, eDD⟩ : ∃ f : Nat → Nat → Int, f = fun t k => (v 1 (158 + k + 25 * x0.toNatClampNeg + 5 * t)).toInt := ⟨_, rfl⟩
  refine lv_aload_n hx hb dX8_isOwn_0 rfl (lv_at hl 0 rfl) ?_
  refine va_get (D := (dC, dI)) (ci := 8) (v := .ref (ad 1)) (C := RX8) (T := TX8) (N := 11) hx hb hts iwX8_isOwn_X8 hown hK hP (0) (wm_at (by decide) rc_0) rfl 0 (by decide) (hts (.fieldLink RX8 7 "QuietStairsModel" "s" "[I") fwX8_isOwn_1) (fun _ h9 => h9) rfl dX8_isOwn_1 ?_
  refine lv_iload_n hx hb dX8_isOwn_4 rfl (lv_at hl 1 rfl) ?_
  refine lv_iload_n hx hb dX8_isOwn_5 rfl (lv_at hl 3 rfl) ?_
  refine yc_p hP hS (va_runS (As := [.int x0, .int x2]) (rest := [.ref (ad 1)]) ⟨hx, hb, hml, hown, hts⟩ (c_X8_termAt l x0 x2) (cwS 2 hts gX8_isOwn_X8_termAt rfl rfl rfl hd_S_X8_termAt_2 ⟨Nat.le_of_ble_eq_true rfl, Nat.le_of_ble_eq_true rfl⟩) ex_preP rfl rfl hl.1 rfl (lv_room (Nat.le_of_ble_eq_true rfl)) dX8_isOwn_6 ⟨Nat.le_of_ble_eq_true rfl, Nat.le_of_ble_eq_true rfl⟩) (fun r_1 H locs hw_1 hP hS => ?_)
  have tr_1 : r_1.toInt = 158 + 25 * x0.toInt + 5 * x2.toInt := t_tm hw_1 ⟨by omega, by omega⟩ ⟨by omega, by omega⟩
  have nr_1 : r_1.toNatClampNeg = 158 + 25 * x0.toNatClampNeg + 5 * x2.toNatClampNeg := by have z1 := t_nn (x := r_1) (by omega); omega
  refine va_iald hx hb hK hP (1) 0 (wm_at (by decide) rc_1) rfl (vp_in_iff.mpr ⟨by omega, by omega⟩) dX8_isOwn_9 ?_
  refine lv_topi (fun x_2 ex_2 => ?_)
  have bzx_2 : 0 ≤ x_2.toInt ∧ x_2.toInt ≤ 1 := by rw [ex_2]; exact hv 1 _ 1 (bx_t0 (i := 5 * x0.toInt + x2.toInt) (s := 0) (by omega) ⟨by omega, by omega⟩ (by omega))
  rw [nr_1] at ex_2
  have qx_2 : x_2.toInt = (v 1 (158 + 25 * x0.toNatClampNeg + 5 * x2.toNatClampNeg)).toInt := congrArg Int32.toInt ex_2
  have hF0 : DD x2.toNatClampNeg 0 = x_2.toInt := by rw [eDD]; exact congrArg Int32.toInt ex_2.symm
  refine lv_iload_n hx hb dX8_isOwn_10 rfl (lv_at hl 2 rfl) ?_
  refine lv_icmp_ne (tgt := 34) hx hb dX8_isOwn_11 (by decide) (fun c_3 => ?_) (fun c_3 => ?_)
  · have tc_3 : x_2.toInt ≠ x1.toInt := fun q => absurd (Int32.toInt_inj.mp q) c_3
    refine lv_iconst (v := 0) hx hb dX8_isOwn_34 (by decide) ?_
    exact W.zret (ty := .boolean) (v := 0) hx hb hr rfl (fun t ht hW => ⟨⟨0, v, rfl, ⟨hv, rfl, by rw [← eDD]; unfold own; rw [hF0]; exact Or.inr ⟨rfl, by omega⟩⟩, by rw [ht]; exact hP, hD⟩, hS.F ht⟩) hS.2.2 dX8_isOwn_35
  · have tc_3 : x_2.toInt = x1.toInt := by rw [c_3]
    refine lv_aload_n hx hb dX8_isOwn_14 rfl (lv_at hl 0 rfl) ?_
    refine va_get (D := (dC, dI)) (ci := 8) (v := .ref (ad 1)) (C := RX8) (T := TX8) (N := 11) hx hb hts iwX8_isOwn_X8 hown hK hP (0) (wm_at (by decide) rc_0) rfl 0 (by decide) (hts (.fieldLink RX8 7 "QuietStairsModel" "s" "[I") fwX8_isOwn_1) (fun _ h9 => h9) rfl dX8_isOwn_15 ?_
    refine lv_iload_n hx hb dX8_isOwn_18 rfl (lv_at hl 1 rfl) ?_
    refine lv_iload_n hx hb dX8_isOwn_19 rfl (lv_at hl 3 rfl) ?_
    refine yc_p hP hS (va_runS (As := [.int x0, .int x2]) (rest := [.ref (ad 1)]) ⟨hx, hb, hml, hown, hts⟩ (c_X8_termAt l x0 x2) (cwS 2 hts gX8_isOwn_X8_termAt rfl rfl rfl hd_S_X8_termAt_2 ⟨Nat.le_of_ble_eq_true rfl, Nat.le_of_ble_eq_true rfl⟩) ex_preP rfl rfl hl.1 rfl (lv_room (Nat.le_of_ble_eq_true rfl)) dX8_isOwn_20 ⟨Nat.le_of_ble_eq_true rfl, Nat.le_of_ble_eq_true rfl⟩) (fun r_4 H locs hw_4 hP hS => ?_)
    obtain rfl : r_1 = r_4 := hw_1.trans hw_4.symm
    refine lv_iconst (v := 1) hx hb dX8_isOwn_23 (by decide) ?_
    refine lv_iadd hx hb dX8_isOwn_24 ?_
    refine lv_topi (fun x_5 ex_5 => ?_)
    have k_1 : (1 : Int32).toInt = 1 := by decide
    have tx_5 : x_5.toInt = r_1.toInt + (1 : Int32).toInt := by rw [ex_5]; exact t_add ⟨by omega, by omega⟩
    have nx_5 : x_5.toNatClampNeg = 159 + 25 * x0.toNatClampNeg + 5 * x2.toNatClampNeg := by have z1 := t_nn (x := x_5) (by omega); omega
    refine va_iald hx hb hK hP (1) 0 (wm_at (by decide) rc_1) rfl (vp_in_iff.mpr ⟨by omega, by omega⟩) dX8_isOwn_25 ?_
    refine lv_topi (fun x_6 ex_6 => ?_)
    have bzx_6 : 0 ≤ x_6.toInt ∧ x_6.toInt ≤ 1 := by rw [ex_6]; exact hv 1 _ 1 (bx_t0 (i := 5 * x0.toInt + x2.toInt) (s := 1) (by omega) ⟨by omega, by omega⟩ (by omega))
    rw [nx_5] at ex_6
    have qx_6 : x_6.toInt = (v 1 (159 + 25 * x0.toNatClampNeg + 5 * x2.toNatClampNeg)).toInt := congrArg Int32.toInt ex_6
    have hF1 : DD x2.toNatClampNeg 1 = x_6.toInt := by rw [eDD]; exact congrArg Int32.toInt ex_6.symm
    refine lv_iconst (v := 1) hx hb dX8_isOwn_26 (by decide) ?_
    refine lv_icmp_ne (tgt := 34) hx hb dX8_isOwn_27 (by decide) (fun c_7 => ?_) (fun c_7 => ?_)
    · have tc_7 : x_6.toInt ≠ (1 : Int32).toInt := fun q => absurd (Int32.toInt_inj.mp q) c_7
      refine lv_iconst (v := 0) hx hb dX8_isOwn_34 (by decide) ?_
      exact W.zret (ty := .boolean) (v := 0) hx hb hr rfl (fun t ht hW => ⟨⟨0, v, rfl, ⟨hv, rfl, by rw [← eDD]; unfold own; rw [hF0, hF1]; exact Or.inr ⟨rfl, by omega⟩⟩, by rw [ht]; exact hP, hD⟩, hS.F ht⟩) hS.2.2 dX8_isOwn_35
    · have tc_7 : x_6.toInt = (1 : Int32).toInt := by rw [c_7]
      refine lv_iconst (v := 1) hx hb dX8_isOwn_30 (by decide) ?_
      refine lv_goto (tgt := 35) hx hb dX8_isOwn_31 (by decide) ?_
      exact W.zret (ty := .boolean) (v := 1) hx hb hr rfl (fun t ht hW => ⟨⟨1, v, rfl, ⟨hv, rfl, by rw [← eDD]; unfold own; rw [hF0, hF1]; exact Or.inl ⟨rfl, by omega, by omega⟩⟩, by rw [ht]; exact hP, hD⟩, hS.F ht⟩) hS.2.2 dX8_isOwn_35

set_option maxHeartbeats 4000000 in
set_option maxRecDepth 100000 in
theorem e_X8_next_f (l : Launch) (dC : Nat → ClassId) (dI : Nat → Nat → Nat) (cy : Nat → ClassId) (sz : Nat) (ad : Nat → Nat) (v : Nat → Nat → Int32) (hv : Ir v) (x0 x1 x2 x4 : Int32) (h0 : 0 ≤ x0.toInt ∧ x0.toInt ≤ 5) (h2 : -1 ≤ x2.toInt ∧ x2.toInt < x4.toInt) (h4 : 0 ≤ x4.toInt ∧ x4.toInt ≤ 5) : Met l yX8_next wsX8_next ({ frames := 2, cells := 0, slots := 0, locals := 128 }) (va_Pc [.ref (ad 0), .int x0, .int x1, .int x2, .int 1, .int x4] (ex_Pre dC dI cy sz (wm ad cy v))) (va_Qi (fun (r : Int32) (u : Nat → Nat → Int32) => Ir u ∧ u = v ∧ (x2.toInt < r.toInt ∧ r.toInt ≤ x4.toInt) ∧ (∀ i : Nat, x2.toInt < (i : Int) → (i : Int) < r.toInt → ¬ own (fun t k => (v 1 (158 + k + 25 * x0.toNatClampNeg + 5 * t)).toInt) x1.toInt i) ∧ (r.toInt < x4.toInt → own (fun t k => (v 1 (158 + k + 25 * x0.toNatClampNeg + 5 * t)).toInt) x1.toInt r.toNatClampNeg)) (fun u t => ex_Pst dC dI (va_A (wm ad cy v) sz) (wm ad cy u) t) (va_A (wm ad cy v) sz)) 0 0 (va_A (wm ad cy v) sz) := by
  refine Met.ofW (cc := cX8_next) (maxL := 7) (ret := (some .int)) (by decide) rfl ?_
  intro p e s m args below meth c s₁ B hml hv
  obtain ⟨rfl, hsz, hE, hP, hK, hD0⟩ := hv
  have hx := B.exec
  have hb := B.bytes
  have hr := B.returns
  have hts := atoms_spec (ws := wsX8_next) B.pre
  have hown : s.vm.findClass RX8 = some m.cls := findClass_of_methodNamed B.named
  have hlocks := B.notSynchronized
  subst hsz
  have hD := hD0.self (sz := s.heap.size)
  generalize hAe : va_A (wm ad cy v) s.heap.size = A at hD ⊢
  have hA : ∀ q : Nat, s.heap.size ≤ q → A q := fun q h => by rw [← hAe]; exact Or.inr h
  have hS : va_S A s.heap s.heap [] := va_S.rf
  have hP : va_P (dC, dI) vwCl (wm ad cy v) s.heap := hP
  have hl := lv_entry ([.ref (ad 0), .int x0, .int x1, .int x2, .int 1, .int x4]) (n := 7) (Nat.le_of_ble_eq_true rfl)
  rw [lg_entry_eq]
  generalize (lg_sl ([.ref (ad 0), .int x0, .int x1, .int x2, .int 1, .int x4]) ++ List.replicate (7 - (lg_sl ([.ref (ad 0), .int x0, .int x1, .int x2, .int 1, .int x4])).length) Slot.unset).toArray = ls at hl ⊢
  have hl : lv_has ls 7 [(0, .ref (ad 0)), (1, .int x0), (2, .int x1), (3, .int x2), (4, .int 1), (5, .int x4)] := hl
  have zn_x0 : (x0.toNatClampNeg : Int) = x0.toInt := t_nn (by omega)
  obtain ⟨DD, eDD⟩ : ∃ f : Nat → Nat → Int, f = fun t k => (v 1 (158 + k + 25 * x0.toNatClampNeg + 5 * t)).toInt := ⟨_, rfl⟩
  refine lv_iload_n hx hb dX8_next_0 rfl (lv_at hl 3 rfl) ?_
  refine lv_iload hx hb dX8_next_1 (lv_at hl 4 rfl) ?_
  refine lv_iadd hx hb dX8_next_3 ?_
  refine lv_topi (fun x_1 ex_1 => ?_)
  have k_1 : (1 : Int32).toInt = 1 := by decide
  have tx_1 : x_1.toInt = x2.toInt + (1 : Int32).toInt := by rw [ex_1]; exact t_add ⟨by omega, by omega⟩
  refine lv_istore (lv' := [(6, .int x_1), (0, .ref (ad 0)), (1, .int x0), (2, .int x1), (3, .int x2), (4, .int 1), (5, .int x4)]) hx hb dX8_next_4 hl (by decide) rfl (fun ls hl => ?_)
  have hc_2 : ∀ (n : Nat) (y2_6 : Int32) (H : Heap) (locs : List Loc), 0 ≤ y2_6.toInt → y2_6.toInt ≤ 5 → (∀ i : Nat, x2.toInt < (i : Int) → (i : Int) < y2_6.toInt → ¬ own DD x1.toInt i) → (x2.toInt < y2_6.toInt) → (y2_6.toInt ≤ x4.toInt) → (6 - y2_6.toInt).toNat < n → va_P (dC, dI) vwCl (wm ad cy v) H → va_D A (wm ad cy v) → va_S A s.heap H locs → ∀ ls : Array Slot, lv_has ls 7 [(6, .int y2_6), (0, .ref (ad 0)), (1, .int x0), (2, .int x1), (3, .int x2), (4, .int 1), (5, .int x4)] → W p l e (headSpec wsX8_next ({ frames := 2, cells := 0, slots := 0, locals := 128 })).room s m [Value.ref (ad 0), Value.int x0, Value.int x1, Value.int x2, Value.int 1, Value.int x4].toArray below meth c H locs 0 0 (MQ below (va_Qi (fun (r : Int32) (u : Nat → Nat → Int32) => Ir u ∧ u = v ∧ (x2.toInt < r.toInt ∧ r.toInt ≤ x4.toInt) ∧ (∀ i : Nat, x2.toInt < (i : Int) → (i : Int) < r.toInt → ¬ own (fun t k => (v 1 (158 + k + 25 * x0.toNatClampNeg + 5 * t)).toInt) x1.toInt i) ∧ (r.toInt < x4.toInt → own (fun t k => (v 1 (158 + k + 25 * x0.toNatClampNeg + 5 * t)).toInt) x1.toInt r.toNatClampNeg)) (fun u t => ex_Pst dC dI A (wm ad cy u) t) A) [Value.ref (ad 0), Value.int x0, Value.int x1, Value.int x2, Value.int 1, Value.int x4].toArray s 0 0 A) (F0 m 6 ls []) := by
    intro n
    induction n with
    | zero =>
      intro y2_6 H locs ay2_6 by2_6 hi2_0 hi2_1 hi2_2 hm_2 hP hD hS ls hl
      exact absurd hm_2 (by omega)
    | succ n ih_2 =>
      intro y2_6 H locs ay2_6 by2_6 hi2_0 hi2_1 hi2_2 hm_2 hP hD hS ls hl
      refine lv_iload hx hb dX8_next_6 (lv_at hl 0 rfl) ?_
      refine lv_iconst (v := 0) hx hb dX8_next_8 (by decide) ?_
      refine lv_iload hx hb dX8_next_9 (lv_at hl 6 rfl) ?_
      refine lv_iconst (v := 1) hx hb dX8_next_11 (by decide) ?_
      refine lv_isub hx hb dX8_next_12 ?_
      refine lv_topi (fun x_3 ex_3 => ?_)
      have tx_3 : x_3.toInt = x4.toInt - (1 : Int32).toInt := by rw [ex_3]; exact t_sub ⟨by omega, by omega⟩
      refine yc_p hP hS (va_runS (As := [.int y2_6, .int 0, .int x_3]) (rest := []) ⟨hx, hb, hml, hown, hts⟩ (c_X8_in l y2_6 0 x_3) (cwS 3 hts gX8_next_X8_in rfl rfl rfl hd_S_X8_in_3 ⟨Nat.le_of_ble_eq_true rfl, Nat.le_of_ble_eq_true rfl⟩) ex_preP rfl rfl hl.1 rfl (lv_room (Nat.le_of_ble_eq_true rfl)) dX8_next_13 ⟨Nat.le_of_ble_eq_true rfl, Nat.le_of_ble_eq_true rfl⟩) (fun r_4 H locs hw_4 hP hS => ?_)
      rcases wi_ca hw_4 with ⟨rfl, hc_5⟩ | ⟨rfl, hc_5⟩
      · have k_0 : (0 : Int32).toInt = 0 := by decide
        have tc_5 := wi_tl hc_5
        refine lv_if_eq (tgt := 40) hx hb dX8_next_16 (by decide) (fun c9 => absurd c9 (by decide)) (fun _ => ?_)
        refine lv_aload_n hx hb dX8_next_19 rfl (lv_at hl 1 rfl) ?_
        refine lv_iload_n hx hb dX8_next_20 rfl (lv_at hl 2 rfl) ?_
        refine lv_iload_n hx hb dX8_next_21 rfl (lv_at hl 3 rfl) ?_
        refine lv_iload hx hb dX8_next_22 (lv_at hl 0 rfl) ?_
        refine yw_i (w1 := fun (u : Nat → Nat → Int32) => wm ad cy u) hD hS hA (va_runV (As := [.int x0, .int x1, .int y2_6]) (rest := []) ⟨hx, hb, hml, hown, hts⟩ (e_X8_isOwn l dC dI cy _ ad v hv x0 x1 y2_6 ⟨by omega, by omega⟩ ⟨by omega, by omega⟩) (cwV 3 hts gX8_next_X8_isOwn rfl rfl rfl hd_V_X8_isOwn_3 ⟨Nat.le_of_ble_eq_true rfl, Nat.le_of_ble_eq_true rfl⟩) (yw_preV hE hK hP hD (ci := 8) (q := (RX8, TX8, 11)) (q0 := 0) rfl (wm_at (by decide) rc_0)) rfl rfl hl.1 rfl (lv_room (Nat.le_of_ble_eq_true rfl)) dX8_next_24 ⟨Nat.le_of_ble_eq_true rfl, Nat.le_of_ble_eq_true rfl⟩) (fun r_6 v_6 H locs hw_6 hP hD hS => ?_)
        obtain ⟨-, hu_6, hw_6⟩ := hw_6
        replace hu_6 := hu_6.symm
        subst hu_6
        rcases hw_6 with ⟨rfl, ho_7⟩ | ⟨rfl, ho_7⟩
        · rw [← eDD] at ho_7
          refine lv_if_ne (tgt := 40) hx hb dX8_next_27 (by decide) (fun _ => ?_) (fun c9 => absurd c9 (by decide))
          refine lv_iload hx hb dX8_next_40 (lv_at hl 0 rfl) ?_
          exact W.iret (v := y2_6) hx hb hr (fun t ht hW => ⟨⟨y2_6, v, rfl, ⟨hv, rfl, ⟨by omega, by omega⟩, by rw [← eDD]; exact hi2_0, fun _ => by rw [← eDD]; exact ho_7⟩, by rw [ht]; exact hP, hD⟩, hS.F ht⟩) hS.2.2 dX8_next_42
        · rw [← eDD] at ho_7
          refine lv_if_ne (tgt := 40) hx hb dX8_next_27 (by decide) (fun c9 => absurd c9 (by decide)) (fun _ => ?_)
          refine lv_iload hx hb dX8_next_30 (lv_at hl 0 rfl) ?_
          refine lv_iload hx hb dX8_next_32 (lv_at hl 5 rfl) ?_
          refine lv_iadd hx hb dX8_next_34 ?_
          refine lv_topi (fun x_8 ex_8 => ?_)
          have tx_8 : x_8.toInt = y2_6.toInt + (1 : Int32).toInt := by rw [ex_8]; exact t_add ⟨by omega, by omega⟩
          refine lv_istore (lv' := [(6, .int x_8), (0, .ref (ad 0)), (1, .int x0), (2, .int x1), (3, .int x2), (4, .int 1), (5, .int x4)]) hx hb dX8_next_35 hl (by decide) rfl (fun ls hl => ?_)
          refine lv_goto (tgt := 6) hx hb dX8_next_37 (by decide) ?_
          have zn_y2_6 : (y2_6.toNatClampNeg : Int) = y2_6.toInt := t_nn (by omega)
          exact ih_2 x_8 _ _ (by omega) (by omega) (fun i h1 h2 => by by_cases q : (i : Int) < y2_6.toInt; exact hi2_0 i h1 q; rw [show i = y2_6.toNatClampNeg from by omega]; exact ho_7) (by omega) (by omega) (by omega) hP hD hS ls (lv_sub hl [0, 1, 2, 3, 4, 5, 6] rfl)
      · have k_0 : (0 : Int32).toInt = 0 := by decide
        have tc_5 : ¬ ((0 : Int32).toInt ≤ y2_6.toInt ∧ y2_6.toInt ≤ x_3.toInt) := fun q => hc_5 ⟨Int32.le_iff_toInt_le.mpr q.1, Int32.le_iff_toInt_le.mpr q.2⟩
        refine lv_if_eq (tgt := 40) hx hb dX8_next_16 (by decide) (fun _ => ?_) (fun c9 => absurd c9 (by decide))
        refine lv_iload hx hb dX8_next_40 (lv_at hl 0 rfl) ?_
        exact W.iret (v := y2_6) hx hb hr (fun t ht hW => ⟨⟨y2_6, v, rfl, ⟨hv, rfl, ⟨by omega, by omega⟩, by rw [← eDD]; exact hi2_0, fun q => absurd q (by omega)⟩, by rw [ht]; exact hP, hD⟩, hS.F ht⟩) hS.2.2 dX8_next_42
  exact hc_2 ((6 - x_1.toInt).toNat + 1) x_1 _ _ (by omega) (by omega) (fun i h1 h2 => absurd h2 (by omega)) (by omega) (by omega) (by omega) hP hD hS ls (lv_sub hl [0, 1, 2, 3, 4, 5, 6] rfl)

set_option maxHeartbeats 4000000 in
set_option maxRecDepth 100000 in
theorem e_X8_next_b (l : Launch) (dC : Nat → ClassId) (dI : Nat → Nat → Nat) (cy : Nat → ClassId) (sz : Nat) (ad : Nat → Nat) (v : Nat → Nat → Int32) (hv : Ir v) (x0 x1 x2 x4 : Int32) (h0 : 0 ≤ x0.toInt ∧ x0.toInt ≤ 5) (h2 : 0 ≤ x2.toInt ∧ x2.toInt < x4.toInt) (h4 : 0 ≤ x4.toInt ∧ x4.toInt ≤ 5) : Met l yX8_next wsX8_next ({ frames := 2, cells := 0, slots := 0, locals := 128 }) (va_Pc [.ref (ad 0), .int x0, .int x1, .int x2, .int (-1), .int x4] (ex_Pre dC dI cy sz (wm ad cy v))) (va_Qi (fun (r : Int32) (u : Nat → Nat → Int32) => Ir u ∧ u = v ∧ (-1 ≤ r.toInt ∧ r.toInt < x2.toInt) ∧ (∀ i : Nat, r.toInt < (i : Int) → (i : Int) < x2.toInt → ¬ own (fun t k => (v 1 (158 + k + 25 * x0.toNatClampNeg + 5 * t)).toInt) x1.toInt i) ∧ (0 ≤ r.toInt → own (fun t k => (v 1 (158 + k + 25 * x0.toNatClampNeg + 5 * t)).toInt) x1.toInt r.toNatClampNeg)) (fun u t => ex_Pst dC dI (va_A (wm ad cy v) sz) (wm ad cy u) t) (va_A (wm ad cy v) sz)) 0 0 (va_A (wm ad cy v) sz) := by
  refine Met.ofW (cc := cX8_next) (maxL := 7) (ret := (some .int)) (by decide) rfl ?_
  intro p e s m args below meth c s₁ B hml hv
  obtain ⟨rfl, hsz, hE, hP, hK, hD0⟩ := hv
  have hx := B.exec
  have hb := B.bytes
  have hr := B.returns
  have hts := atoms_spec (ws := wsX8_next) B.pre
  have hown : s.vm.findClass RX8 = some m.cls := findClass_of_methodNamed B.named
  have hlocks := B.notSynchronized
  subst hsz
  have hD := hD0.self (sz := s.heap.size)
  generalize hAe : va_A (wm ad cy v) s.heap.size = A at hD ⊢
  have hA : ∀ q : Nat, s.heap.size ≤ q → A q := fun q h => by rw [← hAe]; exact Or.inr h
  have hS : va_S A s.heap s.heap [] := va_S.rf
  have hP : va_P (dC, dI) vwCl (wm ad cy v) s.heap := hP
  have hl := lv_entry ([.ref (ad 0), .int x0, .int x1, .int x2, .int (-1), .int x4]) (n := 7) (Nat.le_of_ble_eq_true rfl)
  rw [lg_entry_eq]
  generalize (lg_sl ([.ref (ad 0), .int x0, .int x1, .int x2, .int (-1), .int x4]) ++ List.replicate (7 - (lg_sl ([.ref (ad 0), .int x0, .int x1, .int x2, .int (-1), .int x4])).length) Slot.unset).toArray = ls at hl ⊢
  have hl : lv_has ls 7 [(0, .ref (ad 0)), (1, .int x0), (2, .int x1), (3, .int x2), (4, .int (-1)), (5, .int x4)] := hl
  have zn_x0 : (x0.toNatClampNeg : Int) = x0.toInt := t_nn (by omega)
  obtain ⟨DD, eDD⟩ : ∃ f : Nat → Nat → Int, f = fun t k => (v 1 (158 + k + 25 * x0.toNatClampNeg + 5 * t)).toInt := ⟨_, rfl⟩
  refine lv_iload_n hx hb dX8_next_0 rfl (lv_at hl 3 rfl) ?_
  refine lv_iload hx hb dX8_next_1 (lv_at hl 4 rfl) ?_
  refine lv_iadd hx hb dX8_next_3 ?_
  refine lv_topi (fun x_1 ex_1 => ?_)
  have k_m1 : ((-1) : Int32).toInt = -1 := by decide
  have tx_1 : x_1.toInt = x2.toInt + ((-1) : Int32).toInt := by rw [ex_1]; exact t_add ⟨by omega, by omega⟩
  refine lv_istore (lv' := [(6, .int x_1), (0, .ref (ad 0)), (1, .int x0), (2, .int x1), (3, .int x2), (4, .int (-1)), (5, .int x4)]) hx hb dX8_next_4 hl (by decide) rfl (fun ls hl => ?_)
  have hc_2 : ∀ (n : Nat) (y2_6 : Int32) (H : Heap) (locs : List Loc), -1 ≤ y2_6.toInt → y2_6.toInt ≤ 4 → (∀ i : Nat, y2_6.toInt < (i : Int) → (i : Int) < x2.toInt → ¬ own DD x1.toInt i) → (y2_6.toInt < x2.toInt) → (y2_6.toInt + 1).toNat < n → va_P (dC, dI) vwCl (wm ad cy v) H → va_D A (wm ad cy v) → va_S A s.heap H locs → ∀ ls : Array Slot, lv_has ls 7 [(6, .int y2_6), (0, .ref (ad 0)), (1, .int x0), (2, .int x1), (3, .int x2), (4, .int (-1)), (5, .int x4)] → W p l e (headSpec wsX8_next ({ frames := 2, cells := 0, slots := 0, locals := 128 })).room s m [Value.ref (ad 0), Value.int x0, Value.int x1, Value.int x2, Value.int (-1), Value.int x4].toArray below meth c H locs 0 0 (MQ below (va_Qi (fun (r : Int32) (u : Nat → Nat → Int32) => Ir u ∧ u = v ∧ (-1 ≤ r.toInt ∧ r.toInt < x2.toInt) ∧ (∀ i : Nat, r.toInt < (i : Int) → (i : Int) < x2.toInt → ¬ own (fun t k => (v 1 (158 + k + 25 * x0.toNatClampNeg + 5 * t)).toInt) x1.toInt i) ∧ (0 ≤ r.toInt → own (fun t k => (v 1 (158 + k + 25 * x0.toNatClampNeg + 5 * t)).toInt) x1.toInt r.toNatClampNeg)) (fun u t => ex_Pst dC dI A (wm ad cy u) t) A) [Value.ref (ad 0), Value.int x0, Value.int x1, Value.int x2, Value.int (-1), Value.int x4].toArray s 0 0 A) (F0 m 6 ls []) := by
    intro n
    induction n with
    | zero =>
      intro y2_6 H locs ay2_6 by2_6 hi2_0 hi2_1 hm_2 hP hD hS ls hl
      exact absurd hm_2 (by omega)
    | succ n ih_2 =>
      intro y2_6 H locs ay2_6 by2_6 hi2_0 hi2_1 hm_2 hP hD hS ls hl
      refine lv_iload hx hb dX8_next_6 (lv_at hl 0 rfl) ?_
      refine lv_iconst (v := 0) hx hb dX8_next_8 (by decide) ?_
      refine lv_iload hx hb dX8_next_9 (lv_at hl 6 rfl) ?_
      refine lv_iconst (v := 1) hx hb dX8_next_11 (by decide) ?_
      refine lv_isub hx hb dX8_next_12 ?_
      refine lv_topi (fun x_3 ex_3 => ?_)
      have k_1 : (1 : Int32).toInt = 1 := by decide
      have tx_3 : x_3.toInt = x4.toInt - (1 : Int32).toInt := by rw [ex_3]; exact t_sub ⟨by omega, by omega⟩
      refine yc_p hP hS (va_runS (As := [.int y2_6, .int 0, .int x_3]) (rest := []) ⟨hx, hb, hml, hown, hts⟩ (c_X8_in l y2_6 0 x_3) (cwS 3 hts gX8_next_X8_in rfl rfl rfl hd_S_X8_in_3 ⟨Nat.le_of_ble_eq_true rfl, Nat.le_of_ble_eq_true rfl⟩) ex_preP rfl rfl hl.1 rfl (lv_room (Nat.le_of_ble_eq_true rfl)) dX8_next_13 ⟨Nat.le_of_ble_eq_true rfl, Nat.le_of_ble_eq_true rfl⟩) (fun r_4 H locs hw_4 hP hS => ?_)
      rcases wi_ca hw_4 with ⟨rfl, hc_5⟩ | ⟨rfl, hc_5⟩
      · have k_0 : (0 : Int32).toInt = 0 := by decide
        have tc_5 := wi_tl hc_5
        refine lv_if_eq (tgt := 40) hx hb dX8_next_16 (by decide) (fun c9 => absurd c9 (by decide)) (fun _ => ?_)
        refine lv_aload_n hx hb dX8_next_19 rfl (lv_at hl 1 rfl) ?_
        refine lv_iload_n hx hb dX8_next_20 rfl (lv_at hl 2 rfl) ?_
        refine lv_iload_n hx hb dX8_next_21 rfl (lv_at hl 3 rfl) ?_
        refine lv_iload hx hb dX8_next_22 (lv_at hl 0 rfl) ?_
        refine yw_i (w1 := fun (u : Nat → Nat → Int32) => wm ad cy u) hD hS hA (va_runV (As := [.int x0, .int x1, .int y2_6]) (rest := []) ⟨hx, hb, hml, hown, hts⟩ (e_X8_isOwn l dC dI cy _ ad v hv x0 x1 y2_6 ⟨by omega, by omega⟩ ⟨by omega, by omega⟩) (cwV 3 hts gX8_next_X8_isOwn rfl rfl rfl hd_V_X8_isOwn_3 ⟨Nat.le_of_ble_eq_true rfl, Nat.le_of_ble_eq_true rfl⟩) (yw_preV hE hK hP hD (ci := 8) (q := (RX8, TX8, 11)) (q0 := 0) rfl (wm_at (by decide) rc_0)) rfl rfl hl.1 rfl (lv_room (Nat.le_of_ble_eq_true rfl)) dX8_next_24 ⟨Nat.le_of_ble_eq_true rfl, Nat.le_of_ble_eq_true rfl⟩) (fun r_6 v_6 H locs hw_6 hP hD hS => ?_)
        obtain ⟨-, hu_6, hw_6⟩ := hw_6
        replace hu_6 := hu_6.symm
        subst hu_6
        rcases hw_6 with ⟨rfl, ho_7⟩ | ⟨rfl, ho_7⟩
        · rw [← eDD] at ho_7
          refine lv_if_ne (tgt := 40) hx hb dX8_next_27 (by decide) (fun _ => ?_) (fun c9 => absurd c9 (by decide))
          refine lv_iload hx hb dX8_next_40 (lv_at hl 0 rfl) ?_
          exact W.iret (v := y2_6) hx hb hr (fun t ht hW => ⟨⟨y2_6, v, rfl, ⟨hv, rfl, ⟨by omega, by omega⟩, by rw [← eDD]; exact hi2_0, fun _ => by rw [← eDD]; exact ho_7⟩, by rw [ht]; exact hP, hD⟩, hS.F ht⟩) hS.2.2 dX8_next_42
        · rw [← eDD] at ho_7
          refine lv_if_ne (tgt := 40) hx hb dX8_next_27 (by decide) (fun c9 => absurd c9 (by decide)) (fun _ => ?_)
          refine lv_iload hx hb dX8_next_30 (lv_at hl 0 rfl) ?_
          refine lv_iload hx hb dX8_next_32 (lv_at hl 5 rfl) ?_
          refine lv_iadd hx hb dX8_next_34 ?_
          refine lv_topi (fun x_8 ex_8 => ?_)
          have tx_8 : x_8.toInt = y2_6.toInt + ((-1) : Int32).toInt := by rw [ex_8]; exact t_add ⟨by omega, by omega⟩
          refine lv_istore (lv' := [(6, .int x_8), (0, .ref (ad 0)), (1, .int x0), (2, .int x1), (3, .int x2), (4, .int (-1)), (5, .int x4)]) hx hb dX8_next_35 hl (by decide) rfl (fun ls hl => ?_)
          refine lv_goto (tgt := 6) hx hb dX8_next_37 (by decide) ?_
          have zn_y2_6 : (y2_6.toNatClampNeg : Int) = y2_6.toInt := t_nn (by omega)
          exact ih_2 x_8 _ _ (by omega) (by omega) (fun i h1 h2 => by by_cases q : y2_6.toInt < (i : Int); exact hi2_0 i q h2; rw [show i = y2_6.toNatClampNeg from by omega]; exact ho_7) (by omega) (by omega) hP hD hS ls (lv_sub hl [0, 1, 2, 3, 4, 5, 6] rfl)
      · have k_0 : (0 : Int32).toInt = 0 := by decide
        have tc_5 : ¬ ((0 : Int32).toInt ≤ y2_6.toInt ∧ y2_6.toInt ≤ x_3.toInt) := fun q => hc_5 ⟨Int32.le_iff_toInt_le.mpr q.1, Int32.le_iff_toInt_le.mpr q.2⟩
        refine lv_if_eq (tgt := 40) hx hb dX8_next_16 (by decide) (fun _ => ?_) (fun c9 => absurd c9 (by decide))
        refine lv_iload hx hb dX8_next_40 (lv_at hl 0 rfl) ?_
        exact W.iret (v := y2_6) hx hb hr (fun t ht hW => ⟨⟨y2_6, v, rfl, ⟨hv, rfl, ⟨by omega, by omega⟩, by rw [← eDD]; exact hi2_0, fun q => absurd q (by omega)⟩, by rw [ht]; exact hP, hD⟩, hS.F ht⟩) hS.2.2 dX8_next_42
  exact hc_2 ((x_1.toInt + 1).toNat + 1) x_1 _ _ (by omega) (by omega) (fun i h1 h2 => absurd h1 (by omega)) (by omega) (by omega) hP hD hS ls (lv_sub hl [0, 1, 2, 3, 4, 5, 6] rfl)

set_option maxHeartbeats 4000000 in
set_option maxRecDepth 100000 in
theorem e_X8_mayBe (l : Launch) (dC : Nat → ClassId) (dI : Nat → Nat → Nat) (cy : Nat → ClassId) (sz : Nat) (ad : Nat → Nat) (v : Nat → Nat → Int32) (hv : Ir v) (x0 x1 x2 x3 : Int32) (h0 : 0 ≤ x0.toInt ∧ x0.toInt ≤ 5) (h2 : 0 ≤ x2.toInt ∧ x2.toInt ≤ 4) (h3 : 0 ≤ x3.toInt ∧ x3.toInt ≤ 5) (h23 : x2.toInt < x3.toInt) : Met l yX8_mayBe wsX8_mayBe ({ frames := 1, cells := 0, slots := 0, locals := 64 }) (va_Pc [.ref (ad 0), .int x0, .int x1, .int x2, .int x3] (ex_Pre dC dI cy sz (wm ad cy v))) (va_Qi (fun (r : Int32) (u : Nat → Nat → Int32) => Ir u ∧ u = v ∧ ((r = 1 ∧ VH (fun t k => (v 1 (158 + k + 25 * x0.toNatClampNeg + 5 * t)).toInt) x1.toInt x3.toInt x2.toNatClampNeg (v 7) (v 7 x2.toNatClampNeg).toInt) ∨ (r = 0 ∧ ¬ VH (fun t k => (v 1 (158 + k + 25 * x0.toNatClampNeg + 5 * t)).toInt) x1.toInt x3.toInt x2.toNatClampNeg (v 7) (v 7 x2.toNatClampNeg).toInt))) (fun u t => ex_Pst dC dI (va_A (wm ad cy v) sz) (wm ad cy u) t) (va_A (wm ad cy v) sz)) 0 0 (va_A (wm ad cy v) sz) := by
  refine Met.ofW (cc := cX8_mayBe) (maxL := 9) (ret := (some .boolean)) (by decide) rfl ?_
  intro p e s m args below meth c s₁ B hml hv
  obtain ⟨rfl, hsz, hE, hP, hK, hD0⟩ := hv
  have hx := B.exec
  have hb := B.bytes
  have hr := B.returns
  have hts := atoms_spec (ws := wsX8_mayBe) B.pre
  have hown : s.vm.findClass RX8 = some m.cls := findClass_of_methodNamed B.named
  have hlocks := B.notSynchronized
  subst hsz
  have hD := hD0.self (sz := s.heap.size)
  generalize hAe : va_A (wm ad cy v) s.heap.size = A at hD ⊢
  have hA : ∀ q : Nat, s.heap.size ≤ q → A q := fun q h => by rw [← hAe]; exact Or.inr h
  have hS : va_S A s.heap s.heap [] := va_S.rf
  have hP : va_P (dC, dI) vwCl (wm ad cy v) s.heap := hP
  have hl := lv_entry ([.ref (ad 0), .int x0, .int x1, .int x2, .int x3]) (n := 9) (Nat.le_of_ble_eq_true rfl)
  rw [lg_entry_eq]
  generalize (lg_sl ([.ref (ad 0), .int x0, .int x1, .int x2, .int x3]) ++ List.replicate (9 - (lg_sl ([.ref (ad 0), .int x0, .int x1, .int x2, .int x3])).length) Slot.unset).toArray = ls at hl ⊢
  have hl : lv_has ls 9 [(0, .ref (ad 0)), (1, .int x0), (2, .int x1), (3, .int x2), (4, .int x3)] := hl
  have zn_x0 : (x0.toNatClampNeg : Int) = x0.toInt := t_nn (by omega)
  have zn_x2 : (x2.toNatClampNeg : Int) = x2.toInt := t_nn (by omega)
  obtain ⟨DD, eDD⟩ : ∃ f : Nat → Nat → Int, f = fun t k => (v 1 (158 + k + 25 * x0.toNatClampNeg + 5 * t)).toInt := ⟨_, rfl⟩
  obtain ⟨hh, ehh⟩ : ∃ z : Int32, z = v 7 x2.toNatClampNeg := ⟨_, rfl⟩
  refine lv_iload_n hx hb dX8_mayBe_0 rfl (lv_at hl 1 rfl) ?_
  refine lv_iload_n hx hb dX8_mayBe_1 rfl (lv_at hl 3 rfl) ?_
  refine yc_p hP hS (va_runS (As := [.int x0, .int x2]) (rest := []) ⟨hx, hb, hml, hown, hts⟩ (c_X8_termAt l x0 x2) (cwS 2 hts gX8_mayBe_X8_termAt rfl rfl rfl hd_S_X8_termAt_2 ⟨Nat.le_of_ble_eq_true rfl, Nat.le_of_ble_eq_true rfl⟩) ex_preP rfl rfl hl.1 rfl (lv_room (Nat.le_of_ble_eq_true rfl)) dX8_mayBe_2 ⟨Nat.le_of_ble_eq_true rfl, Nat.le_of_ble_eq_true rfl⟩) (fun r_1 H locs hw_1 hP hS => ?_)
  have tr_1 : r_1.toInt = 158 + 25 * x0.toInt + 5 * x2.toInt := t_tm hw_1 ⟨by omega, by omega⟩ ⟨by omega, by omega⟩
  refine lv_istore (lv' := [(5, .int r_1), (0, .ref (ad 0)), (1, .int x0), (2, .int x1), (3, .int x2), (4, .int x3)]) hx hb dX8_mayBe_5 hl (by decide) rfl (fun ls hl => ?_)
  refine lv_iconst (v := 0) hx hb dX8_mayBe_7 (by decide) ?_
  refine lv_istore (lv' := [(6, .int 0), (5, .int r_1), (0, .ref (ad 0)), (1, .int x0), (2, .int x1), (3, .int x2), (4, .int x3)]) hx hb dX8_mayBe_8 hl (by decide) rfl (fun ls hl => ?_)
  have hc_2 : ∀ (n : Nat) (y2_6 : Int32) (H : Heap) (locs : List Loc), 0 ≤ y2_6.toInt → y2_6.toInt ≤ 5 → (¬ bar DD x1.toInt y2_6.toInt x2.toNatClampNeg hh.toInt) → (∀ o : Nat, (o : Int) < y2_6.toInt → o < x2.toNatClampNeg → own DD x1.toInt o → (v 7 o).toInt ≠ hh.toInt) → (y2_6.toInt ≤ x3.toInt) → (5 - y2_6.toInt).toNat < n → va_P (dC, dI) vwCl (wm ad cy v) H → va_D A (wm ad cy v) → va_S A s.heap H locs → ∀ ls : Array Slot, lv_has ls 9 [(6, .int y2_6), (5, .int r_1), (0, .ref (ad 0)), (1, .int x0), (2, .int x1), (3, .int x2), (4, .int x3)] → W p l e (headSpec wsX8_mayBe ({ frames := 1, cells := 0, slots := 0, locals := 64 })).room s m [Value.ref (ad 0), Value.int x0, Value.int x1, Value.int x2, Value.int x3].toArray below meth c H locs 0 0 (MQ below (va_Qi (fun (r : Int32) (u : Nat → Nat → Int32) => Ir u ∧ u = v ∧ ((r = 1 ∧ VH (fun t k => (v 1 (158 + k + 25 * x0.toNatClampNeg + 5 * t)).toInt) x1.toInt x3.toInt x2.toNatClampNeg (v 7) (v 7 x2.toNatClampNeg).toInt) ∨ (r = 0 ∧ ¬ VH (fun t k => (v 1 (158 + k + 25 * x0.toNatClampNeg + 5 * t)).toInt) x1.toInt x3.toInt x2.toNatClampNeg (v 7) (v 7 x2.toNatClampNeg).toInt))) (fun u t => ex_Pst dC dI A (wm ad cy u) t) A) [Value.ref (ad 0), Value.int x0, Value.int x1, Value.int x2, Value.int x3].toArray s 0 0 A) (F0 m 10 ls []) := by
    intro n
    induction n with
    | zero =>
      intro y2_6 H locs ay2_6 by2_6 hi2_0 hi2_1 hi2_2 hm_2 hP hD hS ls hl
      exact absurd hm_2 (by omega)
    | succ n ih_2 =>
      intro y2_6 H locs ay2_6 by2_6 hi2_0 hi2_1 hi2_2 hm_2 hP hD hS ls hl
      refine lv_iload hx hb dX8_mayBe_10 (lv_at hl 0 rfl) ?_
      refine lv_iload hx hb dX8_mayBe_12 (lv_at hl 6 rfl) ?_
      refine lv_icmp_ge (tgt := 157) hx hb dX8_mayBe_14 (by decide) (fun c_3 => ?_) (fun c_3 => ?_)
      · have tc_3 : y2_6.toInt ≥ x3.toInt := Int32.le_iff_toInt_le.mp c_3
        refine lv_iconst (v := 1) hx hb dX8_mayBe_157 (by decide) ?_
        have zn_y2_6 : (y2_6.toNatClampNeg : Int) = y2_6.toInt := t_nn (by omega)
        exact W.zret (ty := .boolean) (v := 1) hx hb hr rfl (fun t ht hW => ⟨⟨1, v, rfl, ⟨hv, rfl, by rw [← eDD, ← ehh]; exact Or.inl ⟨rfl, by rw [show x3.toInt = y2_6.toInt from by omega]; exact hi2_0, fun o h1 h2 => hi2_1 o (by omega) h1 h2⟩⟩, by rw [ht]; exact hP, hD⟩, hS.F ht⟩) hS.2.2 dX8_mayBe_158
      · have tc_3 : y2_6.toInt < x3.toInt := Int32.lt_iff_toInt_lt.mp (Int32.not_le.mp c_3)
        refine lv_iload_n hx hb dX8_mayBe_17 rfl (lv_at hl 3 rfl) ?_
        refine lv_iload hx hb dX8_mayBe_18 (lv_at hl 0 rfl) ?_
        refine yc_p hP hS (va_runS (As := [.int x0, .int y2_6]) (rest := []) ⟨hx, hb, hml, hown, hts⟩ (c_X8_termAt l x0 y2_6) (cwS 2 hts gX8_mayBe_X8_termAt rfl rfl rfl hd_S_X8_termAt_2 ⟨Nat.le_of_ble_eq_true rfl, Nat.le_of_ble_eq_true rfl⟩) ex_preP rfl rfl hl.1 rfl (lv_room (Nat.le_of_ble_eq_true rfl)) dX8_mayBe_20 ⟨Nat.le_of_ble_eq_true rfl, Nat.le_of_ble_eq_true rfl⟩) (fun r_4 H locs hw_4 hP hS => ?_)
        have tr_4 : r_4.toInt = 158 + 25 * x0.toInt + 5 * y2_6.toInt := t_tm hw_4 ⟨by omega, by omega⟩ ⟨by omega, by omega⟩
        refine lv_istore (lv' := [(7, .int r_4), (6, .int y2_6), (5, .int r_1), (0, .ref (ad 0)), (1, .int x0), (2, .int x1), (3, .int x2), (4, .int x3)]) hx hb dX8_mayBe_23 hl (by decide) rfl (fun ls hl => ?_)
        refine lv_aload_n hx hb dX8_mayBe_25 rfl (lv_at hl 3 rfl) ?_
        refine va_get (D := (dC, dI)) (ci := 8) (v := .ref (ad 1)) (C := RX8) (T := TX8) (N := 11) hx hb hts iwX8_mayBe_X8 hown hK hP (0) (wm_at (by decide) rc_0) rfl 0 (by decide) (hts (.fieldLink RX8 7 "QuietStairsModel" "s" "[I") fwX8_mayBe_1) (fun _ h9 => h9) rfl dX8_mayBe_26 ?_
        refine lv_iload hx hb dX8_mayBe_29 (lv_at hl 0 rfl) ?_
        have zn_y2_6 : (y2_6.toNatClampNeg : Int) = y2_6.toInt := t_nn (by omega)
        have nr_4 : r_4.toNatClampNeg = 158 + 25 * x0.toNatClampNeg + 5 * y2_6.toNatClampNeg := by have z1 := t_nn (x := r_4) (by omega); omega
        refine va_iald hx hb hK hP (1) 0 (wm_at (by decide) rc_1) rfl (vp_in_iff.mpr ⟨by omega, by omega⟩) dX8_mayBe_31 ?_
        refine lv_topi (fun x_5 ex_5 => ?_)
        have bzx_5 : 0 ≤ x_5.toInt ∧ x_5.toInt ≤ 1 := by rw [ex_5]; exact hv 1 _ 1 (bx_t0 (i := 5 * x0.toInt + y2_6.toInt) (s := 0) (by omega) ⟨by omega, by omega⟩ (by omega))
        rw [nr_4] at ex_5
        have qx_5 : x_5.toInt = (v 1 (158 + 25 * x0.toNatClampNeg + 5 * y2_6.toNatClampNeg)).toInt := congrArg Int32.toInt ex_5
        have hF0 : DD y2_6.toNatClampNeg 0 = x_5.toInt := by rw [eDD]; exact congrArg Int32.toInt ex_5.symm
        refine lv_iload_n hx hb dX8_mayBe_32 rfl (lv_at hl 5 rfl) ?_
        refine lv_icmp_eq (tgt := 39) hx hb dX8_mayBe_33 (by decide) (fun c_6 => ?_) (fun c_6 => ?_)
        · have tc_6 : x_5.toInt = x1.toInt := by rw [c_6]
          refine lv_aload_n hx hb dX8_mayBe_39 rfl (lv_at hl 3 rfl) ?_
          refine va_get (D := (dC, dI)) (ci := 8) (v := .ref (ad 1)) (C := RX8) (T := TX8) (N := 11) hx hb hts iwX8_mayBe_X8 hown hK hP (0) (wm_at (by decide) rc_0) rfl 0 (by decide) (hts (.fieldLink RX8 7 "QuietStairsModel" "s" "[I") fwX8_mayBe_1) (fun _ h9 => h9) rfl dX8_mayBe_40 ?_
          refine lv_iload hx hb dX8_mayBe_43 (lv_at hl 0 rfl) ?_
          refine lv_iconst (v := 1) hx hb dX8_mayBe_45 (by decide) ?_
          refine lv_iadd hx hb dX8_mayBe_46 ?_
          refine lv_topi (fun x_7 ex_7 => ?_)
          have k_1 : (1 : Int32).toInt = 1 := by decide
          have tx_7 : x_7.toInt = r_4.toInt + (1 : Int32).toInt := by rw [ex_7]; exact t_add ⟨by omega, by omega⟩
          have nx_7 : x_7.toNatClampNeg = 159 + 25 * x0.toNatClampNeg + 5 * y2_6.toNatClampNeg := by have z1 := t_nn (x := x_7) (by omega); omega
          refine va_iald hx hb hK hP (1) 0 (wm_at (by decide) rc_1) rfl (vp_in_iff.mpr ⟨by omega, by omega⟩) dX8_mayBe_47 ?_
          refine lv_topi (fun x_8 ex_8 => ?_)
          have bzx_8 : 0 ≤ x_8.toInt ∧ x_8.toInt ≤ 1 := by rw [ex_8]; exact hv 1 _ 1 (bx_t0 (i := 5 * x0.toInt + y2_6.toInt) (s := 1) (by omega) ⟨by omega, by omega⟩ (by omega))
          rw [nx_7] at ex_8
          have qx_8 : x_8.toInt = (v 1 (159 + 25 * x0.toNatClampNeg + 5 * y2_6.toNatClampNeg)).toInt := congrArg Int32.toInt ex_8
          have hF1 : DD y2_6.toNatClampNeg 1 = x_8.toInt := by rw [eDD]; exact congrArg Int32.toInt ex_8.symm
          have k_0 : (0 : Int32).toInt = 0 := by decide
          refine lv_if_ne (tgt := 106) hx hb dX8_mayBe_48 (by decide) (fun c_9 => ?_) (fun c_9 => ?_)
          · have tc_9 : x_8.toInt ≠ (0 : Int32).toInt := fun q => absurd (Int32.toInt_inj.mp q) c_9
            refine lv_iconst (v := 0) hx hb dX8_mayBe_106 (by decide) ?_
            refine lv_istore (lv' := [(8, .int 0), (7, .int r_4), (6, .int y2_6), (5, .int r_1), (0, .ref (ad 0)), (1, .int x0), (2, .int x1), (3, .int x2), (4, .int x3)]) hx hb dX8_mayBe_107 hl (by decide) rfl (fun ls hl => ?_)
            refine lv_iload hx hb dX8_mayBe_109 (lv_at hl 0 rfl) ?_
            refine lv_if_ne (tgt := 149) hx hb dX8_mayBe_111 (by decide) (fun c9 => absurd c9 (by decide)) (fun _ => ?_)
            refine lv_aload_n hx hb dX8_mayBe_114 rfl (lv_at hl 4 rfl) ?_
            refine va_get (D := (dC, dI)) (ci := 8) (v := .ref (ad 1)) (C := RX8) (T := TX8) (N := 11) hx hb hts iwX8_mayBe_X8 hown hK hP (0) (wm_at (by decide) rc_0) rfl 0 (by decide) (hts (.fieldLink RX8 7 "QuietStairsModel" "s" "[I") fwX8_mayBe_1) (fun _ h9 => h9) rfl dX8_mayBe_115 ?_
            refine lv_iload hx hb dX8_mayBe_118 (lv_at hl 1 rfl) ?_
            refine lv_iconst (v := 1) hx hb dX8_mayBe_120 (by decide) ?_
            refine lv_iadd hx hb dX8_mayBe_121 ?_
            refine lv_topi (fun x_10 ex_10 => ?_)
            obtain rfl : x_7 = x_10 := ex_7.trans ex_10.symm
            refine va_iald hx hb hK hP (1) 0 (wm_at (by decide) rc_1) rfl (vp_in_iff.mpr ⟨by omega, by omega⟩) dX8_mayBe_122 ?_
            refine lv_topi (fun x_11 ex_11 => ?_)
            have bzx_11 : 0 ≤ x_11.toInt ∧ x_11.toInt ≤ 1 := by rw [ex_11]; exact hv 1 _ 1 (bx_t0 (i := 5 * x0.toInt + y2_6.toInt) (s := 1) (by omega) ⟨by omega, by omega⟩ (by omega))
            rw [nx_7] at ex_11
            obtain rfl : x_8 = x_11 := (ex_11.trans ex_8.symm).symm
            refine lv_iconst (v := 1) hx hb dX8_mayBe_123 (by decide) ?_
            refine lv_icmp_ne (tgt := 151) hx hb dX8_mayBe_124 (by decide) (fun c_12 => ?_) (fun c_12 => ?_)
            · have tc_12 : x_8.toInt ≠ (1 : Int32).toInt := fun q => absurd (Int32.toInt_inj.mp q) c_12
              exfalso
              omega
            · have tc_12 : x_8.toInt = (1 : Int32).toInt := by rw [c_12]
              refine lv_iload hx hb dX8_mayBe_127 (lv_at hl 2 rfl) ?_
              refine lv_iload_n hx hb dX8_mayBe_129 rfl (lv_at hl 7 rfl) ?_
              refine lv_icmp_ge (tgt := 151) hx hb dX8_mayBe_130 (by decide) (fun c_13 => ?_) (fun c_13 => ?_)
              · have tc_13 : y2_6.toInt ≥ x2.toInt := Int32.le_iff_toInt_le.mp c_13
                obtain ⟨x_14, ex_14⟩ : ∃ y : Int32, y = y2_6 + 1 := ⟨_, rfl⟩
                refine lv_iinc (v := x_14) (lv' := [(6, .int x_14), (8, .int 0), (7, .int r_4), (5, .int r_1), (0, .ref (ad 0)), (1, .int x0), (2, .int x1), (3, .int x2), (4, .int x3)]) hx hb dX8_mayBe_151 hl (k := 2) rfl (by rw [ex_14]; rfl) (by decide) rfl (fun ls hl => ?_)
                have tx_14 : x_14.toInt = y2_6.toInt + (1 : Int32).toInt := by rw [ex_14]; exact t_add ⟨by omega, by omega⟩
                refine lv_goto (tgt := 10) hx hb dX8_mayBe_154 (by decide) ?_
                exact ih_2 x_14 _ _ (by omega) (by omega) (fun q => by rw [bar_s (o := y2_6.toNatClampNeg) (n := y2_6.toInt) (by omega) (by omega)] at q; rcases q with q | q; exact hi2_0 q; unfold bro at q; rw [hF0, hF1] at q; omega) (fun o h1 h2 h3 => by by_cases e : (o : Int) < y2_6.toInt; exact hi2_1 o e h2 h3; rw [show o = y2_6.toNatClampNeg from by omega] at h2 h3 ⊢; unfold own at h3; rw [hF0, hF1] at h3; omega) (by omega) (by omega) hP hD hS ls (lv_sub hl [0, 3, 4, 5, 6, 7, 8] rfl)
              · have tc_13 : y2_6.toInt < x2.toInt := Int32.lt_iff_toInt_lt.mp (Int32.not_le.mp c_13)
                refine lv_aload_n hx hb dX8_mayBe_133 rfl (lv_at hl 4 rfl) ?_
                refine va_get (D := (dC, dI)) (ci := 8) (v := .ref (ad 7)) (C := RX8) (T := TX8) (N := 11) hx hb hts iwX8_mayBe_X8 hown hK hP (0) (wm_at (by decide) rc_0) rfl 10 (by decide) (hts (.fieldLink RX8 32 "QuietStairsModel" "hours" "[I") fwX8_mayBe_2) (fun _ h9 => h9) rfl dX8_mayBe_134 ?_
                refine lv_iload hx hb dX8_mayBe_137 (lv_at hl 2 rfl) ?_
                refine va_iald hx hb hK hP (7) 0 (wm_at (by decide) rc_7) rfl (vp_in_iff.mpr ⟨by omega, by omega⟩) dX8_mayBe_139 ?_
                refine lv_topi (fun x_14 ex_14 => ?_)
                have qx_14 : x_14.toInt = (v 7 (y2_6.toNatClampNeg)).toInt := congrArg Int32.toInt ex_14
                have hh9 : x_14.toInt = (v 7 y2_6.toNatClampNeg).toInt := by rw [ex_14]
                refine lv_aload_n hx hb dX8_mayBe_140 rfl (lv_at hl 4 rfl) ?_
                refine va_get (D := (dC, dI)) (ci := 8) (v := .ref (ad 7)) (C := RX8) (T := TX8) (N := 11) hx hb hts iwX8_mayBe_X8 hown hK hP (0) (wm_at (by decide) rc_0) rfl 10 (by decide) (hts (.fieldLink RX8 32 "QuietStairsModel" "hours" "[I") fwX8_mayBe_2) (fun _ h9 => h9) rfl dX8_mayBe_141 ?_
                refine lv_iload_n hx hb dX8_mayBe_144 rfl (lv_at hl 7 rfl) ?_
                refine va_iald hx hb hK hP (7) 0 (wm_at (by decide) rc_7) rfl (vp_in_iff.mpr ⟨by omega, by omega⟩) dX8_mayBe_145 ?_
                refine lv_topi (fun x_15 ex_15 => ?_)
                obtain rfl : hh = x_15 := (ex_15.trans ehh.symm).symm
                refine lv_icmp_ne (tgt := 151) hx hb dX8_mayBe_146 (by decide) (fun c_16 => ?_) (fun c_16 => ?_)
                · have tc_16 : x_14.toInt ≠ hh.toInt := fun q => absurd (Int32.toInt_inj.mp q) c_16
                  obtain ⟨x_17, ex_17⟩ : ∃ y : Int32, y = y2_6 + 1 := ⟨_, rfl⟩
                  refine lv_iinc (v := x_17) (lv' := [(6, .int x_17), (8, .int 0), (7, .int r_4), (5, .int r_1), (0, .ref (ad 0)), (1, .int x0), (2, .int x1), (3, .int x2), (4, .int x3)]) hx hb dX8_mayBe_151 hl (k := 2) rfl (by rw [ex_17]; rfl) (by decide) rfl (fun ls hl => ?_)
                  have tx_17 : x_17.toInt = y2_6.toInt + (1 : Int32).toInt := by rw [ex_17]; exact t_add ⟨by omega, by omega⟩
                  refine lv_goto (tgt := 10) hx hb dX8_mayBe_154 (by decide) ?_
                  exact ih_2 x_17 _ _ (by omega) (by omega) (fun q => by rw [bar_s (o := y2_6.toNatClampNeg) (n := y2_6.toInt) (by omega) (by omega)] at q; rcases q with q | q; exact hi2_0 q; unfold bro at q; rw [hF0, hF1] at q; omega) (fun o h1 h2 h3 => by by_cases e : (o : Int) < y2_6.toInt; exact hi2_1 o e h2 h3; rw [show o = y2_6.toNatClampNeg from by omega] at h2 h3 ⊢; unfold own at h3; rw [hF0, hF1] at h3; rw [← hh9]; omega) (by omega) (by omega) hP hD hS ls (lv_sub hl [0, 3, 4, 5, 6, 7, 8] rfl)
                · have tc_16 : x_14.toInt = hh.toInt := by rw [c_16]
                  refine lv_iconst (v := 0) hx hb dX8_mayBe_149 (by decide) ?_
                  exact W.zret (ty := .boolean) (v := 0) hx hb hr rfl (fun t ht hW => ⟨⟨0, v, rfl, ⟨hv, rfl, by rw [← eDD, ← ehh]; exact Or.inr ⟨rfl, fun q => absurd (by rw [← hh9]; omega) (q.2 y2_6.toNatClampNeg (by omega) (by unfold own; rw [hF0, hF1]; omega))⟩⟩, by rw [ht]; exact hP, hD⟩, hS.F ht⟩) hS.2.2 dX8_mayBe_150
          · have tc_9 : x_8.toInt = (0 : Int32).toInt := by rw [c_9]
            refine lv_aload_n hx hb dX8_mayBe_51 rfl (lv_at hl 3 rfl) ?_
            refine va_get (D := (dC, dI)) (ci := 8) (v := .ref (ad 1)) (C := RX8) (T := TX8) (N := 11) hx hb hts iwX8_mayBe_X8 hown hK hP (0) (wm_at (by decide) rc_0) rfl 0 (by decide) (hts (.fieldLink RX8 7 "QuietStairsModel" "s" "[I") fwX8_mayBe_1) (fun _ h9 => h9) rfl dX8_mayBe_52 ?_
            refine lv_iload hx hb dX8_mayBe_55 (lv_at hl 0 rfl) ?_
            refine lv_iconst (v := 2) hx hb dX8_mayBe_57 (by decide) ?_
            refine lv_iadd hx hb dX8_mayBe_58 ?_
            refine lv_topi (fun x_10 ex_10 => ?_)
            have k_2 : (2 : Int32).toInt = 2 := by decide
            have tx_10 : x_10.toInt = r_4.toInt + (2 : Int32).toInt := by rw [ex_10]; exact t_add ⟨by omega, by omega⟩
            have nx_10 : x_10.toNatClampNeg = 160 + 25 * x0.toNatClampNeg + 5 * y2_6.toNatClampNeg := by have z1 := t_nn (x := x_10) (by omega); omega
            refine va_iald hx hb hK hP (1) 0 (wm_at (by decide) rc_1) rfl (vp_in_iff.mpr ⟨by omega, by omega⟩) dX8_mayBe_59 ?_
            refine lv_topi (fun x_11 ex_11 => ?_)
            rw [nx_10] at ex_11
            have qx_11 : x_11.toInt = (v 1 (160 + 25 * x0.toNatClampNeg + 5 * y2_6.toNatClampNeg)).toInt := congrArg Int32.toInt ex_11
            have hF2 : DD y2_6.toNatClampNeg 2 = x_11.toInt := by rw [eDD]; exact congrArg Int32.toInt ex_11.symm
            refine lv_aload_n hx hb dX8_mayBe_60 rfl (lv_at hl 3 rfl) ?_
            refine va_get (D := (dC, dI)) (ci := 8) (v := .ref (ad 1)) (C := RX8) (T := TX8) (N := 11) hx hb hts iwX8_mayBe_X8 hown hK hP (0) (wm_at (by decide) rc_0) rfl 0 (by decide) (hts (.fieldLink RX8 7 "QuietStairsModel" "s" "[I") fwX8_mayBe_1) (fun _ h9 => h9) rfl dX8_mayBe_61 ?_
            refine lv_iload hx hb dX8_mayBe_64 (lv_at hl 2 rfl) ?_
            refine lv_iconst (v := 2) hx hb dX8_mayBe_66 (by decide) ?_
            refine lv_iadd hx hb dX8_mayBe_67 ?_
            refine lv_topi (fun x_12 ex_12 => ?_)
            have tx_12 : x_12.toInt = r_1.toInt + (2 : Int32).toInt := by rw [ex_12]; exact t_add ⟨by omega, by omega⟩
            have nx_12 : x_12.toNatClampNeg = 160 + 25 * x0.toNatClampNeg + 5 * x2.toNatClampNeg := by have z1 := t_nn (x := x_12) (by omega); omega
            refine va_iald hx hb hK hP (1) 0 (wm_at (by decide) rc_1) rfl (vp_in_iff.mpr ⟨by omega, by omega⟩) dX8_mayBe_68 ?_
            refine lv_topi (fun x_13 ex_13 => ?_)
            rw [nx_12] at ex_13
            have qx_13 : x_13.toInt = (v 1 (160 + 25 * x0.toNatClampNeg + 5 * x2.toNatClampNeg)).toInt := congrArg Int32.toInt ex_13
            have hT2 : DD x2.toNatClampNeg 2 = x_13.toInt := by rw [eDD]; exact congrArg Int32.toInt ex_13.symm
            refine lv_icmp_ne (tgt := 106) hx hb dX8_mayBe_69 (by decide) (fun c_14 => ?_) (fun c_14 => ?_)
            · have tc_14 : x_11.toInt ≠ x_13.toInt := fun q => absurd (Int32.toInt_inj.mp q) c_14
              refine lv_iconst (v := 0) hx hb dX8_mayBe_106 (by decide) ?_
              refine lv_istore (lv' := [(8, .int 0), (7, .int r_4), (6, .int y2_6), (5, .int r_1), (0, .ref (ad 0)), (1, .int x0), (2, .int x1), (3, .int x2), (4, .int x3)]) hx hb dX8_mayBe_107 hl (by decide) rfl (fun ls hl => ?_)
              refine lv_iload hx hb dX8_mayBe_109 (lv_at hl 0 rfl) ?_
              refine lv_if_ne (tgt := 149) hx hb dX8_mayBe_111 (by decide) (fun c9 => absurd c9 (by decide)) (fun _ => ?_)
              refine lv_aload_n hx hb dX8_mayBe_114 rfl (lv_at hl 4 rfl) ?_
              refine va_get (D := (dC, dI)) (ci := 8) (v := .ref (ad 1)) (C := RX8) (T := TX8) (N := 11) hx hb hts iwX8_mayBe_X8 hown hK hP (0) (wm_at (by decide) rc_0) rfl 0 (by decide) (hts (.fieldLink RX8 7 "QuietStairsModel" "s" "[I") fwX8_mayBe_1) (fun _ h9 => h9) rfl dX8_mayBe_115 ?_
              refine lv_iload hx hb dX8_mayBe_118 (lv_at hl 1 rfl) ?_
              refine lv_iconst (v := 1) hx hb dX8_mayBe_120 (by decide) ?_
              refine lv_iadd hx hb dX8_mayBe_121 ?_
              refine lv_topi (fun x_15 ex_15 => ?_)
              obtain rfl : x_7 = x_15 := ex_7.trans ex_15.symm
              refine va_iald hx hb hK hP (1) 0 (wm_at (by decide) rc_1) rfl (vp_in_iff.mpr ⟨by omega, by omega⟩) dX8_mayBe_122 ?_
              refine lv_topi (fun x_16 ex_16 => ?_)
              have bzx_16 : 0 ≤ x_16.toInt ∧ x_16.toInt ≤ 1 := by rw [ex_16]; exact hv 1 _ 1 (bx_t0 (i := 5 * x0.toInt + y2_6.toInt) (s := 1) (by omega) ⟨by omega, by omega⟩ (by omega))
              rw [nx_7] at ex_16
              obtain rfl : x_8 = x_16 := (ex_16.trans ex_8.symm).symm
              refine lv_iconst (v := 1) hx hb dX8_mayBe_123 (by decide) ?_
              refine lv_icmp_ne (tgt := 151) hx hb dX8_mayBe_124 (by decide) (fun c_17 => ?_) (fun c_17 => ?_)
              · have tc_17 : x_8.toInt ≠ (1 : Int32).toInt := fun q => absurd (Int32.toInt_inj.mp q) c_17
                obtain ⟨x_18, ex_18⟩ : ∃ y : Int32, y = y2_6 + 1 := ⟨_, rfl⟩
                refine lv_iinc (v := x_18) (lv' := [(6, .int x_18), (8, .int 0), (7, .int r_4), (5, .int r_1), (0, .ref (ad 0)), (1, .int x0), (2, .int x1), (3, .int x2), (4, .int x3)]) hx hb dX8_mayBe_151 hl (k := 2) rfl (by rw [ex_18]; rfl) (by decide) rfl (fun ls hl => ?_)
                have tx_18 : x_18.toInt = y2_6.toInt + (1 : Int32).toInt := by rw [ex_18]; exact t_add ⟨by omega, by omega⟩
                refine lv_goto (tgt := 10) hx hb dX8_mayBe_154 (by decide) ?_
                exact ih_2 x_18 _ _ (by omega) (by omega) (fun q => by rw [bar_s (o := y2_6.toNatClampNeg) (n := y2_6.toInt) (by omega) (by omega)] at q; rcases q with q | q; exact hi2_0 q; unfold bro at q; rw [hF0, hF1, hF2, hT2] at q; omega) (fun o h1 h2 h3 => by by_cases e : (o : Int) < y2_6.toInt; exact hi2_1 o e h2 h3; rw [show o = y2_6.toNatClampNeg from by omega] at h2 h3 ⊢; unfold own at h3; rw [hF0, hF1] at h3; omega) (by omega) (by omega) hP hD hS ls (lv_sub hl [0, 3, 4, 5, 6, 7, 8] rfl)
              · have tc_17 : x_8.toInt = (1 : Int32).toInt := by rw [c_17]
                exfalso
                omega
            · have tc_14 : x_11.toInt = x_13.toInt := by rw [c_14]
              refine lv_aload_n hx hb dX8_mayBe_72 rfl (lv_at hl 3 rfl) ?_
              refine va_get (D := (dC, dI)) (ci := 8) (v := .ref (ad 7)) (C := RX8) (T := TX8) (N := 11) hx hb hts iwX8_mayBe_X8 hown hK hP (0) (wm_at (by decide) rc_0) rfl 10 (by decide) (hts (.fieldLink RX8 32 "QuietStairsModel" "hours" "[I") fwX8_mayBe_2) (fun _ h9 => h9) rfl dX8_mayBe_73 ?_
              refine lv_iload_n hx hb dX8_mayBe_76 rfl (lv_at hl 6 rfl) ?_
              refine va_iald hx hb hK hP (7) 0 (wm_at (by decide) rc_7) rfl (vp_in_iff.mpr ⟨by omega, by omega⟩) dX8_mayBe_77 ?_
              refine lv_topi (fun x_15 ex_15 => ?_)
              obtain rfl : hh = x_15 := (ex_15.trans ehh.symm).symm
              refine lv_aload_n hx hb dX8_mayBe_78 rfl (lv_at hl 3 rfl) ?_
              refine va_get (D := (dC, dI)) (ci := 8) (v := .ref (ad 1)) (C := RX8) (T := TX8) (N := 11) hx hb hts iwX8_mayBe_X8 hown hK hP (0) (wm_at (by decide) rc_0) rfl 0 (by decide) (hts (.fieldLink RX8 7 "QuietStairsModel" "s" "[I") fwX8_mayBe_1) (fun _ h9 => h9) rfl dX8_mayBe_79 ?_
              refine lv_iload hx hb dX8_mayBe_82 (lv_at hl 0 rfl) ?_
              refine lv_iconst (v := 3) hx hb dX8_mayBe_84 (by decide) ?_
              refine lv_iadd hx hb dX8_mayBe_85 ?_
              refine lv_topi (fun x_16 ex_16 => ?_)
              have k_3 : (3 : Int32).toInt = 3 := by decide
              have tx_16 : x_16.toInt = r_4.toInt + (3 : Int32).toInt := by rw [ex_16]; exact t_add ⟨by omega, by omega⟩
              have nx_16 : x_16.toNatClampNeg = 161 + 25 * x0.toNatClampNeg + 5 * y2_6.toNatClampNeg := by have z1 := t_nn (x := x_16) (by omega); omega
              refine va_iald hx hb hK hP (1) 0 (wm_at (by decide) rc_1) rfl (vp_in_iff.mpr ⟨by omega, by omega⟩) dX8_mayBe_86 ?_
              refine lv_topi (fun x_17 ex_17 => ?_)
              have bzx_17 : 0 ≤ x_17.toInt ∧ x_17.toInt ≤ 23 := by rw [ex_17]; exact hv 1 _ 23 (bx_t3 (i := 5 * x0.toInt + y2_6.toInt) (s := 3) (by omega) ⟨by omega, by omega⟩ (by omega))
              rw [nx_16] at ex_17
              have qx_17 : x_17.toInt = (v 1 (161 + 25 * x0.toNatClampNeg + 5 * y2_6.toNatClampNeg)).toInt := congrArg Int32.toInt ex_17
              have hF3 : DD y2_6.toNatClampNeg 3 = x_17.toInt := by rw [eDD]; exact congrArg Int32.toInt ex_17.symm
              refine lv_aload_n hx hb dX8_mayBe_87 rfl (lv_at hl 3 rfl) ?_
              refine va_get (D := (dC, dI)) (ci := 8) (v := .ref (ad 1)) (C := RX8) (T := TX8) (N := 11) hx hb hts iwX8_mayBe_X8 hown hK hP (0) (wm_at (by decide) rc_0) rfl 0 (by decide) (hts (.fieldLink RX8 7 "QuietStairsModel" "s" "[I") fwX8_mayBe_1) (fun _ h9 => h9) rfl dX8_mayBe_88 ?_
              refine lv_iload hx hb dX8_mayBe_91 (lv_at hl 0 rfl) ?_
              refine lv_iconst (v := 4) hx hb dX8_mayBe_93 (by decide) ?_
              refine lv_iadd hx hb dX8_mayBe_94 ?_
              refine lv_topi (fun x_18 ex_18 => ?_)
              have k_4 : (4 : Int32).toInt = 4 := by decide
              have tx_18 : x_18.toInt = r_4.toInt + (4 : Int32).toInt := by rw [ex_18]; exact t_add ⟨by omega, by omega⟩
              have nx_18 : x_18.toNatClampNeg = 162 + 25 * x0.toNatClampNeg + 5 * y2_6.toNatClampNeg := by have z1 := t_nn (x := x_18) (by omega); omega
              refine va_iald hx hb hK hP (1) 0 (wm_at (by decide) rc_1) rfl (vp_in_iff.mpr ⟨by omega, by omega⟩) dX8_mayBe_95 ?_
              refine lv_topi (fun x_19 ex_19 => ?_)
              have bzx_19 : 0 ≤ x_19.toInt ∧ x_19.toInt ≤ 23 := by rw [ex_19]; exact hv 1 _ 23 (bx_t3 (i := 5 * x0.toInt + y2_6.toInt) (s := 4) (by omega) ⟨by omega, by omega⟩ (by omega))
              rw [nx_18] at ex_19
              have qx_19 : x_19.toInt = (v 1 (162 + 25 * x0.toNatClampNeg + 5 * y2_6.toNatClampNeg)).toInt := congrArg Int32.toInt ex_19
              have hF4 : DD y2_6.toNatClampNeg 4 = x_19.toInt := by rw [eDD]; exact congrArg Int32.toInt ex_19.symm
              refine yc_p hP hS (va_runS (As := [.int hh, .int x_17, .int x_19]) (rest := []) ⟨hx, hb, hml, hown, hts⟩ (c_X8_in l hh x_17 x_19) (cwS 3 hts gX8_mayBe_X8_in rfl rfl rfl hd_S_X8_in_3 ⟨Nat.le_of_ble_eq_true rfl, Nat.le_of_ble_eq_true rfl⟩) ex_preP rfl rfl hl.1 rfl (lv_room (Nat.le_of_ble_eq_true rfl)) dX8_mayBe_96 ⟨Nat.le_of_ble_eq_true rfl, Nat.le_of_ble_eq_true rfl⟩) (fun r_20 H locs hw_20 hP hS => ?_)
              rcases wi_ca hw_20 with ⟨rfl, hc_21⟩ | ⟨rfl, hc_21⟩
              · have tc_21 := wi_tl hc_21
                refine lv_if_eq (tgt := 106) hx hb dX8_mayBe_99 (by decide) (fun c9 => absurd c9 (by decide)) (fun _ => ?_)
                refine lv_iconst (v := 1) hx hb dX8_mayBe_102 (by decide) ?_
                refine lv_goto (tgt := 107) hx hb dX8_mayBe_103 (by decide) ?_
                refine lv_istore (lv' := [(8, .int 1), (7, .int r_4), (6, .int y2_6), (5, .int r_1), (0, .ref (ad 0)), (1, .int x0), (2, .int x1), (3, .int x2), (4, .int x3)]) hx hb dX8_mayBe_107 hl (by decide) rfl (fun ls hl => ?_)
                refine lv_iload hx hb dX8_mayBe_109 (lv_at hl 0 rfl) ?_
                refine lv_if_ne (tgt := 149) hx hb dX8_mayBe_111 (by decide) (fun _ => ?_) (fun c9 => absurd c9 (by decide))
                refine lv_iconst (v := 0) hx hb dX8_mayBe_149 (by decide) ?_
                exact W.zret (ty := .boolean) (v := 0) hx hb hr rfl (fun t ht hW => ⟨⟨0, v, rfl, ⟨hv, rfl, by rw [← eDD, ← ehh]; exact Or.inr ⟨rfl, fun q => q.1 ⟨y2_6.toNatClampNeg, by omega, by unfold bro; rw [hF0, hF1, hF2, hT2, hF3, hF4]; omega⟩⟩⟩, by rw [ht]; exact hP, hD⟩, hS.F ht⟩) hS.2.2 dX8_mayBe_150
              · have tc_21 : ¬ (x_17.toInt ≤ hh.toInt ∧ hh.toInt ≤ x_19.toInt) := fun q => hc_21 ⟨Int32.le_iff_toInt_le.mpr q.1, Int32.le_iff_toInt_le.mpr q.2⟩
                refine lv_if_eq (tgt := 106) hx hb dX8_mayBe_99 (by decide) (fun _ => ?_) (fun c9 => absurd c9 (by decide))
                refine lv_iconst (v := 0) hx hb dX8_mayBe_106 (by decide) ?_
                refine lv_istore (lv' := [(8, .int 0), (7, .int r_4), (6, .int y2_6), (5, .int r_1), (0, .ref (ad 0)), (1, .int x0), (2, .int x1), (3, .int x2), (4, .int x3)]) hx hb dX8_mayBe_107 hl (by decide) rfl (fun ls hl => ?_)
                refine lv_iload hx hb dX8_mayBe_109 (lv_at hl 0 rfl) ?_
                refine lv_if_ne (tgt := 149) hx hb dX8_mayBe_111 (by decide) (fun c9 => absurd c9 (by decide)) (fun _ => ?_)
                refine lv_aload_n hx hb dX8_mayBe_114 rfl (lv_at hl 4 rfl) ?_
                refine va_get (D := (dC, dI)) (ci := 8) (v := .ref (ad 1)) (C := RX8) (T := TX8) (N := 11) hx hb hts iwX8_mayBe_X8 hown hK hP (0) (wm_at (by decide) rc_0) rfl 0 (by decide) (hts (.fieldLink RX8 7 "QuietStairsModel" "s" "[I") fwX8_mayBe_1) (fun _ h9 => h9) rfl dX8_mayBe_115 ?_
                refine lv_iload hx hb dX8_mayBe_118 (lv_at hl 1 rfl) ?_
                refine lv_iconst (v := 1) hx hb dX8_mayBe_120 (by decide) ?_
                refine lv_iadd hx hb dX8_mayBe_121 ?_
                refine lv_topi (fun x_22 ex_22 => ?_)
                obtain rfl : x_7 = x_22 := ex_7.trans ex_22.symm
                refine va_iald hx hb hK hP (1) 0 (wm_at (by decide) rc_1) rfl (vp_in_iff.mpr ⟨by omega, by omega⟩) dX8_mayBe_122 ?_
                refine lv_topi (fun x_23 ex_23 => ?_)
                have bzx_23 : 0 ≤ x_23.toInt ∧ x_23.toInt ≤ 1 := by rw [ex_23]; exact hv 1 _ 1 (bx_t0 (i := 5 * x0.toInt + y2_6.toInt) (s := 1) (by omega) ⟨by omega, by omega⟩ (by omega))
                rw [nx_7] at ex_23
                obtain rfl : x_8 = x_23 := (ex_23.trans ex_8.symm).symm
                refine lv_iconst (v := 1) hx hb dX8_mayBe_123 (by decide) ?_
                refine lv_icmp_ne (tgt := 151) hx hb dX8_mayBe_124 (by decide) (fun c_24 => ?_) (fun c_24 => ?_)
                · have tc_24 : x_8.toInt ≠ (1 : Int32).toInt := fun q => absurd (Int32.toInt_inj.mp q) c_24
                  obtain ⟨x_25, ex_25⟩ : ∃ y : Int32, y = y2_6 + 1 := ⟨_, rfl⟩
                  refine lv_iinc (v := x_25) (lv' := [(6, .int x_25), (8, .int 0), (7, .int r_4), (5, .int r_1), (0, .ref (ad 0)), (1, .int x0), (2, .int x1), (3, .int x2), (4, .int x3)]) hx hb dX8_mayBe_151 hl (k := 2) rfl (by rw [ex_25]; rfl) (by decide) rfl (fun ls hl => ?_)
                  have tx_25 : x_25.toInt = y2_6.toInt + (1 : Int32).toInt := by rw [ex_25]; exact t_add ⟨by omega, by omega⟩
                  refine lv_goto (tgt := 10) hx hb dX8_mayBe_154 (by decide) ?_
                  exact ih_2 x_25 _ _ (by omega) (by omega) (fun q => by rw [bar_s (o := y2_6.toNatClampNeg) (n := y2_6.toInt) (by omega) (by omega)] at q; rcases q with q | q; exact hi2_0 q; unfold bro at q; rw [hF0, hF1, hF2, hT2, hF3, hF4] at q; omega) (fun o h1 h2 h3 => by by_cases e : (o : Int) < y2_6.toInt; exact hi2_1 o e h2 h3; rw [show o = y2_6.toNatClampNeg from by omega] at h2 h3 ⊢; unfold own at h3; rw [hF0, hF1] at h3; omega) (by omega) (by omega) hP hD hS ls (lv_sub hl [0, 3, 4, 5, 6, 7, 8] rfl)
                · have tc_24 : x_8.toInt = (1 : Int32).toInt := by rw [c_24]
                  exfalso
                  omega
        · have tc_6 : x_5.toInt ≠ x1.toInt := fun q => absurd (Int32.toInt_inj.mp q) c_6
          refine lv_goto (tgt := 151) hx hb dX8_mayBe_36 (by decide) ?_
          obtain ⟨x_7, ex_7⟩ : ∃ y : Int32, y = y2_6 + 1 := ⟨_, rfl⟩
          refine lv_iinc (v := x_7) (lv' := [(6, .int x_7), (7, .int r_4), (5, .int r_1), (0, .ref (ad 0)), (1, .int x0), (2, .int x1), (3, .int x2), (4, .int x3)]) hx hb dX8_mayBe_151 hl (k := 1) rfl (by rw [ex_7]; rfl) (by decide) rfl (fun ls hl => ?_)
          have k_1 : (1 : Int32).toInt = 1 := by decide
          have tx_7 : x_7.toInt = y2_6.toInt + (1 : Int32).toInt := by rw [ex_7]; exact t_add ⟨by omega, by omega⟩
          refine lv_goto (tgt := 10) hx hb dX8_mayBe_154 (by decide) ?_
          exact ih_2 x_7 _ _ (by omega) (by omega) (fun q => by rw [bar_s (o := y2_6.toNatClampNeg) (n := y2_6.toInt) (by omega) (by omega)] at q; rcases q with q | q; exact hi2_0 q; unfold bro at q; rw [hF0] at q; omega) (fun o h1 h2 h3 => by by_cases e : (o : Int) < y2_6.toInt; exact hi2_1 o e h2 h3; rw [show o = y2_6.toNatClampNeg from by omega] at h2 h3 ⊢; unfold own at h3; rw [hF0] at h3; omega) (by omega) (by omega) hP hD hS ls (lv_sub hl [0, 2, 3, 4, 5, 6, 7] rfl)
  have k_0 : (0 : Int32).toInt = 0 := by decide
  exact hc_2 ((5 - (0 : Int32).toInt).toNat + 1) 0 _ _ (by omega) (by omega) (bar_0 (by omega)) (fun o h1 => absurd h1 (by omega)) (by omega) (by omega) hP hD hS ls (lv_sub hl [0, 1, 2, 3, 4, 5, 6] rfl)

theorem VH_cg {D : Nat → Nat → Int} {sd n h : Int} {t : Nat} {f g : Nat → Int32} (e : ∀ o : Nat, o < t → f o = g o) : VH D sd n t f h ↔ VH D sd n t g h := and_congr Iff.rfl ⟨fun q o h1 h2 => by rw [← e o h1]; exact q o h1 h2, fun q o h1 h2 => by rw [e o h1]; exact q o h1 h2⟩
theorem bS_v {c t w : Nat} (hc : c < 6) (ht : t < 5) (hw : w = 161 ∨ w = 162) : bS (w + 25 * c + 5 * t) = some 23 := by
  unfold bS
  repeat' split
  all_goals first | rfl | (exfalso; omega)
theorem bS_w {c t : Nat} (hc : c < 6) (ht : t < 5) : bS (158 + 3 + 25 * c + 5 * t) = some 23 ∧ bS (158 + 4 + 25 * c + 5 * t) = some 23 := ⟨bS_v (w := 161) hc ht (by omega), bS_v (w := 162) hc ht (by omega)⟩

set_option maxHeartbeats 4000000 in
set_option maxRecDepth 100000 in
theorem e_X8_hourFrom (l : Launch) (dC : Nat → ClassId) (dI : Nat → Nat → Nat) (cy : Nat → ClassId) (sz : Nat) (ad : Nat → Nat) (v : Nat → Nat → Int32) (hv : Ir v) (x0 x1 x2 x3 x4 : Int32) (h0 : 0 ≤ x0.toInt ∧ x0.toInt ≤ 5) (h2 : 0 ≤ x2.toInt ∧ x2.toInt ≤ 4) (h3 : 0 ≤ x3.toInt ∧ x3.toInt ≤ 24) (h4 : 0 ≤ x4.toInt ∧ x4.toInt ≤ 5) (h24 : x2.toInt < x4.toInt) : Met l yX8_hourFrom wsX8_hourFrom ({ frames := 2, cells := 0, slots := 0, locals := 128 }) (va_Pc [.ref (ad 0), .int x0, .int x1, .int x2, .int x3, .int x4] (ex_Pre dC dI cy sz (wm ad cy v))) (va_Qi (fun (r : Int32) (u : Nat → Nat → Int32) => Ir u ∧ Fq v u ∧ (∀ i : Nat, i ≠ x2.toNatClampNeg → u 7 i = v 7 i) ∧ ((r.toInt = -1 ∧ ∀ h : Int, x3.toInt ≤ h → h ≤ (fun t k => (v 1 (158 + k + 25 * x0.toNatClampNeg + 5 * t)).toInt) x2.toNatClampNeg 4 → ¬ VH (fun t k => (v 1 (158 + k + 25 * x0.toNatClampNeg + 5 * t)).toInt) x1.toInt x4.toInt x2.toNatClampNeg (v 7) h) ∨ ((x3.toInt ≤ r.toInt ∧ r.toInt ≤ (fun t k => (v 1 (158 + k + 25 * x0.toNatClampNeg + 5 * t)).toInt) x2.toNatClampNeg 4) ∧ u 7 x2.toNatClampNeg = r ∧ VH (fun t k => (v 1 (158 + k + 25 * x0.toNatClampNeg + 5 * t)).toInt) x1.toInt x4.toInt x2.toNatClampNeg (v 7) r.toInt ∧ ∀ h : Int, x3.toInt ≤ h → h < r.toInt → ¬ VH (fun t k => (v 1 (158 + k + 25 * x0.toNatClampNeg + 5 * t)).toInt) x1.toInt x4.toInt x2.toNatClampNeg (v 7) h))) (fun u t => ex_Pst dC dI (va_A (wm ad cy v) sz) (wm ad cy u) t) (va_A (wm ad cy v) sz)) 0 0 (va_A (wm ad cy v) sz) := by
  refine Met.ofW (cc := cX8_hourFrom) (maxL := 6) (ret := (some .int)) (by decide) rfl ?_
  intro p e s m args below meth c s₁ B hml hv
  obtain ⟨rfl, hsz, hE, hP, hK, hD0⟩ := hv
  have hx := B.exec
  have hb := B.bytes
  have hr := B.returns
  have hts := atoms_spec (ws := wsX8_hourFrom) B.pre
  have hown : s.vm.findClass RX8 = some m.cls := findClass_of_methodNamed B.named
  have hlocks := B.notSynchronized
  subst hsz
  have hD := hD0.self (sz := s.heap.size)
  generalize hAe : va_A (wm ad cy v) s.heap.size = A at hD ⊢
  have hA : ∀ q : Nat, s.heap.size ≤ q → A q := fun q h => by rw [← hAe]; exact Or.inr h
  have hS : va_S A s.heap s.heap [] := va_S.rf
  have hP : va_P (dC, dI) vwCl (wm ad cy v) s.heap := hP
  have hl := lv_entry ([.ref (ad 0), .int x0, .int x1, .int x2, .int x3, .int x4]) (n := 6) (Nat.le_of_ble_eq_true rfl)
  rw [lg_entry_eq]
  generalize (lg_sl ([.ref (ad 0), .int x0, .int x1, .int x2, .int x3, .int x4]) ++ List.replicate (6 - (lg_sl ([.ref (ad 0), .int x0, .int x1, .int x2, .int x3, .int x4])).length) Slot.unset).toArray = ls at hl ⊢
  have hl : lv_has ls 6 [(0, .ref (ad 0)), (1, .int x0), (2, .int x1), (3, .int x2), (4, .int x3), (5, .int x4)] := hl
  have hfr : Fq v v := Fq.rf
  have zn_x0 : (x0.toNatClampNeg : Int) = x0.toInt := t_nn (by omega)
  have zn_x2 : (x2.toNatClampNeg : Int) = x2.toInt := t_nn (by omega)
  obtain ⟨DD, eDD⟩ : ∃ f : Nat → Nat → Int, f = fun t k => (v 1 (158 + k + 25 * x0.toNatClampNeg + 5 * t)).toInt := ⟨_, rfl⟩
  have hD4 : DD x2.toNatClampNeg 4 ≤ 23 := by rw [eDD]; exact (hv 1 _ 23 (bS_w (by omega) (by omega)).2).2
  refine lv_aload_n hx hb dX8_hourFrom_0 rfl (lv_at hl 0 rfl) ?_
  refine va_get (D := (dC, dI)) (ci := 8) (v := .ref (ad 7)) (C := RX8) (T := TX8) (N := 11) hx hb hts iwX8_hourFrom_X8 hown hK hP (0) (wm_at (by decide) rc_0) rfl 10 (by decide) (hts (.fieldLink RX8 32 "QuietStairsModel" "hours" "[I") fwX8_hourFrom_1) (fun _ h9 => h9) rfl dX8_hourFrom_1 ?_
  refine lv_iload_n hx hb dX8_hourFrom_4 rfl (lv_at hl 3 rfl) ?_
  refine lv_iload hx hb dX8_hourFrom_5 (lv_at hl 4 rfl) ?_
  refine va_iast hx hb hK hP hD hS (7) 0 (wm_at (by decide) rc_7) rfl (vp_in_iff.mpr ⟨by omega, by omega⟩) dX8_hourFrom_7 (fun H locs hP hD hS => ?_)
  obtain ⟨v_1, ev_1⟩ : ∃ u : Nat → Nat → Int32, u = upr v 7 (upd (v 7) (x2.toNatClampNeg) x3) := ⟨_, rfl⟩
  have hP : va_P (dC, dI) vwCl (wm ad cy v_1) H := by rw [ev_1, ← wm_put (e := _) rc_7]; exact hP
  have hD : va_D A (wm ad cy v_1) := by rw [ev_1, ← wm_put (e := _) rc_7]; exact hD
  have hv : Ir v_1 := by rw [ev_1]; exact hv.put (k := 7) (fun h q => by rw [(show br 7 _ = none from rfl)] at q; cases q)
  have hfr : Fq v v_1 := by rw [ev_1]; exact hfr.row (by decide)
  have hc_2 : ∀ (n : Nat) (u2 : Nat → Nat → Int32) (H : Heap) (locs : List Loc), (x3.toInt ≤ (u2 7 x2.toNatClampNeg).toInt) → ((u2 7 x2.toNatClampNeg).toInt ≤ 24) → (∀ i : Nat, i ≠ x2.toNatClampNeg → u2 7 i = v 7 i) → (∀ h : Int, x3.toInt ≤ h → h < (u2 7 x2.toNatClampNeg).toInt → ¬ VH DD x1.toInt x4.toInt x2.toNatClampNeg (v 7) h) → (25 - (u2 7 x2.toNatClampNeg).toInt).toNat < n → Ir u2 → Fq v u2 → va_P (dC, dI) vwCl (wm ad cy u2) H → va_D A (wm ad cy u2) → va_S A s.heap H locs → ∀ ls : Array Slot, lv_has ls 6 [(0, .ref (ad 0)), (1, .int x0), (2, .int x1), (3, .int x2), (4, .int x3), (5, .int x4)] → W p l e (headSpec wsX8_hourFrom ({ frames := 2, cells := 0, slots := 0, locals := 128 })).room s m [Value.ref (ad 0), Value.int x0, Value.int x1, Value.int x2, Value.int x3, Value.int x4].toArray below meth c H locs 0 0 (MQ below (va_Qi (fun (r : Int32) (u : Nat → Nat → Int32) => Ir u ∧ Fq v u ∧ (∀ i : Nat, i ≠ x2.toNatClampNeg → u 7 i = v 7 i) ∧ ((r.toInt = -1 ∧ ∀ h : Int, x3.toInt ≤ h → h ≤ (fun t k => (v 1 (158 + k + 25 * x0.toNatClampNeg + 5 * t)).toInt) x2.toNatClampNeg 4 → ¬ VH (fun t k => (v 1 (158 + k + 25 * x0.toNatClampNeg + 5 * t)).toInt) x1.toInt x4.toInt x2.toNatClampNeg (v 7) h) ∨ ((x3.toInt ≤ r.toInt ∧ r.toInt ≤ (fun t k => (v 1 (158 + k + 25 * x0.toNatClampNeg + 5 * t)).toInt) x2.toNatClampNeg 4) ∧ u 7 x2.toNatClampNeg = r ∧ VH (fun t k => (v 1 (158 + k + 25 * x0.toNatClampNeg + 5 * t)).toInt) x1.toInt x4.toInt x2.toNatClampNeg (v 7) r.toInt ∧ ∀ h : Int, x3.toInt ≤ h → h < r.toInt → ¬ VH (fun t k => (v 1 (158 + k + 25 * x0.toNatClampNeg + 5 * t)).toInt) x1.toInt x4.toInt x2.toNatClampNeg (v 7) h))) (fun u t => ex_Pst dC dI A (wm ad cy u) t) A) [Value.ref (ad 0), Value.int x0, Value.int x1, Value.int x2, Value.int x3, Value.int x4].toArray s 0 0 A) (F0 m 8 ls []) := by
    intro n
    induction n with
    | zero =>
      intro u2 H locs hi2_0 hi2_1 hi2_2 hi2_3 hm_2 hv hfr hP hD hS ls hl
      exact absurd hm_2 (by omega)
    | succ n ih_2 =>
      intro u2 H locs hi2_0 hi2_1 hi2_2 hi2_3 hm_2 hv hfr hP hD hS ls hl
      refine lv_aload_n hx hb dX8_hourFrom_8 rfl (lv_at hl 0 rfl) ?_
      refine va_get (D := (dC, dI)) (ci := 8) (v := .ref (ad 7)) (C := RX8) (T := TX8) (N := 11) hx hb hts iwX8_hourFrom_X8 hown hK hP (0) (wm_at (by decide) rc_0) rfl 10 (by decide) (hts (.fieldLink RX8 32 "QuietStairsModel" "hours" "[I") fwX8_hourFrom_1) (fun _ h9 => h9) rfl dX8_hourFrom_9 ?_
      refine lv_iload_n hx hb dX8_hourFrom_12 rfl (lv_at hl 3 rfl) ?_
      refine va_iald hx hb hK hP (7) 0 (wm_at (by decide) rc_7) rfl (vp_in_iff.mpr ⟨by omega, by omega⟩) dX8_hourFrom_13 ?_
      refine lv_topi (fun x_3 ex_3 => ?_)
      have qx_3 : x_3.toInt = (u2 7 (x2.toNatClampNeg)).toInt := congrArg Int32.toInt ex_3
      have bzx_3 : x3.toInt ≤ x_3.toInt ∧ x_3.toInt ≤ 24 := by rw [ex_3]; exact ⟨hi2_0, hi2_1⟩
      refine lv_aload_n hx hb dX8_hourFrom_14 rfl (lv_at hl 0 rfl) ?_
      refine va_get (D := (dC, dI)) (ci := 8) (v := .ref (ad 1)) (C := RX8) (T := TX8) (N := 11) hx hb hts iwX8_hourFrom_X8 hown hK hP (0) (wm_at (by decide) rc_0) rfl 0 (by decide) (hts (.fieldLink RX8 7 "QuietStairsModel" "s" "[I") fwX8_hourFrom_2) (fun _ h9 => h9) rfl dX8_hourFrom_15 ?_
      refine lv_iload_n hx hb dX8_hourFrom_18 rfl (lv_at hl 1 rfl) ?_
      refine lv_iload_n hx hb dX8_hourFrom_19 rfl (lv_at hl 3 rfl) ?_
      refine yc_p hP hS (va_runS (As := [.int x0, .int x2]) (rest := [.ref (ad 1), .int x_3]) ⟨hx, hb, hml, hown, hts⟩ (c_X8_termAt l x0 x2) (cwS 2 hts gX8_hourFrom_X8_termAt rfl rfl rfl hd_S_X8_termAt_2 ⟨Nat.le_of_ble_eq_true rfl, Nat.le_of_ble_eq_true rfl⟩) ex_preP rfl rfl hl.1 rfl (lv_room (Nat.le_of_ble_eq_true rfl)) dX8_hourFrom_20 ⟨Nat.le_of_ble_eq_true rfl, Nat.le_of_ble_eq_true rfl⟩) (fun r_4 H locs hw_4 hP hS => ?_)
      have tr_4 : r_4.toInt = 158 + 25 * x0.toInt + 5 * x2.toInt := t_tm hw_4 ⟨by omega, by omega⟩ ⟨by omega, by omega⟩
      refine lv_iconst (v := 4) hx hb dX8_hourFrom_23 (by decide) ?_
      refine lv_iadd hx hb dX8_hourFrom_24 ?_
      refine lv_topi (fun x_5 ex_5 => ?_)
      have k_4 : (4 : Int32).toInt = 4 := by decide
      have tx_5 : x_5.toInt = r_4.toInt + (4 : Int32).toInt := by rw [ex_5]; exact t_add ⟨by omega, by omega⟩
      have nx_5 : x_5.toNatClampNeg = 162 + 25 * x0.toNatClampNeg + 5 * x2.toNatClampNeg := by have z1 := t_nn (x := x_5) (by omega); omega
      refine va_iald hx hb hK hP (1) 0 (wm_at (by decide) rc_1) rfl (vp_in_iff.mpr ⟨by omega, by omega⟩) dX8_hourFrom_25 ?_
      refine lv_topi (fun x_6 ex_6 => ?_)
      have bzx_6 : 0 ≤ x_6.toInt ∧ x_6.toInt ≤ 23 := by rw [ex_6]; exact hv 1 _ 23 (bx_t3 (i := 5 * x0.toInt + x2.toInt) (s := 4) (by omega) ⟨by omega, by omega⟩ (by omega))
      rw [nx_5] at ex_6
      have qx_6 : x_6.toInt = (u2 1 (162 + 25 * x0.toNatClampNeg + 5 * x2.toNatClampNeg)).toInt := congrArg Int32.toInt ex_6
      have h49 : DD x2.toNatClampNeg 4 = x_6.toInt := by rw [eDD, ex_6, hfr.1]
      refine lv_icmp_gt (tgt := 61) hx hb dX8_hourFrom_26 (by decide) (fun c_7 => ?_) (fun c_7 => ?_)
      · have tc_7 : x_3.toInt > x_6.toInt := Int32.lt_iff_toInt_lt.mp c_7
        refine lv_iconst (v := (-1)) hx hb dX8_hourFrom_61 (by decide) ?_
        exact W.iret (v := (-1)) hx hb hr (fun t ht hW => ⟨⟨(-1), u2, rfl, ⟨hv, hfr, hi2_2, by rw [← eDD]; exact Or.inl ⟨by decide, fun h h1 h2 => hi2_3 h h1 (by rw [← ex_3]; omega)⟩⟩, by rw [ht]; exact hP, hD⟩, hS.F ht⟩) hS.2.2 dX8_hourFrom_62
      · have tc_7 : x_3.toInt ≤ x_6.toInt := Int32.le_iff_toInt_le.mp (Int32.not_lt.mp c_7)
        refine lv_aload_n hx hb dX8_hourFrom_29 rfl (lv_at hl 0 rfl) ?_
        refine lv_iload_n hx hb dX8_hourFrom_30 rfl (lv_at hl 1 rfl) ?_
        refine lv_iload_n hx hb dX8_hourFrom_31 rfl (lv_at hl 2 rfl) ?_
        refine lv_iload_n hx hb dX8_hourFrom_32 rfl (lv_at hl 3 rfl) ?_
        refine lv_iload hx hb dX8_hourFrom_33 (lv_at hl 5 rfl) ?_
        refine yw_i (w1 := fun (u : Nat → Nat → Int32) => wm ad cy u) hD hS hA (va_runV (As := [.int x0, .int x1, .int x2, .int x4]) (rest := []) ⟨hx, hb, hml, hown, hts⟩ (e_X8_mayBe l dC dI cy _ ad u2 hv x0 x1 x2 x4 ⟨by omega, by omega⟩ ⟨by omega, by omega⟩ ⟨by omega, by omega⟩ h24) (cwV 4 hts gX8_hourFrom_X8_mayBe rfl rfl rfl hd_V_X8_mayBe_4 ⟨Nat.le_of_ble_eq_true rfl, Nat.le_of_ble_eq_true rfl⟩) (yw_preV hE hK hP hD (ci := 8) (q := (RX8, TX8, 11)) (q0 := 0) rfl (wm_at (by decide) rc_0)) rfl rfl hl.1 rfl (lv_room (Nat.le_of_ble_eq_true rfl)) dX8_hourFrom_35 ⟨Nat.le_of_ble_eq_true rfl, Nat.le_of_ble_eq_true rfl⟩) (fun r_8 v_8 H locs hw_8 hP hD hS => ?_)
        obtain ⟨-, hu_8, hw_8⟩ := hw_8
        replace hu_8 := hu_8.symm
        subst hu_8
        rcases hw_8 with ⟨rfl, hb_9⟩ | ⟨rfl, hb_9⟩
        · rw [show (fun t k => (u2 1 (158 + k + 25 * x0.toNatClampNeg + 5 * t)).toInt) = DD from by rw [eDD, hfr.1], VH_cg (g := v 7) (fun o ho => hi2_2 o (by omega)), ← ex_3] at hb_9
          refine lv_if_eq (tgt := 48) hx hb dX8_hourFrom_38 (by decide) (fun c9 => absurd c9 (by decide)) (fun _ => ?_)
          refine lv_aload_n hx hb dX8_hourFrom_41 rfl (lv_at hl 0 rfl) ?_
          refine va_get (D := (dC, dI)) (ci := 8) (v := .ref (ad 7)) (C := RX8) (T := TX8) (N := 11) hx hb hts iwX8_hourFrom_X8 hown hK hP (0) (wm_at (by decide) rc_0) rfl 10 (by decide) (hts (.fieldLink RX8 32 "QuietStairsModel" "hours" "[I") fwX8_hourFrom_1) (fun _ h9 => h9) rfl dX8_hourFrom_42 ?_
          refine lv_iload_n hx hb dX8_hourFrom_45 rfl (lv_at hl 3 rfl) ?_
          refine va_iald hx hb hK hP (7) 0 (wm_at (by decide) rc_7) rfl (vp_in_iff.mpr ⟨by omega, by omega⟩) dX8_hourFrom_46 ?_
          refine lv_topi (fun x_10 ex_10 => ?_)
          obtain rfl : x_3 = x_10 := (ex_10.trans ex_3.symm).symm
          exact W.iret (v := x_3) hx hb hr (fun t ht hW => ⟨⟨x_3, u2, rfl, ⟨hv, hfr, hi2_2, by rw [← eDD]; exact Or.inr ⟨⟨by omega, by omega⟩, ex_3.symm, hb_9, fun h h1 h2 => hi2_3 h h1 (by rw [← ex_3]; exact h2)⟩⟩, by rw [ht]; exact hP, hD⟩, hS.F ht⟩) hS.2.2 dX8_hourFrom_47
        · rw [show (fun t k => (u2 1 (158 + k + 25 * x0.toNatClampNeg + 5 * t)).toInt) = DD from by rw [eDD, hfr.1], VH_cg (g := v 7) (fun o ho => hi2_2 o (by omega)), ← ex_3] at hb_9
          refine lv_if_eq (tgt := 48) hx hb dX8_hourFrom_38 (by decide) (fun _ => ?_) (fun c9 => absurd c9 (by decide))
          refine lv_aload_n hx hb dX8_hourFrom_48 rfl (lv_at hl 0 rfl) ?_
          refine va_get (D := (dC, dI)) (ci := 8) (v := .ref (ad 7)) (C := RX8) (T := TX8) (N := 11) hx hb hts iwX8_hourFrom_X8 hown hK hP (0) (wm_at (by decide) rc_0) rfl 10 (by decide) (hts (.fieldLink RX8 32 "QuietStairsModel" "hours" "[I") fwX8_hourFrom_1) (fun _ h9 => h9) rfl dX8_hourFrom_49 ?_
          refine lv_iload_n hx hb dX8_hourFrom_52 rfl (lv_at hl 3 rfl) ?_
          refine lv_dup2_11 hx hb dX8_hourFrom_53 rfl rfl ?_
          refine va_iald hx hb hK hP (7) 0 (wm_at (by decide) rc_7) rfl (vp_in_iff.mpr ⟨by omega, by omega⟩) dX8_hourFrom_54 ?_
          refine lv_topi (fun x_10 ex_10 => ?_)
          obtain rfl : x_3 = x_10 := (ex_10.trans ex_3.symm).symm
          refine lv_iconst (v := 1) hx hb dX8_hourFrom_55 (by decide) ?_
          refine lv_iadd hx hb dX8_hourFrom_56 ?_
          refine lv_topi (fun x_11 ex_11 => ?_)
          have k_1 : (1 : Int32).toInt = 1 := by decide
          have tx_11 : x_11.toInt = x_3.toInt + (1 : Int32).toInt := by rw [ex_11]; exact t_add ⟨by omega, by omega⟩
          refine va_iast hx hb hK hP hD hS (7) 0 (wm_at (by decide) rc_7) rfl (vp_in_iff.mpr ⟨by omega, by omega⟩) dX8_hourFrom_57 (fun H locs hP hD hS => ?_)
          obtain ⟨v_12, ev_12⟩ : ∃ u : Nat → Nat → Int32, u = upr u2 7 (upd (u2 7) (x2.toNatClampNeg) x_11) := ⟨_, rfl⟩
          have hP : va_P (dC, dI) vwCl (wm ad cy v_12) H := by rw [ev_12, ← wm_put (e := _) rc_7]; exact hP
          have hD : va_D A (wm ad cy v_12) := by rw [ev_12, ← wm_put (e := _) rc_7]; exact hD
          have hv : Ir v_12 := by rw [ev_12]; exact hv.put (k := 7) (fun h q => by rw [(show br 7 _ = none from rfl)] at q; cases q)
          have hfr : Fq v v_12 := by rw [ev_12]; exact hfr.row (by decide)
          refine lv_goto (tgt := 8) hx hb dX8_hourFrom_58 (by decide) ?_
          exact ih_2 v_12 _ _  (by rw [ev_12, upr_s, pk_us]; omega) (by rw [ev_12, upr_s, pk_us]; omega) (fun i hi => by rw [ev_12, upr_s, pk_un hi]; exact hi2_2 i hi) (fun h h1 h2 => by rw [ev_12, upr_s, pk_us] at h2; by_cases e : h < x_3.toInt; exact hi2_3 h h1 (by rw [← ex_3]; exact e); rw [show h = x_3.toInt from by omega]; exact hb_9) (by rw [ev_12, upr_s, pk_us]; have z1 := ex_3; rw [← ex_3] at hm_2; omega) hv hfr hP hD hS ls (lv_sub hl [0, 1, 2, 3, 4, 5] rfl)
  exact hc_2 ((25 - (v_1 7 x2.toNatClampNeg).toInt).toNat + 1) v_1 _ _  (by rw [ev_1, upr_s, pk_us]; omega) (by rw [ev_1, upr_s, pk_us]; omega) (fun i hi => by rw [ev_1, upr_s, pk_un hi]) (fun h h1 h2 => absurd h2 (by rw [ev_1, upr_s, pk_us]; omega)) (by omega) hv hfr hP hD hS ls (lv_sub hl [0, 1, 2, 3, 4, 5] rfl)

theorem ow_own {s : Nat → Int32} {c i : Nat} {x : Int32} : ow s (158 + 25 * c) x i ↔ own (fun t k => (s (158 + k + 25 * c + 5 * t)).toInt) x.toInt i := by
  have e0 : s (158 + 25 * c + 5 * i) = s (158 + 0 + 25 * c + 5 * i) := rfl
  have e1 : s (158 + 25 * c + 5 * i + 1) = s (158 + 1 + 25 * c + 5 * i) := congrArg s (by omega)
  have k1 : (1 : Int32).toInt = 1 := by decide
  refine ⟨fun h => ⟨?_, ?_⟩, fun h => ⟨?_, ?_⟩⟩
  · show (s (158 + 0 + 25 * c + 5 * i)).toInt = _
    rw [← e0, h.1]
  · show (s (158 + 1 + 25 * c + 5 * i)).toInt = 1
    rw [← e1, h.2]
    exact k1
  · exact Int32.toInt_inj.mp h.1
  · rw [e1]
    exact Int32.toInt_inj.mp (h.2.trans k1.symm)

set_option maxHeartbeats 4000000 in
set_option maxRecDepth 100000 in
theorem e_X8_makeTable (l : Launch) (dC : Nat → ClassId) (dI : Nat → Nat → Nat) (cy : Nat → ClassId) (sz : Nat) (ad : Nat → Nat) (v : Nat → Nat → Int32) (hv : Ir v) (x0 x1 x2 : Int32) (h0 : 0 ≤ x0.toInt ∧ x0.toInt ≤ 5) (h2 : 0 ≤ x2.toInt ∧ x2.toInt ≤ 5) : Met l yX8_makeTable wsX8_makeTable ({ frames := 3, cells := 0, slots := 0, locals := 192 }) (va_Pc [.ref (ad 0), .int x0, .int x1, .int x2] (ex_Pre dC dI cy sz (wm ad cy v))) (va_Qi (fun (r : Int32) (u : Nat → Nat → Int32) => Ir u ∧ Fq v u ∧ ((r = 1 ∧ lmin x2.toNatClampNeg (alw (fun t k => (v 1 (158 + k + 25 * x0.toNatClampNeg + 5 * t)).toInt) x1.toInt x2.toNatClampNeg) (own (fun t k => (v 1 (158 + k + 25 * x0.toNatClampNeg + 5 * t)).toInt) x1.toInt) (fun q => (u 7 q).toNatClampNeg) ∧ ∀ q : Nat, q < x2.toNatClampNeg → own (fun t k => (v 1 (158 + k + 25 * x0.toNatClampNeg + 5 * t)).toInt) x1.toInt q → 0 ≤ (u 7 q).toInt) ∨ (r = 0 ∧ ¬ TB (fun t k => (v 1 (158 + k + 25 * x0.toNatClampNeg + 5 * t)).toInt) x1.toInt x2.toNatClampNeg))) (fun u t => ex_Pst dC dI (va_A (wm ad cy v) sz) (wm ad cy u) t) (va_A (wm ad cy v) sz)) 0 0 (va_A (wm ad cy v) sz) := by
  refine Met.ofW (cc := cX8_makeTable) (maxL := 7) (ret := (some .boolean)) (by decide) rfl ?_
  intro p e s m args below meth c s₁ B hml hv
  obtain ⟨rfl, hsz, hE, hP, hK, hD0⟩ := hv
  have hx := B.exec
  have hb := B.bytes
  have hr := B.returns
  have hts := atoms_spec (ws := wsX8_makeTable) B.pre
  have hown : s.vm.findClass RX8 = some m.cls := findClass_of_methodNamed B.named
  have hlocks := B.notSynchronized
  subst hsz
  have hD := hD0.self (sz := s.heap.size)
  generalize hAe : va_A (wm ad cy v) s.heap.size = A at hD ⊢
  have hA : ∀ q : Nat, s.heap.size ≤ q → A q := fun q h => by rw [← hAe]; exact Or.inr h
  have hS : va_S A s.heap s.heap [] := va_S.rf
  have hP : va_P (dC, dI) vwCl (wm ad cy v) s.heap := hP
  have hl := lv_entry ([.ref (ad 0), .int x0, .int x1, .int x2]) (n := 7) (Nat.le_of_ble_eq_true rfl)
  rw [lg_entry_eq]
  generalize (lg_sl ([.ref (ad 0), .int x0, .int x1, .int x2]) ++ List.replicate (7 - (lg_sl ([.ref (ad 0), .int x0, .int x1, .int x2])).length) Slot.unset).toArray = ls at hl ⊢
  have hl : lv_has ls 7 [(0, .ref (ad 0)), (1, .int x0), (2, .int x1), (3, .int x2)] := hl
  have hfr : Fq v v := Fq.rf
  have zn_x0 : (x0.toNatClampNeg : Int) = x0.toInt := t_nn (by omega)
  obtain ⟨DD, eDD⟩ : ∃ f : Nat → Nat → Int, f = fun t k => (v 1 (158 + k + 25 * x0.toNatClampNeg + 5 * t)).toInt := ⟨_, rfl⟩
  have zn_x2 : (x2.toNatClampNeg : Int) = x2.toInt := t_nn (by omega)
  have oo : ∀ i : Nat, ow (v 1) (158 + 25 * x0.toNatClampNeg) x1 i ↔ own DD x1.toInt i := fun i => by rw [eDD]; exact ow_own
  have hB9 : ∀ t : Nat, t < 5 → (0 ≤ DD t 3 ∧ DD t 3 ≤ 23) ∧ DD t 4 ≤ 23 := fun t ht => by rw [eDD]; exact ⟨hv 1 _ 23 (bS_w (by omega) ht).1, (hv 1 _ 23 (bS_w (by omega) ht).2).2⟩
  refine lv_aload_n hx hb dX8_makeTable_0 rfl (lv_at hl 0 rfl) ?_
  refine lv_iload_n hx hb dX8_makeTable_1 rfl (lv_at hl 1 rfl) ?_
  refine lv_iload_n hx hb dX8_makeTable_2 rfl (lv_at hl 2 rfl) ?_
  refine lv_iconst (v := (-1)) hx hb dX8_makeTable_3 (by decide) ?_
  refine lv_iconst (v := 1) hx hb dX8_makeTable_4 (by decide) ?_
  refine lv_iload_n hx hb dX8_makeTable_5 rfl (lv_at hl 3 rfl) ?_
  have k_1 : (1 : Int32).toInt = 1 := by decide
  have k_m1 : ((-1) : Int32).toInt = -1 := by decide
  refine yw_i (w1 := fun (u : Nat → Nat → Int32) => wm ad cy u) hD hS hA (va_runV (As := [.int x0, .int x1, .int (-1), .int 1, .int x2]) (rest := []) ⟨hx, hb, hml, hown, hts⟩ (e_X8_next_f l dC dI cy _ ad v hv x0 x1 ((-1) : Int32) x2 ⟨by omega, by omega⟩ ⟨by omega, by omega⟩ ⟨by omega, by omega⟩) (cwV 5 hts gX8_makeTable_X8_next rfl rfl rfl hd_V_X8_next_5 ⟨Nat.le_of_ble_eq_true rfl, Nat.le_of_ble_eq_true rfl⟩) (yw_preV hE hK hP hD (ci := 8) (q := (RX8, TX8, 11)) (q0 := 0) rfl (wm_at (by decide) rc_0)) rfl rfl hl.1 rfl (lv_room (Nat.le_of_ble_eq_true rfl)) dX8_makeTable_6 ⟨Nat.le_of_ble_eq_true rfl, Nat.le_of_ble_eq_true rfl⟩) (fun r_1 v_1 H locs hw_1 hP hD hS => ?_)
  obtain ⟨-, hu_1, hw_1⟩ := hw_1
  replace hu_1 := hu_1.symm
  subst hu_1
  obtain ⟨hn_2, hg_2, hq_2⟩ := hw_1
  rw [← eDD] at hg_2 hq_2
  refine lv_istore (lv' := [(4, .int r_1), (0, .ref (ad 0)), (1, .int x0), (2, .int x1), (3, .int x2)]) hx hb dX8_makeTable_9 hl (by decide) rfl (fun ls hl => ?_)
  refine lv_iload hx hb dX8_makeTable_11 (lv_at hl 0 rfl) ?_
  refine lv_iload_n hx hb dX8_makeTable_13 rfl (lv_at hl 4 rfl) ?_
  refine lv_icmp_ge (tgt := 33) hx hb dX8_makeTable_14 (by decide) (fun c_3 => ?_) (fun c_3 => ?_)
  · have tc_3 : r_1.toInt ≥ x2.toInt := Int32.le_iff_toInt_le.mp c_3
    refine lv_iconst (v := 0) hx hb dX8_makeTable_33 (by decide) ?_
    refine lv_istore (lv' := [(5, .int 0), (4, .int r_1), (0, .ref (ad 0)), (1, .int x0), (2, .int x1), (3, .int x2)]) hx hb dX8_makeTable_34 hl (by decide) rfl (fun ls hl => ?_)
    have hc_4 : ∀ (n : Nat) (y4_4 y4_5 : Int32) (u4 : Nat → Nat → Int32) (H : Heap) (locs : List Loc), -1 ≤ y4_4.toInt → y4_4.toInt ≤ 5 → 0 ≤ y4_5.toInt → y4_5.toInt ≤ 24 → (∀ i : Nat, (i : Int) < y4_4.toInt → ow (v 1) (158 + 25 * x0.toNatClampNeg) x1 i → 0 ≤ (u4 7 i).toInt ∧ (u4 7 i).toInt ≤ 23) → (y4_4.toInt ≤ x2.toInt) → (MI DD x1.toInt x2.toNatClampNeg y4_4.toInt y4_5.toInt (u4 7)) → (mt (dg (v 1) (158 + 25 * x0.toNatClampNeg) x1 (u4 7)) y4_4.toInt y4_5.toInt).toNat < n → Ir u4 → Fq v u4 → va_P (dC, dI) vwCl (wm ad cy u4) H → va_D A (wm ad cy u4) → va_S A s.heap H locs → ∀ ls : Array Slot, lv_has ls 7 [(5, .int y4_5), (4, .int y4_4), (0, .ref (ad 0)), (1, .int x0), (2, .int x1), (3, .int x2)] → W p l e (headSpec wsX8_makeTable ({ frames := 3, cells := 0, slots := 0, locals := 192 })).room s m [Value.ref (ad 0), Value.int x0, Value.int x1, Value.int x2].toArray below meth c H locs 0 0 (MQ below (va_Qi (fun (r : Int32) (u : Nat → Nat → Int32) => Ir u ∧ Fq v u ∧ ((r = 1 ∧ lmin x2.toNatClampNeg (alw (fun t k => (v 1 (158 + k + 25 * x0.toNatClampNeg + 5 * t)).toInt) x1.toInt x2.toNatClampNeg) (own (fun t k => (v 1 (158 + k + 25 * x0.toNatClampNeg + 5 * t)).toInt) x1.toInt) (fun q => (u 7 q).toNatClampNeg) ∧ ∀ q : Nat, q < x2.toNatClampNeg → own (fun t k => (v 1 (158 + k + 25 * x0.toNatClampNeg + 5 * t)).toInt) x1.toInt q → 0 ≤ (u 7 q).toInt) ∨ (r = 0 ∧ ¬ TB (fun t k => (v 1 (158 + k + 25 * x0.toNatClampNeg + 5 * t)).toInt) x1.toInt x2.toNatClampNeg))) (fun u t => ex_Pst dC dI A (wm ad cy u) t) A) [Value.ref (ad 0), Value.int x0, Value.int x1, Value.int x2].toArray s 0 0 A) (F0 m 36 ls []) := by
      intro n
      induction n with
      | zero =>
        intro y4_4 y4_5 u4 H locs ay4_4 by4_4 ay4_5 by4_5 hi4_0 hi4_1 hi4_2 hm_4 hv hfr hP hD hS ls hl
        exact absurd hm_4 (by omega)
      | succ n ih_4 =>
        intro y4_4 y4_5 u4 H locs ay4_4 by4_4 ay4_5 by4_5 hi4_0 hi4_1 hi4_2 hm_4 hv hfr hP hD hS ls hl
        refine lv_iload hx hb dX8_makeTable_36 (lv_at hl 1 rfl) ?_
        have k_0 : (0 : Int32).toInt = 0 := by decide
        refine lv_if_lt (tgt := 140) hx hb dX8_makeTable_38 (by decide) (fun c_5 => ?_) (fun c_5 => ?_)
        · have tc_5 : y4_4.toInt < (0 : Int32).toInt := Int32.lt_iff_toInt_lt.mp c_5
          refine lv_iload hx hb dX8_makeTable_140 (lv_at hl 1 rfl) ?_
          refine lv_if_lt (tgt := 149) hx hb dX8_makeTable_142 (by decide) (fun c_6 => ?_) (fun c_6 => ?_)
          · have tc_6 : y4_4.toInt < (0 : Int32).toInt := Int32.lt_iff_toInt_lt.mp c_6
            refine lv_iconst (v := 0) hx hb dX8_makeTable_149 (by decide) ?_
            exact W.zret (ty := .boolean) (v := 0) hx hb hr rfl (fun t ht hW => ⟨⟨0, u4, rfl, ⟨hv, hfr, by rw [← eDD]; exact Or.inr ⟨rfl, MI_no hi4_2 (by omega)⟩⟩, by rw [ht]; exact hP, hD⟩, hS.F ht⟩) hS.2.2 dX8_makeTable_150
          · have tc_6 : y4_4.toInt ≥ (0 : Int32).toInt := Int32.le_iff_toInt_le.mp (Int32.not_lt.mp c_6)
            exfalso
            omega
        · have tc_5 : y4_4.toInt ≥ (0 : Int32).toInt := Int32.le_iff_toInt_le.mp (Int32.not_lt.mp c_5)
          refine lv_iload hx hb dX8_makeTable_41 (lv_at hl 1 rfl) ?_
          refine lv_iload_n hx hb dX8_makeTable_43 rfl (lv_at hl 5 rfl) ?_
          refine lv_icmp_ge (tgt := 140) hx hb dX8_makeTable_44 (by decide) (fun c_6 => ?_) (fun c_6 => ?_)
          · have tc_6 : y4_4.toInt ≥ x2.toInt := Int32.le_iff_toInt_le.mp c_6
            refine lv_iload hx hb dX8_makeTable_140 (lv_at hl 1 rfl) ?_
            refine lv_if_lt (tgt := 149) hx hb dX8_makeTable_142 (by decide) (fun c_7 => ?_) (fun c_7 => ?_)
            · have tc_7 : y4_4.toInt < (0 : Int32).toInt := Int32.lt_iff_toInt_lt.mp c_7
              exfalso
              omega
            · have tc_7 : y4_4.toInt ≥ (0 : Int32).toInt := Int32.le_iff_toInt_le.mp (Int32.not_lt.mp c_7)
              refine lv_iconst (v := 1) hx hb dX8_makeTable_145 (by decide) ?_
              refine lv_goto (tgt := 150) hx hb dX8_makeTable_146 (by decide) ?_
              exact W.zret (ty := .boolean) (v := 1) hx hb hr rfl (fun t ht hW => ⟨⟨1, u4, rfl, ⟨hv, hfr, by rw [← eDD]; exact Or.inl ⟨rfl, MI_yes hi4_2 (by omega), MI_nn hi4_2 (by omega)⟩⟩, by rw [ht]; exact hP, hD⟩, hS.F ht⟩) hS.2.2 dX8_makeTable_150
          · have tc_6 : y4_4.toInt < x2.toInt := Int32.lt_iff_toInt_lt.mp (Int32.not_le.mp c_6)
            have hfv9 := hfr
            refine lv_aload_n hx hb dX8_makeTable_47 rfl (lv_at hl 2 rfl) ?_
            refine lv_iload_n hx hb dX8_makeTable_48 rfl (lv_at hl 3 rfl) ?_
            refine lv_iload_n hx hb dX8_makeTable_49 rfl (lv_at hl 4 rfl) ?_
            refine lv_iload hx hb dX8_makeTable_50 (lv_at hl 1 rfl) ?_
            refine lv_iload hx hb dX8_makeTable_52 (lv_at hl 0 rfl) ?_
            refine lv_iload_n hx hb dX8_makeTable_54 rfl (lv_at hl 5 rfl) ?_
            refine yw_i (w1 := fun (u : Nat → Nat → Int32) => wm ad cy u) hD hS hA (va_runV (As := [.int x0, .int x1, .int y4_4, .int y4_5, .int x2]) (rest := []) ⟨hx, hb, hml, hown, hts⟩ (e_X8_hourFrom l dC dI cy _ ad u4 hv x0 x1 y4_4 y4_5 x2 ⟨by omega, by omega⟩ ⟨by omega, by omega⟩ ⟨by omega, by omega⟩ ⟨by omega, by omega⟩ (by omega)) (cwV 5 hts gX8_makeTable_X8_hourFrom rfl rfl rfl hd_V_X8_hourFrom_5 ⟨Nat.le_of_ble_eq_true rfl, Nat.le_of_ble_eq_true rfl⟩) (yw_preV hE hK hP hD (ci := 8) (q := (RX8, TX8, 11)) (q0 := 0) rfl (wm_at (by decide) rc_0)) rfl rfl hl.1 rfl (lv_room (Nat.le_of_ble_eq_true rfl)) dX8_makeTable_55 ⟨Nat.le_of_ble_eq_true rfl, Nat.le_of_ble_eq_true rfl⟩) (fun r_7 v_7 H locs hw_7 hP hD hS => ?_)
            obtain ⟨hv, hf_7, hw_7⟩ := hw_7
            have hfr : Fq v v_7 := hfr.trans hf_7
            have zn_y4_4 : (y4_4.toNatClampNeg : Int) = y4_4.toInt := t_nn (by omega)
            obtain ⟨he_8, hr_8⟩ := hw_7
            rw [show (fun t k => (u4 1 (158 + k + 25 * x0.toNatClampNeg + 5 * t)).toInt) = DD from by rw [eDD, hfv9.1]] at hr_8
            have hb_8 : -1 ≤ r_7.toInt ∧ r_7.toInt ≤ 23 := by have q := (hB9 y4_4.toNatClampNeg (by omega)).2; rcases hr_8 with ⟨q1, -⟩ | ⟨q1, -⟩ <;> omega
            refine lv_istore (lv' := [(6, .int r_7), (5, .int y4_5), (4, .int y4_4), (0, .ref (ad 0)), (1, .int x0), (2, .int x1), (3, .int x2)]) hx hb dX8_makeTable_58 hl (by decide) rfl (fun ls hl => ?_)
            refine lv_iload hx hb dX8_makeTable_60 (lv_at hl 0 rfl) ?_
            refine lv_if_lt (tgt := 105) hx hb dX8_makeTable_62 (by decide) (fun c_9 => ?_) (fun c_9 => ?_)
            · have tc_9 : r_7.toInt < (0 : Int32).toInt := Int32.lt_iff_toInt_lt.mp c_9
              have hr9 : ∀ h : Int, y4_5.toInt ≤ h → h ≤ DD y4_4.toNatClampNeg 4 → ¬ VH DD x1.toInt x2.toInt y4_4.toNatClampNeg (u4 7) h := by rcases hr_8 with ⟨-, q⟩ | ⟨q1, -⟩; exact q; omega
              refine lv_aload_n hx hb dX8_makeTable_105 rfl (lv_at hl 3 rfl) ?_
              refine lv_iload_n hx hb dX8_makeTable_106 rfl (lv_at hl 4 rfl) ?_
              refine lv_iload_n hx hb dX8_makeTable_107 rfl (lv_at hl 5 rfl) ?_
              refine lv_iload hx hb dX8_makeTable_108 (lv_at hl 2 rfl) ?_
              refine lv_iconst (v := (-1)) hx hb dX8_makeTable_110 (by decide) ?_
              refine lv_iload_n hx hb dX8_makeTable_111 rfl (lv_at hl 6 rfl) ?_
              refine yw_i (w1 := fun (u : Nat → Nat → Int32) => wm ad cy u) hD hS hA (va_runV (As := [.int x0, .int x1, .int y4_4, .int (-1), .int x2]) (rest := []) ⟨hx, hb, hml, hown, hts⟩ (e_X8_next_b l dC dI cy _ ad v_7 hv x0 x1 y4_4 x2 ⟨by omega, by omega⟩ ⟨by omega, by omega⟩ ⟨by omega, by omega⟩) (cwV 5 hts gX8_makeTable_X8_next rfl rfl rfl hd_V_X8_next_5 ⟨Nat.le_of_ble_eq_true rfl, Nat.le_of_ble_eq_true rfl⟩) (yw_preV hE hK hP hD (ci := 8) (q := (RX8, TX8, 11)) (q0 := 0) rfl (wm_at (by decide) rc_0)) rfl rfl hl.1 rfl (lv_room (Nat.le_of_ble_eq_true rfl)) dX8_makeTable_112 ⟨Nat.le_of_ble_eq_true rfl, Nat.le_of_ble_eq_true rfl⟩) (fun r_10 v_10 H locs hw_10 hP hD hS => ?_)
              obtain ⟨-, hu_10, hw_10⟩ := hw_10
              replace hu_10 := hu_10.symm
              subst hu_10
              obtain ⟨hn_11, hg_11, hq_11⟩ := hw_10
              rw [show (fun t k => (v_7 1 (158 + k + 25 * x0.toNatClampNeg + 5 * t)).toInt) = DD from by rw [eDD, hfr.1]] at hg_11 hq_11
              refine lv_istore (lv' := [(4, .int r_10), (6, .int r_7), (5, .int y4_5), (0, .ref (ad 0)), (1, .int x0), (2, .int x1), (3, .int x2)]) hx hb dX8_makeTable_115 hl (by decide) rfl (fun ls hl => ?_)
              refine lv_iload hx hb dX8_makeTable_117 (lv_at hl 0 rfl) ?_
              refine lv_if_ge (tgt := 126) hx hb dX8_makeTable_119 (by decide) (fun c_12 => ?_) (fun c_12 => ?_)
              · have tc_12 : r_10.toInt ≥ (0 : Int32).toInt := Int32.le_iff_toInt_le.mp c_12
                refine lv_aload_n hx hb dX8_makeTable_126 rfl (lv_at hl 3 rfl) ?_
                refine va_get (D := (dC, dI)) (ci := 8) (v := .ref (ad 7)) (C := RX8) (T := TX8) (N := 11) hx hb hts iwX8_makeTable_X8 hown hK hP (0) (wm_at (by decide) rc_0) rfl 10 (by decide) (hts (.fieldLink RX8 32 "QuietStairsModel" "hours" "[I") fwX8_makeTable_2) (fun _ h9 => h9) rfl dX8_makeTable_127 ?_
                refine lv_iload hx hb dX8_makeTable_130 (lv_at hl 0 rfl) ?_
                have zn_r_10 : (r_10.toNatClampNeg : Int) = r_10.toInt := t_nn (by omega)
                refine va_iald hx hb hK hP (7) 0 (wm_at (by decide) rc_7) rfl (vp_in_iff.mpr ⟨by omega, by omega⟩) dX8_makeTable_132 ?_
                refine lv_topi (fun x_13 ex_13 => ?_)
                have qx_13 : x_13.toInt = (v_7 7 (r_10.toNatClampNeg)).toInt := congrArg Int32.toInt ex_13
                have bzx_13 : 0 ≤ x_13.toInt ∧ x_13.toInt ≤ 23 := by rw [ex_13, he_8 _ (by omega)]; exact hi4_0 _ (by omega) ((oo _).mpr (hq_11 (by omega)))
                refine lv_iconst (v := 1) hx hb dX8_makeTable_133 (by decide) ?_
                refine lv_iadd hx hb dX8_makeTable_134 ?_
                refine lv_topi (fun x_14 ex_14 => ?_)
                have tx_14 : x_14.toInt = x_13.toInt + (1 : Int32).toInt := by rw [ex_14]; exact t_add ⟨by omega, by omega⟩
                refine lv_istore (lv' := [(5, .int x_14), (4, .int r_10), (6, .int r_7), (0, .ref (ad 0)), (1, .int x0), (2, .int x1), (3, .int x2)]) hx hb dX8_makeTable_135 hl (by decide) rfl (fun ls hl => ?_)
                refine lv_goto (tgt := 36) hx hb dX8_makeTable_137 (by decide) ?_
                exact ih_4 r_10 x_14 v_7 _ _ (by omega) (by omega) (by omega) (by omega) ((mt_b (s := v 1) (B := (158 + 25 * x0.toNatClampNeg)) (sd := x1) (h := u4 7) (h' := v_7 7) (t := y4_4) (t' := r_10) (f := y4_5) (f' := x_14) ⟨by omega, by omega⟩ ⟨by omega, by omega⟩ ⟨by omega, by omega⟩ he_8 (fun q => (oo _).mpr (hq_11 q)) (Or.inr ⟨by omega, by rw [← ex_13]; omega⟩) hi4_0).1) (by omega) (MI_dn (T := y4_4.toNatClampNeg) (by omega) (by omega) hi4_2 (hB9 _ (by omega)).2 (by rw [show ((x2.toNatClampNeg : Nat) : Int) = x2.toInt from by omega]; exact hr9) he_8 ⟨by omega, by omega⟩ (fun i h1 h2 => hg_11 i (by omega) (by omega)) (fun U hU => ⟨by rw [show U = r_10.toNatClampNeg from by have z9 := t_nn (x := r_10) (by omega); omega]; exact hq_11 (by omega), by have q9 := ex_13; rw [show U = r_10.toNatClampNeg from by omega, ← q9]; omega⟩)) (by have z1 := (mt_b (s := v 1) (B := (158 + 25 * x0.toNatClampNeg)) (sd := x1) (h := u4 7) (h' := v_7 7) (t := y4_4) (t' := r_10) (f := y4_5) (f' := x_14) ⟨by omega, by omega⟩ ⟨by omega, by omega⟩ ⟨by omega, by omega⟩ he_8 (fun q => (oo _).mpr (hq_11 q)) (Or.inr ⟨by omega, by rw [← ex_13]; omega⟩) hi4_0).2; omega) hv hfr hP hD hS ls (lv_sub hl [0, 1, 3, 4, 5, 6] rfl)
              · have tc_12 : r_10.toInt < (0 : Int32).toInt := Int32.lt_iff_toInt_lt.mp (Int32.not_le.mp c_12)
                refine lv_iconst (v := 0) hx hb dX8_makeTable_122 (by decide) ?_
                refine lv_goto (tgt := 135) hx hb dX8_makeTable_123 (by decide) ?_
                refine lv_istore (lv' := [(5, .int 0), (4, .int r_10), (6, .int r_7), (0, .ref (ad 0)), (1, .int x0), (2, .int x1), (3, .int x2)]) hx hb dX8_makeTable_135 hl (by decide) rfl (fun ls hl => ?_)
                refine lv_goto (tgt := 36) hx hb dX8_makeTable_137 (by decide) ?_
                exact ih_4 r_10 0 v_7 _ _ (by omega) (by omega) (by omega) (by omega) ((mt_b (s := v 1) (B := (158 + 25 * x0.toNatClampNeg)) (sd := x1) (h := u4 7) (h' := v_7 7) (t := y4_4) (t' := r_10) (f := y4_5) (f' := (0 : Int32)) ⟨by omega, by omega⟩ ⟨by omega, by omega⟩ ⟨by omega, by omega⟩ he_8 (fun q => (oo _).mpr (hq_11 q)) (Or.inl ⟨by omega, by omega⟩) hi4_0).1) (by omega) (MI_dn (T := y4_4.toNatClampNeg) (by omega) (by omega) hi4_2 (hB9 _ (by omega)).2 (by rw [show ((x2.toNatClampNeg : Nat) : Int) = x2.toInt from by omega]; exact hr9) he_8 ⟨by omega, by omega⟩ (fun i h1 h2 => hg_11 i (by omega) (by omega)) (fun U hU => ⟨by rw [show U = r_10.toNatClampNeg from by have z9 := t_nn (x := r_10) (by omega); omega]; exact hq_11 (by omega), by omega⟩)) (by have z1 := (mt_b (s := v 1) (B := (158 + 25 * x0.toNatClampNeg)) (sd := x1) (h := u4 7) (h' := v_7 7) (t := y4_4) (t' := r_10) (f := y4_5) (f' := (0 : Int32)) ⟨by omega, by omega⟩ ⟨by omega, by omega⟩ ⟨by omega, by omega⟩ he_8 (fun q => (oo _).mpr (hq_11 q)) (Or.inl ⟨by omega, by omega⟩) hi4_0).2; omega) hv hfr hP hD hS ls (lv_sub hl [0, 1, 3, 4, 5, 6] rfl)
            · have tc_9 : r_7.toInt ≥ (0 : Int32).toInt := Int32.le_iff_toInt_le.mp (Int32.not_lt.mp c_9)
              have hr9 : ((y4_5.toInt ≤ r_7.toInt ∧ r_7.toInt ≤ DD y4_4.toNatClampNeg 4) ∧ v_7 7 y4_4.toNatClampNeg = r_7 ∧ VH DD x1.toInt x2.toInt y4_4.toNatClampNeg (u4 7) r_7.toInt ∧ ∀ h : Int, y4_5.toInt ≤ h → h < r_7.toInt → ¬ VH DD x1.toInt x2.toInt y4_4.toNatClampNeg (u4 7) h) := by rcases hr_8 with ⟨q1, -⟩ | q; omega; exact q
              refine lv_aload_n hx hb dX8_makeTable_65 rfl (lv_at hl 3 rfl) ?_
              refine lv_iload_n hx hb dX8_makeTable_66 rfl (lv_at hl 4 rfl) ?_
              refine lv_iload_n hx hb dX8_makeTable_67 rfl (lv_at hl 5 rfl) ?_
              refine lv_iload hx hb dX8_makeTable_68 (lv_at hl 2 rfl) ?_
              refine lv_iconst (v := 1) hx hb dX8_makeTable_70 (by decide) ?_
              refine lv_iload_n hx hb dX8_makeTable_71 rfl (lv_at hl 6 rfl) ?_
              refine yw_i (w1 := fun (u : Nat → Nat → Int32) => wm ad cy u) hD hS hA (va_runV (As := [.int x0, .int x1, .int y4_4, .int 1, .int x2]) (rest := []) ⟨hx, hb, hml, hown, hts⟩ (e_X8_next_f l dC dI cy _ ad v_7 hv x0 x1 y4_4 x2 ⟨by omega, by omega⟩ ⟨by omega, by omega⟩ ⟨by omega, by omega⟩) (cwV 5 hts gX8_makeTable_X8_next rfl rfl rfl hd_V_X8_next_5 ⟨Nat.le_of_ble_eq_true rfl, Nat.le_of_ble_eq_true rfl⟩) (yw_preV hE hK hP hD (ci := 8) (q := (RX8, TX8, 11)) (q0 := 0) rfl (wm_at (by decide) rc_0)) rfl rfl hl.1 rfl (lv_room (Nat.le_of_ble_eq_true rfl)) dX8_makeTable_72 ⟨Nat.le_of_ble_eq_true rfl, Nat.le_of_ble_eq_true rfl⟩) (fun r_10 v_10 H locs hw_10 hP hD hS => ?_)
              obtain ⟨-, hu_10, hw_10⟩ := hw_10
              replace hu_10 := hu_10.symm
              subst hu_10
              obtain ⟨hn_11, hg_11, hq_11⟩ := hw_10
              rw [show (fun t k => (v_7 1 (158 + k + 25 * x0.toNatClampNeg + 5 * t)).toInt) = DD from by rw [eDD, hfr.1]] at hg_11 hq_11
              refine lv_istore (lv' := [(4, .int r_10), (6, .int r_7), (5, .int y4_5), (0, .ref (ad 0)), (1, .int x0), (2, .int x1), (3, .int x2)]) hx hb dX8_makeTable_75 hl (by decide) rfl (fun ls hl => ?_)
              refine lv_iload hx hb dX8_makeTable_77 (lv_at hl 0 rfl) ?_
              refine lv_iload_n hx hb dX8_makeTable_79 rfl (lv_at hl 6 rfl) ?_
              refine lv_icmp_ge (tgt := 99) hx hb dX8_makeTable_80 (by decide) (fun c_12 => ?_) (fun c_12 => ?_)
              · have tc_12 : r_10.toInt ≥ x2.toInt := Int32.le_iff_toInt_le.mp c_12
                refine lv_iconst (v := 0) hx hb dX8_makeTable_99 (by decide) ?_
                refine lv_istore (lv' := [(5, .int 0), (4, .int r_10), (6, .int r_7), (0, .ref (ad 0)), (1, .int x0), (2, .int x1), (3, .int x2)]) hx hb dX8_makeTable_100 hl (by decide) rfl (fun ls hl => ?_)
                refine lv_goto (tgt := 137) hx hb dX8_makeTable_102 (by decide) ?_
                refine lv_goto (tgt := 36) hx hb dX8_makeTable_137 (by decide) ?_
                have zn_r_10 : (r_10.toNatClampNeg : Int) = r_10.toInt := t_nn (by omega)
                exact ih_4 r_10 0 v_7 _ _ (by omega) (by omega) (by omega) (by omega) ((mt_f (s := v 1) (B := (158 + 25 * x0.toNatClampNeg)) (sd := x1) (h := u4 7) (h' := v_7 7) (t := y4_4) (t' := r_10) (f := y4_5) (f' := (0 : Int32)) (r := r_7) ⟨by omega, by omega⟩ ⟨by omega, by omega⟩ ⟨by omega, by omega⟩ (by omega) ⟨by omega, by omega⟩ he_8 (by rw [hr9.2.1]) (fun i h1 h2 q => hg_11 i (by omega) h2 ((oo i).mp q)) hi4_0).1) (by omega) (MI_up (T := y4_4.toNatClampNeg) (U := r_10.toNatClampNeg) (r := r_7.toInt) (by omega) (by omega) hi4_2 ⟨⟨by omega, by omega⟩, by omega, by omega⟩ (by rw [show ((x2.toNatClampNeg : Nat) : Int) = x2.toInt from by omega]; exact hr9.2.2.1) (by rw [show ((x2.toNatClampNeg : Nat) : Int) = x2.toInt from by omega]; exact hr9.2.2.2) he_8 (by rw [hr9.2.1]) (by omega) (by omega) (by omega) (fun i h1 h2 => hg_11 i (by omega) (by omega)) (fun h => ⟨hq_11 (by omega), by omega⟩)) (by have z1 := (mt_f (s := v 1) (B := (158 + 25 * x0.toNatClampNeg)) (sd := x1) (h := u4 7) (h' := v_7 7) (t := y4_4) (t' := r_10) (f := y4_5) (f' := (0 : Int32)) (r := r_7) ⟨by omega, by omega⟩ ⟨by omega, by omega⟩ ⟨by omega, by omega⟩ (by omega) ⟨by omega, by omega⟩ he_8 (by rw [hr9.2.1]) (fun i h1 h2 q => hg_11 i (by omega) h2 ((oo i).mp q)) hi4_0).2; omega) hv hfr hP hD hS ls (lv_sub hl [0, 1, 3, 4, 5, 6] rfl)
              · have tc_12 : r_10.toInt < x2.toInt := Int32.lt_iff_toInt_lt.mp (Int32.not_le.mp c_12)
                refine lv_aload_n hx hb dX8_makeTable_83 rfl (lv_at hl 3 rfl) ?_
                refine va_get (D := (dC, dI)) (ci := 8) (v := .ref (ad 1)) (C := RX8) (T := TX8) (N := 11) hx hb hts iwX8_makeTable_X8 hown hK hP (0) (wm_at (by decide) rc_0) rfl 0 (by decide) (hts (.fieldLink RX8 7 "QuietStairsModel" "s" "[I") fwX8_makeTable_1) (fun _ h9 => h9) rfl dX8_makeTable_84 ?_
                refine lv_iload_n hx hb dX8_makeTable_87 rfl (lv_at hl 4 rfl) ?_
                refine lv_iload hx hb dX8_makeTable_88 (lv_at hl 0 rfl) ?_
                refine yc_p hP hS (va_runS (As := [.int x0, .int r_10]) (rest := [.ref (ad 1)]) ⟨hx, hb, hml, hown, hts⟩ (c_X8_termAt l x0 r_10) (cwS 2 hts gX8_makeTable_X8_termAt rfl rfl rfl hd_S_X8_termAt_2 ⟨Nat.le_of_ble_eq_true rfl, Nat.le_of_ble_eq_true rfl⟩) ex_preP rfl rfl hl.1 rfl (lv_room (Nat.le_of_ble_eq_true rfl)) dX8_makeTable_90 ⟨Nat.le_of_ble_eq_true rfl, Nat.le_of_ble_eq_true rfl⟩) (fun r_13 H locs hw_13 hP hS => ?_)
                have tr_13 : r_13.toInt = 158 + 25 * x0.toInt + 5 * r_10.toInt := t_tm hw_13 ⟨by omega, by omega⟩ ⟨by omega, by omega⟩
                refine lv_iconst (v := 3) hx hb dX8_makeTable_93 (by decide) ?_
                refine lv_iadd hx hb dX8_makeTable_94 ?_
                refine lv_topi (fun x_14 ex_14 => ?_)
                have k_3 : (3 : Int32).toInt = 3 := by decide
                have tx_14 : x_14.toInt = r_13.toInt + (3 : Int32).toInt := by rw [ex_14]; exact t_add ⟨by omega, by omega⟩
                have zn_r_10 : (r_10.toNatClampNeg : Int) = r_10.toInt := t_nn (by omega)
                have nx_14 : x_14.toNatClampNeg = 161 + 25 * x0.toNatClampNeg + 5 * r_10.toNatClampNeg := by have z1 := t_nn (x := x_14) (by omega); omega
                refine va_iald hx hb hK hP (1) 0 (wm_at (by decide) rc_1) rfl (vp_in_iff.mpr ⟨by omega, by omega⟩) dX8_makeTable_95 ?_
                refine lv_topi (fun x_15 ex_15 => ?_)
                have bzx_15 : 0 ≤ x_15.toInt ∧ x_15.toInt ≤ 23 := by rw [ex_15]; exact hv 1 _ 23 (bx_t3 (i := 5 * x0.toInt + r_10.toInt) (s := 3) (by omega) ⟨by omega, by omega⟩ (by omega))
                rw [nx_14] at ex_15
                rw [hf_7.1] at ex_15
                have qx_15 : x_15.toInt = (u4 1 (161 + 25 * x0.toNatClampNeg + 5 * r_10.toNatClampNeg)).toInt := congrArg Int32.toInt ex_15
                have h3_x_15 : x_15.toInt = DD r_10.toNatClampNeg 3 := by rw [eDD]; exact congrArg Int32.toInt (ex_15.trans (congrFun hfv9.1 _))
                refine lv_goto (tgt := 100) hx hb dX8_makeTable_96 (by decide) ?_
                refine lv_istore (lv' := [(5, .int x_15), (4, .int r_10), (6, .int r_7), (0, .ref (ad 0)), (1, .int x0), (2, .int x1), (3, .int x2)]) hx hb dX8_makeTable_100 hl (by decide) rfl (fun ls hl => ?_)
                refine lv_goto (tgt := 137) hx hb dX8_makeTable_102 (by decide) ?_
                refine lv_goto (tgt := 36) hx hb dX8_makeTable_137 (by decide) ?_
                exact ih_4 r_10 x_15 v_7 _ _ (by omega) (by omega) (by omega) (by omega) ((mt_f (s := v 1) (B := (158 + 25 * x0.toNatClampNeg)) (sd := x1) (h := u4 7) (h' := v_7 7) (t := y4_4) (t' := r_10) (f := y4_5) (f' := x_15) (r := r_7) ⟨by omega, by omega⟩ ⟨by omega, by omega⟩ ⟨by omega, by omega⟩ (by omega) ⟨by omega, by omega⟩ he_8 (by rw [hr9.2.1]) (fun i h1 h2 q => hg_11 i (by omega) h2 ((oo i).mp q)) hi4_0).1) (by omega) (MI_up (T := y4_4.toNatClampNeg) (U := r_10.toNatClampNeg) (r := r_7.toInt) (by omega) (by omega) hi4_2 ⟨⟨by omega, by omega⟩, by omega, by omega⟩ (by rw [show ((x2.toNatClampNeg : Nat) : Int) = x2.toInt from by omega]; exact hr9.2.2.1) (by rw [show ((x2.toNatClampNeg : Nat) : Int) = x2.toInt from by omega]; exact hr9.2.2.2) he_8 (by rw [hr9.2.1]) (by omega) (by omega) (by omega) (fun i h1 h2 => hg_11 i (by omega) (by omega)) (fun h => ⟨hq_11 (by omega), by omega⟩)) (by have z1 := (mt_f (s := v 1) (B := (158 + 25 * x0.toNatClampNeg)) (sd := x1) (h := u4 7) (h' := v_7 7) (t := y4_4) (t' := r_10) (f := y4_5) (f' := x_15) (r := r_7) ⟨by omega, by omega⟩ ⟨by omega, by omega⟩ ⟨by omega, by omega⟩ (by omega) ⟨by omega, by omega⟩ he_8 (by rw [hr9.2.1]) (fun i h1 h2 q => hg_11 i (by omega) h2 ((oo i).mp q)) hi4_0).2; omega) hv hfr hP hD hS ls (lv_sub hl [0, 1, 3, 4, 5, 6] rfl)
    have k_0 : (0 : Int32).toInt = 0 := by decide
    have zn_r_1 : (r_1.toNatClampNeg : Int) = r_1.toInt := t_nn (by omega)
    exact hc_4 ((mt (dg (v 1) (158 + 25 * x0.toNatClampNeg) x1 (v 7)) r_1.toInt (0 : Int32).toInt).toNat + 1) r_1 0 v _ _ (by omega) (by omega) (by omega) (by omega) (fun i h1 h2 => absurd ((oo i).mp h2) (hg_2 i (by omega) h1)) (by omega) (MI_0 (T := r_1.toNatClampNeg) (by omega) (by omega) (fun i h => hg_2 i (by omega) (by omega)) (fun h => ⟨hq_2 (by omega), by omega⟩)) (by omega) hv hfr hP hD hS ls (lv_sub hl [0, 1, 2, 3, 4, 5] rfl)
  · have tc_3 : r_1.toInt < x2.toInt := Int32.lt_iff_toInt_lt.mp (Int32.not_le.mp c_3)
    refine lv_aload_n hx hb dX8_makeTable_17 rfl (lv_at hl 1 rfl) ?_
    refine va_get (D := (dC, dI)) (ci := 8) (v := .ref (ad 1)) (C := RX8) (T := TX8) (N := 11) hx hb hts iwX8_makeTable_X8 hown hK hP (0) (wm_at (by decide) rc_0) rfl 0 (by decide) (hts (.fieldLink RX8 7 "QuietStairsModel" "s" "[I") fwX8_makeTable_1) (fun _ h9 => h9) rfl dX8_makeTable_18 ?_
    refine lv_iload_n hx hb dX8_makeTable_21 rfl (lv_at hl 2 rfl) ?_
    refine lv_iload hx hb dX8_makeTable_22 (lv_at hl 0 rfl) ?_
    refine yc_p hP hS (va_runS (As := [.int x0, .int r_1]) (rest := [.ref (ad 1)]) ⟨hx, hb, hml, hown, hts⟩ (c_X8_termAt l x0 r_1) (cwS 2 hts gX8_makeTable_X8_termAt rfl rfl rfl hd_S_X8_termAt_2 ⟨Nat.le_of_ble_eq_true rfl, Nat.le_of_ble_eq_true rfl⟩) ex_preP rfl rfl hl.1 rfl (lv_room (Nat.le_of_ble_eq_true rfl)) dX8_makeTable_24 ⟨Nat.le_of_ble_eq_true rfl, Nat.le_of_ble_eq_true rfl⟩) (fun r_4 H locs hw_4 hP hS => ?_)
    have tr_4 : r_4.toInt = 158 + 25 * x0.toInt + 5 * r_1.toInt := t_tm hw_4 ⟨by omega, by omega⟩ ⟨by omega, by omega⟩
    refine lv_iconst (v := 3) hx hb dX8_makeTable_27 (by decide) ?_
    refine lv_iadd hx hb dX8_makeTable_28 ?_
    refine lv_topi (fun x_5 ex_5 => ?_)
    have k_3 : (3 : Int32).toInt = 3 := by decide
    have tx_5 : x_5.toInt = r_4.toInt + (3 : Int32).toInt := by rw [ex_5]; exact t_add ⟨by omega, by omega⟩
    have zn_r_1 : (r_1.toNatClampNeg : Int) = r_1.toInt := t_nn (by omega)
    have nx_5 : x_5.toNatClampNeg = 161 + 25 * x0.toNatClampNeg + 5 * r_1.toNatClampNeg := by have z1 := t_nn (x := x_5) (by omega); omega
    refine va_iald hx hb hK hP (1) 0 (wm_at (by decide) rc_1) rfl (vp_in_iff.mpr ⟨by omega, by omega⟩) dX8_makeTable_29 ?_
    refine lv_topi (fun x_6 ex_6 => ?_)
    have bzx_6 : 0 ≤ x_6.toInt ∧ x_6.toInt ≤ 23 := by rw [ex_6]; exact hv 1 _ 23 (bx_t3 (i := 5 * x0.toInt + r_1.toInt) (s := 3) (by omega) ⟨by omega, by omega⟩ (by omega))
    rw [nx_5] at ex_6
    have qx_6 : x_6.toInt = (v 1 (161 + 25 * x0.toNatClampNeg + 5 * r_1.toNatClampNeg)).toInt := congrArg Int32.toInt ex_6
    have h3_x_6 : x_6.toInt = DD r_1.toNatClampNeg 3 := by rw [eDD]; exact congrArg Int32.toInt ex_6
    refine lv_goto (tgt := 34) hx hb dX8_makeTable_30 (by decide) ?_
    refine lv_istore (lv' := [(5, .int x_6), (4, .int r_1), (0, .ref (ad 0)), (1, .int x0), (2, .int x1), (3, .int x2)]) hx hb dX8_makeTable_34 hl (by decide) rfl (fun ls hl => ?_)
    have hc_7 : ∀ (n : Nat) (y7_4 y7_5 : Int32) (u7 : Nat → Nat → Int32) (H : Heap) (locs : List Loc), -1 ≤ y7_4.toInt → y7_4.toInt ≤ 5 → 0 ≤ y7_5.toInt → y7_5.toInt ≤ 24 → (∀ i : Nat, (i : Int) < y7_4.toInt → ow (v 1) (158 + 25 * x0.toNatClampNeg) x1 i → 0 ≤ (u7 7 i).toInt ∧ (u7 7 i).toInt ≤ 23) → (y7_4.toInt ≤ x2.toInt) → (MI DD x1.toInt x2.toNatClampNeg y7_4.toInt y7_5.toInt (u7 7)) → (mt (dg (v 1) (158 + 25 * x0.toNatClampNeg) x1 (u7 7)) y7_4.toInt y7_5.toInt).toNat < n → Ir u7 → Fq v u7 → va_P (dC, dI) vwCl (wm ad cy u7) H → va_D A (wm ad cy u7) → va_S A s.heap H locs → ∀ ls : Array Slot, lv_has ls 7 [(5, .int y7_5), (4, .int y7_4), (0, .ref (ad 0)), (1, .int x0), (2, .int x1), (3, .int x2)] → W p l e (headSpec wsX8_makeTable ({ frames := 3, cells := 0, slots := 0, locals := 192 })).room s m [Value.ref (ad 0), Value.int x0, Value.int x1, Value.int x2].toArray below meth c H locs 0 0 (MQ below (va_Qi (fun (r : Int32) (u : Nat → Nat → Int32) => Ir u ∧ Fq v u ∧ ((r = 1 ∧ lmin x2.toNatClampNeg (alw (fun t k => (v 1 (158 + k + 25 * x0.toNatClampNeg + 5 * t)).toInt) x1.toInt x2.toNatClampNeg) (own (fun t k => (v 1 (158 + k + 25 * x0.toNatClampNeg + 5 * t)).toInt) x1.toInt) (fun q => (u 7 q).toNatClampNeg) ∧ ∀ q : Nat, q < x2.toNatClampNeg → own (fun t k => (v 1 (158 + k + 25 * x0.toNatClampNeg + 5 * t)).toInt) x1.toInt q → 0 ≤ (u 7 q).toInt) ∨ (r = 0 ∧ ¬ TB (fun t k => (v 1 (158 + k + 25 * x0.toNatClampNeg + 5 * t)).toInt) x1.toInt x2.toNatClampNeg))) (fun u t => ex_Pst dC dI A (wm ad cy u) t) A) [Value.ref (ad 0), Value.int x0, Value.int x1, Value.int x2].toArray s 0 0 A) (F0 m 36 ls []) := by
      intro n
      induction n with
      | zero =>
        intro y7_4 y7_5 u7 H locs ay7_4 by7_4 ay7_5 by7_5 hi7_0 hi7_1 hi7_2 hm_7 hv hfr hP hD hS ls hl
        exact absurd hm_7 (by omega)
      | succ n ih_7 =>
        intro y7_4 y7_5 u7 H locs ay7_4 by7_4 ay7_5 by7_5 hi7_0 hi7_1 hi7_2 hm_7 hv hfr hP hD hS ls hl
        refine lv_iload hx hb dX8_makeTable_36 (lv_at hl 1 rfl) ?_
        have k_0 : (0 : Int32).toInt = 0 := by decide
        refine lv_if_lt (tgt := 140) hx hb dX8_makeTable_38 (by decide) (fun c_8 => ?_) (fun c_8 => ?_)
        · have tc_8 : y7_4.toInt < (0 : Int32).toInt := Int32.lt_iff_toInt_lt.mp c_8
          refine lv_iload hx hb dX8_makeTable_140 (lv_at hl 1 rfl) ?_
          refine lv_if_lt (tgt := 149) hx hb dX8_makeTable_142 (by decide) (fun c_9 => ?_) (fun c_9 => ?_)
          · have tc_9 : y7_4.toInt < (0 : Int32).toInt := Int32.lt_iff_toInt_lt.mp c_9
            refine lv_iconst (v := 0) hx hb dX8_makeTable_149 (by decide) ?_
            exact W.zret (ty := .boolean) (v := 0) hx hb hr rfl (fun t ht hW => ⟨⟨0, u7, rfl, ⟨hv, hfr, by rw [← eDD]; exact Or.inr ⟨rfl, MI_no hi7_2 (by omega)⟩⟩, by rw [ht]; exact hP, hD⟩, hS.F ht⟩) hS.2.2 dX8_makeTable_150
          · have tc_9 : y7_4.toInt ≥ (0 : Int32).toInt := Int32.le_iff_toInt_le.mp (Int32.not_lt.mp c_9)
            exfalso
            omega
        · have tc_8 : y7_4.toInt ≥ (0 : Int32).toInt := Int32.le_iff_toInt_le.mp (Int32.not_lt.mp c_8)
          refine lv_iload hx hb dX8_makeTable_41 (lv_at hl 1 rfl) ?_
          refine lv_iload_n hx hb dX8_makeTable_43 rfl (lv_at hl 5 rfl) ?_
          refine lv_icmp_ge (tgt := 140) hx hb dX8_makeTable_44 (by decide) (fun c_9 => ?_) (fun c_9 => ?_)
          · have tc_9 : y7_4.toInt ≥ x2.toInt := Int32.le_iff_toInt_le.mp c_9
            refine lv_iload hx hb dX8_makeTable_140 (lv_at hl 1 rfl) ?_
            refine lv_if_lt (tgt := 149) hx hb dX8_makeTable_142 (by decide) (fun c_10 => ?_) (fun c_10 => ?_)
            · have tc_10 : y7_4.toInt < (0 : Int32).toInt := Int32.lt_iff_toInt_lt.mp c_10
              exfalso
              omega
            · have tc_10 : y7_4.toInt ≥ (0 : Int32).toInt := Int32.le_iff_toInt_le.mp (Int32.not_lt.mp c_10)
              refine lv_iconst (v := 1) hx hb dX8_makeTable_145 (by decide) ?_
              refine lv_goto (tgt := 150) hx hb dX8_makeTable_146 (by decide) ?_
              exact W.zret (ty := .boolean) (v := 1) hx hb hr rfl (fun t ht hW => ⟨⟨1, u7, rfl, ⟨hv, hfr, by rw [← eDD]; exact Or.inl ⟨rfl, MI_yes hi7_2 (by omega), MI_nn hi7_2 (by omega)⟩⟩, by rw [ht]; exact hP, hD⟩, hS.F ht⟩) hS.2.2 dX8_makeTable_150
          · have tc_9 : y7_4.toInt < x2.toInt := Int32.lt_iff_toInt_lt.mp (Int32.not_le.mp c_9)
            have hfv9 := hfr
            refine lv_aload_n hx hb dX8_makeTable_47 rfl (lv_at hl 2 rfl) ?_
            refine lv_iload_n hx hb dX8_makeTable_48 rfl (lv_at hl 3 rfl) ?_
            refine lv_iload_n hx hb dX8_makeTable_49 rfl (lv_at hl 4 rfl) ?_
            refine lv_iload hx hb dX8_makeTable_50 (lv_at hl 1 rfl) ?_
            refine lv_iload hx hb dX8_makeTable_52 (lv_at hl 0 rfl) ?_
            refine lv_iload_n hx hb dX8_makeTable_54 rfl (lv_at hl 5 rfl) ?_
            refine yw_i (w1 := fun (u : Nat → Nat → Int32) => wm ad cy u) hD hS hA (va_runV (As := [.int x0, .int x1, .int y7_4, .int y7_5, .int x2]) (rest := []) ⟨hx, hb, hml, hown, hts⟩ (e_X8_hourFrom l dC dI cy _ ad u7 hv x0 x1 y7_4 y7_5 x2 ⟨by omega, by omega⟩ ⟨by omega, by omega⟩ ⟨by omega, by omega⟩ ⟨by omega, by omega⟩ (by omega)) (cwV 5 hts gX8_makeTable_X8_hourFrom rfl rfl rfl hd_V_X8_hourFrom_5 ⟨Nat.le_of_ble_eq_true rfl, Nat.le_of_ble_eq_true rfl⟩) (yw_preV hE hK hP hD (ci := 8) (q := (RX8, TX8, 11)) (q0 := 0) rfl (wm_at (by decide) rc_0)) rfl rfl hl.1 rfl (lv_room (Nat.le_of_ble_eq_true rfl)) dX8_makeTable_55 ⟨Nat.le_of_ble_eq_true rfl, Nat.le_of_ble_eq_true rfl⟩) (fun r_10 v_10 H locs hw_10 hP hD hS => ?_)
            obtain ⟨hv, hf_10, hw_10⟩ := hw_10
            have hfr : Fq v v_10 := hfr.trans hf_10
            have zn_y7_4 : (y7_4.toNatClampNeg : Int) = y7_4.toInt := t_nn (by omega)
            obtain ⟨he_11, hr_11⟩ := hw_10
            rw [show (fun t k => (u7 1 (158 + k + 25 * x0.toNatClampNeg + 5 * t)).toInt) = DD from by rw [eDD, hfv9.1]] at hr_11
            have hb_11 : -1 ≤ r_10.toInt ∧ r_10.toInt ≤ 23 := by have q := (hB9 y7_4.toNatClampNeg (by omega)).2; rcases hr_11 with ⟨q1, -⟩ | ⟨q1, -⟩ <;> omega
            refine lv_istore (lv' := [(6, .int r_10), (5, .int y7_5), (4, .int y7_4), (0, .ref (ad 0)), (1, .int x0), (2, .int x1), (3, .int x2)]) hx hb dX8_makeTable_58 hl (by decide) rfl (fun ls hl => ?_)
            refine lv_iload hx hb dX8_makeTable_60 (lv_at hl 0 rfl) ?_
            refine lv_if_lt (tgt := 105) hx hb dX8_makeTable_62 (by decide) (fun c_12 => ?_) (fun c_12 => ?_)
            · have tc_12 : r_10.toInt < (0 : Int32).toInt := Int32.lt_iff_toInt_lt.mp c_12
              have hr9 : ∀ h : Int, y7_5.toInt ≤ h → h ≤ DD y7_4.toNatClampNeg 4 → ¬ VH DD x1.toInt x2.toInt y7_4.toNatClampNeg (u7 7) h := by rcases hr_11 with ⟨-, q⟩ | ⟨q1, -⟩; exact q; omega
              refine lv_aload_n hx hb dX8_makeTable_105 rfl (lv_at hl 3 rfl) ?_
              refine lv_iload_n hx hb dX8_makeTable_106 rfl (lv_at hl 4 rfl) ?_
              refine lv_iload_n hx hb dX8_makeTable_107 rfl (lv_at hl 5 rfl) ?_
              refine lv_iload hx hb dX8_makeTable_108 (lv_at hl 2 rfl) ?_
              refine lv_iconst (v := (-1)) hx hb dX8_makeTable_110 (by decide) ?_
              refine lv_iload_n hx hb dX8_makeTable_111 rfl (lv_at hl 6 rfl) ?_
              refine yw_i (w1 := fun (u : Nat → Nat → Int32) => wm ad cy u) hD hS hA (va_runV (As := [.int x0, .int x1, .int y7_4, .int (-1), .int x2]) (rest := []) ⟨hx, hb, hml, hown, hts⟩ (e_X8_next_b l dC dI cy _ ad v_10 hv x0 x1 y7_4 x2 ⟨by omega, by omega⟩ ⟨by omega, by omega⟩ ⟨by omega, by omega⟩) (cwV 5 hts gX8_makeTable_X8_next rfl rfl rfl hd_V_X8_next_5 ⟨Nat.le_of_ble_eq_true rfl, Nat.le_of_ble_eq_true rfl⟩) (yw_preV hE hK hP hD (ci := 8) (q := (RX8, TX8, 11)) (q0 := 0) rfl (wm_at (by decide) rc_0)) rfl rfl hl.1 rfl (lv_room (Nat.le_of_ble_eq_true rfl)) dX8_makeTable_112 ⟨Nat.le_of_ble_eq_true rfl, Nat.le_of_ble_eq_true rfl⟩) (fun r_13 v_13 H locs hw_13 hP hD hS => ?_)
              obtain ⟨-, hu_13, hw_13⟩ := hw_13
              replace hu_13 := hu_13.symm
              subst hu_13
              obtain ⟨hn_14, hg_14, hq_14⟩ := hw_13
              rw [show (fun t k => (v_10 1 (158 + k + 25 * x0.toNatClampNeg + 5 * t)).toInt) = DD from by rw [eDD, hfr.1]] at hg_14 hq_14
              refine lv_istore (lv' := [(4, .int r_13), (6, .int r_10), (5, .int y7_5), (0, .ref (ad 0)), (1, .int x0), (2, .int x1), (3, .int x2)]) hx hb dX8_makeTable_115 hl (by decide) rfl (fun ls hl => ?_)
              refine lv_iload hx hb dX8_makeTable_117 (lv_at hl 0 rfl) ?_
              refine lv_if_ge (tgt := 126) hx hb dX8_makeTable_119 (by decide) (fun c_15 => ?_) (fun c_15 => ?_)
              · have tc_15 : r_13.toInt ≥ (0 : Int32).toInt := Int32.le_iff_toInt_le.mp c_15
                refine lv_aload_n hx hb dX8_makeTable_126 rfl (lv_at hl 3 rfl) ?_
                refine va_get (D := (dC, dI)) (ci := 8) (v := .ref (ad 7)) (C := RX8) (T := TX8) (N := 11) hx hb hts iwX8_makeTable_X8 hown hK hP (0) (wm_at (by decide) rc_0) rfl 10 (by decide) (hts (.fieldLink RX8 32 "QuietStairsModel" "hours" "[I") fwX8_makeTable_2) (fun _ h9 => h9) rfl dX8_makeTable_127 ?_
                refine lv_iload hx hb dX8_makeTable_130 (lv_at hl 0 rfl) ?_
                have zn_r_13 : (r_13.toNatClampNeg : Int) = r_13.toInt := t_nn (by omega)
                refine va_iald hx hb hK hP (7) 0 (wm_at (by decide) rc_7) rfl (vp_in_iff.mpr ⟨by omega, by omega⟩) dX8_makeTable_132 ?_
                refine lv_topi (fun x_16 ex_16 => ?_)
                have qx_16 : x_16.toInt = (v_10 7 (r_13.toNatClampNeg)).toInt := congrArg Int32.toInt ex_16
                have bzx_16 : 0 ≤ x_16.toInt ∧ x_16.toInt ≤ 23 := by rw [ex_16, he_11 _ (by omega)]; exact hi7_0 _ (by omega) ((oo _).mpr (hq_14 (by omega)))
                refine lv_iconst (v := 1) hx hb dX8_makeTable_133 (by decide) ?_
                refine lv_iadd hx hb dX8_makeTable_134 ?_
                refine lv_topi (fun x_17 ex_17 => ?_)
                have tx_17 : x_17.toInt = x_16.toInt + (1 : Int32).toInt := by rw [ex_17]; exact t_add ⟨by omega, by omega⟩
                refine lv_istore (lv' := [(5, .int x_17), (4, .int r_13), (6, .int r_10), (0, .ref (ad 0)), (1, .int x0), (2, .int x1), (3, .int x2)]) hx hb dX8_makeTable_135 hl (by decide) rfl (fun ls hl => ?_)
                refine lv_goto (tgt := 36) hx hb dX8_makeTable_137 (by decide) ?_
                exact ih_7 r_13 x_17 v_10 _ _ (by omega) (by omega) (by omega) (by omega) ((mt_b (s := v 1) (B := (158 + 25 * x0.toNatClampNeg)) (sd := x1) (h := u7 7) (h' := v_10 7) (t := y7_4) (t' := r_13) (f := y7_5) (f' := x_17) ⟨by omega, by omega⟩ ⟨by omega, by omega⟩ ⟨by omega, by omega⟩ he_11 (fun q => (oo _).mpr (hq_14 q)) (Or.inr ⟨by omega, by rw [← ex_16]; omega⟩) hi7_0).1) (by omega) (MI_dn (T := y7_4.toNatClampNeg) (by omega) (by omega) hi7_2 (hB9 _ (by omega)).2 (by rw [show ((x2.toNatClampNeg : Nat) : Int) = x2.toInt from by omega]; exact hr9) he_11 ⟨by omega, by omega⟩ (fun i h1 h2 => hg_14 i (by omega) (by omega)) (fun U hU => ⟨by rw [show U = r_13.toNatClampNeg from by have z9 := t_nn (x := r_13) (by omega); omega]; exact hq_14 (by omega), by have q9 := ex_16; rw [show U = r_13.toNatClampNeg from by omega, ← q9]; omega⟩)) (by have z1 := (mt_b (s := v 1) (B := (158 + 25 * x0.toNatClampNeg)) (sd := x1) (h := u7 7) (h' := v_10 7) (t := y7_4) (t' := r_13) (f := y7_5) (f' := x_17) ⟨by omega, by omega⟩ ⟨by omega, by omega⟩ ⟨by omega, by omega⟩ he_11 (fun q => (oo _).mpr (hq_14 q)) (Or.inr ⟨by omega, by rw [← ex_16]; omega⟩) hi7_0).2; omega) hv hfr hP hD hS ls (lv_sub hl [0, 1, 3, 4, 5, 6] rfl)
              · have tc_15 : r_13.toInt < (0 : Int32).toInt := Int32.lt_iff_toInt_lt.mp (Int32.not_le.mp c_15)
                refine lv_iconst (v := 0) hx hb dX8_makeTable_122 (by decide) ?_
                refine lv_goto (tgt := 135) hx hb dX8_makeTable_123 (by decide) ?_
                refine lv_istore (lv' := [(5, .int 0), (4, .int r_13), (6, .int r_10), (0, .ref (ad 0)), (1, .int x0), (2, .int x1), (3, .int x2)]) hx hb dX8_makeTable_135 hl (by decide) rfl (fun ls hl => ?_)
                refine lv_goto (tgt := 36) hx hb dX8_makeTable_137 (by decide) ?_
                exact ih_7 r_13 0 v_10 _ _ (by omega) (by omega) (by omega) (by omega) ((mt_b (s := v 1) (B := (158 + 25 * x0.toNatClampNeg)) (sd := x1) (h := u7 7) (h' := v_10 7) (t := y7_4) (t' := r_13) (f := y7_5) (f' := (0 : Int32)) ⟨by omega, by omega⟩ ⟨by omega, by omega⟩ ⟨by omega, by omega⟩ he_11 (fun q => (oo _).mpr (hq_14 q)) (Or.inl ⟨by omega, by omega⟩) hi7_0).1) (by omega) (MI_dn (T := y7_4.toNatClampNeg) (by omega) (by omega) hi7_2 (hB9 _ (by omega)).2 (by rw [show ((x2.toNatClampNeg : Nat) : Int) = x2.toInt from by omega]; exact hr9) he_11 ⟨by omega, by omega⟩ (fun i h1 h2 => hg_14 i (by omega) (by omega)) (fun U hU => ⟨by rw [show U = r_13.toNatClampNeg from by have z9 := t_nn (x := r_13) (by omega); omega]; exact hq_14 (by omega), by omega⟩)) (by have z1 := (mt_b (s := v 1) (B := (158 + 25 * x0.toNatClampNeg)) (sd := x1) (h := u7 7) (h' := v_10 7) (t := y7_4) (t' := r_13) (f := y7_5) (f' := (0 : Int32)) ⟨by omega, by omega⟩ ⟨by omega, by omega⟩ ⟨by omega, by omega⟩ he_11 (fun q => (oo _).mpr (hq_14 q)) (Or.inl ⟨by omega, by omega⟩) hi7_0).2; omega) hv hfr hP hD hS ls (lv_sub hl [0, 1, 3, 4, 5, 6] rfl)
            · have tc_12 : r_10.toInt ≥ (0 : Int32).toInt := Int32.le_iff_toInt_le.mp (Int32.not_lt.mp c_12)
              have hr9 : ((y7_5.toInt ≤ r_10.toInt ∧ r_10.toInt ≤ DD y7_4.toNatClampNeg 4) ∧ v_10 7 y7_4.toNatClampNeg = r_10 ∧ VH DD x1.toInt x2.toInt y7_4.toNatClampNeg (u7 7) r_10.toInt ∧ ∀ h : Int, y7_5.toInt ≤ h → h < r_10.toInt → ¬ VH DD x1.toInt x2.toInt y7_4.toNatClampNeg (u7 7) h) := by rcases hr_11 with ⟨q1, -⟩ | q; omega; exact q
              refine lv_aload_n hx hb dX8_makeTable_65 rfl (lv_at hl 3 rfl) ?_
              refine lv_iload_n hx hb dX8_makeTable_66 rfl (lv_at hl 4 rfl) ?_
              refine lv_iload_n hx hb dX8_makeTable_67 rfl (lv_at hl 5 rfl) ?_
              refine lv_iload hx hb dX8_makeTable_68 (lv_at hl 2 rfl) ?_
              refine lv_iconst (v := 1) hx hb dX8_makeTable_70 (by decide) ?_
              refine lv_iload_n hx hb dX8_makeTable_71 rfl (lv_at hl 6 rfl) ?_
              refine yw_i (w1 := fun (u : Nat → Nat → Int32) => wm ad cy u) hD hS hA (va_runV (As := [.int x0, .int x1, .int y7_4, .int 1, .int x2]) (rest := []) ⟨hx, hb, hml, hown, hts⟩ (e_X8_next_f l dC dI cy _ ad v_10 hv x0 x1 y7_4 x2 ⟨by omega, by omega⟩ ⟨by omega, by omega⟩ ⟨by omega, by omega⟩) (cwV 5 hts gX8_makeTable_X8_next rfl rfl rfl hd_V_X8_next_5 ⟨Nat.le_of_ble_eq_true rfl, Nat.le_of_ble_eq_true rfl⟩) (yw_preV hE hK hP hD (ci := 8) (q := (RX8, TX8, 11)) (q0 := 0) rfl (wm_at (by decide) rc_0)) rfl rfl hl.1 rfl (lv_room (Nat.le_of_ble_eq_true rfl)) dX8_makeTable_72 ⟨Nat.le_of_ble_eq_true rfl, Nat.le_of_ble_eq_true rfl⟩) (fun r_13 v_13 H locs hw_13 hP hD hS => ?_)
              obtain ⟨-, hu_13, hw_13⟩ := hw_13
              replace hu_13 := hu_13.symm
              subst hu_13
              obtain ⟨hn_14, hg_14, hq_14⟩ := hw_13
              rw [show (fun t k => (v_10 1 (158 + k + 25 * x0.toNatClampNeg + 5 * t)).toInt) = DD from by rw [eDD, hfr.1]] at hg_14 hq_14
              refine lv_istore (lv' := [(4, .int r_13), (6, .int r_10), (5, .int y7_5), (0, .ref (ad 0)), (1, .int x0), (2, .int x1), (3, .int x2)]) hx hb dX8_makeTable_75 hl (by decide) rfl (fun ls hl => ?_)
              refine lv_iload hx hb dX8_makeTable_77 (lv_at hl 0 rfl) ?_
              refine lv_iload_n hx hb dX8_makeTable_79 rfl (lv_at hl 6 rfl) ?_
              refine lv_icmp_ge (tgt := 99) hx hb dX8_makeTable_80 (by decide) (fun c_15 => ?_) (fun c_15 => ?_)
              · have tc_15 : r_13.toInt ≥ x2.toInt := Int32.le_iff_toInt_le.mp c_15
                refine lv_iconst (v := 0) hx hb dX8_makeTable_99 (by decide) ?_
                refine lv_istore (lv' := [(5, .int 0), (4, .int r_13), (6, .int r_10), (0, .ref (ad 0)), (1, .int x0), (2, .int x1), (3, .int x2)]) hx hb dX8_makeTable_100 hl (by decide) rfl (fun ls hl => ?_)
                refine lv_goto (tgt := 137) hx hb dX8_makeTable_102 (by decide) ?_
                refine lv_goto (tgt := 36) hx hb dX8_makeTable_137 (by decide) ?_
                have zn_r_13 : (r_13.toNatClampNeg : Int) = r_13.toInt := t_nn (by omega)
                exact ih_7 r_13 0 v_10 _ _ (by omega) (by omega) (by omega) (by omega) ((mt_f (s := v 1) (B := (158 + 25 * x0.toNatClampNeg)) (sd := x1) (h := u7 7) (h' := v_10 7) (t := y7_4) (t' := r_13) (f := y7_5) (f' := (0 : Int32)) (r := r_10) ⟨by omega, by omega⟩ ⟨by omega, by omega⟩ ⟨by omega, by omega⟩ (by omega) ⟨by omega, by omega⟩ he_11 (by rw [hr9.2.1]) (fun i h1 h2 q => hg_14 i (by omega) h2 ((oo i).mp q)) hi7_0).1) (by omega) (MI_up (T := y7_4.toNatClampNeg) (U := r_13.toNatClampNeg) (r := r_10.toInt) (by omega) (by omega) hi7_2 ⟨⟨by omega, by omega⟩, by omega, by omega⟩ (by rw [show ((x2.toNatClampNeg : Nat) : Int) = x2.toInt from by omega]; exact hr9.2.2.1) (by rw [show ((x2.toNatClampNeg : Nat) : Int) = x2.toInt from by omega]; exact hr9.2.2.2) he_11 (by rw [hr9.2.1]) (by omega) (by omega) (by omega) (fun i h1 h2 => hg_14 i (by omega) (by omega)) (fun h => ⟨hq_14 (by omega), by omega⟩)) (by have z1 := (mt_f (s := v 1) (B := (158 + 25 * x0.toNatClampNeg)) (sd := x1) (h := u7 7) (h' := v_10 7) (t := y7_4) (t' := r_13) (f := y7_5) (f' := (0 : Int32)) (r := r_10) ⟨by omega, by omega⟩ ⟨by omega, by omega⟩ ⟨by omega, by omega⟩ (by omega) ⟨by omega, by omega⟩ he_11 (by rw [hr9.2.1]) (fun i h1 h2 q => hg_14 i (by omega) h2 ((oo i).mp q)) hi7_0).2; omega) hv hfr hP hD hS ls (lv_sub hl [0, 1, 3, 4, 5, 6] rfl)
              · have tc_15 : r_13.toInt < x2.toInt := Int32.lt_iff_toInt_lt.mp (Int32.not_le.mp c_15)
                refine lv_aload_n hx hb dX8_makeTable_83 rfl (lv_at hl 3 rfl) ?_
                refine va_get (D := (dC, dI)) (ci := 8) (v := .ref (ad 1)) (C := RX8) (T := TX8) (N := 11) hx hb hts iwX8_makeTable_X8 hown hK hP (0) (wm_at (by decide) rc_0) rfl 0 (by decide) (hts (.fieldLink RX8 7 "QuietStairsModel" "s" "[I") fwX8_makeTable_1) (fun _ h9 => h9) rfl dX8_makeTable_84 ?_
                refine lv_iload_n hx hb dX8_makeTable_87 rfl (lv_at hl 4 rfl) ?_
                refine lv_iload hx hb dX8_makeTable_88 (lv_at hl 0 rfl) ?_
                refine yc_p hP hS (va_runS (As := [.int x0, .int r_13]) (rest := [.ref (ad 1)]) ⟨hx, hb, hml, hown, hts⟩ (c_X8_termAt l x0 r_13) (cwS 2 hts gX8_makeTable_X8_termAt rfl rfl rfl hd_S_X8_termAt_2 ⟨Nat.le_of_ble_eq_true rfl, Nat.le_of_ble_eq_true rfl⟩) ex_preP rfl rfl hl.1 rfl (lv_room (Nat.le_of_ble_eq_true rfl)) dX8_makeTable_90 ⟨Nat.le_of_ble_eq_true rfl, Nat.le_of_ble_eq_true rfl⟩) (fun r_16 H locs hw_16 hP hS => ?_)
                have tr_16 : r_16.toInt = 158 + 25 * x0.toInt + 5 * r_13.toInt := t_tm hw_16 ⟨by omega, by omega⟩ ⟨by omega, by omega⟩
                refine lv_iconst (v := 3) hx hb dX8_makeTable_93 (by decide) ?_
                refine lv_iadd hx hb dX8_makeTable_94 ?_
                refine lv_topi (fun x_17 ex_17 => ?_)
                have tx_17 : x_17.toInt = r_16.toInt + (3 : Int32).toInt := by rw [ex_17]; exact t_add ⟨by omega, by omega⟩
                have zn_r_13 : (r_13.toNatClampNeg : Int) = r_13.toInt := t_nn (by omega)
                have nx_17 : x_17.toNatClampNeg = 161 + 25 * x0.toNatClampNeg + 5 * r_13.toNatClampNeg := by have z1 := t_nn (x := x_17) (by omega); omega
                refine va_iald hx hb hK hP (1) 0 (wm_at (by decide) rc_1) rfl (vp_in_iff.mpr ⟨by omega, by omega⟩) dX8_makeTable_95 ?_
                refine lv_topi (fun x_18 ex_18 => ?_)
                have bzx_18 : 0 ≤ x_18.toInt ∧ x_18.toInt ≤ 23 := by rw [ex_18]; exact hv 1 _ 23 (bx_t3 (i := 5 * x0.toInt + r_13.toInt) (s := 3) (by omega) ⟨by omega, by omega⟩ (by omega))
                rw [nx_17] at ex_18
                rw [hf_10.1] at ex_18
                have qx_18 : x_18.toInt = (u7 1 (161 + 25 * x0.toNatClampNeg + 5 * r_13.toNatClampNeg)).toInt := congrArg Int32.toInt ex_18
                have h3_x_18 : x_18.toInt = DD r_13.toNatClampNeg 3 := by rw [eDD]; exact congrArg Int32.toInt (ex_18.trans (congrFun hfv9.1 _))
                refine lv_goto (tgt := 100) hx hb dX8_makeTable_96 (by decide) ?_
                refine lv_istore (lv' := [(5, .int x_18), (4, .int r_13), (6, .int r_10), (0, .ref (ad 0)), (1, .int x0), (2, .int x1), (3, .int x2)]) hx hb dX8_makeTable_100 hl (by decide) rfl (fun ls hl => ?_)
                refine lv_goto (tgt := 137) hx hb dX8_makeTable_102 (by decide) ?_
                refine lv_goto (tgt := 36) hx hb dX8_makeTable_137 (by decide) ?_
                exact ih_7 r_13 x_18 v_10 _ _ (by omega) (by omega) (by omega) (by omega) ((mt_f (s := v 1) (B := (158 + 25 * x0.toNatClampNeg)) (sd := x1) (h := u7 7) (h' := v_10 7) (t := y7_4) (t' := r_13) (f := y7_5) (f' := x_18) (r := r_10) ⟨by omega, by omega⟩ ⟨by omega, by omega⟩ ⟨by omega, by omega⟩ (by omega) ⟨by omega, by omega⟩ he_11 (by rw [hr9.2.1]) (fun i h1 h2 q => hg_14 i (by omega) h2 ((oo i).mp q)) hi7_0).1) (by omega) (MI_up (T := y7_4.toNatClampNeg) (U := r_13.toNatClampNeg) (r := r_10.toInt) (by omega) (by omega) hi7_2 ⟨⟨by omega, by omega⟩, by omega, by omega⟩ (by rw [show ((x2.toNatClampNeg : Nat) : Int) = x2.toInt from by omega]; exact hr9.2.2.1) (by rw [show ((x2.toNatClampNeg : Nat) : Int) = x2.toInt from by omega]; exact hr9.2.2.2) he_11 (by rw [hr9.2.1]) (by omega) (by omega) (by omega) (fun i h1 h2 => hg_14 i (by omega) (by omega)) (fun h => ⟨hq_14 (by omega), by omega⟩)) (by have z1 := (mt_f (s := v 1) (B := (158 + 25 * x0.toNatClampNeg)) (sd := x1) (h := u7 7) (h' := v_10 7) (t := y7_4) (t' := r_13) (f := y7_5) (f' := x_18) (r := r_10) ⟨by omega, by omega⟩ ⟨by omega, by omega⟩ ⟨by omega, by omega⟩ (by omega) ⟨by omega, by omega⟩ he_11 (by rw [hr9.2.1]) (fun i h1 h2 q => hg_14 i (by omega) h2 ((oo i).mp q)) hi7_0).2; omega) hv hfr hP hD hS ls (lv_sub hl [0, 1, 3, 4, 5, 6] rfl)
    exact hc_7 ((mt (dg (v 1) (158 + 25 * x0.toNatClampNeg) x1 (v 7)) r_1.toInt x_6.toInt).toNat + 1) r_1 x_6 v _ _ (by omega) (by omega) (by omega) (by omega) (fun i h1 h2 => absurd ((oo i).mp h2) (hg_2 i (by omega) h1)) (by omega) (MI_0 (T := r_1.toNatClampNeg) (by omega) (by omega) (fun i h => hg_2 i (by omega) (by omega)) (fun h => ⟨hq_2 (by omega), by omega⟩)) (by omega) hv hfr hP hD hS ls (lv_sub hl [0, 1, 2, 3, 4, 5] rfl)

set_option maxHeartbeats 4000000 in
set_option maxRecDepth 100000 in
theorem e_X8_canHold (l : Launch) (dC : Nat → ClassId) (dI : Nat → Nat → Nat) (cy : Nat → ClassId) (sz : Nat) (ad : Nat → Nat) (v : Nat → Nat → Int32) (hv : Ir v) (x0 x1 : Int32) : Met l yX8_canHold wsX8_canHold ({ frames := 4, cells := 0, slots := 0, locals := 256 }) (va_Pc [.ref (ad 0), .int x0, .int x1] (ex_Pre dC dI cy sz (wm ad cy v))) (va_Qi (fun (r : Int32) (u : Nat → Nat → Int32) => Ir u ∧ (¬ ((0 ≤ x0.toInt ∧ x0.toInt < (v 1 2).toInt) ∧ 0 ≤ x1.toInt ∧ x1.toInt ≤ 1) → (r = -1) ∧ Fq v u) ∧ (((0 ≤ x0.toInt ∧ x0.toInt < (v 1 2).toInt) ∧ 0 ≤ x1.toInt ∧ x1.toInt ≤ 1) ∧ TB (fun t k => (v 1 (158 + k + 25 * x0.toNatClampNeg + 5 * t)).toInt) x1.toInt (v 1 (38 + 7 * x0.toNatClampNeg)).toNatClampNeg → (r = 1) ∧ Fq v u) ∧ (((0 ≤ x0.toInt ∧ x0.toInt < (v 1 2).toInt) ∧ 0 ≤ x1.toInt ∧ x1.toInt ≤ 1) ∧ ¬ TB (fun t k => (v 1 (158 + k + 25 * x0.toNatClampNeg + 5 * t)).toInt) x1.toInt (v 1 (38 + 7 * x0.toNatClampNeg)).toNatClampNeg → (r = 0) ∧ Fq v u)) (fun u t => ex_Pst dC dI (va_A (wm ad cy v) sz) (wm ad cy u) t) (va_A (wm ad cy v) sz)) 0 0 (va_A (wm ad cy v) sz) := by
  refine Met.ofW (cc := cX8_canHold) (maxL := 3) (ret := (some .int)) (by decide) rfl ?_
  intro p e s m args below meth c s₁ B hml hv
  obtain ⟨rfl, hsz, hE, hP, hK, hD0⟩ := hv
  have hx := B.exec
  have hb := B.bytes
  have hr := B.returns
  have hts := atoms_spec (ws := wsX8_canHold) B.pre
  have hown : s.vm.findClass RX8 = some m.cls := findClass_of_methodNamed B.named
  have hlocks := B.notSynchronized
  subst hsz
  have hD := hD0.self (sz := s.heap.size)
  generalize hAe : va_A (wm ad cy v) s.heap.size = A at hD ⊢
  have hA : ∀ q : Nat, s.heap.size ≤ q → A q := fun q h => by rw [← hAe]; exact Or.inr h
  have hS : va_S A s.heap s.heap [] := va_S.rf
  have hP : va_P (dC, dI) vwCl (wm ad cy v) s.heap := hP
  have hl := lv_entry ([.ref (ad 0), .int x0, .int x1]) (n := 3) (Nat.le_of_ble_eq_true rfl)
  rw [lg_entry_eq]
  generalize (lg_sl ([.ref (ad 0), .int x0, .int x1]) ++ List.replicate (3 - (lg_sl ([.ref (ad 0), .int x0, .int x1])).length) Slot.unset).toArray = ls at hl ⊢
  have hl : lv_has ls 3 [(0, .ref (ad 0)), (1, .int x0), (2, .int x1)] := hl
  obtain ⟨DD, eDD⟩ : ∃ f : Nat → Nat → Int, f = fun t k => (v 1 (158 + k + 25 * x0.toNatClampNeg + 5 * t)).toInt := ⟨_, rfl⟩
  refine lv_aload_n hx hb dX8_canHold_0 rfl (lv_at hl 0 rfl) ?_
  refine lv_iload_n hx hb dX8_canHold_1 rfl (lv_at hl 1 rfl) ?_
  refine yw_i (w1 := fun (u : Nat → Nat → Int32) => wm ad cy u) hD hS hA (va_runV (As := [.int x0]) (rest := []) ⟨hx, hb, hml, hown, hts⟩ (q_X8_isCase l dC dI cy _ ad v hv x0) (cwV 1 hts gX8_canHold_X8_isCase rfl rfl rfl hd_V_X8_isCase_1 ⟨Nat.le_of_ble_eq_true rfl, Nat.le_of_ble_eq_true rfl⟩) (yw_preV hE hK hP hD (ci := 8) (q := (RX8, TX8, 11)) (q0 := 0) rfl (wm_at (by decide) rc_0)) rfl rfl hl.1 rfl (lv_room (Nat.le_of_ble_eq_true rfl)) dX8_canHold_2 ⟨Nat.le_of_ble_eq_true rfl, Nat.le_of_ble_eq_true rfl⟩) (fun r_1 v_1 H locs hw_1 hP hD hS => ?_)
  obtain ⟨-, hu_1, hw_1⟩ := hw_1
  replace hu_1 := hu_1.symm
  subst hu_1
  rcases hw_1 with ⟨rfl, ha_2⟩ | ⟨rfl, ha_2⟩
  · have hb_2 := hv 1 2 6 (by decide)
    have hj_2 : 0 ≤ x0.toInt ∧ x0.toInt ≤ 5 := ⟨by omega, by omega⟩
    refine lv_if_eq (tgt := 15) hx hb dX8_canHold_5 (by decide) (fun c9 => absurd c9 (by decide)) (fun _ => ?_)
    refine lv_iload_n hx hb dX8_canHold_8 rfl (lv_at hl 2 rfl) ?_
    refine yc_p hP hS (va_runS (As := [.int x1]) (rest := []) ⟨hx, hb, hml, hown, hts⟩ (c_X8_isSide l x1) (cwS 1 hts gX8_canHold_X8_isSide rfl rfl rfl hd_S_X8_isSide_1 ⟨Nat.le_of_ble_eq_true rfl, Nat.le_of_ble_eq_true rfl⟩) ex_preP rfl rfl hl.1 rfl (lv_room (Nat.le_of_ble_eq_true rfl)) dX8_canHold_9 ⟨Nat.le_of_ble_eq_true rfl, Nat.le_of_ble_eq_true rfl⟩) (fun r_3 H locs hw_3 hP hS => ?_)
    rcases wi_ca hw_3 with ⟨rfl, hc_4⟩ | ⟨rfl, hc_4⟩
    · have k_0 : (0 : Int32).toInt = 0 := by decide
      have k_1 : (1 : Int32).toInt = 1 := by decide
      have tc_4 := wi_tl hc_4
      refine lv_if_ne (tgt := 17) hx hb dX8_canHold_12 (by decide) (fun _ => ?_) (fun c9 => absurd c9 (by decide))
      refine lv_aload_n hx hb dX8_canHold_17 rfl (lv_at hl 0 rfl) ?_
      refine lv_iload_n hx hb dX8_canHold_18 rfl (lv_at hl 1 rfl) ?_
      refine lv_iload_n hx hb dX8_canHold_19 rfl (lv_at hl 2 rfl) ?_
      refine lv_aload_n hx hb dX8_canHold_20 rfl (lv_at hl 0 rfl) ?_
      refine va_get (D := (dC, dI)) (ci := 8) (v := .ref (ad 1)) (C := RX8) (T := TX8) (N := 11) hx hb hts iwX8_canHold_X8 hown hK hP (0) (wm_at (by decide) rc_0) rfl 0 (by decide) (hts (.fieldLink RX8 7 "QuietStairsModel" "s" "[I") fwX8_canHold_1) (fun _ h9 => h9) rfl dX8_canHold_21 ?_
      refine lv_iload_n hx hb dX8_canHold_24 rfl (lv_at hl 1 rfl) ?_
      refine lv_bipush (v := 6) hx hb dX8_canHold_25 (by decide) ?_
      refine yc_p hP hS (va_runS (As := [.int x0, .int 6]) (rest := [.ref (ad 1), .int x1, .int x0, .ref (ad 0)]) ⟨hx, hb, hml, hown, hts⟩ (c_X8_at l x0 6) (cwS 2 hts gX8_canHold_X8_at rfl rfl rfl hd_S_X8_at_2 ⟨Nat.le_of_ble_eq_true rfl, Nat.le_of_ble_eq_true rfl⟩) ex_preP rfl rfl hl.1 rfl (lv_room (Nat.le_of_ble_eq_true rfl)) dX8_canHold_27 ⟨Nat.le_of_ble_eq_true rfl, Nat.le_of_ble_eq_true rfl⟩) (fun r_5 H locs hw_5 hP hS => ?_)
      have k_6 : (6 : Int32).toInt = 6 := by decide
      have tr_5 : r_5.toInt = 32 + 7 * x0.toInt + (6 : Int32).toInt := t_at hw_5 ⟨by omega, by omega⟩ ⟨by omega, by omega⟩
      have zn_x0 : (x0.toNatClampNeg : Int) = x0.toInt := t_nn (by omega)
      have nr_5 : r_5.toNatClampNeg = 38 + 7 * x0.toNatClampNeg := by have z1 := t_nn (x := r_5) (by omega); omega
      refine va_iald hx hb hK hP (1) 0 (wm_at (by decide) rc_1) rfl (vp_in_iff.mpr ⟨by omega, by omega⟩) dX8_canHold_30 ?_
      refine lv_topi (fun x_6 ex_6 => ?_)
      have bzx_6 : 0 ≤ x_6.toInt ∧ x_6.toInt ≤ 5 := by rw [ex_6]; exact hv 1 _ 5 (bx_4 (i := x0.toInt) (s := 6) (by omega) ⟨by omega, by omega⟩ (by omega))
      rw [nr_5] at ex_6
      have qx_6 : x_6.toInt = (v 1 (38 + 7 * x0.toNatClampNeg)).toInt := congrArg Int32.toInt ex_6
      refine yw_i (w1 := fun (u : Nat → Nat → Int32) => wm ad cy u) hD hS hA (va_runV (As := [.int x0, .int x1, .int x_6]) (rest := []) ⟨hx, hb, hml, hown, hts⟩ (e_X8_makeTable l dC dI cy _ ad v hv x0 x1 x_6 ⟨by omega, by omega⟩ ⟨by omega, by omega⟩) (cwV 3 hts gX8_canHold_X8_makeTable rfl rfl rfl hd_V_X8_makeTable_3 ⟨Nat.le_of_ble_eq_true rfl, Nat.le_of_ble_eq_true rfl⟩) (yw_preV hE hK hP hD (ci := 8) (q := (RX8, TX8, 11)) (q0 := 0) rfl (wm_at (by decide) rc_0)) rfl rfl hl.1 rfl (lv_room (Nat.le_of_ble_eq_true rfl)) dX8_canHold_31 ⟨Nat.le_of_ble_eq_true rfl, Nat.le_of_ble_eq_true rfl⟩) (fun r_7 v_7 H locs hw_7 hP hD hS => ?_)
      obtain ⟨hv, hf_7, hw_7⟩ := hw_7
      rcases hw_7 with ⟨rfl, hm_8⟩ | ⟨rfl, hm_8⟩
      · rw [← eDD] at hm_8
        have ht_8 : TB DD x1.toInt x_6.toNatClampNeg := ⟨_, hm_8.1.1⟩
        refine lv_if_eq (tgt := 41) hx hb dX8_canHold_34 (by decide) (fun c9 => absurd c9 (by decide)) (fun _ => ?_)
        refine lv_iconst (v := 1) hx hb dX8_canHold_37 (by decide) ?_
        refine lv_goto (tgt := 42) hx hb dX8_canHold_38 (by decide) ?_
        have htb : TB (fun t k => (v 1 (158 + k + 25 * x0.toNatClampNeg + 5 * t)).toInt) x1.toInt (v 1 (38 + 7 * x0.toNatClampNeg)).toNatClampNeg := by rw [← eDD, ← ex_6]; exact ht_8
        have hpost : (¬ ((0 ≤ x0.toInt ∧ x0.toInt < (v 1 2).toInt) ∧ 0 ≤ x1.toInt ∧ x1.toInt ≤ 1) → ((1 : Int32) = -1) ∧ Fq v v_7) ∧ (((0 ≤ x0.toInt ∧ x0.toInt < (v 1 2).toInt) ∧ 0 ≤ x1.toInt ∧ x1.toInt ≤ 1) ∧ TB (fun t k => (v 1 (158 + k + 25 * x0.toNatClampNeg + 5 * t)).toInt) x1.toInt (v 1 (38 + 7 * x0.toNatClampNeg)).toNatClampNeg → ((1 : Int32) = 1) ∧ Fq v v_7) ∧ (((0 ≤ x0.toInt ∧ x0.toInt < (v 1 2).toInt) ∧ 0 ≤ x1.toInt ∧ x1.toInt ≤ 1) ∧ ¬ TB (fun t k => (v 1 (158 + k + 25 * x0.toNatClampNeg + 5 * t)).toInt) x1.toInt (v 1 (38 + 7 * x0.toNatClampNeg)).toNatClampNeg → ((1 : Int32) = 0) ∧ Fq v v_7) := by
          refine ⟨fun hq => ?_, fun hq => ?_, fun hq => ?_⟩
          · exfalso; omega
          · exact ⟨rfl, hf_7⟩
          · exact absurd htb hq.2
        exact W.iret (v := 1) hx hb hr (fun t ht hW => ⟨⟨1, v_7, rfl, ⟨hv, hpost⟩, by rw [ht]; exact hP, hD⟩, hS.F ht⟩) hS.2.2 dX8_canHold_42
      · rw [← eDD] at hm_8
        have ht_8 := hm_8
        refine lv_if_eq (tgt := 41) hx hb dX8_canHold_34 (by decide) (fun _ => ?_) (fun c9 => absurd c9 (by decide))
        refine lv_iconst (v := 0) hx hb dX8_canHold_41 (by decide) ?_
        have htb : ¬ TB (fun t k => (v 1 (158 + k + 25 * x0.toNatClampNeg + 5 * t)).toInt) x1.toInt (v 1 (38 + 7 * x0.toNatClampNeg)).toNatClampNeg := by rw [← eDD, ← ex_6]; exact ht_8
        have hpost : (¬ ((0 ≤ x0.toInt ∧ x0.toInt < (v 1 2).toInt) ∧ 0 ≤ x1.toInt ∧ x1.toInt ≤ 1) → ((0 : Int32) = -1) ∧ Fq v v_7) ∧ (((0 ≤ x0.toInt ∧ x0.toInt < (v 1 2).toInt) ∧ 0 ≤ x1.toInt ∧ x1.toInt ≤ 1) ∧ TB (fun t k => (v 1 (158 + k + 25 * x0.toNatClampNeg + 5 * t)).toInt) x1.toInt (v 1 (38 + 7 * x0.toNatClampNeg)).toNatClampNeg → ((0 : Int32) = 1) ∧ Fq v v_7) ∧ (((0 ≤ x0.toInt ∧ x0.toInt < (v 1 2).toInt) ∧ 0 ≤ x1.toInt ∧ x1.toInt ≤ 1) ∧ ¬ TB (fun t k => (v 1 (158 + k + 25 * x0.toNatClampNeg + 5 * t)).toInt) x1.toInt (v 1 (38 + 7 * x0.toNatClampNeg)).toNatClampNeg → ((0 : Int32) = 0) ∧ Fq v v_7) := by
          refine ⟨fun hq => ?_, fun hq => ?_, fun hq => ?_⟩
          · exfalso; omega
          · exact absurd hq.2 htb
          · exact ⟨rfl, hf_7⟩
        exact W.iret (v := 0) hx hb hr (fun t ht hW => ⟨⟨0, v_7, rfl, ⟨hv, hpost⟩, by rw [ht]; exact hP, hD⟩, hS.F ht⟩) hS.2.2 dX8_canHold_42
    · have k_0 : (0 : Int32).toInt = 0 := by decide
      have k_1 : (1 : Int32).toInt = 1 := by decide
      have tc_4 : ¬ ((0 : Int32).toInt ≤ x1.toInt ∧ x1.toInt ≤ (1 : Int32).toInt) := fun q => hc_4 ⟨Int32.le_iff_toInt_le.mpr q.1, Int32.le_iff_toInt_le.mpr q.2⟩
      refine lv_if_ne (tgt := 17) hx hb dX8_canHold_12 (by decide) (fun c9 => absurd c9 (by decide)) (fun _ => ?_)
      refine lv_iconst (v := (-1)) hx hb dX8_canHold_15 (by decide) ?_
      have hpost : (¬ ((0 ≤ x0.toInt ∧ x0.toInt < (v 1 2).toInt) ∧ 0 ≤ x1.toInt ∧ x1.toInt ≤ 1) → (((-1) : Int32) = -1) ∧ Fq v v) ∧ (((0 ≤ x0.toInt ∧ x0.toInt < (v 1 2).toInt) ∧ 0 ≤ x1.toInt ∧ x1.toInt ≤ 1) ∧ TB (fun t k => (v 1 (158 + k + 25 * x0.toNatClampNeg + 5 * t)).toInt) x1.toInt (v 1 (38 + 7 * x0.toNatClampNeg)).toNatClampNeg → (((-1) : Int32) = 1) ∧ Fq v v) ∧ (((0 ≤ x0.toInt ∧ x0.toInt < (v 1 2).toInt) ∧ 0 ≤ x1.toInt ∧ x1.toInt ≤ 1) ∧ ¬ TB (fun t k => (v 1 (158 + k + 25 * x0.toNatClampNeg + 5 * t)).toInt) x1.toInt (v 1 (38 + 7 * x0.toNatClampNeg)).toNatClampNeg → (((-1) : Int32) = 0) ∧ Fq v v) := by
        refine ⟨fun hq => ?_, fun hq => ?_, fun hq => ?_⟩
        · exact ⟨rfl, Fq.rf⟩
        · exact absurd hq.1 (by omega)
        · exact absurd hq.1 (by omega)
      exact W.iret (v := (-1)) hx hb hr (fun t ht hW => ⟨⟨(-1), v, rfl, ⟨hv, hpost⟩, by rw [ht]; exact hP, hD⟩, hS.F ht⟩) hS.2.2 dX8_canHold_16
  · refine lv_if_eq (tgt := 15) hx hb dX8_canHold_5 (by decide) (fun _ => ?_) (fun c9 => absurd c9 (by decide))
    refine lv_iconst (v := (-1)) hx hb dX8_canHold_15 (by decide) ?_
    have hpost : (¬ ((0 ≤ x0.toInt ∧ x0.toInt < (v 1 2).toInt) ∧ 0 ≤ x1.toInt ∧ x1.toInt ≤ 1) → (((-1) : Int32) = -1) ∧ Fq v v) ∧ (((0 ≤ x0.toInt ∧ x0.toInt < (v 1 2).toInt) ∧ 0 ≤ x1.toInt ∧ x1.toInt ≤ 1) ∧ TB (fun t k => (v 1 (158 + k + 25 * x0.toNatClampNeg + 5 * t)).toInt) x1.toInt (v 1 (38 + 7 * x0.toNatClampNeg)).toNatClampNeg → (((-1) : Int32) = 1) ∧ Fq v v) ∧ (((0 ≤ x0.toInt ∧ x0.toInt < (v 1 2).toInt) ∧ 0 ≤ x1.toInt ∧ x1.toInt ≤ 1) ∧ ¬ TB (fun t k => (v 1 (158 + k + 25 * x0.toNatClampNeg + 5 * t)).toInt) x1.toInt (v 1 (38 + 7 * x0.toNatClampNeg)).toNatClampNeg → (((-1) : Int32) = 0) ∧ Fq v v) := by
      refine ⟨fun hq => ?_, fun hq => ?_, fun hq => ?_⟩
      · exact ⟨rfl, Fq.rf⟩
      · exact absurd hq.1 (by omega)
      · exact absurd hq.1 (by omega)
    exact W.iret (v := (-1)) hx hb hr (fun t ht hW => ⟨⟨(-1), v, rfl, ⟨hv, hpost⟩, by rw [ht]; exact hP, hD⟩, hS.F ht⟩) hS.2.2 dX8_canHold_16

set_option maxHeartbeats 4000000 in
set_option maxRecDepth 100000 in
theorem e_X8_breaks (l : Launch) (dC : Nat → ClassId) (dI : Nat → Nat → Nat) (cy : Nat → ClassId) (sz : Nat) (ad : Nat → Nat) (v : Nat → Nat → Int32) (hv : Ir v) (x0 x1 : Int32) : Met l yX8_breaks wsX8_breaks ({ frames := 4, cells := 0, slots := 0, locals := 256 }) (va_Pc [.ref (ad 0), .int x0, .int x1] (ex_Pre dC dI cy sz (wm ad cy v))) (va_Qi (fun (r : Int32) (u : Nat → Nat → Int32) => Ir u ∧ (¬ ((0 ≤ x0.toInt ∧ x0.toInt < (v 1 2).toInt) ∧ 0 ≤ x1.toInt ∧ x1.toInt ≤ 1) → (r = -1) ∧ Fq v u) ∧ ((0 ≤ x0.toInt ∧ x0.toInt < (v 1 2).toInt) ∧ 0 ≤ x1.toInt ∧ x1.toInt ≤ 1 → (((r.toInt = -5 ∧ ∀ t : Nat, t < (v 1 (38 + 7 * x0.toNatClampNeg)).toNatClampNeg → (fun t k => (v 1 (158 + k + 25 * x0.toNatClampNeg + 5 * t)).toInt) t 0 = x1.toInt → TB (fun t k => (v 1 (158 + k + 25 * x0.toNatClampNeg + 5 * t)).toInt) x1.toInt (t + 1)) ∨ ((0 ≤ r.toInt ∧ r.toNatClampNeg < (v 1 (38 + 7 * x0.toNatClampNeg)).toNatClampNeg) ∧ ((fun t k => (v 1 (158 + k + 25 * x0.toNatClampNeg + 5 * t)).toInt) r.toNatClampNeg 0 = x1.toInt ∧ ¬ TB (fun t k => (v 1 (158 + k + 25 * x0.toNatClampNeg + 5 * t)).toInt) x1.toInt (r.toNatClampNeg + 1)) ∧ ∀ t : Nat, t < r.toNatClampNeg → (fun t k => (v 1 (158 + k + 25 * x0.toNatClampNeg + 5 * t)).toInt) t 0 = x1.toInt → TB (fun t k => (v 1 (158 + k + 25 * x0.toNatClampNeg + 5 * t)).toInt) x1.toInt (t + 1)))) ∧ Fq v u)) (fun u t => ex_Pst dC dI (va_A (wm ad cy v) sz) (wm ad cy u) t) (va_A (wm ad cy v) sz)) 0 0 (va_A (wm ad cy v) sz) := by
  refine Met.ofW (cc := cX8_breaks) (maxL := 4) (ret := (some .int)) (by decide) rfl ?_
  intro p e s m args below meth c s₁ B hml hv
  obtain ⟨rfl, hsz, hE, hP, hK, hD0⟩ := hv
  have hx := B.exec
  have hb := B.bytes
  have hr := B.returns
  have hts := atoms_spec (ws := wsX8_breaks) B.pre
  have hown : s.vm.findClass RX8 = some m.cls := findClass_of_methodNamed B.named
  have hlocks := B.notSynchronized
  subst hsz
  have hD := hD0.self (sz := s.heap.size)
  generalize hAe : va_A (wm ad cy v) s.heap.size = A at hD ⊢
  have hA : ∀ q : Nat, s.heap.size ≤ q → A q := fun q h => by rw [← hAe]; exact Or.inr h
  have hS : va_S A s.heap s.heap [] := va_S.rf
  have hP : va_P (dC, dI) vwCl (wm ad cy v) s.heap := hP
  have hl := lv_entry ([.ref (ad 0), .int x0, .int x1]) (n := 4) (Nat.le_of_ble_eq_true rfl)
  rw [lg_entry_eq]
  generalize (lg_sl ([.ref (ad 0), .int x0, .int x1]) ++ List.replicate (4 - (lg_sl ([.ref (ad 0), .int x0, .int x1])).length) Slot.unset).toArray = ls at hl ⊢
  have hl : lv_has ls 4 [(0, .ref (ad 0)), (1, .int x0), (2, .int x1)] := hl
  have hfr : Fq v v := Fq.rf
  obtain ⟨DD, eDD⟩ : ∃ f : Nat → Nat → Int, f = fun t k => (v 1 (158 + k + 25 * x0.toNatClampNeg + 5 * t)).toInt := ⟨_, rfl⟩
  refine lv_aload_n hx hb dX8_breaks_0 rfl (lv_at hl 0 rfl) ?_
  refine lv_iload_n hx hb dX8_breaks_1 rfl (lv_at hl 1 rfl) ?_
  refine yw_i (w1 := fun (u : Nat → Nat → Int32) => wm ad cy u) hD hS hA (va_runV (As := [.int x0]) (rest := []) ⟨hx, hb, hml, hown, hts⟩ (q_X8_isCase l dC dI cy _ ad v hv x0) (cwV 1 hts gX8_breaks_X8_isCase rfl rfl rfl hd_V_X8_isCase_1 ⟨Nat.le_of_ble_eq_true rfl, Nat.le_of_ble_eq_true rfl⟩) (yw_preV hE hK hP hD (ci := 8) (q := (RX8, TX8, 11)) (q0 := 0) rfl (wm_at (by decide) rc_0)) rfl rfl hl.1 rfl (lv_room (Nat.le_of_ble_eq_true rfl)) dX8_breaks_2 ⟨Nat.le_of_ble_eq_true rfl, Nat.le_of_ble_eq_true rfl⟩) (fun r_1 v_1 H locs hw_1 hP hD hS => ?_)
  obtain ⟨-, hu_1, hw_1⟩ := hw_1
  replace hu_1 := hu_1.symm
  subst hu_1
  rcases hw_1 with ⟨rfl, ha_2⟩ | ⟨rfl, ha_2⟩
  · have hb_2 := hv 1 2 6 (by decide)
    have hj_2 : 0 ≤ x0.toInt ∧ x0.toInt ≤ 5 := ⟨by omega, by omega⟩
    refine lv_if_eq (tgt := 15) hx hb dX8_breaks_5 (by decide) (fun c9 => absurd c9 (by decide)) (fun _ => ?_)
    refine lv_iload_n hx hb dX8_breaks_8 rfl (lv_at hl 2 rfl) ?_
    refine yc_p hP hS (va_runS (As := [.int x1]) (rest := []) ⟨hx, hb, hml, hown, hts⟩ (c_X8_isSide l x1) (cwS 1 hts gX8_breaks_X8_isSide rfl rfl rfl hd_S_X8_isSide_1 ⟨Nat.le_of_ble_eq_true rfl, Nat.le_of_ble_eq_true rfl⟩) ex_preP rfl rfl hl.1 rfl (lv_room (Nat.le_of_ble_eq_true rfl)) dX8_breaks_9 ⟨Nat.le_of_ble_eq_true rfl, Nat.le_of_ble_eq_true rfl⟩) (fun r_3 H locs hw_3 hP hS => ?_)
    rcases wi_ca hw_3 with ⟨rfl, hc_4⟩ | ⟨rfl, hc_4⟩
    · have k_0 : (0 : Int32).toInt = 0 := by decide
      have k_1 : (1 : Int32).toInt = 1 := by decide
      have tc_4 := wi_tl hc_4
      refine lv_if_ne (tgt := 17) hx hb dX8_breaks_12 (by decide) (fun _ => ?_) (fun c9 => absurd c9 (by decide))
      refine lv_iconst (v := 0) hx hb dX8_breaks_17 (by decide) ?_
      refine lv_istore_n (lv' := [(3, .int 0), (0, .ref (ad 0)), (1, .int x0), (2, .int x1)]) hx hb dX8_breaks_18 rfl hl (by decide) rfl (fun ls hl => ?_)
      have hc_5 : ∀ (n : Nat) (y5_3 : Int32) (u5 : Nat → Nat → Int32) (H : Heap) (locs : List Loc), 0 ≤ y5_3.toInt → y5_3.toInt ≤ 5 → (∀ t : Nat, (t : Int) < y5_3.toInt → DD t 0 = x1.toInt → TB DD x1.toInt (t + 1)) → (5 - y5_3.toInt).toNat < n → Ir u5 → Fq v u5 → va_P (dC, dI) vwCl (wm ad cy u5) H → va_D A (wm ad cy u5) → va_S A s.heap H locs → ∀ ls : Array Slot, lv_has ls 4 [(3, .int y5_3), (0, .ref (ad 0)), (1, .int x0), (2, .int x1)] → W p l e (headSpec wsX8_breaks ({ frames := 4, cells := 0, slots := 0, locals := 256 })).room s m [Value.ref (ad 0), Value.int x0, Value.int x1].toArray below meth c H locs 0 0 (MQ below (va_Qi (fun (r : Int32) (u : Nat → Nat → Int32) => Ir u ∧ (¬ ((0 ≤ x0.toInt ∧ x0.toInt < (v 1 2).toInt) ∧ 0 ≤ x1.toInt ∧ x1.toInt ≤ 1) → (r = -1) ∧ Fq v u) ∧ ((0 ≤ x0.toInt ∧ x0.toInt < (v 1 2).toInt) ∧ 0 ≤ x1.toInt ∧ x1.toInt ≤ 1 → (((r.toInt = -5 ∧ ∀ t : Nat, t < (v 1 (38 + 7 * x0.toNatClampNeg)).toNatClampNeg → (fun t k => (v 1 (158 + k + 25 * x0.toNatClampNeg + 5 * t)).toInt) t 0 = x1.toInt → TB (fun t k => (v 1 (158 + k + 25 * x0.toNatClampNeg + 5 * t)).toInt) x1.toInt (t + 1)) ∨ ((0 ≤ r.toInt ∧ r.toNatClampNeg < (v 1 (38 + 7 * x0.toNatClampNeg)).toNatClampNeg) ∧ ((fun t k => (v 1 (158 + k + 25 * x0.toNatClampNeg + 5 * t)).toInt) r.toNatClampNeg 0 = x1.toInt ∧ ¬ TB (fun t k => (v 1 (158 + k + 25 * x0.toNatClampNeg + 5 * t)).toInt) x1.toInt (r.toNatClampNeg + 1)) ∧ ∀ t : Nat, t < r.toNatClampNeg → (fun t k => (v 1 (158 + k + 25 * x0.toNatClampNeg + 5 * t)).toInt) t 0 = x1.toInt → TB (fun t k => (v 1 (158 + k + 25 * x0.toNatClampNeg + 5 * t)).toInt) x1.toInt (t + 1)))) ∧ Fq v u)) (fun u t => ex_Pst dC dI A (wm ad cy u) t) A) [Value.ref (ad 0), Value.int x0, Value.int x1].toArray s 0 0 A) (F0 m 19 ls []) := by
        intro n
        induction n with
        | zero =>
          intro y5_3 u5 H locs ay5_3 by5_3 hi5_0 hm_5 hv hfr hP hD hS ls hl
          exact absurd hm_5 (by omega)
        | succ n ih_5 =>
          intro y5_3 u5 H locs ay5_3 by5_3 hi5_0 hm_5 hv hfr hP hD hS ls hl
          refine lv_iload_n hx hb dX8_breaks_19 rfl (lv_at hl 0 rfl) ?_
          refine lv_aload_n hx hb dX8_breaks_20 rfl (lv_at hl 1 rfl) ?_
          refine va_get (D := (dC, dI)) (ci := 8) (v := .ref (ad 1)) (C := RX8) (T := TX8) (N := 11) hx hb hts iwX8_breaks_X8 hown hK hP (0) (wm_at (by decide) rc_0) rfl 0 (by decide) (hts (.fieldLink RX8 7 "QuietStairsModel" "s" "[I") fwX8_breaks_1) (fun _ h9 => h9) rfl dX8_breaks_21 ?_
          refine lv_iload_n hx hb dX8_breaks_24 rfl (lv_at hl 2 rfl) ?_
          refine lv_bipush (v := 6) hx hb dX8_breaks_25 (by decide) ?_
          refine yc_p hP hS (va_runS (As := [.int x0, .int 6]) (rest := [.ref (ad 1), .int y5_3]) ⟨hx, hb, hml, hown, hts⟩ (c_X8_at l x0 6) (cwS 2 hts gX8_breaks_X8_at rfl rfl rfl hd_S_X8_at_2 ⟨Nat.le_of_ble_eq_true rfl, Nat.le_of_ble_eq_true rfl⟩) ex_preP rfl rfl hl.1 rfl (lv_room (Nat.le_of_ble_eq_true rfl)) dX8_breaks_27 ⟨Nat.le_of_ble_eq_true rfl, Nat.le_of_ble_eq_true rfl⟩) (fun r_6 H locs hw_6 hP hS => ?_)
          have k_6 : (6 : Int32).toInt = 6 := by decide
          have tr_6 : r_6.toInt = 32 + 7 * x0.toInt + (6 : Int32).toInt := t_at hw_6 ⟨by omega, by omega⟩ ⟨by omega, by omega⟩
          have zn_x0 : (x0.toNatClampNeg : Int) = x0.toInt := t_nn (by omega)
          have nr_6 : r_6.toNatClampNeg = 38 + 7 * x0.toNatClampNeg := by have z1 := t_nn (x := r_6) (by omega); omega
          refine va_iald hx hb hK hP (1) 0 (wm_at (by decide) rc_1) rfl (vp_in_iff.mpr ⟨by omega, by omega⟩) dX8_breaks_30 ?_
          refine lv_topi (fun x_7 ex_7 => ?_)
          have bzx_7 : 0 ≤ x_7.toInt ∧ x_7.toInt ≤ 5 := by rw [ex_7]; exact hv 1 _ 5 (bx_4 (i := x0.toInt) (s := 6) (by omega) ⟨by omega, by omega⟩ (by omega))
          rw [nr_6] at ex_7
          have qx_7 : x_7.toInt = (u5 1 (38 + 7 * x0.toNatClampNeg)).toInt := congrArg Int32.toInt ex_7
          have hn9 : x_7 = v 1 (38 + 7 * x0.toNatClampNeg) := by rw [ex_7, hfr.1]
          have hn8 : x_7.toInt = (v 1 (38 + 7 * x0.toNatClampNeg)).toInt := by rw [hn9]
          refine lv_icmp_ge (tgt := 68) hx hb dX8_breaks_31 (by decide) (fun c_8 => ?_) (fun c_8 => ?_)
          · have tc_8 : y5_3.toInt ≥ x_7.toInt := Int32.le_iff_toInt_le.mp c_8
            refine lv_bipush (v := (-5)) hx hb dX8_breaks_68 (by decide) ?_
            have zn_y5_3 : (y5_3.toNatClampNeg : Int) = y5_3.toInt := t_nn (by omega)
            have zN9 := t_nn (x := v 1 (38 + 7 * x0.toNatClampNeg)) (by omega)
            have hpost : (¬ ((0 ≤ x0.toInt ∧ x0.toInt < (v 1 2).toInt) ∧ 0 ≤ x1.toInt ∧ x1.toInt ≤ 1) → (((-5) : Int32) = -1) ∧ Fq v u5) ∧ ((0 ≤ x0.toInt ∧ x0.toInt < (v 1 2).toInt) ∧ 0 ≤ x1.toInt ∧ x1.toInt ≤ 1 → (((((-5) : Int32).toInt = -5 ∧ ∀ t : Nat, t < (v 1 (38 + 7 * x0.toNatClampNeg)).toNatClampNeg → (fun t k => (v 1 (158 + k + 25 * x0.toNatClampNeg + 5 * t)).toInt) t 0 = x1.toInt → TB (fun t k => (v 1 (158 + k + 25 * x0.toNatClampNeg + 5 * t)).toInt) x1.toInt (t + 1)) ∨ ((0 ≤ ((-5) : Int32).toInt ∧ ((-5) : Int32).toNatClampNeg < (v 1 (38 + 7 * x0.toNatClampNeg)).toNatClampNeg) ∧ ((fun t k => (v 1 (158 + k + 25 * x0.toNatClampNeg + 5 * t)).toInt) ((-5) : Int32).toNatClampNeg 0 = x1.toInt ∧ ¬ TB (fun t k => (v 1 (158 + k + 25 * x0.toNatClampNeg + 5 * t)).toInt) x1.toInt (((-5) : Int32).toNatClampNeg + 1)) ∧ ∀ t : Nat, t < ((-5) : Int32).toNatClampNeg → (fun t k => (v 1 (158 + k + 25 * x0.toNatClampNeg + 5 * t)).toInt) t 0 = x1.toInt → TB (fun t k => (v 1 (158 + k + 25 * x0.toNatClampNeg + 5 * t)).toInt) x1.toInt (t + 1)))) ∧ Fq v u5) := by
              refine ⟨fun hq => ?_, fun hq => ?_⟩
              · exfalso; omega
              · rw [← eDD]; exact ⟨Or.inl ⟨by decide, fun t ht h0 => hi5_0 t (by omega) h0⟩, hfr⟩
            exact W.iret (v := (-5)) hx hb hr (fun t ht hW => ⟨⟨(-5), u5, rfl, ⟨hv, hpost⟩, by rw [ht]; exact hP, hD⟩, hS.F ht⟩) hS.2.2 dX8_breaks_70
          · have tc_8 : y5_3.toInt < x_7.toInt := Int32.lt_iff_toInt_lt.mp (Int32.not_le.mp c_8)
            refine lv_aload_n hx hb dX8_breaks_34 rfl (lv_at hl 1 rfl) ?_
            refine va_get (D := (dC, dI)) (ci := 8) (v := .ref (ad 1)) (C := RX8) (T := TX8) (N := 11) hx hb hts iwX8_breaks_X8 hown hK hP (0) (wm_at (by decide) rc_0) rfl 0 (by decide) (hts (.fieldLink RX8 7 "QuietStairsModel" "s" "[I") fwX8_breaks_1) (fun _ h9 => h9) rfl dX8_breaks_35 ?_
            refine lv_iload_n hx hb dX8_breaks_38 rfl (lv_at hl 2 rfl) ?_
            refine lv_iload_n hx hb dX8_breaks_39 rfl (lv_at hl 0 rfl) ?_
            refine yc_p hP hS (va_runS (As := [.int x0, .int y5_3]) (rest := [.ref (ad 1)]) ⟨hx, hb, hml, hown, hts⟩ (c_X8_termAt l x0 y5_3) (cwS 2 hts gX8_breaks_X8_termAt rfl rfl rfl hd_S_X8_termAt_2 ⟨Nat.le_of_ble_eq_true rfl, Nat.le_of_ble_eq_true rfl⟩) ex_preP rfl rfl hl.1 rfl (lv_room (Nat.le_of_ble_eq_true rfl)) dX8_breaks_40 ⟨Nat.le_of_ble_eq_true rfl, Nat.le_of_ble_eq_true rfl⟩) (fun r_9 H locs hw_9 hP hS => ?_)
            have tr_9 : r_9.toInt = 158 + 25 * x0.toInt + 5 * y5_3.toInt := t_tm hw_9 ⟨by omega, by omega⟩ ⟨by omega, by omega⟩
            have zn_y5_3 : (y5_3.toNatClampNeg : Int) = y5_3.toInt := t_nn (by omega)
            have nr_9 : r_9.toNatClampNeg = 158 + 25 * x0.toNatClampNeg + 5 * y5_3.toNatClampNeg := by have z1 := t_nn (x := r_9) (by omega); omega
            refine va_iald hx hb hK hP (1) 0 (wm_at (by decide) rc_1) rfl (vp_in_iff.mpr ⟨by omega, by omega⟩) dX8_breaks_43 ?_
            refine lv_topi (fun x_10 ex_10 => ?_)
            have bzx_10 : 0 ≤ x_10.toInt ∧ x_10.toInt ≤ 1 := by rw [ex_10]; exact hv 1 _ 1 (bx_t0 (i := 5 * x0.toInt + y5_3.toInt) (s := 0) (by omega) ⟨by omega, by omega⟩ (by omega))
            rw [nr_9] at ex_10
            have qx_10 : x_10.toInt = (u5 1 (158 + 25 * x0.toNatClampNeg + 5 * y5_3.toNatClampNeg)).toInt := congrArg Int32.toInt ex_10
            have hS9 : DD y5_3.toNatClampNeg 0 = x_10.toInt := by rw [eDD]; exact (congrArg Int32.toInt (ex_10.trans (congrFun hfr.1 _))).symm
            have hfs := hfr
            refine lv_iload_n hx hb dX8_breaks_44 rfl (lv_at hl 3 rfl) ?_
            refine lv_icmp_ne (tgt := 62) hx hb dX8_breaks_45 (by decide) (fun c_11 => ?_) (fun c_11 => ?_)
            · have tc_11 : x_10.toInt ≠ x1.toInt := fun q => absurd (Int32.toInt_inj.mp q) c_11
              obtain ⟨x_12, ex_12⟩ : ∃ y : Int32, y = y5_3 + 1 := ⟨_, rfl⟩
              refine lv_iinc (v := x_12) (lv' := [(3, .int x_12), (0, .ref (ad 0)), (1, .int x0), (2, .int x1)]) hx hb dX8_breaks_62 hl (k := 0) rfl (by rw [ex_12]; rfl) (by decide) rfl (fun ls hl => ?_)
              have tx_12 : x_12.toInt = y5_3.toInt + (1 : Int32).toInt := by rw [ex_12]; exact t_add ⟨by omega, by omega⟩
              refine lv_goto (tgt := 19) hx hb dX8_breaks_65 (by decide) ?_
              exact ih_5 x_12 u5 _ _ (by omega) (by omega) (fun t ht h0 => by by_cases e : (t : Int) < y5_3.toInt; exact hi5_0 t e h0; rw [show t = y5_3.toNatClampNeg from by omega, hS9] at h0; exact absurd h0 (by omega)) (by omega) hv hfr hP hD hS ls (lv_sub hl [0, 1, 2, 3] rfl)
            · have tc_11 : x_10.toInt = x1.toInt := by rw [c_11]
              refine lv_aload_n hx hb dX8_breaks_48 rfl (lv_at hl 1 rfl) ?_
              refine lv_iload_n hx hb dX8_breaks_49 rfl (lv_at hl 2 rfl) ?_
              refine lv_iload_n hx hb dX8_breaks_50 rfl (lv_at hl 3 rfl) ?_
              refine lv_iload_n hx hb dX8_breaks_51 rfl (lv_at hl 0 rfl) ?_
              refine lv_iconst (v := 1) hx hb dX8_breaks_52 (by decide) ?_
              refine lv_iadd hx hb dX8_breaks_53 ?_
              refine lv_topi (fun x_12 ex_12 => ?_)
              have tx_12 : x_12.toInt = y5_3.toInt + (1 : Int32).toInt := by rw [ex_12]; exact t_add ⟨by omega, by omega⟩
              refine yw_i (w1 := fun (u : Nat → Nat → Int32) => wm ad cy u) hD hS hA (va_runV (As := [.int x0, .int x1, .int x_12]) (rest := []) ⟨hx, hb, hml, hown, hts⟩ (e_X8_makeTable l dC dI cy _ ad u5 hv x0 x1 x_12 ⟨by omega, by omega⟩ ⟨by omega, by omega⟩) (cwV 3 hts gX8_breaks_X8_makeTable rfl rfl rfl hd_V_X8_makeTable_3 ⟨Nat.le_of_ble_eq_true rfl, Nat.le_of_ble_eq_true rfl⟩) (yw_preV hE hK hP hD (ci := 8) (q := (RX8, TX8, 11)) (q0 := 0) rfl (wm_at (by decide) rc_0)) rfl rfl hl.1 rfl (lv_room (Nat.le_of_ble_eq_true rfl)) dX8_breaks_54 ⟨Nat.le_of_ble_eq_true rfl, Nat.le_of_ble_eq_true rfl⟩) (fun r_13 v_13 H locs hw_13 hP hD hS => ?_)
              obtain ⟨hv, hf_13, hw_13⟩ := hw_13
              have hfr : Fq v v_13 := hfr.trans hf_13
              rcases hw_13 with ⟨rfl, hm_14⟩ | ⟨rfl, hm_14⟩
              · rw [show (fun t k => (u5 1 (158 + k + 25 * x0.toNatClampNeg + 5 * t)).toInt) = DD from by rw [eDD, hfs.1]] at hm_14
                have ht_14 : TB DD x1.toInt x_12.toNatClampNeg := ⟨_, hm_14.1.1⟩
                refine lv_if_ne (tgt := 62) hx hb dX8_breaks_57 (by decide) (fun _ => ?_) (fun c9 => absurd c9 (by decide))
                obtain ⟨x_15, ex_15⟩ : ∃ y : Int32, y = y5_3 + 1 := ⟨_, rfl⟩
                refine lv_iinc (v := x_15) (lv' := [(3, .int x_15), (0, .ref (ad 0)), (1, .int x0), (2, .int x1)]) hx hb dX8_breaks_62 hl (k := 0) rfl (by rw [ex_15]; rfl) (by decide) rfl (fun ls hl => ?_)
                have tx_15 : x_15.toInt = y5_3.toInt + (1 : Int32).toInt := by rw [ex_15]; exact t_add ⟨by omega, by omega⟩
                refine lv_goto (tgt := 19) hx hb dX8_breaks_65 (by decide) ?_
                have zn_x_12 : (x_12.toNatClampNeg : Int) = x_12.toInt := t_nn (by omega)
                exact ih_5 x_15 v_13 _ _ (by omega) (by omega) (fun t ht h0 => by by_cases e : (t : Int) < y5_3.toInt; exact hi5_0 t e h0; rw [show t + 1 = x_12.toNatClampNeg from by omega]; exact ht_14) (by omega) hv hfr hP hD hS ls (lv_sub hl [0, 1, 2, 3] rfl)
              · rw [show (fun t k => (u5 1 (158 + k + 25 * x0.toNatClampNeg + 5 * t)).toInt) = DD from by rw [eDD, hfs.1]] at hm_14
                have ht_14 := hm_14
                refine lv_if_ne (tgt := 62) hx hb dX8_breaks_57 (by decide) (fun c9 => absurd c9 (by decide)) (fun _ => ?_)
                refine lv_iload_n hx hb dX8_breaks_60 rfl (lv_at hl 0 rfl) ?_
                have zn_x_12 : (x_12.toNatClampNeg : Int) = x_12.toInt := t_nn (by omega)
                have zN9 := t_nn (x := v 1 (38 + 7 * x0.toNatClampNeg)) (by omega)
                have hpost : (¬ ((0 ≤ x0.toInt ∧ x0.toInt < (v 1 2).toInt) ∧ 0 ≤ x1.toInt ∧ x1.toInt ≤ 1) → (y5_3 = -1) ∧ Fq v v_13) ∧ ((0 ≤ x0.toInt ∧ x0.toInt < (v 1 2).toInt) ∧ 0 ≤ x1.toInt ∧ x1.toInt ≤ 1 → (((y5_3.toInt = -5 ∧ ∀ t : Nat, t < (v 1 (38 + 7 * x0.toNatClampNeg)).toNatClampNeg → (fun t k => (v 1 (158 + k + 25 * x0.toNatClampNeg + 5 * t)).toInt) t 0 = x1.toInt → TB (fun t k => (v 1 (158 + k + 25 * x0.toNatClampNeg + 5 * t)).toInt) x1.toInt (t + 1)) ∨ ((0 ≤ y5_3.toInt ∧ y5_3.toNatClampNeg < (v 1 (38 + 7 * x0.toNatClampNeg)).toNatClampNeg) ∧ ((fun t k => (v 1 (158 + k + 25 * x0.toNatClampNeg + 5 * t)).toInt) y5_3.toNatClampNeg 0 = x1.toInt ∧ ¬ TB (fun t k => (v 1 (158 + k + 25 * x0.toNatClampNeg + 5 * t)).toInt) x1.toInt (y5_3.toNatClampNeg + 1)) ∧ ∀ t : Nat, t < y5_3.toNatClampNeg → (fun t k => (v 1 (158 + k + 25 * x0.toNatClampNeg + 5 * t)).toInt) t 0 = x1.toInt → TB (fun t k => (v 1 (158 + k + 25 * x0.toNatClampNeg + 5 * t)).toInt) x1.toInt (t + 1)))) ∧ Fq v v_13) := by
                  refine ⟨fun hq => ?_, fun hq => ?_⟩
                  · exfalso; omega
                  · rw [← eDD]; refine ⟨Or.inr ⟨⟨by omega, by omega⟩, ⟨?_, ?_⟩, fun t ht h0 => hi5_0 t (by omega) h0⟩, hfr⟩
                    · rw [hS9]; omega
                    · rw [show y5_3.toNatClampNeg + 1 = x_12.toNatClampNeg from by omega]; exact ht_14
                exact W.iret (v := y5_3) hx hb hr (fun t ht hW => ⟨⟨y5_3, v_13, rfl, ⟨hv, hpost⟩, by rw [ht]; exact hP, hD⟩, hS.F ht⟩) hS.2.2 dX8_breaks_61
      exact hc_5 ((5 - (0 : Int32).toInt).toNat + 1) 0 v _ _ (by omega) (by omega) (fun t ht => absurd ht (by omega)) (by omega) hv hfr hP hD hS ls (lv_sub hl [0, 1, 2, 3] rfl)
    · have k_0 : (0 : Int32).toInt = 0 := by decide
      have k_1 : (1 : Int32).toInt = 1 := by decide
      have tc_4 : ¬ ((0 : Int32).toInt ≤ x1.toInt ∧ x1.toInt ≤ (1 : Int32).toInt) := fun q => hc_4 ⟨Int32.le_iff_toInt_le.mpr q.1, Int32.le_iff_toInt_le.mpr q.2⟩
      refine lv_if_ne (tgt := 17) hx hb dX8_breaks_12 (by decide) (fun c9 => absurd c9 (by decide)) (fun _ => ?_)
      refine lv_iconst (v := (-1)) hx hb dX8_breaks_15 (by decide) ?_
      have hpost : (¬ ((0 ≤ x0.toInt ∧ x0.toInt < (v 1 2).toInt) ∧ 0 ≤ x1.toInt ∧ x1.toInt ≤ 1) → (((-1) : Int32) = -1) ∧ Fq v v) ∧ ((0 ≤ x0.toInt ∧ x0.toInt < (v 1 2).toInt) ∧ 0 ≤ x1.toInt ∧ x1.toInt ≤ 1 → (((((-1) : Int32).toInt = -5 ∧ ∀ t : Nat, t < (v 1 (38 + 7 * x0.toNatClampNeg)).toNatClampNeg → (fun t k => (v 1 (158 + k + 25 * x0.toNatClampNeg + 5 * t)).toInt) t 0 = x1.toInt → TB (fun t k => (v 1 (158 + k + 25 * x0.toNatClampNeg + 5 * t)).toInt) x1.toInt (t + 1)) ∨ ((0 ≤ ((-1) : Int32).toInt ∧ ((-1) : Int32).toNatClampNeg < (v 1 (38 + 7 * x0.toNatClampNeg)).toNatClampNeg) ∧ ((fun t k => (v 1 (158 + k + 25 * x0.toNatClampNeg + 5 * t)).toInt) ((-1) : Int32).toNatClampNeg 0 = x1.toInt ∧ ¬ TB (fun t k => (v 1 (158 + k + 25 * x0.toNatClampNeg + 5 * t)).toInt) x1.toInt (((-1) : Int32).toNatClampNeg + 1)) ∧ ∀ t : Nat, t < ((-1) : Int32).toNatClampNeg → (fun t k => (v 1 (158 + k + 25 * x0.toNatClampNeg + 5 * t)).toInt) t 0 = x1.toInt → TB (fun t k => (v 1 (158 + k + 25 * x0.toNatClampNeg + 5 * t)).toInt) x1.toInt (t + 1)))) ∧ Fq v v) := by
        refine ⟨fun hq => ⟨rfl, Fq.rf⟩, fun hq => ?_⟩
        exfalso; omega
      exact W.iret (v := (-1)) hx hb hr (fun t ht hW => ⟨⟨(-1), v, rfl, ⟨hv, hpost⟩, by rw [ht]; exact hP, hD⟩, hS.F ht⟩) hS.2.2 dX8_breaks_16
  · refine lv_if_eq (tgt := 15) hx hb dX8_breaks_5 (by decide) (fun _ => ?_) (fun c9 => absurd c9 (by decide))
    refine lv_iconst (v := (-1)) hx hb dX8_breaks_15 (by decide) ?_
    have hpost : (¬ ((0 ≤ x0.toInt ∧ x0.toInt < (v 1 2).toInt) ∧ 0 ≤ x1.toInt ∧ x1.toInt ≤ 1) → (((-1) : Int32) = -1) ∧ Fq v v) ∧ ((0 ≤ x0.toInt ∧ x0.toInt < (v 1 2).toInt) ∧ 0 ≤ x1.toInt ∧ x1.toInt ≤ 1 → (((((-1) : Int32).toInt = -5 ∧ ∀ t : Nat, t < (v 1 (38 + 7 * x0.toNatClampNeg)).toNatClampNeg → (fun t k => (v 1 (158 + k + 25 * x0.toNatClampNeg + 5 * t)).toInt) t 0 = x1.toInt → TB (fun t k => (v 1 (158 + k + 25 * x0.toNatClampNeg + 5 * t)).toInt) x1.toInt (t + 1)) ∨ ((0 ≤ ((-1) : Int32).toInt ∧ ((-1) : Int32).toNatClampNeg < (v 1 (38 + 7 * x0.toNatClampNeg)).toNatClampNeg) ∧ ((fun t k => (v 1 (158 + k + 25 * x0.toNatClampNeg + 5 * t)).toInt) ((-1) : Int32).toNatClampNeg 0 = x1.toInt ∧ ¬ TB (fun t k => (v 1 (158 + k + 25 * x0.toNatClampNeg + 5 * t)).toInt) x1.toInt (((-1) : Int32).toNatClampNeg + 1)) ∧ ∀ t : Nat, t < ((-1) : Int32).toNatClampNeg → (fun t k => (v 1 (158 + k + 25 * x0.toNatClampNeg + 5 * t)).toInt) t 0 = x1.toInt → TB (fun t k => (v 1 (158 + k + 25 * x0.toNatClampNeg + 5 * t)).toInt) x1.toInt (t + 1)))) ∧ Fq v v) := by
      refine ⟨fun hq => ⟨rfl, Fq.rf⟩, fun hq => ?_⟩
      exfalso; omega
    exact W.iret (v := (-1)) hx hb hr (fun t ht hW => ⟨⟨(-1), v, rfl, ⟨hv, hpost⟩, by rw [ht]; exact hP, hD⟩, hS.F ht⟩) hS.2.2 dX8_breaks_16

set_option maxHeartbeats 4000000 in
set_option maxRecDepth 100000 in
theorem e_X8_hour (l : Launch) (dC : Nat → ClassId) (dI : Nat → Nat → Nat) (cy : Nat → ClassId) (sz : Nat) (ad : Nat → Nat) (v : Nat → Nat → Int32) (hv : Ir v) (x0 x1 : Int32) : Met l yX8_hour wsX8_hour ({ frames := 4, cells := 0, slots := 0, locals := 256 }) (va_Pc [.ref (ad 0), .int x0, .int x1] (ex_Pre dC dI cy sz (wm ad cy v))) (va_Qi (fun (r : Int32) (u : Nat → Nat → Int32) => Ir u ∧ (¬ ((0 ≤ x0.toInt ∧ x0.toInt < (v 1 2).toInt) ∧ 0 ≤ x1.toInt ∧ x1.toInt < (v 1 (38 + 7 * x0.toNatClampNeg)).toInt) → (r = -1) ∧ Fq v u) ∧ (((0 ≤ x0.toInt ∧ x0.toInt < (v 1 2).toInt) ∧ 0 ≤ x1.toInt ∧ x1.toInt < (v 1 (38 + 7 * x0.toNatClampNeg)).toInt) ∧ (v 1 (159 + 25 * x0.toNatClampNeg + 5 * x1.toNatClampNeg)).toInt = 0 → (r = -4) ∧ Fq v u) ∧ ((((0 ≤ x0.toInt ∧ x0.toInt < (v 1 2).toInt) ∧ 0 ≤ x1.toInt ∧ x1.toInt < (v 1 (38 + 7 * x0.toNatClampNeg)).toInt) ∧ (v 1 (159 + 25 * x0.toNatClampNeg + 5 * x1.toNatClampNeg)).toInt ≠ 0) ∧ ¬ TB (fun t k => (v 1 (158 + k + 25 * x0.toNatClampNeg + 5 * t)).toInt) (v 1 (158 + 25 * x0.toNatClampNeg + 5 * x1.toNatClampNeg)).toInt (v 1 (38 + 7 * x0.toNatClampNeg)).toNatClampNeg → (r = -5) ∧ Fq v u) ∧ ((((0 ≤ x0.toInt ∧ x0.toInt < (v 1 2).toInt) ∧ 0 ≤ x1.toInt ∧ x1.toInt < (v 1 (38 + 7 * x0.toNatClampNeg)).toInt) ∧ (v 1 (159 + 25 * x0.toNatClampNeg + 5 * x1.toNatClampNeg)).toInt ≠ 0) ∧ TB (fun t k => (v 1 (158 + k + 25 * x0.toNatClampNeg + 5 * t)).toInt) (v 1 (158 + 25 * x0.toNatClampNeg + 5 * x1.toNatClampNeg)).toInt (v 1 (38 + 7 * x0.toNatClampNeg)).toNatClampNeg → (r = u 7 x1.toNatClampNeg ∧ 0 ≤ r.toInt ∧ lmin (v 1 (38 + 7 * x0.toNatClampNeg)).toNatClampNeg (alw (fun t k => (v 1 (158 + k + 25 * x0.toNatClampNeg + 5 * t)).toInt) (v 1 (158 + 25 * x0.toNatClampNeg + 5 * x1.toNatClampNeg)).toInt (v 1 (38 + 7 * x0.toNatClampNeg)).toNatClampNeg) (own (fun t k => (v 1 (158 + k + 25 * x0.toNatClampNeg + 5 * t)).toInt) (v 1 (158 + 25 * x0.toNatClampNeg + 5 * x1.toNatClampNeg)).toInt) (fun q => (u 7 q).toNatClampNeg)) ∧ Fq v u)) (fun u t => ex_Pst dC dI (va_A (wm ad cy v) sz) (wm ad cy u) t) (va_A (wm ad cy v) sz)) 0 0 (va_A (wm ad cy v) sz) := by
  refine Met.ofW (cc := cX8_hour) (maxL := 4) (ret := (some .int)) (by decide) rfl ?_
  intro p e s m args below meth c s₁ B hml hv
  obtain ⟨rfl, hsz, hE, hP, hK, hD0⟩ := hv
  have hx := B.exec
  have hb := B.bytes
  have hr := B.returns
  have hts := atoms_spec (ws := wsX8_hour) B.pre
  have hown : s.vm.findClass RX8 = some m.cls := findClass_of_methodNamed B.named
  have hlocks := B.notSynchronized
  subst hsz
  have hD := hD0.self (sz := s.heap.size)
  generalize hAe : va_A (wm ad cy v) s.heap.size = A at hD ⊢
  have hA : ∀ q : Nat, s.heap.size ≤ q → A q := fun q h => by rw [← hAe]; exact Or.inr h
  have hS : va_S A s.heap s.heap [] := va_S.rf
  have hP : va_P (dC, dI) vwCl (wm ad cy v) s.heap := hP
  have hl := lv_entry ([.ref (ad 0), .int x0, .int x1]) (n := 4) (Nat.le_of_ble_eq_true rfl)
  rw [lg_entry_eq]
  generalize (lg_sl ([.ref (ad 0), .int x0, .int x1]) ++ List.replicate (4 - (lg_sl ([.ref (ad 0), .int x0, .int x1])).length) Slot.unset).toArray = ls at hl ⊢
  have hl : lv_has ls 4 [(0, .ref (ad 0)), (1, .int x0), (2, .int x1)] := hl
  obtain ⟨DD, eDD⟩ : ∃ f : Nat → Nat → Int, f = fun t k => (v 1 (158 + k + 25 * x0.toNatClampNeg + 5 * t)).toInt := ⟨_, rfl⟩
  refine lv_aload_n hx hb dX8_hour_0 rfl (lv_at hl 0 rfl) ?_
  refine lv_iload_n hx hb dX8_hour_1 rfl (lv_at hl 1 rfl) ?_
  refine lv_iload_n hx hb dX8_hour_2 rfl (lv_at hl 2 rfl) ?_
  refine yw_i (w1 := fun (u : Nat → Nat → Int32) => wm ad cy u) hD hS hA (va_runV (As := [.int x0, .int x1]) (rest := []) ⟨hx, hb, hml, hown, hts⟩ (e_X8_isTerm l dC dI cy _ ad v hv x0 x1) (cwV 2 hts gX8_hour_X8_isTerm rfl rfl rfl hd_V_X8_isTerm_2 ⟨Nat.le_of_ble_eq_true rfl, Nat.le_of_ble_eq_true rfl⟩) (yw_preV hE hK hP hD (ci := 8) (q := (RX8, TX8, 11)) (q0 := 0) rfl (wm_at (by decide) rc_0)) rfl rfl hl.1 rfl (lv_room (Nat.le_of_ble_eq_true rfl)) dX8_hour_3 ⟨Nat.le_of_ble_eq_true rfl, Nat.le_of_ble_eq_true rfl⟩) (fun r_1 v_1 H locs hw_1 hP hD hS => ?_)
  obtain ⟨-, hu_1, hw_1⟩ := hw_1
  replace hu_1 := hu_1.symm
  subst hu_1
  rcases hw_1 with ⟨rfl, ha_2⟩ | ⟨rfl, ha_2⟩
  · have hb_2 := hv 1 2 6 (by decide)
    have hj_2 : 0 ≤ x0.toInt ∧ x0.toInt ≤ 5 := ⟨by omega, by omega⟩
    have zn_x0 : (x0.toNatClampNeg : Int) = x0.toInt := t_nn (by omega)
    have hg_2 := hv 1 (38 + 7 * x0.toNatClampNeg) 5 (bS_c (by omega) (by omega))
    have hl_2 : 0 ≤ x1.toInt ∧ x1.toInt ≤ 4 := ⟨by omega, by omega⟩
    refine lv_if_ne (tgt := 11) hx hb dX8_hour_6 (by decide) (fun _ => ?_) (fun c9 => absurd c9 (by decide))
    refine lv_aload_n hx hb dX8_hour_11 rfl (lv_at hl 0 rfl) ?_
    refine va_get (D := (dC, dI)) (ci := 8) (v := .ref (ad 1)) (C := RX8) (T := TX8) (N := 11) hx hb hts iwX8_hour_X8 hown hK hP (0) (wm_at (by decide) rc_0) rfl 0 (by decide) (hts (.fieldLink RX8 7 "QuietStairsModel" "s" "[I") fwX8_hour_1) (fun _ h9 => h9) rfl dX8_hour_12 ?_
    refine lv_iload_n hx hb dX8_hour_15 rfl (lv_at hl 1 rfl) ?_
    refine lv_iload_n hx hb dX8_hour_16 rfl (lv_at hl 2 rfl) ?_
    refine yc_p hP hS (va_runS (As := [.int x0, .int x1]) (rest := [.ref (ad 1)]) ⟨hx, hb, hml, hown, hts⟩ (c_X8_termAt l x0 x1) (cwS 2 hts gX8_hour_X8_termAt rfl rfl rfl hd_S_X8_termAt_2 ⟨Nat.le_of_ble_eq_true rfl, Nat.le_of_ble_eq_true rfl⟩) ex_preP rfl rfl hl.1 rfl (lv_room (Nat.le_of_ble_eq_true rfl)) dX8_hour_17 ⟨Nat.le_of_ble_eq_true rfl, Nat.le_of_ble_eq_true rfl⟩) (fun r_3 H locs hw_3 hP hS => ?_)
    have tr_3 : r_3.toInt = 158 + 25 * x0.toInt + 5 * x1.toInt := t_tm hw_3 ⟨by omega, by omega⟩ ⟨by omega, by omega⟩
    have zn_x1 : (x1.toNatClampNeg : Int) = x1.toInt := t_nn (by omega)
    have nr_3 : r_3.toNatClampNeg = 158 + 25 * x0.toNatClampNeg + 5 * x1.toNatClampNeg := by have z1 := t_nn (x := r_3) (by omega); omega
    refine va_iald hx hb hK hP (1) 0 (wm_at (by decide) rc_1) rfl (vp_in_iff.mpr ⟨by omega, by omega⟩) dX8_hour_20 ?_
    refine lv_topi (fun x_4 ex_4 => ?_)
    have bzx_4 : 0 ≤ x_4.toInt ∧ x_4.toInt ≤ 1 := by rw [ex_4]; exact hv 1 _ 1 (bx_t0 (i := 5 * x0.toInt + x1.toInt) (s := 0) (by omega) ⟨by omega, by omega⟩ (by omega))
    rw [nr_3] at ex_4
    have qx_4 : x_4.toInt = (v 1 (158 + 25 * x0.toNatClampNeg + 5 * x1.toNatClampNeg)).toInt := congrArg Int32.toInt ex_4
    refine lv_istore_n (lv' := [(3, .int x_4), (0, .ref (ad 0)), (1, .int x0), (2, .int x1)]) hx hb dX8_hour_21 rfl hl (by decide) rfl (fun ls hl => ?_)
    refine lv_aload_n hx hb dX8_hour_22 rfl (lv_at hl 1 rfl) ?_
    refine va_get (D := (dC, dI)) (ci := 8) (v := .ref (ad 1)) (C := RX8) (T := TX8) (N := 11) hx hb hts iwX8_hour_X8 hown hK hP (0) (wm_at (by decide) rc_0) rfl 0 (by decide) (hts (.fieldLink RX8 7 "QuietStairsModel" "s" "[I") fwX8_hour_1) (fun _ h9 => h9) rfl dX8_hour_23 ?_
    refine lv_iload_n hx hb dX8_hour_26 rfl (lv_at hl 2 rfl) ?_
    refine lv_iload_n hx hb dX8_hour_27 rfl (lv_at hl 3 rfl) ?_
    refine yc_p hP hS (va_runS (As := [.int x0, .int x1]) (rest := [.ref (ad 1)]) ⟨hx, hb, hml, hown, hts⟩ (c_X8_termAt l x0 x1) (cwS 2 hts gX8_hour_X8_termAt rfl rfl rfl hd_S_X8_termAt_2 ⟨Nat.le_of_ble_eq_true rfl, Nat.le_of_ble_eq_true rfl⟩) ex_preP rfl rfl hl.1 rfl (lv_room (Nat.le_of_ble_eq_true rfl)) dX8_hour_28 ⟨Nat.le_of_ble_eq_true rfl, Nat.le_of_ble_eq_true rfl⟩) (fun r_5 H locs hw_5 hP hS => ?_)
    obtain rfl : r_3 = r_5 := hw_3.trans hw_5.symm
    refine lv_iconst (v := 1) hx hb dX8_hour_31 (by decide) ?_
    refine lv_iadd hx hb dX8_hour_32 ?_
    refine lv_topi (fun x_6 ex_6 => ?_)
    have k_1 : (1 : Int32).toInt = 1 := by decide
    have tx_6 : x_6.toInt = r_3.toInt + (1 : Int32).toInt := by rw [ex_6]; exact t_add ⟨by omega, by omega⟩
    have nx_6 : x_6.toNatClampNeg = 159 + 25 * x0.toNatClampNeg + 5 * x1.toNatClampNeg := by have z1 := t_nn (x := x_6) (by omega); omega
    refine va_iald hx hb hK hP (1) 0 (wm_at (by decide) rc_1) rfl (vp_in_iff.mpr ⟨by omega, by omega⟩) dX8_hour_33 ?_
    refine lv_topi (fun x_7 ex_7 => ?_)
    have bzx_7 : 0 ≤ x_7.toInt ∧ x_7.toInt ≤ 1 := by rw [ex_7]; exact hv 1 _ 1 (bx_t0 (i := 5 * x0.toInt + x1.toInt) (s := 1) (by omega) ⟨by omega, by omega⟩ (by omega))
    rw [nx_6] at ex_7
    have qx_7 : x_7.toInt = (v 1 (159 + 25 * x0.toNatClampNeg + 5 * x1.toNatClampNeg)).toInt := congrArg Int32.toInt ex_7
    have k_0 : (0 : Int32).toInt = 0 := by decide
    refine lv_if_ne (tgt := 40) hx hb dX8_hour_34 (by decide) (fun c_8 => ?_) (fun c_8 => ?_)
    · have tc_8 : x_7.toInt ≠ (0 : Int32).toInt := fun q => absurd (Int32.toInt_inj.mp q) c_8
      refine lv_aload_n hx hb dX8_hour_40 rfl (lv_at hl 1 rfl) ?_
      refine lv_iload_n hx hb dX8_hour_41 rfl (lv_at hl 2 rfl) ?_
      refine lv_iload_n hx hb dX8_hour_42 rfl (lv_at hl 0 rfl) ?_
      refine lv_aload_n hx hb dX8_hour_43 rfl (lv_at hl 1 rfl) ?_
      refine va_get (D := (dC, dI)) (ci := 8) (v := .ref (ad 1)) (C := RX8) (T := TX8) (N := 11) hx hb hts iwX8_hour_X8 hown hK hP (0) (wm_at (by decide) rc_0) rfl 0 (by decide) (hts (.fieldLink RX8 7 "QuietStairsModel" "s" "[I") fwX8_hour_1) (fun _ h9 => h9) rfl dX8_hour_44 ?_
      refine lv_iload_n hx hb dX8_hour_47 rfl (lv_at hl 2 rfl) ?_
      refine lv_bipush (v := 6) hx hb dX8_hour_48 (by decide) ?_
      refine yc_p hP hS (va_runS (As := [.int x0, .int 6]) (rest := [.ref (ad 1), .int x_4, .int x0, .ref (ad 0)]) ⟨hx, hb, hml, hown, hts⟩ (c_X8_at l x0 6) (cwS 2 hts gX8_hour_X8_at rfl rfl rfl hd_S_X8_at_2 ⟨Nat.le_of_ble_eq_true rfl, Nat.le_of_ble_eq_true rfl⟩) ex_preP rfl rfl hl.1 rfl (lv_room (Nat.le_of_ble_eq_true rfl)) dX8_hour_50 ⟨Nat.le_of_ble_eq_true rfl, Nat.le_of_ble_eq_true rfl⟩) (fun r_9 H locs hw_9 hP hS => ?_)
      have k_6 : (6 : Int32).toInt = 6 := by decide
      have tr_9 : r_9.toInt = 32 + 7 * x0.toInt + (6 : Int32).toInt := t_at hw_9 ⟨by omega, by omega⟩ ⟨by omega, by omega⟩
      have nr_9 : r_9.toNatClampNeg = 38 + 7 * x0.toNatClampNeg := by have z1 := t_nn (x := r_9) (by omega); omega
      refine va_iald hx hb hK hP (1) 0 (wm_at (by decide) rc_1) rfl (vp_in_iff.mpr ⟨by omega, by omega⟩) dX8_hour_53 ?_
      refine lv_topi (fun x_10 ex_10 => ?_)
      have bzx_10 : 0 ≤ x_10.toInt ∧ x_10.toInt ≤ 5 := by rw [ex_10]; exact hv 1 _ 5 (bx_4 (i := x0.toInt) (s := 6) (by omega) ⟨by omega, by omega⟩ (by omega))
      rw [nr_9] at ex_10
      have qx_10 : x_10.toInt = (v 1 (38 + 7 * x0.toNatClampNeg)).toInt := congrArg Int32.toInt ex_10
      refine yw_i (w1 := fun (u : Nat → Nat → Int32) => wm ad cy u) hD hS hA (va_runV (As := [.int x0, .int x_4, .int x_10]) (rest := []) ⟨hx, hb, hml, hown, hts⟩ (e_X8_makeTable l dC dI cy _ ad v hv x0 x_4 x_10 ⟨by omega, by omega⟩ ⟨by omega, by omega⟩) (cwV 3 hts gX8_hour_X8_makeTable rfl rfl rfl hd_V_X8_makeTable_3 ⟨Nat.le_of_ble_eq_true rfl, Nat.le_of_ble_eq_true rfl⟩) (yw_preV hE hK hP hD (ci := 8) (q := (RX8, TX8, 11)) (q0 := 0) rfl (wm_at (by decide) rc_0)) rfl rfl hl.1 rfl (lv_room (Nat.le_of_ble_eq_true rfl)) dX8_hour_54 ⟨Nat.le_of_ble_eq_true rfl, Nat.le_of_ble_eq_true rfl⟩) (fun r_11 v_11 H locs hw_11 hP hD hS => ?_)
      obtain ⟨hv, hf_11, hw_11⟩ := hw_11
      rcases hw_11 with ⟨rfl, hm_12⟩ | ⟨rfl, hm_12⟩
      · rw [← eDD] at hm_12
        have ht_12 : TB DD x_4.toInt x_10.toNatClampNeg := ⟨_, hm_12.1.1⟩
        refine lv_if_eq (tgt := 69) hx hb dX8_hour_57 (by decide) (fun c9 => absurd c9 (by decide)) (fun _ => ?_)
        refine lv_aload_n hx hb dX8_hour_60 rfl (lv_at hl 1 rfl) ?_
        refine va_get (D := (dC, dI)) (ci := 8) (v := .ref (ad 7)) (C := RX8) (T := TX8) (N := 11) hx hb hts iwX8_hour_X8 hown hK hP (0) (wm_at (by decide) rc_0) rfl 10 (by decide) (hts (.fieldLink RX8 32 "QuietStairsModel" "hours" "[I") fwX8_hour_2) (fun _ h9 => h9) rfl dX8_hour_61 ?_
        refine lv_iload_n hx hb dX8_hour_64 rfl (lv_at hl 3 rfl) ?_
        refine va_iald hx hb hK hP (7) 0 (wm_at (by decide) rc_7) rfl (vp_in_iff.mpr ⟨by omega, by omega⟩) dX8_hour_65 ?_
        refine lv_topi (fun x_13 ex_13 => ?_)
        have qx_13 : x_13.toInt = (v_11 7 (x1.toNatClampNeg)).toInt := congrArg Int32.toInt ex_13
        refine lv_goto (tgt := 71) hx hb dX8_hour_66 (by decide) ?_
        have htb : TB (fun t k => (v 1 (158 + k + 25 * x0.toNatClampNeg + 5 * t)).toInt) (v 1 (158 + 25 * x0.toNatClampNeg + 5 * x1.toNatClampNeg)).toInt (v 1 (38 + 7 * x0.toNatClampNeg)).toNatClampNeg := by rw [← eDD, ← ex_4, ← ex_10]; exact ht_12
        have zn_x_10 : (x_10.toNatClampNeg : Int) = x_10.toInt := t_nn (by omega)
        have how : own DD x_4.toInt x1.toNatClampNeg := ⟨by rw [eDD]; exact congrArg Int32.toInt ex_4.symm, by rw [eDD]; show (v 1 (159 + 25 * x0.toNatClampNeg + 5 * x1.toNatClampNeg)).toInt = 1; rw [← ex_7]; omega⟩
        have hpost : (¬ ((0 ≤ x0.toInt ∧ x0.toInt < (v 1 2).toInt) ∧ 0 ≤ x1.toInt ∧ x1.toInt < (v 1 (38 + 7 * x0.toNatClampNeg)).toInt) → (x_13 = -1) ∧ Fq v v_11) ∧ (((0 ≤ x0.toInt ∧ x0.toInt < (v 1 2).toInt) ∧ 0 ≤ x1.toInt ∧ x1.toInt < (v 1 (38 + 7 * x0.toNatClampNeg)).toInt) ∧ (v 1 (159 + 25 * x0.toNatClampNeg + 5 * x1.toNatClampNeg)).toInt = 0 → (x_13 = -4) ∧ Fq v v_11) ∧ ((((0 ≤ x0.toInt ∧ x0.toInt < (v 1 2).toInt) ∧ 0 ≤ x1.toInt ∧ x1.toInt < (v 1 (38 + 7 * x0.toNatClampNeg)).toInt) ∧ (v 1 (159 + 25 * x0.toNatClampNeg + 5 * x1.toNatClampNeg)).toInt ≠ 0) ∧ ¬ TB (fun t k => (v 1 (158 + k + 25 * x0.toNatClampNeg + 5 * t)).toInt) (v 1 (158 + 25 * x0.toNatClampNeg + 5 * x1.toNatClampNeg)).toInt (v 1 (38 + 7 * x0.toNatClampNeg)).toNatClampNeg → (x_13 = -5) ∧ Fq v v_11) ∧ ((((0 ≤ x0.toInt ∧ x0.toInt < (v 1 2).toInt) ∧ 0 ≤ x1.toInt ∧ x1.toInt < (v 1 (38 + 7 * x0.toNatClampNeg)).toInt) ∧ (v 1 (159 + 25 * x0.toNatClampNeg + 5 * x1.toNatClampNeg)).toInt ≠ 0) ∧ TB (fun t k => (v 1 (158 + k + 25 * x0.toNatClampNeg + 5 * t)).toInt) (v 1 (158 + 25 * x0.toNatClampNeg + 5 * x1.toNatClampNeg)).toInt (v 1 (38 + 7 * x0.toNatClampNeg)).toNatClampNeg → (x_13 = v_11 7 x1.toNatClampNeg ∧ 0 ≤ x_13.toInt ∧ lmin (v 1 (38 + 7 * x0.toNatClampNeg)).toNatClampNeg (alw (fun t k => (v 1 (158 + k + 25 * x0.toNatClampNeg + 5 * t)).toInt) (v 1 (158 + 25 * x0.toNatClampNeg + 5 * x1.toNatClampNeg)).toInt (v 1 (38 + 7 * x0.toNatClampNeg)).toNatClampNeg) (own (fun t k => (v 1 (158 + k + 25 * x0.toNatClampNeg + 5 * t)).toInt) (v 1 (158 + 25 * x0.toNatClampNeg + 5 * x1.toNatClampNeg)).toInt) (fun q => (v_11 7 q).toNatClampNeg)) ∧ Fq v v_11) := by
          refine ⟨fun hq => ?_, fun hq => ?_, fun hq => ?_, fun hq => ?_⟩
          · exfalso; omega
          · exfalso; omega
          · exact absurd htb hq.2
          · refine ⟨⟨ex_13, by rw [ex_13]; exact hm_12.2 _ (by omega) how, by rw [← eDD, ← ex_4, ← ex_10]; exact hm_12.1⟩, hf_11⟩
        exact W.iret (v := x_13) hx hb hr (fun t ht hW => ⟨⟨x_13, v_11, rfl, ⟨hv, hpost⟩, by rw [ht]; exact hP, hD⟩, hS.F ht⟩) hS.2.2 dX8_hour_71
      · rw [← eDD] at hm_12
        have ht_12 := hm_12
        refine lv_if_eq (tgt := 69) hx hb dX8_hour_57 (by decide) (fun _ => ?_) (fun c9 => absurd c9 (by decide))
        refine lv_bipush (v := (-5)) hx hb dX8_hour_69 (by decide) ?_
        have htb : ¬ TB (fun t k => (v 1 (158 + k + 25 * x0.toNatClampNeg + 5 * t)).toInt) (v 1 (158 + 25 * x0.toNatClampNeg + 5 * x1.toNatClampNeg)).toInt (v 1 (38 + 7 * x0.toNatClampNeg)).toNatClampNeg := by rw [← eDD, ← ex_4, ← ex_10]; exact ht_12
        have hpost : (¬ ((0 ≤ x0.toInt ∧ x0.toInt < (v 1 2).toInt) ∧ 0 ≤ x1.toInt ∧ x1.toInt < (v 1 (38 + 7 * x0.toNatClampNeg)).toInt) → (((-5) : Int32) = -1) ∧ Fq v v_11) ∧ (((0 ≤ x0.toInt ∧ x0.toInt < (v 1 2).toInt) ∧ 0 ≤ x1.toInt ∧ x1.toInt < (v 1 (38 + 7 * x0.toNatClampNeg)).toInt) ∧ (v 1 (159 + 25 * x0.toNatClampNeg + 5 * x1.toNatClampNeg)).toInt = 0 → (((-5) : Int32) = -4) ∧ Fq v v_11) ∧ ((((0 ≤ x0.toInt ∧ x0.toInt < (v 1 2).toInt) ∧ 0 ≤ x1.toInt ∧ x1.toInt < (v 1 (38 + 7 * x0.toNatClampNeg)).toInt) ∧ (v 1 (159 + 25 * x0.toNatClampNeg + 5 * x1.toNatClampNeg)).toInt ≠ 0) ∧ ¬ TB (fun t k => (v 1 (158 + k + 25 * x0.toNatClampNeg + 5 * t)).toInt) (v 1 (158 + 25 * x0.toNatClampNeg + 5 * x1.toNatClampNeg)).toInt (v 1 (38 + 7 * x0.toNatClampNeg)).toNatClampNeg → (((-5) : Int32) = -5) ∧ Fq v v_11) ∧ ((((0 ≤ x0.toInt ∧ x0.toInt < (v 1 2).toInt) ∧ 0 ≤ x1.toInt ∧ x1.toInt < (v 1 (38 + 7 * x0.toNatClampNeg)).toInt) ∧ (v 1 (159 + 25 * x0.toNatClampNeg + 5 * x1.toNatClampNeg)).toInt ≠ 0) ∧ TB (fun t k => (v 1 (158 + k + 25 * x0.toNatClampNeg + 5 * t)).toInt) (v 1 (158 + 25 * x0.toNatClampNeg + 5 * x1.toNatClampNeg)).toInt (v 1 (38 + 7 * x0.toNatClampNeg)).toNatClampNeg → (((-5) : Int32) = v_11 7 x1.toNatClampNeg ∧ 0 ≤ ((-5) : Int32).toInt ∧ lmin (v 1 (38 + 7 * x0.toNatClampNeg)).toNatClampNeg (alw (fun t k => (v 1 (158 + k + 25 * x0.toNatClampNeg + 5 * t)).toInt) (v 1 (158 + 25 * x0.toNatClampNeg + 5 * x1.toNatClampNeg)).toInt (v 1 (38 + 7 * x0.toNatClampNeg)).toNatClampNeg) (own (fun t k => (v 1 (158 + k + 25 * x0.toNatClampNeg + 5 * t)).toInt) (v 1 (158 + 25 * x0.toNatClampNeg + 5 * x1.toNatClampNeg)).toInt) (fun q => (v_11 7 q).toNatClampNeg)) ∧ Fq v v_11) := by
          refine ⟨fun hq => ?_, fun hq => ?_, fun hq => ?_, fun hq => ?_⟩
          · exfalso; omega
          · exfalso; omega
          · exact ⟨rfl, hf_11⟩
          · exact absurd hq.2 htb
        exact W.iret (v := (-5)) hx hb hr (fun t ht hW => ⟨⟨(-5), v_11, rfl, ⟨hv, hpost⟩, by rw [ht]; exact hP, hD⟩, hS.F ht⟩) hS.2.2 dX8_hour_71
    · have tc_8 : x_7.toInt = (0 : Int32).toInt := by rw [c_8]
      refine lv_bipush (v := (-4)) hx hb dX8_hour_37 (by decide) ?_
      have hpost : (¬ ((0 ≤ x0.toInt ∧ x0.toInt < (v 1 2).toInt) ∧ 0 ≤ x1.toInt ∧ x1.toInt < (v 1 (38 + 7 * x0.toNatClampNeg)).toInt) → (((-4) : Int32) = -1) ∧ Fq v v) ∧ (((0 ≤ x0.toInt ∧ x0.toInt < (v 1 2).toInt) ∧ 0 ≤ x1.toInt ∧ x1.toInt < (v 1 (38 + 7 * x0.toNatClampNeg)).toInt) ∧ (v 1 (159 + 25 * x0.toNatClampNeg + 5 * x1.toNatClampNeg)).toInt = 0 → (((-4) : Int32) = -4) ∧ Fq v v) ∧ ((((0 ≤ x0.toInt ∧ x0.toInt < (v 1 2).toInt) ∧ 0 ≤ x1.toInt ∧ x1.toInt < (v 1 (38 + 7 * x0.toNatClampNeg)).toInt) ∧ (v 1 (159 + 25 * x0.toNatClampNeg + 5 * x1.toNatClampNeg)).toInt ≠ 0) ∧ ¬ TB (fun t k => (v 1 (158 + k + 25 * x0.toNatClampNeg + 5 * t)).toInt) (v 1 (158 + 25 * x0.toNatClampNeg + 5 * x1.toNatClampNeg)).toInt (v 1 (38 + 7 * x0.toNatClampNeg)).toNatClampNeg → (((-4) : Int32) = -5) ∧ Fq v v) ∧ ((((0 ≤ x0.toInt ∧ x0.toInt < (v 1 2).toInt) ∧ 0 ≤ x1.toInt ∧ x1.toInt < (v 1 (38 + 7 * x0.toNatClampNeg)).toInt) ∧ (v 1 (159 + 25 * x0.toNatClampNeg + 5 * x1.toNatClampNeg)).toInt ≠ 0) ∧ TB (fun t k => (v 1 (158 + k + 25 * x0.toNatClampNeg + 5 * t)).toInt) (v 1 (158 + 25 * x0.toNatClampNeg + 5 * x1.toNatClampNeg)).toInt (v 1 (38 + 7 * x0.toNatClampNeg)).toNatClampNeg → (((-4) : Int32) = v 7 x1.toNatClampNeg ∧ 0 ≤ ((-4) : Int32).toInt ∧ lmin (v 1 (38 + 7 * x0.toNatClampNeg)).toNatClampNeg (alw (fun t k => (v 1 (158 + k + 25 * x0.toNatClampNeg + 5 * t)).toInt) (v 1 (158 + 25 * x0.toNatClampNeg + 5 * x1.toNatClampNeg)).toInt (v 1 (38 + 7 * x0.toNatClampNeg)).toNatClampNeg) (own (fun t k => (v 1 (158 + k + 25 * x0.toNatClampNeg + 5 * t)).toInt) (v 1 (158 + 25 * x0.toNatClampNeg + 5 * x1.toNatClampNeg)).toInt) (fun q => (v 7 q).toNatClampNeg)) ∧ Fq v v) := by
        refine ⟨fun hq => ?_, fun hq => ?_, fun hq => ?_, fun hq => ?_⟩
        · exfalso; omega
        · exact ⟨rfl, Fq.rf⟩
        · exact absurd hq.1.2 (by omega)
        · exact absurd hq.1.2 (by omega)
      exact W.iret (v := (-4)) hx hb hr (fun t ht hW => ⟨⟨(-4), v, rfl, ⟨hv, hpost⟩, by rw [ht]; exact hP, hD⟩, hS.F ht⟩) hS.2.2 dX8_hour_39
  · refine lv_if_ne (tgt := 11) hx hb dX8_hour_6 (by decide) (fun c9 => absurd c9 (by decide)) (fun _ => ?_)
    refine lv_iconst (v := (-1)) hx hb dX8_hour_9 (by decide) ?_
    have hpost : (¬ ((0 ≤ x0.toInt ∧ x0.toInt < (v 1 2).toInt) ∧ 0 ≤ x1.toInt ∧ x1.toInt < (v 1 (38 + 7 * x0.toNatClampNeg)).toInt) → (((-1) : Int32) = -1) ∧ Fq v v) ∧ (((0 ≤ x0.toInt ∧ x0.toInt < (v 1 2).toInt) ∧ 0 ≤ x1.toInt ∧ x1.toInt < (v 1 (38 + 7 * x0.toNatClampNeg)).toInt) ∧ (v 1 (159 + 25 * x0.toNatClampNeg + 5 * x1.toNatClampNeg)).toInt = 0 → (((-1) : Int32) = -4) ∧ Fq v v) ∧ ((((0 ≤ x0.toInt ∧ x0.toInt < (v 1 2).toInt) ∧ 0 ≤ x1.toInt ∧ x1.toInt < (v 1 (38 + 7 * x0.toNatClampNeg)).toInt) ∧ (v 1 (159 + 25 * x0.toNatClampNeg + 5 * x1.toNatClampNeg)).toInt ≠ 0) ∧ ¬ TB (fun t k => (v 1 (158 + k + 25 * x0.toNatClampNeg + 5 * t)).toInt) (v 1 (158 + 25 * x0.toNatClampNeg + 5 * x1.toNatClampNeg)).toInt (v 1 (38 + 7 * x0.toNatClampNeg)).toNatClampNeg → (((-1) : Int32) = -5) ∧ Fq v v) ∧ ((((0 ≤ x0.toInt ∧ x0.toInt < (v 1 2).toInt) ∧ 0 ≤ x1.toInt ∧ x1.toInt < (v 1 (38 + 7 * x0.toNatClampNeg)).toInt) ∧ (v 1 (159 + 25 * x0.toNatClampNeg + 5 * x1.toNatClampNeg)).toInt ≠ 0) ∧ TB (fun t k => (v 1 (158 + k + 25 * x0.toNatClampNeg + 5 * t)).toInt) (v 1 (158 + 25 * x0.toNatClampNeg + 5 * x1.toNatClampNeg)).toInt (v 1 (38 + 7 * x0.toNatClampNeg)).toNatClampNeg → (((-1) : Int32) = v 7 x1.toNatClampNeg ∧ 0 ≤ ((-1) : Int32).toInt ∧ lmin (v 1 (38 + 7 * x0.toNatClampNeg)).toNatClampNeg (alw (fun t k => (v 1 (158 + k + 25 * x0.toNatClampNeg + 5 * t)).toInt) (v 1 (158 + 25 * x0.toNatClampNeg + 5 * x1.toNatClampNeg)).toInt (v 1 (38 + 7 * x0.toNatClampNeg)).toNatClampNeg) (own (fun t k => (v 1 (158 + k + 25 * x0.toNatClampNeg + 5 * t)).toInt) (v 1 (158 + 25 * x0.toNatClampNeg + 5 * x1.toNatClampNeg)).toInt) (fun q => (v 7 q).toNatClampNeg)) ∧ Fq v v) := by
      refine ⟨fun hq => ?_, fun hq => ?_, fun hq => ?_, fun hq => ?_⟩
      · exact ⟨rfl, Fq.rf⟩
      · exact absurd hq.1 (by omega)
      · exact absurd hq.1.1 (by omega)
      · exact absurd hq.1.1 (by omega)
    exact W.iret (v := (-1)) hx hb hr (fun t ht hW => ⟨⟨(-1), v, rfl, ⟨hv, hpost⟩, by rw [ht]; exact hP, hD⟩, hS.F ht⟩) hS.2.2 dX8_hour_10

section TBR
variable {n : Int32} {v v2 u u2 : Nat → Nat → Int32}
theorem RR3_T (h : RR3 n v v2) : ∀ c t : Nat, c < 6 → (c : Int) < (v 13 2).toInt → t < 5 → (t : Int) < (v (29 + 15 * c) 5).toInt → (v (39 + 15 * c + t) 3).toInt ≤ (v (39 + 15 * c + t) 4).toInt := fun c t hc ha ht hr => by
  have e2 : v 13 2 = v2 1 2 := h.1.1.1 _ _ _ (lk_a (by decide))
  rw [e2] at ha
  have e5 : v (29 + 15 * c) 5 = v2 1 (38 + 7 * c) := h.1.1.1 _ _ _ (lk_c5 hc ha)
  rw [e5] at hr
  have e3 : v (39 + 15 * c + t) 3 = v2 1 (161 + 25 * c + 5 * t) := (h.1.1.1 _ _ _ (lk_t (j := 3) hc ha ht hr (by decide))).trans (congrArg (v2 1) (by omega))
  have e4 : v (39 + 15 * c + t) 4 = v2 1 (162 + 25 * c + 5 * t) := (h.1.1.1 _ _ _ (lk_t (j := 4) hc ha ht hr (by decide))).trans (congrArg (v2 1) (by omega))
  rw [e3, e4]
  exact (h.2.1 c hc ha).2.2.2 t ht hr
theorem RR3_D (h : RR3 n v v2) {c m : Nat} (hc : c < 6) (ha : (c : Int) < (v2 1 2).toInt) (hm5 : m ≤ 5) (hm : (m : Int) ≤ (v2 1 (38 + 7 * c)).toInt) : ∀ t k : Nat, t < m → k < 5 → (fun t k => (v (39 + 15 * c + t) k).toInt) t k = (fun t k => (v2 1 (158 + k + 25 * c + 5 * t)).toInt) t k := fun t k ht hk => congrArg Int32.toInt ((h.1.1.1 _ _ _ (lk_t (j := k) hc ha (by omega) (by omega) hk)).trans (congrArg (v2 1) (by omega)))
end TBR

set_option maxHeartbeats 4000000 in
theorem S_canHold {n r r2 x0 x1 : Int32} {v u v2 u2 : Nat → Nat → Int32} (hI : Iv v) (hQ : Ir v2) (h3 : RR3 n v v2) (p : (¬ ((0 ≤ x0.toInt ∧ x0.toInt < (v 13 2).toInt) ∧ 0 ≤ x1.toInt ∧ x1.toInt ≤ 1) → (r = -1) ∧ Fz v u) ∧ (((0 ≤ x0.toInt ∧ x0.toInt < (v 13 2).toInt) ∧ 0 ≤ x1.toInt ∧ x1.toInt ≤ 1) ∧ TB (fun t k => (v (39 + 15 * x0.toNatClampNeg + t) k).toInt) x1.toInt (v (29 + 15 * x0.toNatClampNeg) 5).toNatClampNeg → (r = 1) ∧ Fz v u) ∧ (((0 ≤ x0.toInt ∧ x0.toInt < (v 13 2).toInt) ∧ 0 ≤ x1.toInt ∧ x1.toInt ≤ 1) ∧ ¬ TB (fun t k => (v (39 + 15 * x0.toNatClampNeg + t) k).toInt) x1.toInt (v (29 + 15 * x0.toNatClampNeg) 5).toNatClampNeg → (r = 0) ∧ Fz v u)) (q : (¬ ((0 ≤ x0.toInt ∧ x0.toInt < (v2 1 2).toInt) ∧ 0 ≤ x1.toInt ∧ x1.toInt ≤ 1) → (r2 = -1) ∧ Fq v2 u2) ∧ (((0 ≤ x0.toInt ∧ x0.toInt < (v2 1 2).toInt) ∧ 0 ≤ x1.toInt ∧ x1.toInt ≤ 1) ∧ TB (fun t k => (v2 1 (158 + k + 25 * x0.toNatClampNeg + 5 * t)).toInt) x1.toInt (v2 1 (38 + 7 * x0.toNatClampNeg)).toNatClampNeg → (r2 = 1) ∧ Fq v2 u2) ∧ (((0 ≤ x0.toInt ∧ x0.toInt < (v2 1 2).toInt) ∧ 0 ≤ x1.toInt ∧ x1.toInt ≤ 1) ∧ ¬ TB (fun t k => (v2 1 (158 + k + 25 * x0.toNatClampNeg + 5 * t)).toInt) x1.toInt (v2 1 (38 + 7 * x0.toNatClampNeg)).toNatClampNeg → (r2 = 0) ∧ Fq v2 u2)) : r = r2 ∧ RR3 n u u2 := by
  have h := h3.1
  have e0 : v 13 0 = v2 1 0 := h.1.1 _ _ _ (lk_a (by decide))
  have e1 : v 13 1 = v2 1 1 := h.1.1 _ _ _ (lk_a (by decide))
  have e2 : v 13 2 = v2 1 2 := h.1.1 _ _ _ (lk_a (by decide))
  have e3 : v 13 3 = v2 1 3 := h.1.1 _ _ _ (lk_a (by decide))
  have hb0 := hQ 1 0 8 (by decide)
  have hb1 := hQ 1 1 4 (by decide)
  have hb2 := hQ 1 2 6 (by decide)
  have hb3 := hQ 1 3 6 (by decide)
  rw [e2] at p
  by_cases hC : (0 ≤ x0.toInt ∧ x0.toInt < (v2 1 2).toInt) ∧ 0 ≤ x1.toInt ∧ x1.toInt ≤ 1
  · have zX := t_nn (x := x0) (by omega)
    have hX : x0.toNatClampNeg < 6 := by omega
    have ha : (x0.toNatClampNeg : Int) < (v2 1 2).toInt := by omega
    have ev : v (29 + 15 * x0.toNatClampNeg) 5 = v2 1 (38 + 7 * x0.toNatClampNeg) := h.1.1 _ _ _ (lk_c5 hX ha)
    rw [ev] at p
    have hb := hQ 1 (38 + 7 * x0.toNatClampNeg) 5 (bS_c (by omega) (by omega))
    have zn := t_nn hb.1
    have key := TB_cg (sd := x1.toInt) (RR3_D h3 hX ha (m := (v2 1 (38 + 7 * x0.toNatClampNeg)).toNatClampNeg) (by omega) (by omega))
    by_cases hF : TB (fun t k => (v2 1 (158 + k + 25 * x0.toNatClampNeg + 5 * t)).toInt) x1.toInt (v2 1 (38 + 7 * x0.toNatClampNeg)).toNatClampNeg
    · obtain ⟨p1, p2⟩ := p.2.1 ⟨hC, key.mpr hF⟩
      obtain ⟨q1, q2⟩ := q.2.1 ⟨hC, hF⟩
      exact ⟨by rw [p1, q1], h3.mv p2 q2⟩
    · obtain ⟨p1, p2⟩ := p.2.2 ⟨hC, fun w => hF (key.mp w)⟩
      obtain ⟨q1, q2⟩ := q.2.2 ⟨hC, hF⟩
      exact ⟨by rw [p1, q1], h3.mv p2 q2⟩
  · obtain ⟨p1, p2⟩ := p.1 hC
    obtain ⟨q1, q2⟩ := q.1 hC
    exact ⟨by rw [p1, q1], h3.mv p2 q2⟩

set_option maxHeartbeats 4000000 in
theorem S_breaks {n r r2 x0 x1 : Int32} {v u v2 u2 : Nat → Nat → Int32} (hI : Iv v) (hQ : Ir v2) (h3 : RR3 n v v2) (p : (¬ ((0 ≤ x0.toInt ∧ x0.toInt < (v 13 2).toInt) ∧ 0 ≤ x1.toInt ∧ x1.toInt ≤ 1) → (r = -1) ∧ Fz v u) ∧ ((0 ≤ x0.toInt ∧ x0.toInt < (v 13 2).toInt) ∧ 0 ≤ x1.toInt ∧ x1.toInt ≤ 1 → (((r.toInt = -5 ∧ ∀ t : Nat, t < (v (29 + 15 * x0.toNatClampNeg) 5).toNatClampNeg → (fun t k => (v (39 + 15 * x0.toNatClampNeg + t) k).toInt) t 0 = x1.toInt → TB (fun t k => (v (39 + 15 * x0.toNatClampNeg + t) k).toInt) x1.toInt (t + 1)) ∨ ((0 ≤ r.toInt ∧ r.toNatClampNeg < (v (29 + 15 * x0.toNatClampNeg) 5).toNatClampNeg) ∧ ((fun t k => (v (39 + 15 * x0.toNatClampNeg + t) k).toInt) r.toNatClampNeg 0 = x1.toInt ∧ ¬ TB (fun t k => (v (39 + 15 * x0.toNatClampNeg + t) k).toInt) x1.toInt (r.toNatClampNeg + 1)) ∧ ∀ t : Nat, t < r.toNatClampNeg → (fun t k => (v (39 + 15 * x0.toNatClampNeg + t) k).toInt) t 0 = x1.toInt → TB (fun t k => (v (39 + 15 * x0.toNatClampNeg + t) k).toInt) x1.toInt (t + 1)))) ∧ Fz v u)) (q : (¬ ((0 ≤ x0.toInt ∧ x0.toInt < (v2 1 2).toInt) ∧ 0 ≤ x1.toInt ∧ x1.toInt ≤ 1) → (r2 = -1) ∧ Fq v2 u2) ∧ ((0 ≤ x0.toInt ∧ x0.toInt < (v2 1 2).toInt) ∧ 0 ≤ x1.toInt ∧ x1.toInt ≤ 1 → (((r2.toInt = -5 ∧ ∀ t : Nat, t < (v2 1 (38 + 7 * x0.toNatClampNeg)).toNatClampNeg → (fun t k => (v2 1 (158 + k + 25 * x0.toNatClampNeg + 5 * t)).toInt) t 0 = x1.toInt → TB (fun t k => (v2 1 (158 + k + 25 * x0.toNatClampNeg + 5 * t)).toInt) x1.toInt (t + 1)) ∨ ((0 ≤ r2.toInt ∧ r2.toNatClampNeg < (v2 1 (38 + 7 * x0.toNatClampNeg)).toNatClampNeg) ∧ ((fun t k => (v2 1 (158 + k + 25 * x0.toNatClampNeg + 5 * t)).toInt) r2.toNatClampNeg 0 = x1.toInt ∧ ¬ TB (fun t k => (v2 1 (158 + k + 25 * x0.toNatClampNeg + 5 * t)).toInt) x1.toInt (r2.toNatClampNeg + 1)) ∧ ∀ t : Nat, t < r2.toNatClampNeg → (fun t k => (v2 1 (158 + k + 25 * x0.toNatClampNeg + 5 * t)).toInt) t 0 = x1.toInt → TB (fun t k => (v2 1 (158 + k + 25 * x0.toNatClampNeg + 5 * t)).toInt) x1.toInt (t + 1)))) ∧ Fq v2 u2)) : r = r2 ∧ RR3 n u u2 := by
  have h := h3.1
  have e0 : v 13 0 = v2 1 0 := h.1.1 _ _ _ (lk_a (by decide))
  have e1 : v 13 1 = v2 1 1 := h.1.1 _ _ _ (lk_a (by decide))
  have e2 : v 13 2 = v2 1 2 := h.1.1 _ _ _ (lk_a (by decide))
  have e3 : v 13 3 = v2 1 3 := h.1.1 _ _ _ (lk_a (by decide))
  have hb0 := hQ 1 0 8 (by decide)
  have hb1 := hQ 1 1 4 (by decide)
  have hb2 := hQ 1 2 6 (by decide)
  have hb3 := hQ 1 3 6 (by decide)
  rw [e2] at p
  by_cases hC : (0 ≤ x0.toInt ∧ x0.toInt < (v2 1 2).toInt) ∧ 0 ≤ x1.toInt ∧ x1.toInt ≤ 1
  · have zX := t_nn (x := x0) (by omega)
    have hX : x0.toNatClampNeg < 6 := by omega
    have ha : (x0.toNatClampNeg : Int) < (v2 1 2).toInt := by omega
    have ev : v (29 + 15 * x0.toNatClampNeg) 5 = v2 1 (38 + 7 * x0.toNatClampNeg) := h.1.1 _ _ _ (lk_c5 hX ha)
    rw [ev] at p
    have hb := hQ 1 (38 + 7 * x0.toNatClampNeg) 5 (bS_c (by omega) (by omega))
    have zn := t_nn hb.1
    have key : ∀ t : Nat, t < (v2 1 (38 + 7 * x0.toNatClampNeg)).toNatClampNeg → ((fun t k => (v (39 + 15 * x0.toNatClampNeg + t) k).toInt) t 0 = x1.toInt ↔ (fun t k => (v2 1 (158 + k + 25 * x0.toNatClampNeg + 5 * t)).toInt) t 0 = x1.toInt) ∧ (TB (fun t k => (v (39 + 15 * x0.toNatClampNeg + t) k).toInt) x1.toInt (t + 1) ↔ TB (fun t k => (v2 1 (158 + k + 25 * x0.toNatClampNeg + 5 * t)).toInt) x1.toInt (t + 1)) := fun t ht => ⟨by rw [RR3_D h3 hX ha (m := (v2 1 (38 + 7 * x0.toNatClampNeg)).toNatClampNeg) (by omega) (by omega) t 0 ht (by decide)], TB_cg (RR3_D h3 hX ha (m := t + 1) (by omega) (by omega))⟩
    obtain ⟨p1, p2⟩ := p.2 hC
    obtain ⟨q1, q2⟩ := q.2 hC
    refine ⟨Int32.toInt_inj.mp ?_, h3.mv p2 q2⟩
    rcases p1 with ⟨a1, a2⟩ | ⟨⟨a1, a2⟩, ⟨a3, a4⟩, a5⟩
    · rcases q1 with ⟨b1, b2⟩ | ⟨⟨b1, b2⟩, ⟨b3, b4⟩, b5⟩
      · omega
      · exact absurd ((key _ b2).2.mp (a2 _ b2 ((key _ b2).1.mpr b3))) b4
    · have z1 := t_nn a1
      rcases q1 with ⟨b1, b2⟩ | ⟨⟨b1, b2⟩, ⟨b3, b4⟩, b5⟩
      · exact absurd ((key _ a2).2.mpr (b2 _ a2 ((key _ a2).1.mp a3))) a4
      · have z2 := t_nn b1
        rcases Nat.lt_trichotomy r.toNatClampNeg r2.toNatClampNeg with w | w | w
        · exact absurd ((key _ a2).2.mpr (b5 _ w ((key _ a2).1.mp a3))) a4
        · omega
        · exact absurd ((key _ b2).2.mp (a5 _ w ((key _ b2).1.mpr b3))) b4
  · obtain ⟨p1, p2⟩ := p.1 hC
    obtain ⟨q1, q2⟩ := q.1 hC
    exact ⟨by rw [p1, q1], h3.mv p2 q2⟩

set_option maxHeartbeats 4000000 in
theorem S_hour {n r r2 x0 x1 : Int32} {v u v2 u2 : Nat → Nat → Int32} (hI : Iv v) (hQ : Ir v2) (h3 : RR3 n v v2) (p : (¬ ((0 ≤ x0.toInt ∧ x0.toInt < (v 13 2).toInt) ∧ 0 ≤ x1.toInt ∧ x1.toInt < (v (29 + 15 * x0.toNatClampNeg) 5).toInt) → (r = -1) ∧ Fz v u) ∧ (((0 ≤ x0.toInt ∧ x0.toInt < (v 13 2).toInt) ∧ 0 ≤ x1.toInt ∧ x1.toInt < (v (29 + 15 * x0.toNatClampNeg) 5).toInt) ∧ (v (39 + 15 * x0.toNatClampNeg + x1.toNatClampNeg) 1).toInt = 0 → (r = -4) ∧ Fz v u) ∧ ((((0 ≤ x0.toInt ∧ x0.toInt < (v 13 2).toInt) ∧ 0 ≤ x1.toInt ∧ x1.toInt < (v (29 + 15 * x0.toNatClampNeg) 5).toInt) ∧ (v (39 + 15 * x0.toNatClampNeg + x1.toNatClampNeg) 1).toInt ≠ 0) ∧ ¬ TB (fun t k => (v (39 + 15 * x0.toNatClampNeg + t) k).toInt) (v (39 + 15 * x0.toNatClampNeg + x1.toNatClampNeg) 0).toInt (v (29 + 15 * x0.toNatClampNeg) 5).toNatClampNeg → (r = -5) ∧ Fz v u) ∧ ((((0 ≤ x0.toInt ∧ x0.toInt < (v 13 2).toInt) ∧ 0 ≤ x1.toInt ∧ x1.toInt < (v (29 + 15 * x0.toNatClampNeg) 5).toInt) ∧ (v (39 + 15 * x0.toNatClampNeg + x1.toNatClampNeg) 1).toInt ≠ 0) ∧ TB (fun t k => (v (39 + 15 * x0.toNatClampNeg + t) k).toInt) (v (39 + 15 * x0.toNatClampNeg + x1.toNatClampNeg) 0).toInt (v (29 + 15 * x0.toNatClampNeg) 5).toNatClampNeg → (∀ M : Nat → Nat, lmin (v (29 + 15 * x0.toNatClampNeg) 5).toNatClampNeg (alw (fun t k => (v (39 + 15 * x0.toNatClampNeg + t) k).toInt) (v (39 + 15 * x0.toNatClampNeg + x1.toNatClampNeg) 0).toInt (v (29 + 15 * x0.toNatClampNeg) 5).toNatClampNeg) (own (fun t k => (v (39 + 15 * x0.toNatClampNeg + t) k).toInt) (v (39 + 15 * x0.toNatClampNeg + x1.toNatClampNeg) 0).toInt) M → r.toInt = ((M x1.toNatClampNeg : Nat) : Int)) ∧ Fz v u)) (q : (¬ ((0 ≤ x0.toInt ∧ x0.toInt < (v2 1 2).toInt) ∧ 0 ≤ x1.toInt ∧ x1.toInt < (v2 1 (38 + 7 * x0.toNatClampNeg)).toInt) → (r2 = -1) ∧ Fq v2 u2) ∧ (((0 ≤ x0.toInt ∧ x0.toInt < (v2 1 2).toInt) ∧ 0 ≤ x1.toInt ∧ x1.toInt < (v2 1 (38 + 7 * x0.toNatClampNeg)).toInt) ∧ (v2 1 (159 + 25 * x0.toNatClampNeg + 5 * x1.toNatClampNeg)).toInt = 0 → (r2 = -4) ∧ Fq v2 u2) ∧ ((((0 ≤ x0.toInt ∧ x0.toInt < (v2 1 2).toInt) ∧ 0 ≤ x1.toInt ∧ x1.toInt < (v2 1 (38 + 7 * x0.toNatClampNeg)).toInt) ∧ (v2 1 (159 + 25 * x0.toNatClampNeg + 5 * x1.toNatClampNeg)).toInt ≠ 0) ∧ ¬ TB (fun t k => (v2 1 (158 + k + 25 * x0.toNatClampNeg + 5 * t)).toInt) (v2 1 (158 + 25 * x0.toNatClampNeg + 5 * x1.toNatClampNeg)).toInt (v2 1 (38 + 7 * x0.toNatClampNeg)).toNatClampNeg → (r2 = -5) ∧ Fq v2 u2) ∧ ((((0 ≤ x0.toInt ∧ x0.toInt < (v2 1 2).toInt) ∧ 0 ≤ x1.toInt ∧ x1.toInt < (v2 1 (38 + 7 * x0.toNatClampNeg)).toInt) ∧ (v2 1 (159 + 25 * x0.toNatClampNeg + 5 * x1.toNatClampNeg)).toInt ≠ 0) ∧ TB (fun t k => (v2 1 (158 + k + 25 * x0.toNatClampNeg + 5 * t)).toInt) (v2 1 (158 + 25 * x0.toNatClampNeg + 5 * x1.toNatClampNeg)).toInt (v2 1 (38 + 7 * x0.toNatClampNeg)).toNatClampNeg → (r2 = u2 7 x1.toNatClampNeg ∧ 0 ≤ r2.toInt ∧ lmin (v2 1 (38 + 7 * x0.toNatClampNeg)).toNatClampNeg (alw (fun t k => (v2 1 (158 + k + 25 * x0.toNatClampNeg + 5 * t)).toInt) (v2 1 (158 + 25 * x0.toNatClampNeg + 5 * x1.toNatClampNeg)).toInt (v2 1 (38 + 7 * x0.toNatClampNeg)).toNatClampNeg) (own (fun t k => (v2 1 (158 + k + 25 * x0.toNatClampNeg + 5 * t)).toInt) (v2 1 (158 + 25 * x0.toNatClampNeg + 5 * x1.toNatClampNeg)).toInt) (fun q => (u2 7 q).toNatClampNeg)) ∧ Fq v2 u2)) : r = r2 ∧ RR3 n u u2 := by
  have h := h3.1
  have e0 : v 13 0 = v2 1 0 := h.1.1 _ _ _ (lk_a (by decide))
  have e1 : v 13 1 = v2 1 1 := h.1.1 _ _ _ (lk_a (by decide))
  have e2 : v 13 2 = v2 1 2 := h.1.1 _ _ _ (lk_a (by decide))
  have e3 : v 13 3 = v2 1 3 := h.1.1 _ _ _ (lk_a (by decide))
  have hb0 := hQ 1 0 8 (by decide)
  have hb1 := hQ 1 1 4 (by decide)
  have hb2 := hQ 1 2 6 (by decide)
  have hb3 := hQ 1 3 6 (by decide)
  rw [e2] at p
  by_cases hC : (0 ≤ x0.toInt ∧ x0.toInt < (v2 1 2).toInt)
  · have zX := t_nn (x := x0) (by omega)
    have hX : x0.toNatClampNeg < 6 := by omega
    have ha : (x0.toNatClampNeg : Int) < (v2 1 2).toInt := by omega
    have ev : v (29 + 15 * x0.toNatClampNeg) 5 = v2 1 (38 + 7 * x0.toNatClampNeg) := h.1.1 _ _ _ (lk_c5 hX ha)
    rw [ev] at p
    have hb := hQ 1 (38 + 7 * x0.toNatClampNeg) 5 (bS_c (by omega) (by omega))
    have zn := t_nn hb.1
    by_cases hT : 0 ≤ x1.toInt ∧ x1.toInt < (v2 1 (38 + 7 * x0.toNatClampNeg)).toInt
    · have zT := t_nn (x := x1) (by omega)
      have hD := RR3_D h3 hX ha (m := (v2 1 (38 + 7 * x0.toNatClampNeg)).toNatClampNeg) (by omega) (by omega)
      have s0 : v (39 + 15 * x0.toNatClampNeg + x1.toNatClampNeg) 0 = v2 1 (158 + 25 * x0.toNatClampNeg + 5 * x1.toNatClampNeg) := h.1.1 _ _ _ (lk_t (j := 0) hX ha (by omega) (by omega) (by decide))
      have s1 : v (39 + 15 * x0.toNatClampNeg + x1.toNatClampNeg) 1 = v2 1 (159 + 25 * x0.toNatClampNeg + 5 * x1.toNatClampNeg) := (h.1.1 _ _ _ (lk_t (j := 1) hX ha (by omega) (by omega) (by decide))).trans (congrArg (v2 1) (by omega))
      rw [s0, s1] at p
      by_cases hM : (v2 1 (159 + 25 * x0.toNatClampNeg + 5 * x1.toNatClampNeg)).toInt = 0
      · obtain ⟨p1, p2⟩ := p.2.1 ⟨⟨hC, hT⟩, hM⟩
        obtain ⟨q1, q2⟩ := q.2.1 ⟨⟨hC, hT⟩, hM⟩
        exact ⟨by rw [p1, q1], h3.mv p2 q2⟩
      · have key := TB_cg (sd := (v2 1 (158 + 25 * x0.toNatClampNeg + 5 * x1.toNatClampNeg)).toInt) hD
        by_cases hF : TB (fun t k => (v2 1 (158 + k + 25 * x0.toNatClampNeg + 5 * t)).toInt) (v2 1 (158 + 25 * x0.toNatClampNeg + 5 * x1.toNatClampNeg)).toInt (v2 1 (38 + 7 * x0.toNatClampNeg)).toNatClampNeg
        · obtain ⟨p1, p2⟩ := p.2.2.2 ⟨⟨⟨hC, hT⟩, hM⟩, key.mpr hF⟩
          obtain ⟨⟨q1, q3, q4⟩, q2⟩ := q.2.2.2 ⟨⟨⟨hC, hT⟩, hM⟩, hF⟩
          have w := p1 _ (lmin_cg hD q4)
          refine ⟨Int32.toInt_inj.mp ?_, h3.mv p2 q2⟩
          have w : r.toInt = (((u2 7 x1.toNatClampNeg).toNatClampNeg : Nat) : Int) := w
          rw [← q1] at w
          have zr := t_nn q3
          omega
        · obtain ⟨p1, p2⟩ := p.2.2.1 ⟨⟨⟨hC, hT⟩, hM⟩, fun w => hF (key.mp w)⟩
          obtain ⟨q1, q2⟩ := q.2.2.1 ⟨⟨⟨hC, hT⟩, hM⟩, hF⟩
          exact ⟨by rw [p1, q1], h3.mv p2 q2⟩
    · obtain ⟨p1, p2⟩ := p.1 (fun w => hT w.2)
      obtain ⟨q1, q2⟩ := q.1 (fun w => hT w.2)
      exact ⟨by rw [p1, q1], h3.mv p2 q2⟩
  · obtain ⟨p1, p2⟩ := p.1 (fun w => hC w.1)
    obtain ⟨q1, q2⟩ := q.1 (fun w => hC w.1)
    exact ⟨by rw [p1, q1], h3.mv p2 q2⟩
noncomputable def wsL_law_r1 : List Cond := [Cond.classLink RL 7 RX7, Cond.instantiable RX7 5, Cond.initialized RX7, Cond.classLink RL 10 RX8, Cond.instantiable RX8 11, Cond.initialized RX8, Cond.methodLink RL 9 yX7_init, Cond.instanceMethod yX7_init, Cond.code yX7_init cX7_init 1 none, Cond.methodLink RX7 3 objectInit, Cond.instanceMethod objectInit, Cond.code objectInit ⟨#[0xb1]⟩ 1 none, Cond.classLink RX7 9 RX1, Cond.instantiable RX1 7, Cond.initialized RX1, Cond.fieldLink RX7 12 "QuietStairs" "now" "LQuietStairs$House;", Cond.classLink RX7 16 RX4, Cond.instantiable RX4 11, Cond.initialized RX4, Cond.fieldLink RX7 19 "QuietStairs" "planner" "LQuietStairs$Planner;", Cond.classLink RX7 23 RX5, Cond.instantiable RX5 3, Cond.initialized RX5, Cond.fieldLink RX7 26 "QuietStairs" "table" "LQuietStairs$Table;"]
noncomputable def wsL_law_r2 : List Cond := [Cond.fieldLink RX7 30 "QuietStairs" "kept" "LQuietStairs$House;", Cond.fieldLink RX7 33 "QuietStairs" "roomCount" "I", Cond.methodLink RX7 11 yX1_init, Cond.instanceMethod yX1_init, Cond.code yX1_init cX1_init 2 none, Cond.methodLink RX1 3 objectInit, Cond.classLink RX1 9 RX3, Cond.fieldLink RX1 11 "QuietStairs$House" "parties" "[LQuietStairs$Party;", Cond.classLink RX1 17 RX2, Cond.fieldLink RX1 19 "QuietStairs$House" "mediators" "[LQuietStairs$Mediator;", Cond.classLink RX1 23 RX0, Cond.fieldLink RX1 25 "QuietStairs$House" "cases" "[LQuietStairs$Case;", Cond.instantiable RX3 2, Cond.initialized RX3, Cond.instantiable RX2 3, Cond.initialized RX2, Cond.instantiable RX0 11, Cond.initialized RX0, Cond.instanceMethod yX3_init, Cond.code yX3_init cX3_init 1 none, Cond.methodLink RX3 1 objectInit, Cond.instanceMethod yX2_init, Cond.code yX2_init cX2_init 1 none, Cond.methodLink RX2 1 objectInit]
noncomputable def wsL_law_r3 : List Cond := [Cond.methodLink RX1 31 yX0_init, Cond.instanceMethod yX0_init, Cond.code yX0_init cX0_init 2 none, Cond.methodLink RX0 3 objectInit, Cond.arrayClass .int, Cond.fieldLink RX0 9 "QuietStairs$Case" "parties" "[I", Cond.fieldLink RX0 15 "QuietStairs$Case" "box" "[I", Cond.classLink RX0 18 "[[I", Cond.fieldLink RX0 20 "QuietStairs$Case" "offers" "[[I", Cond.fieldLink RX0 23 "QuietStairs$Case" "logs" "[[I", Cond.classLink RX0 26 RX6, Cond.fieldLink RX0 28 "QuietStairs$Case" "terms" "[LQuietStairs$Term;", Cond.instantiable RX6 5, Cond.initialized RX6, Cond.instanceMethod yX6_init, Cond.code yX6_init cX6_init 1 none, Cond.methodLink RX6 1 objectInit, Cond.instanceMethod yX4_init, Cond.code yX4_init cX4_init 1 none, Cond.methodLink RX4 3 objectInit, Cond.fieldLink RX4 9 "QuietStairs$Planner" "numbers" "[I", Cond.fieldLink RX4 15 "QuietStairs$Planner" "weights" "[I", Cond.fieldLink RX4 18 "QuietStairs$Planner" "pairBits" "[I", Cond.fieldLink RX4 21 "QuietStairs$Planner" "heaviestFirst" "[I"]
noncomputable def wsL_law_r4 : List Cond := [Cond.fieldLink RX4 24 "QuietStairs$Planner" "seats" "[I", Cond.fieldLink RX4 27 "QuietStairs$Planner" "bestSeats" "[I", Cond.fieldLink RX4 30 "QuietStairs$Planner" "busyBits" "[I", Cond.fieldLink RX4 33 "QuietStairs$Planner" "sittings" "[I", Cond.instanceMethod yX5_init, Cond.code yX5_init cX5_init 1 none, Cond.methodLink RX5 3 objectInit, Cond.fieldLink RX5 9 "QuietStairs$Table" "musts" "[I", Cond.fieldLink RX5 15 "QuietStairs$Table" "hourBits" "[I", Cond.methodLink RL 12 yX8_init, Cond.instanceMethod yX8_init, Cond.code yX8_init cX8_init 1 none, Cond.methodLink RX8 1 objectInit, Cond.fieldLink RX8 7 "QuietStairsModel" "s" "[I", Cond.fieldLink RX8 13 "QuietStairsModel" "kept" "[I", Cond.fieldLink RX8 16 "QuietStairsModel" "rooms" "I", Cond.fieldLink RX8 20 "QuietStairsModel" "headOf" "[I", Cond.fieldLink RX8 23 "QuietStairsModel" "planned" "[I", Cond.fieldLink RX8 26 "QuietStairsModel" "tried" "[I", Cond.fieldLink RX8 29 "QuietStairsModel" "best" "[I", Cond.fieldLink RX8 32 "QuietStairsModel" "hours" "[I", Cond.methodLink RL 13 yX7_party, Cond.instanceMethod yX7_party, Cond.selects RX7 yX7_party yX7_party]
noncomputable def wsL_law_r5 : List Cond := [Cond.code yX7_party cX7_party 4 (some .int), Cond.fieldLink RX7 41 "QuietStairs$House" "partyCount" "I", Cond.fieldLink RX7 44 "QuietStairs$House" "parties" "[LQuietStairs$Party;", Cond.fieldLink RX7 48 "QuietStairs$Party" "floor" "I", Cond.fieldLink RX7 53 "QuietStairs$Party" "tongue" "I", Cond.methodLink RX7 37 yX7_isWithin, Cond.static yX7_isWithin, Cond.code yX7_isWithin cX7_isWithin 3 (some .boolean), Cond.methodLink RL 17 yX8_party, Cond.instanceMethod yX8_party, Cond.selects RX8 yX8_party yX8_party, Cond.code yX8_party cX8_party 5 (some .int), Cond.methodLink RX8 35 yX8_in, Cond.static yX8_in, Cond.code yX8_in cX8_in 3 (some .boolean), Cond.methodLink RL 18 yX7_mediator, Cond.instanceMethod yX7_mediator, Cond.selects RX7 yX7_mediator yX7_mediator, Cond.code yX7_mediator cX7_mediator 4 (some .int), Cond.fieldLink RX7 56 "QuietStairs$House" "mediatorCount" "I", Cond.fieldLink RX7 59 "QuietStairs$House" "mediators" "[LQuietStairs$Mediator;", Cond.fieldLink RX7 63 "QuietStairs$Mediator" "floor" "I", Cond.fieldLink RX7 66 "QuietStairs$Mediator" "tongues" "I", Cond.fieldLink RX7 69 "QuietStairs$Mediator" "kinBits" "I"]
noncomputable def wsL_law_r6 : List Cond := [Cond.methodLink RL 21 yX8_mediator, Cond.instanceMethod yX8_mediator, Cond.selects RX8 yX8_mediator yX8_mediator, Cond.code yX8_mediator cX8_mediator 4 (some .int), Cond.methodLink RL 22 yX7_kin, Cond.instanceMethod yX7_kin, Cond.selects RX7 yX7_kin yX7_kin, Cond.code yX7_kin cX7_kin 5 (some .int), Cond.methodLink RX7 72 yX7_isMediator, Cond.instanceMethod yX7_isMediator, Cond.selects RX7 yX7_isMediator yX7_isMediator, Cond.code yX7_isMediator cX7_isMediator 2 (some .boolean), Cond.methodLink RX7 76 yX7_isParty, Cond.instanceMethod yX7_isParty, Cond.selects RX7 yX7_isParty yX7_isParty, Cond.code yX7_isParty cX7_isParty 2 (some .boolean), Cond.methodLink RX7 79 yX7_hasBit, Cond.static yX7_hasBit, Cond.code yX7_hasBit cX7_hasBit 2 (some .boolean), Cond.methodLink RL 26 yX8_kin, Cond.instanceMethod yX8_kin, Cond.selects RX8 yX8_kin yX8_kin, Cond.code yX8_kin cX8_kin 5 (some .int), Cond.methodLink RX8 39 yX8_isMediator]
noncomputable def wsL_law_r7 : List Cond := [Cond.instanceMethod yX8_isMediator, Cond.selects RX8 yX8_isMediator yX8_isMediator, Cond.code yX8_isMediator cX8_isMediator 2 (some .boolean), Cond.methodLink RX8 43 yX8_isParty, Cond.instanceMethod yX8_isParty, Cond.selects RX8 yX8_isParty yX8_isParty, Cond.code yX8_isParty cX8_isParty 2 (some .boolean), Cond.methodLink RL 27 yX7_open, Cond.instanceMethod yX7_open, Cond.selects RX7 yX7_open yX7_open, Cond.code yX7_open cX7_open 3 (some .int), Cond.fieldLink RX7 83 "QuietStairs$House" "caseCount" "I", Cond.fieldLink RX7 86 "QuietStairs$House" "cases" "[LQuietStairs$Case;", Cond.methodLink RX7 90 yX0_begin, Cond.instanceMethod yX0_begin, Cond.selects RX0 yX0_begin yX0_begin, Cond.code yX0_begin cX0_begin 5 none, Cond.fieldLink RX0 33 "QuietStairs$Case" "state" "I", Cond.fieldLink RX0 37 "QuietStairs$Case" "sum" "I", Cond.fieldLink RX0 40 "QuietStairs$Case" "roundsOver" "I", Cond.fieldLink RX0 43 "QuietStairs$Case" "weight" "I", Cond.fieldLink RX0 46 "QuietStairs$Case" "markedBits" "I", Cond.fieldLink RX0 49 "QuietStairs$Case" "termCount" "I", Cond.methodLink RL 30 yX8_open]
noncomputable def wsL_law_r8 : List Cond := [Cond.instanceMethod yX8_open, Cond.selects RX8 yX8_open yX8_open, Cond.code yX8_open cX8_open 5 (some .int), Cond.methodLink RX8 46 yX8_at, Cond.static yX8_at, Cond.code yX8_at cX8_at 2 (some .int), Cond.methodLink RL 31 yX7_close, Cond.instanceMethod yX7_close, Cond.selects RX7 yX7_close yX7_close, Cond.code yX7_close cX7_close 2 (some .int), Cond.fieldLink RX7 99 "QuietStairs$Case" "state" "I", Cond.methodLink RX7 96 yX7_isCase, Cond.instanceMethod yX7_isCase, Cond.selects RX7 yX7_isCase yX7_isCase, Cond.code yX7_isCase cX7_isCase 2 (some .boolean), Cond.methodLink RL 35 yX8_close, Cond.instanceMethod yX8_close, Cond.selects RX8 yX8_close yX8_close, Cond.code yX8_close cX8_close 2 (some .int), Cond.methodLink RX8 50 yX8_isCase, Cond.instanceMethod yX8_isCase, Cond.selects RX8 yX8_isCase yX8_isCase, Cond.code yX8_isCase cX8_isCase 2 (some .boolean), Cond.methodLink RL 36 yX7_weight]
noncomputable def wsL_law_r9 : List Cond := [Cond.instanceMethod yX7_weight, Cond.selects RX7 yX7_weight yX7_weight, Cond.code yX7_weight cX7_weight 4 (some .int), Cond.fieldLink RX7 102 "QuietStairs$Case" "weight" "I", Cond.methodLink RL 39 yX8_weight, Cond.instanceMethod yX8_weight, Cond.selects RX8 yX8_weight yX8_weight, Cond.code yX8_weight cX8_weight 4 (some .int), Cond.methodLink RL 40 yX7_mark, Cond.instanceMethod yX7_mark, Cond.selects RX7 yX7_mark yX7_mark, Cond.code yX7_mark cX7_mark 3 (some .int), Cond.fieldLink RX7 105 "QuietStairs$Case" "markedBits" "I", Cond.fieldLink RX7 108 "QuietStairs$House" "markCount" "I", Cond.methodLink RL 43 yX8_mark, Cond.instanceMethod yX8_mark, Cond.selects RX8 yX8_mark yX8_mark, Cond.code yX8_mark cX8_mark 6 (some .int), Cond.methodLink RL 44 yX7_of, Cond.instanceMethod yX7_of, Cond.selects RX7 yX7_of yX7_of, Cond.code yX7_of cX7_of 4 (some .int), Cond.fieldLink RX7 111 "QuietStairs$Case" "parties" "[I", Cond.fieldLink RX7 114 "QuietStairs$Case" "sum" "I"]
noncomputable def wsL_law_r10 : List Cond := [Cond.fieldLink RX7 117 "QuietStairs$Case" "roundsOver" "I", Cond.methodLink RX7 120 yX1_headOfQuarrel, Cond.instanceMethod yX1_headOfQuarrel, Cond.selects RX1 yX1_headOfQuarrel yX1_headOfQuarrel, Cond.code yX1_headOfQuarrel cX1_headOfQuarrel 4 (some .int), Cond.methodLink RX1 72 yX1_quarrelBits, Cond.instanceMethod yX1_quarrelBits, Cond.selects RX1 yX1_quarrelBits yX1_quarrelBits, Cond.code yX1_quarrelBits cX1_quarrelBits 5 (some .int), Cond.fieldLink RX1 66 "QuietStairs$House" "caseCount" "I", Cond.fieldLink RX1 69 "QuietStairs$Case" "markedBits" "I", Cond.methodLink RX7 124 yX1_quarrelBits, Cond.methodLink RX7 127 yJ6_bitCount_0f7a4, Cond.static yJ6_bitCount_0f7a4, Cond.initialized RJ6, Cond.code yJ6_bitCount_0f7a4 cJ6_bitCount_0f7a4 1 (some .int), Cond.constant RJ6 265 (1431655765), Cond.constant RJ6 266 (858993459), Cond.constant RJ6 267 (252645135), Cond.methodLink RL 47 yX8_of, Cond.instanceMethod yX8_of, Cond.selects RX8 yX8_of yX8_of, Cond.code yX8_of cX8_of 3 (some .int), Cond.methodLink RX8 53 yX8_findHeads]
noncomputable def wsL_law_r11 : List Cond := [Cond.instanceMethod yX8_findHeads, Cond.selects RX8 yX8_findHeads yX8_findHeads, Cond.code yX8_findHeads cX8_findHeads 6 none, Cond.methodLink RX8 56 yX8_joined, Cond.instanceMethod yX8_joined, Cond.selects RX8 yX8_joined yX8_joined, Cond.code yX8_joined cX8_joined 4 (some .int), Cond.methodLink RL 48 yX7_offer, Cond.instanceMethod yX7_offer, Cond.selects RX7 yX7_offer yX7_offer, Cond.code yX7_offer cX7_offer 5 (some .int), Cond.fieldLink RX7 135 "QuietStairs$Case" "box" "[I", Cond.methodLink RX7 132 yX7_isSide, Cond.static yX7_isSide, Cond.code yX7_isSide cX7_isSide 1 (some .boolean), Cond.methodLink RX7 138 yX0_endRound, Cond.instanceMethod yX0_endRound, Cond.selects RX0 yX0_endRound yX0_endRound, Cond.code yX0_endRound cX0_endRound 3 (some .boolean), Cond.methodLink RL 52 yX8_offer, Cond.instanceMethod yX8_offer, Cond.selects RX8 yX8_offer yX8_offer, Cond.code yX8_offer cX8_offer 7 (some .int), Cond.methodLink RX8 60 yX8_isSide]
noncomputable def wsL_law_r12 : List Cond := [Cond.static yX8_isSide, Cond.code yX8_isSide cX8_isSide 1 (some .boolean), Cond.methodLink RL 53 yX7_put, Cond.instanceMethod yX7_put, Cond.selects RX7 yX7_put yX7_put, Cond.code yX7_put cX7_put 3 (some .int), Cond.methodLink RL 56 yX8_put, Cond.instanceMethod yX8_put, Cond.selects RX8 yX8_put yX8_put, Cond.code yX8_put cX8_put 3 (some .int), Cond.methodLink RL 57 yX7_learns, Cond.instanceMethod yX7_learns, Cond.selects RX7 yX7_learns yX7_learns, Cond.code yX7_learns cX7_learns 6 (some .int), Cond.methodLink RX7 142 yX0_greatestOfOther, Cond.instanceMethod yX0_greatestOfOther, Cond.selects RX0 yX0_greatestOfOther yX0_greatestOfOther, Cond.code yX0_greatestOfOther cX0_greatestOfOther 5 (some .int), Cond.methodLink RX0 62 Lib.Math.min.name, Cond.static Lib.Math.min.name, Cond.initialized "java/lang/Math", Cond.code Lib.Math.min.name Lib.Math.min.code 2 (some .int), Cond.methodLink RX0 52 yX0_hasMet, Cond.instanceMethod yX0_hasMet]
noncomputable def wsL_law_r13 : List Cond := [Cond.selects RX0 yX0_hasMet yX0_hasMet, Cond.code yX0_hasMet cX0_hasMet 2 (some .boolean), Cond.methodLink RX7 146 yX0_leastOfOther, Cond.instanceMethod yX0_leastOfOther, Cond.selects RX0 yX0_leastOfOther yX0_leastOfOther, Cond.code yX0_leastOfOther cX0_leastOfOther 5 (some .int), Cond.methodLink RX0 56 Lib.Math.max.name, Cond.static Lib.Math.max.name, Cond.code Lib.Math.max.name Lib.Math.max.code 2 (some .int), Cond.methodLink RL 61 yX8_learns, Cond.instanceMethod yX8_learns, Cond.selects RX8 yX8_learns yX8_learns, Cond.code yX8_learns cX8_learns 14 (some .int), Cond.methodLink RL 62 yX7_maySit, Cond.instanceMethod yX7_maySit, Cond.selects RX7 yX7_maySit yX7_maySit, Cond.code yX7_maySit cX7_maySit 3 (some .int), Cond.methodLink RX7 149 yX1_hasPair, Cond.instanceMethod yX1_hasPair, Cond.selects RX1 yX1_hasPair yX1_hasPair, Cond.code yX1_hasPair cX1_hasPair 2 (some .boolean), Cond.fieldLink RX1 36 "QuietStairs$House" "mediatorCount" "I", Cond.methodLink RX7 152 yX1_pairFits, Cond.instanceMethod yX1_pairFits]
noncomputable def wsL_law_r14 : List Cond := [Cond.selects RX1 yX1_pairFits yX1_pairFits, Cond.code yX1_pairFits cX1_pairFits 8 (some .boolean), Cond.fieldLink RX1 43 "QuietStairs$Mediator" "tongues" "I", Cond.fieldLink RX1 46 "QuietStairs$Case" "parties" "[I", Cond.fieldLink RX1 48 "QuietStairs$Party" "tongue" "I", Cond.methodLink RX1 55 yX1_isNear, Cond.instanceMethod yX1_isNear, Cond.selects RX1 yX1_isNear yX1_isNear, Cond.code yX1_isNear cX1_isNear 3 (some .boolean), Cond.fieldLink RX1 59 "QuietStairs$Mediator" "kinBits" "I", Cond.fieldLink RX1 62 "QuietStairs$Mediator" "floor" "I", Cond.fieldLink RX1 65 "QuietStairs$Party" "floor" "I", Cond.methodLink RL 65 yX8_maySit, Cond.instanceMethod yX8_maySit, Cond.selects RX8 yX8_maySit yX8_maySit, Cond.code yX8_maySit cX8_maySit 3 (some .int), Cond.methodLink RX8 73 yX8_isPair, Cond.instanceMethod yX8_isPair, Cond.selects RX8 yX8_isPair yX8_isPair, Cond.code yX8_isPair cX8_isPair 2 (some .boolean), Cond.methodLink RX8 63 yX8_otherOf, Cond.static yX8_otherOf, Cond.code yX8_otherOf cX8_otherOf 1 (some .int), Cond.methodLink RX8 76 yX8_may]
noncomputable def wsL_law_r15 : List Cond := [Cond.instanceMethod yX8_may, Cond.selects RX8 yX8_may yX8_may, Cond.code yX8_may cX8_may 9 (some .boolean), Cond.methodLink RX8 66 yX8_oneOf, Cond.static yX8_oneOf, Cond.code yX8_oneOf cX8_oneOf 1 (some .int), Cond.methodLink RX8 69 yX8_mayMeet, Cond.instanceMethod yX8_mayMeet, Cond.selects RX8 yX8_mayMeet yX8_mayMeet, Cond.code yX8_mayMeet cX8_mayMeet 3 (some .boolean), Cond.methodLink RL 66 yX7_rooms, Cond.instanceMethod yX7_rooms, Cond.selects RX7 yX7_rooms yX7_rooms, Cond.code yX7_rooms cX7_rooms 3 (some .int), Cond.methodLink RL 69 yX8_rooms, Cond.instanceMethod yX8_rooms, Cond.selects RX8 yX8_rooms yX8_rooms, Cond.code yX8_rooms cX8_rooms 3 (some .int), Cond.methodLink RL 70 yX7_plan, Cond.instanceMethod yX7_plan, Cond.selects RX7 yX7_plan yX7_plan, Cond.code yX7_plan cX7_plan 2 (some .int), Cond.methodLink RX7 156 yX4_findPlan, Cond.instanceMethod yX4_findPlan]
noncomputable def wsL_law_r16 : List Cond := [Cond.selects RX4 yX4_findPlan yX4_findPlan, Cond.code yX4_findPlan cX4_findPlan 4 none, Cond.fieldLink RX4 36 "QuietStairs$House" "mediatorCount" "I", Cond.methodLink RX4 42 Lib.Math.min.name, Cond.fieldLink RX4 48 "QuietStairs$Planner" "seatsADay" "I", Cond.fieldLink RX4 58 "QuietStairs$Planner" "leastWait" "I", Cond.fieldLink RX4 61 "QuietStairs$Planner" "count" "I", Cond.methodLink RX4 51 yX4_gather, Cond.instanceMethod yX4_gather, Cond.selects RX4 yX4_gather yX4_gather, Cond.code yX4_gather cX4_gather 4 none, Cond.fieldLink RX4 68 "QuietStairs$House" "caseCount" "I", Cond.fieldLink RX4 71 "QuietStairs$House" "cases" "[LQuietStairs$Case;", Cond.fieldLink RX4 75 "QuietStairs$Case" "state" "I", Cond.fieldLink RX4 80 "QuietStairs$Case" "weight" "I", Cond.methodLink RX4 83 yX4_fittingPairs, Cond.static yX4_fittingPairs, Cond.code yX4_fittingPairs cX4_fittingPairs 4 (some .int), Cond.methodLink RX4 87 yX1_hasPair, Cond.methodLink RX4 91 yX1_pairFits, Cond.methodLink RX4 55 yX4_sortByWeight, Cond.instanceMethod yX4_sortByWeight, Cond.selects RX4 yX4_sortByWeight yX4_sortByWeight, Cond.code yX4_sortByWeight cX4_sortByWeight 3 none]
noncomputable def wsL_law_r17 : List Cond := [Cond.methodLink RX4 64 yX4_search, Cond.instanceMethod yX4_search, Cond.selects RX4 yX4_search yX4_search, Cond.code yX4_search cX4_search 4 none, Cond.methodLink RX4 99 arraycopyName, Cond.native arraycopyName, Cond.static arraycopyName, Cond.initialized "java/lang/System", Cond.methodLink RX4 95 yX4_leastBehind, Cond.instanceMethod yX4_leastBehind, Cond.selects RX4 yX4_leastBehind yX4_leastBehind, Cond.code yX4_leastBehind cX4_leastBehind 8 (some .int), Cond.methodLink RX4 105 yX4_searchDay, Cond.instanceMethod yX4_searchDay, Cond.selects RX4 yX4_searchDay yX4_searchDay, Cond.code yX4_searchDay cX4_searchDay 6 none, Cond.methodLink RX7 160 yX4_seatOf, Cond.instanceMethod yX4_seatOf, Cond.selects RX4 yX4_seatOf yX4_seatOf, Cond.code yX4_seatOf cX4_seatOf 3 (some .int), Cond.methodLink RL 73 yX8_plan, Cond.instanceMethod yX8_plan, Cond.selects RX8 yX8_plan yX8_plan, Cond.code yX8_plan cX8_plan 3 (some .int)]
noncomputable def wsL_law_r18 : List Cond := [Cond.fieldLink RX8 79 "QuietStairsModel" "many" "I", Cond.methodLink RX8 95 yX8_makePlan, Cond.instanceMethod yX8_makePlan, Cond.selects RX8 yX8_makePlan yX8_makePlan, Cond.code yX8_makePlan cX8_makePlan 2 none, Cond.constant RX8 88 (1000000), Cond.fieldLink RX8 85 "QuietStairsModel" "least" "I", Cond.methodLink RX8 89 yX8_note, Cond.instanceMethod yX8_note, Cond.selects RX8 yX8_note yX8_note, Cond.code yX8_note cX8_note 3 none, Cond.methodLink RX8 82 yX8_waitsOf, Cond.instanceMethod yX8_waitsOf, Cond.selects RX8 yX8_waitsOf yX8_waitsOf, Cond.code yX8_waitsOf cX8_waitsOf 4 (some .int), Cond.methodLink RX8 92 yX8_fits, Cond.instanceMethod yX8_fits, Cond.selects RX8 yX8_fits yX8_fits, Cond.code yX8_fits cX8_fits 8 (some .boolean), Cond.methodLink RL 74 yX7_waits, Cond.instanceMethod yX7_waits, Cond.selects RX7 yX7_waits yX7_waits, Cond.code yX7_waits cX7_waits 1 (some .int), Cond.fieldLink RX7 163 "QuietStairs$Planner" "leastWait" "I"]
noncomputable def wsL_law_r19 : List Cond := [Cond.methodLink RL 78 yX8_waits, Cond.instanceMethod yX8_waits, Cond.selects RX8 yX8_waits yX8_waits, Cond.code yX8_waits cX8_waits 1 (some .int), Cond.methodLink RL 79 yX7_term, Cond.instanceMethod yX7_term, Cond.selects RX7 yX7_term yX7_term, Cond.code yX7_term cX7_term 9 (some .int), Cond.fieldLink RX7 169 "QuietStairs$Case" "termCount" "I", Cond.fieldLink RX7 172 "QuietStairs$Case" "terms" "[LQuietStairs$Term;", Cond.fieldLink RX7 176 "QuietStairs$Term" "side" "I", Cond.fieldLink RX7 181 "QuietStairs$Term" "must" "Z", Cond.fieldLink RX7 185 "QuietStairs$Term" "act" "I", Cond.fieldLink RX7 188 "QuietStairs$Term" "first" "I", Cond.fieldLink RX7 191 "QuietStairs$Term" "last" "I", Cond.methodLink RX7 166 yX7_isHour, Cond.static yX7_isHour, Cond.code yX7_isHour cX7_isHour 1 (some .boolean), Cond.methodLink RL 83 yX8_term, Cond.instanceMethod yX8_term, Cond.selects RX8 yX8_term yX8_term, Cond.code yX8_term cX8_term 8 (some .int), Cond.methodLink RX8 98 yX8_termAt, Cond.static yX8_termAt]
noncomputable def wsL_law_r20 : List Cond := [Cond.code yX8_termAt cX8_termAt 2 (some .int), Cond.methodLink RL 84 yX7_strike, Cond.instanceMethod yX7_strike, Cond.selects RX7 yX7_strike yX7_strike, Cond.code yX7_strike cX7_strike 2 (some .int), Cond.methodLink RL 87 yX8_strike, Cond.instanceMethod yX8_strike, Cond.selects RX8 yX8_strike yX8_strike, Cond.code yX8_strike cX8_strike 2 (some .int), Cond.methodLink RL 88 yX7_termOf, Cond.instanceMethod yX7_termOf, Cond.selects RX7 yX7_termOf yX7_termOf, Cond.code yX7_termOf cX7_termOf 5 (some .int), Cond.methodLink RX7 194 yX7_isTerm, Cond.instanceMethod yX7_isTerm, Cond.selects RX7 yX7_isTerm yX7_isTerm, Cond.code yX7_isTerm cX7_isTerm 3 (some .boolean), Cond.methodLink RL 91 yX8_termOf, Cond.instanceMethod yX8_termOf, Cond.selects RX8 yX8_termOf yX8_termOf, Cond.code yX8_termOf cX8_termOf 4 (some .int), Cond.methodLink RX8 101 yX8_isTerm, Cond.instanceMethod yX8_isTerm, Cond.selects RX8 yX8_isTerm yX8_isTerm]
noncomputable def wsL_law_r21 : List Cond := [Cond.code yX8_isTerm cX8_isTerm 3 (some .boolean), Cond.methodLink RL 92 yX7_hour, Cond.instanceMethod yX7_hour, Cond.selects RX7 yX7_hour yX7_hour, Cond.code yX7_hour cX7_hour 4 (some .int), Cond.methodLink RX7 197 yX5_read, Cond.instanceMethod yX5_read, Cond.selects RX5 yX5_read yX5_read, Cond.code yX5_read cX5_read 6 none, Cond.fieldLink RX5 18 "QuietStairs$Table" "count" "I", Cond.fieldLink RX5 22 "QuietStairs$Case" "terms" "[LQuietStairs$Term;", Cond.fieldLink RX5 28 "QuietStairs$Term" "side" "I", Cond.fieldLink RX5 33 "QuietStairs$Term" "must" "Z", Cond.methodLink RX5 37 yX5_allowedHours, Cond.static yX5_allowedHours, Cond.code yX5_allowedHours cX5_allowedHours 6 (some .int), Cond.fieldLink RX5 44 "QuietStairs$Term" "act" "I", Cond.methodLink RX5 41 yX6_hourBits, Cond.instanceMethod yX6_hourBits, Cond.selects RX6 yX6_hourBits yX6_hourBits, Cond.code yX6_hourBits cX6_hourBits 1 (some .int), Cond.fieldLink RX6 7 "QuietStairs$Term" "last" "I", Cond.fieldLink RX6 13 "QuietStairs$Term" "first" "I", Cond.methodLink RX7 201 yX5_stands]
noncomputable def wsL_law_r22 : List Cond := [Cond.instanceMethod yX5_stands, Cond.selects RX5 yX5_stands yX5_stands, Cond.code yX5_stands cX5_stands 4 (some .boolean), Cond.methodLink RX5 51 yJ6_bitCount_0f7a4, Cond.methodLink RX7 204 yX5_hourOf, Cond.instanceMethod yX5_hourOf, Cond.selects RX5 yX5_hourOf yX5_hourOf, Cond.code yX5_hourOf cX5_hourOf 4 (some .int), Cond.methodLink RX5 57 yX5_pinLeastHour, Cond.instanceMethod yX5_pinLeastHour, Cond.selects RX5 yX5_pinLeastHour yX5_pinLeastHour, Cond.code yX5_pinLeastHour cX5_pinLeastHour 4 (some .int), Cond.methodLink RX5 60 yX5_stands, Cond.methodLink RL 95 yX8_hour, Cond.instanceMethod yX8_hour, Cond.selects RX8 yX8_hour yX8_hour, Cond.code yX8_hour cX8_hour 4 (some .int), Cond.methodLink RX8 118 yX8_makeTable, Cond.instanceMethod yX8_makeTable, Cond.selects RX8 yX8_makeTable yX8_makeTable, Cond.code yX8_makeTable cX8_makeTable 7 (some .boolean), Cond.methodLink RX8 111 yX8_next, Cond.instanceMethod yX8_next, Cond.selects RX8 yX8_next yX8_next]
noncomputable def wsL_law_r23 : List Cond := [Cond.code yX8_next cX8_next 7 (some .int), Cond.methodLink RX8 108 yX8_isOwn, Cond.instanceMethod yX8_isOwn, Cond.selects RX8 yX8_isOwn yX8_isOwn, Cond.code yX8_isOwn cX8_isOwn 4 (some .boolean), Cond.methodLink RX8 115 yX8_hourFrom, Cond.instanceMethod yX8_hourFrom, Cond.selects RX8 yX8_hourFrom yX8_hourFrom, Cond.code yX8_hourFrom cX8_hourFrom 6 (some .int), Cond.methodLink RX8 104 yX8_mayBe, Cond.instanceMethod yX8_mayBe, Cond.selects RX8 yX8_mayBe yX8_mayBe, Cond.code yX8_mayBe cX8_mayBe 9 (some .boolean), Cond.methodLink RL 96 yX7_canHold, Cond.instanceMethod yX7_canHold, Cond.selects RX7 yX7_canHold yX7_canHold, Cond.code yX7_canHold cX7_canHold 3 (some .int), Cond.methodLink RL 99 yX8_canHold, Cond.instanceMethod yX8_canHold, Cond.selects RX8 yX8_canHold yX8_canHold, Cond.code yX8_canHold cX8_canHold 3 (some .int), Cond.methodLink RL 100 yX7_breaks, Cond.instanceMethod yX7_breaks, Cond.selects RX7 yX7_breaks yX7_breaks]
noncomputable def wsL_law_r24 : List Cond := [Cond.code yX7_breaks cX7_breaks 5 (some .int), Cond.methodLink RL 103 yX8_breaks, Cond.instanceMethod yX8_breaks, Cond.selects RX8 yX8_breaks yX8_breaks, Cond.code yX8_breaks cX8_breaks 4 (some .int), Cond.methodLink RL 104 yX7_log, Cond.instanceMethod yX7_log, Cond.selects RX7 yX7_log yX7_log, Cond.code yX7_log cX7_log 7 (some .int), Cond.fieldLink RX7 207 "QuietStairs$Case" "logs" "[[I", Cond.methodLink RL 108 yX8_log, Cond.instanceMethod yX8_log, Cond.selects RX8 yX8_log yX8_log, Cond.code yX8_log cX8_log 7 (some .int), Cond.methodLink RL 109 yX7_judged, Cond.instanceMethod yX7_judged, Cond.selects RX7 yX7_judged yX7_judged, Cond.code yX7_judged cX7_judged 3 (some .int), Cond.methodLink RX7 211 yX0_judge, Cond.instanceMethod yX0_judge, Cond.selects RX0 yX0_judge yX0_judge, Cond.code yX0_judge cX0_judge 6 (some .int), Cond.fieldLink RX0 65 "QuietStairs$Term" "first" "I", Cond.fieldLink RX0 68 "QuietStairs$Term" "last" "I"]
noncomputable def wsL_law_r25 : List Cond := [Cond.fieldLink RX0 71 "QuietStairs$Term" "side" "I", Cond.fieldLink RX0 74 "QuietStairs$Term" "act" "I", Cond.fieldLink RX0 77 "QuietStairs$Term" "must" "Z", Cond.methodLink RL 112 yX8_judged, Cond.instanceMethod yX8_judged, Cond.selects RX8 yX8_judged yX8_judged, Cond.code yX8_judged cX8_judged 3 (some .int), Cond.methodLink RX8 121 yX8_judge, Cond.instanceMethod yX8_judge, Cond.selects RX8 yX8_judge yX8_judge, Cond.code yX8_judge cX8_judge 8 (some .int), Cond.methodLink RL 113 yX7_many, Cond.instanceMethod yX7_many, Cond.selects RX7 yX7_many yX7_many, Cond.code yX7_many cX7_many 2 (some .int), Cond.methodLink RX7 214 yX1_countState, Cond.instanceMethod yX1_countState, Cond.selects RX1 yX1_countState yX1_countState, Cond.code yX1_countState cX1_countState 4 (some .int), Cond.fieldLink RX1 79 "QuietStairs$Case" "state" "I", Cond.methodLink RX7 217 yX1_countQuarrels, Cond.instanceMethod yX1_countQuarrels, Cond.selects RX1 yX1_countQuarrels yX1_countQuarrels, Cond.code yX1_countQuarrels cX1_countQuarrels 3 (some .int)]
noncomputable def wsL_law_r26 : List Cond := [Cond.methodLink RX1 76 yX1_headOfQuarrel, Cond.methodLink RX7 221 yX1_countTerms, Cond.instanceMethod yX1_countTerms, Cond.selects RX1 yX1_countTerms yX1_countTerms, Cond.code yX1_countTerms cX1_countTerms 3 (some .int), Cond.fieldLink RX1 82 "QuietStairs$Case" "termCount" "I", Cond.methodLink RX7 224 yX1_countJudged, Cond.instanceMethod yX1_countJudged, Cond.selects RX1 yX1_countJudged yX1_countJudged, Cond.code yX1_countJudged cX1_countJudged 5 (some .int), Cond.methodLink RX1 85 yX0_judge, Cond.methodLink RL 116 yX8_many, Cond.instanceMethod yX8_many, Cond.selects RX8 yX8_many yX8_many, Cond.code yX8_many cX8_many 2 (some .int), Cond.methodLink RX8 124 yX8_casesThat, Cond.instanceMethod yX8_casesThat, Cond.selects RX8 yX8_casesThat yX8_casesThat, Cond.code yX8_casesThat cX8_casesThat 4 (some .int), Cond.methodLink RX8 127 yX8_quarrels, Cond.instanceMethod yX8_quarrels, Cond.selects RX8 yX8_quarrels yX8_quarrels, Cond.code yX8_quarrels cX8_quarrels 3 (some .int), Cond.methodLink RX8 131 yX8_termsThat]
noncomputable def wsL_law_r27 : List Cond := [Cond.instanceMethod yX8_termsThat, Cond.selects RX8 yX8_termsThat yX8_termsThat, Cond.code yX8_termsThat cX8_termsThat 5 (some .int), Cond.methodLink RL 117 yX7_keep, Cond.instanceMethod yX7_keep, Cond.selects RX7 yX7_keep yX7_keep, Cond.code yX7_keep cX7_keep 1 (some .int), Cond.methodLink RX7 227 yX1_copyFrom, Cond.instanceMethod yX1_copyFrom, Cond.selects RX1 yX1_copyFrom yX1_copyFrom, Cond.code yX1_copyFrom cX1_copyFrom 3 none, Cond.fieldLink RX1 88 "QuietStairs$House" "partyCount" "I", Cond.fieldLink RX1 91 "QuietStairs$House" "markCount" "I", Cond.methodLink RX1 94 yX3_copyFrom, Cond.instanceMethod yX3_copyFrom, Cond.selects RX3 yX3_copyFrom yX3_copyFrom, Cond.code yX3_copyFrom cX3_copyFrom 2 none, Cond.fieldLink RX3 7 "QuietStairs$Party" "floor" "I", Cond.fieldLink RX3 13 "QuietStairs$Party" "tongue" "I", Cond.methodLink RX1 98 yX2_copyFrom, Cond.instanceMethod yX2_copyFrom, Cond.selects RX2 yX2_copyFrom yX2_copyFrom, Cond.code yX2_copyFrom cX2_copyFrom 2 none, Cond.fieldLink RX2 7 "QuietStairs$Mediator" "floor" "I"]
noncomputable def wsL_law_r28 : List Cond := [Cond.fieldLink RX2 13 "QuietStairs$Mediator" "tongues" "I", Cond.fieldLink RX2 16 "QuietStairs$Mediator" "kinBits" "I", Cond.methodLink RX1 101 yX0_copyFrom, Cond.instanceMethod yX0_copyFrom, Cond.selects RX0 yX0_copyFrom yX0_copyFrom, Cond.code yX0_copyFrom cX0_copyFrom 3 none, Cond.methodLink RX0 81 arraycopyName, Cond.methodLink RX0 87 yX6_copyFrom, Cond.instanceMethod yX6_copyFrom, Cond.selects RX6 yX6_copyFrom yX6_copyFrom, Cond.code yX6_copyFrom cX6_copyFrom 2 none, Cond.fieldLink RX6 16 "QuietStairs$Term" "side" "I", Cond.fieldLink RX6 19 "QuietStairs$Term" "must" "Z", Cond.fieldLink RX6 23 "QuietStairs$Term" "act" "I", Cond.methodLink RL 120 yX8_keep, Cond.instanceMethod yX8_keep, Cond.selects RX8 yX8_keep yX8_keep, Cond.code yX8_keep cX8_keep 2 (some .int), Cond.fieldLink RX8 134 "QuietStairsModel" "isKept" "Z", Cond.methodLink RL 121 yX7_back, Cond.instanceMethod yX7_back, Cond.selects RX7 yX7_back yX7_back, Cond.code yX7_back cX7_back 1 (some .int), Cond.methodLink RL 124 yX8_back]
noncomputable def wsL_law_r29 : List Cond := [Cond.instanceMethod yX8_back, Cond.selects RX8 yX8_back yX8_back, Cond.code yX8_back cX8_back 2 (some .int)]
noncomputable def wsL_law : List Cond := (wsL_law_r1 ++ (wsL_law_r2 ++ (wsL_law_r3 ++ (wsL_law_r4 ++ (wsL_law_r5 ++ (wsL_law_r6 ++ (wsL_law_r7 ++ (wsL_law_r8 ++ (wsL_law_r9 ++ (wsL_law_r10 ++ (wsL_law_r11 ++ (wsL_law_r12 ++ (wsL_law_r13 ++ (wsL_law_r14 ++ (wsL_law_r15 ++ (wsL_law_r16 ++ (wsL_law_r17 ++ (wsL_law_r18 ++ (wsL_law_r19 ++ (wsL_law_r20 ++ (wsL_law_r21 ++ (wsL_law_r22 ++ (wsL_law_r23 ++ (wsL_law_r24 ++ (wsL_law_r25 ++ (wsL_law_r26 ++ (wsL_law_r27 ++ (wsL_law_r28 ++ wsL_law_r29)))))))))))))))))))))))))))) ++ wsX70 ++ wsX80 ++ wsX10 ++ wsX40 ++ wsX50 ++ wsX30 ++ wsX20 ++ wsX00 ++ wsX60 ++ ([] : List Cond)
theorem mem_r {big : List Cond} (ws : List Cond) (ps : List Nat) (hp : ws = ps.filterMap (fun i => big[i]?)) : ∀ w ∈ ws, w ∈ big := by
  intro w hw
  rw [hp] at hw
  obtain ⟨i, -, hi⟩ := List.mem_filterMap.mp hw
  exact List.mem_of_getElem? hi
set_option maxRecDepth 20000 in
theorem wl_r1 : GoodIn lw_tbl wsL_law_r1 := goodIn_r _ [45, 46, 33, 601, 602, 41, 47, 48, 49, 50, 51, 52, 53, 54, 34, 286, 229, 230, 39, 287, 270, 271, 40, 288] rfl (by decide +kernel)
set_option maxRecDepth 20000 in
theorem wl_r2 : GoodIn lw_tbl wsL_law_r2 := goodIn_r _ [289, 290, 55, 56, 57, 58, 59, 207, 61, 209, 63, 211, 65, 35, 81, 36, 102, 37, 67, 68, 69, 83, 84, 85] rfl (by decide +kernel)
set_option maxRecDepth 20000 in
theorem wl_r3 : GoodIn lw_tbl wsL_law_r3 := goodIn_r _ [103, 104, 105, 106, 145, 163, 166, 107, 168, 169, 109, 171, 111, 38, 113, 114, 115, 232, 233, 234, 239, 240, 241, 242] rfl (by decide +kernel)
set_option maxRecDepth 20000 in
theorem wl_r4 : GoodIn lw_tbl wsL_law_r4 := goodIn_r _ [243, 244, 245, 246, 273, 274, 275, 277, 278, 603, 604, 605, 606, 607, 608, 610, 611, 613, 614, 615, 617, 302, 303, 304] rfl (by decide +kernel)
set_option maxRecDepth 20000 in
theorem wl_r5 : GoodIn lw_tbl wsL_law_r5 := goodIn_r _ [305, 197, 208, 71, 74, 306, 307, 308, 641, 642, 643, 644, 645, 646, 647, 309, 310, 311, 312, 201, 210, 87, 91, 93] rfl (by decide +kernel)
set_option maxRecDepth 20000 in
theorem wl_r6 : GoodIn lw_tbl wsL_law_r6 := goodIn_r _ [648, 649, 650, 651, 313, 314, 315, 316, 317, 319, 0, 320, 321, 323, 1, 324, 325, 326, 327, 652, 653, 654, 655, 656] rfl (by decide +kernel)
set_option maxRecDepth 20000 in
theorem wl_r7 : GoodIn lw_tbl wsL_law_r7 := goodIn_r _ [658, 10, 659, 660, 662, 11, 663, 328, 329, 330, 331, 204, 213, 332, 333, 334, 335, 146, 150, 152, 154, 157, 160, 664] rfl (by decide +kernel)
set_option maxRecDepth 20000 in
theorem wl_r8 : GoodIn lw_tbl wsL_law_r8 := goodIn_r _ [665, 666, 667, 668, 669, 670, 336, 337, 338, 339, 148, 340, 342, 2, 343, 671, 672, 673, 674, 675, 677, 12, 678, 344] rfl (by decide +kernel)
set_option maxRecDepth 20000 in
theorem wl_r9 : GoodIn lw_tbl wsL_law_r9 := goodIn_r _ [345, 346, 347, 156, 679, 680, 681, 682, 348, 349, 350, 351, 159, 205, 683, 684, 685, 686, 352, 353, 354, 355, 165, 151] rfl (by decide +kernel)
set_option maxRecDepth 20000 in
theorem wl_r10 : GoodIn lw_tbl wsL_law_r10 := goodIn_r _ [153, 356, 357, 358, 359, 360, 361, 362, 363, 203, 158, 365, 366, 367, 42, 368, 369, 370, 371, 687, 688, 689, 690, 691] rfl (by decide +kernel)
set_option maxRecDepth 20000 in
theorem wl_r11 : GoodIn lw_tbl wsL_law_r11 := goodIn_r _ [693, 13, 694, 695, 697, 14, 698, 372, 373, 374, 375, 167, 376, 377, 378, 379, 380, 381, 382, 699, 700, 701, 702, 703] rfl (by decide +kernel)
set_option maxRecDepth 20000 in
theorem wl_r12 : GoodIn lw_tbl wsL_law_r12 := goodIn_r _ [704, 705, 383, 384, 385, 386, 706, 707, 708, 709, 387, 388, 389, 390, 391, 392, 393, 394, 399, 400, 43, 401, 395, 396] rfl (by decide +kernel)
set_option maxRecDepth 20000 in
theorem wl_r13 : GoodIn lw_tbl wsL_law_r13 := goodIn_r _ [397, 398, 402, 403, 404, 405, 406, 407, 408, 710, 711, 712, 713, 409, 410, 411, 412, 413, 414, 415, 416, 200, 419, 420] rfl (by decide +kernel)
set_option maxRecDepth 20000 in
theorem wl_r14 : GoodIn lw_tbl wsL_law_r14 := goodIn_r _ [421, 422, 90, 164, 75, 425, 426, 427, 428, 94, 88, 72, 714, 715, 716, 717, 718, 720, 15, 721, 722, 723, 724, 725] rfl (by decide +kernel)
set_option maxRecDepth 20000 in
theorem wl_r15 : GoodIn lw_tbl wsL_law_r15 := goodIn_r _ [727, 16, 728, 729, 730, 731, 732, 734, 17, 735, 429, 430, 431, 432, 736, 737, 738, 739, 433, 434, 435, 436, 437, 438] rfl (by decide +kernel)
set_option maxRecDepth 20000 in
theorem wl_r16 : GoodIn lw_tbl wsL_law_r16 := goodIn_r _ [439, 440, 199, 441, 238, 235, 237, 442, 444, 3, 445, 202, 212, 147, 155, 446, 447, 448, 449, 450, 451, 453, 4, 454] rfl (by decide +kernel)
set_option maxRecDepth 20000 in
theorem wl_r17 : GoodIn lw_tbl wsL_law_r17 := goodIn_r _ [455, 457, 5, 458, 463, 465, 464, 44, 459, 461, 6, 462, 466, 468, 7, 469, 473, 474, 475, 476, 740, 741, 742, 743] rfl (by decide +kernel)
set_option maxRecDepth 20000 in
theorem wl_r18 : GoodIn lw_tbl wsL_law_r18 := goodIn_r _ [612, 744, 746, 18, 747, 748, 616, 749, 751, 19, 752, 753, 755, 20, 756, 757, 759, 21, 760, 477, 478, 479, 480, 236] rfl (by decide +kernel)
set_option maxRecDepth 20000 in
theorem wl_r19 : GoodIn lw_tbl wsL_law_r19 := goodIn_r _ [761, 762, 763, 764, 481, 482, 483, 484, 162, 173, 119, 123, 127, 130, 133, 485, 486, 487, 765, 766, 767, 768, 769, 770] rfl (by decide +kernel)
set_option maxRecDepth 20000 in
theorem wl_r20 : GoodIn lw_tbl wsL_law_r20 := goodIn_r _ [771, 488, 489, 490, 491, 772, 773, 774, 775, 492, 493, 494, 495, 496, 498, 8, 499, 776, 777, 778, 779, 780, 782, 22] rfl (by decide +kernel)
set_option maxRecDepth 20000 in
theorem wl_r21 : GoodIn lw_tbl wsL_law_r21 := goodIn_r _ [783, 500, 501, 502, 503, 504, 505, 506, 507, 276, 172, 116, 120, 508, 509, 510, 125, 511, 512, 513, 514, 131, 128, 515] rfl (by decide +kernel)
set_option maxRecDepth 20000 in
theorem wl_r22 : GoodIn lw_tbl wsL_law_r22 := goodIn_r _ [516, 517, 518, 520, 521, 522, 523, 524, 525, 527, 9, 528, 529, 784, 785, 786, 787, 788, 790, 23, 791, 792, 794, 24] rfl (by decide +kernel)
set_option maxRecDepth 20000 in
theorem wl_r23 : GoodIn lw_tbl wsL_law_r23 := goodIn_r _ [795, 796, 798, 25, 799, 800, 802, 26, 803, 804, 806, 27, 807, 530, 531, 532, 533, 808, 809, 810, 811, 534, 535, 536] rfl (by decide +kernel)
set_option maxRecDepth 20000 in
theorem wl_r24 : GoodIn lw_tbl wsL_law_r24 := goodIn_r _ [537, 812, 813, 814, 815, 538, 539, 540, 541, 170, 816, 817, 818, 819, 542, 543, 544, 545, 546, 547, 548, 549, 129, 132] rfl (by decide +kernel)
set_option maxRecDepth 20000 in
theorem wl_r25 : GoodIn lw_tbl wsL_law_r25 := goodIn_r _ [118, 126, 122, 820, 821, 822, 823, 824, 826, 28, 827, 550, 551, 552, 553, 554, 555, 556, 557, 149, 558, 559, 560, 561] rfl (by decide +kernel)
set_option maxRecDepth 20000 in
theorem wl_r26 : GoodIn lw_tbl wsL_law_r26 := goodIn_r _ [562, 563, 564, 565, 566, 161, 567, 568, 569, 570, 571, 828, 829, 830, 831, 832, 834, 29, 835, 836, 838, 30, 839, 840] rfl (by decide +kernel)
set_option maxRecDepth 20000 in
theorem wl_r27 : GoodIn lw_tbl wsL_law_r27 := goodIn_r _ [842, 31, 843, 572, 573, 574, 575, 576, 577, 578, 579, 198, 206, 580, 581, 582, 583, 70, 73, 584, 585, 586, 587, 86] rfl (by decide +kernel)
set_option maxRecDepth 20000 in
theorem wl_r28 : GoodIn lw_tbl wsL_law_r28 := goodIn_r _ [89, 92, 588, 589, 590, 591, 592, 593, 594, 595, 596, 117, 121, 124, 844, 845, 846, 847, 609, 597, 598, 599, 600, 848] rfl (by decide +kernel)
set_option maxRecDepth 20000 in
theorem wl_r29 : GoodIn lw_tbl wsL_law_r29 := goodIn_r _ [849, 850, 851] rfl (by decide +kernel)
set_option maxRecDepth 20000 in
theorem wl_wsX70 : ∀ w ∈ wsX70, w ∈ lw_tbl := mem_r _ [291, 293, 295, 297, 299] rfl
set_option maxRecDepth 20000 in
theorem wl_wsX80 : ∀ w ∈ wsX80, w ∈ lw_tbl := mem_r _ [618, 620, 622, 624, 626, 628, 630, 632, 634, 636, 638] rfl
set_option maxRecDepth 20000 in
theorem wl_wsX10 : ∀ w ∈ wsX10, w ∈ lw_tbl := mem_r _ [214, 216, 218, 220, 222, 224, 226] rfl
set_option maxRecDepth 20000 in
theorem wl_wsX40 : ∀ w ∈ wsX40, w ∈ lw_tbl := mem_r _ [247, 249, 251, 253, 255, 257, 259, 261, 263, 265, 267] rfl
set_option maxRecDepth 20000 in
theorem wl_wsX50 : ∀ w ∈ wsX50, w ∈ lw_tbl := mem_r _ [279, 281, 283] rfl
set_option maxRecDepth 20000 in
theorem wl_wsX30 : ∀ w ∈ wsX30, w ∈ lw_tbl := mem_r _ [76, 78] rfl
set_option maxRecDepth 20000 in
theorem wl_wsX20 : ∀ w ∈ wsX20, w ∈ lw_tbl := mem_r _ [95, 97, 99] rfl
set_option maxRecDepth 20000 in
theorem wl_wsX00 : ∀ w ∈ wsX00, w ∈ lw_tbl := mem_r _ [174, 176, 178, 180, 182, 184, 186, 188, 190, 192, 194] rfl
set_option maxRecDepth 20000 in
theorem wl_wsX60 : ∀ w ∈ wsX60, w ∈ lw_tbl := mem_r _ [134, 136, 138, 140, 142] rfl
theorem wsL_law_in : ∀ w ∈ wsL_law, w ∈ lw_tbl := (fun w h => (List.mem_append.mp h).elim ((fun w h => (List.mem_append.mp h).elim ((fun w h => (List.mem_append.mp h).elim ((fun w h => (List.mem_append.mp h).elim ((fun w h => (List.mem_append.mp h).elim ((fun w h => (List.mem_append.mp h).elim ((fun w h => (List.mem_append.mp h).elim ((fun w h => (List.mem_append.mp h).elim ((fun w h => (List.mem_append.mp h).elim ((fun w h => (List.mem_append.mp h).elim ((fun w h => (List.mem_append.mp h).elim (fun h => (wl_r1 w h).1) ((fun w h => (List.mem_append.mp h).elim (fun h => (wl_r2 w h).1) ((fun w h => (List.mem_append.mp h).elim (fun h => (wl_r3 w h).1) ((fun w h => (List.mem_append.mp h).elim (fun h => (wl_r4 w h).1) ((fun w h => (List.mem_append.mp h).elim (fun h => (wl_r5 w h).1) ((fun w h => (List.mem_append.mp h).elim (fun h => (wl_r6 w h).1) ((fun w h => (List.mem_append.mp h).elim (fun h => (wl_r7 w h).1) ((fun w h => (List.mem_append.mp h).elim (fun h => (wl_r8 w h).1) ((fun w h => (List.mem_append.mp h).elim (fun h => (wl_r9 w h).1) ((fun w h => (List.mem_append.mp h).elim (fun h => (wl_r10 w h).1) ((fun w h => (List.mem_append.mp h).elim (fun h => (wl_r11 w h).1) ((fun w h => (List.mem_append.mp h).elim (fun h => (wl_r12 w h).1) ((fun w h => (List.mem_append.mp h).elim (fun h => (wl_r13 w h).1) ((fun w h => (List.mem_append.mp h).elim (fun h => (wl_r14 w h).1) ((fun w h => (List.mem_append.mp h).elim (fun h => (wl_r15 w h).1) ((fun w h => (List.mem_append.mp h).elim (fun h => (wl_r16 w h).1) ((fun w h => (List.mem_append.mp h).elim (fun h => (wl_r17 w h).1) ((fun w h => (List.mem_append.mp h).elim (fun h => (wl_r18 w h).1) ((fun w h => (List.mem_append.mp h).elim (fun h => (wl_r19 w h).1) ((fun w h => (List.mem_append.mp h).elim (fun h => (wl_r20 w h).1) ((fun w h => (List.mem_append.mp h).elim (fun h => (wl_r21 w h).1) ((fun w h => (List.mem_append.mp h).elim (fun h => (wl_r22 w h).1) ((fun w h => (List.mem_append.mp h).elim (fun h => (wl_r23 w h).1) ((fun w h => (List.mem_append.mp h).elim (fun h => (wl_r24 w h).1) ((fun w h => (List.mem_append.mp h).elim (fun h => (wl_r25 w h).1) ((fun w h => (List.mem_append.mp h).elim (fun h => (wl_r26 w h).1) ((fun w h => (List.mem_append.mp h).elim (fun h => (wl_r27 w h).1) ((fun w h => (List.mem_append.mp h).elim (fun h => (wl_r28 w h).1) ((fun w h => (wl_r29 w h).1) w)) w)) w)) w)) w)) w)) w)) w)) w)) w)) w)) w)) w)) w)) w)) w)) w)) w)) w)) w)) w)) w)) w)) w)) w)) w)) w)) w)) w) (wl_wsX70 w)) w) (wl_wsX80 w)) w) (wl_wsX10 w)) w) (wl_wsX40 w)) w) (wl_wsX50 w)) w) (wl_wsX30 w)) w) (wl_wsX20 w)) w) (wl_wsX00 w)) w) (wl_wsX60 w)) w) (fun h => absurd h List.not_mem_nil))
theorem inlX0 : ∀ w ∈ wsX00, w ∈ wsL_law := fun _ h => List.mem_append_left _ (List.mem_append_left _ (List.mem_append_right _ h))
theorem inX0 : ∀ w ∈ wsX00, w ∈ lw_tbl := fun w h => wsL_law_in w (inlX0 w h)
theorem inlX1 : ∀ w ∈ wsX10, w ∈ wsL_law := fun _ h => List.mem_append_left _ (List.mem_append_left _ (List.mem_append_left _ (List.mem_append_left _ (List.mem_append_left _ (List.mem_append_left _ (List.mem_append_left _ (List.mem_append_right _ h)))))))
theorem inX1 : ∀ w ∈ wsX10, w ∈ lw_tbl := fun w h => wsL_law_in w (inlX1 w h)
theorem inlX2 : ∀ w ∈ wsX20, w ∈ wsL_law := fun _ h => List.mem_append_left _ (List.mem_append_left _ (List.mem_append_left _ (List.mem_append_right _ h)))
theorem inX2 : ∀ w ∈ wsX20, w ∈ lw_tbl := fun w h => wsL_law_in w (inlX2 w h)
theorem inlX3 : ∀ w ∈ wsX30, w ∈ wsL_law := fun _ h => List.mem_append_left _ (List.mem_append_left _ (List.mem_append_left _ (List.mem_append_left _ (List.mem_append_right _ h))))
theorem inX3 : ∀ w ∈ wsX30, w ∈ lw_tbl := fun w h => wsL_law_in w (inlX3 w h)
theorem inlX4 : ∀ w ∈ wsX40, w ∈ wsL_law := fun _ h => List.mem_append_left _ (List.mem_append_left _ (List.mem_append_left _ (List.mem_append_left _ (List.mem_append_left _ (List.mem_append_left _ (List.mem_append_right _ h))))))
theorem inX4 : ∀ w ∈ wsX40, w ∈ lw_tbl := fun w h => wsL_law_in w (inlX4 w h)
theorem inlX5 : ∀ w ∈ wsX50, w ∈ wsL_law := fun _ h => List.mem_append_left _ (List.mem_append_left _ (List.mem_append_left _ (List.mem_append_left _ (List.mem_append_left _ (List.mem_append_right _ h)))))
theorem inX5 : ∀ w ∈ wsX50, w ∈ lw_tbl := fun w h => wsL_law_in w (inlX5 w h)
theorem inlX6 : ∀ w ∈ wsX60, w ∈ wsL_law := fun _ h => List.mem_append_left _ (List.mem_append_right _ h)
theorem inX6 : ∀ w ∈ wsX60, w ∈ lw_tbl := fun w h => wsL_law_in w (inlX6 w h)
theorem inlX7 : ∀ w ∈ wsX70, w ∈ wsL_law := fun _ h => List.mem_append_left _ (List.mem_append_left _ (List.mem_append_left _ (List.mem_append_left _ (List.mem_append_left _ (List.mem_append_left _ (List.mem_append_left _ (List.mem_append_left _ (List.mem_append_left _ (List.mem_append_right _ h)))))))))
theorem inX7 : ∀ w ∈ wsX70, w ∈ lw_tbl := fun w h => wsL_law_in w (inlX7 w h)
theorem inlX8 : ∀ w ∈ wsX80, w ∈ wsL_law := fun _ h => List.mem_append_left _ (List.mem_append_left _ (List.mem_append_left _ (List.mem_append_left _ (List.mem_append_left _ (List.mem_append_left _ (List.mem_append_left _ (List.mem_append_left _ (List.mem_append_right _ h))))))))
theorem inX8 : ∀ w ∈ wsX80, w ∈ lw_tbl := fun w h => wsL_law_in w (inlX8 w h)
theorem inJ6 : ∀ w ∈ wsJ60, w ∈ lw_tbl := by decide +kernel
theorem inJ9 : ∀ w ∈ wsJ90, w ∈ lw_tbl := by decide +kernel
theorem inJ10 : ∀ w ∈ wsJ100, w ∈ lw_tbl := by decide +kernel
noncomputable def lw_ch (k j : Nat) : Option Cond := match k with
  | 0 => wsL_law_r1[j]?
  | 1 => wsL_law_r2[j]?
  | 2 => wsL_law_r3[j]?
  | 3 => wsL_law_r4[j]?
  | 4 => wsL_law_r5[j]?
  | 5 => wsL_law_r6[j]?
  | 6 => wsL_law_r7[j]?
  | 7 => wsL_law_r8[j]?
  | 8 => wsL_law_r9[j]?
  | 9 => wsL_law_r10[j]?
  | 10 => wsL_law_r11[j]?
  | 11 => wsL_law_r12[j]?
  | 12 => wsL_law_r13[j]?
  | 13 => wsL_law_r14[j]?
  | 14 => wsL_law_r15[j]?
  | 15 => wsL_law_r16[j]?
  | 16 => wsL_law_r17[j]?
  | 17 => wsL_law_r18[j]?
  | 18 => wsL_law_r19[j]?
  | 19 => wsL_law_r20[j]?
  | 20 => wsL_law_r21[j]?
  | 21 => wsL_law_r22[j]?
  | 22 => wsL_law_r23[j]?
  | 23 => wsL_law_r24[j]?
  | 24 => wsL_law_r25[j]?
  | 25 => wsL_law_r26[j]?
  | 26 => wsL_law_r27[j]?
  | 27 => wsL_law_r28[j]?
  | 28 => wsL_law_r29[j]?
  | 29 => wsX70[j]?
  | 30 => wsX80[j]?
  | 31 => wsX10[j]?
  | 32 => wsX40[j]?
  | 33 => wsX50[j]?
  | 34 => wsX30[j]?
  | 35 => wsX20[j]?
  | 36 => wsX00[j]?
  | _ => wsX60[j]?
theorem lw_chin : ∀ (k j : Nat) (c : Cond), lw_ch k j = some c → c ∈ wsL_law
  | 0, _, _, h => List.mem_append_left _ (List.mem_append_left _ (List.mem_append_left _ (List.mem_append_left _ (List.mem_append_left _ (List.mem_append_left _ (List.mem_append_left _ (List.mem_append_left _ (List.mem_append_left _ (List.mem_append_left _ (List.mem_append_left _ (List.mem_of_getElem? h)))))))))))
  | 1, _, _, h => List.mem_append_left _ (List.mem_append_left _ (List.mem_append_left _ (List.mem_append_left _ (List.mem_append_left _ (List.mem_append_left _ (List.mem_append_left _ (List.mem_append_left _ (List.mem_append_left _ (List.mem_append_left _ (List.mem_append_right _ (List.mem_append_left _ (List.mem_of_getElem? h))))))))))))
  | 2, _, _, h => List.mem_append_left _ (List.mem_append_left _ (List.mem_append_left _ (List.mem_append_left _ (List.mem_append_left _ (List.mem_append_left _ (List.mem_append_left _ (List.mem_append_left _ (List.mem_append_left _ (List.mem_append_left _ (List.mem_append_right _ (List.mem_append_right _ (List.mem_append_left _ (List.mem_of_getElem? h)))))))))))))
  | 3, _, _, h => List.mem_append_left _ (List.mem_append_left _ (List.mem_append_left _ (List.mem_append_left _ (List.mem_append_left _ (List.mem_append_left _ (List.mem_append_left _ (List.mem_append_left _ (List.mem_append_left _ (List.mem_append_left _ (List.mem_append_right _ (List.mem_append_right _ (List.mem_append_right _ (List.mem_append_left _ (List.mem_of_getElem? h))))))))))))))
  | 4, _, _, h => List.mem_append_left _ (List.mem_append_left _ (List.mem_append_left _ (List.mem_append_left _ (List.mem_append_left _ (List.mem_append_left _ (List.mem_append_left _ (List.mem_append_left _ (List.mem_append_left _ (List.mem_append_left _ (List.mem_append_right _ (List.mem_append_right _ (List.mem_append_right _ (List.mem_append_right _ (List.mem_append_left _ (List.mem_of_getElem? h)))))))))))))))
  | 5, _, _, h => List.mem_append_left _ (List.mem_append_left _ (List.mem_append_left _ (List.mem_append_left _ (List.mem_append_left _ (List.mem_append_left _ (List.mem_append_left _ (List.mem_append_left _ (List.mem_append_left _ (List.mem_append_left _ (List.mem_append_right _ (List.mem_append_right _ (List.mem_append_right _ (List.mem_append_right _ (List.mem_append_right _ (List.mem_append_left _ (List.mem_of_getElem? h))))))))))))))))
  | 6, _, _, h => List.mem_append_left _ (List.mem_append_left _ (List.mem_append_left _ (List.mem_append_left _ (List.mem_append_left _ (List.mem_append_left _ (List.mem_append_left _ (List.mem_append_left _ (List.mem_append_left _ (List.mem_append_left _ (List.mem_append_right _ (List.mem_append_right _ (List.mem_append_right _ (List.mem_append_right _ (List.mem_append_right _ (List.mem_append_right _ (List.mem_append_left _ (List.mem_of_getElem? h)))))))))))))))))
  | 7, _, _, h => List.mem_append_left _ (List.mem_append_left _ (List.mem_append_left _ (List.mem_append_left _ (List.mem_append_left _ (List.mem_append_left _ (List.mem_append_left _ (List.mem_append_left _ (List.mem_append_left _ (List.mem_append_left _ (List.mem_append_right _ (List.mem_append_right _ (List.mem_append_right _ (List.mem_append_right _ (List.mem_append_right _ (List.mem_append_right _ (List.mem_append_right _ (List.mem_append_left _ (List.mem_of_getElem? h))))))))))))))))))
  | 8, _, _, h => List.mem_append_left _ (List.mem_append_left _ (List.mem_append_left _ (List.mem_append_left _ (List.mem_append_left _ (List.mem_append_left _ (List.mem_append_left _ (List.mem_append_left _ (List.mem_append_left _ (List.mem_append_left _ (List.mem_append_right _ (List.mem_append_right _ (List.mem_append_right _ (List.mem_append_right _ (List.mem_append_right _ (List.mem_append_right _ (List.mem_append_right _ (List.mem_append_right _ (List.mem_append_left _ (List.mem_of_getElem? h)))))))))))))))))))
  | 9, _, _, h => List.mem_append_left _ (List.mem_append_left _ (List.mem_append_left _ (List.mem_append_left _ (List.mem_append_left _ (List.mem_append_left _ (List.mem_append_left _ (List.mem_append_left _ (List.mem_append_left _ (List.mem_append_left _ (List.mem_append_right _ (List.mem_append_right _ (List.mem_append_right _ (List.mem_append_right _ (List.mem_append_right _ (List.mem_append_right _ (List.mem_append_right _ (List.mem_append_right _ (List.mem_append_right _ (List.mem_append_left _ (List.mem_of_getElem? h))))))))))))))))))))
  | 10, _, _, h => List.mem_append_left _ (List.mem_append_left _ (List.mem_append_left _ (List.mem_append_left _ (List.mem_append_left _ (List.mem_append_left _ (List.mem_append_left _ (List.mem_append_left _ (List.mem_append_left _ (List.mem_append_left _ (List.mem_append_right _ (List.mem_append_right _ (List.mem_append_right _ (List.mem_append_right _ (List.mem_append_right _ (List.mem_append_right _ (List.mem_append_right _ (List.mem_append_right _ (List.mem_append_right _ (List.mem_append_right _ (List.mem_append_left _ (List.mem_of_getElem? h)))))))))))))))))))))
  | 11, _, _, h => List.mem_append_left _ (List.mem_append_left _ (List.mem_append_left _ (List.mem_append_left _ (List.mem_append_left _ (List.mem_append_left _ (List.mem_append_left _ (List.mem_append_left _ (List.mem_append_left _ (List.mem_append_left _ (List.mem_append_right _ (List.mem_append_right _ (List.mem_append_right _ (List.mem_append_right _ (List.mem_append_right _ (List.mem_append_right _ (List.mem_append_right _ (List.mem_append_right _ (List.mem_append_right _ (List.mem_append_right _ (List.mem_append_right _ (List.mem_append_left _ (List.mem_of_getElem? h))))))))))))))))))))))
  | 12, _, _, h => List.mem_append_left _ (List.mem_append_left _ (List.mem_append_left _ (List.mem_append_left _ (List.mem_append_left _ (List.mem_append_left _ (List.mem_append_left _ (List.mem_append_left _ (List.mem_append_left _ (List.mem_append_left _ (List.mem_append_right _ (List.mem_append_right _ (List.mem_append_right _ (List.mem_append_right _ (List.mem_append_right _ (List.mem_append_right _ (List.mem_append_right _ (List.mem_append_right _ (List.mem_append_right _ (List.mem_append_right _ (List.mem_append_right _ (List.mem_append_right _ (List.mem_append_left _ (List.mem_of_getElem? h)))))))))))))))))))))))
  | 13, _, _, h => List.mem_append_left _ (List.mem_append_left _ (List.mem_append_left _ (List.mem_append_left _ (List.mem_append_left _ (List.mem_append_left _ (List.mem_append_left _ (List.mem_append_left _ (List.mem_append_left _ (List.mem_append_left _ (List.mem_append_right _ (List.mem_append_right _ (List.mem_append_right _ (List.mem_append_right _ (List.mem_append_right _ (List.mem_append_right _ (List.mem_append_right _ (List.mem_append_right _ (List.mem_append_right _ (List.mem_append_right _ (List.mem_append_right _ (List.mem_append_right _ (List.mem_append_right _ (List.mem_append_left _ (List.mem_of_getElem? h))))))))))))))))))))))))
  | 14, _, _, h => List.mem_append_left _ (List.mem_append_left _ (List.mem_append_left _ (List.mem_append_left _ (List.mem_append_left _ (List.mem_append_left _ (List.mem_append_left _ (List.mem_append_left _ (List.mem_append_left _ (List.mem_append_left _ (List.mem_append_right _ (List.mem_append_right _ (List.mem_append_right _ (List.mem_append_right _ (List.mem_append_right _ (List.mem_append_right _ (List.mem_append_right _ (List.mem_append_right _ (List.mem_append_right _ (List.mem_append_right _ (List.mem_append_right _ (List.mem_append_right _ (List.mem_append_right _ (List.mem_append_right _ (List.mem_append_left _ (List.mem_of_getElem? h)))))))))))))))))))))))))
  | 15, _, _, h => List.mem_append_left _ (List.mem_append_left _ (List.mem_append_left _ (List.mem_append_left _ (List.mem_append_left _ (List.mem_append_left _ (List.mem_append_left _ (List.mem_append_left _ (List.mem_append_left _ (List.mem_append_left _ (List.mem_append_right _ (List.mem_append_right _ (List.mem_append_right _ (List.mem_append_right _ (List.mem_append_right _ (List.mem_append_right _ (List.mem_append_right _ (List.mem_append_right _ (List.mem_append_right _ (List.mem_append_right _ (List.mem_append_right _ (List.mem_append_right _ (List.mem_append_right _ (List.mem_append_right _ (List.mem_append_right _ (List.mem_append_left _ (List.mem_of_getElem? h))))))))))))))))))))))))))
  | 16, _, _, h => List.mem_append_left _ (List.mem_append_left _ (List.mem_append_left _ (List.mem_append_left _ (List.mem_append_left _ (List.mem_append_left _ (List.mem_append_left _ (List.mem_append_left _ (List.mem_append_left _ (List.mem_append_left _ (List.mem_append_right _ (List.mem_append_right _ (List.mem_append_right _ (List.mem_append_right _ (List.mem_append_right _ (List.mem_append_right _ (List.mem_append_right _ (List.mem_append_right _ (List.mem_append_right _ (List.mem_append_right _ (List.mem_append_right _ (List.mem_append_right _ (List.mem_append_right _ (List.mem_append_right _ (List.mem_append_right _ (List.mem_append_right _ (List.mem_append_left _ (List.mem_of_getElem? h)))))))))))))))))))))))))))
  | 17, _, _, h => List.mem_append_left _ (List.mem_append_left _ (List.mem_append_left _ (List.mem_append_left _ (List.mem_append_left _ (List.mem_append_left _ (List.mem_append_left _ (List.mem_append_left _ (List.mem_append_left _ (List.mem_append_left _ (List.mem_append_right _ (List.mem_append_right _ (List.mem_append_right _ (List.mem_append_right _ (List.mem_append_right _ (List.mem_append_right _ (List.mem_append_right _ (List.mem_append_right _ (List.mem_append_right _ (List.mem_append_right _ (List.mem_append_right _ (List.mem_append_right _ (List.mem_append_right _ (List.mem_append_right _ (List.mem_append_right _ (List.mem_append_right _ (List.mem_append_right _ (List.mem_append_left _ (List.mem_of_getElem? h))))))))))))))))))))))))))))
  | 18, _, _, h => List.mem_append_left _ (List.mem_append_left _ (List.mem_append_left _ (List.mem_append_left _ (List.mem_append_left _ (List.mem_append_left _ (List.mem_append_left _ (List.mem_append_left _ (List.mem_append_left _ (List.mem_append_left _ (List.mem_append_right _ (List.mem_append_right _ (List.mem_append_right _ (List.mem_append_right _ (List.mem_append_right _ (List.mem_append_right _ (List.mem_append_right _ (List.mem_append_right _ (List.mem_append_right _ (List.mem_append_right _ (List.mem_append_right _ (List.mem_append_right _ (List.mem_append_right _ (List.mem_append_right _ (List.mem_append_right _ (List.mem_append_right _ (List.mem_append_right _ (List.mem_append_right _ (List.mem_append_left _ (List.mem_of_getElem? h)))))))))))))))))))))))))))))
  | 19, _, _, h => List.mem_append_left _ (List.mem_append_left _ (List.mem_append_left _ (List.mem_append_left _ (List.mem_append_left _ (List.mem_append_left _ (List.mem_append_left _ (List.mem_append_left _ (List.mem_append_left _ (List.mem_append_left _ (List.mem_append_right _ (List.mem_append_right _ (List.mem_append_right _ (List.mem_append_right _ (List.mem_append_right _ (List.mem_append_right _ (List.mem_append_right _ (List.mem_append_right _ (List.mem_append_right _ (List.mem_append_right _ (List.mem_append_right _ (List.mem_append_right _ (List.mem_append_right _ (List.mem_append_right _ (List.mem_append_right _ (List.mem_append_right _ (List.mem_append_right _ (List.mem_append_right _ (List.mem_append_right _ (List.mem_append_left _ (List.mem_of_getElem? h))))))))))))))))))))))))))))))
  | 20, _, _, h => List.mem_append_left _ (List.mem_append_left _ (List.mem_append_left _ (List.mem_append_left _ (List.mem_append_left _ (List.mem_append_left _ (List.mem_append_left _ (List.mem_append_left _ (List.mem_append_left _ (List.mem_append_left _ (List.mem_append_right _ (List.mem_append_right _ (List.mem_append_right _ (List.mem_append_right _ (List.mem_append_right _ (List.mem_append_right _ (List.mem_append_right _ (List.mem_append_right _ (List.mem_append_right _ (List.mem_append_right _ (List.mem_append_right _ (List.mem_append_right _ (List.mem_append_right _ (List.mem_append_right _ (List.mem_append_right _ (List.mem_append_right _ (List.mem_append_right _ (List.mem_append_right _ (List.mem_append_right _ (List.mem_append_right _ (List.mem_append_left _ (List.mem_of_getElem? h)))))))))))))))))))))))))))))))
  | 21, _, _, h => List.mem_append_left _ (List.mem_append_left _ (List.mem_append_left _ (List.mem_append_left _ (List.mem_append_left _ (List.mem_append_left _ (List.mem_append_left _ (List.mem_append_left _ (List.mem_append_left _ (List.mem_append_left _ (List.mem_append_right _ (List.mem_append_right _ (List.mem_append_right _ (List.mem_append_right _ (List.mem_append_right _ (List.mem_append_right _ (List.mem_append_right _ (List.mem_append_right _ (List.mem_append_right _ (List.mem_append_right _ (List.mem_append_right _ (List.mem_append_right _ (List.mem_append_right _ (List.mem_append_right _ (List.mem_append_right _ (List.mem_append_right _ (List.mem_append_right _ (List.mem_append_right _ (List.mem_append_right _ (List.mem_append_right _ (List.mem_append_right _ (List.mem_append_left _ (List.mem_of_getElem? h))))))))))))))))))))))))))))))))
  | 22, _, _, h => List.mem_append_left _ (List.mem_append_left _ (List.mem_append_left _ (List.mem_append_left _ (List.mem_append_left _ (List.mem_append_left _ (List.mem_append_left _ (List.mem_append_left _ (List.mem_append_left _ (List.mem_append_left _ (List.mem_append_right _ (List.mem_append_right _ (List.mem_append_right _ (List.mem_append_right _ (List.mem_append_right _ (List.mem_append_right _ (List.mem_append_right _ (List.mem_append_right _ (List.mem_append_right _ (List.mem_append_right _ (List.mem_append_right _ (List.mem_append_right _ (List.mem_append_right _ (List.mem_append_right _ (List.mem_append_right _ (List.mem_append_right _ (List.mem_append_right _ (List.mem_append_right _ (List.mem_append_right _ (List.mem_append_right _ (List.mem_append_right _ (List.mem_append_right _ (List.mem_append_left _ (List.mem_of_getElem? h)))))))))))))))))))))))))))))))))
  | 23, _, _, h => List.mem_append_left _ (List.mem_append_left _ (List.mem_append_left _ (List.mem_append_left _ (List.mem_append_left _ (List.mem_append_left _ (List.mem_append_left _ (List.mem_append_left _ (List.mem_append_left _ (List.mem_append_left _ (List.mem_append_right _ (List.mem_append_right _ (List.mem_append_right _ (List.mem_append_right _ (List.mem_append_right _ (List.mem_append_right _ (List.mem_append_right _ (List.mem_append_right _ (List.mem_append_right _ (List.mem_append_right _ (List.mem_append_right _ (List.mem_append_right _ (List.mem_append_right _ (List.mem_append_right _ (List.mem_append_right _ (List.mem_append_right _ (List.mem_append_right _ (List.mem_append_right _ (List.mem_append_right _ (List.mem_append_right _ (List.mem_append_right _ (List.mem_append_right _ (List.mem_append_right _ (List.mem_append_left _ (List.mem_of_getElem? h))))))))))))))))))))))))))))))))))
  | 24, _, _, h => List.mem_append_left _ (List.mem_append_left _ (List.mem_append_left _ (List.mem_append_left _ (List.mem_append_left _ (List.mem_append_left _ (List.mem_append_left _ (List.mem_append_left _ (List.mem_append_left _ (List.mem_append_left _ (List.mem_append_right _ (List.mem_append_right _ (List.mem_append_right _ (List.mem_append_right _ (List.mem_append_right _ (List.mem_append_right _ (List.mem_append_right _ (List.mem_append_right _ (List.mem_append_right _ (List.mem_append_right _ (List.mem_append_right _ (List.mem_append_right _ (List.mem_append_right _ (List.mem_append_right _ (List.mem_append_right _ (List.mem_append_right _ (List.mem_append_right _ (List.mem_append_right _ (List.mem_append_right _ (List.mem_append_right _ (List.mem_append_right _ (List.mem_append_right _ (List.mem_append_right _ (List.mem_append_right _ (List.mem_append_left _ (List.mem_of_getElem? h)))))))))))))))))))))))))))))))))))
  | 25, _, _, h => List.mem_append_left _ (List.mem_append_left _ (List.mem_append_left _ (List.mem_append_left _ (List.mem_append_left _ (List.mem_append_left _ (List.mem_append_left _ (List.mem_append_left _ (List.mem_append_left _ (List.mem_append_left _ (List.mem_append_right _ (List.mem_append_right _ (List.mem_append_right _ (List.mem_append_right _ (List.mem_append_right _ (List.mem_append_right _ (List.mem_append_right _ (List.mem_append_right _ (List.mem_append_right _ (List.mem_append_right _ (List.mem_append_right _ (List.mem_append_right _ (List.mem_append_right _ (List.mem_append_right _ (List.mem_append_right _ (List.mem_append_right _ (List.mem_append_right _ (List.mem_append_right _ (List.mem_append_right _ (List.mem_append_right _ (List.mem_append_right _ (List.mem_append_right _ (List.mem_append_right _ (List.mem_append_right _ (List.mem_append_right _ (List.mem_append_left _ (List.mem_of_getElem? h))))))))))))))))))))))))))))))))))))
  | 26, _, _, h => List.mem_append_left _ (List.mem_append_left _ (List.mem_append_left _ (List.mem_append_left _ (List.mem_append_left _ (List.mem_append_left _ (List.mem_append_left _ (List.mem_append_left _ (List.mem_append_left _ (List.mem_append_left _ (List.mem_append_right _ (List.mem_append_right _ (List.mem_append_right _ (List.mem_append_right _ (List.mem_append_right _ (List.mem_append_right _ (List.mem_append_right _ (List.mem_append_right _ (List.mem_append_right _ (List.mem_append_right _ (List.mem_append_right _ (List.mem_append_right _ (List.mem_append_right _ (List.mem_append_right _ (List.mem_append_right _ (List.mem_append_right _ (List.mem_append_right _ (List.mem_append_right _ (List.mem_append_right _ (List.mem_append_right _ (List.mem_append_right _ (List.mem_append_right _ (List.mem_append_right _ (List.mem_append_right _ (List.mem_append_right _ (List.mem_append_right _ (List.mem_append_left _ (List.mem_of_getElem? h)))))))))))))))))))))))))))))))))))))
  | 27, _, _, h => List.mem_append_left _ (List.mem_append_left _ (List.mem_append_left _ (List.mem_append_left _ (List.mem_append_left _ (List.mem_append_left _ (List.mem_append_left _ (List.mem_append_left _ (List.mem_append_left _ (List.mem_append_left _ (List.mem_append_right _ (List.mem_append_right _ (List.mem_append_right _ (List.mem_append_right _ (List.mem_append_right _ (List.mem_append_right _ (List.mem_append_right _ (List.mem_append_right _ (List.mem_append_right _ (List.mem_append_right _ (List.mem_append_right _ (List.mem_append_right _ (List.mem_append_right _ (List.mem_append_right _ (List.mem_append_right _ (List.mem_append_right _ (List.mem_append_right _ (List.mem_append_right _ (List.mem_append_right _ (List.mem_append_right _ (List.mem_append_right _ (List.mem_append_right _ (List.mem_append_right _ (List.mem_append_right _ (List.mem_append_right _ (List.mem_append_right _ (List.mem_append_right _ (List.mem_append_left _ (List.mem_of_getElem? h))))))))))))))))))))))))))))))))))))))
  | 28, _, _, h => List.mem_append_left _ (List.mem_append_left _ (List.mem_append_left _ (List.mem_append_left _ (List.mem_append_left _ (List.mem_append_left _ (List.mem_append_left _ (List.mem_append_left _ (List.mem_append_left _ (List.mem_append_left _ (List.mem_append_right _ (List.mem_append_right _ (List.mem_append_right _ (List.mem_append_right _ (List.mem_append_right _ (List.mem_append_right _ (List.mem_append_right _ (List.mem_append_right _ (List.mem_append_right _ (List.mem_append_right _ (List.mem_append_right _ (List.mem_append_right _ (List.mem_append_right _ (List.mem_append_right _ (List.mem_append_right _ (List.mem_append_right _ (List.mem_append_right _ (List.mem_append_right _ (List.mem_append_right _ (List.mem_append_right _ (List.mem_append_right _ (List.mem_append_right _ (List.mem_append_right _ (List.mem_append_right _ (List.mem_append_right _ (List.mem_append_right _ (List.mem_append_right _ (List.mem_append_right _ (List.mem_of_getElem? h))))))))))))))))))))))))))))))))))))))
  | 29, _, _, h => List.mem_append_left _ (List.mem_append_left _ (List.mem_append_left _ (List.mem_append_left _ (List.mem_append_left _ (List.mem_append_left _ (List.mem_append_left _ (List.mem_append_left _ (List.mem_append_left _ (List.mem_append_right _ (List.mem_of_getElem? h))))))))))
  | 30, _, _, h => List.mem_append_left _ (List.mem_append_left _ (List.mem_append_left _ (List.mem_append_left _ (List.mem_append_left _ (List.mem_append_left _ (List.mem_append_left _ (List.mem_append_left _ (List.mem_append_right _ (List.mem_of_getElem? h)))))))))
  | 31, _, _, h => List.mem_append_left _ (List.mem_append_left _ (List.mem_append_left _ (List.mem_append_left _ (List.mem_append_left _ (List.mem_append_left _ (List.mem_append_left _ (List.mem_append_right _ (List.mem_of_getElem? h))))))))
  | 32, _, _, h => List.mem_append_left _ (List.mem_append_left _ (List.mem_append_left _ (List.mem_append_left _ (List.mem_append_left _ (List.mem_append_left _ (List.mem_append_right _ (List.mem_of_getElem? h)))))))
  | 33, _, _, h => List.mem_append_left _ (List.mem_append_left _ (List.mem_append_left _ (List.mem_append_left _ (List.mem_append_left _ (List.mem_append_right _ (List.mem_of_getElem? h))))))
  | 34, _, _, h => List.mem_append_left _ (List.mem_append_left _ (List.mem_append_left _ (List.mem_append_left _ (List.mem_append_right _ (List.mem_of_getElem? h)))))
  | 35, _, _, h => List.mem_append_left _ (List.mem_append_left _ (List.mem_append_left _ (List.mem_append_right _ (List.mem_of_getElem? h))))
  | 36, _, _, h => List.mem_append_left _ (List.mem_append_left _ (List.mem_append_right _ (List.mem_of_getElem? h)))
  | _ + 37, _, _, h => List.mem_append_left _ (List.mem_append_right _ (List.mem_of_getElem? h))
theorem goodIn_ch (ws : List Cond) (ps : List (Nat × Nat)) (hp : ws = ps.filterMap (fun p => lw_ch p.1 p.2)) (h : ws.all goodWord = true) : GoodIn wsL_law ws := by
  intro w hw
  have h1 := List.all_eq_true.mp h w hw
  rw [hp] at hw
  obtain ⟨p, -, hi⟩ := List.mem_filterMap.mp hw
  exact ⟨lw_chin _ _ _ hi, good_of_word h1⟩
/-! THE CLAIM OUT OF ONE WALK OF THE LAW'S BODY. Your part is whole_start (and what it stands on); all else here is the same for every law, but numbers. -/
def R_law : String := "QuietStairsLaw"
def lw_P (b : Addr) (xs : List Int32) (args : Array Value) (s : State) : Prop := args = #[.ref b] ∧ s.IntsAt b xs ∧ xs.length ≤ 3584 ∧ (Jvm.Cond.and given_1 narrow_1).before args s = true
def lw_Q (_ : Array Value) (s : State) (o : Outcome) (t : State) : Prop := o = .returned (some (.int 1)) ∧ Framed s o t [] 656374 7133126
def lw_Z (below : List Frame) (a : Array Value) (s : State) : State → Prop := fun t => ∃ o, t.status = .running ∧ Ended t below o ∧ lw_Q a s o t
/-- the law's own end, with 1 on the stack, nothing written that was there before, its room as the claim has it -/
theorem lw_ret {p : Program} {l : Launch} {e : Env} {s : State} {m : MethodId} {below : List Frame} {meth : Method} {c : Code} {b : Nat} (hx : p.tables.exec = Jvm.exec) (hb : c.code = code) (hr : meth.sig.returnType = ret) (hlocks : meth.locks = false) {pc : Nat} {H : Heap} {ls : Array Slot} (hdg : decode code pc = .ok (.ireturn, 1)) : W p l e room_1 s m #[Value.ref b] below meth c H [] 656374 7133126 (lw_Z below #[Value.ref b] s) (F0 m pc ls [.int 1]) := by
  intro T hT X
  obtain ⟨fs, hret, hrun, hended, hW, hframe⟩ := X.leave (v := some (.int 1)) (hlocks := hlocks) (fun h => by rw [hr] at h; cases h)
  have hmeth' : T.vm.method? m = some meth := X.method'
  refine ⟨T.setFrames fs, ?_, .returned (some (.int 1)), hrun, hended, rfl, ⟨_, rfl⟩, hW, hframe⟩
  jvm_step X.here [X.here.top, hx, hb, hdg, hmeth', hr, ret, narrow_b1]
  (try refine ⟨rfl, ?_⟩); (try refine ⟨rfl, ?_⟩)
  first | (intro acts; rw [hret _ acts rfl rfl rfl]) | rw [hret _ _ rfl rfl rfl]
  exact Steps.refl _
/-- what holds at the law's entry: the machine, the code, the tables' words (any of lw_tbl by 'hts w (by decide +kernel)'), the script of L ints xs at the cell b, what the Statement gives of the start (any of its parts by flat_of_before) -/
def lw_At (p : Program) (s : State) (m : MethodId) (meth : Method) (c : Code) (b L : Nat) (xs : Nat → Int32) : Prop :=
  p.tables.exec = Jvm.exec ∧ c.code = code ∧ meth.sig.returnType = ret ∧ c.maxLocals = 4 ∧ s.vm.findClass R_law = some m.cls ∧ (∀ w ∈ lw_tbl, w.before #[Value.ref b] s = true) ∧ va_X b L xs s s.heap ∧ b < s.heap.size ∧ meth.locks = false ∧ (Jvm.Cond.and given_1 narrow_1).before #[Value.ref b] s = true
theorem tb_ex {b : Nat} {s : State} (hts : ∀ w ∈ lw_tbl, w.before #[Value.ref b] s = true) : ex_K s :=
  ⟨va_Nw.of rfl (hts (.methodLinkNest RX1 29 yX3_init RX7) (by decide +kernel)), va_Nw.of rfl (hts (.methodLinkNest RX1 30 yX2_init RX7) (by decide +kernel)), va_Nw.of rfl (hts (.methodLinkNest RX0 32 yX6_init RX7) (by decide +kernel)), va_Nw.of rfl (hts (.methodLinkNest RX7 18 yX4_init RX7) (by decide +kernel)), va_Nw.of rfl (hts (.methodLinkNest RX7 25 yX5_init RX7) (by decide +kernel)),
   va_AO.of (hts (.arrayOver (.object RX3)) (by decide +kernel)), va_AO.of (hts (.arrayOver (.object RX2)) (by decide +kernel)), va_AO.of (hts (.arrayOver (.object RX0)) (by decide +kernel)), va_AO.of (hts (.arrayOver (.object RX6)) (by decide +kernel)), hts (.arrayOver (.array .int)) (by decide +kernel), ⟨va_Nw.of rfl (hts (.methodLinkNest RX1 51 yX7_hasBit RX7) (by decide +kernel)), va_Nw.of rfl (hts (.methodLinkNest RX4 115 yX7_hasBit RX7) (by decide +kernel)), va_Nw.of rfl (hts (.methodLinkNest RX5 47 yX7_hasBit RX7) (by decide +kernel)), va_Nw.of rfl (hts (.fieldLinkNest RX1 32 RX7 "OTHER_OF_PAIR" "[I" RX7) (by decide +kernel)), va_Nw.of rfl (hts (.fieldLinkNest RX1 40 RX7 "LESSER_OF_PAIR" "[I" RX7) (by decide +kernel)), va_Nw.of rfl (hts (.fieldLinkNest RX4 109 RX7 "LESSER_OF_PAIR" "[I" RX7) (by decide +kernel)), va_Nw.of rfl (hts (.fieldLinkNest RX4 112 RX7 "OTHER_OF_PAIR" "[I" RX7) (by decide +kernel))⟩⟩

set_option maxHeartbeats 4000000 in
set_option maxRecDepth 100000 in
theorem tb_K {b : Nat} {s : State} (hts : ∀ w ∈ lw_tbl, w.before #[Value.ref b] s = true) : ∃ (dC : Nat → ClassId) (dI : Nat → Nat → Nat) (cy : Nat → ClassId), va_K (dC, dI) vwCl (ty_L cy) s := by
  obtain ⟨c0, j0, hk0⟩ := u_known (C := RX0) (T := TX0) (N := 11) (n := 11) hts inX0 (hts (.instantiable RX0 11) (by decide +kernel))
  obtain ⟨c1, j1, hk1⟩ := u_known (C := RX1) (T := TX1) (N := 7) (n := 7) hts inX1 (hts (.instantiable RX1 7) (by decide +kernel))
  obtain ⟨c2, j2, hk2⟩ := u_known (C := RX2) (T := TX2) (N := 3) (n := 3) hts inX2 (hts (.instantiable RX2 3) (by decide +kernel))
  obtain ⟨c3, j3, hk3⟩ := u_known (C := RX3) (T := TX3) (N := 2) (n := 2) hts inX3 (hts (.instantiable RX3 2) (by decide +kernel))
  obtain ⟨c4, j4, hk4⟩ := u_known (C := RX4) (T := TX4) (N := 11) (n := 11) hts inX4 (hts (.instantiable RX4 11) (by decide +kernel))
  obtain ⟨c5, j5, hk5⟩ := u_known (C := RX5) (T := TX5) (N := 3) (n := 3) hts inX5 (hts (.instantiable RX5 3) (by decide +kernel))
  obtain ⟨c6, j6, hk6⟩ := u_known (C := RX6) (T := TX6) (N := 5) (n := 5) hts inX6 (hts (.instantiable RX6 5) (by decide +kernel))
  obtain ⟨c7, j7, hk7⟩ := u_known (C := RX7) (T := TX7) (N := 5) (n := 5) hts inX7 (hts (.instantiable RX7 5) (by decide +kernel))
  obtain ⟨c8, j8, hk8⟩ := u_known (C := RX8) (T := TX8) (N := 11) (n := 11) hts inX8 (hts (.instantiable RX8 11) (by decide +kernel))
  obtain ⟨y0, z0, w0, a1, a2, a3⟩ := Cond.arrayClass_spec (hts (.arrayClass .int) (by decide +kernel))
  obtain ⟨w1, y1, z1, b11, b12, b13, b14, b15⟩ := Cond.arrayOver_spec (hts (.arrayOver (.object RX3)) (by decide +kernel))
  obtain ⟨w2, y2, z2, b21, b22, b23, b24, b25⟩ := Cond.arrayOver_spec (hts (.arrayOver (.object RX2)) (by decide +kernel))
  obtain ⟨w3, y3, z3, b31, b32, b33, b34, b35⟩ := Cond.arrayOver_spec (hts (.arrayOver (.object RX0)) (by decide +kernel))
  obtain ⟨w4, y4, z4, b41, b42, b43, b44, b45⟩ := Cond.arrayOver_spec (hts (.arrayOver (.object RX6)) (by decide +kernel))
  obtain ⟨w5, y5, z5, b51, b52, b53, b54, b55⟩ := (show ao_A s from hts (.arrayOver (.array .int)) (by decide +kernel)).spec
  refine ⟨fun k => if k = 0 then c0 else if k = 1 then c1 else if k = 2 then c2 else if k = 3 then c3 else if k = 4 then c4 else if k = 5 then c5 else if k = 6 then c6 else if k = 7 then c7 else c8, fun k => if k = 0 then j0 else if k = 1 then j1 else if k = 2 then j2 else if k = 3 then j3 else if k = 4 then j4 else if k = 5 then j5 else if k = 6 then j6 else if k = 7 then j7 else j8, fun k => if k = 0 then y0 else if k = 1 then y1 else if k = 2 then y2 else if k = 3 then y3 else if k = 4 then y4 else y5, ?_, ?_⟩
  · intro k q hq
    match k, hq with
    | 0, hq => cases hq; exact hk0
    | 1, hq => cases hq; exact hk1
    | 2, hq => cases hq; exact hk2
    | 3, hq => cases hq; exact hk3
    | 4, hq => cases hq; exact hk4
    | 5, hq => cases hq; exact hk5
    | 6, hq => cases hq; exact hk6
    | 7, hq => cases hq; exact hk7
    | 8, hq => cases hq; exact hk8
    | k + 9, hq => simp [vwCl] at hq
  · intro k q hq
    match k, hq with
    | 0, hq => cases hq; exact ⟨fun N z => ⟨(fun q hq => by cases hq), z0, a2, w0, a3⟩, a1⟩
    | 1, hq => cases hq; exact ⟨fun N z => ⟨(fun q hq => by cases hq), z1, b13, w1, b14⟩, z1, w1, b13, b14, b11, b15⟩
    | 2, hq => cases hq; exact ⟨fun N z => ⟨(fun q hq => by cases hq), z2, b23, w2, b24⟩, z2, w2, b23, b24, b21, b25⟩
    | 3, hq => cases hq; exact ⟨fun N z => ⟨(fun q hq => by cases hq), z3, b33, w3, b34⟩, z3, w3, b33, b34, b31, b35⟩
    | 4, hq => cases hq; exact ⟨fun N z => ⟨(fun q hq => by cases hq), z4, b43, w4, b44⟩, z4, w4, b43, b44, b41, b45⟩
    | 5, hq => cases hq; exact ⟨fun N z => ⟨(fun q hq => by cases hq), z5, b53, w5, b54⟩, b55⟩
    | k + 6, hq => simp [ty_L] at hq

set_option maxHeartbeats 4000000 in
set_option maxRecDepth 100000 in
theorem tb_st_o {b : Nat} {s : State} (hts : ∀ w ∈ lw_tbl, w.before #[Value.ref b] s = true) (hgv : (Jvm.Cond.and given_1 narrow_1).before #[Value.ref b] s = true) : ∃ t, va_Z RX7 "OTHER_OF_PAIR" "[I" (.ref t) (fun q : Nat => s.heap.size ≤ q) s s.heap ∧ va_T .int t 6 (fun j => .int (st_o j)) (fun q : Nat => s.heap.size ≤ q) s s.heap := by
  have hs := flat_of_before _ hgv
  have hA : ∀ a : Nat, a < s.heap.size → ¬ (fun q : Nat => s.heap.size ≤ q) a := fun a h => Nat.not_le.mpr h
  have harr : (Cond.arrayOf (.static "QuietStairs" "OTHER_OF_PAIR" "[I") .int).before #[Value.ref b] s = true := hs _ (by decide +kernel)
  have hl6 : (Cond.eq (.length (.static "QuietStairs" "OTHER_OF_PAIR" "[I")) (.int 6)).before #[Value.ref b] s = true := hs _ (by decide +kernel)
  have e0 : (Cond.eq (.elem (.static "QuietStairs" "OTHER_OF_PAIR" "[I") (.int 0)) (.int 1)).before #[Value.ref b] s = true := hs _ (by decide +kernel)
  have e1 : (Cond.eq (.elem (.static "QuietStairs" "OTHER_OF_PAIR" "[I") (.int 1)) (.int 2)).before #[Value.ref b] s = true := hs _ (by decide +kernel)
  have e2 : (Cond.eq (.elem (.static "QuietStairs" "OTHER_OF_PAIR" "[I") (.int 2)) (.int 3)).before #[Value.ref b] s = true := hs _ (by decide +kernel)
  have e3 : (Cond.eq (.elem (.static "QuietStairs" "OTHER_OF_PAIR" "[I") (.int 3)) (.int 2)).before #[Value.ref b] s = true := hs _ (by decide +kernel)
  have e4 : (Cond.eq (.elem (.static "QuietStairs" "OTHER_OF_PAIR" "[I") (.int 4)) (.int 3)).before #[Value.ref b] s = true := hs _ (by decide +kernel)
  have e5 : (Cond.eq (.elem (.static "QuietStairs" "OTHER_OF_PAIR" "[I") (.int 5)) (.int 3)).before #[Value.ref b] s = true := hs _ (by decide +kernel)
  obtain ⟨t, ht, hT⟩ := va_Tof (N := 6) (f := fun j => .int (st_o j)) (A := fun q : Nat => s.heap.size ≤ q) (by decide) harr (va_eqt hl6) (fun j hj => by
    rcases (show j = 0 ∨ j = 1 ∨ j = 2 ∨ j = 3 ∨ j = 4 ∨ j = 5 by omega) with rfl | rfl | rfl | rfl | rfl | rfl
    · exact va_eqt e0
    · exact va_eqt e1
    · exact va_eqt e2
    · exact va_eqt e3
    · exact va_eqt e4
    · exact va_eqt e5) hA
  exact ⟨t, va_Zof (hts (.laysStatic RX7 "OTHER_OF_PAIR" "[I") (by decide +kernel)) (hts (.initialized RX7) (by decide +kernel)) ht hA, hT⟩

set_option maxHeartbeats 4000000 in
set_option maxRecDepth 100000 in
theorem tb_st_l {b : Nat} {s : State} (hts : ∀ w ∈ lw_tbl, w.before #[Value.ref b] s = true) (hgv : (Jvm.Cond.and given_1 narrow_1).before #[Value.ref b] s = true) : ∃ t, va_Z RX7 "LESSER_OF_PAIR" "[I" (.ref t) (fun q : Nat => s.heap.size ≤ q) s s.heap ∧ va_T .int t 6 (fun j => .int (st_l j)) (fun q : Nat => s.heap.size ≤ q) s s.heap := by
  have hs := flat_of_before _ hgv
  have hA : ∀ a : Nat, a < s.heap.size → ¬ (fun q : Nat => s.heap.size ≤ q) a := fun a h => Nat.not_le.mpr h
  have harr : (Cond.arrayOf (.static "QuietStairs" "LESSER_OF_PAIR" "[I") .int).before #[Value.ref b] s = true := hs _ (by decide +kernel)
  have hl6 : (Cond.eq (.length (.static "QuietStairs" "LESSER_OF_PAIR" "[I")) (.int 6)).before #[Value.ref b] s = true := hs _ (by decide +kernel)
  have e0 : (Cond.eq (.elem (.static "QuietStairs" "LESSER_OF_PAIR" "[I") (.int 0)) (.int 0)).before #[Value.ref b] s = true := hs _ (by decide +kernel)
  have e1 : (Cond.eq (.elem (.static "QuietStairs" "LESSER_OF_PAIR" "[I") (.int 1)) (.int 0)).before #[Value.ref b] s = true := hs _ (by decide +kernel)
  have e2 : (Cond.eq (.elem (.static "QuietStairs" "LESSER_OF_PAIR" "[I") (.int 2)) (.int 0)).before #[Value.ref b] s = true := hs _ (by decide +kernel)
  have e3 : (Cond.eq (.elem (.static "QuietStairs" "LESSER_OF_PAIR" "[I") (.int 3)) (.int 1)).before #[Value.ref b] s = true := hs _ (by decide +kernel)
  have e4 : (Cond.eq (.elem (.static "QuietStairs" "LESSER_OF_PAIR" "[I") (.int 4)) (.int 1)).before #[Value.ref b] s = true := hs _ (by decide +kernel)
  have e5 : (Cond.eq (.elem (.static "QuietStairs" "LESSER_OF_PAIR" "[I") (.int 5)) (.int 2)).before #[Value.ref b] s = true := hs _ (by decide +kernel)
  obtain ⟨t, ht, hT⟩ := va_Tof (N := 6) (f := fun j => .int (st_l j)) (A := fun q : Nat => s.heap.size ≤ q) (by decide) harr (va_eqt hl6) (fun j hj => by
    rcases (show j = 0 ∨ j = 1 ∨ j = 2 ∨ j = 3 ∨ j = 4 ∨ j = 5 by omega) with rfl | rfl | rfl | rfl | rfl | rfl
    · exact va_eqt e0
    · exact va_eqt e1
    · exact va_eqt e2
    · exact va_eqt e3
    · exact va_eqt e4
    · exact va_eqt e5) hA
  exact ⟨t, va_Zof (hts (.laysStatic RX7 "LESSER_OF_PAIR" "[I") (by decide +kernel)) (hts (.initialized RX7) (by decide +kernel)) ht hA, hT⟩
