
set_option maxHeartbeats 4000000 in
set_option maxRecDepth 100000 in
theorem e_X6_hourBits (l : Launch) (dC : Nat → ClassId) (dI : Nat → Nat → Nat) (cy : Nat → ClassId) (sz : Nat) (ad : Nat → Nat) (kv : Value) (N : Nat) (hN : 119 ≤ N) (v : Nat → Nat → Int32) (hv : Iv v) (i : Nat) (hi : i < 6) (j : Nat) (hj : j < 5)  : Met l yX6_hourBits wsX6_hourBits ({ frames := 0, cells := 0, slots := 0, locals := 0 }) (va_Pc [.ref (ad (39 + 15 * i + j))] (ex_Pre dC dI cy sz (wl ad kv cy N v))) (va_Qi (fun (r : Int32) (u : Nat → Nat → Int32) => Iv u ∧ u = v ∧ r = hB (v (39 + 15 * i + j) 3) (v (39 + 15 * i + j) 4)) (fun u t => ex_Pst dC dI (va_A (wl ad kv cy N v) sz) (wl ad kv cy N u) t) (va_A (wl ad kv cy N v) sz)) 0 0 (va_A (wl ad kv cy N v) sz) := by
  refine Met.ofW (cc := cX6_hourBits) (maxL := 1) (ret := (some .int)) (by decide) rfl ?_
  intro p e s m args below meth c s₁ B hml hv
  obtain ⟨rfl, hsz, hE, hP, hK, hD0⟩ := hv
  have hx := B.exec
  have hb := B.bytes
  have hr := B.returns
  have hts := atoms_spec (ws := wsX6_hourBits) B.pre
  have hown : s.vm.findClass RX6 = some m.cls := findClass_of_methodNamed B.named
  have hlocks := B.notSynchronized
  subst hsz
  have hD := hD0.self (sz := s.heap.size)
  generalize hAe : va_A (wl ad kv cy N v) s.heap.size = A at hD ⊢
  have hA : ∀ q : Nat, s.heap.size ≤ q → A q := fun q h => by rw [← hAe]; exact Or.inr h
  have hS : va_S A s.heap s.heap [] := va_S.rf
  have hP : va_P (dC, dI) vwCl (wl ad kv cy N v) s.heap := hP
  have hl := lv_entry ([.ref (ad (39 + 15 * i + j))]) (n := 1) (Nat.le_of_ble_eq_true rfl)
  rw [lg_entry_eq]
  generalize (lg_sl ([.ref (ad (39 + 15 * i + j))]) ++ List.replicate (1 - (lg_sl ([.ref (ad (39 + 15 * i + j))])).length) Slot.unset).toArray = ls at hl ⊢
  have hl : lv_has ls 1 [(0, .ref (ad (39 + 15 * i + j)))] := hl
  refine lv_iconst (v := 1) hx hb dX6_hourBits_0 (by decide) ?_
  refine lv_aload_n hx hb dX6_hourBits_1 rfl (lv_at hl 0 rfl) ?_
  refine va_get (D := (dC, dI)) (ci := 6) (v := .int (v (39 + 15 * i + j) 4)) (C := RX6) (T := TX6) (N := 5) hx hb hts (by decide +kernel) hown hK hP (39 + 15 * i + j) (wl_at (by omega) (ce_16 (kd_t _ hi _ hj).1)) rfl 4 (by decide) (hts (.fieldLink RX6 7 "QuietStairs$Term" "last" "I") (by decide +kernel)) (fun _ h9 => h9) rfl dX6_hourBits_2 ?_
  refine lv_topi (fun x_1 ex_1 => ?_)
  have bzx_1 : 0 ≤ x_1.toInt ∧ x_1.toInt ≤ 23 := by rw [ex_1]; exact hv.at (K := 16) (kd_t _ hi _ hj).1 rfl
  have qx_1 : x_1.toInt = (v (39 + 15 * i + j) (4)).toInt := congrArg Int32.toInt ex_1
  refine lv_iconst (v := 1) hx hb dX6_hourBits_5 (by decide) ?_
  refine lv_iadd hx hb dX6_hourBits_6 ?_
  refine lv_topi (fun x_2 ex_2 => ?_)
  have k_1 : (1 : Int32).toInt = 1 := by decide
  have tx_2 : x_2.toInt = x_1.toInt + (1 : Int32).toInt := by rw [ex_2]; exact t_add ⟨by omega, by omega⟩
  refine lv_ishl hx hb dX6_hourBits_7 ?_
  refine lv_topi (fun x_3 ex_3 => ?_)
  refine lv_iconst (v := 1) hx hb dX6_hourBits_8 (by decide) ?_
  refine lv_aload_n hx hb dX6_hourBits_9 rfl (lv_at hl 0 rfl) ?_
  refine va_get (D := (dC, dI)) (ci := 6) (v := .int (v (39 + 15 * i + j) 3)) (C := RX6) (T := TX6) (N := 5) hx hb hts (by decide +kernel) hown hK hP (39 + 15 * i + j) (wl_at (by omega) (ce_16 (kd_t _ hi _ hj).1)) rfl 3 (by decide) (hts (.fieldLink RX6 13 "QuietStairs$Term" "first" "I") (by decide +kernel)) (fun _ h9 => h9) rfl dX6_hourBits_10 ?_
  refine lv_topi (fun x_4 ex_4 => ?_)
  have bzx_4 : 0 ≤ x_4.toInt ∧ x_4.toInt ≤ 23 := by rw [ex_4]; exact hv.at (K := 16) (kd_t _ hi _ hj).1 rfl
  have qx_4 : x_4.toInt = (v (39 + 15 * i + j) (3)).toInt := congrArg Int32.toInt ex_4
  refine lv_ishl hx hb dX6_hourBits_13 ?_
  refine lv_topi (fun x_5 ex_5 => ?_)
  refine lv_isub hx hb dX6_hourBits_14 ?_
  refine lv_topi (fun x_6 ex_6 => ?_)
  exact W.iret (v := x_6) hx hb hr (fun t ht hW => ⟨⟨x_6, v, rfl, ⟨hv, rfl, by unfold hB; rw [ex_6, ex_3, ex_2, ex_1, ex_5, ex_4]⟩, by rw [ht]; exact hP, hD⟩, hS.F ht⟩) hS.2.2 dX6_hourBits_15

set_option maxHeartbeats 4000000 in
set_option maxRecDepth 100000 in
theorem e_X5_allowedHours (l : Launch) (dC : Nat → ClassId) (dI : Nat → Nat → Nat) (cy : Nat → ClassId) (sz : Nat) (ad : Nat → Nat) (kv : Value) (N : Nat) (hN : 119 ≤ N) (v : Nat → Nat → Int32) (hv : Iv v) (i : Nat) (hi : i < 6) (j : Nat) (hj : j < 5) (x0 : Int32) (hs : 0 ≤ x0.toInt ∧ x0.toInt ≤ 5) (hj2 : (j : Int) < x0.toInt) (hT : ∀ t : Nat, t < 5 → (t : Int) < x0.toInt → (v (39 + 15 * i + t) 3).toInt ≤ (v (39 + 15 * i + t) 4).toInt) : Met l yX5_allowedHours wsX5_allowedHours ({ frames := 1, cells := 0, slots := 0, locals := 64 }) (va_Pc [.ref (ad (29 + 15 * i)), .ref (ad (39 + 15 * i + j)), .int x0] (ex_Pre dC dI cy sz (wl ad kv cy N v))) (va_Qi (fun (r : Int32) (u : Nat → Nat → Int32) => Iv u ∧ u = v ∧ AL (fun t k => (v (39 + 15 * i + t) k).toInt) (v (39 + 15 * i + j) 0).toInt j r x0.toInt) (fun u t => ex_Pst dC dI (va_A (wl ad kv cy N v) sz) (wl ad kv cy N u) t) (va_A (wl ad kv cy N v) sz)) 0 0 (va_A (wl ad kv cy N v) sz) := by
  refine Met.ofW (cc := cX5_allowedHours) (maxL := 6) (ret := (some .int)) (by decide) rfl ?_
  intro p e s m args below meth c s₁ B hml hv
  obtain ⟨rfl, hsz, hE, hP, hK, hD0⟩ := hv
  have hx := B.exec
  have hb := B.bytes
  have hr := B.returns
  have hts := atoms_spec (ws := wsX5_allowedHours) B.pre
  have hown : s.vm.findClass RX5 = some m.cls := findClass_of_methodNamed B.named
  have hlocks := B.notSynchronized
  subst hsz
  have hD := hD0.self (sz := s.heap.size)
  generalize hAe : va_A (wl ad kv cy N v) s.heap.size = A at hD ⊢
  have hA : ∀ q : Nat, s.heap.size ≤ q → A q := fun q h => by rw [← hAe]; exact Or.inr h
  have hS : va_S A s.heap s.heap [] := va_S.rf
  have hP : va_P (dC, dI) vwCl (wl ad kv cy N v) s.heap := hP
  have hl := lv_entry ([.ref (ad (29 + 15 * i)), .ref (ad (39 + 15 * i + j)), .int x0]) (n := 6) (Nat.le_of_ble_eq_true rfl)
  rw [lg_entry_eq]
  generalize (lg_sl ([.ref (ad (29 + 15 * i)), .ref (ad (39 + 15 * i + j)), .int x0]) ++ List.replicate (6 - (lg_sl ([.ref (ad (29 + 15 * i)), .ref (ad (39 + 15 * i + j)), .int x0])).length) Slot.unset).toArray = ls at hl ⊢
  have hl : lv_has ls 6 [(0, .ref (ad (29 + 15 * i))), (1, .ref (ad (39 + 15 * i + j))), (2, .int x0)] := hl
  obtain ⟨DD, eDD⟩ : ∃ f : Nat → Nat → Int, f = fun t k => (v (39 + 15 * i + t) k).toInt := ⟨_, rfl⟩
  obtain ⟨sj, esj⟩ : ∃ z : Int32, z = v (39 + 15 * i + j) 0 := ⟨_, rfl⟩
  have hDsj : DD j 0 = sj.toInt := by rw [eDD, esj]
  obtain ⟨aj, eaj⟩ : ∃ z : Int32, z = v (39 + 15 * i + j) 2 := ⟨_, rfl⟩
  have hDaj : DD j 2 = aj.toInt := by rw [eDD, eaj]
  have hL9 : ∀ t : Nat, t < 5 → (t : Int) < x0.toInt → ok24 (hB (v (39 + 15 * i + t) 3) (v (39 + 15 * i + t) 4)) ∧ ∀ h : Nat, h < 24 → (bt (hB (v (39 + 15 * i + t) 3) (v (39 + 15 * i + t) 4)) h ↔ (DD t 3 ≤ (h : Int) ∧ (h : Int) ≤ DD t 4)) := fun t ht h1 => by
    have q1 := hv.at (k := 39 + 15 * i + t) (j := 3) (K := 16) (kd_t _ hi _ ht).1 rfl
    have q2 := hv.at (k := 39 + 15 * i + t) (j := 4) (K := 16) (kd_t _ hi _ ht).1 rfl
    rw [eDD]
    exact hB_b q1.1 (hT t ht h1) q2.2
  refine lv_aload_n hx hb dX5_allowedHours_0 rfl (lv_at hl 1 rfl) ?_
  refine yw_i (w1 := fun (u : Nat → Nat → Int32) => wl ad kv cy N u) hD hS hA (va_runV (As := []) (rest := []) ⟨hx, hb, hml, hown, hts⟩ (e_X6_hourBits l dC dI cy _ ad kv N hN v hv i hi j hj) (cwV 0 hts gX5_allowedHours_X6_hourBits rfl rfl rfl (by decide +kernel) ⟨Nat.le_of_ble_eq_true rfl, Nat.le_of_ble_eq_true rfl⟩) (yw_preV hE hK hP hD (ci := 6) (q0 := (39 + 15 * i + j)) rfl (wl_at (by omega) (ce_16 (kd_t _ hi _ hj).1))) rfl rfl hl.1 rfl (lv_room (Nat.le_of_ble_eq_true rfl)) dX5_allowedHours_1 ⟨Nat.le_of_ble_eq_true rfl, Nat.le_of_ble_eq_true rfl⟩) (fun r_1 v_1 H locs hw_1 hP hD hS => ?_)
  obtain ⟨-, hu_1, hw_1⟩ := hw_1
  replace hu_1 := hu_1.symm
  subst hu_1
  refine lv_istore_n (lv' := [(3, .int r_1), (0, .ref (ad (29 + 15 * i))), (1, .ref (ad (39 + 15 * i + j))), (2, .int x0)]) hx hb dX5_allowedHours_4 rfl hl (by decide) rfl (fun ls hl => ?_)
  refine lv_iconst (v := 0) hx hb dX5_allowedHours_5 (by decide) ?_
  refine lv_istore (lv' := [(4, .int 0), (3, .int r_1), (0, .ref (ad (29 + 15 * i))), (1, .ref (ad (39 + 15 * i + j))), (2, .int x0)]) hx hb dX5_allowedHours_6 hl (by decide) rfl (fun ls hl => ?_)
  have hc_2 : ∀ (n : Nat) (y2_4 y2_3 : Int32) (H : Heap) (locs : List Loc), 0 ≤ y2_4.toInt → y2_4.toInt ≤ 5 → (AL DD sj.toInt j y2_3 y2_4.toInt) → (y2_4.toInt ≤ x0.toInt) → (5 - y2_4.toInt).toNat < n → va_P (dC, dI) vwCl (wl ad kv cy N v) H → va_D A (wl ad kv cy N v) → va_S A s.heap H locs → ∀ ls : Array Slot, lv_has ls 6 [(4, .int y2_4), (3, .int y2_3), (0, .ref (ad (29 + 15 * i))), (1, .ref (ad (39 + 15 * i + j))), (2, .int x0)] → W p l e (headSpec wsX5_allowedHours ({ frames := 1, cells := 0, slots := 0, locals := 64 })).room s m [Value.ref (ad (29 + 15 * i)), Value.ref (ad (39 + 15 * i + j)), Value.int x0].toArray below meth c H locs 0 0 (MQ below (va_Qi (fun (r : Int32) (u : Nat → Nat → Int32) => Iv u ∧ u = v ∧ AL (fun t k => (v (39 + 15 * i + t) k).toInt) (v (39 + 15 * i + j) 0).toInt j r x0.toInt) (fun u t => ex_Pst dC dI A (wl ad kv cy N u) t) A) [Value.ref (ad (29 + 15 * i)), Value.ref (ad (39 + 15 * i + j)), Value.int x0].toArray s 0 0 A) (F0 m 8 ls []) := by
    intro n
    induction n with
    | zero =>
      intro y2_4 y2_3 H locs ay2_4 by2_4 hi2_0 hi2_1 hm_2 hP hD hS ls hl
      exact absurd hm_2 (by omega)
    | succ n ih_2 =>
      intro y2_4 y2_3 H locs ay2_4 by2_4 hi2_0 hi2_1 hm_2 hP hD hS ls hl
      refine lv_iload hx hb dX5_allowedHours_8 (lv_at hl 0 rfl) ?_
      refine lv_iload_n hx hb dX5_allowedHours_10 rfl (lv_at hl 4 rfl) ?_
      refine lv_icmp_ge (tgt := 71) hx hb dX5_allowedHours_11 (by decide) (fun c_3 => ?_) (fun c_3 => ?_)
      · have tc_3 : y2_4.toInt ≥ x0.toInt := Int32.le_iff_toInt_le.mp c_3
        refine lv_iload_n hx hb dX5_allowedHours_71 rfl (lv_at hl 1 rfl) ?_
        exact W.iret (v := y2_3) hx hb hr (fun t ht hW => ⟨⟨y2_3, v, rfl, ⟨hv, rfl, by rw [← eDD, ← esj, show x0.toInt = y2_4.toInt from by omega]; exact hi2_0⟩, by rw [ht]; exact hP, hD⟩, hS.F ht⟩) hS.2.2 dX5_allowedHours_72
      · have tc_3 : y2_4.toInt < x0.toInt := Int32.lt_iff_toInt_lt.mp (Int32.not_le.mp c_3)
        refine lv_aload_n hx hb dX5_allowedHours_14 rfl (lv_at hl 2 rfl) ?_
        refine va_get (D := (dC, dI)) (ci := 0) (v := .ref (ad (29 + 15 * i + 9))) (C := RX0) (T := TX0) (N := 11) hx hb hts (by decide +kernel) hown hK hP (29 + 15 * i) (wl_at (by omega) (ce_9 (kd_c _ hi).1.1)) rfl 10 (by decide) (hts (.fieldLink RX5 22 "QuietStairs$Case" "terms" "[LQuietStairs$Term;") (by decide +kernel)) (fun _ h9 => h9) rfl dX5_allowedHours_15 ?_
        refine W.eq (g2 := F0 m 18 ls [.ref (ad (38 + 15 * i))]) (by rw [show 29 + 15 * i + 9 = 38 + 15 * i from by omega]) ?_
        refine lv_iload hx hb dX5_allowedHours_18 (lv_at hl 0 rfl) ?_
        have zn_y2_4 : (y2_4.toNatClampNeg : Int) = y2_4.toInt := t_nn (by omega)
        have hx_4 : y2_4.toNatClampNeg < 5 := by omega
        refine va_aldq hx hb hK hP (38 + 15 * i) 4 (wl_at (by omega) (ce_15 (kd_c _ hi).1.2.2.2.2.2)) rfl (vp_in_iff.mpr ⟨by omega, by omega⟩) dX5_allowedHours_20 ?_
        refine W.eq (g2 := F0 m 21 ls [.ref (ad (39 + 15 * i + y2_4.toNatClampNeg))]) (by rw [if_pos hx_4, show 38 + 15 * i + 1 + y2_4.toNatClampNeg = 39 + 15 * i + y2_4.toNatClampNeg from by omega]; rfl) ?_
        refine lv_astore (lv' := [(5, .ref (ad (39 + 15 * i + y2_4.toNatClampNeg))), (4, .int y2_4), (3, .int y2_3), (0, .ref (ad (29 + 15 * i))), (1, .ref (ad (39 + 15 * i + j))), (2, .int x0)]) hx hb dX5_allowedHours_21 hl (by decide) rfl (fun ls hl => ?_)
        refine lv_aload hx hb dX5_allowedHours_23 (lv_at hl 0 rfl) ?_
        refine va_get (D := (dC, dI)) (ci := 6) (v := .int (v (39 + 15 * i + y2_4.toNatClampNeg) 0)) (C := RX6) (T := TX6) (N := 5) hx hb hts (by decide +kernel) hown hK hP (39 + 15 * i + y2_4.toNatClampNeg) (wl_at (by omega) (ce_16 (kd_t _ hi _ hx_4).1)) rfl 0 (by decide) (hts (.fieldLink RX5 28 "QuietStairs$Term" "side" "I") (by decide +kernel)) (fun _ h9 => h9) rfl dX5_allowedHours_25 ?_
        refine lv_topi (fun x_5 ex_5 => ?_)
        have bzx_5 : 0 ≤ x_5.toInt ∧ x_5.toInt ≤ 1 := by rw [ex_5]; exact hv.at (K := 16) (kd_t _ hi _ hx_4).1 rfl
        have qx_5 : x_5.toInt = (v (39 + 15 * i + y2_4.toNatClampNeg) (0)).toInt := congrArg Int32.toInt ex_5
        refine lv_aload_n hx hb dX5_allowedHours_28 rfl (lv_at hl 4 rfl) ?_
        refine va_get (D := (dC, dI)) (ci := 6) (v := .int (v (39 + 15 * i + j) 0)) (C := RX6) (T := TX6) (N := 5) hx hb hts (by decide +kernel) hown hK hP (39 + 15 * i + j) (wl_at (by omega) (ce_16 (kd_t _ hi _ hj).1)) rfl 0 (by decide) (hts (.fieldLink RX5 28 "QuietStairs$Term" "side" "I") (by decide +kernel)) (fun _ h9 => h9) rfl dX5_allowedHours_29 ?_
        refine lv_topi (fun x_6 ex_6 => ?_)
        have bzx_6 : 0 ≤ x_6.toInt ∧ x_6.toInt ≤ 1 := by rw [ex_6]; exact hv.at (K := 16) (kd_t _ hi _ hj).1 rfl
        obtain rfl : sj = x_6 := (ex_6.trans esj.symm).symm
        refine lv_icmp_ne (tgt := 65) hx hb dX5_allowedHours_32 (by decide) (fun c_7 => ?_) (fun c_7 => ?_)
        · have tc_7 : x_5.toInt ≠ sj.toInt := fun q => absurd (Int32.toInt_inj.mp q) c_7
          obtain ⟨x_8, ex_8⟩ : ∃ y : Int32, y = y2_4 + 1 := ⟨_, rfl⟩
          refine lv_iinc (v := x_8) (lv' := [(4, .int x_8), (5, .ref (ad (39 + 15 * i + y2_4.toNatClampNeg))), (3, .int y2_3), (0, .ref (ad (29 + 15 * i))), (1, .ref (ad (39 + 15 * i + j))), (2, .int x0)]) hx hb dX5_allowedHours_65 hl (k := 1) rfl (by rw [ex_8]; rfl) (by decide) rfl (fun ls hl => ?_)
          have k_1 : (1 : Int32).toInt = 1 := by decide
          have tx_8 : x_8.toInt = y2_4.toInt + (1 : Int32).toInt := by rw [ex_8]; exact t_add ⟨by omega, by omega⟩
          refine lv_goto (tgt := 8) hx hb dX5_allowedHours_68 (by decide) ?_
          have hF0 : DD y2_4.toNatClampNeg 0 = x_5.toInt := by rw [eDD, ex_5]
          exact ih_2 x_8 y2_3 _ _ (by omega) (by omega) (AL_no (o := y2_4.toNatClampNeg) (by omega) (by omega) (fun q => by rw [hF0] at q; omega) hi2_0) (by omega) (by omega) hP hD hS ls (lv_sub hl [0, 2, 3, 4, 5] rfl)
        · have tc_7 : x_5.toInt = sj.toInt := by rw [c_7]
          refine lv_aload hx hb dX5_allowedHours_35 (lv_at hl 0 rfl) ?_
          refine va_get (D := (dC, dI)) (ci := 6) (v := .int (v (39 + 15 * i + y2_4.toNatClampNeg) 1)) (C := RX6) (T := TX6) (N := 5) hx hb hts (by decide +kernel) hown hK hP (39 + 15 * i + y2_4.toNatClampNeg) (wl_at (by omega) (ce_16 (kd_t _ hi _ hx_4).1)) rfl 1 (by decide) (hts (.fieldLink RX5 33 "QuietStairs$Term" "must" "Z") (by decide +kernel)) (fun _ h9 => h9) rfl dX5_allowedHours_37 ?_
          refine lv_topi (fun x_8 ex_8 => ?_)
          have bzx_8 : 0 ≤ x_8.toInt ∧ x_8.toInt ≤ 1 := by rw [ex_8]; exact hv.at (K := 16) (kd_t _ hi _ hx_4).1 rfl
          have qx_8 : x_8.toInt = (v (39 + 15 * i + y2_4.toNatClampNeg) (1)).toInt := congrArg Int32.toInt ex_8
          have k_0 : (0 : Int32).toInt = 0 := by decide
          refine lv_if_ne (tgt := 65) hx hb dX5_allowedHours_40 (by decide) (fun c_9 => ?_) (fun c_9 => ?_)
          · have tc_9 : x_8.toInt ≠ (0 : Int32).toInt := fun q => absurd (Int32.toInt_inj.mp q) c_9
            obtain ⟨x_10, ex_10⟩ : ∃ y : Int32, y = y2_4 + 1 := ⟨_, rfl⟩
            refine lv_iinc (v := x_10) (lv' := [(4, .int x_10), (5, .ref (ad (39 + 15 * i + y2_4.toNatClampNeg))), (3, .int y2_3), (0, .ref (ad (29 + 15 * i))), (1, .ref (ad (39 + 15 * i + j))), (2, .int x0)]) hx hb dX5_allowedHours_65 hl (k := 1) rfl (by rw [ex_10]; rfl) (by decide) rfl (fun ls hl => ?_)
            have k_1 : (1 : Int32).toInt = 1 := by decide
            have tx_10 : x_10.toInt = y2_4.toInt + (1 : Int32).toInt := by rw [ex_10]; exact t_add ⟨by omega, by omega⟩
            refine lv_goto (tgt := 8) hx hb dX5_allowedHours_68 (by decide) ?_
            have hF0 : DD y2_4.toNatClampNeg 0 = x_5.toInt := by rw [eDD, ex_5]
            have hF1 : DD y2_4.toNatClampNeg 1 = x_8.toInt := by rw [eDD, ex_8]
            exact ih_2 x_10 y2_3 _ _ (by omega) (by omega) (AL_no (o := y2_4.toNatClampNeg) (by omega) (by omega) (fun q => by rw [hF0, hF1] at q; omega) hi2_0) (by omega) (by omega) hP hD hS ls (lv_sub hl [0, 2, 3, 4, 5] rfl)
          · have tc_9 : x_8.toInt = (0 : Int32).toInt := by rw [c_9]
            refine lv_aload hx hb dX5_allowedHours_43 (lv_at hl 0 rfl) ?_
            refine va_get (D := (dC, dI)) (ci := 6) (v := .int (v (39 + 15 * i + y2_4.toNatClampNeg) 2)) (C := RX6) (T := TX6) (N := 5) hx hb hts (by decide +kernel) hown hK hP (39 + 15 * i + y2_4.toNatClampNeg) (wl_at (by omega) (ce_16 (kd_t _ hi _ hx_4).1)) rfl 2 (by decide) (hts (.fieldLink RX5 44 "QuietStairs$Term" "act" "I") (by decide +kernel)) (fun _ h9 => h9) rfl dX5_allowedHours_45 ?_
            refine lv_topi (fun x_10 ex_10 => ?_)
            have qx_10 : x_10.toInt = (v (39 + 15 * i + y2_4.toNatClampNeg) (2)).toInt := congrArg Int32.toInt ex_10
            refine lv_aload_n hx hb dX5_allowedHours_48 rfl (lv_at hl 4 rfl) ?_
            refine va_get (D := (dC, dI)) (ci := 6) (v := .int (v (39 + 15 * i + j) 2)) (C := RX6) (T := TX6) (N := 5) hx hb hts (by decide +kernel) hown hK hP (39 + 15 * i + j) (wl_at (by omega) (ce_16 (kd_t _ hi _ hj).1)) rfl 2 (by decide) (hts (.fieldLink RX5 44 "QuietStairs$Term" "act" "I") (by decide +kernel)) (fun _ h9 => h9) rfl dX5_allowedHours_49 ?_
            refine lv_topi (fun x_11 ex_11 => ?_)
            obtain rfl : aj = x_11 := (ex_11.trans eaj.symm).symm
            refine lv_icmp_ne (tgt := 65) hx hb dX5_allowedHours_52 (by decide) (fun c_12 => ?_) (fun c_12 => ?_)
            · have tc_12 : x_10.toInt ≠ aj.toInt := fun q => absurd (Int32.toInt_inj.mp q) c_12
              obtain ⟨x_13, ex_13⟩ : ∃ y : Int32, y = y2_4 + 1 := ⟨_, rfl⟩
              refine lv_iinc (v := x_13) (lv' := [(4, .int x_13), (5, .ref (ad (39 + 15 * i + y2_4.toNatClampNeg))), (3, .int y2_3), (0, .ref (ad (29 + 15 * i))), (1, .ref (ad (39 + 15 * i + j))), (2, .int x0)]) hx hb dX5_allowedHours_65 hl (k := 1) rfl (by rw [ex_13]; rfl) (by decide) rfl (fun ls hl => ?_)
              have k_1 : (1 : Int32).toInt = 1 := by decide
              have tx_13 : x_13.toInt = y2_4.toInt + (1 : Int32).toInt := by rw [ex_13]; exact t_add ⟨by omega, by omega⟩
              refine lv_goto (tgt := 8) hx hb dX5_allowedHours_68 (by decide) ?_
              have hF0 : DD y2_4.toNatClampNeg 0 = x_5.toInt := by rw [eDD, ex_5]
              have hF1 : DD y2_4.toNatClampNeg 1 = x_8.toInt := by rw [eDD, ex_8]
              have hF2 : DD y2_4.toNatClampNeg 2 = x_10.toInt := by rw [eDD, ex_10]
              exact ih_2 x_13 y2_3 _ _ (by omega) (by omega) (AL_no (o := y2_4.toNatClampNeg) (by omega) (by omega) (fun q => by rw [hF0, hF1, hF2, hDaj] at q; omega) hi2_0) (by omega) (by omega) hP hD hS ls (lv_sub hl [0, 2, 3, 4, 5] rfl)
            · have tc_12 : x_10.toInt = aj.toInt := by rw [c_12]
              refine lv_iload_n hx hb dX5_allowedHours_55 rfl (lv_at hl 2 rfl) ?_
              refine lv_aload hx hb dX5_allowedHours_56 (lv_at hl 0 rfl) ?_
              refine yw_i (w1 := fun (u : Nat → Nat → Int32) => wl ad kv cy N u) hD hS hA (va_runV (As := []) (rest := [.int y2_3]) ⟨hx, hb, hml, hown, hts⟩ (e_X6_hourBits l dC dI cy _ ad kv N hN v hv i hi y2_4.toNatClampNeg hx_4) (cwV 0 hts gX5_allowedHours_X6_hourBits rfl rfl rfl (by decide +kernel) ⟨Nat.le_of_ble_eq_true rfl, Nat.le_of_ble_eq_true rfl⟩) (yw_preV hE hK hP hD (ci := 6) (q0 := (39 + 15 * i + y2_4.toNatClampNeg)) rfl (wl_at (by omega) (ce_16 (kd_t _ hi _ hx_4).1))) rfl rfl hl.1 rfl (lv_room (Nat.le_of_ble_eq_true rfl)) dX5_allowedHours_58 ⟨Nat.le_of_ble_eq_true rfl, Nat.le_of_ble_eq_true rfl⟩) (fun r_13 v_13 H locs hw_13 hP hD hS => ?_)
              obtain ⟨-, hu_13, hw_13⟩ := hw_13
              replace hu_13 := hu_13.symm
              subst hu_13
              refine lv_iconst (v := (-1)) hx hb dX5_allowedHours_61 (by decide) ?_
              refine lv_ixor hx hb dX5_allowedHours_62 ?_
              refine lv_topi (fun x_14 ex_14 => ?_)
              refine lv_iand hx hb dX5_allowedHours_63 ?_
              refine lv_topi (fun x_15 ex_15 => ?_)
              refine lv_istore_n (lv' := [(3, .int x_15), (5, .ref (ad (39 + 15 * i + y2_4.toNatClampNeg))), (4, .int y2_4), (0, .ref (ad (29 + 15 * i))), (1, .ref (ad (39 + 15 * i + j))), (2, .int x0)]) hx hb dX5_allowedHours_64 rfl hl (by decide) rfl (fun ls hl => ?_)
              obtain ⟨x_16, ex_16⟩ : ∃ y : Int32, y = y2_4 + 1 := ⟨_, rfl⟩
              refine lv_iinc (v := x_16) (lv' := [(4, .int x_16), (3, .int x_15), (5, .ref (ad (39 + 15 * i + y2_4.toNatClampNeg))), (0, .ref (ad (29 + 15 * i))), (1, .ref (ad (39 + 15 * i + j))), (2, .int x0)]) hx hb dX5_allowedHours_65 hl (k := 2) rfl (by rw [ex_16]; rfl) (by decide) rfl (fun ls hl => ?_)
              have k_1 : (1 : Int32).toInt = 1 := by decide
              have tx_16 : x_16.toInt = y2_4.toInt + (1 : Int32).toInt := by rw [ex_16]; exact t_add ⟨by omega, by omega⟩
              refine lv_goto (tgt := 8) hx hb dX5_allowedHours_68 (by decide) ?_
              have hF0 : DD y2_4.toNatClampNeg 0 = x_5.toInt := by rw [eDD, ex_5]
              have hF1 : DD y2_4.toNatClampNeg 1 = x_8.toInt := by rw [eDD, ex_8]
              have hF2 : DD y2_4.toNatClampNeg 2 = x_10.toInt := by rw [eDD, ex_10]
              exact ih_2 x_16 x_15 _ _ (by omega) (by omega) (by rw [ex_15, ex_14]; exact AL_yes (o := y2_4.toNatClampNeg) (by omega) (by omega) ⟨by rw [hF0]; omega, by rw [hF1]; omega, by rw [hF2, hDaj]; omega⟩ (by rw [hw_13]; exact (hL9 _ (by omega) (by omega)).2) hi2_0) (by omega) (by omega) hP hD hS ls (lv_sub hl [0, 1, 3, 4, 5] rfl)
  have k_0 : (0 : Int32).toInt = 0 := by decide
  exact hc_2 ((5 - (0 : Int32).toInt).toNat + 1) 0 r_1 _ _ (by omega) (by omega) (AL_0 (by rw [hw_1]; exact hL9 j hj hj2) (by omega)) (by omega) (by omega) hP hD hS ls (lv_sub hl [0, 1, 2, 3, 4] rfl)

set_option maxHeartbeats 4000000 in
set_option maxRecDepth 100000 in
theorem e_X5_read (l : Launch) (dC : Nat → ClassId) (dI : Nat → Nat → Nat) (cy : Nat → ClassId) (sz : Nat) (ad : Nat → Nat) (kv : Value) (N : Nat) (hN : 119 ≤ N) (v : Nat → Nat → Int32) (hv : Iv v) (i : Nat) (hi : i < 6) (x0 x1 : Int32) (hs : 0 ≤ x1.toInt ∧ x1.toInt ≤ 5) (hT : ∀ t : Nat, t < 5 → (t : Int) < x1.toInt → (v (39 + 15 * i + t) 3).toInt ≤ (v (39 + 15 * i + t) 4).toInt) : Met l yX5_read wsX5_read ({ frames := 2, cells := 0, slots := 0, locals := 128 }) (va_Pc [.ref (ad 10), .ref (ad (29 + 15 * i)), .int x0, .int x1] (ex_Pre dC dI cy sz (wl ad kv cy N v))) (va_Qv (fun (u : Nat → Nat → Int32) => Iv u ∧ (∀ k : Nat, k ≠ 10 → k ≠ 11 → k ≠ 12 → u k = v k) ∧ RD (fun t k => (v (39 + 15 * i + t) k).toInt) x0.toInt x1.toInt (u 10 0).toNatClampNeg (fun q => (u 11 q).toNatClampNeg) (u 12) ∧ ∀ q : Nat, (q : Int) < (u 10 0).toInt → 0 ≤ (u 11 q).toInt) (fun u t => ex_Pst dC dI (va_A (wl ad kv cy N v) sz) (wl ad kv cy N u) t) (va_A (wl ad kv cy N v) sz)) 0 0 (va_A (wl ad kv cy N v) sz) := by
  refine Met.ofW (cc := cX5_read) (maxL := 6) (ret := none) (by decide) rfl ?_
  intro p e s m args below meth c s₁ B hml hv
  obtain ⟨rfl, hsz, hE, hP, hK, hD0⟩ := hv
  have hx := B.exec
  have hb := B.bytes
  have hr := B.returns
  have hts := atoms_spec (ws := wsX5_read) B.pre
  have hown : s.vm.findClass RX5 = some m.cls := findClass_of_methodNamed B.named
  have hlocks := B.notSynchronized
  subst hsz
  have hD := hD0.self (sz := s.heap.size)
  generalize hAe : va_A (wl ad kv cy N v) s.heap.size = A at hD ⊢
  have hA : ∀ q : Nat, s.heap.size ≤ q → A q := fun q h => by rw [← hAe]; exact Or.inr h
  have hS : va_S A s.heap s.heap [] := va_S.rf
  have hP : va_P (dC, dI) vwCl (wl ad kv cy N v) s.heap := hP
  have hl := lv_entry ([.ref (ad 10), .ref (ad (29 + 15 * i)), .int x0, .int x1]) (n := 6) (Nat.le_of_ble_eq_true rfl)
  rw [lg_entry_eq]
  generalize (lg_sl ([.ref (ad 10), .ref (ad (29 + 15 * i)), .int x0, .int x1]) ++ List.replicate (6 - (lg_sl ([.ref (ad 10), .ref (ad (29 + 15 * i)), .int x0, .int x1])).length) Slot.unset).toArray = ls at hl ⊢
  have hl : lv_has ls 6 [(0, .ref (ad 10)), (1, .ref (ad (29 + 15 * i))), (2, .int x0), (3, .int x1)] := hl
  obtain ⟨DD, eDD⟩ : ∃ f : Nat → Nat → Int, f = fun t k => (v (39 + 15 * i + t) k).toInt := ⟨_, rfl⟩
  refine lv_aload_n hx hb dX5_read_0 rfl (lv_at hl 0 rfl) ?_
  refine lv_iconst (v := 0) hx hb dX5_read_1 (by decide) ?_
  refine va_put (D := (dC, dI)) (ci := 5) (v := .int 0) (ty := .int) (C := RX5) (T := TX5) (N := 3) hx hb hts (by decide +kernel) tyX5 tyX5_ok nmX5 hown hK hP hD hS (10) (wl_at (by omega) (ce_2 (by decide))) rfl 0 (by decide) (hts (.fieldLink RX5 18 "QuietStairs$Table" "count" "I") (by decide +kernel)) (fun _ h9 => h9) rfl (by decide +kernel) rfl rfl (Nat.le_of_ble_eq_true rfl) dX5_read_2 (fun H locs hP hD hS => ?_)
  have k_0 : (0 : Int32).toInt = 0 := by decide
  obtain ⟨v_1, ev_1⟩ : ∃ u : Nat → Nat → Int32, u = upr v (10) (upd (v (10)) 0 0) := ⟨_, rfl⟩
  have hP : va_P (dC, dI) vwCl (wl ad kv cy N v_1) H := by rw [ev_1, ← wl_put (e := _) (ce_2 (by decide))]; exact hP
  have hD : va_D A (wl ad kv cy N v_1) := by rw [ev_1, ← wl_put (e := _) (ce_2 (by decide))]; exact hD
  have hv : Iv v_1 := by rw [ev_1]; exact hv.put (K := 2) (by decide) (fun h q => by cases q; exact ⟨by omega, by omega⟩)
  refine lv_iconst (v := 0) hx hb dX5_read_5 (by decide) ?_
  refine lv_istore (lv' := [(4, .int 0), (0, .ref (ad 10)), (1, .ref (ad (29 + 15 * i))), (2, .int x0), (3, .int x1)]) hx hb dX5_read_6 hl (by decide) rfl (fun ls hl => ?_)
  have hc_2 : ∀ (n : Nat) (y2_4 : Int32) (u2 : Nat → Nat → Int32) (H : Heap) (locs : List Loc), 0 ≤ y2_4.toInt → y2_4.toInt ≤ 5 → (RDp DD x0.toInt x1.toInt y2_4.toInt (u2 10 0).toNatClampNeg (fun q => (u2 11 q).toNatClampNeg) (u2 12)) → (∀ k : Nat, k ≠ 10 → k ≠ 11 → k ≠ 12 → u2 k = v k) → ((u2 10 0).toInt ≤ y2_4.toInt) → (y2_4.toInt ≤ x1.toInt) → (∀ q : Nat, (q : Int) < (u2 10 0).toInt → 0 ≤ (u2 11 q).toInt) → (5 - y2_4.toInt).toNat < n → Iv u2 → va_P (dC, dI) vwCl (wl ad kv cy N u2) H → va_D A (wl ad kv cy N u2) → va_S A s.heap H locs → ∀ ls : Array Slot, lv_has ls 6 [(4, .int y2_4), (0, .ref (ad 10)), (1, .ref (ad (29 + 15 * i))), (2, .int x0), (3, .int x1)] → W p l e (headSpec wsX5_read ({ frames := 2, cells := 0, slots := 0, locals := 128 })).room s m [Value.ref (ad 10), Value.ref (ad (29 + 15 * i)), Value.int x0, Value.int x1].toArray below meth c H locs 0 0 (MQ below (va_Qv (fun (u : Nat → Nat → Int32) => Iv u ∧ (∀ k : Nat, k ≠ 10 → k ≠ 11 → k ≠ 12 → u k = v k) ∧ RD (fun t k => (v (39 + 15 * i + t) k).toInt) x0.toInt x1.toInt (u 10 0).toNatClampNeg (fun q => (u 11 q).toNatClampNeg) (u 12) ∧ ∀ q : Nat, (q : Int) < (u 10 0).toInt → 0 ≤ (u 11 q).toInt) (fun u t => ex_Pst dC dI A (wl ad kv cy N u) t) A) [Value.ref (ad 10), Value.ref (ad (29 + 15 * i)), Value.int x0, Value.int x1].toArray s 0 0 A) (F0 m 8 ls []) := by
    intro n
    induction n with
    | zero =>
      intro y2_4 u2 H locs ay2_4 by2_4 hi2_0 hi2_1 hi2_2 hi2_3 hi2_4 hm_2 hv hP hD hS ls hl
      exact absurd hm_2 (by omega)
    | succ n ih_2 =>
      intro y2_4 u2 H locs ay2_4 by2_4 hi2_0 hi2_1 hi2_2 hi2_3 hi2_4 hm_2 hv hP hD hS ls hl
      refine lv_iload hx hb dX5_read_8 (lv_at hl 0 rfl) ?_
      refine lv_iload_n hx hb dX5_read_10 rfl (lv_at hl 4 rfl) ?_
      refine lv_icmp_ge (tgt := 83) hx hb dX5_read_11 (by decide) (fun c_3 => ?_) (fun c_3 => ?_)
      · have tc_3 : y2_4.toInt ≥ x1.toInt := Int32.le_iff_toInt_le.mp c_3
        exact W.vret hx hb hr (fun t ht hW => ⟨⟨u2, rfl, ⟨hv, hi2_1, (by rw [← eDD]; have q := hi2_0; rw [show y2_4.toInt = x1.toInt from by omega] at q; exact q), hi2_4⟩, by rw [ht]; exact hP, hD⟩, hS.F ht⟩) hS.2.2 dX5_read_83
      · have tc_3 : y2_4.toInt < x1.toInt := Int32.lt_iff_toInt_lt.mp (Int32.not_le.mp c_3)
        refine lv_aload_n hx hb dX5_read_14 rfl (lv_at hl 2 rfl) ?_
        refine va_get (D := (dC, dI)) (ci := 0) (v := .ref (ad (29 + 15 * i + 9))) (C := RX0) (T := TX0) (N := 11) hx hb hts (by decide +kernel) hown hK hP (29 + 15 * i) (wl_at (by omega) (ce_9 (kd_c _ hi).1.1)) rfl 10 (by decide) (hts (.fieldLink RX5 22 "QuietStairs$Case" "terms" "[LQuietStairs$Term;") (by decide +kernel)) (fun _ h9 => h9) rfl dX5_read_15 ?_
        refine W.eq (g2 := F0 m 18 ls [.ref (ad (38 + 15 * i))]) (by rw [show 29 + 15 * i + 9 = 38 + 15 * i from by omega]) ?_
        refine lv_iload hx hb dX5_read_18 (lv_at hl 0 rfl) ?_
        have zn_y2_4 : (y2_4.toNatClampNeg : Int) = y2_4.toInt := t_nn (by omega)
        have hx_4 : y2_4.toNatClampNeg < 5 := by omega
        refine va_aldq hx hb hK hP (38 + 15 * i) 4 (wl_at (by omega) (ce_15 (kd_c _ hi).1.2.2.2.2.2)) rfl (vp_in_iff.mpr ⟨by omega, by omega⟩) dX5_read_20 ?_
        refine W.eq (g2 := F0 m 21 ls [.ref (ad (39 + 15 * i + y2_4.toNatClampNeg))]) (by rw [if_pos hx_4, show 38 + 15 * i + 1 + y2_4.toNatClampNeg = 39 + 15 * i + y2_4.toNatClampNeg from by omega]; rfl) ?_
        refine lv_astore (lv' := [(5, .ref (ad (39 + 15 * i + y2_4.toNatClampNeg))), (4, .int y2_4), (0, .ref (ad 10)), (1, .ref (ad (29 + 15 * i))), (2, .int x0), (3, .int x1)]) hx hb dX5_read_21 hl (by decide) rfl (fun ls hl => ?_)
        refine lv_aload hx hb dX5_read_23 (lv_at hl 0 rfl) ?_
        refine va_get (D := (dC, dI)) (ci := 6) (v := .int (u2 (39 + 15 * i + y2_4.toNatClampNeg) 0)) (C := RX6) (T := TX6) (N := 5) hx hb hts (by decide +kernel) hown hK hP (39 + 15 * i + y2_4.toNatClampNeg) (wl_at (by omega) (ce_16 (kd_t _ hi _ hx_4).1)) rfl 0 (by decide) (hts (.fieldLink RX5 28 "QuietStairs$Term" "side" "I") (by decide +kernel)) (fun _ h9 => h9) rfl dX5_read_25 ?_
        refine lv_topi (fun x_5 ex_5 => ?_)
        have bzx_5 : 0 ≤ x_5.toInt ∧ x_5.toInt ≤ 1 := by rw [ex_5]; exact hv.at (K := 16) (kd_t _ hi _ hx_4).1 rfl
        have qx_5 : x_5.toInt = (u2 (39 + 15 * i + y2_4.toNatClampNeg) (0)).toInt := congrArg Int32.toInt ex_5
        refine lv_iload_n hx hb dX5_read_28 rfl (lv_at hl 4 rfl) ?_
        have hF0 : DD y2_4.toNatClampNeg 0 = x_5.toInt := by rw [eDD, ex_5, hi2_1 _ (by omega) (by omega) (by omega)]
        refine lv_icmp_ne (tgt := 77) hx hb dX5_read_29 (by decide) (fun c_6 => ?_) (fun c_6 => ?_)
        · have tc_6 : x_5.toInt ≠ x0.toInt := fun q => absurd (Int32.toInt_inj.mp q) c_6
          obtain ⟨x_7, ex_7⟩ : ∃ y : Int32, y = y2_4 + 1 := ⟨_, rfl⟩
          refine lv_iinc (v := x_7) (lv' := [(4, .int x_7), (5, .ref (ad (39 + 15 * i + y2_4.toNatClampNeg))), (0, .ref (ad 10)), (1, .ref (ad (29 + 15 * i))), (2, .int x0), (3, .int x1)]) hx hb dX5_read_77 hl (k := 1) rfl (by rw [ex_7]; rfl) (by decide) rfl (fun ls hl => ?_)
          have k_1 : (1 : Int32).toInt = 1 := by decide
          have tx_7 : x_7.toInt = y2_4.toInt + (1 : Int32).toInt := by rw [ex_7]; exact t_add ⟨by omega, by omega⟩
          refine lv_goto (tgt := 8) hx hb dX5_read_80 (by decide) ?_
          exact ih_2 x_7 u2 _ _ (by omega) (by omega) (RDp_no (t := y2_4.toNatClampNeg) (by omega) (by omega) (fun q => by unfold own at q; rw [hF0] at q; omega) hi2_0) (hi2_1) (by omega) (by omega) (hi2_4) (by omega) hv hP hD hS ls (lv_sub hl [0, 2, 3, 4, 5] rfl)
        · have tc_6 : x_5.toInt = x0.toInt := by rw [c_6]
          refine lv_aload hx hb dX5_read_32 (lv_at hl 0 rfl) ?_
          refine va_get (D := (dC, dI)) (ci := 6) (v := .int (u2 (39 + 15 * i + y2_4.toNatClampNeg) 1)) (C := RX6) (T := TX6) (N := 5) hx hb hts (by decide +kernel) hown hK hP (39 + 15 * i + y2_4.toNatClampNeg) (wl_at (by omega) (ce_16 (kd_t _ hi _ hx_4).1)) rfl 1 (by decide) (hts (.fieldLink RX5 33 "QuietStairs$Term" "must" "Z") (by decide +kernel)) (fun _ h9 => h9) rfl dX5_read_34 ?_
          refine lv_topi (fun x_7 ex_7 => ?_)
          have bzx_7 : 0 ≤ x_7.toInt ∧ x_7.toInt ≤ 1 := by rw [ex_7]; exact hv.at (K := 16) (kd_t _ hi _ hx_4).1 rfl
          have qx_7 : x_7.toInt = (u2 (39 + 15 * i + y2_4.toNatClampNeg) (1)).toInt := congrArg Int32.toInt ex_7
          have hF1 : DD y2_4.toNatClampNeg 1 = x_7.toInt := by rw [eDD, ex_7, hi2_1 _ (by omega) (by omega) (by omega)]
          refine lv_if_eq (tgt := 77) hx hb dX5_read_37 (by decide) (fun c_8 => ?_) (fun c_8 => ?_)
          · have tc_8 : x_7.toInt = (0 : Int32).toInt := by rw [c_8]
            obtain ⟨x_9, ex_9⟩ : ∃ y : Int32, y = y2_4 + 1 := ⟨_, rfl⟩
            refine lv_iinc (v := x_9) (lv' := [(4, .int x_9), (5, .ref (ad (39 + 15 * i + y2_4.toNatClampNeg))), (0, .ref (ad 10)), (1, .ref (ad (29 + 15 * i))), (2, .int x0), (3, .int x1)]) hx hb dX5_read_77 hl (k := 1) rfl (by rw [ex_9]; rfl) (by decide) rfl (fun ls hl => ?_)
            have k_1 : (1 : Int32).toInt = 1 := by decide
            have tx_9 : x_9.toInt = y2_4.toInt + (1 : Int32).toInt := by rw [ex_9]; exact t_add ⟨by omega, by omega⟩
            refine lv_goto (tgt := 8) hx hb dX5_read_80 (by decide) ?_
            exact ih_2 x_9 u2 _ _ (by omega) (by omega) (RDp_no (t := y2_4.toNatClampNeg) (by omega) (by omega) (fun q => by unfold own at q; rw [hF0, hF1] at q; omega) hi2_0) (hi2_1) (by omega) (by omega) (hi2_4) (by omega) hv hP hD hS ls (lv_sub hl [0, 2, 3, 4, 5] rfl)
          · have tc_8 : x_7.toInt ≠ (0 : Int32).toInt := fun q => absurd (Int32.toInt_inj.mp q) c_8
            refine lv_aload_n hx hb dX5_read_40 rfl (lv_at hl 2 rfl) ?_
            refine va_get (D := (dC, dI)) (ci := 5) (v := .ref (ad 11)) (C := RX5) (T := TX5) (N := 3) hx hb hts (by decide +kernel) hown hK hP (10) (wl_at (by omega) (ce_2 (by decide))) rfl 1 (by decide) (hts (.fieldLink RX5 9 "QuietStairs$Table" "musts" "[I") (by decide +kernel)) (fun _ h9 => h9) rfl dX5_read_41 ?_
            refine lv_aload_n hx hb dX5_read_44 rfl (lv_at hl 2 rfl) ?_
            refine va_get (D := (dC, dI)) (ci := 5) (v := .int (u2 (10) 0)) (C := RX5) (T := TX5) (N := 3) hx hb hts (by decide +kernel) hown hK hP (10) (wl_at (by omega) (ce_2 (by decide))) rfl 0 (by decide) (hts (.fieldLink RX5 18 "QuietStairs$Table" "count" "I") (by decide +kernel)) (fun _ h9 => h9) rfl dX5_read_45 ?_
            refine lv_topi (fun x_9 ex_9 => ?_)
            have bzx_9 : 0 ≤ x_9.toInt ∧ x_9.toInt ≤ 5 := by rw [ex_9]; exact hv.at (K := 2) (by decide) rfl
            have qx_9 : x_9.toInt = (u2 (10) (0)).toInt := congrArg Int32.toInt ex_9
            refine lv_iload hx hb dX5_read_48 (lv_at hl 1 rfl) ?_
            have zn_x_9 : (x_9.toNatClampNeg : Int) = x_9.toInt := t_nn (by omega)
            have hx_10 : x_9.toNatClampNeg < 5 := by omega
            refine va_iast hx hb hK hP hD hS (11) 0 (wl_at (by omega) (ce_19 (by decide))) rfl (vp_in_iff.mpr ⟨by omega, by omega⟩) dX5_read_50 (fun H locs hP hD hS => ?_)
            obtain ⟨v_11, ev_11⟩ : ∃ u : Nat → Nat → Int32, u = upr u2 (11) (upd (u2 (11)) (x_9.toNatClampNeg) y2_4) := ⟨_, rfl⟩
            have hP : va_P (dC, dI) vwCl (wl ad kv cy N v_11) H := by rw [ev_11, ← wl_put (e := _) (ce_19 (by decide))]; exact hP
            have hD : va_D A (wl ad kv cy N v_11) := by rw [ev_11, ← wl_put (e := _) (ce_19 (by decide))]; exact hD
            have hv : Iv v_11 := by rw [ev_11]; exact hv.put (K := 19) (by decide) (fun h q => by simp [bd] at q)
            refine lv_aload_n hx hb dX5_read_51 rfl (lv_at hl 2 rfl) ?_
            refine va_get (D := (dC, dI)) (ci := 5) (v := .ref (ad 12)) (C := RX5) (T := TX5) (N := 3) hx hb hts (by decide +kernel) hown hK hP (10) (wl_at (by omega) (ce_2 (by decide))) rfl 2 (by decide) (hts (.fieldLink RX5 15 "QuietStairs$Table" "hourBits" "[I") (by decide +kernel)) (fun _ h9 => h9) rfl dX5_read_52 ?_
            refine lv_aload_n hx hb dX5_read_55 rfl (lv_at hl 2 rfl) ?_
            refine va_get (D := (dC, dI)) (ci := 5) (v := .int (v_11 (10) 0)) (C := RX5) (T := TX5) (N := 3) hx hb hts (by decide +kernel) hown hK hP (10) (wl_at (by omega) (ce_2 (by decide))) rfl 0 (by decide) (hts (.fieldLink RX5 18 "QuietStairs$Table" "count" "I") (by decide +kernel)) (fun _ h9 => h9) rfl dX5_read_56 ?_
            refine lv_topi (fun x_12 ex_12 => ?_)
            have bzx_12 : 0 ≤ x_12.toInt ∧ x_12.toInt ≤ 5 := by rw [ex_12]; exact hv.at (K := 2) (by decide) rfl
            rw [ev_11, upr_n (by omega)] at ex_12
            obtain rfl : x_9 = x_12 := (ex_12.trans ex_9.symm).symm
            refine lv_aload_n hx hb dX5_read_59 rfl (lv_at hl 3 rfl) ?_
            refine lv_aload hx hb dX5_read_60 (lv_at hl 0 rfl) ?_
            refine lv_iload_n hx hb dX5_read_62 rfl (lv_at hl 5 rfl) ?_
            have hK9 : ∀ k : Nat, 13 ≤ k → v_11 k = v k := fun k h => by rw [ev_11, upr_n (by omega)]; exact hi2_1 k (by omega) (by omega) (by omega)
            have hE9 : (fun t k => (v_11 (39 + 15 * i + t) k).toInt) = DD := by rw [eDD]; funext t k; rw [hK9 _ (by omega)]
            refine yw_i (w1 := fun (u : Nat → Nat → Int32) => wl ad kv cy N u) hD hS hA (va_runS (As := [.ref (ad (29 + 15 * i)), .ref (ad (39 + 15 * i + y2_4.toNatClampNeg)), .int x1]) (rest := [.int x_9, .ref (ad 12)]) ⟨hx, hb, hml, hown, hts⟩ (e_X5_allowedHours l dC dI cy _ ad kv N hN v_11 hv i hi y2_4.toNatClampNeg hx_4 x1 ⟨by omega, by omega⟩ (by omega) (fun t ht h1 => by rw [hK9 _ (by omega)]; exact hT t ht h1)) (cwS 3 hts gX5_read_X5_allowedHours rfl rfl rfl (by decide +kernel) ⟨Nat.le_of_ble_eq_true rfl, Nat.le_of_ble_eq_true rfl⟩) (yw_preS hE hK hP hD) rfl rfl hl.1 rfl (lv_room (Nat.le_of_ble_eq_true rfl)) dX5_read_63 ⟨Nat.le_of_ble_eq_true rfl, Nat.le_of_ble_eq_true rfl⟩) (fun r_13 v_13 H locs hw_13 hP hD hS => ?_)
            obtain ⟨-, hu_13, hw_13⟩ := hw_13
            replace hu_13 := hu_13.symm
            subst hu_13
            rw [hE9] at hw_13
            have hs9 : (v_11 (39 + 15 * i + y2_4.toNatClampNeg) 0).toInt = x0.toInt := by rw [hK9 _ (by omega)]; have q := hF0; rw [eDD] at q; have q2 : (v (39 + 15 * i + y2_4.toNatClampNeg) 0).toInt = _ := q; omega
            rw [hs9] at hw_13
            have hAL9 : ok24 r_13 ∧ ∀ h : Nat, h < 24 → (bt r_13 h ↔ alw DD x0.toInt x1.toInt y2_4.toNatClampNeg h) := hw_13
            refine va_iast hx hb hK hP hD hS (12) 0 (wl_at (by omega) (ce_19 (by decide))) rfl (vp_in_iff.mpr ⟨by omega, by omega⟩) dX5_read_66 (fun H locs hP hD hS => ?_)
            obtain ⟨v_14, ev_14⟩ : ∃ u : Nat → Nat → Int32, u = upr v_11 (12) (upd (v_11 (12)) (x_9.toNatClampNeg) r_13) := ⟨_, rfl⟩
            have hP : va_P (dC, dI) vwCl (wl ad kv cy N v_14) H := by rw [ev_14, ← wl_put (e := _) (ce_19 (by decide))]; exact hP
            have hD : va_D A (wl ad kv cy N v_14) := by rw [ev_14, ← wl_put (e := _) (ce_19 (by decide))]; exact hD
            have hv : Iv v_14 := by rw [ev_14]; exact hv.put (K := 19) (by decide) (fun h q => by simp [bd] at q)
            refine lv_aload_n hx hb dX5_read_67 rfl (lv_at hl 2 rfl) ?_
            refine lv_dup hx hb dX5_read_68 rfl ?_
            refine va_get (D := (dC, dI)) (ci := 5) (v := .int (v_14 (10) 0)) (C := RX5) (T := TX5) (N := 3) hx hb hts (by decide +kernel) hown hK hP (10) (wl_at (by omega) (ce_2 (by decide))) rfl 0 (by decide) (hts (.fieldLink RX5 18 "QuietStairs$Table" "count" "I") (by decide +kernel)) (fun _ h9 => h9) rfl dX5_read_69 ?_
            refine lv_topi (fun x_15 ex_15 => ?_)
            have bzx_15 : 0 ≤ x_15.toInt ∧ x_15.toInt ≤ 5 := by rw [ex_15]; exact hv.at (K := 2) (by decide) rfl
            rw [ev_14, upr_n (by omega), ev_11, upr_n (by omega)] at ex_15
            obtain rfl : x_9 = x_15 := (ex_15.trans ex_9.symm).symm
            refine lv_iconst (v := 1) hx hb dX5_read_72 (by decide) ?_
            refine lv_iadd hx hb dX5_read_73 ?_
            refine lv_topi (fun x_16 ex_16 => ?_)
            have k_1 : (1 : Int32).toInt = 1 := by decide
            have tx_16 : x_16.toInt = x_9.toInt + (1 : Int32).toInt := by rw [ex_16]; exact t_add ⟨by omega, by omega⟩
            refine va_put (D := (dC, dI)) (ci := 5) (v := .int x_16) (ty := .int) (C := RX5) (T := TX5) (N := 3) hx hb hts (by decide +kernel) tyX5 tyX5_ok nmX5 hown hK hP hD hS (10) (wl_at (by omega) (ce_2 (by decide))) rfl 0 (by decide) (hts (.fieldLink RX5 18 "QuietStairs$Table" "count" "I") (by decide +kernel)) (fun _ h9 => h9) rfl (by decide +kernel) rfl rfl (Nat.le_of_ble_eq_true rfl) dX5_read_74 (fun H locs hP hD hS => ?_)
            obtain ⟨v_17, ev_17⟩ : ∃ u : Nat → Nat → Int32, u = upr v_14 (10) (upd (v_14 (10)) 0 x_16) := ⟨_, rfl⟩
            have hP : va_P (dC, dI) vwCl (wl ad kv cy N v_17) H := by rw [ev_17, ← wl_put (e := _) (ce_2 (by decide))]; exact hP
            have hD : va_D A (wl ad kv cy N v_17) := by rw [ev_17, ← wl_put (e := _) (ce_2 (by decide))]; exact hD
            have hv : Iv v_17 := by rw [ev_17]; exact hv.put (K := 2) (by decide) (fun h q => by cases q; exact ⟨by omega, by omega⟩)
            obtain ⟨x_18, ex_18⟩ : ∃ y : Int32, y = y2_4 + 1 := ⟨_, rfl⟩
            refine lv_iinc (v := x_18) (lv' := [(4, .int x_18), (5, .ref (ad (39 + 15 * i + y2_4.toNatClampNeg))), (0, .ref (ad 10)), (1, .ref (ad (29 + 15 * i))), (2, .int x0), (3, .int x1)]) hx hb dX5_read_77 hl (k := 1) rfl (by rw [ex_18]; rfl) (by decide) rfl (fun ls hl => ?_)
            have tx_18 : x_18.toInt = y2_4.toInt + (1 : Int32).toInt := by rw [ex_18]; exact t_add ⟨by omega, by omega⟩
            refine lv_goto (tgt := 8) hx hb dX5_read_80 (by decide) ?_
            have hc0 : (u2 10 0).toNatClampNeg = x_9.toNatClampNeg := by rw [← ex_9]
            have g10 : v_17 10 0 = x_16 := by rw [ev_17, upr_s, pk_us]
            have g11 : v_17 11 = upd (u2 11) (x_9.toNatClampNeg) y2_4 := by rw [ev_17, upr_n (by decide), ev_14, upr_n (by decide), ev_11, upr_s]
            have g12 : v_17 12 = upd (u2 12) (x_9.toNatClampNeg) r_13 := by rw [ev_17, upr_n (by decide), ev_14, upr_s, ev_11, upr_n (by decide)]
            have zn_x_16 : (x_16.toNatClampNeg : Int) = x_16.toInt := t_nn (by omega)
            exact ih_2 x_18 v_17 _ _ (by omega) (by omega) (RDp_new (t := y2_4.toNatClampNeg) (b := r_13) (by omega) (by omega) ⟨by rw [hF0]; omega, by rw [hF1]; omega⟩ hAL9 hi2_0 (by rw [g10, hc0]; omega) (fun q hq => by rw [hc0] at hq; show (v_17 11 q).toNatClampNeg = _; rw [g11, pk_un (by omega)]) (by show (v_17 11 (u2 10 0).toNatClampNeg).toNatClampNeg = _; rw [g11, hc0, pk_us]) (fun q hq => by rw [hc0] at hq; rw [g12, pk_un (by omega)]) (by rw [g12, hc0, pk_us])) (fun k h1 h2 h3 => by rw [ev_17, upr_n h1, ev_14, upr_n h3, ev_11, upr_n h2]; exact hi2_1 k h1 h2 h3) (by rw [g10]; omega) (by omega) (fun q hq => by rw [g10] at hq; rw [g11]; by_cases e : q = x_9.toNatClampNeg; rw [e, pk_us]; omega; rw [pk_un e]; exact hi2_4 q (by omega)) (by omega) hv hP hD hS ls (lv_sub hl [0, 2, 3, 4, 5] rfl)
  exact hc_2 ((5 - (0 : Int32).toInt).toNat + 1) 0 v_1 _ _ (by omega) (by omega) (RDp_0 (by rw [ev_1, upr_s, pk_us]; decide) (by decide)) (fun k h1 h2 h3 => by rw [ev_1, upr_n h1]) (by rw [ev_1, upr_s, pk_us]; decide) (by omega) (fun q hq => absurd hq (by rw [ev_1, upr_s, pk_us]; omega)) (by omega) hv hP hD hS ls (lv_sub hl [0, 1, 2, 3, 4] rfl)

set_option maxHeartbeats 4000000 in
set_option maxRecDepth 100000 in
theorem e_X5_stands (l : Launch) (dC : Nat → ClassId) (dI : Nat → Nat → Nat) (cy : Nat → ClassId) (sz : Nat) (ad : Nat → Nat) (kv : Value) (N : Nat) (hN : 119 ≤ N) (v : Nat → Nat → Int32) (hv : Iv v)  : Met l yX5_stands wsX5_stands ({ frames := 1, cells := 0, slots := 0, locals := 64 }) (va_Pc [.ref (ad 10)] (ex_Pre dC dI cy sz (wl ad kv cy N v))) (va_Qi (fun (r : Int32) (u : Nat → Nat → Int32) => Iv u ∧ u = v ∧ ((r = 1 ∧ HL (v 10 0) (v 12)) ∨ (r = 0 ∧ ¬ HL (v 10 0) (v 12)))) (fun u t => ex_Pst dC dI (va_A (wl ad kv cy N v) sz) (wl ad kv cy N u) t) (va_A (wl ad kv cy N v) sz)) 0 0 (va_A (wl ad kv cy N v) sz) := by
  refine Met.ofW (cc := cX5_stands) (maxL := 4) (ret := (some .boolean)) (by decide) rfl ?_
  intro p e s m args below meth c s₁ B hml hv
  obtain ⟨rfl, hsz, hE, hP, hK, hD0⟩ := hv
  have hx := B.exec
  have hb := B.bytes
  have hr := B.returns
  have hts := atoms_spec (ws := wsX5_stands) B.pre
  have hown : s.vm.findClass RX5 = some m.cls := findClass_of_methodNamed B.named
  have hlocks := B.notSynchronized
  subst hsz
  have hD := hD0.self (sz := s.heap.size)
  generalize hAe : va_A (wl ad kv cy N v) s.heap.size = A at hD ⊢
  have hA : ∀ q : Nat, s.heap.size ≤ q → A q := fun q h => by rw [← hAe]; exact Or.inr h
  have hS : va_S A s.heap s.heap [] := va_S.rf
  have hP : va_P (dC, dI) vwCl (wl ad kv cy N v) s.heap := hP
  have hl := lv_entry ([.ref (ad 10)]) (n := 4) (Nat.le_of_ble_eq_true rfl)
  rw [lg_entry_eq]
  generalize (lg_sl ([.ref (ad 10)]) ++ List.replicate (4 - (lg_sl ([.ref (ad 10)])).length) Slot.unset).toArray = ls at hl ⊢
  have hl : lv_has ls 4 [(0, .ref (ad 10))] := hl
  obtain ⟨ct, ect⟩ : ∃ z : Int32, z = v 10 0 := ⟨_, rfl⟩
  have hbct : 0 ≤ ct.toInt ∧ ct.toInt ≤ 5 := by rw [ect]; exact hv.at (K := 2) (by decide) rfl
  have zn_ct : (ct.toNatClampNeg : Int) = ct.toInt := t_nn (by omega)
  obtain ⟨HH, eHH⟩ : ∃ f : Nat → Int32, f = v 12 := ⟨_, rfl⟩
  refine lv_iconst (v := 1) hx hb dX5_stands_0 (by decide) ?_
  refine lv_istore_n (lv' := [(1, .int 1), (0, .ref (ad 10))]) hx hb dX5_stands_1 rfl hl (by decide) rfl (fun ls hl => ?_)
  have hc_1 : ∀ (n : Nat) (y1_1 : Int32) (H : Heap) (locs : List Loc), 1 ≤ y1_1.toInt → y1_1.toInt ≤ 33 → (∀ g : Int32, 1 ≤ g.toInt → g.toInt < y1_1.toInt → (bcF g).toInt ≤ (bcF (uI HH g ct.toNatClampNeg)).toInt) → (33 - y1_1.toInt).toNat < n → va_P (dC, dI) vwCl (wl ad kv cy N v) H → va_D A (wl ad kv cy N v) → va_S A s.heap H locs → ∀ ls : Array Slot, lv_has ls 4 [(1, .int y1_1), (0, .ref (ad 10))] → W p l e (headSpec wsX5_stands ({ frames := 1, cells := 0, slots := 0, locals := 64 })).room s m [Value.ref (ad 10)].toArray below meth c H locs 0 0 (MQ below (va_Qi (fun (r : Int32) (u : Nat → Nat → Int32) => Iv u ∧ u = v ∧ ((r = 1 ∧ HL (v 10 0) (v 12)) ∨ (r = 0 ∧ ¬ HL (v 10 0) (v 12)))) (fun u t => ex_Pst dC dI A (wl ad kv cy N u) t) A) [Value.ref (ad 10)].toArray s 0 0 A) (F0 m 2 ls []) := by
    intro n
    induction n with
    | zero =>
      intro y1_1 H locs ay1_1 by1_1 hi1_0 hm_1 hP hD hS ls hl
      exact absurd hm_1 (by omega)
    | succ n ih_1 =>
      intro y1_1 H locs ay1_1 by1_1 hi1_0 hm_1 hP hD hS ls hl
      refine lv_iload_n hx hb dX5_stands_2 rfl (lv_at hl 0 rfl) ?_
      refine lv_iconst (v := 1) hx hb dX5_stands_3 (by decide) ?_
      refine lv_aload_n hx hb dX5_stands_4 rfl (lv_at hl 1 rfl) ?_
      refine va_get (D := (dC, dI)) (ci := 5) (v := .int (v (10) 0)) (C := RX5) (T := TX5) (N := 3) hx hb hts (by decide +kernel) hown hK hP (10) (wl_at (by omega) (ce_2 (by decide))) rfl 0 (by decide) (hts (.fieldLink RX5 18 "QuietStairs$Table" "count" "I") (by decide +kernel)) (fun _ h9 => h9) rfl dX5_stands_5 ?_
      refine lv_topi (fun x_2 ex_2 => ?_)
      have bzx_2 : 0 ≤ x_2.toInt ∧ x_2.toInt ≤ 5 := by rw [ex_2]; exact hv.at (K := 2) (by decide) rfl
      obtain rfl : ct = x_2 := (ex_2.trans ect.symm).symm
      refine lv_ishl hx hb dX5_stands_8 ?_
      refine lv_topi (fun x_3 ex_3 => ?_)
      have tx_3 : 1 ≤ x_3.toInt ∧ x_3.toInt ≤ 32 := by rw [ex_3]; exact t_shl ⟨by omega, by omega⟩
      refine lv_icmp_ge (tgt := 66) hx hb dX5_stands_9 (by decide) (fun c_4 => ?_) (fun c_4 => ?_)
      · have tc_4 : y1_1.toInt ≥ x_3.toInt := Int32.le_iff_toInt_le.mp c_4
        refine lv_iconst (v := 1) hx hb dX5_stands_66 (by decide) ?_
        exact W.zret (ty := .boolean) (v := 1) hx hb hr rfl (fun t ht hW => ⟨⟨1, v, rfl, ⟨hv, rfl, Or.inl ⟨rfl, by rw [← ect, ← eHH]; intro g h1 h2; rw [← ex_3] at h2; exact hi1_0 g h1 (by omega)⟩⟩, by rw [ht]; exact hP, hD⟩, hS.F ht⟩) hS.2.2 dX5_stands_67
      · have tc_4 : y1_1.toInt < x_3.toInt := Int32.lt_iff_toInt_lt.mp (Int32.not_le.mp c_4)
        refine lv_iconst (v := 0) hx hb dX5_stands_12 (by decide) ?_
        refine lv_istore_n (lv' := [(2, .int 0), (1, .int y1_1), (0, .ref (ad 10))]) hx hb dX5_stands_13 rfl hl (by decide) rfl (fun ls hl => ?_)
        refine lv_iconst (v := 0) hx hb dX5_stands_14 (by decide) ?_
        refine lv_istore_n (lv' := [(3, .int 0), (2, .int 0), (1, .int y1_1), (0, .ref (ad 10))]) hx hb dX5_stands_15 rfl hl (by decide) rfl (fun ls hl => ?_)
        have hc_5 : ∀ (n : Nat) (y5_3 y5_2 : Int32) (H : Heap) (locs : List Loc), 0 ≤ y5_3.toInt → y5_3.toInt ≤ 5 → (y5_2 = uI HH y1_1 y5_3.toNatClampNeg) → (y5_3.toInt ≤ ct.toInt) → (5 - y5_3.toInt).toNat < n → va_P (dC, dI) vwCl (wl ad kv cy N v) H → va_D A (wl ad kv cy N v) → va_S A s.heap H locs → ∀ ls : Array Slot, lv_has ls 4 [(3, .int y5_3), (2, .int y5_2), (1, .int y1_1), (0, .ref (ad 10))] → W p l e (headSpec wsX5_stands ({ frames := 1, cells := 0, slots := 0, locals := 64 })).room s m [Value.ref (ad 10)].toArray below meth c H locs 0 0 (MQ below (va_Qi (fun (r : Int32) (u : Nat → Nat → Int32) => Iv u ∧ u = v ∧ ((r = 1 ∧ HL (v 10 0) (v 12)) ∨ (r = 0 ∧ ¬ HL (v 10 0) (v 12)))) (fun u t => ex_Pst dC dI A (wl ad kv cy N u) t) A) [Value.ref (ad 10)].toArray s 0 0 A) (F0 m 16 ls []) := by
          intro n
          induction n with
          | zero =>
            intro y5_3 y5_2 H locs ay5_3 by5_3 hi5_0 hi5_1 hm_5 hP hD hS ls hl
            exact absurd hm_5 (by omega)
          | succ n ih_5 =>
            intro y5_3 y5_2 H locs ay5_3 by5_3 hi5_0 hi5_1 hm_5 hP hD hS ls hl
            refine lv_iload_n hx hb dX5_stands_16 rfl (lv_at hl 0 rfl) ?_
            refine lv_aload_n hx hb dX5_stands_17 rfl (lv_at hl 3 rfl) ?_
            refine va_get (D := (dC, dI)) (ci := 5) (v := .int (v (10) 0)) (C := RX5) (T := TX5) (N := 3) hx hb hts (by decide +kernel) hown hK hP (10) (wl_at (by omega) (ce_2 (by decide))) rfl 0 (by decide) (hts (.fieldLink RX5 18 "QuietStairs$Table" "count" "I") (by decide +kernel)) (fun _ h9 => h9) rfl dX5_stands_18 ?_
            refine lv_topi (fun x_6 ex_6 => ?_)
            have bzx_6 : 0 ≤ x_6.toInt ∧ x_6.toInt ≤ 5 := by rw [ex_6]; exact hv.at (K := 2) (by decide) rfl
            obtain rfl : ct = x_6 := (ex_6.trans ect.symm).symm
            refine lv_icmp_ge (tgt := 47) hx hb dX5_stands_21 (by decide) (fun c_7 => ?_) (fun c_7 => ?_)
            · have tc_7 : y5_3.toInt ≥ ct.toInt := Int32.le_iff_toInt_le.mp c_7
              refine lv_iload_n hx hb dX5_stands_47 rfl (lv_at hl 1 rfl) ?_
              refine yc_p hP hS (va_runS (As := [.int y5_2]) (rest := []) ⟨hx, hb, hml, hown, hts⟩ (e_bitCount l y5_2) (va_cwS 1 hts gX5_stands_J6_bitCount_0f7a4 rfl rfl rfl (by decide +kernel) ⟨Nat.le_of_ble_eq_true rfl, Nat.le_of_ble_eq_true rfl⟩) ex_preP rfl rfl hl.1 rfl (lv_room (Nat.le_of_ble_eq_true rfl)) dX5_stands_48 ⟨Nat.le_of_ble_eq_true rfl, Nat.le_of_ble_eq_true rfl⟩) (fun r_8 H locs hw_8 hP hS => ?_)
              refine lv_iload_n hx hb dX5_stands_51 rfl (lv_at hl 2 rfl) ?_
              refine yc_p hP hS (va_runS (As := [.int y1_1]) (rest := [.int r_8]) ⟨hx, hb, hml, hown, hts⟩ (e_bitCount l y1_1) (va_cwS 1 hts gX5_stands_J6_bitCount_0f7a4 rfl rfl rfl (by decide +kernel) ⟨Nat.le_of_ble_eq_true rfl, Nat.le_of_ble_eq_true rfl⟩) ex_preP rfl rfl hl.1 rfl (lv_room (Nat.le_of_ble_eq_true rfl)) dX5_stands_52 ⟨Nat.le_of_ble_eq_true rfl, Nat.le_of_ble_eq_true rfl⟩) (fun r_9 H locs hw_9 hP hS => ?_)
              refine lv_icmp_ge (tgt := 60) hx hb dX5_stands_55 (by decide) (fun c_10 => ?_) (fun c_10 => ?_)
              · have tc_10 : r_8.toInt ≥ r_9.toInt := Int32.le_iff_toInt_le.mp c_10
                obtain ⟨x_11, ex_11⟩ : ∃ y : Int32, y = y1_1 + 1 := ⟨_, rfl⟩
                refine lv_iinc (v := x_11) (lv' := [(1, .int x_11), (3, .int y5_3), (2, .int y5_2), (0, .ref (ad 10))]) hx hb dX5_stands_60 hl (k := 2) rfl (by rw [ex_11]; rfl) (by decide) rfl (fun ls hl => ?_)
                have k_1 : (1 : Int32).toInt = 1 := by decide
                have tx_11 : x_11.toInt = y1_1.toInt + (1 : Int32).toInt := by rw [ex_11]; exact t_add ⟨by omega, by omega⟩
                refine lv_goto (tgt := 2) hx hb dX5_stands_63 (by decide) ?_
                have zn_y5_3 : (y5_3.toNatClampNeg : Int) = y5_3.toInt := t_nn (by omega)
                have hu9 : y5_2 = uI HH y1_1 ct.toNatClampNeg := by rw [hi5_0, show y5_3.toNatClampNeg = ct.toNatClampNeg from by omega]
                exact ih_1 x_11 _ _ (by omega) (by omega) (fun g h1 h2 => by by_cases e : g.toInt < y1_1.toInt; exact hi1_0 g h1 e; rw [show g = y1_1 from Int32.toInt_inj.mp (by omega), ← hu9, ← hw_8, ← hw_9]; omega) (by omega) hP hD hS ls (lv_sub hl [0, 3] rfl)
              · have tc_10 : r_8.toInt < r_9.toInt := Int32.lt_iff_toInt_lt.mp (Int32.not_le.mp c_10)
                refine lv_iconst (v := 0) hx hb dX5_stands_58 (by decide) ?_
                have zn_y5_3 : (y5_3.toNatClampNeg : Int) = y5_3.toInt := t_nn (by omega)
                have hu9 : y5_2 = uI HH y1_1 ct.toNatClampNeg := by rw [hi5_0, show y5_3.toNatClampNeg = ct.toNatClampNeg from by omega]
                exact W.zret (ty := .boolean) (v := 0) hx hb hr rfl (fun t ht hW => ⟨⟨0, v, rfl, ⟨hv, rfl, Or.inr ⟨rfl, fun q => by rw [← ect, ← eHH] at q; have w9 := q y1_1 (by omega) (by rw [← ex_3]; omega); rw [← hu9, ← hw_8, ← hw_9] at w9; omega⟩⟩, by rw [ht]; exact hP, hD⟩, hS.F ht⟩) hS.2.2 dX5_stands_59
            · have tc_7 : y5_3.toInt < ct.toInt := Int32.lt_iff_toInt_lt.mp (Int32.not_le.mp c_7)
              refine lv_iload_n hx hb dX5_stands_24 rfl (lv_at hl 2 rfl) ?_
              refine lv_iload_n hx hb dX5_stands_25 rfl (lv_at hl 0 rfl) ?_
              refine yc_p hP hS (va_runSN (As := [.int y1_1, .int y5_3]) (rest := []) ⟨hx, hb, hml, hown, hts⟩ (e_X7_hasBit l y1_1 y5_3) ⟨va_cnB 2 hts gX5_stands_X7_hasBit_n47 rfl rfl rfl hE.2.2.2.2.2.2.2.2.2.2.2.2.1 (hts (.initialized RX7) (by decide +kernel)) (by decide +kernel) ⟨Nat.le_of_ble_eq_true rfl, Nat.le_of_ble_eq_true rfl⟩, (hts (.static yX7_hasBit) (by decide +kernel)), trivial⟩ ex_preP rfl rfl hl.1 rfl (lv_room (Nat.le_of_ble_eq_true rfl)) dX5_stands_26 ⟨Nat.le_of_ble_eq_true rfl, Nat.le_of_ble_eq_true rfl⟩) (fun r_8 H locs hw_8 hP hS => ?_)
              rcases hw_8 with ⟨rfl, hh_9⟩ | ⟨rfl, hh_9⟩
              · refine lv_if_eq (tgt := 41) hx hb dX5_stands_29 (by decide) (fun c9 => absurd c9 (by decide)) (fun _ => ?_)
                refine lv_iload_n hx hb dX5_stands_32 rfl (lv_at hl 1 rfl) ?_
                refine lv_aload_n hx hb dX5_stands_33 rfl (lv_at hl 3 rfl) ?_
                refine va_get (D := (dC, dI)) (ci := 5) (v := .ref (ad 12)) (C := RX5) (T := TX5) (N := 3) hx hb hts (by decide +kernel) hown hK hP (10) (wl_at (by omega) (ce_2 (by decide))) rfl 2 (by decide) (hts (.fieldLink RX5 15 "QuietStairs$Table" "hourBits" "[I") (by decide +kernel)) (fun _ h9 => h9) rfl dX5_stands_34 ?_
                refine lv_iload_n hx hb dX5_stands_37 rfl (lv_at hl 0 rfl) ?_
                have zn_y5_3 : (y5_3.toNatClampNeg : Int) = y5_3.toInt := t_nn (by omega)
                have hx_10 : y5_3.toNatClampNeg < 5 := by omega
                refine va_iald hx hb hK hP (12) 0 (wl_at (by omega) (ce_19 (by decide))) rfl (vp_in_iff.mpr ⟨by omega, by omega⟩) dX5_stands_38 ?_
                refine lv_topi (fun x_11 ex_11 => ?_)
                have qx_11 : x_11.toInt = (v (12) (y5_3.toNatClampNeg)).toInt := congrArg Int32.toInt ex_11
                refine lv_ior hx hb dX5_stands_39 ?_
                refine lv_topi (fun x_12 ex_12 => ?_)
                refine lv_istore_n (lv' := [(2, .int x_12), (3, .int y5_3), (1, .int y1_1), (0, .ref (ad 10))]) hx hb dX5_stands_40 rfl hl (by decide) rfl (fun ls hl => ?_)
                obtain ⟨x_13, ex_13⟩ : ∃ y : Int32, y = y5_3 + 1 := ⟨_, rfl⟩
                refine lv_iinc (v := x_13) (lv' := [(3, .int x_13), (2, .int x_12), (1, .int y1_1), (0, .ref (ad 10))]) hx hb dX5_stands_41 hl (k := 1) rfl (by rw [ex_13]; rfl) (by decide) rfl (fun ls hl => ?_)
                have k_1 : (1 : Int32).toInt = 1 := by decide
                have tx_13 : x_13.toInt = y5_3.toInt + (1 : Int32).toInt := by rw [ex_13]; exact t_add ⟨by omega, by omega⟩
                refine lv_goto (tgt := 16) hx hb dX5_stands_44 (by decide) ?_
                have zn_x_13 : (x_13.toNatClampNeg : Int) = x_13.toInt := t_nn (by omega)
                exact ih_5 x_13 x_12 _ _ (by omega) (by omega) (by rw [show x_13.toNatClampNeg = y5_3.toNatClampNeg + 1 from by omega, uI_p (by rw [← ofn (x := y5_3) (by omega)]; exact hh_9), ← hi5_0, ex_12, ex_11, eHH]) (by omega) (by omega) hP hD hS ls (lv_sub hl [0, 1, 2, 3] rfl)
              · refine lv_if_eq (tgt := 41) hx hb dX5_stands_29 (by decide) (fun _ => ?_) (fun c9 => absurd c9 (by decide))
                obtain ⟨x_10, ex_10⟩ : ∃ y : Int32, y = y5_3 + 1 := ⟨_, rfl⟩
                refine lv_iinc (v := x_10) (lv' := [(3, .int x_10), (2, .int y5_2), (1, .int y1_1), (0, .ref (ad 10))]) hx hb dX5_stands_41 hl (k := 0) rfl (by rw [ex_10]; rfl) (by decide) rfl (fun ls hl => ?_)
                have k_1 : (1 : Int32).toInt = 1 := by decide
                have tx_10 : x_10.toInt = y5_3.toInt + (1 : Int32).toInt := by rw [ex_10]; exact t_add ⟨by omega, by omega⟩
                refine lv_goto (tgt := 16) hx hb dX5_stands_44 (by decide) ?_
                have zn_x_10 : (x_10.toNatClampNeg : Int) = x_10.toInt := t_nn (by omega)
                have zn_y5_3 : (y5_3.toNatClampNeg : Int) = y5_3.toInt := t_nn (by omega)
                exact ih_5 x_10 y5_2 _ _ (by omega) (by omega) (by rw [show x_10.toNatClampNeg = y5_3.toNatClampNeg + 1 from by omega, uI_n (by rw [← ofn (x := y5_3) (by omega)]; exact hh_9)]; exact hi5_0) (by omega) (by omega) hP hD hS ls (lv_sub hl [0, 1, 2, 3] rfl)
        have k_0 : (0 : Int32).toInt = 0 := by decide
        exact hc_5 ((5 - (0 : Int32).toInt).toNat + 1) 0 0 _ _ (by omega) (by omega) (by rw [show (0 : Int32).toNatClampNeg = 0 from by decide]; rfl) (by omega) (by omega) hP hD hS ls (lv_sub hl [0, 1, 2, 3] rfl)
  have k_1 : (1 : Int32).toInt = 1 := by decide
  exact hc_1 ((33 - (1 : Int32).toInt).toNat + 1) 1 _ _ (by omega) (by omega) (fun g h1 h2 => absurd h2 (by omega)) (by omega) hP hD hS ls (lv_sub hl [0, 1] rfl)
