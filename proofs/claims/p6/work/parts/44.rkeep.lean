set_option maxRecDepth 20000 in
theorem db_X8_rooms_0 : (decode cX8_rooms 0 = .ok (.iload_n 1, 1)) ∧ (decode cX8_rooms 1 = .ok (.iconst 1, 1)) ∧ (decode cX8_rooms 2 = .ok (.iconst 2, 1)) ∧ (decode cX8_rooms 3 = .ok (.invokestatic 35, 3)) ∧ (decode cX8_rooms 6 = .ok (.ifCond .ne 5, 3)) ∧ (decode cX8_rooms 11 = .ok (.aload_n 0, 1)) ∧ (decode cX8_rooms 12 = .ok (.getfield 16, 3)) ∧ (decode cX8_rooms 15 = .ok (.istore_n 2, 1)) := by decide +kernel
theorem dX8_rooms_0 : decode cX8_rooms 0 = .ok (.iload_n 1, 1) := db_X8_rooms_0.1
theorem dX8_rooms_1 : decode cX8_rooms 1 = .ok (.iconst 1, 1) := db_X8_rooms_0.2.1
theorem dX8_rooms_2 : decode cX8_rooms 2 = .ok (.iconst 2, 1) := db_X8_rooms_0.2.2.1
set_option maxRecDepth 20000 in
theorem ggX8_rooms_X8_in : GoodIn wsX8_rooms wsX8_in := goodIn_r _ [5] rfl (by decide +kernel)
set_option maxRecDepth 20000 in
theorem gX8_rooms_X8_in : GoodIn wsX8_rooms (va_wsS RX8 35 yX8_in wsX8_in) := goodIn_app (goodIn_r _ [2, 3, 4] rfl (by decide +kernel)) ggX8_rooms_X8_in
theorem dX8_rooms_3 : decode cX8_rooms 3 = .ok (.invokestatic 35, 3) := db_X8_rooms_0.2.2.2.1
theorem dX8_rooms_6 : decode cX8_rooms 6 = .ok (.ifCond .ne 5, 3) := db_X8_rooms_0.2.2.2.2.1
theorem dX8_rooms_11 : decode cX8_rooms 11 = .ok (.aload_n 0, 1) := db_X8_rooms_0.2.2.2.2.2.1
theorem dX8_rooms_12 : decode cX8_rooms 12 = .ok (.getfield 16, 3) := db_X8_rooms_0.2.2.2.2.2.2.1
theorem dX8_rooms_15 : decode cX8_rooms 15 = .ok (.istore_n 2, 1) := db_X8_rooms_0.2.2.2.2.2.2.2
set_option maxRecDepth 20000 in
theorem db_X8_rooms_16 : (decode cX8_rooms 16 = .ok (.aload_n 0, 1)) ∧ (decode cX8_rooms 17 = .ok (.iload_n 1, 1)) ∧ (decode cX8_rooms 18 = .ok (.putfield 16, 3)) ∧ (decode cX8_rooms 21 = .ok (.iload_n 2, 1)) ∧ (decode cX8_rooms 22 = .ok (.ireturn, 1)) ∧ (decode cX8_rooms 9 = .ok (.iconst (-1), 1)) ∧ (decode cX8_rooms 10 = .ok (.ireturn, 1)) := by decide +kernel
theorem dX8_rooms_16 : decode cX8_rooms 16 = .ok (.aload_n 0, 1) := db_X8_rooms_16.1
theorem dX8_rooms_17 : decode cX8_rooms 17 = .ok (.iload_n 1, 1) := db_X8_rooms_16.2.1
theorem dX8_rooms_18 : decode cX8_rooms 18 = .ok (.putfield 16, 3) := db_X8_rooms_16.2.2.1
theorem dX8_rooms_21 : decode cX8_rooms 21 = .ok (.iload_n 2, 1) := db_X8_rooms_16.2.2.2.1
theorem dX8_rooms_22 : decode cX8_rooms 22 = .ok (.ireturn, 1) := db_X8_rooms_16.2.2.2.2.1
theorem dX8_rooms_9 : decode cX8_rooms 9 = .ok (.iconst (-1), 1) := db_X8_rooms_16.2.2.2.2.2.1
theorem dX8_rooms_10 : decode cX8_rooms 10 = .ok (.ireturn, 1) := db_X8_rooms_16.2.2.2.2.2.2
set_option maxRecDepth 20000 in
theorem db_X8_keep_0 : (decode cX8_keep 0 = .ok (.iconst 0, 1)) ∧ (decode cX8_keep 1 = .ok (.istore_n 1, 1)) ∧ (decode cX8_keep 2 = .ok (.iload_n 1, 1)) ∧ (decode cX8_keep 3 = .ok (.sipush 596, 3)) ∧ (decode cX8_keep 6 = .ok (.if_icmp .ge 21, 3)) ∧ (decode cX8_keep 27 = .ok (.aload_n 0, 1)) ∧ (decode cX8_keep 28 = .ok (.iconst 1, 1)) ∧ (decode cX8_keep 29 = .ok (.putfield 134, 3)) := by decide +kernel
theorem dX8_keep_0 : decode cX8_keep 0 = .ok (.iconst 0, 1) := db_X8_keep_0.1
theorem dX8_keep_1 : decode cX8_keep 1 = .ok (.istore_n 1, 1) := db_X8_keep_0.2.1
theorem dX8_keep_2 : decode cX8_keep 2 = .ok (.iload_n 1, 1) := db_X8_keep_0.2.2.1
theorem dX8_keep_3 : decode cX8_keep 3 = .ok (.sipush 596, 3) := db_X8_keep_0.2.2.2.1
theorem dX8_keep_6 : decode cX8_keep 6 = .ok (.if_icmp .ge 21, 3) := db_X8_keep_0.2.2.2.2.1
theorem dX8_keep_27 : decode cX8_keep 27 = .ok (.aload_n 0, 1) := db_X8_keep_0.2.2.2.2.2.1
theorem dX8_keep_28 : decode cX8_keep 28 = .ok (.iconst 1, 1) := db_X8_keep_0.2.2.2.2.2.2.1
theorem dX8_keep_29 : decode cX8_keep 29 = .ok (.putfield 134, 3) := db_X8_keep_0.2.2.2.2.2.2.2
set_option maxRecDepth 20000 in
theorem db_X8_keep_32 : (decode cX8_keep 32 = .ok (.iconst 1, 1)) ∧ (decode cX8_keep 33 = .ok (.ireturn, 1)) ∧ (decode cX8_keep 9 = .ok (.aload_n 0, 1)) ∧ (decode cX8_keep 10 = .ok (.getfield 13, 3)) ∧ (decode cX8_keep 13 = .ok (.iload_n 1, 1)) ∧ (decode cX8_keep 14 = .ok (.aload_n 0, 1)) ∧ (decode cX8_keep 15 = .ok (.getfield 7, 3)) ∧ (decode cX8_keep 18 = .ok (.iload_n 1, 1)) := by decide +kernel
theorem dX8_keep_32 : decode cX8_keep 32 = .ok (.iconst 1, 1) := db_X8_keep_32.1
theorem dX8_keep_33 : decode cX8_keep 33 = .ok (.ireturn, 1) := db_X8_keep_32.2.1
theorem dX8_keep_9 : decode cX8_keep 9 = .ok (.aload_n 0, 1) := db_X8_keep_32.2.2.1
theorem dX8_keep_10 : decode cX8_keep 10 = .ok (.getfield 13, 3) := db_X8_keep_32.2.2.2.1
theorem dX8_keep_13 : decode cX8_keep 13 = .ok (.iload_n 1, 1) := db_X8_keep_32.2.2.2.2.1
theorem dX8_keep_14 : decode cX8_keep 14 = .ok (.aload_n 0, 1) := db_X8_keep_32.2.2.2.2.2.1
theorem dX8_keep_15 : decode cX8_keep 15 = .ok (.getfield 7, 3) := db_X8_keep_32.2.2.2.2.2.2.1
theorem dX8_keep_18 : decode cX8_keep 18 = .ok (.iload_n 1, 1) := db_X8_keep_32.2.2.2.2.2.2.2
set_option maxRecDepth 20000 in
theorem db_X8_keep_19 : (decode cX8_keep 19 = .ok (.iaload, 1)) ∧ (decode cX8_keep 20 = .ok (.iastore, 1)) ∧ (decode cX8_keep 21 = .ok (.iinc 1 1, 3)) ∧ (decode cX8_keep 24 = .ok (.goto (-22), 3)) := by decide +kernel
theorem dX8_keep_19 : decode cX8_keep 19 = .ok (.iaload, 1) := db_X8_keep_19.1
theorem dX8_keep_20 : decode cX8_keep 20 = .ok (.iastore, 1) := db_X8_keep_19.2.1
theorem dX8_keep_21 : decode cX8_keep 21 = .ok (.iinc 1 1, 3) := db_X8_keep_19.2.2.1
theorem dX8_keep_24 : decode cX8_keep 24 = .ok (.goto (-22), 3) := db_X8_keep_19.2.2.2
set_option maxRecDepth 20000 in
theorem db_X8_back_0 : (decode cX8_back 0 = .ok (.aload_n 0, 1)) ∧ (decode cX8_back 1 = .ok (.getfield 134, 3)) ∧ (decode cX8_back 4 = .ok (.ifCond .ne 6, 3)) ∧ (decode cX8_back 10 = .ok (.iconst 0, 1)) ∧ (decode cX8_back 11 = .ok (.istore_n 1, 1)) ∧ (decode cX8_back 12 = .ok (.iload_n 1, 1)) ∧ (decode cX8_back 13 = .ok (.sipush 596, 3)) ∧ (decode cX8_back 16 = .ok (.if_icmp .ge 21, 3)) := by decide +kernel
theorem dX8_back_0 : decode cX8_back 0 = .ok (.aload_n 0, 1) := db_X8_back_0.1
theorem dX8_back_1 : decode cX8_back 1 = .ok (.getfield 134, 3) := db_X8_back_0.2.1
theorem dX8_back_4 : decode cX8_back 4 = .ok (.ifCond .ne 6, 3) := db_X8_back_0.2.2.1
theorem dX8_back_10 : decode cX8_back 10 = .ok (.iconst 0, 1) := db_X8_back_0.2.2.2.1
theorem dX8_back_11 : decode cX8_back 11 = .ok (.istore_n 1, 1) := db_X8_back_0.2.2.2.2.1
theorem dX8_back_12 : decode cX8_back 12 = .ok (.iload_n 1, 1) := db_X8_back_0.2.2.2.2.2.1
theorem dX8_back_13 : decode cX8_back 13 = .ok (.sipush 596, 3) := db_X8_back_0.2.2.2.2.2.2.1
theorem dX8_back_16 : decode cX8_back 16 = .ok (.if_icmp .ge 21, 3) := db_X8_back_0.2.2.2.2.2.2.2
set_option maxRecDepth 20000 in
theorem db_X8_back_37 : (decode cX8_back 37 = .ok (.iconst 1, 1)) ∧ (decode cX8_back 38 = .ok (.ireturn, 1)) ∧ (decode cX8_back 19 = .ok (.aload_n 0, 1)) ∧ (decode cX8_back 20 = .ok (.getfield 7, 3)) ∧ (decode cX8_back 23 = .ok (.iload_n 1, 1)) ∧ (decode cX8_back 24 = .ok (.aload_n 0, 1)) ∧ (decode cX8_back 25 = .ok (.getfield 13, 3)) ∧ (decode cX8_back 28 = .ok (.iload_n 1, 1)) := by decide +kernel
theorem dX8_back_37 : decode cX8_back 37 = .ok (.iconst 1, 1) := db_X8_back_37.1
theorem dX8_back_38 : decode cX8_back 38 = .ok (.ireturn, 1) := db_X8_back_37.2.1
theorem dX8_back_19 : decode cX8_back 19 = .ok (.aload_n 0, 1) := db_X8_back_37.2.2.1
theorem dX8_back_20 : decode cX8_back 20 = .ok (.getfield 7, 3) := db_X8_back_37.2.2.2.1
theorem dX8_back_23 : decode cX8_back 23 = .ok (.iload_n 1, 1) := db_X8_back_37.2.2.2.2.1
theorem dX8_back_24 : decode cX8_back 24 = .ok (.aload_n 0, 1) := db_X8_back_37.2.2.2.2.2.1
theorem dX8_back_25 : decode cX8_back 25 = .ok (.getfield 13, 3) := db_X8_back_37.2.2.2.2.2.2.1
theorem dX8_back_28 : decode cX8_back 28 = .ok (.iload_n 1, 1) := db_X8_back_37.2.2.2.2.2.2.2
set_option maxRecDepth 20000 in
theorem db_X8_back_29 : (decode cX8_back 29 = .ok (.iaload, 1)) ∧ (decode cX8_back 30 = .ok (.iastore, 1)) ∧ (decode cX8_back 31 = .ok (.iinc 1 1, 3)) ∧ (decode cX8_back 34 = .ok (.goto (-22), 3)) ∧ (decode cX8_back 7 = .ok (.bipush (-5), 2)) ∧ (decode cX8_back 9 = .ok (.ireturn, 1)) := by decide +kernel
theorem dX8_back_29 : decode cX8_back 29 = .ok (.iaload, 1) := db_X8_back_29.1
theorem dX8_back_30 : decode cX8_back 30 = .ok (.iastore, 1) := db_X8_back_29.2.1
theorem dX8_back_31 : decode cX8_back 31 = .ok (.iinc 1 1, 3) := db_X8_back_29.2.2.1
theorem dX8_back_34 : decode cX8_back 34 = .ok (.goto (-22), 3) := db_X8_back_29.2.2.2.1
theorem dX8_back_7 : decode cX8_back 7 = .ok (.bipush (-5), 2) := db_X8_back_29.2.2.2.2.1
theorem dX8_back_9 : decode cX8_back 9 = .ok (.ireturn, 1) := db_X8_back_29.2.2.2.2.2
set_option maxHeartbeats 4000000 in
set_option maxRecDepth 100000 in
theorem q_X8_rooms (l : Launch) (dC : Nat → ClassId) (dI : Nat → Nat → Nat) (cy : Nat → ClassId) (sz : Nat) (ad : Nat → Nat) (v : Nat → Nat → Int32) (hv : Ir v) (x0 : Int32) : Met l yX8_rooms wsX8_rooms ({ frames := 1, cells := 0, slots := 0, locals := 64 }) (va_Pc [.ref (ad 0), .int x0] (ex_Pre dC dI cy sz (wm ad cy v))) (va_Qi (fun (r : Int32) (u : Nat → Nat → Int32) => Ir u ∧ ((¬ (1 ≤ x0.toInt ∧ x0.toInt ≤ 2) ∧ r = -1 ∧ u = v) ∨ ((1 ≤ x0.toInt ∧ x0.toInt ≤ 2) ∧ r = v 0 3 ∧ u 0 3 = x0 ∧ u 1 = v 1 ∧ u 2 = v 2 ∧ u 0 2 = v 0 2))) (fun u t => ex_Pst dC dI (va_A (wm ad cy v) sz) (wm ad cy u) t) (va_A (wm ad cy v) sz)) 0 0 (va_A (wm ad cy v) sz) := by
  refine Met.ofW (cc := cX8_rooms) (maxL := 3) (ret := (some .int)) (by decide) rfl ?_
  intro p e s m args below meth c s₁ B hml hv
  obtain ⟨rfl, hsz, hE, hP, hK, hD0⟩ := hv
  have hx := B.exec
  have hb := B.bytes
  have hr := B.returns
  have hts := atoms_spec (ws := wsX8_rooms) B.pre
  have hown : s.vm.findClass RX8 = some m.cls := findClass_of_methodNamed B.named
  have hlocks := B.notSynchronized
  subst hsz
  have hD := hD0.self (sz := s.heap.size)
  generalize hAe : va_A (wm ad cy v) s.heap.size = A at hD ⊢
  have hA : ∀ q : Nat, s.heap.size ≤ q → A q := fun q h => by rw [← hAe]; exact Or.inr h
  have hS : va_S A s.heap s.heap [] := va_S.rf
  have hP : va_P (dC, dI) vwCl (wm ad cy v) s.heap := hP
  have hl := lv_entry ([.ref (ad 0), .int x0]) (n := 3) (Nat.le_of_ble_eq_true rfl)
  rw [lg_entry_eq]
  generalize (lg_sl ([.ref (ad 0), .int x0]) ++ List.replicate (3 - (lg_sl ([.ref (ad 0), .int x0])).length) Slot.unset).toArray = ls at hl ⊢
  have hl : lv_has ls 3 [(0, .ref (ad 0)), (1, .int x0)] := hl
  refine lv_iload_n hx hb dX8_rooms_0 rfl (lv_at hl 1 rfl) ?_
  refine lv_iconst (v := 1) hx hb dX8_rooms_1 (by decide) ?_
  refine lv_iconst (v := 2) hx hb dX8_rooms_2 (by decide) ?_
  refine yc_p hP hS (va_runS (As := [.int x0, .int 1, .int 2]) (rest := []) ⟨hx, hb, hml, hown, hts⟩ (c_X8_in l x0 1 2) (cwS 3 hts gX8_rooms_X8_in rfl rfl rfl hd_S_X8_in_3 ⟨Nat.le_of_ble_eq_true rfl, Nat.le_of_ble_eq_true rfl⟩) ex_preP rfl rfl hl.1 rfl (lv_room (Nat.le_of_ble_eq_true rfl)) dX8_rooms_3 ⟨Nat.le_of_ble_eq_true rfl, Nat.le_of_ble_eq_true rfl⟩) (fun r_1 H locs hw_1 hP hS => ?_)
  rcases wi_ca hw_1 with ⟨rfl, hc_2⟩ | ⟨rfl, hc_2⟩
  · have k_1 : (1 : Int32).toInt = 1 := by decide
    have k_2 : (2 : Int32).toInt = 2 := by decide
    have tc_2 := wi_tl hc_2
    refine lv_if_ne (tgt := 11) hx hb dX8_rooms_6 (by decide) (fun _ => ?_) (fun c9 => absurd c9 (by decide))
    refine lv_aload_n hx hb dX8_rooms_11 rfl (lv_at hl 0 rfl) ?_
    refine va_get (D := (dC, dI)) (ci := 8) (v := .int (v 0 3)) (C := RX8) (T := TX8) (N := 11) hx hb hts iwX8_rooms_X8 hown hK hP (0) (wm_at (by decide) rc_0) rfl 3 (by decide) (hts (.fieldLink RX8 16 "QuietStairsModel" "rooms" "I") fwX8_rooms_1) (fun _ h9 => h9) rfl dX8_rooms_12 ?_
    refine lv_topi (fun x_3 ex_3 => ?_)
    refine lv_istore_n (lv' := [(2, .int x_3), (0, .ref (ad 0)), (1, .int x0)]) hx hb dX8_rooms_15 rfl hl (by decide) rfl (fun ls hl => ?_)
    refine lv_aload_n hx hb dX8_rooms_16 rfl (lv_at hl 1 rfl) ?_
    refine lv_iload_n hx hb dX8_rooms_17 rfl (lv_at hl 2 rfl) ?_
    refine va_put (D := (dC, dI)) (ci := 8) (v := .int x0) (ty := .int) (C := RX8) (T := TX8) (N := 11) hx hb hts iwX8_rooms_X8 tyX8 tyX8_ok nmX8 hown hK hP hD hS (0) (wm_at (by decide) rc_0) rfl 3 (by decide) (hts (.fieldLink RX8 16 "QuietStairsModel" "rooms" "I") fwX8_rooms_1) (fun _ h9 => h9) rfl (by decide +kernel) rfl rfl (Nat.le_of_ble_eq_true rfl) dX8_rooms_18 (fun H locs hP hD hS => ?_)
    obtain ⟨v_4, ev_4⟩ : ∃ u : Nat → Nat → Int32, u = upr v 0 (upd (v 0) 3 x0) := ⟨_, rfl⟩
    have hP : va_P (dC, dI) vwCl (wm ad cy v_4) H := by rw [ev_4, ← wm_put (e := _) rc_0]; exact hP
    have hD : va_D A (wm ad cy v_4) := by rw [ev_4, ← wm_put (e := _) rc_0]; exact hD
    have hv : Ir v_4 := by rw [ev_4]; exact hv.put (k := 0) (fun h q => by rw [show br 0 3 = none from by decide] at q; cases q)
    refine lv_iload_n hx hb dX8_rooms_21 rfl (lv_at hl 0 rfl) ?_
    exact W.iret (v := x_3) hx hb hr (fun t ht hW => ⟨⟨x_3, v_4, rfl, ⟨hv, Or.inr ⟨⟨by omega, by omega⟩, ex_3, by rw [ev_4, upr_s, pk_us], by rw [ev_4, upr_n (by decide)], by rw [ev_4, upr_n (by decide)], by rw [ev_4, upr_s, pk_un (by decide)]⟩⟩, by rw [ht]; exact hP, hD⟩, hS.F ht⟩) hS.2.2 dX8_rooms_22
  · have k_1 : (1 : Int32).toInt = 1 := by decide
    have k_2 : (2 : Int32).toInt = 2 := by decide
    have tc_2 : ¬ ((1 : Int32).toInt ≤ x0.toInt ∧ x0.toInt ≤ (2 : Int32).toInt) := fun q => hc_2 ⟨Int32.le_iff_toInt_le.mpr q.1, Int32.le_iff_toInt_le.mpr q.2⟩
    refine lv_if_ne (tgt := 11) hx hb dX8_rooms_6 (by decide) (fun c9 => absurd c9 (by decide)) (fun _ => ?_)
    refine lv_iconst (v := (-1)) hx hb dX8_rooms_9 (by decide) ?_
    exact W.iret (v := (-1)) hx hb hr (fun t ht hW => ⟨⟨(-1), v, rfl, ⟨hv, Or.inl ⟨by omega, rfl, rfl⟩⟩, by rw [ht]; exact hP, hD⟩, hS.F ht⟩) hS.2.2 dX8_rooms_10

/-- one more place is copied -/
theorem cp_s {v u w : Nat → Nat → Int32} {a b : Nat} {i i' x : Int32} (e : w = upr u b (upd (u b) i.toNatClampNeg x)) (ex : x = u a i.toNatClampNeg) (h : ∀ j : Nat, (j : Int) < i.toInt → u b j = v a j) (hi : i'.toInt = i.toInt + 1) (hb : 0 ≤ i.toInt) (hs : u a = v a) : ∀ j : Nat, (j : Int) < i'.toInt → w b j = v a j := by
  intro j hj
  have q := t_nn hb
  rw [e, upr_s]
  by_cases hji : j = i.toNatClampNeg
  · subst hji
    rw [pk_us, ex, hs]
  · rw [pk_un hji]
    exact h j (by omega)

set_option maxHeartbeats 4000000 in
set_option maxRecDepth 100000 in
theorem q_X8_keep (l : Launch) (dC : Nat → ClassId) (dI : Nat → Nat → Nat) (cy : Nat → ClassId) (sz : Nat) (ad : Nat → Nat) (v : Nat → Nat → Int32) (hv : Ir v)  : Met l yX8_keep wsX8_keep ({ frames := 0, cells := 0, slots := 0, locals := 0 }) (va_Pc [.ref (ad 0)] (ex_Pre dC dI cy sz (wm ad cy v))) (va_Qi (fun (r : Int32) (u : Nat → Nat → Int32) => Ir u ∧ (∀ j : Nat, j < 596 → u 2 j = v 1 j) ∧ u 1 = v 1 ∧ u 0 2 = 1 ∧ u 0 3 = v 0 3 ∧ r = 1) (fun u t => ex_Pst dC dI (va_A (wm ad cy v) sz) (wm ad cy u) t) (va_A (wm ad cy v) sz)) 0 0 (va_A (wm ad cy v) sz) := by
  refine Met.ofW (cc := cX8_keep) (maxL := 2) (ret := (some .int)) (by decide) rfl ?_
  intro p e s m args below meth c s₁ B hml hv
  obtain ⟨rfl, hsz, hE, hP, hK, hD0⟩ := hv
  have hx := B.exec
  have hb := B.bytes
  have hr := B.returns
  have hts := atoms_spec (ws := wsX8_keep) B.pre
  have hown : s.vm.findClass RX8 = some m.cls := findClass_of_methodNamed B.named
  have hlocks := B.notSynchronized
  subst hsz
  have hD := hD0.self (sz := s.heap.size)
  generalize hAe : va_A (wm ad cy v) s.heap.size = A at hD ⊢
  have hA : ∀ q : Nat, s.heap.size ≤ q → A q := fun q h => by rw [← hAe]; exact Or.inr h
  have hS : va_S A s.heap s.heap [] := va_S.rf
  have hP : va_P (dC, dI) vwCl (wm ad cy v) s.heap := hP
  have hl := lv_entry ([.ref (ad 0)]) (n := 2) (Nat.le_of_ble_eq_true rfl)
  rw [lg_entry_eq]
  generalize (lg_sl ([.ref (ad 0)]) ++ List.replicate (2 - (lg_sl ([.ref (ad 0)])).length) Slot.unset).toArray = ls at hl ⊢
  have hl : lv_has ls 2 [(0, .ref (ad 0))] := hl
  refine lv_iconst (v := 0) hx hb dX8_keep_0 (by decide) ?_
  refine lv_istore_n (lv' := [(1, .int 0), (0, .ref (ad 0))]) hx hb dX8_keep_1 rfl hl (by decide) rfl (fun ls hl => ?_)
  have hc_1 : ∀ (n : Nat) (y1_1 : Int32) (u1 : Nat → Nat → Int32) (H : Heap) (locs : List Loc), 0 ≤ y1_1.toInt → y1_1.toInt ≤ 596 → (∀ j : Nat, (j : Int) < y1_1.toInt → u1 2 j = v 1 j) → (u1 1 = v 1) → (u1 0 = v 0) → (596 - y1_1.toInt).toNat < n → Ir u1 → va_P (dC, dI) vwCl (wm ad cy u1) H → va_D A (wm ad cy u1) → va_S A s.heap H locs → ∀ ls : Array Slot, lv_has ls 2 [(1, .int y1_1), (0, .ref (ad 0))] → W p l e (headSpec wsX8_keep ({ frames := 0, cells := 0, slots := 0, locals := 0 })).room s m [Value.ref (ad 0)].toArray below meth c H locs 0 0 (MQ below (va_Qi (fun (r : Int32) (u : Nat → Nat → Int32) => Ir u ∧ (∀ j : Nat, j < 596 → u 2 j = v 1 j) ∧ u 1 = v 1 ∧ u 0 2 = 1 ∧ u 0 3 = v 0 3 ∧ r = 1) (fun u t => ex_Pst dC dI A (wm ad cy u) t) A) [Value.ref (ad 0)].toArray s 0 0 A) (F0 m 2 ls []) := by
    intro n
    induction n with
    | zero =>
      intro y1_1 u1 H locs ay1_1 by1_1 hi1_0 hi1_1 hi1_2 hm_1 hv hP hD hS ls hl
      exact absurd hm_1 (by omega)
    | succ n ih_1 =>
      intro y1_1 u1 H locs ay1_1 by1_1 hi1_0 hi1_1 hi1_2 hm_1 hv hP hD hS ls hl
      refine lv_iload_n hx hb dX8_keep_2 rfl (lv_at hl 0 rfl) ?_
      refine lv_sipush (v := 596) hx hb dX8_keep_3 (by decide) ?_
      have k_596 : (596 : Int32).toInt = 596 := by decide
      refine lv_icmp_ge (tgt := 27) hx hb dX8_keep_6 (by decide) (fun c_2 => ?_) (fun c_2 => ?_)
      · have tc_2 : y1_1.toInt ≥ (596 : Int32).toInt := Int32.le_iff_toInt_le.mp c_2
        refine lv_aload_n hx hb dX8_keep_27 rfl (lv_at hl 1 rfl) ?_
        refine lv_iconst (v := 1) hx hb dX8_keep_28 (by decide) ?_
        refine va_put (D := (dC, dI)) (ci := 8) (v := .int 1) (ty := .boolean) (C := RX8) (T := TX8) (N := 11) hx hb hts iwX8_keep_X8 tyX8 tyX8_ok nmX8 hown hK hP hD hS (0) (wm_at (by decide) rc_0) rfl 2 (by decide) (hts (.fieldLink RX8 134 "QuietStairsModel" "isKept" "Z") fwX8_keep_3) (fun _ h9 => h9) rfl (by decide +kernel) rfl rfl (Nat.le_of_ble_eq_true rfl) dX8_keep_29 (fun H locs hP hD hS => ?_)
        have k_1 : (1 : Int32).toInt = 1 := by decide
        obtain ⟨v_3, ev_3⟩ : ∃ u : Nat → Nat → Int32, u = upr u1 0 (upd (u1 0) 2 1) := ⟨_, rfl⟩
        have hP : va_P (dC, dI) vwCl (wm ad cy v_3) H := by rw [ev_3, ← wm_put (e := _) rc_0]; exact hP
        have hD : va_D A (wm ad cy v_3) := by rw [ev_3, ← wm_put (e := _) rc_0]; exact hD
        have hv : Ir v_3 := by rw [ev_3]; exact hv.put (k := 0) (fun h q => by rw [show br 0 2 = some 1 from by decide] at q; cases q; exact ⟨by omega, by omega⟩)
        refine lv_iconst (v := 1) hx hb dX8_keep_32 (by decide) ?_
        exact W.iret (v := 1) hx hb hr (fun t ht hW => ⟨⟨1, v_3, rfl, ⟨hv, fun j hj => by rw [ev_3, upr_n (by decide)]; exact hi1_0 j (by omega), by rw [ev_3, upr_n (by decide)]; exact hi1_1, by rw [ev_3, upr_s, pk_us], by rw [ev_3, upr_s, pk_un (by decide)]; exact congrFun hi1_2 3, rfl⟩, by rw [ht]; exact hP, hD⟩, hS.F ht⟩) hS.2.2 dX8_keep_33
      · have tc_2 : y1_1.toInt < (596 : Int32).toInt := Int32.lt_iff_toInt_lt.mp (Int32.not_le.mp c_2)
        refine lv_aload_n hx hb dX8_keep_9 rfl (lv_at hl 1 rfl) ?_
        refine va_get (D := (dC, dI)) (ci := 8) (v := .ref (ad 2)) (C := RX8) (T := TX8) (N := 11) hx hb hts iwX8_keep_X8 hown hK hP (0) (wm_at (by decide) rc_0) rfl 1 (by decide) (hts (.fieldLink RX8 13 "QuietStairsModel" "kept" "[I") fwX8_keep_1) (fun _ h9 => h9) rfl dX8_keep_10 ?_
        refine lv_iload_n hx hb dX8_keep_13 rfl (lv_at hl 0 rfl) ?_
        refine lv_aload_n hx hb dX8_keep_14 rfl (lv_at hl 1 rfl) ?_
        refine va_get (D := (dC, dI)) (ci := 8) (v := .ref (ad 1)) (C := RX8) (T := TX8) (N := 11) hx hb hts iwX8_keep_X8 hown hK hP (0) (wm_at (by decide) rc_0) rfl 0 (by decide) (hts (.fieldLink RX8 7 "QuietStairsModel" "s" "[I") fwX8_keep_2) (fun _ h9 => h9) rfl dX8_keep_15 ?_
        refine lv_iload_n hx hb dX8_keep_18 rfl (lv_at hl 0 rfl) ?_
        refine va_iald hx hb hK hP (1) 0 (wm_at (by decide) rc_1) rfl (vp_in_iff.mpr ⟨by omega, by omega⟩) dX8_keep_19 ?_
        refine lv_topi (fun x_3 ex_3 => ?_)
        refine va_iast hx hb hK hP hD hS (2) 0 (wm_at (by decide) rc_2) rfl (vp_in_iff.mpr ⟨by omega, by omega⟩) dX8_keep_20 (fun H locs hP hD hS => ?_)
        obtain ⟨v_4, ev_4⟩ : ∃ u : Nat → Nat → Int32, u = upr u1 2 (upd (u1 2) (y1_1.toNatClampNeg) x_3) := ⟨_, rfl⟩
        have hP : va_P (dC, dI) vwCl (wm ad cy v_4) H := by rw [ev_4, ← wm_put (e := _) rc_2]; exact hP
        have hD : va_D A (wm ad cy v_4) := by rw [ev_4, ← wm_put (e := _) rc_2]; exact hD
        have hv : Ir v_4 := by rw [ev_4]; exact hv.put (k := 2) (fun h q => by rw [ex_3]; exact hv 1 _ h q)
        obtain ⟨x_5, ex_5⟩ : ∃ y : Int32, y = y1_1 + 1 := ⟨_, rfl⟩
        refine lv_iinc (v := x_5) (lv' := [(1, .int x_5), (0, .ref (ad 0))]) hx hb dX8_keep_21 hl (k := 0) rfl (by rw [ex_5]; rfl) (by decide) rfl (fun ls hl => ?_)
        have k_1 : (1 : Int32).toInt = 1 := by decide
        have tx_5 : x_5.toInt = y1_1.toInt + (1 : Int32).toInt := by rw [ex_5]; exact t_add ⟨by omega, by omega⟩
        refine lv_goto (tgt := 2) hx hb dX8_keep_24 (by decide) ?_
        exact ih_1 x_5 v_4 _ _ (by omega) (by omega) (cp_s ev_4 ex_3 hi1_0 (by rw [tx_5, k_1]) (by omega) hi1_1) (by rw [ev_4, upr_n (by decide)]; exact hi1_1) (by rw [ev_4, upr_n (by decide)]; exact hi1_2) (by omega) hv hP hD hS ls (lv_sub hl [0, 1] rfl)
  have k_0 : (0 : Int32).toInt = 0 := by decide
  exact hc_1 ((596 - (0 : Int32).toInt).toNat + 1) 0 v _ _ (by omega) (by omega) (fun j hj => absurd hj (by omega)) (rfl) (rfl) (by omega) hv hP hD hS ls (lv_sub hl [0, 1] rfl)

set_option maxHeartbeats 4000000 in
set_option maxRecDepth 100000 in
theorem q_X8_back (l : Launch) (dC : Nat → ClassId) (dI : Nat → Nat → Nat) (cy : Nat → ClassId) (sz : Nat) (ad : Nat → Nat) (v : Nat → Nat → Int32) (hv : Ir v)  : Met l yX8_back wsX8_back ({ frames := 0, cells := 0, slots := 0, locals := 0 }) (va_Pc [.ref (ad 0)] (ex_Pre dC dI cy sz (wm ad cy v))) (va_Qi (fun (r : Int32) (u : Nat → Nat → Int32) => Ir u ∧ (((v 0 2).toInt = 0 ∧ u = v ∧ r = -5) ∨ ((v 0 2).toInt = 1 ∧ (∀ j : Nat, j < 596 → u 1 j = v 2 j) ∧ u 2 = v 2 ∧ u 0 = v 0 ∧ r = 1))) (fun u t => ex_Pst dC dI (va_A (wm ad cy v) sz) (wm ad cy u) t) (va_A (wm ad cy v) sz)) 0 0 (va_A (wm ad cy v) sz) := by
  refine Met.ofW (cc := cX8_back) (maxL := 2) (ret := (some .int)) (by decide) rfl ?_
  intro p e s m args below meth c s₁ B hml hv
  obtain ⟨rfl, hsz, hE, hP, hK, hD0⟩ := hv
  have hx := B.exec
  have hb := B.bytes
  have hr := B.returns
  have hts := atoms_spec (ws := wsX8_back) B.pre
  have hown : s.vm.findClass RX8 = some m.cls := findClass_of_methodNamed B.named
  have hlocks := B.notSynchronized
  subst hsz
  have hD := hD0.self (sz := s.heap.size)
  generalize hAe : va_A (wm ad cy v) s.heap.size = A at hD ⊢
  have hA : ∀ q : Nat, s.heap.size ≤ q → A q := fun q h => by rw [← hAe]; exact Or.inr h
  have hS : va_S A s.heap s.heap [] := va_S.rf
  have hP : va_P (dC, dI) vwCl (wm ad cy v) s.heap := hP
  have hl := lv_entry ([.ref (ad 0)]) (n := 2) (Nat.le_of_ble_eq_true rfl)
  rw [lg_entry_eq]
  generalize (lg_sl ([.ref (ad 0)]) ++ List.replicate (2 - (lg_sl ([.ref (ad 0)])).length) Slot.unset).toArray = ls at hl ⊢
  have hl : lv_has ls 2 [(0, .ref (ad 0))] := hl
  refine lv_aload_n hx hb dX8_back_0 rfl (lv_at hl 0 rfl) ?_
  refine va_get (D := (dC, dI)) (ci := 8) (v := .int (v 0 2)) (C := RX8) (T := TX8) (N := 11) hx hb hts iwX8_back_X8 hown hK hP (0) (wm_at (by decide) rc_0) rfl 2 (by decide) (hts (.fieldLink RX8 134 "QuietStairsModel" "isKept" "Z") fwX8_back_1) (fun _ h9 => h9) rfl dX8_back_1 ?_
  refine lv_topi (fun x_1 ex_1 => ?_)
  have bzx_1 : 0 ≤ x_1.toInt ∧ x_1.toInt ≤ 1 := by rw [ex_1]; exact hv 0 2 1 (by decide)
  have k_0 : (0 : Int32).toInt = 0 := by decide
  refine lv_if_ne (tgt := 10) hx hb dX8_back_4 (by decide) (fun c_2 => ?_) (fun c_2 => ?_)
  · have tc_2 : x_1.toInt ≠ (0 : Int32).toInt := fun q => absurd (Int32.toInt_inj.mp q) c_2
    refine lv_iconst (v := 0) hx hb dX8_back_10 (by decide) ?_
    refine lv_istore_n (lv' := [(1, .int 0), (0, .ref (ad 0))]) hx hb dX8_back_11 rfl hl (by decide) rfl (fun ls hl => ?_)
    have hc_3 : ∀ (n : Nat) (y3_1 : Int32) (u3 : Nat → Nat → Int32) (H : Heap) (locs : List Loc), 0 ≤ y3_1.toInt → y3_1.toInt ≤ 596 → (∀ j : Nat, (j : Int) < y3_1.toInt → u3 1 j = v 2 j) → (u3 2 = v 2) → (u3 0 = v 0) → (596 - y3_1.toInt).toNat < n → Ir u3 → va_P (dC, dI) vwCl (wm ad cy u3) H → va_D A (wm ad cy u3) → va_S A s.heap H locs → ∀ ls : Array Slot, lv_has ls 2 [(1, .int y3_1), (0, .ref (ad 0))] → W p l e (headSpec wsX8_back ({ frames := 0, cells := 0, slots := 0, locals := 0 })).room s m [Value.ref (ad 0)].toArray below meth c H locs 0 0 (MQ below (va_Qi (fun (r : Int32) (u : Nat → Nat → Int32) => Ir u ∧ (((v 0 2).toInt = 0 ∧ u = v ∧ r = -5) ∨ ((v 0 2).toInt = 1 ∧ (∀ j : Nat, j < 596 → u 1 j = v 2 j) ∧ u 2 = v 2 ∧ u 0 = v 0 ∧ r = 1))) (fun u t => ex_Pst dC dI A (wm ad cy u) t) A) [Value.ref (ad 0)].toArray s 0 0 A) (F0 m 12 ls []) := by
      intro n
      induction n with
      | zero =>
        intro y3_1 u3 H locs ay3_1 by3_1 hi3_0 hi3_1 hi3_2 hm_3 hv hP hD hS ls hl
        exact absurd hm_3 (by omega)
      | succ n ih_3 =>
        intro y3_1 u3 H locs ay3_1 by3_1 hi3_0 hi3_1 hi3_2 hm_3 hv hP hD hS ls hl
        refine lv_iload_n hx hb dX8_back_12 rfl (lv_at hl 0 rfl) ?_
        refine lv_sipush (v := 596) hx hb dX8_back_13 (by decide) ?_
        have k_596 : (596 : Int32).toInt = 596 := by decide
        refine lv_icmp_ge (tgt := 37) hx hb dX8_back_16 (by decide) (fun c_4 => ?_) (fun c_4 => ?_)
        · have tc_4 : y3_1.toInt ≥ (596 : Int32).toInt := Int32.le_iff_toInt_le.mp c_4
          refine lv_iconst (v := 1) hx hb dX8_back_37 (by decide) ?_
          exact W.iret (v := 1) hx hb hr (fun t ht hW => ⟨⟨1, u3, rfl, ⟨hv, Or.inr ⟨by rw [← ex_1]; omega, fun j hj => hi3_0 j (by omega), hi3_1, hi3_2, rfl⟩⟩, by rw [ht]; exact hP, hD⟩, hS.F ht⟩) hS.2.2 dX8_back_38
        · have tc_4 : y3_1.toInt < (596 : Int32).toInt := Int32.lt_iff_toInt_lt.mp (Int32.not_le.mp c_4)
          refine lv_aload_n hx hb dX8_back_19 rfl (lv_at hl 1 rfl) ?_
          refine va_get (D := (dC, dI)) (ci := 8) (v := .ref (ad 1)) (C := RX8) (T := TX8) (N := 11) hx hb hts iwX8_back_X8 hown hK hP (0) (wm_at (by decide) rc_0) rfl 0 (by decide) (hts (.fieldLink RX8 7 "QuietStairsModel" "s" "[I") fwX8_back_2) (fun _ h9 => h9) rfl dX8_back_20 ?_
          refine lv_iload_n hx hb dX8_back_23 rfl (lv_at hl 0 rfl) ?_
          refine lv_aload_n hx hb dX8_back_24 rfl (lv_at hl 1 rfl) ?_
          refine va_get (D := (dC, dI)) (ci := 8) (v := .ref (ad 2)) (C := RX8) (T := TX8) (N := 11) hx hb hts iwX8_back_X8 hown hK hP (0) (wm_at (by decide) rc_0) rfl 1 (by decide) (hts (.fieldLink RX8 13 "QuietStairsModel" "kept" "[I") fwX8_back_3) (fun _ h9 => h9) rfl dX8_back_25 ?_
          refine lv_iload_n hx hb dX8_back_28 rfl (lv_at hl 0 rfl) ?_
          refine va_iald hx hb hK hP (2) 0 (wm_at (by decide) rc_2) rfl (vp_in_iff.mpr ⟨by omega, by omega⟩) dX8_back_29 ?_
          refine lv_topi (fun x_5 ex_5 => ?_)
          refine va_iast hx hb hK hP hD hS (1) 0 (wm_at (by decide) rc_1) rfl (vp_in_iff.mpr ⟨by omega, by omega⟩) dX8_back_30 (fun H locs hP hD hS => ?_)
          obtain ⟨v_6, ev_6⟩ : ∃ u : Nat → Nat → Int32, u = upr u3 1 (upd (u3 1) (y3_1.toNatClampNeg) x_5) := ⟨_, rfl⟩
          have hP : va_P (dC, dI) vwCl (wm ad cy v_6) H := by rw [ev_6, ← wm_put (e := _) rc_1]; exact hP
          have hD : va_D A (wm ad cy v_6) := by rw [ev_6, ← wm_put (e := _) rc_1]; exact hD
          have hv : Ir v_6 := by rw [ev_6]; exact hv.put (k := 1) (fun h q => by rw [ex_5]; exact hv 2 _ h q)
          obtain ⟨x_7, ex_7⟩ : ∃ y : Int32, y = y3_1 + 1 := ⟨_, rfl⟩
          refine lv_iinc (v := x_7) (lv' := [(1, .int x_7), (0, .ref (ad 0))]) hx hb dX8_back_31 hl (k := 0) rfl (by rw [ex_7]; rfl) (by decide) rfl (fun ls hl => ?_)
          have k_1 : (1 : Int32).toInt = 1 := by decide
          have tx_7 : x_7.toInt = y3_1.toInt + (1 : Int32).toInt := by rw [ex_7]; exact t_add ⟨by omega, by omega⟩
          refine lv_goto (tgt := 12) hx hb dX8_back_34 (by decide) ?_
          exact ih_3 x_7 v_6 _ _ (by omega) (by omega) (cp_s ev_6 ex_5 hi3_0 (by rw [tx_7, k_1]) (by omega) hi3_1) (by rw [ev_6, upr_n (by decide)]; exact hi3_1) (by rw [ev_6, upr_n (by decide)]; exact hi3_2) (by omega) hv hP hD hS ls (lv_sub hl [0, 1] rfl)
    exact hc_3 ((596 - (0 : Int32).toInt).toNat + 1) 0 v _ _ (by omega) (by omega) (fun j hj => absurd hj (by omega)) (rfl) (rfl) (by omega) hv hP hD hS ls (lv_sub hl [0, 1] rfl)
  · have tc_2 : x_1.toInt = (0 : Int32).toInt := by rw [c_2]
    refine lv_bipush (v := (-5)) hx hb dX8_back_7 (by decide) ?_
    exact W.iret (v := (-5)) hx hb hr (fun t ht hW => ⟨⟨(-5), v, rfl, ⟨hv, Or.inl ⟨by rw [← ex_1]; omega, rfl, rfl⟩⟩, by rw [ht]; exact hP, hD⟩, hS.F ht⟩) hS.2.2 dX8_back_9
