set_option maxRecDepth 20000 in
theorem db_X7_back_0 : (decode cX7_back 0 = .ok (.aload_n 0, 1)) ∧ (decode cX7_back 1 = .ok (.getfield 30, 3)) ∧ (decode cX7_back 4 = .ok (.ifnonnull 6, 3)) ∧ (decode cX7_back 7 = .ok (.bipush (-5), 2)) ∧ (decode cX7_back 9 = .ok (.ireturn, 1)) ∧ (decode cX7_back 10 = .ok (.aload_n 0, 1)) ∧ (decode cX7_back 11 = .ok (.getfield 12, 3)) ∧ (decode cX7_back 14 = .ok (.aload_n 0, 1)) := by decide +kernel
theorem dX7_back_0 : decode cX7_back 0 = .ok (.aload_n 0, 1) := db_X7_back_0.1
theorem dX7_back_1 : decode cX7_back 1 = .ok (.getfield 30, 3) := db_X7_back_0.2.1
theorem dX7_back_4 : decode cX7_back 4 = .ok (.ifnonnull 6, 3) := db_X7_back_0.2.2.1
theorem dX7_back_7 : decode cX7_back 7 = .ok (.bipush (-5), 2) := db_X7_back_0.2.2.2.1
theorem dX7_back_9 : decode cX7_back 9 = .ok (.ireturn, 1) := db_X7_back_0.2.2.2.2.1
theorem dX7_back_10 : decode cX7_back 10 = .ok (.aload_n 0, 1) := db_X7_back_0.2.2.2.2.2.1
theorem dX7_back_11 : decode cX7_back 11 = .ok (.getfield 12, 3) := db_X7_back_0.2.2.2.2.2.2.1
theorem dX7_back_14 : decode cX7_back 14 = .ok (.aload_n 0, 1) := db_X7_back_0.2.2.2.2.2.2.2
set_option maxRecDepth 20000 in
theorem db_X7_back_15 : (decode cX7_back 15 = .ok (.getfield 30, 3)) ∧ (decode cX7_back 18 = .ok (.invokevirtual 227, 3)) ∧ (decode cX7_back 21 = .ok (.iconst 1, 1)) ∧ (decode cX7_back 22 = .ok (.ireturn, 1)) := by decide +kernel
theorem dX7_back_15 : decode cX7_back 15 = .ok (.getfield 30, 3) := db_X7_back_15.1
set_option maxRecDepth 20000 in
theorem ggX7_back_X1_copyFrom : GoodIn wsX7_back wsX1_copyFrom := goodIn_r _ [7, 8, 9, 10, 11, 12, 13, 14, 15, 16, 17, 18, 19, 20, 21, 22, 23, 24, 25, 26, 27, 28, 29, 30, 31, 32, 33, 34, 35, 36, 37, 38, 39, 40, 41, 42, 43, 44, 45, 46, 47, 48, 49, 50, 51, 52, 53, 54, 55, 56, 57, 58, 59, 65, 66, 67, 68, 69, 70, 71, 72, 73, 74, 75, 76, 77, 78, 79, 80, 81, 82, 83, 84, 85, 86, 87, 88, 89, 90, 91, 92] rfl (by decide +kernel)
set_option maxRecDepth 20000 in
theorem gX7_back_X1_copyFrom : GoodIn wsX7_back (wsV RX7 227 RX1 yX1_copyFrom wsX1_copyFrom) := goodIn_app (goodIn_r _ [3, 4, 5, 6] rfl (by decide +kernel)) ggX7_back_X1_copyFrom
theorem dX7_back_18 : decode cX7_back 18 = .ok (.invokevirtual 227, 3) := db_X7_back_15.2.1
theorem dX7_back_21 : decode cX7_back 21 = .ok (.iconst 1, 1) := db_X7_back_15.2.2.1
theorem dX7_back_22 : decode cX7_back 22 = .ok (.ireturn, 1) := db_X7_back_15.2.2.2
set_option maxHeartbeats 4000000 in
set_option maxRecDepth 100000 in
theorem g_X7_back_n (l : Launch) (dC : Nat → ClassId) (dI : Nat → Nat → Nat) (cy : Nat → ClassId) (sz : Nat) (ad : Nat → Nat) (N : Nat) (hN : 119 ≤ N) (v : Nat → Nat → Int32) (hv : Iv v)  : Met l yX7_back wsX7_back ({ frames := 3, cells := 0, slots := 0, locals := 192 }) (va_Pc [.ref (ad 0)] (ex_Pre dC dI cy sz (wl ad (.null) cy N v))) (va_Qi (fun (r : Int32) (u : Nat → Nat → Int32) => Iv u ∧ Fr v u ∧ r = -5) (fun u t => ex_Pst dC dI (va_A (wl ad (.null) cy N v) sz) (wl ad (.null) cy N u) t) (va_A (wl ad (.null) cy N v) sz)) 0 0 (va_A (wl ad (.null) cy N v) sz) := by
  refine Met.ofW (cc := cX7_back) (maxL := 1) (ret := (some .int)) (by decide) rfl ?_
  intro p e s m args below meth c s₁ B hml hv
  obtain ⟨rfl, hsz, hE, hP, hK, hD0⟩ := hv
  have hx := B.exec
  have hb := B.bytes
  have hr := B.returns
  have hts := atoms_spec (ws := wsX7_back) B.pre
  have hown : s.vm.findClass RX7 = some m.cls := findClass_of_methodNamed B.named
  have hlocks := B.notSynchronized
  subst hsz
  have hD := hD0.self (sz := s.heap.size)
  generalize hAe : va_A (wl ad (.null) cy N v) s.heap.size = A at hD ⊢
  have hA : ∀ q : Nat, s.heap.size ≤ q → A q := fun q h => by rw [← hAe]; exact Or.inr h
  have hS : va_S A s.heap s.heap [] := va_S.rf
  have hP : va_P (dC, dI) vwCl (wl ad (.null) cy N v) s.heap := hP
  have hl := lv_entry ([.ref (ad 0)]) (n := 1) (Nat.le_of_ble_eq_true rfl)
  rw [lg_entry_eq]
  generalize (lg_sl ([.ref (ad 0)]) ++ List.replicate (1 - (lg_sl ([.ref (ad 0)])).length) Slot.unset).toArray = ls at hl ⊢
  have hl : lv_has ls 1 [(0, .ref (ad 0))] := hl
  have hfr : Fr v v := Fr.rf
  refine lv_aload_n hx hb dX7_back_0 rfl (lv_at hl 0 rfl) ?_
  refine va_get (D := (dC, dI)) (ci := 7) (v := .null) (C := RX7) (T := TX7) (N := 5) hx hb hts iwX7_back_X7 hown hK hP (0) (wl_at (by omega) (ce_0 (by decide))) rfl 3 (by decide) (hts (.fieldLink RX7 30 "QuietStairs" "kept" "LQuietStairs$House;") fwX7_back_1) (fun _ h9 => h9) rfl dX7_back_1 ?_
  refine lv_ifnonnullN hx hb dX7_back_4 ?_
  refine lv_bipush (v := (-5)) hx hb dX7_back_7 (by decide) ?_
  exact W.iret (v := (-5)) hx hb hr (fun t ht hW => ⟨⟨(-5), v, rfl, ⟨hv, hfr, rfl⟩, by rw [ht]; exact hP, hD⟩, hS.F ht⟩) hS.2.2 dX7_back_9

set_option maxHeartbeats 4000000 in
set_option maxRecDepth 100000 in
theorem g_X7_back_k (l : Launch) (dC : Nat → ClassId) (dI : Nat → Nat → Nat) (cy : Nat → ClassId) (sz : Nat) (ad : Nat → Nat) (N : Nat) (hN : 119 ≤ N) (v : Nat → Nat → Int32) (hv : Iv v)  (hN2 : 225 ≤ N) : Met l yX7_back wsX7_back ({ frames := 3, cells := 0, slots := 0, locals := 192 }) (va_Pc [.ref (ad 0)] (ex_Pre dC dI cy sz (wl ad (.ref (ad 119)) cy N v))) (va_Qi (fun (r : Int32) (u : Nat → Nat → Int32) => Iv u ∧ r = 1) (fun u t => ex_Pst dC dI (va_A (wl ad (.ref (ad 119)) cy N v) sz) (wl ad (.ref (ad 119)) cy N u) t) (va_A (wl ad (.ref (ad 119)) cy N v) sz)) 0 0 (va_A (wl ad (.ref (ad 119)) cy N v) sz) := by
  refine Met.ofW (cc := cX7_back) (maxL := 1) (ret := (some .int)) (by decide) rfl ?_
  intro p e s m args below meth c s₁ B hml hv
  obtain ⟨rfl, hsz, hE, hP, hK, hD0⟩ := hv
  have hx := B.exec
  have hb := B.bytes
  have hr := B.returns
  have hts := atoms_spec (ws := wsX7_back) B.pre
  have hown : s.vm.findClass RX7 = some m.cls := findClass_of_methodNamed B.named
  have hlocks := B.notSynchronized
  subst hsz
  have hD := hD0.self (sz := s.heap.size)
  generalize hAe : va_A (wl ad (.ref (ad 119)) cy N v) s.heap.size = A at hD ⊢
  have hA : ∀ q : Nat, s.heap.size ≤ q → A q := fun q h => by rw [← hAe]; exact Or.inr h
  have hS : va_S A s.heap s.heap [] := va_S.rf
  have hP : va_P (dC, dI) vwCl (wl ad (.ref (ad 119)) cy N v) s.heap := hP
  have hl := lv_entry ([.ref (ad 0)]) (n := 1) (Nat.le_of_ble_eq_true rfl)
  rw [lg_entry_eq]
  generalize (lg_sl ([.ref (ad 0)]) ++ List.replicate (1 - (lg_sl ([.ref (ad 0)])).length) Slot.unset).toArray = ls at hl ⊢
  have hl : lv_has ls 1 [(0, .ref (ad 0))] := hl
  have hfr : Ft v v := Ft.rf
  refine lv_aload_n hx hb dX7_back_0 rfl (lv_at hl 0 rfl) ?_
  refine va_get (D := (dC, dI)) (ci := 7) (v := .ref (ad 119)) (C := RX7) (T := TX7) (N := 5) hx hb hts iwX7_back_X7 hown hK hP (0) (wl_at (by omega) (ce_0 (by decide))) rfl 3 (by decide) (hts (.fieldLink RX7 30 "QuietStairs" "kept" "LQuietStairs$House;") fwX7_back_1) (fun _ h9 => h9) rfl dX7_back_1 ?_
  refine lv_ifnonnull (tgt := 10) hx hb dX7_back_4 (by decide) ?_
  refine lv_aload_n hx hb dX7_back_10 rfl (lv_at hl 0 rfl) ?_
  refine va_get (D := (dC, dI)) (ci := 7) (v := .ref (ad 13)) (C := RX7) (T := TX7) (N := 5) hx hb hts iwX7_back_X7 hown hK hP (0) (wl_at (by omega) (ce_0 (by decide))) rfl 0 (by decide) (hts (.fieldLink RX7 12 "QuietStairs" "now" "LQuietStairs$House;") fwX7_back_2) (fun _ h9 => h9) rfl dX7_back_11 ?_
  refine lv_aload_n hx hb dX7_back_14 rfl (lv_at hl 0 rfl) ?_
  refine va_get (D := (dC, dI)) (ci := 7) (v := .ref (ad 119)) (C := RX7) (T := TX7) (N := 5) hx hb hts iwX7_back_X7 hown hK hP (0) (wl_at (by omega) (ce_0 (by decide))) rfl 3 (by decide) (hts (.fieldLink RX7 30 "QuietStairs" "kept" "LQuietStairs$House;") fwX7_back_1) (fun _ h9 => h9) rfl dX7_back_15 ?_
  refine yw_v (w1 := fun (u : Nat → Nat → Int32) => wl ad (.ref (ad 119)) cy N u) hD hS hA (va_runV (As := [.ref (ad 119)]) (rest := []) ⟨hx, hb, hml, hown, hts⟩ (g_X1_copyFrom_a l dC dI cy _ ad (.ref (ad 119)) N hN v hv hN2) (cwV 1 hts gX7_back_X1_copyFrom rfl rfl rfl hd_V_X1_copyFrom_1 ⟨Nat.le_of_ble_eq_true rfl, Nat.le_of_ble_eq_true rfl⟩) (yw_preV hE hK hP hD (ci := 1) (q0 := 13) rfl (wl_at (by omega) (ce_3 (by decide)))) rfl rfl hl.1 rfl (lv_room (Nat.le_of_ble_eq_true rfl)) dX7_back_18 ⟨Nat.le_of_ble_eq_true rfl, Nat.le_of_ble_eq_true rfl⟩) (fun v_1 H locs hw_1 hP hD hS => ?_)
  obtain ⟨hv, hw_1⟩ := hw_1
  have hfr : Ft v v_1 := trivial
  refine lv_iconst (v := 1) hx hb dX7_back_21 (by decide) ?_
  exact W.iret (v := 1) hx hb hr (fun t ht hW => ⟨⟨1, v_1, rfl, ⟨hv, rfl⟩, by rw [ht]; exact hP, hD⟩, hS.F ht⟩) hS.2.2 dX7_back_22
