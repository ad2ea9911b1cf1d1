set_option maxRecDepth 20000 in
theorem db_X7_back_0 : (decode cX7_back 0 = .ok (.aload_n 0, 1)) ∧ (decode cX7_back 1 = .ok (.getfield 30, 3)) ∧ (decode cX7_back 4 = .ok (.ifnonnull 6, 3)) ∧ (decode cX7_back 7 = .ok (.bipush (-5), 2)) ∧ (decode cX7_back 9 = .ok (.ireturn, 1)) ∧ (decode cX7_back 10 = .ok (.aload_n 0, 1)) ∧ (decode cX7_back 11 = .ok (.getfield 12, 3)) ∧ (decode cX7_back 14 = .ok (.aload_n 0, 1)) := by decide +kernel
theorem dX7_back_0 : decode cX7_back 0 = .ok (.aload_n 0, 1) := db_X7_back_0.1
theorem dX7_back_1 : decode cX7_back 1 = .ok (.getfield 30, 3) := db_X7_back_0.2.1
theorem dX7_back_4 : decode cX7_back 4 = .ok (.ifnonnull 6, 3) := db_X7_back_0.2.2.1
theorem dX7_back_7 : decode cX7_back 7 = .ok (.bipush (-5), 2) := db_X7_back_0.2.2.2.1
theorem dX7_back_9 : decode cX7_back 9 = .ok (.ireturn, 1) := db_X7_back_0.2.2.2.2.1
theorem dX7_back_10 : decode cX7_back 10 = .ok (.aload_n 0, 1) := db_X7_back_0.2.2.2.2.2.1
theorem dX7_back_11 : decode cX7_back 11 = .ok (.getfield 12, 3) := db_X7_back_0.2.2.2.2.2.2.1
theorem dX7_back_14 : decode cX7_back 14 = .ok (.aload_n 0, 1) := db_X7_back_0.2.2.2.2.2.2.2
set_option maxRecDepth 20000 in
theorem db_X7_back_15 : (decode cX7_back 15 = .ok (.getfield 30, 3)) ∧ (decode cX7_back 18 = .ok (.invokevirtual 227, 3)) ∧ (decode cX7_back 21 = .ok (.iconst 1, 1)) ∧ (decode cX7_back 22 = .ok (.ireturn, 1)) := by decide +kernel
theorem dX7_back_15 : decode cX7_back 15 = .ok (.getfield 30, 3) := db_X7_back_15.1
set_option maxRecDepth 20000 in
theorem ggX7_back_X1_copyFrom : GoodIn wsX7_back wsX1_copyFrom := goodIn_r _ [7, 8, 9, 10, 11, 12, 13, 14, 15, 16, 17, 18, 19, 20, 21, 22, 23, 24, 25, 26, 27, 28, 29, 30, 31, 32, 33, 34, 35, 36, 37, 38, 39, 40, 41, 42, 43, 44, 45, 46, 47, 48, 49, 50, 51, 52, 53, 54, 55, 56, 57, 58, 59, 65, 66, 67, 68, 69, 70, 71, 72, 73, 74, 75, 76, 77, 78, 79, 80, 81, 82, 83, 84, 85, 86, 87, 88, 89, 90, 91, 92] rfl (by decide +kernel)
set_option maxRecDepth 20000 in
theorem gX7_back_X1_copyFrom : GoodIn wsX7_back (wsV RX7 227 RX1 yX1_copyFrom wsX1_copyFrom) := goodIn_app (goodIn_r _ [3, 4, 5, 6] rfl (by decide +kernel)) ggX7_back_X1_copyFrom
theorem dX7_back_18 : decode cX7_back 18 = .ok (.invokevirtual 227, 3) := db_X7_back_15.2.1
theorem dX7_back_21 : decode cX7_back 21 = .ok (.iconst 1, 1) := db_X7_back_15.2.2.1
theorem dX7_back_22 : decode cX7_back 22 = .ok (.ireturn, 1) := db_X7_back_15.2.2.2
set_option maxRecDepth 20000 in
theorem db_X7_keep_0 : (decode cX7_keep 0 = .ok (.aload_n 0, 1)) ∧ (decode cX7_keep 1 = .ok (.getfield 30, 3)) ∧ (decode cX7_keep 4 = .ok (.ifnonnull 14, 3)) ∧ (decode cX7_keep 18 = .ok (.aload_n 0, 1)) ∧ (decode cX7_keep 19 = .ok (.getfield 30, 3)) ∧ (decode cX7_keep 22 = .ok (.aload_n 0, 1)) ∧ (decode cX7_keep 23 = .ok (.getfield 12, 3)) ∧ (decode cX7_keep 26 = .ok (.invokevirtual 227, 3)) := by decide +kernel
theorem dX7_keep_0 : decode cX7_keep 0 = .ok (.aload_n 0, 1) := db_X7_keep_0.1
theorem dX7_keep_1 : decode cX7_keep 1 = .ok (.getfield 30, 3) := db_X7_keep_0.2.1
theorem dX7_keep_4 : decode cX7_keep 4 = .ok (.ifnonnull 14, 3) := db_X7_keep_0.2.2.1
theorem dX7_keep_18 : decode cX7_keep 18 = .ok (.aload_n 0, 1) := db_X7_keep_0.2.2.2.1
theorem dX7_keep_19 : decode cX7_keep 19 = .ok (.getfield 30, 3) := db_X7_keep_0.2.2.2.2.1
theorem dX7_keep_22 : decode cX7_keep 22 = .ok (.aload_n 0, 1) := db_X7_keep_0.2.2.2.2.2.1
theorem dX7_keep_23 : decode cX7_keep 23 = .ok (.getfield 12, 3) := db_X7_keep_0.2.2.2.2.2.2.1
set_option maxRecDepth 20000 in
theorem ggX7_keep_X1_copyFrom : GoodIn wsX7_keep wsX1_copyFrom := goodIn_r _ [50, 51, 52, 53, 54, 13, 15, 17, 55, 56, 57, 19, 58, 59, 60, 61, 62, 63, 21, 64, 65, 66, 67, 68, 69, 70, 23, 71, 72, 73, 74, 75, 76, 77, 35, 36, 38, 78, 79, 80, 81, 39, 41, 82, 83, 84, 43, 85, 86, 87, 88, 89, 90, 96, 97, 98, 99, 100, 101, 102, 103, 104, 105, 106, 107, 108, 109, 110, 111, 112, 113, 114, 115, 116, 117, 118, 119, 120, 121, 122, 123] rfl (by decide +kernel)
set_option maxRecDepth 20000 in
theorem gX7_keep_X1_copyFrom : GoodIn wsX7_keep (wsV RX7 227 RX1 yX1_copyFrom wsX1_copyFrom) := goodIn_app (goodIn_r _ [47, 48, 49, 4] rfl (by decide +kernel)) ggX7_keep_X1_copyFrom
theorem dX7_keep_26 : decode cX7_keep 26 = .ok (.invokevirtual 227, 3) := db_X7_keep_0.2.2.2.2.2.2.2
set_option maxRecDepth 20000 in
theorem db_X7_keep_29 : (decode cX7_keep 29 = .ok (.iconst 1, 1)) ∧ (decode cX7_keep 30 = .ok (.ireturn, 1)) ∧ (decode cX7_keep 7 = .ok (.aload_n 0, 1)) ∧ (decode cX7_keep 8 = .ok (.new 9, 3)) ∧ (decode cX7_keep 11 = .ok (.dup, 1)) ∧ (decode cX7_keep 12 = .ok (.invokespecial 11, 3)) ∧ (decode cX7_keep 15 = .ok (.putfield 30, 3)) := by decide +kernel
theorem dX7_keep_29 : decode cX7_keep 29 = .ok (.iconst 1, 1) := db_X7_keep_29.1
theorem dX7_keep_30 : decode cX7_keep 30 = .ok (.ireturn, 1) := db_X7_keep_29.2.1
theorem dX7_keep_7 : decode cX7_keep 7 = .ok (.aload_n 0, 1) := db_X7_keep_29.2.2.1
theorem dX7_keep_8 : decode cX7_keep 8 = .ok (.new 9, 3) := db_X7_keep_29.2.2.2.1
theorem dX7_keep_11 : decode cX7_keep 11 = .ok (.dup, 1) := db_X7_keep_29.2.2.2.2.1
set_option maxRecDepth 20000 in
theorem ggX7_keep_X1_init : GoodIn wsX7_keep wsX1_init := goodIn_r _ [8, 9, 10, 11, 12, 13, 14, 15, 16, 17, 18, 19, 20, 21, 22, 23, 24, 25, 26, 27, 28, 29, 30, 31, 32, 33, 34, 35, 36, 37, 38, 39, 40, 41, 42, 43, 44, 45, 46, 96, 97, 98, 99, 100, 101, 102, 103, 104, 105, 106, 107, 108, 109, 110, 111, 112, 113, 114, 115, 116, 117, 118, 119, 120, 121, 122, 123] rfl (by decide +kernel)
set_option maxRecDepth 20000 in
theorem gX7_keep_X1_init : GoodIn wsX7_keep (wsX1_init) := ggX7_keep_X1_init
theorem dX7_keep_12 : decode cX7_keep 12 = .ok (.invokespecial 11, 3) := db_X7_keep_29.2.2.2.2.2.1
theorem dX7_keep_15 : decode cX7_keep 15 = .ok (.putfield 30, 3) := db_X7_keep_29.2.2.2.2.2.2
set_option maxHeartbeats 4000000 in
set_option maxRecDepth 100000 in
theorem e_X7_back_n (l : Launch) (dC : Nat → ClassId) (dI : Nat → Nat → Nat) (cy : Nat → ClassId) (sz : Nat) (ad : Nat → Nat) (N : Nat) (hN : 119 ≤ N) (v : Nat → Nat → Int32) (hv : Iv v)  : Met l yX7_back wsX7_back ({ frames := 3, cells := 0, slots := 0, locals := 192 }) (va_Pc [.ref (ad 0)] (ex_Pre dC dI cy sz (wl ad (.null) cy N v))) (va_Qi (fun (r : Int32) (u : Nat → Nat → Int32) => Iv u ∧ u = v ∧ r = -5) (fun u t => ex_Pst dC dI (va_A (wl ad (.null) cy N v) sz) (wl ad (.null) cy N u) t) (va_A (wl ad (.null) cy N v) sz)) 0 0 (va_A (wl ad (.null) cy N v) sz) := by
  refine Met.ofW (cc := cX7_back) (maxL := 1) (ret := (some .int)) (by decide) rfl ?_
  intro p e s m args below meth c s₁ B hml hv
  obtain ⟨rfl, hsz, hE, hP, hK, hD0⟩ := hv
  have hx := B.exec
  have hb := B.bytes
  have hr := B.returns
  have hts := atoms_spec (ws := wsX7_back) B.pre
  have hown : s.vm.findClass RX7 = some m.cls := findClass_of_methodNamed B.named
  have hlocks := B.notSynchronized
  subst hsz
  have hD := hD0.self (sz := s.heap.size)
  generalize hAe : va_A (wl ad (.null) cy N v) s.heap.size = A at hD ⊢
  have hA : ∀ q : Nat, s.heap.size ≤ q → A q := fun q h => by rw [← hAe]; exact Or.inr h
  have hS : va_S A s.heap s.heap [] := va_S.rf
  have hP : va_P (dC, dI) vwCl (wl ad (.null) cy N v) s.heap := hP
  have hl := lv_entry ([.ref (ad 0)]) (n := 1) (Nat.le_of_ble_eq_true rfl)
  rw [lg_entry_eq]
  generalize (lg_sl ([.ref (ad 0)]) ++ List.replicate (1 - (lg_sl ([.ref (ad 0)])).length) Slot.unset).toArray = ls at hl ⊢
  have hl : lv_has ls 1 [(0, .ref (ad 0))] := hl
  refine lv_aload_n hx hb dX7_back_0 rfl (lv_at hl 0 rfl) ?_
  refine va_get (D := (dC, dI)) (ci := 7) (v := .null) (C := RX7) (T := TX7) (N := 5) hx hb hts iwX7_back_X7 hown hK hP (0) (wl_at (by omega) (ce_0 (by decide))) rfl 3 (by decide) (hts (.fieldLink RX7 30 "QuietStairs" "kept" "LQuietStairs$House;") fwX7_back_1) (fun _ h9 => h9) rfl dX7_back_1 ?_
  refine lv_ifnonnullN hx hb dX7_back_4 ?_
  refine lv_bipush (v := (-5)) hx hb dX7_back_7 (by decide) ?_
  exact W.iret (v := (-5)) hx hb hr (fun t ht hW => ⟨⟨(-5), v, rfl, ⟨hv, rfl, rfl⟩, by rw [ht]; exact hP, hD⟩, hS.F ht⟩) hS.2.2 dX7_back_9

set_option maxHeartbeats 4000000 in
set_option maxRecDepth 100000 in
theorem e_X7_back_k (l : Launch) (dC : Nat → ClassId) (dI : Nat → Nat → Nat) (cy : Nat → ClassId) (sz : Nat) (ad : Nat → Nat) (N : Nat) (hN : 119 ≤ N) (v : Nat → Nat → Int32) (hv : Iv v)  (hN2 : 225 ≤ N) : Met l yX7_back wsX7_back ({ frames := 3, cells := 0, slots := 0, locals := 192 }) (va_Pc [.ref (ad 0)] (ex_Pre dC dI cy sz (wl ad (.ref (ad 119)) cy N v))) (va_Qi (fun (r : Int32) (u : Nat → Nat → Int32) => Iv u ∧ ((∀ o j : Nat, lvH v 119 o j → u (13 + o) j = v (119 + o) j) ∧ (∀ k : Nat, (k < 13 ∨ 119 ≤ k) → u k = v k)) ∧ r = 1) (fun u t => ex_Pst dC dI (va_A (wl ad (.ref (ad 119)) cy N v) sz) (wl ad (.ref (ad 119)) cy N u) t) (va_A (wl ad (.ref (ad 119)) cy N v) sz)) 0 0 (va_A (wl ad (.ref (ad 119)) cy N v) sz) := by
  refine Met.ofW (cc := cX7_back) (maxL := 1) (ret := (some .int)) (by decide) rfl ?_
  intro p e s m args below meth c s₁ B hml hv
  obtain ⟨rfl, hsz, hE, hP, hK, hD0⟩ := hv
  have hx := B.exec
  have hb := B.bytes
  have hr := B.returns
  have hts := atoms_spec (ws := wsX7_back) B.pre
  have hown : s.vm.findClass RX7 = some m.cls := findClass_of_methodNamed B.named
  have hlocks := B.notSynchronized
  subst hsz
  have hD := hD0.self (sz := s.heap.size)
  generalize hAe : va_A (wl ad (.ref (ad 119)) cy N v) s.heap.size = A at hD ⊢
  have hA : ∀ q : Nat, s.heap.size ≤ q → A q := fun q h => by rw [← hAe]; exact Or.inr h
  have hS : va_S A s.heap s.heap [] := va_S.rf
  have hP : va_P (dC, dI) vwCl (wl ad (.ref (ad 119)) cy N v) s.heap := hP
  have hl := lv_entry ([.ref (ad 0)]) (n := 1) (Nat.le_of_ble_eq_true rfl)
  rw [lg_entry_eq]
  generalize (lg_sl ([.ref (ad 0)]) ++ List.replicate (1 - (lg_sl ([.ref (ad 0)])).length) Slot.unset).toArray = ls at hl ⊢
  have hl : lv_has ls 1 [(0, .ref (ad 0))] := hl
  refine lv_aload_n hx hb dX7_back_0 rfl (lv_at hl 0 rfl) ?_
  refine va_get (D := (dC, dI)) (ci := 7) (v := .ref (ad 119)) (C := RX7) (T := TX7) (N := 5) hx hb hts iwX7_back_X7 hown hK hP (0) (wl_at (by omega) (ce_0 (by decide))) rfl 3 (by decide) (hts (.fieldLink RX7 30 "QuietStairs" "kept" "LQuietStairs$House;") fwX7_back_1) (fun _ h9 => h9) rfl dX7_back_1 ?_
  refine lv_ifnonnull (tgt := 10) hx hb dX7_back_4 (by decide) ?_
  refine lv_aload_n hx hb dX7_back_10 rfl (lv_at hl 0 rfl) ?_
  refine va_get (D := (dC, dI)) (ci := 7) (v := .ref (ad 13)) (C := RX7) (T := TX7) (N := 5) hx hb hts iwX7_back_X7 hown hK hP (0) (wl_at (by omega) (ce_0 (by decide))) rfl 0 (by decide) (hts (.fieldLink RX7 12 "QuietStairs" "now" "LQuietStairs$House;") fwX7_back_2) (fun _ h9 => h9) rfl dX7_back_11 ?_
  refine lv_aload_n hx hb dX7_back_14 rfl (lv_at hl 0 rfl) ?_
  refine va_get (D := (dC, dI)) (ci := 7) (v := .ref (ad 119)) (C := RX7) (T := TX7) (N := 5) hx hb hts iwX7_back_X7 hown hK hP (0) (wl_at (by omega) (ce_0 (by decide))) rfl 3 (by decide) (hts (.fieldLink RX7 30 "QuietStairs" "kept" "LQuietStairs$House;") fwX7_back_1) (fun _ h9 => h9) rfl dX7_back_15 ?_
  refine yw_v (w1 := fun (u : Nat → Nat → Int32) => wl ad (.ref (ad 119)) cy N u) hD hS hA (va_runV (As := [.ref (ad 119)]) (rest := []) ⟨hx, hb, hml, hown, hts⟩ (e_X1_copyFrom_a l dC dI cy _ ad (.ref (ad 119)) N hN v hv hN2) (cwV 1 hts gX7_back_X1_copyFrom rfl rfl rfl hd_V_X1_copyFrom_1 ⟨Nat.le_of_ble_eq_true rfl, Nat.le_of_ble_eq_true rfl⟩) (yw_preV hE hK hP hD (ci := 1) (q0 := 13) rfl (wl_at (by omega) (ce_3 (by decide)))) rfl rfl hl.1 rfl (lv_room (Nat.le_of_ble_eq_true rfl)) dX7_back_18 ⟨Nat.le_of_ble_eq_true rfl, Nat.le_of_ble_eq_true rfl⟩) (fun v_1 H locs hw_1 hP hD hS => ?_)
  obtain ⟨hv, hw_1⟩ := hw_1
  refine lv_iconst (v := 1) hx hb dX7_back_21 (by decide) ?_
  exact W.iret (v := 1) hx hb hr (fun t ht hW => ⟨⟨1, v_1, rfl, ⟨hv, hw_1, rfl⟩, by rw [ht]; exact hP, hD⟩, hS.F ht⟩) hS.2.2 dX7_back_22

set_option maxHeartbeats 4000000 in
set_option maxRecDepth 100000 in
theorem e_X7_keep_k (l : Launch) (dC : Nat → ClassId) (dI : Nat → Nat → Nat) (cy : Nat → ClassId) (sz : Nat) (ad : Nat → Nat) (N : Nat) (hN : 119 ≤ N) (v : Nat → Nat → Int32) (hv : Iv v)  (hN2 : 225 ≤ N) : Met l yX7_keep wsX7_keep ({ frames := 4, cells := 0, slots := 0, locals := 256 }) (va_Pc [.ref (ad 0)] (ex_Pre dC dI cy sz (wl ad (.ref (ad 119)) cy N v))) (va_Qi (fun (r : Int32) (u : Nat → Nat → Int32) => Iv u ∧ ((∀ o j : Nat, lvH v 13 o j → u (119 + o) j = v (13 + o) j) ∧ (∀ k : Nat, (k < 119 ∨ 225 ≤ k) → u k = v k)) ∧ r = 1) (fun u t => ex_Pst dC dI (va_A (wl ad (.ref (ad 119)) cy N v) sz) (wl ad (.ref (ad 119)) cy N u) t) (va_A (wl ad (.ref (ad 119)) cy N v) sz)) 0 0 (va_A (wl ad (.ref (ad 119)) cy N v) sz) := by
  refine Met.ofW (cc := cX7_keep) (maxL := 1) (ret := (some .int)) (by decide) rfl ?_
  intro p e s m args below meth c s₁ B hml hv
  obtain ⟨rfl, hsz, hE, hP, hK, hD0⟩ := hv
  have hx := B.exec
  have hb := B.bytes
  have hr := B.returns
  have hts := atoms_spec (ws := wsX7_keep) B.pre
  have hown : s.vm.findClass RX7 = some m.cls := findClass_of_methodNamed B.named
  have hlocks := B.notSynchronized
  subst hsz
  have hD := hD0.self (sz := s.heap.size)
  generalize hAe : va_A (wl ad (.ref (ad 119)) cy N v) s.heap.size = A at hD ⊢
  have hA : ∀ q : Nat, s.heap.size ≤ q → A q := fun q h => by rw [← hAe]; exact Or.inr h
  have hS : va_S A s.heap s.heap [] := va_S.rf
  have hP : va_P (dC, dI) vwCl (wl ad (.ref (ad 119)) cy N v) s.heap := hP
  have hl := lv_entry ([.ref (ad 0)]) (n := 1) (Nat.le_of_ble_eq_true rfl)
  rw [lg_entry_eq]
  generalize (lg_sl ([.ref (ad 0)]) ++ List.replicate (1 - (lg_sl ([.ref (ad 0)])).length) Slot.unset).toArray = ls at hl ⊢
  have hl : lv_has ls 1 [(0, .ref (ad 0))] := hl
  refine lv_aload_n hx hb dX7_keep_0 rfl (lv_at hl 0 rfl) ?_
  refine va_get (D := (dC, dI)) (ci := 7) (v := .ref (ad 119)) (C := RX7) (T := TX7) (N := 5) hx hb hts iwX7_keep_X7 hown hK hP (0) (wl_at (by omega) (ce_0 (by decide))) rfl 3 (by decide) (hts (.fieldLink RX7 30 "QuietStairs" "kept" "LQuietStairs$House;") fwX7_keep_1) (fun _ h9 => h9) rfl dX7_keep_1 ?_
  refine lv_ifnonnull (tgt := 18) hx hb dX7_keep_4 (by decide) ?_
  refine lv_aload_n hx hb dX7_keep_18 rfl (lv_at hl 0 rfl) ?_
  refine va_get (D := (dC, dI)) (ci := 7) (v := .ref (ad 119)) (C := RX7) (T := TX7) (N := 5) hx hb hts iwX7_keep_X7 hown hK hP (0) (wl_at (by omega) (ce_0 (by decide))) rfl 3 (by decide) (hts (.fieldLink RX7 30 "QuietStairs" "kept" "LQuietStairs$House;") fwX7_keep_1) (fun _ h9 => h9) rfl dX7_keep_19 ?_
  refine lv_aload_n hx hb dX7_keep_22 rfl (lv_at hl 0 rfl) ?_
  refine va_get (D := (dC, dI)) (ci := 7) (v := .ref (ad 13)) (C := RX7) (T := TX7) (N := 5) hx hb hts iwX7_keep_X7 hown hK hP (0) (wl_at (by omega) (ce_0 (by decide))) rfl 0 (by decide) (hts (.fieldLink RX7 12 "QuietStairs" "now" "LQuietStairs$House;") fwX7_keep_5) (fun _ h9 => h9) rfl dX7_keep_23 ?_
  refine yw_v (w1 := fun (u : Nat → Nat → Int32) => wl ad (.ref (ad 119)) cy N u) hD hS hA (va_runV (As := [.ref (ad 13)]) (rest := []) ⟨hx, hb, hml, hown, hts⟩ (e_X1_copyFrom_b l dC dI cy _ ad (.ref (ad 119)) N hN v hv hN2) (cwV 1 hts gX7_keep_X1_copyFrom rfl rfl rfl hd_V_X1_copyFrom_1 ⟨Nat.le_of_ble_eq_true rfl, Nat.le_of_ble_eq_true rfl⟩) (yw_preV hE hK hP hD (ci := 1) (q0 := 119) rfl (wl_at (by omega) (ce_3 (by decide)))) rfl rfl hl.1 rfl (lv_room (Nat.le_of_ble_eq_true rfl)) dX7_keep_26 ⟨Nat.le_of_ble_eq_true rfl, Nat.le_of_ble_eq_true rfl⟩) (fun v_1 H locs hw_1 hP hD hS => ?_)
  obtain ⟨hv, hw_1⟩ := hw_1
  refine lv_iconst (v := 1) hx hb dX7_keep_29 (by decide) ?_
  exact W.iret (v := 1) hx hb hr (fun t ht hW => ⟨⟨1, v_1, rfl, ⟨hv, hw_1, rfl⟩, by rw [ht]; exact hP, hD⟩, hS.F ht⟩) hS.2.2 dX7_keep_30

set_option maxHeartbeats 4000000 in
set_option maxRecDepth 100000 in
theorem e_X7_keep_n (l : Launch) (dC : Nat → ClassId) (dI : Nat → Nat → Nat) (cy : Nat → ClassId) (sz : Nat) (ad : Nat → Nat) (v : Nat → Nat → Int32) (hv : Iv v) : Met l yX7_keep wsX7_keep ({ frames := 4, cells := 106, slots := 695, locals := 256 }) (va_Pc [.ref (ad 0)] (ex_Pre dC dI cy sz (wl ad .null cy 119 v))) (va_Qi (fun (r : Int32) (u : (Nat → Nat) × (Nat → Nat → Int32)) => Iv u.2 ∧ u.1 0 = ad 0 ∧ (∀ o j : Nat, lvH v 13 o j → u.2 (119 + o) j = v (13 + o) j) ∧ (∀ k : Nat, k < 119 → u.2 k = v k) ∧ r = 1) (fun u t => ex_Pst dC dI (va_A (wl ad .null cy 119 v) sz) (wl u.1 (.ref (u.1 119)) cy 225 u.2) t) (va_A (wl ad .null cy 119 v) sz)) 106 695 (va_A (wl ad .null cy 119 v) sz) := by
  refine Met.ofW (cc := cX7_keep) (maxL := 1) (ret := (some .int)) (by decide) rfl ?_
  intro p e s m args below meth c s₁ B hml hv
  obtain ⟨rfl, hsz, hE, hP, hK, hD0⟩ := hv
  have hx := B.exec
  have hb := B.bytes
  have hr := B.returns
  have hts := atoms_spec (ws := wsX7_keep) B.pre
  have hown : s.vm.findClass RX7 = some m.cls := findClass_of_methodNamed B.named
  have hlocks := B.notSynchronized
  subst hsz
  have hD := hD0.self (sz := s.heap.size)
  generalize hAe : va_A (wl ad .null cy 119 v) s.heap.size = A at hD ⊢
  have hA : ∀ q : Nat, s.heap.size ≤ q → A q := fun q h => by rw [← hAe]; exact Or.inr h
  have hS : va_S A s.heap s.heap [] := va_S.rf
  have hP : va_P (dC, dI) vwCl (wl ad .null cy 119 v) s.heap := hP
  have hl := lv_entry ([.ref (ad 0)]) (n := 1) (Nat.le_of_ble_eq_true rfl)
  rw [lg_entry_eq]
  generalize (lg_sl ([.ref (ad 0)]) ++ List.replicate (1 - (lg_sl ([.ref (ad 0)])).length) Slot.unset).toArray = ls at hl ⊢
  have hl : lv_has ls 1 [(0, .ref (ad 0))] := hl
  have hfr : Ft v v := Ft.rf
  refine lv_aload_n hx hb dX7_keep_0 rfl (lv_at hl 0 rfl) ?_
  refine va_get (D := (dC, dI)) (ci := 7) (v := .null) (C := RX7) (T := TX7) (N := 5) hx hb hts iwX7_keep_X7 hown hK hP (0) (wl_at (by omega) (ce_0 (by decide))) rfl 3 (by decide) (hts (.fieldLink RX7 30 "QuietStairs" "kept" "LQuietStairs$House;") fwX7_keep_1) (fun _ h9 => h9) rfl dX7_keep_1 ?_
  refine lv_ifnonnullN hx hb dX7_keep_4 ?_
  refine lv_aload_n hx hb dX7_keep_7 rfl (lv_at hl 0 rfl) ?_
  refine va_new (ci := 1) (fs := [.int 0, .int 0, .int 0, .int 0, .null, .null, .null]) (C := RX1) (T := TX1) (N := 7) hx hb hts iwX7_keep_X1 tyX1 tyX1_ok hown (hts (.classLink RX7 9 RX1) fwX7_keep_2) (hts (.instantiable RX1 7) fwX7_keep_3) (hts (.initialized RX1) fwX7_keep_4) hK hP hD hS hA rfl (fun j hj => by rcases (show j = 0 ∨ j = 1 ∨ j = 2 ∨ j = 3 ∨ j = 4 ∨ j = 5 ∨ j = 6 by omega) with rfl | rfl | rfl | rfl | rfl | rfl | rfl <;> rfl) (Nat.le_of_ble_eq_true rfl) (Nat.le_of_ble_eq_true rfl) dX7_keep_8 (fun h1 H hP hD hS => ?_)
  have hP : va_P (dC, dI) vwCl ((wl ad .null cy 119 v) ++ [(h1, .inr (1, [.int 0, .int 0, .int 0, .int 0, .null, .null, .null]))]) H := hP
  have hD : va_D A ((wl ad .null cy 119 v) ++ [(h1, .inr (1, [.int 0, .int 0, .int 0, .int 0, .null, .null, .null]))]) := hD
  refine W.widen (k := 1) (n := 7) (by omega) (by omega) ?_
  refine lv_dup hx hb dX7_keep_11 rfl ?_
  refine yt_v (X := wl ad .null cy 119 v) (x := (h1, .inr (1, [.int 0, .int 0, .int 0, .int 0, .null, .null, .null]))) (w1 := fun (u : Nat → Nat) => wH cy u) hP hD hS hA (va_runI (As := []) (rest := [.ref h1, .ref (ad 0)]) ⟨hx, hb, hml, hown, hts⟩ (c_X1_init l dC dI cy _ h1) (cwI 0 hts gX7_keep_X1_init rfl rfl rfl (hts (.initialized RX1) fwX7_keep_4) (hts (.methodLink RX7 11 yX1_init) fwX7_keep_6) (hts (.instanceMethod yX1_init) fwX7_keep_7) rfl (by decide +kernel) ⟨Nat.le_of_ble_eq_true rfl, Nat.le_of_ble_eq_true rfl⟩) (yt_pre hE hK hP hD) rfl rfl hl.1 rfl (lv_room (Nat.le_of_ble_eq_true rfl)) dX7_keep_12 ⟨Nat.le_of_ble_eq_true rfl, Nat.le_of_ble_eq_true rfl⟩) (fun uh H locs hw_u hP hD hS => ?_)
  have hP : va_P (dC, dI) vwCl ((wl ad .null cy 119 v) ++ wH cy uh) H := hP
  have hD : va_D A ((wl ad .null cy 119 v) ++ wH cy uh) := hD
  refine W.widen (k := 106) (n := 695) (by omega) (by omega) ?_
  have he0 : ((wl ad .null cy 119 v) ++ wH cy uh)[0]? = some (ad 0, .inr (7, [.ref (ad 13), .ref (ad 1), .ref (ad 10), .null, .int (v 0 4)])) := by rw [List.getElem?_append_left (by rw [wl_len]; decide)]; exact wl_at (by decide) (ce_0 (by decide))
  refine va_put (D := (dC, dI)) (ci := 7) (v := .ref h1) (ty := .object "QuietStairs$House") (C := RX7) (T := TX7) (N := 5) hx hb hts iwX7_keep_X7 tyX7 tyX7_ok nmX7 hown hK hP hD hS 0 he0 rfl 3 (by decide) (hts (.fieldLink RX7 30 "QuietStairs" "kept" "LQuietStairs$House;") fwX7_keep_1) (fun _ h9 => h9) rfl (by decide +kernel) rfl rfl (Nat.le_of_ble_eq_true rfl) dX7_keep_15 (fun H locs hP hD hS => ?_)
  obtain ⟨ad2, v2, al, vl, vh, hP, hD⟩ := keep_wl (k0 := h1) hw_u hP hD
  have hv2 : Iv v2 := Iv_k hv vl vh
  have a0 : ad2 0 = ad 0 := al 0 (by decide)
  rw [← a0] at hl
  refine lv_aload_n hx hb dX7_keep_18 rfl (lv_at hl 0 rfl) ?_
  refine va_get (D := (dC, dI)) (ci := 7) (v := .ref (ad2 119)) (C := RX7) (T := TX7) (N := 5) hx hb hts iwX7_keep_X7 hown hK hP (0) (wl_at (by omega) (ce_0 (by decide))) rfl 3 (by decide) (hts (.fieldLink RX7 30 "QuietStairs" "kept" "LQuietStairs$House;") fwX7_keep_1) (fun _ h9 => h9) rfl dX7_keep_19 ?_
  refine lv_aload_n hx hb dX7_keep_22 rfl (lv_at hl 0 rfl) ?_
  refine va_get (D := (dC, dI)) (ci := 7) (v := .ref (ad2 13)) (C := RX7) (T := TX7) (N := 5) hx hb hts iwX7_keep_X7 hown hK hP (0) (wl_at (by omega) (ce_0 (by decide))) rfl 0 (by decide) (hts (.fieldLink RX7 12 "QuietStairs" "now" "LQuietStairs$House;") fwX7_keep_5) (fun _ h9 => h9) rfl dX7_keep_23 ?_
  refine yw_v (w1 := fun (u : Nat → Nat → Int32) => wl ad2 (.ref (ad2 119)) cy 225 u) hD hS hA (va_runV (As := [.ref (ad2 13)]) (rest := []) ⟨hx, hb, hml, hown, hts⟩ (e_X1_copyFrom_b l dC dI cy _ ad2 (.ref (ad2 119)) 225 (by decide) v2 hv2 (by decide)) (cwV 1 hts gX7_keep_X1_copyFrom rfl rfl rfl hd_V_X1_copyFrom_1 ⟨Nat.le_of_ble_eq_true rfl, Nat.le_of_ble_eq_true rfl⟩) (yw_preV hE hK hP hD (ci := 1) (q0 := 119) rfl (wl_at (by omega) (ce_3 (by decide)))) rfl rfl hl.1 rfl (lv_room (Nat.le_of_ble_eq_true rfl)) dX7_keep_26 ⟨Nat.le_of_ble_eq_true rfl, Nat.le_of_ble_eq_true rfl⟩) (fun v3 H locs hw_3 hP hD hS => ?_)
  refine lv_iconst (v := 1) hx hb dX7_keep_29 (by decide) ?_
  refine W.widen (k := 106) (n := 695) (by omega) (by omega) ?_
  exact W.iret (v := 1) hx hb hr (fun t ht hW => ⟨⟨1, (ad2, v3), rfl, ⟨hw_3.1, a0, fun o j h => by have e1 := hw_3.2.1 o j (lvH_cg (fun k _ h2 => vl k (by omega)) h); have e2 : 13 + o < 119 := lvH_o h; rw [vl _ e2] at e1; exact e1, fun k h => (hw_3.2.2 k (Or.inl h)).trans (vl k h), rfl⟩, by rw [ht]; exact hP, hD⟩, hS.F ht⟩) hS.2.2 dX7_keep_30
