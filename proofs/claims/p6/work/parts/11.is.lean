set_option maxRecDepth 20000 in
theorem db_X7_isParty_0 : (decode cX7_isParty 0 = .ok (.iload_n 1, 1)) ∧ (decode cX7_isParty 1 = .ok (.iconst 0, 1)) ∧ (decode cX7_isParty 2 = .ok (.aload_n 0, 1)) ∧ (decode cX7_isParty 3 = .ok (.getfield 12, 3)) ∧ (decode cX7_isParty 6 = .ok (.getfield 41, 3)) ∧ (decode cX7_isParty 9 = .ok (.iconst 1, 1)) ∧ (decode cX7_isParty 10 = .ok (.isub, 1)) ∧ (decode cX7_isParty 11 = .ok (.invokestatic 37, 3)) := by decide +kernel
theorem dX7_isParty_0 : decode cX7_isParty 0 = .ok (.iload_n 1, 1) := db_X7_isParty_0.1
theorem dX7_isParty_1 : decode cX7_isParty 1 = .ok (.iconst 0, 1) := db_X7_isParty_0.2.1
theorem dX7_isParty_2 : decode cX7_isParty 2 = .ok (.aload_n 0, 1) := db_X7_isParty_0.2.2.1
theorem dX7_isParty_3 : decode cX7_isParty 3 = .ok (.getfield 12, 3) := db_X7_isParty_0.2.2.2.1
theorem dX7_isParty_6 : decode cX7_isParty 6 = .ok (.getfield 41, 3) := db_X7_isParty_0.2.2.2.2.1
theorem dX7_isParty_9 : decode cX7_isParty 9 = .ok (.iconst 1, 1) := db_X7_isParty_0.2.2.2.2.2.1
theorem dX7_isParty_10 : decode cX7_isParty 10 = .ok (.isub, 1) := db_X7_isParty_0.2.2.2.2.2.2.1
set_option maxRecDepth 20000 in
theorem ggX7_isParty_X7_isWithin : GoodIn wsX7_isParty wsX7_isWithin := goodIn_r _ [6] rfl (by decide +kernel)
set_option maxRecDepth 20000 in
theorem gX7_isParty_X7_isWithin : GoodIn wsX7_isParty (va_wsS RX7 37 yX7_isWithin wsX7_isWithin) := goodIn_app (goodIn_r _ [3, 4, 5] rfl (by decide +kernel)) ggX7_isParty_X7_isWithin
theorem dX7_isParty_11 : decode cX7_isParty 11 = .ok (.invokestatic 37, 3) := db_X7_isParty_0.2.2.2.2.2.2.2
theorem dX7_isParty_14 : decode cX7_isParty 14 = .ok (.ireturn, 1) := by decide +kernel
set_option maxRecDepth 20000 in
theorem db_X7_isMediator_0 : (decode cX7_isMediator 0 = .ok (.iload_n 1, 1)) ∧ (decode cX7_isMediator 1 = .ok (.iconst 0, 1)) ∧ (decode cX7_isMediator 2 = .ok (.aload_n 0, 1)) ∧ (decode cX7_isMediator 3 = .ok (.getfield 12, 3)) ∧ (decode cX7_isMediator 6 = .ok (.getfield 56, 3)) ∧ (decode cX7_isMediator 9 = .ok (.iconst 1, 1)) ∧ (decode cX7_isMediator 10 = .ok (.isub, 1)) ∧ (decode cX7_isMediator 11 = .ok (.invokestatic 37, 3)) := by decide +kernel
theorem dX7_isMediator_0 : decode cX7_isMediator 0 = .ok (.iload_n 1, 1) := db_X7_isMediator_0.1
theorem dX7_isMediator_1 : decode cX7_isMediator 1 = .ok (.iconst 0, 1) := db_X7_isMediator_0.2.1
theorem dX7_isMediator_2 : decode cX7_isMediator 2 = .ok (.aload_n 0, 1) := db_X7_isMediator_0.2.2.1
theorem dX7_isMediator_3 : decode cX7_isMediator 3 = .ok (.getfield 12, 3) := db_X7_isMediator_0.2.2.2.1
theorem dX7_isMediator_6 : decode cX7_isMediator 6 = .ok (.getfield 56, 3) := db_X7_isMediator_0.2.2.2.2.1
theorem dX7_isMediator_9 : decode cX7_isMediator 9 = .ok (.iconst 1, 1) := db_X7_isMediator_0.2.2.2.2.2.1
theorem dX7_isMediator_10 : decode cX7_isMediator 10 = .ok (.isub, 1) := db_X7_isMediator_0.2.2.2.2.2.2.1
set_option maxRecDepth 20000 in
theorem ggX7_isMediator_X7_isWithin : GoodIn wsX7_isMediator wsX7_isWithin := goodIn_r _ [6] rfl (by decide +kernel)
set_option maxRecDepth 20000 in
theorem gX7_isMediator_X7_isWithin : GoodIn wsX7_isMediator (va_wsS RX7 37 yX7_isWithin wsX7_isWithin) := goodIn_app (goodIn_r _ [3, 4, 5] rfl (by decide +kernel)) ggX7_isMediator_X7_isWithin
theorem dX7_isMediator_11 : decode cX7_isMediator 11 = .ok (.invokestatic 37, 3) := db_X7_isMediator_0.2.2.2.2.2.2.2
theorem dX7_isMediator_14 : decode cX7_isMediator 14 = .ok (.ireturn, 1) := by decide +kernel
set_option maxRecDepth 20000 in
theorem db_X7_isCase_0 : (decode cX7_isCase 0 = .ok (.iload_n 1, 1)) ∧ (decode cX7_isCase 1 = .ok (.iconst 0, 1)) ∧ (decode cX7_isCase 2 = .ok (.aload_n 0, 1)) ∧ (decode cX7_isCase 3 = .ok (.getfield 12, 3)) ∧ (decode cX7_isCase 6 = .ok (.getfield 83, 3)) ∧ (decode cX7_isCase 9 = .ok (.iconst 1, 1)) ∧ (decode cX7_isCase 10 = .ok (.isub, 1)) ∧ (decode cX7_isCase 11 = .ok (.invokestatic 37, 3)) := by decide +kernel
theorem dX7_isCase_0 : decode cX7_isCase 0 = .ok (.iload_n 1, 1) := db_X7_isCase_0.1
theorem dX7_isCase_1 : decode cX7_isCase 1 = .ok (.iconst 0, 1) := db_X7_isCase_0.2.1
theorem dX7_isCase_2 : decode cX7_isCase 2 = .ok (.aload_n 0, 1) := db_X7_isCase_0.2.2.1
theorem dX7_isCase_3 : decode cX7_isCase 3 = .ok (.getfield 12, 3) := db_X7_isCase_0.2.2.2.1
theorem dX7_isCase_6 : decode cX7_isCase 6 = .ok (.getfield 83, 3) := db_X7_isCase_0.2.2.2.2.1
theorem dX7_isCase_9 : decode cX7_isCase 9 = .ok (.iconst 1, 1) := db_X7_isCase_0.2.2.2.2.2.1
theorem dX7_isCase_10 : decode cX7_isCase 10 = .ok (.isub, 1) := db_X7_isCase_0.2.2.2.2.2.2.1
set_option maxRecDepth 20000 in
theorem ggX7_isCase_X7_isWithin : GoodIn wsX7_isCase wsX7_isWithin := goodIn_r _ [6] rfl (by decide +kernel)
set_option maxRecDepth 20000 in
theorem gX7_isCase_X7_isWithin : GoodIn wsX7_isCase (va_wsS RX7 37 yX7_isWithin wsX7_isWithin) := goodIn_app (goodIn_r _ [3, 4, 5] rfl (by decide +kernel)) ggX7_isCase_X7_isWithin
theorem dX7_isCase_11 : decode cX7_isCase 11 = .ok (.invokestatic 37, 3) := db_X7_isCase_0.2.2.2.2.2.2.2
theorem dX7_isCase_14 : decode cX7_isCase 14 = .ok (.ireturn, 1) := by decide +kernel
set_option maxHeartbeats 4000000 in
set_option maxRecDepth 100000 in
theorem g_X7_isParty (l : Launch) (dC : Nat → ClassId) (dI : Nat → Nat → Nat) (cy : Nat → ClassId) (sz : Nat) (ad : Nat → Nat) (kv : Value) (N : Nat) (hN : 119 ≤ N) (v : Nat → Nat → Int32) (hv : Iv v) (x : Int32) : Met l yX7_isParty wsX7_isParty ({ frames := 1, cells := 0, slots := 0, locals := 64 }) (va_Pc [.ref (ad 0), .int x] (ex_Pre dC dI cy sz (wl ad kv cy N v))) (va_Qi (fun (r : Int32) (u : Nat → Nat → Int32) => Iv u ∧ u = v ∧ ((r = 1 ∧ 0 ≤ x.toInt ∧ x.toInt < (u 13 0).toInt) ∨ (r = 0 ∧ ¬ (0 ≤ x.toInt ∧ x.toInt < (u 13 0).toInt)))) (fun u t => ex_Pst dC dI (va_A (wl ad kv cy N v) sz) (wl ad kv cy N u) t) (va_A (wl ad kv cy N v) sz)) 0 0 (va_A (wl ad kv cy N v) sz) := by
  refine Met.ofW (cc := cX7_isParty) (maxL := 2) (ret := (some .boolean)) (by decide) rfl ?_
  intro p e s m args below meth c s₁ B hml hv
  obtain ⟨rfl, hsz, hE, hP, hK, hD0⟩ := hv
  have hx := B.exec
  have hb := B.bytes
  have hr := B.returns
  have hts := atoms_spec (ws := wsX7_isParty) B.pre
  have hown : s.vm.findClass RX7 = some m.cls := findClass_of_methodNamed B.named
  have hlocks := B.notSynchronized
  subst hsz
  have hD := hD0.self (sz := s.heap.size)
  generalize hAe : va_A (wl ad kv cy N v) s.heap.size = A at hD ⊢
  have hA : ∀ q : Nat, s.heap.size ≤ q → A q := fun q h => by rw [← hAe]; exact Or.inr h
  have hS : va_S A s.heap s.heap [] := va_S.rf
  have hP : va_P (dC, dI) vwCl (wl ad kv cy N v) s.heap := hP
  have hl := lv_entry ([.ref (ad 0), .int x]) (n := 2) (Nat.le_of_ble_eq_true rfl)
  rw [lg_entry_eq]
  generalize (lg_sl ([.ref (ad 0), .int x]) ++ List.replicate (2 - (lg_sl ([.ref (ad 0), .int x])).length) Slot.unset).toArray = ls at hl ⊢
  have hl : lv_has ls 2 [(0, .ref (ad 0)), (1, .int x)] := hl
  have hfr : Fz v v := Fz.rf
  refine lv_iload_n hx hb dX7_isParty_0 rfl (lv_at hl 1 rfl) ?_
  refine lv_iconst (v := 0) hx hb dX7_isParty_1 (by decide) ?_
  refine lv_aload_n hx hb dX7_isParty_2 rfl (lv_at hl 0 rfl) ?_
  refine va_get (D := (dC, dI)) (ci := 7) (v := .ref (ad 13)) (C := RX7) (T := TX7) (N := 5) hx hb hts iwX7_isParty_X7 hown hK hP (0) (wl_at (by omega) (ce_0 (by decide))) rfl 0 (by decide) (hts (.fieldLink RX7 12 "QuietStairs" "now" "LQuietStairs$House;") fwX7_isParty_1) (fun _ h9 => h9) rfl dX7_isParty_3 ?_
  refine va_get (D := (dC, dI)) (ci := 1) (v := .int (v (13) 0)) (C := RX1) (T := TX1) (N := 7) hx hb hts iwX7_isParty_X1 hown hK hP (13) (wl_at (by omega) (ce_3 (by decide))) rfl 0 (by decide) (hts (.fieldLink RX7 41 "QuietStairs$House" "partyCount" "I") fwX7_isParty_2) (fun _ h9 => h9) rfl dX7_isParty_6 ?_
  refine lv_topi (fun x_1 ex_1 => ?_)
  have bx_1 : 0 ≤ x_1.toInt ∧ x_1.toInt ≤ 8 := by rw [ex_1]; exact hv.at (K := 3) (by decide) rfl
  refine lv_iconst (v := 1) hx hb dX7_isParty_9 (by decide) ?_
  have k_1 : (1 : Int32).toInt = 1 := by decide
  refine lv_isub hx hb dX7_isParty_10 ?_
  refine lv_topi (fun x_2 ex_2 => ?_)
  have tx_2 : x_2.toInt = x_1.toInt - (1 : Int32).toInt := by rw [ex_2]; exact t_sub ⟨by omega, by omega⟩
  refine yc_p hP hS (va_runS (As := [.int x, .int 0, .int x_2]) (rest := []) ⟨hx, hb, hml, hown, hts⟩ (c_X7_isWithin l x 0 x_2) (cwS 3 hts gX7_isParty_X7_isWithin rfl rfl rfl hd_S_X7_isWithin_3 ⟨Nat.le_of_ble_eq_true rfl, Nat.le_of_ble_eq_true rfl⟩) ex_preP rfl rfl hl.1 rfl (lv_room (Nat.le_of_ble_eq_true rfl)) dX7_isParty_11 ⟨Nat.le_of_ble_eq_true rfl, Nat.le_of_ble_eq_true rfl⟩) (fun r_3 H locs hw_3 hP hS => ?_)
  rcases wi_ca hw_3 with ⟨rfl, hc_4⟩ | ⟨rfl, hc_4⟩
  · have k_0 : (0 : Int32).toInt = 0 := by decide
    have tc_4 := wi_tl hc_4
    exact W.zret (ty := .boolean) (v := 1) hx hb hr rfl (fun t ht hW => ⟨⟨1, v, rfl, ⟨hv, rfl, Or.inl ⟨rfl, by omega, by rw [← ex_1]; omega⟩⟩, by rw [ht]; exact hP, hD⟩, hS.F ht⟩) hS.2.2 dX7_isParty_14
  · have k_0 : (0 : Int32).toInt = 0 := by decide
    exact W.zret (ty := .boolean) (v := 0) hx hb hr rfl (fun t ht hW => ⟨⟨0, v, rfl, ⟨hv, rfl, Or.inr ⟨rfl, fun q => hc_4 ⟨Int32.le_iff_toInt_le.mpr (by omega), Int32.le_iff_toInt_le.mpr (by rw [← ex_1] at q; omega)⟩⟩⟩, by rw [ht]; exact hP, hD⟩, hS.F ht⟩) hS.2.2 dX7_isParty_14

set_option maxHeartbeats 4000000 in
set_option maxRecDepth 100000 in
theorem g_X7_isMediator (l : Launch) (dC : Nat → ClassId) (dI : Nat → Nat → Nat) (cy : Nat → ClassId) (sz : Nat) (ad : Nat → Nat) (kv : Value) (N : Nat) (hN : 119 ≤ N) (v : Nat → Nat → Int32) (hv : Iv v) (x : Int32) : Met l yX7_isMediator wsX7_isMediator ({ frames := 1, cells := 0, slots := 0, locals := 64 }) (va_Pc [.ref (ad 0), .int x] (ex_Pre dC dI cy sz (wl ad kv cy N v))) (va_Qi (fun (r : Int32) (u : Nat → Nat → Int32) => Iv u ∧ u = v ∧ ((r = 1 ∧ 0 ≤ x.toInt ∧ x.toInt < (u 13 1).toInt) ∨ (r = 0 ∧ ¬ (0 ≤ x.toInt ∧ x.toInt < (u 13 1).toInt)))) (fun u t => ex_Pst dC dI (va_A (wl ad kv cy N v) sz) (wl ad kv cy N u) t) (va_A (wl ad kv cy N v) sz)) 0 0 (va_A (wl ad kv cy N v) sz) := by
  refine Met.ofW (cc := cX7_isMediator) (maxL := 2) (ret := (some .boolean)) (by decide) rfl ?_
  intro p e s m args below meth c s₁ B hml hv
  obtain ⟨rfl, hsz, hE, hP, hK, hD0⟩ := hv
  have hx := B.exec
  have hb := B.bytes
  have hr := B.returns
  have hts := atoms_spec (ws := wsX7_isMediator) B.pre
  have hown : s.vm.findClass RX7 = some m.cls := findClass_of_methodNamed B.named
  have hlocks := B.notSynchronized
  subst hsz
  have hD := hD0.self (sz := s.heap.size)
  generalize hAe : va_A (wl ad kv cy N v) s.heap.size = A at hD ⊢
  have hA : ∀ q : Nat, s.heap.size ≤ q → A q := fun q h => by rw [← hAe]; exact Or.inr h
  have hS : va_S A s.heap s.heap [] := va_S.rf
  have hP : va_P (dC, dI) vwCl (wl ad kv cy N v) s.heap := hP
  have hl := lv_entry ([.ref (ad 0), .int x]) (n := 2) (Nat.le_of_ble_eq_true rfl)
  rw [lg_entry_eq]
  generalize (lg_sl ([.ref (ad 0), .int x]) ++ List.replicate (2 - (lg_sl ([.ref (ad 0), .int x])).length) Slot.unset).toArray = ls at hl ⊢
  have hl : lv_has ls 2 [(0, .ref (ad 0)), (1, .int x)] := hl
  have hfr : Fz v v := Fz.rf
  refine lv_iload_n hx hb dX7_isMediator_0 rfl (lv_at hl 1 rfl) ?_
  refine lv_iconst (v := 0) hx hb dX7_isMediator_1 (by decide) ?_
  refine lv_aload_n hx hb dX7_isMediator_2 rfl (lv_at hl 0 rfl) ?_
  refine va_get (D := (dC, dI)) (ci := 7) (v := .ref (ad 13)) (C := RX7) (T := TX7) (N := 5) hx hb hts iwX7_isMediator_X7 hown hK hP (0) (wl_at (by omega) (ce_0 (by decide))) rfl 0 (by decide) (hts (.fieldLink RX7 12 "QuietStairs" "now" "LQuietStairs$House;") fwX7_isMediator_1) (fun _ h9 => h9) rfl dX7_isMediator_3 ?_
  refine va_get (D := (dC, dI)) (ci := 1) (v := .int (v (13) 1)) (C := RX1) (T := TX1) (N := 7) hx hb hts iwX7_isMediator_X1 hown hK hP (13) (wl_at (by omega) (ce_3 (by decide))) rfl 1 (by decide) (hts (.fieldLink RX7 56 "QuietStairs$House" "mediatorCount" "I") fwX7_isMediator_2) (fun _ h9 => h9) rfl dX7_isMediator_6 ?_
  refine lv_topi (fun x_1 ex_1 => ?_)
  have bx_1 : 0 ≤ x_1.toInt ∧ x_1.toInt ≤ 4 := by rw [ex_1]; exact hv.at (K := 3) (by decide) rfl
  refine lv_iconst (v := 1) hx hb dX7_isMediator_9 (by decide) ?_
  have k_1 : (1 : Int32).toInt = 1 := by decide
  refine lv_isub hx hb dX7_isMediator_10 ?_
  refine lv_topi (fun x_2 ex_2 => ?_)
  have tx_2 : x_2.toInt = x_1.toInt - (1 : Int32).toInt := by rw [ex_2]; exact t_sub ⟨by omega, by omega⟩
  refine yc_p hP hS (va_runS (As := [.int x, .int 0, .int x_2]) (rest := []) ⟨hx, hb, hml, hown, hts⟩ (c_X7_isWithin l x 0 x_2) (cwS 3 hts gX7_isMediator_X7_isWithin rfl rfl rfl hd_S_X7_isWithin_3 ⟨Nat.le_of_ble_eq_true rfl, Nat.le_of_ble_eq_true rfl⟩) ex_preP rfl rfl hl.1 rfl (lv_room (Nat.le_of_ble_eq_true rfl)) dX7_isMediator_11 ⟨Nat.le_of_ble_eq_true rfl, Nat.le_of_ble_eq_true rfl⟩) (fun r_3 H locs hw_3 hP hS => ?_)
  rcases wi_ca hw_3 with ⟨rfl, hc_4⟩ | ⟨rfl, hc_4⟩
  · have k_0 : (0 : Int32).toInt = 0 := by decide
    have tc_4 := wi_tl hc_4
    exact W.zret (ty := .boolean) (v := 1) hx hb hr rfl (fun t ht hW => ⟨⟨1, v, rfl, ⟨hv, rfl, Or.inl ⟨rfl, by omega, by rw [← ex_1]; omega⟩⟩, by rw [ht]; exact hP, hD⟩, hS.F ht⟩) hS.2.2 dX7_isMediator_14
  · have k_0 : (0 : Int32).toInt = 0 := by decide
    exact W.zret (ty := .boolean) (v := 0) hx hb hr rfl (fun t ht hW => ⟨⟨0, v, rfl, ⟨hv, rfl, Or.inr ⟨rfl, fun q => hc_4 ⟨Int32.le_iff_toInt_le.mpr (by omega), Int32.le_iff_toInt_le.mpr (by rw [← ex_1] at q; omega)⟩⟩⟩, by rw [ht]; exact hP, hD⟩, hS.F ht⟩) hS.2.2 dX7_isMediator_14

set_option maxHeartbeats 4000000 in
set_option maxRecDepth 100000 in
theorem g_X7_isCase (l : Launch) (dC : Nat → ClassId) (dI : Nat → Nat → Nat) (cy : Nat → ClassId) (sz : Nat) (ad : Nat → Nat) (kv : Value) (N : Nat) (hN : 119 ≤ N) (v : Nat → Nat → Int32) (hv : Iv v) (x : Int32) : Met l yX7_isCase wsX7_isCase ({ frames := 1, cells := 0, slots := 0, locals := 64 }) (va_Pc [.ref (ad 0), .int x] (ex_Pre dC dI cy sz (wl ad kv cy N v))) (va_Qi (fun (r : Int32) (u : Nat → Nat → Int32) => Iv u ∧ u = v ∧ ((r = 1 ∧ 0 ≤ x.toInt ∧ x.toInt < (u 13 2).toInt) ∨ (r = 0 ∧ ¬ (0 ≤ x.toInt ∧ x.toInt < (u 13 2).toInt)))) (fun u t => ex_Pst dC dI (va_A (wl ad kv cy N v) sz) (wl ad kv cy N u) t) (va_A (wl ad kv cy N v) sz)) 0 0 (va_A (wl ad kv cy N v) sz) := by
  refine Met.ofW (cc := cX7_isCase) (maxL := 2) (ret := (some .boolean)) (by decide) rfl ?_
  intro p e s m args below meth c s₁ B hml hv
  obtain ⟨rfl, hsz, hE, hP, hK, hD0⟩ := hv
  have hx := B.exec
  have hb := B.bytes
  have hr := B.returns
  have hts := atoms_spec (ws := wsX7_isCase) B.pre
  have hown : s.vm.findClass RX7 = some m.cls := findClass_of_methodNamed B.named
  have hlocks := B.notSynchronized
  subst hsz
  have hD := hD0.self (sz := s.heap.size)
  generalize hAe : va_A (wl ad kv cy N v) s.heap.size = A at hD ⊢
  have hA : ∀ q : Nat, s.heap.size ≤ q → A q := fun q h => by rw [← hAe]; exact Or.inr h
  have hS : va_S A s.heap s.heap [] := va_S.rf
  have hP : va_P (dC, dI) vwCl (wl ad kv cy N v) s.heap := hP
  have hl := lv_entry ([.ref (ad 0), .int x]) (n := 2) (Nat.le_of_ble_eq_true rfl)
  rw [lg_entry_eq]
  generalize (lg_sl ([.ref (ad 0), .int x]) ++ List.replicate (2 - (lg_sl ([.ref (ad 0), .int x])).length) Slot.unset).toArray = ls at hl ⊢
  have hl : lv_has ls 2 [(0, .ref (ad 0)), (1, .int x)] := hl
  have hfr : Fz v v := Fz.rf
  refine lv_iload_n hx hb dX7_isCase_0 rfl (lv_at hl 1 rfl) ?_
  refine lv_iconst (v := 0) hx hb dX7_isCase_1 (by decide) ?_
  refine lv_aload_n hx hb dX7_isCase_2 rfl (lv_at hl 0 rfl) ?_
  refine va_get (D := (dC, dI)) (ci := 7) (v := .ref (ad 13)) (C := RX7) (T := TX7) (N := 5) hx hb hts iwX7_isCase_X7 hown hK hP (0) (wl_at (by omega) (ce_0 (by decide))) rfl 0 (by decide) (hts (.fieldLink RX7 12 "QuietStairs" "now" "LQuietStairs$House;") fwX7_isCase_1) (fun _ h9 => h9) rfl dX7_isCase_3 ?_
  refine va_get (D := (dC, dI)) (ci := 1) (v := .int (v (13) 2)) (C := RX1) (T := TX1) (N := 7) hx hb hts iwX7_isCase_X1 hown hK hP (13) (wl_at (by omega) (ce_3 (by decide))) rfl 2 (by decide) (hts (.fieldLink RX7 83 "QuietStairs$House" "caseCount" "I") fwX7_isCase_2) (fun _ h9 => h9) rfl dX7_isCase_6 ?_
  refine lv_topi (fun x_1 ex_1 => ?_)
  have bx_1 : 0 ≤ x_1.toInt ∧ x_1.toInt ≤ 6 := by rw [ex_1]; exact hv.at (K := 3) (by decide) rfl
  refine lv_iconst (v := 1) hx hb dX7_isCase_9 (by decide) ?_
  have k_1 : (1 : Int32).toInt = 1 := by decide
  refine lv_isub hx hb dX7_isCase_10 ?_
  refine lv_topi (fun x_2 ex_2 => ?_)
  have tx_2 : x_2.toInt = x_1.toInt - (1 : Int32).toInt := by rw [ex_2]; exact t_sub ⟨by omega, by omega⟩
  refine yc_p hP hS (va_runS (As := [.int x, .int 0, .int x_2]) (rest := []) ⟨hx, hb, hml, hown, hts⟩ (c_X7_isWithin l x 0 x_2) (cwS 3 hts gX7_isCase_X7_isWithin rfl rfl rfl hd_S_X7_isWithin_3 ⟨Nat.le_of_ble_eq_true rfl, Nat.le_of_ble_eq_true rfl⟩) ex_preP rfl rfl hl.1 rfl (lv_room (Nat.le_of_ble_eq_true rfl)) dX7_isCase_11 ⟨Nat.le_of_ble_eq_true rfl, Nat.le_of_ble_eq_true rfl⟩) (fun r_3 H locs hw_3 hP hS => ?_)
  rcases wi_ca hw_3 with ⟨rfl, hc_4⟩ | ⟨rfl, hc_4⟩
  · have k_0 : (0 : Int32).toInt = 0 := by decide
    have tc_4 := wi_tl hc_4
    exact W.zret (ty := .boolean) (v := 1) hx hb hr rfl (fun t ht hW => ⟨⟨1, v, rfl, ⟨hv, rfl, Or.inl ⟨rfl, by omega, by rw [← ex_1]; omega⟩⟩, by rw [ht]; exact hP, hD⟩, hS.F ht⟩) hS.2.2 dX7_isCase_14
  · have k_0 : (0 : Int32).toInt = 0 := by decide
    exact W.zret (ty := .boolean) (v := 0) hx hb hr rfl (fun t ht hW => ⟨⟨0, v, rfl, ⟨hv, rfl, Or.inr ⟨rfl, fun q => hc_4 ⟨Int32.le_iff_toInt_le.mpr (by omega), Int32.le_iff_toInt_le.mpr (by rw [← ex_1] at q; omega)⟩⟩⟩, by rw [ht]; exact hP, hD⟩, hS.F ht⟩) hS.2.2 dX7_isCase_14
