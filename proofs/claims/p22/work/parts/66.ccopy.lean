set_option maxRecDepth 20000 in
theorem db_X3_copyFrom_0 : (decode cX3_copyFrom 0 = .ok (.aload_n 0, 1)) ∧ (decode cX3_copyFrom 1 = .ok (.aload_n 1, 1)) ∧ (decode cX3_copyFrom 2 = .ok (.getfield 7, 3)) ∧ (decode cX3_copyFrom 5 = .ok (.putfield 7, 3)) ∧ (decode cX3_copyFrom 8 = .ok (.aload_n 0, 1)) ∧ (decode cX3_copyFrom 9 = .ok (.aload_n 1, 1)) ∧ (decode cX3_copyFrom 10 = .ok (.getfield 13, 3)) ∧ (decode cX3_copyFrom 13 = .ok (.putfield 13, 3)) := by decide +kernel
theorem dX3_copyFrom_0 : decode cX3_copyFrom 0 = .ok (.aload_n 0, 1) := db_X3_copyFrom_0.1
theorem dX3_copyFrom_1 : decode cX3_copyFrom 1 = .ok (.aload_n 1, 1) := db_X3_copyFrom_0.2.1
theorem dX3_copyFrom_2 : decode cX3_copyFrom 2 = .ok (.getfield 7, 3) := db_X3_copyFrom_0.2.2.1
theorem dX3_copyFrom_5 : decode cX3_copyFrom 5 = .ok (.putfield 7, 3) := db_X3_copyFrom_0.2.2.2.1
theorem dX3_copyFrom_8 : decode cX3_copyFrom 8 = .ok (.aload_n 0, 1) := db_X3_copyFrom_0.2.2.2.2.1
theorem dX3_copyFrom_9 : decode cX3_copyFrom 9 = .ok (.aload_n 1, 1) := db_X3_copyFrom_0.2.2.2.2.2.1
theorem dX3_copyFrom_10 : decode cX3_copyFrom 10 = .ok (.getfield 13, 3) := db_X3_copyFrom_0.2.2.2.2.2.2.1
theorem dX3_copyFrom_13 : decode cX3_copyFrom 13 = .ok (.putfield 13, 3) := db_X3_copyFrom_0.2.2.2.2.2.2.2
theorem dX3_copyFrom_16 : decode cX3_copyFrom 16 = .ok (.return_, 1) := by decide +kernel
set_option maxRecDepth 20000 in
theorem db_X2_copyFrom_0 : (decode cX2_copyFrom 0 = .ok (.aload_n 0, 1)) ∧ (decode cX2_copyFrom 1 = .ok (.aload_n 1, 1)) ∧ (decode cX2_copyFrom 2 = .ok (.getfield 7, 3)) ∧ (decode cX2_copyFrom 5 = .ok (.putfield 7, 3)) ∧ (decode cX2_copyFrom 8 = .ok (.aload_n 0, 1)) ∧ (decode cX2_copyFrom 9 = .ok (.aload_n 1, 1)) ∧ (decode cX2_copyFrom 10 = .ok (.getfield 13, 3)) ∧ (decode cX2_copyFrom 13 = .ok (.putfield 13, 3)) := by decide +kernel
theorem dX2_copyFrom_0 : decode cX2_copyFrom 0 = .ok (.aload_n 0, 1) := db_X2_copyFrom_0.1
theorem dX2_copyFrom_1 : decode cX2_copyFrom 1 = .ok (.aload_n 1, 1) := db_X2_copyFrom_0.2.1
theorem dX2_copyFrom_2 : decode cX2_copyFrom 2 = .ok (.getfield 7, 3) := db_X2_copyFrom_0.2.2.1
theorem dX2_copyFrom_5 : decode cX2_copyFrom 5 = .ok (.putfield 7, 3) := db_X2_copyFrom_0.2.2.2.1
theorem dX2_copyFrom_8 : decode cX2_copyFrom 8 = .ok (.aload_n 0, 1) := db_X2_copyFrom_0.2.2.2.2.1
theorem dX2_copyFrom_9 : decode cX2_copyFrom 9 = .ok (.aload_n 1, 1) := db_X2_copyFrom_0.2.2.2.2.2.1
theorem dX2_copyFrom_10 : decode cX2_copyFrom 10 = .ok (.getfield 13, 3) := db_X2_copyFrom_0.2.2.2.2.2.2.1
theorem dX2_copyFrom_13 : decode cX2_copyFrom 13 = .ok (.putfield 13, 3) := db_X2_copyFrom_0.2.2.2.2.2.2.2
set_option maxRecDepth 20000 in
theorem db_X2_copyFrom_16 : (decode cX2_copyFrom 16 = .ok (.aload_n 0, 1)) ∧ (decode cX2_copyFrom 17 = .ok (.aload_n 1, 1)) ∧ (decode cX2_copyFrom 18 = .ok (.getfield 16, 3)) ∧ (decode cX2_copyFrom 21 = .ok (.putfield 16, 3)) ∧ (decode cX2_copyFrom 24 = .ok (.return_, 1)) := by decide +kernel
theorem dX2_copyFrom_16 : decode cX2_copyFrom 16 = .ok (.aload_n 0, 1) := db_X2_copyFrom_16.1
theorem dX2_copyFrom_17 : decode cX2_copyFrom 17 = .ok (.aload_n 1, 1) := db_X2_copyFrom_16.2.1
theorem dX2_copyFrom_18 : decode cX2_copyFrom 18 = .ok (.getfield 16, 3) := db_X2_copyFrom_16.2.2.1
theorem dX2_copyFrom_21 : decode cX2_copyFrom 21 = .ok (.putfield 16, 3) := db_X2_copyFrom_16.2.2.2.1
theorem dX2_copyFrom_24 : decode cX2_copyFrom 24 = .ok (.return_, 1) := db_X2_copyFrom_16.2.2.2.2
set_option maxRecDepth 20000 in
theorem db_X6_copyFrom_0 : (decode cX6_copyFrom 0 = .ok (.aload_n 0, 1)) ∧ (decode cX6_copyFrom 1 = .ok (.aload_n 1, 1)) ∧ (decode cX6_copyFrom 2 = .ok (.getfield 16, 3)) ∧ (decode cX6_copyFrom 5 = .ok (.putfield 16, 3)) ∧ (decode cX6_copyFrom 8 = .ok (.aload_n 0, 1)) ∧ (decode cX6_copyFrom 9 = .ok (.aload_n 1, 1)) ∧ (decode cX6_copyFrom 10 = .ok (.getfield 19, 3)) ∧ (decode cX6_copyFrom 13 = .ok (.putfield 19, 3)) := by decide +kernel
theorem dX6_copyFrom_0 : decode cX6_copyFrom 0 = .ok (.aload_n 0, 1) := db_X6_copyFrom_0.1
theorem dX6_copyFrom_1 : decode cX6_copyFrom 1 = .ok (.aload_n 1, 1) := db_X6_copyFrom_0.2.1
theorem dX6_copyFrom_2 : decode cX6_copyFrom 2 = .ok (.getfield 16, 3) := db_X6_copyFrom_0.2.2.1
theorem dX6_copyFrom_5 : decode cX6_copyFrom 5 = .ok (.putfield 16, 3) := db_X6_copyFrom_0.2.2.2.1
theorem dX6_copyFrom_8 : decode cX6_copyFrom 8 = .ok (.aload_n 0, 1) := db_X6_copyFrom_0.2.2.2.2.1
theorem dX6_copyFrom_9 : decode cX6_copyFrom 9 = .ok (.aload_n 1, 1) := db_X6_copyFrom_0.2.2.2.2.2.1
theorem dX6_copyFrom_10 : decode cX6_copyFrom 10 = .ok (.getfield 19, 3) := db_X6_copyFrom_0.2.2.2.2.2.2.1
theorem dX6_copyFrom_13 : decode cX6_copyFrom 13 = .ok (.putfield 19, 3) := db_X6_copyFrom_0.2.2.2.2.2.2.2
set_option maxRecDepth 20000 in
theorem db_X6_copyFrom_16 : (decode cX6_copyFrom 16 = .ok (.aload_n 0, 1)) ∧ (decode cX6_copyFrom 17 = .ok (.aload_n 1, 1)) ∧ (decode cX6_copyFrom 18 = .ok (.getfield 23, 3)) ∧ (decode cX6_copyFrom 21 = .ok (.putfield 23, 3)) ∧ (decode cX6_copyFrom 24 = .ok (.aload_n 0, 1)) ∧ (decode cX6_copyFrom 25 = .ok (.aload_n 1, 1)) ∧ (decode cX6_copyFrom 26 = .ok (.getfield 13, 3)) ∧ (decode cX6_copyFrom 29 = .ok (.putfield 13, 3)) := by decide +kernel
theorem dX6_copyFrom_16 : decode cX6_copyFrom 16 = .ok (.aload_n 0, 1) := db_X6_copyFrom_16.1
theorem dX6_copyFrom_17 : decode cX6_copyFrom 17 = .ok (.aload_n 1, 1) := db_X6_copyFrom_16.2.1
theorem dX6_copyFrom_18 : decode cX6_copyFrom 18 = .ok (.getfield 23, 3) := db_X6_copyFrom_16.2.2.1
theorem dX6_copyFrom_21 : decode cX6_copyFrom 21 = .ok (.putfield 23, 3) := db_X6_copyFrom_16.2.2.2.1
theorem dX6_copyFrom_24 : decode cX6_copyFrom 24 = .ok (.aload_n 0, 1) := db_X6_copyFrom_16.2.2.2.2.1
theorem dX6_copyFrom_25 : decode cX6_copyFrom 25 = .ok (.aload_n 1, 1) := db_X6_copyFrom_16.2.2.2.2.2.1
theorem dX6_copyFrom_26 : decode cX6_copyFrom 26 = .ok (.getfield 13, 3) := db_X6_copyFrom_16.2.2.2.2.2.2.1
theorem dX6_copyFrom_29 : decode cX6_copyFrom 29 = .ok (.putfield 13, 3) := db_X6_copyFrom_16.2.2.2.2.2.2.2
set_option maxRecDepth 20000 in
theorem db_X6_copyFrom_32 : (decode cX6_copyFrom 32 = .ok (.aload_n 0, 1)) ∧ (decode cX6_copyFrom 33 = .ok (.aload_n 1, 1)) ∧ (decode cX6_copyFrom 34 = .ok (.getfield 7, 3)) ∧ (decode cX6_copyFrom 37 = .ok (.putfield 7, 3)) ∧ (decode cX6_copyFrom 40 = .ok (.return_, 1)) := by decide +kernel
theorem dX6_copyFrom_32 : decode cX6_copyFrom 32 = .ok (.aload_n 0, 1) := db_X6_copyFrom_32.1
theorem dX6_copyFrom_33 : decode cX6_copyFrom 33 = .ok (.aload_n 1, 1) := db_X6_copyFrom_32.2.1
theorem dX6_copyFrom_34 : decode cX6_copyFrom 34 = .ok (.getfield 7, 3) := db_X6_copyFrom_32.2.2.1
theorem dX6_copyFrom_37 : decode cX6_copyFrom 37 = .ok (.putfield 7, 3) := db_X6_copyFrom_32.2.2.2.1
theorem dX6_copyFrom_40 : decode cX6_copyFrom 40 = .ok (.return_, 1) := db_X6_copyFrom_32.2.2.2.2
/-- a copied row, place by place -/
theorem up3 {v : Nat → Nat → Int32} {f : Nat → Int32} {k0 n : Nat} (k j : Nat) : upr v k0 (va_cpy f (v k0) (0 : Int32).toNatClampNeg (0 : Int32).toNatClampNeg n) k j = if k = k0 ∧ j < n then f j else v k j := by
  by_cases h : k = k0
  · subst h
    rw [upr_s]
    show (if 0 ≤ j ∧ j < 0 + n then f (0 + (j - 0)) else v k j) = _
    by_cases h2 : j < n
    · rw [if_pos ⟨Nat.zero_le j, by omega⟩, if_pos ⟨rfl, h2⟩, Nat.zero_add, Nat.sub_zero]
    · rw [if_neg (fun q => h2 (by omega)), if_neg (fun q => h2 q.2)]
  · rw [upr_n h, if_neg (fun q => h q.1)]
/-- what of a Case is in use, by its row of numbers -/
def lvC (r : Nat → Int32) (o j : Nat) : Prop := (o = 0 ∧ j < 6) ∨ (o = 1 ∧ j < 2) ∨ (o = 2 ∧ j < 2) ∨ ((o = 4 ∨ o = 5) ∧ (j : Int) < (r 2).toInt) ∨ ((o = 7 ∨ o = 8) ∧ j < 24) ∨ (10 ≤ o ∧ o < 15 ∧ (o : Int) < 10 + (r 5).toInt ∧ j < 5)
/-- what of a House is in use -/
def lvH (v : Nat → Nat → Int32) (B o j : Nat) : Prop := (o = 0 ∧ j < 4) ∨ (4 ≤ o ∧ o < 12 ∧ (o : Int) < 4 + (v B 0).toInt ∧ j < 2) ∨ (12 ≤ o ∧ o < 16 ∧ (o : Int) < 12 + (v B 1).toInt ∧ j < 3) ∨ (∃ c q : Nat, c < 6 ∧ (c : Int) < (v B 2).toInt ∧ o = 16 + 15 * c + q ∧ lvC (v (B + 16 + 15 * c)) q j)

set_option maxHeartbeats 4000000 in
set_option maxRecDepth 100000 in
theorem e_X3_copyFrom_a (l : Launch) (dC : Nat → ClassId) (dI : Nat → Nat → Nat) (cy : Nat → ClassId) (sz : Nat) (ad : Nat → Nat) (kv : Value) (N : Nat) (hN : 119 ≤ N) (v : Nat → Nat → Int32) (hv : Iv v) (i : Nat) (hi : i < 8) (hN2 : 225 ≤ N) : Met l yX3_copyFrom wsX3_copyFrom ({ frames := 0, cells := 0, slots := 0, locals := 0 }) (va_Pc [.ref (ad (17 + i)), .ref (ad (123 + i))] (ex_Pre dC dI cy sz (wl ad kv cy N v))) (va_Qv (fun (u : Nat → Nat → Int32) => Iv u ∧ (∀ k j : Nat, u k j = if k = 17 + i ∧ j < 2 then v (123 + i) j else v k j)) (fun u t => ex_Pst dC dI (va_A (wl ad kv cy N v) sz) (wl ad kv cy N u) t) (va_A (wl ad kv cy N v) sz)) 0 0 (va_A (wl ad kv cy N v) sz) := by
  refine Met.ofW (cc := cX3_copyFrom) (maxL := 2) (ret := none) (by decide) rfl ?_
  intro p e s m args below meth c s₁ B hml hv
  obtain ⟨rfl, hsz, hE, hP, hK, hD0⟩ := hv
  have hx := B.exec
  have hb := B.bytes
  have hr := B.returns
  have hts := atoms_spec (ws := wsX3_copyFrom) B.pre
  have hown : s.vm.findClass RX3 = some m.cls := findClass_of_methodNamed B.named
  have hlocks := B.notSynchronized
  subst hsz
  have hD := hD0.self (sz := s.heap.size)
  generalize hAe : va_A (wl ad kv cy N v) s.heap.size = A at hD ⊢
  have hA : ∀ q : Nat, s.heap.size ≤ q → A q := fun q h => by rw [← hAe]; exact Or.inr h
  have hS : va_S A s.heap s.heap [] := va_S.rf
  have hP : va_P (dC, dI) vwCl (wl ad kv cy N v) s.heap := hP
  have hl := lv_entry ([.ref (ad (17 + i)), .ref (ad (123 + i))]) (n := 2) (Nat.le_of_ble_eq_true rfl)
  rw [lg_entry_eq]
  generalize (lg_sl ([.ref (ad (17 + i)), .ref (ad (123 + i))]) ++ List.replicate (2 - (lg_sl ([.ref (ad (17 + i)), .ref (ad (123 + i))])).length) Slot.unset).toArray = ls at hl ⊢
  have hl : lv_has ls 2 [(0, .ref (ad (17 + i))), (1, .ref (ad (123 + i)))] := hl
  refine lv_aload_n hx hb dX3_copyFrom_0 rfl (lv_at hl 0 rfl) ?_
  refine lv_aload_n hx hb dX3_copyFrom_1 rfl (lv_at hl 1 rfl) ?_
  refine va_get (D := (dC, dI)) (ci := 3) (v := .int (v (123 + i) 0)) (C := RX3) (T := TX3) (N := 2) hx hb hts iwX3_copyFrom_X3 hown hK hP (123 + i) (wl_at (by omega) (ce_7 (kd_p _ hi).2)) rfl 0 (by decide) (hts (.fieldLink RX3 7 "QuietStairs$Party" "floor" "I") fwX3_copyFrom_1) (fun _ h9 => h9) rfl dX3_copyFrom_2 ?_
  refine lv_topi (fun x_1 ex_1 => ?_)
  have qx_1 : x_1.toInt = (v (123 + i) (0)).toInt := congrArg Int32.toInt ex_1
  refine va_put (D := (dC, dI)) (ci := 3) (v := .int x_1) (ty := .int) (C := RX3) (T := TX3) (N := 2) hx hb hts iwX3_copyFrom_X3 tyX3 tyX3_ok nmX3 hown hK hP hD hS (17 + i) (wl_at (by omega) (ce_7 (kd_p _ hi).1)) rfl 0 (by decide) (hts (.fieldLink RX3 7 "QuietStairs$Party" "floor" "I") fwX3_copyFrom_1) (fun _ h9 => h9) rfl (by decide +kernel) rfl rfl (Nat.le_of_ble_eq_true rfl) dX3_copyFrom_5 (fun H locs hP hD hS => ?_)
  obtain ⟨v_2, ev_2⟩ : ∃ u : Nat → Nat → Int32, u = upr v (17 + i) (upd (v (17 + i)) 0 x_1) := ⟨_, rfl⟩
  have hP : va_P (dC, dI) vwCl (wl ad kv cy N v_2) H := by rw [ev_2, ← wl_put (e := _) (ce_7 (kd_p _ hi).1)]; exact hP
  have hD : va_D A (wl ad kv cy N v_2) := by rw [ev_2, ← wl_put (e := _) (ce_7 (kd_p _ hi).1)]; exact hD
  have hv : Iv v_2 := by rw [ev_2]; exact hv.put (K := 7) (kd_p _ hi).1 (fun h q => by simp [bd] at q)
  refine lv_aload_n hx hb dX3_copyFrom_8 rfl (lv_at hl 0 rfl) ?_
  refine lv_aload_n hx hb dX3_copyFrom_9 rfl (lv_at hl 1 rfl) ?_
  refine va_get (D := (dC, dI)) (ci := 3) (v := .int (v_2 (123 + i) 1)) (C := RX3) (T := TX3) (N := 2) hx hb hts iwX3_copyFrom_X3 hown hK hP (123 + i) (wl_at (by omega) (ce_7 (kd_p _ hi).2)) rfl 1 (by decide) (hts (.fieldLink RX3 13 "QuietStairs$Party" "tongue" "I") fwX3_copyFrom_2) (fun _ h9 => h9) rfl dX3_copyFrom_10 ?_
  refine lv_topi (fun x_3 ex_3 => ?_)
  rw [ev_2, upr_n (by omega)] at ex_3
  have qx_3 : x_3.toInt = (v (123 + i) (1)).toInt := congrArg Int32.toInt ex_3
  refine va_put (D := (dC, dI)) (ci := 3) (v := .int x_3) (ty := .int) (C := RX3) (T := TX3) (N := 2) hx hb hts iwX3_copyFrom_X3 tyX3 tyX3_ok nmX3 hown hK hP hD hS (17 + i) (wl_at (by omega) (ce_7 (kd_p _ hi).1)) rfl 1 (by decide) (hts (.fieldLink RX3 13 "QuietStairs$Party" "tongue" "I") fwX3_copyFrom_2) (fun _ h9 => h9) rfl (by decide +kernel) rfl rfl (Nat.le_of_ble_eq_true rfl) dX3_copyFrom_13 (fun H locs hP hD hS => ?_)
  obtain ⟨v_4, ev_4⟩ : ∃ u : Nat → Nat → Int32, u = upr v_2 (17 + i) (upd (v_2 (17 + i)) 1 x_3) := ⟨_, rfl⟩
  have hP : va_P (dC, dI) vwCl (wl ad kv cy N v_4) H := by rw [ev_4, ← wl_put (e := _) (ce_7 (kd_p _ hi).1)]; exact hP
  have hD : va_D A (wl ad kv cy N v_4) := by rw [ev_4, ← wl_put (e := _) (ce_7 (kd_p _ hi).1)]; exact hD
  have hv : Iv v_4 := by rw [ev_4]; exact hv.put (K := 7) (kd_p _ hi).1 (fun h q => by simp [bd] at q)
  have hpost : ∀ k j : Nat, v_4 k j = if k = 17 + i ∧ j < 2 then v (123 + i) j else v k j := by
    intro k j
    rw [ev_4, up2, ev_2, up2, ex_3, ex_1]
    by_cases h : k = 17 + i ∧ j < 2
    · rw [if_pos h]
      obtain ⟨h1, h2⟩ := h
      subst h1
      rcases (show j = 0 ∨ j = 1 by omega) with rfl | rfl
      · rw [if_neg (by omega), if_pos ⟨rfl, rfl⟩]
      · rw [if_pos ⟨rfl, rfl⟩]
    · rw [if_neg h, if_neg (by omega), if_neg (by omega)]
  exact W.vret hx hb hr (fun t ht hW => ⟨⟨v_4, rfl, ⟨hv, hpost⟩, by rw [ht]; exact hP, hD⟩, hS.F ht⟩) hS.2.2 dX3_copyFrom_16

set_option maxHeartbeats 4000000 in
set_option maxRecDepth 100000 in
theorem e_X3_copyFrom_b (l : Launch) (dC : Nat → ClassId) (dI : Nat → Nat → Nat) (cy : Nat → ClassId) (sz : Nat) (ad : Nat → Nat) (kv : Value) (N : Nat) (hN : 119 ≤ N) (v : Nat → Nat → Int32) (hv : Iv v) (i : Nat) (hi : i < 8) (hN2 : 225 ≤ N) : Met l yX3_copyFrom wsX3_copyFrom ({ frames := 0, cells := 0, slots := 0, locals := 0 }) (va_Pc [.ref (ad (123 + i)), .ref (ad (17 + i))] (ex_Pre dC dI cy sz (wl ad kv cy N v))) (va_Qv (fun (u : Nat → Nat → Int32) => Iv u ∧ (∀ k j : Nat, u k j = if k = 123 + i ∧ j < 2 then v (17 + i) j else v k j)) (fun u t => ex_Pst dC dI (va_A (wl ad kv cy N v) sz) (wl ad kv cy N u) t) (va_A (wl ad kv cy N v) sz)) 0 0 (va_A (wl ad kv cy N v) sz) := by
  refine Met.ofW (cc := cX3_copyFrom) (maxL := 2) (ret := none) (by decide) rfl ?_
  intro p e s m args below meth c s₁ B hml hv
  obtain ⟨rfl, hsz, hE, hP, hK, hD0⟩ := hv
  have hx := B.exec
  have hb := B.bytes
  have hr := B.returns
  have hts := atoms_spec (ws := wsX3_copyFrom) B.pre
  have hown : s.vm.findClass RX3 = some m.cls := findClass_of_methodNamed B.named
  have hlocks := B.notSynchronized
  subst hsz
  have hD := hD0.self (sz := s.heap.size)
  generalize hAe : va_A (wl ad kv cy N v) s.heap.size = A at hD ⊢
  have hA : ∀ q : Nat, s.heap.size ≤ q → A q := fun q h => by rw [← hAe]; exact Or.inr h
  have hS : va_S A s.heap s.heap [] := va_S.rf
  have hP : va_P (dC, dI) vwCl (wl ad kv cy N v) s.heap := hP
  have hl := lv_entry ([.ref (ad (123 + i)), .ref (ad (17 + i))]) (n := 2) (Nat.le_of_ble_eq_true rfl)
  rw [lg_entry_eq]
  generalize (lg_sl ([.ref (ad (123 + i)), .ref (ad (17 + i))]) ++ List.replicate (2 - (lg_sl ([.ref (ad (123 + i)), .ref (ad (17 + i))])).length) Slot.unset).toArray = ls at hl ⊢
  have hl : lv_has ls 2 [(0, .ref (ad (123 + i))), (1, .ref (ad (17 + i)))] := hl
  refine lv_aload_n hx hb dX3_copyFrom_0 rfl (lv_at hl 0 rfl) ?_
  refine lv_aload_n hx hb dX3_copyFrom_1 rfl (lv_at hl 1 rfl) ?_
  refine va_get (D := (dC, dI)) (ci := 3) (v := .int (v (17 + i) 0)) (C := RX3) (T := TX3) (N := 2) hx hb hts iwX3_copyFrom_X3 hown hK hP (17 + i) (wl_at (by omega) (ce_7 (kd_p _ hi).1)) rfl 0 (by decide) (hts (.fieldLink RX3 7 "QuietStairs$Party" "floor" "I") fwX3_copyFrom_1) (fun _ h9 => h9) rfl dX3_copyFrom_2 ?_
  refine lv_topi (fun x_1 ex_1 => ?_)
  have qx_1 : x_1.toInt = (v (17 + i) (0)).toInt := congrArg Int32.toInt ex_1
  refine va_put (D := (dC, dI)) (ci := 3) (v := .int x_1) (ty := .int) (C := RX3) (T := TX3) (N := 2) hx hb hts iwX3_copyFrom_X3 tyX3 tyX3_ok nmX3 hown hK hP hD hS (123 + i) (wl_at (by omega) (ce_7 (kd_p _ hi).2)) rfl 0 (by decide) (hts (.fieldLink RX3 7 "QuietStairs$Party" "floor" "I") fwX3_copyFrom_1) (fun _ h9 => h9) rfl (by decide +kernel) rfl rfl (Nat.le_of_ble_eq_true rfl) dX3_copyFrom_5 (fun H locs hP hD hS => ?_)
  obtain ⟨v_2, ev_2⟩ : ∃ u : Nat → Nat → Int32, u = upr v (123 + i) (upd (v (123 + i)) 0 x_1) := ⟨_, rfl⟩
  have hP : va_P (dC, dI) vwCl (wl ad kv cy N v_2) H := by rw [ev_2, ← wl_put (e := _) (ce_7 (kd_p _ hi).2)]; exact hP
  have hD : va_D A (wl ad kv cy N v_2) := by rw [ev_2, ← wl_put (e := _) (ce_7 (kd_p _ hi).2)]; exact hD
  have hv : Iv v_2 := by rw [ev_2]; exact hv.put (K := 7) (kd_p _ hi).2 (fun h q => by simp [bd] at q)
  refine lv_aload_n hx hb dX3_copyFrom_8 rfl (lv_at hl 0 rfl) ?_
  refine lv_aload_n hx hb dX3_copyFrom_9 rfl (lv_at hl 1 rfl) ?_
  refine va_get (D := (dC, dI)) (ci := 3) (v := .int (v_2 (17 + i) 1)) (C := RX3) (T := TX3) (N := 2) hx hb hts iwX3_copyFrom_X3 hown hK hP (17 + i) (wl_at (by omega) (ce_7 (kd_p _ hi).1)) rfl 1 (by decide) (hts (.fieldLink RX3 13 "QuietStairs$Party" "tongue" "I") fwX3_copyFrom_2) (fun _ h9 => h9) rfl dX3_copyFrom_10 ?_
  refine lv_topi (fun x_3 ex_3 => ?_)
  rw [ev_2, upr_n (by omega)] at ex_3
  have qx_3 : x_3.toInt = (v (17 + i) (1)).toInt := congrArg Int32.toInt ex_3
  refine va_put (D := (dC, dI)) (ci := 3) (v := .int x_3) (ty := .int) (C := RX3) (T := TX3) (N := 2) hx hb hts iwX3_copyFrom_X3 tyX3 tyX3_ok nmX3 hown hK hP hD hS (123 + i) (wl_at (by omega) (ce_7 (kd_p _ hi).2)) rfl 1 (by decide) (hts (.fieldLink RX3 13 "QuietStairs$Party" "tongue" "I") fwX3_copyFrom_2) (fun _ h9 => h9) rfl (by decide +kernel) rfl rfl (Nat.le_of_ble_eq_true rfl) dX3_copyFrom_13 (fun H locs hP hD hS => ?_)
  obtain ⟨v_4, ev_4⟩ : ∃ u : Nat → Nat → Int32, u = upr v_2 (123 + i) (upd (v_2 (123 + i)) 1 x_3) := ⟨_, rfl⟩
  have hP : va_P (dC, dI) vwCl (wl ad kv cy N v_4) H := by rw [ev_4, ← wl_put (e := _) (ce_7 (kd_p _ hi).2)]; exact hP
  have hD : va_D A (wl ad kv cy N v_4) := by rw [ev_4, ← wl_put (e := _) (ce_7 (kd_p _ hi).2)]; exact hD
  have hv : Iv v_4 := by rw [ev_4]; exact hv.put (K := 7) (kd_p _ hi).2 (fun h q => by simp [bd] at q)
  have hpost : ∀ k j : Nat, v_4 k j = if k = 123 + i ∧ j < 2 then v (17 + i) j else v k j := by
    intro k j
    rw [ev_4, up2, ev_2, up2, ex_3, ex_1]
    by_cases h : k = 123 + i ∧ j < 2
    · rw [if_pos h]
      obtain ⟨h1, h2⟩ := h
      subst h1
      rcases (show j = 0 ∨ j = 1 by omega) with rfl | rfl
      · rw [if_neg (by omega), if_pos ⟨rfl, rfl⟩]
      · rw [if_pos ⟨rfl, rfl⟩]
    · rw [if_neg h, if_neg (by omega), if_neg (by omega)]
  exact W.vret hx hb hr (fun t ht hW => ⟨⟨v_4, rfl, ⟨hv, hpost⟩, by rw [ht]; exact hP, hD⟩, hS.F ht⟩) hS.2.2 dX3_copyFrom_16

set_option maxHeartbeats 4000000 in
set_option maxRecDepth 100000 in
theorem e_X2_copyFrom_a (l : Launch) (dC : Nat → ClassId) (dI : Nat → Nat → Nat) (cy : Nat → ClassId) (sz : Nat) (ad : Nat → Nat) (kv : Value) (N : Nat) (hN : 119 ≤ N) (v : Nat → Nat → Int32) (hv : Iv v) (i : Nat) (hi : i < 4) (hN2 : 225 ≤ N) : Met l yX2_copyFrom wsX2_copyFrom ({ frames := 0, cells := 0, slots := 0, locals := 0 }) (va_Pc [.ref (ad (25 + i)), .ref (ad (131 + i))] (ex_Pre dC dI cy sz (wl ad kv cy N v))) (va_Qv (fun (u : Nat → Nat → Int32) => Iv u ∧ (∀ k j : Nat, u k j = if k = 25 + i ∧ j < 3 then v (131 + i) j else v k j)) (fun u t => ex_Pst dC dI (va_A (wl ad kv cy N v) sz) (wl ad kv cy N u) t) (va_A (wl ad kv cy N v) sz)) 0 0 (va_A (wl ad kv cy N v) sz) := by
  refine Met.ofW (cc := cX2_copyFrom) (maxL := 2) (ret := none) (by decide) rfl ?_
  intro p e s m args below meth c s₁ B hml hv
  obtain ⟨rfl, hsz, hE, hP, hK, hD0⟩ := hv
  have hx := B.exec
  have hb := B.bytes
  have hr := B.returns
  have hts := atoms_spec (ws := wsX2_copyFrom) B.pre
  have hown : s.vm.findClass RX2 = some m.cls := findClass_of_methodNamed B.named
  have hlocks := B.notSynchronized
  subst hsz
  have hD := hD0.self (sz := s.heap.size)
  generalize hAe : va_A (wl ad kv cy N v) s.heap.size = A at hD ⊢
  have hA : ∀ q : Nat, s.heap.size ≤ q → A q := fun q h => by rw [← hAe]; exact Or.inr h
  have hS : va_S A s.heap s.heap [] := va_S.rf
  have hP : va_P (dC, dI) vwCl (wl ad kv cy N v) s.heap := hP
  have hl := lv_entry ([.ref (ad (25 + i)), .ref (ad (131 + i))]) (n := 2) (Nat.le_of_ble_eq_true rfl)
  rw [lg_entry_eq]
  generalize (lg_sl ([.ref (ad (25 + i)), .ref (ad (131 + i))]) ++ List.replicate (2 - (lg_sl ([.ref (ad (25 + i)), .ref (ad (131 + i))])).length) Slot.unset).toArray = ls at hl ⊢
  have hl : lv_has ls 2 [(0, .ref (ad (25 + i))), (1, .ref (ad (131 + i)))] := hl
  refine lv_aload_n hx hb dX2_copyFrom_0 rfl (lv_at hl 0 rfl) ?_
  refine lv_aload_n hx hb dX2_copyFrom_1 rfl (lv_at hl 1 rfl) ?_
  refine va_get (D := (dC, dI)) (ci := 2) (v := .int (v (131 + i) 0)) (C := RX2) (T := TX2) (N := 3) hx hb hts iwX2_copyFrom_X2 hown hK hP (131 + i) (wl_at (by omega) (ce_8 (kd_m _ hi).2)) rfl 0 (by decide) (hts (.fieldLink RX2 7 "QuietStairs$Mediator" "floor" "I") fwX2_copyFrom_1) (fun _ h9 => h9) rfl dX2_copyFrom_2 ?_
  refine lv_topi (fun x_1 ex_1 => ?_)
  have qx_1 : x_1.toInt = (v (131 + i) (0)).toInt := congrArg Int32.toInt ex_1
  refine va_put (D := (dC, dI)) (ci := 2) (v := .int x_1) (ty := .int) (C := RX2) (T := TX2) (N := 3) hx hb hts iwX2_copyFrom_X2 tyX2 tyX2_ok nmX2 hown hK hP hD hS (25 + i) (wl_at (by omega) (ce_8 (kd_m _ hi).1)) rfl 0 (by decide) (hts (.fieldLink RX2 7 "QuietStairs$Mediator" "floor" "I") fwX2_copyFrom_1) (fun _ h9 => h9) rfl (by decide +kernel) rfl rfl (Nat.le_of_ble_eq_true rfl) dX2_copyFrom_5 (fun H locs hP hD hS => ?_)
  obtain ⟨v_2, ev_2⟩ : ∃ u : Nat → Nat → Int32, u = upr v (25 + i) (upd (v (25 + i)) 0 x_1) := ⟨_, rfl⟩
  have hP : va_P (dC, dI) vwCl (wl ad kv cy N v_2) H := by rw [ev_2, ← wl_put (e := _) (ce_8 (kd_m _ hi).1)]; exact hP
  have hD : va_D A (wl ad kv cy N v_2) := by rw [ev_2, ← wl_put (e := _) (ce_8 (kd_m _ hi).1)]; exact hD
  have hv : Iv v_2 := by rw [ev_2]; exact hv.put (K := 8) (kd_m _ hi).1 (fun h q => by simp [bd] at q)
  refine lv_aload_n hx hb dX2_copyFrom_8 rfl (lv_at hl 0 rfl) ?_
  refine lv_aload_n hx hb dX2_copyFrom_9 rfl (lv_at hl 1 rfl) ?_
  refine va_get (D := (dC, dI)) (ci := 2) (v := .int (v_2 (131 + i) 1)) (C := RX2) (T := TX2) (N := 3) hx hb hts iwX2_copyFrom_X2 hown hK hP (131 + i) (wl_at (by omega) (ce_8 (kd_m _ hi).2)) rfl 1 (by decide) (hts (.fieldLink RX2 13 "QuietStairs$Mediator" "tongues" "I") fwX2_copyFrom_2) (fun _ h9 => h9) rfl dX2_copyFrom_10 ?_
  refine lv_topi (fun x_3 ex_3 => ?_)
  rw [ev_2, upr_n (by omega)] at ex_3
  have qx_3 : x_3.toInt = (v (131 + i) (1)).toInt := congrArg Int32.toInt ex_3
  refine va_put (D := (dC, dI)) (ci := 2) (v := .int x_3) (ty := .int) (C := RX2) (T := TX2) (N := 3) hx hb hts iwX2_copyFrom_X2 tyX2 tyX2_ok nmX2 hown hK hP hD hS (25 + i) (wl_at (by omega) (ce_8 (kd_m _ hi).1)) rfl 1 (by decide) (hts (.fieldLink RX2 13 "QuietStairs$Mediator" "tongues" "I") fwX2_copyFrom_2) (fun _ h9 => h9) rfl (by decide +kernel) rfl rfl (Nat.le_of_ble_eq_true rfl) dX2_copyFrom_13 (fun H locs hP hD hS => ?_)
  obtain ⟨v_4, ev_4⟩ : ∃ u : Nat → Nat → Int32, u = upr v_2 (25 + i) (upd (v_2 (25 + i)) 1 x_3) := ⟨_, rfl⟩
  have hP : va_P (dC, dI) vwCl (wl ad kv cy N v_4) H := by rw [ev_4, ← wl_put (e := _) (ce_8 (kd_m _ hi).1)]; exact hP
  have hD : va_D A (wl ad kv cy N v_4) := by rw [ev_4, ← wl_put (e := _) (ce_8 (kd_m _ hi).1)]; exact hD
  have hv : Iv v_4 := by rw [ev_4]; exact hv.put (K := 8) (kd_m _ hi).1 (fun h q => by simp [bd] at q)
  refine lv_aload_n hx hb dX2_copyFrom_16 rfl (lv_at hl 0 rfl) ?_
  refine lv_aload_n hx hb dX2_copyFrom_17 rfl (lv_at hl 1 rfl) ?_
  refine va_get (D := (dC, dI)) (ci := 2) (v := .int (v_4 (131 + i) 2)) (C := RX2) (T := TX2) (N := 3) hx hb hts iwX2_copyFrom_X2 hown hK hP (131 + i) (wl_at (by omega) (ce_8 (kd_m _ hi).2)) rfl 2 (by decide) (hts (.fieldLink RX2 16 "QuietStairs$Mediator" "kinBits" "I") fwX2_copyFrom_3) (fun _ h9 => h9) rfl dX2_copyFrom_18 ?_
  refine lv_topi (fun x_5 ex_5 => ?_)
  rw [ev_4, upr_n (by omega), ev_2, upr_n (by omega)] at ex_5
  have qx_5 : x_5.toInt = (v (131 + i) (2)).toInt := congrArg Int32.toInt ex_5
  refine va_put (D := (dC, dI)) (ci := 2) (v := .int x_5) (ty := .int) (C := RX2) (T := TX2) (N := 3) hx hb hts iwX2_copyFrom_X2 tyX2 tyX2_ok nmX2 hown hK hP hD hS (25 + i) (wl_at (by omega) (ce_8 (kd_m _ hi).1)) rfl 2 (by decide) (hts (.fieldLink RX2 16 "QuietStairs$Mediator" "kinBits" "I") fwX2_copyFrom_3) (fun _ h9 => h9) rfl (by decide +kernel) rfl rfl (Nat.le_of_ble_eq_true rfl) dX2_copyFrom_21 (fun H locs hP hD hS => ?_)
  obtain ⟨v_6, ev_6⟩ : ∃ u : Nat → Nat → Int32, u = upr v_4 (25 + i) (upd (v_4 (25 + i)) 2 x_5) := ⟨_, rfl⟩
  have hP : va_P (dC, dI) vwCl (wl ad kv cy N v_6) H := by rw [ev_6, ← wl_put (e := _) (ce_8 (kd_m _ hi).1)]; exact hP
  have hD : va_D A (wl ad kv cy N v_6) := by rw [ev_6, ← wl_put (e := _) (ce_8 (kd_m _ hi).1)]; exact hD
  have hv : Iv v_6 := by rw [ev_6]; exact hv.put (K := 8) (kd_m _ hi).1 (fun h q => by simp [bd] at q)
  have hpost : ∀ k j : Nat, v_6 k j = if k = 25 + i ∧ j < 3 then v (131 + i) j else v k j := by
    intro k j
    rw [ev_6, up2, ev_4, up2, ev_2, up2, ex_5, ex_3, ex_1]
    by_cases h : k = 25 + i ∧ j < 3
    · rw [if_pos h]
      obtain ⟨h1, h2⟩ := h
      subst h1
      rcases (show j = 0 ∨ j = 1 ∨ j = 2 by omega) with rfl | rfl | rfl
      · rw [if_neg (by omega), if_neg (by omega), if_pos ⟨rfl, rfl⟩]
      · rw [if_neg (by omega), if_pos ⟨rfl, rfl⟩]
      · rw [if_pos ⟨rfl, rfl⟩]
    · rw [if_neg h, if_neg (by omega), if_neg (by omega), if_neg (by omega)]
  exact W.vret hx hb hr (fun t ht hW => ⟨⟨v_6, rfl, ⟨hv, hpost⟩, by rw [ht]; exact hP, hD⟩, hS.F ht⟩) hS.2.2 dX2_copyFrom_24

set_option maxHeartbeats 4000000 in
set_option maxRecDepth 100000 in
theorem e_X2_copyFrom_b (l : Launch) (dC : Nat → ClassId) (dI : Nat → Nat → Nat) (cy : Nat → ClassId) (sz : Nat) (ad : Nat → Nat) (kv : Value) (N : Nat) (hN : 119 ≤ N) (v : Nat → Nat → Int32) (hv : Iv v) (i : Nat) (hi : i < 4) (hN2 : 225 ≤ N) : Met l yX2_copyFrom wsX2_copyFrom ({ frames := 0, cells := 0, slots := 0, locals := 0 }) (va_Pc [.ref (ad (131 + i)), .ref (ad (25 + i))] (ex_Pre dC dI cy sz (wl ad kv cy N v))) (va_Qv (fun (u : Nat → Nat → Int32) => Iv u ∧ (∀ k j : Nat, u k j = if k = 131 + i ∧ j < 3 then v (25 + i) j else v k j)) (fun u t => ex_Pst dC dI (va_A (wl ad kv cy N v) sz) (wl ad kv cy N u) t) (va_A (wl ad kv cy N v) sz)) 0 0 (va_A (wl ad kv cy N v) sz) := by
  refine Met.ofW (cc := cX2_copyFrom) (maxL := 2) (ret := none) (by decide) rfl ?_
  intro p e s m args below meth c s₁ B hml hv
  obtain ⟨rfl, hsz, hE, hP, hK, hD0⟩ := hv
  have hx := B.exec
  have hb := B.bytes
  have hr := B.returns
  have hts := atoms_spec (ws := wsX2_copyFrom) B.pre
  have hown : s.vm.findClass RX2 = some m.cls := findClass_of_methodNamed B.named
  have hlocks := B.notSynchronized
  subst hsz
  have hD := hD0.self (sz := s.heap.size)
  generalize hAe : va_A (wl ad kv cy N v) s.heap.size = A at hD ⊢
  have hA : ∀ q : Nat, s.heap.size ≤ q → A q := fun q h => by rw [← hAe]; exact Or.inr h
  have hS : va_S A s.heap s.heap [] := va_S.rf
  have hP : va_P (dC, dI) vwCl (wl ad kv cy N v) s.heap := hP
  have hl := lv_entry ([.ref (ad (131 + i)), .ref (ad (25 + i))]) (n := 2) (Nat.le_of_ble_eq_true rfl)
  rw [lg_entry_eq]
  generalize (lg_sl ([.ref (ad (131 + i)), .ref (ad (25 + i))]) ++ List.replicate (2 - (lg_sl ([.ref (ad (131 + i)), .ref (ad (25 + i))])).length) Slot.unset).toArray = ls at hl ⊢
  have hl : lv_has ls 2 [(0, .ref (ad (131 + i))), (1, .ref (ad (25 + i)))] := hl
  refine lv_aload_n hx hb dX2_copyFrom_0 rfl (lv_at hl 0 rfl) ?_
  refine lv_aload_n hx hb dX2_copyFrom_1 rfl (lv_at hl 1 rfl) ?_
  refine va_get (D := (dC, dI)) (ci := 2) (v := .int (v (25 + i) 0)) (C := RX2) (T := TX2) (N := 3) hx hb hts iwX2_copyFrom_X2 hown hK hP (25 + i) (wl_at (by omega) (ce_8 (kd_m _ hi).1)) rfl 0 (by decide) (hts (.fieldLink RX2 7 "QuietStairs$Mediator" "floor" "I") fwX2_copyFrom_1) (fun _ h9 => h9) rfl dX2_copyFrom_2 ?_
  refine lv_topi (fun x_1 ex_1 => ?_)
  have qx_1 : x_1.toInt = (v (25 + i) (0)).toInt := congrArg Int32.toInt ex_1
  refine va_put (D := (dC, dI)) (ci := 2) (v := .int x_1) (ty := .int) (C := RX2) (T := TX2) (N := 3) hx hb hts iwX2_copyFrom_X2 tyX2 tyX2_ok nmX2 hown hK hP hD hS (131 + i) (wl_at (by omega) (ce_8 (kd_m _ hi).2)) rfl 0 (by decide) (hts (.fieldLink RX2 7 "QuietStairs$Mediator" "floor" "I") fwX2_copyFrom_1) (fun _ h9 => h9) rfl (by decide +kernel) rfl rfl (Nat.le_of_ble_eq_true rfl) dX2_copyFrom_5 (fun H locs hP hD hS => ?_)
  obtain ⟨v_2, ev_2⟩ : ∃ u : Nat → Nat → Int32, u = upr v (131 + i) (upd (v (131 + i)) 0 x_1) := ⟨_, rfl⟩
  have hP : va_P (dC, dI) vwCl (wl ad kv cy N v_2) H := by rw [ev_2, ← wl_put (e := _) (ce_8 (kd_m _ hi).2)]; exact hP
  have hD : va_D A (wl ad kv cy N v_2) := by rw [ev_2, ← wl_put (e := _) (ce_8 (kd_m _ hi).2)]; exact hD
  have hv : Iv v_2 := by rw [ev_2]; exact hv.put (K := 8) (kd_m _ hi).2 (fun h q => by simp [bd] at q)
  refine lv_aload_n hx hb dX2_copyFrom_8 rfl (lv_at hl 0 rfl) ?_
  refine lv_aload_n hx hb dX2_copyFrom_9 rfl (lv_at hl 1 rfl) ?_
  refine va_get (D := (dC, dI)) (ci := 2) (v := .int (v_2 (25 + i) 1)) (C := RX2) (T := TX2) (N := 3) hx hb hts iwX2_copyFrom_X2 hown hK hP (25 + i) (wl_at (by omega) (ce_8 (kd_m _ hi).1)) rfl 1 (by decide) (hts (.fieldLink RX2 13 "QuietStairs$Mediator" "tongues" "I") fwX2_copyFrom_2) (fun _ h9 => h9) rfl dX2_copyFrom_10 ?_
  refine lv_topi (fun x_3 ex_3 => ?_)
  rw [ev_2, upr_n (by omega)] at ex_3
  have qx_3 : x_3.toInt = (v (25 + i) (1)).toInt := congrArg Int32.toInt ex_3
  refine va_put (D := (dC, dI)) (ci := 2) (v := .int x_3) (ty := .int) (C := RX2) (T := TX2) (N := 3) hx hb hts iwX2_copyFrom_X2 tyX2 tyX2_ok nmX2 hown hK hP hD hS (131 + i) (wl_at (by omega) (ce_8 (kd_m _ hi).2)) rfl 1 (by decide) (hts (.fieldLink RX2 13 "QuietStairs$Mediator" "tongues" "I") fwX2_copyFrom_2) (fun _ h9 => h9) rfl (by decide +kernel) rfl rfl (Nat.le_of_ble_eq_true rfl) dX2_copyFrom_13 (fun H locs hP hD hS => ?_)
  obtain ⟨v_4, ev_4⟩ : ∃ u : Nat → Nat → Int32, u = upr v_2 (131 + i) (upd (v_2 (131 + i)) 1 x_3) := ⟨_, rfl⟩
  have hP : va_P (dC, dI) vwCl (wl ad kv cy N v_4) H := by rw [ev_4, ← wl_put (e := _) (ce_8 (kd_m _ hi).2)]; exact hP
  have hD : va_D A (wl ad kv cy N v_4) := by rw [ev_4, ← wl_put (e := _) (ce_8 (kd_m _ hi).2)]; exact hD
  have hv : Iv v_4 := by rw [ev_4]; exact hv.put (K := 8) (kd_m _ hi).2 (fun h q => by simp [bd] at q)
  refine lv_aload_n hx hb dX2_copyFrom_16 rfl (lv_at hl 0 rfl) ?_
  refine lv_aload_n hx hb dX2_copyFrom_17 rfl (lv_at hl 1 rfl) ?_
  refine va_get (D := (dC, dI)) (ci := 2) (v := .int (v_4 (25 + i) 2)) (C := RX2) (T := TX2) (N := 3) hx hb hts iwX2_copyFrom_X2 hown hK hP (25 + i) (wl_at (by omega) (ce_8 (kd_m _ hi).1)) rfl 2 (by decide) (hts (.fieldLink RX2 16 "QuietStairs$Mediator" "kinBits" "I") fwX2_copyFrom_3) (fun _ h9 => h9) rfl dX2_copyFrom_18 ?_
  refine lv_topi (fun x_5 ex_5 => ?_)
  rw [ev_4, upr_n (by omega), ev_2, upr_n (by omega)] at ex_5
  have qx_5 : x_5.toInt = (v (25 + i) (2)).toInt := congrArg Int32.toInt ex_5
  refine va_put (D := (dC, dI)) (ci := 2) (v := .int x_5) (ty := .int) (C := RX2) (T := TX2) (N := 3) hx hb hts iwX2_copyFrom_X2 tyX2 tyX2_ok nmX2 hown hK hP hD hS (131 + i) (wl_at (by omega) (ce_8 (kd_m _ hi).2)) rfl 2 (by decide) (hts (.fieldLink RX2 16 "QuietStairs$Mediator" "kinBits" "I") fwX2_copyFrom_3) (fun _ h9 => h9) rfl (by decide +kernel) rfl rfl (Nat.le_of_ble_eq_true rfl) dX2_copyFrom_21 (fun H locs hP hD hS => ?_)
  obtain ⟨v_6, ev_6⟩ : ∃ u : Nat → Nat → Int32, u = upr v_4 (131 + i) (upd (v_4 (131 + i)) 2 x_5) := ⟨_, rfl⟩
  have hP : va_P (dC, dI) vwCl (wl ad kv cy N v_6) H := by rw [ev_6, ← wl_put (e := _) (ce_8 (kd_m _ hi).2)]; exact hP
  have hD : va_D A (wl ad kv cy N v_6) := by rw [ev_6, ← wl_put (e := _) (ce_8 (kd_m _ hi).2)]; exact hD
  have hv : Iv v_6 := by rw [ev_6]; exact hv.put (K := 8) (kd_m _ hi).2 (fun h q => by simp [bd] at q)
  have hpost : ∀ k j : Nat, v_6 k j = if k = 131 + i ∧ j < 3 then v (25 + i) j else v k j := by
    intro k j
    rw [ev_6, up2, ev_4, up2, ev_2, up2, ex_5, ex_3, ex_1]
    by_cases h : k = 131 + i ∧ j < 3
    · rw [if_pos h]
      obtain ⟨h1, h2⟩ := h
      subst h1
      rcases (show j = 0 ∨ j = 1 ∨ j = 2 by omega) with rfl | rfl | rfl
      · rw [if_neg (by omega), if_neg (by omega), if_pos ⟨rfl, rfl⟩]
      · rw [if_neg (by omega), if_pos ⟨rfl, rfl⟩]
      · rw [if_pos ⟨rfl, rfl⟩]
    · rw [if_neg h, if_neg (by omega), if_neg (by omega), if_neg (by omega)]
  exact W.vret hx hb hr (fun t ht hW => ⟨⟨v_6, rfl, ⟨hv, hpost⟩, by rw [ht]; exact hP, hD⟩, hS.F ht⟩) hS.2.2 dX2_copyFrom_24

set_option maxHeartbeats 4000000 in
set_option maxRecDepth 100000 in
theorem e_X6_copyFrom_a (l : Launch) (dC : Nat → ClassId) (dI : Nat → Nat → Nat) (cy : Nat → ClassId) (sz : Nat) (ad : Nat → Nat) (kv : Value) (N : Nat) (hN : 119 ≤ N) (v : Nat → Nat → Int32) (hv : Iv v) (i : Nat) (hi : i < 6) (t : Nat) (ht : t < 5) (hN2 : 225 ≤ N) : Met l yX6_copyFrom wsX6_copyFrom ({ frames := 0, cells := 0, slots := 0, locals := 0 }) (va_Pc [.ref (ad (39 + 15 * i + t)), .ref (ad (145 + 15 * i + t))] (ex_Pre dC dI cy sz (wl ad kv cy N v))) (va_Qv (fun (u : Nat → Nat → Int32) => Iv u ∧ (∀ k j : Nat, u k j = if k = 39 + 15 * i + t ∧ j < 5 then v (145 + 15 * i + t) j else v k j)) (fun u t => ex_Pst dC dI (va_A (wl ad kv cy N v) sz) (wl ad kv cy N u) t) (va_A (wl ad kv cy N v) sz)) 0 0 (va_A (wl ad kv cy N v) sz) := by
  refine Met.ofW (cc := cX6_copyFrom) (maxL := 2) (ret := none) (by decide) rfl ?_
  intro p e s m args below meth c s₁ B hml hv
  obtain ⟨rfl, hsz, hE, hP, hK, hD0⟩ := hv
  have hx := B.exec
  have hb := B.bytes
  have hr := B.returns
  have hts := atoms_spec (ws := wsX6_copyFrom) B.pre
  have hown : s.vm.findClass RX6 = some m.cls := findClass_of_methodNamed B.named
  have hlocks := B.notSynchronized
  subst hsz
  have hD := hD0.self (sz := s.heap.size)
  generalize hAe : va_A (wl ad kv cy N v) s.heap.size = A at hD ⊢
  have hA : ∀ q : Nat, s.heap.size ≤ q → A q := fun q h => by rw [← hAe]; exact Or.inr h
  have hS : va_S A s.heap s.heap [] := va_S.rf
  have hP : va_P (dC, dI) vwCl (wl ad kv cy N v) s.heap := hP
  have hl := lv_entry ([.ref (ad (39 + 15 * i + t)), .ref (ad (145 + 15 * i + t))]) (n := 2) (Nat.le_of_ble_eq_true rfl)
  rw [lg_entry_eq]
  generalize (lg_sl ([.ref (ad (39 + 15 * i + t)), .ref (ad (145 + 15 * i + t))]) ++ List.replicate (2 - (lg_sl ([.ref (ad (39 + 15 * i + t)), .ref (ad (145 + 15 * i + t))])).length) Slot.unset).toArray = ls at hl ⊢
  have hl : lv_has ls 2 [(0, .ref (ad (39 + 15 * i + t))), (1, .ref (ad (145 + 15 * i + t)))] := hl
  refine lv_aload_n hx hb dX6_copyFrom_0 rfl (lv_at hl 0 rfl) ?_
  refine lv_aload_n hx hb dX6_copyFrom_1 rfl (lv_at hl 1 rfl) ?_
  refine va_get (D := (dC, dI)) (ci := 6) (v := .int (v (145 + 15 * i + t) 0)) (C := RX6) (T := TX6) (N := 5) hx hb hts iwX6_copyFrom_X6 hown hK hP (145 + 15 * i + t) (wl_at (by omega) (ce_16 (kd_t _ hi _ ht).2)) rfl 0 (by decide) (hts (.fieldLink RX6 16 "QuietStairs$Term" "side" "I") fwX6_copyFrom_1) (fun _ h9 => h9) rfl dX6_copyFrom_2 ?_
  refine lv_topi (fun x_1 ex_1 => ?_)
  have bzx_1 : 0 ≤ x_1.toInt ∧ x_1.toInt ≤ 1 := by rw [ex_1]; exact hv.at (K := 16) (kd_t _ hi _ ht).2 rfl
  have qx_1 : x_1.toInt = (v (145 + 15 * i + t) (0)).toInt := congrArg Int32.toInt ex_1
  refine va_put (D := (dC, dI)) (ci := 6) (v := .int x_1) (ty := .int) (C := RX6) (T := TX6) (N := 5) hx hb hts iwX6_copyFrom_X6 tyX6 tyX6_ok nmX6 hown hK hP hD hS (39 + 15 * i + t) (wl_at (by omega) (ce_16 (kd_t _ hi _ ht).1)) rfl 0 (by decide) (hts (.fieldLink RX6 16 "QuietStairs$Term" "side" "I") fwX6_copyFrom_1) (fun _ h9 => h9) rfl (by decide +kernel) rfl rfl (Nat.le_of_ble_eq_true rfl) dX6_copyFrom_5 (fun H locs hP hD hS => ?_)
  obtain ⟨v_2, ev_2⟩ : ∃ u : Nat → Nat → Int32, u = upr v (39 + 15 * i + t) (upd (v (39 + 15 * i + t)) 0 x_1) := ⟨_, rfl⟩
  have hP : va_P (dC, dI) vwCl (wl ad kv cy N v_2) H := by rw [ev_2, ← wl_put (e := _) (ce_16 (kd_t _ hi _ ht).1)]; exact hP
  have hD : va_D A (wl ad kv cy N v_2) := by rw [ev_2, ← wl_put (e := _) (ce_16 (kd_t _ hi _ ht).1)]; exact hD
  have hv : Iv v_2 := by rw [ev_2]; exact hv.put (K := 16) (kd_t _ hi _ ht).1 (fun h q => by cases q; exact ⟨by omega, by omega⟩)
  refine lv_aload_n hx hb dX6_copyFrom_8 rfl (lv_at hl 0 rfl) ?_
  refine lv_aload_n hx hb dX6_copyFrom_9 rfl (lv_at hl 1 rfl) ?_
  refine va_get (D := (dC, dI)) (ci := 6) (v := .int (v_2 (145 + 15 * i + t) 1)) (C := RX6) (T := TX6) (N := 5) hx hb hts iwX6_copyFrom_X6 hown hK hP (145 + 15 * i + t) (wl_at (by omega) (ce_16 (kd_t _ hi _ ht).2)) rfl 1 (by decide) (hts (.fieldLink RX6 19 "QuietStairs$Term" "must" "Z") fwX6_copyFrom_2) (fun _ h9 => h9) rfl dX6_copyFrom_10 ?_
  refine lv_topi (fun x_3 ex_3 => ?_)
  have bzx_3 : 0 ≤ x_3.toInt ∧ x_3.toInt ≤ 1 := by rw [ex_3]; exact hv.at (K := 16) (kd_t _ hi _ ht).2 rfl
  rw [ev_2, upr_n (by omega)] at ex_3
  have qx_3 : x_3.toInt = (v (145 + 15 * i + t) (1)).toInt := congrArg Int32.toInt ex_3
  refine va_put (D := (dC, dI)) (ci := 6) (v := .int x_3) (ty := .boolean) (C := RX6) (T := TX6) (N := 5) hx hb hts iwX6_copyFrom_X6 tyX6 tyX6_ok nmX6 hown hK hP hD hS (39 + 15 * i + t) (wl_at (by omega) (ce_16 (kd_t _ hi _ ht).1)) rfl 1 (by decide) (hts (.fieldLink RX6 19 "QuietStairs$Term" "must" "Z") fwX6_copyFrom_2) (fun _ h9 => h9) rfl (by decide +kernel) (by rcases t_bool (x := x_3) ⟨by omega, by omega⟩ with q | q <;> rw [q] <;> rfl) (by rcases t_bool (x := x_3) ⟨by omega, by omega⟩ with q | q <;> rw [q] <;> rfl) (Nat.le_of_ble_eq_true rfl) dX6_copyFrom_13 (fun H locs hP hD hS => ?_)
  obtain ⟨v_4, ev_4⟩ : ∃ u : Nat → Nat → Int32, u = upr v_2 (39 + 15 * i + t) (upd (v_2 (39 + 15 * i + t)) 1 x_3) := ⟨_, rfl⟩
  have hP : va_P (dC, dI) vwCl (wl ad kv cy N v_4) H := by rw [ev_4, ← wl_put (e := _) (ce_16 (kd_t _ hi _ ht).1)]; exact hP
  have hD : va_D A (wl ad kv cy N v_4) := by rw [ev_4, ← wl_put (e := _) (ce_16 (kd_t _ hi _ ht).1)]; exact hD
  have hv : Iv v_4 := by rw [ev_4]; exact hv.put (K := 16) (kd_t _ hi _ ht).1 (fun h q => by cases q; exact ⟨by omega, by omega⟩)
  refine lv_aload_n hx hb dX6_copyFrom_16 rfl (lv_at hl 0 rfl) ?_
  refine lv_aload_n hx hb dX6_copyFrom_17 rfl (lv_at hl 1 rfl) ?_
  refine va_get (D := (dC, dI)) (ci := 6) (v := .int (v_4 (145 + 15 * i + t) 2)) (C := RX6) (T := TX6) (N := 5) hx hb hts iwX6_copyFrom_X6 hown hK hP (145 + 15 * i + t) (wl_at (by omega) (ce_16 (kd_t _ hi _ ht).2)) rfl 2 (by decide) (hts (.fieldLink RX6 23 "QuietStairs$Term" "act" "I") fwX6_copyFrom_3) (fun _ h9 => h9) rfl dX6_copyFrom_18 ?_
  refine lv_topi (fun x_5 ex_5 => ?_)
  rw [ev_4, upr_n (by omega), ev_2, upr_n (by omega)] at ex_5
  have qx_5 : x_5.toInt = (v (145 + 15 * i + t) (2)).toInt := congrArg Int32.toInt ex_5
  refine va_put (D := (dC, dI)) (ci := 6) (v := .int x_5) (ty := .int) (C := RX6) (T := TX6) (N := 5) hx hb hts iwX6_copyFrom_X6 tyX6 tyX6_ok nmX6 hown hK hP hD hS (39 + 15 * i + t) (wl_at (by omega) (ce_16 (kd_t _ hi _ ht).1)) rfl 2 (by decide) (hts (.fieldLink RX6 23 "QuietStairs$Term" "act" "I") fwX6_copyFrom_3) (fun _ h9 => h9) rfl (by decide +kernel) rfl rfl (Nat.le_of_ble_eq_true rfl) dX6_copyFrom_21 (fun H locs hP hD hS => ?_)
  obtain ⟨v_6, ev_6⟩ : ∃ u : Nat → Nat → Int32, u = upr v_4 (39 + 15 * i + t) (upd (v_4 (39 + 15 * i + t)) 2 x_5) := ⟨_, rfl⟩
  have hP : va_P (dC, dI) vwCl (wl ad kv cy N v_6) H := by rw [ev_6, ← wl_put (e := _) (ce_16 (kd_t _ hi _ ht).1)]; exact hP
  have hD : va_D A (wl ad kv cy N v_6) := by rw [ev_6, ← wl_put (e := _) (ce_16 (kd_t _ hi _ ht).1)]; exact hD
  have hv : Iv v_6 := by rw [ev_6]; exact hv.put (K := 16) (kd_t _ hi _ ht).1 (fun h q => by simp [bd] at q)
  refine lv_aload_n hx hb dX6_copyFrom_24 rfl (lv_at hl 0 rfl) ?_
  refine lv_aload_n hx hb dX6_copyFrom_25 rfl (lv_at hl 1 rfl) ?_
  refine va_get (D := (dC, dI)) (ci := 6) (v := .int (v_6 (145 + 15 * i + t) 3)) (C := RX6) (T := TX6) (N := 5) hx hb hts iwX6_copyFrom_X6 hown hK hP (145 + 15 * i + t) (wl_at (by omega) (ce_16 (kd_t _ hi _ ht).2)) rfl 3 (by decide) (hts (.fieldLink RX6 13 "QuietStairs$Term" "first" "I") fwX6_copyFrom_4) (fun _ h9 => h9) rfl dX6_copyFrom_26 ?_
  refine lv_topi (fun x_7 ex_7 => ?_)
  have bzx_7 : 0 ≤ x_7.toInt ∧ x_7.toInt ≤ 23 := by rw [ex_7]; exact hv.at (K := 16) (kd_t _ hi _ ht).2 rfl
  rw [ev_6, upr_n (by omega), ev_4, upr_n (by omega), ev_2, upr_n (by omega)] at ex_7
  have qx_7 : x_7.toInt = (v (145 + 15 * i + t) (3)).toInt := congrArg Int32.toInt ex_7
  refine va_put (D := (dC, dI)) (ci := 6) (v := .int x_7) (ty := .int) (C := RX6) (T := TX6) (N := 5) hx hb hts iwX6_copyFrom_X6 tyX6 tyX6_ok nmX6 hown hK hP hD hS (39 + 15 * i + t) (wl_at (by omega) (ce_16 (kd_t _ hi _ ht).1)) rfl 3 (by decide) (hts (.fieldLink RX6 13 "QuietStairs$Term" "first" "I") fwX6_copyFrom_4) (fun _ h9 => h9) rfl (by decide +kernel) rfl rfl (Nat.le_of_ble_eq_true rfl) dX6_copyFrom_29 (fun H locs hP hD hS => ?_)
  obtain ⟨v_8, ev_8⟩ : ∃ u : Nat → Nat → Int32, u = upr v_6 (39 + 15 * i + t) (upd (v_6 (39 + 15 * i + t)) 3 x_7) := ⟨_, rfl⟩
  have hP : va_P (dC, dI) vwCl (wl ad kv cy N v_8) H := by rw [ev_8, ← wl_put (e := _) (ce_16 (kd_t _ hi _ ht).1)]; exact hP
  have hD : va_D A (wl ad kv cy N v_8) := by rw [ev_8, ← wl_put (e := _) (ce_16 (kd_t _ hi _ ht).1)]; exact hD
  have hv : Iv v_8 := by rw [ev_8]; exact hv.put (K := 16) (kd_t _ hi _ ht).1 (fun h q => by cases q; exact ⟨by omega, by omega⟩)
  refine lv_aload_n hx hb dX6_copyFrom_32 rfl (lv_at hl 0 rfl) ?_
  refine lv_aload_n hx hb dX6_copyFrom_33 rfl (lv_at hl 1 rfl) ?_
  refine va_get (D := (dC, dI)) (ci := 6) (v := .int (v_8 (145 + 15 * i + t) 4)) (C := RX6) (T := TX6) (N := 5) hx hb hts iwX6_copyFrom_X6 hown hK hP (145 + 15 * i + t) (wl_at (by omega) (ce_16 (kd_t _ hi _ ht).2)) rfl 4 (by decide) (hts (.fieldLink RX6 7 "QuietStairs$Term" "last" "I") fwX6_copyFrom_5) (fun _ h9 => h9) rfl dX6_copyFrom_34 ?_
  refine lv_topi (fun x_9 ex_9 => ?_)
  have bzx_9 : 0 ≤ x_9.toInt ∧ x_9.toInt ≤ 23 := by rw [ex_9]; exact hv.at (K := 16) (kd_t _ hi _ ht).2 rfl
  rw [ev_8, upr_n (by omega), ev_6, upr_n (by omega), ev_4, upr_n (by omega), ev_2, upr_n (by omega)] at ex_9
  have qx_9 : x_9.toInt = (v (145 + 15 * i + t) (4)).toInt := congrArg Int32.toInt ex_9
  refine va_put (D := (dC, dI)) (ci := 6) (v := .int x_9) (ty := .int) (C := RX6) (T := TX6) (N := 5) hx hb hts iwX6_copyFrom_X6 tyX6 tyX6_ok nmX6 hown hK hP hD hS (39 + 15 * i + t) (wl_at (by omega) (ce_16 (kd_t _ hi _ ht).1)) rfl 4 (by decide) (hts (.fieldLink RX6 7 "QuietStairs$Term" "last" "I") fwX6_copyFrom_5) (fun _ h9 => h9) rfl (by decide +kernel) rfl rfl (Nat.le_of_ble_eq_true rfl) dX6_copyFrom_37 (fun H locs hP hD hS => ?_)
  obtain ⟨v_10, ev_10⟩ : ∃ u : Nat → Nat → Int32, u = upr v_8 (39 + 15 * i + t) (upd (v_8 (39 + 15 * i + t)) 4 x_9) := ⟨_, rfl⟩
  have hP : va_P (dC, dI) vwCl (wl ad kv cy N v_10) H := by rw [ev_10, ← wl_put (e := _) (ce_16 (kd_t _ hi _ ht).1)]; exact hP
  have hD : va_D A (wl ad kv cy N v_10) := by rw [ev_10, ← wl_put (e := _) (ce_16 (kd_t _ hi _ ht).1)]; exact hD
  have hv : Iv v_10 := by rw [ev_10]; exact hv.put (K := 16) (kd_t _ hi _ ht).1 (fun h q => by cases q; exact ⟨by omega, by omega⟩)
  have hpost : ∀ k j : Nat, v_10 k j = if k = 39 + 15 * i + t ∧ j < 5 then v (145 + 15 * i + t) j else v k j := by
    intro k j
    rw [ev_10, up2, ev_8, up2, ev_6, up2, ev_4, up2, ev_2, up2, ex_9, ex_7, ex_5, ex_3, ex_1]
    by_cases h : k = 39 + 15 * i + t ∧ j < 5
    · rw [if_pos h]
      obtain ⟨h1, h2⟩ := h
      subst h1
      rcases (show j = 0 ∨ j = 1 ∨ j = 2 ∨ j = 3 ∨ j = 4 by omega) with rfl | rfl | rfl | rfl | rfl
      · rw [if_neg (by omega), if_neg (by omega), if_neg (by omega), if_neg (by omega), if_pos ⟨rfl, rfl⟩]
      · rw [if_neg (by omega), if_neg (by omega), if_neg (by omega), if_pos ⟨rfl, rfl⟩]
      · rw [if_neg (by omega), if_neg (by omega), if_pos ⟨rfl, rfl⟩]
      · rw [if_neg (by omega), if_pos ⟨rfl, rfl⟩]
      · rw [if_pos ⟨rfl, rfl⟩]
    · rw [if_neg h, if_neg (by omega), if_neg (by omega), if_neg (by omega), if_neg (by omega), if_neg (by omega)]
  exact W.vret hx hb hr (fun t ht hW => ⟨⟨v_10, rfl, ⟨hv, hpost⟩, by rw [ht]; exact hP, hD⟩, hS.F ht⟩) hS.2.2 dX6_copyFrom_40

set_option maxHeartbeats 4000000 in
set_option maxRecDepth 100000 in
theorem e_X6_copyFrom_b (l : Launch) (dC : Nat → ClassId) (dI : Nat → Nat → Nat) (cy : Nat → ClassId) (sz : Nat) (ad : Nat → Nat) (kv : Value) (N : Nat) (hN : 119 ≤ N) (v : Nat → Nat → Int32) (hv : Iv v) (i : Nat) (hi : i < 6) (t : Nat) (ht : t < 5) (hN2 : 225 ≤ N) : Met l yX6_copyFrom wsX6_copyFrom ({ frames := 0, cells := 0, slots := 0, locals := 0 }) (va_Pc [.ref (ad (145 + 15 * i + t)), .ref (ad (39 + 15 * i + t))] (ex_Pre dC dI cy sz (wl ad kv cy N v))) (va_Qv (fun (u : Nat → Nat → Int32) => Iv u ∧ (∀ k j : Nat, u k j = if k = 145 + 15 * i + t ∧ j < 5 then v (39 + 15 * i + t) j else v k j)) (fun u t => ex_Pst dC dI (va_A (wl ad kv cy N v) sz) (wl ad kv cy N u) t) (va_A (wl ad kv cy N v) sz)) 0 0 (va_A (wl ad kv cy N v) sz) := by
  refine Met.ofW (cc := cX6_copyFrom) (maxL := 2) (ret := none) (by decide) rfl ?_
  intro p e s m args below meth c s₁ B hml hv
  obtain ⟨rfl, hsz, hE, hP, hK, hD0⟩ := hv
  have hx := B.exec
  have hb := B.bytes
  have hr := B.returns
  have hts := atoms_spec (ws := wsX6_copyFrom) B.pre
  have hown : s.vm.findClass RX6 = some m.cls := findClass_of_methodNamed B.named
  have hlocks := B.notSynchronized
  subst hsz
  have hD := hD0.self (sz := s.heap.size)
  generalize hAe : va_A (wl ad kv cy N v) s.heap.size = A at hD ⊢
  have hA : ∀ q : Nat, s.heap.size ≤ q → A q := fun q h => by rw [← hAe]; exact Or.inr h
  have hS : va_S A s.heap s.heap [] := va_S.rf
  have hP : va_P (dC, dI) vwCl (wl ad kv cy N v) s.heap := hP
  have hl := lv_entry ([.ref (ad (145 + 15 * i + t)), .ref (ad (39 + 15 * i + t))]) (n := 2) (Nat.le_of_ble_eq_true rfl)
  rw [lg_entry_eq]
  generalize (lg_sl ([.ref (ad (145 + 15 * i + t)), .ref (ad (39 + 15 * i + t))]) ++ List.replicate (2 - (lg_sl ([.ref (ad (145 + 15 * i + t)), .ref (ad (39 + 15 * i + t))])).length) Slot.unset).toArray = ls at hl ⊢
  have hl : lv_has ls 2 [(0, .ref (ad (145 + 15 * i + t))), (1, .ref (ad (39 + 15 * i + t)))] := hl
  refine lv_aload_n hx hb dX6_copyFrom_0 rfl (lv_at hl 0 rfl) ?_
  refine lv_aload_n hx hb dX6_copyFrom_1 rfl (lv_at hl 1 rfl) ?_
  refine va_get (D := (dC, dI)) (ci := 6) (v := .int (v (39 + 15 * i + t) 0)) (C := RX6) (T := TX6) (N := 5) hx hb hts iwX6_copyFrom_X6 hown hK hP (39 + 15 * i + t) (wl_at (by omega) (ce_16 (kd_t _ hi _ ht).1)) rfl 0 (by decide) (hts (.fieldLink RX6 16 "QuietStairs$Term" "side" "I") fwX6_copyFrom_1) (fun _ h9 => h9) rfl dX6_copyFrom_2 ?_
  refine lv_topi (fun x_1 ex_1 => ?_)
  have bzx_1 : 0 ≤ x_1.toInt ∧ x_1.toInt ≤ 1 := by rw [ex_1]; exact hv.at (K := 16) (kd_t _ hi _ ht).1 rfl
  have qx_1 : x_1.toInt = (v (39 + 15 * i + t) (0)).toInt := congrArg Int32.toInt ex_1
  refine va_put (D := (dC, dI)) (ci := 6) (v := .int x_1) (ty := .int) (C := RX6) (T := TX6) (N := 5) hx hb hts iwX6_copyFrom_X6 tyX6 tyX6_ok nmX6 hown hK hP hD hS (145 + 15 * i + t) (wl_at (by omega) (ce_16 (kd_t _ hi _ ht).2)) rfl 0 (by decide) (hts (.fieldLink RX6 16 "QuietStairs$Term" "side" "I") fwX6_copyFrom_1) (fun _ h9 => h9) rfl (by decide +kernel) rfl rfl (Nat.le_of_ble_eq_true rfl) dX6_copyFrom_5 (fun H locs hP hD hS => ?_)
  obtain ⟨v_2, ev_2⟩ : ∃ u : Nat → Nat → Int32, u = upr v (145 + 15 * i + t) (upd (v (145 + 15 * i + t)) 0 x_1) := ⟨_, rfl⟩
  have hP : va_P (dC, dI) vwCl (wl ad kv cy N v_2) H := by rw [ev_2, ← wl_put (e := _) (ce_16 (kd_t _ hi _ ht).2)]; exact hP
  have hD : va_D A (wl ad kv cy N v_2) := by rw [ev_2, ← wl_put (e := _) (ce_16 (kd_t _ hi _ ht).2)]; exact hD
  have hv : Iv v_2 := by rw [ev_2]; exact hv.put (K := 16) (kd_t _ hi _ ht).2 (fun h q => by cases q; exact ⟨by omega, by omega⟩)
  refine lv_aload_n hx hb dX6_copyFrom_8 rfl (lv_at hl 0 rfl) ?_
  refine lv_aload_n hx hb dX6_copyFrom_9 rfl (lv_at hl 1 rfl) ?_
  refine va_get (D := (dC, dI)) (ci := 6) (v := .int (v_2 (39 + 15 * i + t) 1)) (C := RX6) (T := TX6) (N := 5) hx hb hts iwX6_copyFrom_X6 hown hK hP (39 + 15 * i + t) (wl_at (by omega) (ce_16 (kd_t _ hi _ ht).1)) rfl 1 (by decide) (hts (.fieldLink RX6 19 "QuietStairs$Term" "must" "Z") fwX6_copyFrom_2) (fun _ h9 => h9) rfl dX6_copyFrom_10 ?_
  refine lv_topi (fun x_3 ex_3 => ?_)
  have bzx_3 : 0 ≤ x_3.toInt ∧ x_3.toInt ≤ 1 := by rw [ex_3]; exact hv.at (K := 16) (kd_t _ hi _ ht).1 rfl
  rw [ev_2, upr_n (by omega)] at ex_3
  have qx_3 : x_3.toInt = (v (39 + 15 * i + t) (1)).toInt := congrArg Int32.toInt ex_3
  refine va_put (D := (dC, dI)) (ci := 6) (v := .int x_3) (ty := .boolean) (C := RX6) (T := TX6) (N := 5) hx hb hts iwX6_copyFrom_X6 tyX6 tyX6_ok nmX6 hown hK hP hD hS (145 + 15 * i + t) (wl_at (by omega) (ce_16 (kd_t _ hi _ ht).2)) rfl 1 (by decide) (hts (.fieldLink RX6 19 "QuietStairs$Term" "must" "Z") fwX6_copyFrom_2) (fun _ h9 => h9) rfl (by decide +kernel) (by rcases t_bool (x := x_3) ⟨by omega, by omega⟩ with q | q <;> rw [q] <;> rfl) (by rcases t_bool (x := x_3) ⟨by omega, by omega⟩ with q | q <;> rw [q] <;> rfl) (Nat.le_of_ble_eq_true rfl) dX6_copyFrom_13 (fun H locs hP hD hS => ?_)
  obtain ⟨v_4, ev_4⟩ : ∃ u : Nat → Nat → Int32, u = upr v_2 (145 + 15 * i + t) (upd (v_2 (145 + 15 * i + t)) 1 x_3) := ⟨_, rfl⟩
  have hP : va_P (dC, dI) vwCl (wl ad kv cy N v_4) H := by rw [ev_4, ← wl_put (e := _) (ce_16 (kd_t _ hi _ ht).2)]; exact hP
  have hD : va_D A (wl ad kv cy N v_4) := by rw [ev_4, ← wl_put (e := _) (ce_16 (kd_t _ hi _ ht).2)]; exact hD
  have hv : Iv v_4 := by rw [ev_4]; exact hv.put (K := 16) (kd_t _ hi _ ht).2 (fun h q => by cases q; exact ⟨by omega, by omega⟩)
  refine lv_aload_n hx hb dX6_copyFrom_16 rfl (lv_at hl 0 rfl) ?_
  refine lv_aload_n hx hb dX6_copyFrom_17 rfl (lv_at hl 1 rfl) ?_
  refine va_get (D := (dC, dI)) (ci := 6) (v := .int (v_4 (39 + 15 * i + t) 2)) (C := RX6) (T := TX6) (N := 5) hx hb hts iwX6_copyFrom_X6 hown hK hP (39 + 15 * i + t) (wl_at (by omega) (ce_16 (kd_t _ hi _ ht).1)) rfl 2 (by decide) (hts (.fieldLink RX6 23 "QuietStairs$Term" "act" "I") fwX6_copyFrom_3) (fun _ h9 => h9) rfl dX6_copyFrom_18 ?_
  refine lv_topi (fun x_5 ex_5 => ?_)
  rw [ev_4, upr_n (by omega), ev_2, upr_n (by omega)] at ex_5
  have qx_5 : x_5.toInt = (v (39 + 15 * i + t) (2)).toInt := congrArg Int32.toInt ex_5
  refine va_put (D := (dC, dI)) (ci := 6) (v := .int x_5) (ty := .int) (C := RX6) (T := TX6) (N := 5) hx hb hts iwX6_copyFrom_X6 tyX6 tyX6_ok nmX6 hown hK hP hD hS (145 + 15 * i + t) (wl_at (by omega) (ce_16 (kd_t _ hi _ ht).2)) rfl 2 (by decide) (hts (.fieldLink RX6 23 "QuietStairs$Term" "act" "I") fwX6_copyFrom_3) (fun _ h9 => h9) rfl (by decide +kernel) rfl rfl (Nat.le_of_ble_eq_true rfl) dX6_copyFrom_21 (fun H locs hP hD hS => ?_)
  obtain ⟨v_6, ev_6⟩ : ∃ u : Nat → Nat → Int32, u = upr v_4 (145 + 15 * i + t) (upd (v_4 (145 + 15 * i + t)) 2 x_5) := ⟨_, rfl⟩
  have hP : va_P (dC, dI) vwCl (wl ad kv cy N v_6) H := by rw [ev_6, ← wl_put (e := _) (ce_16 (kd_t _ hi _ ht).2)]; exact hP
  have hD : va_D A (wl ad kv cy N v_6) := by rw [ev_6, ← wl_put (e := _) (ce_16 (kd_t _ hi _ ht).2)]; exact hD
  have hv : Iv v_6 := by rw [ev_6]; exact hv.put (K := 16) (kd_t _ hi _ ht).2 (fun h q => by simp [bd] at q)
  refine lv_aload_n hx hb dX6_copyFrom_24 rfl (lv_at hl 0 rfl) ?_
  refine lv_aload_n hx hb dX6_copyFrom_25 rfl (lv_at hl 1 rfl) ?_
  refine va_get (D := (dC, dI)) (ci := 6) (v := .int (v_6 (39 + 15 * i + t) 3)) (C := RX6) (T := TX6) (N := 5) hx hb hts iwX6_copyFrom_X6 hown hK hP (39 + 15 * i + t) (wl_at (by omega) (ce_16 (kd_t _ hi _ ht).1)) rfl 3 (by decide) (hts (.fieldLink RX6 13 "QuietStairs$Term" "first" "I") fwX6_copyFrom_4) (fun _ h9 => h9) rfl dX6_copyFrom_26 ?_
  refine lv_topi (fun x_7 ex_7 => ?_)
  have bzx_7 : 0 ≤ x_7.toInt ∧ x_7.toInt ≤ 23 := by rw [ex_7]; exact hv.at (K := 16) (kd_t _ hi _ ht).1 rfl
  rw [ev_6, upr_n (by omega), ev_4, upr_n (by omega), ev_2, upr_n (by omega)] at ex_7
  have qx_7 : x_7.toInt = (v (39 + 15 * i + t) (3)).toInt := congrArg Int32.toInt ex_7
  refine va_put (D := (dC, dI)) (ci := 6) (v := .int x_7) (ty := .int) (C := RX6) (T := TX6) (N := 5) hx hb hts iwX6_copyFrom_X6 tyX6 tyX6_ok nmX6 hown hK hP hD hS (145 + 15 * i + t) (wl_at (by omega) (ce_16 (kd_t _ hi _ ht).2)) rfl 3 (by decide) (hts (.fieldLink RX6 13 "QuietStairs$Term" "first" "I") fwX6_copyFrom_4) (fun _ h9 => h9) rfl (by decide +kernel) rfl rfl (Nat.le_of_ble_eq_true rfl) dX6_copyFrom_29 (fun H locs hP hD hS => ?_)
  obtain ⟨v_8, ev_8⟩ : ∃ u : Nat → Nat → Int32, u = upr v_6 (145 + 15 * i + t) (upd (v_6 (145 + 15 * i + t)) 3 x_7) := ⟨_, rfl⟩
  have hP : va_P (dC, dI) vwCl (wl ad kv cy N v_8) H := by rw [ev_8, ← wl_put (e := _) (ce_16 (kd_t _ hi _ ht).2)]; exact hP
  have hD : va_D A (wl ad kv cy N v_8) := by rw [ev_8, ← wl_put (e := _) (ce_16 (kd_t _ hi _ ht).2)]; exact hD
  have hv : Iv v_8 := by rw [ev_8]; exact hv.put (K := 16) (kd_t _ hi _ ht).2 (fun h q => by cases q; exact ⟨by omega, by omega⟩)
  refine lv_aload_n hx hb dX6_copyFrom_32 rfl (lv_at hl 0 rfl) ?_
  refine lv_aload_n hx hb dX6_copyFrom_33 rfl (lv_at hl 1 rfl) ?_
  refine va_get (D := (dC, dI)) (ci := 6) (v := .int (v_8 (39 + 15 * i + t) 4)) (C := RX6) (T := TX6) (N := 5) hx hb hts iwX6_copyFrom_X6 hown hK hP (39 + 15 * i + t) (wl_at (by omega) (ce_16 (kd_t _ hi _ ht).1)) rfl 4 (by decide) (hts (.fieldLink RX6 7 "QuietStairs$Term" "last" "I") fwX6_copyFrom_5) (fun _ h9 => h9) rfl dX6_copyFrom_34 ?_
  refine lv_topi (fun x_9 ex_9 => ?_)
  have bzx_9 : 0 ≤ x_9.toInt ∧ x_9.toInt ≤ 23 := by rw [ex_9]; exact hv.at (K := 16) (kd_t _ hi _ ht).1 rfl
  rw [ev_8, upr_n (by omega), ev_6, upr_n (by omega), ev_4, upr_n (by omega), ev_2, upr_n (by omega)] at ex_9
  have qx_9 : x_9.toInt = (v (39 + 15 * i + t) (4)).toInt := congrArg Int32.toInt ex_9
  refine va_put (D := (dC, dI)) (ci := 6) (v := .int x_9) (ty := .int) (C := RX6) (T := TX6) (N := 5) hx hb hts iwX6_copyFrom_X6 tyX6 tyX6_ok nmX6 hown hK hP hD hS (145 + 15 * i + t) (wl_at (by omega) (ce_16 (kd_t _ hi _ ht).2)) rfl 4 (by decide) (hts (.fieldLink RX6 7 "QuietStairs$Term" "last" "I") fwX6_copyFrom_5) (fun _ h9 => h9) rfl (by decide +kernel) rfl rfl (Nat.le_of_ble_eq_true rfl) dX6_copyFrom_37 (fun H locs hP hD hS => ?_)
  obtain ⟨v_10, ev_10⟩ : ∃ u : Nat → Nat → Int32, u = upr v_8 (145 + 15 * i + t) (upd (v_8 (145 + 15 * i + t)) 4 x_9) := ⟨_, rfl⟩
  have hP : va_P (dC, dI) vwCl (wl ad kv cy N v_10) H := by rw [ev_10, ← wl_put (e := _) (ce_16 (kd_t _ hi _ ht).2)]; exact hP
  have hD : va_D A (wl ad kv cy N v_10) := by rw [ev_10, ← wl_put (e := _) (ce_16 (kd_t _ hi _ ht).2)]; exact hD
  have hv : Iv v_10 := by rw [ev_10]; exact hv.put (K := 16) (kd_t _ hi _ ht).2 (fun h q => by cases q; exact ⟨by omega, by omega⟩)
  have hpost : ∀ k j : Nat, v_10 k j = if k = 145 + 15 * i + t ∧ j < 5 then v (39 + 15 * i + t) j else v k j := by
    intro k j
    rw [ev_10, up2, ev_8, up2, ev_6, up2, ev_4, up2, ev_2, up2, ex_9, ex_7, ex_5, ex_3, ex_1]
    by_cases h : k = 145 + 15 * i + t ∧ j < 5
    · rw [if_pos h]
      obtain ⟨h1, h2⟩ := h
      subst h1
      rcases (show j = 0 ∨ j = 1 ∨ j = 2 ∨ j = 3 ∨ j = 4 by omega) with rfl | rfl | rfl | rfl | rfl
      · rw [if_neg (by omega), if_neg (by omega), if_neg (by omega), if_neg (by omega), if_pos ⟨rfl, rfl⟩]
      · rw [if_neg (by omega), if_neg (by omega), if_neg (by omega), if_pos ⟨rfl, rfl⟩]
      · rw [if_neg (by omega), if_neg (by omega), if_pos ⟨rfl, rfl⟩]
      · rw [if_neg (by omega), if_pos ⟨rfl, rfl⟩]
      · rw [if_pos ⟨rfl, rfl⟩]
    · rw [if_neg h, if_neg (by omega), if_neg (by omega), if_neg (by omega), if_neg (by omega), if_neg (by omega)]
  exact W.vret hx hb hr (fun t ht hW => ⟨⟨v_10, rfl, ⟨hv, hpost⟩, by rw [ht]; exact hP, hD⟩, hS.F ht⟩) hS.2.2 dX6_copyFrom_40
set_option maxRecDepth 20000 in
theorem db_X0_copyFrom_0 : (decode cX0_copyFrom 0 = .ok (.aload_n 0, 1)) ∧ (decode cX0_copyFrom 1 = .ok (.aload_n 1, 1)) ∧ (decode cX0_copyFrom 2 = .ok (.getfield 33, 3)) ∧ (decode cX0_copyFrom 5 = .ok (.putfield 33, 3)) ∧ (decode cX0_copyFrom 8 = .ok (.aload_n 0, 1)) ∧ (decode cX0_copyFrom 9 = .ok (.aload_n 1, 1)) ∧ (decode cX0_copyFrom 10 = .ok (.getfield 37, 3)) ∧ (decode cX0_copyFrom 13 = .ok (.putfield 37, 3)) := by decide +kernel
theorem dX0_copyFrom_0 : decode cX0_copyFrom 0 = .ok (.aload_n 0, 1) := db_X0_copyFrom_0.1
theorem dX0_copyFrom_1 : decode cX0_copyFrom 1 = .ok (.aload_n 1, 1) := db_X0_copyFrom_0.2.1
theorem dX0_copyFrom_2 : decode cX0_copyFrom 2 = .ok (.getfield 33, 3) := db_X0_copyFrom_0.2.2.1
theorem dX0_copyFrom_5 : decode cX0_copyFrom 5 = .ok (.putfield 33, 3) := db_X0_copyFrom_0.2.2.2.1
theorem dX0_copyFrom_8 : decode cX0_copyFrom 8 = .ok (.aload_n 0, 1) := db_X0_copyFrom_0.2.2.2.2.1
theorem dX0_copyFrom_9 : decode cX0_copyFrom 9 = .ok (.aload_n 1, 1) := db_X0_copyFrom_0.2.2.2.2.2.1
theorem dX0_copyFrom_10 : decode cX0_copyFrom 10 = .ok (.getfield 37, 3) := db_X0_copyFrom_0.2.2.2.2.2.2.1
theorem dX0_copyFrom_13 : decode cX0_copyFrom 13 = .ok (.putfield 37, 3) := db_X0_copyFrom_0.2.2.2.2.2.2.2
set_option maxRecDepth 20000 in
theorem db_X0_copyFrom_16 : (decode cX0_copyFrom 16 = .ok (.aload_n 0, 1)) ∧ (decode cX0_copyFrom 17 = .ok (.aload_n 1, 1)) ∧ (decode cX0_copyFrom 18 = .ok (.getfield 40, 3)) ∧ (decode cX0_copyFrom 21 = .ok (.putfield 40, 3)) ∧ (decode cX0_copyFrom 24 = .ok (.aload_n 0, 1)) ∧ (decode cX0_copyFrom 25 = .ok (.aload_n 1, 1)) ∧ (decode cX0_copyFrom 26 = .ok (.getfield 43, 3)) ∧ (decode cX0_copyFrom 29 = .ok (.putfield 43, 3)) := by decide +kernel
theorem dX0_copyFrom_16 : decode cX0_copyFrom 16 = .ok (.aload_n 0, 1) := db_X0_copyFrom_16.1
theorem dX0_copyFrom_17 : decode cX0_copyFrom 17 = .ok (.aload_n 1, 1) := db_X0_copyFrom_16.2.1
theorem dX0_copyFrom_18 : decode cX0_copyFrom 18 = .ok (.getfield 40, 3) := db_X0_copyFrom_16.2.2.1
theorem dX0_copyFrom_21 : decode cX0_copyFrom 21 = .ok (.putfield 40, 3) := db_X0_copyFrom_16.2.2.2.1
theorem dX0_copyFrom_24 : decode cX0_copyFrom 24 = .ok (.aload_n 0, 1) := db_X0_copyFrom_16.2.2.2.2.1
theorem dX0_copyFrom_25 : decode cX0_copyFrom 25 = .ok (.aload_n 1, 1) := db_X0_copyFrom_16.2.2.2.2.2.1
theorem dX0_copyFrom_26 : decode cX0_copyFrom 26 = .ok (.getfield 43, 3) := db_X0_copyFrom_16.2.2.2.2.2.2.1
theorem dX0_copyFrom_29 : decode cX0_copyFrom 29 = .ok (.putfield 43, 3) := db_X0_copyFrom_16.2.2.2.2.2.2.2
set_option maxRecDepth 20000 in
theorem db_X0_copyFrom_32 : (decode cX0_copyFrom 32 = .ok (.aload_n 0, 1)) ∧ (decode cX0_copyFrom 33 = .ok (.aload_n 1, 1)) ∧ (decode cX0_copyFrom 34 = .ok (.getfield 46, 3)) ∧ (decode cX0_copyFrom 37 = .ok (.putfield 46, 3)) ∧ (decode cX0_copyFrom 40 = .ok (.aload_n 0, 1)) ∧ (decode cX0_copyFrom 41 = .ok (.aload_n 1, 1)) ∧ (decode cX0_copyFrom 42 = .ok (.getfield 49, 3)) ∧ (decode cX0_copyFrom 45 = .ok (.putfield 49, 3)) := by decide +kernel
theorem dX0_copyFrom_32 : decode cX0_copyFrom 32 = .ok (.aload_n 0, 1) := db_X0_copyFrom_32.1
theorem dX0_copyFrom_33 : decode cX0_copyFrom 33 = .ok (.aload_n 1, 1) := db_X0_copyFrom_32.2.1
theorem dX0_copyFrom_34 : decode cX0_copyFrom 34 = .ok (.getfield 46, 3) := db_X0_copyFrom_32.2.2.1
theorem dX0_copyFrom_37 : decode cX0_copyFrom 37 = .ok (.putfield 46, 3) := db_X0_copyFrom_32.2.2.2.1
theorem dX0_copyFrom_40 : decode cX0_copyFrom 40 = .ok (.aload_n 0, 1) := db_X0_copyFrom_32.2.2.2.2.1
theorem dX0_copyFrom_41 : decode cX0_copyFrom 41 = .ok (.aload_n 1, 1) := db_X0_copyFrom_32.2.2.2.2.2.1
theorem dX0_copyFrom_42 : decode cX0_copyFrom 42 = .ok (.getfield 49, 3) := db_X0_copyFrom_32.2.2.2.2.2.2.1
theorem dX0_copyFrom_45 : decode cX0_copyFrom 45 = .ok (.putfield 49, 3) := db_X0_copyFrom_32.2.2.2.2.2.2.2
set_option maxRecDepth 20000 in
theorem db_X0_copyFrom_48 : (decode cX0_copyFrom 48 = .ok (.iconst 0, 1)) ∧ (decode cX0_copyFrom 49 = .ok (.istore_n 2, 1)) ∧ (decode cX0_copyFrom 50 = .ok (.iload_n 2, 1)) ∧ (decode cX0_copyFrom 51 = .ok (.iconst 2, 1)) ∧ (decode cX0_copyFrom 52 = .ok (.if_icmp .ge 73, 3)) ∧ (decode cX0_copyFrom 55 = .ok (.aload_n 0, 1)) ∧ (decode cX0_copyFrom 56 = .ok (.getfield 9, 3)) ∧ (decode cX0_copyFrom 59 = .ok (.iload_n 2, 1)) := by decide +kernel
theorem dX0_copyFrom_48 : decode cX0_copyFrom 48 = .ok (.iconst 0, 1) := db_X0_copyFrom_48.1
theorem dX0_copyFrom_49 : decode cX0_copyFrom 49 = .ok (.istore_n 2, 1) := db_X0_copyFrom_48.2.1
theorem dX0_copyFrom_50 : decode cX0_copyFrom 50 = .ok (.iload_n 2, 1) := db_X0_copyFrom_48.2.2.1
theorem dX0_copyFrom_51 : decode cX0_copyFrom 51 = .ok (.iconst 2, 1) := db_X0_copyFrom_48.2.2.2.1
theorem dX0_copyFrom_52 : decode cX0_copyFrom 52 = .ok (.if_icmp .ge 73, 3) := db_X0_copyFrom_48.2.2.2.2.1
theorem dX0_copyFrom_55 : decode cX0_copyFrom 55 = .ok (.aload_n 0, 1) := db_X0_copyFrom_48.2.2.2.2.2.1
theorem dX0_copyFrom_56 : decode cX0_copyFrom 56 = .ok (.getfield 9, 3) := db_X0_copyFrom_48.2.2.2.2.2.2.1
theorem dX0_copyFrom_59 : decode cX0_copyFrom 59 = .ok (.iload_n 2, 1) := db_X0_copyFrom_48.2.2.2.2.2.2.2
set_option maxRecDepth 20000 in
theorem db_X0_copyFrom_60 : (decode cX0_copyFrom 60 = .ok (.aload_n 1, 1)) ∧ (decode cX0_copyFrom 61 = .ok (.getfield 9, 3)) ∧ (decode cX0_copyFrom 64 = .ok (.iload_n 2, 1)) ∧ (decode cX0_copyFrom 65 = .ok (.iaload, 1)) ∧ (decode cX0_copyFrom 66 = .ok (.iastore, 1)) ∧ (decode cX0_copyFrom 67 = .ok (.aload_n 0, 1)) ∧ (decode cX0_copyFrom 68 = .ok (.getfield 15, 3)) ∧ (decode cX0_copyFrom 71 = .ok (.iload_n 2, 1)) := by decide +kernel
theorem dX0_copyFrom_60 : decode cX0_copyFrom 60 = .ok (.aload_n 1, 1) := db_X0_copyFrom_60.1
theorem dX0_copyFrom_61 : decode cX0_copyFrom 61 = .ok (.getfield 9, 3) := db_X0_copyFrom_60.2.1
theorem dX0_copyFrom_64 : decode cX0_copyFrom 64 = .ok (.iload_n 2, 1) := db_X0_copyFrom_60.2.2.1
theorem dX0_copyFrom_65 : decode cX0_copyFrom 65 = .ok (.iaload, 1) := db_X0_copyFrom_60.2.2.2.1
theorem dX0_copyFrom_66 : decode cX0_copyFrom 66 = .ok (.iastore, 1) := db_X0_copyFrom_60.2.2.2.2.1
theorem dX0_copyFrom_67 : decode cX0_copyFrom 67 = .ok (.aload_n 0, 1) := db_X0_copyFrom_60.2.2.2.2.2.1
theorem dX0_copyFrom_68 : decode cX0_copyFrom 68 = .ok (.getfield 15, 3) := db_X0_copyFrom_60.2.2.2.2.2.2.1
theorem dX0_copyFrom_71 : decode cX0_copyFrom 71 = .ok (.iload_n 2, 1) := db_X0_copyFrom_60.2.2.2.2.2.2.2
set_option maxRecDepth 20000 in
theorem db_X0_copyFrom_72 : (decode cX0_copyFrom 72 = .ok (.aload_n 1, 1)) ∧ (decode cX0_copyFrom 73 = .ok (.getfield 15, 3)) ∧ (decode cX0_copyFrom 76 = .ok (.iload_n 2, 1)) ∧ (decode cX0_copyFrom 77 = .ok (.iaload, 1)) ∧ (decode cX0_copyFrom 78 = .ok (.iastore, 1)) ∧ (decode cX0_copyFrom 79 = .ok (.aload_n 1, 1)) ∧ (decode cX0_copyFrom 80 = .ok (.getfield 20, 3)) ∧ (decode cX0_copyFrom 83 = .ok (.iload_n 2, 1)) := by decide +kernel
theorem dX0_copyFrom_72 : decode cX0_copyFrom 72 = .ok (.aload_n 1, 1) := db_X0_copyFrom_72.1
theorem dX0_copyFrom_73 : decode cX0_copyFrom 73 = .ok (.getfield 15, 3) := db_X0_copyFrom_72.2.1
theorem dX0_copyFrom_76 : decode cX0_copyFrom 76 = .ok (.iload_n 2, 1) := db_X0_copyFrom_72.2.2.1
theorem dX0_copyFrom_77 : decode cX0_copyFrom 77 = .ok (.iaload, 1) := db_X0_copyFrom_72.2.2.2.1
theorem dX0_copyFrom_78 : decode cX0_copyFrom 78 = .ok (.iastore, 1) := db_X0_copyFrom_72.2.2.2.2.1
theorem dX0_copyFrom_79 : decode cX0_copyFrom 79 = .ok (.aload_n 1, 1) := db_X0_copyFrom_72.2.2.2.2.2.1
theorem dX0_copyFrom_80 : decode cX0_copyFrom 80 = .ok (.getfield 20, 3) := db_X0_copyFrom_72.2.2.2.2.2.2.1
theorem dX0_copyFrom_83 : decode cX0_copyFrom 83 = .ok (.iload_n 2, 1) := db_X0_copyFrom_72.2.2.2.2.2.2.2
set_option maxRecDepth 20000 in
theorem db_X0_copyFrom_84 : (decode cX0_copyFrom 84 = .ok (.aaload, 1)) ∧ (decode cX0_copyFrom 85 = .ok (.iconst 0, 1)) ∧ (decode cX0_copyFrom 86 = .ok (.aload_n 0, 1)) ∧ (decode cX0_copyFrom 87 = .ok (.getfield 20, 3)) ∧ (decode cX0_copyFrom 90 = .ok (.iload_n 2, 1)) ∧ (decode cX0_copyFrom 91 = .ok (.aaload, 1)) ∧ (decode cX0_copyFrom 92 = .ok (.iconst 0, 1)) ∧ (decode cX0_copyFrom 93 = .ok (.aload_n 0, 1)) := by decide +kernel
theorem dX0_copyFrom_84 : decode cX0_copyFrom 84 = .ok (.aaload, 1) := db_X0_copyFrom_84.1
theorem dX0_copyFrom_85 : decode cX0_copyFrom 85 = .ok (.iconst 0, 1) := db_X0_copyFrom_84.2.1
theorem dX0_copyFrom_86 : decode cX0_copyFrom 86 = .ok (.aload_n 0, 1) := db_X0_copyFrom_84.2.2.1
theorem dX0_copyFrom_87 : decode cX0_copyFrom 87 = .ok (.getfield 20, 3) := db_X0_copyFrom_84.2.2.2.1
theorem dX0_copyFrom_90 : decode cX0_copyFrom 90 = .ok (.iload_n 2, 1) := db_X0_copyFrom_84.2.2.2.2.1
theorem dX0_copyFrom_91 : decode cX0_copyFrom 91 = .ok (.aaload, 1) := db_X0_copyFrom_84.2.2.2.2.2.1
theorem dX0_copyFrom_92 : decode cX0_copyFrom 92 = .ok (.iconst 0, 1) := db_X0_copyFrom_84.2.2.2.2.2.2.1
theorem dX0_copyFrom_93 : decode cX0_copyFrom 93 = .ok (.aload_n 0, 1) := db_X0_copyFrom_84.2.2.2.2.2.2.2
set_option maxRecDepth 20000 in
theorem db_X0_copyFrom_94 : (decode cX0_copyFrom 94 = .ok (.getfield 40, 3)) ∧ (decode cX0_copyFrom 97 = .ok (.invokestatic 81, 3)) ∧ (decode cX0_copyFrom 100 = .ok (.aload_n 1, 1)) ∧ (decode cX0_copyFrom 101 = .ok (.getfield 23, 3)) ∧ (decode cX0_copyFrom 104 = .ok (.iload_n 2, 1)) ∧ (decode cX0_copyFrom 105 = .ok (.aaload, 1)) ∧ (decode cX0_copyFrom 106 = .ok (.iconst 0, 1)) ∧ (decode cX0_copyFrom 107 = .ok (.aload_n 0, 1)) := by decide +kernel
theorem dX0_copyFrom_94 : decode cX0_copyFrom 94 = .ok (.getfield 40, 3) := db_X0_copyFrom_94.1
theorem dX0_copyFrom_97 : decode cX0_copyFrom 97 = .ok (.invokestatic 81, 3) := db_X0_copyFrom_94.2.1
theorem dX0_copyFrom_100 : decode cX0_copyFrom 100 = .ok (.aload_n 1, 1) := db_X0_copyFrom_94.2.2.1
theorem dX0_copyFrom_101 : decode cX0_copyFrom 101 = .ok (.getfield 23, 3) := db_X0_copyFrom_94.2.2.2.1
theorem dX0_copyFrom_104 : decode cX0_copyFrom 104 = .ok (.iload_n 2, 1) := db_X0_copyFrom_94.2.2.2.2.1
theorem dX0_copyFrom_105 : decode cX0_copyFrom 105 = .ok (.aaload, 1) := db_X0_copyFrom_94.2.2.2.2.2.1
theorem dX0_copyFrom_106 : decode cX0_copyFrom 106 = .ok (.iconst 0, 1) := db_X0_copyFrom_94.2.2.2.2.2.2.1
theorem dX0_copyFrom_107 : decode cX0_copyFrom 107 = .ok (.aload_n 0, 1) := db_X0_copyFrom_94.2.2.2.2.2.2.2
set_option maxRecDepth 20000 in
theorem db_X0_copyFrom_108 : (decode cX0_copyFrom 108 = .ok (.getfield 23, 3)) ∧ (decode cX0_copyFrom 111 = .ok (.iload_n 2, 1)) ∧ (decode cX0_copyFrom 112 = .ok (.aaload, 1)) ∧ (decode cX0_copyFrom 113 = .ok (.iconst 0, 1)) ∧ (decode cX0_copyFrom 114 = .ok (.bipush 24, 2)) ∧ (decode cX0_copyFrom 116 = .ok (.invokestatic 81, 3)) ∧ (decode cX0_copyFrom 119 = .ok (.iinc 2 1, 3)) ∧ (decode cX0_copyFrom 122 = .ok (.goto (-72), 3)) := by decide +kernel
theorem dX0_copyFrom_108 : decode cX0_copyFrom 108 = .ok (.getfield 23, 3) := db_X0_copyFrom_108.1
theorem dX0_copyFrom_111 : decode cX0_copyFrom 111 = .ok (.iload_n 2, 1) := db_X0_copyFrom_108.2.1
theorem dX0_copyFrom_112 : decode cX0_copyFrom 112 = .ok (.aaload, 1) := db_X0_copyFrom_108.2.2.1
theorem dX0_copyFrom_113 : decode cX0_copyFrom 113 = .ok (.iconst 0, 1) := db_X0_copyFrom_108.2.2.2.1
theorem dX0_copyFrom_114 : decode cX0_copyFrom 114 = .ok (.bipush 24, 2) := db_X0_copyFrom_108.2.2.2.2.1
theorem dX0_copyFrom_116 : decode cX0_copyFrom 116 = .ok (.invokestatic 81, 3) := db_X0_copyFrom_108.2.2.2.2.2.1
theorem dX0_copyFrom_119 : decode cX0_copyFrom 119 = .ok (.iinc 2 1, 3) := db_X0_copyFrom_108.2.2.2.2.2.2.1
theorem dX0_copyFrom_122 : decode cX0_copyFrom 122 = .ok (.goto (-72), 3) := db_X0_copyFrom_108.2.2.2.2.2.2.2
set_option maxRecDepth 20000 in
theorem db_X0_copyFrom_125 : (decode cX0_copyFrom 125 = .ok (.iconst 0, 1)) ∧ (decode cX0_copyFrom 126 = .ok (.istore_n 2, 1)) ∧ (decode cX0_copyFrom 127 = .ok (.iload_n 2, 1)) ∧ (decode cX0_copyFrom 128 = .ok (.aload_n 0, 1)) ∧ (decode cX0_copyFrom 129 = .ok (.getfield 49, 3)) ∧ (decode cX0_copyFrom 132 = .ok (.if_icmp .ge 24, 3)) ∧ (decode cX0_copyFrom 156 = .ok (.return_, 1)) ∧ (decode cX0_copyFrom 135 = .ok (.aload_n 0, 1)) := by decide +kernel
theorem dX0_copyFrom_125 : decode cX0_copyFrom 125 = .ok (.iconst 0, 1) := db_X0_copyFrom_125.1
theorem dX0_copyFrom_126 : decode cX0_copyFrom 126 = .ok (.istore_n 2, 1) := db_X0_copyFrom_125.2.1
theorem dX0_copyFrom_127 : decode cX0_copyFrom 127 = .ok (.iload_n 2, 1) := db_X0_copyFrom_125.2.2.1
theorem dX0_copyFrom_128 : decode cX0_copyFrom 128 = .ok (.aload_n 0, 1) := db_X0_copyFrom_125.2.2.2.1
theorem dX0_copyFrom_129 : decode cX0_copyFrom 129 = .ok (.getfield 49, 3) := db_X0_copyFrom_125.2.2.2.2.1
theorem dX0_copyFrom_132 : decode cX0_copyFrom 132 = .ok (.if_icmp .ge 24, 3) := db_X0_copyFrom_125.2.2.2.2.2.1
theorem dX0_copyFrom_156 : decode cX0_copyFrom 156 = .ok (.return_, 1) := db_X0_copyFrom_125.2.2.2.2.2.2.1
theorem dX0_copyFrom_135 : decode cX0_copyFrom 135 = .ok (.aload_n 0, 1) := db_X0_copyFrom_125.2.2.2.2.2.2.2
set_option maxRecDepth 20000 in
theorem db_X0_copyFrom_136 : (decode cX0_copyFrom 136 = .ok (.getfield 28, 3)) ∧ (decode cX0_copyFrom 139 = .ok (.iload_n 2, 1)) ∧ (decode cX0_copyFrom 140 = .ok (.aaload, 1)) ∧ (decode cX0_copyFrom 141 = .ok (.aload_n 1, 1)) ∧ (decode cX0_copyFrom 142 = .ok (.getfield 28, 3)) ∧ (decode cX0_copyFrom 145 = .ok (.iload_n 2, 1)) ∧ (decode cX0_copyFrom 146 = .ok (.aaload, 1)) ∧ (decode cX0_copyFrom 147 = .ok (.invokevirtual 87, 3)) := by decide +kernel
theorem dX0_copyFrom_136 : decode cX0_copyFrom 136 = .ok (.getfield 28, 3) := db_X0_copyFrom_136.1
theorem dX0_copyFrom_139 : decode cX0_copyFrom 139 = .ok (.iload_n 2, 1) := db_X0_copyFrom_136.2.1
theorem dX0_copyFrom_140 : decode cX0_copyFrom 140 = .ok (.aaload, 1) := db_X0_copyFrom_136.2.2.1
theorem dX0_copyFrom_141 : decode cX0_copyFrom 141 = .ok (.aload_n 1, 1) := db_X0_copyFrom_136.2.2.2.1
theorem dX0_copyFrom_142 : decode cX0_copyFrom 142 = .ok (.getfield 28, 3) := db_X0_copyFrom_136.2.2.2.2.1
theorem dX0_copyFrom_145 : decode cX0_copyFrom 145 = .ok (.iload_n 2, 1) := db_X0_copyFrom_136.2.2.2.2.2.1
theorem dX0_copyFrom_146 : decode cX0_copyFrom 146 = .ok (.aaload, 1) := db_X0_copyFrom_136.2.2.2.2.2.2.1
set_option maxRecDepth 20000 in
theorem ggX0_copyFrom_X6_copyFrom : GoodIn wsX0_copyFrom wsX6_copyFrom := goodIn_r _ [20, 21, 22, 23, 24, 25, 37, 38, 39, 40, 41] rfl (by decide +kernel)
set_option maxRecDepth 20000 in
theorem gX0_copyFrom_X6_copyFrom : GoodIn wsX0_copyFrom (wsV RX0 87 RX6 yX6_copyFrom wsX6_copyFrom) := goodIn_app (goodIn_r _ [16, 17, 18, 19] rfl (by decide +kernel)) ggX0_copyFrom_X6_copyFrom
theorem dX0_copyFrom_147 : decode cX0_copyFrom 147 = .ok (.invokevirtual 87, 3) := db_X0_copyFrom_136.2.2.2.2.2.2.2
set_option maxRecDepth 20000 in
theorem db_X0_copyFrom_150 : (decode cX0_copyFrom 150 = .ok (.iinc 2 1, 3)) ∧ (decode cX0_copyFrom 153 = .ok (.goto (-26), 3)) := by decide +kernel
theorem dX0_copyFrom_150 : decode cX0_copyFrom 150 = .ok (.iinc 2 1, 3) := db_X0_copyFrom_150.1
theorem dX0_copyFrom_153 : decode cX0_copyFrom 153 = .ok (.goto (-26), 3) := db_X0_copyFrom_150.2
set_option maxHeartbeats 4000000 in
set_option maxRecDepth 100000 in
theorem e_X0_copyFrom_a (l : Launch) (dC : Nat → ClassId) (dI : Nat → Nat → Nat) (cy : Nat → ClassId) (sz : Nat) (ad : Nat → Nat) (kv : Value) (N : Nat) (hN : 119 ≤ N) (v : Nat → Nat → Int32) (hv : Iv v) (i : Nat) (hi : i < 6) (hN2 : 225 ≤ N) : Met l yX0_copyFrom wsX0_copyFrom ({ frames := 1, cells := 0, slots := 0, locals := 64 }) (va_Pc [.ref (ad (29 + 15 * i)), .ref (ad (135 + 15 * i))] (ex_Pre dC dI cy sz (wl ad kv cy N v))) (va_Qv (fun (u : Nat → Nat → Int32) => Iv u ∧ (∀ o j : Nat, lvC (v (135 + 15 * i)) o j → u (29 + 15 * i + o) j = v (135 + 15 * i + o) j) ∧ (∀ k : Nat, (k < 29 + 15 * i ∨ 44 + 15 * i ≤ k) → u k = v k)) (fun u t => ex_Pst dC dI (va_A (wl ad kv cy N v) sz) (wl ad kv cy N u) t) (va_A (wl ad kv cy N v) sz)) 0 0 (va_A (wl ad kv cy N v) sz) := by
  refine Met.ofW (cc := cX0_copyFrom) (maxL := 3) (ret := none) (by decide) rfl ?_
  intro p e s m args below meth c s₁ B hml hv
  obtain ⟨rfl, hsz, hE, hP, hK, hD0⟩ := hv
  have hx := B.exec
  have hb := B.bytes
  have hr := B.returns
  have hts := atoms_spec (ws := wsX0_copyFrom) B.pre
  have hown : s.vm.findClass RX0 = some m.cls := findClass_of_methodNamed B.named
  have hlocks := B.notSynchronized
  subst hsz
  have hD := hD0.self (sz := s.heap.size)
  generalize hAe : va_A (wl ad kv cy N v) s.heap.size = A at hD ⊢
  have hA : ∀ q : Nat, s.heap.size ≤ q → A q := fun q h => by rw [← hAe]; exact Or.inr h
  have hS : va_S A s.heap s.heap [] := va_S.rf
  have hP : va_P (dC, dI) vwCl (wl ad kv cy N v) s.heap := hP
  have hl := lv_entry ([.ref (ad (29 + 15 * i)), .ref (ad (135 + 15 * i))]) (n := 3) (Nat.le_of_ble_eq_true rfl)
  rw [lg_entry_eq]
  generalize (lg_sl ([.ref (ad (29 + 15 * i)), .ref (ad (135 + 15 * i))]) ++ List.replicate (3 - (lg_sl ([.ref (ad (29 + 15 * i)), .ref (ad (135 + 15 * i))])).length) Slot.unset).toArray = ls at hl ⊢
  have hl : lv_has ls 3 [(0, .ref (ad (29 + 15 * i))), (1, .ref (ad (135 + 15 * i)))] := hl
  have hv0 := hv
  have hb5 := hv.at (k := 135 + 15 * i) (j := 5) (K := 9) (kd_c _ hi).2.1 rfl
  have hb2 := hv.at (k := 135 + 15 * i) (j := 2) (K := 9) (kd_c _ hi).2.1 rfl
  refine lv_aload_n hx hb dX0_copyFrom_0 rfl (lv_at hl 0 rfl) ?_
  refine lv_aload_n hx hb dX0_copyFrom_1 rfl (lv_at hl 1 rfl) ?_
  refine va_get (D := (dC, dI)) (ci := 0) (v := .int (v (135 + 15 * i) 0)) (C := RX0) (T := TX0) (N := 11) hx hb hts iwX0_copyFrom_X0 hown hK hP (135 + 15 * i) (wl_at (by omega) (ce_9 (kd_c _ hi).2.1)) rfl 0 (by decide) (hts (.fieldLink RX0 33 "QuietStairs$Case" "state" "I") fwX0_copyFrom_1) (fun _ h9 => h9) rfl dX0_copyFrom_2 ?_
  refine lv_topi (fun x_1 ex_1 => ?_)
  have qx_1 : x_1.toInt = (v (135 + 15 * i) (0)).toInt := congrArg Int32.toInt ex_1
  refine va_put (D := (dC, dI)) (ci := 0) (v := .int x_1) (ty := .int) (C := RX0) (T := TX0) (N := 11) hx hb hts iwX0_copyFrom_X0 tyX0 tyX0_ok nmX0 hown hK hP hD hS (29 + 15 * i) (wl_at (by omega) (ce_9 (kd_c _ hi).1.1)) rfl 0 (by decide) (hts (.fieldLink RX0 33 "QuietStairs$Case" "state" "I") fwX0_copyFrom_1) (fun _ h9 => h9) rfl (by decide +kernel) rfl rfl (Nat.le_of_ble_eq_true rfl) dX0_copyFrom_5 (fun H locs hP hD hS => ?_)
  obtain ⟨v_2, ev_2⟩ : ∃ u : Nat → Nat → Int32, u = upr v (29 + 15 * i) (upd (v (29 + 15 * i)) 0 x_1) := ⟨_, rfl⟩
  have hP : va_P (dC, dI) vwCl (wl ad kv cy N v_2) H := by rw [ev_2, ← wl_put (e := _) (ce_9 (kd_c _ hi).1.1)]; exact hP
  have hD : va_D A (wl ad kv cy N v_2) := by rw [ev_2, ← wl_put (e := _) (ce_9 (kd_c _ hi).1.1)]; exact hD
  have hv : Iv v_2 := by rw [ev_2]; exact hv.put (K := 9) (kd_c _ hi).1.1 (fun h q => by simp [bd] at q)
  refine lv_aload_n hx hb dX0_copyFrom_8 rfl (lv_at hl 0 rfl) ?_
  refine lv_aload_n hx hb dX0_copyFrom_9 rfl (lv_at hl 1 rfl) ?_
  refine va_get (D := (dC, dI)) (ci := 0) (v := .int (v_2 (135 + 15 * i) 1)) (C := RX0) (T := TX0) (N := 11) hx hb hts iwX0_copyFrom_X0 hown hK hP (135 + 15 * i) (wl_at (by omega) (ce_9 (kd_c _ hi).2.1)) rfl 1 (by decide) (hts (.fieldLink RX0 37 "QuietStairs$Case" "sum" "I") fwX0_copyFrom_2) (fun _ h9 => h9) rfl dX0_copyFrom_10 ?_
  refine lv_topi (fun x_3 ex_3 => ?_)
  rw [ev_2, upr_n (by omega)] at ex_3
  have qx_3 : x_3.toInt = (v (135 + 15 * i) (1)).toInt := congrArg Int32.toInt ex_3
  refine va_put (D := (dC, dI)) (ci := 0) (v := .int x_3) (ty := .int) (C := RX0) (T := TX0) (N := 11) hx hb hts iwX0_copyFrom_X0 tyX0 tyX0_ok nmX0 hown hK hP hD hS (29 + 15 * i) (wl_at (by omega) (ce_9 (kd_c _ hi).1.1)) rfl 1 (by decide) (hts (.fieldLink RX0 37 "QuietStairs$Case" "sum" "I") fwX0_copyFrom_2) (fun _ h9 => h9) rfl (by decide +kernel) rfl rfl (Nat.le_of_ble_eq_true rfl) dX0_copyFrom_13 (fun H locs hP hD hS => ?_)
  obtain ⟨v_4, ev_4⟩ : ∃ u : Nat → Nat → Int32, u = upr v_2 (29 + 15 * i) (upd (v_2 (29 + 15 * i)) 1 x_3) := ⟨_, rfl⟩
  have hP : va_P (dC, dI) vwCl (wl ad kv cy N v_4) H := by rw [ev_4, ← wl_put (e := _) (ce_9 (kd_c _ hi).1.1)]; exact hP
  have hD : va_D A (wl ad kv cy N v_4) := by rw [ev_4, ← wl_put (e := _) (ce_9 (kd_c _ hi).1.1)]; exact hD
  have hv : Iv v_4 := by rw [ev_4]; exact hv.put (K := 9) (kd_c _ hi).1.1 (fun h q => by simp [bd] at q)
  refine lv_aload_n hx hb dX0_copyFrom_16 rfl (lv_at hl 0 rfl) ?_
  refine lv_aload_n hx hb dX0_copyFrom_17 rfl (lv_at hl 1 rfl) ?_
  refine va_get (D := (dC, dI)) (ci := 0) (v := .int (v_4 (135 + 15 * i) 2)) (C := RX0) (T := TX0) (N := 11) hx hb hts iwX0_copyFrom_X0 hown hK hP (135 + 15 * i) (wl_at (by omega) (ce_9 (kd_c _ hi).2.1)) rfl 2 (by decide) (hts (.fieldLink RX0 40 "QuietStairs$Case" "roundsOver" "I") fwX0_copyFrom_3) (fun _ h9 => h9) rfl dX0_copyFrom_18 ?_
  refine lv_topi (fun x_5 ex_5 => ?_)
  have bzx_5 : 0 ≤ x_5.toInt ∧ x_5.toInt ≤ 5 := by rw [ex_5]; exact hv.at (K := 9) (kd_c _ hi).2.1 rfl
  rw [ev_4, upr_n (by omega), ev_2, upr_n (by omega)] at ex_5
  have qx_5 : x_5.toInt = (v (135 + 15 * i) (2)).toInt := congrArg Int32.toInt ex_5
  refine va_put (D := (dC, dI)) (ci := 0) (v := .int x_5) (ty := .int) (C := RX0) (T := TX0) (N := 11) hx hb hts iwX0_copyFrom_X0 tyX0 tyX0_ok nmX0 hown hK hP hD hS (29 + 15 * i) (wl_at (by omega) (ce_9 (kd_c _ hi).1.1)) rfl 2 (by decide) (hts (.fieldLink RX0 40 "QuietStairs$Case" "roundsOver" "I") fwX0_copyFrom_3) (fun _ h9 => h9) rfl (by decide +kernel) rfl rfl (Nat.le_of_ble_eq_true rfl) dX0_copyFrom_21 (fun H locs hP hD hS => ?_)
  obtain ⟨v_6, ev_6⟩ : ∃ u : Nat → Nat → Int32, u = upr v_4 (29 + 15 * i) (upd (v_4 (29 + 15 * i)) 2 x_5) := ⟨_, rfl⟩
  have hP : va_P (dC, dI) vwCl (wl ad kv cy N v_6) H := by rw [ev_6, ← wl_put (e := _) (ce_9 (kd_c _ hi).1.1)]; exact hP
  have hD : va_D A (wl ad kv cy N v_6) := by rw [ev_6, ← wl_put (e := _) (ce_9 (kd_c _ hi).1.1)]; exact hD
  have hv : Iv v_6 := by rw [ev_6]; exact hv.put (K := 9) (kd_c _ hi).1.1 (fun h q => by cases q; exact ⟨by omega, by omega⟩)
  refine lv_aload_n hx hb dX0_copyFrom_24 rfl (lv_at hl 0 rfl) ?_
  refine lv_aload_n hx hb dX0_copyFrom_25 rfl (lv_at hl 1 rfl) ?_
  refine va_get (D := (dC, dI)) (ci := 0) (v := .int (v_6 (135 + 15 * i) 3)) (C := RX0) (T := TX0) (N := 11) hx hb hts iwX0_copyFrom_X0 hown hK hP (135 + 15 * i) (wl_at (by omega) (ce_9 (kd_c _ hi).2.1)) rfl 3 (by decide) (hts (.fieldLink RX0 43 "QuietStairs$Case" "weight" "I") fwX0_copyFrom_4) (fun _ h9 => h9) rfl dX0_copyFrom_26 ?_
  refine lv_topi (fun x_7 ex_7 => ?_)
  rw [ev_6, upr_n (by omega), ev_4, upr_n (by omega), ev_2, upr_n (by omega)] at ex_7
  have qx_7 : x_7.toInt = (v (135 + 15 * i) (3)).toInt := congrArg Int32.toInt ex_7
  refine va_put (D := (dC, dI)) (ci := 0) (v := .int x_7) (ty := .int) (C := RX0) (T := TX0) (N := 11) hx hb hts iwX0_copyFrom_X0 tyX0 tyX0_ok nmX0 hown hK hP hD hS (29 + 15 * i) (wl_at (by omega) (ce_9 (kd_c _ hi).1.1)) rfl 3 (by decide) (hts (.fieldLink RX0 43 "QuietStairs$Case" "weight" "I") fwX0_copyFrom_4) (fun _ h9 => h9) rfl (by decide +kernel) rfl rfl (Nat.le_of_ble_eq_true rfl) dX0_copyFrom_29 (fun H locs hP hD hS => ?_)
  obtain ⟨v_8, ev_8⟩ : ∃ u : Nat → Nat → Int32, u = upr v_6 (29 + 15 * i) (upd (v_6 (29 + 15 * i)) 3 x_7) := ⟨_, rfl⟩
  have hP : va_P (dC, dI) vwCl (wl ad kv cy N v_8) H := by rw [ev_8, ← wl_put (e := _) (ce_9 (kd_c _ hi).1.1)]; exact hP
  have hD : va_D A (wl ad kv cy N v_8) := by rw [ev_8, ← wl_put (e := _) (ce_9 (kd_c _ hi).1.1)]; exact hD
  have hv : Iv v_8 := by rw [ev_8]; exact hv.put (K := 9) (kd_c _ hi).1.1 (fun h q => by simp [bd] at q)
  refine lv_aload_n hx hb dX0_copyFrom_32 rfl (lv_at hl 0 rfl) ?_
  refine lv_aload_n hx hb dX0_copyFrom_33 rfl (lv_at hl 1 rfl) ?_
  refine va_get (D := (dC, dI)) (ci := 0) (v := .int (v_8 (135 + 15 * i) 4)) (C := RX0) (T := TX0) (N := 11) hx hb hts iwX0_copyFrom_X0 hown hK hP (135 + 15 * i) (wl_at (by omega) (ce_9 (kd_c _ hi).2.1)) rfl 4 (by decide) (hts (.fieldLink RX0 46 "QuietStairs$Case" "markedBits" "I") fwX0_copyFrom_5) (fun _ h9 => h9) rfl dX0_copyFrom_34 ?_
  refine lv_topi (fun x_9 ex_9 => ?_)
  rw [ev_8, upr_n (by omega), ev_6, upr_n (by omega), ev_4, upr_n (by omega), ev_2, upr_n (by omega)] at ex_9
  have qx_9 : x_9.toInt = (v (135 + 15 * i) (4)).toInt := congrArg Int32.toInt ex_9
  refine va_put (D := (dC, dI)) (ci := 0) (v := .int x_9) (ty := .int) (C := RX0) (T := TX0) (N := 11) hx hb hts iwX0_copyFrom_X0 tyX0 tyX0_ok nmX0 hown hK hP hD hS (29 + 15 * i) (wl_at (by omega) (ce_9 (kd_c _ hi).1.1)) rfl 4 (by decide) (hts (.fieldLink RX0 46 "QuietStairs$Case" "markedBits" "I") fwX0_copyFrom_5) (fun _ h9 => h9) rfl (by decide +kernel) rfl rfl (Nat.le_of_ble_eq_true rfl) dX0_copyFrom_37 (fun H locs hP hD hS => ?_)
  obtain ⟨v_10, ev_10⟩ : ∃ u : Nat → Nat → Int32, u = upr v_8 (29 + 15 * i) (upd (v_8 (29 + 15 * i)) 4 x_9) := ⟨_, rfl⟩
  have hP : va_P (dC, dI) vwCl (wl ad kv cy N v_10) H := by rw [ev_10, ← wl_put (e := _) (ce_9 (kd_c _ hi).1.1)]; exact hP
  have hD : va_D A (wl ad kv cy N v_10) := by rw [ev_10, ← wl_put (e := _) (ce_9 (kd_c _ hi).1.1)]; exact hD
  have hv : Iv v_10 := by rw [ev_10]; exact hv.put (K := 9) (kd_c _ hi).1.1 (fun h q => by simp [bd] at q)
  refine lv_aload_n hx hb dX0_copyFrom_40 rfl (lv_at hl 0 rfl) ?_
  refine lv_aload_n hx hb dX0_copyFrom_41 rfl (lv_at hl 1 rfl) ?_
  refine va_get (D := (dC, dI)) (ci := 0) (v := .int (v_10 (135 + 15 * i) 5)) (C := RX0) (T := TX0) (N := 11) hx hb hts iwX0_copyFrom_X0 hown hK hP (135 + 15 * i) (wl_at (by omega) (ce_9 (kd_c _ hi).2.1)) rfl 5 (by decide) (hts (.fieldLink RX0 49 "QuietStairs$Case" "termCount" "I") fwX0_copyFrom_6) (fun _ h9 => h9) rfl dX0_copyFrom_42 ?_
  refine lv_topi (fun x_11 ex_11 => ?_)
  have bzx_11 : 0 ≤ x_11.toInt ∧ x_11.toInt ≤ 5 := by rw [ex_11]; exact hv.at (K := 9) (kd_c _ hi).2.1 rfl
  rw [ev_10, upr_n (by omega), ev_8, upr_n (by omega), ev_6, upr_n (by omega), ev_4, upr_n (by omega), ev_2, upr_n (by omega)] at ex_11
  have qx_11 : x_11.toInt = (v (135 + 15 * i) (5)).toInt := congrArg Int32.toInt ex_11
  refine va_put (D := (dC, dI)) (ci := 0) (v := .int x_11) (ty := .int) (C := RX0) (T := TX0) (N := 11) hx hb hts iwX0_copyFrom_X0 tyX0 tyX0_ok nmX0 hown hK hP hD hS (29 + 15 * i) (wl_at (by omega) (ce_9 (kd_c _ hi).1.1)) rfl 5 (by decide) (hts (.fieldLink RX0 49 "QuietStairs$Case" "termCount" "I") fwX0_copyFrom_6) (fun _ h9 => h9) rfl (by decide +kernel) rfl rfl (Nat.le_of_ble_eq_true rfl) dX0_copyFrom_45 (fun H locs hP hD hS => ?_)
  obtain ⟨v_12, ev_12⟩ : ∃ u : Nat → Nat → Int32, u = upr v_10 (29 + 15 * i) (upd (v_10 (29 + 15 * i)) 5 x_11) := ⟨_, rfl⟩
  have hP : va_P (dC, dI) vwCl (wl ad kv cy N v_12) H := by rw [ev_12, ← wl_put (e := _) (ce_9 (kd_c _ hi).1.1)]; exact hP
  have hD : va_D A (wl ad kv cy N v_12) := by rw [ev_12, ← wl_put (e := _) (ce_9 (kd_c _ hi).1.1)]; exact hD
  have hv : Iv v_12 := by rw [ev_12]; exact hv.put (K := 9) (kd_c _ hi).1.1 (fun h q => by cases q; exact ⟨by omega, by omega⟩)
  refine lv_iconst (v := 0) hx hb dX0_copyFrom_48 (by decide) ?_
  refine lv_istore_n (lv' := [(2, .int 0), (0, .ref (ad (29 + 15 * i))), (1, .ref (ad (135 + 15 * i)))]) hx hb dX0_copyFrom_49 rfl hl (by decide) rfl (fun ls hl => ?_)
  refine lv_iload_n hx hb dX0_copyFrom_50 rfl (lv_at hl 0 rfl) ?_
  refine lv_iconst (v := 2) hx hb dX0_copyFrom_51 (by decide) ?_
  refine lv_icmp_ge (tgt := 125) hx hb dX0_copyFrom_52 (by decide) (fun c9 => absurd c9 (by decide)) (fun _ => ?_)
  refine lv_aload_n hx hb dX0_copyFrom_55 rfl (lv_at hl 1 rfl) ?_
  refine va_get (D := (dC, dI)) (ci := 0) (v := .ref (ad (29 + 15 * i + 1))) (C := RX0) (T := TX0) (N := 11) hx hb hts iwX0_copyFrom_X0 hown hK hP (29 + 15 * i) (wl_at (by omega) (ce_9 (kd_c _ hi).1.1)) rfl 6 (by decide) (hts (.fieldLink RX0 9 "QuietStairs$Case" "parties" "[I") fwX0_copyFrom_7) (fun _ h9 => h9) rfl dX0_copyFrom_56 ?_
  refine W.eq (g2 := F0 m 59 ls [.ref (ad (30 + 15 * i))]) (by rw [show 29 + 15 * i + 1 = 30 + 15 * i from by omega]) ?_
  refine lv_iload_n hx hb dX0_copyFrom_59 rfl (lv_at hl 0 rfl) ?_
  refine lv_aload_n hx hb dX0_copyFrom_60 rfl (lv_at hl 2 rfl) ?_
  refine va_get (D := (dC, dI)) (ci := 0) (v := .ref (ad (135 + 15 * i + 1))) (C := RX0) (T := TX0) (N := 11) hx hb hts iwX0_copyFrom_X0 hown hK hP (135 + 15 * i) (wl_at (by omega) (ce_9 (kd_c _ hi).2.1)) rfl 6 (by decide) (hts (.fieldLink RX0 9 "QuietStairs$Case" "parties" "[I") fwX0_copyFrom_7) (fun _ h9 => h9) rfl dX0_copyFrom_61 ?_
  refine W.eq (g2 := F0 m 64 ls [.ref (ad (136 + 15 * i)), .int 0, .ref (ad (30 + 15 * i))]) (by rw [show 135 + 15 * i + 1 = 136 + 15 * i from by omega]) ?_
  refine lv_iload_n hx hb dX0_copyFrom_64 rfl (lv_at hl 0 rfl) ?_
  have k_0 : (0 : Int32).toInt = 0 := by decide
  refine va_iald hx hb hK hP (136 + 15 * i) 0 (wl_at (by omega) (ce_10 (kd_c _ hi).2.2.1)) rfl (by unfold vp_in; decide) dX0_copyFrom_65 ?_
  refine lv_topi (fun x_13 ex_13 => ?_)
  have ex_13 : x_13 = v_12 (136 + 15 * i) 0 := ex_13
  have bzx_13 : 0 ≤ x_13.toInt ∧ x_13.toInt ≤ 7 := by rw [ex_13]; exact hv.at (K := 10) (kd_c _ hi).2.2.1 rfl
  rw [ev_12, upr_n (by omega), ev_10, upr_n (by omega), ev_8, upr_n (by omega), ev_6, upr_n (by omega), ev_4, upr_n (by omega), ev_2, upr_n (by omega)] at ex_13
  have qx_13 : x_13.toInt = (v (136 + 15 * i) (0)).toInt := congrArg Int32.toInt ex_13
  refine va_iast hx hb hK hP hD hS (30 + 15 * i) 0 (wl_at (by omega) (ce_10 (kd_c _ hi).1.2.1)) rfl (by unfold vp_in; decide) dX0_copyFrom_66 (fun H locs hP hD hS => ?_)
  have hP : va_P (dC, dI) vwCl ((wl ad kv cy N v_12).set (30 + 15 * i) (ad (30 + 15 * i), .inl (cy 0, 2, .inl (upd (v_12 (30 + 15 * i)) 0 x_13)))) H := hP
  have hD : va_D A ((wl ad kv cy N v_12).set (30 + 15 * i) (ad (30 + 15 * i), .inl (cy 0, 2, .inl (upd (v_12 (30 + 15 * i)) 0 x_13)))) := hD
  obtain ⟨v_14, ev_14⟩ : ∃ u : Nat → Nat → Int32, u = upr v_12 (30 + 15 * i) (upd (v_12 (30 + 15 * i)) 0 x_13) := ⟨_, rfl⟩
  have hP : va_P (dC, dI) vwCl (wl ad kv cy N v_14) H := by rw [ev_14, ← wl_put (e := _) (ce_10 (kd_c _ hi).1.2.1)]; exact hP
  have hD : va_D A (wl ad kv cy N v_14) := by rw [ev_14, ← wl_put (e := _) (ce_10 (kd_c _ hi).1.2.1)]; exact hD
  have hv : Iv v_14 := by rw [ev_14]; exact hv.put (K := 10) (kd_c _ hi).1.2.1 (fun h q => by cases q; exact ⟨by omega, by omega⟩)
  refine lv_aload_n hx hb dX0_copyFrom_67 rfl (lv_at hl 1 rfl) ?_
  refine va_get (D := (dC, dI)) (ci := 0) (v := .ref (ad (29 + 15 * i + 2))) (C := RX0) (T := TX0) (N := 11) hx hb hts iwX0_copyFrom_X0 hown hK hP (29 + 15 * i) (wl_at (by omega) (ce_9 (kd_c _ hi).1.1)) rfl 7 (by decide) (hts (.fieldLink RX0 15 "QuietStairs$Case" "box" "[I") fwX0_copyFrom_8) (fun _ h9 => h9) rfl dX0_copyFrom_68 ?_
  refine W.eq (g2 := F0 m 71 ls [.ref (ad (31 + 15 * i))]) (by rw [show 29 + 15 * i + 2 = 31 + 15 * i from by omega]) ?_
  refine lv_iload_n hx hb dX0_copyFrom_71 rfl (lv_at hl 0 rfl) ?_
  refine lv_aload_n hx hb dX0_copyFrom_72 rfl (lv_at hl 2 rfl) ?_
  refine va_get (D := (dC, dI)) (ci := 0) (v := .ref (ad (135 + 15 * i + 2))) (C := RX0) (T := TX0) (N := 11) hx hb hts iwX0_copyFrom_X0 hown hK hP (135 + 15 * i) (wl_at (by omega) (ce_9 (kd_c _ hi).2.1)) rfl 7 (by decide) (hts (.fieldLink RX0 15 "QuietStairs$Case" "box" "[I") fwX0_copyFrom_8) (fun _ h9 => h9) rfl dX0_copyFrom_73 ?_
  refine W.eq (g2 := F0 m 76 ls [.ref (ad (137 + 15 * i)), .int 0, .ref (ad (31 + 15 * i))]) (by rw [show 135 + 15 * i + 2 = 137 + 15 * i from by omega]) ?_
  refine lv_iload_n hx hb dX0_copyFrom_76 rfl (lv_at hl 0 rfl) ?_
  refine va_iald hx hb hK hP (137 + 15 * i) 0 (wl_at (by omega) (ce_20 (kd_c _ hi).2.2.2.1)) rfl (by unfold vp_in; decide) dX0_copyFrom_77 ?_
  refine lv_topi (fun x_15 ex_15 => ?_)
  have ex_15 : x_15 = v_14 (137 + 15 * i) 0 := ex_15
  rw [ev_14, upr_n (by omega), ev_12, upr_n (by omega), ev_10, upr_n (by omega), ev_8, upr_n (by omega), ev_6, upr_n (by omega), ev_4, upr_n (by omega), ev_2, upr_n (by omega)] at ex_15
  have qx_15 : x_15.toInt = (v (137 + 15 * i) (0)).toInt := congrArg Int32.toInt ex_15
  refine va_iast hx hb hK hP hD hS (31 + 15 * i) 0 (wl_at (by omega) (ce_20 (kd_c _ hi).1.2.2.1)) rfl (by unfold vp_in; decide) dX0_copyFrom_78 (fun H locs hP hD hS => ?_)
  have hP : va_P (dC, dI) vwCl ((wl ad kv cy N v_14).set (31 + 15 * i) (ad (31 + 15 * i), .inl (cy 0, 2, .inl (upd (v_14 (31 + 15 * i)) 0 x_15)))) H := hP
  have hD : va_D A ((wl ad kv cy N v_14).set (31 + 15 * i) (ad (31 + 15 * i), .inl (cy 0, 2, .inl (upd (v_14 (31 + 15 * i)) 0 x_15)))) := hD
  obtain ⟨v_16, ev_16⟩ : ∃ u : Nat → Nat → Int32, u = upr v_14 (31 + 15 * i) (upd (v_14 (31 + 15 * i)) 0 x_15) := ⟨_, rfl⟩
  have hP : va_P (dC, dI) vwCl (wl ad kv cy N v_16) H := by rw [ev_16, ← wl_put (e := _) (ce_20 (kd_c _ hi).1.2.2.1)]; exact hP
  have hD : va_D A (wl ad kv cy N v_16) := by rw [ev_16, ← wl_put (e := _) (ce_20 (kd_c _ hi).1.2.2.1)]; exact hD
  have hv : Iv v_16 := by rw [ev_16]; exact hv.put (K := 20) (kd_c _ hi).1.2.2.1 (fun h q => by simp [bd] at q)
  refine lv_aload_n hx hb dX0_copyFrom_79 rfl (lv_at hl 2 rfl) ?_
  refine va_get (D := (dC, dI)) (ci := 0) (v := .ref (ad (135 + 15 * i + 3))) (C := RX0) (T := TX0) (N := 11) hx hb hts iwX0_copyFrom_X0 hown hK hP (135 + 15 * i) (wl_at (by omega) (ce_9 (kd_c _ hi).2.1)) rfl 8 (by decide) (hts (.fieldLink RX0 20 "QuietStairs$Case" "offers" "[[I") fwX0_copyFrom_9) (fun _ h9 => h9) rfl dX0_copyFrom_80 ?_
  refine W.eq (g2 := F0 m 83 ls [.ref (ad (138 + 15 * i))]) (by rw [show 135 + 15 * i + 3 = 138 + 15 * i from by omega]) ?_
  refine lv_iload_n hx hb dX0_copyFrom_83 rfl (lv_at hl 0 rfl) ?_
  refine ya_ald hx hb hK hP (138 + 15 * i) (wl_at (by omega) (ce_11 (kd_c _ hi).2.2.2.2.1)) (by unfold vp_in; decide) dX0_copyFrom_84 ?_
  refine W.eq (g2 := F0 m 85 ls [.ref (ad (139 + 15 * i + 0))]) (by show F0 m 85 ls (.ref (ad (138 + 15 * i + 1 + 0)) :: _) = _; rw [show 138 + 15 * i + 1 + 0 = 139 + 15 * i + 0 from by omega]) ?_
  refine lv_iconst (v := 0) hx hb dX0_copyFrom_85 (by decide) ?_
  refine lv_aload_n hx hb dX0_copyFrom_86 rfl (lv_at hl 1 rfl) ?_
  refine va_get (D := (dC, dI)) (ci := 0) (v := .ref (ad (29 + 15 * i + 3))) (C := RX0) (T := TX0) (N := 11) hx hb hts iwX0_copyFrom_X0 hown hK hP (29 + 15 * i) (wl_at (by omega) (ce_9 (kd_c _ hi).1.1)) rfl 8 (by decide) (hts (.fieldLink RX0 20 "QuietStairs$Case" "offers" "[[I") fwX0_copyFrom_9) (fun _ h9 => h9) rfl dX0_copyFrom_87 ?_
  refine W.eq (g2 := F0 m 90 ls [.ref (ad (32 + 15 * i)), .int 0, .ref (ad (139 + 15 * i + 0))]) (by rw [show 29 + 15 * i + 3 = 32 + 15 * i from by omega]) ?_
  refine lv_iload_n hx hb dX0_copyFrom_90 rfl (lv_at hl 0 rfl) ?_
  refine ya_ald hx hb hK hP (32 + 15 * i) (wl_at (by omega) (ce_11 (kd_c _ hi).1.2.2.2.1)) (by unfold vp_in; decide) dX0_copyFrom_91 ?_
  refine W.eq (g2 := F0 m 92 ls [.ref (ad (33 + 15 * i + 0)), .int 0, .ref (ad (139 + 15 * i + 0))]) (by show F0 m 92 ls (.ref (ad (32 + 15 * i + 1 + 0)) :: _) = _; rw [show 32 + 15 * i + 1 + 0 = 33 + 15 * i + 0 from by omega]) ?_
  refine lv_iconst (v := 0) hx hb dX0_copyFrom_92 (by decide) ?_
  refine lv_aload_n hx hb dX0_copyFrom_93 rfl (lv_at hl 1 rfl) ?_
  refine va_get (D := (dC, dI)) (ci := 0) (v := .int (v_16 (29 + 15 * i) 2)) (C := RX0) (T := TX0) (N := 11) hx hb hts iwX0_copyFrom_X0 hown hK hP (29 + 15 * i) (wl_at (by omega) (ce_9 (kd_c _ hi).1.1)) rfl 2 (by decide) (hts (.fieldLink RX0 40 "QuietStairs$Case" "roundsOver" "I") fwX0_copyFrom_3) (fun _ h9 => h9) rfl dX0_copyFrom_94 ?_
  refine lv_topi (fun x_17 ex_17 => ?_)
  have bzx_17 : 0 ≤ x_17.toInt ∧ x_17.toInt ≤ 5 := by rw [ex_17]; exact hv.at (K := 9) (kd_c _ hi).1.1 rfl
  rw [ev_16, upr_n (by omega), ev_14, upr_n (by omega), ev_12, upr_s, pk_un (by decide), ev_10, upr_s, pk_un (by decide), ev_8, upr_s, pk_un (by decide), ev_6, upr_s, pk_us] at ex_17
  obtain rfl : x_5 = x_17 := ex_17.symm
  have zn_x_5 : (x_5.toNatClampNeg : Int) = x_5.toInt := t_nn (by omega)
  have hn_18 := t_n (x := x_5) (m := 5) ⟨by omega, by omega⟩
  refine va_copyi hx hb (hml.trans hl.1.symm) hown (hts (.methodLink RX0 81 arraycopyName) fwX0_copyFrom_10) (hts (.native arraycopyName) fwX0_copyFrom_11) (hts (.static arraycopyName) fwX0_copyFrom_12) (hts (.initialized "java/lang/System") fwX0_copyFrom_13) hK hP hD hS (139 + 15 * i + 0) (33 + 15 * i + 0) 0 0 (wl_at (by omega) (ce_12 (kd_o _ hi 0 (by decide)).2.1)) (wl_at (by omega) (ce_12 (kd_o _ hi 0 (by decide)).1.1)) rfl rfl rfl (by decide) (by decide) hn_18.1 (by rw [sb_cl0]; have := hn_18.2; omega) (by rw [sb_cl0]; have := hn_18.2; omega) (fun i hi => rfl) (Nat.le_of_ble_eq_true rfl) (Nat.le_of_ble_eq_true rfl) dX0_copyFrom_97 (fun H locs hP hD hS => ?_)
  obtain ⟨v_19, ev_19⟩ : ∃ u : Nat → Nat → Int32, u = upr v_16 (33 + 15 * i + 0) (va_cpy (v_16 (139 + 15 * i + 0)) (v_16 (33 + 15 * i + 0)) (0 : Int32).toNatClampNeg (0 : Int32).toNatClampNeg x_5.toNatClampNeg) := ⟨_, rfl⟩
  have hP : va_P (dC, dI) vwCl (wl ad kv cy N v_19) H := by rw [ev_19, ← wl_put (e := _) (ce_12 (kd_o _ hi 0 (by decide)).1.1)]; exact hP
  have hD : va_D A (wl ad kv cy N v_19) := by rw [ev_19, ← wl_put (e := _) (ce_12 (kd_o _ hi 0 (by decide)).1.1)]; exact hD
  have hv : Iv v_19 := by rw [ev_19]; exact hv.row (K := 12) (kd_o _ hi 0 (by decide)).1.1 (fun j => rfl)
  have hs_19 : v_16 (139 + 15 * i + 0) = v (139 + 15 * i + 0) := by rw [ev_16, upr_n (by omega), ev_14, upr_n (by omega), ev_12, upr_n (by omega), ev_10, upr_n (by omega), ev_8, upr_n (by omega), ev_6, upr_n (by omega), ev_4, upr_n (by omega), ev_2, upr_n (by omega)]
  rw [hs_19] at ev_19
  refine lv_aload_n hx hb dX0_copyFrom_100 rfl (lv_at hl 2 rfl) ?_
  refine va_get (D := (dC, dI)) (ci := 0) (v := .ref (ad (135 + 15 * i + 6))) (C := RX0) (T := TX0) (N := 11) hx hb hts iwX0_copyFrom_X0 hown hK hP (135 + 15 * i) (wl_at (by omega) (ce_9 (kd_c _ hi).2.1)) rfl 9 (by decide) (hts (.fieldLink RX0 23 "QuietStairs$Case" "logs" "[[I") fwX0_copyFrom_14) (fun _ h9 => h9) rfl dX0_copyFrom_101 ?_
  refine W.eq (g2 := F0 m 104 ls [.ref (ad (141 + 15 * i))]) (by rw [show 135 + 15 * i + 6 = 141 + 15 * i from by omega]) ?_
  refine lv_iload_n hx hb dX0_copyFrom_104 rfl (lv_at hl 0 rfl) ?_
  refine ya_ald hx hb hK hP (141 + 15 * i) (wl_at (by omega) (ce_13 (kd_c _ hi).2.2.2.2.2.1)) (by unfold vp_in; decide) dX0_copyFrom_105 ?_
  refine W.eq (g2 := F0 m 106 ls [.ref (ad (142 + 15 * i + 0))]) (by show F0 m 106 ls (.ref (ad (141 + 15 * i + 1 + 0)) :: _) = _; rw [show 141 + 15 * i + 1 + 0 = 142 + 15 * i + 0 from by omega]) ?_
  refine lv_iconst (v := 0) hx hb dX0_copyFrom_106 (by decide) ?_
  refine lv_aload_n hx hb dX0_copyFrom_107 rfl (lv_at hl 1 rfl) ?_
  refine va_get (D := (dC, dI)) (ci := 0) (v := .ref (ad (29 + 15 * i + 6))) (C := RX0) (T := TX0) (N := 11) hx hb hts iwX0_copyFrom_X0 hown hK hP (29 + 15 * i) (wl_at (by omega) (ce_9 (kd_c _ hi).1.1)) rfl 9 (by decide) (hts (.fieldLink RX0 23 "QuietStairs$Case" "logs" "[[I") fwX0_copyFrom_14) (fun _ h9 => h9) rfl dX0_copyFrom_108 ?_
  refine W.eq (g2 := F0 m 111 ls [.ref (ad (35 + 15 * i)), .int 0, .ref (ad (142 + 15 * i + 0))]) (by rw [show 29 + 15 * i + 6 = 35 + 15 * i from by omega]) ?_
  refine lv_iload_n hx hb dX0_copyFrom_111 rfl (lv_at hl 0 rfl) ?_
  refine ya_ald hx hb hK hP (35 + 15 * i) (wl_at (by omega) (ce_13 (kd_c _ hi).1.2.2.2.2.1)) (by unfold vp_in; decide) dX0_copyFrom_112 ?_
  refine W.eq (g2 := F0 m 113 ls [.ref (ad (36 + 15 * i + 0)), .int 0, .ref (ad (142 + 15 * i + 0))]) (by show F0 m 113 ls (.ref (ad (35 + 15 * i + 1 + 0)) :: _) = _; rw [show 35 + 15 * i + 1 + 0 = 36 + 15 * i + 0 from by omega]) ?_
  refine lv_iconst (v := 0) hx hb dX0_copyFrom_113 (by decide) ?_
  refine lv_bipush (v := 24) hx hb dX0_copyFrom_114 (by decide) ?_
  refine va_copyi hx hb (hml.trans hl.1.symm) hown (hts (.methodLink RX0 81 arraycopyName) fwX0_copyFrom_10) (hts (.native arraycopyName) fwX0_copyFrom_11) (hts (.static arraycopyName) fwX0_copyFrom_12) (hts (.initialized "java/lang/System") fwX0_copyFrom_13) hK hP hD hS (142 + 15 * i + 0) (36 + 15 * i + 0) 0 0 (wl_at (by omega) (ce_14 (kd_o _ hi 0 (by decide)).2.2)) (wl_at (by omega) (ce_14 (kd_o _ hi 0 (by decide)).1.2)) rfl rfl rfl (by decide) (by decide) (by decide) (by decide) (by decide) (fun i hi => rfl) (Nat.le_of_ble_eq_true rfl) (Nat.le_of_ble_eq_true rfl) dX0_copyFrom_116 (fun H locs hP hD hS => ?_)
  obtain ⟨v_20, ev_20⟩ : ∃ u : Nat → Nat → Int32, u = upr v_19 (36 + 15 * i + 0) (va_cpy (v_19 (142 + 15 * i + 0)) (v_19 (36 + 15 * i + 0)) (0 : Int32).toNatClampNeg (0 : Int32).toNatClampNeg (24 : Int32).toNatClampNeg) := ⟨_, rfl⟩
  have hP : va_P (dC, dI) vwCl (wl ad kv cy N v_20) H := by rw [ev_20, ← wl_put (e := _) (ce_14 (kd_o _ hi 0 (by decide)).1.2)]; exact hP
  have hD : va_D A (wl ad kv cy N v_20) := by rw [ev_20, ← wl_put (e := _) (ce_14 (kd_o _ hi 0 (by decide)).1.2)]; exact hD
  have hv : Iv v_20 := by rw [ev_20]; exact hv.row (K := 14) (kd_o _ hi 0 (by decide)).1.2 (fun j => rfl)
  have ev_20 : v_20 = upr v_19 (36 + 15 * i + 0) (va_cpy (v_19 (142 + 15 * i + 0)) (v_19 (36 + 15 * i + 0)) (0 : Int32).toNatClampNeg (0 : Int32).toNatClampNeg 24) := ev_20
  have hs_20 : v_19 (142 + 15 * i + 0) = v (142 + 15 * i + 0) := by rw [ev_19, upr_n (by omega), ev_16, upr_n (by omega), ev_14, upr_n (by omega), ev_12, upr_n (by omega), ev_10, upr_n (by omega), ev_8, upr_n (by omega), ev_6, upr_n (by omega), ev_4, upr_n (by omega), ev_2, upr_n (by omega)]
  rw [hs_20] at ev_20
  refine lv_iinc (v := 1) (lv' := [(2, .int 1), (0, .ref (ad (29 + 15 * i))), (1, .ref (ad (135 + 15 * i)))]) hx hb dX0_copyFrom_119 hl (k := 0) rfl (by decide) (by decide) rfl (fun ls hl => ?_)
  refine lv_goto (tgt := 50) hx hb dX0_copyFrom_122 (by decide) ?_
  refine lv_iload_n hx hb dX0_copyFrom_50 rfl (lv_at hl 0 rfl) ?_
  refine lv_iconst (v := 2) hx hb dX0_copyFrom_51 (by decide) ?_
  refine lv_icmp_ge (tgt := 125) hx hb dX0_copyFrom_52 (by decide) (fun c9 => absurd c9 (by decide)) (fun _ => ?_)
  refine lv_aload_n hx hb dX0_copyFrom_55 rfl (lv_at hl 1 rfl) ?_
  refine va_get (D := (dC, dI)) (ci := 0) (v := .ref (ad (29 + 15 * i + 1))) (C := RX0) (T := TX0) (N := 11) hx hb hts iwX0_copyFrom_X0 hown hK hP (29 + 15 * i) (wl_at (by omega) (ce_9 (kd_c _ hi).1.1)) rfl 6 (by decide) (hts (.fieldLink RX0 9 "QuietStairs$Case" "parties" "[I") fwX0_copyFrom_7) (fun _ h9 => h9) rfl dX0_copyFrom_56 ?_
  refine W.eq (g2 := F0 m 59 ls [.ref (ad (30 + 15 * i))]) (by rw [show 29 + 15 * i + 1 = 30 + 15 * i from by omega]) ?_
  refine lv_iload_n hx hb dX0_copyFrom_59 rfl (lv_at hl 0 rfl) ?_
  refine lv_aload_n hx hb dX0_copyFrom_60 rfl (lv_at hl 2 rfl) ?_
  refine va_get (D := (dC, dI)) (ci := 0) (v := .ref (ad (135 + 15 * i + 1))) (C := RX0) (T := TX0) (N := 11) hx hb hts iwX0_copyFrom_X0 hown hK hP (135 + 15 * i) (wl_at (by omega) (ce_9 (kd_c _ hi).2.1)) rfl 6 (by decide) (hts (.fieldLink RX0 9 "QuietStairs$Case" "parties" "[I") fwX0_copyFrom_7) (fun _ h9 => h9) rfl dX0_copyFrom_61 ?_
  refine W.eq (g2 := F0 m 64 ls [.ref (ad (136 + 15 * i)), .int 1, .ref (ad (30 + 15 * i))]) (by rw [show 135 + 15 * i + 1 = 136 + 15 * i from by omega]) ?_
  refine lv_iload_n hx hb dX0_copyFrom_64 rfl (lv_at hl 0 rfl) ?_
  have k_1 : (1 : Int32).toInt = 1 := by decide
  refine va_iald hx hb hK hP (136 + 15 * i) 0 (wl_at (by omega) (ce_10 (kd_c _ hi).2.2.1)) rfl (by unfold vp_in; decide) dX0_copyFrom_65 ?_
  refine lv_topi (fun x_21 ex_21 => ?_)
  have ex_21 : x_21 = v_20 (136 + 15 * i) 1 := ex_21
  have bzx_21 : 0 ≤ x_21.toInt ∧ x_21.toInt ≤ 7 := by rw [ex_21]; exact hv.at (K := 10) (kd_c _ hi).2.2.1 rfl
  rw [ev_20, upr_n (by omega), ev_19, upr_n (by omega), ev_16, upr_n (by omega), ev_14, upr_n (by omega), ev_12, upr_n (by omega), ev_10, upr_n (by omega), ev_8, upr_n (by omega), ev_6, upr_n (by omega), ev_4, upr_n (by omega), ev_2, upr_n (by omega)] at ex_21
  have qx_21 : x_21.toInt = (v (136 + 15 * i) (1)).toInt := congrArg Int32.toInt ex_21
  refine va_iast hx hb hK hP hD hS (30 + 15 * i) 0 (wl_at (by omega) (ce_10 (kd_c _ hi).1.2.1)) rfl (by unfold vp_in; decide) dX0_copyFrom_66 (fun H locs hP hD hS => ?_)
  have hP : va_P (dC, dI) vwCl ((wl ad kv cy N v_20).set (30 + 15 * i) (ad (30 + 15 * i), .inl (cy 0, 2, .inl (upd (v_20 (30 + 15 * i)) 1 x_21)))) H := hP
  have hD : va_D A ((wl ad kv cy N v_20).set (30 + 15 * i) (ad (30 + 15 * i), .inl (cy 0, 2, .inl (upd (v_20 (30 + 15 * i)) 1 x_21)))) := hD
  obtain ⟨v_22, ev_22⟩ : ∃ u : Nat → Nat → Int32, u = upr v_20 (30 + 15 * i) (upd (v_20 (30 + 15 * i)) 1 x_21) := ⟨_, rfl⟩
  have hP : va_P (dC, dI) vwCl (wl ad kv cy N v_22) H := by rw [ev_22, ← wl_put (e := _) (ce_10 (kd_c _ hi).1.2.1)]; exact hP
  have hD : va_D A (wl ad kv cy N v_22) := by rw [ev_22, ← wl_put (e := _) (ce_10 (kd_c _ hi).1.2.1)]; exact hD
  have hv : Iv v_22 := by rw [ev_22]; exact hv.put (K := 10) (kd_c _ hi).1.2.1 (fun h q => by cases q; exact ⟨by omega, by omega⟩)
  refine lv_aload_n hx hb dX0_copyFrom_67 rfl (lv_at hl 1 rfl) ?_
  refine va_get (D := (dC, dI)) (ci := 0) (v := .ref (ad (29 + 15 * i + 2))) (C := RX0) (T := TX0) (N := 11) hx hb hts iwX0_copyFrom_X0 hown hK hP (29 + 15 * i) (wl_at (by omega) (ce_9 (kd_c _ hi).1.1)) rfl 7 (by decide) (hts (.fieldLink RX0 15 "QuietStairs$Case" "box" "[I") fwX0_copyFrom_8) (fun _ h9 => h9) rfl dX0_copyFrom_68 ?_
  refine W.eq (g2 := F0 m 71 ls [.ref (ad (31 + 15 * i))]) (by rw [show 29 + 15 * i + 2 = 31 + 15 * i from by omega]) ?_
  refine lv_iload_n hx hb dX0_copyFrom_71 rfl (lv_at hl 0 rfl) ?_
  refine lv_aload_n hx hb dX0_copyFrom_72 rfl (lv_at hl 2 rfl) ?_
  refine va_get (D := (dC, dI)) (ci := 0) (v := .ref (ad (135 + 15 * i + 2))) (C := RX0) (T := TX0) (N := 11) hx hb hts iwX0_copyFrom_X0 hown hK hP (135 + 15 * i) (wl_at (by omega) (ce_9 (kd_c _ hi).2.1)) rfl 7 (by decide) (hts (.fieldLink RX0 15 "QuietStairs$Case" "box" "[I") fwX0_copyFrom_8) (fun _ h9 => h9) rfl dX0_copyFrom_73 ?_
  refine W.eq (g2 := F0 m 76 ls [.ref (ad (137 + 15 * i)), .int 1, .ref (ad (31 + 15 * i))]) (by rw [show 135 + 15 * i + 2 = 137 + 15 * i from by omega]) ?_
  refine lv_iload_n hx hb dX0_copyFrom_76 rfl (lv_at hl 0 rfl) ?_
  refine va_iald hx hb hK hP (137 + 15 * i) 0 (wl_at (by omega) (ce_20 (kd_c _ hi).2.2.2.1)) rfl (by unfold vp_in; decide) dX0_copyFrom_77 ?_
  refine lv_topi (fun x_23 ex_23 => ?_)
  have ex_23 : x_23 = v_22 (137 + 15 * i) 1 := ex_23
  rw [ev_22, upr_n (by omega), ev_20, upr_n (by omega), ev_19, upr_n (by omega), ev_16, upr_n (by omega), ev_14, upr_n (by omega), ev_12, upr_n (by omega), ev_10, upr_n (by omega), ev_8, upr_n (by omega), ev_6, upr_n (by omega), ev_4, upr_n (by omega), ev_2, upr_n (by omega)] at ex_23
  have qx_23 : x_23.toInt = (v (137 + 15 * i) (1)).toInt := congrArg Int32.toInt ex_23
  refine va_iast hx hb hK hP hD hS (31 + 15 * i) 0 (wl_at (by omega) (ce_20 (kd_c _ hi).1.2.2.1)) rfl (by unfold vp_in; decide) dX0_copyFrom_78 (fun H locs hP hD hS => ?_)
  have hP : va_P (dC, dI) vwCl ((wl ad kv cy N v_22).set (31 + 15 * i) (ad (31 + 15 * i), .inl (cy 0, 2, .inl (upd (v_22 (31 + 15 * i)) 1 x_23)))) H := hP
  have hD : va_D A ((wl ad kv cy N v_22).set (31 + 15 * i) (ad (31 + 15 * i), .inl (cy 0, 2, .inl (upd (v_22 (31 + 15 * i)) 1 x_23)))) := hD
  obtain ⟨v_24, ev_24⟩ : ∃ u : Nat → Nat → Int32, u = upr v_22 (31 + 15 * i) (upd (v_22 (31 + 15 * i)) 1 x_23) := ⟨_, rfl⟩
  have hP : va_P (dC, dI) vwCl (wl ad kv cy N v_24) H := by rw [ev_24, ← wl_put (e := _) (ce_20 (kd_c _ hi).1.2.2.1)]; exact hP
  have hD : va_D A (wl ad kv cy N v_24) := by rw [ev_24, ← wl_put (e := _) (ce_20 (kd_c _ hi).1.2.2.1)]; exact hD
  have hv : Iv v_24 := by rw [ev_24]; exact hv.put (K := 20) (kd_c _ hi).1.2.2.1 (fun h q => by simp [bd] at q)
  refine lv_aload_n hx hb dX0_copyFrom_79 rfl (lv_at hl 2 rfl) ?_
  refine va_get (D := (dC, dI)) (ci := 0) (v := .ref (ad (135 + 15 * i + 3))) (C := RX0) (T := TX0) (N := 11) hx hb hts iwX0_copyFrom_X0 hown hK hP (135 + 15 * i) (wl_at (by omega) (ce_9 (kd_c _ hi).2.1)) rfl 8 (by decide) (hts (.fieldLink RX0 20 "QuietStairs$Case" "offers" "[[I") fwX0_copyFrom_9) (fun _ h9 => h9) rfl dX0_copyFrom_80 ?_
  refine W.eq (g2 := F0 m 83 ls [.ref (ad (138 + 15 * i))]) (by rw [show 135 + 15 * i + 3 = 138 + 15 * i from by omega]) ?_
  refine lv_iload_n hx hb dX0_copyFrom_83 rfl (lv_at hl 0 rfl) ?_
  refine ya_ald hx hb hK hP (138 + 15 * i) (wl_at (by omega) (ce_11 (kd_c _ hi).2.2.2.2.1)) (by unfold vp_in; decide) dX0_copyFrom_84 ?_
  refine W.eq (g2 := F0 m 85 ls [.ref (ad (139 + 15 * i + 1))]) (by show F0 m 85 ls (.ref (ad (138 + 15 * i + 1 + 1)) :: _) = _; rw [show 138 + 15 * i + 1 + 1 = 139 + 15 * i + 1 from by omega]) ?_
  refine lv_iconst (v := 0) hx hb dX0_copyFrom_85 (by decide) ?_
  refine lv_aload_n hx hb dX0_copyFrom_86 rfl (lv_at hl 1 rfl) ?_
  refine va_get (D := (dC, dI)) (ci := 0) (v := .ref (ad (29 + 15 * i + 3))) (C := RX0) (T := TX0) (N := 11) hx hb hts iwX0_copyFrom_X0 hown hK hP (29 + 15 * i) (wl_at (by omega) (ce_9 (kd_c _ hi).1.1)) rfl 8 (by decide) (hts (.fieldLink RX0 20 "QuietStairs$Case" "offers" "[[I") fwX0_copyFrom_9) (fun _ h9 => h9) rfl dX0_copyFrom_87 ?_
  refine W.eq (g2 := F0 m 90 ls [.ref (ad (32 + 15 * i)), .int 0, .ref (ad (139 + 15 * i + 1))]) (by rw [show 29 + 15 * i + 3 = 32 + 15 * i from by omega]) ?_
  refine lv_iload_n hx hb dX0_copyFrom_90 rfl (lv_at hl 0 rfl) ?_
  refine ya_ald hx hb hK hP (32 + 15 * i) (wl_at (by omega) (ce_11 (kd_c _ hi).1.2.2.2.1)) (by unfold vp_in; decide) dX0_copyFrom_91 ?_
  refine W.eq (g2 := F0 m 92 ls [.ref (ad (33 + 15 * i + 1)), .int 0, .ref (ad (139 + 15 * i + 1))]) (by show F0 m 92 ls (.ref (ad (32 + 15 * i + 1 + 1)) :: _) = _; rw [show 32 + 15 * i + 1 + 1 = 33 + 15 * i + 1 from by omega]) ?_
  refine lv_iconst (v := 0) hx hb dX0_copyFrom_92 (by decide) ?_
  refine lv_aload_n hx hb dX0_copyFrom_93 rfl (lv_at hl 1 rfl) ?_
  refine va_get (D := (dC, dI)) (ci := 0) (v := .int (v_24 (29 + 15 * i) 2)) (C := RX0) (T := TX0) (N := 11) hx hb hts iwX0_copyFrom_X0 hown hK hP (29 + 15 * i) (wl_at (by omega) (ce_9 (kd_c _ hi).1.1)) rfl 2 (by decide) (hts (.fieldLink RX0 40 "QuietStairs$Case" "roundsOver" "I") fwX0_copyFrom_3) (fun _ h9 => h9) rfl dX0_copyFrom_94 ?_
  refine lv_topi (fun x_25 ex_25 => ?_)
  have bzx_25 : 0 ≤ x_25.toInt ∧ x_25.toInt ≤ 5 := by rw [ex_25]; exact hv.at (K := 9) (kd_c _ hi).1.1 rfl
  rw [ev_24, upr_n (by omega), ev_22, upr_n (by omega), ev_20, upr_n (by omega), ev_19, upr_n (by omega), ev_16, upr_n (by omega), ev_14, upr_n (by omega), ev_12, upr_s, pk_un (by decide), ev_10, upr_s, pk_un (by decide), ev_8, upr_s, pk_un (by decide), ev_6, upr_s, pk_us] at ex_25
  obtain rfl : x_5 = x_25 := ex_25.symm
  have hn_26 := t_n (x := x_5) (m := 5) ⟨by omega, by omega⟩
  refine va_copyi hx hb (hml.trans hl.1.symm) hown (hts (.methodLink RX0 81 arraycopyName) fwX0_copyFrom_10) (hts (.native arraycopyName) fwX0_copyFrom_11) (hts (.static arraycopyName) fwX0_copyFrom_12) (hts (.initialized "java/lang/System") fwX0_copyFrom_13) hK hP hD hS (139 + 15 * i + 1) (33 + 15 * i + 1) 0 0 (wl_at (by omega) (ce_12 (kd_o _ hi 1 (by decide)).2.1)) (wl_at (by omega) (ce_12 (kd_o _ hi 1 (by decide)).1.1)) rfl rfl rfl (by decide) (by decide) hn_26.1 (by rw [sb_cl0]; have := hn_26.2; omega) (by rw [sb_cl0]; have := hn_26.2; omega) (fun i hi => rfl) (Nat.le_of_ble_eq_true rfl) (Nat.le_of_ble_eq_true rfl) dX0_copyFrom_97 (fun H locs hP hD hS => ?_)
  obtain ⟨v_27, ev_27⟩ : ∃ u : Nat → Nat → Int32, u = upr v_24 (33 + 15 * i + 1) (va_cpy (v_24 (139 + 15 * i + 1)) (v_24 (33 + 15 * i + 1)) (0 : Int32).toNatClampNeg (0 : Int32).toNatClampNeg x_5.toNatClampNeg) := ⟨_, rfl⟩
  have hP : va_P (dC, dI) vwCl (wl ad kv cy N v_27) H := by rw [ev_27, ← wl_put (e := _) (ce_12 (kd_o _ hi 1 (by decide)).1.1)]; exact hP
  have hD : va_D A (wl ad kv cy N v_27) := by rw [ev_27, ← wl_put (e := _) (ce_12 (kd_o _ hi 1 (by decide)).1.1)]; exact hD
  have hv : Iv v_27 := by rw [ev_27]; exact hv.row (K := 12) (kd_o _ hi 1 (by decide)).1.1 (fun j => rfl)
  have hs_27 : v_24 (139 + 15 * i + 1) = v (139 + 15 * i + 1) := by rw [ev_24, upr_n (by omega), ev_22, upr_n (by omega), ev_20, upr_n (by omega), ev_19, upr_n (by omega), ev_16, upr_n (by omega), ev_14, upr_n (by omega), ev_12, upr_n (by omega), ev_10, upr_n (by omega), ev_8, upr_n (by omega), ev_6, upr_n (by omega), ev_4, upr_n (by omega), ev_2, upr_n (by omega)]
  rw [hs_27] at ev_27
  refine lv_aload_n hx hb dX0_copyFrom_100 rfl (lv_at hl 2 rfl) ?_
  refine va_get (D := (dC, dI)) (ci := 0) (v := .ref (ad (135 + 15 * i + 6))) (C := RX0) (T := TX0) (N := 11) hx hb hts iwX0_copyFrom_X0 hown hK hP (135 + 15 * i) (wl_at (by omega) (ce_9 (kd_c _ hi).2.1)) rfl 9 (by decide) (hts (.fieldLink RX0 23 "QuietStairs$Case" "logs" "[[I") fwX0_copyFrom_14) (fun _ h9 => h9) rfl dX0_copyFrom_101 ?_
  refine W.eq (g2 := F0 m 104 ls [.ref (ad (141 + 15 * i))]) (by rw [show 135 + 15 * i + 6 = 141 + 15 * i from by omega]) ?_
  refine lv_iload_n hx hb dX0_copyFrom_104 rfl (lv_at hl 0 rfl) ?_
  refine ya_ald hx hb hK hP (141 + 15 * i) (wl_at (by omega) (ce_13 (kd_c _ hi).2.2.2.2.2.1)) (by unfold vp_in; decide) dX0_copyFrom_105 ?_
  refine W.eq (g2 := F0 m 106 ls [.ref (ad (142 + 15 * i + 1))]) (by show F0 m 106 ls (.ref (ad (141 + 15 * i + 1 + 1)) :: _) = _; rw [show 141 + 15 * i + 1 + 1 = 142 + 15 * i + 1 from by omega]) ?_
  refine lv_iconst (v := 0) hx hb dX0_copyFrom_106 (by decide) ?_
  refine lv_aload_n hx hb dX0_copyFrom_107 rfl (lv_at hl 1 rfl) ?_
  refine va_get (D := (dC, dI)) (ci := 0) (v := .ref (ad (29 + 15 * i + 6))) (C := RX0) (T := TX0) (N := 11) hx hb hts iwX0_copyFrom_X0 hown hK hP (29 + 15 * i) (wl_at (by omega) (ce_9 (kd_c _ hi).1.1)) rfl 9 (by decide) (hts (.fieldLink RX0 23 "QuietStairs$Case" "logs" "[[I") fwX0_copyFrom_14) (fun _ h9 => h9) rfl dX0_copyFrom_108 ?_
  refine W.eq (g2 := F0 m 111 ls [.ref (ad (35 + 15 * i)), .int 0, .ref (ad (142 + 15 * i + 1))]) (by rw [show 29 + 15 * i + 6 = 35 + 15 * i from by omega]) ?_
  refine lv_iload_n hx hb dX0_copyFrom_111 rfl (lv_at hl 0 rfl) ?_
  refine ya_ald hx hb hK hP (35 + 15 * i) (wl_at (by omega) (ce_13 (kd_c _ hi).1.2.2.2.2.1)) (by unfold vp_in; decide) dX0_copyFrom_112 ?_
  refine W.eq (g2 := F0 m 113 ls [.ref (ad (36 + 15 * i + 1)), .int 0, .ref (ad (142 + 15 * i + 1))]) (by show F0 m 113 ls (.ref (ad (35 + 15 * i + 1 + 1)) :: _) = _; rw [show 35 + 15 * i + 1 + 1 = 36 + 15 * i + 1 from by omega]) ?_
  refine lv_iconst (v := 0) hx hb dX0_copyFrom_113 (by decide) ?_
  refine lv_bipush (v := 24) hx hb dX0_copyFrom_114 (by decide) ?_
  refine va_copyi hx hb (hml.trans hl.1.symm) hown (hts (.methodLink RX0 81 arraycopyName) fwX0_copyFrom_10) (hts (.native arraycopyName) fwX0_copyFrom_11) (hts (.static arraycopyName) fwX0_copyFrom_12) (hts (.initialized "java/lang/System") fwX0_copyFrom_13) hK hP hD hS (142 + 15 * i + 1) (36 + 15 * i + 1) 0 0 (wl_at (by omega) (ce_14 (kd_o _ hi 1 (by decide)).2.2)) (wl_at (by omega) (ce_14 (kd_o _ hi 1 (by decide)).1.2)) rfl rfl rfl (by decide) (by decide) (by decide) (by decide) (by decide) (fun i hi => rfl) (Nat.le_of_ble_eq_true rfl) (Nat.le_of_ble_eq_true rfl) dX0_copyFrom_116 (fun H locs hP hD hS => ?_)
  obtain ⟨v_28, ev_28⟩ : ∃ u : Nat → Nat → Int32, u = upr v_27 (36 + 15 * i + 1) (va_cpy (v_27 (142 + 15 * i + 1)) (v_27 (36 + 15 * i + 1)) (0 : Int32).toNatClampNeg (0 : Int32).toNatClampNeg (24 : Int32).toNatClampNeg) := ⟨_, rfl⟩
  have hP : va_P (dC, dI) vwCl (wl ad kv cy N v_28) H := by rw [ev_28, ← wl_put (e := _) (ce_14 (kd_o _ hi 1 (by decide)).1.2)]; exact hP
  have hD : va_D A (wl ad kv cy N v_28) := by rw [ev_28, ← wl_put (e := _) (ce_14 (kd_o _ hi 1 (by decide)).1.2)]; exact hD
  have hv : Iv v_28 := by rw [ev_28]; exact hv.row (K := 14) (kd_o _ hi 1 (by decide)).1.2 (fun j => rfl)
  have ev_28 : v_28 = upr v_27 (36 + 15 * i + 1) (va_cpy (v_27 (142 + 15 * i + 1)) (v_27 (36 + 15 * i + 1)) (0 : Int32).toNatClampNeg (0 : Int32).toNatClampNeg 24) := ev_28
  have hs_28 : v_27 (142 + 15 * i + 1) = v (142 + 15 * i + 1) := by rw [ev_27, upr_n (by omega), ev_24, upr_n (by omega), ev_22, upr_n (by omega), ev_20, upr_n (by omega), ev_19, upr_n (by omega), ev_16, upr_n (by omega), ev_14, upr_n (by omega), ev_12, upr_n (by omega), ev_10, upr_n (by omega), ev_8, upr_n (by omega), ev_6, upr_n (by omega), ev_4, upr_n (by omega), ev_2, upr_n (by omega)]
  rw [hs_28] at ev_28
  refine lv_iinc (v := 2) (lv' := [(2, .int 2), (0, .ref (ad (29 + 15 * i))), (1, .ref (ad (135 + 15 * i)))]) hx hb dX0_copyFrom_119 hl (k := 0) rfl (by decide) (by decide) rfl (fun ls hl => ?_)
  refine lv_goto (tgt := 50) hx hb dX0_copyFrom_122 (by decide) ?_
  refine lv_iload_n hx hb dX0_copyFrom_50 rfl (lv_at hl 0 rfl) ?_
  refine lv_iconst (v := 2) hx hb dX0_copyFrom_51 (by decide) ?_
  refine lv_icmp_ge (tgt := 125) hx hb dX0_copyFrom_52 (by decide) (fun _ => ?_) (fun c9 => absurd c9 (by decide))
  refine lv_iconst (v := 0) hx hb dX0_copyFrom_125 (by decide) ?_
  refine lv_istore_n (lv' := [(2, .int 0), (0, .ref (ad (29 + 15 * i))), (1, .ref (ad (135 + 15 * i)))]) hx hb dX0_copyFrom_126 rfl hl (by decide) rfl (fun ls hl => ?_)
  have hc_29 : ∀ (n : Nat) (y29_2 : Int32) (u29 : Nat → Nat → Int32) (H : Heap) (locs : List Loc), 0 ≤ y29_2.toInt → y29_2.toInt ≤ 5 → (∀ k j : Nat, u29 k j = if 39 + 15 * i ≤ k ∧ (k : Int) < 39 + 15 * (i : Int) + y29_2.toInt ∧ j < 5 then v_28 (k + 106) j else v_28 k j) → (y29_2.toInt ≤ (v (135 + 15 * i) 5).toInt) → (5 - y29_2.toInt).toNat < n → Iv u29 → va_P (dC, dI) vwCl (wl ad kv cy N u29) H → va_D A (wl ad kv cy N u29) → va_S A s.heap H locs → ∀ ls : Array Slot, lv_has ls 3 [(2, .int y29_2), (0, .ref (ad (29 + 15 * i))), (1, .ref (ad (135 + 15 * i)))] → W p l e (headSpec wsX0_copyFrom ({ frames := 1, cells := 0, slots := 0, locals := 64 })).room s m [Value.ref (ad (29 + 15 * i)), Value.ref (ad (135 + 15 * i))].toArray below meth c H locs 0 0 (MQ below (va_Qv (fun (u : Nat → Nat → Int32) => Iv u ∧ (∀ o j : Nat, lvC (v (135 + 15 * i)) o j → u (29 + 15 * i + o) j = v (135 + 15 * i + o) j) ∧ (∀ k : Nat, (k < 29 + 15 * i ∨ 44 + 15 * i ≤ k) → u k = v k)) (fun u t => ex_Pst dC dI A (wl ad kv cy N u) t) A) [Value.ref (ad (29 + 15 * i)), Value.ref (ad (135 + 15 * i))].toArray s 0 0 A) (F0 m 127 ls []) := by
    intro n
    induction n with
    | zero =>
      intro y29_2 u29 H locs ay29_2 by29_2 hi29_0 hi29_1 hm_29 hv hP hD hS ls hl
      exact absurd hm_29 (by omega)
    | succ n ih_29 =>
      intro y29_2 u29 H locs ay29_2 by29_2 hi29_0 hi29_1 hm_29 hv hP hD hS ls hl
      refine lv_iload_n hx hb dX0_copyFrom_127 rfl (lv_at hl 0 rfl) ?_
      refine lv_aload_n hx hb dX0_copyFrom_128 rfl (lv_at hl 1 rfl) ?_
      refine va_get (D := (dC, dI)) (ci := 0) (v := .int (u29 (29 + 15 * i) 5)) (C := RX0) (T := TX0) (N := 11) hx hb hts iwX0_copyFrom_X0 hown hK hP (29 + 15 * i) (wl_at (by omega) (ce_9 (kd_c _ hi).1.1)) rfl 5 (by decide) (hts (.fieldLink RX0 49 "QuietStairs$Case" "termCount" "I") fwX0_copyFrom_6) (fun _ h9 => h9) rfl dX0_copyFrom_129 ?_
      refine lv_topi (fun x_30 ex_30 => ?_)
      have bzx_30 : 0 ≤ x_30.toInt ∧ x_30.toInt ≤ 5 := by rw [ex_30]; exact hv.at (K := 9) (kd_c _ hi).1.1 rfl
      have qx_30 : x_30.toInt = (u29 (29 + 15 * i) (5)).toInt := congrArg Int32.toInt ex_30
      have hkx_30 : x_30 = v_28 (29 + 15 * i) 5 := by rw [ex_30, hi29_0, if_neg (by omega)]
      have hmx_30 : x_30.toInt = (v (135 + 15 * i) 5).toInt := by rw [hkx_30, ev_28, upr_n (by omega), ev_27, upr_n (by omega), ev_24, upr_n (by omega), ev_22, upr_n (by omega), ev_20, upr_n (by omega), ev_19, upr_n (by omega), ev_16, upr_n (by omega), ev_14, upr_n (by omega), ev_12, upr_s, pk_us, ex_11]
      refine lv_icmp_ge (tgt := 156) hx hb dX0_copyFrom_132 (by decide) (fun c_31 => ?_) (fun c_31 => ?_)
      · have tc_31 : y29_2.toInt ≥ x_30.toInt := Int32.le_iff_toInt_le.mp c_31
        have hy : y29_2.toInt = (v (135 + 15 * i) 5).toInt := by omega
        have hz : ∀ k j : Nat, v_28 k j = if k = 36 + 15 * i + 1 ∧ j < 24 then v (142 + 15 * i + 1) j else if k = 33 + 15 * i + 1 ∧ j < (v (135 + 15 * i) 2).toNatClampNeg then v (139 + 15 * i + 1) j else if k = 31 + 15 * i ∧ j = 1 then v (137 + 15 * i) 1 else if k = 30 + 15 * i ∧ j = 1 then v (136 + 15 * i) 1 else if k = 36 + 15 * i + 0 ∧ j < 24 then v (142 + 15 * i + 0) j else if k = 33 + 15 * i + 0 ∧ j < (v (135 + 15 * i) 2).toNatClampNeg then v (139 + 15 * i + 0) j else if k = 31 + 15 * i ∧ j = 0 then v (137 + 15 * i) 0 else if k = 30 + 15 * i ∧ j = 0 then v (136 + 15 * i) 0 else if k = 29 + 15 * i ∧ j = 5 then v (135 + 15 * i) 5 else if k = 29 + 15 * i ∧ j = 4 then v (135 + 15 * i) 4 else if k = 29 + 15 * i ∧ j = 3 then v (135 + 15 * i) 3 else if k = 29 + 15 * i ∧ j = 2 then v (135 + 15 * i) 2 else if k = 29 + 15 * i ∧ j = 1 then v (135 + 15 * i) 1 else if k = 29 + 15 * i ∧ j = 0 then v (135 + 15 * i) 0 else v k j := fun k j => by rw [ev_28, up3, ev_27, up3, ev_24, up2, ev_22, up2, ev_20, up3, ev_19, up3, ev_16, up2, ev_14, up2, ev_12, up2, ev_10, up2, ev_8, up2, ev_6, up2, ev_4, up2, ev_2, up2, ex_5, ex_23, ex_21, ex_15, ex_13, ex_11, ex_9, ex_7, ex_3, ex_1]
        have hpost : (∀ o j : Nat, lvC (v (135 + 15 * i)) o j → u29 (29 + 15 * i + o) j = v (135 + 15 * i + o) j) ∧ (∀ k : Nat, (k < 29 + 15 * i ∨ 44 + 15 * i ≤ k) → u29 k = v k) := by
          refine ⟨fun o j hq => ?_, fun k hk => funext fun j => ?_⟩
          · unfold lvC at hq
            rcases hq with ⟨rfl, hj⟩ | ⟨rfl, hj⟩ | ⟨rfl, hj⟩ | ⟨(rfl | rfl), hj⟩ | ⟨(rfl | rfl), hj⟩ | ⟨ho, ho2, ho3, hj⟩
            · rw [hi29_0, if_neg (by omega), hz]
              rcases (show j = 0 ∨ j = 1 ∨ j = 2 ∨ j = 3 ∨ j = 4 ∨ j = 5 by omega) with rfl | rfl | rfl | rfl | rfl | rfl
              · rw [if_neg (by omega), if_neg (by omega), if_neg (by omega), if_neg (by omega), if_neg (by omega), if_neg (by omega), if_neg (by omega), if_neg (by omega), if_neg (by omega), if_neg (by omega), if_neg (by omega), if_neg (by omega), if_neg (by omega), if_pos ⟨by omega, rfl⟩]
                exact congrFun (congrArg v (by omega)) _
              · rw [if_neg (by omega), if_neg (by omega), if_neg (by omega), if_neg (by omega), if_neg (by omega), if_neg (by omega), if_neg (by omega), if_neg (by omega), if_neg (by omega), if_neg (by omega), if_neg (by omega), if_neg (by omega), if_pos ⟨by omega, rfl⟩]
                exact congrFun (congrArg v (by omega)) _
              · rw [if_neg (by omega), if_neg (by omega), if_neg (by omega), if_neg (by omega), if_neg (by omega), if_neg (by omega), if_neg (by omega), if_neg (by omega), if_neg (by omega), if_neg (by omega), if_neg (by omega), if_pos ⟨by omega, rfl⟩]
                exact congrFun (congrArg v (by omega)) _
              · rw [if_neg (by omega), if_neg (by omega), if_neg (by omega), if_neg (by omega), if_neg (by omega), if_neg (by omega), if_neg (by omega), if_neg (by omega), if_neg (by omega), if_neg (by omega), if_pos ⟨by omega, rfl⟩]
                exact congrFun (congrArg v (by omega)) _
              · rw [if_neg (by omega), if_neg (by omega), if_neg (by omega), if_neg (by omega), if_neg (by omega), if_neg (by omega), if_neg (by omega), if_neg (by omega), if_neg (by omega), if_pos ⟨by omega, rfl⟩]
                exact congrFun (congrArg v (by omega)) _
              · rw [if_neg (by omega), if_neg (by omega), if_neg (by omega), if_neg (by omega), if_neg (by omega), if_neg (by omega), if_neg (by omega), if_neg (by omega), if_pos ⟨by omega, rfl⟩]
                exact congrFun (congrArg v (by omega)) _
            · rw [hi29_0, if_neg (by omega), hz]
              rcases (show j = 0 ∨ j = 1 by omega) with rfl | rfl
              · rw [if_neg (by omega), if_neg (by omega), if_neg (by omega), if_neg (by omega), if_neg (by omega), if_neg (by omega), if_neg (by omega), if_pos ⟨by omega, rfl⟩]
                exact congrFun (congrArg v (by omega)) _
              · rw [if_neg (by omega), if_neg (by omega), if_neg (by omega), if_pos ⟨by omega, rfl⟩]
                exact congrFun (congrArg v (by omega)) _
            · rw [hi29_0, if_neg (by omega), hz]
              rcases (show j = 0 ∨ j = 1 by omega) with rfl | rfl
              · rw [if_neg (by omega), if_neg (by omega), if_neg (by omega), if_neg (by omega), if_neg (by omega), if_neg (by omega), if_pos ⟨by omega, rfl⟩]
                exact congrFun (congrArg v (by omega)) _
              · rw [if_neg (by omega), if_neg (by omega), if_pos ⟨by omega, rfl⟩]
                exact congrFun (congrArg v (by omega)) _
            · rw [hi29_0, if_neg (by omega), hz, if_neg (by omega), if_neg (by omega), if_neg (by omega), if_neg (by omega), if_neg (by omega), if_pos ⟨by omega, by have z8 := t_nn (x := v (135 + 15 * i) 2) hb2.1; omega⟩]
              exact congrFun (congrArg v (by omega)) _
            · rw [hi29_0, if_neg (by omega), hz, if_neg (by omega), if_pos ⟨by omega, by have z8 := t_nn (x := v (135 + 15 * i) 2) hb2.1; omega⟩]
              exact congrFun (congrArg v (by omega)) _
            · rw [hi29_0, if_neg (by omega), hz, if_neg (by omega), if_neg (by omega), if_neg (by omega), if_neg (by omega), if_pos ⟨by omega, hj⟩]
              exact congrFun (congrArg v (by omega)) _
            · rw [hi29_0, if_neg (by omega), hz, if_pos ⟨by omega, hj⟩]
              exact congrFun (congrArg v (by omega)) _
            · rw [hi29_0, if_pos (by omega), show 29 + 15 * i + o + 106 = 135 + 15 * i + o from by omega, hz, if_neg (by omega), if_neg (by omega), if_neg (by omega), if_neg (by omega), if_neg (by omega), if_neg (by omega), if_neg (by omega), if_neg (by omega), if_neg (by omega), if_neg (by omega), if_neg (by omega), if_neg (by omega), if_neg (by omega), if_neg (by omega)]
          · rw [hi29_0, if_neg (by omega), hz, if_neg (by omega), if_neg (by omega), if_neg (by omega), if_neg (by omega), if_neg (by omega), if_neg (by omega), if_neg (by omega), if_neg (by omega), if_neg (by omega), if_neg (by omega), if_neg (by omega), if_neg (by omega), if_neg (by omega), if_neg (by omega)]
        exact W.vret hx hb hr (fun t ht hW => ⟨⟨u29, rfl, ⟨hv, hpost⟩, by rw [ht]; exact hP, hD⟩, hS.F ht⟩) hS.2.2 dX0_copyFrom_156
      · have tc_31 : y29_2.toInt < x_30.toInt := Int32.lt_iff_toInt_lt.mp (Int32.not_le.mp c_31)
        refine lv_aload_n hx hb dX0_copyFrom_135 rfl (lv_at hl 1 rfl) ?_
        refine va_get (D := (dC, dI)) (ci := 0) (v := .ref (ad (29 + 15 * i + 9))) (C := RX0) (T := TX0) (N := 11) hx hb hts iwX0_copyFrom_X0 hown hK hP (29 + 15 * i) (wl_at (by omega) (ce_9 (kd_c _ hi).1.1)) rfl 10 (by decide) (hts (.fieldLink RX0 28 "QuietStairs$Case" "terms" "[LQuietStairs$Term;") fwX0_copyFrom_15) (fun _ h9 => h9) rfl dX0_copyFrom_136 ?_
        refine W.eq (g2 := F0 m 139 ls [.ref (ad (38 + 15 * i))]) (by rw [show 29 + 15 * i + 9 = 38 + 15 * i from by omega]) ?_
        refine lv_iload_n hx hb dX0_copyFrom_139 rfl (lv_at hl 0 rfl) ?_
        have zn_y29_2 : (y29_2.toNatClampNeg : Int) = y29_2.toInt := t_nn (by omega)
        have hx_32 : y29_2.toNatClampNeg < 5 := by omega
        refine va_aldq hx hb hK hP (38 + 15 * i) 4 (wl_at (by omega) (ce_15 (kd_c _ hi).1.2.2.2.2.2)) rfl (vp_in_iff.mpr ⟨by omega, by omega⟩) dX0_copyFrom_140 ?_
        refine W.eq (g2 := F0 m 141 ls [.ref (ad (39 + 15 * i + y29_2.toNatClampNeg))]) (by rw [if_pos hx_32, show 38 + 15 * i + 1 + y29_2.toNatClampNeg = 39 + 15 * i + y29_2.toNatClampNeg from by omega]; rfl) ?_
        refine lv_aload_n hx hb dX0_copyFrom_141 rfl (lv_at hl 2 rfl) ?_
        refine va_get (D := (dC, dI)) (ci := 0) (v := .ref (ad (135 + 15 * i + 9))) (C := RX0) (T := TX0) (N := 11) hx hb hts iwX0_copyFrom_X0 hown hK hP (135 + 15 * i) (wl_at (by omega) (ce_9 (kd_c _ hi).2.1)) rfl 10 (by decide) (hts (.fieldLink RX0 28 "QuietStairs$Case" "terms" "[LQuietStairs$Term;") fwX0_copyFrom_15) (fun _ h9 => h9) rfl dX0_copyFrom_142 ?_
        refine W.eq (g2 := F0 m 145 ls [.ref (ad (144 + 15 * i)), .ref (ad (39 + 15 * i + y29_2.toNatClampNeg))]) (by rw [show 135 + 15 * i + 9 = 144 + 15 * i from by omega]) ?_
        refine lv_iload_n hx hb dX0_copyFrom_145 rfl (lv_at hl 0 rfl) ?_
        refine va_aldq hx hb hK hP (144 + 15 * i) 4 (wl_at (by omega) (ce_15 (kd_c _ hi).2.2.2.2.2.2)) rfl (vp_in_iff.mpr ⟨by omega, by omega⟩) dX0_copyFrom_146 ?_
        refine W.eq (g2 := F0 m 147 ls [.ref (ad (145 + 15 * i + y29_2.toNatClampNeg)), .ref (ad (39 + 15 * i + y29_2.toNatClampNeg))]) (by rw [if_pos hx_32, show 144 + 15 * i + 1 + y29_2.toNatClampNeg = 145 + 15 * i + y29_2.toNatClampNeg from by omega]; rfl) ?_
        refine yw_v (w1 := fun (u : Nat → Nat → Int32) => wl ad kv cy N u) hD hS hA (va_runV (As := [.ref (ad (145 + 15 * i + y29_2.toNatClampNeg))]) (rest := []) ⟨hx, hb, hml, hown, hts⟩ (e_X6_copyFrom_a l dC dI cy _ ad kv N hN u29 hv i hi y29_2.toNatClampNeg hx_32 hN2) (cwV 1 hts gX0_copyFrom_X6_copyFrom rfl rfl rfl hd_V_X6_copyFrom_1 ⟨Nat.le_of_ble_eq_true rfl, Nat.le_of_ble_eq_true rfl⟩) (yw_preV hE hK hP hD (ci := 6) (q := (RX6, TX6, 5)) (q0 := (39 + 15 * i + y29_2.toNatClampNeg)) rfl (wl_at (by omega) (ce_16 (kd_t _ hi _ hx_32).1))) rfl rfl hl.1 rfl (lv_room (Nat.le_of_ble_eq_true rfl)) dX0_copyFrom_147 ⟨Nat.le_of_ble_eq_true rfl, Nat.le_of_ble_eq_true rfl⟩) (fun v_33 H locs hw_33 hP hD hS => ?_)
        obtain ⟨hv, hw_33⟩ := hw_33
        obtain ⟨x_34, ex_34⟩ : ∃ y : Int32, y = y29_2 + 1 := ⟨_, rfl⟩
        refine lv_iinc (v := x_34) (lv' := [(2, .int x_34), (0, .ref (ad (29 + 15 * i))), (1, .ref (ad (135 + 15 * i)))]) hx hb dX0_copyFrom_150 hl (k := 0) rfl (by rw [ex_34]; rfl) (by decide) rfl (fun ls hl => ?_)
        have tx_34 : x_34.toInt = y29_2.toInt + (1 : Int32).toInt := by rw [ex_34]; exact t_add ⟨by omega, by omega⟩
        refine lv_goto (tgt := 127) hx hb dX0_copyFrom_153 (by decide) ?_
        exact ih_29 x_34 v_33 _ _ (by omega) (by omega) (fun k j => by rw [hw_33 k j]; by_cases h : k = 39 + 15 * i + y29_2.toNatClampNeg ∧ j < 5; rw [if_pos h, if_pos (by omega), hi29_0, if_neg (by omega), h.1, show 39 + 15 * i + y29_2.toNatClampNeg + 106 = 145 + 15 * i + y29_2.toNatClampNeg from by omega]; rw [if_neg h, hi29_0 k j]; (repeat' split); all_goals first | rfl | (exfalso; omega)) (by omega) (by omega) hv hP hD hS ls (lv_sub hl [0, 1, 2] rfl)
  exact hc_29 ((5 - (0 : Int32).toInt).toNat + 1) 0 v_28 _ _ (by omega) (by omega) (fun k j => by rw [if_neg (by omega)]) (by omega) (by omega) hv hP hD hS ls (lv_sub hl [0, 1, 2] rfl)

set_option maxHeartbeats 4000000 in
set_option maxRecDepth 100000 in
theorem e_X0_copyFrom_b (l : Launch) (dC : Nat → ClassId) (dI : Nat → Nat → Nat) (cy : Nat → ClassId) (sz : Nat) (ad : Nat → Nat) (kv : Value) (N : Nat) (hN : 119 ≤ N) (v : Nat → Nat → Int32) (hv : Iv v) (i : Nat) (hi : i < 6) (hN2 : 225 ≤ N) : Met l yX0_copyFrom wsX0_copyFrom ({ frames := 1, cells := 0, slots := 0, locals := 64 }) (va_Pc [.ref (ad (135 + 15 * i)), .ref (ad (29 + 15 * i))] (ex_Pre dC dI cy sz (wl ad kv cy N v))) (va_Qv (fun (u : Nat → Nat → Int32) => Iv u ∧ (∀ o j : Nat, lvC (v (29 + 15 * i)) o j → u (135 + 15 * i + o) j = v (29 + 15 * i + o) j) ∧ (∀ k : Nat, (k < 135 + 15 * i ∨ 150 + 15 * i ≤ k) → u k = v k)) (fun u t => ex_Pst dC dI (va_A (wl ad kv cy N v) sz) (wl ad kv cy N u) t) (va_A (wl ad kv cy N v) sz)) 0 0 (va_A (wl ad kv cy N v) sz) := by
  refine Met.ofW (cc := cX0_copyFrom) (maxL := 3) (ret := none) (by decide) rfl ?_
  intro p e s m args below meth c s₁ B hml hv
  obtain ⟨rfl, hsz, hE, hP, hK, hD0⟩ := hv
  have hx := B.exec
  have hb := B.bytes
  have hr := B.returns
  have hts := atoms_spec (ws := wsX0_copyFrom) B.pre
  have hown : s.vm.findClass RX0 = some m.cls := findClass_of_methodNamed B.named
  have hlocks := B.notSynchronized
  subst hsz
  have hD := hD0.self (sz := s.heap.size)
  generalize hAe : va_A (wl ad kv cy N v) s.heap.size = A at hD ⊢
  have hA : ∀ q : Nat, s.heap.size ≤ q → A q := fun q h => by rw [← hAe]; exact Or.inr h
  have hS : va_S A s.heap s.heap [] := va_S.rf
  have hP : va_P (dC, dI) vwCl (wl ad kv cy N v) s.heap := hP
  have hl := lv_entry ([.ref (ad (135 + 15 * i)), .ref (ad (29 + 15 * i))]) (n := 3) (Nat.le_of_ble_eq_true rfl)
  rw [lg_entry_eq]
  generalize (lg_sl ([.ref (ad (135 + 15 * i)), .ref (ad (29 + 15 * i))]) ++ List.replicate (3 - (lg_sl ([.ref (ad (135 + 15 * i)), .ref (ad (29 + 15 * i))])).length) Slot.unset).toArray = ls at hl ⊢
  have hl : lv_has ls 3 [(0, .ref (ad (135 + 15 * i))), (1, .ref (ad (29 + 15 * i)))] := hl
  have hv0 := hv
  have hb5 := hv.at (k := 29 + 15 * i) (j := 5) (K := 9) (kd_c _ hi).1.1 rfl
  have hb2 := hv.at (k := 29 + 15 * i) (j := 2) (K := 9) (kd_c _ hi).1.1 rfl
  refine lv_aload_n hx hb dX0_copyFrom_0 rfl (lv_at hl 0 rfl) ?_
  refine lv_aload_n hx hb dX0_copyFrom_1 rfl (lv_at hl 1 rfl) ?_
  refine va_get (D := (dC, dI)) (ci := 0) (v := .int (v (29 + 15 * i) 0)) (C := RX0) (T := TX0) (N := 11) hx hb hts iwX0_copyFrom_X0 hown hK hP (29 + 15 * i) (wl_at (by omega) (ce_9 (kd_c _ hi).1.1)) rfl 0 (by decide) (hts (.fieldLink RX0 33 "QuietStairs$Case" "state" "I") fwX0_copyFrom_1) (fun _ h9 => h9) rfl dX0_copyFrom_2 ?_
  refine lv_topi (fun x_1 ex_1 => ?_)
  have qx_1 : x_1.toInt = (v (29 + 15 * i) (0)).toInt := congrArg Int32.toInt ex_1
  refine va_put (D := (dC, dI)) (ci := 0) (v := .int x_1) (ty := .int) (C := RX0) (T := TX0) (N := 11) hx hb hts iwX0_copyFrom_X0 tyX0 tyX0_ok nmX0 hown hK hP hD hS (135 + 15 * i) (wl_at (by omega) (ce_9 (kd_c _ hi).2.1)) rfl 0 (by decide) (hts (.fieldLink RX0 33 "QuietStairs$Case" "state" "I") fwX0_copyFrom_1) (fun _ h9 => h9) rfl (by decide +kernel) rfl rfl (Nat.le_of_ble_eq_true rfl) dX0_copyFrom_5 (fun H locs hP hD hS => ?_)
  obtain ⟨v_2, ev_2⟩ : ∃ u : Nat → Nat → Int32, u = upr v (135 + 15 * i) (upd (v (135 + 15 * i)) 0 x_1) := ⟨_, rfl⟩
  have hP : va_P (dC, dI) vwCl (wl ad kv cy N v_2) H := by rw [ev_2, ← wl_put (e := _) (ce_9 (kd_c _ hi).2.1)]; exact hP
  have hD : va_D A (wl ad kv cy N v_2) := by rw [ev_2, ← wl_put (e := _) (ce_9 (kd_c _ hi).2.1)]; exact hD
  have hv : Iv v_2 := by rw [ev_2]; exact hv.put (K := 9) (kd_c _ hi).2.1 (fun h q => by simp [bd] at q)
  refine lv_aload_n hx hb dX0_copyFrom_8 rfl (lv_at hl 0 rfl) ?_
  refine lv_aload_n hx hb dX0_copyFrom_9 rfl (lv_at hl 1 rfl) ?_
  refine va_get (D := (dC, dI)) (ci := 0) (v := .int (v_2 (29 + 15 * i) 1)) (C := RX0) (T := TX0) (N := 11) hx hb hts iwX0_copyFrom_X0 hown hK hP (29 + 15 * i) (wl_at (by omega) (ce_9 (kd_c _ hi).1.1)) rfl 1 (by decide) (hts (.fieldLink RX0 37 "QuietStairs$Case" "sum" "I") fwX0_copyFrom_2) (fun _ h9 => h9) rfl dX0_copyFrom_10 ?_
  refine lv_topi (fun x_3 ex_3 => ?_)
  rw [ev_2, upr_n (by omega)] at ex_3
  have qx_3 : x_3.toInt = (v (29 + 15 * i) (1)).toInt := congrArg Int32.toInt ex_3
  refine va_put (D := (dC, dI)) (ci := 0) (v := .int x_3) (ty := .int) (C := RX0) (T := TX0) (N := 11) hx hb hts iwX0_copyFrom_X0 tyX0 tyX0_ok nmX0 hown hK hP hD hS (135 + 15 * i) (wl_at (by omega) (ce_9 (kd_c _ hi).2.1)) rfl 1 (by decide) (hts (.fieldLink RX0 37 "QuietStairs$Case" "sum" "I") fwX0_copyFrom_2) (fun _ h9 => h9) rfl (by decide +kernel) rfl rfl (Nat.le_of_ble_eq_true rfl) dX0_copyFrom_13 (fun H locs hP hD hS => ?_)
  obtain ⟨v_4, ev_4⟩ : ∃ u : Nat → Nat → Int32, u = upr v_2 (135 + 15 * i) (upd (v_2 (135 + 15 * i)) 1 x_3) := ⟨_, rfl⟩
  have hP : va_P (dC, dI) vwCl (wl ad kv cy N v_4) H := by rw [ev_4, ← wl_put (e := _) (ce_9 (kd_c _ hi).2.1)]; exact hP
  have hD : va_D A (wl ad kv cy N v_4) := by rw [ev_4, ← wl_put (e := _) (ce_9 (kd_c _ hi).2.1)]; exact hD
  have hv : Iv v_4 := by rw [ev_4]; exact hv.put (K := 9) (kd_c _ hi).2.1 (fun h q => by simp [bd] at q)
  refine lv_aload_n hx hb dX0_copyFrom_16 rfl (lv_at hl 0 rfl) ?_
  refine lv_aload_n hx hb dX0_copyFrom_17 rfl (lv_at hl 1 rfl) ?_
  refine va_get (D := (dC, dI)) (ci := 0) (v := .int (v_4 (29 + 15 * i) 2)) (C := RX0) (T := TX0) (N := 11) hx hb hts iwX0_copyFrom_X0 hown hK hP (29 + 15 * i) (wl_at (by omega) (ce_9 (kd_c _ hi).1.1)) rfl 2 (by decide) (hts (.fieldLink RX0 40 "QuietStairs$Case" "roundsOver" "I") fwX0_copyFrom_3) (fun _ h9 => h9) rfl dX0_copyFrom_18 ?_
  refine lv_topi (fun x_5 ex_5 => ?_)
  have bzx_5 : 0 ≤ x_5.toInt ∧ x_5.toInt ≤ 5 := by rw [ex_5]; exact hv.at (K := 9) (kd_c _ hi).1.1 rfl
  rw [ev_4, upr_n (by omega), ev_2, upr_n (by omega)] at ex_5
  have qx_5 : x_5.toInt = (v (29 + 15 * i) (2)).toInt := congrArg Int32.toInt ex_5
  refine va_put (D := (dC, dI)) (ci := 0) (v := .int x_5) (ty := .int) (C := RX0) (T := TX0) (N := 11) hx hb hts iwX0_copyFrom_X0 tyX0 tyX0_ok nmX0 hown hK hP hD hS (135 + 15 * i) (wl_at (by omega) (ce_9 (kd_c _ hi).2.1)) rfl 2 (by decide) (hts (.fieldLink RX0 40 "QuietStairs$Case" "roundsOver" "I") fwX0_copyFrom_3) (fun _ h9 => h9) rfl (by decide +kernel) rfl rfl (Nat.le_of_ble_eq_true rfl) dX0_copyFrom_21 (fun H locs hP hD hS => ?_)
  obtain ⟨v_6, ev_6⟩ : ∃ u : Nat → Nat → Int32, u = upr v_4 (135 + 15 * i) (upd (v_4 (135 + 15 * i)) 2 x_5) := ⟨_, rfl⟩
  have hP : va_P (dC, dI) vwCl (wl ad kv cy N v_6) H := by rw [ev_6, ← wl_put (e := _) (ce_9 (kd_c _ hi).2.1)]; exact hP
  have hD : va_D A (wl ad kv cy N v_6) := by rw [ev_6, ← wl_put (e := _) (ce_9 (kd_c _ hi).2.1)]; exact hD
  have hv : Iv v_6 := by rw [ev_6]; exact hv.put (K := 9) (kd_c _ hi).2.1 (fun h q => by cases q; exact ⟨by omega, by omega⟩)
  refine lv_aload_n hx hb dX0_copyFrom_24 rfl (lv_at hl 0 rfl) ?_
  refine lv_aload_n hx hb dX0_copyFrom_25 rfl (lv_at hl 1 rfl) ?_
  refine va_get (D := (dC, dI)) (ci := 0) (v := .int (v_6 (29 + 15 * i) 3)) (C := RX0) (T := TX0) (N := 11) hx hb hts iwX0_copyFrom_X0 hown hK hP (29 + 15 * i) (wl_at (by omega) (ce_9 (kd_c _ hi).1.1)) rfl 3 (by decide) (hts (.fieldLink RX0 43 "QuietStairs$Case" "weight" "I") fwX0_copyFrom_4) (fun _ h9 => h9) rfl dX0_copyFrom_26 ?_
  refine lv_topi (fun x_7 ex_7 => ?_)
  rw [ev_6, upr_n (by omega), ev_4, upr_n (by omega), ev_2, upr_n (by omega)] at ex_7
  have qx_7 : x_7.toInt = (v (29 + 15 * i) (3)).toInt := congrArg Int32.toInt ex_7
  refine va_put (D := (dC, dI)) (ci := 0) (v := .int x_7) (ty := .int) (C := RX0) (T := TX0) (N := 11) hx hb hts iwX0_copyFrom_X0 tyX0 tyX0_ok nmX0 hown hK hP hD hS (135 + 15 * i) (wl_at (by omega) (ce_9 (kd_c _ hi).2.1)) rfl 3 (by decide) (hts (.fieldLink RX0 43 "QuietStairs$Case" "weight" "I") fwX0_copyFrom_4) (fun _ h9 => h9) rfl (by decide +kernel) rfl rfl (Nat.le_of_ble_eq_true rfl) dX0_copyFrom_29 (fun H locs hP hD hS => ?_)
  obtain ⟨v_8, ev_8⟩ : ∃ u : Nat → Nat → Int32, u = upr v_6 (135 + 15 * i) (upd (v_6 (135 + 15 * i)) 3 x_7) := ⟨_, rfl⟩
  have hP : va_P (dC, dI) vwCl (wl ad kv cy N v_8) H := by rw [ev_8, ← wl_put (e := _) (ce_9 (kd_c _ hi).2.1)]; exact hP
  have hD : va_D A (wl ad kv cy N v_8) := by rw [ev_8, ← wl_put (e := _) (ce_9 (kd_c _ hi).2.1)]; exact hD
  have hv : Iv v_8 := by rw [ev_8]; exact hv.put (K := 9) (kd_c _ hi).2.1 (fun h q => by simp [bd] at q)
  refine lv_aload_n hx hb dX0_copyFrom_32 rfl (lv_at hl 0 rfl) ?_
  refine lv_aload_n hx hb dX0_copyFrom_33 rfl (lv_at hl 1 rfl) ?_
  refine va_get (D := (dC, dI)) (ci := 0) (v := .int (v_8 (29 + 15 * i) 4)) (C := RX0) (T := TX0) (N := 11) hx hb hts iwX0_copyFrom_X0 hown hK hP (29 + 15 * i) (wl_at (by omega) (ce_9 (kd_c _ hi).1.1)) rfl 4 (by decide) (hts (.fieldLink RX0 46 "QuietStairs$Case" "markedBits" "I") fwX0_copyFrom_5) (fun _ h9 => h9) rfl dX0_copyFrom_34 ?_
  refine lv_topi (fun x_9 ex_9 => ?_)
  rw [ev_8, upr_n (by omega), ev_6, upr_n (by omega), ev_4, upr_n (by omega), ev_2, upr_n (by omega)] at ex_9
  have qx_9 : x_9.toInt = (v (29 + 15 * i) (4)).toInt := congrArg Int32.toInt ex_9
  refine va_put (D := (dC, dI)) (ci := 0) (v := .int x_9) (ty := .int) (C := RX0) (T := TX0) (N := 11) hx hb hts iwX0_copyFrom_X0 tyX0 tyX0_ok nmX0 hown hK hP hD hS (135 + 15 * i) (wl_at (by omega) (ce_9 (kd_c _ hi).2.1)) rfl 4 (by decide) (hts (.fieldLink RX0 46 "QuietStairs$Case" "markedBits" "I") fwX0_copyFrom_5) (fun _ h9 => h9) rfl (by decide +kernel) rfl rfl (Nat.le_of_ble_eq_true rfl) dX0_copyFrom_37 (fun H locs hP hD hS => ?_)
  obtain ⟨v_10, ev_10⟩ : ∃ u : Nat → Nat → Int32, u = upr v_8 (135 + 15 * i) (upd (v_8 (135 + 15 * i)) 4 x_9) := ⟨_, rfl⟩
  have hP : va_P (dC, dI) vwCl (wl ad kv cy N v_10) H := by rw [ev_10, ← wl_put (e := _) (ce_9 (kd_c _ hi).2.1)]; exact hP
  have hD : va_D A (wl ad kv cy N v_10) := by rw [ev_10, ← wl_put (e := _) (ce_9 (kd_c _ hi).2.1)]; exact hD
  have hv : Iv v_10 := by rw [ev_10]; exact hv.put (K := 9) (kd_c _ hi).2.1 (fun h q => by simp [bd] at q)
  refine lv_aload_n hx hb dX0_copyFrom_40 rfl (lv_at hl 0 rfl) ?_
  refine lv_aload_n hx hb dX0_copyFrom_41 rfl (lv_at hl 1 rfl) ?_
  refine va_get (D := (dC, dI)) (ci := 0) (v := .int (v_10 (29 + 15 * i) 5)) (C := RX0) (T := TX0) (N := 11) hx hb hts iwX0_copyFrom_X0 hown hK hP (29 + 15 * i) (wl_at (by omega) (ce_9 (kd_c _ hi).1.1)) rfl 5 (by decide) (hts (.fieldLink RX0 49 "QuietStairs$Case" "termCount" "I") fwX0_copyFrom_6) (fun _ h9 => h9) rfl dX0_copyFrom_42 ?_
  refine lv_topi (fun x_11 ex_11 => ?_)
  have bzx_11 : 0 ≤ x_11.toInt ∧ x_11.toInt ≤ 5 := by rw [ex_11]; exact hv.at (K := 9) (kd_c _ hi).1.1 rfl
  rw [ev_10, upr_n (by omega), ev_8, upr_n (by omega), ev_6, upr_n (by omega), ev_4, upr_n (by omega), ev_2, upr_n (by omega)] at ex_11
  have qx_11 : x_11.toInt = (v (29 + 15 * i) (5)).toInt := congrArg Int32.toInt ex_11
  refine va_put (D := (dC, dI)) (ci := 0) (v := .int x_11) (ty := .int) (C := RX0) (T := TX0) (N := 11) hx hb hts iwX0_copyFrom_X0 tyX0 tyX0_ok nmX0 hown hK hP hD hS (135 + 15 * i) (wl_at (by omega) (ce_9 (kd_c _ hi).2.1)) rfl 5 (by decide) (hts (.fieldLink RX0 49 "QuietStairs$Case" "termCount" "I") fwX0_copyFrom_6) (fun _ h9 => h9) rfl (by decide +kernel) rfl rfl (Nat.le_of_ble_eq_true rfl) dX0_copyFrom_45 (fun H locs hP hD hS => ?_)
  obtain ⟨v_12, ev_12⟩ : ∃ u : Nat → Nat → Int32, u = upr v_10 (135 + 15 * i) (upd (v_10 (135 + 15 * i)) 5 x_11) := ⟨_, rfl⟩
  have hP : va_P (dC, dI) vwCl (wl ad kv cy N v_12) H := by rw [ev_12, ← wl_put (e := _) (ce_9 (kd_c _ hi).2.1)]; exact hP
  have hD : va_D A (wl ad kv cy N v_12) := by rw [ev_12, ← wl_put (e := _) (ce_9 (kd_c _ hi).2.1)]; exact hD
  have hv : Iv v_12 := by rw [ev_12]; exact hv.put (K := 9) (kd_c _ hi).2.1 (fun h q => by cases q; exact ⟨by omega, by omega⟩)
  refine lv_iconst (v := 0) hx hb dX0_copyFrom_48 (by decide) ?_
  refine lv_istore_n (lv' := [(2, .int 0), (0, .ref (ad (135 + 15 * i))), (1, .ref (ad (29 + 15 * i)))]) hx hb dX0_copyFrom_49 rfl hl (by decide) rfl (fun ls hl => ?_)
  refine lv_iload_n hx hb dX0_copyFrom_50 rfl (lv_at hl 0 rfl) ?_
  refine lv_iconst (v := 2) hx hb dX0_copyFrom_51 (by decide) ?_
  refine lv_icmp_ge (tgt := 125) hx hb dX0_copyFrom_52 (by decide) (fun c9 => absurd c9 (by decide)) (fun _ => ?_)
  refine lv_aload_n hx hb dX0_copyFrom_55 rfl (lv_at hl 1 rfl) ?_
  refine va_get (D := (dC, dI)) (ci := 0) (v := .ref (ad (135 + 15 * i + 1))) (C := RX0) (T := TX0) (N := 11) hx hb hts iwX0_copyFrom_X0 hown hK hP (135 + 15 * i) (wl_at (by omega) (ce_9 (kd_c _ hi).2.1)) rfl 6 (by decide) (hts (.fieldLink RX0 9 "QuietStairs$Case" "parties" "[I") fwX0_copyFrom_7) (fun _ h9 => h9) rfl dX0_copyFrom_56 ?_
  refine W.eq (g2 := F0 m 59 ls [.ref (ad (136 + 15 * i))]) (by rw [show 135 + 15 * i + 1 = 136 + 15 * i from by omega]) ?_
  refine lv_iload_n hx hb dX0_copyFrom_59 rfl (lv_at hl 0 rfl) ?_
  refine lv_aload_n hx hb dX0_copyFrom_60 rfl (lv_at hl 2 rfl) ?_
  refine va_get (D := (dC, dI)) (ci := 0) (v := .ref (ad (29 + 15 * i + 1))) (C := RX0) (T := TX0) (N := 11) hx hb hts iwX0_copyFrom_X0 hown hK hP (29 + 15 * i) (wl_at (by omega) (ce_9 (kd_c _ hi).1.1)) rfl 6 (by decide) (hts (.fieldLink RX0 9 "QuietStairs$Case" "parties" "[I") fwX0_copyFrom_7) (fun _ h9 => h9) rfl dX0_copyFrom_61 ?_
  refine W.eq (g2 := F0 m 64 ls [.ref (ad (30 + 15 * i)), .int 0, .ref (ad (136 + 15 * i))]) (by rw [show 29 + 15 * i + 1 = 30 + 15 * i from by omega]) ?_
  refine lv_iload_n hx hb dX0_copyFrom_64 rfl (lv_at hl 0 rfl) ?_
  have k_0 : (0 : Int32).toInt = 0 := by decide
  refine va_iald hx hb hK hP (30 + 15 * i) 0 (wl_at (by omega) (ce_10 (kd_c _ hi).1.2.1)) rfl (by unfold vp_in; decide) dX0_copyFrom_65 ?_
  refine lv_topi (fun x_13 ex_13 => ?_)
  have ex_13 : x_13 = v_12 (30 + 15 * i) 0 := ex_13
  have bzx_13 : 0 ≤ x_13.toInt ∧ x_13.toInt ≤ 7 := by rw [ex_13]; exact hv.at (K := 10) (kd_c _ hi).1.2.1 rfl
  rw [ev_12, upr_n (by omega), ev_10, upr_n (by omega), ev_8, upr_n (by omega), ev_6, upr_n (by omega), ev_4, upr_n (by omega), ev_2, upr_n (by omega)] at ex_13
  have qx_13 : x_13.toInt = (v (30 + 15 * i) (0)).toInt := congrArg Int32.toInt ex_13
  refine va_iast hx hb hK hP hD hS (136 + 15 * i) 0 (wl_at (by omega) (ce_10 (kd_c _ hi).2.2.1)) rfl (by unfold vp_in; decide) dX0_copyFrom_66 (fun H locs hP hD hS => ?_)
  have hP : va_P (dC, dI) vwCl ((wl ad kv cy N v_12).set (136 + 15 * i) (ad (136 + 15 * i), .inl (cy 0, 2, .inl (upd (v_12 (136 + 15 * i)) 0 x_13)))) H := hP
  have hD : va_D A ((wl ad kv cy N v_12).set (136 + 15 * i) (ad (136 + 15 * i), .inl (cy 0, 2, .inl (upd (v_12 (136 + 15 * i)) 0 x_13)))) := hD
  obtain ⟨v_14, ev_14⟩ : ∃ u : Nat → Nat → Int32, u = upr v_12 (136 + 15 * i) (upd (v_12 (136 + 15 * i)) 0 x_13) := ⟨_, rfl⟩
  have hP : va_P (dC, dI) vwCl (wl ad kv cy N v_14) H := by rw [ev_14, ← wl_put (e := _) (ce_10 (kd_c _ hi).2.2.1)]; exact hP
  have hD : va_D A (wl ad kv cy N v_14) := by rw [ev_14, ← wl_put (e := _) (ce_10 (kd_c _ hi).2.2.1)]; exact hD
  have hv : Iv v_14 := by rw [ev_14]; exact hv.put (K := 10) (kd_c _ hi).2.2.1 (fun h q => by cases q; exact ⟨by omega, by omega⟩)
  refine lv_aload_n hx hb dX0_copyFrom_67 rfl (lv_at hl 1 rfl) ?_
  refine va_get (D := (dC, dI)) (ci := 0) (v := .ref (ad (135 + 15 * i + 2))) (C := RX0) (T := TX0) (N := 11) hx hb hts iwX0_copyFrom_X0 hown hK hP (135 + 15 * i) (wl_at (by omega) (ce_9 (kd_c _ hi).2.1)) rfl 7 (by decide) (hts (.fieldLink RX0 15 "QuietStairs$Case" "box" "[I") fwX0_copyFrom_8) (fun _ h9 => h9) rfl dX0_copyFrom_68 ?_
  refine W.eq (g2 := F0 m 71 ls [.ref (ad (137 + 15 * i))]) (by rw [show 135 + 15 * i + 2 = 137 + 15 * i from by omega]) ?_
  refine lv_iload_n hx hb dX0_copyFrom_71 rfl (lv_at hl 0 rfl) ?_
  refine lv_aload_n hx hb dX0_copyFrom_72 rfl (lv_at hl 2 rfl) ?_
  refine va_get (D := (dC, dI)) (ci := 0) (v := .ref (ad (29 + 15 * i + 2))) (C := RX0) (T := TX0) (N := 11) hx hb hts iwX0_copyFrom_X0 hown hK hP (29 + 15 * i) (wl_at (by omega) (ce_9 (kd_c _ hi).1.1)) rfl 7 (by decide) (hts (.fieldLink RX0 15 "QuietStairs$Case" "box" "[I") fwX0_copyFrom_8) (fun _ h9 => h9) rfl dX0_copyFrom_73 ?_
  refine W.eq (g2 := F0 m 76 ls [.ref (ad (31 + 15 * i)), .int 0, .ref (ad (137 + 15 * i))]) (by rw [show 29 + 15 * i + 2 = 31 + 15 * i from by omega]) ?_
  refine lv_iload_n hx hb dX0_copyFrom_76 rfl (lv_at hl 0 rfl) ?_
  refine va_iald hx hb hK hP (31 + 15 * i) 0 (wl_at (by omega) (ce_20 (kd_c _ hi).1.2.2.1)) rfl (by unfold vp_in; decide) dX0_copyFrom_77 ?_
  refine lv_topi (fun x_15 ex_15 => ?_)
  have ex_15 : x_15 = v_14 (31 + 15 * i) 0 := ex_15
  rw [ev_14, upr_n (by omega), ev_12, upr_n (by omega), ev_10, upr_n (by omega), ev_8, upr_n (by omega), ev_6, upr_n (by omega), ev_4, upr_n (by omega), ev_2, upr_n (by omega)] at ex_15
  have qx_15 : x_15.toInt = (v (31 + 15 * i) (0)).toInt := congrArg Int32.toInt ex_15
  refine va_iast hx hb hK hP hD hS (137 + 15 * i) 0 (wl_at (by omega) (ce_20 (kd_c _ hi).2.2.2.1)) rfl (by unfold vp_in; decide) dX0_copyFrom_78 (fun H locs hP hD hS => ?_)
  have hP : va_P (dC, dI) vwCl ((wl ad kv cy N v_14).set (137 + 15 * i) (ad (137 + 15 * i), .inl (cy 0, 2, .inl (upd (v_14 (137 + 15 * i)) 0 x_15)))) H := hP
  have hD : va_D A ((wl ad kv cy N v_14).set (137 + 15 * i) (ad (137 + 15 * i), .inl (cy 0, 2, .inl (upd (v_14 (137 + 15 * i)) 0 x_15)))) := hD
  obtain ⟨v_16, ev_16⟩ : ∃ u : Nat → Nat → Int32, u = upr v_14 (137 + 15 * i) (upd (v_14 (137 + 15 * i)) 0 x_15) := ⟨_, rfl⟩
  have hP : va_P (dC, dI) vwCl (wl ad kv cy N v_16) H := by rw [ev_16, ← wl_put (e := _) (ce_20 (kd_c _ hi).2.2.2.1)]; exact hP
  have hD : va_D A (wl ad kv cy N v_16) := by rw [ev_16, ← wl_put (e := _) (ce_20 (kd_c _ hi).2.2.2.1)]; exact hD
  have hv : Iv v_16 := by rw [ev_16]; exact hv.put (K := 20) (kd_c _ hi).2.2.2.1 (fun h q => by simp [bd] at q)
  refine lv_aload_n hx hb dX0_copyFrom_79 rfl (lv_at hl 2 rfl) ?_
  refine va_get (D := (dC, dI)) (ci := 0) (v := .ref (ad (29 + 15 * i + 3))) (C := RX0) (T := TX0) (N := 11) hx hb hts iwX0_copyFrom_X0 hown hK hP (29 + 15 * i) (wl_at (by omega) (ce_9 (kd_c _ hi).1.1)) rfl 8 (by decide) (hts (.fieldLink RX0 20 "QuietStairs$Case" "offers" "[[I") fwX0_copyFrom_9) (fun _ h9 => h9) rfl dX0_copyFrom_80 ?_
  refine W.eq (g2 := F0 m 83 ls [.ref (ad (32 + 15 * i))]) (by rw [show 29 + 15 * i + 3 = 32 + 15 * i from by omega]) ?_
  refine lv_iload_n hx hb dX0_copyFrom_83 rfl (lv_at hl 0 rfl) ?_
  refine ya_ald hx hb hK hP (32 + 15 * i) (wl_at (by omega) (ce_11 (kd_c _ hi).1.2.2.2.1)) (by unfold vp_in; decide) dX0_copyFrom_84 ?_
  refine W.eq (g2 := F0 m 85 ls [.ref (ad (33 + 15 * i + 0))]) (by show F0 m 85 ls (.ref (ad (32 + 15 * i + 1 + 0)) :: _) = _; rw [show 32 + 15 * i + 1 + 0 = 33 + 15 * i + 0 from by omega]) ?_
  refine lv_iconst (v := 0) hx hb dX0_copyFrom_85 (by decide) ?_
  refine lv_aload_n hx hb dX0_copyFrom_86 rfl (lv_at hl 1 rfl) ?_
  refine va_get (D := (dC, dI)) (ci := 0) (v := .ref (ad (135 + 15 * i + 3))) (C := RX0) (T := TX0) (N := 11) hx hb hts iwX0_copyFrom_X0 hown hK hP (135 + 15 * i) (wl_at (by omega) (ce_9 (kd_c _ hi).2.1)) rfl 8 (by decide) (hts (.fieldLink RX0 20 "QuietStairs$Case" "offers" "[[I") fwX0_copyFrom_9) (fun _ h9 => h9) rfl dX0_copyFrom_87 ?_
  refine W.eq (g2 := F0 m 90 ls [.ref (ad (138 + 15 * i)), .int 0, .ref (ad (33 + 15 * i + 0))]) (by rw [show 135 + 15 * i + 3 = 138 + 15 * i from by omega]) ?_
  refine lv_iload_n hx hb dX0_copyFrom_90 rfl (lv_at hl 0 rfl) ?_
  refine ya_ald hx hb hK hP (138 + 15 * i) (wl_at (by omega) (ce_11 (kd_c _ hi).2.2.2.2.1)) (by unfold vp_in; decide) dX0_copyFrom_91 ?_
  refine W.eq (g2 := F0 m 92 ls [.ref (ad (139 + 15 * i + 0)), .int 0, .ref (ad (33 + 15 * i + 0))]) (by show F0 m 92 ls (.ref (ad (138 + 15 * i + 1 + 0)) :: _) = _; rw [show 138 + 15 * i + 1 + 0 = 139 + 15 * i + 0 from by omega]) ?_
  refine lv_iconst (v := 0) hx hb dX0_copyFrom_92 (by decide) ?_
  refine lv_aload_n hx hb dX0_copyFrom_93 rfl (lv_at hl 1 rfl) ?_
  refine va_get (D := (dC, dI)) (ci := 0) (v := .int (v_16 (135 + 15 * i) 2)) (C := RX0) (T := TX0) (N := 11) hx hb hts iwX0_copyFrom_X0 hown hK hP (135 + 15 * i) (wl_at (by omega) (ce_9 (kd_c _ hi).2.1)) rfl 2 (by decide) (hts (.fieldLink RX0 40 "QuietStairs$Case" "roundsOver" "I") fwX0_copyFrom_3) (fun _ h9 => h9) rfl dX0_copyFrom_94 ?_
  refine lv_topi (fun x_17 ex_17 => ?_)
  have bzx_17 : 0 ≤ x_17.toInt ∧ x_17.toInt ≤ 5 := by rw [ex_17]; exact hv.at (K := 9) (kd_c _ hi).2.1 rfl
  rw [ev_16, upr_n (by omega), ev_14, upr_n (by omega), ev_12, upr_s, pk_un (by decide), ev_10, upr_s, pk_un (by decide), ev_8, upr_s, pk_un (by decide), ev_6, upr_s, pk_us] at ex_17
  obtain rfl : x_5 = x_17 := ex_17.symm
  have zn_x_5 : (x_5.toNatClampNeg : Int) = x_5.toInt := t_nn (by omega)
  have hn_18 := t_n (x := x_5) (m := 5) ⟨by omega, by omega⟩
  refine va_copyi hx hb (hml.trans hl.1.symm) hown (hts (.methodLink RX0 81 arraycopyName) fwX0_copyFrom_10) (hts (.native arraycopyName) fwX0_copyFrom_11) (hts (.static arraycopyName) fwX0_copyFrom_12) (hts (.initialized "java/lang/System") fwX0_copyFrom_13) hK hP hD hS (33 + 15 * i + 0) (139 + 15 * i + 0) 0 0 (wl_at (by omega) (ce_12 (kd_o _ hi 0 (by decide)).1.1)) (wl_at (by omega) (ce_12 (kd_o _ hi 0 (by decide)).2.1)) rfl rfl rfl (by decide) (by decide) hn_18.1 (by rw [sb_cl0]; have := hn_18.2; omega) (by rw [sb_cl0]; have := hn_18.2; omega) (fun i hi => rfl) (Nat.le_of_ble_eq_true rfl) (Nat.le_of_ble_eq_true rfl) dX0_copyFrom_97 (fun H locs hP hD hS => ?_)
  obtain ⟨v_19, ev_19⟩ : ∃ u : Nat → Nat → Int32, u = upr v_16 (139 + 15 * i + 0) (va_cpy (v_16 (33 + 15 * i + 0)) (v_16 (139 + 15 * i + 0)) (0 : Int32).toNatClampNeg (0 : Int32).toNatClampNeg x_5.toNatClampNeg) := ⟨_, rfl⟩
  have hP : va_P (dC, dI) vwCl (wl ad kv cy N v_19) H := by rw [ev_19, ← wl_put (e := _) (ce_12 (kd_o _ hi 0 (by decide)).2.1)]; exact hP
  have hD : va_D A (wl ad kv cy N v_19) := by rw [ev_19, ← wl_put (e := _) (ce_12 (kd_o _ hi 0 (by decide)).2.1)]; exact hD
  have hv : Iv v_19 := by rw [ev_19]; exact hv.row (K := 12) (kd_o _ hi 0 (by decide)).2.1 (fun j => rfl)
  have hs_19 : v_16 (33 + 15 * i + 0) = v (33 + 15 * i + 0) := by rw [ev_16, upr_n (by omega), ev_14, upr_n (by omega), ev_12, upr_n (by omega), ev_10, upr_n (by omega), ev_8, upr_n (by omega), ev_6, upr_n (by omega), ev_4, upr_n (by omega), ev_2, upr_n (by omega)]
  rw [hs_19] at ev_19
  refine lv_aload_n hx hb dX0_copyFrom_100 rfl (lv_at hl 2 rfl) ?_
  refine va_get (D := (dC, dI)) (ci := 0) (v := .ref (ad (29 + 15 * i + 6))) (C := RX0) (T := TX0) (N := 11) hx hb hts iwX0_copyFrom_X0 hown hK hP (29 + 15 * i) (wl_at (by omega) (ce_9 (kd_c _ hi).1.1)) rfl 9 (by decide) (hts (.fieldLink RX0 23 "QuietStairs$Case" "logs" "[[I") fwX0_copyFrom_14) (fun _ h9 => h9) rfl dX0_copyFrom_101 ?_
  refine W.eq (g2 := F0 m 104 ls [.ref (ad (35 + 15 * i))]) (by rw [show 29 + 15 * i + 6 = 35 + 15 * i from by omega]) ?_
  refine lv_iload_n hx hb dX0_copyFrom_104 rfl (lv_at hl 0 rfl) ?_
  refine ya_ald hx hb hK hP (35 + 15 * i) (wl_at (by omega) (ce_13 (kd_c _ hi).1.2.2.2.2.1)) (by unfold vp_in; decide) dX0_copyFrom_105 ?_
  refine W.eq (g2 := F0 m 106 ls [.ref (ad (36 + 15 * i + 0))]) (by show F0 m 106 ls (.ref (ad (35 + 15 * i + 1 + 0)) :: _) = _; rw [show 35 + 15 * i + 1 + 0 = 36 + 15 * i + 0 from by omega]) ?_
  refine lv_iconst (v := 0) hx hb dX0_copyFrom_106 (by decide) ?_
  refine lv_aload_n hx hb dX0_copyFrom_107 rfl (lv_at hl 1 rfl) ?_
  refine va_get (D := (dC, dI)) (ci := 0) (v := .ref (ad (135 + 15 * i + 6))) (C := RX0) (T := TX0) (N := 11) hx hb hts iwX0_copyFrom_X0 hown hK hP (135 + 15 * i) (wl_at (by omega) (ce_9 (kd_c _ hi).2.1)) rfl 9 (by decide) (hts (.fieldLink RX0 23 "QuietStairs$Case" "logs" "[[I") fwX0_copyFrom_14) (fun _ h9 => h9) rfl dX0_copyFrom_108 ?_
  refine W.eq (g2 := F0 m 111 ls [.ref (ad (141 + 15 * i)), .int 0, .ref (ad (36 + 15 * i + 0))]) (by rw [show 135 + 15 * i + 6 = 141 + 15 * i from by omega]) ?_
  refine lv_iload_n hx hb dX0_copyFrom_111 rfl (lv_at hl 0 rfl) ?_
  refine ya_ald hx hb hK hP (141 + 15 * i) (wl_at (by omega) (ce_13 (kd_c _ hi).2.2.2.2.2.1)) (by unfold vp_in; decide) dX0_copyFrom_112 ?_
  refine W.eq (g2 := F0 m 113 ls [.ref (ad (142 + 15 * i + 0)), .int 0, .ref (ad (36 + 15 * i + 0))]) (by show F0 m 113 ls (.ref (ad (141 + 15 * i + 1 + 0)) :: _) = _; rw [show 141 + 15 * i + 1 + 0 = 142 + 15 * i + 0 from by omega]) ?_
  refine lv_iconst (v := 0) hx hb dX0_copyFrom_113 (by decide) ?_
  refine lv_bipush (v := 24) hx hb dX0_copyFrom_114 (by decide) ?_
  refine va_copyi hx hb (hml.trans hl.1.symm) hown (hts (.methodLink RX0 81 arraycopyName) fwX0_copyFrom_10) (hts (.native arraycopyName) fwX0_copyFrom_11) (hts (.static arraycopyName) fwX0_copyFrom_12) (hts (.initialized "java/lang/System") fwX0_copyFrom_13) hK hP hD hS (36 + 15 * i + 0) (142 + 15 * i + 0) 0 0 (wl_at (by omega) (ce_14 (kd_o _ hi 0 (by decide)).1.2)) (wl_at (by omega) (ce_14 (kd_o _ hi 0 (by decide)).2.2)) rfl rfl rfl (by decide) (by decide) (by decide) (by decide) (by decide) (fun i hi => rfl) (Nat.le_of_ble_eq_true rfl) (Nat.le_of_ble_eq_true rfl) dX0_copyFrom_116 (fun H locs hP hD hS => ?_)
  obtain ⟨v_20, ev_20⟩ : ∃ u : Nat → Nat → Int32, u = upr v_19 (142 + 15 * i + 0) (va_cpy (v_19 (36 + 15 * i + 0)) (v_19 (142 + 15 * i + 0)) (0 : Int32).toNatClampNeg (0 : Int32).toNatClampNeg (24 : Int32).toNatClampNeg) := ⟨_, rfl⟩
  have hP : va_P (dC, dI) vwCl (wl ad kv cy N v_20) H := by rw [ev_20, ← wl_put (e := _) (ce_14 (kd_o _ hi 0 (by decide)).2.2)]; exact hP
  have hD : va_D A (wl ad kv cy N v_20) := by rw [ev_20, ← wl_put (e := _) (ce_14 (kd_o _ hi 0 (by decide)).2.2)]; exact hD
  have hv : Iv v_20 := by rw [ev_20]; exact hv.row (K := 14) (kd_o _ hi 0 (by decide)).2.2 (fun j => rfl)
  have ev_20 : v_20 = upr v_19 (142 + 15 * i + 0) (va_cpy (v_19 (36 + 15 * i + 0)) (v_19 (142 + 15 * i + 0)) (0 : Int32).toNatClampNeg (0 : Int32).toNatClampNeg 24) := ev_20
  have hs_20 : v_19 (36 + 15 * i + 0) = v (36 + 15 * i + 0) := by rw [ev_19, upr_n (by omega), ev_16, upr_n (by omega), ev_14, upr_n (by omega), ev_12, upr_n (by omega), ev_10, upr_n (by omega), ev_8, upr_n (by omega), ev_6, upr_n (by omega), ev_4, upr_n (by omega), ev_2, upr_n (by omega)]
  rw [hs_20] at ev_20
  refine lv_iinc (v := 1) (lv' := [(2, .int 1), (0, .ref (ad (135 + 15 * i))), (1, .ref (ad (29 + 15 * i)))]) hx hb dX0_copyFrom_119 hl (k := 0) rfl (by decide) (by decide) rfl (fun ls hl => ?_)
  refine lv_goto (tgt := 50) hx hb dX0_copyFrom_122 (by decide) ?_
  refine lv_iload_n hx hb dX0_copyFrom_50 rfl (lv_at hl 0 rfl) ?_
  refine lv_iconst (v := 2) hx hb dX0_copyFrom_51 (by decide) ?_
  refine lv_icmp_ge (tgt := 125) hx hb dX0_copyFrom_52 (by decide) (fun c9 => absurd c9 (by decide)) (fun _ => ?_)
  refine lv_aload_n hx hb dX0_copyFrom_55 rfl (lv_at hl 1 rfl) ?_
  refine va_get (D := (dC, dI)) (ci := 0) (v := .ref (ad (135 + 15 * i + 1))) (C := RX0) (T := TX0) (N := 11) hx hb hts iwX0_copyFrom_X0 hown hK hP (135 + 15 * i) (wl_at (by omega) (ce_9 (kd_c _ hi).2.1)) rfl 6 (by decide) (hts (.fieldLink RX0 9 "QuietStairs$Case" "parties" "[I") fwX0_copyFrom_7) (fun _ h9 => h9) rfl dX0_copyFrom_56 ?_
  refine W.eq (g2 := F0 m 59 ls [.ref (ad (136 + 15 * i))]) (by rw [show 135 + 15 * i + 1 = 136 + 15 * i from by omega]) ?_
  refine lv_iload_n hx hb dX0_copyFrom_59 rfl (lv_at hl 0 rfl) ?_
  refine lv_aload_n hx hb dX0_copyFrom_60 rfl (lv_at hl 2 rfl) ?_
  refine va_get (D := (dC, dI)) (ci := 0) (v := .ref (ad (29 + 15 * i + 1))) (C := RX0) (T := TX0) (N := 11) hx hb hts iwX0_copyFrom_X0 hown hK hP (29 + 15 * i) (wl_at (by omega) (ce_9 (kd_c _ hi).1.1)) rfl 6 (by decide) (hts (.fieldLink RX0 9 "QuietStairs$Case" "parties" "[I") fwX0_copyFrom_7) (fun _ h9 => h9) rfl dX0_copyFrom_61 ?_
  refine W.eq (g2 := F0 m 64 ls [.ref (ad (30 + 15 * i)), .int 1, .ref (ad (136 + 15 * i))]) (by rw [show 29 + 15 * i + 1 = 30 + 15 * i from by omega]) ?_
  refine lv_iload_n hx hb dX0_copyFrom_64 rfl (lv_at hl 0 rfl) ?_
  have k_1 : (1 : Int32).toInt = 1 := by decide
  refine va_iald hx hb hK hP (30 + 15 * i) 0 (wl_at (by omega) (ce_10 (kd_c _ hi).1.2.1)) rfl (by unfold vp_in; decide) dX0_copyFrom_65 ?_
  refine lv_topi (fun x_21 ex_21 => ?_)
  have ex_21 : x_21 = v_20 (30 + 15 * i) 1 := ex_21
  have bzx_21 : 0 ≤ x_21.toInt ∧ x_21.toInt ≤ 7 := by rw [ex_21]; exact hv.at (K := 10) (kd_c _ hi).1.2.1 rfl
  rw [ev_20, upr_n (by omega), ev_19, upr_n (by omega), ev_16, upr_n (by omega), ev_14, upr_n (by omega), ev_12, upr_n (by omega), ev_10, upr_n (by omega), ev_8, upr_n (by omega), ev_6, upr_n (by omega), ev_4, upr_n (by omega), ev_2, upr_n (by omega)] at ex_21
  have qx_21 : x_21.toInt = (v (30 + 15 * i) (1)).toInt := congrArg Int32.toInt ex_21
  refine va_iast hx hb hK hP hD hS (136 + 15 * i) 0 (wl_at (by omega) (ce_10 (kd_c _ hi).2.2.1)) rfl (by unfold vp_in; decide) dX0_copyFrom_66 (fun H locs hP hD hS => ?_)
  have hP : va_P (dC, dI) vwCl ((wl ad kv cy N v_20).set (136 + 15 * i) (ad (136 + 15 * i), .inl (cy 0, 2, .inl (upd (v_20 (136 + 15 * i)) 1 x_21)))) H := hP
  have hD : va_D A ((wl ad kv cy N v_20).set (136 + 15 * i) (ad (136 + 15 * i), .inl (cy 0, 2, .inl (upd (v_20 (136 + 15 * i)) 1 x_21)))) := hD
  obtain ⟨v_22, ev_22⟩ : ∃ u : Nat → Nat → Int32, u = upr v_20 (136 + 15 * i) (upd (v_20 (136 + 15 * i)) 1 x_21) := ⟨_, rfl⟩
  have hP : va_P (dC, dI) vwCl (wl ad kv cy N v_22) H := by rw [ev_22, ← wl_put (e := _) (ce_10 (kd_c _ hi).2.2.1)]; exact hP
  have hD : va_D A (wl ad kv cy N v_22) := by rw [ev_22, ← wl_put (e := _) (ce_10 (kd_c _ hi).2.2.1)]; exact hD
  have hv : Iv v_22 := by rw [ev_22]; exact hv.put (K := 10) (kd_c _ hi).2.2.1 (fun h q => by cases q; exact ⟨by omega, by omega⟩)
  refine lv_aload_n hx hb dX0_copyFrom_67 rfl (lv_at hl 1 rfl) ?_
  refine va_get (D := (dC, dI)) (ci := 0) (v := .ref (ad (135 + 15 * i + 2))) (C := RX0) (T := TX0) (N := 11) hx hb hts iwX0_copyFrom_X0 hown hK hP (135 + 15 * i) (wl_at (by omega) (ce_9 (kd_c _ hi).2.1)) rfl 7 (by decide) (hts (.fieldLink RX0 15 "QuietStairs$Case" "box" "[I") fwX0_copyFrom_8) (fun _ h9 => h9) rfl dX0_copyFrom_68 ?_
  refine W.eq (g2 := F0 m 71 ls [.ref (ad (137 + 15 * i))]) (by rw [show 135 + 15 * i + 2 = 137 + 15 * i from by omega]) ?_
  refine lv_iload_n hx hb dX0_copyFrom_71 rfl (lv_at hl 0 rfl) ?_
  refine lv_aload_n hx hb dX0_copyFrom_72 rfl (lv_at hl 2 rfl) ?_
  refine va_get (D := (dC, dI)) (ci := 0) (v := .ref (ad (29 + 15 * i + 2))) (C := RX0) (T := TX0) (N := 11) hx hb hts iwX0_copyFrom_X0 hown hK hP (29 + 15 * i) (wl_at (by omega) (ce_9 (kd_c _ hi).1.1)) rfl 7 (by decide) (hts (.fieldLink RX0 15 "QuietStairs$Case" "box" "[I") fwX0_copyFrom_8) (fun _ h9 => h9) rfl dX0_copyFrom_73 ?_
  refine W.eq (g2 := F0 m 76 ls [.ref (ad (31 + 15 * i)), .int 1, .ref (ad (137 + 15 * i))]) (by rw [show 29 + 15 * i + 2 = 31 + 15 * i from by omega]) ?_
  refine lv_iload_n hx hb dX0_copyFrom_76 rfl (lv_at hl 0 rfl) ?_
  refine va_iald hx hb hK hP (31 + 15 * i) 0 (wl_at (by omega) (ce_20 (kd_c _ hi).1.2.2.1)) rfl (by unfold vp_in; decide) dX0_copyFrom_77 ?_
  refine lv_topi (fun x_23 ex_23 => ?_)
  have ex_23 : x_23 = v_22 (31 + 15 * i) 1 := ex_23
  rw [ev_22, upr_n (by omega), ev_20, upr_n (by omega), ev_19, upr_n (by omega), ev_16, upr_n (by omega), ev_14, upr_n (by omega), ev_12, upr_n (by omega), ev_10, upr_n (by omega), ev_8, upr_n (by omega), ev_6, upr_n (by omega), ev_4, upr_n (by omega), ev_2, upr_n (by omega)] at ex_23
  have qx_23 : x_23.toInt = (v (31 + 15 * i) (1)).toInt := congrArg Int32.toInt ex_23
  refine va_iast hx hb hK hP hD hS (137 + 15 * i) 0 (wl_at (by omega) (ce_20 (kd_c _ hi).2.2.2.1)) rfl (by unfold vp_in; decide) dX0_copyFrom_78 (fun H locs hP hD hS => ?_)
  have hP : va_P (dC, dI) vwCl ((wl ad kv cy N v_22).set (137 + 15 * i) (ad (137 + 15 * i), .inl (cy 0, 2, .inl (upd (v_22 (137 + 15 * i)) 1 x_23)))) H := hP
  have hD : va_D A ((wl ad kv cy N v_22).set (137 + 15 * i) (ad (137 + 15 * i), .inl (cy 0, 2, .inl (upd (v_22 (137 + 15 * i)) 1 x_23)))) := hD
  obtain ⟨v_24, ev_24⟩ : ∃ u : Nat → Nat → Int32, u = upr v_22 (137 + 15 * i) (upd (v_22 (137 + 15 * i)) 1 x_23) := ⟨_, rfl⟩
  have hP : va_P (dC, dI) vwCl (wl ad kv cy N v_24) H := by rw [ev_24, ← wl_put (e := _) (ce_20 (kd_c _ hi).2.2.2.1)]; exact hP
  have hD : va_D A (wl ad kv cy N v_24) := by rw [ev_24, ← wl_put (e := _) (ce_20 (kd_c _ hi).2.2.2.1)]; exact hD
  have hv : Iv v_24 := by rw [ev_24]; exact hv.put (K := 20) (kd_c _ hi).2.2.2.1 (fun h q => by simp [bd] at q)
  refine lv_aload_n hx hb dX0_copyFrom_79 rfl (lv_at hl 2 rfl) ?_
  refine va_get (D := (dC, dI)) (ci := 0) (v := .ref (ad (29 + 15 * i + 3))) (C := RX0) (T := TX0) (N := 11) hx hb hts iwX0_copyFrom_X0 hown hK hP (29 + 15 * i) (wl_at (by omega) (ce_9 (kd_c _ hi).1.1)) rfl 8 (by decide) (hts (.fieldLink RX0 20 "QuietStairs$Case" "offers" "[[I") fwX0_copyFrom_9) (fun _ h9 => h9) rfl dX0_copyFrom_80 ?_
  refine W.eq (g2 := F0 m 83 ls [.ref (ad (32 + 15 * i))]) (by rw [show 29 + 15 * i + 3 = 32 + 15 * i from by omega]) ?_
  refine lv_iload_n hx hb dX0_copyFrom_83 rfl (lv_at hl 0 rfl) ?_
  refine ya_ald hx hb hK hP (32 + 15 * i) (wl_at (by omega) (ce_11 (kd_c _ hi).1.2.2.2.1)) (by unfold vp_in; decide) dX0_copyFrom_84 ?_
  refine W.eq (g2 := F0 m 85 ls [.ref (ad (33 + 15 * i + 1))]) (by show F0 m 85 ls (.ref (ad (32 + 15 * i + 1 + 1)) :: _) = _; rw [show 32 + 15 * i + 1 + 1 = 33 + 15 * i + 1 from by omega]) ?_
  refine lv_iconst (v := 0) hx hb dX0_copyFrom_85 (by decide) ?_
  refine lv_aload_n hx hb dX0_copyFrom_86 rfl (lv_at hl 1 rfl) ?_
  refine va_get (D := (dC, dI)) (ci := 0) (v := .ref (ad (135 + 15 * i + 3))) (C := RX0) (T := TX0) (N := 11) hx hb hts iwX0_copyFrom_X0 hown hK hP (135 + 15 * i) (wl_at (by omega) (ce_9 (kd_c _ hi).2.1)) rfl 8 (by decide) (hts (.fieldLink RX0 20 "QuietStairs$Case" "offers" "[[I") fwX0_copyFrom_9) (fun _ h9 => h9) rfl dX0_copyFrom_87 ?_
  refine W.eq (g2 := F0 m 90 ls [.ref (ad (138 + 15 * i)), .int 0, .ref (ad (33 + 15 * i + 1))]) (by rw [show 135 + 15 * i + 3 = 138 + 15 * i from by omega]) ?_
  refine lv_iload_n hx hb dX0_copyFrom_90 rfl (lv_at hl 0 rfl) ?_
  refine ya_ald hx hb hK hP (138 + 15 * i) (wl_at (by omega) (ce_11 (kd_c _ hi).2.2.2.2.1)) (by unfold vp_in; decide) dX0_copyFrom_91 ?_
  refine W.eq (g2 := F0 m 92 ls [.ref (ad (139 + 15 * i + 1)), .int 0, .ref (ad (33 + 15 * i + 1))]) (by show F0 m 92 ls (.ref (ad (138 + 15 * i + 1 + 1)) :: _) = _; rw [show 138 + 15 * i + 1 + 1 = 139 + 15 * i + 1 from by omega]) ?_
  refine lv_iconst (v := 0) hx hb dX0_copyFrom_92 (by decide) ?_
  refine lv_aload_n hx hb dX0_copyFrom_93 rfl (lv_at hl 1 rfl) ?_
  refine va_get (D := (dC, dI)) (ci := 0) (v := .int (v_24 (135 + 15 * i) 2)) (C := RX0) (T := TX0) (N := 11) hx hb hts iwX0_copyFrom_X0 hown hK hP (135 + 15 * i) (wl_at (by omega) (ce_9 (kd_c _ hi).2.1)) rfl 2 (by decide) (hts (.fieldLink RX0 40 "QuietStairs$Case" "roundsOver" "I") fwX0_copyFrom_3) (fun _ h9 => h9) rfl dX0_copyFrom_94 ?_
  refine lv_topi (fun x_25 ex_25 => ?_)
  have bzx_25 : 0 ≤ x_25.toInt ∧ x_25.toInt ≤ 5 := by rw [ex_25]; exact hv.at (K := 9) (kd_c _ hi).2.1 rfl
  rw [ev_24, upr_n (by omega), ev_22, upr_n (by omega), ev_20, upr_n (by omega), ev_19, upr_n (by omega), ev_16, upr_n (by omega), ev_14, upr_n (by omega), ev_12, upr_s, pk_un (by decide), ev_10, upr_s, pk_un (by decide), ev_8, upr_s, pk_un (by decide), ev_6, upr_s, pk_us] at ex_25
  obtain rfl : x_5 = x_25 := ex_25.symm
  have hn_26 := t_n (x := x_5) (m := 5) ⟨by omega, by omega⟩
  refine va_copyi hx hb (hml.trans hl.1.symm) hown (hts (.methodLink RX0 81 arraycopyName) fwX0_copyFrom_10) (hts (.native arraycopyName) fwX0_copyFrom_11) (hts (.static arraycopyName) fwX0_copyFrom_12) (hts (.initialized "java/lang/System") fwX0_copyFrom_13) hK hP hD hS (33 + 15 * i + 1) (139 + 15 * i + 1) 0 0 (wl_at (by omega) (ce_12 (kd_o _ hi 1 (by decide)).1.1)) (wl_at (by omega) (ce_12 (kd_o _ hi 1 (by decide)).2.1)) rfl rfl rfl (by decide) (by decide) hn_26.1 (by rw [sb_cl0]; have := hn_26.2; omega) (by rw [sb_cl0]; have := hn_26.2; omega) (fun i hi => rfl) (Nat.le_of_ble_eq_true rfl) (Nat.le_of_ble_eq_true rfl) dX0_copyFrom_97 (fun H locs hP hD hS => ?_)
  obtain ⟨v_27, ev_27⟩ : ∃ u : Nat → Nat → Int32, u = upr v_24 (139 + 15 * i + 1) (va_cpy (v_24 (33 + 15 * i + 1)) (v_24 (139 + 15 * i + 1)) (0 : Int32).toNatClampNeg (0 : Int32).toNatClampNeg x_5.toNatClampNeg) := ⟨_, rfl⟩
  have hP : va_P (dC, dI) vwCl (wl ad kv cy N v_27) H := by rw [ev_27, ← wl_put (e := _) (ce_12 (kd_o _ hi 1 (by decide)).2.1)]; exact hP
  have hD : va_D A (wl ad kv cy N v_27) := by rw [ev_27, ← wl_put (e := _) (ce_12 (kd_o _ hi 1 (by decide)).2.1)]; exact hD
  have hv : Iv v_27 := by rw [ev_27]; exact hv.row (K := 12) (kd_o _ hi 1 (by decide)).2.1 (fun j => rfl)
  have hs_27 : v_24 (33 + 15 * i + 1) = v (33 + 15 * i + 1) := by rw [ev_24, upr_n (by omega), ev_22, upr_n (by omega), ev_20, upr_n (by omega), ev_19, upr_n (by omega), ev_16, upr_n (by omega), ev_14, upr_n (by omega), ev_12, upr_n (by omega), ev_10, upr_n (by omega), ev_8, upr_n (by omega), ev_6, upr_n (by omega), ev_4, upr_n (by omega), ev_2, upr_n (by omega)]
  rw [hs_27] at ev_27
  refine lv_aload_n hx hb dX0_copyFrom_100 rfl (lv_at hl 2 rfl) ?_
  refine va_get (D := (dC, dI)) (ci := 0) (v := .ref (ad (29 + 15 * i + 6))) (C := RX0) (T := TX0) (N := 11) hx hb hts iwX0_copyFrom_X0 hown hK hP (29 + 15 * i) (wl_at (by omega) (ce_9 (kd_c _ hi).1.1)) rfl 9 (by decide) (hts (.fieldLink RX0 23 "QuietStairs$Case" "logs" "[[I") fwX0_copyFrom_14) (fun _ h9 => h9) rfl dX0_copyFrom_101 ?_
  refine W.eq (g2 := F0 m 104 ls [.ref (ad (35 + 15 * i))]) (by rw [show 29 + 15 * i + 6 = 35 + 15 * i from by omega]) ?_
  refine lv_iload_n hx hb dX0_copyFrom_104 rfl (lv_at hl 0 rfl) ?_
  refine ya_ald hx hb hK hP (35 + 15 * i) (wl_at (by omega) (ce_13 (kd_c _ hi).1.2.2.2.2.1)) (by unfold vp_in; decide) dX0_copyFrom_105 ?_
  refine W.eq (g2 := F0 m 106 ls [.ref (ad (36 + 15 * i + 1))]) (by show F0 m 106 ls (.ref (ad (35 + 15 * i + 1 + 1)) :: _) = _; rw [show 35 + 15 * i + 1 + 1 = 36 + 15 * i + 1 from by omega]) ?_
  refine lv_iconst (v := 0) hx hb dX0_copyFrom_106 (by decide) ?_
  refine lv_aload_n hx hb dX0_copyFrom_107 rfl (lv_at hl 1 rfl) ?_
  refine va_get (D := (dC, dI)) (ci := 0) (v := .ref (ad (135 + 15 * i + 6))) (C := RX0) (T := TX0) (N := 11) hx hb hts iwX0_copyFrom_X0 hown hK hP (135 + 15 * i) (wl_at (by omega) (ce_9 (kd_c _ hi).2.1)) rfl 9 (by decide) (hts (.fieldLink RX0 23 "QuietStairs$Case" "logs" "[[I") fwX0_copyFrom_14) (fun _ h9 => h9) rfl dX0_copyFrom_108 ?_
  refine W.eq (g2 := F0 m 111 ls [.ref (ad (141 + 15 * i)), .int 0, .ref (ad (36 + 15 * i + 1))]) (by rw [show 135 + 15 * i + 6 = 141 + 15 * i from by omega]) ?_
  refine lv_iload_n hx hb dX0_copyFrom_111 rfl (lv_at hl 0 rfl) ?_
  refine ya_ald hx hb hK hP (141 + 15 * i) (wl_at (by omega) (ce_13 (kd_c _ hi).2.2.2.2.2.1)) (by unfold vp_in; decide) dX0_copyFrom_112 ?_
  refine W.eq (g2 := F0 m 113 ls [.ref (ad (142 + 15 * i + 1)), .int 0, .ref (ad (36 + 15 * i + 1))]) (by show F0 m 113 ls (.ref (ad (141 + 15 * i + 1 + 1)) :: _) = _; rw [show 141 + 15 * i + 1 + 1 = 142 + 15 * i + 1 from by omega]) ?_
  refine lv_iconst (v := 0) hx hb dX0_copyFrom_113 (by decide) ?_
  refine lv_bipush (v := 24) hx hb dX0_copyFrom_114 (by decide) ?_
  refine va_copyi hx hb (hml.trans hl.1.symm) hown (hts (.methodLink RX0 81 arraycopyName) fwX0_copyFrom_10) (hts (.native arraycopyName) fwX0_copyFrom_11) (hts (.static arraycopyName) fwX0_copyFrom_12) (hts (.initialized "java/lang/System") fwX0_copyFrom_13) hK hP hD hS (36 + 15 * i + 1) (142 + 15 * i + 1) 0 0 (wl_at (by omega) (ce_14 (kd_o _ hi 1 (by decide)).1.2)) (wl_at (by omega) (ce_14 (kd_o _ hi 1 (by decide)).2.2)) rfl rfl rfl (by decide) (by decide) (by decide) (by decide) (by decide) (fun i hi => rfl) (Nat.le_of_ble_eq_true rfl) (Nat.le_of_ble_eq_true rfl) dX0_copyFrom_116 (fun H locs hP hD hS => ?_)
  obtain ⟨v_28, ev_28⟩ : ∃ u : Nat → Nat → Int32, u = upr v_27 (142 + 15 * i + 1) (va_cpy (v_27 (36 + 15 * i + 1)) (v_27 (142 + 15 * i + 1)) (0 : Int32).toNatClampNeg (0 : Int32).toNatClampNeg (24 : Int32).toNatClampNeg) := ⟨_, rfl⟩
  have hP : va_P (dC, dI) vwCl (wl ad kv cy N v_28) H := by rw [ev_28, ← wl_put (e := _) (ce_14 (kd_o _ hi 1 (by decide)).2.2)]; exact hP
  have hD : va_D A (wl ad kv cy N v_28) := by rw [ev_28, ← wl_put (e := _) (ce_14 (kd_o _ hi 1 (by decide)).2.2)]; exact hD
  have hv : Iv v_28 := by rw [ev_28]; exact hv.row (K := 14) (kd_o _ hi 1 (by decide)).2.2 (fun j => rfl)
  have ev_28 : v_28 = upr v_27 (142 + 15 * i + 1) (va_cpy (v_27 (36 + 15 * i + 1)) (v_27 (142 + 15 * i + 1)) (0 : Int32).toNatClampNeg (0 : Int32).toNatClampNeg 24) := ev_28
  have hs_28 : v_27 (36 + 15 * i + 1) = v (36 + 15 * i + 1) := by rw [ev_27, upr_n (by omega), ev_24, upr_n (by omega), ev_22, upr_n (by omega), ev_20, upr_n (by omega), ev_19, upr_n (by omega), ev_16, upr_n (by omega), ev_14, upr_n (by omega), ev_12, upr_n (by omega), ev_10, upr_n (by omega), ev_8, upr_n (by omega), ev_6, upr_n (by omega), ev_4, upr_n (by omega), ev_2, upr_n (by omega)]
  rw [hs_28] at ev_28
  refine lv_iinc (v := 2) (lv' := [(2, .int 2), (0, .ref (ad (135 + 15 * i))), (1, .ref (ad (29 + 15 * i)))]) hx hb dX0_copyFrom_119 hl (k := 0) rfl (by decide) (by decide) rfl (fun ls hl => ?_)
  refine lv_goto (tgt := 50) hx hb dX0_copyFrom_122 (by decide) ?_
  refine lv_iload_n hx hb dX0_copyFrom_50 rfl (lv_at hl 0 rfl) ?_
  refine lv_iconst (v := 2) hx hb dX0_copyFrom_51 (by decide) ?_
  refine lv_icmp_ge (tgt := 125) hx hb dX0_copyFrom_52 (by decide) (fun _ => ?_) (fun c9 => absurd c9 (by decide))
  refine lv_iconst (v := 0) hx hb dX0_copyFrom_125 (by decide) ?_
  refine lv_istore_n (lv' := [(2, .int 0), (0, .ref (ad (135 + 15 * i))), (1, .ref (ad (29 + 15 * i)))]) hx hb dX0_copyFrom_126 rfl hl (by decide) rfl (fun ls hl => ?_)
  have hc_29 : ∀ (n : Nat) (y29_2 : Int32) (u29 : Nat → Nat → Int32) (H : Heap) (locs : List Loc), 0 ≤ y29_2.toInt → y29_2.toInt ≤ 5 → (∀ k j : Nat, u29 k j = if 145 + 15 * i ≤ k ∧ (k : Int) < 145 + 15 * (i : Int) + y29_2.toInt ∧ j < 5 then v_28 (k - 106) j else v_28 k j) → (y29_2.toInt ≤ (v (29 + 15 * i) 5).toInt) → (5 - y29_2.toInt).toNat < n → Iv u29 → va_P (dC, dI) vwCl (wl ad kv cy N u29) H → va_D A (wl ad kv cy N u29) → va_S A s.heap H locs → ∀ ls : Array Slot, lv_has ls 3 [(2, .int y29_2), (0, .ref (ad (135 + 15 * i))), (1, .ref (ad (29 + 15 * i)))] → W p l e (headSpec wsX0_copyFrom ({ frames := 1, cells := 0, slots := 0, locals := 64 })).room s m [Value.ref (ad (135 + 15 * i)), Value.ref (ad (29 + 15 * i))].toArray below meth c H locs 0 0 (MQ below (va_Qv (fun (u : Nat → Nat → Int32) => Iv u ∧ (∀ o j : Nat, lvC (v (29 + 15 * i)) o j → u (135 + 15 * i + o) j = v (29 + 15 * i + o) j) ∧ (∀ k : Nat, (k < 135 + 15 * i ∨ 150 + 15 * i ≤ k) → u k = v k)) (fun u t => ex_Pst dC dI A (wl ad kv cy N u) t) A) [Value.ref (ad (135 + 15 * i)), Value.ref (ad (29 + 15 * i))].toArray s 0 0 A) (F0 m 127 ls []) := by
    intro n
    induction n with
    | zero =>
      intro y29_2 u29 H locs ay29_2 by29_2 hi29_0 hi29_1 hm_29 hv hP hD hS ls hl
      exact absurd hm_29 (by omega)
    | succ n ih_29 =>
      intro y29_2 u29 H locs ay29_2 by29_2 hi29_0 hi29_1 hm_29 hv hP hD hS ls hl
      refine lv_iload_n hx hb dX0_copyFrom_127 rfl (lv_at hl 0 rfl) ?_
      refine lv_aload_n hx hb dX0_copyFrom_128 rfl (lv_at hl 1 rfl) ?_
      refine va_get (D := (dC, dI)) (ci := 0) (v := .int (u29 (135 + 15 * i) 5)) (C := RX0) (T := TX0) (N := 11) hx hb hts iwX0_copyFrom_X0 hown hK hP (135 + 15 * i) (wl_at (by omega) (ce_9 (kd_c _ hi).2.1)) rfl 5 (by decide) (hts (.fieldLink RX0 49 "QuietStairs$Case" "termCount" "I") fwX0_copyFrom_6) (fun _ h9 => h9) rfl dX0_copyFrom_129 ?_
      refine lv_topi (fun x_30 ex_30 => ?_)
      have bzx_30 : 0 ≤ x_30.toInt ∧ x_30.toInt ≤ 5 := by rw [ex_30]; exact hv.at (K := 9) (kd_c _ hi).2.1 rfl
      have qx_30 : x_30.toInt = (u29 (135 + 15 * i) (5)).toInt := congrArg Int32.toInt ex_30
      have hkx_30 : x_30 = v_28 (135 + 15 * i) 5 := by rw [ex_30, hi29_0, if_neg (by omega)]
      have hmx_30 : x_30.toInt = (v (29 + 15 * i) 5).toInt := by rw [hkx_30, ev_28, upr_n (by omega), ev_27, upr_n (by omega), ev_24, upr_n (by omega), ev_22, upr_n (by omega), ev_20, upr_n (by omega), ev_19, upr_n (by omega), ev_16, upr_n (by omega), ev_14, upr_n (by omega), ev_12, upr_s, pk_us, ex_11]
      refine lv_icmp_ge (tgt := 156) hx hb dX0_copyFrom_132 (by decide) (fun c_31 => ?_) (fun c_31 => ?_)
      · have tc_31 : y29_2.toInt ≥ x_30.toInt := Int32.le_iff_toInt_le.mp c_31
        have hy : y29_2.toInt = (v (29 + 15 * i) 5).toInt := by omega
        have hz : ∀ k j : Nat, v_28 k j = if k = 142 + 15 * i + 1 ∧ j < 24 then v (36 + 15 * i + 1) j else if k = 139 + 15 * i + 1 ∧ j < (v (29 + 15 * i) 2).toNatClampNeg then v (33 + 15 * i + 1) j else if k = 137 + 15 * i ∧ j = 1 then v (31 + 15 * i) 1 else if k = 136 + 15 * i ∧ j = 1 then v (30 + 15 * i) 1 else if k = 142 + 15 * i + 0 ∧ j < 24 then v (36 + 15 * i + 0) j else if k = 139 + 15 * i + 0 ∧ j < (v (29 + 15 * i) 2).toNatClampNeg then v (33 + 15 * i + 0) j else if k = 137 + 15 * i ∧ j = 0 then v (31 + 15 * i) 0 else if k = 136 + 15 * i ∧ j = 0 then v (30 + 15 * i) 0 else if k = 135 + 15 * i ∧ j = 5 then v (29 + 15 * i) 5 else if k = 135 + 15 * i ∧ j = 4 then v (29 + 15 * i) 4 else if k = 135 + 15 * i ∧ j = 3 then v (29 + 15 * i) 3 else if k = 135 + 15 * i ∧ j = 2 then v (29 + 15 * i) 2 else if k = 135 + 15 * i ∧ j = 1 then v (29 + 15 * i) 1 else if k = 135 + 15 * i ∧ j = 0 then v (29 + 15 * i) 0 else v k j := fun k j => by rw [ev_28, up3, ev_27, up3, ev_24, up2, ev_22, up2, ev_20, up3, ev_19, up3, ev_16, up2, ev_14, up2, ev_12, up2, ev_10, up2, ev_8, up2, ev_6, up2, ev_4, up2, ev_2, up2, ex_5, ex_23, ex_21, ex_15, ex_13, ex_11, ex_9, ex_7, ex_3, ex_1]
        have hpost : (∀ o j : Nat, lvC (v (29 + 15 * i)) o j → u29 (135 + 15 * i + o) j = v (29 + 15 * i + o) j) ∧ (∀ k : Nat, (k < 135 + 15 * i ∨ 150 + 15 * i ≤ k) → u29 k = v k) := by
          refine ⟨fun o j hq => ?_, fun k hk => funext fun j => ?_⟩
          · unfold lvC at hq
            rcases hq with ⟨rfl, hj⟩ | ⟨rfl, hj⟩ | ⟨rfl, hj⟩ | ⟨(rfl | rfl), hj⟩ | ⟨(rfl | rfl), hj⟩ | ⟨ho, ho2, ho3, hj⟩
            · rw [hi29_0, if_neg (by omega), hz]
              rcases (show j = 0 ∨ j = 1 ∨ j = 2 ∨ j = 3 ∨ j = 4 ∨ j = 5 by omega) with rfl | rfl | rfl | rfl | rfl | rfl
              · rw [if_neg (by omega), if_neg (by omega), if_neg (by omega), if_neg (by omega), if_neg (by omega), if_neg (by omega), if_neg (by omega), if_neg (by omega), if_neg (by omega), if_neg (by omega), if_neg (by omega), if_neg (by omega), if_neg (by omega), if_pos ⟨by omega, rfl⟩]
                exact congrFun (congrArg v (by omega)) _
              · rw [if_neg (by omega), if_neg (by omega), if_neg (by omega), if_neg (by omega), if_neg (by omega), if_neg (by omega), if_neg (by omega), if_neg (by omega), if_neg (by omega), if_neg (by omega), if_neg (by omega), if_neg (by omega), if_pos ⟨by omega, rfl⟩]
                exact congrFun (congrArg v (by omega)) _
              · rw [if_neg (by omega), if_neg (by omega), if_neg (by omega), if_neg (by omega), if_neg (by omega), if_neg (by omega), if_neg (by omega), if_neg (by omega), if_neg (by omega), if_neg (by omega), if_neg (by omega), if_pos ⟨by omega, rfl⟩]
                exact congrFun (congrArg v (by omega)) _
              · rw [if_neg (by omega), if_neg (by omega), if_neg (by omega), if_neg (by omega), if_neg (by omega), if_neg (by omega), if_neg (by omega), if_neg (by omega), if_neg (by omega), if_neg (by omega), if_pos ⟨by omega, rfl⟩]
                exact congrFun (congrArg v (by omega)) _
              · rw [if_neg (by omega), if_neg (by omega), if_neg (by omega), if_neg (by omega), if_neg (by omega), if_neg (by omega), if_neg (by omega), if_neg (by omega), if_neg (by omega), if_pos ⟨by omega, rfl⟩]
                exact congrFun (congrArg v (by omega)) _
              · rw [if_neg (by omega), if_neg (by omega), if_neg (by omega), if_neg (by omega), if_neg (by omega), if_neg (by omega), if_neg (by omega), if_neg (by omega), if_pos ⟨by omega, rfl⟩]
                exact congrFun (congrArg v (by omega)) _
            · rw [hi29_0, if_neg (by omega), hz]
              rcases (show j = 0 ∨ j = 1 by omega) with rfl | rfl
              · rw [if_neg (by omega), if_neg (by omega), if_neg (by omega), if_neg (by omega), if_neg (by omega), if_neg (by omega), if_neg (by omega), if_pos ⟨by omega, rfl⟩]
                exact congrFun (congrArg v (by omega)) _
              · rw [if_neg (by omega), if_neg (by omega), if_neg (by omega), if_pos ⟨by omega, rfl⟩]
                exact congrFun (congrArg v (by omega)) _
            · rw [hi29_0, if_neg (by omega), hz]
              rcases (show j = 0 ∨ j = 1 by omega) with rfl | rfl
              · rw [if_neg (by omega), if_neg (by omega), if_neg (by omega), if_neg (by omega), if_neg (by omega), if_neg (by omega), if_pos ⟨by omega, rfl⟩]
                exact congrFun (congrArg v (by omega)) _
              · rw [if_neg (by omega), if_neg (by omega), if_pos ⟨by omega, rfl⟩]
                exact congrFun (congrArg v (by omega)) _
            · rw [hi29_0, if_neg (by omega), hz, if_neg (by omega), if_neg (by omega), if_neg (by omega), if_neg (by omega), if_neg (by omega), if_pos ⟨by omega, by have z8 := t_nn (x := v (29 + 15 * i) 2) hb2.1; omega⟩]
              exact congrFun (congrArg v (by omega)) _
            · rw [hi29_0, if_neg (by omega), hz, if_neg (by omega), if_pos ⟨by omega, by have z8 := t_nn (x := v (29 + 15 * i) 2) hb2.1; omega⟩]
              exact congrFun (congrArg v (by omega)) _
            · rw [hi29_0, if_neg (by omega), hz, if_neg (by omega), if_neg (by omega), if_neg (by omega), if_neg (by omega), if_pos ⟨by omega, hj⟩]
              exact congrFun (congrArg v (by omega)) _
            · rw [hi29_0, if_neg (by omega), hz, if_pos ⟨by omega, hj⟩]
              exact congrFun (congrArg v (by omega)) _
            · rw [hi29_0, if_pos (by omega), show 135 + 15 * i + o - 106 = 29 + 15 * i + o from by omega, hz, if_neg (by omega), if_neg (by omega), if_neg (by omega), if_neg (by omega), if_neg (by omega), if_neg (by omega), if_neg (by omega), if_neg (by omega), if_neg (by omega), if_neg (by omega), if_neg (by omega), if_neg (by omega), if_neg (by omega), if_neg (by omega)]
          · rw [hi29_0, if_neg (by omega), hz, if_neg (by omega), if_neg (by omega), if_neg (by omega), if_neg (by omega), if_neg (by omega), if_neg (by omega), if_neg (by omega), if_neg (by omega), if_neg (by omega), if_neg (by omega), if_neg (by omega), if_neg (by omega), if_neg (by omega), if_neg (by omega)]
        exact W.vret hx hb hr (fun t ht hW => ⟨⟨u29, rfl, ⟨hv, hpost⟩, by rw [ht]; exact hP, hD⟩, hS.F ht⟩) hS.2.2 dX0_copyFrom_156
      · have tc_31 : y29_2.toInt < x_30.toInt := Int32.lt_iff_toInt_lt.mp (Int32.not_le.mp c_31)
        refine lv_aload_n hx hb dX0_copyFrom_135 rfl (lv_at hl 1 rfl) ?_
        refine va_get (D := (dC, dI)) (ci := 0) (v := .ref (ad (135 + 15 * i + 9))) (C := RX0) (T := TX0) (N := 11) hx hb hts iwX0_copyFrom_X0 hown hK hP (135 + 15 * i) (wl_at (by omega) (ce_9 (kd_c _ hi).2.1)) rfl 10 (by decide) (hts (.fieldLink RX0 28 "QuietStairs$Case" "terms" "[LQuietStairs$Term;") fwX0_copyFrom_15) (fun _ h9 => h9) rfl dX0_copyFrom_136 ?_
        refine W.eq (g2 := F0 m 139 ls [.ref (ad (144 + 15 * i))]) (by rw [show 135 + 15 * i + 9 = 144 + 15 * i from by omega]) ?_
        refine lv_iload_n hx hb dX0_copyFrom_139 rfl (lv_at hl 0 rfl) ?_
        have zn_y29_2 : (y29_2.toNatClampNeg : Int) = y29_2.toInt := t_nn (by omega)
        have hx_32 : y29_2.toNatClampNeg < 5 := by omega
        refine va_aldq hx hb hK hP (144 + 15 * i) 4 (wl_at (by omega) (ce_15 (kd_c _ hi).2.2.2.2.2.2)) rfl (vp_in_iff.mpr ⟨by omega, by omega⟩) dX0_copyFrom_140 ?_
        refine W.eq (g2 := F0 m 141 ls [.ref (ad (145 + 15 * i + y29_2.toNatClampNeg))]) (by rw [if_pos hx_32, show 144 + 15 * i + 1 + y29_2.toNatClampNeg = 145 + 15 * i + y29_2.toNatClampNeg from by omega]; rfl) ?_
        refine lv_aload_n hx hb dX0_copyFrom_141 rfl (lv_at hl 2 rfl) ?_
        refine va_get (D := (dC, dI)) (ci := 0) (v := .ref (ad (29 + 15 * i + 9))) (C := RX0) (T := TX0) (N := 11) hx hb hts iwX0_copyFrom_X0 hown hK hP (29 + 15 * i) (wl_at (by omega) (ce_9 (kd_c _ hi).1.1)) rfl 10 (by decide) (hts (.fieldLink RX0 28 "QuietStairs$Case" "terms" "[LQuietStairs$Term;") fwX0_copyFrom_15) (fun _ h9 => h9) rfl dX0_copyFrom_142 ?_
        refine W.eq (g2 := F0 m 145 ls [.ref (ad (38 + 15 * i)), .ref (ad (145 + 15 * i + y29_2.toNatClampNeg))]) (by rw [show 29 + 15 * i + 9 = 38 + 15 * i from by omega]) ?_
        refine lv_iload_n hx hb dX0_copyFrom_145 rfl (lv_at hl 0 rfl) ?_
        refine va_aldq hx hb hK hP (38 + 15 * i) 4 (wl_at (by omega) (ce_15 (kd_c _ hi).1.2.2.2.2.2)) rfl (vp_in_iff.mpr ⟨by omega, by omega⟩) dX0_copyFrom_146 ?_
        refine W.eq (g2 := F0 m 147 ls [.ref (ad (39 + 15 * i + y29_2.toNatClampNeg)), .ref (ad (145 + 15 * i + y29_2.toNatClampNeg))]) (by rw [if_pos hx_32, show 38 + 15 * i + 1 + y29_2.toNatClampNeg = 39 + 15 * i + y29_2.toNatClampNeg from by omega]; rfl) ?_
        refine yw_v (w1 := fun (u : Nat → Nat → Int32) => wl ad kv cy N u) hD hS hA (va_runV (As := [.ref (ad (39 + 15 * i + y29_2.toNatClampNeg))]) (rest := []) ⟨hx, hb, hml, hown, hts⟩ (e_X6_copyFrom_b l dC dI cy _ ad kv N hN u29 hv i hi y29_2.toNatClampNeg hx_32 hN2) (cwV 1 hts gX0_copyFrom_X6_copyFrom rfl rfl rfl hd_V_X6_copyFrom_1 ⟨Nat.le_of_ble_eq_true rfl, Nat.le_of_ble_eq_true rfl⟩) (yw_preV hE hK hP hD (ci := 6) (q := (RX6, TX6, 5)) (q0 := (145 + 15 * i + y29_2.toNatClampNeg)) rfl (wl_at (by omega) (ce_16 (kd_t _ hi _ hx_32).2))) rfl rfl hl.1 rfl (lv_room (Nat.le_of_ble_eq_true rfl)) dX0_copyFrom_147 ⟨Nat.le_of_ble_eq_true rfl, Nat.le_of_ble_eq_true rfl⟩) (fun v_33 H locs hw_33 hP hD hS => ?_)
        obtain ⟨hv, hw_33⟩ := hw_33
        obtain ⟨x_34, ex_34⟩ : ∃ y : Int32, y = y29_2 + 1 := ⟨_, rfl⟩
        refine lv_iinc (v := x_34) (lv' := [(2, .int x_34), (0, .ref (ad (135 + 15 * i))), (1, .ref (ad (29 + 15 * i)))]) hx hb dX0_copyFrom_150 hl (k := 0) rfl (by rw [ex_34]; rfl) (by decide) rfl (fun ls hl => ?_)
        have tx_34 : x_34.toInt = y29_2.toInt + (1 : Int32).toInt := by rw [ex_34]; exact t_add ⟨by omega, by omega⟩
        refine lv_goto (tgt := 127) hx hb dX0_copyFrom_153 (by decide) ?_
        exact ih_29 x_34 v_33 _ _ (by omega) (by omega) (fun k j => by rw [hw_33 k j]; by_cases h : k = 145 + 15 * i + y29_2.toNatClampNeg ∧ j < 5; rw [if_pos h, if_pos (by omega), hi29_0, if_neg (by omega), h.1, show 145 + 15 * i + y29_2.toNatClampNeg - 106 = 39 + 15 * i + y29_2.toNatClampNeg from by omega]; rw [if_neg h, hi29_0 k j]; (repeat' split); all_goals first | rfl | (exfalso; omega)) (by omega) (by omega) hv hP hD hS ls (lv_sub hl [0, 1, 2] rfl)
  exact hc_29 ((5 - (0 : Int32).toInt).toNat + 1) 0 v_28 _ _ (by omega) (by omega) (fun k j => by rw [if_neg (by omega)]) (by omega) (by omega) hv hP hD hS ls (lv_sub hl [0, 1, 2] rfl)
set_option maxRecDepth 20000 in
theorem db_X1_copyFrom_0 : (decode cX1_copyFrom 0 = .ok (.aload_n 0, 1)) ∧ (decode cX1_copyFrom 1 = .ok (.aload_n 1, 1)) ∧ (decode cX1_copyFrom 2 = .ok (.getfield 88, 3)) ∧ (decode cX1_copyFrom 5 = .ok (.putfield 88, 3)) ∧ (decode cX1_copyFrom 8 = .ok (.aload_n 0, 1)) ∧ (decode cX1_copyFrom 9 = .ok (.aload_n 1, 1)) ∧ (decode cX1_copyFrom 10 = .ok (.getfield 36, 3)) ∧ (decode cX1_copyFrom 13 = .ok (.putfield 36, 3)) := by decide +kernel
theorem dX1_copyFrom_0 : decode cX1_copyFrom 0 = .ok (.aload_n 0, 1) := db_X1_copyFrom_0.1
theorem dX1_copyFrom_1 : decode cX1_copyFrom 1 = .ok (.aload_n 1, 1) := db_X1_copyFrom_0.2.1
theorem dX1_copyFrom_2 : decode cX1_copyFrom 2 = .ok (.getfield 88, 3) := db_X1_copyFrom_0.2.2.1
theorem dX1_copyFrom_5 : decode cX1_copyFrom 5 = .ok (.putfield 88, 3) := db_X1_copyFrom_0.2.2.2.1
theorem dX1_copyFrom_8 : decode cX1_copyFrom 8 = .ok (.aload_n 0, 1) := db_X1_copyFrom_0.2.2.2.2.1
theorem dX1_copyFrom_9 : decode cX1_copyFrom 9 = .ok (.aload_n 1, 1) := db_X1_copyFrom_0.2.2.2.2.2.1
theorem dX1_copyFrom_10 : decode cX1_copyFrom 10 = .ok (.getfield 36, 3) := db_X1_copyFrom_0.2.2.2.2.2.2.1
theorem dX1_copyFrom_13 : decode cX1_copyFrom 13 = .ok (.putfield 36, 3) := db_X1_copyFrom_0.2.2.2.2.2.2.2
set_option maxRecDepth 20000 in
theorem db_X1_copyFrom_16 : (decode cX1_copyFrom 16 = .ok (.aload_n 0, 1)) ∧ (decode cX1_copyFrom 17 = .ok (.aload_n 1, 1)) ∧ (decode cX1_copyFrom 18 = .ok (.getfield 66, 3)) ∧ (decode cX1_copyFrom 21 = .ok (.putfield 66, 3)) ∧ (decode cX1_copyFrom 24 = .ok (.aload_n 0, 1)) ∧ (decode cX1_copyFrom 25 = .ok (.aload_n 1, 1)) ∧ (decode cX1_copyFrom 26 = .ok (.getfield 91, 3)) ∧ (decode cX1_copyFrom 29 = .ok (.putfield 91, 3)) := by decide +kernel
theorem dX1_copyFrom_16 : decode cX1_copyFrom 16 = .ok (.aload_n 0, 1) := db_X1_copyFrom_16.1
theorem dX1_copyFrom_17 : decode cX1_copyFrom 17 = .ok (.aload_n 1, 1) := db_X1_copyFrom_16.2.1
theorem dX1_copyFrom_18 : decode cX1_copyFrom 18 = .ok (.getfield 66, 3) := db_X1_copyFrom_16.2.2.1
theorem dX1_copyFrom_21 : decode cX1_copyFrom 21 = .ok (.putfield 66, 3) := db_X1_copyFrom_16.2.2.2.1
theorem dX1_copyFrom_24 : decode cX1_copyFrom 24 = .ok (.aload_n 0, 1) := db_X1_copyFrom_16.2.2.2.2.1
theorem dX1_copyFrom_25 : decode cX1_copyFrom 25 = .ok (.aload_n 1, 1) := db_X1_copyFrom_16.2.2.2.2.2.1
theorem dX1_copyFrom_26 : decode cX1_copyFrom 26 = .ok (.getfield 91, 3) := db_X1_copyFrom_16.2.2.2.2.2.2.1
theorem dX1_copyFrom_29 : decode cX1_copyFrom 29 = .ok (.putfield 91, 3) := db_X1_copyFrom_16.2.2.2.2.2.2.2
set_option maxRecDepth 20000 in
theorem db_X1_copyFrom_32 : (decode cX1_copyFrom 32 = .ok (.iconst 0, 1)) ∧ (decode cX1_copyFrom 33 = .ok (.istore_n 2, 1)) ∧ (decode cX1_copyFrom 34 = .ok (.iload_n 2, 1)) ∧ (decode cX1_copyFrom 35 = .ok (.aload_n 0, 1)) ∧ (decode cX1_copyFrom 36 = .ok (.getfield 88, 3)) ∧ (decode cX1_copyFrom 39 = .ok (.if_icmp .ge 24, 3)) ∧ (decode cX1_copyFrom 63 = .ok (.iconst 0, 1)) ∧ (decode cX1_copyFrom 64 = .ok (.istore_n 2, 1)) := by decide +kernel
theorem dX1_copyFrom_32 : decode cX1_copyFrom 32 = .ok (.iconst 0, 1) := db_X1_copyFrom_32.1
theorem dX1_copyFrom_33 : decode cX1_copyFrom 33 = .ok (.istore_n 2, 1) := db_X1_copyFrom_32.2.1
theorem dX1_copyFrom_34 : decode cX1_copyFrom 34 = .ok (.iload_n 2, 1) := db_X1_copyFrom_32.2.2.1
theorem dX1_copyFrom_35 : decode cX1_copyFrom 35 = .ok (.aload_n 0, 1) := db_X1_copyFrom_32.2.2.2.1
theorem dX1_copyFrom_36 : decode cX1_copyFrom 36 = .ok (.getfield 88, 3) := db_X1_copyFrom_32.2.2.2.2.1
theorem dX1_copyFrom_39 : decode cX1_copyFrom 39 = .ok (.if_icmp .ge 24, 3) := db_X1_copyFrom_32.2.2.2.2.2.1
theorem dX1_copyFrom_63 : decode cX1_copyFrom 63 = .ok (.iconst 0, 1) := db_X1_copyFrom_32.2.2.2.2.2.2.1
theorem dX1_copyFrom_64 : decode cX1_copyFrom 64 = .ok (.istore_n 2, 1) := db_X1_copyFrom_32.2.2.2.2.2.2.2
set_option maxRecDepth 20000 in
theorem db_X1_copyFrom_65 : (decode cX1_copyFrom 65 = .ok (.iload_n 2, 1)) ∧ (decode cX1_copyFrom 66 = .ok (.aload_n 0, 1)) ∧ (decode cX1_copyFrom 67 = .ok (.getfield 36, 3)) ∧ (decode cX1_copyFrom 70 = .ok (.if_icmp .ge 24, 3)) ∧ (decode cX1_copyFrom 94 = .ok (.iconst 0, 1)) ∧ (decode cX1_copyFrom 95 = .ok (.istore_n 2, 1)) ∧ (decode cX1_copyFrom 96 = .ok (.iload_n 2, 1)) ∧ (decode cX1_copyFrom 97 = .ok (.aload_n 0, 1)) := by decide +kernel
theorem dX1_copyFrom_65 : decode cX1_copyFrom 65 = .ok (.iload_n 2, 1) := db_X1_copyFrom_65.1
theorem dX1_copyFrom_66 : decode cX1_copyFrom 66 = .ok (.aload_n 0, 1) := db_X1_copyFrom_65.2.1
theorem dX1_copyFrom_67 : decode cX1_copyFrom 67 = .ok (.getfield 36, 3) := db_X1_copyFrom_65.2.2.1
theorem dX1_copyFrom_70 : decode cX1_copyFrom 70 = .ok (.if_icmp .ge 24, 3) := db_X1_copyFrom_65.2.2.2.1
theorem dX1_copyFrom_94 : decode cX1_copyFrom 94 = .ok (.iconst 0, 1) := db_X1_copyFrom_65.2.2.2.2.1
theorem dX1_copyFrom_95 : decode cX1_copyFrom 95 = .ok (.istore_n 2, 1) := db_X1_copyFrom_65.2.2.2.2.2.1
theorem dX1_copyFrom_96 : decode cX1_copyFrom 96 = .ok (.iload_n 2, 1) := db_X1_copyFrom_65.2.2.2.2.2.2.1
theorem dX1_copyFrom_97 : decode cX1_copyFrom 97 = .ok (.aload_n 0, 1) := db_X1_copyFrom_65.2.2.2.2.2.2.2
set_option maxRecDepth 20000 in
theorem db_X1_copyFrom_98 : (decode cX1_copyFrom 98 = .ok (.getfield 66, 3)) ∧ (decode cX1_copyFrom 101 = .ok (.if_icmp .ge 24, 3)) ∧ (decode cX1_copyFrom 125 = .ok (.return_, 1)) ∧ (decode cX1_copyFrom 104 = .ok (.aload_n 0, 1)) ∧ (decode cX1_copyFrom 105 = .ok (.getfield 25, 3)) ∧ (decode cX1_copyFrom 108 = .ok (.iload_n 2, 1)) ∧ (decode cX1_copyFrom 109 = .ok (.aaload, 1)) ∧ (decode cX1_copyFrom 110 = .ok (.aload_n 1, 1)) := by decide +kernel
theorem dX1_copyFrom_98 : decode cX1_copyFrom 98 = .ok (.getfield 66, 3) := db_X1_copyFrom_98.1
theorem dX1_copyFrom_101 : decode cX1_copyFrom 101 = .ok (.if_icmp .ge 24, 3) := db_X1_copyFrom_98.2.1
theorem dX1_copyFrom_125 : decode cX1_copyFrom 125 = .ok (.return_, 1) := db_X1_copyFrom_98.2.2.1
theorem dX1_copyFrom_104 : decode cX1_copyFrom 104 = .ok (.aload_n 0, 1) := db_X1_copyFrom_98.2.2.2.1
theorem dX1_copyFrom_105 : decode cX1_copyFrom 105 = .ok (.getfield 25, 3) := db_X1_copyFrom_98.2.2.2.2.1
theorem dX1_copyFrom_108 : decode cX1_copyFrom 108 = .ok (.iload_n 2, 1) := db_X1_copyFrom_98.2.2.2.2.2.1
theorem dX1_copyFrom_109 : decode cX1_copyFrom 109 = .ok (.aaload, 1) := db_X1_copyFrom_98.2.2.2.2.2.2.1
theorem dX1_copyFrom_110 : decode cX1_copyFrom 110 = .ok (.aload_n 1, 1) := db_X1_copyFrom_98.2.2.2.2.2.2.2
set_option maxRecDepth 20000 in
theorem db_X1_copyFrom_111 : (decode cX1_copyFrom 111 = .ok (.getfield 25, 3)) ∧ (decode cX1_copyFrom 114 = .ok (.iload_n 2, 1)) ∧ (decode cX1_copyFrom 115 = .ok (.aaload, 1)) ∧ (decode cX1_copyFrom 116 = .ok (.invokevirtual 101, 3)) ∧ (decode cX1_copyFrom 119 = .ok (.iinc 2 1, 3)) ∧ (decode cX1_copyFrom 122 = .ok (.goto (-26), 3)) ∧ (decode cX1_copyFrom 73 = .ok (.aload_n 0, 1)) ∧ (decode cX1_copyFrom 74 = .ok (.getfield 19, 3)) := by decide +kernel
theorem dX1_copyFrom_111 : decode cX1_copyFrom 111 = .ok (.getfield 25, 3) := db_X1_copyFrom_111.1
theorem dX1_copyFrom_114 : decode cX1_copyFrom 114 = .ok (.iload_n 2, 1) := db_X1_copyFrom_111.2.1
theorem dX1_copyFrom_115 : decode cX1_copyFrom 115 = .ok (.aaload, 1) := db_X1_copyFrom_111.2.2.1
set_option maxRecDepth 20000 in
theorem ggX1_copyFrom_X0_copyFrom : GoodIn wsX1_copyFrom wsX0_copyFrom := goodIn_r _ [27, 28, 29, 30, 31, 32, 33, 34, 35, 36, 37, 38, 39, 40, 41, 42, 43, 44, 45, 46, 47, 48, 49, 50, 51, 52, 65, 66, 67, 68, 69, 70, 71, 72, 73, 74, 75, 76, 77, 78, 79, 80] rfl (by decide +kernel)
set_option maxRecDepth 20000 in
theorem gX1_copyFrom_X0_copyFrom : GoodIn wsX1_copyFrom (wsV RX1 101 RX0 yX0_copyFrom wsX0_copyFrom) := goodIn_app (goodIn_r _ [23, 24, 25, 26] rfl (by decide +kernel)) ggX1_copyFrom_X0_copyFrom
theorem dX1_copyFrom_116 : decode cX1_copyFrom 116 = .ok (.invokevirtual 101, 3) := db_X1_copyFrom_111.2.2.2.1
theorem dX1_copyFrom_119 : decode cX1_copyFrom 119 = .ok (.iinc 2 1, 3) := db_X1_copyFrom_111.2.2.2.2.1
theorem dX1_copyFrom_122 : decode cX1_copyFrom 122 = .ok (.goto (-26), 3) := db_X1_copyFrom_111.2.2.2.2.2.1
theorem dX1_copyFrom_73 : decode cX1_copyFrom 73 = .ok (.aload_n 0, 1) := db_X1_copyFrom_111.2.2.2.2.2.2.1
theorem dX1_copyFrom_74 : decode cX1_copyFrom 74 = .ok (.getfield 19, 3) := db_X1_copyFrom_111.2.2.2.2.2.2.2
set_option maxRecDepth 20000 in
theorem db_X1_copyFrom_77 : (decode cX1_copyFrom 77 = .ok (.iload_n 2, 1)) ∧ (decode cX1_copyFrom 78 = .ok (.aaload, 1)) ∧ (decode cX1_copyFrom 79 = .ok (.aload_n 1, 1)) ∧ (decode cX1_copyFrom 80 = .ok (.getfield 19, 3)) ∧ (decode cX1_copyFrom 83 = .ok (.iload_n 2, 1)) ∧ (decode cX1_copyFrom 84 = .ok (.aaload, 1)) ∧ (decode cX1_copyFrom 85 = .ok (.invokevirtual 98, 3)) ∧ (decode cX1_copyFrom 88 = .ok (.iinc 2 1, 3)) := by decide +kernel
theorem dX1_copyFrom_77 : decode cX1_copyFrom 77 = .ok (.iload_n 2, 1) := db_X1_copyFrom_77.1
theorem dX1_copyFrom_78 : decode cX1_copyFrom 78 = .ok (.aaload, 1) := db_X1_copyFrom_77.2.1
theorem dX1_copyFrom_79 : decode cX1_copyFrom 79 = .ok (.aload_n 1, 1) := db_X1_copyFrom_77.2.2.1
theorem dX1_copyFrom_80 : decode cX1_copyFrom 80 = .ok (.getfield 19, 3) := db_X1_copyFrom_77.2.2.2.1
theorem dX1_copyFrom_83 : decode cX1_copyFrom 83 = .ok (.iload_n 2, 1) := db_X1_copyFrom_77.2.2.2.2.1
theorem dX1_copyFrom_84 : decode cX1_copyFrom 84 = .ok (.aaload, 1) := db_X1_copyFrom_77.2.2.2.2.2.1
set_option maxRecDepth 20000 in
theorem ggX1_copyFrom_X2_copyFrom : GoodIn wsX1_copyFrom wsX2_copyFrom := goodIn_r _ [19, 20, 21, 22, 62, 63, 64] rfl (by decide +kernel)
set_option maxRecDepth 20000 in
theorem gX1_copyFrom_X2_copyFrom : GoodIn wsX1_copyFrom (wsV RX1 98 RX2 yX2_copyFrom wsX2_copyFrom) := goodIn_app (goodIn_r _ [15, 16, 17, 18] rfl (by decide +kernel)) ggX1_copyFrom_X2_copyFrom
theorem dX1_copyFrom_85 : decode cX1_copyFrom 85 = .ok (.invokevirtual 98, 3) := db_X1_copyFrom_77.2.2.2.2.2.2.1
theorem dX1_copyFrom_88 : decode cX1_copyFrom 88 = .ok (.iinc 2 1, 3) := db_X1_copyFrom_77.2.2.2.2.2.2.2
set_option maxRecDepth 20000 in
theorem db_X1_copyFrom_91 : (decode cX1_copyFrom 91 = .ok (.goto (-26), 3)) ∧ (decode cX1_copyFrom 42 = .ok (.aload_n 0, 1)) ∧ (decode cX1_copyFrom 43 = .ok (.getfield 11, 3)) ∧ (decode cX1_copyFrom 46 = .ok (.iload_n 2, 1)) ∧ (decode cX1_copyFrom 47 = .ok (.aaload, 1)) ∧ (decode cX1_copyFrom 48 = .ok (.aload_n 1, 1)) ∧ (decode cX1_copyFrom 49 = .ok (.getfield 11, 3)) ∧ (decode cX1_copyFrom 52 = .ok (.iload_n 2, 1)) := by decide +kernel
theorem dX1_copyFrom_91 : decode cX1_copyFrom 91 = .ok (.goto (-26), 3) := db_X1_copyFrom_91.1
theorem dX1_copyFrom_42 : decode cX1_copyFrom 42 = .ok (.aload_n 0, 1) := db_X1_copyFrom_91.2.1
theorem dX1_copyFrom_43 : decode cX1_copyFrom 43 = .ok (.getfield 11, 3) := db_X1_copyFrom_91.2.2.1
theorem dX1_copyFrom_46 : decode cX1_copyFrom 46 = .ok (.iload_n 2, 1) := db_X1_copyFrom_91.2.2.2.1
theorem dX1_copyFrom_47 : decode cX1_copyFrom 47 = .ok (.aaload, 1) := db_X1_copyFrom_91.2.2.2.2.1
theorem dX1_copyFrom_48 : decode cX1_copyFrom 48 = .ok (.aload_n 1, 1) := db_X1_copyFrom_91.2.2.2.2.2.1
theorem dX1_copyFrom_49 : decode cX1_copyFrom 49 = .ok (.getfield 11, 3) := db_X1_copyFrom_91.2.2.2.2.2.2.1
theorem dX1_copyFrom_52 : decode cX1_copyFrom 52 = .ok (.iload_n 2, 1) := db_X1_copyFrom_91.2.2.2.2.2.2.2
set_option maxRecDepth 20000 in
theorem db_X1_copyFrom_53 : (decode cX1_copyFrom 53 = .ok (.aaload, 1)) ∧ (decode cX1_copyFrom 54 = .ok (.invokevirtual 94, 3)) ∧ (decode cX1_copyFrom 57 = .ok (.iinc 2 1, 3)) ∧ (decode cX1_copyFrom 60 = .ok (.goto (-26), 3)) := by decide +kernel
theorem dX1_copyFrom_53 : decode cX1_copyFrom 53 = .ok (.aaload, 1) := db_X1_copyFrom_53.1
set_option maxRecDepth 20000 in
theorem ggX1_copyFrom_X3_copyFrom : GoodIn wsX1_copyFrom wsX3_copyFrom := goodIn_r _ [12, 13, 14, 60, 61] rfl (by decide +kernel)
set_option maxRecDepth 20000 in
theorem gX1_copyFrom_X3_copyFrom : GoodIn wsX1_copyFrom (wsV RX1 94 RX3 yX3_copyFrom wsX3_copyFrom) := goodIn_app (goodIn_r _ [8, 9, 10, 11] rfl (by decide +kernel)) ggX1_copyFrom_X3_copyFrom
theorem dX1_copyFrom_54 : decode cX1_copyFrom 54 = .ok (.invokevirtual 94, 3) := db_X1_copyFrom_53.2.1
theorem dX1_copyFrom_57 : decode cX1_copyFrom 57 = .ok (.iinc 2 1, 3) := db_X1_copyFrom_53.2.2.1
theorem dX1_copyFrom_60 : decode cX1_copyFrom 60 = .ok (.goto (-26), 3) := db_X1_copyFrom_53.2.2.2
theorem lvC_o {r : Nat → Int32} {o j : Nat} (h : lvC r o j) : o < 15 := by
  unfold lvC at h
  omega
theorem lvH_o {v : Nat → Nat → Int32} {B o j : Nat} (h : lvH v B o j) : 13 + o < 119 := by
  unfold lvH at h
  rcases h with h | h | h | ⟨c, q, h1, h2, h3, h4⟩
  · omega
  · omega
  · omega
  · have := lvC_o h4
    omega
theorem lvH_cg {v w : Nat → Nat → Int32} {B o j : Nat} (e : ∀ k : Nat, B ≤ k → k < B + 106 → w k = v k) (h : lvH v B o j) : lvH w B o j := by
  unfold lvH at h ⊢
  rw [e B (Nat.le_refl _) (by omega)]
  rcases h with h | h | h | ⟨c, q, h1, h2, h3, h4⟩
  · exact Or.inl h
  · exact Or.inr (Or.inl h)
  · exact Or.inr (Or.inr (Or.inl h))
  · refine Or.inr (Or.inr (Or.inr ⟨c, q, h1, h2, h3, ?_⟩))
    rw [e _ (by omega) (by omega)]
    exact h4

set_option maxHeartbeats 4000000 in
set_option maxRecDepth 100000 in
theorem e_X1_copyFrom_a (l : Launch) (dC : Nat → ClassId) (dI : Nat → Nat → Nat) (cy : Nat → ClassId) (sz : Nat) (ad : Nat → Nat) (kv : Value) (N : Nat) (hN : 119 ≤ N) (v : Nat → Nat → Int32) (hv : Iv v) (hN2 : 225 ≤ N)  : Met l yX1_copyFrom wsX1_copyFrom ({ frames := 2, cells := 0, slots := 0, locals := 128 }) (va_Pc [.ref (ad 13), .ref (ad 119)] (ex_Pre dC dI cy sz (wl ad kv cy N v))) (va_Qv (fun (u : Nat → Nat → Int32) => Iv u ∧ (∀ o j : Nat, lvH v 119 o j → u (13 + o) j = v (119 + o) j) ∧ (∀ k : Nat, (k < 13 ∨ 119 ≤ k) → u k = v k)) (fun u t => ex_Pst dC dI (va_A (wl ad kv cy N v) sz) (wl ad kv cy N u) t) (va_A (wl ad kv cy N v) sz)) 0 0 (va_A (wl ad kv cy N v) sz) := by
  refine Met.ofW (cc := cX1_copyFrom) (maxL := 3) (ret := none) (by decide) rfl ?_
  intro p e s m args below meth c s₁ B hml hv
  obtain ⟨rfl, hsz, hE, hP, hK, hD0⟩ := hv
  have hx := B.exec
  have hb := B.bytes
  have hr := B.returns
  have hts := atoms_spec (ws := wsX1_copyFrom) B.pre
  have hown : s.vm.findClass RX1 = some m.cls := findClass_of_methodNamed B.named
  have hlocks := B.notSynchronized
  subst hsz
  have hD := hD0.self (sz := s.heap.size)
  generalize hAe : va_A (wl ad kv cy N v) s.heap.size = A at hD ⊢
  have hA : ∀ q : Nat, s.heap.size ≤ q → A q := fun q h => by rw [← hAe]; exact Or.inr h
  have hS : va_S A s.heap s.heap [] := va_S.rf
  have hP : va_P (dC, dI) vwCl (wl ad kv cy N v) s.heap := hP
  have hl := lv_entry ([.ref (ad 13), .ref (ad 119)]) (n := 3) (Nat.le_of_ble_eq_true rfl)
  rw [lg_entry_eq]
  generalize (lg_sl ([.ref (ad 13), .ref (ad 119)]) ++ List.replicate (3 - (lg_sl ([.ref (ad 13), .ref (ad 119)])).length) Slot.unset).toArray = ls at hl ⊢
  have hl : lv_has ls 3 [(0, .ref (ad 13)), (1, .ref (ad 119))] := hl
  have hc0 := hv.at (k := 119) (j := 0) (K := 3) (by decide) rfl
  have hc1 := hv.at (k := 119) (j := 1) (K := 3) (by decide) rfl
  have hc2 := hv.at (k := 119) (j := 2) (K := 3) (by decide) rfl
  refine lv_aload_n hx hb dX1_copyFrom_0 rfl (lv_at hl 0 rfl) ?_
  refine lv_aload_n hx hb dX1_copyFrom_1 rfl (lv_at hl 1 rfl) ?_
  refine va_get (D := (dC, dI)) (ci := 1) (v := .int (v (119) 0)) (C := RX1) (T := TX1) (N := 7) hx hb hts iwX1_copyFrom_X1 hown hK hP (119) (wl_at (by omega) (ce_3 (by decide))) rfl 0 (by decide) (hts (.fieldLink RX1 88 "QuietStairs$House" "partyCount" "I") fwX1_copyFrom_1) (fun _ h9 => h9) rfl dX1_copyFrom_2 ?_
  refine lv_topi (fun x_1 ex_1 => ?_)
  have bzx_1 : 0 ≤ x_1.toInt ∧ x_1.toInt ≤ 8 := by rw [ex_1]; exact hv.at (K := 3) (by decide) rfl
  have qx_1 : x_1.toInt = (v (119) (0)).toInt := congrArg Int32.toInt ex_1
  refine va_put (D := (dC, dI)) (ci := 1) (v := .int x_1) (ty := .int) (C := RX1) (T := TX1) (N := 7) hx hb hts iwX1_copyFrom_X1 tyX1 tyX1_ok nmX1 hown hK hP hD hS (13) (wl_at (by omega) (ce_3 (by decide))) rfl 0 (by decide) (hts (.fieldLink RX1 88 "QuietStairs$House" "partyCount" "I") fwX1_copyFrom_1) (fun _ h9 => h9) rfl (by decide +kernel) rfl rfl (Nat.le_of_ble_eq_true rfl) dX1_copyFrom_5 (fun H locs hP hD hS => ?_)
  obtain ⟨v_2, ev_2⟩ : ∃ u : Nat → Nat → Int32, u = upr v (13) (upd (v (13)) 0 x_1) := ⟨_, rfl⟩
  have hP : va_P (dC, dI) vwCl (wl ad kv cy N v_2) H := by rw [ev_2, ← wl_put (e := _) (ce_3 (by decide))]; exact hP
  have hD : va_D A (wl ad kv cy N v_2) := by rw [ev_2, ← wl_put (e := _) (ce_3 (by decide))]; exact hD
  have hv : Iv v_2 := by rw [ev_2]; exact hv.put (K := 3) (by decide) (fun h q => by cases q; exact ⟨by omega, by omega⟩)
  refine lv_aload_n hx hb dX1_copyFrom_8 rfl (lv_at hl 0 rfl) ?_
  refine lv_aload_n hx hb dX1_copyFrom_9 rfl (lv_at hl 1 rfl) ?_
  refine va_get (D := (dC, dI)) (ci := 1) (v := .int (v_2 (119) 1)) (C := RX1) (T := TX1) (N := 7) hx hb hts iwX1_copyFrom_X1 hown hK hP (119) (wl_at (by omega) (ce_3 (by decide))) rfl 1 (by decide) (hts (.fieldLink RX1 36 "QuietStairs$House" "mediatorCount" "I") fwX1_copyFrom_2) (fun _ h9 => h9) rfl dX1_copyFrom_10 ?_
  refine lv_topi (fun x_3 ex_3 => ?_)
  have bzx_3 : 0 ≤ x_3.toInt ∧ x_3.toInt ≤ 4 := by rw [ex_3]; exact hv.at (K := 3) (by decide) rfl
  rw [ev_2, upr_n (by omega)] at ex_3
  have qx_3 : x_3.toInt = (v (119) (1)).toInt := congrArg Int32.toInt ex_3
  refine va_put (D := (dC, dI)) (ci := 1) (v := .int x_3) (ty := .int) (C := RX1) (T := TX1) (N := 7) hx hb hts iwX1_copyFrom_X1 tyX1 tyX1_ok nmX1 hown hK hP hD hS (13) (wl_at (by omega) (ce_3 (by decide))) rfl 1 (by decide) (hts (.fieldLink RX1 36 "QuietStairs$House" "mediatorCount" "I") fwX1_copyFrom_2) (fun _ h9 => h9) rfl (by decide +kernel) rfl rfl (Nat.le_of_ble_eq_true rfl) dX1_copyFrom_13 (fun H locs hP hD hS => ?_)
  obtain ⟨v_4, ev_4⟩ : ∃ u : Nat → Nat → Int32, u = upr v_2 (13) (upd (v_2 (13)) 1 x_3) := ⟨_, rfl⟩
  have hP : va_P (dC, dI) vwCl (wl ad kv cy N v_4) H := by rw [ev_4, ← wl_put (e := _) (ce_3 (by decide))]; exact hP
  have hD : va_D A (wl ad kv cy N v_4) := by rw [ev_4, ← wl_put (e := _) (ce_3 (by decide))]; exact hD
  have hv : Iv v_4 := by rw [ev_4]; exact hv.put (K := 3) (by decide) (fun h q => by cases q; exact ⟨by omega, by omega⟩)
  refine lv_aload_n hx hb dX1_copyFrom_16 rfl (lv_at hl 0 rfl) ?_
  refine lv_aload_n hx hb dX1_copyFrom_17 rfl (lv_at hl 1 rfl) ?_
  refine va_get (D := (dC, dI)) (ci := 1) (v := .int (v_4 (119) 2)) (C := RX1) (T := TX1) (N := 7) hx hb hts iwX1_copyFrom_X1 hown hK hP (119) (wl_at (by omega) (ce_3 (by decide))) rfl 2 (by decide) (hts (.fieldLink RX1 66 "QuietStairs$House" "caseCount" "I") fwX1_copyFrom_3) (fun _ h9 => h9) rfl dX1_copyFrom_18 ?_
  refine lv_topi (fun x_5 ex_5 => ?_)
  have bzx_5 : 0 ≤ x_5.toInt ∧ x_5.toInt ≤ 6 := by rw [ex_5]; exact hv.at (K := 3) (by decide) rfl
  rw [ev_4, upr_n (by omega), ev_2, upr_n (by omega)] at ex_5
  have qx_5 : x_5.toInt = (v (119) (2)).toInt := congrArg Int32.toInt ex_5
  refine va_put (D := (dC, dI)) (ci := 1) (v := .int x_5) (ty := .int) (C := RX1) (T := TX1) (N := 7) hx hb hts iwX1_copyFrom_X1 tyX1 tyX1_ok nmX1 hown hK hP hD hS (13) (wl_at (by omega) (ce_3 (by decide))) rfl 2 (by decide) (hts (.fieldLink RX1 66 "QuietStairs$House" "caseCount" "I") fwX1_copyFrom_3) (fun _ h9 => h9) rfl (by decide +kernel) rfl rfl (Nat.le_of_ble_eq_true rfl) dX1_copyFrom_21 (fun H locs hP hD hS => ?_)
  obtain ⟨v_6, ev_6⟩ : ∃ u : Nat → Nat → Int32, u = upr v_4 (13) (upd (v_4 (13)) 2 x_5) := ⟨_, rfl⟩
  have hP : va_P (dC, dI) vwCl (wl ad kv cy N v_6) H := by rw [ev_6, ← wl_put (e := _) (ce_3 (by decide))]; exact hP
  have hD : va_D A (wl ad kv cy N v_6) := by rw [ev_6, ← wl_put (e := _) (ce_3 (by decide))]; exact hD
  have hv : Iv v_6 := by rw [ev_6]; exact hv.put (K := 3) (by decide) (fun h q => by cases q; exact ⟨by omega, by omega⟩)
  refine lv_aload_n hx hb dX1_copyFrom_24 rfl (lv_at hl 0 rfl) ?_
  refine lv_aload_n hx hb dX1_copyFrom_25 rfl (lv_at hl 1 rfl) ?_
  refine va_get (D := (dC, dI)) (ci := 1) (v := .int (v_6 (119) 3)) (C := RX1) (T := TX1) (N := 7) hx hb hts iwX1_copyFrom_X1 hown hK hP (119) (wl_at (by omega) (ce_3 (by decide))) rfl 3 (by decide) (hts (.fieldLink RX1 91 "QuietStairs$House" "markCount" "I") fwX1_copyFrom_4) (fun _ h9 => h9) rfl dX1_copyFrom_26 ?_
  refine lv_topi (fun x_7 ex_7 => ?_)
  have bzx_7 : 0 ≤ x_7.toInt ∧ x_7.toInt ≤ 6 := by rw [ex_7]; exact hv.at (K := 3) (by decide) rfl
  rw [ev_6, upr_n (by omega), ev_4, upr_n (by omega), ev_2, upr_n (by omega)] at ex_7
  have qx_7 : x_7.toInt = (v (119) (3)).toInt := congrArg Int32.toInt ex_7
  refine va_put (D := (dC, dI)) (ci := 1) (v := .int x_7) (ty := .int) (C := RX1) (T := TX1) (N := 7) hx hb hts iwX1_copyFrom_X1 tyX1 tyX1_ok nmX1 hown hK hP hD hS (13) (wl_at (by omega) (ce_3 (by decide))) rfl 3 (by decide) (hts (.fieldLink RX1 91 "QuietStairs$House" "markCount" "I") fwX1_copyFrom_4) (fun _ h9 => h9) rfl (by decide +kernel) rfl rfl (Nat.le_of_ble_eq_true rfl) dX1_copyFrom_29 (fun H locs hP hD hS => ?_)
  obtain ⟨v_8, ev_8⟩ : ∃ u : Nat → Nat → Int32, u = upr v_6 (13) (upd (v_6 (13)) 3 x_7) := ⟨_, rfl⟩
  have hP : va_P (dC, dI) vwCl (wl ad kv cy N v_8) H := by rw [ev_8, ← wl_put (e := _) (ce_3 (by decide))]; exact hP
  have hD : va_D A (wl ad kv cy N v_8) := by rw [ev_8, ← wl_put (e := _) (ce_3 (by decide))]; exact hD
  have hv : Iv v_8 := by rw [ev_8]; exact hv.put (K := 3) (by decide) (fun h q => by cases q; exact ⟨by omega, by omega⟩)
  refine lv_iconst (v := 0) hx hb dX1_copyFrom_32 (by decide) ?_
  refine lv_istore_n (lv' := [(2, .int 0), (0, .ref (ad 13)), (1, .ref (ad 119))]) hx hb dX1_copyFrom_33 rfl hl (by decide) rfl (fun ls hl => ?_)
  have hc_9 : ∀ (n : Nat) (y9_2 : Int32) (u9 : Nat → Nat → Int32) (H : Heap) (locs : List Loc), 0 ≤ y9_2.toInt → y9_2.toInt ≤ 8 → (∀ k j : Nat, u9 k j = if 17 ≤ k ∧ (k : Int) < 17 + y9_2.toInt ∧ j < 2 then v_8 (k + 106) j else v_8 k j) → (y9_2.toInt ≤ (v 119 0).toInt) → (8 - y9_2.toInt).toNat < n → Iv u9 → va_P (dC, dI) vwCl (wl ad kv cy N u9) H → va_D A (wl ad kv cy N u9) → va_S A s.heap H locs → ∀ ls : Array Slot, lv_has ls 3 [(2, .int y9_2), (0, .ref (ad 13)), (1, .ref (ad 119))] → W p l e (headSpec wsX1_copyFrom ({ frames := 2, cells := 0, slots := 0, locals := 128 })).room s m [Value.ref (ad 13), Value.ref (ad 119)].toArray below meth c H locs 0 0 (MQ below (va_Qv (fun (u : Nat → Nat → Int32) => Iv u ∧ (∀ o j : Nat, lvH v 119 o j → u (13 + o) j = v (119 + o) j) ∧ (∀ k : Nat, (k < 13 ∨ 119 ≤ k) → u k = v k)) (fun u t => ex_Pst dC dI A (wl ad kv cy N u) t) A) [Value.ref (ad 13), Value.ref (ad 119)].toArray s 0 0 A) (F0 m 34 ls []) := by
    intro n
    induction n with
    | zero =>
      intro y9_2 u9 H locs ay9_2 by9_2 hi9_0 hi9_1 hm_9 hv hP hD hS ls hl
      exact absurd hm_9 (by omega)
    | succ n ih_9 =>
      intro y9_2 u9 H locs ay9_2 by9_2 hi9_0 hi9_1 hm_9 hv hP hD hS ls hl
      refine lv_iload_n hx hb dX1_copyFrom_34 rfl (lv_at hl 0 rfl) ?_
      refine lv_aload_n hx hb dX1_copyFrom_35 rfl (lv_at hl 1 rfl) ?_
      refine va_get (D := (dC, dI)) (ci := 1) (v := .int (u9 (13) 0)) (C := RX1) (T := TX1) (N := 7) hx hb hts iwX1_copyFrom_X1 hown hK hP (13) (wl_at (by omega) (ce_3 (by decide))) rfl 0 (by decide) (hts (.fieldLink RX1 88 "QuietStairs$House" "partyCount" "I") fwX1_copyFrom_1) (fun _ h9 => h9) rfl dX1_copyFrom_36 ?_
      refine lv_topi (fun x_10 ex_10 => ?_)
      have bzx_10 : 0 ≤ x_10.toInt ∧ x_10.toInt ≤ 8 := by rw [ex_10]; exact hv.at (K := 3) (by decide) rfl
      have qx_10 : x_10.toInt = (u9 (13) (0)).toInt := congrArg Int32.toInt ex_10
      have hmx_10 : x_10.toInt = (v 119 0).toInt := by rw [ex_10, hi9_0 13 0, if_neg (by omega), ev_8, up2, if_neg (by decide), ev_6, up2, if_neg (by decide), ev_4, up2, if_neg (by decide), ev_2, up2, if_pos ⟨rfl, rfl⟩, ex_1]
      refine lv_icmp_ge (tgt := 63) hx hb dX1_copyFrom_39 (by decide) (fun c_11 => ?_) (fun c_11 => ?_)
      · have tc_11 : y9_2.toInt ≥ x_10.toInt := Int32.le_iff_toInt_le.mp c_11
        refine lv_iconst (v := 0) hx hb dX1_copyFrom_63 (by decide) ?_
        refine lv_istore_n (lv' := [(2, .int 0), (0, .ref (ad 13)), (1, .ref (ad 119))]) hx hb dX1_copyFrom_64 rfl hl (by decide) rfl (fun ls hl => ?_)
        have hc_12 : ∀ (n : Nat) (y12_2 : Int32) (u12 : Nat → Nat → Int32) (H : Heap) (locs : List Loc), 0 ≤ y12_2.toInt → y12_2.toInt ≤ 4 → (∀ k j : Nat, u12 k j = if 25 ≤ k ∧ (k : Int) < 25 + y12_2.toInt ∧ j < 3 then u9 (k + 106) j else u9 k j) → (y12_2.toInt ≤ (v 119 1).toInt) → (4 - y12_2.toInt).toNat < n → Iv u12 → va_P (dC, dI) vwCl (wl ad kv cy N u12) H → va_D A (wl ad kv cy N u12) → va_S A s.heap H locs → ∀ ls : Array Slot, lv_has ls 3 [(2, .int y12_2), (0, .ref (ad 13)), (1, .ref (ad 119))] → W p l e (headSpec wsX1_copyFrom ({ frames := 2, cells := 0, slots := 0, locals := 128 })).room s m [Value.ref (ad 13), Value.ref (ad 119)].toArray below meth c H locs 0 0 (MQ below (va_Qv (fun (u : Nat → Nat → Int32) => Iv u ∧ (∀ o j : Nat, lvH v 119 o j → u (13 + o) j = v (119 + o) j) ∧ (∀ k : Nat, (k < 13 ∨ 119 ≤ k) → u k = v k)) (fun u t => ex_Pst dC dI A (wl ad kv cy N u) t) A) [Value.ref (ad 13), Value.ref (ad 119)].toArray s 0 0 A) (F0 m 65 ls []) := by
          intro n
          induction n with
          | zero =>
            intro y12_2 u12 H locs ay12_2 by12_2 hi12_0 hi12_1 hm_12 hv hP hD hS ls hl
            exact absurd hm_12 (by omega)
          | succ n ih_12 =>
            intro y12_2 u12 H locs ay12_2 by12_2 hi12_0 hi12_1 hm_12 hv hP hD hS ls hl
            refine lv_iload_n hx hb dX1_copyFrom_65 rfl (lv_at hl 0 rfl) ?_
            refine lv_aload_n hx hb dX1_copyFrom_66 rfl (lv_at hl 1 rfl) ?_
            refine va_get (D := (dC, dI)) (ci := 1) (v := .int (u12 (13) 1)) (C := RX1) (T := TX1) (N := 7) hx hb hts iwX1_copyFrom_X1 hown hK hP (13) (wl_at (by omega) (ce_3 (by decide))) rfl 1 (by decide) (hts (.fieldLink RX1 36 "QuietStairs$House" "mediatorCount" "I") fwX1_copyFrom_2) (fun _ h9 => h9) rfl dX1_copyFrom_67 ?_
            refine lv_topi (fun x_13 ex_13 => ?_)
            have bzx_13 : 0 ≤ x_13.toInt ∧ x_13.toInt ≤ 4 := by rw [ex_13]; exact hv.at (K := 3) (by decide) rfl
            have qx_13 : x_13.toInt = (u12 (13) (1)).toInt := congrArg Int32.toInt ex_13
            have hmx_13 : x_13.toInt = (v 119 1).toInt := by rw [ex_13, hi12_0 13 1, if_neg (by omega), hi9_0 13 1, if_neg (by omega), ev_8, up2, if_neg (by decide), ev_6, up2, if_neg (by decide), ev_4, up2, if_pos ⟨rfl, rfl⟩, ex_3]
            refine lv_icmp_ge (tgt := 94) hx hb dX1_copyFrom_70 (by decide) (fun c_14 => ?_) (fun c_14 => ?_)
            · have tc_14 : y12_2.toInt ≥ x_13.toInt := Int32.le_iff_toInt_le.mp c_14
              refine lv_iconst (v := 0) hx hb dX1_copyFrom_94 (by decide) ?_
              refine lv_istore_n (lv' := [(2, .int 0), (0, .ref (ad 13)), (1, .ref (ad 119))]) hx hb dX1_copyFrom_95 rfl hl (by decide) rfl (fun ls hl => ?_)
              have hc_15 : ∀ (n : Nat) (y15_2 : Int32) (u15 : Nat → Nat → Int32) (H : Heap) (locs : List Loc), 0 ≤ y15_2.toInt → y15_2.toInt ≤ 6 → (∀ q o j : Nat, q < 6 → (q : Int) < y15_2.toInt → lvC (u12 (135 + 15 * q)) o j → u15 (29 + 15 * q + o) j = u12 (135 + 15 * q + o) j) → (∀ k : Nat, (k < 29 ∨ 119 ≤ k) → u15 k = u12 k) → (y15_2.toInt ≤ (v 119 2).toInt) → (6 - y15_2.toInt).toNat < n → Iv u15 → va_P (dC, dI) vwCl (wl ad kv cy N u15) H → va_D A (wl ad kv cy N u15) → va_S A s.heap H locs → ∀ ls : Array Slot, lv_has ls 3 [(2, .int y15_2), (0, .ref (ad 13)), (1, .ref (ad 119))] → W p l e (headSpec wsX1_copyFrom ({ frames := 2, cells := 0, slots := 0, locals := 128 })).room s m [Value.ref (ad 13), Value.ref (ad 119)].toArray below meth c H locs 0 0 (MQ below (va_Qv (fun (u : Nat → Nat → Int32) => Iv u ∧ (∀ o j : Nat, lvH v 119 o j → u (13 + o) j = v (119 + o) j) ∧ (∀ k : Nat, (k < 13 ∨ 119 ≤ k) → u k = v k)) (fun u t => ex_Pst dC dI A (wl ad kv cy N u) t) A) [Value.ref (ad 13), Value.ref (ad 119)].toArray s 0 0 A) (F0 m 96 ls []) := by
                intro n
                induction n with
                | zero =>
                  intro y15_2 u15 H locs ay15_2 by15_2 hi15_0 hi15_1 hi15_2 hm_15 hv hP hD hS ls hl
                  exact absurd hm_15 (by omega)
                | succ n ih_15 =>
                  intro y15_2 u15 H locs ay15_2 by15_2 hi15_0 hi15_1 hi15_2 hm_15 hv hP hD hS ls hl
                  refine lv_iload_n hx hb dX1_copyFrom_96 rfl (lv_at hl 0 rfl) ?_
                  refine lv_aload_n hx hb dX1_copyFrom_97 rfl (lv_at hl 1 rfl) ?_
                  refine va_get (D := (dC, dI)) (ci := 1) (v := .int (u15 (13) 2)) (C := RX1) (T := TX1) (N := 7) hx hb hts iwX1_copyFrom_X1 hown hK hP (13) (wl_at (by omega) (ce_3 (by decide))) rfl 2 (by decide) (hts (.fieldLink RX1 66 "QuietStairs$House" "caseCount" "I") fwX1_copyFrom_3) (fun _ h9 => h9) rfl dX1_copyFrom_98 ?_
                  refine lv_topi (fun x_16 ex_16 => ?_)
                  have bzx_16 : 0 ≤ x_16.toInt ∧ x_16.toInt ≤ 6 := by rw [ex_16]; exact hv.at (K := 3) (by decide) rfl
                  have qx_16 : x_16.toInt = (u15 (13) (2)).toInt := congrArg Int32.toInt ex_16
                  have hmx_16 : x_16.toInt = (v 119 2).toInt := by rw [ex_16, hi15_1 13 (by omega), hi12_0 13 2, if_neg (by omega), hi9_0 13 2, if_neg (by omega), ev_8, up2, if_neg (by decide), ev_6, up2, if_pos ⟨rfl, rfl⟩, ex_5]
                  refine lv_icmp_ge (tgt := 125) hx hb dX1_copyFrom_101 (by decide) (fun c_17 => ?_) (fun c_17 => ?_)
                  · have tc_17 : y15_2.toInt ≥ x_16.toInt := Int32.le_iff_toInt_le.mp c_17
                    have y1 : y9_2.toInt = (v 119 0).toInt := by omega
                    have y2 : y12_2.toInt = (v 119 1).toInt := by omega
                    have y3 : y15_2.toInt = (v 119 2).toInt := by omega
                    have hz : ∀ k j : Nat, v_8 k j = if k = 13 ∧ j = 3 then v (119) 3 else if k = 13 ∧ j = 2 then v (119) 2 else if k = 13 ∧ j = 1 then v (119) 1 else if k = 13 ∧ j = 0 then v (119) 0 else v k j := fun k j => by rw [ev_8, up2, ev_6, up2, ev_4, up2, ev_2, up2, ex_7, ex_5, ex_3, ex_1]
                    have hs : ∀ k : Nat, (k < 13 ∨ 119 ≤ k) → u12 k = v k := fun k hk => funext fun j => by rw [hi12_0 k j, if_neg (by omega), hi9_0 k j, if_neg (by omega), hz, if_neg (by omega), if_neg (by omega), if_neg (by omega), if_neg (by omega)]
                    have hpost : (∀ o j : Nat, lvH v 119 o j → u15 (13 + o) j = v (119 + o) j) ∧ (∀ k : Nat, (k < 13 ∨ 119 ≤ k) → u15 k = v k) := by
                      refine ⟨fun o j hq => ?_, fun k hk => by rw [hi15_1 k (by omega)]; exact hs k hk⟩
                      unfold lvH at hq
                      rcases hq with ⟨rfl, hj⟩ | ⟨h1, h2, h3, hj⟩ | ⟨h1, h2, h3, hj⟩ | ⟨q, o2, h1, h2, rfl, hl⟩
                      · rw [hi15_1 _ (by omega), hi12_0 _ j, if_neg (by omega), hi9_0 _ j, if_neg (by omega), hz]
                        rcases (show j = 0 ∨ j = 1 ∨ j = 2 ∨ j = 3 by omega) with rfl | rfl | rfl | rfl
                        · rw [if_neg (by omega), if_neg (by omega), if_neg (by omega), if_pos ⟨rfl, rfl⟩]
                        · rw [if_neg (by omega), if_neg (by omega), if_pos ⟨rfl, rfl⟩]
                        · rw [if_neg (by omega), if_pos ⟨rfl, rfl⟩]
                        · rw [if_pos ⟨rfl, rfl⟩]
                      · rw [hi15_1 _ (by omega), hi12_0 _ j, if_neg (by omega), hi9_0 _ j, if_pos (by omega), show 13 + o + 106 = 119 + o from by omega, hz, if_neg (by omega), if_neg (by omega), if_neg (by omega), if_neg (by omega)]
                      · rw [hi15_1 _ (by omega), hi12_0 _ j, if_pos (by omega), show 13 + o + 106 = 119 + o from by omega, hi9_0 _ j, if_neg (by omega), hz, if_neg (by omega), if_neg (by omega), if_neg (by omega), if_neg (by omega)]
                      · have ho := lvC_o hl
                        have e1 := hi15_0 q o2 j h1 (by omega) (by rw [hs _ (by omega)]; exact hl)
                        rw [hs _ (by omega)] at e1
                        rw [show 13 + (16 + 15 * q + o2) = 29 + 15 * q + o2 from by omega, show 119 + (16 + 15 * q + o2) = 135 + 15 * q + o2 from by omega]
                        exact e1
                    exact W.vret hx hb hr (fun t ht hW => ⟨⟨u15, rfl, ⟨hv, hpost⟩, by rw [ht]; exact hP, hD⟩, hS.F ht⟩) hS.2.2 dX1_copyFrom_125
                  · have tc_17 : y15_2.toInt < x_16.toInt := Int32.lt_iff_toInt_lt.mp (Int32.not_le.mp c_17)
                    refine lv_aload_n hx hb dX1_copyFrom_104 rfl (lv_at hl 1 rfl) ?_
                    refine va_get (D := (dC, dI)) (ci := 1) (v := .ref (ad 16)) (C := RX1) (T := TX1) (N := 7) hx hb hts iwX1_copyFrom_X1 hown hK hP (13) (wl_at (by omega) (ce_3 (by decide))) rfl 6 (by decide) (hts (.fieldLink RX1 25 "QuietStairs$House" "cases" "[LQuietStairs$Case;") fwX1_copyFrom_7) (fun _ h9 => h9) rfl dX1_copyFrom_105 ?_
                    refine lv_iload_n hx hb dX1_copyFrom_108 rfl (lv_at hl 0 rfl) ?_
                    have zn_y15_2 : (y15_2.toNatClampNeg : Int) = y15_2.toInt := t_nn (by omega)
                    have hx_18 : y15_2.toNatClampNeg < 6 := by omega
                    refine va_aldq hx hb hK hP (16) 3 (wl_at (by omega) (ce_6 (by decide))) rfl (vp_in_iff.mpr ⟨by omega, by omega⟩) dX1_copyFrom_109 ?_
                    refine W.eq (g2 := F0 m 110 ls [.ref (ad (29 + 15 * y15_2.toNatClampNeg))]) (by rw [if_pos hx_18, show 16 + 13 + 15 * y15_2.toNatClampNeg = 29 + 15 * y15_2.toNatClampNeg from by omega]; rfl) ?_
                    refine lv_aload_n hx hb dX1_copyFrom_110 rfl (lv_at hl 2 rfl) ?_
                    refine va_get (D := (dC, dI)) (ci := 1) (v := .ref (ad 122)) (C := RX1) (T := TX1) (N := 7) hx hb hts iwX1_copyFrom_X1 hown hK hP (119) (wl_at (by omega) (ce_3 (by decide))) rfl 6 (by decide) (hts (.fieldLink RX1 25 "QuietStairs$House" "cases" "[LQuietStairs$Case;") fwX1_copyFrom_7) (fun _ h9 => h9) rfl dX1_copyFrom_111 ?_
                    refine lv_iload_n hx hb dX1_copyFrom_114 rfl (lv_at hl 0 rfl) ?_
                    refine va_aldq hx hb hK hP (122) 3 (wl_at (by omega) (ce_6 (by decide))) rfl (vp_in_iff.mpr ⟨by omega, by omega⟩) dX1_copyFrom_115 ?_
                    refine W.eq (g2 := F0 m 116 ls [.ref (ad (135 + 15 * y15_2.toNatClampNeg)), .ref (ad (29 + 15 * y15_2.toNatClampNeg))]) (by rw [if_pos hx_18, show 122 + 13 + 15 * y15_2.toNatClampNeg = 135 + 15 * y15_2.toNatClampNeg from by omega]; rfl) ?_
                    refine yw_v (w1 := fun (u : Nat → Nat → Int32) => wl ad kv cy N u) hD hS hA (va_runV (As := [.ref (ad (135 + 15 * y15_2.toNatClampNeg))]) (rest := []) ⟨hx, hb, hml, hown, hts⟩ (e_X0_copyFrom_a l dC dI cy _ ad kv N hN u15 hv y15_2.toNatClampNeg hx_18 hN2) (cwV 1 hts gX1_copyFrom_X0_copyFrom rfl rfl rfl hd_V_X0_copyFrom_1 ⟨Nat.le_of_ble_eq_true rfl, Nat.le_of_ble_eq_true rfl⟩) (yw_preV hE hK hP hD (ci := 0) (q := (RX0, TX0, 11)) (q0 := (29 + 15 * y15_2.toNatClampNeg)) rfl (wl_at (by omega) (ce_9 (kd_c _ hx_18).1.1))) rfl rfl hl.1 rfl (lv_room (Nat.le_of_ble_eq_true rfl)) dX1_copyFrom_116 ⟨Nat.le_of_ble_eq_true rfl, Nat.le_of_ble_eq_true rfl⟩) (fun v_19 H locs hw_19 hP hD hS => ?_)
                    obtain ⟨hv, hw_19⟩ := hw_19
                    obtain ⟨x_20, ex_20⟩ : ∃ y : Int32, y = y15_2 + 1 := ⟨_, rfl⟩
                    refine lv_iinc (v := x_20) (lv' := [(2, .int x_20), (0, .ref (ad 13)), (1, .ref (ad 119))]) hx hb dX1_copyFrom_119 hl (k := 0) rfl (by rw [ex_20]; rfl) (by decide) rfl (fun ls hl => ?_)
                    have k_1 : (1 : Int32).toInt = 1 := by decide
                    have tx_20 : x_20.toInt = y15_2.toInt + (1 : Int32).toInt := by rw [ex_20]; exact t_add ⟨by omega, by omega⟩
                    refine lv_goto (tgt := 96) hx hb dX1_copyFrom_122 (by decide) ?_
                    exact ih_15 x_20 v_19 _ _ (by omega) (by omega) (fun q o j h6 hq hl => by have ho := lvC_o hl; by_cases h : q = y15_2.toNatClampNeg; subst h; rw [hw_19.1 o j (by rw [hi15_1 _ (by omega)]; exact hl), hi15_1 _ (by omega)]; rw [hw_19.2 _ (by omega)]; exact hi15_0 q o j h6 (by omega) hl) (fun k hk => by rw [hw_19.2 k (by omega)]; exact hi15_1 k hk) (by omega) (by omega) hv hP hD hS ls (lv_sub hl [0, 1, 2] rfl)
              have k_0 : (0 : Int32).toInt = 0 := by decide
              exact hc_15 ((6 - (0 : Int32).toInt).toNat + 1) 0 u12 _ _ (by omega) (by omega) (fun q o j _ hq _ => absurd hq (by omega)) (fun _ _ => rfl) (by omega) (by omega) hv hP hD hS ls (lv_sub hl [0, 1, 2] rfl)
            · have tc_14 : y12_2.toInt < x_13.toInt := Int32.lt_iff_toInt_lt.mp (Int32.not_le.mp c_14)
              refine lv_aload_n hx hb dX1_copyFrom_73 rfl (lv_at hl 1 rfl) ?_
              refine va_get (D := (dC, dI)) (ci := 1) (v := .ref (ad 15)) (C := RX1) (T := TX1) (N := 7) hx hb hts iwX1_copyFrom_X1 hown hK hP (13) (wl_at (by omega) (ce_3 (by decide))) rfl 5 (by decide) (hts (.fieldLink RX1 19 "QuietStairs$House" "mediators" "[LQuietStairs$Mediator;") fwX1_copyFrom_6) (fun _ h9 => h9) rfl dX1_copyFrom_74 ?_
              refine lv_iload_n hx hb dX1_copyFrom_77 rfl (lv_at hl 0 rfl) ?_
              have zn_y12_2 : (y12_2.toNatClampNeg : Int) = y12_2.toInt := t_nn (by omega)
              have hx_15 : y12_2.toNatClampNeg < 4 := by omega
              refine va_aldq hx hb hK hP (15) 2 (wl_at (by omega) (ce_5 (by decide))) rfl (vp_in_iff.mpr ⟨by omega, by omega⟩) dX1_copyFrom_78 ?_
              refine W.eq (g2 := F0 m 79 ls [.ref (ad (25 + y12_2.toNatClampNeg))]) (by rw [if_pos hx_15, show 15 + 10 + y12_2.toNatClampNeg = 25 + y12_2.toNatClampNeg from by omega]; rfl) ?_
              refine lv_aload_n hx hb dX1_copyFrom_79 rfl (lv_at hl 2 rfl) ?_
              refine va_get (D := (dC, dI)) (ci := 1) (v := .ref (ad 121)) (C := RX1) (T := TX1) (N := 7) hx hb hts iwX1_copyFrom_X1 hown hK hP (119) (wl_at (by omega) (ce_3 (by decide))) rfl 5 (by decide) (hts (.fieldLink RX1 19 "QuietStairs$House" "mediators" "[LQuietStairs$Mediator;") fwX1_copyFrom_6) (fun _ h9 => h9) rfl dX1_copyFrom_80 ?_
              refine lv_iload_n hx hb dX1_copyFrom_83 rfl (lv_at hl 0 rfl) ?_
              refine va_aldq hx hb hK hP (121) 2 (wl_at (by omega) (ce_5 (by decide))) rfl (vp_in_iff.mpr ⟨by omega, by omega⟩) dX1_copyFrom_84 ?_
              refine W.eq (g2 := F0 m 85 ls [.ref (ad (131 + y12_2.toNatClampNeg)), .ref (ad (25 + y12_2.toNatClampNeg))]) (by rw [if_pos hx_15, show 121 + 10 + y12_2.toNatClampNeg = 131 + y12_2.toNatClampNeg from by omega]; rfl) ?_
              refine yw_v (w1 := fun (u : Nat → Nat → Int32) => wl ad kv cy N u) hD hS hA (va_runV (As := [.ref (ad (131 + y12_2.toNatClampNeg))]) (rest := []) ⟨hx, hb, hml, hown, hts⟩ (e_X2_copyFrom_a l dC dI cy _ ad kv N hN u12 hv y12_2.toNatClampNeg hx_15 hN2) (cwV 1 hts gX1_copyFrom_X2_copyFrom rfl rfl rfl hd_V_X2_copyFrom_1 ⟨Nat.le_of_ble_eq_true rfl, Nat.le_of_ble_eq_true rfl⟩) (yw_preV hE hK hP hD (ci := 2) (q := (RX2, TX2, 3)) (q0 := (25 + y12_2.toNatClampNeg)) rfl (wl_at (by omega) (ce_8 (kd_m _ hx_15).1))) rfl rfl hl.1 rfl (lv_room (Nat.le_of_ble_eq_true rfl)) dX1_copyFrom_85 ⟨Nat.le_of_ble_eq_true rfl, Nat.le_of_ble_eq_true rfl⟩) (fun v_16 H locs hw_16 hP hD hS => ?_)
              obtain ⟨hv, hw_16⟩ := hw_16
              obtain ⟨x_17, ex_17⟩ : ∃ y : Int32, y = y12_2 + 1 := ⟨_, rfl⟩
              refine lv_iinc (v := x_17) (lv' := [(2, .int x_17), (0, .ref (ad 13)), (1, .ref (ad 119))]) hx hb dX1_copyFrom_88 hl (k := 0) rfl (by rw [ex_17]; rfl) (by decide) rfl (fun ls hl => ?_)
              have k_1 : (1 : Int32).toInt = 1 := by decide
              have tx_17 : x_17.toInt = y12_2.toInt + (1 : Int32).toInt := by rw [ex_17]; exact t_add ⟨by omega, by omega⟩
              refine lv_goto (tgt := 65) hx hb dX1_copyFrom_91 (by decide) ?_
              exact ih_12 x_17 v_16 _ _ (by omega) (by omega) (fun k j => by rw [hw_16 k j]; by_cases h : k = 25 + y12_2.toNatClampNeg ∧ j < 3; rw [if_pos h, if_pos (by omega), hi12_0, if_neg (by omega), h.1, show 25 + y12_2.toNatClampNeg + 106 = 131 + y12_2.toNatClampNeg from by omega]; rw [if_neg h, hi12_0 k j]; (repeat' split); all_goals first | rfl | (exfalso; omega)) (by omega) (by omega) hv hP hD hS ls (lv_sub hl [0, 1, 2] rfl)
        have k_0 : (0 : Int32).toInt = 0 := by decide
        exact hc_12 ((4 - (0 : Int32).toInt).toNat + 1) 0 u9 _ _ (by omega) (by omega) (fun k j => by rw [if_neg (by omega)]) (by omega) (by omega) hv hP hD hS ls (lv_sub hl [0, 1, 2] rfl)
      · have tc_11 : y9_2.toInt < x_10.toInt := Int32.lt_iff_toInt_lt.mp (Int32.not_le.mp c_11)
        refine lv_aload_n hx hb dX1_copyFrom_42 rfl (lv_at hl 1 rfl) ?_
        refine va_get (D := (dC, dI)) (ci := 1) (v := .ref (ad 14)) (C := RX1) (T := TX1) (N := 7) hx hb hts iwX1_copyFrom_X1 hown hK hP (13) (wl_at (by omega) (ce_3 (by decide))) rfl 4 (by decide) (hts (.fieldLink RX1 11 "QuietStairs$House" "parties" "[LQuietStairs$Party;") fwX1_copyFrom_5) (fun _ h9 => h9) rfl dX1_copyFrom_43 ?_
        refine lv_iload_n hx hb dX1_copyFrom_46 rfl (lv_at hl 0 rfl) ?_
        have zn_y9_2 : (y9_2.toNatClampNeg : Int) = y9_2.toInt := t_nn (by omega)
        have hx_12 : y9_2.toNatClampNeg < 8 := by omega
        refine va_aldq hx hb hK hP (14) 1 (wl_at (by omega) (ce_4 (by decide))) rfl (vp_in_iff.mpr ⟨by omega, by omega⟩) dX1_copyFrom_47 ?_
        refine W.eq (g2 := F0 m 48 ls [.ref (ad (17 + y9_2.toNatClampNeg))]) (by rw [if_pos hx_12, show 14 + 3 + y9_2.toNatClampNeg = 17 + y9_2.toNatClampNeg from by omega]; rfl) ?_
        refine lv_aload_n hx hb dX1_copyFrom_48 rfl (lv_at hl 2 rfl) ?_
        refine va_get (D := (dC, dI)) (ci := 1) (v := .ref (ad 120)) (C := RX1) (T := TX1) (N := 7) hx hb hts iwX1_copyFrom_X1 hown hK hP (119) (wl_at (by omega) (ce_3 (by decide))) rfl 4 (by decide) (hts (.fieldLink RX1 11 "QuietStairs$House" "parties" "[LQuietStairs$Party;") fwX1_copyFrom_5) (fun _ h9 => h9) rfl dX1_copyFrom_49 ?_
        refine lv_iload_n hx hb dX1_copyFrom_52 rfl (lv_at hl 0 rfl) ?_
        refine va_aldq hx hb hK hP (120) 1 (wl_at (by omega) (ce_4 (by decide))) rfl (vp_in_iff.mpr ⟨by omega, by omega⟩) dX1_copyFrom_53 ?_
        refine W.eq (g2 := F0 m 54 ls [.ref (ad (123 + y9_2.toNatClampNeg)), .ref (ad (17 + y9_2.toNatClampNeg))]) (by rw [if_pos hx_12, show 120 + 3 + y9_2.toNatClampNeg = 123 + y9_2.toNatClampNeg from by omega]; rfl) ?_
        refine yw_v (w1 := fun (u : Nat → Nat → Int32) => wl ad kv cy N u) hD hS hA (va_runV (As := [.ref (ad (123 + y9_2.toNatClampNeg))]) (rest := []) ⟨hx, hb, hml, hown, hts⟩ (e_X3_copyFrom_a l dC dI cy _ ad kv N hN u9 hv y9_2.toNatClampNeg hx_12 hN2) (cwV 1 hts gX1_copyFrom_X3_copyFrom rfl rfl rfl hd_V_X3_copyFrom_1 ⟨Nat.le_of_ble_eq_true rfl, Nat.le_of_ble_eq_true rfl⟩) (yw_preV hE hK hP hD (ci := 3) (q := (RX3, TX3, 2)) (q0 := (17 + y9_2.toNatClampNeg)) rfl (wl_at (by omega) (ce_7 (kd_p _ hx_12).1))) rfl rfl hl.1 rfl (lv_room (Nat.le_of_ble_eq_true rfl)) dX1_copyFrom_54 ⟨Nat.le_of_ble_eq_true rfl, Nat.le_of_ble_eq_true rfl⟩) (fun v_13 H locs hw_13 hP hD hS => ?_)
        obtain ⟨hv, hw_13⟩ := hw_13
        obtain ⟨x_14, ex_14⟩ : ∃ y : Int32, y = y9_2 + 1 := ⟨_, rfl⟩
        refine lv_iinc (v := x_14) (lv' := [(2, .int x_14), (0, .ref (ad 13)), (1, .ref (ad 119))]) hx hb dX1_copyFrom_57 hl (k := 0) rfl (by rw [ex_14]; rfl) (by decide) rfl (fun ls hl => ?_)
        have k_1 : (1 : Int32).toInt = 1 := by decide
        have tx_14 : x_14.toInt = y9_2.toInt + (1 : Int32).toInt := by rw [ex_14]; exact t_add ⟨by omega, by omega⟩
        refine lv_goto (tgt := 34) hx hb dX1_copyFrom_60 (by decide) ?_
        exact ih_9 x_14 v_13 _ _ (by omega) (by omega) (fun k j => by rw [hw_13 k j]; by_cases h : k = 17 + y9_2.toNatClampNeg ∧ j < 2; rw [if_pos h, if_pos (by omega), hi9_0, if_neg (by omega), h.1, show 17 + y9_2.toNatClampNeg + 106 = 123 + y9_2.toNatClampNeg from by omega]; rw [if_neg h, hi9_0 k j]; (repeat' split); all_goals first | rfl | (exfalso; omega)) (by omega) (by omega) hv hP hD hS ls (lv_sub hl [0, 1, 2] rfl)
  have k_0 : (0 : Int32).toInt = 0 := by decide
  exact hc_9 ((8 - (0 : Int32).toInt).toNat + 1) 0 v_8 _ _ (by omega) (by omega) (fun k j => by rw [if_neg (by omega)]) (by omega) (by omega) hv hP hD hS ls (lv_sub hl [0, 1, 2] rfl)

set_option maxHeartbeats 4000000 in
set_option maxRecDepth 100000 in
theorem e_X1_copyFrom_b (l : Launch) (dC : Nat → ClassId) (dI : Nat → Nat → Nat) (cy : Nat → ClassId) (sz : Nat) (ad : Nat → Nat) (kv : Value) (N : Nat) (hN : 119 ≤ N) (v : Nat → Nat → Int32) (hv : Iv v) (hN2 : 225 ≤ N)  : Met l yX1_copyFrom wsX1_copyFrom ({ frames := 2, cells := 0, slots := 0, locals := 128 }) (va_Pc [.ref (ad 119), .ref (ad 13)] (ex_Pre dC dI cy sz (wl ad kv cy N v))) (va_Qv (fun (u : Nat → Nat → Int32) => Iv u ∧ (∀ o j : Nat, lvH v 13 o j → u (119 + o) j = v (13 + o) j) ∧ (∀ k : Nat, (k < 119 ∨ 225 ≤ k) → u k = v k)) (fun u t => ex_Pst dC dI (va_A (wl ad kv cy N v) sz) (wl ad kv cy N u) t) (va_A (wl ad kv cy N v) sz)) 0 0 (va_A (wl ad kv cy N v) sz) := by
  refine Met.ofW (cc := cX1_copyFrom) (maxL := 3) (ret := none) (by decide) rfl ?_
  intro p e s m args below meth c s₁ B hml hv
  obtain ⟨rfl, hsz, hE, hP, hK, hD0⟩ := hv
  have hx := B.exec
  have hb := B.bytes
  have hr := B.returns
  have hts := atoms_spec (ws := wsX1_copyFrom) B.pre
  have hown : s.vm.findClass RX1 = some m.cls := findClass_of_methodNamed B.named
  have hlocks := B.notSynchronized
  subst hsz
  have hD := hD0.self (sz := s.heap.size)
  generalize hAe : va_A (wl ad kv cy N v) s.heap.size = A at hD ⊢
  have hA : ∀ q : Nat, s.heap.size ≤ q → A q := fun q h => by rw [← hAe]; exact Or.inr h
  have hS : va_S A s.heap s.heap [] := va_S.rf
  have hP : va_P (dC, dI) vwCl (wl ad kv cy N v) s.heap := hP
  have hl := lv_entry ([.ref (ad 119), .ref (ad 13)]) (n := 3) (Nat.le_of_ble_eq_true rfl)
  rw [lg_entry_eq]
  generalize (lg_sl ([.ref (ad 119), .ref (ad 13)]) ++ List.replicate (3 - (lg_sl ([.ref (ad 119), .ref (ad 13)])).length) Slot.unset).toArray = ls at hl ⊢
  have hl : lv_has ls 3 [(0, .ref (ad 119)), (1, .ref (ad 13))] := hl
  have hc0 := hv.at (k := 13) (j := 0) (K := 3) (by decide) rfl
  have hc1 := hv.at (k := 13) (j := 1) (K := 3) (by decide) rfl
  have hc2 := hv.at (k := 13) (j := 2) (K := 3) (by decide) rfl
  refine lv_aload_n hx hb dX1_copyFrom_0 rfl (lv_at hl 0 rfl) ?_
  refine lv_aload_n hx hb dX1_copyFrom_1 rfl (lv_at hl 1 rfl) ?_
  refine va_get (D := (dC, dI)) (ci := 1) (v := .int (v (13) 0)) (C := RX1) (T := TX1) (N := 7) hx hb hts iwX1_copyFrom_X1 hown hK hP (13) (wl_at (by omega) (ce_3 (by decide))) rfl 0 (by decide) (hts (.fieldLink RX1 88 "QuietStairs$House" "partyCount" "I") fwX1_copyFrom_1) (fun _ h9 => h9) rfl dX1_copyFrom_2 ?_
  refine lv_topi (fun x_1 ex_1 => ?_)
  have bzx_1 : 0 ≤ x_1.toInt ∧ x_1.toInt ≤ 8 := by rw [ex_1]; exact hv.at (K := 3) (by decide) rfl
  have qx_1 : x_1.toInt = (v (13) (0)).toInt := congrArg Int32.toInt ex_1
  refine va_put (D := (dC, dI)) (ci := 1) (v := .int x_1) (ty := .int) (C := RX1) (T := TX1) (N := 7) hx hb hts iwX1_copyFrom_X1 tyX1 tyX1_ok nmX1 hown hK hP hD hS (119) (wl_at (by omega) (ce_3 (by decide))) rfl 0 (by decide) (hts (.fieldLink RX1 88 "QuietStairs$House" "partyCount" "I") fwX1_copyFrom_1) (fun _ h9 => h9) rfl (by decide +kernel) rfl rfl (Nat.le_of_ble_eq_true rfl) dX1_copyFrom_5 (fun H locs hP hD hS => ?_)
  obtain ⟨v_2, ev_2⟩ : ∃ u : Nat → Nat → Int32, u = upr v (119) (upd (v (119)) 0 x_1) := ⟨_, rfl⟩
  have hP : va_P (dC, dI) vwCl (wl ad kv cy N v_2) H := by rw [ev_2, ← wl_put (e := _) (ce_3 (by decide))]; exact hP
  have hD : va_D A (wl ad kv cy N v_2) := by rw [ev_2, ← wl_put (e := _) (ce_3 (by decide))]; exact hD
  have hv : Iv v_2 := by rw [ev_2]; exact hv.put (K := 3) (by decide) (fun h q => by cases q; exact ⟨by omega, by omega⟩)
  refine lv_aload_n hx hb dX1_copyFrom_8 rfl (lv_at hl 0 rfl) ?_
  refine lv_aload_n hx hb dX1_copyFrom_9 rfl (lv_at hl 1 rfl) ?_
  refine va_get (D := (dC, dI)) (ci := 1) (v := .int (v_2 (13) 1)) (C := RX1) (T := TX1) (N := 7) hx hb hts iwX1_copyFrom_X1 hown hK hP (13) (wl_at (by omega) (ce_3 (by decide))) rfl 1 (by decide) (hts (.fieldLink RX1 36 "QuietStairs$House" "mediatorCount" "I") fwX1_copyFrom_2) (fun _ h9 => h9) rfl dX1_copyFrom_10 ?_
  refine lv_topi (fun x_3 ex_3 => ?_)
  have bzx_3 : 0 ≤ x_3.toInt ∧ x_3.toInt ≤ 4 := by rw [ex_3]; exact hv.at (K := 3) (by decide) rfl
  rw [ev_2, upr_n (by omega)] at ex_3
  have qx_3 : x_3.toInt = (v (13) (1)).toInt := congrArg Int32.toInt ex_3
  refine va_put (D := (dC, dI)) (ci := 1) (v := .int x_3) (ty := .int) (C := RX1) (T := TX1) (N := 7) hx hb hts iwX1_copyFrom_X1 tyX1 tyX1_ok nmX1 hown hK hP hD hS (119) (wl_at (by omega) (ce_3 (by decide))) rfl 1 (by decide) (hts (.fieldLink RX1 36 "QuietStairs$House" "mediatorCount" "I") fwX1_copyFrom_2) (fun _ h9 => h9) rfl (by decide +kernel) rfl rfl (Nat.le_of_ble_eq_true rfl) dX1_copyFrom_13 (fun H locs hP hD hS => ?_)
  obtain ⟨v_4, ev_4⟩ : ∃ u : Nat → Nat → Int32, u = upr v_2 (119) (upd (v_2 (119)) 1 x_3) := ⟨_, rfl⟩
  have hP : va_P (dC, dI) vwCl (wl ad kv cy N v_4) H := by rw [ev_4, ← wl_put (e := _) (ce_3 (by decide))]; exact hP
  have hD : va_D A (wl ad kv cy N v_4) := by rw [ev_4, ← wl_put (e := _) (ce_3 (by decide))]; exact hD
  have hv : Iv v_4 := by rw [ev_4]; exact hv.put (K := 3) (by decide) (fun h q => by cases q; exact ⟨by omega, by omega⟩)
  refine lv_aload_n hx hb dX1_copyFrom_16 rfl (lv_at hl 0 rfl) ?_
  refine lv_aload_n hx hb dX1_copyFrom_17 rfl (lv_at hl 1 rfl) ?_
  refine va_get (D := (dC, dI)) (ci := 1) (v := .int (v_4 (13) 2)) (C := RX1) (T := TX1) (N := 7) hx hb hts iwX1_copyFrom_X1 hown hK hP (13) (wl_at (by omega) (ce_3 (by decide))) rfl 2 (by decide) (hts (.fieldLink RX1 66 "QuietStairs$House" "caseCount" "I") fwX1_copyFrom_3) (fun _ h9 => h9) rfl dX1_copyFrom_18 ?_
  refine lv_topi (fun x_5 ex_5 => ?_)
  have bzx_5 : 0 ≤ x_5.toInt ∧ x_5.toInt ≤ 6 := by rw [ex_5]; exact hv.at (K := 3) (by decide) rfl
  rw [ev_4, upr_n (by omega), ev_2, upr_n (by omega)] at ex_5
  have qx_5 : x_5.toInt = (v (13) (2)).toInt := congrArg Int32.toInt ex_5
  refine va_put (D := (dC, dI)) (ci := 1) (v := .int x_5) (ty := .int) (C := RX1) (T := TX1) (N := 7) hx hb hts iwX1_copyFrom_X1 tyX1 tyX1_ok nmX1 hown hK hP hD hS (119) (wl_at (by omega) (ce_3 (by decide))) rfl 2 (by decide) (hts (.fieldLink RX1 66 "QuietStairs$House" "caseCount" "I") fwX1_copyFrom_3) (fun _ h9 => h9) rfl (by decide +kernel) rfl rfl (Nat.le_of_ble_eq_true rfl) dX1_copyFrom_21 (fun H locs hP hD hS => ?_)
  obtain ⟨v_6, ev_6⟩ : ∃ u : Nat → Nat → Int32, u = upr v_4 (119) (upd (v_4 (119)) 2 x_5) := ⟨_, rfl⟩
  have hP : va_P (dC, dI) vwCl (wl ad kv cy N v_6) H := by rw [ev_6, ← wl_put (e := _) (ce_3 (by decide))]; exact hP
  have hD : va_D A (wl ad kv cy N v_6) := by rw [ev_6, ← wl_put (e := _) (ce_3 (by decide))]; exact hD
  have hv : Iv v_6 := by rw [ev_6]; exact hv.put (K := 3) (by decide) (fun h q => by cases q; exact ⟨by omega, by omega⟩)
  refine lv_aload_n hx hb dX1_copyFrom_24 rfl (lv_at hl 0 rfl) ?_
  refine lv_aload_n hx hb dX1_copyFrom_25 rfl (lv_at hl 1 rfl) ?_
  refine va_get (D := (dC, dI)) (ci := 1) (v := .int (v_6 (13) 3)) (C := RX1) (T := TX1) (N := 7) hx hb hts iwX1_copyFrom_X1 hown hK hP (13) (wl_at (by omega) (ce_3 (by decide))) rfl 3 (by decide) (hts (.fieldLink RX1 91 "QuietStairs$House" "markCount" "I") fwX1_copyFrom_4) (fun _ h9 => h9) rfl dX1_copyFrom_26 ?_
  refine lv_topi (fun x_7 ex_7 => ?_)
  have bzx_7 : 0 ≤ x_7.toInt ∧ x_7.toInt ≤ 6 := by rw [ex_7]; exact hv.at (K := 3) (by decide) rfl
  rw [ev_6, upr_n (by omega), ev_4, upr_n (by omega), ev_2, upr_n (by omega)] at ex_7
  have qx_7 : x_7.toInt = (v (13) (3)).toInt := congrArg Int32.toInt ex_7
  refine va_put (D := (dC, dI)) (ci := 1) (v := .int x_7) (ty := .int) (C := RX1) (T := TX1) (N := 7) hx hb hts iwX1_copyFrom_X1 tyX1 tyX1_ok nmX1 hown hK hP hD hS (119) (wl_at (by omega) (ce_3 (by decide))) rfl 3 (by decide) (hts (.fieldLink RX1 91 "QuietStairs$House" "markCount" "I") fwX1_copyFrom_4) (fun _ h9 => h9) rfl (by decide +kernel) rfl rfl (Nat.le_of_ble_eq_true rfl) dX1_copyFrom_29 (fun H locs hP hD hS => ?_)
  obtain ⟨v_8, ev_8⟩ : ∃ u : Nat → Nat → Int32, u = upr v_6 (119) (upd (v_6 (119)) 3 x_7) := ⟨_, rfl⟩
  have hP : va_P (dC, dI) vwCl (wl ad kv cy N v_8) H := by rw [ev_8, ← wl_put (e := _) (ce_3 (by decide))]; exact hP
  have hD : va_D A (wl ad kv cy N v_8) := by rw [ev_8, ← wl_put (e := _) (ce_3 (by decide))]; exact hD
  have hv : Iv v_8 := by rw [ev_8]; exact hv.put (K := 3) (by decide) (fun h q => by cases q; exact ⟨by omega, by omega⟩)
  refine lv_iconst (v := 0) hx hb dX1_copyFrom_32 (by decide) ?_
  refine lv_istore_n (lv' := [(2, .int 0), (0, .ref (ad 119)), (1, .ref (ad 13))]) hx hb dX1_copyFrom_33 rfl hl (by decide) rfl (fun ls hl => ?_)
  have hc_9 : ∀ (n : Nat) (y9_2 : Int32) (u9 : Nat → Nat → Int32) (H : Heap) (locs : List Loc), 0 ≤ y9_2.toInt → y9_2.toInt ≤ 8 → (∀ k j : Nat, u9 k j = if 123 ≤ k ∧ (k : Int) < 123 + y9_2.toInt ∧ j < 2 then v_8 (k - 106) j else v_8 k j) → (y9_2.toInt ≤ (v 13 0).toInt) → (8 - y9_2.toInt).toNat < n → Iv u9 → va_P (dC, dI) vwCl (wl ad kv cy N u9) H → va_D A (wl ad kv cy N u9) → va_S A s.heap H locs → ∀ ls : Array Slot, lv_has ls 3 [(2, .int y9_2), (0, .ref (ad 119)), (1, .ref (ad 13))] → W p l e (headSpec wsX1_copyFrom ({ frames := 2, cells := 0, slots := 0, locals := 128 })).room s m [Value.ref (ad 119), Value.ref (ad 13)].toArray below meth c H locs 0 0 (MQ below (va_Qv (fun (u : Nat → Nat → Int32) => Iv u ∧ (∀ o j : Nat, lvH v 13 o j → u (119 + o) j = v (13 + o) j) ∧ (∀ k : Nat, (k < 119 ∨ 225 ≤ k) → u k = v k)) (fun u t => ex_Pst dC dI A (wl ad kv cy N u) t) A) [Value.ref (ad 119), Value.ref (ad 13)].toArray s 0 0 A) (F0 m 34 ls []) := by
    intro n
    induction n with
    | zero =>
      intro y9_2 u9 H locs ay9_2 by9_2 hi9_0 hi9_1 hm_9 hv hP hD hS ls hl
      exact absurd hm_9 (by omega)
    | succ n ih_9 =>
      intro y9_2 u9 H locs ay9_2 by9_2 hi9_0 hi9_1 hm_9 hv hP hD hS ls hl
      refine lv_iload_n hx hb dX1_copyFrom_34 rfl (lv_at hl 0 rfl) ?_
      refine lv_aload_n hx hb dX1_copyFrom_35 rfl (lv_at hl 1 rfl) ?_
      refine va_get (D := (dC, dI)) (ci := 1) (v := .int (u9 (119) 0)) (C := RX1) (T := TX1) (N := 7) hx hb hts iwX1_copyFrom_X1 hown hK hP (119) (wl_at (by omega) (ce_3 (by decide))) rfl 0 (by decide) (hts (.fieldLink RX1 88 "QuietStairs$House" "partyCount" "I") fwX1_copyFrom_1) (fun _ h9 => h9) rfl dX1_copyFrom_36 ?_
      refine lv_topi (fun x_10 ex_10 => ?_)
      have bzx_10 : 0 ≤ x_10.toInt ∧ x_10.toInt ≤ 8 := by rw [ex_10]; exact hv.at (K := 3) (by decide) rfl
      have qx_10 : x_10.toInt = (u9 (119) (0)).toInt := congrArg Int32.toInt ex_10
      have hmx_10 : x_10.toInt = (v 13 0).toInt := by rw [ex_10, hi9_0 119 0, if_neg (by omega), ev_8, up2, if_neg (by decide), ev_6, up2, if_neg (by decide), ev_4, up2, if_neg (by decide), ev_2, up2, if_pos ⟨rfl, rfl⟩, ex_1]
      refine lv_icmp_ge (tgt := 63) hx hb dX1_copyFrom_39 (by decide) (fun c_11 => ?_) (fun c_11 => ?_)
      · have tc_11 : y9_2.toInt ≥ x_10.toInt := Int32.le_iff_toInt_le.mp c_11
        refine lv_iconst (v := 0) hx hb dX1_copyFrom_63 (by decide) ?_
        refine lv_istore_n (lv' := [(2, .int 0), (0, .ref (ad 119)), (1, .ref (ad 13))]) hx hb dX1_copyFrom_64 rfl hl (by decide) rfl (fun ls hl => ?_)
        have hc_12 : ∀ (n : Nat) (y12_2 : Int32) (u12 : Nat → Nat → Int32) (H : Heap) (locs : List Loc), 0 ≤ y12_2.toInt → y12_2.toInt ≤ 4 → (∀ k j : Nat, u12 k j = if 131 ≤ k ∧ (k : Int) < 131 + y12_2.toInt ∧ j < 3 then u9 (k - 106) j else u9 k j) → (y12_2.toInt ≤ (v 13 1).toInt) → (4 - y12_2.toInt).toNat < n → Iv u12 → va_P (dC, dI) vwCl (wl ad kv cy N u12) H → va_D A (wl ad kv cy N u12) → va_S A s.heap H locs → ∀ ls : Array Slot, lv_has ls 3 [(2, .int y12_2), (0, .ref (ad 119)), (1, .ref (ad 13))] → W p l e (headSpec wsX1_copyFrom ({ frames := 2, cells := 0, slots := 0, locals := 128 })).room s m [Value.ref (ad 119), Value.ref (ad 13)].toArray below meth c H locs 0 0 (MQ below (va_Qv (fun (u : Nat → Nat → Int32) => Iv u ∧ (∀ o j : Nat, lvH v 13 o j → u (119 + o) j = v (13 + o) j) ∧ (∀ k : Nat, (k < 119 ∨ 225 ≤ k) → u k = v k)) (fun u t => ex_Pst dC dI A (wl ad kv cy N u) t) A) [Value.ref (ad 119), Value.ref (ad 13)].toArray s 0 0 A) (F0 m 65 ls []) := by
          intro n
          induction n with
          | zero =>
            intro y12_2 u12 H locs ay12_2 by12_2 hi12_0 hi12_1 hm_12 hv hP hD hS ls hl
            exact absurd hm_12 (by omega)
          | succ n ih_12 =>
            intro y12_2 u12 H locs ay12_2 by12_2 hi12_0 hi12_1 hm_12 hv hP hD hS ls hl
            refine lv_iload_n hx hb dX1_copyFrom_65 rfl (lv_at hl 0 rfl) ?_
            refine lv_aload_n hx hb dX1_copyFrom_66 rfl (lv_at hl 1 rfl) ?_
            refine va_get (D := (dC, dI)) (ci := 1) (v := .int (u12 (119) 1)) (C := RX1) (T := TX1) (N := 7) hx hb hts iwX1_copyFrom_X1 hown hK hP (119) (wl_at (by omega) (ce_3 (by decide))) rfl 1 (by decide) (hts (.fieldLink RX1 36 "QuietStairs$House" "mediatorCount" "I") fwX1_copyFrom_2) (fun _ h9 => h9) rfl dX1_copyFrom_67 ?_
            refine lv_topi (fun x_13 ex_13 => ?_)
            have bzx_13 : 0 ≤ x_13.toInt ∧ x_13.toInt ≤ 4 := by rw [ex_13]; exact hv.at (K := 3) (by decide) rfl
            have qx_13 : x_13.toInt = (u12 (119) (1)).toInt := congrArg Int32.toInt ex_13
            have hmx_13 : x_13.toInt = (v 13 1).toInt := by rw [ex_13, hi12_0 119 1, if_neg (by omega), hi9_0 119 1, if_neg (by omega), ev_8, up2, if_neg (by decide), ev_6, up2, if_neg (by decide), ev_4, up2, if_pos ⟨rfl, rfl⟩, ex_3]
            refine lv_icmp_ge (tgt := 94) hx hb dX1_copyFrom_70 (by decide) (fun c_14 => ?_) (fun c_14 => ?_)
            · have tc_14 : y12_2.toInt ≥ x_13.toInt := Int32.le_iff_toInt_le.mp c_14
              refine lv_iconst (v := 0) hx hb dX1_copyFrom_94 (by decide) ?_
              refine lv_istore_n (lv' := [(2, .int 0), (0, .ref (ad 119)), (1, .ref (ad 13))]) hx hb dX1_copyFrom_95 rfl hl (by decide) rfl (fun ls hl => ?_)
              have hc_15 : ∀ (n : Nat) (y15_2 : Int32) (u15 : Nat → Nat → Int32) (H : Heap) (locs : List Loc), 0 ≤ y15_2.toInt → y15_2.toInt ≤ 6 → (∀ q o j : Nat, q < 6 → (q : Int) < y15_2.toInt → lvC (u12 (29 + 15 * q)) o j → u15 (135 + 15 * q + o) j = u12 (29 + 15 * q + o) j) → (∀ k : Nat, (k < 135 ∨ 225 ≤ k) → u15 k = u12 k) → (y15_2.toInt ≤ (v 13 2).toInt) → (6 - y15_2.toInt).toNat < n → Iv u15 → va_P (dC, dI) vwCl (wl ad kv cy N u15) H → va_D A (wl ad kv cy N u15) → va_S A s.heap H locs → ∀ ls : Array Slot, lv_has ls 3 [(2, .int y15_2), (0, .ref (ad 119)), (1, .ref (ad 13))] → W p l e (headSpec wsX1_copyFrom ({ frames := 2, cells := 0, slots := 0, locals := 128 })).room s m [Value.ref (ad 119), Value.ref (ad 13)].toArray below meth c H locs 0 0 (MQ below (va_Qv (fun (u : Nat → Nat → Int32) => Iv u ∧ (∀ o j : Nat, lvH v 13 o j → u (119 + o) j = v (13 + o) j) ∧ (∀ k : Nat, (k < 119 ∨ 225 ≤ k) → u k = v k)) (fun u t => ex_Pst dC dI A (wl ad kv cy N u) t) A) [Value.ref (ad 119), Value.ref (ad 13)].toArray s 0 0 A) (F0 m 96 ls []) := by
                intro n
                induction n with
                | zero =>
                  intro y15_2 u15 H locs ay15_2 by15_2 hi15_0 hi15_1 hi15_2 hm_15 hv hP hD hS ls hl
                  exact absurd hm_15 (by omega)
                | succ n ih_15 =>
                  intro y15_2 u15 H locs ay15_2 by15_2 hi15_0 hi15_1 hi15_2 hm_15 hv hP hD hS ls hl
                  refine lv_iload_n hx hb dX1_copyFrom_96 rfl (lv_at hl 0 rfl) ?_
                  refine lv_aload_n hx hb dX1_copyFrom_97 rfl (lv_at hl 1 rfl) ?_
                  refine va_get (D := (dC, dI)) (ci := 1) (v := .int (u15 (119) 2)) (C := RX1) (T := TX1) (N := 7) hx hb hts iwX1_copyFrom_X1 hown hK hP (119) (wl_at (by omega) (ce_3 (by decide))) rfl 2 (by decide) (hts (.fieldLink RX1 66 "QuietStairs$House" "caseCount" "I") fwX1_copyFrom_3) (fun _ h9 => h9) rfl dX1_copyFrom_98 ?_
                  refine lv_topi (fun x_16 ex_16 => ?_)
                  have bzx_16 : 0 ≤ x_16.toInt ∧ x_16.toInt ≤ 6 := by rw [ex_16]; exact hv.at (K := 3) (by decide) rfl
                  have qx_16 : x_16.toInt = (u15 (119) (2)).toInt := congrArg Int32.toInt ex_16
                  have hmx_16 : x_16.toInt = (v 13 2).toInt := by rw [ex_16, hi15_1 119 (by omega), hi12_0 119 2, if_neg (by omega), hi9_0 119 2, if_neg (by omega), ev_8, up2, if_neg (by decide), ev_6, up2, if_pos ⟨rfl, rfl⟩, ex_5]
                  refine lv_icmp_ge (tgt := 125) hx hb dX1_copyFrom_101 (by decide) (fun c_17 => ?_) (fun c_17 => ?_)
                  · have tc_17 : y15_2.toInt ≥ x_16.toInt := Int32.le_iff_toInt_le.mp c_17
                    have y1 : y9_2.toInt = (v 13 0).toInt := by omega
                    have y2 : y12_2.toInt = (v 13 1).toInt := by omega
                    have y3 : y15_2.toInt = (v 13 2).toInt := by omega
                    have hz : ∀ k j : Nat, v_8 k j = if k = 119 ∧ j = 3 then v (13) 3 else if k = 119 ∧ j = 2 then v (13) 2 else if k = 119 ∧ j = 1 then v (13) 1 else if k = 119 ∧ j = 0 then v (13) 0 else v k j := fun k j => by rw [ev_8, up2, ev_6, up2, ev_4, up2, ev_2, up2, ex_7, ex_5, ex_3, ex_1]
                    have hs : ∀ k : Nat, (k < 119 ∨ 225 ≤ k) → u12 k = v k := fun k hk => funext fun j => by rw [hi12_0 k j, if_neg (by omega), hi9_0 k j, if_neg (by omega), hz, if_neg (by omega), if_neg (by omega), if_neg (by omega), if_neg (by omega)]
                    have hpost : (∀ o j : Nat, lvH v 13 o j → u15 (119 + o) j = v (13 + o) j) ∧ (∀ k : Nat, (k < 119 ∨ 225 ≤ k) → u15 k = v k) := by
                      refine ⟨fun o j hq => ?_, fun k hk => by rw [hi15_1 k (by omega)]; exact hs k hk⟩
                      unfold lvH at hq
                      rcases hq with ⟨rfl, hj⟩ | ⟨h1, h2, h3, hj⟩ | ⟨h1, h2, h3, hj⟩ | ⟨q, o2, h1, h2, rfl, hl⟩
                      · rw [hi15_1 _ (by omega), hi12_0 _ j, if_neg (by omega), hi9_0 _ j, if_neg (by omega), hz]
                        rcases (show j = 0 ∨ j = 1 ∨ j = 2 ∨ j = 3 by omega) with rfl | rfl | rfl | rfl
                        · rw [if_neg (by omega), if_neg (by omega), if_neg (by omega), if_pos ⟨rfl, rfl⟩]
                        · rw [if_neg (by omega), if_neg (by omega), if_pos ⟨rfl, rfl⟩]
                        · rw [if_neg (by omega), if_pos ⟨rfl, rfl⟩]
                        · rw [if_pos ⟨rfl, rfl⟩]
                      · rw [hi15_1 _ (by omega), hi12_0 _ j, if_neg (by omega), hi9_0 _ j, if_pos (by omega), show 119 + o - 106 = 13 + o from by omega, hz, if_neg (by omega), if_neg (by omega), if_neg (by omega), if_neg (by omega)]
                      · rw [hi15_1 _ (by omega), hi12_0 _ j, if_pos (by omega), show 119 + o - 106 = 13 + o from by omega, hi9_0 _ j, if_neg (by omega), hz, if_neg (by omega), if_neg (by omega), if_neg (by omega), if_neg (by omega)]
                      · have ho := lvC_o hl
                        have e1 := hi15_0 q o2 j h1 (by omega) (by rw [hs _ (by omega)]; exact hl)
                        rw [hs _ (by omega)] at e1
                        rw [show 119 + (16 + 15 * q + o2) = 135 + 15 * q + o2 from by omega, show 13 + (16 + 15 * q + o2) = 29 + 15 * q + o2 from by omega]
                        exact e1
                    exact W.vret hx hb hr (fun t ht hW => ⟨⟨u15, rfl, ⟨hv, hpost⟩, by rw [ht]; exact hP, hD⟩, hS.F ht⟩) hS.2.2 dX1_copyFrom_125
                  · have tc_17 : y15_2.toInt < x_16.toInt := Int32.lt_iff_toInt_lt.mp (Int32.not_le.mp c_17)
                    refine lv_aload_n hx hb dX1_copyFrom_104 rfl (lv_at hl 1 rfl) ?_
                    refine va_get (D := (dC, dI)) (ci := 1) (v := .ref (ad 122)) (C := RX1) (T := TX1) (N := 7) hx hb hts iwX1_copyFrom_X1 hown hK hP (119) (wl_at (by omega) (ce_3 (by decide))) rfl 6 (by decide) (hts (.fieldLink RX1 25 "QuietStairs$House" "cases" "[LQuietStairs$Case;") fwX1_copyFrom_7) (fun _ h9 => h9) rfl dX1_copyFrom_105 ?_
                    refine lv_iload_n hx hb dX1_copyFrom_108 rfl (lv_at hl 0 rfl) ?_
                    have zn_y15_2 : (y15_2.toNatClampNeg : Int) = y15_2.toInt := t_nn (by omega)
                    have hx_18 : y15_2.toNatClampNeg < 6 := by omega
                    refine va_aldq hx hb hK hP (122) 3 (wl_at (by omega) (ce_6 (by decide))) rfl (vp_in_iff.mpr ⟨by omega, by omega⟩) dX1_copyFrom_109 ?_
                    refine W.eq (g2 := F0 m 110 ls [.ref (ad (135 + 15 * y15_2.toNatClampNeg))]) (by rw [if_pos hx_18, show 122 + 13 + 15 * y15_2.toNatClampNeg = 135 + 15 * y15_2.toNatClampNeg from by omega]; rfl) ?_
                    refine lv_aload_n hx hb dX1_copyFrom_110 rfl (lv_at hl 2 rfl) ?_
                    refine va_get (D := (dC, dI)) (ci := 1) (v := .ref (ad 16)) (C := RX1) (T := TX1) (N := 7) hx hb hts iwX1_copyFrom_X1 hown hK hP (13) (wl_at (by omega) (ce_3 (by decide))) rfl 6 (by decide) (hts (.fieldLink RX1 25 "QuietStairs$House" "cases" "[LQuietStairs$Case;") fwX1_copyFrom_7) (fun _ h9 => h9) rfl dX1_copyFrom_111 ?_
                    refine lv_iload_n hx hb dX1_copyFrom_114 rfl (lv_at hl 0 rfl) ?_
                    refine va_aldq hx hb hK hP (16) 3 (wl_at (by omega) (ce_6 (by decide))) rfl (vp_in_iff.mpr ⟨by omega, by omega⟩) dX1_copyFrom_115 ?_
                    refine W.eq (g2 := F0 m 116 ls [.ref (ad (29 + 15 * y15_2.toNatClampNeg)), .ref (ad (135 + 15 * y15_2.toNatClampNeg))]) (by rw [if_pos hx_18, show 16 + 13 + 15 * y15_2.toNatClampNeg = 29 + 15 * y15_2.toNatClampNeg from by omega]; rfl) ?_
                    refine yw_v (w1 := fun (u : Nat → Nat → Int32) => wl ad kv cy N u) hD hS hA (va_runV (As := [.ref (ad (29 + 15 * y15_2.toNatClampNeg))]) (rest := []) ⟨hx, hb, hml, hown, hts⟩ (e_X0_copyFrom_b l dC dI cy _ ad kv N hN u15 hv y15_2.toNatClampNeg hx_18 hN2) (cwV 1 hts gX1_copyFrom_X0_copyFrom rfl rfl rfl hd_V_X0_copyFrom_1 ⟨Nat.le_of_ble_eq_true rfl, Nat.le_of_ble_eq_true rfl⟩) (yw_preV hE hK hP hD (ci := 0) (q := (RX0, TX0, 11)) (q0 := (135 + 15 * y15_2.toNatClampNeg)) rfl (wl_at (by omega) (ce_9 (kd_c _ hx_18).2.1))) rfl rfl hl.1 rfl (lv_room (Nat.le_of_ble_eq_true rfl)) dX1_copyFrom_116 ⟨Nat.le_of_ble_eq_true rfl, Nat.le_of_ble_eq_true rfl⟩) (fun v_19 H locs hw_19 hP hD hS => ?_)
                    obtain ⟨hv, hw_19⟩ := hw_19
                    obtain ⟨x_20, ex_20⟩ : ∃ y : Int32, y = y15_2 + 1 := ⟨_, rfl⟩
                    refine lv_iinc (v := x_20) (lv' := [(2, .int x_20), (0, .ref (ad 119)), (1, .ref (ad 13))]) hx hb dX1_copyFrom_119 hl (k := 0) rfl (by rw [ex_20]; rfl) (by decide) rfl (fun ls hl => ?_)
                    have k_1 : (1 : Int32).toInt = 1 := by decide
                    have tx_20 : x_20.toInt = y15_2.toInt + (1 : Int32).toInt := by rw [ex_20]; exact t_add ⟨by omega, by omega⟩
                    refine lv_goto (tgt := 96) hx hb dX1_copyFrom_122 (by decide) ?_
                    exact ih_15 x_20 v_19 _ _ (by omega) (by omega) (fun q o j h6 hq hl => by have ho := lvC_o hl; by_cases h : q = y15_2.toNatClampNeg; subst h; rw [hw_19.1 o j (by rw [hi15_1 _ (by omega)]; exact hl), hi15_1 _ (by omega)]; rw [hw_19.2 _ (by omega)]; exact hi15_0 q o j h6 (by omega) hl) (fun k hk => by rw [hw_19.2 k (by omega)]; exact hi15_1 k hk) (by omega) (by omega) hv hP hD hS ls (lv_sub hl [0, 1, 2] rfl)
              have k_0 : (0 : Int32).toInt = 0 := by decide
              exact hc_15 ((6 - (0 : Int32).toInt).toNat + 1) 0 u12 _ _ (by omega) (by omega) (fun q o j _ hq _ => absurd hq (by omega)) (fun _ _ => rfl) (by omega) (by omega) hv hP hD hS ls (lv_sub hl [0, 1, 2] rfl)
            · have tc_14 : y12_2.toInt < x_13.toInt := Int32.lt_iff_toInt_lt.mp (Int32.not_le.mp c_14)
              refine lv_aload_n hx hb dX1_copyFrom_73 rfl (lv_at hl 1 rfl) ?_
              refine va_get (D := (dC, dI)) (ci := 1) (v := .ref (ad 121)) (C := RX1) (T := TX1) (N := 7) hx hb hts iwX1_copyFrom_X1 hown hK hP (119) (wl_at (by omega) (ce_3 (by decide))) rfl 5 (by decide) (hts (.fieldLink RX1 19 "QuietStairs$House" "mediators" "[LQuietStairs$Mediator;") fwX1_copyFrom_6) (fun _ h9 => h9) rfl dX1_copyFrom_74 ?_
              refine lv_iload_n hx hb dX1_copyFrom_77 rfl (lv_at hl 0 rfl) ?_
              have zn_y12_2 : (y12_2.toNatClampNeg : Int) = y12_2.toInt := t_nn (by omega)
              have hx_15 : y12_2.toNatClampNeg < 4 := by omega
              refine va_aldq hx hb hK hP (121) 2 (wl_at (by omega) (ce_5 (by decide))) rfl (vp_in_iff.mpr ⟨by omega, by omega⟩) dX1_copyFrom_78 ?_
              refine W.eq (g2 := F0 m 79 ls [.ref (ad (131 + y12_2.toNatClampNeg))]) (by rw [if_pos hx_15, show 121 + 10 + y12_2.toNatClampNeg = 131 + y12_2.toNatClampNeg from by omega]; rfl) ?_
              refine lv_aload_n hx hb dX1_copyFrom_79 rfl (lv_at hl 2 rfl) ?_
              refine va_get (D := (dC, dI)) (ci := 1) (v := .ref (ad 15)) (C := RX1) (T := TX1) (N := 7) hx hb hts iwX1_copyFrom_X1 hown hK hP (13) (wl_at (by omega) (ce_3 (by decide))) rfl 5 (by decide) (hts (.fieldLink RX1 19 "QuietStairs$House" "mediators" "[LQuietStairs$Mediator;") fwX1_copyFrom_6) (fun _ h9 => h9) rfl dX1_copyFrom_80 ?_
              refine lv_iload_n hx hb dX1_copyFrom_83 rfl (lv_at hl 0 rfl) ?_
              refine va_aldq hx hb hK hP (15) 2 (wl_at (by omega) (ce_5 (by decide))) rfl (vp_in_iff.mpr ⟨by omega, by omega⟩) dX1_copyFrom_84 ?_
              refine W.eq (g2 := F0 m 85 ls [.ref (ad (25 + y12_2.toNatClampNeg)), .ref (ad (131 + y12_2.toNatClampNeg))]) (by rw [if_pos hx_15, show 15 + 10 + y12_2.toNatClampNeg = 25 + y12_2.toNatClampNeg from by omega]; rfl) ?_
              refine yw_v (w1 := fun (u : Nat → Nat → Int32) => wl ad kv cy N u) hD hS hA (va_runV (As := [.ref (ad (25 + y12_2.toNatClampNeg))]) (rest := []) ⟨hx, hb, hml, hown, hts⟩ (e_X2_copyFrom_b l dC dI cy _ ad kv N hN u12 hv y12_2.toNatClampNeg hx_15 hN2) (cwV 1 hts gX1_copyFrom_X2_copyFrom rfl rfl rfl hd_V_X2_copyFrom_1 ⟨Nat.le_of_ble_eq_true rfl, Nat.le_of_ble_eq_true rfl⟩) (yw_preV hE hK hP hD (ci := 2) (q := (RX2, TX2, 3)) (q0 := (131 + y12_2.toNatClampNeg)) rfl (wl_at (by omega) (ce_8 (kd_m _ hx_15).2))) rfl rfl hl.1 rfl (lv_room (Nat.le_of_ble_eq_true rfl)) dX1_copyFrom_85 ⟨Nat.le_of_ble_eq_true rfl, Nat.le_of_ble_eq_true rfl⟩) (fun v_16 H locs hw_16 hP hD hS => ?_)
              obtain ⟨hv, hw_16⟩ := hw_16
              obtain ⟨x_17, ex_17⟩ : ∃ y : Int32, y = y12_2 + 1 := ⟨_, rfl⟩
              refine lv_iinc (v := x_17) (lv' := [(2, .int x_17), (0, .ref (ad 119)), (1, .ref (ad 13))]) hx hb dX1_copyFrom_88 hl (k := 0) rfl (by rw [ex_17]; rfl) (by decide) rfl (fun ls hl => ?_)
              have k_1 : (1 : Int32).toInt = 1 := by decide
              have tx_17 : x_17.toInt = y12_2.toInt + (1 : Int32).toInt := by rw [ex_17]; exact t_add ⟨by omega, by omega⟩
              refine lv_goto (tgt := 65) hx hb dX1_copyFrom_91 (by decide) ?_
              exact ih_12 x_17 v_16 _ _ (by omega) (by omega) (fun k j => by rw [hw_16 k j]; by_cases h : k = 131 + y12_2.toNatClampNeg ∧ j < 3; rw [if_pos h, if_pos (by omega), hi12_0, if_neg (by omega), h.1, show 131 + y12_2.toNatClampNeg - 106 = 25 + y12_2.toNatClampNeg from by omega]; rw [if_neg h, hi12_0 k j]; (repeat' split); all_goals first | rfl | (exfalso; omega)) (by omega) (by omega) hv hP hD hS ls (lv_sub hl [0, 1, 2] rfl)
        have k_0 : (0 : Int32).toInt = 0 := by decide
        exact hc_12 ((4 - (0 : Int32).toInt).toNat + 1) 0 u9 _ _ (by omega) (by omega) (fun k j => by rw [if_neg (by omega)]) (by omega) (by omega) hv hP hD hS ls (lv_sub hl [0, 1, 2] rfl)
      · have tc_11 : y9_2.toInt < x_10.toInt := Int32.lt_iff_toInt_lt.mp (Int32.not_le.mp c_11)
        refine lv_aload_n hx hb dX1_copyFrom_42 rfl (lv_at hl 1 rfl) ?_
        refine va_get (D := (dC, dI)) (ci := 1) (v := .ref (ad 120)) (C := RX1) (T := TX1) (N := 7) hx hb hts iwX1_copyFrom_X1 hown hK hP (119) (wl_at (by omega) (ce_3 (by decide))) rfl 4 (by decide) (hts (.fieldLink RX1 11 "QuietStairs$House" "parties" "[LQuietStairs$Party;") fwX1_copyFrom_5) (fun _ h9 => h9) rfl dX1_copyFrom_43 ?_
        refine lv_iload_n hx hb dX1_copyFrom_46 rfl (lv_at hl 0 rfl) ?_
        have zn_y9_2 : (y9_2.toNatClampNeg : Int) = y9_2.toInt := t_nn (by omega)
        have hx_12 : y9_2.toNatClampNeg < 8 := by omega
        refine va_aldq hx hb hK hP (120) 1 (wl_at (by omega) (ce_4 (by decide))) rfl (vp_in_iff.mpr ⟨by omega, by omega⟩) dX1_copyFrom_47 ?_
        refine W.eq (g2 := F0 m 48 ls [.ref (ad (123 + y9_2.toNatClampNeg))]) (by rw [if_pos hx_12, show 120 + 3 + y9_2.toNatClampNeg = 123 + y9_2.toNatClampNeg from by omega]; rfl) ?_
        refine lv_aload_n hx hb dX1_copyFrom_48 rfl (lv_at hl 2 rfl) ?_
        refine va_get (D := (dC, dI)) (ci := 1) (v := .ref (ad 14)) (C := RX1) (T := TX1) (N := 7) hx hb hts iwX1_copyFrom_X1 hown hK hP (13) (wl_at (by omega) (ce_3 (by decide))) rfl 4 (by decide) (hts (.fieldLink RX1 11 "QuietStairs$House" "parties" "[LQuietStairs$Party;") fwX1_copyFrom_5) (fun _ h9 => h9) rfl dX1_copyFrom_49 ?_
        refine lv_iload_n hx hb dX1_copyFrom_52 rfl (lv_at hl 0 rfl) ?_
        refine va_aldq hx hb hK hP (14) 1 (wl_at (by omega) (ce_4 (by decide))) rfl (vp_in_iff.mpr ⟨by omega, by omega⟩) dX1_copyFrom_53 ?_
        refine W.eq (g2 := F0 m 54 ls [.ref (ad (17 + y9_2.toNatClampNeg)), .ref (ad (123 + y9_2.toNatClampNeg))]) (by rw [if_pos hx_12, show 14 + 3 + y9_2.toNatClampNeg = 17 + y9_2.toNatClampNeg from by omega]; rfl) ?_
        refine yw_v (w1 := fun (u : Nat → Nat → Int32) => wl ad kv cy N u) hD hS hA (va_runV (As := [.ref (ad (17 + y9_2.toNatClampNeg))]) (rest := []) ⟨hx, hb, hml, hown, hts⟩ (e_X3_copyFrom_b l dC dI cy _ ad kv N hN u9 hv y9_2.toNatClampNeg hx_12 hN2) (cwV 1 hts gX1_copyFrom_X3_copyFrom rfl rfl rfl hd_V_X3_copyFrom_1 ⟨Nat.le_of_ble_eq_true rfl, Nat.le_of_ble_eq_true rfl⟩) (yw_preV hE hK hP hD (ci := 3) (q := (RX3, TX3, 2)) (q0 := (123 + y9_2.toNatClampNeg)) rfl (wl_at (by omega) (ce_7 (kd_p _ hx_12).2))) rfl rfl hl.1 rfl (lv_room (Nat.le_of_ble_eq_true rfl)) dX1_copyFrom_54 ⟨Nat.le_of_ble_eq_true rfl, Nat.le_of_ble_eq_true rfl⟩) (fun v_13 H locs hw_13 hP hD hS => ?_)
        obtain ⟨hv, hw_13⟩ := hw_13
        obtain ⟨x_14, ex_14⟩ : ∃ y : Int32, y = y9_2 + 1 := ⟨_, rfl⟩
        refine lv_iinc (v := x_14) (lv' := [(2, .int x_14), (0, .ref (ad 119)), (1, .ref (ad 13))]) hx hb dX1_copyFrom_57 hl (k := 0) rfl (by rw [ex_14]; rfl) (by decide) rfl (fun ls hl => ?_)
        have k_1 : (1 : Int32).toInt = 1 := by decide
        have tx_14 : x_14.toInt = y9_2.toInt + (1 : Int32).toInt := by rw [ex_14]; exact t_add ⟨by omega, by omega⟩
        refine lv_goto (tgt := 34) hx hb dX1_copyFrom_60 (by decide) ?_
        exact ih_9 x_14 v_13 _ _ (by omega) (by omega) (fun k j => by rw [hw_13 k j]; by_cases h : k = 123 + y9_2.toNatClampNeg ∧ j < 2; rw [if_pos h, if_pos (by omega), hi9_0, if_neg (by omega), h.1, show 123 + y9_2.toNatClampNeg - 106 = 17 + y9_2.toNatClampNeg from by omega]; rw [if_neg h, hi9_0 k j]; (repeat' split); all_goals first | rfl | (exfalso; omega)) (by omega) (by omega) hv hP hD hS ls (lv_sub hl [0, 1, 2] rfl)
  have k_0 : (0 : Int32).toInt = 0 := by decide
  exact hc_9 ((8 - (0 : Int32).toInt).toNat + 1) 0 v_8 _ _ (by omega) (by omega) (fun k j => by rw [if_neg (by omega)]) (by omega) (by omega) hv hP hD hS ls (lv_sub hl [0, 1, 2] rfl)
set_option maxRecDepth 20000 in
theorem db_X7_back_0 : (decode cX7_back 0 = .ok (.aload_n 0, 1)) ∧ (decode cX7_back 1 = .ok (.getfield 30, 3)) ∧ (decode cX7_back 4 = .ok (.ifnonnull 6, 3)) ∧ (decode cX7_back 7 = .ok (.bipush (-5), 2)) ∧ (decode cX7_back 9 = .ok (.ireturn, 1)) ∧ (decode cX7_back 10 = .ok (.aload_n 0, 1)) ∧ (decode cX7_back 11 = .ok (.getfield 12, 3)) ∧ (decode cX7_back 14 = .ok (.aload_n 0, 1)) := by decide +kernel
theorem dX7_back_0 : decode cX7_back 0 = .ok (.aload_n 0, 1) := db_X7_back_0.1
theorem dX7_back_1 : decode cX7_back 1 = .ok (.getfield 30, 3) := db_X7_back_0.2.1
theorem dX7_back_4 : decode cX7_back 4 = .ok (.ifnonnull 6, 3) := db_X7_back_0.2.2.1
theorem dX7_back_7 : decode cX7_back 7 = .ok (.bipush (-5), 2) := db_X7_back_0.2.2.2.1
theorem dX7_back_9 : decode cX7_back 9 = .ok (.ireturn, 1) := db_X7_back_0.2.2.2.2.1
theorem dX7_back_10 : decode cX7_back 10 = .ok (.aload_n 0, 1) := db_X7_back_0.2.2.2.2.2.1
theorem dX7_back_11 : decode cX7_back 11 = .ok (.getfield 12, 3) := db_X7_back_0.2.2.2.2.2.2.1
theorem dX7_back_14 : decode cX7_back 14 = .ok (.aload_n 0, 1) := db_X7_back_0.2.2.2.2.2.2.2
set_option maxRecDepth 20000 in
theorem db_X7_back_15 : (decode cX7_back 15 = .ok (.getfield 30, 3)) ∧ (decode cX7_back 18 = .ok (.invokevirtual 227, 3)) ∧ (decode cX7_back 21 = .ok (.iconst 1, 1)) ∧ (decode cX7_back 22 = .ok (.ireturn, 1)) := by decide +kernel
theorem dX7_back_15 : decode cX7_back 15 = .ok (.getfield 30, 3) := db_X7_back_15.1
set_option maxRecDepth 20000 in
theorem ggX7_back_X1_copyFrom : GoodIn wsX7_back wsX1_copyFrom := goodIn_r _ [7, 8, 9, 10, 11, 12, 13, 14, 15, 16, 17, 18, 19, 20, 21, 22, 23, 24, 25, 26, 27, 28, 29, 30, 31, 32, 33, 34, 35, 36, 37, 38, 39, 40, 41, 42, 43, 44, 45, 46, 47, 48, 49, 50, 51, 52, 53, 54, 55, 56, 57, 58, 59, 65, 66, 67, 68, 69, 70, 71, 72, 73, 74, 75, 76, 77, 78, 79, 80, 81, 82, 83, 84, 85, 86, 87, 88, 89, 90, 91, 92] rfl (by decide +kernel)
set_option maxRecDepth 20000 in
theorem gX7_back_X1_copyFrom : GoodIn wsX7_back (wsV RX7 227 RX1 yX1_copyFrom wsX1_copyFrom) := goodIn_app (goodIn_r _ [3, 4, 5, 6] rfl (by decide +kernel)) ggX7_back_X1_copyFrom
theorem dX7_back_18 : decode cX7_back 18 = .ok (.invokevirtual 227, 3) := db_X7_back_15.2.1
theorem dX7_back_21 : decode cX7_back 21 = .ok (.iconst 1, 1) := db_X7_back_15.2.2.1
theorem dX7_back_22 : decode cX7_back 22 = .ok (.ireturn, 1) := db_X7_back_15.2.2.2
set_option maxRecDepth 20000 in
theorem db_X7_keep_0 : (decode cX7_keep 0 = .ok (.aload_n 0, 1)) ∧ (decode cX7_keep 1 = .ok (.getfield 30, 3)) ∧ (decode cX7_keep 4 = .ok (.ifnonnull 14, 3)) ∧ (decode cX7_keep 18 = .ok (.aload_n 0, 1)) ∧ (decode cX7_keep 19 = .ok (.getfield 30, 3)) ∧ (decode cX7_keep 22 = .ok (.aload_n 0, 1)) ∧ (decode cX7_keep 23 = .ok (.getfield 12, 3)) ∧ (decode cX7_keep 26 = .ok (.invokevirtual 227, 3)) := by decide +kernel
theorem dX7_keep_0 : decode cX7_keep 0 = .ok (.aload_n 0, 1) := db_X7_keep_0.1
theorem dX7_keep_1 : decode cX7_keep 1 = .ok (.getfield 30, 3) := db_X7_keep_0.2.1
theorem dX7_keep_4 : decode cX7_keep 4 = .ok (.ifnonnull 14, 3) := db_X7_keep_0.2.2.1
theorem dX7_keep_18 : decode cX7_keep 18 = .ok (.aload_n 0, 1) := db_X7_keep_0.2.2.2.1
theorem dX7_keep_19 : decode cX7_keep 19 = .ok (.getfield 30, 3) := db_X7_keep_0.2.2.2.2.1
theorem dX7_keep_22 : decode cX7_keep 22 = .ok (.aload_n 0, 1) := db_X7_keep_0.2.2.2.2.2.1
theorem dX7_keep_23 : decode cX7_keep 23 = .ok (.getfield 12, 3) := db_X7_keep_0.2.2.2.2.2.2.1
set_option maxRecDepth 20000 in
theorem ggX7_keep_X1_copyFrom : GoodIn wsX7_keep wsX1_copyFrom := goodIn_r _ [50, 51, 52, 53, 54, 13, 15, 17, 55, 56, 57, 19, 58, 59, 60, 61, 62, 63, 21, 64, 65, 66, 67, 68, 69, 70, 23, 71, 72, 73, 74, 75, 76, 77, 35, 36, 38, 78, 79, 80, 81, 39, 41, 82, 83, 84, 43, 85, 86, 87, 88, 89, 90, 96, 97, 98, 99, 100, 101, 102, 103, 104, 105, 106, 107, 108, 109, 110, 111, 112, 113, 114, 115, 116, 117, 118, 119, 120, 121, 122, 123] rfl (by decide +kernel)
set_option maxRecDepth 20000 in
theorem gX7_keep_X1_copyFrom : GoodIn wsX7_keep (wsV RX7 227 RX1 yX1_copyFrom wsX1_copyFrom) := goodIn_app (goodIn_r _ [47, 48, 49, 4] rfl (by decide +kernel)) ggX7_keep_X1_copyFrom
theorem dX7_keep_26 : decode cX7_keep 26 = .ok (.invokevirtual 227, 3) := db_X7_keep_0.2.2.2.2.2.2.2
set_option maxRecDepth 20000 in
theorem db_X7_keep_29 : (decode cX7_keep 29 = .ok (.iconst 1, 1)) ∧ (decode cX7_keep 30 = .ok (.ireturn, 1)) ∧ (decode cX7_keep 7 = .ok (.aload_n 0, 1)) ∧ (decode cX7_keep 8 = .ok (.new 9, 3)) ∧ (decode cX7_keep 11 = .ok (.dup, 1)) ∧ (decode cX7_keep 12 = .ok (.invokespecial 11, 3)) ∧ (decode cX7_keep 15 = .ok (.putfield 30, 3)) := by decide +kernel
theorem dX7_keep_29 : decode cX7_keep 29 = .ok (.iconst 1, 1) := db_X7_keep_29.1
theorem dX7_keep_30 : decode cX7_keep 30 = .ok (.ireturn, 1) := db_X7_keep_29.2.1
theorem dX7_keep_7 : decode cX7_keep 7 = .ok (.aload_n 0, 1) := db_X7_keep_29.2.2.1
theorem dX7_keep_8 : decode cX7_keep 8 = .ok (.new 9, 3) := db_X7_keep_29.2.2.2.1
theorem dX7_keep_11 : decode cX7_keep 11 = .ok (.dup, 1) := db_X7_keep_29.2.2.2.2.1
set_option maxRecDepth 20000 in
theorem ggX7_keep_X1_init : GoodIn wsX7_keep wsX1_init := goodIn_r _ [8, 9, 10, 11, 12, 13, 14, 15, 16, 17, 18, 19, 20, 21, 22, 23, 24, 25, 26, 27, 28, 29, 30, 31, 32, 33, 34, 35, 36, 37, 38, 39, 40, 41, 42, 43, 44, 45, 46, 96, 97, 98, 99, 100, 101, 102, 103, 104, 105, 106, 107, 108, 109, 110, 111, 112, 113, 114, 115, 116, 117, 118, 119, 120, 121, 122, 123] rfl (by decide +kernel)
set_option maxRecDepth 20000 in
theorem gX7_keep_X1_init : GoodIn wsX7_keep (wsX1_init) := ggX7_keep_X1_init
theorem dX7_keep_12 : decode cX7_keep 12 = .ok (.invokespecial 11, 3) := db_X7_keep_29.2.2.2.2.2.1
theorem dX7_keep_15 : decode cX7_keep 15 = .ok (.putfield 30, 3) := db_X7_keep_29.2.2.2.2.2.2
set_option maxHeartbeats 4000000 in
set_option maxRecDepth 100000 in
theorem e_X7_back_n (l : Launch) (dC : Nat → ClassId) (dI : Nat → Nat → Nat) (cy : Nat → ClassId) (sz : Nat) (ad : Nat → Nat) (N : Nat) (hN : 119 ≤ N) (v : Nat → Nat → Int32) (hv : Iv v)  : Met l yX7_back wsX7_back ({ frames := 3, cells := 0, slots := 0, locals := 192 }) (va_Pc [.ref (ad 0)] (ex_Pre dC dI cy sz (wl ad (.null) cy N v))) (va_Qi (fun (r : Int32) (u : Nat → Nat → Int32) => Iv u ∧ u = v ∧ r = -5) (fun u t => ex_Pst dC dI (va_A (wl ad (.null) cy N v) sz) (wl ad (.null) cy N u) t) (va_A (wl ad (.null) cy N v) sz)) 0 0 (va_A (wl ad (.null) cy N v) sz) := by
  refine Met.ofW (cc := cX7_back) (maxL := 1) (ret := (some .int)) (by decide) rfl ?_
  intro p e s m args below meth c s₁ B hml hv
  obtain ⟨rfl, hsz, hE, hP, hK, hD0⟩ := hv
  have hx := B.exec
  have hb := B.bytes
  have hr := B.returns
  have hts := atoms_spec (ws := wsX7_back) B.pre
  have hown : s.vm.findClass RX7 = some m.cls := findClass_of_methodNamed B.named
  have hlocks := B.notSynchronized
  subst hsz
  have hD := hD0.self (sz := s.heap.size)
  generalize hAe : va_A (wl ad (.null) cy N v) s.heap.size = A at hD ⊢
  have hA : ∀ q : Nat, s.heap.size ≤ q → A q := fun q h => by rw [← hAe]; exact Or.inr h
  have hS : va_S A s.heap s.heap [] := va_S.rf
  have hP : va_P (dC, dI) vwCl (wl ad (.null) cy N v) s.heap := hP
  have hl := lv_entry ([.ref (ad 0)]) (n := 1) (Nat.le_of_ble_eq_true rfl)
  rw [lg_entry_eq]
  generalize (lg_sl ([.ref (ad 0)]) ++ List.replicate (1 - (lg_sl ([.ref (ad 0)])).length) Slot.unset).toArray = ls at hl ⊢
  have hl : lv_has ls 1 [(0, .ref (ad 0))] := hl
  refine lv_aload_n hx hb dX7_back_0 rfl (lv_at hl 0 rfl) ?_
  refine va_get (D := (dC, dI)) (ci := 7) (v := .null) (C := RX7) (T := TX7) (N := 5) hx hb hts iwX7_back_X7 hown hK hP (0) (wl_at (by omega) (ce_0 (by decide))) rfl 3 (by decide) (hts (.fieldLink RX7 30 "QuietStairs" "kept" "LQuietStairs$House;") fwX7_back_1) (fun _ h9 => h9) rfl dX7_back_1 ?_
  refine lv_ifnonnullN hx hb dX7_back_4 ?_
  refine lv_bipush (v := (-5)) hx hb dX7_back_7 (by decide) ?_
  exact W.iret (v := (-5)) hx hb hr (fun t ht hW => ⟨⟨(-5), v, rfl, ⟨hv, rfl, rfl⟩, by rw [ht]; exact hP, hD⟩, hS.F ht⟩) hS.2.2 dX7_back_9

set_option maxHeartbeats 4000000 in
set_option maxRecDepth 100000 in
theorem e_X7_back_k (l : Launch) (dC : Nat → ClassId) (dI : Nat → Nat → Nat) (cy : Nat → ClassId) (sz : Nat) (ad : Nat → Nat) (N : Nat) (hN : 119 ≤ N) (v : Nat → Nat → Int32) (hv : Iv v)  (hN2 : 225 ≤ N) : Met l yX7_back wsX7_back ({ frames := 3, cells := 0, slots := 0, locals := 192 }) (va_Pc [.ref (ad 0)] (ex_Pre dC dI cy sz (wl ad (.ref (ad 119)) cy N v))) (va_Qi (fun (r : Int32) (u : Nat → Nat → Int32) => Iv u ∧ ((∀ o j : Nat, lvH v 119 o j → u (13 + o) j = v (119 + o) j) ∧ (∀ k : Nat, (k < 13 ∨ 119 ≤ k) → u k = v k)) ∧ r = 1) (fun u t => ex_Pst dC dI (va_A (wl ad (.ref (ad 119)) cy N v) sz) (wl ad (.ref (ad 119)) cy N u) t) (va_A (wl ad (.ref (ad 119)) cy N v) sz)) 0 0 (va_A (wl ad (.ref (ad 119)) cy N v) sz) := by
  refine Met.ofW (cc := cX7_back) (maxL := 1) (ret := (some .int)) (by decide) rfl ?_
  intro p e s m args below meth c s₁ B hml hv
  obtain ⟨rfl, hsz, hE, hP, hK, hD0⟩ := hv
  have hx := B.exec
  have hb := B.bytes
  have hr := B.returns
  have hts := atoms_spec (ws := wsX7_back) B.pre
  have hown : s.vm.findClass RX7 = some m.cls := findClass_of_methodNamed B.named
  have hlocks := B.notSynchronized
  subst hsz
  have hD := hD0.self (sz := s.heap.size)
  generalize hAe : va_A (wl ad (.ref (ad 119)) cy N v) s.heap.size = A at hD ⊢
  have hA : ∀ q : Nat, s.heap.size ≤ q → A q := fun q h => by rw [← hAe]; exact Or.inr h
  have hS : va_S A s.heap s.heap [] := va_S.rf
  have hP : va_P (dC, dI) vwCl (wl ad (.ref (ad 119)) cy N v) s.heap := hP
  have hl := lv_entry ([.ref (ad 0)]) (n := 1) (Nat.le_of_ble_eq_true rfl)
  rw [lg_entry_eq]
  generalize (lg_sl ([.ref (ad 0)]) ++ List.replicate (1 - (lg_sl ([.ref (ad 0)])).length) Slot.unset).toArray = ls at hl ⊢
  have hl : lv_has ls 1 [(0, .ref (ad 0))] := hl
  refine lv_aload_n hx hb dX7_back_0 rfl (lv_at hl 0 rfl) ?_
  refine va_get (D := (dC, dI)) (ci := 7) (v := .ref (ad 119)) (C := RX7) (T := TX7) (N := 5) hx hb hts iwX7_back_X7 hown hK hP (0) (wl_at (by omega) (ce_0 (by decide))) rfl 3 (by decide) (hts (.fieldLink RX7 30 "QuietStairs" "kept" "LQuietStairs$House;") fwX7_back_1) (fun _ h9 => h9) rfl dX7_back_1 ?_
  refine lv_ifnonnull (tgt := 10) hx hb dX7_back_4 (by decide) ?_
  refine lv_aload_n hx hb dX7_back_10 rfl (lv_at hl 0 rfl) ?_
  refine va_get (D := (dC, dI)) (ci := 7) (v := .ref (ad 13)) (C := RX7) (T := TX7) (N := 5) hx hb hts iwX7_back_X7 hown hK hP (0) (wl_at (by omega) (ce_0 (by decide))) rfl 0 (by decide) (hts (.fieldLink RX7 12 "QuietStairs" "now" "LQuietStairs$House;") fwX7_back_2) (fun _ h9 => h9) rfl dX7_back_11 ?_
  refine lv_aload_n hx hb dX7_back_14 rfl (lv_at hl 0 rfl) ?_
  refine va_get (D := (dC, dI)) (ci := 7) (v := .ref (ad 119)) (C := RX7) (T := TX7) (N := 5) hx hb hts iwX7_back_X7 hown hK hP (0) (wl_at (by omega) (ce_0 (by decide))) rfl 3 (by decide) (hts (.fieldLink RX7 30 "QuietStairs" "kept" "LQuietStairs$House;") fwX7_back_1) (fun _ h9 => h9) rfl dX7_back_15 ?_
  refine yw_v (w1 := fun (u : Nat → Nat → Int32) => wl ad (.ref (ad 119)) cy N u) hD hS hA (va_runV (As := [.ref (ad 119)]) (rest := []) ⟨hx, hb, hml, hown, hts⟩ (e_X1_copyFrom_a l dC dI cy _ ad (.ref (ad 119)) N hN v hv hN2) (cwV 1 hts gX7_back_X1_copyFrom rfl rfl rfl hd_V_X1_copyFrom_1 ⟨Nat.le_of_ble_eq_true rfl, Nat.le_of_ble_eq_true rfl⟩) (yw_preV hE hK hP hD (ci := 1) (q := (RX1, TX1, 7)) (q0 := 13) rfl (wl_at (by omega) (ce_3 (by decide)))) rfl rfl hl.1 rfl (lv_room (Nat.le_of_ble_eq_true rfl)) dX7_back_18 ⟨Nat.le_of_ble_eq_true rfl, Nat.le_of_ble_eq_true rfl⟩) (fun v_1 H locs hw_1 hP hD hS => ?_)
  obtain ⟨hv, hw_1⟩ := hw_1
  refine lv_iconst (v := 1) hx hb dX7_back_21 (by decide) ?_
  exact W.iret (v := 1) hx hb hr (fun t ht hW => ⟨⟨1, v_1, rfl, ⟨hv, hw_1, rfl⟩, by rw [ht]; exact hP, hD⟩, hS.F ht⟩) hS.2.2 dX7_back_22

set_option maxHeartbeats 4000000 in
set_option maxRecDepth 100000 in
theorem e_X7_keep_k (l : Launch) (dC : Nat → ClassId) (dI : Nat → Nat → Nat) (cy : Nat → ClassId) (sz : Nat) (ad : Nat → Nat) (N : Nat) (hN : 119 ≤ N) (v : Nat → Nat → Int32) (hv : Iv v)  (hN2 : 225 ≤ N) : Met l yX7_keep wsX7_keep ({ frames := 4, cells := 0, slots := 0, locals := 256 }) (va_Pc [.ref (ad 0)] (ex_Pre dC dI cy sz (wl ad (.ref (ad 119)) cy N v))) (va_Qi (fun (r : Int32) (u : Nat → Nat → Int32) => Iv u ∧ ((∀ o j : Nat, lvH v 13 o j → u (119 + o) j = v (13 + o) j) ∧ (∀ k : Nat, (k < 119 ∨ 225 ≤ k) → u k = v k)) ∧ r = 1) (fun u t => ex_Pst dC dI (va_A (wl ad (.ref (ad 119)) cy N v) sz) (wl ad (.ref (ad 119)) cy N u) t) (va_A (wl ad (.ref (ad 119)) cy N v) sz)) 0 0 (va_A (wl ad (.ref (ad 119)) cy N v) sz) := by
  refine Met.ofW (cc := cX7_keep) (maxL := 1) (ret := (some .int)) (by decide) rfl ?_
  intro p e s m args below meth c s₁ B hml hv
  obtain ⟨rfl, hsz, hE, hP, hK, hD0⟩ := hv
  have hx := B.exec
  have hb := B.bytes
  have hr := B.returns
  have hts := atoms_spec (ws := wsX7_keep) B.pre
  have hown : s.vm.findClass RX7 = some m.cls := findClass_of_methodNamed B.named
  have hlocks := B.notSynchronized
  subst hsz
  have hD := hD0.self (sz := s.heap.size)
  generalize hAe : va_A (wl ad (.ref (ad 119)) cy N v) s.heap.size = A at hD ⊢
  have hA : ∀ q : Nat, s.heap.size ≤ q → A q := fun q h => by rw [← hAe]; exact Or.inr h
  have hS : va_S A s.heap s.heap [] := va_S.rf
  have hP : va_P (dC, dI) vwCl (wl ad (.ref (ad 119)) cy N v) s.heap := hP
  have hl := lv_entry ([.ref (ad 0)]) (n := 1) (Nat.le_of_ble_eq_true rfl)
  rw [lg_entry_eq]
  generalize (lg_sl ([.ref (ad 0)]) ++ List.replicate (1 - (lg_sl ([.ref (ad 0)])).length) Slot.unset).toArray = ls at hl ⊢
  have hl : lv_has ls 1 [(0, .ref (ad 0))] := hl
  refine lv_aload_n hx hb dX7_keep_0 rfl (lv_at hl 0 rfl) ?_
  refine va_get (D := (dC, dI)) (ci := 7) (v := .ref (ad 119)) (C := RX7) (T := TX7) (N := 5) hx hb hts iwX7_keep_X7 hown hK hP (0) (wl_at (by omega) (ce_0 (by decide))) rfl 3 (by decide) (hts (.fieldLink RX7 30 "QuietStairs" "kept" "LQuietStairs$House;") fwX7_keep_1) (fun _ h9 => h9) rfl dX7_keep_1 ?_
  refine lv_ifnonnull (tgt := 18) hx hb dX7_keep_4 (by decide) ?_
  refine lv_aload_n hx hb dX7_keep_18 rfl (lv_at hl 0 rfl) ?_
  refine va_get (D := (dC, dI)) (ci := 7) (v := .ref (ad 119)) (C := RX7) (T := TX7) (N := 5) hx hb hts iwX7_keep_X7 hown hK hP (0) (wl_at (by omega) (ce_0 (by decide))) rfl 3 (by decide) (hts (.fieldLink RX7 30 "QuietStairs" "kept" "LQuietStairs$House;") fwX7_keep_1) (fun _ h9 => h9) rfl dX7_keep_19 ?_
  refine lv_aload_n hx hb dX7_keep_22 rfl (lv_at hl 0 rfl) ?_
  refine va_get (D := (dC, dI)) (ci := 7) (v := .ref (ad 13)) (C := RX7) (T := TX7) (N := 5) hx hb hts iwX7_keep_X7 hown hK hP (0) (wl_at (by omega) (ce_0 (by decide))) rfl 0 (by decide) (hts (.fieldLink RX7 12 "QuietStairs" "now" "LQuietStairs$House;") fwX7_keep_5) (fun _ h9 => h9) rfl dX7_keep_23 ?_
  refine yw_v (w1 := fun (u : Nat → Nat → Int32) => wl ad (.ref (ad 119)) cy N u) hD hS hA (va_runV (As := [.ref (ad 13)]) (rest := []) ⟨hx, hb, hml, hown, hts⟩ (e_X1_copyFrom_b l dC dI cy _ ad (.ref (ad 119)) N hN v hv hN2) (cwV 1 hts gX7_keep_X1_copyFrom rfl rfl rfl hd_V_X1_copyFrom_1 ⟨Nat.le_of_ble_eq_true rfl, Nat.le_of_ble_eq_true rfl⟩) (yw_preV hE hK hP hD (ci := 1) (q := (RX1, TX1, 7)) (q0 := 119) rfl (wl_at (by omega) (ce_3 (by decide)))) rfl rfl hl.1 rfl (lv_room (Nat.le_of_ble_eq_true rfl)) dX7_keep_26 ⟨Nat.le_of_ble_eq_true rfl, Nat.le_of_ble_eq_true rfl⟩) (fun v_1 H locs hw_1 hP hD hS => ?_)
  obtain ⟨hv, hw_1⟩ := hw_1
  refine lv_iconst (v := 1) hx hb dX7_keep_29 (by decide) ?_
  exact W.iret (v := 1) hx hb hr (fun t ht hW => ⟨⟨1, v_1, rfl, ⟨hv, hw_1, rfl⟩, by rw [ht]; exact hP, hD⟩, hS.F ht⟩) hS.2.2 dX7_keep_30

set_option maxHeartbeats 4000000 in
set_option maxRecDepth 100000 in
theorem e_X7_keep_n (l : Launch) (dC : Nat → ClassId) (dI : Nat → Nat → Nat) (cy : Nat → ClassId) (sz : Nat) (ad : Nat → Nat) (v : Nat → Nat → Int32) (hv : Iv v) : Met l yX7_keep wsX7_keep ({ frames := 4, cells := 106, slots := 695, locals := 256 }) (va_Pc [.ref (ad 0)] (ex_Pre dC dI cy sz (wl ad .null cy 119 v))) (va_Qi (fun (r : Int32) (u : (Nat → Nat) × (Nat → Nat → Int32)) => Iv u.2 ∧ u.1 0 = ad 0 ∧ (∀ o j : Nat, lvH v 13 o j → u.2 (119 + o) j = v (13 + o) j) ∧ (∀ k : Nat, k < 119 → u.2 k = v k) ∧ r = 1) (fun u t => ex_Pst dC dI (va_A (wl ad .null cy 119 v) sz) (wl u.1 (.ref (u.1 119)) cy 225 u.2) t) (va_A (wl ad .null cy 119 v) sz)) 106 695 (va_A (wl ad .null cy 119 v) sz) := by
  refine Met.ofW (cc := cX7_keep) (maxL := 1) (ret := (some .int)) (by decide) rfl ?_
  intro p e s m args below meth c s₁ B hml hv
  obtain ⟨rfl, hsz, hE, hP, hK, hD0⟩ := hv
  have hx := B.exec
  have hb := B.bytes
  have hr := B.returns
  have hts := atoms_spec (ws := wsX7_keep) B.pre
  have hown : s.vm.findClass RX7 = some m.cls := findClass_of_methodNamed B.named
  have hlocks := B.notSynchronized
  subst hsz
  have hD := hD0.self (sz := s.heap.size)
  generalize hAe : va_A (wl ad .null cy 119 v) s.heap.size = A at hD ⊢
  have hA : ∀ q : Nat, s.heap.size ≤ q → A q := fun q h => by rw [← hAe]; exact Or.inr h
  have hS : va_S A s.heap s.heap [] := va_S.rf
  have hP : va_P (dC, dI) vwCl (wl ad .null cy 119 v) s.heap := hP
  have hl := lv_entry ([.ref (ad 0)]) (n := 1) (Nat.le_of_ble_eq_true rfl)
  rw [lg_entry_eq]
  generalize (lg_sl ([.ref (ad 0)]) ++ List.replicate (1 - (lg_sl ([.ref (ad 0)])).length) Slot.unset).toArray = ls at hl ⊢
  have hl : lv_has ls 1 [(0, .ref (ad 0))] := hl
  have hfr : Ft v v := Ft.rf
  refine lv_aload_n hx hb dX7_keep_0 rfl (lv_at hl 0 rfl) ?_
  refine va_get (D := (dC, dI)) (ci := 7) (v := .null) (C := RX7) (T := TX7) (N := 5) hx hb hts iwX7_keep_X7 hown hK hP (0) (wl_at (by omega) (ce_0 (by decide))) rfl 3 (by decide) (hts (.fieldLink RX7 30 "QuietStairs" "kept" "LQuietStairs$House;") fwX7_keep_1) (fun _ h9 => h9) rfl dX7_keep_1 ?_
  refine lv_ifnonnullN hx hb dX7_keep_4 ?_
  refine lv_aload_n hx hb dX7_keep_7 rfl (lv_at hl 0 rfl) ?_
  refine va_new (ci := 1) (fs := [.int 0, .int 0, .int 0, .int 0, .null, .null, .null]) (C := RX1) (T := TX1) (N := 7) hx hb hts iwX7_keep_X1 tyX1 tyX1_ok hown (hts (.classLink RX7 9 RX1) fwX7_keep_2) (hts (.instantiable RX1 7) fwX7_keep_3) (hts (.initialized RX1) fwX7_keep_4) hK hP hD hS hA rfl (fun j hj => by rcases (show j = 0 ∨ j = 1 ∨ j = 2 ∨ j = 3 ∨ j = 4 ∨ j = 5 ∨ j = 6 by omega) with rfl | rfl | rfl | rfl | rfl | rfl | rfl <;> rfl) (Nat.le_of_ble_eq_true rfl) (Nat.le_of_ble_eq_true rfl) dX7_keep_8 (fun h1 H hP hD hS => ?_)
  have hP : va_P (dC, dI) vwCl ((wl ad .null cy 119 v) ++ [(h1, .inr (1, [.int 0, .int 0, .int 0, .int 0, .null, .null, .null]))]) H := hP
  have hD : va_D A ((wl ad .null cy 119 v) ++ [(h1, .inr (1, [.int 0, .int 0, .int 0, .int 0, .null, .null, .null]))]) := hD
  refine W.widen (k := 1) (n := 7) (by omega) (by omega) ?_
  refine lv_dup hx hb dX7_keep_11 rfl ?_
  refine yt_v (X := wl ad .null cy 119 v) (x := (h1, .inr (1, [.int 0, .int 0, .int 0, .int 0, .null, .null, .null]))) (w1 := fun (u : Nat → Nat) => wH cy u) hP hD hS hA (va_runI (As := []) (rest := [.ref h1, .ref (ad 0)]) ⟨hx, hb, hml, hown, hts⟩ (c_X1_init l dC dI cy _ h1) (cwI 0 hts gX7_keep_X1_init rfl rfl rfl (hts (.initialized RX1) fwX7_keep_4) (hts (.methodLink RX7 11 yX1_init) fwX7_keep_6) (hts (.instanceMethod yX1_init) fwX7_keep_7) rfl (by decide +kernel) ⟨Nat.le_of_ble_eq_true rfl, Nat.le_of_ble_eq_true rfl⟩) (yt_pre hE hK hP hD) rfl rfl hl.1 rfl (lv_room (Nat.le_of_ble_eq_true rfl)) dX7_keep_12 ⟨Nat.le_of_ble_eq_true rfl, Nat.le_of_ble_eq_true rfl⟩) (fun uh H locs hw_u hP hD hS => ?_)
  have hP : va_P (dC, dI) vwCl ((wl ad .null cy 119 v) ++ wH cy uh) H := hP
  have hD : va_D A ((wl ad .null cy 119 v) ++ wH cy uh) := hD
  refine W.widen (k := 106) (n := 695) (by omega) (by omega) ?_
  have he0 : ((wl ad .null cy 119 v) ++ wH cy uh)[0]? = some (ad 0, .inr (7, [.ref (ad 13), .ref (ad 1), .ref (ad 10), .null, .int (v 0 4)])) := by rw [List.getElem?_append_left (by rw [wl_len]; decide)]; exact wl_at (by decide) (ce_0 (by decide))
  refine va_put (D := (dC, dI)) (ci := 7) (v := .ref h1) (ty := .object "QuietStairs$House") (C := RX7) (T := TX7) (N := 5) hx hb hts iwX7_keep_X7 tyX7 tyX7_ok nmX7 hown hK hP hD hS 0 he0 rfl 3 (by decide) (hts (.fieldLink RX7 30 "QuietStairs" "kept" "LQuietStairs$House;") fwX7_keep_1) (fun _ h9 => h9) rfl (by decide +kernel) rfl rfl (Nat.le_of_ble_eq_true rfl) dX7_keep_15 (fun H locs hP hD hS => ?_)
  obtain ⟨ad2, v2, al, vl, vh, hP, hD⟩ := keep_wl (k0 := h1) hw_u hP hD
  have hv2 : Iv v2 := Iv_k hv vl vh
  have a0 : ad2 0 = ad 0 := al 0 (by decide)
  rw [← a0] at hl
  refine lv_aload_n hx hb dX7_keep_18 rfl (lv_at hl 0 rfl) ?_
  refine va_get (D := (dC, dI)) (ci := 7) (v := .ref (ad2 119)) (C := RX7) (T := TX7) (N := 5) hx hb hts iwX7_keep_X7 hown hK hP (0) (wl_at (by omega) (ce_0 (by decide))) rfl 3 (by decide) (hts (.fieldLink RX7 30 "QuietStairs" "kept" "LQuietStairs$House;") fwX7_keep_1) (fun _ h9 => h9) rfl dX7_keep_19 ?_
  refine lv_aload_n hx hb dX7_keep_22 rfl (lv_at hl 0 rfl) ?_
  refine va_get (D := (dC, dI)) (ci := 7) (v := .ref (ad2 13)) (C := RX7) (T := TX7) (N := 5) hx hb hts iwX7_keep_X7 hown hK hP (0) (wl_at (by omega) (ce_0 (by decide))) rfl 0 (by decide) (hts (.fieldLink RX7 12 "QuietStairs" "now" "LQuietStairs$House;") fwX7_keep_5) (fun _ h9 => h9) rfl dX7_keep_23 ?_
  refine yw_v (w1 := fun (u : Nat → Nat → Int32) => wl ad2 (.ref (ad2 119)) cy 225 u) hD hS hA (va_runV (As := [.ref (ad2 13)]) (rest := []) ⟨hx, hb, hml, hown, hts⟩ (e_X1_copyFrom_b l dC dI cy _ ad2 (.ref (ad2 119)) 225 (by decide) v2 hv2 (by decide)) (cwV 1 hts gX7_keep_X1_copyFrom rfl rfl rfl hd_V_X1_copyFrom_1 ⟨Nat.le_of_ble_eq_true rfl, Nat.le_of_ble_eq_true rfl⟩) (yw_preV hE hK hP hD (ci := 1) (q := (RX1, TX1, 7)) (q0 := 119) rfl (wl_at (by omega) (ce_3 (by decide)))) rfl rfl hl.1 rfl (lv_room (Nat.le_of_ble_eq_true rfl)) dX7_keep_26 ⟨Nat.le_of_ble_eq_true rfl, Nat.le_of_ble_eq_true rfl⟩) (fun v3 H locs hw_3 hP hD hS => ?_)
  refine lv_iconst (v := 1) hx hb dX7_keep_29 (by decide) ?_
  refine W.widen (k := 106) (n := 695) (by omega) (by omega) ?_
  exact W.iret (v := 1) hx hb hr (fun t ht hW => ⟨⟨1, (ad2, v3), rfl, ⟨hw_3.1, a0, fun o j h => by have e1 := hw_3.2.1 o j (lvH_cg (fun k _ h2 => vl k (by omega)) h); have e2 : 13 + o < 119 := lvH_o h; rw [vl _ e2] at e1; exact e1, fun k h => (hw_3.2.2 k (Or.inl h)).trans (vl k h), rfl⟩, by rw [ht]; exact hP, hD⟩, hS.F ht⟩) hS.2.2 dX7_keep_30

/-- slot j of place k and number n of the reference are the same thing, as far as the counts reach -/
def lk (B : Nat) (s : Nat → Int32) (k j n : Nat) : Prop := (k = B ∧ j < 4 ∧ n = j) ∨ (∃ p : Nat, p < 8 ∧ (p : Int) < (s 0).toInt ∧ j < 2 ∧ k = B + 4 + p ∧ n = 4 + 2 * p + j) ∨ (∃ m : Nat, m < 4 ∧ (m : Int) < (s 1).toInt ∧ j < 2 ∧ k = B + 12 + m ∧ n = 20 + 2 * m + j) ∨ (∃ m : Nat, m < 4 ∧ (m : Int) < (s 1).toInt ∧ k = B + 12 + m ∧ j = 2 ∧ n = 28 + m) ∨ (∃ c : Nat, c < 6 ∧ (c : Int) < (s 2).toInt ∧ k = B + 16 + 15 * c ∧ j = 0 ∧ n = 34 + 7 * c) ∨ (∃ c : Nat, c < 6 ∧ (c : Int) < (s 2).toInt ∧ k = B + 16 + 15 * c ∧ j = 2 ∧ n = 36 + 7 * c) ∨ (∃ c : Nat, c < 6 ∧ (c : Int) < (s 2).toInt ∧ k = B + 16 + 15 * c ∧ j = 3 ∧ n = 37 + 7 * c) ∨ (∃ c : Nat, c < 6 ∧ (c : Int) < (s 2).toInt ∧ k = B + 16 + 15 * c ∧ j = 5 ∧ n = 38 + 7 * c) ∨ (∃ c : Nat, c < 6 ∧ (c : Int) < (s 2).toInt ∧ j < 2 ∧ k = B + 17 + 15 * c ∧ n = 32 + 7 * c + j) ∨ (∃ c i : Nat, c < 6 ∧ (c : Int) < (s 2).toInt ∧ i < 2 ∧ j < 5 ∧ (j : Int) < (s (36 + 7 * c)).toInt ∧ k = B + 20 + 15 * c + i ∧ n = 86 + 10 * c + 2 * j + i) ∨ (∃ c i : Nat, c < 6 ∧ (c : Int) < (s 2).toInt ∧ i < 2 ∧ j < 24 ∧ k = B + 23 + 15 * c + i ∧ n = 308 + 48 * c + 24 * i + j) ∨ (∃ c t : Nat, c < 6 ∧ (c : Int) < (s 2).toInt ∧ t < 5 ∧ (t : Int) < (s (38 + 7 * c)).toInt ∧ j < 5 ∧ k = B + 26 + 15 * c + t ∧ n = 158 + 25 * c + 5 * t + j)
def RLk (B : Nat) (v : Nat → Nat → Int32) (s : Nat → Int32) : Prop := ∀ k j n : Nat, lk B s k j n → v k j = s n
section LKS
variable {B : Nat} {s : Nat → Int32}
theorem lk_a {j : Nat} (hj : j < 4) : lk B s (B) j (j) := Or.inl ⟨rfl, hj, rfl⟩
theorem lk_p {p j : Nat} (hp : p < 8) (ha : (p : Int) < (s 0).toInt) (hj : j < 2) : lk B s (B + 4 + p) j (4 + 2 * p + j) := Or.inr (Or.inl ⟨p, hp, ha, hj, rfl, rfl⟩)
theorem lk_m {m j : Nat} (hm : m < 4) (ha : (m : Int) < (s 1).toInt) (hj : j < 2) : lk B s (B + 12 + m) j (20 + 2 * m + j) := Or.inr (Or.inr (Or.inl ⟨m, hm, ha, hj, rfl, rfl⟩))
theorem lk_k_ {m : Nat} (hm : m < 4) (ha : (m : Int) < (s 1).toInt) : lk B s (B + 12 + m) 2 (28 + m) := Or.inr (Or.inr (Or.inr (Or.inl ⟨m, hm, ha, rfl, rfl, rfl⟩)))
theorem lk_c0 {c : Nat} (hc : c < 6) (ha : (c : Int) < (s 2).toInt) : lk B s (B + 16 + 15 * c) 0 (34 + 7 * c) := Or.inr (Or.inr (Or.inr (Or.inr (Or.inl ⟨c, hc, ha, rfl, rfl, rfl⟩))))
theorem lk_c2 {c : Nat} (hc : c < 6) (ha : (c : Int) < (s 2).toInt) : lk B s (B + 16 + 15 * c) 2 (36 + 7 * c) := Or.inr (Or.inr (Or.inr (Or.inr (Or.inr (Or.inl ⟨c, hc, ha, rfl, rfl, rfl⟩)))))
theorem lk_c3 {c : Nat} (hc : c < 6) (ha : (c : Int) < (s 2).toInt) : lk B s (B + 16 + 15 * c) 3 (37 + 7 * c) := Or.inr (Or.inr (Or.inr (Or.inr (Or.inr (Or.inr (Or.inl ⟨c, hc, ha, rfl, rfl, rfl⟩))))))
theorem lk_c5 {c : Nat} (hc : c < 6) (ha : (c : Int) < (s 2).toInt) : lk B s (B + 16 + 15 * c) 5 (38 + 7 * c) := Or.inr (Or.inr (Or.inr (Or.inr (Or.inr (Or.inr (Or.inr (Or.inl ⟨c, hc, ha, rfl, rfl, rfl⟩)))))))
theorem lk_q {c j : Nat} (hc : c < 6) (ha : (c : Int) < (s 2).toInt) (hj : j < 2) : lk B s (B + 17 + 15 * c) j (32 + 7 * c + j) := Or.inr (Or.inr (Or.inr (Or.inr (Or.inr (Or.inr (Or.inr (Or.inr (Or.inl ⟨c, hc, ha, hj, rfl, rfl⟩))))))))
theorem lk_o {c i j : Nat} (hc : c < 6) (ha : (c : Int) < (s 2).toInt) (hi : i < 2) (hj : j < 5) (hr : (j : Int) < (s (36 + 7 * c)).toInt) : lk B s (B + 20 + 15 * c + i) j (86 + 10 * c + 2 * j + i) := Or.inr (Or.inr (Or.inr (Or.inr (Or.inr (Or.inr (Or.inr (Or.inr (Or.inr (Or.inl ⟨c, i, hc, ha, hi, hj, hr, rfl, rfl⟩)))))))))
theorem lk_l {c i j : Nat} (hc : c < 6) (ha : (c : Int) < (s 2).toInt) (hi : i < 2) (hj : j < 24) : lk B s (B + 23 + 15 * c + i) j (308 + 48 * c + 24 * i + j) := Or.inr (Or.inr (Or.inr (Or.inr (Or.inr (Or.inr (Or.inr (Or.inr (Or.inr (Or.inr (Or.inl ⟨c, i, hc, ha, hi, hj, rfl, rfl⟩))))))))))
theorem lk_t {c t j : Nat} (hc : c < 6) (ha : (c : Int) < (s 2).toInt) (ht : t < 5) (hr : (t : Int) < (s (38 + 7 * c)).toInt) (hj : j < 5) : lk B s (B + 26 + 15 * c + t) j (158 + 25 * c + 5 * t + j) := Or.inr (Or.inr (Or.inr (Or.inr (Or.inr (Or.inr (Or.inr (Or.inr (Or.inr (Or.inr (Or.inr (⟨c, t, hc, ha, ht, hr, hj, rfl, rfl⟩)))))))))))
end LKS
set_option maxHeartbeats 4000000 in
theorem RL_weight {v u : Nat → Nat → Int32} {s z : Nat → Int32} {X : Nat} {x : Int32} (hX : X < 6) (hu : ∀ k j : Nat, u k j = if k = 29 + 15 * X ∧ j = 3 then x else v k j) (hs : ∀ n : Nat, z n = if n = 37 + 7 * X then x else s n) (hR : RLk 13 v s) : RLk 13 u z := by
  have A0 : (z 0).toInt = (s 0).toInt := by rw [hs, if_neg (by omega)]
  have A1 : (z 1).toInt = (s 1).toInt := by rw [hs, if_neg (by omega)]
  have A2 : (z 2).toInt = (s 2).toInt := by rw [hs, if_neg (by omega)]
  have A36 : ∀ c : Nat, c < 6 → (z (36 + 7 * c)).toInt = (s (36 + 7 * c)).toInt := fun c hc => by rw [hs, if_neg (by omega)]
  have A38 : ∀ c : Nat, c < 6 → (z (38 + 7 * c)).toInt = (s (38 + 7 * c)).toInt := fun c hc => by rw [hs, if_neg (by omega)]
  intro k j n h
  unfold lk at h
  rcases h with ⟨rfl, hj, rfl⟩ | ⟨p, hp, ha, hj, rfl, rfl⟩ | ⟨m, hm, ha, hj, rfl, rfl⟩ | ⟨m, hm, ha, rfl, rfl, rfl⟩ | ⟨c, hc, ha, rfl, rfl, rfl⟩ | ⟨c, hc, ha, rfl, rfl, rfl⟩ | ⟨c, hc, ha, rfl, rfl, rfl⟩ | ⟨c, hc, ha, rfl, rfl, rfl⟩ | ⟨c, hc, ha, hj, rfl, rfl⟩ | ⟨c, i, hc, ha, hi, hj, hr, rfl, rfl⟩ | ⟨c, i, hc, ha, hi, hj, rfl, rfl⟩ | ⟨c, t, hc, ha, ht, hr, hj, rfl, rfl⟩
  · have d1 : u (13) n = v (13) n := by rw [hu, if_neg (by omega)]
    have d2 : z (n) = s (n) := by rw [hs, if_neg (by omega)]
    exact d1.trans ((hR _ _ _ (lk_a hj)).trans d2.symm)
  · have d1 : u (13 + 4 + p) j = v (13 + 4 + p) j := by rw [hu, if_neg (by omega)]
    have d2 : z (4 + 2 * p + j) = s (4 + 2 * p + j) := by rw [hs, if_neg (by omega)]
    exact d1.trans ((hR _ _ _ (lk_p hp (by omega) hj)).trans d2.symm)
  · have d1 : u (13 + 12 + m) j = v (13 + 12 + m) j := by rw [hu, if_neg (by omega)]
    have d2 : z (20 + 2 * m + j) = s (20 + 2 * m + j) := by rw [hs, if_neg (by omega)]
    exact d1.trans ((hR _ _ _ (lk_m hm (by omega) hj)).trans d2.symm)
  · have d1 : u (13 + 12 + m) 2 = v (13 + 12 + m) 2 := by rw [hu, if_neg (by omega)]
    have d2 : z (28 + m) = s (28 + m) := by rw [hs, if_neg (by omega)]
    exact d1.trans ((hR _ _ _ (lk_k_ hm (by omega))).trans d2.symm)
  · have d1 : u (13 + 16 + 15 * c) 0 = v (13 + 16 + 15 * c) 0 := by rw [hu, if_neg (by omega)]
    have d2 : z (34 + 7 * c) = s (34 + 7 * c) := by rw [hs, if_neg (by omega)]
    exact d1.trans ((hR _ _ _ (lk_c0 hc (by omega))).trans d2.symm)
  · have d1 : u (13 + 16 + 15 * c) 2 = v (13 + 16 + 15 * c) 2 := by rw [hu, if_neg (by omega)]
    have d2 : z (36 + 7 * c) = s (36 + 7 * c) := by rw [hs, if_neg (by omega)]
    exact d1.trans ((hR _ _ _ (lk_c2 hc (by omega))).trans d2.symm)
  · by_cases e0 : 13 + 16 + 15 * c = 29 + 15 * X ∧ 3 = 3
    · have d1 : u (13 + 16 + 15 * c) 3 = x := by rw [hu, if_pos (by omega)]
      have d2 : z (37 + 7 * c) = x := by rw [hs, if_pos (by omega)]
      exact d1.trans d2.symm
    · skip
      have d1 : u (13 + 16 + 15 * c) 3 = v (13 + 16 + 15 * c) 3 := by rw [hu, if_neg (by omega)]
      have d2 : z (37 + 7 * c) = s (37 + 7 * c) := by rw [hs, if_neg (by omega)]
      exact d1.trans ((hR _ _ _ (lk_c3 hc (by omega))).trans d2.symm)
  · have d1 : u (13 + 16 + 15 * c) 5 = v (13 + 16 + 15 * c) 5 := by rw [hu, if_neg (by omega)]
    have d2 : z (38 + 7 * c) = s (38 + 7 * c) := by rw [hs, if_neg (by omega)]
    exact d1.trans ((hR _ _ _ (lk_c5 hc (by omega))).trans d2.symm)
  · have d1 : u (13 + 17 + 15 * c) j = v (13 + 17 + 15 * c) j := by rw [hu, if_neg (by omega)]
    have d2 : z (32 + 7 * c + j) = s (32 + 7 * c + j) := by rw [hs, if_neg (by omega)]
    exact d1.trans ((hR _ _ _ (lk_q hc (by omega) hj)).trans d2.symm)
  · have a36 := A36 c hc
    have d1 : u (13 + 20 + 15 * c + i) j = v (13 + 20 + 15 * c + i) j := by rw [hu, if_neg (by omega)]
    have d2 : z (86 + 10 * c + 2 * j + i) = s (86 + 10 * c + 2 * j + i) := by rw [hs, if_neg (by omega)]
    exact d1.trans ((hR _ _ _ (lk_o hc (by omega) hi hj (by omega))).trans d2.symm)
  · have d1 : u (13 + 23 + 15 * c + i) j = v (13 + 23 + 15 * c + i) j := by rw [hu, if_neg (by omega)]
    have d2 : z (308 + 48 * c + 24 * i + j) = s (308 + 48 * c + 24 * i + j) := by rw [hs, if_neg (by omega)]
    exact d1.trans ((hR _ _ _ (lk_l hc (by omega) hi hj)).trans d2.symm)
  · have a38 := A38 c hc
    have d1 : u (13 + 26 + 15 * c + t) j = v (13 + 26 + 15 * c + t) j := by rw [hu, if_neg (by omega)]
    have d2 : z (158 + 25 * c + 5 * t + j) = s (158 + 25 * c + 5 * t + j) := by rw [hs, if_neg (by omega)]
    exact d1.trans ((hR _ _ _ (lk_t hc (by omega) ht (by omega) hj)).trans d2.symm)

set_option maxHeartbeats 4000000 in
theorem RL_close {v u : Nat → Nat → Int32} {s z : Nat → Int32} {X : Nat} {x : Int32} (hX : X < 6) (hu : ∀ k j : Nat, u k j = if k = 29 + 15 * X ∧ j = 0 then x else v k j) (hs : ∀ n : Nat, z n = if n = 34 + 7 * X then x else s n) (hR : RLk 13 v s) : RLk 13 u z := by
  have A0 : (z 0).toInt = (s 0).toInt := by rw [hs, if_neg (by omega)]
  have A1 : (z 1).toInt = (s 1).toInt := by rw [hs, if_neg (by omega)]
  have A2 : (z 2).toInt = (s 2).toInt := by rw [hs, if_neg (by omega)]
  have A36 : ∀ c : Nat, c < 6 → (z (36 + 7 * c)).toInt = (s (36 + 7 * c)).toInt := fun c hc => by rw [hs, if_neg (by omega)]
  have A38 : ∀ c : Nat, c < 6 → (z (38 + 7 * c)).toInt = (s (38 + 7 * c)).toInt := fun c hc => by rw [hs, if_neg (by omega)]
  intro k j n h
  unfold lk at h
  rcases h with ⟨rfl, hj, rfl⟩ | ⟨p, hp, ha, hj, rfl, rfl⟩ | ⟨m, hm, ha, hj, rfl, rfl⟩ | ⟨m, hm, ha, rfl, rfl, rfl⟩ | ⟨c, hc, ha, rfl, rfl, rfl⟩ | ⟨c, hc, ha, rfl, rfl, rfl⟩ | ⟨c, hc, ha, rfl, rfl, rfl⟩ | ⟨c, hc, ha, rfl, rfl, rfl⟩ | ⟨c, hc, ha, hj, rfl, rfl⟩ | ⟨c, i, hc, ha, hi, hj, hr, rfl, rfl⟩ | ⟨c, i, hc, ha, hi, hj, rfl, rfl⟩ | ⟨c, t, hc, ha, ht, hr, hj, rfl, rfl⟩
  · have d1 : u (13) n = v (13) n := by rw [hu, if_neg (by omega)]
    have d2 : z (n) = s (n) := by rw [hs, if_neg (by omega)]
    exact d1.trans ((hR _ _ _ (lk_a hj)).trans d2.symm)
  · have d1 : u (13 + 4 + p) j = v (13 + 4 + p) j := by rw [hu, if_neg (by omega)]
    have d2 : z (4 + 2 * p + j) = s (4 + 2 * p + j) := by rw [hs, if_neg (by omega)]
    exact d1.trans ((hR _ _ _ (lk_p hp (by omega) hj)).trans d2.symm)
  · have d1 : u (13 + 12 + m) j = v (13 + 12 + m) j := by rw [hu, if_neg (by omega)]
    have d2 : z (20 + 2 * m + j) = s (20 + 2 * m + j) := by rw [hs, if_neg (by omega)]
    exact d1.trans ((hR _ _ _ (lk_m hm (by omega) hj)).trans d2.symm)
  · have d1 : u (13 + 12 + m) 2 = v (13 + 12 + m) 2 := by rw [hu, if_neg (by omega)]
    have d2 : z (28 + m) = s (28 + m) := by rw [hs, if_neg (by omega)]
    exact d1.trans ((hR _ _ _ (lk_k_ hm (by omega))).trans d2.symm)
  · by_cases e0 : 13 + 16 + 15 * c = 29 + 15 * X ∧ 0 = 0
    · have d1 : u (13 + 16 + 15 * c) 0 = x := by rw [hu, if_pos (by omega)]
      have d2 : z (34 + 7 * c) = x := by rw [hs, if_pos (by omega)]
      exact d1.trans d2.symm
    · skip
      have d1 : u (13 + 16 + 15 * c) 0 = v (13 + 16 + 15 * c) 0 := by rw [hu, if_neg (by omega)]
      have d2 : z (34 + 7 * c) = s (34 + 7 * c) := by rw [hs, if_neg (by omega)]
      exact d1.trans ((hR _ _ _ (lk_c0 hc (by omega))).trans d2.symm)
  · have d1 : u (13 + 16 + 15 * c) 2 = v (13 + 16 + 15 * c) 2 := by rw [hu, if_neg (by omega)]
    have d2 : z (36 + 7 * c) = s (36 + 7 * c) := by rw [hs, if_neg (by omega)]
    exact d1.trans ((hR _ _ _ (lk_c2 hc (by omega))).trans d2.symm)
  · have d1 : u (13 + 16 + 15 * c) 3 = v (13 + 16 + 15 * c) 3 := by rw [hu, if_neg (by omega)]
    have d2 : z (37 + 7 * c) = s (37 + 7 * c) := by rw [hs, if_neg (by omega)]
    exact d1.trans ((hR _ _ _ (lk_c3 hc (by omega))).trans d2.symm)
  · have d1 : u (13 + 16 + 15 * c) 5 = v (13 + 16 + 15 * c) 5 := by rw [hu, if_neg (by omega)]
    have d2 : z (38 + 7 * c) = s (38 + 7 * c) := by rw [hs, if_neg (by omega)]
    exact d1.trans ((hR _ _ _ (lk_c5 hc (by omega))).trans d2.symm)
  · have d1 : u (13 + 17 + 15 * c) j = v (13 + 17 + 15 * c) j := by rw [hu, if_neg (by omega)]
    have d2 : z (32 + 7 * c + j) = s (32 + 7 * c + j) := by rw [hs, if_neg (by omega)]
    exact d1.trans ((hR _ _ _ (lk_q hc (by omega) hj)).trans d2.symm)
  · have a36 := A36 c hc
    have d1 : u (13 + 20 + 15 * c + i) j = v (13 + 20 + 15 * c + i) j := by rw [hu, if_neg (by omega)]
    have d2 : z (86 + 10 * c + 2 * j + i) = s (86 + 10 * c + 2 * j + i) := by rw [hs, if_neg (by omega)]
    exact d1.trans ((hR _ _ _ (lk_o hc (by omega) hi hj (by omega))).trans d2.symm)
  · have d1 : u (13 + 23 + 15 * c + i) j = v (13 + 23 + 15 * c + i) j := by rw [hu, if_neg (by omega)]
    have d2 : z (308 + 48 * c + 24 * i + j) = s (308 + 48 * c + 24 * i + j) := by rw [hs, if_neg (by omega)]
    exact d1.trans ((hR _ _ _ (lk_l hc (by omega) hi hj)).trans d2.symm)
  · have a38 := A38 c hc
    have d1 : u (13 + 26 + 15 * c + t) j = v (13 + 26 + 15 * c + t) j := by rw [hu, if_neg (by omega)]
    have d2 : z (158 + 25 * c + 5 * t + j) = s (158 + 25 * c + 5 * t + j) := by rw [hs, if_neg (by omega)]
    exact d1.trans ((hR _ _ _ (lk_t hc (by omega) ht (by omega) hj)).trans d2.symm)

set_option maxHeartbeats 4000000 in
theorem RL_log {v u : Nat → Nat → Int32} {s z : Nat → Int32} {X S H : Nat} {x : Int32} (hX : X < 6) (hS : S < 2) (hH : H < 24) (hu : ∀ k j : Nat, u k j = if k = 36 + 15 * X + S ∧ j = H then x else v k j) (hs : ∀ n : Nat, z n = if n = 308 + 48 * X + 24 * S + H then x else s n) (hR : RLk 13 v s) : RLk 13 u z := by
  have A0 : (z 0).toInt = (s 0).toInt := by rw [hs, if_neg (by omega)]
  have A1 : (z 1).toInt = (s 1).toInt := by rw [hs, if_neg (by omega)]
  have A2 : (z 2).toInt = (s 2).toInt := by rw [hs, if_neg (by omega)]
  have A36 : ∀ c : Nat, c < 6 → (z (36 + 7 * c)).toInt = (s (36 + 7 * c)).toInt := fun c hc => by rw [hs, if_neg (by omega)]
  have A38 : ∀ c : Nat, c < 6 → (z (38 + 7 * c)).toInt = (s (38 + 7 * c)).toInt := fun c hc => by rw [hs, if_neg (by omega)]
  intro k j n h
  unfold lk at h
  rcases h with ⟨rfl, hj, rfl⟩ | ⟨p, hp, ha, hj, rfl, rfl⟩ | ⟨m, hm, ha, hj, rfl, rfl⟩ | ⟨m, hm, ha, rfl, rfl, rfl⟩ | ⟨c, hc, ha, rfl, rfl, rfl⟩ | ⟨c, hc, ha, rfl, rfl, rfl⟩ | ⟨c, hc, ha, rfl, rfl, rfl⟩ | ⟨c, hc, ha, rfl, rfl, rfl⟩ | ⟨c, hc, ha, hj, rfl, rfl⟩ | ⟨c, i, hc, ha, hi, hj, hr, rfl, rfl⟩ | ⟨c, i, hc, ha, hi, hj, rfl, rfl⟩ | ⟨c, t, hc, ha, ht, hr, hj, rfl, rfl⟩
  · have d1 : u (13) n = v (13) n := by rw [hu, if_neg (by omega)]
    have d2 : z (n) = s (n) := by rw [hs, if_neg (by omega)]
    exact d1.trans ((hR _ _ _ (lk_a hj)).trans d2.symm)
  · have d1 : u (13 + 4 + p) j = v (13 + 4 + p) j := by rw [hu, if_neg (by omega)]
    have d2 : z (4 + 2 * p + j) = s (4 + 2 * p + j) := by rw [hs, if_neg (by omega)]
    exact d1.trans ((hR _ _ _ (lk_p hp (by omega) hj)).trans d2.symm)
  · have d1 : u (13 + 12 + m) j = v (13 + 12 + m) j := by rw [hu, if_neg (by omega)]
    have d2 : z (20 + 2 * m + j) = s (20 + 2 * m + j) := by rw [hs, if_neg (by omega)]
    exact d1.trans ((hR _ _ _ (lk_m hm (by omega) hj)).trans d2.symm)
  · have d1 : u (13 + 12 + m) 2 = v (13 + 12 + m) 2 := by rw [hu, if_neg (by omega)]
    have d2 : z (28 + m) = s (28 + m) := by rw [hs, if_neg (by omega)]
    exact d1.trans ((hR _ _ _ (lk_k_ hm (by omega))).trans d2.symm)
  · have d1 : u (13 + 16 + 15 * c) 0 = v (13 + 16 + 15 * c) 0 := by rw [hu, if_neg (by omega)]
    have d2 : z (34 + 7 * c) = s (34 + 7 * c) := by rw [hs, if_neg (by omega)]
    exact d1.trans ((hR _ _ _ (lk_c0 hc (by omega))).trans d2.symm)
  · have d1 : u (13 + 16 + 15 * c) 2 = v (13 + 16 + 15 * c) 2 := by rw [hu, if_neg (by omega)]
    have d2 : z (36 + 7 * c) = s (36 + 7 * c) := by rw [hs, if_neg (by omega)]
    exact d1.trans ((hR _ _ _ (lk_c2 hc (by omega))).trans d2.symm)
  · have d1 : u (13 + 16 + 15 * c) 3 = v (13 + 16 + 15 * c) 3 := by rw [hu, if_neg (by omega)]
    have d2 : z (37 + 7 * c) = s (37 + 7 * c) := by rw [hs, if_neg (by omega)]
    exact d1.trans ((hR _ _ _ (lk_c3 hc (by omega))).trans d2.symm)
  · have d1 : u (13 + 16 + 15 * c) 5 = v (13 + 16 + 15 * c) 5 := by rw [hu, if_neg (by omega)]
    have d2 : z (38 + 7 * c) = s (38 + 7 * c) := by rw [hs, if_neg (by omega)]
    exact d1.trans ((hR _ _ _ (lk_c5 hc (by omega))).trans d2.symm)
  · have d1 : u (13 + 17 + 15 * c) j = v (13 + 17 + 15 * c) j := by rw [hu, if_neg (by omega)]
    have d2 : z (32 + 7 * c + j) = s (32 + 7 * c + j) := by rw [hs, if_neg (by omega)]
    exact d1.trans ((hR _ _ _ (lk_q hc (by omega) hj)).trans d2.symm)
  · have a36 := A36 c hc
    have d1 : u (13 + 20 + 15 * c + i) j = v (13 + 20 + 15 * c + i) j := by rw [hu, if_neg (by omega)]
    have d2 : z (86 + 10 * c + 2 * j + i) = s (86 + 10 * c + 2 * j + i) := by rw [hs, if_neg (by omega)]
    exact d1.trans ((hR _ _ _ (lk_o hc (by omega) hi hj (by omega))).trans d2.symm)
  · by_cases e0 : 13 + 23 + 15 * c + i = 36 + 15 * X + S ∧ j = H
    · have d1 : u (13 + 23 + 15 * c + i) j = x := by rw [hu, if_pos (by omega)]
      have d2 : z (308 + 48 * c + 24 * i + j) = x := by rw [hs, if_pos (by omega)]
      exact d1.trans d2.symm
    · skip
      have d1 : u (13 + 23 + 15 * c + i) j = v (13 + 23 + 15 * c + i) j := by rw [hu, if_neg (by omega)]
      have d2 : z (308 + 48 * c + 24 * i + j) = s (308 + 48 * c + 24 * i + j) := by rw [hs, if_neg (by omega)]
      exact d1.trans ((hR _ _ _ (lk_l hc (by omega) hi hj)).trans d2.symm)
  · have a38 := A38 c hc
    have d1 : u (13 + 26 + 15 * c + t) j = v (13 + 26 + 15 * c + t) j := by rw [hu, if_neg (by omega)]
    have d2 : z (158 + 25 * c + 5 * t + j) = s (158 + 25 * c + 5 * t + j) := by rw [hs, if_neg (by omega)]
    exact d1.trans ((hR _ _ _ (lk_t hc (by omega) ht (by omega) hj)).trans d2.symm)

set_option maxHeartbeats 4000000 in
theorem RL_kin {v u : Nat → Nat → Int32} {s z : Nat → Int32} {X : Nat} {x : Int32} (hX : X < 4) (hu : ∀ k j : Nat, u k j = if k = 25 + X ∧ j = 2 then x else v k j) (hs : ∀ n : Nat, z n = if n = 28 + X then x else s n) (hR : RLk 13 v s) : RLk 13 u z := by
  have A0 : (z 0).toInt = (s 0).toInt := by rw [hs, if_neg (by omega)]
  have A1 : (z 1).toInt = (s 1).toInt := by rw [hs, if_neg (by omega)]
  have A2 : (z 2).toInt = (s 2).toInt := by rw [hs, if_neg (by omega)]
  have A36 : ∀ c : Nat, c < 6 → (z (36 + 7 * c)).toInt = (s (36 + 7 * c)).toInt := fun c hc => by rw [hs, if_neg (by omega)]
  have A38 : ∀ c : Nat, c < 6 → (z (38 + 7 * c)).toInt = (s (38 + 7 * c)).toInt := fun c hc => by rw [hs, if_neg (by omega)]
  intro k j n h
  unfold lk at h
  rcases h with ⟨rfl, hj, rfl⟩ | ⟨p, hp, ha, hj, rfl, rfl⟩ | ⟨m, hm, ha, hj, rfl, rfl⟩ | ⟨m, hm, ha, rfl, rfl, rfl⟩ | ⟨c, hc, ha, rfl, rfl, rfl⟩ | ⟨c, hc, ha, rfl, rfl, rfl⟩ | ⟨c, hc, ha, rfl, rfl, rfl⟩ | ⟨c, hc, ha, rfl, rfl, rfl⟩ | ⟨c, hc, ha, hj, rfl, rfl⟩ | ⟨c, i, hc, ha, hi, hj, hr, rfl, rfl⟩ | ⟨c, i, hc, ha, hi, hj, rfl, rfl⟩ | ⟨c, t, hc, ha, ht, hr, hj, rfl, rfl⟩
  · have d1 : u (13) n = v (13) n := by rw [hu, if_neg (by omega)]
    have d2 : z (n) = s (n) := by rw [hs, if_neg (by omega)]
    exact d1.trans ((hR _ _ _ (lk_a hj)).trans d2.symm)
  · have d1 : u (13 + 4 + p) j = v (13 + 4 + p) j := by rw [hu, if_neg (by omega)]
    have d2 : z (4 + 2 * p + j) = s (4 + 2 * p + j) := by rw [hs, if_neg (by omega)]
    exact d1.trans ((hR _ _ _ (lk_p hp (by omega) hj)).trans d2.symm)
  · have d1 : u (13 + 12 + m) j = v (13 + 12 + m) j := by rw [hu, if_neg (by omega)]
    have d2 : z (20 + 2 * m + j) = s (20 + 2 * m + j) := by rw [hs, if_neg (by omega)]
    exact d1.trans ((hR _ _ _ (lk_m hm (by omega) hj)).trans d2.symm)
  · by_cases e0 : 13 + 12 + m = 25 + X ∧ 2 = 2
    · have d1 : u (13 + 12 + m) 2 = x := by rw [hu, if_pos (by omega)]
      have d2 : z (28 + m) = x := by rw [hs, if_pos (by omega)]
      exact d1.trans d2.symm
    · skip
      have d1 : u (13 + 12 + m) 2 = v (13 + 12 + m) 2 := by rw [hu, if_neg (by omega)]
      have d2 : z (28 + m) = s (28 + m) := by rw [hs, if_neg (by omega)]
      exact d1.trans ((hR _ _ _ (lk_k_ hm (by omega))).trans d2.symm)
  · have d1 : u (13 + 16 + 15 * c) 0 = v (13 + 16 + 15 * c) 0 := by rw [hu, if_neg (by omega)]
    have d2 : z (34 + 7 * c) = s (34 + 7 * c) := by rw [hs, if_neg (by omega)]
    exact d1.trans ((hR _ _ _ (lk_c0 hc (by omega))).trans d2.symm)
  · have d1 : u (13 + 16 + 15 * c) 2 = v (13 + 16 + 15 * c) 2 := by rw [hu, if_neg (by omega)]
    have d2 : z (36 + 7 * c) = s (36 + 7 * c) := by rw [hs, if_neg (by omega)]
    exact d1.trans ((hR _ _ _ (lk_c2 hc (by omega))).trans d2.symm)
  · have d1 : u (13 + 16 + 15 * c) 3 = v (13 + 16 + 15 * c) 3 := by rw [hu, if_neg (by omega)]
    have d2 : z (37 + 7 * c) = s (37 + 7 * c) := by rw [hs, if_neg (by omega)]
    exact d1.trans ((hR _ _ _ (lk_c3 hc (by omega))).trans d2.symm)
  · have d1 : u (13 + 16 + 15 * c) 5 = v (13 + 16 + 15 * c) 5 := by rw [hu, if_neg (by omega)]
    have d2 : z (38 + 7 * c) = s (38 + 7 * c) := by rw [hs, if_neg (by omega)]
    exact d1.trans ((hR _ _ _ (lk_c5 hc (by omega))).trans d2.symm)
  · have d1 : u (13 + 17 + 15 * c) j = v (13 + 17 + 15 * c) j := by rw [hu, if_neg (by omega)]
    have d2 : z (32 + 7 * c + j) = s (32 + 7 * c + j) := by rw [hs, if_neg (by omega)]
    exact d1.trans ((hR _ _ _ (lk_q hc (by omega) hj)).trans d2.symm)
  · have a36 := A36 c hc
    have d1 : u (13 + 20 + 15 * c + i) j = v (13 + 20 + 15 * c + i) j := by rw [hu, if_neg (by omega)]
    have d2 : z (86 + 10 * c + 2 * j + i) = s (86 + 10 * c + 2 * j + i) := by rw [hs, if_neg (by omega)]
    exact d1.trans ((hR _ _ _ (lk_o hc (by omega) hi hj (by omega))).trans d2.symm)
  · have d1 : u (13 + 23 + 15 * c + i) j = v (13 + 23 + 15 * c + i) j := by rw [hu, if_neg (by omega)]
    have d2 : z (308 + 48 * c + 24 * i + j) = s (308 + 48 * c + 24 * i + j) := by rw [hs, if_neg (by omega)]
    exact d1.trans ((hR _ _ _ (lk_l hc (by omega) hi hj)).trans d2.symm)
  · have a38 := A38 c hc
    have d1 : u (13 + 26 + 15 * c + t) j = v (13 + 26 + 15 * c + t) j := by rw [hu, if_neg (by omega)]
    have d2 : z (158 + 25 * c + 5 * t + j) = s (158 + 25 * c + 5 * t + j) := by rw [hs, if_neg (by omega)]
    exact d1.trans ((hR _ _ _ (lk_t hc (by omega) ht (by omega) hj)).trans d2.symm)

set_option maxHeartbeats 4000000 in
theorem RL_strike {v u : Nat → Nat → Int32} {s z : Nat → Int32} {X : Nat} {x : Int32} (hX : X < 6) (hx : x.toInt = (s (38 + 7 * X)).toInt - 1) (hu : ∀ k j : Nat, u k j = if k = 29 + 15 * X ∧ j = 5 then x else v k j) (hs : ∀ n : Nat, z n = if n = 38 + 7 * X then x else s n) (hR : RLk 13 v s) : RLk 13 u z := by
  have A0 : (z 0).toInt = (s 0).toInt := by rw [hs, if_neg (by omega)]
  have A1 : (z 1).toInt = (s 1).toInt := by rw [hs, if_neg (by omega)]
  have A2 : (z 2).toInt = (s 2).toInt := by rw [hs, if_neg (by omega)]
  have A36 : ∀ c : Nat, c < 6 → (z (36 + 7 * c)).toInt = (s (36 + 7 * c)).toInt := fun c hc => by rw [hs, if_neg (by omega)]
  have A38 : ∀ c : Nat, c < 6 → (z (38 + 7 * c)).toInt = (s (38 + 7 * c)).toInt ∨ (c = X ∧ (z (38 + 7 * c)).toInt = (s (38 + 7 * c)).toInt - 1) := fun c hc => by by_cases q : c = X; subst q; refine Or.inr ⟨rfl, ?_⟩; rw [hs, if_pos rfl]; exact hx; refine Or.inl ?_; rw [hs, if_neg (by omega)]
  intro k j n h
  unfold lk at h
  rcases h with ⟨rfl, hj, rfl⟩ | ⟨p, hp, ha, hj, rfl, rfl⟩ | ⟨m, hm, ha, hj, rfl, rfl⟩ | ⟨m, hm, ha, rfl, rfl, rfl⟩ | ⟨c, hc, ha, rfl, rfl, rfl⟩ | ⟨c, hc, ha, rfl, rfl, rfl⟩ | ⟨c, hc, ha, rfl, rfl, rfl⟩ | ⟨c, hc, ha, rfl, rfl, rfl⟩ | ⟨c, hc, ha, hj, rfl, rfl⟩ | ⟨c, i, hc, ha, hi, hj, hr, rfl, rfl⟩ | ⟨c, i, hc, ha, hi, hj, rfl, rfl⟩ | ⟨c, t, hc, ha, ht, hr, hj, rfl, rfl⟩
  · have d1 : u (13) n = v (13) n := by rw [hu, if_neg (by omega)]
    have d2 : z (n) = s (n) := by rw [hs, if_neg (by omega)]
    exact d1.trans ((hR _ _ _ (lk_a hj)).trans d2.symm)
  · have d1 : u (13 + 4 + p) j = v (13 + 4 + p) j := by rw [hu, if_neg (by omega)]
    have d2 : z (4 + 2 * p + j) = s (4 + 2 * p + j) := by rw [hs, if_neg (by omega)]
    exact d1.trans ((hR _ _ _ (lk_p hp (by omega) hj)).trans d2.symm)
  · have d1 : u (13 + 12 + m) j = v (13 + 12 + m) j := by rw [hu, if_neg (by omega)]
    have d2 : z (20 + 2 * m + j) = s (20 + 2 * m + j) := by rw [hs, if_neg (by omega)]
    exact d1.trans ((hR _ _ _ (lk_m hm (by omega) hj)).trans d2.symm)
  · have d1 : u (13 + 12 + m) 2 = v (13 + 12 + m) 2 := by rw [hu, if_neg (by omega)]
    have d2 : z (28 + m) = s (28 + m) := by rw [hs, if_neg (by omega)]
    exact d1.trans ((hR _ _ _ (lk_k_ hm (by omega))).trans d2.symm)
  · have d1 : u (13 + 16 + 15 * c) 0 = v (13 + 16 + 15 * c) 0 := by rw [hu, if_neg (by omega)]
    have d2 : z (34 + 7 * c) = s (34 + 7 * c) := by rw [hs, if_neg (by omega)]
    exact d1.trans ((hR _ _ _ (lk_c0 hc (by omega))).trans d2.symm)
  · have d1 : u (13 + 16 + 15 * c) 2 = v (13 + 16 + 15 * c) 2 := by rw [hu, if_neg (by omega)]
    have d2 : z (36 + 7 * c) = s (36 + 7 * c) := by rw [hs, if_neg (by omega)]
    exact d1.trans ((hR _ _ _ (lk_c2 hc (by omega))).trans d2.symm)
  · have d1 : u (13 + 16 + 15 * c) 3 = v (13 + 16 + 15 * c) 3 := by rw [hu, if_neg (by omega)]
    have d2 : z (37 + 7 * c) = s (37 + 7 * c) := by rw [hs, if_neg (by omega)]
    exact d1.trans ((hR _ _ _ (lk_c3 hc (by omega))).trans d2.symm)
  · by_cases e0 : 13 + 16 + 15 * c = 29 + 15 * X ∧ 5 = 5
    · have d1 : u (13 + 16 + 15 * c) 5 = x := by rw [hu, if_pos (by omega)]
      have d2 : z (38 + 7 * c) = x := by rw [hs, if_pos (by omega)]
      exact d1.trans d2.symm
    · skip
      have d1 : u (13 + 16 + 15 * c) 5 = v (13 + 16 + 15 * c) 5 := by rw [hu, if_neg (by omega)]
      have d2 : z (38 + 7 * c) = s (38 + 7 * c) := by rw [hs, if_neg (by omega)]
      exact d1.trans ((hR _ _ _ (lk_c5 hc (by omega))).trans d2.symm)
  · have d1 : u (13 + 17 + 15 * c) j = v (13 + 17 + 15 * c) j := by rw [hu, if_neg (by omega)]
    have d2 : z (32 + 7 * c + j) = s (32 + 7 * c + j) := by rw [hs, if_neg (by omega)]
    exact d1.trans ((hR _ _ _ (lk_q hc (by omega) hj)).trans d2.symm)
  · have a36 := A36 c hc
    have d1 : u (13 + 20 + 15 * c + i) j = v (13 + 20 + 15 * c + i) j := by rw [hu, if_neg (by omega)]
    have d2 : z (86 + 10 * c + 2 * j + i) = s (86 + 10 * c + 2 * j + i) := by rw [hs, if_neg (by omega)]
    exact d1.trans ((hR _ _ _ (lk_o hc (by omega) hi hj (by omega))).trans d2.symm)
  · have d1 : u (13 + 23 + 15 * c + i) j = v (13 + 23 + 15 * c + i) j := by rw [hu, if_neg (by omega)]
    have d2 : z (308 + 48 * c + 24 * i + j) = s (308 + 48 * c + 24 * i + j) := by rw [hs, if_neg (by omega)]
    exact d1.trans ((hR _ _ _ (lk_l hc (by omega) hi hj)).trans d2.symm)
  · have a38 := A38 c hc
    have d1 : u (13 + 26 + 15 * c + t) j = v (13 + 26 + 15 * c + t) j := by rw [hu, if_neg (by omega)]
    have d2 : z (158 + 25 * c + 5 * t + j) = s (158 + 25 * c + 5 * t + j) := by rw [hs, if_neg (by omega)]
    exact d1.trans ((hR _ _ _ (lk_t hc (by omega) ht (by omega) hj)).trans d2.symm)

set_option maxHeartbeats 4000000 in
theorem RL_term {v u : Nat → Nat → Int32} {s z : Nat → Int32} {X T : Nat} {x a b c0 d e : Int32} (hX : X < 6) (hT : T < 5) (hn : (s (38 + 7 * X)).toInt = (T : Int)) (hx : x.toInt = (s (38 + 7 * X)).toInt + 1) (hu : ∀ k j : Nat, u k j = if k = 29 + 15 * X ∧ j = 5 then x else if k = 39 + 15 * X + T ∧ j = 4 then e else if k = 39 + 15 * X + T ∧ j = 3 then d else if k = 39 + 15 * X + T ∧ j = 2 then c0 else if k = 39 + 15 * X + T ∧ j = 1 then b else if k = 39 + 15 * X + T ∧ j = 0 then a else v k j) (hs : ∀ n : Nat, z n = if n = 38 + 7 * X then x else if n = 162 + 25 * X + 5 * T then e else if n = 161 + 25 * X + 5 * T then d else if n = 160 + 25 * X + 5 * T then c0 else if n = 159 + 25 * X + 5 * T then b else if n = 158 + 25 * X + 5 * T then a else s n) (hR : RLk 13 v s) : RLk 13 u z := by
  have A0 : (z 0).toInt = (s 0).toInt := by rw [hs, if_neg (by omega), if_neg (by omega), if_neg (by omega), if_neg (by omega), if_neg (by omega), if_neg (by omega)]
  have A1 : (z 1).toInt = (s 1).toInt := by rw [hs, if_neg (by omega), if_neg (by omega), if_neg (by omega), if_neg (by omega), if_neg (by omega), if_neg (by omega)]
  have A2 : (z 2).toInt = (s 2).toInt := by rw [hs, if_neg (by omega), if_neg (by omega), if_neg (by omega), if_neg (by omega), if_neg (by omega), if_neg (by omega)]
  have A36 : ∀ c : Nat, c < 6 → (z (36 + 7 * c)).toInt = (s (36 + 7 * c)).toInt := fun c hc => by rw [hs, if_neg (by omega), if_neg (by omega), if_neg (by omega), if_neg (by omega), if_neg (by omega), if_neg (by omega)]
  have A38 : ∀ c : Nat, c < 6 → (z (38 + 7 * c)).toInt = (s (38 + 7 * c)).toInt ∨ (c = X ∧ (z (38 + 7 * c)).toInt = (s (38 + 7 * c)).toInt + 1) := fun c hc => by by_cases q : c = X; subst q; refine Or.inr ⟨rfl, ?_⟩; rw [hs, if_pos rfl]; exact hx; refine Or.inl ?_; rw [hs, if_neg (by omega), if_neg (by omega), if_neg (by omega), if_neg (by omega), if_neg (by omega), if_neg (by omega)]
  intro k j n h
  unfold lk at h
  rcases h with ⟨rfl, hj, rfl⟩ | ⟨p, hp, ha, hj, rfl, rfl⟩ | ⟨m, hm, ha, hj, rfl, rfl⟩ | ⟨m, hm, ha, rfl, rfl, rfl⟩ | ⟨c, hc, ha, rfl, rfl, rfl⟩ | ⟨c, hc, ha, rfl, rfl, rfl⟩ | ⟨c, hc, ha, rfl, rfl, rfl⟩ | ⟨c, hc, ha, rfl, rfl, rfl⟩ | ⟨c, hc, ha, hj, rfl, rfl⟩ | ⟨c, i, hc, ha, hi, hj, hr, rfl, rfl⟩ | ⟨c, i, hc, ha, hi, hj, rfl, rfl⟩ | ⟨c, t, hc, ha, ht, hr, hj, rfl, rfl⟩
  · have d1 : u (13) n = v (13) n := by rw [hu, if_neg (by omega), if_neg (by omega), if_neg (by omega), if_neg (by omega), if_neg (by omega), if_neg (by omega)]
    have d2 : z (n) = s (n) := by rw [hs, if_neg (by omega), if_neg (by omega), if_neg (by omega), if_neg (by omega), if_neg (by omega), if_neg (by omega)]
    exact d1.trans ((hR _ _ _ (lk_a hj)).trans d2.symm)
  · have d1 : u (13 + 4 + p) j = v (13 + 4 + p) j := by rw [hu, if_neg (by omega), if_neg (by omega), if_neg (by omega), if_neg (by omega), if_neg (by omega), if_neg (by omega)]
    have d2 : z (4 + 2 * p + j) = s (4 + 2 * p + j) := by rw [hs, if_neg (by omega), if_neg (by omega), if_neg (by omega), if_neg (by omega), if_neg (by omega), if_neg (by omega)]
    exact d1.trans ((hR _ _ _ (lk_p hp (by omega) hj)).trans d2.symm)
  · have d1 : u (13 + 12 + m) j = v (13 + 12 + m) j := by rw [hu, if_neg (by omega), if_neg (by omega), if_neg (by omega), if_neg (by omega), if_neg (by omega), if_neg (by omega)]
    have d2 : z (20 + 2 * m + j) = s (20 + 2 * m + j) := by rw [hs, if_neg (by omega), if_neg (by omega), if_neg (by omega), if_neg (by omega), if_neg (by omega), if_neg (by omega)]
    exact d1.trans ((hR _ _ _ (lk_m hm (by omega) hj)).trans d2.symm)
  · have d1 : u (13 + 12 + m) 2 = v (13 + 12 + m) 2 := by rw [hu, if_neg (by omega), if_neg (by omega), if_neg (by omega), if_neg (by omega), if_neg (by omega), if_neg (by omega)]
    have d2 : z (28 + m) = s (28 + m) := by rw [hs, if_neg (by omega), if_neg (by omega), if_neg (by omega), if_neg (by omega), if_neg (by omega), if_neg (by omega)]
    exact d1.trans ((hR _ _ _ (lk_k_ hm (by omega))).trans d2.symm)
  · have d1 : u (13 + 16 + 15 * c) 0 = v (13 + 16 + 15 * c) 0 := by rw [hu, if_neg (by omega), if_neg (by omega), if_neg (by omega), if_neg (by omega), if_neg (by omega), if_neg (by omega)]
    have d2 : z (34 + 7 * c) = s (34 + 7 * c) := by rw [hs, if_neg (by omega), if_neg (by omega), if_neg (by omega), if_neg (by omega), if_neg (by omega), if_neg (by omega)]
    exact d1.trans ((hR _ _ _ (lk_c0 hc (by omega))).trans d2.symm)
  · have d1 : u (13 + 16 + 15 * c) 2 = v (13 + 16 + 15 * c) 2 := by rw [hu, if_neg (by omega), if_neg (by omega), if_neg (by omega), if_neg (by omega), if_neg (by omega), if_neg (by omega)]
    have d2 : z (36 + 7 * c) = s (36 + 7 * c) := by rw [hs, if_neg (by omega), if_neg (by omega), if_neg (by omega), if_neg (by omega), if_neg (by omega), if_neg (by omega)]
    exact d1.trans ((hR _ _ _ (lk_c2 hc (by omega))).trans d2.symm)
  · have d1 : u (13 + 16 + 15 * c) 3 = v (13 + 16 + 15 * c) 3 := by rw [hu, if_neg (by omega), if_neg (by omega), if_neg (by omega), if_neg (by omega), if_neg (by omega), if_neg (by omega)]
    have d2 : z (37 + 7 * c) = s (37 + 7 * c) := by rw [hs, if_neg (by omega), if_neg (by omega), if_neg (by omega), if_neg (by omega), if_neg (by omega), if_neg (by omega)]
    exact d1.trans ((hR _ _ _ (lk_c3 hc (by omega))).trans d2.symm)
  · by_cases e0 : 13 + 16 + 15 * c = 29 + 15 * X ∧ 5 = 5
    · have d1 : u (13 + 16 + 15 * c) 5 = x := by rw [hu, if_pos (by omega)]
      have d2 : z (38 + 7 * c) = x := by rw [hs, if_pos (by omega)]
      exact d1.trans d2.symm
    · skip
      have d1 : u (13 + 16 + 15 * c) 5 = v (13 + 16 + 15 * c) 5 := by rw [hu, if_neg (by omega), if_neg (by omega), if_neg (by omega), if_neg (by omega), if_neg (by omega), if_neg (by omega)]
      have d2 : z (38 + 7 * c) = s (38 + 7 * c) := by rw [hs, if_neg (by omega), if_neg (by omega), if_neg (by omega), if_neg (by omega), if_neg (by omega), if_neg (by omega)]
      exact d1.trans ((hR _ _ _ (lk_c5 hc (by omega))).trans d2.symm)
  · have d1 : u (13 + 17 + 15 * c) j = v (13 + 17 + 15 * c) j := by rw [hu, if_neg (by omega), if_neg (by omega), if_neg (by omega), if_neg (by omega), if_neg (by omega), if_neg (by omega)]
    have d2 : z (32 + 7 * c + j) = s (32 + 7 * c + j) := by rw [hs, if_neg (by omega), if_neg (by omega), if_neg (by omega), if_neg (by omega), if_neg (by omega), if_neg (by omega)]
    exact d1.trans ((hR _ _ _ (lk_q hc (by omega) hj)).trans d2.symm)
  · have a36 := A36 c hc
    have d1 : u (13 + 20 + 15 * c + i) j = v (13 + 20 + 15 * c + i) j := by rw [hu, if_neg (by omega), if_neg (by omega), if_neg (by omega), if_neg (by omega), if_neg (by omega), if_neg (by omega)]
    have d2 : z (86 + 10 * c + 2 * j + i) = s (86 + 10 * c + 2 * j + i) := by rw [hs, if_neg (by omega), if_neg (by omega), if_neg (by omega), if_neg (by omega), if_neg (by omega), if_neg (by omega)]
    exact d1.trans ((hR _ _ _ (lk_o hc (by omega) hi hj (by omega))).trans d2.symm)
  · have d1 : u (13 + 23 + 15 * c + i) j = v (13 + 23 + 15 * c + i) j := by rw [hu, if_neg (by omega), if_neg (by omega), if_neg (by omega), if_neg (by omega), if_neg (by omega), if_neg (by omega)]
    have d2 : z (308 + 48 * c + 24 * i + j) = s (308 + 48 * c + 24 * i + j) := by rw [hs, if_neg (by omega), if_neg (by omega), if_neg (by omega), if_neg (by omega), if_neg (by omega), if_neg (by omega)]
    exact d1.trans ((hR _ _ _ (lk_l hc (by omega) hi hj)).trans d2.symm)
  · have a38 := A38 c hc
    have hnc : c = X → (s (38 + 7 * c)).toInt = (T : Int) := fun q => by rw [q]; exact hn
    by_cases e0 : 13 + 26 + 15 * c + t = 39 + 15 * X + T ∧ j = 4
    · have d1 : u (13 + 26 + 15 * c + t) j = e := by rw [hu, if_neg (by omega), if_pos (by omega)]
      have d2 : z (158 + 25 * c + 5 * t + j) = e := by rw [hs, if_neg (by omega), if_pos (by omega)]
      exact d1.trans d2.symm
    · skip
      by_cases e1 : 13 + 26 + 15 * c + t = 39 + 15 * X + T ∧ j = 3
      · have d1 : u (13 + 26 + 15 * c + t) j = d := by rw [hu, if_neg (by omega), if_neg (by omega), if_pos (by omega)]
        have d2 : z (158 + 25 * c + 5 * t + j) = d := by rw [hs, if_neg (by omega), if_neg (by omega), if_pos (by omega)]
        exact d1.trans d2.symm
      · skip
        by_cases e2 : 13 + 26 + 15 * c + t = 39 + 15 * X + T ∧ j = 2
        · have d1 : u (13 + 26 + 15 * c + t) j = c0 := by rw [hu, if_neg (by omega), if_neg (by omega), if_neg (by omega), if_pos (by omega)]
          have d2 : z (158 + 25 * c + 5 * t + j) = c0 := by rw [hs, if_neg (by omega), if_neg (by omega), if_neg (by omega), if_pos (by omega)]
          exact d1.trans d2.symm
        · skip
          by_cases e3 : 13 + 26 + 15 * c + t = 39 + 15 * X + T ∧ j = 1
          · have d1 : u (13 + 26 + 15 * c + t) j = b := by rw [hu, if_neg (by omega), if_neg (by omega), if_neg (by omega), if_neg (by omega), if_pos (by omega)]
            have d2 : z (158 + 25 * c + 5 * t + j) = b := by rw [hs, if_neg (by omega), if_neg (by omega), if_neg (by omega), if_neg (by omega), if_pos (by omega)]
            exact d1.trans d2.symm
          · skip
            by_cases e4 : 13 + 26 + 15 * c + t = 39 + 15 * X + T ∧ j = 0
            · have d1 : u (13 + 26 + 15 * c + t) j = a := by rw [hu, if_neg (by omega), if_neg (by omega), if_neg (by omega), if_neg (by omega), if_neg (by omega), if_pos (by omega)]
              have d2 : z (158 + 25 * c + 5 * t + j) = a := by rw [hs, if_neg (by omega), if_neg (by omega), if_neg (by omega), if_neg (by omega), if_neg (by omega), if_pos (by omega)]
              exact d1.trans d2.symm
            · skip
              have d1 : u (13 + 26 + 15 * c + t) j = v (13 + 26 + 15 * c + t) j := by rw [hu, if_neg (by omega), if_neg (by omega), if_neg (by omega), if_neg (by omega), if_neg (by omega), if_neg (by omega)]
              have d2 : z (158 + 25 * c + 5 * t + j) = s (158 + 25 * c + 5 * t + j) := by rw [hs, if_neg (by omega), if_neg (by omega), if_neg (by omega), if_neg (by omega), if_neg (by omega), if_neg (by omega)]
              exact d1.trans ((hR _ _ _ (lk_t hc (by omega) ht (by omega) hj)).trans d2.symm)

set_option maxHeartbeats 4000000 in
theorem RL_mediator {v u : Nat → Nat → Int32} {s z : Nat → Int32} {M : Nat} {x a b d : Int32} (hM : M < 4) (hn : (s 1).toInt = (M : Int)) (hx : x.toInt = (s 1).toInt + 1) (hu : ∀ k j : Nat, u k j = if k = 13 ∧ j = 1 then x else if k = 25 + M ∧ j = 2 then d else if k = 25 + M ∧ j = 1 then b else if k = 25 + M ∧ j = 0 then a else v k j) (hs : ∀ n : Nat, z n = if n = 1 then x else if n = 28 + M then d else if n = 21 + 2 * M then b else if n = 20 + 2 * M then a else s n) (hR : RLk 13 v s) : RLk 13 u z := by
  have A0 : (z 0).toInt = (s 0).toInt := by rw [hs, if_neg (by omega), if_neg (by omega), if_neg (by omega), if_neg (by omega)]
  have A1 : (z 1).toInt = (s 1).toInt + 1 := by rw [hs, if_pos rfl]; exact hx
  have A2 : (z 2).toInt = (s 2).toInt := by rw [hs, if_neg (by omega), if_neg (by omega), if_neg (by omega), if_neg (by omega)]
  have A36 : ∀ c : Nat, c < 6 → (z (36 + 7 * c)).toInt = (s (36 + 7 * c)).toInt := fun c hc => by rw [hs, if_neg (by omega), if_neg (by omega), if_neg (by omega), if_neg (by omega)]
  have A38 : ∀ c : Nat, c < 6 → (z (38 + 7 * c)).toInt = (s (38 + 7 * c)).toInt := fun c hc => by rw [hs, if_neg (by omega), if_neg (by omega), if_neg (by omega), if_neg (by omega)]
  intro k j n h
  unfold lk at h
  rcases h with ⟨rfl, hj, rfl⟩ | ⟨p, hp, ha, hj, rfl, rfl⟩ | ⟨m, hm, ha, hj, rfl, rfl⟩ | ⟨m, hm, ha, rfl, rfl, rfl⟩ | ⟨c, hc, ha, rfl, rfl, rfl⟩ | ⟨c, hc, ha, rfl, rfl, rfl⟩ | ⟨c, hc, ha, rfl, rfl, rfl⟩ | ⟨c, hc, ha, rfl, rfl, rfl⟩ | ⟨c, hc, ha, hj, rfl, rfl⟩ | ⟨c, i, hc, ha, hi, hj, hr, rfl, rfl⟩ | ⟨c, i, hc, ha, hi, hj, rfl, rfl⟩ | ⟨c, t, hc, ha, ht, hr, hj, rfl, rfl⟩
  · by_cases e0 : 13 = 13 ∧ n = 1
    · have d1 : u (13) n = x := by rw [hu, if_pos (by omega)]
      have d2 : z (n) = x := by rw [hs, if_pos (by omega)]
      exact d1.trans d2.symm
    · skip
      have d1 : u (13) n = v (13) n := by rw [hu, if_neg (by omega), if_neg (by omega), if_neg (by omega), if_neg (by omega)]
      have d2 : z (n) = s (n) := by rw [hs, if_neg (by omega), if_neg (by omega), if_neg (by omega), if_neg (by omega)]
      exact d1.trans ((hR _ _ _ (lk_a hj)).trans d2.symm)
  · have d1 : u (13 + 4 + p) j = v (13 + 4 + p) j := by rw [hu, if_neg (by omega), if_neg (by omega), if_neg (by omega), if_neg (by omega)]
    have d2 : z (4 + 2 * p + j) = s (4 + 2 * p + j) := by rw [hs, if_neg (by omega), if_neg (by omega), if_neg (by omega), if_neg (by omega)]
    exact d1.trans ((hR _ _ _ (lk_p hp (by omega) hj)).trans d2.symm)
  · by_cases e0 : 13 + 12 + m = 25 + M ∧ j = 1
    · have d1 : u (13 + 12 + m) j = b := by rw [hu, if_neg (by omega), if_neg (by omega), if_pos (by omega)]
      have d2 : z (20 + 2 * m + j) = b := by rw [hs, if_neg (by omega), if_neg (by omega), if_pos (by omega)]
      exact d1.trans d2.symm
    · skip
      by_cases e1 : 13 + 12 + m = 25 + M ∧ j = 0
      · have d1 : u (13 + 12 + m) j = a := by rw [hu, if_neg (by omega), if_neg (by omega), if_neg (by omega), if_pos (by omega)]
        have d2 : z (20 + 2 * m + j) = a := by rw [hs, if_neg (by omega), if_neg (by omega), if_neg (by omega), if_pos (by omega)]
        exact d1.trans d2.symm
      · skip
        have d1 : u (13 + 12 + m) j = v (13 + 12 + m) j := by rw [hu, if_neg (by omega), if_neg (by omega), if_neg (by omega), if_neg (by omega)]
        have d2 : z (20 + 2 * m + j) = s (20 + 2 * m + j) := by rw [hs, if_neg (by omega), if_neg (by omega), if_neg (by omega), if_neg (by omega)]
        exact d1.trans ((hR _ _ _ (lk_m hm (by omega) hj)).trans d2.symm)
  · by_cases e0 : 13 + 12 + m = 25 + M ∧ 2 = 2
    · have d1 : u (13 + 12 + m) 2 = d := by rw [hu, if_neg (by omega), if_pos (by omega)]
      have d2 : z (28 + m) = d := by rw [hs, if_neg (by omega), if_pos (by omega)]
      exact d1.trans d2.symm
    · skip
      have d1 : u (13 + 12 + m) 2 = v (13 + 12 + m) 2 := by rw [hu, if_neg (by omega), if_neg (by omega), if_neg (by omega), if_neg (by omega)]
      have d2 : z (28 + m) = s (28 + m) := by rw [hs, if_neg (by omega), if_neg (by omega), if_neg (by omega), if_neg (by omega)]
      exact d1.trans ((hR _ _ _ (lk_k_ hm (by omega))).trans d2.symm)
  · have d1 : u (13 + 16 + 15 * c) 0 = v (13 + 16 + 15 * c) 0 := by rw [hu, if_neg (by omega), if_neg (by omega), if_neg (by omega), if_neg (by omega)]
    have d2 : z (34 + 7 * c) = s (34 + 7 * c) := by rw [hs, if_neg (by omega), if_neg (by omega), if_neg (by omega), if_neg (by omega)]
    exact d1.trans ((hR _ _ _ (lk_c0 hc (by omega))).trans d2.symm)
  · have d1 : u (13 + 16 + 15 * c) 2 = v (13 + 16 + 15 * c) 2 := by rw [hu, if_neg (by omega), if_neg (by omega), if_neg (by omega), if_neg (by omega)]
    have d2 : z (36 + 7 * c) = s (36 + 7 * c) := by rw [hs, if_neg (by omega), if_neg (by omega), if_neg (by omega), if_neg (by omega)]
    exact d1.trans ((hR _ _ _ (lk_c2 hc (by omega))).trans d2.symm)
  · have d1 : u (13 + 16 + 15 * c) 3 = v (13 + 16 + 15 * c) 3 := by rw [hu, if_neg (by omega), if_neg (by omega), if_neg (by omega), if_neg (by omega)]
    have d2 : z (37 + 7 * c) = s (37 + 7 * c) := by rw [hs, if_neg (by omega), if_neg (by omega), if_neg (by omega), if_neg (by omega)]
    exact d1.trans ((hR _ _ _ (lk_c3 hc (by omega))).trans d2.symm)
  · have d1 : u (13 + 16 + 15 * c) 5 = v (13 + 16 + 15 * c) 5 := by rw [hu, if_neg (by omega), if_neg (by omega), if_neg (by omega), if_neg (by omega)]
    have d2 : z (38 + 7 * c) = s (38 + 7 * c) := by rw [hs, if_neg (by omega), if_neg (by omega), if_neg (by omega), if_neg (by omega)]
    exact d1.trans ((hR _ _ _ (lk_c5 hc (by omega))).trans d2.symm)
  · have d1 : u (13 + 17 + 15 * c) j = v (13 + 17 + 15 * c) j := by rw [hu, if_neg (by omega), if_neg (by omega), if_neg (by omega), if_neg (by omega)]
    have d2 : z (32 + 7 * c + j) = s (32 + 7 * c + j) := by rw [hs, if_neg (by omega), if_neg (by omega), if_neg (by omega), if_neg (by omega)]
    exact d1.trans ((hR _ _ _ (lk_q hc (by omega) hj)).trans d2.symm)
  · have a36 := A36 c hc
    have d1 : u (13 + 20 + 15 * c + i) j = v (13 + 20 + 15 * c + i) j := by rw [hu, if_neg (by omega), if_neg (by omega), if_neg (by omega), if_neg (by omega)]
    have d2 : z (86 + 10 * c + 2 * j + i) = s (86 + 10 * c + 2 * j + i) := by rw [hs, if_neg (by omega), if_neg (by omega), if_neg (by omega), if_neg (by omega)]
    exact d1.trans ((hR _ _ _ (lk_o hc (by omega) hi hj (by omega))).trans d2.symm)
  · have d1 : u (13 + 23 + 15 * c + i) j = v (13 + 23 + 15 * c + i) j := by rw [hu, if_neg (by omega), if_neg (by omega), if_neg (by omega), if_neg (by omega)]
    have d2 : z (308 + 48 * c + 24 * i + j) = s (308 + 48 * c + 24 * i + j) := by rw [hs, if_neg (by omega), if_neg (by omega), if_neg (by omega), if_neg (by omega)]
    exact d1.trans ((hR _ _ _ (lk_l hc (by omega) hi hj)).trans d2.symm)
  · have a38 := A38 c hc
    have d1 : u (13 + 26 + 15 * c + t) j = v (13 + 26 + 15 * c + t) j := by rw [hu, if_neg (by omega), if_neg (by omega), if_neg (by omega), if_neg (by omega)]
    have d2 : z (158 + 25 * c + 5 * t + j) = s (158 + 25 * c + 5 * t + j) := by rw [hs, if_neg (by omega), if_neg (by omega), if_neg (by omega), if_neg (by omega)]
    exact d1.trans ((hR _ _ _ (lk_t hc (by omega) ht (by omega) hj)).trans d2.symm)

theorem bS_c {c w : Nat} (hc : c < 6) (hw : w = 36 ∨ w = 38) : bS (w + 7 * c) = some 5 := by
  unfold bS
  repeat' split
  all_goals first | rfl | (exfalso; omega)
/-- a number in the box -/
def bxr (a b : Int32) : Prop := (a.toInt = -1 ∧ b.toInt < 0) ∨ (0 ≤ b.toInt ∧ b.toInt ≤ 100 ∧ a = b)
def XC (sm b0 b1 st s5 t0 t1 : Int32) : Prop := (st.toInt = 0 ∨ st.toInt = 1 ∨ st.toInt = 2) ∧ (st.toInt = 1 → sm = s5) ∧ (st.toInt ≠ 1 → s5 = -5) ∧ (st.toInt = 0 → bxr b0 t0 ∧ bxr b1 t1)
/-- state, sum and box of the cases -/
def RX (B : Nat) (v : Nat → Nat → Int32) (s : Nat → Int32) : Prop := ∀ c : Nat, c < 6 → (c : Int) < (s 2).toInt → XC (v (B + 16 + 15 * c) 1) (v (B + 18 + 15 * c) 0) (v (B + 18 + 15 * c) 1) (s (34 + 7 * c)) (s (35 + 7 * c)) (s (74 + 2 * c)) (s (75 + 2 * c))
theorem RX.cg {B : Nat} {v u : Nat → Nat → Int32} {s z : Nat → Int32} (h : RX B v s) (e2 : (z 2).toInt = (s 2).toInt) (eu : ∀ c : Nat, c < 6 → u (B + 16 + 15 * c) 1 = v (B + 16 + 15 * c) 1 ∧ u (B + 18 + 15 * c) 0 = v (B + 18 + 15 * c) 0 ∧ u (B + 18 + 15 * c) 1 = v (B + 18 + 15 * c) 1) (es : ∀ c : Nat, c < 6 → z (34 + 7 * c) = s (34 + 7 * c) ∧ z (35 + 7 * c) = s (35 + 7 * c) ∧ z (74 + 2 * c) = s (74 + 2 * c) ∧ z (75 + 2 * c) = s (75 + 2 * c)) : RX B u z := by
  intro c hc ha
  obtain ⟨a1, a2, a3⟩ := eu c hc
  obtain ⟨b1, b2, b3, b4⟩ := es c hc
  rw [a1, a2, a3, b1, b2, b3, b4]
  exact h c hc (by omega)
/-- the bits of kin reach no further than the parties -/
def KB (p x : Int32) : Prop := 0 ≤ x.toInt ∧ x.toNatClampNeg < 2 ^ p.toNatClampNeg
def RK (s : Nat → Int32) : Prop := ∀ m : Nat, m < 4 → (m : Int) < (s 1).toInt → KB (s 0) (s (28 + m))
theorem RK.cg {s z : Nat → Int32} (h : RK s) (e0 : z 0 = s 0) (e1 : (z 1).toInt = (s 1).toInt) (ek : ∀ m : Nat, m < 4 → z (28 + m) = s (28 + m)) : RK z := by
  intro m hm ha
  rw [e0, ek m hm]
  exact h m hm (by omega)
/-- mark k joins the cases a and b -/
def mj (s : Nat → Int32) (k a b : Nat) : Prop := ((s (146 + 2 * k)).toInt = (a : Int) ∧ (s (147 + 2 * k)).toInt = (b : Int)) ∨ ((s (146 + 2 * k)).toInt = (b : Int) ∧ (s (147 + 2 * k)).toInt = (a : Int))
def GC (x : Int32) (s : Nat → Int32) (c : Nat) : Prop := (0 ≤ x.toInt ∧ x.toInt < 64) ∧ ∀ d : Nat, d < 6 → ((btx x (Int32.ofNat d)).toInt = 1 ↔ ∃ k : Nat, (k : Int) < (s 3).toInt ∧ mj s k c d)
/-- the marks -/
def RG (B : Nat) (v : Nat → Nat → Int32) (s : Nat → Int32) : Prop := (∀ c : Nat, c < 6 → (c : Int) < (s 2).toInt → GC (v (B + 16 + 15 * c) 4) s c) ∧ (∀ k : Nat, (k : Int) < (s 3).toInt → (0 ≤ (s (146 + 2 * k)).toInt ∧ (s (146 + 2 * k)).toInt < (s 2).toInt) ∧ 0 ≤ (s (147 + 2 * k)).toInt ∧ (s (147 + 2 * k)).toInt < (s 2).toInt)
theorem RG.cg {B : Nat} {v u : Nat → Nat → Int32} {s z : Nat → Int32} (h : RG B v s) (h3 : (s 3).toInt ≤ 6) (e2 : (z 2).toInt = (s 2).toInt) (e3 : (z 3).toInt = (s 3).toInt) (em : ∀ n : Nat, 146 ≤ n → n < 158 → z n = s n) (eu : ∀ c : Nat, c < 6 → u (B + 16 + 15 * c) 4 = v (B + 16 + 15 * c) 4) : RG B u z := by
  have key : ∀ k a b : Nat, (k : Int) < (s 3).toInt → (mj z k a b ↔ mj s k a b) := fun k a b hk => by
    unfold mj
    rw [em (146 + 2 * k) (by omega) (by omega), em (147 + 2 * k) (by omega) (by omega)]
  refine ⟨fun c hc ha => ?_, fun k hk => ?_⟩
  · rw [eu c hc]
    obtain ⟨g1, g2⟩ := h.1 c hc (by omega)
    refine ⟨g1, fun d hd => (g2 d hd).trans ⟨fun ⟨k, q1, q2⟩ => ⟨k, by omega, (key k c d q1).mpr q2⟩, fun ⟨k, q1, q2⟩ => ⟨k, by omega, (key k c d (by omega)).mp q2⟩⟩⟩
  · rw [em (146 + 2 * k) (by omega) (by omega), em (147 + 2 * k) (by omega) (by omega), e2]
    exact h.2 k (by omega)
def RQ (B : Nat) (v : Nat → Nat → Int32) (s : Nat → Int32) : Prop := RLk B v s ∧ RX B v s ∧ RK s ∧ RG B v s
/-- class and reference are alike; n: whether something is kept -/
def RR (n : Int32) (v v2 : Nat → Nat → Int32) : Prop := RQ 13 v (v2 1) ∧ v 0 4 = v2 0 3 ∧ v2 0 2 = n ∧ (n = 1 → RQ 119 v (v2 2))
theorem lk_k {B : Nat} {s : Nat → Int32} {k j n : Nat} (h : lk B s k j n) : (B ≤ k ∧ k < B + 106) ∧ n < 596 := by
  unfold lk at h
  rcases h with ⟨rfl, hj, rfl⟩ | ⟨p, hp, ha, hj, rfl, rfl⟩ | ⟨m, hm, ha, hj, rfl, rfl⟩ | ⟨m, hm, ha, rfl, rfl, rfl⟩ | ⟨c, hc, ha, rfl, rfl, rfl⟩ | ⟨c, hc, ha, rfl, rfl, rfl⟩ | ⟨c, hc, ha, rfl, rfl, rfl⟩ | ⟨c, hc, ha, rfl, rfl, rfl⟩ | ⟨c, hc, ha, hj, rfl, rfl⟩ | ⟨c, i, hc, ha, hi, hj, hr, rfl, rfl⟩ | ⟨c, i, hc, ha, hi, hj, rfl, rfl⟩ | ⟨c, t, hc, ha, ht, hr, hj, rfl, rfl⟩
  all_goals omega
theorem RLk.cgv {B : Nat} {v u : Nat → Nat → Int32} {s : Nat → Int32} (e : ∀ k : Nat, B ≤ k → k < B + 106 → u k = v k) (h : RLk B v s) : RLk B u s := fun k j n hl => by
  have q := lk_k hl
  rw [e k q.1.1 q.1.2]
  exact h k j n hl
theorem RQ.cgv {B : Nat} {v u : Nat → Nat → Int32} {s : Nat → Int32} (e : ∀ k : Nat, B ≤ k → k < B + 106 → u k = v k) (h : RQ B v s) : RQ B u s := by
  obtain ⟨h1, h2, h3, h4⟩ := h
  refine ⟨h1.cgv e, fun c hc ha => ?_, h3, fun c hc ha => ?_, h4.2⟩
  · rw [e (B + 16 + 15 * c) (by omega) (by omega), e (B + 18 + 15 * c) (by omega) (by omega)]
    exact h2 c hc ha
  · rw [e (B + 16 + 15 * c) (by omega) (by omega)]
    exact h4.1 c hc ha
section RRS
variable {n : Int32} {v v2 u u2 : Nat → Nat → Int32}
/-- readers -/
theorem RR.mv (h : RR n v v2) (f : Fz v u) (g : Fq v2 u2) : RR n u u2 := by
  obtain ⟨h1, h2, h3, h4⟩ := h
  obtain ⟨g1, g2, g3, g4⟩ := g
  refine ⟨by rw [g1]; exact h1.cgv (fun k hk _ => f.2 k hk), by rw [f.1, g4]; exact h2, by rw [g3]; exact h3, fun q => by rw [g2]; exact (h4 q).cgv (fun k hk _ => f.2 k (by omega))⟩
theorem Fq_e (h : u2 = v2) : Fq v2 u2 := by
  rw [h]
  exact Fq.rf
/-- writers of s alone -/
theorem RR.wr (h : RR n v v2) (ho : ∀ k : Nat, k ≠ 1 → u2 k = v2 k) (h0 : u 0 = v 0) (hk : ∀ k : Nat, 119 ≤ k → u k = v k) (hq : RQ 13 u (u2 1)) : RR n u u2 := by
  obtain ⟨-, h2, h3, h4⟩ := h
  rw [RR, ho 0 (by decide), ho 2 (by decide), h0]
  exact ⟨hq, h2, h3, fun q => (h4 q).cgv (fun k hk2 _ => hk k hk2)⟩
end RRS

set_option maxHeartbeats 4000000 in
theorem T_weight {n r r2 x0 x1 : Int32} {v u v2 u2 : Nat → Nat → Int32} (hI : Iv v) (hQ : Ir v2) (h : RR n v v2) (p : (¬ ((0 ≤ x0.toInt ∧ x0.toInt < (v 13 2).toInt) ∧ 1 ≤ x1.toInt ∧ x1.toInt ≤ 9) → r = -1 ∧ u = v) ∧ ((0 ≤ x0.toInt ∧ x0.toInt < (v 13 2).toInt) ∧ 1 ≤ x1.toInt ∧ x1.toInt ≤ 9 → r = v (29 + 15 * x0.toNatClampNeg) 3 ∧ (∀ k j : Nat, u k j = if k = 29 + 15 * x0.toNatClampNeg ∧ j = 3 then x1 else v k j))) (q : (¬ ((0 ≤ x0.toInt ∧ x0.toInt < (v2 1 2).toInt) ∧ 1 ≤ x1.toInt ∧ x1.toInt ≤ 9) → r2 = -1 ∧ u2 = v2) ∧ ((0 ≤ x0.toInt ∧ x0.toInt < (v2 1 2).toInt) ∧ 1 ≤ x1.toInt ∧ x1.toInt ≤ 9 → r2 = v2 1 (37 + 7 * x0.toNatClampNeg) ∧ (∀ n : Nat, u2 1 n = if n = 37 + 7 * x0.toNatClampNeg then x1 else v2 1 n) ∧ (∀ k : Nat, k ≠ 1 → u2 k = v2 k))) : r = r2 ∧ RR n u u2 := by
  have e0 : v 13 0 = v2 1 0 := h.1.1 _ _ _ (lk_a (by decide))
  have e1 : v 13 1 = v2 1 1 := h.1.1 _ _ _ (lk_a (by decide))
  have e2 : v 13 2 = v2 1 2 := h.1.1 _ _ _ (lk_a (by decide))
  have e3 : v 13 3 = v2 1 3 := h.1.1 _ _ _ (lk_a (by decide))
  have hb0 := hQ 1 0 8 (by decide)
  have hb1 := hQ 1 1 4 (by decide)
  have hb2 := hQ 1 2 6 (by decide)
  have hb3 := hQ 1 3 6 (by decide)
  rw [e2] at p
  by_cases hC : (0 ≤ x0.toInt ∧ x0.toInt < (v2 1 2).toInt) ∧ 1 ≤ x1.toInt ∧ x1.toInt ≤ 9
  · obtain ⟨p1, p2⟩ := p.2 hC
    obtain ⟨q1, q2, q3⟩ := q.2 hC
    have zX := t_nn (x := x0) (by omega)
    have hX : x0.toNatClampNeg < 6 := by omega
    have ha : (x0.toNatClampNeg : Int) < (v2 1 2).toInt := by omega
    refine ⟨?_, h.wr q3 (funext fun j => by rw [p2, if_neg (by omega)]) (fun k hk => funext fun j => by rw [p2, if_neg (by omega)]) ⟨RL_weight hX p2 q2 h.1.1, h.1.2.1.cg (by rw [q2, if_neg (by omega)]) (fun c hc => ⟨by rw [p2, if_neg (by omega)], by rw [p2, if_neg (by omega)], by rw [p2, if_neg (by omega)]⟩) (fun c hc => ⟨by rw [q2, if_neg (by omega)], by rw [q2, if_neg (by omega)], by rw [q2, if_neg (by omega)], by rw [q2, if_neg (by omega)]⟩), h.1.2.2.1.cg (by rw [q2, if_neg (by omega)]) (by rw [q2, if_neg (by omega)]) (fun m hm => by rw [q2, if_neg (by omega)]), h.1.2.2.2.cg hb3.2 (by rw [q2, if_neg (by omega)]) (by rw [q2, if_neg (by omega)]) (fun n h1 h2 => by rw [q2, if_neg (by omega)]) (fun c hc => by rw [p2, if_neg (by omega)])⟩⟩
    rw [p1, q1]
    exact h.1.1 _ _ _ (lk_c3 hX ha)
  · obtain ⟨p1, p2⟩ := p.1 hC
    obtain ⟨q1, q2⟩ := q.1 hC
    rw [p1, q1, p2, q2]
    exact ⟨rfl, h⟩

set_option maxHeartbeats 4000000 in
theorem T_log {n r r2 x0 x1 x2 x3 : Int32} {v u v2 u2 : Nat → Nat → Int32} (hI : Iv v) (hQ : Ir v2) (h : RR n v v2) (p : (¬ ((0 ≤ x0.toInt ∧ x0.toInt < (v 13 2).toInt) ∧ (0 ≤ x1.toInt ∧ x1.toInt ≤ 1) ∧ (0 ≤ x2.toInt ∧ x2.toInt ≤ 23) ∧ 0 ≤ x3.toInt ∧ x3.toInt ≤ 7) → r = -1 ∧ u = v) ∧ ((0 ≤ x0.toInt ∧ x0.toInt < (v 13 2).toInt) ∧ (0 ≤ x1.toInt ∧ x1.toInt ≤ 1) ∧ (0 ≤ x2.toInt ∧ x2.toInt ≤ 23) ∧ 0 ≤ x3.toInt ∧ x3.toInt ≤ 7 → r = v (36 + 15 * x0.toNatClampNeg + x1.toNatClampNeg) x2.toNatClampNeg ∧ (∀ k j : Nat, u k j = if k = 36 + 15 * x0.toNatClampNeg + x1.toNatClampNeg ∧ j = x2.toNatClampNeg then x3 else v k j))) (q : (¬ ((0 ≤ x0.toInt ∧ x0.toInt < (v2 1 2).toInt) ∧ (0 ≤ x1.toInt ∧ x1.toInt ≤ 1) ∧ (0 ≤ x2.toInt ∧ x2.toInt ≤ 23) ∧ 0 ≤ x3.toInt ∧ x3.toInt ≤ 7) → r2 = -1 ∧ u2 = v2) ∧ ((0 ≤ x0.toInt ∧ x0.toInt < (v2 1 2).toInt) ∧ (0 ≤ x1.toInt ∧ x1.toInt ≤ 1) ∧ (0 ≤ x2.toInt ∧ x2.toInt ≤ 23) ∧ 0 ≤ x3.toInt ∧ x3.toInt ≤ 7 → r2 = v2 1 (308 + 48 * x0.toNatClampNeg + 24 * x1.toNatClampNeg + x2.toNatClampNeg) ∧ (∀ n : Nat, u2 1 n = if n = 308 + 48 * x0.toNatClampNeg + 24 * x1.toNatClampNeg + x2.toNatClampNeg then x3 else v2 1 n) ∧ (∀ k : Nat, k ≠ 1 → u2 k = v2 k))) : r = r2 ∧ RR n u u2 := by
  have e0 : v 13 0 = v2 1 0 := h.1.1 _ _ _ (lk_a (by decide))
  have e1 : v 13 1 = v2 1 1 := h.1.1 _ _ _ (lk_a (by decide))
  have e2 : v 13 2 = v2 1 2 := h.1.1 _ _ _ (lk_a (by decide))
  have e3 : v 13 3 = v2 1 3 := h.1.1 _ _ _ (lk_a (by decide))
  have hb0 := hQ 1 0 8 (by decide)
  have hb1 := hQ 1 1 4 (by decide)
  have hb2 := hQ 1 2 6 (by decide)
  have hb3 := hQ 1 3 6 (by decide)
  rw [e2] at p
  by_cases hC : (0 ≤ x0.toInt ∧ x0.toInt < (v2 1 2).toInt) ∧ (0 ≤ x1.toInt ∧ x1.toInt ≤ 1) ∧ (0 ≤ x2.toInt ∧ x2.toInt ≤ 23) ∧ 0 ≤ x3.toInt ∧ x3.toInt ≤ 7
  · obtain ⟨p1, p2⟩ := p.2 hC
    obtain ⟨q1, q2, q3⟩ := q.2 hC
    have zX := t_nn (x := x0) (by omega)
    have hX : x0.toNatClampNeg < 6 := by omega
    have ha : (x0.toNatClampNeg : Int) < (v2 1 2).toInt := by omega
    have zS := t_nn (x := x1) (by omega)
    have hS : x1.toNatClampNeg < 2 := by omega
    have zH := t_nn (x := x2) (by omega)
    have hH : x2.toNatClampNeg < 24 := by omega
    refine ⟨?_, h.wr q3 (funext fun j => by rw [p2, if_neg (by omega)]) (fun k hk => funext fun j => by rw [p2, if_neg (by omega)]) ⟨RL_log hX hS hH p2 q2 h.1.1, h.1.2.1.cg (by rw [q2, if_neg (by omega)]) (fun c hc => ⟨by rw [p2, if_neg (by omega)], by rw [p2, if_neg (by omega)], by rw [p2, if_neg (by omega)]⟩) (fun c hc => ⟨by rw [q2, if_neg (by omega)], by rw [q2, if_neg (by omega)], by rw [q2, if_neg (by omega)], by rw [q2, if_neg (by omega)]⟩), h.1.2.2.1.cg (by rw [q2, if_neg (by omega)]) (by rw [q2, if_neg (by omega)]) (fun m hm => by rw [q2, if_neg (by omega)]), h.1.2.2.2.cg hb3.2 (by rw [q2, if_neg (by omega)]) (by rw [q2, if_neg (by omega)]) (fun n h1 h2 => by rw [q2, if_neg (by omega)]) (fun c hc => by rw [p2, if_neg (by omega)])⟩⟩
    rw [p1, q1]
    exact h.1.1 _ _ _ (lk_l hX ha hS hH)
  · obtain ⟨p1, p2⟩ := p.1 hC
    obtain ⟨q1, q2⟩ := q.1 hC
    rw [p1, q1, p2, q2]
    exact ⟨rfl, h⟩

set_option maxHeartbeats 4000000 in
theorem T_strike {n r r2 x0 : Int32} {v u v2 u2 : Nat → Nat → Int32} (hI : Iv v) (hQ : Ir v2) (h : RR n v v2) (p : (¬ (0 ≤ x0.toInt ∧ x0.toInt < (v 13 2).toInt) → r = -1 ∧ u = v) ∧ ((0 ≤ x0.toInt ∧ x0.toInt < (v 13 2).toInt) ∧ (v (29 + 15 * x0.toNatClampNeg) 5).toInt = 0 → r = -5 ∧ u = v) ∧ ((0 ≤ x0.toInt ∧ x0.toInt < (v 13 2).toInt) ∧ (v (29 + 15 * x0.toNatClampNeg) 5).toInt ≠ 0 → r = v (29 + 15 * x0.toNatClampNeg) 5 - 1 ∧ (∀ k j : Nat, u k j = if k = 29 + 15 * x0.toNatClampNeg ∧ j = 5 then v (29 + 15 * x0.toNatClampNeg) 5 - 1 else v k j))) (q : (¬ (0 ≤ x0.toInt ∧ x0.toInt < (v2 1 2).toInt) → r2 = -1 ∧ u2 = v2) ∧ ((0 ≤ x0.toInt ∧ x0.toInt < (v2 1 2).toInt) ∧ (v2 1 (38 + 7 * x0.toNatClampNeg)).toInt = 0 → r2 = -5 ∧ u2 = v2) ∧ ((0 ≤ x0.toInt ∧ x0.toInt < (v2 1 2).toInt) ∧ (v2 1 (38 + 7 * x0.toNatClampNeg)).toInt ≠ 0 → r2 = v2 1 (38 + 7 * x0.toNatClampNeg) - 1 ∧ (∀ n : Nat, u2 1 n = if n = 38 + 7 * x0.toNatClampNeg then v2 1 (38 + 7 * x0.toNatClampNeg) - 1 else v2 1 n) ∧ (∀ k : Nat, k ≠ 1 → u2 k = v2 k))) : r = r2 ∧ RR n u u2 := by
  have e0 : v 13 0 = v2 1 0 := h.1.1 _ _ _ (lk_a (by decide))
  have e1 : v 13 1 = v2 1 1 := h.1.1 _ _ _ (lk_a (by decide))
  have e2 : v 13 2 = v2 1 2 := h.1.1 _ _ _ (lk_a (by decide))
  have e3 : v 13 3 = v2 1 3 := h.1.1 _ _ _ (lk_a (by decide))
  have hb0 := hQ 1 0 8 (by decide)
  have hb1 := hQ 1 1 4 (by decide)
  have hb2 := hQ 1 2 6 (by decide)
  have hb3 := hQ 1 3 6 (by decide)
  rw [e2] at p
  by_cases hC : (0 ≤ x0.toInt ∧ x0.toInt < (v2 1 2).toInt)
  · have zX := t_nn (x := x0) (by omega)
    have hX : x0.toNatClampNeg < 6 := by omega
    have ha : (x0.toNatClampNeg : Int) < (v2 1 2).toInt := by omega
    have ev : v (29 + 15 * x0.toNatClampNeg) 5 = v2 1 (38 + 7 * x0.toNatClampNeg) := h.1.1 _ _ _ (lk_c5 hX ha)
    rw [ev] at p
    by_cases hD : (v2 1 (38 + 7 * x0.toNatClampNeg)).toInt = 0
    · obtain ⟨p1, p2⟩ := p.2.1 ⟨hC, hD⟩
      obtain ⟨q1, q2⟩ := q.2.1 ⟨hC, hD⟩
      rw [p1, q1, p2, q2]
      exact ⟨rfl, h⟩
    · have hE : ¬ (v2 1 (38 + 7 * x0.toNatClampNeg)).toInt = 0 := hD
      obtain ⟨p1, p2⟩ := p.2.2 ⟨hC, hD⟩
      obtain ⟨q1, q2, q3⟩ := q.2.2 ⟨hC, hD⟩
      have hb := hQ 1 (38 + 7 * x0.toNatClampNeg) 5 (bS_c (by omega) (by omega))
      have k1 : (1 : Int32).toInt = 1 := by decide
      have hx : (v2 1 (38 + 7 * x0.toNatClampNeg) - 1).toInt = (v2 1 (38 + 7 * x0.toNatClampNeg)).toInt - 1 := by rw [t_sub (by rw [k1]; omega), k1]
      exact ⟨by rw [p1, q1], h.wr q3 (funext fun j => by rw [p2, if_neg (by omega)]) (fun k hk => funext fun j => by rw [p2, if_neg (by omega)]) ⟨RL_strike hX hx p2 q2 h.1.1, h.1.2.1.cg (by rw [q2, if_neg (by omega)]) (fun c hc => ⟨by rw [p2, if_neg (by omega)], by rw [p2, if_neg (by omega)], by rw [p2, if_neg (by omega)]⟩) (fun c hc => ⟨by rw [q2, if_neg (by omega)], by rw [q2, if_neg (by omega)], by rw [q2, if_neg (by omega)], by rw [q2, if_neg (by omega)]⟩), h.1.2.2.1.cg (by rw [q2, if_neg (by omega)]) (by rw [q2, if_neg (by omega)]) (fun m hm => by rw [q2, if_neg (by omega)]), h.1.2.2.2.cg hb3.2 (by rw [q2, if_neg (by omega)]) (by rw [q2, if_neg (by omega)]) (fun n h1 h2 => by rw [q2, if_neg (by omega)]) (fun c hc => by rw [p2, if_neg (by omega)])⟩⟩
  · obtain ⟨p1, p2⟩ := p.1 hC
    obtain ⟨q1, q2⟩ := q.1 hC
    rw [p1, q1, p2, q2]
    exact ⟨rfl, h⟩

theorem RX_close {v u : Nat → Nat → Int32} {s z : Nat → Int32} {X : Nat} (hX : X < 6) (ha : (X : Int) < (s 2).toInt) (h0 : (s (34 + 7 * X)).toInt = 0) (hu : ∀ k j : Nat, u k j = if k = 29 + 15 * X ∧ j = 0 then 2 else v k j) (hs : ∀ n : Nat, z n = if n = 34 + 7 * X then 2 else s n) (h : RX 13 v s) : RX 13 u z := by
  intro c hc hac
  have a2 : z 2 = s 2 := by rw [hs, if_neg (by omega)]
  have hh := h c hc (by rw [a2] at hac; exact hac)
  have d1 : u (13 + 16 + 15 * c) 1 = v (13 + 16 + 15 * c) 1 := by rw [hu, if_neg (by omega)]
  have d2 : u (13 + 18 + 15 * c) 0 = v (13 + 18 + 15 * c) 0 := by rw [hu, if_neg (by omega)]
  have d3 : u (13 + 18 + 15 * c) 1 = v (13 + 18 + 15 * c) 1 := by rw [hu, if_neg (by omega)]
  have d4 : z (35 + 7 * c) = s (35 + 7 * c) := by rw [hs, if_neg (by omega)]
  have d5 : z (74 + 2 * c) = s (74 + 2 * c) := by rw [hs, if_neg (by omega)]
  have d6 : z (75 + 2 * c) = s (75 + 2 * c) := by rw [hs, if_neg (by omega)]
  rw [d1, d2, d3, d4, d5, d6]
  by_cases hq : c = X
  · subst hq
    have d7 : z (34 + 7 * c) = 2 := by rw [hs, if_pos rfl]
    have k2 : (2 : Int32).toInt = 2 := by decide
    rw [d7]
    obtain ⟨-, -, g3, -⟩ := hh
    exact ⟨by omega, fun q => absurd q (by omega), fun _ => g3 (by omega), fun q => absurd q (by omega)⟩
  · have d7 : z (34 + 7 * c) = s (34 + 7 * c) := by rw [hs, if_neg (by omega)]
    rw [d7]
    exact hh

set_option maxHeartbeats 4000000 in
theorem T_close {n r r2 x0 : Int32} {v u v2 u2 : Nat → Nat → Int32} (hI : Iv v) (hQ : Ir v2) (h : RR n v v2) (p : (¬ (0 ≤ x0.toInt ∧ x0.toInt < (v 13 2).toInt) → r = -1 ∧ u = v) ∧ ((0 ≤ x0.toInt ∧ x0.toInt < (v 13 2).toInt) ∧ (v (29 + 15 * x0.toNatClampNeg) 0).toInt ≠ 0 → r = -4 ∧ u = v) ∧ ((0 ≤ x0.toInt ∧ x0.toInt < (v 13 2).toInt) ∧ (v (29 + 15 * x0.toNatClampNeg) 0).toInt = 0 → r = 1 ∧ (∀ k j : Nat, u k j = if k = 29 + 15 * x0.toNatClampNeg ∧ j = 0 then 2 else v k j))) (q : (¬ (0 ≤ x0.toInt ∧ x0.toInt < (v2 1 2).toInt) → r2 = -1 ∧ u2 = v2) ∧ ((0 ≤ x0.toInt ∧ x0.toInt < (v2 1 2).toInt) ∧ (v2 1 (34 + 7 * x0.toNatClampNeg)).toInt ≠ 0 → r2 = -4 ∧ u2 = v2) ∧ ((0 ≤ x0.toInt ∧ x0.toInt < (v2 1 2).toInt) ∧ (v2 1 (34 + 7 * x0.toNatClampNeg)).toInt = 0 → r2 = 1 ∧ (∀ n : Nat, u2 1 n = if n = 34 + 7 * x0.toNatClampNeg then 2 else v2 1 n) ∧ (∀ k : Nat, k ≠ 1 → u2 k = v2 k))) : r = r2 ∧ RR n u u2 := by
  have e0 : v 13 0 = v2 1 0 := h.1.1 _ _ _ (lk_a (by decide))
  have e1 : v 13 1 = v2 1 1 := h.1.1 _ _ _ (lk_a (by decide))
  have e2 : v 13 2 = v2 1 2 := h.1.1 _ _ _ (lk_a (by decide))
  have e3 : v 13 3 = v2 1 3 := h.1.1 _ _ _ (lk_a (by decide))
  have hb0 := hQ 1 0 8 (by decide)
  have hb1 := hQ 1 1 4 (by decide)
  have hb2 := hQ 1 2 6 (by decide)
  have hb3 := hQ 1 3 6 (by decide)
  rw [e2] at p
  by_cases hC : (0 ≤ x0.toInt ∧ x0.toInt < (v2 1 2).toInt)
  · have zX := t_nn (x := x0) (by omega)
    have hX : x0.toNatClampNeg < 6 := by omega
    have ha : (x0.toNatClampNeg : Int) < (v2 1 2).toInt := by omega
    have ev : v (29 + 15 * x0.toNatClampNeg) 0 = v2 1 (34 + 7 * x0.toNatClampNeg) := h.1.1 _ _ _ (lk_c0 hX ha)
    rw [ev] at p
    by_cases hD : (v2 1 (34 + 7 * x0.toNatClampNeg)).toInt ≠ 0
    · obtain ⟨p1, p2⟩ := p.2.1 ⟨hC, hD⟩
      obtain ⟨q1, q2⟩ := q.2.1 ⟨hC, hD⟩
      rw [p1, q1, p2, q2]
      exact ⟨rfl, h⟩
    · have hE : (v2 1 (34 + 7 * x0.toNatClampNeg)).toInt = 0 := by omega
      obtain ⟨p1, p2⟩ := p.2.2 ⟨hC, hE⟩
      obtain ⟨q1, q2, q3⟩ := q.2.2 ⟨hC, hE⟩
      exact ⟨by rw [p1, q1], h.wr q3 (funext fun j => by rw [p2, if_neg (by omega)]) (fun k hk => funext fun j => by rw [p2, if_neg (by omega)]) ⟨RL_close hX p2 q2 h.1.1, RX_close hX ha hE p2 q2 h.1.2.1, h.1.2.2.1.cg (by rw [q2, if_neg (by omega)]) (by rw [q2, if_neg (by omega)]) (fun m hm => by rw [q2, if_neg (by omega)]), h.1.2.2.2.cg hb3.2 (by rw [q2, if_neg (by omega)]) (by rw [q2, if_neg (by omega)]) (fun n h1 h2 => by rw [q2, if_neg (by omega)]) (fun c hc => by rw [p2, if_neg (by omega)])⟩⟩
  · obtain ⟨p1, p2⟩ := p.1 hC
    obtain ⟨q1, q2⟩ := q.1 hC
    rw [p1, q1, p2, q2]
    exact ⟨rfl, h⟩

theorem ofn {x : Int32} (h : 0 ≤ x.toInt) : x = Int32.ofNat x.toNatClampNeg := by
  have q := t_nn h
  have l := Int32.toInt_lt x
  refine Int32.toInt_inj.mp ?_
  rw [Int32.toInt_ofNat_of_lt (by omega)]
  exact q.symm
/-- bits, by going through them all -/
theorem kb_1 : ∀ x : Fin 256, ∀ p : Fin 8, ((btx (Int32.ofNat x.val) (Int32.ofNat p.val)).toInt = 1 ∧ Int32.ofNat x.val ^^^ (1 <<< (Int32.ofNat p.val &&& 31)) = Int32.ofNat x.val &&& ((1 <<< (Int32.ofNat p.val &&& 31)) ^^^ -1) ∧ Int32.ofNat x.val ||| (1 <<< (Int32.ofNat p.val &&& 31)) = Int32.ofNat x.val) ∨ ((btx (Int32.ofNat x.val) (Int32.ofNat p.val)).toInt ≠ 1 ∧ Int32.ofNat x.val ^^^ (1 <<< (Int32.ofNat p.val &&& 31)) = Int32.ofNat x.val ||| (1 <<< (Int32.ofNat p.val &&& 31)) ∧ Int32.ofNat x.val &&& ((1 <<< (Int32.ofNat p.val &&& 31)) ^^^ -1) = Int32.ofNat x.val) := by decide +kernel
theorem kb_3 : ∀ p : Fin 8, ∀ x : Fin 256, x.val < 2 ^ p.val → Int32.ofNat x.val &&& ((1 <<< (Int32.ofNat p.val &&& 31)) ^^^ -1) = Int32.ofNat x.val := by decide +kernel
theorem kb_2 : ∀ n : Fin 9, ∀ p : Fin 8, p.val < n.val → ∀ x : Fin 256, x.val < 2 ^ n.val → 0 ≤ (Int32.ofNat x.val ^^^ (1 <<< (Int32.ofNat p.val &&& 31))).toInt ∧ (Int32.ofNat x.val ^^^ (1 <<< (Int32.ofNat p.val &&& 31))).toNatClampNeg < 2 ^ n.val := by decide +kernel
theorem kb_w {n : Nat} (h : n ≤ 8) : 2 ^ n ≤ 256 := by
  rcases (show n = 0 ∨ n = 1 ∨ n = 2 ∨ n = 3 ∨ n = 4 ∨ n = 5 ∨ n = 6 ∨ n = 7 ∨ n = 8 by omega) with rfl | rfl | rfl | rfl | rfl | rfl | rfl | rfl | rfl <;> decide
/-- a number that KB bounds, and a bit -/
theorem kb_bit {c x y : Int32} (hc : 0 ≤ c.toInt ∧ c.toInt ≤ 8) (hx : KB c x) (hy : 0 ≤ y.toInt ∧ y.toInt < c.toInt) : (((btx x y).toInt = 1 ∧ x ^^^ (1 <<< (y &&& 31)) = x &&& ((1 <<< (y &&& 31)) ^^^ -1) ∧ x ||| (1 <<< (y &&& 31)) = x) ∨ ((btx x y).toInt ≠ 1 ∧ x ^^^ (1 <<< (y &&& 31)) = x ||| (1 <<< (y &&& 31)) ∧ x &&& ((1 <<< (y &&& 31)) ^^^ -1) = x)) ∧ KB c (x ^^^ (1 <<< (y &&& 31))) := by
  obtain ⟨h1, h2⟩ := hx
  have zc := t_nn hc.1
  have zy := t_nn hy.1
  have w := kb_w (n := c.toNatClampNeg) (by omega)
  have ex := ofn h1
  have ey := ofn hy.1
  have k1 : ((btx (Int32.ofNat x.toNatClampNeg) (Int32.ofNat y.toNatClampNeg)).toInt = 1 ∧ Int32.ofNat x.toNatClampNeg ^^^ (1 <<< (Int32.ofNat y.toNatClampNeg &&& 31)) = Int32.ofNat x.toNatClampNeg &&& ((1 <<< (Int32.ofNat y.toNatClampNeg &&& 31)) ^^^ -1) ∧ Int32.ofNat x.toNatClampNeg ||| (1 <<< (Int32.ofNat y.toNatClampNeg &&& 31)) = Int32.ofNat x.toNatClampNeg) ∨ ((btx (Int32.ofNat x.toNatClampNeg) (Int32.ofNat y.toNatClampNeg)).toInt ≠ 1 ∧ Int32.ofNat x.toNatClampNeg ^^^ (1 <<< (Int32.ofNat y.toNatClampNeg &&& 31)) = Int32.ofNat x.toNatClampNeg ||| (1 <<< (Int32.ofNat y.toNatClampNeg &&& 31)) ∧ Int32.ofNat x.toNatClampNeg &&& ((1 <<< (Int32.ofNat y.toNatClampNeg &&& 31)) ^^^ -1) = Int32.ofNat x.toNatClampNeg) := kb_1 ⟨x.toNatClampNeg, by omega⟩ ⟨y.toNatClampNeg, by omega⟩
  have k2 : 0 ≤ (Int32.ofNat x.toNatClampNeg ^^^ (1 <<< (Int32.ofNat y.toNatClampNeg &&& 31))).toInt ∧ (Int32.ofNat x.toNatClampNeg ^^^ (1 <<< (Int32.ofNat y.toNatClampNeg &&& 31))).toNatClampNeg < 2 ^ c.toNatClampNeg := kb_2 ⟨c.toNatClampNeg, by omega⟩ ⟨y.toNatClampNeg, by omega⟩ (by show y.toNatClampNeg < c.toNatClampNeg; omega) ⟨x.toNatClampNeg, by omega⟩ h2
  rw [← ex, ← ey] at k1 k2
  exact ⟨k1, k2⟩
theorem kb_new {c x : Int32} (hc : 0 ≤ c.toInt ∧ c.toInt ≤ 7) (hx : KB c x) : x &&& ((1 <<< (c &&& 31)) ^^^ -1) = x := by
  obtain ⟨h1, h2⟩ := hx
  have zc := t_nn hc.1
  have w := kb_w (n := c.toNatClampNeg) (by omega)
  have ex := ofn h1
  have ey := ofn hc.1
  have k3 : Int32.ofNat x.toNatClampNeg &&& ((1 <<< (Int32.ofNat c.toNatClampNeg &&& 31)) ^^^ -1) = Int32.ofNat x.toNatClampNeg := kb_3 ⟨c.toNatClampNeg, by omega⟩ ⟨x.toNatClampNeg, by omega⟩ h2
  rw [← ex, ← ey] at k3
  exact k3
theorem KB_up {c d x : Int32} (hc : 0 ≤ c.toInt) (hd : d.toInt = c.toInt + 1) (hx : KB c x) : KB d x := by
  have zc := t_nn hc
  have zd := t_nn (x := d) (by omega)
  refine ⟨hx.1, Nat.lt_of_lt_of_le hx.2 (Nat.pow_le_pow_right (by decide) (by omega))⟩
theorem KB_0 {c : Int32} : KB c 0 := ⟨by decide, Nat.two_pow_pos _⟩

set_option maxHeartbeats 4000000 in
theorem T_kin_0 {n r r2 x0 x1 : Int32} {v u v2 u2 : Nat → Nat → Int32} (hI : Iv v) (hQ : Ir v2) (h : RR n v v2) (p : (¬ ((0 ≤ x0.toInt ∧ x0.toInt < (v 13 1).toInt) ∧ 0 ≤ x1.toInt ∧ x1.toInt < (v 13 0).toInt) → r = -1 ∧ u = v) ∧ (((0 ≤ x0.toInt ∧ x0.toInt < (v 13 1).toInt) ∧ 0 ≤ x1.toInt ∧ x1.toInt < (v 13 0).toInt) ∧ (btx (v (25 + x0.toNatClampNeg) 2) x1).toInt = 1 → r = 1 ∧ (∀ k j : Nat, u k j = if k = 25 + x0.toNatClampNeg ∧ j = 2 then v (25 + x0.toNatClampNeg) 2 ^^^ (1 <<< (x1 &&& 31)) else v k j)) ∧ (((0 ≤ x0.toInt ∧ x0.toInt < (v 13 1).toInt) ∧ 0 ≤ x1.toInt ∧ x1.toInt < (v 13 0).toInt) ∧ (btx (v (25 + x0.toNatClampNeg) 2) x1).toInt ≠ 1 → r = 0 ∧ u = v)) (q : (¬ ((0 ≤ x0.toInt ∧ x0.toInt < (v2 1 1).toInt) ∧ 0 ≤ x1.toInt ∧ x1.toInt < (v2 1 0).toInt) → r2 = -1 ∧ u2 = v2) ∧ (((0 ≤ x0.toInt ∧ x0.toInt < (v2 1 1).toInt) ∧ 0 ≤ x1.toInt ∧ x1.toInt < (v2 1 0).toInt) ∧ (btx (v2 1 (28 + x0.toNatClampNeg)) x1).toInt = 1 → r2 = 1 ∧ (∀ n : Nat, u2 1 n = if n = 28 + x0.toNatClampNeg then v2 1 (28 + x0.toNatClampNeg) &&& ((1 <<< (x1 &&& 31)) ^^^ -1) else v2 1 n) ∧ (∀ k : Nat, k ≠ 1 → u2 k = v2 k)) ∧ (((0 ≤ x0.toInt ∧ x0.toInt < (v2 1 1).toInt) ∧ 0 ≤ x1.toInt ∧ x1.toInt < (v2 1 0).toInt) ∧ (btx (v2 1 (28 + x0.toNatClampNeg)) x1).toInt ≠ 1 → r2 = 0 ∧ (∀ n : Nat, u2 1 n = if n = 28 + x0.toNatClampNeg then v2 1 (28 + x0.toNatClampNeg) &&& ((1 <<< (x1 &&& 31)) ^^^ -1) else v2 1 n) ∧ (∀ k : Nat, k ≠ 1 → u2 k = v2 k))) : r = r2 ∧ RR n u u2 := by
  have e0 : v 13 0 = v2 1 0 := h.1.1 _ _ _ (lk_a (by decide))
  have e1 : v 13 1 = v2 1 1 := h.1.1 _ _ _ (lk_a (by decide))
  have e2 : v 13 2 = v2 1 2 := h.1.1 _ _ _ (lk_a (by decide))
  have e3 : v 13 3 = v2 1 3 := h.1.1 _ _ _ (lk_a (by decide))
  have hb0 := hQ 1 0 8 (by decide)
  have hb1 := hQ 1 1 4 (by decide)
  have hb2 := hQ 1 2 6 (by decide)
  have hb3 := hQ 1 3 6 (by decide)
  rw [e0, e1] at p
  by_cases hC : (0 ≤ x0.toInt ∧ x0.toInt < (v2 1 1).toInt) ∧ 0 ≤ x1.toInt ∧ x1.toInt < (v2 1 0).toInt
  · have zX := t_nn (x := x0) (by omega)
    have hX : x0.toNatClampNeg < 4 := by omega
    have ha : (x0.toNatClampNeg : Int) < (v2 1 1).toInt := by omega
    have ev : v (25 + x0.toNatClampNeg) 2 = v2 1 (28 + x0.toNatClampNeg) := h.1.1 _ _ _ (lk_k_ hX ha)
    rw [ev] at p
    have kb := h.1.2.2.1 _ hX ha
    obtain ⟨kb1, kb2⟩ := kb_bit hb0 kb hC.2
    rcases kb1 with ⟨b1, b2, b3⟩ | ⟨b1, b2, b3⟩
    · obtain ⟨p1, p2⟩ := p.2.1 ⟨hC, b1⟩
      obtain ⟨q1, q2, q3⟩ := q.2.1 ⟨hC, b1⟩
      rw [b2] at p2 kb2
      exact ⟨by rw [p1, q1], h.wr q3 (funext fun j => by rw [p2, if_neg (by omega)]) (fun k hk => funext fun j => by rw [p2, if_neg (by omega)]) ⟨RL_kin hX p2 q2 h.1.1, h.1.2.1.cg (by rw [q2, if_neg (by omega)]) (fun c hc => ⟨by rw [p2, if_neg (by omega)], by rw [p2, if_neg (by omega)], by rw [p2, if_neg (by omega)]⟩) (fun c hc => ⟨by rw [q2, if_neg (by omega)], by rw [q2, if_neg (by omega)], by rw [q2, if_neg (by omega)], by rw [q2, if_neg (by omega)]⟩), (fun m hm hm2 => by by_cases e : m = x0.toNatClampNeg; rw [e]; rw [q2 0, if_neg (by omega), q2 (28 + x0.toNatClampNeg), if_pos rfl]; exact kb2; rw [q2 0, if_neg (by omega), q2 (28 + m), if_neg (by omega)]; rw [q2 1, if_neg (by omega)] at hm2; exact h.1.2.2.1 m hm hm2), h.1.2.2.2.cg hb3.2 (by rw [q2, if_neg (by omega)]) (by rw [q2, if_neg (by omega)]) (fun n h1 h2 => by rw [q2, if_neg (by omega)]) (fun c hc => by rw [p2, if_neg (by omega)])⟩⟩
    · obtain ⟨p1, p2⟩ := p.2.2 ⟨hC, b1⟩
      obtain ⟨q1, q2, q3⟩ := q.2.2 ⟨hC, b1⟩
      have hv := b3
      have eq : u2 1 = v2 1 := funext fun n => by rw [q2]; by_cases e : n = 28 + x0.toNatClampNeg; rw [if_pos e, e]; exact hv; rw [if_neg e]
      rw [p2]
      exact ⟨by rw [p1, q1], h.wr q3 rfl (fun _ _ => rfl) (by rw [eq]; exact h.1)⟩
  · obtain ⟨p1, p2⟩ := p.1 hC
    obtain ⟨q1, q2⟩ := q.1 hC
    rw [p1, q1, p2, q2]
    exact ⟨rfl, h⟩

set_option maxHeartbeats 4000000 in
theorem T_kin_1 {n r r2 x0 x1 : Int32} {v u v2 u2 : Nat → Nat → Int32} (hI : Iv v) (hQ : Ir v2) (h : RR n v v2) (p : (¬ ((0 ≤ x0.toInt ∧ x0.toInt < (v 13 1).toInt) ∧ 0 ≤ x1.toInt ∧ x1.toInt < (v 13 0).toInt) → r = -1 ∧ u = v) ∧ (((0 ≤ x0.toInt ∧ x0.toInt < (v 13 1).toInt) ∧ 0 ≤ x1.toInt ∧ x1.toInt < (v 13 0).toInt) ∧ (btx (v (25 + x0.toNatClampNeg) 2) x1).toInt = 1 → r = 0 ∧ u = v) ∧ (((0 ≤ x0.toInt ∧ x0.toInt < (v 13 1).toInt) ∧ 0 ≤ x1.toInt ∧ x1.toInt < (v 13 0).toInt) ∧ (btx (v (25 + x0.toNatClampNeg) 2) x1).toInt ≠ 1 → r = 1 ∧ (∀ k j : Nat, u k j = if k = 25 + x0.toNatClampNeg ∧ j = 2 then v (25 + x0.toNatClampNeg) 2 ^^^ (1 <<< (x1 &&& 31)) else v k j))) (q : (¬ ((0 ≤ x0.toInt ∧ x0.toInt < (v2 1 1).toInt) ∧ 0 ≤ x1.toInt ∧ x1.toInt < (v2 1 0).toInt) → r2 = -1 ∧ u2 = v2) ∧ (((0 ≤ x0.toInt ∧ x0.toInt < (v2 1 1).toInt) ∧ 0 ≤ x1.toInt ∧ x1.toInt < (v2 1 0).toInt) ∧ (btx (v2 1 (28 + x0.toNatClampNeg)) x1).toInt = 1 → r2 = 0 ∧ (∀ n : Nat, u2 1 n = if n = 28 + x0.toNatClampNeg then v2 1 (28 + x0.toNatClampNeg) ||| (1 <<< (x1 &&& 31)) else v2 1 n) ∧ (∀ k : Nat, k ≠ 1 → u2 k = v2 k)) ∧ (((0 ≤ x0.toInt ∧ x0.toInt < (v2 1 1).toInt) ∧ 0 ≤ x1.toInt ∧ x1.toInt < (v2 1 0).toInt) ∧ (btx (v2 1 (28 + x0.toNatClampNeg)) x1).toInt ≠ 1 → r2 = 1 ∧ (∀ n : Nat, u2 1 n = if n = 28 + x0.toNatClampNeg then v2 1 (28 + x0.toNatClampNeg) ||| (1 <<< (x1 &&& 31)) else v2 1 n) ∧ (∀ k : Nat, k ≠ 1 → u2 k = v2 k))) : r = r2 ∧ RR n u u2 := by
  have e0 : v 13 0 = v2 1 0 := h.1.1 _ _ _ (lk_a (by decide))
  have e1 : v 13 1 = v2 1 1 := h.1.1 _ _ _ (lk_a (by decide))
  have e2 : v 13 2 = v2 1 2 := h.1.1 _ _ _ (lk_a (by decide))
  have e3 : v 13 3 = v2 1 3 := h.1.1 _ _ _ (lk_a (by decide))
  have hb0 := hQ 1 0 8 (by decide)
  have hb1 := hQ 1 1 4 (by decide)
  have hb2 := hQ 1 2 6 (by decide)
  have hb3 := hQ 1 3 6 (by decide)
  rw [e0, e1] at p
  by_cases hC : (0 ≤ x0.toInt ∧ x0.toInt < (v2 1 1).toInt) ∧ 0 ≤ x1.toInt ∧ x1.toInt < (v2 1 0).toInt
  · have zX := t_nn (x := x0) (by omega)
    have hX : x0.toNatClampNeg < 4 := by omega
    have ha : (x0.toNatClampNeg : Int) < (v2 1 1).toInt := by omega
    have ev : v (25 + x0.toNatClampNeg) 2 = v2 1 (28 + x0.toNatClampNeg) := h.1.1 _ _ _ (lk_k_ hX ha)
    rw [ev] at p
    have kb := h.1.2.2.1 _ hX ha
    obtain ⟨kb1, kb2⟩ := kb_bit hb0 kb hC.2
    rcases kb1 with ⟨b1, b2, b3⟩ | ⟨b1, b2, b3⟩
    · obtain ⟨p1, p2⟩ := p.2.1 ⟨hC, b1⟩
      obtain ⟨q1, q2, q3⟩ := q.2.1 ⟨hC, b1⟩
      have hv := b3
      have eq : u2 1 = v2 1 := funext fun n => by rw [q2]; by_cases e : n = 28 + x0.toNatClampNeg; rw [if_pos e, e]; exact hv; rw [if_neg e]
      rw [p2]
      exact ⟨by rw [p1, q1], h.wr q3 rfl (fun _ _ => rfl) (by rw [eq]; exact h.1)⟩
    · obtain ⟨p1, p2⟩ := p.2.2 ⟨hC, b1⟩
      obtain ⟨q1, q2, q3⟩ := q.2.2 ⟨hC, b1⟩
      rw [b2] at p2 kb2
      exact ⟨by rw [p1, q1], h.wr q3 (funext fun j => by rw [p2, if_neg (by omega)]) (fun k hk => funext fun j => by rw [p2, if_neg (by omega)]) ⟨RL_kin hX p2 q2 h.1.1, h.1.2.1.cg (by rw [q2, if_neg (by omega)]) (fun c hc => ⟨by rw [p2, if_neg (by omega)], by rw [p2, if_neg (by omega)], by rw [p2, if_neg (by omega)]⟩) (fun c hc => ⟨by rw [q2, if_neg (by omega)], by rw [q2, if_neg (by omega)], by rw [q2, if_neg (by omega)], by rw [q2, if_neg (by omega)]⟩), (fun m hm hm2 => by by_cases e : m = x0.toNatClampNeg; rw [e]; rw [q2 0, if_neg (by omega), q2 (28 + x0.toNatClampNeg), if_pos rfl]; exact kb2; rw [q2 0, if_neg (by omega), q2 (28 + m), if_neg (by omega)]; rw [q2 1, if_neg (by omega)] at hm2; exact h.1.2.2.1 m hm hm2), h.1.2.2.2.cg hb3.2 (by rw [q2, if_neg (by omega)]) (by rw [q2, if_neg (by omega)]) (fun n h1 h2 => by rw [q2, if_neg (by omega)]) (fun c hc => by rw [p2, if_neg (by omega)])⟩⟩
  · obtain ⟨p1, p2⟩ := p.1 hC
    obtain ⟨q1, q2⟩ := q.1 hC
    rw [p1, q1, p2, q2]
    exact ⟨rfl, h⟩

set_option maxHeartbeats 4000000 in
theorem T_mediator {n r r2 x0 x1 : Int32} {v u v2 u2 : Nat → Nat → Int32} (hI : Iv v) (hQ : Ir v2) (h : RR n v v2) (p : (¬ ((0 ≤ x0.toInt ∧ x0.toInt ≤ 9) ∧ 1 ≤ x1.toInt ∧ x1.toInt ≤ 7) → r = -1 ∧ u = v) ∧ (((0 ≤ x0.toInt ∧ x0.toInt ≤ 9) ∧ 1 ≤ x1.toInt ∧ x1.toInt ≤ 7) ∧ 4 ≤ (v 13 1).toInt → r = -2 ∧ u = v) ∧ (((0 ≤ x0.toInt ∧ x0.toInt ≤ 9) ∧ 1 ≤ x1.toInt ∧ x1.toInt ≤ 7) ∧ (v 13 1).toInt < 4 → r = v 13 1 ∧ (∀ k j : Nat, u k j = if k = 13 ∧ j = 1 then v 13 1 + 1 else if k = 25 + (v 13 1).toNatClampNeg ∧ j = 2 then 0 else if k = 25 + (v 13 1).toNatClampNeg ∧ j = 1 then x1 else if k = 25 + (v 13 1).toNatClampNeg ∧ j = 0 then x0 else v k j))) (q : (¬ ((0 ≤ x0.toInt ∧ x0.toInt ≤ 9) ∧ 1 ≤ x1.toInt ∧ x1.toInt ≤ 7) → r2 = -1 ∧ u2 = v2) ∧ (((0 ≤ x0.toInt ∧ x0.toInt ≤ 9) ∧ 1 ≤ x1.toInt ∧ x1.toInt ≤ 7) ∧ (v2 1 1).toInt = 4 → r2 = -2 ∧ u2 = v2) ∧ (((0 ≤ x0.toInt ∧ x0.toInt ≤ 9) ∧ 1 ≤ x1.toInt ∧ x1.toInt ≤ 7) ∧ (v2 1 1).toInt ≠ 4 → r2 = v2 1 1 ∧ (∀ n : Nat, u2 1 n = if n = 1 then v2 1 1 + 1 else if n = 28 + (v2 1 1).toNatClampNeg then 0 else if n = 21 + 2 * (v2 1 1).toNatClampNeg then x1 else if n = 20 + 2 * (v2 1 1).toNatClampNeg then x0 else v2 1 n) ∧ (∀ k : Nat, k ≠ 1 → u2 k = v2 k))) : r = r2 ∧ RR n u u2 := by
  have e0 : v 13 0 = v2 1 0 := h.1.1 _ _ _ (lk_a (by decide))
  have e1 : v 13 1 = v2 1 1 := h.1.1 _ _ _ (lk_a (by decide))
  have e2 : v 13 2 = v2 1 2 := h.1.1 _ _ _ (lk_a (by decide))
  have e3 : v 13 3 = v2 1 3 := h.1.1 _ _ _ (lk_a (by decide))
  have hb0 := hQ 1 0 8 (by decide)
  have hb1 := hQ 1 1 4 (by decide)
  have hb2 := hQ 1 2 6 (by decide)
  have hb3 := hQ 1 3 6 (by decide)
  rw [e1] at p
  by_cases hC : (0 ≤ x0.toInt ∧ x0.toInt ≤ 9) ∧ 1 ≤ x1.toInt ∧ x1.toInt ≤ 7
  · by_cases hD : (v2 1 1).toInt = 4
    · obtain ⟨p1, p2⟩ := p.2.1 ⟨hC, by omega⟩
      obtain ⟨q1, q2⟩ := q.2.1 ⟨hC, hD⟩
      rw [p1, q1, p2, q2]
      exact ⟨rfl, h⟩
    · obtain ⟨p1, p2⟩ := p.2.2 ⟨hC, by omega⟩
      obtain ⟨q1, q2, q3⟩ := q.2.2 ⟨hC, hD⟩
      have zM := t_nn (x := v2 1 1) (by omega)
      have hM : (v2 1 1).toNatClampNeg < 4 := by omega
      have k1 : (1 : Int32).toInt = 1 := by decide
      have hx : (v2 1 1 + 1).toInt = (v2 1 1).toInt + 1 := by rw [t_add (by rw [k1]; omega), k1]
      exact ⟨by rw [p1, q1], h.wr q3 (funext fun j => by rw [p2, if_neg (by omega), if_neg (by omega), if_neg (by omega), if_neg (by omega)]) (fun k hk => funext fun j => by rw [p2, if_neg (by omega), if_neg (by omega), if_neg (by omega), if_neg (by omega)]) ⟨RL_mediator hM (by omega) hx p2 q2 h.1.1, h.1.2.1.cg (by rw [q2, if_neg (by omega), if_neg (by omega), if_neg (by omega), if_neg (by omega)]) (fun c hc => ⟨by rw [p2, if_neg (by omega), if_neg (by omega), if_neg (by omega), if_neg (by omega)], by rw [p2, if_neg (by omega), if_neg (by omega), if_neg (by omega), if_neg (by omega)], by rw [p2, if_neg (by omega), if_neg (by omega), if_neg (by omega), if_neg (by omega)]⟩) (fun c hc => ⟨by rw [q2, if_neg (by omega), if_neg (by omega), if_neg (by omega), if_neg (by omega)], by rw [q2, if_neg (by omega), if_neg (by omega), if_neg (by omega), if_neg (by omega)], by rw [q2, if_neg (by omega), if_neg (by omega), if_neg (by omega), if_neg (by omega)], by rw [q2, if_neg (by omega), if_neg (by omega), if_neg (by omega), if_neg (by omega)]⟩), (fun m hm hm2 => by rw [q2 1, if_pos rfl, hx] at hm2; rw [q2 0, if_neg (by omega), if_neg (by omega), if_neg (by omega), if_neg (by omega)]; by_cases e : m = (v2 1 1).toNatClampNeg; rw [e, q2, if_neg (by omega), if_pos rfl]; exact KB_0; rw [q2 (28 + m), if_neg (by omega), if_neg (by omega), if_neg (by omega), if_neg (by omega)]; exact h.1.2.2.1 m hm (by omega)), h.1.2.2.2.cg hb3.2 (by rw [q2, if_neg (by omega), if_neg (by omega), if_neg (by omega), if_neg (by omega)]) (by rw [q2, if_neg (by omega), if_neg (by omega), if_neg (by omega), if_neg (by omega)]) (fun n h1 h2 => by rw [q2, if_neg (by omega), if_neg (by omega), if_neg (by omega), if_neg (by omega)]) (fun c hc => by rw [p2, if_neg (by omega), if_neg (by omega), if_neg (by omega), if_neg (by omega)])⟩⟩
  · obtain ⟨p1, p2⟩ := p.1 hC
    obtain ⟨q1, q2⟩ := q.1 hC
    rw [p1, q1, p2, q2]
    exact ⟨rfl, h⟩

set_option maxHeartbeats 4000000 in
theorem RL_party {v u : Nat → Nat → Int32} {s z : Nat → Int32} {Q : Nat} {x a b y : Int32} (hM : Q < 8) (hn : (s 0).toInt = (Q : Int)) (hx : x.toInt = (s 0).toInt + 1) (hk : ∀ m : Nat, m < 4 → (m : Int) < (s 1).toInt → s (28 + m) &&& y = s (28 + m)) (hu : ∀ k j : Nat, u k j = if k = 13 ∧ j = 0 then x else if k = 17 + Q ∧ j = 1 then b else if k = 17 + Q ∧ j = 0 then a else v k j) (hs : ∀ n : Nat, z n = if n = 0 then x else if 28 ≤ n ∧ (n : Int) < 28 + 4 then (if n = 5 + 2 * Q then b else if n = 4 + 2 * Q then a else s n) &&& y else if n = 5 + 2 * Q then b else if n = 4 + 2 * Q then a else s n) (hR : RLk 13 v s) : RLk 13 u z := by
  have A0 : (z 0).toInt = (s 0).toInt + 1 := by rw [hs, if_pos rfl]; exact hx
  have A1 : (z 1).toInt = (s 1).toInt := by rw [hs, if_neg (by omega), if_neg (by omega), if_neg (by omega), if_neg (by omega)]
  have A2 : (z 2).toInt = (s 2).toInt := by rw [hs, if_neg (by omega), if_neg (by omega), if_neg (by omega), if_neg (by omega)]
  have A36 : ∀ c : Nat, c < 6 → (z (36 + 7 * c)).toInt = (s (36 + 7 * c)).toInt := fun c hc => by rw [hs, if_neg (by omega), if_neg (by omega), if_neg (by omega), if_neg (by omega)]
  have A38 : ∀ c : Nat, c < 6 → (z (38 + 7 * c)).toInt = (s (38 + 7 * c)).toInt := fun c hc => by rw [hs, if_neg (by omega), if_neg (by omega), if_neg (by omega), if_neg (by omega)]
  intro k j n h
  unfold lk at h
  rcases h with ⟨rfl, hj, rfl⟩ | ⟨p, hp, ha, hj, rfl, rfl⟩ | ⟨m, hm, ha, hj, rfl, rfl⟩ | ⟨m, hm, ha, rfl, rfl, rfl⟩ | ⟨c, hc, ha, rfl, rfl, rfl⟩ | ⟨c, hc, ha, rfl, rfl, rfl⟩ | ⟨c, hc, ha, rfl, rfl, rfl⟩ | ⟨c, hc, ha, rfl, rfl, rfl⟩ | ⟨c, hc, ha, hj, rfl, rfl⟩ | ⟨c, i, hc, ha, hi, hj, hr, rfl, rfl⟩ | ⟨c, i, hc, ha, hi, hj, rfl, rfl⟩ | ⟨c, t, hc, ha, ht, hr, hj, rfl, rfl⟩
  · by_cases e0 : 13 = 13 ∧ n = 0
    · have d1 : u (13) n = x := by rw [hu, if_pos (by omega)]
      have d2 : z (n) = x := by rw [hs, if_pos (by omega)]
      exact d1.trans d2.symm
    · skip
      have d1 : u (13) n = v (13) n := by rw [hu, if_neg (by omega), if_neg (by omega), if_neg (by omega)]
      have d2 : z (n) = s (n) := by rw [hs, if_neg (by omega), if_neg (by omega), if_neg (by omega), if_neg (by omega)]
      exact d1.trans ((hR _ _ _ (lk_a hj)).trans d2.symm)
  · by_cases e0 : 13 + 4 + p = 17 + Q ∧ j = 1
    · have d1 : u (13 + 4 + p) j = b := by rw [hu, if_neg (by omega), if_pos (by omega)]
      have d2 : z (4 + 2 * p + j) = b := by rw [hs, if_neg (by omega), if_neg (by omega), if_pos (by omega)]
      exact d1.trans d2.symm
    · skip
      by_cases e1 : 13 + 4 + p = 17 + Q ∧ j = 0
      · have d1 : u (13 + 4 + p) j = a := by rw [hu, if_neg (by omega), if_neg (by omega), if_pos (by omega)]
        have d2 : z (4 + 2 * p + j) = a := by rw [hs, if_neg (by omega), if_neg (by omega), if_neg (by omega), if_pos (by omega)]
        exact d1.trans d2.symm
      · skip
        have d1 : u (13 + 4 + p) j = v (13 + 4 + p) j := by rw [hu, if_neg (by omega), if_neg (by omega), if_neg (by omega)]
        have d2 : z (4 + 2 * p + j) = s (4 + 2 * p + j) := by rw [hs, if_neg (by omega), if_neg (by omega), if_neg (by omega), if_neg (by omega)]
        exact d1.trans ((hR _ _ _ (lk_p hp (by omega) hj)).trans d2.symm)
  · have d1 : u (13 + 12 + m) j = v (13 + 12 + m) j := by rw [hu, if_neg (by omega), if_neg (by omega), if_neg (by omega)]
    have d2 : z (20 + 2 * m + j) = s (20 + 2 * m + j) := by rw [hs, if_neg (by omega), if_neg (by omega), if_neg (by omega), if_neg (by omega)]
    exact d1.trans ((hR _ _ _ (lk_m hm (by omega) hj)).trans d2.symm)
  · have d1 : u (13 + 12 + m) 2 = v (13 + 12 + m) 2 := by rw [hu, if_neg (by omega), if_neg (by omega), if_neg (by omega)]
    have d2 : z (28 + m) = s (28 + m) := by rw [hs, if_neg (by omega), if_pos (by omega), if_neg (by omega), if_neg (by omega)]; exact hk m hm (by omega)
    exact d1.trans ((hR _ _ _ (lk_k_ hm (by omega))).trans d2.symm)
  · have d1 : u (13 + 16 + 15 * c) 0 = v (13 + 16 + 15 * c) 0 := by rw [hu, if_neg (by omega), if_neg (by omega), if_neg (by omega)]
    have d2 : z (34 + 7 * c) = s (34 + 7 * c) := by rw [hs, if_neg (by omega), if_neg (by omega), if_neg (by omega), if_neg (by omega)]
    exact d1.trans ((hR _ _ _ (lk_c0 hc (by omega))).trans d2.symm)
  · have d1 : u (13 + 16 + 15 * c) 2 = v (13 + 16 + 15 * c) 2 := by rw [hu, if_neg (by omega), if_neg (by omega), if_neg (by omega)]
    have d2 : z (36 + 7 * c) = s (36 + 7 * c) := by rw [hs, if_neg (by omega), if_neg (by omega), if_neg (by omega), if_neg (by omega)]
    exact d1.trans ((hR _ _ _ (lk_c2 hc (by omega))).trans d2.symm)
  · have d1 : u (13 + 16 + 15 * c) 3 = v (13 + 16 + 15 * c) 3 := by rw [hu, if_neg (by omega), if_neg (by omega), if_neg (by omega)]
    have d2 : z (37 + 7 * c) = s (37 + 7 * c) := by rw [hs, if_neg (by omega), if_neg (by omega), if_neg (by omega), if_neg (by omega)]
    exact d1.trans ((hR _ _ _ (lk_c3 hc (by omega))).trans d2.symm)
  · have d1 : u (13 + 16 + 15 * c) 5 = v (13 + 16 + 15 * c) 5 := by rw [hu, if_neg (by omega), if_neg (by omega), if_neg (by omega)]
    have d2 : z (38 + 7 * c) = s (38 + 7 * c) := by rw [hs, if_neg (by omega), if_neg (by omega), if_neg (by omega), if_neg (by omega)]
    exact d1.trans ((hR _ _ _ (lk_c5 hc (by omega))).trans d2.symm)
  · have d1 : u (13 + 17 + 15 * c) j = v (13 + 17 + 15 * c) j := by rw [hu, if_neg (by omega), if_neg (by omega), if_neg (by omega)]
    have d2 : z (32 + 7 * c + j) = s (32 + 7 * c + j) := by rw [hs, if_neg (by omega), if_neg (by omega), if_neg (by omega), if_neg (by omega)]
    exact d1.trans ((hR _ _ _ (lk_q hc (by omega) hj)).trans d2.symm)
  · have a36 := A36 c hc
    have d1 : u (13 + 20 + 15 * c + i) j = v (13 + 20 + 15 * c + i) j := by rw [hu, if_neg (by omega), if_neg (by omega), if_neg (by omega)]
    have d2 : z (86 + 10 * c + 2 * j + i) = s (86 + 10 * c + 2 * j + i) := by rw [hs, if_neg (by omega), if_neg (by omega), if_neg (by omega), if_neg (by omega)]
    exact d1.trans ((hR _ _ _ (lk_o hc (by omega) hi hj (by omega))).trans d2.symm)
  · have d1 : u (13 + 23 + 15 * c + i) j = v (13 + 23 + 15 * c + i) j := by rw [hu, if_neg (by omega), if_neg (by omega), if_neg (by omega)]
    have d2 : z (308 + 48 * c + 24 * i + j) = s (308 + 48 * c + 24 * i + j) := by rw [hs, if_neg (by omega), if_neg (by omega), if_neg (by omega), if_neg (by omega)]
    exact d1.trans ((hR _ _ _ (lk_l hc (by omega) hi hj)).trans d2.symm)
  · have a38 := A38 c hc
    have d1 : u (13 + 26 + 15 * c + t) j = v (13 + 26 + 15 * c + t) j := by rw [hu, if_neg (by omega), if_neg (by omega), if_neg (by omega)]
    have d2 : z (158 + 25 * c + 5 * t + j) = s (158 + 25 * c + 5 * t + j) := by rw [hs, if_neg (by omega), if_neg (by omega), if_neg (by omega), if_neg (by omega)]
    exact d1.trans ((hR _ _ _ (lk_t hc (by omega) ht (by omega) hj)).trans d2.symm)

set_option maxHeartbeats 4000000 in
theorem T_party {n r r2 x0 x1 : Int32} {v u v2 u2 : Nat → Nat → Int32} (hI : Iv v) (hQ : Ir v2) (h : RR n v v2) (p : (¬ ((0 ≤ x0.toInt ∧ x0.toInt ≤ 9) ∧ 0 ≤ x1.toInt ∧ x1.toInt ≤ 2) → r = -1 ∧ u = v) ∧ (((0 ≤ x0.toInt ∧ x0.toInt ≤ 9) ∧ 0 ≤ x1.toInt ∧ x1.toInt ≤ 2) ∧ 8 ≤ (v 13 0).toInt → r = -2 ∧ u = v) ∧ (((0 ≤ x0.toInt ∧ x0.toInt ≤ 9) ∧ 0 ≤ x1.toInt ∧ x1.toInt ≤ 2) ∧ (v 13 0).toInt < 8 → r = v 13 0 ∧ (∀ k j : Nat, u k j = if k = 13 ∧ j = 0 then v 13 0 + 1 else if k = 17 + (v 13 0).toNatClampNeg ∧ j = 1 then x1 else if k = 17 + (v 13 0).toNatClampNeg ∧ j = 0 then x0 else v k j))) (q : (¬ ((0 ≤ x0.toInt ∧ x0.toInt ≤ 9) ∧ 0 ≤ x1.toInt ∧ x1.toInt ≤ 2) → r2 = -1 ∧ u2 = v2) ∧ (((0 ≤ x0.toInt ∧ x0.toInt ≤ 9) ∧ 0 ≤ x1.toInt ∧ x1.toInt ≤ 2) ∧ (v2 1 0).toInt = 8 → r2 = -2 ∧ u2 = v2) ∧ (((0 ≤ x0.toInt ∧ x0.toInt ≤ 9) ∧ 0 ≤ x1.toInt ∧ x1.toInt ≤ 2) ∧ (v2 1 0).toInt ≠ 8 → r2 = v2 1 0 ∧ (∀ n : Nat, u2 1 n = if n = 0 then v2 1 0 + 1 else if 28 ≤ n ∧ (n : Int) < 28 + 4 then (if n = 5 + 2 * (v2 1 0).toNatClampNeg then x1 else if n = 4 + 2 * (v2 1 0).toNatClampNeg then x0 else v2 1 n) &&& ((1 <<< (v2 1 0 &&& 31)) ^^^ -1) else if n = 5 + 2 * (v2 1 0).toNatClampNeg then x1 else if n = 4 + 2 * (v2 1 0).toNatClampNeg then x0 else v2 1 n) ∧ (∀ k : Nat, k ≠ 1 → u2 k = v2 k))) : r = r2 ∧ RR n u u2 := by
  have e0 : v 13 0 = v2 1 0 := h.1.1 _ _ _ (lk_a (by decide))
  have e1 : v 13 1 = v2 1 1 := h.1.1 _ _ _ (lk_a (by decide))
  have e2 : v 13 2 = v2 1 2 := h.1.1 _ _ _ (lk_a (by decide))
  have e3 : v 13 3 = v2 1 3 := h.1.1 _ _ _ (lk_a (by decide))
  have hb0 := hQ 1 0 8 (by decide)
  have hb1 := hQ 1 1 4 (by decide)
  have hb2 := hQ 1 2 6 (by decide)
  have hb3 := hQ 1 3 6 (by decide)
  rw [e0] at p
  by_cases hC : (0 ≤ x0.toInt ∧ x0.toInt ≤ 9) ∧ 0 ≤ x1.toInt ∧ x1.toInt ≤ 2
  · by_cases hD : (v2 1 0).toInt = 8
    · obtain ⟨p1, p2⟩ := p.2.1 ⟨hC, by omega⟩
      obtain ⟨q1, q2⟩ := q.2.1 ⟨hC, hD⟩
      rw [p1, q1, p2, q2]
      exact ⟨rfl, h⟩
    · obtain ⟨p1, p2⟩ := p.2.2 ⟨hC, by omega⟩
      obtain ⟨q1, q2, q3⟩ := q.2.2 ⟨hC, hD⟩
      have zM := t_nn (x := v2 1 0) (by omega)
      have hM : (v2 1 0).toNatClampNeg < 8 := by omega
      have k1 : (1 : Int32).toInt = 1 := by decide
      have hx : (v2 1 0 + 1).toInt = (v2 1 0).toInt + 1 := by rw [t_add (by rw [k1]; omega), k1]
      exact ⟨by rw [p1, q1], h.wr q3 (funext fun j => by rw [p2, if_neg (by omega), if_neg (by omega), if_neg (by omega)]) (fun k hk => funext fun j => by rw [p2, if_neg (by omega), if_neg (by omega), if_neg (by omega)]) ⟨RL_party hM (by omega) hx (fun m hm hm2 => kb_new (by omega) (h.1.2.2.1 m hm hm2)) p2 q2 h.1.1, h.1.2.1.cg (by rw [q2, if_neg (by omega), if_neg (by omega), if_neg (by omega), if_neg (by omega)]) (fun c hc => ⟨by rw [p2, if_neg (by omega), if_neg (by omega), if_neg (by omega)], by rw [p2, if_neg (by omega), if_neg (by omega), if_neg (by omega)], by rw [p2, if_neg (by omega), if_neg (by omega), if_neg (by omega)]⟩) (fun c hc => ⟨by rw [q2, if_neg (by omega), if_neg (by omega), if_neg (by omega), if_neg (by omega)], by rw [q2, if_neg (by omega), if_neg (by omega), if_neg (by omega), if_neg (by omega)], by rw [q2, if_neg (by omega), if_neg (by omega), if_neg (by omega), if_neg (by omega)], by rw [q2, if_neg (by omega), if_neg (by omega), if_neg (by omega), if_neg (by omega)]⟩), (fun m hm hm2 => by rw [q2 1, if_neg (by omega), if_neg (by omega), if_neg (by omega), if_neg (by omega)] at hm2; have kb := h.1.2.2.1 m hm hm2; rw [q2 0, if_pos rfl, q2 (28 + m), if_neg (by omega), if_pos (by omega), if_neg (by omega), if_neg (by omega), kb_new (by omega) kb]; exact KB_up hb0.1 hx kb), h.1.2.2.2.cg hb3.2 (by rw [q2, if_neg (by omega), if_neg (by omega), if_neg (by omega), if_neg (by omega)]) (by rw [q2, if_neg (by omega), if_neg (by omega), if_neg (by omega), if_neg (by omega)]) (fun n h1 h2 => by rw [q2, if_neg (by omega), if_neg (by omega), if_neg (by omega), if_neg (by omega)]) (fun c hc => by rw [p2, if_neg (by omega), if_neg (by omega), if_neg (by omega)])⟩⟩
  · obtain ⟨p1, p2⟩ := p.1 hC
    obtain ⟨q1, q2⟩ := q.1 hC
    rw [p1, q1, p2, q2]
    exact ⟨rfl, h⟩

set_option maxHeartbeats 4000000 in
theorem T_term_0 {n r r2 x0 x1 x2 x3 x4 : Int32} {v u v2 u2 : Nat → Nat → Int32} (hI : Iv v) (hQ : Ir v2) (h : RR n v v2) (p : (¬ ((0 ≤ x0.toInt ∧ x0.toInt < (v 13 2).toInt) ∧ (0 ≤ x1.toInt ∧ x1.toInt ≤ 1) ∧ (0 ≤ x2.toInt ∧ x2.toInt ≤ 5) ∧ (0 ≤ x3.toInt ∧ x3.toInt ≤ 23) ∧ x3.toInt ≤ x4.toInt ∧ x4.toInt ≤ 23) → r = -1 ∧ u = v) ∧ (((0 ≤ x0.toInt ∧ x0.toInt < (v 13 2).toInt) ∧ (0 ≤ x1.toInt ∧ x1.toInt ≤ 1) ∧ (0 ≤ x2.toInt ∧ x2.toInt ≤ 5) ∧ (0 ≤ x3.toInt ∧ x3.toInt ≤ 23) ∧ x3.toInt ≤ x4.toInt ∧ x4.toInt ≤ 23) ∧ (v (29 + 15 * x0.toNatClampNeg) 0).toInt ≠ 1 → r = -4 ∧ u = v) ∧ (((0 ≤ x0.toInt ∧ x0.toInt < (v 13 2).toInt) ∧ (0 ≤ x1.toInt ∧ x1.toInt ≤ 1) ∧ (0 ≤ x2.toInt ∧ x2.toInt ≤ 5) ∧ (0 ≤ x3.toInt ∧ x3.toInt ≤ 23) ∧ x3.toInt ≤ x4.toInt ∧ x4.toInt ≤ 23) ∧ (v (29 + 15 * x0.toNatClampNeg) 0).toInt = 1 ∧ 5 ≤ (v (29 + 15 * x0.toNatClampNeg) 5).toInt → r = -2 ∧ u = v) ∧ (((0 ≤ x0.toInt ∧ x0.toInt < (v 13 2).toInt) ∧ (0 ≤ x1.toInt ∧ x1.toInt ≤ 1) ∧ (0 ≤ x2.toInt ∧ x2.toInt ≤ 5) ∧ (0 ≤ x3.toInt ∧ x3.toInt ≤ 23) ∧ x3.toInt ≤ x4.toInt ∧ x4.toInt ≤ 23) ∧ (v (29 + 15 * x0.toNatClampNeg) 0).toInt = 1 ∧ (v (29 + 15 * x0.toNatClampNeg) 5).toInt < 5 → r = v (29 + 15 * x0.toNatClampNeg) 5 ∧ (∀ k j : Nat, u k j = if k = 29 + 15 * x0.toNatClampNeg ∧ j = 5 then v (29 + 15 * x0.toNatClampNeg) 5 + 1 else if k = 39 + 15 * x0.toNatClampNeg + (v (29 + 15 * x0.toNatClampNeg) 5).toNatClampNeg ∧ j = 4 then x4 else if k = 39 + 15 * x0.toNatClampNeg + (v (29 + 15 * x0.toNatClampNeg) 5).toNatClampNeg ∧ j = 3 then x3 else if k = 39 + 15 * x0.toNatClampNeg + (v (29 + 15 * x0.toNatClampNeg) 5).toNatClampNeg ∧ j = 2 then x2 else if k = 39 + 15 * x0.toNatClampNeg + (v (29 + 15 * x0.toNatClampNeg) 5).toNatClampNeg ∧ j = 1 then 0 else if k = 39 + 15 * x0.toNatClampNeg + (v (29 + 15 * x0.toNatClampNeg) 5).toNatClampNeg ∧ j = 0 then x1 else v k j))) (q : (¬ ((0 ≤ x0.toInt ∧ x0.toInt < (v2 1 2).toInt) ∧ (0 ≤ x1.toInt ∧ x1.toInt ≤ 1) ∧ (0 ≤ x2.toInt ∧ x2.toInt ≤ 5) ∧ (0 ≤ x3.toInt ∧ x3.toInt ≤ 23) ∧ x3.toInt ≤ x4.toInt ∧ x4.toInt ≤ 23) → r2 = -1 ∧ u2 = v2) ∧ (((0 ≤ x0.toInt ∧ x0.toInt < (v2 1 2).toInt) ∧ (0 ≤ x1.toInt ∧ x1.toInt ≤ 1) ∧ (0 ≤ x2.toInt ∧ x2.toInt ≤ 5) ∧ (0 ≤ x3.toInt ∧ x3.toInt ≤ 23) ∧ x3.toInt ≤ x4.toInt ∧ x4.toInt ≤ 23) ∧ (v2 1 (34 + 7 * x0.toNatClampNeg)).toInt ≠ 1 → r2 = -4 ∧ u2 = v2) ∧ (((0 ≤ x0.toInt ∧ x0.toInt < (v2 1 2).toInt) ∧ (0 ≤ x1.toInt ∧ x1.toInt ≤ 1) ∧ (0 ≤ x2.toInt ∧ x2.toInt ≤ 5) ∧ (0 ≤ x3.toInt ∧ x3.toInt ≤ 23) ∧ x3.toInt ≤ x4.toInt ∧ x4.toInt ≤ 23) ∧ (v2 1 (34 + 7 * x0.toNatClampNeg)).toInt = 1 ∧ (v2 1 (38 + 7 * x0.toNatClampNeg)).toInt = 5 → r2 = -2 ∧ u2 = v2) ∧ (((0 ≤ x0.toInt ∧ x0.toInt < (v2 1 2).toInt) ∧ (0 ≤ x1.toInt ∧ x1.toInt ≤ 1) ∧ (0 ≤ x2.toInt ∧ x2.toInt ≤ 5) ∧ (0 ≤ x3.toInt ∧ x3.toInt ≤ 23) ∧ x3.toInt ≤ x4.toInt ∧ x4.toInt ≤ 23) ∧ (v2 1 (34 + 7 * x0.toNatClampNeg)).toInt = 1 ∧ (v2 1 (38 + 7 * x0.toNatClampNeg)).toInt ≠ 5 → r2 = v2 1 (38 + 7 * x0.toNatClampNeg) + 1 - 1 ∧ (∀ n : Nat, u2 1 n = if n = 38 + 7 * x0.toNatClampNeg then v2 1 (38 + 7 * x0.toNatClampNeg) + 1 else if n = 162 + 25 * x0.toNatClampNeg + 5 * (v2 1 (38 + 7 * x0.toNatClampNeg)).toNatClampNeg then x4 else if n = 161 + 25 * x0.toNatClampNeg + 5 * (v2 1 (38 + 7 * x0.toNatClampNeg)).toNatClampNeg then x3 else if n = 160 + 25 * x0.toNatClampNeg + 5 * (v2 1 (38 + 7 * x0.toNatClampNeg)).toNatClampNeg then x2 else if n = 159 + 25 * x0.toNatClampNeg + 5 * (v2 1 (38 + 7 * x0.toNatClampNeg)).toNatClampNeg then 0 else if n = 158 + 25 * x0.toNatClampNeg + 5 * (v2 1 (38 + 7 * x0.toNatClampNeg)).toNatClampNeg then x1 else v2 1 n) ∧ (∀ k : Nat, k ≠ 1 → u2 k = v2 k))) : r = r2 ∧ RR n u u2 := by
  have e0 : v 13 0 = v2 1 0 := h.1.1 _ _ _ (lk_a (by decide))
  have e1 : v 13 1 = v2 1 1 := h.1.1 _ _ _ (lk_a (by decide))
  have e2 : v 13 2 = v2 1 2 := h.1.1 _ _ _ (lk_a (by decide))
  have e3 : v 13 3 = v2 1 3 := h.1.1 _ _ _ (lk_a (by decide))
  have hb0 := hQ 1 0 8 (by decide)
  have hb1 := hQ 1 1 4 (by decide)
  have hb2 := hQ 1 2 6 (by decide)
  have hb3 := hQ 1 3 6 (by decide)
  rw [e2] at p
  by_cases hC : (0 ≤ x0.toInt ∧ x0.toInt < (v2 1 2).toInt) ∧ (0 ≤ x1.toInt ∧ x1.toInt ≤ 1) ∧ (0 ≤ x2.toInt ∧ x2.toInt ≤ 5) ∧ (0 ≤ x3.toInt ∧ x3.toInt ≤ 23) ∧ x3.toInt ≤ x4.toInt ∧ x4.toInt ≤ 23
  · have zX := t_nn (x := x0) (by omega)
    have hX : x0.toNatClampNeg < 6 := by omega
    have ha : (x0.toNatClampNeg : Int) < (v2 1 2).toInt := by omega
    have ev : v (29 + 15 * x0.toNatClampNeg) 0 = v2 1 (34 + 7 * x0.toNatClampNeg) := h.1.1 _ _ _ (lk_c0 hX ha)
    have ew : v (29 + 15 * x0.toNatClampNeg) 5 = v2 1 (38 + 7 * x0.toNatClampNeg) := h.1.1 _ _ _ (lk_c5 hX ha)
    rw [ev, ew] at p
    have hb := hQ 1 (38 + 7 * x0.toNatClampNeg) 5 (bS_c (by omega) (by omega))
    by_cases hD : (v2 1 (34 + 7 * x0.toNatClampNeg)).toInt = 1
    · by_cases hE : (v2 1 (38 + 7 * x0.toNatClampNeg)).toInt = 5
      · obtain ⟨p1, p2⟩ := p.2.2.1 ⟨hC, hD, by omega⟩
        obtain ⟨q1, q2⟩ := q.2.2.1 ⟨hC, hD, hE⟩
        rw [p1, q1, p2, q2]
        exact ⟨rfl, h⟩
      · obtain ⟨p1, p2⟩ := p.2.2.2 ⟨hC, hD, by omega⟩
        obtain ⟨q1, q2, q3⟩ := q.2.2.2 ⟨hC, hD, hE⟩
        have zT := t_nn (x := v2 1 (38 + 7 * x0.toNatClampNeg)) (by omega)
        have k1 : (1 : Int32).toInt = 1 := by decide
        have hx : (v2 1 (38 + 7 * x0.toNatClampNeg) + 1).toInt = (v2 1 (38 + 7 * x0.toNatClampNeg)).toInt + 1 := by rw [t_add (by rw [k1]; omega), k1]
        refine ⟨?_, h.wr q3 (funext fun j => by rw [p2, if_neg (by omega), if_neg (by omega), if_neg (by omega), if_neg (by omega), if_neg (by omega), if_neg (by omega)]) (fun k hk => funext fun j => by rw [p2, if_neg (by omega), if_neg (by omega), if_neg (by omega), if_neg (by omega), if_neg (by omega), if_neg (by omega)]) ⟨RL_term hX (by omega) (by omega) hx p2 q2 h.1.1, h.1.2.1.cg (by rw [q2, if_neg (by omega), if_neg (by omega), if_neg (by omega), if_neg (by omega), if_neg (by omega), if_neg (by omega)]) (fun c hc => ⟨by rw [p2, if_neg (by omega), if_neg (by omega), if_neg (by omega), if_neg (by omega), if_neg (by omega), if_neg (by omega)], by rw [p2, if_neg (by omega), if_neg (by omega), if_neg (by omega), if_neg (by omega), if_neg (by omega), if_neg (by omega)], by rw [p2, if_neg (by omega), if_neg (by omega), if_neg (by omega), if_neg (by omega), if_neg (by omega), if_neg (by omega)]⟩) (fun c hc => ⟨by rw [q2, if_neg (by omega), if_neg (by omega), if_neg (by omega), if_neg (by omega), if_neg (by omega), if_neg (by omega)], by rw [q2, if_neg (by omega), if_neg (by omega), if_neg (by omega), if_neg (by omega), if_neg (by omega), if_neg (by omega)], by rw [q2, if_neg (by omega), if_neg (by omega), if_neg (by omega), if_neg (by omega), if_neg (by omega), if_neg (by omega)], by rw [q2, if_neg (by omega), if_neg (by omega), if_neg (by omega), if_neg (by omega), if_neg (by omega), if_neg (by omega)]⟩), h.1.2.2.1.cg (by rw [q2, if_neg (by omega), if_neg (by omega), if_neg (by omega), if_neg (by omega), if_neg (by omega), if_neg (by omega)]) (by rw [q2, if_neg (by omega), if_neg (by omega), if_neg (by omega), if_neg (by omega), if_neg (by omega), if_neg (by omega)]) (fun m hm => by rw [q2, if_neg (by omega), if_neg (by omega), if_neg (by omega), if_neg (by omega), if_neg (by omega), if_neg (by omega)]), h.1.2.2.2.cg hb3.2 (by rw [q2, if_neg (by omega), if_neg (by omega), if_neg (by omega), if_neg (by omega), if_neg (by omega), if_neg (by omega)]) (by rw [q2, if_neg (by omega), if_neg (by omega), if_neg (by omega), if_neg (by omega), if_neg (by omega), if_neg (by omega)]) (fun n h1 h2 => by rw [q2, if_neg (by omega), if_neg (by omega), if_neg (by omega), if_neg (by omega), if_neg (by omega), if_neg (by omega)]) (fun c hc => by rw [p2, if_neg (by omega), if_neg (by omega), if_neg (by omega), if_neg (by omega), if_neg (by omega), if_neg (by omega)])⟩⟩
        rw [p1, q1]
        refine Int32.toInt_inj.mp ?_
        rw [t_sub (by rw [hx, k1]; omega), hx, k1]
        omega
    · obtain ⟨p1, p2⟩ := p.2.1 ⟨hC, hD⟩
      obtain ⟨q1, q2⟩ := q.2.1 ⟨hC, hD⟩
      rw [p1, q1, p2, q2]
      exact ⟨rfl, h⟩
  · obtain ⟨p1, p2⟩ := p.1 hC
    obtain ⟨q1, q2⟩ := q.1 hC
    rw [p1, q1, p2, q2]
    exact ⟨rfl, h⟩

set_option maxHeartbeats 4000000 in
theorem T_term_1 {n r r2 x0 x1 x2 x3 x4 : Int32} {v u v2 u2 : Nat → Nat → Int32} (hI : Iv v) (hQ : Ir v2) (h : RR n v v2) (p : (¬ ((0 ≤ x0.toInt ∧ x0.toInt < (v 13 2).toInt) ∧ (0 ≤ x1.toInt ∧ x1.toInt ≤ 1) ∧ (0 ≤ x2.toInt ∧ x2.toInt ≤ 5) ∧ (0 ≤ x3.toInt ∧ x3.toInt ≤ 23) ∧ x3.toInt ≤ x4.toInt ∧ x4.toInt ≤ 23) → r = -1 ∧ u = v) ∧ (((0 ≤ x0.toInt ∧ x0.toInt < (v 13 2).toInt) ∧ (0 ≤ x1.toInt ∧ x1.toInt ≤ 1) ∧ (0 ≤ x2.toInt ∧ x2.toInt ≤ 5) ∧ (0 ≤ x3.toInt ∧ x3.toInt ≤ 23) ∧ x3.toInt ≤ x4.toInt ∧ x4.toInt ≤ 23) ∧ (v (29 + 15 * x0.toNatClampNeg) 0).toInt ≠ 1 → r = -4 ∧ u = v) ∧ (((0 ≤ x0.toInt ∧ x0.toInt < (v 13 2).toInt) ∧ (0 ≤ x1.toInt ∧ x1.toInt ≤ 1) ∧ (0 ≤ x2.toInt ∧ x2.toInt ≤ 5) ∧ (0 ≤ x3.toInt ∧ x3.toInt ≤ 23) ∧ x3.toInt ≤ x4.toInt ∧ x4.toInt ≤ 23) ∧ (v (29 + 15 * x0.toNatClampNeg) 0).toInt = 1 ∧ 5 ≤ (v (29 + 15 * x0.toNatClampNeg) 5).toInt → r = -2 ∧ u = v) ∧ (((0 ≤ x0.toInt ∧ x0.toInt < (v 13 2).toInt) ∧ (0 ≤ x1.toInt ∧ x1.toInt ≤ 1) ∧ (0 ≤ x2.toInt ∧ x2.toInt ≤ 5) ∧ (0 ≤ x3.toInt ∧ x3.toInt ≤ 23) ∧ x3.toInt ≤ x4.toInt ∧ x4.toInt ≤ 23) ∧ (v (29 + 15 * x0.toNatClampNeg) 0).toInt = 1 ∧ (v (29 + 15 * x0.toNatClampNeg) 5).toInt < 5 → r = v (29 + 15 * x0.toNatClampNeg) 5 ∧ (∀ k j : Nat, u k j = if k = 29 + 15 * x0.toNatClampNeg ∧ j = 5 then v (29 + 15 * x0.toNatClampNeg) 5 + 1 else if k = 39 + 15 * x0.toNatClampNeg + (v (29 + 15 * x0.toNatClampNeg) 5).toNatClampNeg ∧ j = 4 then x4 else if k = 39 + 15 * x0.toNatClampNeg + (v (29 + 15 * x0.toNatClampNeg) 5).toNatClampNeg ∧ j = 3 then x3 else if k = 39 + 15 * x0.toNatClampNeg + (v (29 + 15 * x0.toNatClampNeg) 5).toNatClampNeg ∧ j = 2 then x2 else if k = 39 + 15 * x0.toNatClampNeg + (v (29 + 15 * x0.toNatClampNeg) 5).toNatClampNeg ∧ j = 1 then 1 else if k = 39 + 15 * x0.toNatClampNeg + (v (29 + 15 * x0.toNatClampNeg) 5).toNatClampNeg ∧ j = 0 then x1 else v k j))) (q : (¬ ((0 ≤ x0.toInt ∧ x0.toInt < (v2 1 2).toInt) ∧ (0 ≤ x1.toInt ∧ x1.toInt ≤ 1) ∧ (0 ≤ x2.toInt ∧ x2.toInt ≤ 5) ∧ (0 ≤ x3.toInt ∧ x3.toInt ≤ 23) ∧ x3.toInt ≤ x4.toInt ∧ x4.toInt ≤ 23) → r2 = -1 ∧ u2 = v2) ∧ (((0 ≤ x0.toInt ∧ x0.toInt < (v2 1 2).toInt) ∧ (0 ≤ x1.toInt ∧ x1.toInt ≤ 1) ∧ (0 ≤ x2.toInt ∧ x2.toInt ≤ 5) ∧ (0 ≤ x3.toInt ∧ x3.toInt ≤ 23) ∧ x3.toInt ≤ x4.toInt ∧ x4.toInt ≤ 23) ∧ (v2 1 (34 + 7 * x0.toNatClampNeg)).toInt ≠ 1 → r2 = -4 ∧ u2 = v2) ∧ (((0 ≤ x0.toInt ∧ x0.toInt < (v2 1 2).toInt) ∧ (0 ≤ x1.toInt ∧ x1.toInt ≤ 1) ∧ (0 ≤ x2.toInt ∧ x2.toInt ≤ 5) ∧ (0 ≤ x3.toInt ∧ x3.toInt ≤ 23) ∧ x3.toInt ≤ x4.toInt ∧ x4.toInt ≤ 23) ∧ (v2 1 (34 + 7 * x0.toNatClampNeg)).toInt = 1 ∧ (v2 1 (38 + 7 * x0.toNatClampNeg)).toInt = 5 → r2 = -2 ∧ u2 = v2) ∧ (((0 ≤ x0.toInt ∧ x0.toInt < (v2 1 2).toInt) ∧ (0 ≤ x1.toInt ∧ x1.toInt ≤ 1) ∧ (0 ≤ x2.toInt ∧ x2.toInt ≤ 5) ∧ (0 ≤ x3.toInt ∧ x3.toInt ≤ 23) ∧ x3.toInt ≤ x4.toInt ∧ x4.toInt ≤ 23) ∧ (v2 1 (34 + 7 * x0.toNatClampNeg)).toInt = 1 ∧ (v2 1 (38 + 7 * x0.toNatClampNeg)).toInt ≠ 5 → r2 = v2 1 (38 + 7 * x0.toNatClampNeg) + 1 - 1 ∧ (∀ n : Nat, u2 1 n = if n = 38 + 7 * x0.toNatClampNeg then v2 1 (38 + 7 * x0.toNatClampNeg) + 1 else if n = 162 + 25 * x0.toNatClampNeg + 5 * (v2 1 (38 + 7 * x0.toNatClampNeg)).toNatClampNeg then x4 else if n = 161 + 25 * x0.toNatClampNeg + 5 * (v2 1 (38 + 7 * x0.toNatClampNeg)).toNatClampNeg then x3 else if n = 160 + 25 * x0.toNatClampNeg + 5 * (v2 1 (38 + 7 * x0.toNatClampNeg)).toNatClampNeg then x2 else if n = 159 + 25 * x0.toNatClampNeg + 5 * (v2 1 (38 + 7 * x0.toNatClampNeg)).toNatClampNeg then 1 else if n = 158 + 25 * x0.toNatClampNeg + 5 * (v2 1 (38 + 7 * x0.toNatClampNeg)).toNatClampNeg then x1 else v2 1 n) ∧ (∀ k : Nat, k ≠ 1 → u2 k = v2 k))) : r = r2 ∧ RR n u u2 := by
  have e0 : v 13 0 = v2 1 0 := h.1.1 _ _ _ (lk_a (by decide))
  have e1 : v 13 1 = v2 1 1 := h.1.1 _ _ _ (lk_a (by decide))
  have e2 : v 13 2 = v2 1 2 := h.1.1 _ _ _ (lk_a (by decide))
  have e3 : v 13 3 = v2 1 3 := h.1.1 _ _ _ (lk_a (by decide))
  have hb0 := hQ 1 0 8 (by decide)
  have hb1 := hQ 1 1 4 (by decide)
  have hb2 := hQ 1 2 6 (by decide)
  have hb3 := hQ 1 3 6 (by decide)
  rw [e2] at p
  by_cases hC : (0 ≤ x0.toInt ∧ x0.toInt < (v2 1 2).toInt) ∧ (0 ≤ x1.toInt ∧ x1.toInt ≤ 1) ∧ (0 ≤ x2.toInt ∧ x2.toInt ≤ 5) ∧ (0 ≤ x3.toInt ∧ x3.toInt ≤ 23) ∧ x3.toInt ≤ x4.toInt ∧ x4.toInt ≤ 23
  · have zX := t_nn (x := x0) (by omega)
    have hX : x0.toNatClampNeg < 6 := by omega
    have ha : (x0.toNatClampNeg : Int) < (v2 1 2).toInt := by omega
    have ev : v (29 + 15 * x0.toNatClampNeg) 0 = v2 1 (34 + 7 * x0.toNatClampNeg) := h.1.1 _ _ _ (lk_c0 hX ha)
    have ew : v (29 + 15 * x0.toNatClampNeg) 5 = v2 1 (38 + 7 * x0.toNatClampNeg) := h.1.1 _ _ _ (lk_c5 hX ha)
    rw [ev, ew] at p
    have hb := hQ 1 (38 + 7 * x0.toNatClampNeg) 5 (bS_c (by omega) (by omega))
    by_cases hD : (v2 1 (34 + 7 * x0.toNatClampNeg)).toInt = 1
    · by_cases hE : (v2 1 (38 + 7 * x0.toNatClampNeg)).toInt = 5
      · obtain ⟨p1, p2⟩ := p.2.2.1 ⟨hC, hD, by omega⟩
        obtain ⟨q1, q2⟩ := q.2.2.1 ⟨hC, hD, hE⟩
        rw [p1, q1, p2, q2]
        exact ⟨rfl, h⟩
      · obtain ⟨p1, p2⟩ := p.2.2.2 ⟨hC, hD, by omega⟩
        obtain ⟨q1, q2, q3⟩ := q.2.2.2 ⟨hC, hD, hE⟩
        have zT := t_nn (x := v2 1 (38 + 7 * x0.toNatClampNeg)) (by omega)
        have k1 : (1 : Int32).toInt = 1 := by decide
        have hx : (v2 1 (38 + 7 * x0.toNatClampNeg) + 1).toInt = (v2 1 (38 + 7 * x0.toNatClampNeg)).toInt + 1 := by rw [t_add (by rw [k1]; omega), k1]
        refine ⟨?_, h.wr q3 (funext fun j => by rw [p2, if_neg (by omega), if_neg (by omega), if_neg (by omega), if_neg (by omega), if_neg (by omega), if_neg (by omega)]) (fun k hk => funext fun j => by rw [p2, if_neg (by omega), if_neg (by omega), if_neg (by omega), if_neg (by omega), if_neg (by omega), if_neg (by omega)]) ⟨RL_term hX (by omega) (by omega) hx p2 q2 h.1.1, h.1.2.1.cg (by rw [q2, if_neg (by omega), if_neg (by omega), if_neg (by omega), if_neg (by omega), if_neg (by omega), if_neg (by omega)]) (fun c hc => ⟨by rw [p2, if_neg (by omega), if_neg (by omega), if_neg (by omega), if_neg (by omega), if_neg (by omega), if_neg (by omega)], by rw [p2, if_neg (by omega), if_neg (by omega), if_neg (by omega), if_neg (by omega), if_neg (by omega), if_neg (by omega)], by rw [p2, if_neg (by omega), if_neg (by omega), if_neg (by omega), if_neg (by omega), if_neg (by omega), if_neg (by omega)]⟩) (fun c hc => ⟨by rw [q2, if_neg (by omega), if_neg (by omega), if_neg (by omega), if_neg (by omega), if_neg (by omega), if_neg (by omega)], by rw [q2, if_neg (by omega), if_neg (by omega), if_neg (by omega), if_neg (by omega), if_neg (by omega), if_neg (by omega)], by rw [q2, if_neg (by omega), if_neg (by omega), if_neg (by omega), if_neg (by omega), if_neg (by omega), if_neg (by omega)], by rw [q2, if_neg (by omega), if_neg (by omega), if_neg (by omega), if_neg (by omega), if_neg (by omega), if_neg (by omega)]⟩), h.1.2.2.1.cg (by rw [q2, if_neg (by omega), if_neg (by omega), if_neg (by omega), if_neg (by omega), if_neg (by omega), if_neg (by omega)]) (by rw [q2, if_neg (by omega), if_neg (by omega), if_neg (by omega), if_neg (by omega), if_neg (by omega), if_neg (by omega)]) (fun m hm => by rw [q2, if_neg (by omega), if_neg (by omega), if_neg (by omega), if_neg (by omega), if_neg (by omega), if_neg (by omega)]), h.1.2.2.2.cg hb3.2 (by rw [q2, if_neg (by omega), if_neg (by omega), if_neg (by omega), if_neg (by omega), if_neg (by omega), if_neg (by omega)]) (by rw [q2, if_neg (by omega), if_neg (by omega), if_neg (by omega), if_neg (by omega), if_neg (by omega), if_neg (by omega)]) (fun n h1 h2 => by rw [q2, if_neg (by omega), if_neg (by omega), if_neg (by omega), if_neg (by omega), if_neg (by omega), if_neg (by omega)]) (fun c hc => by rw [p2, if_neg (by omega), if_neg (by omega), if_neg (by omega), if_neg (by omega), if_neg (by omega), if_neg (by omega)])⟩⟩
        rw [p1, q1]
        refine Int32.toInt_inj.mp ?_
        rw [t_sub (by rw [hx, k1]; omega), hx, k1]
        omega
    · obtain ⟨p1, p2⟩ := p.2.1 ⟨hC, hD⟩
      obtain ⟨q1, q2⟩ := q.2.1 ⟨hC, hD⟩
      rw [p1, q1, p2, q2]
      exact ⟨rfl, h⟩
  · obtain ⟨p1, p2⟩ := p.1 hC
    obtain ⟨q1, q2⟩ := q.1 hC
    rw [p1, q1, p2, q2]
    exact ⟨rfl, h⟩
