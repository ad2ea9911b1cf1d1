set_option maxRecDepth 20000 in
theorem db_X3_copyFrom_0 : (decode cX3_copyFrom 0 = .ok (.aload_n 0, 1)) ∧ (decode cX3_copyFrom 1 = .ok (.aload_n 1, 1)) ∧ (decode cX3_copyFrom 2 = .ok (.getfield 7, 3)) ∧ (decode cX3_copyFrom 5 = .ok (.putfield 7, 3)) ∧ (decode cX3_copyFrom 8 = .ok (.aload_n 0, 1)) ∧ (decode cX3_copyFrom 9 = .ok (.aload_n 1, 1)) ∧ (decode cX3_copyFrom 10 = .ok (.getfield 13, 3)) ∧ (decode cX3_copyFrom 13 = .ok (.putfield 13, 3)) := by decide +kernel
theorem dX3_copyFrom_0 : decode cX3_copyFrom 0 = .ok (.aload_n 0, 1) := db_X3_copyFrom_0.1
theorem dX3_copyFrom_1 : decode cX3_copyFrom 1 = .ok (.aload_n 1, 1) := db_X3_copyFrom_0.2.1
theorem dX3_copyFrom_2 : decode cX3_copyFrom 2 = .ok (.getfield 7, 3) := db_X3_copyFrom_0.2.2.1
theorem dX3_copyFrom_5 : decode cX3_copyFrom 5 = .ok (.putfield 7, 3) := db_X3_copyFrom_0.2.2.2.1
theorem dX3_copyFrom_8 : decode cX3_copyFrom 8 = .ok (.aload_n 0, 1) := db_X3_copyFrom_0.2.2.2.2.1
theorem dX3_copyFrom_9 : decode cX3_copyFrom 9 = .ok (.aload_n 1, 1) := db_X3_copyFrom_0.2.2.2.2.2.1
theorem dX3_copyFrom_10 : decode cX3_copyFrom 10 = .ok (.getfield 13, 3) := db_X3_copyFrom_0.2.2.2.2.2.2.1
theorem dX3_copyFrom_13 : decode cX3_copyFrom 13 = .ok (.putfield 13, 3) := db_X3_copyFrom_0.2.2.2.2.2.2.2
theorem dX3_copyFrom_16 : decode cX3_copyFrom 16 = .ok (.return_, 1) := by decide +kernel
set_option maxRecDepth 20000 in
theorem db_X2_copyFrom_0 : (decode cX2_copyFrom 0 = .ok (.aload_n 0, 1)) ∧ (decode cX2_copyFrom 1 = .ok (.aload_n 1, 1)) ∧ (decode cX2_copyFrom 2 = .ok (.getfield 7, 3)) ∧ (decode cX2_copyFrom 5 = .ok (.putfield 7, 3)) ∧ (decode cX2_copyFrom 8 = .ok (.aload_n 0, 1)) ∧ (decode cX2_copyFrom 9 = .ok (.aload_n 1, 1)) ∧ (decode cX2_copyFrom 10 = .ok (.getfield 13, 3)) ∧ (decode cX2_copyFrom 13 = .ok (.putfield 13, 3)) := by decide +kernel
theorem dX2_copyFrom_0 : decode cX2_copyFrom 0 = .ok (.aload_n 0, 1) := db_X2_copyFrom_0.1
theorem dX2_copyFrom_1 : decode cX2_copyFrom 1 = .ok (.aload_n 1, 1) := db_X2_copyFrom_0.2.1
theorem dX2_copyFrom_2 : decode cX2_copyFrom 2 = .ok (.getfield 7, 3) := db_X2_copyFrom_0.2.2.1
theorem dX2_copyFrom_5 : decode cX2_copyFrom 5 = .ok (.putfield 7, 3) := db_X2_copyFrom_0.2.2.2.1
theorem dX2_copyFrom_8 : decode cX2_copyFrom 8 = .ok (.aload_n 0, 1) := db_X2_copyFrom_0.2.2.2.2.1
theorem dX2_copyFrom_9 : decode cX2_copyFrom 9 = .ok (.aload_n 1, 1) := db_X2_copyFrom_0.2.2.2.2.2.1
theorem dX2_copyFrom_10 : decode cX2_copyFrom 10 = .ok (.getfield 13, 3) := db_X2_copyFrom_0.2.2.2.2.2.2.1
theorem dX2_copyFrom_13 : decode cX2_copyFrom 13 = .ok (.putfield 13, 3) := db_X2_copyFrom_0.2.2.2.2.2.2.2
set_option maxRecDepth 20000 in
theorem db_X2_copyFrom_16 : (decode cX2_copyFrom 16 = .ok (.aload_n 0, 1)) ∧ (decode cX2_copyFrom 17 = .ok (.aload_n 1, 1)) ∧ (decode cX2_copyFrom 18 = .ok (.getfield 16, 3)) ∧ (decode cX2_copyFrom 21 = .ok (.putfield 16, 3)) ∧ (decode cX2_copyFrom 24 = .ok (.return_, 1)) := by decide +kernel
theorem dX2_copyFrom_16 : decode cX2_copyFrom 16 = .ok (.aload_n 0, 1) := db_X2_copyFrom_16.1
theorem dX2_copyFrom_17 : decode cX2_copyFrom 17 = .ok (.aload_n 1, 1) := db_X2_copyFrom_16.2.1
theorem dX2_copyFrom_18 : decode cX2_copyFrom 18 = .ok (.getfield 16, 3) := db_X2_copyFrom_16.2.2.1
theorem dX2_copyFrom_21 : decode cX2_copyFrom 21 = .ok (.putfield 16, 3) := db_X2_copyFrom_16.2.2.2.1
theorem dX2_copyFrom_24 : decode cX2_copyFrom 24 = .ok (.return_, 1) := db_X2_copyFrom_16.2.2.2.2
set_option maxRecDepth 20000 in
theorem db_X6_copyFrom_0 : (decode cX6_copyFrom 0 = .ok (.aload_n 0, 1)) ∧ (decode cX6_copyFrom 1 = .ok (.aload_n 1, 1)) ∧ (decode cX6_copyFrom 2 = .ok (.getfield 16, 3)) ∧ (decode cX6_copyFrom 5 = .ok (.putfield 16, 3)) ∧ (decode cX6_copyFrom 8 = .ok (.aload_n 0, 1)) ∧ (decode cX6_copyFrom 9 = .ok (.aload_n 1, 1)) ∧ (decode cX6_copyFrom 10 = .ok (.getfield 19, 3)) ∧ (decode cX6_copyFrom 13 = .ok (.putfield 19, 3)) := by decide +kernel
theorem dX6_copyFrom_0 : decode cX6_copyFrom 0 = .ok (.aload_n 0, 1) := db_X6_copyFrom_0.1
theorem dX6_copyFrom_1 : decode cX6_copyFrom 1 = .ok (.aload_n 1, 1) := db_X6_copyFrom_0.2.1
theorem dX6_copyFrom_2 : decode cX6_copyFrom 2 = .ok (.getfield 16, 3) := db_X6_copyFrom_0.2.2.1
theorem dX6_copyFrom_5 : decode cX6_copyFrom 5 = .ok (.putfield 16, 3) := db_X6_copyFrom_0.2.2.2.1
theorem dX6_copyFrom_8 : decode cX6_copyFrom 8 = .ok (.aload_n 0, 1) := db_X6_copyFrom_0.2.2.2.2.1
theorem dX6_copyFrom_9 : decode cX6_copyFrom 9 = .ok (.aload_n 1, 1) := db_X6_copyFrom_0.2.2.2.2.2.1
theorem dX6_copyFrom_10 : decode cX6_copyFrom 10 = .ok (.getfield 19, 3) := db_X6_copyFrom_0.2.2.2.2.2.2.1
theorem dX6_copyFrom_13 : decode cX6_copyFrom 13 = .ok (.putfield 19, 3) := db_X6_copyFrom_0.2.2.2.2.2.2.2
set_option maxRecDepth 20000 in
theorem db_X6_copyFrom_16 : (decode cX6_copyFrom 16 = .ok (.aload_n 0, 1)) ∧ (decode cX6_copyFrom 17 = .ok (.aload_n 1, 1)) ∧ (decode cX6_copyFrom 18 = .ok (.getfield 23, 3)) ∧ (decode cX6_copyFrom 21 = .ok (.putfield 23, 3)) ∧ (decode cX6_copyFrom 24 = .ok (.aload_n 0, 1)) ∧ (decode cX6_copyFrom 25 = .ok (.aload_n 1, 1)) ∧ (decode cX6_copyFrom 26 = .ok (.getfield 13, 3)) ∧ (decode cX6_copyFrom 29 = .ok (.putfield 13, 3)) := by decide +kernel
theorem dX6_copyFrom_16 : decode cX6_copyFrom 16 = .ok (.aload_n 0, 1) := db_X6_copyFrom_16.1
theorem dX6_copyFrom_17 : decode cX6_copyFrom 17 = .ok (.aload_n 1, 1) := db_X6_copyFrom_16.2.1
theorem dX6_copyFrom_18 : decode cX6_copyFrom 18 = .ok (.getfield 23, 3) := db_X6_copyFrom_16.2.2.1
theorem dX6_copyFrom_21 : decode cX6_copyFrom 21 = .ok (.putfield 23, 3) := db_X6_copyFrom_16.2.2.2.1
theorem dX6_copyFrom_24 : decode cX6_copyFrom 24 = .ok (.aload_n 0, 1) := db_X6_copyFrom_16.2.2.2.2.1
theorem dX6_copyFrom_25 : decode cX6_copyFrom 25 = .ok (.aload_n 1, 1) := db_X6_copyFrom_16.2.2.2.2.2.1
theorem dX6_copyFrom_26 : decode cX6_copyFrom 26 = .ok (.getfield 13, 3) := db_X6_copyFrom_16.2.2.2.2.2.2.1
theorem dX6_copyFrom_29 : decode cX6_copyFrom 29 = .ok (.putfield 13, 3) := db_X6_copyFrom_16.2.2.2.2.2.2.2
set_option maxRecDepth 20000 in
theorem db_X6_copyFrom_32 : (decode cX6_copyFrom 32 = .ok (.aload_n 0, 1)) ∧ (decode cX6_copyFrom 33 = .ok (.aload_n 1, 1)) ∧ (decode cX6_copyFrom 34 = .ok (.getfield 7, 3)) ∧ (decode cX6_copyFrom 37 = .ok (.putfield 7, 3)) ∧ (decode cX6_copyFrom 40 = .ok (.return_, 1)) := by decide +kernel
theorem dX6_copyFrom_32 : decode cX6_copyFrom 32 = .ok (.aload_n 0, 1) := db_X6_copyFrom_32.1
theorem dX6_copyFrom_33 : decode cX6_copyFrom 33 = .ok (.aload_n 1, 1) := db_X6_copyFrom_32.2.1
theorem dX6_copyFrom_34 : decode cX6_copyFrom 34 = .ok (.getfield 7, 3) := db_X6_copyFrom_32.2.2.1
theorem dX6_copyFrom_37 : decode cX6_copyFrom 37 = .ok (.putfield 7, 3) := db_X6_copyFrom_32.2.2.2.1
theorem dX6_copyFrom_40 : decode cX6_copyFrom 40 = .ok (.return_, 1) := db_X6_copyFrom_32.2.2.2.2
/-- a copied row, place by place -/
theorem up3 {v : Nat → Nat → Int32} {f : Nat → Int32} {k0 n : Nat} (k j : Nat) : upr v k0 (va_cpy f (v k0) (0 : Int32).toNatClampNeg (0 : Int32).toNatClampNeg n) k j = if k = k0 ∧ j < n then f j else v k j := by
  by_cases h : k = k0
  · subst h
    rw [upr_s]
    show (if 0 ≤ j ∧ j < 0 + n then f (0 + (j - 0)) else v k j) = _
    by_cases h2 : j < n
    · rw [if_pos ⟨Nat.zero_le j, by omega⟩, if_pos ⟨rfl, h2⟩, Nat.zero_add, Nat.sub_zero]
    · rw [if_neg (fun q => h2 (by omega)), if_neg (fun q => h2 q.2)]
  · rw [upr_n h, if_neg (fun q => h q.1)]
/-- what of a Case is in use, by its row of numbers -/
def lvC (r : Nat → Int32) (o j : Nat) : Prop := (o = 0 ∧ j < 6) ∨ (o = 1 ∧ j < 2) ∨ (o = 2 ∧ j < 2) ∨ ((o = 4 ∨ o = 5) ∧ (j : Int) < (r 2).toInt) ∨ ((o = 7 ∨ o = 8) ∧ j < 24) ∨ (10 ≤ o ∧ o < 15 ∧ (o : Int) < 10 + (r 5).toInt ∧ j < 5)
/-- what of a House is in use -/
def lvH (v : Nat → Nat → Int32) (B o j : Nat) : Prop := (o = 0 ∧ j < 4) ∨ (4 ≤ o ∧ o < 12 ∧ (o : Int) < 4 + (v B 0).toInt ∧ j < 2) ∨ (12 ≤ o ∧ o < 16 ∧ (o : Int) < 12 + (v B 1).toInt ∧ j < 3) ∨ (∃ c q : Nat, c < 6 ∧ (c : Int) < (v B 2).toInt ∧ o = 16 + 15 * c + q ∧ lvC (v (B + 16 + 15 * c)) q j)

set_option maxHeartbeats 4000000 in
set_option maxRecDepth 100000 in
theorem e_X3_copyFrom_a (l : Launch) (dC : Nat → ClassId) (dI : Nat → Nat → Nat) (cy : Nat → ClassId) (sz : Nat) (ad : Nat → Nat) (kv : Value) (N : Nat) (hN : 119 ≤ N) (v : Nat → Nat → Int32) (hv : Iv v) (i : Nat) (hi : i < 8) (hN2 : 225 ≤ N) : Met l yX3_copyFrom wsX3_copyFrom ({ frames := 0, cells := 0, slots := 0, locals := 0 }) (va_Pc [.ref (ad (17 + i)), .ref (ad (123 + i))] (ex_Pre dC dI cy sz (wl ad kv cy N v))) (va_Qv (fun (u : Nat → Nat → Int32) => Iv u ∧ (∀ k j : Nat, u k j = if k = 17 + i ∧ j < 2 then v (123 + i) j else v k j)) (fun u t => ex_Pst dC dI (va_A (wl ad kv cy N v) sz) (wl ad kv cy N u) t) (va_A (wl ad kv cy N v) sz)) 0 0 (va_A (wl ad kv cy N v) sz) := by
  refine Met.ofW (cc := cX3_copyFrom) (maxL := 2) (ret := none) (by decide) rfl ?_
  intro p e s m args below meth c s₁ B hml hv
  obtain ⟨rfl, hsz, hE, hP, hK, hD0⟩ := hv
  have hx := B.exec
  have hb := B.bytes
  have hr := B.returns
  have hts := atoms_spec (ws := wsX3_copyFrom) B.pre
  have hown : s.vm.findClass RX3 = some m.cls := findClass_of_methodNamed B.named
  have hlocks := B.notSynchronized
  subst hsz
  have hD := hD0.self (sz := s.heap.size)
  generalize hAe : va_A (wl ad kv cy N v) s.heap.size = A at hD ⊢
  have hA : ∀ q : Nat, s.heap.size ≤ q → A q := fun q h => by rw [← hAe]; exact Or.inr h
  have hS : va_S A s.heap s.heap [] := va_S.rf
  have hP : va_P (dC, dI) vwCl (wl ad kv cy N v) s.heap := hP
  have hl := lv_entry ([.ref (ad (17 + i)), .ref (ad (123 + i))]) (n := 2) (Nat.le_of_ble_eq_true rfl)
  rw [lg_entry_eq]
  generalize (lg_sl ([.ref (ad (17 + i)), .ref (ad (123 + i))]) ++ List.replicate (2 - (lg_sl ([.ref (ad (17 + i)), .ref (ad (123 + i))])).length) Slot.unset).toArray = ls at hl ⊢
  have hl : lv_has ls 2 [(0, .ref (ad (17 + i))), (1, .ref (ad (123 + i)))] := hl
  refine lv_aload_n hx hb dX3_copyFrom_0 rfl (lv_at hl 0 rfl) ?_
  refine lv_aload_n hx hb dX3_copyFrom_1 rfl (lv_at hl 1 rfl) ?_
  refine va_get (D := (dC, dI)) (ci := 3) (v := .int (v (123 + i) 0)) (C := RX3) (T := TX3) (N := 2) hx hb hts iwX3_copyFrom_X3 hown hK hP (123 + i) (wl_at (by omega) (ce_7 (kd_p _ hi).2)) rfl 0 (by decide) (hts (.fieldLink RX3 7 "QuietStairs$Party" "floor" "I") fwX3_copyFrom_1) (fun _ h9 => h9) rfl dX3_copyFrom_2 ?_
  refine lv_topi (fun x_1 ex_1 => ?_)
  have qx_1 : x_1.toInt = (v (123 + i) (0)).toInt := congrArg Int32.toInt ex_1
  refine va_put (D := (dC, dI)) (ci := 3) (v := .int x_1) (ty := .int) (C := RX3) (T := TX3) (N := 2) hx hb hts iwX3_copyFrom_X3 tyX3 tyX3_ok nmX3 hown hK hP hD hS (17 + i) (wl_at (by omega) (ce_7 (kd_p _ hi).1)) rfl 0 (by decide) (hts (.fieldLink RX3 7 "QuietStairs$Party" "floor" "I") fwX3_copyFrom_1) (fun _ h9 => h9) rfl (by decide +kernel) rfl rfl (Nat.le_of_ble_eq_true rfl) dX3_copyFrom_5 (fun H locs hP hD hS => ?_)
  obtain ⟨v_2, ev_2⟩ : ∃ u : Nat → Nat → Int32, u = upr v (17 + i) (upd (v (17 + i)) 0 x_1) := ⟨_, rfl⟩
  have hP : va_P (dC, dI) vwCl (wl ad kv cy N v_2) H := by rw [ev_2, ← wl_put (e := _) (ce_7 (kd_p _ hi).1)]; exact hP
  have hD : va_D A (wl ad kv cy N v_2) := by rw [ev_2, ← wl_put (e := _) (ce_7 (kd_p _ hi).1)]; exact hD
  have hv : Iv v_2 := by rw [ev_2]; exact hv.put (K := 7) (kd_p _ hi).1 (fun h q => by simp [bd] at q)
  refine lv_aload_n hx hb dX3_copyFrom_8 rfl (lv_at hl 0 rfl) ?_
  refine lv_aload_n hx hb dX3_copyFrom_9 rfl (lv_at hl 1 rfl) ?_
  refine va_get (D := (dC, dI)) (ci := 3) (v := .int (v_2 (123 + i) 1)) (C := RX3) (T := TX3) (N := 2) hx hb hts iwX3_copyFrom_X3 hown hK hP (123 + i) (wl_at (by omega) (ce_7 (kd_p _ hi).2)) rfl 1 (by decide) (hts (.fieldLink RX3 13 "QuietStairs$Party" "tongue" "I") fwX3_copyFrom_2) (fun _ h9 => h9) rfl dX3_copyFrom_10 ?_
  refine lv_topi (fun x_3 ex_3 => ?_)
  rw [ev_2, upr_n (by omega)] at ex_3
  have qx_3 : x_3.toInt = (v (123 + i) (1)).toInt := congrArg Int32.toInt ex_3
  refine va_put (D := (dC, dI)) (ci := 3) (v := .int x_3) (ty := .int) (C := RX3) (T := TX3) (N := 2) hx hb hts iwX3_copyFrom_X3 tyX3 tyX3_ok nmX3 hown hK hP hD hS (17 + i) (wl_at (by omega) (ce_7 (kd_p _ hi).1)) rfl 1 (by decide) (hts (.fieldLink RX3 13 "QuietStairs$Party" "tongue" "I") fwX3_copyFrom_2) (fun _ h9 => h9) rfl (by decide +kernel) rfl rfl (Nat.le_of_ble_eq_true rfl) dX3_copyFrom_13 (fun H locs hP hD hS => ?_)
  obtain ⟨v_4, ev_4⟩ : ∃ u : Nat → Nat → Int32, u = upr v_2 (17 + i) (upd (v_2 (17 + i)) 1 x_3) := ⟨_, rfl⟩
  have hP : va_P (dC, dI) vwCl (wl ad kv cy N v_4) H := by rw [ev_4, ← wl_put (e := _) (ce_7 (kd_p _ hi).1)]; exact hP
  have hD : va_D A (wl ad kv cy N v_4) := by rw [ev_4, ← wl_put (e := _) (ce_7 (kd_p _ hi).1)]; exact hD
  have hv : Iv v_4 := by rw [ev_4]; exact hv.put (K := 7) (kd_p _ hi).1 (fun h q => by simp [bd] at q)
  have hpost : ∀ k j : Nat, v_4 k j = if k = 17 + i ∧ j < 2 then v (123 + i) j else v k j := by
    intro k j
    rw [ev_4, up2, ev_2, up2, ex_3, ex_1]
    by_cases h : k = 17 + i ∧ j < 2
    · rw [if_pos h]
      obtain ⟨h1, h2⟩ := h
      subst h1
      rcases (show j = 0 ∨ j = 1 by omega) with rfl | rfl
      · rw [if_neg (by omega), if_pos ⟨rfl, rfl⟩]
      · rw [if_pos ⟨rfl, rfl⟩]
    · rw [if_neg h, if_neg (by omega), if_neg (by omega)]
  exact W.vret hx hb hr (fun t ht hW => ⟨⟨v_4, rfl, ⟨hv, hpost⟩, by rw [ht]; exact hP, hD⟩, hS.F ht⟩) hS.2.2 dX3_copyFrom_16

set_option maxHeartbeats 4000000 in
set_option maxRecDepth 100000 in
theorem e_X3_copyFrom_b (l : Launch) (dC : Nat → ClassId) (dI : Nat → Nat → Nat) (cy : Nat → ClassId) (sz : Nat) (ad : Nat → Nat) (kv : Value) (N : Nat) (hN : 119 ≤ N) (v : Nat → Nat → Int32) (hv : Iv v) (i : Nat) (hi : i < 8) (hN2 : 225 ≤ N) : Met l yX3_copyFrom wsX3_copyFrom ({ frames := 0, cells := 0, slots := 0, locals := 0 }) (va_Pc [.ref (ad (123 + i)), .ref (ad (17 + i))] (ex_Pre dC dI cy sz (wl ad kv cy N v))) (va_Qv (fun (u : Nat → Nat → Int32) => Iv u ∧ (∀ k j : Nat, u k j = if k = 123 + i ∧ j < 2 then v (17 + i) j else v k j)) (fun u t => ex_Pst dC dI (va_A (wl ad kv cy N v) sz) (wl ad kv cy N u) t) (va_A (wl ad kv cy N v) sz)) 0 0 (va_A (wl ad kv cy N v) sz) := by
  refine Met.ofW (cc := cX3_copyFrom) (maxL := 2) (ret := none) (by decide) rfl ?_
  intro p e s m args below meth c s₁ B hml hv
  obtain ⟨rfl, hsz, hE, hP, hK, hD0⟩ := hv
  have hx := B.exec
  have hb := B.bytes
  have hr := B.returns
  have hts := atoms_spec (ws := wsX3_copyFrom) B.pre
  have hown : s.vm.findClass RX3 = some m.cls := findClass_of_methodNamed B.named
  have hlocks := B.notSynchronized
  subst hsz
  have hD := hD0.self (sz := s.heap.size)
  generalize hAe : va_A (wl ad kv cy N v) s.heap.size = A at hD ⊢
  have hA : ∀ q : Nat, s.heap.size ≤ q → A q := fun q h => by rw [← hAe]; exact Or.inr h
  have hS : va_S A s.heap s.heap [] := va_S.rf
  have hP : va_P (dC, dI) vwCl (wl ad kv cy N v) s.heap := hP
  have hl := lv_entry ([.ref (ad (123 + i)), .ref (ad (17 + i))]) (n := 2) (Nat.le_of_ble_eq_true rfl)
  rw [lg_entry_eq]
  generalize (lg_sl ([.ref (ad (123 + i)), .ref (ad (17 + i))]) ++ List.replicate (2 - (lg_sl ([.ref (ad (123 + i)), .ref (ad (17 + i))])).length) Slot.unset).toArray = ls at hl ⊢
  have hl : lv_has ls 2 [(0, .ref (ad (123 + i))), (1, .ref (ad (17 + i)))] := hl
  refine lv_aload_n hx hb dX3_copyFrom_0 rfl (lv_at hl 0 rfl) ?_
  refine lv_aload_n hx hb dX3_copyFrom_1 rfl (lv_at hl 1 rfl) ?_
  refine va_get (D := (dC, dI)) (ci := 3) (v := .int (v (17 + i) 0)) (C := RX3) (T := TX3) (N := 2) hx hb hts iwX3_copyFrom_X3 hown hK hP (17 + i) (wl_at (by omega) (ce_7 (kd_p _ hi).1)) rfl 0 (by decide) (hts (.fieldLink RX3 7 "QuietStairs$Party" "floor" "I") fwX3_copyFrom_1) (fun _ h9 => h9) rfl dX3_copyFrom_2 ?_
  refine lv_topi (fun x_1 ex_1 => ?_)
  have qx_1 : x_1.toInt = (v (17 + i) (0)).toInt := congrArg Int32.toInt ex_1
  refine va_put (D := (dC, dI)) (ci := 3) (v := .int x_1) (ty := .int) (C := RX3) (T := TX3) (N := 2) hx hb hts iwX3_copyFrom_X3 tyX3 tyX3_ok nmX3 hown hK hP hD hS (123 + i) (wl_at (by omega) (ce_7 (kd_p _ hi).2)) rfl 0 (by decide) (hts (.fieldLink RX3 7 "QuietStairs$Party" "floor" "I") fwX3_copyFrom_1) (fun _ h9 => h9) rfl (by decide +kernel) rfl rfl (Nat.le_of_ble_eq_true rfl) dX3_copyFrom_5 (fun H locs hP hD hS => ?_)
  obtain ⟨v_2, ev_2⟩ : ∃ u : Nat → Nat → Int32, u = upr v (123 + i) (upd (v (123 + i)) 0 x_1) := ⟨_, rfl⟩
  have hP : va_P (dC, dI) vwCl (wl ad kv cy N v_2) H := by rw [ev_2, ← wl_put (e := _) (ce_7 (kd_p _ hi).2)]; exact hP
  have hD : va_D A (wl ad kv cy N v_2) := by rw [ev_2, ← wl_put (e := _) (ce_7 (kd_p _ hi).2)]; exact hD
  have hv : Iv v_2 := by rw [ev_2]; exact hv.put (K := 7) (kd_p _ hi).2 (fun h q => by simp [bd] at q)
  refine lv_aload_n hx hb dX3_copyFrom_8 rfl (lv_at hl 0 rfl) ?_
  refine lv_aload_n hx hb dX3_copyFrom_9 rfl (lv_at hl 1 rfl) ?_
  refine va_get (D := (dC, dI)) (ci := 3) (v := .int (v_2 (17 + i) 1)) (C := RX3) (T := TX3) (N := 2) hx hb hts iwX3_copyFrom_X3 hown hK hP (17 + i) (wl_at (by omega) (ce_7 (kd_p _ hi).1)) rfl 1 (by decide) (hts (.fieldLink RX3 13 "QuietStairs$Party" "tongue" "I") fwX3_copyFrom_2) (fun _ h9 => h9) rfl dX3_copyFrom_10 ?_
  refine lv_topi (fun x_3 ex_3 => ?_)
  rw [ev_2, upr_n (by omega)] at ex_3
  have qx_3 : x_3.toInt = (v (17 + i) (1)).toInt := congrArg Int32.toInt ex_3
  refine va_put (D := (dC, dI)) (ci := 3) (v := .int x_3) (ty := .int) (C := RX3) (T := TX3) (N := 2) hx hb hts iwX3_copyFrom_X3 tyX3 tyX3_ok nmX3 hown hK hP hD hS (123 + i) (wl_at (by omega) (ce_7 (kd_p _ hi).2)) rfl 1 (by decide) (hts (.fieldLink RX3 13 "QuietStairs$Party" "tongue" "I") fwX3_copyFrom_2) (fun _ h9 => h9) rfl (by decide +kernel) rfl rfl (Nat.le_of_ble_eq_true rfl) dX3_copyFrom_13 (fun H locs hP hD hS => ?_)
  obtain ⟨v_4, ev_4⟩ : ∃ u : Nat → Nat → Int32, u = upr v_2 (123 + i) (upd (v_2 (123 + i)) 1 x_3) := ⟨_, rfl⟩
  have hP : va_P (dC, dI) vwCl (wl ad kv cy N v_4) H := by rw [ev_4, ← wl_put (e := _) (ce_7 (kd_p _ hi).2)]; exact hP
  have hD : va_D A (wl ad kv cy N v_4) := by rw [ev_4, ← wl_put (e := _) (ce_7 (kd_p _ hi).2)]; exact hD
  have hv : Iv v_4 := by rw [ev_4]; exact hv.put (K := 7) (kd_p _ hi).2 (fun h q => by simp [bd] at q)
  have hpost : ∀ k j : Nat, v_4 k j = if k = 123 + i ∧ j < 2 then v (17 + i) j else v k j := by
    intro k j
    rw [ev_4, up2, ev_2, up2, ex_3, ex_1]
    by_cases h : k = 123 + i ∧ j < 2
    · rw [if_pos h]
      obtain ⟨h1, h2⟩ := h
      subst h1
      rcases (show j = 0 ∨ j = 1 by omega) with rfl | rfl
      · rw [if_neg (by omega), if_pos ⟨rfl, rfl⟩]
      · rw [if_pos ⟨rfl, rfl⟩]
    · rw [if_neg h, if_neg (by omega), if_neg (by omega)]
  exact W.vret hx hb hr (fun t ht hW => ⟨⟨v_4, rfl, ⟨hv, hpost⟩, by rw [ht]; exact hP, hD⟩, hS.F ht⟩) hS.2.2 dX3_copyFrom_16

set_option maxHeartbeats 4000000 in
set_option maxRecDepth 100000 in
theorem e_X2_copyFrom_a (l : Launch) (dC : Nat → ClassId) (dI : Nat → Nat → Nat) (cy : Nat → ClassId) (sz : Nat) (ad : Nat → Nat) (kv : Value) (N : Nat) (hN : 119 ≤ N) (v : Nat → Nat → Int32) (hv : Iv v) (i : Nat) (hi : i < 4) (hN2 : 225 ≤ N) : Met l yX2_copyFrom wsX2_copyFrom ({ frames := 0, cells := 0, slots := 0, locals := 0 }) (va_Pc [.ref (ad (25 + i)), .ref (ad (131 + i))] (ex_Pre dC dI cy sz (wl ad kv cy N v))) (va_Qv (fun (u : Nat → Nat → Int32) => Iv u ∧ (∀ k j : Nat, u k j = if k = 25 + i ∧ j < 3 then v (131 + i) j else v k j)) (fun u t => ex_Pst dC dI (va_A (wl ad kv cy N v) sz) (wl ad kv cy N u) t) (va_A (wl ad kv cy N v) sz)) 0 0 (va_A (wl ad kv cy N v) sz) := by
  refine Met.ofW (cc := cX2_copyFrom) (maxL := 2) (ret := none) (by decide) rfl ?_
  intro p e s m args below meth c s₁ B hml hv
  obtain ⟨rfl, hsz, hE, hP, hK, hD0⟩ := hv
  have hx := B.exec
  have hb := B.bytes
  have hr := B.returns
  have hts := atoms_spec (ws := wsX2_copyFrom) B.pre
  have hown : s.vm.findClass RX2 = some m.cls := findClass_of_methodNamed B.named
  have hlocks := B.notSynchronized
  subst hsz
  have hD := hD0.self (sz := s.heap.size)
  generalize hAe : va_A (wl ad kv cy N v) s.heap.size = A at hD ⊢
  have hA : ∀ q : Nat, s.heap.size ≤ q → A q := fun q h => by rw [← hAe]; exact Or.inr h
  have hS : va_S A s.heap s.heap [] := va_S.rf
  have hP : va_P (dC, dI) vwCl (wl ad kv cy N v) s.heap := hP
  have hl := lv_entry ([.ref (ad (25 + i)), .ref (ad (131 + i))]) (n := 2) (Nat.le_of_ble_eq_true rfl)
  rw [lg_entry_eq]
  generalize (lg_sl ([.ref (ad (25 + i)), .ref (ad (131 + i))]) ++ List.replicate (2 - (lg_sl ([.ref (ad (25 + i)), .ref (ad (131 + i))])).length) Slot.unset).toArray = ls at hl ⊢
  have hl : lv_has ls 2 [(0, .ref (ad (25 + i))), (1, .ref (ad (131 + i)))] := hl
  refine lv_aload_n hx hb dX2_copyFrom_0 rfl (lv_at hl 0 rfl) ?_
  refine lv_aload_n hx hb dX2_copyFrom_1 rfl (lv_at hl 1 rfl) ?_
  refine va_get (D := (dC, dI)) (ci := 2) (v := .int (v (131 + i) 0)) (C := RX2) (T := TX2) (N := 3) hx hb hts iwX2_copyFrom_X2 hown hK hP (131 + i) (wl_at (by omega) (ce_8 (kd_m _ hi).2)) rfl 0 (by decide) (hts (.fieldLink RX2 7 "QuietStairs$Mediator" "floor" "I") fwX2_copyFrom_1) (fun _ h9 => h9) rfl dX2_copyFrom_2 ?_
  refine lv_topi (fun x_1 ex_1 => ?_)
  have qx_1 : x_1.toInt = (v (131 + i) (0)).toInt := congrArg Int32.toInt ex_1
  refine va_put (D := (dC, dI)) (ci := 2) (v := .int x_1) (ty := .int) (C := RX2) (T := TX2) (N := 3) hx hb hts iwX2_copyFrom_X2 tyX2 tyX2_ok nmX2 hown hK hP hD hS (25 + i) (wl_at (by omega) (ce_8 (kd_m _ hi).1)) rfl 0 (by decide) (hts (.fieldLink RX2 7 "QuietStairs$Mediator" "floor" "I") fwX2_copyFrom_1) (fun _ h9 => h9) rfl (by decide +kernel) rfl rfl (Nat.le_of_ble_eq_true rfl) dX2_copyFrom_5 (fun H locs hP hD hS => ?_)
  obtain ⟨v_2, ev_2⟩ : ∃ u : Nat → Nat → Int32, u = upr v (25 + i) (upd (v (25 + i)) 0 x_1) := ⟨_, rfl⟩
  have hP : va_P (dC, dI) vwCl (wl ad kv cy N v_2) H := by rw [ev_2, ← wl_put (e := _) (ce_8 (kd_m _ hi).1)]; exact hP
  have hD : va_D A (wl ad kv cy N v_2) := by rw [ev_2, ← wl_put (e := _) (ce_8 (kd_m _ hi).1)]; exact hD
  have hv : Iv v_2 := by rw [ev_2]; exact hv.put (K := 8) (kd_m _ hi).1 (fun h q => by simp [bd] at q)
  refine lv_aload_n hx hb dX2_copyFrom_8 rfl (lv_at hl 0 rfl) ?_
  refine lv_aload_n hx hb dX2_copyFrom_9 rfl (lv_at hl 1 rfl) ?_
  refine va_get (D := (dC, dI)) (ci := 2) (v := .int (v_2 (131 + i) 1)) (C := RX2) (T := TX2) (N := 3) hx hb hts iwX2_copyFrom_X2 hown hK hP (131 + i) (wl_at (by omega) (ce_8 (kd_m _ hi).2)) rfl 1 (by decide) (hts (.fieldLink RX2 13 "QuietStairs$Mediator" "tongues" "I") fwX2_copyFrom_2) (fun _ h9 => h9) rfl dX2_copyFrom_10 ?_
  refine lv_topi (fun x_3 ex_3 => ?_)
  rw [ev_2, upr_n (by omega)] at ex_3
  have qx_3 : x_3.toInt = (v (131 + i) (1)).toInt := congrArg Int32.toInt ex_3
  refine va_put (D := (dC, dI)) (ci := 2) (v := .int x_3) (ty := .int) (C := RX2) (T := TX2) (N := 3) hx hb hts iwX2_copyFrom_X2 tyX2 tyX2_ok nmX2 hown hK hP hD hS (25 + i) (wl_at (by omega) (ce_8 (kd_m _ hi).1)) rfl 1 (by decide) (hts (.fieldLink RX2 13 "QuietStairs$Mediator" "tongues" "I") fwX2_copyFrom_2) (fun _ h9 => h9) rfl (by decide +kernel) rfl rfl (Nat.le_of_ble_eq_true rfl) dX2_copyFrom_13 (fun H locs hP hD hS => ?_)
  obtain ⟨v_4, ev_4⟩ : ∃ u : Nat → Nat → Int32, u = upr v_2 (25 + i) (upd (v_2 (25 + i)) 1 x_3) := ⟨_, rfl⟩
  have hP : va_P (dC, dI) vwCl (wl ad kv cy N v_4) H := by rw [ev_4, ← wl_put (e := _) (ce_8 (kd_m _ hi).1)]; exact hP
  have hD : va_D A (wl ad kv cy N v_4) := by rw [ev_4, ← wl_put (e := _) (ce_8 (kd_m _ hi).1)]; exact hD
  have hv : Iv v_4 := by rw [ev_4]; exact hv.put (K := 8) (kd_m _ hi).1 (fun h q => by simp [bd] at q)
  refine lv_aload_n hx hb dX2_copyFrom_16 rfl (lv_at hl 0 rfl) ?_
  refine lv_aload_n hx hb dX2_copyFrom_17 rfl (lv_at hl 1 rfl) ?_
  refine va_get (D := (dC, dI)) (ci := 2) (v := .int (v_4 (131 + i) 2)) (C := RX2) (T := TX2) (N := 3) hx hb hts iwX2_copyFrom_X2 hown hK hP (131 + i) (wl_at (by omega) (ce_8 (kd_m _ hi).2)) rfl 2 (by decide) (hts (.fieldLink RX2 16 "QuietStairs$Mediator" "kinBits" "I") fwX2_copyFrom_3) (fun _ h9 => h9) rfl dX2_copyFrom_18 ?_
  refine lv_topi (fun x_5 ex_5 => ?_)
  rw [ev_4, upr_n (by omega), ev_2, upr_n (by omega)] at ex_5
  have qx_5 : x_5.toInt = (v (131 + i) (2)).toInt := congrArg Int32.toInt ex_5
  refine va_put (D := (dC, dI)) (ci := 2) (v := .int x_5) (ty := .int) (C := RX2) (T := TX2) (N := 3) hx hb hts iwX2_copyFrom_X2 tyX2 tyX2_ok nmX2 hown hK hP hD hS (25 + i) (wl_at (by omega) (ce_8 (kd_m _ hi).1)) rfl 2 (by decide) (hts (.fieldLink RX2 16 "QuietStairs$Mediator" "kinBits" "I") fwX2_copyFrom_3) (fun _ h9 => h9) rfl (by decide +kernel) rfl rfl (Nat.le_of_ble_eq_true rfl) dX2_copyFrom_21 (fun H locs hP hD hS => ?_)
  obtain ⟨v_6, ev_6⟩ : ∃ u : Nat → Nat → Int32, u = upr v_4 (25 + i) (upd (v_4 (25 + i)) 2 x_5) := ⟨_, rfl⟩
  have hP : va_P (dC, dI) vwCl (wl ad kv cy N v_6) H := by rw [ev_6, ← wl_put (e := _) (ce_8 (kd_m _ hi).1)]; exact hP
  have hD : va_D A (wl ad kv cy N v_6) := by rw [ev_6, ← wl_put (e := _) (ce_8 (kd_m _ hi).1)]; exact hD
  have hv : Iv v_6 := by rw [ev_6]; exact hv.put (K := 8) (kd_m _ hi).1 (fun h q => by simp [bd] at q)
  have hpost : ∀ k j : Nat, v_6 k j = if k = 25 + i ∧ j < 3 then v (131 + i) j else v k j := by
    intro k j
    rw [ev_6, up2, ev_4, up2, ev_2, up2, ex_5, ex_3, ex_1]
    by_cases h : k = 25 + i ∧ j < 3
    · rw [if_pos h]
      obtain ⟨h1, h2⟩ := h
      subst h1
      rcases (show j = 0 ∨ j = 1 ∨ j = 2 by omega) with rfl | rfl | rfl
      · rw [if_neg (by omega), if_neg (by omega), if_pos ⟨rfl, rfl⟩]
      · rw [if_neg (by omega), if_pos ⟨rfl, rfl⟩]
      · rw [if_pos ⟨rfl, rfl⟩]
    · rw [if_neg h, if_neg (by omega), if_neg (by omega), if_neg (by omega)]
  exact W.vret hx hb hr (fun t ht hW => ⟨⟨v_6, rfl, ⟨hv, hpost⟩, by rw [ht]; exact hP, hD⟩, hS.F ht⟩) hS.2.2 dX2_copyFrom_24

set_option maxHeartbeats 4000000 in
set_option maxRecDepth 100000 in
theorem e_X2_copyFrom_b (l : Launch) (dC : Nat → ClassId) (dI : Nat → Nat → Nat) (cy : Nat → ClassId) (sz : Nat) (ad : Nat → Nat) (kv : Value) (N : Nat) (hN : 119 ≤ N) (v : Nat → Nat → Int32) (hv : Iv v) (i : Nat) (hi : i < 4) (hN2 : 225 ≤ N) : Met l yX2_copyFrom wsX2_copyFrom ({ frames := 0, cells := 0, slots := 0, locals := 0 }) (va_Pc [.ref (ad (131 + i)), .ref (ad (25 + i))] (ex_Pre dC dI cy sz (wl ad kv cy N v))) (va_Qv (fun (u : Nat → Nat → Int32) => Iv u ∧ (∀ k j : Nat, u k j = if k = 131 + i ∧ j < 3 then v (25 + i) j else v k j)) (fun u t => ex_Pst dC dI (va_A (wl ad kv cy N v) sz) (wl ad kv cy N u) t) (va_A (wl ad kv cy N v) sz)) 0 0 (va_A (wl ad kv cy N v) sz) := by
  refine Met.ofW (cc := cX2_copyFrom) (maxL := 2) (ret := none) (by decide) rfl ?_
  intro p e s m args below meth c s₁ B hml hv
  obtain ⟨rfl, hsz, hE, hP, hK, hD0⟩ := hv
  have hx := B.exec
  have hb := B.bytes
  have hr := B.returns
  have hts := atoms_spec (ws := wsX2_copyFrom) B.pre
  have hown : s.vm.findClass RX2 = some m.cls := findClass_of_methodNamed B.named
  have hlocks := B.notSynchronized
  subst hsz
  have hD := hD0.self (sz := s.heap.size)
  generalize hAe : va_A (wl ad kv cy N v) s.heap.size = A at hD ⊢
  have hA : ∀ q : Nat, s.heap.size ≤ q → A q := fun q h => by rw [← hAe]; exact Or.inr h
  have hS : va_S A s.heap s.heap [] := va_S.rf
  have hP : va_P (dC, dI) vwCl (wl ad kv cy N v) s.heap := hP
  have hl := lv_entry ([.ref (ad (131 + i)), .ref (ad (25 + i))]) (n := 2) (Nat.le_of_ble_eq_true rfl)
  rw [lg_entry_eq]
  generalize (lg_sl ([.ref (ad (131 + i)), .ref (ad (25 + i))]) ++ List.replicate (2 - (lg_sl ([.ref (ad (131 + i)), .ref (ad (25 + i))])).length) Slot.unset).toArray = ls at hl ⊢
  have hl : lv_has ls 2 [(0, .ref (ad (131 + i))), (1, .ref (ad (25 + i)))] := hl
  refine lv_aload_n hx hb dX2_copyFrom_0 rfl (lv_at hl 0 rfl) ?_
  refine lv_aload_n hx hb dX2_copyFrom_1 rfl (lv_at hl 1 rfl) ?_
  refine va_get (D := (dC, dI)) (ci := 2) (v := .int (v (25 + i) 0)) (C := RX2) (T := TX2) (N := 3) hx hb hts iwX2_copyFrom_X2 hown hK hP (25 + i) (wl_at (by omega) (ce_8 (kd_m _ hi).1)) rfl 0 (by decide) (hts (.fieldLink RX2 7 "QuietStairs$Mediator" "floor" "I") fwX2_copyFrom_1) (fun _ h9 => h9) rfl dX2_copyFrom_2 ?_
  refine lv_topi (fun x_1 ex_1 => ?_)
  have qx_1 : x_1.toInt = (v (25 + i) (0)).toInt := congrArg Int32.toInt ex_1
  refine va_put (D := (dC, dI)) (ci := 2) (v := .int x_1) (ty := .int) (C := RX2) (T := TX2) (N := 3) hx hb hts iwX2_copyFrom_X2 tyX2 tyX2_ok nmX2 hown hK hP hD hS (131 + i) (wl_at (by omega) (ce_8 (kd_m _ hi).2)) rfl 0 (by decide) (hts (.fieldLink RX2 7 "QuietStairs$Mediator" "floor" "I") fwX2_copyFrom_1) (fun _ h9 => h9) rfl (by decide +kernel) rfl rfl (Nat.le_of_ble_eq_true rfl) dX2_copyFrom_5 (fun H locs hP hD hS => ?_)
  obtain ⟨v_2, ev_2⟩ : ∃ u : Nat → Nat → Int32, u = upr v (131 + i) (upd (v (131 + i)) 0 x_1) := ⟨_, rfl⟩
  have hP : va_P (dC, dI) vwCl (wl ad kv cy N v_2) H := by rw [ev_2, ← wl_put (e := _) (ce_8 (kd_m _ hi).2)]; exact hP
  have hD : va_D A (wl ad kv cy N v_2) := by rw [ev_2, ← wl_put (e := _) (ce_8 (kd_m _ hi).2)]; exact hD
  have hv : Iv v_2 := by rw [ev_2]; exact hv.put (K := 8) (kd_m _ hi).2 (fun h q => by simp [bd] at q)
  refine lv_aload_n hx hb dX2_copyFrom_8 rfl (lv_at hl 0 rfl) ?_
  refine lv_aload_n hx hb dX2_copyFrom_9 rfl (lv_at hl 1 rfl) ?_
  refine va_get (D := (dC, dI)) (ci := 2) (v := .int (v_2 (25 + i) 1)) (C := RX2) (T := TX2) (N := 3) hx hb hts iwX2_copyFrom_X2 hown hK hP (25 + i) (wl_at (by omega) (ce_8 (kd_m _ hi).1)) rfl 1 (by decide) (hts (.fieldLink RX2 13 "QuietStairs$Mediator" "tongues" "I") fwX2_copyFrom_2) (fun _ h9 => h9) rfl dX2_copyFrom_10 ?_
  refine lv_topi (fun x_3 ex_3 => ?_)
  rw [ev_2, upr_n (by omega)] at ex_3
  have qx_3 : x_3.toInt = (v (25 + i) (1)).toInt := congrArg Int32.toInt ex_3
  refine va_put (D := (dC, dI)) (ci := 2) (v := .int x_3) (ty := .int) (C := RX2) (T := TX2) (N := 3) hx hb hts iwX2_copyFrom_X2 tyX2 tyX2_ok nmX2 hown hK hP hD hS (131 + i) (wl_at (by omega) (ce_8 (kd_m _ hi).2)) rfl 1 (by decide) (hts (.fieldLink RX2 13 "QuietStairs$Mediator" "tongues" "I") fwX2_copyFrom_2) (fun _ h9 => h9) rfl (by decide +kernel) rfl rfl (Nat.le_of_ble_eq_true rfl) dX2_copyFrom_13 (fun H locs hP hD hS => ?_)
  obtain ⟨v_4, ev_4⟩ : ∃ u : Nat → Nat → Int32, u = upr v_2 (131 + i) (upd (v_2 (131 + i)) 1 x_3) := ⟨_, rfl⟩
  have hP : va_P (dC, dI) vwCl (wl ad kv cy N v_4) H := by rw [ev_4, ← wl_put (e := _) (ce_8 (kd_m _ hi).2)]; exact hP
  have hD : va_D A (wl ad kv cy N v_4) := by rw [ev_4, ← wl_put (e := _) (ce_8 (kd_m _ hi).2)]; exact hD
  have hv : Iv v_4 := by rw [ev_4]; exact hv.put (K := 8) (kd_m _ hi).2 (fun h q => by simp [bd] at q)
  refine lv_aload_n hx hb dX2_copyFrom_16 rfl (lv_at hl 0 rfl) ?_
  refine lv_aload_n hx hb dX2_copyFrom_17 rfl (lv_at hl 1 rfl) ?_
  refine va_get (D := (dC, dI)) (ci := 2) (v := .int (v_4 (25 + i) 2)) (C := RX2) (T := TX2) (N := 3) hx hb hts iwX2_copyFrom_X2 hown hK hP (25 + i) (wl_at (by omega) (ce_8 (kd_m _ hi).1)) rfl 2 (by decide) (hts (.fieldLink RX2 16 "QuietStairs$Mediator" "kinBits" "I") fwX2_copyFrom_3) (fun _ h9 => h9) rfl dX2_copyFrom_18 ?_
  refine lv_topi (fun x_5 ex_5 => ?_)
  rw [ev_4, upr_n (by omega), ev_2, upr_n (by omega)] at ex_5
  have qx_5 : x_5.toInt = (v (25 + i) (2)).toInt := congrArg Int32.toInt ex_5
  refine va_put (D := (dC, dI)) (ci := 2) (v := .int x_5) (ty := .int) (C := RX2) (T := TX2) (N := 3) hx hb hts iwX2_copyFrom_X2 tyX2 tyX2_ok nmX2 hown hK hP hD hS (131 + i) (wl_at (by omega) (ce_8 (kd_m _ hi).2)) rfl 2 (by decide) (hts (.fieldLink RX2 16 "QuietStairs$Mediator" "kinBits" "I") fwX2_copyFrom_3) (fun _ h9 => h9) rfl (by decide +kernel) rfl rfl (Nat.le_of_ble_eq_true rfl) dX2_copyFrom_21 (fun H locs hP hD hS => ?_)
  obtain ⟨v_6, ev_6⟩ : ∃ u : Nat → Nat → Int32, u = upr v_4 (131 + i) (upd (v_4 (131 + i)) 2 x_5) := ⟨_, rfl⟩
  have hP : va_P (dC, dI) vwCl (wl ad kv cy N v_6) H := by rw [ev_6, ← wl_put (e := _) (ce_8 (kd_m _ hi).2)]; exact hP
  have hD : va_D A (wl ad kv cy N v_6) := by rw [ev_6, ← wl_put (e := _) (ce_8 (kd_m _ hi).2)]; exact hD
  have hv : Iv v_6 := by rw [ev_6]; exact hv.put (K := 8) (kd_m _ hi).2 (fun h q => by simp [bd] at q)
  have hpost : ∀ k j : Nat, v_6 k j = if k = 131 + i ∧ j < 3 then v (25 + i) j else v k j := by
    intro k j
    rw [ev_6, up2, ev_4, up2, ev_2, up2, ex_5, ex_3, ex_1]
    by_cases h : k = 131 + i ∧ j < 3
    · rw [if_pos h]
      obtain ⟨h1, h2⟩ := h
      subst h1
      rcases (show j = 0 ∨ j = 1 ∨ j = 2 by omega) with rfl | rfl | rfl
      · rw [if_neg (by omega), if_neg (by omega), if_pos ⟨rfl, rfl⟩]
      · rw [if_neg (by omega), if_pos ⟨rfl, rfl⟩]
      · rw [if_pos ⟨rfl, rfl⟩]
    · rw [if_neg h, if_neg (by omega), if_neg (by omega), if_neg (by omega)]
  exact W.vret hx hb hr (fun t ht hW => ⟨⟨v_6, rfl, ⟨hv, hpost⟩, by rw [ht]; exact hP, hD⟩, hS.F ht⟩) hS.2.2 dX2_copyFrom_24

set_option maxHeartbeats 4000000 in
set_option maxRecDepth 100000 in
theorem e_X6_copyFrom_a (l : Launch) (dC : Nat → ClassId) (dI : Nat → Nat → Nat) (cy : Nat → ClassId) (sz : Nat) (ad : Nat → Nat) (kv : Value) (N : Nat) (hN : 119 ≤ N) (v : Nat → Nat → Int32) (hv : Iv v) (i : Nat) (hi : i < 6) (t : Nat) (ht : t < 5) (hN2 : 225 ≤ N) : Met l yX6_copyFrom wsX6_copyFrom ({ frames := 0, cells := 0, slots := 0, locals := 0 }) (va_Pc [.ref (ad (39 + 15 * i + t)), .ref (ad (145 + 15 * i + t))] (ex_Pre dC dI cy sz (wl ad kv cy N v))) (va_Qv (fun (u : Nat → Nat → Int32) => Iv u ∧ (∀ k j : Nat, u k j = if k = 39 + 15 * i + t ∧ j < 5 then v (145 + 15 * i + t) j else v k j)) (fun u t => ex_Pst dC dI (va_A (wl ad kv cy N v) sz) (wl ad kv cy N u) t) (va_A (wl ad kv cy N v) sz)) 0 0 (va_A (wl ad kv cy N v) sz) := by
  refine Met.ofW (cc := cX6_copyFrom) (maxL := 2) (ret := none) (by decide) rfl ?_
  intro p e s m args below meth c s₁ B hml hv
  obtain ⟨rfl, hsz, hE, hP, hK, hD0⟩ := hv
  have hx := B.exec
  have hb := B.bytes
  have hr := B.returns
  have hts := atoms_spec (ws := wsX6_copyFrom) B.pre
  have hown : s.vm.findClass RX6 = some m.cls := findClass_of_methodNamed B.named
  have hlocks := B.notSynchronized
  subst hsz
  have hD := hD0.self (sz := s.heap.size)
  generalize hAe : va_A (wl ad kv cy N v) s.heap.size = A at hD ⊢
  have hA : ∀ q : Nat, s.heap.size ≤ q → A q := fun q h => by rw [← hAe]; exact Or.inr h
  have hS : va_S A s.heap s.heap [] := va_S.rf
  have hP : va_P (dC, dI) vwCl (wl ad kv cy N v) s.heap := hP
  have hl := lv_entry ([.ref (ad (39 + 15 * i + t)), .ref (ad (145 + 15 * i + t))]) (n := 2) (Nat.le_of_ble_eq_true rfl)
  rw [lg_entry_eq]
  generalize (lg_sl ([.ref (ad (39 + 15 * i + t)), .ref (ad (145 + 15 * i + t))]) ++ List.replicate (2 - (lg_sl ([.ref (ad (39 + 15 * i + t)), .ref (ad (145 + 15 * i + t))])).length) Slot.unset).toArray = ls at hl ⊢
  have hl : lv_has ls 2 [(0, .ref (ad (39 + 15 * i + t))), (1, .ref (ad (145 + 15 * i + t)))] := hl
  refine lv_aload_n hx hb dX6_copyFrom_0 rfl (lv_at hl 0 rfl) ?_
  refine lv_aload_n hx hb dX6_copyFrom_1 rfl (lv_at hl 1 rfl) ?_
  refine va_get (D := (dC, dI)) (ci := 6) (v := .int (v (145 + 15 * i + t) 0)) (C := RX6) (T := TX6) (N := 5) hx hb hts iwX6_copyFrom_X6 hown hK hP (145 + 15 * i + t) (wl_at (by omega) (ce_16 (kd_t _ hi _ ht).2)) rfl 0 (by decide) (hts (.fieldLink RX6 16 "QuietStairs$Term" "side" "I") fwX6_copyFrom_1) (fun _ h9 => h9) rfl dX6_copyFrom_2 ?_
  refine lv_topi (fun x_1 ex_1 => ?_)
  have bzx_1 : 0 ≤ x_1.toInt ∧ x_1.toInt ≤ 1 := by rw [ex_1]; exact hv.at (K := 16) (kd_t _ hi _ ht).2 rfl
  have qx_1 : x_1.toInt = (v (145 + 15 * i + t) (0)).toInt := congrArg Int32.toInt ex_1
  refine va_put (D := (dC, dI)) (ci := 6) (v := .int x_1) (ty := .int) (C := RX6) (T := TX6) (N := 5) hx hb hts iwX6_copyFrom_X6 tyX6 tyX6_ok nmX6 hown hK hP hD hS (39 + 15 * i + t) (wl_at (by omega) (ce_16 (kd_t _ hi _ ht).1)) rfl 0 (by decide) (hts (.fieldLink RX6 16 "QuietStairs$Term" "side" "I") fwX6_copyFrom_1) (fun _ h9 => h9) rfl (by decide +kernel) rfl rfl (Nat.le_of_ble_eq_true rfl) dX6_copyFrom_5 (fun H locs hP hD hS => ?_)
  obtain ⟨v_2, ev_2⟩ : ∃ u : Nat → Nat → Int32, u = upr v (39 + 15 * i + t) (upd (v (39 + 15 * i + t)) 0 x_1) := ⟨_, rfl⟩
  have hP : va_P (dC, dI) vwCl (wl ad kv cy N v_2) H := by rw [ev_2, ← wl_put (e := _) (ce_16 (kd_t _ hi _ ht).1)]; exact hP
  have hD : va_D A (wl ad kv cy N v_2) := by rw [ev_2, ← wl_put (e := _) (ce_16 (kd_t _ hi _ ht).1)]; exact hD
  have hv : Iv v_2 := by rw [ev_2]; exact hv.put (K := 16) (kd_t _ hi _ ht).1 (fun h q => by cases q; exact ⟨by omega, by omega⟩)
  refine lv_aload_n hx hb dX6_copyFrom_8 rfl (lv_at hl 0 rfl) ?_
  refine lv_aload_n hx hb dX6_copyFrom_9 rfl (lv_at hl 1 rfl) ?_
  refine va_get (D := (dC, dI)) (ci := 6) (v := .int (v_2 (145 + 15 * i + t) 1)) (C := RX6) (T := TX6) (N := 5) hx hb hts iwX6_copyFrom_X6 hown hK hP (145 + 15 * i + t) (wl_at (by omega) (ce_16 (kd_t _ hi _ ht).2)) rfl 1 (by decide) (hts (.fieldLink RX6 19 "QuietStairs$Term" "must" "Z") fwX6_copyFrom_2) (fun _ h9 => h9) rfl dX6_copyFrom_10 ?_
  refine lv_topi (fun x_3 ex_3 => ?_)
  have bzx_3 : 0 ≤ x_3.toInt ∧ x_3.toInt ≤ 1 := by rw [ex_3]; exact hv.at (K := 16) (kd_t _ hi _ ht).2 rfl
  rw [ev_2, upr_n (by omega)] at ex_3
  have qx_3 : x_3.toInt = (v (145 + 15 * i + t) (1)).toInt := congrArg Int32.toInt ex_3
  refine va_put (D := (dC, dI)) (ci := 6) (v := .int x_3) (ty := .boolean) (C := RX6) (T := TX6) (N := 5) hx hb hts iwX6_copyFrom_X6 tyX6 tyX6_ok nmX6 hown hK hP hD hS (39 + 15 * i + t) (wl_at (by omega) (ce_16 (kd_t _ hi _ ht).1)) rfl 1 (by decide) (hts (.fieldLink RX6 19 "QuietStairs$Term" "must" "Z") fwX6_copyFrom_2) (fun _ h9 => h9) rfl (by decide +kernel) (by rcases t_bool (x := x_3) ⟨by omega, by omega⟩ with q | q <;> rw [q] <;> rfl) (by rcases t_bool (x := x_3) ⟨by omega, by omega⟩ with q | q <;> rw [q] <;> rfl) (Nat.le_of_ble_eq_true rfl) dX6_copyFrom_13 (fun H locs hP hD hS => ?_)
  obtain ⟨v_4, ev_4⟩ : ∃ u : Nat → Nat → Int32, u = upr v_2 (39 + 15 * i + t) (upd (v_2 (39 + 15 * i + t)) 1 x_3) := ⟨_, rfl⟩
  have hP : va_P (dC, dI) vwCl (wl ad kv cy N v_4) H := by rw [ev_4, ← wl_put (e := _) (ce_16 (kd_t _ hi _ ht).1)]; exact hP
  have hD : va_D A (wl ad kv cy N v_4) := by rw [ev_4, ← wl_put (e := _) (ce_16 (kd_t _ hi _ ht).1)]; exact hD
  have hv : Iv v_4 := by rw [ev_4]; exact hv.put (K := 16) (kd_t _ hi _ ht).1 (fun h q => by cases q; exact ⟨by omega, by omega⟩)
  refine lv_aload_n hx hb dX6_copyFrom_16 rfl (lv_at hl 0 rfl) ?_
  refine lv_aload_n hx hb dX6_copyFrom_17 rfl (lv_at hl 1 rfl) ?_
  refine va_get (D := (dC, dI)) (ci := 6) (v := .int (v_4 (145 + 15 * i + t) 2)) (C := RX6) (T := TX6) (N := 5) hx hb hts iwX6_copyFrom_X6 hown hK hP (145 + 15 * i + t) (wl_at (by omega) (ce_16 (kd_t _ hi _ ht).2)) rfl 2 (by decide) (hts (.fieldLink RX6 23 "QuietStairs$Term" "act" "I") fwX6_copyFrom_3) (fun _ h9 => h9) rfl dX6_copyFrom_18 ?_
  refine lv_topi (fun x_5 ex_5 => ?_)
  rw [ev_4, upr_n (by omega), ev_2, upr_n (by omega)] at ex_5
  have qx_5 : x_5.toInt = (v (145 + 15 * i + t) (2)).toInt := congrArg Int32.toInt ex_5
  refine va_put (D := (dC, dI)) (ci := 6) (v := .int x_5) (ty := .int) (C := RX6) (T := TX6) (N := 5) hx hb hts iwX6_copyFrom_X6 tyX6 tyX6_ok nmX6 hown hK hP hD hS (39 + 15 * i + t) (wl_at (by omega) (ce_16 (kd_t _ hi _ ht).1)) rfl 2 (by decide) (hts (.fieldLink RX6 23 "QuietStairs$Term" "act" "I") fwX6_copyFrom_3) (fun _ h9 => h9) rfl (by decide +kernel) rfl rfl (Nat.le_of_ble_eq_true rfl) dX6_copyFrom_21 (fun H locs hP hD hS => ?_)
  obtain ⟨v_6, ev_6⟩ : ∃ u : Nat → Nat → Int32, u = upr v_4 (39 + 15 * i + t) (upd (v_4 (39 + 15 * i + t)) 2 x_5) := ⟨_, rfl⟩
  have hP : va_P (dC, dI) vwCl (wl ad kv cy N v_6) H := by rw [ev_6, ← wl_put (e := _) (ce_16 (kd_t _ hi _ ht).1)]; exact hP
  have hD : va_D A (wl ad kv cy N v_6) := by rw [ev_6, ← wl_put (e := _) (ce_16 (kd_t _ hi _ ht).1)]; exact hD
  have hv : Iv v_6 := by rw [ev_6]; exact hv.put (K := 16) (kd_t _ hi _ ht).1 (fun h q => by simp [bd] at q)
  refine lv_aload_n hx hb dX6_copyFrom_24 rfl (lv_at hl 0 rfl) ?_
  refine lv_aload_n hx hb dX6_copyFrom_25 rfl (lv_at hl 1 rfl) ?_
  refine va_get (D := (dC, dI)) (ci := 6) (v := .int (v_6 (145 + 15 * i + t) 3)) (C := RX6) (T := TX6) (N := 5) hx hb hts iwX6_copyFrom_X6 hown hK hP (145 + 15 * i + t) (wl_at (by omega) (ce_16 (kd_t _ hi _ ht).2)) rfl 3 (by decide) (hts (.fieldLink RX6 13 "QuietStairs$Term" "first" "I") fwX6_copyFrom_4) (fun _ h9 => h9) rfl dX6_copyFrom_26 ?_
  refine lv_topi (fun x_7 ex_7 => ?_)
  have bzx_7 : 0 ≤ x_7.toInt ∧ x_7.toInt ≤ 23 := by rw [ex_7]; exact hv.at (K := 16) (kd_t _ hi _ ht).2 rfl
  rw [ev_6, upr_n (by omega), ev_4, upr_n (by omega), ev_2, upr_n (by omega)] at ex_7
  have qx_7 : x_7.toInt = (v (145 + 15 * i + t) (3)).toInt := congrArg Int32.toInt ex_7
  refine va_put (D := (dC, dI)) (ci := 6) (v := .int x_7) (ty := .int) (C := RX6) (T := TX6) (N := 5) hx hb hts iwX6_copyFrom_X6 tyX6 tyX6_ok nmX6 hown hK hP hD hS (39 + 15 * i + t) (wl_at (by omega) (ce_16 (kd_t _ hi _ ht).1)) rfl 3 (by decide) (hts (.fieldLink RX6 13 "QuietStairs$Term" "first" "I") fwX6_copyFrom_4) (fun _ h9 => h9) rfl (by decide +kernel) rfl rfl (Nat.le_of_ble_eq_true rfl) dX6_copyFrom_29 (fun H locs hP hD hS => ?_)
  obtain ⟨v_8, ev_8⟩ : ∃ u : Nat → Nat → Int32, u = upr v_6 (39 + 15 * i + t) (upd (v_6 (39 + 15 * i + t)) 3 x_7) := ⟨_, rfl⟩
  have hP : va_P (dC, dI) vwCl (wl ad kv cy N v_8) H := by rw [ev_8, ← wl_put (e := _) (ce_16 (kd_t _ hi _ ht).1)]; exact hP
  have hD : va_D A (wl ad kv cy N v_8) := by rw [ev_8, ← wl_put (e := _) (ce_16 (kd_t _ hi _ ht).1)]; exact hD
  have hv : Iv v_8 := by rw [ev_8]; exact hv.put (K := 16) (kd_t _ hi _ ht).1 (fun h q => by cases q; exact ⟨by omega, by omega⟩)
  refine lv_aload_n hx hb dX6_copyFrom_32 rfl (lv_at hl 0 rfl) ?_
  refine lv_aload_n hx hb dX6_copyFrom_33 rfl (lv_at hl 1 rfl) ?_
  refine va_get (D := (dC, dI)) (ci := 6) (v := .int (v_8 (145 + 15 * i + t) 4)) (C := RX6) (T := TX6) (N := 5) hx hb hts iwX6_copyFrom_X6 hown hK hP (145 + 15 * i + t) (wl_at (by omega) (ce_16 (kd_t _ hi _ ht).2)) rfl 4 (by decide) (hts (.fieldLink RX6 7 "QuietStairs$Term" "last" "I") fwX6_copyFrom_5) (fun _ h9 => h9) rfl dX6_copyFrom_34 ?_
  refine lv_topi (fun x_9 ex_9 => ?_)
  have bzx_9 : 0 ≤ x_9.toInt ∧ x_9.toInt ≤ 23 := by rw [ex_9]; exact hv.at (K := 16) (kd_t _ hi _ ht).2 rfl
  rw [ev_8, upr_n (by omega), ev_6, upr_n (by omega), ev_4, upr_n (by omega), ev_2, upr_n (by omega)] at ex_9
  have qx_9 : x_9.toInt = (v (145 + 15 * i + t) (4)).toInt := congrArg Int32.toInt ex_9
  refine va_put (D := (dC, dI)) (ci := 6) (v := .int x_9) (ty := .int) (C := RX6) (T := TX6) (N := 5) hx hb hts iwX6_copyFrom_X6 tyX6 tyX6_ok nmX6 hown hK hP hD hS (39 + 15 * i + t) (wl_at (by omega) (ce_16 (kd_t _ hi _ ht).1)) rfl 4 (by decide) (hts (.fieldLink RX6 7 "QuietStairs$Term" "last" "I") fwX6_copyFrom_5) (fun _ h9 => h9) rfl (by decide +kernel) rfl rfl (Nat.le_of_ble_eq_true rfl) dX6_copyFrom_37 (fun H locs hP hD hS => ?_)
  obtain ⟨v_10, ev_10⟩ : ∃ u : Nat → Nat → Int32, u = upr v_8 (39 + 15 * i + t) (upd (v_8 (39 + 15 * i + t)) 4 x_9) := ⟨_, rfl⟩
  have hP : va_P (dC, dI) vwCl (wl ad kv cy N v_10) H := by rw [ev_10, ← wl_put (e := _) (ce_16 (kd_t _ hi _ ht).1)]; exact hP
  have hD : va_D A (wl ad kv cy N v_10) := by rw [ev_10, ← wl_put (e := _) (ce_16 (kd_t _ hi _ ht).1)]; exact hD
  have hv : Iv v_10 := by rw [ev_10]; exact hv.put (K := 16) (kd_t _ hi _ ht).1 (fun h q => by cases q; exact ⟨by omega, by omega⟩)
  have hpost : ∀ k j : Nat, v_10 k j = if k = 39 + 15 * i + t ∧ j < 5 then v (145 + 15 * i + t) j else v k j := by
    intro k j
    rw [ev_10, up2, ev_8, up2, ev_6, up2, ev_4, up2, ev_2, up2, ex_9, ex_7, ex_5, ex_3, ex_1]
    by_cases h : k = 39 + 15 * i + t ∧ j < 5
    · rw [if_pos h]
      obtain ⟨h1, h2⟩ := h
      subst h1
      rcases (show j = 0 ∨ j = 1 ∨ j = 2 ∨ j = 3 ∨ j = 4 by omega) with rfl | rfl | rfl | rfl | rfl
      · rw [if_neg (by omega), if_neg (by omega), if_neg (by omega), if_neg (by omega), if_pos ⟨rfl, rfl⟩]
      · rw [if_neg (by omega), if_neg (by omega), if_neg (by omega), if_pos ⟨rfl, rfl⟩]
      · rw [if_neg (by omega), if_neg (by omega), if_pos ⟨rfl, rfl⟩]
      · rw [if_neg (by omega), if_pos ⟨rfl, rfl⟩]
      · rw [if_pos ⟨rfl, rfl⟩]
    · rw [if_neg h, if_neg (by omega), if_neg (by omega), if_neg (by omega), if_neg (by omega), if_neg (by omega)]
  exact W.vret hx hb hr (fun t ht hW => ⟨⟨v_10, rfl, ⟨hv, hpost⟩, by rw [ht]; exact hP, hD⟩, hS.F ht⟩) hS.2.2 dX6_copyFrom_40

set_option maxHeartbeats 4000000 in
set_option maxRecDepth 100000 in
theorem e_X6_copyFrom_b (l : Launch) (dC : Nat → ClassId) (dI : Nat → Nat → Nat) (cy : Nat → ClassId) (sz : Nat) (ad : Nat → Nat) (kv : Value) (N : Nat) (hN : 119 ≤ N) (v : Nat → Nat → Int32) (hv : Iv v) (i : Nat) (hi : i < 6) (t : Nat) (ht : t < 5) (hN2 : 225 ≤ N) : Met l yX6_copyFrom wsX6_copyFrom ({ frames := 0, cells := 0, slots := 0, locals := 0 }) (va_Pc [.ref (ad (145 + 15 * i + t)), .ref (ad (39 + 15 * i + t))] (ex_Pre dC dI cy sz (wl ad kv cy N v))) (va_Qv (fun (u : Nat → Nat → Int32) => Iv u ∧ (∀ k j : Nat, u k j = if k = 145 + 15 * i + t ∧ j < 5 then v (39 + 15 * i + t) j else v k j)) (fun u t => ex_Pst dC dI (va_A (wl ad kv cy N v) sz) (wl ad kv cy N u) t) (va_A (wl ad kv cy N v) sz)) 0 0 (va_A (wl ad kv cy N v) sz) := by
  refine Met.ofW (cc := cX6_copyFrom) (maxL := 2) (ret := none) (by decide) rfl ?_
  intro p e s m args below meth c s₁ B hml hv
  obtain ⟨rfl, hsz, hE, hP, hK, hD0⟩ := hv
  have hx := B.exec
  have hb := B.bytes
  have hr := B.returns
  have hts := atoms_spec (ws := wsX6_copyFrom) B.pre
  have hown : s.vm.findClass RX6 = some m.cls := findClass_of_methodNamed B.named
  have hlocks := B.notSynchronized
  subst hsz
  have hD := hD0.self (sz := s.heap.size)
  generalize hAe : va_A (wl ad kv cy N v) s.heap.size = A at hD ⊢
  have hA : ∀ q : Nat, s.heap.size ≤ q → A q := fun q h => by rw [← hAe]; exact Or.inr h
  have hS : va_S A s.heap s.heap [] := va_S.rf
  have hP : va_P (dC, dI) vwCl (wl ad kv cy N v) s.heap := hP
  have hl := lv_entry ([.ref (ad (145 + 15 * i + t)), .ref (ad (39 + 15 * i + t))]) (n := 2) (Nat.le_of_ble_eq_true rfl)
  rw [lg_entry_eq]
  generalize (lg_sl ([.ref (ad (145 + 15 * i + t)), .ref (ad (39 + 15 * i + t))]) ++ List.replicate (2 - (lg_sl ([.ref (ad (145 + 15 * i + t)), .ref (ad (39 + 15 * i + t))])).length) Slot.unset).toArray = ls at hl ⊢
  have hl : lv_has ls 2 [(0, .ref (ad (145 + 15 * i + t))), (1, .ref (ad (39 + 15 * i + t)))] := hl
  refine lv_aload_n hx hb dX6_copyFrom_0 rfl (lv_at hl 0 rfl) ?_
  refine lv_aload_n hx hb dX6_copyFrom_1 rfl (lv_at hl 1 rfl) ?_
  refine va_get (D := (dC, dI)) (ci := 6) (v := .int (v (39 + 15 * i + t) 0)) (C := RX6) (T := TX6) (N := 5) hx hb hts iwX6_copyFrom_X6 hown hK hP (39 + 15 * i + t) (wl_at (by omega) (ce_16 (kd_t _ hi _ ht).1)) rfl 0 (by decide) (hts (.fieldLink RX6 16 "QuietStairs$Term" "side" "I") fwX6_copyFrom_1) (fun _ h9 => h9) rfl dX6_copyFrom_2 ?_
  refine lv_topi (fun x_1 ex_1 => ?_)
  have bzx_1 : 0 ≤ x_1.toInt ∧ x_1.toInt ≤ 1 := by rw [ex_1]; exact hv.at (K := 16) (kd_t _ hi _ ht).1 rfl
  have qx_1 : x_1.toInt = (v (39 + 15 * i + t) (0)).toInt := congrArg Int32.toInt ex_1
  refine va_put (D := (dC, dI)) (ci := 6) (v := .int x_1) (ty := .int) (C := RX6) (T := TX6) (N := 5) hx hb hts iwX6_copyFrom_X6 tyX6 tyX6_ok nmX6 hown hK hP hD hS (145 + 15 * i + t) (wl_at (by omega) (ce_16 (kd_t _ hi _ ht).2)) rfl 0 (by decide) (hts (.fieldLink RX6 16 "QuietStairs$Term" "side" "I") fwX6_copyFrom_1) (fun _ h9 => h9) rfl (by decide +kernel) rfl rfl (Nat.le_of_ble_eq_true rfl) dX6_copyFrom_5 (fun H locs hP hD hS => ?_)
  obtain ⟨v_2, ev_2⟩ : ∃ u : Nat → Nat → Int32, u = upr v (145 + 15 * i + t) (upd (v (145 + 15 * i + t)) 0 x_1) := ⟨_, rfl⟩
  have hP : va_P (dC, dI) vwCl (wl ad kv cy N v_2) H := by rw [ev_2, ← wl_put (e := _) (ce_16 (kd_t _ hi _ ht).2)]; exact hP
  have hD : va_D A (wl ad kv cy N v_2) := by rw [ev_2, ← wl_put (e := _) (ce_16 (kd_t _ hi _ ht).2)]; exact hD
  have hv : Iv v_2 := by rw [ev_2]; exact hv.put (K := 16) (kd_t _ hi _ ht).2 (fun h q => by cases q; exact ⟨by omega, by omega⟩)
  refine lv_aload_n hx hb dX6_copyFrom_8 rfl (lv_at hl 0 rfl) ?_
  refine lv_aload_n hx hb dX6_copyFrom_9 rfl (lv_at hl 1 rfl) ?_
  refine va_get (D := (dC, dI)) (ci := 6) (v := .int (v_2 (39 + 15 * i + t) 1)) (C := RX6) (T := TX6) (N := 5) hx hb hts iwX6_copyFrom_X6 hown hK hP (39 + 15 * i + t) (wl_at (by omega) (ce_16 (kd_t _ hi _ ht).1)) rfl 1 (by decide) (hts (.fieldLink RX6 19 "QuietStairs$Term" "must" "Z") fwX6_copyFrom_2) (fun _ h9 => h9) rfl dX6_copyFrom_10 ?_
  refine lv_topi (fun x_3 ex_3 => ?_)
  have bzx_3 : 0 ≤ x_3.toInt ∧ x_3.toInt ≤ 1 := by rw [ex_3]; exact hv.at (K := 16) (kd_t _ hi _ ht).1 rfl
  rw [ev_2, upr_n (by omega)] at ex_3
  have qx_3 : x_3.toInt = (v (39 + 15 * i + t) (1)).toInt := congrArg Int32.toInt ex_3
  refine va_put (D := (dC, dI)) (ci := 6) (v := .int x_3) (ty := .boolean) (C := RX6) (T := TX6) (N := 5) hx hb hts iwX6_copyFrom_X6 tyX6 tyX6_ok nmX6 hown hK hP hD hS (145 + 15 * i + t) (wl_at (by omega) (ce_16 (kd_t _ hi _ ht).2)) rfl 1 (by decide) (hts (.fieldLink RX6 19 "QuietStairs$Term" "must" "Z") fwX6_copyFrom_2) (fun _ h9 => h9) rfl (by decide +kernel) (by rcases t_bool (x := x_3) ⟨by omega, by omega⟩ with q | q <;> rw [q] <;> rfl) (by rcases t_bool (x := x_3) ⟨by omega, by omega⟩ with q | q <;> rw [q] <;> rfl) (Nat.le_of_ble_eq_true rfl) dX6_copyFrom_13 (fun H locs hP hD hS => ?_)
  obtain ⟨v_4, ev_4⟩ : ∃ u : Nat → Nat → Int32, u = upr v_2 (145 + 15 * i + t) (upd (v_2 (145 + 15 * i + t)) 1 x_3) := ⟨_, rfl⟩
  have hP : va_P (dC, dI) vwCl (wl ad kv cy N v_4) H := by rw [ev_4, ← wl_put (e := _) (ce_16 (kd_t _ hi _ ht).2)]; exact hP
  have hD : va_D A (wl ad kv cy N v_4) := by rw [ev_4, ← wl_put (e := _) (ce_16 (kd_t _ hi _ ht).2)]; exact hD
  have hv : Iv v_4 := by rw [ev_4]; exact hv.put (K := 16) (kd_t _ hi _ ht).2 (fun h q => by cases q; exact ⟨by omega, by omega⟩)
  refine lv_aload_n hx hb dX6_copyFrom_16 rfl (lv_at hl 0 rfl) ?_
  refine lv_aload_n hx hb dX6_copyFrom_17 rfl (lv_at hl 1 rfl) ?_
  refine va_get (D := (dC, dI)) (ci := 6) (v := .int (v_4 (39 + 15 * i + t) 2)) (C := RX6) (T := TX6) (N := 5) hx hb hts iwX6_copyFrom_X6 hown hK hP (39 + 15 * i + t) (wl_at (by omega) (ce_16 (kd_t _ hi _ ht).1)) rfl 2 (by decide) (hts (.fieldLink RX6 23 "QuietStairs$Term" "act" "I") fwX6_copyFrom_3) (fun _ h9 => h9) rfl dX6_copyFrom_18 ?_
  refine lv_topi (fun x_5 ex_5 => ?_)
  rw [ev_4, upr_n (by omega), ev_2, upr_n (by omega)] at ex_5
  have qx_5 : x_5.toInt = (v (39 + 15 * i + t) (2)).toInt := congrArg Int32.toInt ex_5
  refine va_put (D := (dC, dI)) (ci := 6) (v := .int x_5) (ty := .int) (C := RX6) (T := TX6) (N := 5) hx hb hts iwX6_copyFrom_X6 tyX6 tyX6_ok nmX6 hown hK hP hD hS (145 + 15 * i + t) (wl_at (by omega) (ce_16 (kd_t _ hi _ ht).2)) rfl 2 (by decide) (hts (.fieldLink RX6 23 "QuietStairs$Term" "act" "I") fwX6_copyFrom_3) (fun _ h9 => h9) rfl (by decide +kernel) rfl rfl (Nat.le_of_ble_eq_true rfl) dX6_copyFrom_21 (fun H locs hP hD hS => ?_)
  obtain ⟨v_6, ev_6⟩ : ∃ u : Nat → Nat → Int32, u = upr v_4 (145 + 15 * i + t) (upd (v_4 (145 + 15 * i + t)) 2 x_5) := ⟨_, rfl⟩
  have hP : va_P (dC, dI) vwCl (wl ad kv cy N v_6) H := by rw [ev_6, ← wl_put (e := _) (ce_16 (kd_t _ hi _ ht).2)]; exact hP
  have hD : va_D A (wl ad kv cy N v_6) := by rw [ev_6, ← wl_put (e := _) (ce_16 (kd_t _ hi _ ht).2)]; exact hD
  have hv : Iv v_6 := by rw [ev_6]; exact hv.put (K := 16) (kd_t _ hi _ ht).2 (fun h q => by simp [bd] at q)
  refine lv_aload_n hx hb dX6_copyFrom_24 rfl (lv_at hl 0 rfl) ?_
  refine lv_aload_n hx hb dX6_copyFrom_25 rfl (lv_at hl 1 rfl) ?_
  refine va_get (D := (dC, dI)) (ci := 6) (v := .int (v_6 (39 + 15 * i + t) 3)) (C := RX6) (T := TX6) (N := 5) hx hb hts iwX6_copyFrom_X6 hown hK hP (39 + 15 * i + t) (wl_at (by omega) (ce_16 (kd_t _ hi _ ht).1)) rfl 3 (by decide) (hts (.fieldLink RX6 13 "QuietStairs$Term" "first" "I") fwX6_copyFrom_4) (fun _ h9 => h9) rfl dX6_copyFrom_26 ?_
  refine lv_topi (fun x_7 ex_7 => ?_)
  have bzx_7 : 0 ≤ x_7.toInt ∧ x_7.toInt ≤ 23 := by rw [ex_7]; exact hv.at (K := 16) (kd_t _ hi _ ht).1 rfl
  rw [ev_6, upr_n (by omega), ev_4, upr_n (by omega), ev_2, upr_n (by omega)] at ex_7
  have qx_7 : x_7.toInt = (v (39 + 15 * i + t) (3)).toInt := congrArg Int32.toInt ex_7
  refine va_put (D := (dC, dI)) (ci := 6) (v := .int x_7) (ty := .int) (C := RX6) (T := TX6) (N := 5) hx hb hts iwX6_copyFrom_X6 tyX6 tyX6_ok nmX6 hown hK hP hD hS (145 + 15 * i + t) (wl_at (by omega) (ce_16 (kd_t _ hi _ ht).2)) rfl 3 (by decide) (hts (.fieldLink RX6 13 "QuietStairs$Term" "first" "I") fwX6_copyFrom_4) (fun _ h9 => h9) rfl (by decide +kernel) rfl rfl (Nat.le_of_ble_eq_true rfl) dX6_copyFrom_29 (fun H locs hP hD hS => ?_)
  obtain ⟨v_8, ev_8⟩ : ∃ u : Nat → Nat → Int32, u = upr v_6 (145 + 15 * i + t) (upd (v_6 (145 + 15 * i + t)) 3 x_7) := ⟨_, rfl⟩
  have hP : va_P (dC, dI) vwCl (wl ad kv cy N v_8) H := by rw [ev_8, ← wl_put (e := _) (ce_16 (kd_t _ hi _ ht).2)]; exact hP
  have hD : va_D A (wl ad kv cy N v_8) := by rw [ev_8, ← wl_put (e := _) (ce_16 (kd_t _ hi _ ht).2)]; exact hD
  have hv : Iv v_8 := by rw [ev_8]; exact hv.put (K := 16) (kd_t _ hi _ ht).2 (fun h q => by cases q; exact ⟨by omega, by omega⟩)
  refine lv_aload_n hx hb dX6_copyFrom_32 rfl (lv_at hl 0 rfl) ?_
  refine lv_aload_n hx hb dX6_copyFrom_33 rfl (lv_at hl 1 rfl) ?_
  refine va_get (D := (dC, dI)) (ci := 6) (v := .int (v_8 (39 + 15 * i + t) 4)) (C := RX6) (T := TX6) (N := 5) hx hb hts iwX6_copyFrom_X6 hown hK hP (39 + 15 * i + t) (wl_at (by omega) (ce_16 (kd_t _ hi _ ht).1)) rfl 4 (by decide) (hts (.fieldLink RX6 7 "QuietStairs$Term" "last" "I") fwX6_copyFrom_5) (fun _ h9 => h9) rfl dX6_copyFrom_34 ?_
  refine lv_topi (fun x_9 ex_9 => ?_)
  have bzx_9 : 0 ≤ x_9.toInt ∧ x_9.toInt ≤ 23 := by rw [ex_9]; exact hv.at (K := 16) (kd_t _ hi _ ht).1 rfl
  rw [ev_8, upr_n (by omega), ev_6, upr_n (by omega), ev_4, upr_n (by omega), ev_2, upr_n (by omega)] at ex_9
  have qx_9 : x_9.toInt = (v (39 + 15 * i + t) (4)).toInt := congrArg Int32.toInt ex_9
  refine va_put (D := (dC, dI)) (ci := 6) (v := .int x_9) (ty := .int) (C := RX6) (T := TX6) (N := 5) hx hb hts iwX6_copyFrom_X6 tyX6 tyX6_ok nmX6 hown hK hP hD hS (145 + 15 * i + t) (wl_at (by omega) (ce_16 (kd_t _ hi _ ht).2)) rfl 4 (by decide) (hts (.fieldLink RX6 7 "QuietStairs$Term" "last" "I") fwX6_copyFrom_5) (fun _ h9 => h9) rfl (by decide +kernel) rfl rfl (Nat.le_of_ble_eq_true rfl) dX6_copyFrom_37 (fun H locs hP hD hS => ?_)
  obtain ⟨v_10, ev_10⟩ : ∃ u : Nat → Nat → Int32, u = upr v_8 (145 + 15 * i + t) (upd (v_8 (145 + 15 * i + t)) 4 x_9) := ⟨_, rfl⟩
  have hP : va_P (dC, dI) vwCl (wl ad kv cy N v_10) H := by rw [ev_10, ← wl_put (e := _) (ce_16 (kd_t _ hi _ ht).2)]; exact hP
  have hD : va_D A (wl ad kv cy N v_10) := by rw [ev_10, ← wl_put (e := _) (ce_16 (kd_t _ hi _ ht).2)]; exact hD
  have hv : Iv v_10 := by rw [ev_10]; exact hv.put (K := 16) (kd_t _ hi _ ht).2 (fun h q => by cases q; exact ⟨by omega, by omega⟩)
  have hpost : ∀ k j : Nat, v_10 k j = if k = 145 + 15 * i + t ∧ j < 5 then v (39 + 15 * i + t) j else v k j := by
    intro k j
    rw [ev_10, up2, ev_8, up2, ev_6, up2, ev_4, up2, ev_2, up2, ex_9, ex_7, ex_5, ex_3, ex_1]
    by_cases h : k = 145 + 15 * i + t ∧ j < 5
    · rw [if_pos h]
      obtain ⟨h1, h2⟩ := h
      subst h1
      rcases (show j = 0 ∨ j = 1 ∨ j = 2 ∨ j = 3 ∨ j = 4 by omega) with rfl | rfl | rfl | rfl | rfl
      · rw [if_neg (by omega), if_neg (by omega), if_neg (by omega), if_neg (by omega), if_pos ⟨rfl, rfl⟩]
      · rw [if_neg (by omega), if_neg (by omega), if_neg (by omega), if_pos ⟨rfl, rfl⟩]
      · rw [if_neg (by omega), if_neg (by omega), if_pos ⟨rfl, rfl⟩]
      · rw [if_neg (by omega), if_pos ⟨rfl, rfl⟩]
      · rw [if_pos ⟨rfl, rfl⟩]
    · rw [if_neg h, if_neg (by omega), if_neg (by omega), if_neg (by omega), if_neg (by omega), if_neg (by omega)]
  exact W.vret hx hb hr (fun t ht hW => ⟨⟨v_10, rfl, ⟨hv, hpost⟩, by rw [ht]; exact hP, hD⟩, hS.F ht⟩) hS.2.2 dX6_copyFrom_40
