set_option maxRecDepth 20000 in
theorem db_X4_init_0 : (decode cX4_init 0 = .ok (.aload_n 0, 1)) ∧ (decode cX4_init 1 = .ok (.invokespecial 3, 3)) ∧ (decode cX4_init 4 = .ok (.aload_n 0, 1)) ∧ (decode cX4_init 5 = .ok (.iconst 4, 1)) ∧ (decode cX4_init 6 = .ok (.newarray .int, 2)) ∧ (decode cX4_init 8 = .ok (.putfield 9, 3)) ∧ (decode cX4_init 11 = .ok (.aload_n 0, 1)) ∧ (decode cX4_init 12 = .ok (.iconst 4, 1)) := by decide +kernel
theorem dX4_init_0 : decode cX4_init 0 = .ok (.aload_n 0, 1) := db_X4_init_0.1
theorem dX4_init_1 : decode cX4_init 1 = .ok (.invokespecial 3, 3) := db_X4_init_0.2.1
theorem dX4_init_4 : decode cX4_init 4 = .ok (.aload_n 0, 1) := db_X4_init_0.2.2.1
theorem dX4_init_5 : decode cX4_init 5 = .ok (.iconst 4, 1) := db_X4_init_0.2.2.2.1
theorem dX4_init_6 : decode cX4_init 6 = .ok (.newarray .int, 2) := db_X4_init_0.2.2.2.2.1
theorem dX4_init_8 : decode cX4_init 8 = .ok (.putfield 9, 3) := db_X4_init_0.2.2.2.2.2.1
theorem dX4_init_11 : decode cX4_init 11 = .ok (.aload_n 0, 1) := db_X4_init_0.2.2.2.2.2.2.1
theorem dX4_init_12 : decode cX4_init 12 = .ok (.iconst 4, 1) := db_X4_init_0.2.2.2.2.2.2.2
set_option maxRecDepth 20000 in
theorem db_X4_init_13 : (decode cX4_init 13 = .ok (.newarray .int, 2)) ∧ (decode cX4_init 15 = .ok (.putfield 15, 3)) ∧ (decode cX4_init 18 = .ok (.aload_n 0, 1)) ∧ (decode cX4_init 19 = .ok (.iconst 4, 1)) ∧ (decode cX4_init 20 = .ok (.newarray .int, 2)) ∧ (decode cX4_init 22 = .ok (.putfield 18, 3)) ∧ (decode cX4_init 25 = .ok (.aload_n 0, 1)) ∧ (decode cX4_init 26 = .ok (.iconst 4, 1)) := by decide +kernel
theorem dX4_init_13 : decode cX4_init 13 = .ok (.newarray .int, 2) := db_X4_init_13.1
theorem dX4_init_15 : decode cX4_init 15 = .ok (.putfield 15, 3) := db_X4_init_13.2.1
theorem dX4_init_18 : decode cX4_init 18 = .ok (.aload_n 0, 1) := db_X4_init_13.2.2.1
theorem dX4_init_19 : decode cX4_init 19 = .ok (.iconst 4, 1) := db_X4_init_13.2.2.2.1
theorem dX4_init_20 : decode cX4_init 20 = .ok (.newarray .int, 2) := db_X4_init_13.2.2.2.2.1
theorem dX4_init_22 : decode cX4_init 22 = .ok (.putfield 18, 3) := db_X4_init_13.2.2.2.2.2.1
theorem dX4_init_25 : decode cX4_init 25 = .ok (.aload_n 0, 1) := db_X4_init_13.2.2.2.2.2.2.1
theorem dX4_init_26 : decode cX4_init 26 = .ok (.iconst 4, 1) := db_X4_init_13.2.2.2.2.2.2.2
set_option maxRecDepth 20000 in
theorem db_X4_init_27 : (decode cX4_init 27 = .ok (.newarray .int, 2)) ∧ (decode cX4_init 29 = .ok (.putfield 21, 3)) ∧ (decode cX4_init 32 = .ok (.aload_n 0, 1)) ∧ (decode cX4_init 33 = .ok (.iconst 4, 1)) ∧ (decode cX4_init 34 = .ok (.newarray .int, 2)) ∧ (decode cX4_init 36 = .ok (.putfield 24, 3)) ∧ (decode cX4_init 39 = .ok (.aload_n 0, 1)) ∧ (decode cX4_init 40 = .ok (.iconst 4, 1)) := by decide +kernel
theorem dX4_init_27 : decode cX4_init 27 = .ok (.newarray .int, 2) := db_X4_init_27.1
theorem dX4_init_29 : decode cX4_init 29 = .ok (.putfield 21, 3) := db_X4_init_27.2.1
theorem dX4_init_32 : decode cX4_init 32 = .ok (.aload_n 0, 1) := db_X4_init_27.2.2.1
theorem dX4_init_33 : decode cX4_init 33 = .ok (.iconst 4, 1) := db_X4_init_27.2.2.2.1
theorem dX4_init_34 : decode cX4_init 34 = .ok (.newarray .int, 2) := db_X4_init_27.2.2.2.2.1
theorem dX4_init_36 : decode cX4_init 36 = .ok (.putfield 24, 3) := db_X4_init_27.2.2.2.2.2.1
theorem dX4_init_39 : decode cX4_init 39 = .ok (.aload_n 0, 1) := db_X4_init_27.2.2.2.2.2.2.1
theorem dX4_init_40 : decode cX4_init 40 = .ok (.iconst 4, 1) := db_X4_init_27.2.2.2.2.2.2.2
set_option maxRecDepth 20000 in
theorem db_X4_init_41 : (decode cX4_init 41 = .ok (.newarray .int, 2)) ∧ (decode cX4_init 43 = .ok (.putfield 27, 3)) ∧ (decode cX4_init 46 = .ok (.aload_n 0, 1)) ∧ (decode cX4_init 47 = .ok (.iconst 3, 1)) ∧ (decode cX4_init 48 = .ok (.newarray .int, 2)) ∧ (decode cX4_init 50 = .ok (.putfield 30, 3)) ∧ (decode cX4_init 53 = .ok (.aload_n 0, 1)) ∧ (decode cX4_init 54 = .ok (.iconst 3, 1)) := by decide +kernel
theorem dX4_init_41 : decode cX4_init 41 = .ok (.newarray .int, 2) := db_X4_init_41.1
theorem dX4_init_43 : decode cX4_init 43 = .ok (.putfield 27, 3) := db_X4_init_41.2.1
theorem dX4_init_46 : decode cX4_init 46 = .ok (.aload_n 0, 1) := db_X4_init_41.2.2.1
theorem dX4_init_47 : decode cX4_init 47 = .ok (.iconst 3, 1) := db_X4_init_41.2.2.2.1
theorem dX4_init_48 : decode cX4_init 48 = .ok (.newarray .int, 2) := db_X4_init_41.2.2.2.2.1
theorem dX4_init_50 : decode cX4_init 50 = .ok (.putfield 30, 3) := db_X4_init_41.2.2.2.2.2.1
theorem dX4_init_53 : decode cX4_init 53 = .ok (.aload_n 0, 1) := db_X4_init_41.2.2.2.2.2.2.1
theorem dX4_init_54 : decode cX4_init 54 = .ok (.iconst 3, 1) := db_X4_init_41.2.2.2.2.2.2.2
set_option maxRecDepth 20000 in
theorem db_X4_init_55 : (decode cX4_init 55 = .ok (.newarray .int, 2)) ∧ (decode cX4_init 57 = .ok (.putfield 33, 3)) ∧ (decode cX4_init 60 = .ok (.return_, 1)) := by decide +kernel
theorem dX4_init_55 : decode cX4_init 55 = .ok (.newarray .int, 2) := db_X4_init_55.1
theorem dX4_init_57 : decode cX4_init 57 = .ok (.putfield 33, 3) := db_X4_init_55.2.1
theorem dX4_init_60 : decode cX4_init 60 = .ok (.return_, 1) := db_X4_init_55.2.2
set_option maxRecDepth 20000 in
theorem db_X5_init_0 : (decode cX5_init 0 = .ok (.aload_n 0, 1)) ∧ (decode cX5_init 1 = .ok (.invokespecial 3, 3)) ∧ (decode cX5_init 4 = .ok (.aload_n 0, 1)) ∧ (decode cX5_init 5 = .ok (.iconst 5, 1)) ∧ (decode cX5_init 6 = .ok (.newarray .int, 2)) ∧ (decode cX5_init 8 = .ok (.putfield 9, 3)) ∧ (decode cX5_init 11 = .ok (.aload_n 0, 1)) ∧ (decode cX5_init 12 = .ok (.iconst 5, 1)) := by decide +kernel
theorem dX5_init_0 : decode cX5_init 0 = .ok (.aload_n 0, 1) := db_X5_init_0.1
theorem dX5_init_1 : decode cX5_init 1 = .ok (.invokespecial 3, 3) := db_X5_init_0.2.1
theorem dX5_init_4 : decode cX5_init 4 = .ok (.aload_n 0, 1) := db_X5_init_0.2.2.1
theorem dX5_init_5 : decode cX5_init 5 = .ok (.iconst 5, 1) := db_X5_init_0.2.2.2.1
theorem dX5_init_6 : decode cX5_init 6 = .ok (.newarray .int, 2) := db_X5_init_0.2.2.2.2.1
theorem dX5_init_8 : decode cX5_init 8 = .ok (.putfield 9, 3) := db_X5_init_0.2.2.2.2.2.1
theorem dX5_init_11 : decode cX5_init 11 = .ok (.aload_n 0, 1) := db_X5_init_0.2.2.2.2.2.2.1
theorem dX5_init_12 : decode cX5_init 12 = .ok (.iconst 5, 1) := db_X5_init_0.2.2.2.2.2.2.2
set_option maxRecDepth 20000 in
theorem db_X5_init_13 : (decode cX5_init 13 = .ok (.newarray .int, 2)) ∧ (decode cX5_init 15 = .ok (.putfield 15, 3)) ∧ (decode cX5_init 18 = .ok (.return_, 1)) := by decide +kernel
theorem dX5_init_13 : decode cX5_init 13 = .ok (.newarray .int, 2) := db_X5_init_13.1
theorem dX5_init_15 : decode cX5_init 15 = .ok (.putfield 15, 3) := db_X5_init_13.2.1
theorem dX5_init_18 : decode cX5_init 18 = .ok (.return_, 1) := db_X5_init_13.2.2
set_option maxHeartbeats 4000000 in
set_option maxRecDepth 100000 in
theorem c_X4_init (l : Launch) (dC : Nat → ClassId) (dI : Nat → Nat → Nat) (cy : Nat → ClassId) (sz : Nat) (h0 : Nat) : Met l yX4_init wsX4_init ({ frames := 1, cells := 8, slots := 30, locals := 64 }) (va_Pc [.ref h0] (ex_Pre dC dI cy sz [(h0, .inr (4, [.int 0, .int 0, .int 0, .null, .null, .null, .null, .null, .null, .null, .null]))])) (va_Qv (fun (u : Nat × Nat × Nat × Nat × Nat × Nat × Nat × Nat) => True) (fun u t => ex_Pst dC dI (va_A [(h0, .inr (4, [.int 0, .int 0, .int 0, .null, .null, .null, .null, .null, .null, .null, .null]))] sz) ([(h0, .inr (4, [.int 0, .int 0, .int 0, .ref u.1, .ref u.2.1, .ref u.2.2.1, .ref u.2.2.2.1, .ref u.2.2.2.2.1, .ref u.2.2.2.2.2.1, .ref u.2.2.2.2.2.2.1, .ref u.2.2.2.2.2.2.2])), (u.1, .inl (cy 0, 4, .inl (fun _ => 0))), (u.2.1, .inl (cy 0, 4, .inl (fun _ => 0))), (u.2.2.1, .inl (cy 0, 4, .inl (fun _ => 0))), (u.2.2.2.1, .inl (cy 0, 4, .inl (fun _ => 0))), (u.2.2.2.2.1, .inl (cy 0, 4, .inl (fun _ => 0))), (u.2.2.2.2.2.1, .inl (cy 0, 4, .inl (fun _ => 0))), (u.2.2.2.2.2.2.1, .inl (cy 0, 3, .inl (fun _ => 0))), (u.2.2.2.2.2.2.2, .inl (cy 0, 3, .inl (fun _ => 0)))]) t) (va_A [(h0, .inr (4, [.int 0, .int 0, .int 0, .null, .null, .null, .null, .null, .null, .null, .null]))] sz)) 8 30 (va_A [(h0, .inr (4, [.int 0, .int 0, .int 0, .null, .null, .null, .null, .null, .null, .null, .null]))] sz) := by
  refine Met.ofW (cc := cX4_init) (maxL := 1) (ret := none) (by decide) rfl ?_
  intro p e s m args below meth c s₁ B hml hv
  obtain ⟨rfl, hsz, hE, hP, hK, hD0⟩ := hv
  have hx := B.exec
  have hb := B.bytes
  have hr := B.returns
  have hts := atoms_spec (ws := wsX4_init) B.pre
  have hown : s.vm.findClass RX4 = some m.cls := findClass_of_methodNamed B.named
  have hlocks := B.notSynchronized
  have hin : meth.name = "<init>" := (name_of_methodNamed B.named B.method).1
  subst hsz
  have hD := hD0.self (sz := s.heap.size)
  generalize hAe : va_A [(h0, .inr (4, [.int 0, .int 0, .int 0, .null, .null, .null, .null, .null, .null, .null, .null]))] s.heap.size = A at hD ⊢
  have hA : ∀ q : Nat, s.heap.size ≤ q → A q := fun q h => by rw [← hAe]; exact Or.inr h
  have hS : va_S A s.heap s.heap [] := va_S.rf
  have hP : va_P (dC, dI) vwCl [(h0, .inr (4, [.int 0, .int 0, .int 0, .null, .null, .null, .null, .null, .null, .null, .null]))] s.heap := hP
  have hl := lv_entry ([.ref h0]) (n := 1) (Nat.le_of_ble_eq_true rfl)
  rw [lg_entry_eq]
  generalize (lg_sl ([.ref h0]) ++ List.replicate (1 - (lg_sl ([.ref h0])).length) Slot.unset).toArray = ls at hl ⊢
  have hl : lv_has ls 1 [(0, .ref h0)] := hl
  refine lv_aload_n hx hb dX4_init_0 rfl (lv_at hl 0 rfl) ?_
  refine W.objInit hx hb hown (hts (.methodLink RX4 3 objectInit) fwX4_init_1) (hts (.instanceMethod objectInit) fwX4_init_2) (hts (.code objectInit ⟨#[0xb1]⟩ 1 none) fwX4_init_3) rfl (by rw [hml]; exact hl.1) rfl dX4_init_1 (Nat.le_of_ble_eq_true rfl) (Nat.le_of_ble_eq_true rfl) ?_
  refine W.eq (g2 := F0 m 4 ls []) rfl ?_
  refine lv_aload_n hx hb dX4_init_4 rfl (lv_at hl 0 rfl) ?_
  refine lv_iconst (v := 4) hx hb dX4_init_5 (by decide) ?_
  refine yn_i hx hb (hts (.arrayClass .int) fwX4_init_4) hK hP hD hS hA 4 (by decide) (by decide) (by decide) (Nat.le_of_ble_eq_true rfl) (Nat.le_of_ble_eq_true rfl) dX4_init_6 (fun q1 H hP hD hS => ?_)
  have hP : va_P (dC, dI) vwCl [(h0, .inr (4, [.int 0, .int 0, .int 0, .null, .null, .null, .null, .null, .null, .null, .null])), (q1, .inl (cy 0, 4, .inl (fun _ => 0)))] H := hP
  have hD : va_D A [(h0, .inr (4, [.int 0, .int 0, .int 0, .null, .null, .null, .null, .null, .null, .null, .null])), (q1, .inl (cy 0, 4, .inl (fun _ => 0)))] := hD
  refine W.widen (k := 1) (n := 4) (by omega) (by omega) ?_
  refine va_putF (D := (dC, dI)) (ci := 4) (v := .ref q1) (ty := .array .int) (C := RX4) (T := TX4) (N := 11) hx hb hts iwX4_init_X4 tyX4 tyX4_ok nmX4 hown hK hP hD hS 0 rfl rfl 3 (by decide) (hts (.fieldLink RX4 9 "QuietStairs$Planner" "numbers" "[I") fwX4_init_5) (fun _ h9 => h9) rfl hin rfl (by decide +kernel) rfl rfl (Nat.le_of_ble_eq_true rfl) dX4_init_8 (fun H locs hP hD hS => ?_)
  have hP : va_P (dC, dI) vwCl [(h0, .inr (4, [.int 0, .int 0, .int 0, .ref q1, .null, .null, .null, .null, .null, .null, .null])), (q1, .inl (cy 0, 4, .inl (fun _ => 0)))] H := hP
  have hD : va_D A [(h0, .inr (4, [.int 0, .int 0, .int 0, .ref q1, .null, .null, .null, .null, .null, .null, .null])), (q1, .inl (cy 0, 4, .inl (fun _ => 0)))] := hD
  refine lv_aload_n hx hb dX4_init_11 rfl (lv_at hl 0 rfl) ?_
  refine lv_iconst (v := 4) hx hb dX4_init_12 (by decide) ?_
  refine yn_i hx hb (hts (.arrayClass .int) fwX4_init_4) hK hP hD hS hA 4 (by decide) (by decide) (by decide) (Nat.le_of_ble_eq_true rfl) (Nat.le_of_ble_eq_true rfl) dX4_init_13 (fun q2 H hP hD hS => ?_)
  have hP : va_P (dC, dI) vwCl [(h0, .inr (4, [.int 0, .int 0, .int 0, .ref q1, .null, .null, .null, .null, .null, .null, .null])), (q1, .inl (cy 0, 4, .inl (fun _ => 0))), (q2, .inl (cy 0, 4, .inl (fun _ => 0)))] H := hP
  have hD : va_D A [(h0, .inr (4, [.int 0, .int 0, .int 0, .ref q1, .null, .null, .null, .null, .null, .null, .null])), (q1, .inl (cy 0, 4, .inl (fun _ => 0))), (q2, .inl (cy 0, 4, .inl (fun _ => 0)))] := hD
  refine W.widen (k := 2) (n := 8) (by omega) (by omega) ?_
  refine va_putF (D := (dC, dI)) (ci := 4) (v := .ref q2) (ty := .array .int) (C := RX4) (T := TX4) (N := 11) hx hb hts iwX4_init_X4 tyX4 tyX4_ok nmX4 hown hK hP hD hS 0 rfl rfl 4 (by decide) (hts (.fieldLink RX4 15 "QuietStairs$Planner" "weights" "[I") fwX4_init_6) (fun _ h9 => h9) rfl hin rfl (by decide +kernel) rfl rfl (Nat.le_of_ble_eq_true rfl) dX4_init_15 (fun H locs hP hD hS => ?_)
  have hP : va_P (dC, dI) vwCl [(h0, .inr (4, [.int 0, .int 0, .int 0, .ref q1, .ref q2, .null, .null, .null, .null, .null, .null])), (q1, .inl (cy 0, 4, .inl (fun _ => 0))), (q2, .inl (cy 0, 4, .inl (fun _ => 0)))] H := hP
  have hD : va_D A [(h0, .inr (4, [.int 0, .int 0, .int 0, .ref q1, .ref q2, .null, .null, .null, .null, .null, .null])), (q1, .inl (cy 0, 4, .inl (fun _ => 0))), (q2, .inl (cy 0, 4, .inl (fun _ => 0)))] := hD
  refine lv_aload_n hx hb dX4_init_18 rfl (lv_at hl 0 rfl) ?_
  refine lv_iconst (v := 4) hx hb dX4_init_19 (by decide) ?_
  refine yn_i hx hb (hts (.arrayClass .int) fwX4_init_4) hK hP hD hS hA 4 (by decide) (by decide) (by decide) (Nat.le_of_ble_eq_true rfl) (Nat.le_of_ble_eq_true rfl) dX4_init_20 (fun q3 H hP hD hS => ?_)
  have hP : va_P (dC, dI) vwCl [(h0, .inr (4, [.int 0, .int 0, .int 0, .ref q1, .ref q2, .null, .null, .null, .null, .null, .null])), (q1, .inl (cy 0, 4, .inl (fun _ => 0))), (q2, .inl (cy 0, 4, .inl (fun _ => 0))), (q3, .inl (cy 0, 4, .inl (fun _ => 0)))] H := hP
  have hD : va_D A [(h0, .inr (4, [.int 0, .int 0, .int 0, .ref q1, .ref q2, .null, .null, .null, .null, .null, .null])), (q1, .inl (cy 0, 4, .inl (fun _ => 0))), (q2, .inl (cy 0, 4, .inl (fun _ => 0))), (q3, .inl (cy 0, 4, .inl (fun _ => 0)))] := hD
  refine W.widen (k := 3) (n := 12) (by omega) (by omega) ?_
  refine va_putF (D := (dC, dI)) (ci := 4) (v := .ref q3) (ty := .array .int) (C := RX4) (T := TX4) (N := 11) hx hb hts iwX4_init_X4 tyX4 tyX4_ok nmX4 hown hK hP hD hS 0 rfl rfl 5 (by decide) (hts (.fieldLink RX4 18 "QuietStairs$Planner" "pairBits" "[I") fwX4_init_7) (fun _ h9 => h9) rfl hin rfl (by decide +kernel) rfl rfl (Nat.le_of_ble_eq_true rfl) dX4_init_22 (fun H locs hP hD hS => ?_)
  have hP : va_P (dC, dI) vwCl [(h0, .inr (4, [.int 0, .int 0, .int 0, .ref q1, .ref q2, .ref q3, .null, .null, .null, .null, .null])), (q1, .inl (cy 0, 4, .inl (fun _ => 0))), (q2, .inl (cy 0, 4, .inl (fun _ => 0))), (q3, .inl (cy 0, 4, .inl (fun _ => 0)))] H := hP
  have hD : va_D A [(h0, .inr (4, [.int 0, .int 0, .int 0, .ref q1, .ref q2, .ref q3, .null, .null, .null, .null, .null])), (q1, .inl (cy 0, 4, .inl (fun _ => 0))), (q2, .inl (cy 0, 4, .inl (fun _ => 0))), (q3, .inl (cy 0, 4, .inl (fun _ => 0)))] := hD
  refine lv_aload_n hx hb dX4_init_25 rfl (lv_at hl 0 rfl) ?_
  refine lv_iconst (v := 4) hx hb dX4_init_26 (by decide) ?_
  refine yn_i hx hb (hts (.arrayClass .int) fwX4_init_4) hK hP hD hS hA 4 (by decide) (by decide) (by decide) (Nat.le_of_ble_eq_true rfl) (Nat.le_of_ble_eq_true rfl) dX4_init_27 (fun q4 H hP hD hS => ?_)
  have hP : va_P (dC, dI) vwCl [(h0, .inr (4, [.int 0, .int 0, .int 0, .ref q1, .ref q2, .ref q3, .null, .null, .null, .null, .null])), (q1, .inl (cy 0, 4, .inl (fun _ => 0))), (q2, .inl (cy 0, 4, .inl (fun _ => 0))), (q3, .inl (cy 0, 4, .inl (fun _ => 0))), (q4, .inl (cy 0, 4, .inl (fun _ => 0)))] H := hP
  have hD : va_D A [(h0, .inr (4, [.int 0, .int 0, .int 0, .ref q1, .ref q2, .ref q3, .null, .null, .null, .null, .null])), (q1, .inl (cy 0, 4, .inl (fun _ => 0))), (q2, .inl (cy 0, 4, .inl (fun _ => 0))), (q3, .inl (cy 0, 4, .inl (fun _ => 0))), (q4, .inl (cy 0, 4, .inl (fun _ => 0)))] := hD
  refine W.widen (k := 4) (n := 16) (by omega) (by omega) ?_
  refine va_putF (D := (dC, dI)) (ci := 4) (v := .ref q4) (ty := .array .int) (C := RX4) (T := TX4) (N := 11) hx hb hts iwX4_init_X4 tyX4 tyX4_ok nmX4 hown hK hP hD hS 0 rfl rfl 6 (by decide) (hts (.fieldLink RX4 21 "QuietStairs$Planner" "heaviestFirst" "[I") fwX4_init_8) (fun _ h9 => h9) rfl hin rfl (by decide +kernel) rfl rfl (Nat.le_of_ble_eq_true rfl) dX4_init_29 (fun H locs hP hD hS => ?_)
  have hP : va_P (dC, dI) vwCl [(h0, .inr (4, [.int 0, .int 0, .int 0, .ref q1, .ref q2, .ref q3, .ref q4, .null, .null, .null, .null])), (q1, .inl (cy 0, 4, .inl (fun _ => 0))), (q2, .inl (cy 0, 4, .inl (fun _ => 0))), (q3, .inl (cy 0, 4, .inl (fun _ => 0))), (q4, .inl (cy 0, 4, .inl (fun _ => 0)))] H := hP
  have hD : va_D A [(h0, .inr (4, [.int 0, .int 0, .int 0, .ref q1, .ref q2, .ref q3, .ref q4, .null, .null, .null, .null])), (q1, .inl (cy 0, 4, .inl (fun _ => 0))), (q2, .inl (cy 0, 4, .inl (fun _ => 0))), (q3, .inl (cy 0, 4, .inl (fun _ => 0))), (q4, .inl (cy 0, 4, .inl (fun _ => 0)))] := hD
  refine lv_aload_n hx hb dX4_init_32 rfl (lv_at hl 0 rfl) ?_
  refine lv_iconst (v := 4) hx hb dX4_init_33 (by decide) ?_
  refine yn_i hx hb (hts (.arrayClass .int) fwX4_init_4) hK hP hD hS hA 4 (by decide) (by decide) (by decide) (Nat.le_of_ble_eq_true rfl) (Nat.le_of_ble_eq_true rfl) dX4_init_34 (fun q5 H hP hD hS => ?_)
  have hP : va_P (dC, dI) vwCl [(h0, .inr (4, [.int 0, .int 0, .int 0, .ref q1, .ref q2, .ref q3, .ref q4, .null, .null, .null, .null])), (q1, .inl (cy 0, 4, .inl (fun _ => 0))), (q2, .inl (cy 0, 4, .inl (fun _ => 0))), (q3, .inl (cy 0, 4, .inl (fun _ => 0))), (q4, .inl (cy 0, 4, .inl (fun _ => 0))), (q5, .inl (cy 0, 4, .inl (fun _ => 0)))] H := hP
  have hD : va_D A [(h0, .inr (4, [.int 0, .int 0, .int 0, .ref q1, .ref q2, .ref q3, .ref q4, .null, .null, .null, .null])), (q1, .inl (cy 0, 4, .inl (fun _ => 0))), (q2, .inl (cy 0, 4, .inl (fun _ => 0))), (q3, .inl (cy 0, 4, .inl (fun _ => 0))), (q4, .inl (cy 0, 4, .inl (fun _ => 0))), (q5, .inl (cy 0, 4, .inl (fun _ => 0)))] := hD
  refine W.widen (k := 5) (n := 20) (by omega) (by omega) ?_
  refine va_putF (D := (dC, dI)) (ci := 4) (v := .ref q5) (ty := .array .int) (C := RX4) (T := TX4) (N := 11) hx hb hts iwX4_init_X4 tyX4 tyX4_ok nmX4 hown hK hP hD hS 0 rfl rfl 7 (by decide) (hts (.fieldLink RX4 24 "QuietStairs$Planner" "seats" "[I") fwX4_init_9) (fun _ h9 => h9) rfl hin rfl (by decide +kernel) rfl rfl (Nat.le_of_ble_eq_true rfl) dX4_init_36 (fun H locs hP hD hS => ?_)
  have hP : va_P (dC, dI) vwCl [(h0, .inr (4, [.int 0, .int 0, .int 0, .ref q1, .ref q2, .ref q3, .ref q4, .ref q5, .null, .null, .null])), (q1, .inl (cy 0, 4, .inl (fun _ => 0))), (q2, .inl (cy 0, 4, .inl (fun _ => 0))), (q3, .inl (cy 0, 4, .inl (fun _ => 0))), (q4, .inl (cy 0, 4, .inl (fun _ => 0))), (q5, .inl (cy 0, 4, .inl (fun _ => 0)))] H := hP
  have hD : va_D A [(h0, .inr (4, [.int 0, .int 0, .int 0, .ref q1, .ref q2, .ref q3, .ref q4, .ref q5, .null, .null, .null])), (q1, .inl (cy 0, 4, .inl (fun _ => 0))), (q2, .inl (cy 0, 4, .inl (fun _ => 0))), (q3, .inl (cy 0, 4, .inl (fun _ => 0))), (q4, .inl (cy 0, 4, .inl (fun _ => 0))), (q5, .inl (cy 0, 4, .inl (fun _ => 0)))] := hD
  refine lv_aload_n hx hb dX4_init_39 rfl (lv_at hl 0 rfl) ?_
  refine lv_iconst (v := 4) hx hb dX4_init_40 (by decide) ?_
  refine yn_i hx hb (hts (.arrayClass .int) fwX4_init_4) hK hP hD hS hA 4 (by decide) (by decide) (by decide) (Nat.le_of_ble_eq_true rfl) (Nat.le_of_ble_eq_true rfl) dX4_init_41 (fun q6 H hP hD hS => ?_)
  have hP : va_P (dC, dI) vwCl [(h0, .inr (4, [.int 0, .int 0, .int 0, .ref q1, .ref q2, .ref q3, .ref q4, .ref q5, .null, .null, .null])), (q1, .inl (cy 0, 4, .inl (fun _ => 0))), (q2, .inl (cy 0, 4, .inl (fun _ => 0))), (q3, .inl (cy 0, 4, .inl (fun _ => 0))), (q4, .inl (cy 0, 4, .inl (fun _ => 0))), (q5, .inl (cy 0, 4, .inl (fun _ => 0))), (q6, .inl (cy 0, 4, .inl (fun _ => 0)))] H := hP
  have hD : va_D A [(h0, .inr (4, [.int 0, .int 0, .int 0, .ref q1, .ref q2, .ref q3, .ref q4, .ref q5, .null, .null, .null])), (q1, .inl (cy 0, 4, .inl (fun _ => 0))), (q2, .inl (cy 0, 4, .inl (fun _ => 0))), (q3, .inl (cy 0, 4, .inl (fun _ => 0))), (q4, .inl (cy 0, 4, .inl (fun _ => 0))), (q5, .inl (cy 0, 4, .inl (fun _ => 0))), (q6, .inl (cy 0, 4, .inl (fun _ => 0)))] := hD
  refine W.widen (k := 6) (n := 24) (by omega) (by omega) ?_
  refine va_putF (D := (dC, dI)) (ci := 4) (v := .ref q6) (ty := .array .int) (C := RX4) (T := TX4) (N := 11) hx hb hts iwX4_init_X4 tyX4 tyX4_ok nmX4 hown hK hP hD hS 0 rfl rfl 8 (by decide) (hts (.fieldLink RX4 27 "QuietStairs$Planner" "bestSeats" "[I") fwX4_init_10) (fun _ h9 => h9) rfl hin rfl (by decide +kernel) rfl rfl (Nat.le_of_ble_eq_true rfl) dX4_init_43 (fun H locs hP hD hS => ?_)
  have hP : va_P (dC, dI) vwCl [(h0, .inr (4, [.int 0, .int 0, .int 0, .ref q1, .ref q2, .ref q3, .ref q4, .ref q5, .ref q6, .null, .null])), (q1, .inl (cy 0, 4, .inl (fun _ => 0))), (q2, .inl (cy 0, 4, .inl (fun _ => 0))), (q3, .inl (cy 0, 4, .inl (fun _ => 0))), (q4, .inl (cy 0, 4, .inl (fun _ => 0))), (q5, .inl (cy 0, 4, .inl (fun _ => 0))), (q6, .inl (cy 0, 4, .inl (fun _ => 0)))] H := hP
  have hD : va_D A [(h0, .inr (4, [.int 0, .int 0, .int 0, .ref q1, .ref q2, .ref q3, .ref q4, .ref q5, .ref q6, .null, .null])), (q1, .inl (cy 0, 4, .inl (fun _ => 0))), (q2, .inl (cy 0, 4, .inl (fun _ => 0))), (q3, .inl (cy 0, 4, .inl (fun _ => 0))), (q4, .inl (cy 0, 4, .inl (fun _ => 0))), (q5, .inl (cy 0, 4, .inl (fun _ => 0))), (q6, .inl (cy 0, 4, .inl (fun _ => 0)))] := hD
  refine lv_aload_n hx hb dX4_init_46 rfl (lv_at hl 0 rfl) ?_
  refine lv_iconst (v := 3) hx hb dX4_init_47 (by decide) ?_
  refine yn_i hx hb (hts (.arrayClass .int) fwX4_init_4) hK hP hD hS hA 3 (by decide) (by decide) (by decide) (Nat.le_of_ble_eq_true rfl) (Nat.le_of_ble_eq_true rfl) dX4_init_48 (fun q7 H hP hD hS => ?_)
  have hP : va_P (dC, dI) vwCl [(h0, .inr (4, [.int 0, .int 0, .int 0, .ref q1, .ref q2, .ref q3, .ref q4, .ref q5, .ref q6, .null, .null])), (q1, .inl (cy 0, 4, .inl (fun _ => 0))), (q2, .inl (cy 0, 4, .inl (fun _ => 0))), (q3, .inl (cy 0, 4, .inl (fun _ => 0))), (q4, .inl (cy 0, 4, .inl (fun _ => 0))), (q5, .inl (cy 0, 4, .inl (fun _ => 0))), (q6, .inl (cy 0, 4, .inl (fun _ => 0))), (q7, .inl (cy 0, 3, .inl (fun _ => 0)))] H := hP
  have hD : va_D A [(h0, .inr (4, [.int 0, .int 0, .int 0, .ref q1, .ref q2, .ref q3, .ref q4, .ref q5, .ref q6, .null, .null])), (q1, .inl (cy 0, 4, .inl (fun _ => 0))), (q2, .inl (cy 0, 4, .inl (fun _ => 0))), (q3, .inl (cy 0, 4, .inl (fun _ => 0))), (q4, .inl (cy 0, 4, .inl (fun _ => 0))), (q5, .inl (cy 0, 4, .inl (fun _ => 0))), (q6, .inl (cy 0, 4, .inl (fun _ => 0))), (q7, .inl (cy 0, 3, .inl (fun _ => 0)))] := hD
  refine W.widen (k := 7) (n := 27) (by omega) (by omega) ?_
  refine va_putF (D := (dC, dI)) (ci := 4) (v := .ref q7) (ty := .array .int) (C := RX4) (T := TX4) (N := 11) hx hb hts iwX4_init_X4 tyX4 tyX4_ok nmX4 hown hK hP hD hS 0 rfl rfl 9 (by decide) (hts (.fieldLink RX4 30 "QuietStairs$Planner" "busyBits" "[I") fwX4_init_11) (fun _ h9 => h9) rfl hin rfl (by decide +kernel) rfl rfl (Nat.le_of_ble_eq_true rfl) dX4_init_50 (fun H locs hP hD hS => ?_)
  have hP : va_P (dC, dI) vwCl [(h0, .inr (4, [.int 0, .int 0, .int 0, .ref q1, .ref q2, .ref q3, .ref q4, .ref q5, .ref q6, .ref q7, .null])), (q1, .inl (cy 0, 4, .inl (fun _ => 0))), (q2, .inl (cy 0, 4, .inl (fun _ => 0))), (q3, .inl (cy 0, 4, .inl (fun _ => 0))), (q4, .inl (cy 0, 4, .inl (fun _ => 0))), (q5, .inl (cy 0, 4, .inl (fun _ => 0))), (q6, .inl (cy 0, 4, .inl (fun _ => 0))), (q7, .inl (cy 0, 3, .inl (fun _ => 0)))] H := hP
  have hD : va_D A [(h0, .inr (4, [.int 0, .int 0, .int 0, .ref q1, .ref q2, .ref q3, .ref q4, .ref q5, .ref q6, .ref q7, .null])), (q1, .inl (cy 0, 4, .inl (fun _ => 0))), (q2, .inl (cy 0, 4, .inl (fun _ => 0))), (q3, .inl (cy 0, 4, .inl (fun _ => 0))), (q4, .inl (cy 0, 4, .inl (fun _ => 0))), (q5, .inl (cy 0, 4, .inl (fun _ => 0))), (q6, .inl (cy 0, 4, .inl (fun _ => 0))), (q7, .inl (cy 0, 3, .inl (fun _ => 0)))] := hD
  refine lv_aload_n hx hb dX4_init_53 rfl (lv_at hl 0 rfl) ?_
  refine lv_iconst (v := 3) hx hb dX4_init_54 (by decide) ?_
  refine yn_i hx hb (hts (.arrayClass .int) fwX4_init_4) hK hP hD hS hA 3 (by decide) (by decide) (by decide) (Nat.le_of_ble_eq_true rfl) (Nat.le_of_ble_eq_true rfl) dX4_init_55 (fun q8 H hP hD hS => ?_)
  have hP : va_P (dC, dI) vwCl [(h0, .inr (4, [.int 0, .int 0, .int 0, .ref q1, .ref q2, .ref q3, .ref q4, .ref q5, .ref q6, .ref q7, .null])), (q1, .inl (cy 0, 4, .inl (fun _ => 0))), (q2, .inl (cy 0, 4, .inl (fun _ => 0))), (q3, .inl (cy 0, 4, .inl (fun _ => 0))), (q4, .inl (cy 0, 4, .inl (fun _ => 0))), (q5, .inl (cy 0, 4, .inl (fun _ => 0))), (q6, .inl (cy 0, 4, .inl (fun _ => 0))), (q7, .inl (cy 0, 3, .inl (fun _ => 0))), (q8, .inl (cy 0, 3, .inl (fun _ => 0)))] H := hP
  have hD : va_D A [(h0, .inr (4, [.int 0, .int 0, .int 0, .ref q1, .ref q2, .ref q3, .ref q4, .ref q5, .ref q6, .ref q7, .null])), (q1, .inl (cy 0, 4, .inl (fun _ => 0))), (q2, .inl (cy 0, 4, .inl (fun _ => 0))), (q3, .inl (cy 0, 4, .inl (fun _ => 0))), (q4, .inl (cy 0, 4, .inl (fun _ => 0))), (q5, .inl (cy 0, 4, .inl (fun _ => 0))), (q6, .inl (cy 0, 4, .inl (fun _ => 0))), (q7, .inl (cy 0, 3, .inl (fun _ => 0))), (q8, .inl (cy 0, 3, .inl (fun _ => 0)))] := hD
  refine W.widen (k := 8) (n := 30) (by omega) (by omega) ?_
  refine va_putF (D := (dC, dI)) (ci := 4) (v := .ref q8) (ty := .array .int) (C := RX4) (T := TX4) (N := 11) hx hb hts iwX4_init_X4 tyX4 tyX4_ok nmX4 hown hK hP hD hS 0 rfl rfl 10 (by decide) (hts (.fieldLink RX4 33 "QuietStairs$Planner" "sittings" "[I") fwX4_init_12) (fun _ h9 => h9) rfl hin rfl (by decide +kernel) rfl rfl (Nat.le_of_ble_eq_true rfl) dX4_init_57 (fun H locs hP hD hS => ?_)
  have hP : va_P (dC, dI) vwCl [(h0, .inr (4, [.int 0, .int 0, .int 0, .ref q1, .ref q2, .ref q3, .ref q4, .ref q5, .ref q6, .ref q7, .ref q8])), (q1, .inl (cy 0, 4, .inl (fun _ => 0))), (q2, .inl (cy 0, 4, .inl (fun _ => 0))), (q3, .inl (cy 0, 4, .inl (fun _ => 0))), (q4, .inl (cy 0, 4, .inl (fun _ => 0))), (q5, .inl (cy 0, 4, .inl (fun _ => 0))), (q6, .inl (cy 0, 4, .inl (fun _ => 0))), (q7, .inl (cy 0, 3, .inl (fun _ => 0))), (q8, .inl (cy 0, 3, .inl (fun _ => 0)))] H := hP
  have hD : va_D A [(h0, .inr (4, [.int 0, .int 0, .int 0, .ref q1, .ref q2, .ref q3, .ref q4, .ref q5, .ref q6, .ref q7, .ref q8])), (q1, .inl (cy 0, 4, .inl (fun _ => 0))), (q2, .inl (cy 0, 4, .inl (fun _ => 0))), (q3, .inl (cy 0, 4, .inl (fun _ => 0))), (q4, .inl (cy 0, 4, .inl (fun _ => 0))), (q5, .inl (cy 0, 4, .inl (fun _ => 0))), (q6, .inl (cy 0, 4, .inl (fun _ => 0))), (q7, .inl (cy 0, 3, .inl (fun _ => 0))), (q8, .inl (cy 0, 3, .inl (fun _ => 0)))] := hD
  have hP9 := hP.sub (ws' := [(h0, .inr (4, [.int 0, .int 0, .int 0, .ref q1, .ref q2, .ref q3, .ref q4, .ref q5, .ref q6, .ref q7, .ref q8])), (q1, .inl (cy 0, 4, .inl (fun _ => 0))), (q2, .inl (cy 0, 4, .inl (fun _ => 0))), (q3, .inl (cy 0, 4, .inl (fun _ => 0))), (q4, .inl (cy 0, 4, .inl (fun _ => 0))), (q5, .inl (cy 0, 4, .inl (fun _ => 0))), (q6, .inl (cy 0, 4, .inl (fun _ => 0))), (q7, .inl (cy 0, 3, .inl (fun _ => 0))), (q8, .inl (cy 0, 3, .inl (fun _ => 0)))]) [0, 1, 2, 3, 4, 5, 6, 7, 8] rfl
  have hD9 := hD.sub (ws' := [(h0, .inr (4, [.int 0, .int 0, .int 0, .ref q1, .ref q2, .ref q3, .ref q4, .ref q5, .ref q6, .ref q7, .ref q8])), (q1, .inl (cy 0, 4, .inl (fun _ => 0))), (q2, .inl (cy 0, 4, .inl (fun _ => 0))), (q3, .inl (cy 0, 4, .inl (fun _ => 0))), (q4, .inl (cy 0, 4, .inl (fun _ => 0))), (q5, .inl (cy 0, 4, .inl (fun _ => 0))), (q6, .inl (cy 0, 4, .inl (fun _ => 0))), (q7, .inl (cy 0, 3, .inl (fun _ => 0))), (q8, .inl (cy 0, 3, .inl (fun _ => 0)))]) [0, 1, 2, 3, 4, 5, 6, 7, 8] (by decide) rfl
  exact W.vret hx hb hr (fun t ht hW => ⟨⟨(q1, q2, q3, q4, q5, q6, q7, q8), rfl, trivial, by rw [ht]; exact hP9, hD9⟩, hS.F ht⟩) hS.2.2 dX4_init_60

set_option maxHeartbeats 4000000 in
set_option maxRecDepth 100000 in
theorem c_X5_init (l : Launch) (dC : Nat → ClassId) (dI : Nat → Nat → Nat) (cy : Nat → ClassId) (sz : Nat) (h0 : Nat) : Met l yX5_init wsX5_init ({ frames := 1, cells := 2, slots := 10, locals := 64 }) (va_Pc [.ref h0] (ex_Pre dC dI cy sz [(h0, .inr (5, [.int 0, .null, .null]))])) (va_Qv (fun (u : Nat × Nat) => True) (fun u t => ex_Pst dC dI (va_A [(h0, .inr (5, [.int 0, .null, .null]))] sz) ([(h0, .inr (5, [.int 0, .ref u.1, .ref u.2])), (u.1, .inl (cy 0, 5, .inl (fun _ => 0))), (u.2, .inl (cy 0, 5, .inl (fun _ => 0)))]) t) (va_A [(h0, .inr (5, [.int 0, .null, .null]))] sz)) 2 10 (va_A [(h0, .inr (5, [.int 0, .null, .null]))] sz) := by
  refine Met.ofW (cc := cX5_init) (maxL := 1) (ret := none) (by decide) rfl ?_
  intro p e s m args below meth c s₁ B hml hv
  obtain ⟨rfl, hsz, hE, hP, hK, hD0⟩ := hv
  have hx := B.exec
  have hb := B.bytes
  have hr := B.returns
  have hts := atoms_spec (ws := wsX5_init) B.pre
  have hown : s.vm.findClass RX5 = some m.cls := findClass_of_methodNamed B.named
  have hlocks := B.notSynchronized
  have hin : meth.name = "<init>" := (name_of_methodNamed B.named B.method).1
  subst hsz
  have hD := hD0.self (sz := s.heap.size)
  generalize hAe : va_A [(h0, .inr (5, [.int 0, .null, .null]))] s.heap.size = A at hD ⊢
  have hA : ∀ q : Nat, s.heap.size ≤ q → A q := fun q h => by rw [← hAe]; exact Or.inr h
  have hS : va_S A s.heap s.heap [] := va_S.rf
  have hP : va_P (dC, dI) vwCl [(h0, .inr (5, [.int 0, .null, .null]))] s.heap := hP
  have hl := lv_entry ([.ref h0]) (n := 1) (Nat.le_of_ble_eq_true rfl)
  rw [lg_entry_eq]
  generalize (lg_sl ([.ref h0]) ++ List.replicate (1 - (lg_sl ([.ref h0])).length) Slot.unset).toArray = ls at hl ⊢
  have hl : lv_has ls 1 [(0, .ref h0)] := hl
  refine lv_aload_n hx hb dX5_init_0 rfl (lv_at hl 0 rfl) ?_
  refine W.objInit hx hb hown (hts (.methodLink RX5 3 objectInit) fwX5_init_1) (hts (.instanceMethod objectInit) fwX5_init_2) (hts (.code objectInit ⟨#[0xb1]⟩ 1 none) fwX5_init_3) rfl (by rw [hml]; exact hl.1) rfl dX5_init_1 (Nat.le_of_ble_eq_true rfl) (Nat.le_of_ble_eq_true rfl) ?_
  refine W.eq (g2 := F0 m 4 ls []) rfl ?_
  refine lv_aload_n hx hb dX5_init_4 rfl (lv_at hl 0 rfl) ?_
  refine lv_iconst (v := 5) hx hb dX5_init_5 (by decide) ?_
  refine yn_i hx hb (hts (.arrayClass .int) fwX5_init_4) hK hP hD hS hA 5 (by decide) (by decide) (by decide) (Nat.le_of_ble_eq_true rfl) (Nat.le_of_ble_eq_true rfl) dX5_init_6 (fun q1 H hP hD hS => ?_)
  have hP : va_P (dC, dI) vwCl [(h0, .inr (5, [.int 0, .null, .null])), (q1, .inl (cy 0, 5, .inl (fun _ => 0)))] H := hP
  have hD : va_D A [(h0, .inr (5, [.int 0, .null, .null])), (q1, .inl (cy 0, 5, .inl (fun _ => 0)))] := hD
  refine W.widen (k := 1) (n := 5) (by omega) (by omega) ?_
  refine va_putF (D := (dC, dI)) (ci := 5) (v := .ref q1) (ty := .array .int) (C := RX5) (T := TX5) (N := 3) hx hb hts iwX5_init_X5 tyX5 tyX5_ok nmX5 hown hK hP hD hS 0 rfl rfl 1 (by decide) (hts (.fieldLink RX5 9 "QuietStairs$Table" "musts" "[I") fwX5_init_5) (fun _ h9 => h9) rfl hin rfl (by decide +kernel) rfl rfl (Nat.le_of_ble_eq_true rfl) dX5_init_8 (fun H locs hP hD hS => ?_)
  have hP : va_P (dC, dI) vwCl [(h0, .inr (5, [.int 0, .ref q1, .null])), (q1, .inl (cy 0, 5, .inl (fun _ => 0)))] H := hP
  have hD : va_D A [(h0, .inr (5, [.int 0, .ref q1, .null])), (q1, .inl (cy 0, 5, .inl (fun _ => 0)))] := hD
  refine lv_aload_n hx hb dX5_init_11 rfl (lv_at hl 0 rfl) ?_
  refine lv_iconst (v := 5) hx hb dX5_init_12 (by decide) ?_
  refine yn_i hx hb (hts (.arrayClass .int) fwX5_init_4) hK hP hD hS hA 5 (by decide) (by decide) (by decide) (Nat.le_of_ble_eq_true rfl) (Nat.le_of_ble_eq_true rfl) dX5_init_13 (fun q2 H hP hD hS => ?_)
  have hP : va_P (dC, dI) vwCl [(h0, .inr (5, [.int 0, .ref q1, .null])), (q1, .inl (cy 0, 5, .inl (fun _ => 0))), (q2, .inl (cy 0, 5, .inl (fun _ => 0)))] H := hP
  have hD : va_D A [(h0, .inr (5, [.int 0, .ref q1, .null])), (q1, .inl (cy 0, 5, .inl (fun _ => 0))), (q2, .inl (cy 0, 5, .inl (fun _ => 0)))] := hD
  refine W.widen (k := 2) (n := 10) (by omega) (by omega) ?_
  refine va_putF (D := (dC, dI)) (ci := 5) (v := .ref q2) (ty := .array .int) (C := RX5) (T := TX5) (N := 3) hx hb hts iwX5_init_X5 tyX5 tyX5_ok nmX5 hown hK hP hD hS 0 rfl rfl 2 (by decide) (hts (.fieldLink RX5 15 "QuietStairs$Table" "hourBits" "[I") fwX5_init_6) (fun _ h9 => h9) rfl hin rfl (by decide +kernel) rfl rfl (Nat.le_of_ble_eq_true rfl) dX5_init_15 (fun H locs hP hD hS => ?_)
  have hP : va_P (dC, dI) vwCl [(h0, .inr (5, [.int 0, .ref q1, .ref q2])), (q1, .inl (cy 0, 5, .inl (fun _ => 0))), (q2, .inl (cy 0, 5, .inl (fun _ => 0)))] H := hP
  have hD : va_D A [(h0, .inr (5, [.int 0, .ref q1, .ref q2])), (q1, .inl (cy 0, 5, .inl (fun _ => 0))), (q2, .inl (cy 0, 5, .inl (fun _ => 0)))] := hD
  have hP9 := hP.sub (ws' := [(h0, .inr (5, [.int 0, .ref q1, .ref q2])), (q1, .inl (cy 0, 5, .inl (fun _ => 0))), (q2, .inl (cy 0, 5, .inl (fun _ => 0)))]) [0, 1, 2] rfl
  have hD9 := hD.sub (ws' := [(h0, .inr (5, [.int 0, .ref q1, .ref q2])), (q1, .inl (cy 0, 5, .inl (fun _ => 0))), (q2, .inl (cy 0, 5, .inl (fun _ => 0)))]) [0, 1, 2] (by decide) rfl
  exact W.vret hx hb hr (fun t ht hW => ⟨⟨(q1, q2), rfl, trivial, by rw [ht]; exact hP9, hD9⟩, hS.F ht⟩) hS.2.2 dX5_init_18
