set_option maxRecDepth 20000 in
theorem db_X8_at_0 : (decode cX8_at 0 = .ok (.bipush 32, 2)) ∧ (decode cX8_at 2 = .ok (.bipush 7, 2)) ∧ (decode cX8_at 4 = .ok (.iload_n 0, 1)) ∧ (decode cX8_at 5 = .ok (.imul, 1)) ∧ (decode cX8_at 6 = .ok (.iadd, 1)) ∧ (decode cX8_at 7 = .ok (.iload_n 1, 1)) ∧ (decode cX8_at 8 = .ok (.iadd, 1)) ∧ (decode cX8_at 9 = .ok (.ireturn, 1)) := by decide +kernel
theorem dX8_at_0 : decode cX8_at 0 = .ok (.bipush 32, 2) := db_X8_at_0.1
theorem dX8_at_2 : decode cX8_at 2 = .ok (.bipush 7, 2) := db_X8_at_0.2.1
theorem dX8_at_4 : decode cX8_at 4 = .ok (.iload_n 0, 1) := db_X8_at_0.2.2.1
theorem dX8_at_5 : decode cX8_at 5 = .ok (.imul, 1) := db_X8_at_0.2.2.2.1
theorem dX8_at_6 : decode cX8_at 6 = .ok (.iadd, 1) := db_X8_at_0.2.2.2.2.1
theorem dX8_at_7 : decode cX8_at 7 = .ok (.iload_n 1, 1) := db_X8_at_0.2.2.2.2.2.1
theorem dX8_at_8 : decode cX8_at 8 = .ok (.iadd, 1) := db_X8_at_0.2.2.2.2.2.2.1
theorem dX8_at_9 : decode cX8_at 9 = .ok (.ireturn, 1) := db_X8_at_0.2.2.2.2.2.2.2
set_option maxRecDepth 20000 in
theorem db_X8_termAt_0 : (decode cX8_termAt 0 = .ok (.sipush 158, 3)) ∧ (decode cX8_termAt 3 = .ok (.bipush 25, 2)) ∧ (decode cX8_termAt 5 = .ok (.iload_n 0, 1)) ∧ (decode cX8_termAt 6 = .ok (.imul, 1)) ∧ (decode cX8_termAt 7 = .ok (.iadd, 1)) ∧ (decode cX8_termAt 8 = .ok (.iconst 5, 1)) ∧ (decode cX8_termAt 9 = .ok (.iload_n 1, 1)) ∧ (decode cX8_termAt 10 = .ok (.imul, 1)) := by decide +kernel
theorem dX8_termAt_0 : decode cX8_termAt 0 = .ok (.sipush 158, 3) := db_X8_termAt_0.1
theorem dX8_termAt_3 : decode cX8_termAt 3 = .ok (.bipush 25, 2) := db_X8_termAt_0.2.1
theorem dX8_termAt_5 : decode cX8_termAt 5 = .ok (.iload_n 0, 1) := db_X8_termAt_0.2.2.1
theorem dX8_termAt_6 : decode cX8_termAt 6 = .ok (.imul, 1) := db_X8_termAt_0.2.2.2.1
theorem dX8_termAt_7 : decode cX8_termAt 7 = .ok (.iadd, 1) := db_X8_termAt_0.2.2.2.2.1
theorem dX8_termAt_8 : decode cX8_termAt 8 = .ok (.iconst 5, 1) := db_X8_termAt_0.2.2.2.2.2.1
theorem dX8_termAt_9 : decode cX8_termAt 9 = .ok (.iload_n 1, 1) := db_X8_termAt_0.2.2.2.2.2.2.1
theorem dX8_termAt_10 : decode cX8_termAt 10 = .ok (.imul, 1) := db_X8_termAt_0.2.2.2.2.2.2.2
set_option maxRecDepth 20000 in
theorem db_X8_termAt_11 : (decode cX8_termAt 11 = .ok (.iadd, 1)) ∧ (decode cX8_termAt 12 = .ok (.ireturn, 1)) := by decide +kernel
theorem dX8_termAt_11 : decode cX8_termAt 11 = .ok (.iadd, 1) := db_X8_termAt_11.1
theorem dX8_termAt_12 : decode cX8_termAt 12 = .ok (.ireturn, 1) := db_X8_termAt_11.2
set_option maxRecDepth 20000 in
theorem db_X8_isSide_0 : (decode cX8_isSide 0 = .ok (.iload_n 0, 1)) ∧ (decode cX8_isSide 1 = .ok (.iconst 0, 1)) ∧ (decode cX8_isSide 2 = .ok (.iconst 1, 1)) ∧ (decode cX8_isSide 3 = .ok (.invokestatic 35, 3)) ∧ (decode cX8_isSide 6 = .ok (.ireturn, 1)) := by decide +kernel
theorem dX8_isSide_0 : decode cX8_isSide 0 = .ok (.iload_n 0, 1) := db_X8_isSide_0.1
theorem dX8_isSide_1 : decode cX8_isSide 1 = .ok (.iconst 0, 1) := db_X8_isSide_0.2.1
theorem dX8_isSide_2 : decode cX8_isSide 2 = .ok (.iconst 1, 1) := db_X8_isSide_0.2.2.1
set_option maxRecDepth 20000 in
theorem ggX8_isSide_X8_in : GoodIn wsX8_isSide wsX8_in := goodIn_r _ [4] rfl (by decide +kernel)
set_option maxRecDepth 20000 in
theorem gX8_isSide_X8_in : GoodIn wsX8_isSide (va_wsS RX8 35 yX8_in wsX8_in) := goodIn_app (goodIn_r _ [1, 2, 3] rfl (by decide +kernel)) ggX8_isSide_X8_in
theorem dX8_isSide_3 : decode cX8_isSide 3 = .ok (.invokestatic 35, 3) := db_X8_isSide_0.2.2.2.1
theorem dX8_isSide_6 : decode cX8_isSide 6 = .ok (.ireturn, 1) := db_X8_isSide_0.2.2.2.2
set_option maxHeartbeats 4000000 in
set_option maxRecDepth 100000 in
theorem c_X8_at (l : Launch) (x0 x1 : Int32) : Met l yX8_at wsX8_at ({ frames := 0, cells := 0, slots := 0, locals := 0 }) (va_Pc [.int x0, .int x1] (fun _ => True)) (va_Qi (fun (r : Int32) (_ : Unit) => r = 32 + 7 * x0 + x1) (fun _ _ => True) (fun _ => False)) 0 0 (fun _ => False) := by
  refine Met.ofW (cc := cX8_at) (maxL := 2) (ret := (some .int)) (by decide) rfl ?_
  intro p e s m args below meth c s₁ B hml hv
  obtain ⟨rfl, -⟩ := hv
  have hx := B.exec
  have hb := B.bytes
  have hr := B.returns
  have hts := atoms_spec (ws := wsX8_at) B.pre
  have hown : s.vm.findClass RX8 = some m.cls := findClass_of_methodNamed B.named
  have hlocks := B.notSynchronized
  have hl := lv_entry ([.int x0, .int x1]) (n := 2) (Nat.le_of_ble_eq_true rfl)
  rw [lg_entry_eq]
  generalize (lg_sl ([.int x0, .int x1]) ++ List.replicate (2 - (lg_sl ([.int x0, .int x1])).length) Slot.unset).toArray = ls at hl ⊢
  have hl : lv_has ls 2 [(0, .int x0), (1, .int x1)] := hl
  have hS : va_S (fun _ => False) s.heap s.heap [] := va_S.rf
  refine lv_bipush (v := 32) hx hb dX8_at_0 (by decide) ?_
  refine lv_bipush (v := 7) hx hb dX8_at_2 (by decide) ?_
  refine lv_iload_n hx hb dX8_at_4 rfl (lv_at hl 0 rfl) ?_
  refine lv_imul hx hb dX8_at_5 ?_
  refine lv_topi (fun x_1 ex_1 => ?_)
  refine lv_iadd hx hb dX8_at_6 ?_
  refine lv_topi (fun x_2 ex_2 => ?_)
  refine lv_iload_n hx hb dX8_at_7 rfl (lv_at hl 1 rfl) ?_
  refine lv_iadd hx hb dX8_at_8 ?_
  refine lv_topi (fun x_3 ex_3 => ?_)
  exact W.iret (v := x_3) hx hb hr (fun t ht hW => ⟨⟨x_3, (), rfl, by rw [ex_3, ex_2, ex_1], trivial⟩, hS.F ht⟩) hS.2.2 dX8_at_9

set_option maxHeartbeats 4000000 in
set_option maxRecDepth 100000 in
theorem c_X8_termAt (l : Launch) (x0 x1 : Int32) : Met l yX8_termAt wsX8_termAt ({ frames := 0, cells := 0, slots := 0, locals := 0 }) (va_Pc [.int x0, .int x1] (fun _ => True)) (va_Qi (fun (r : Int32) (_ : Unit) => r = 158 + 25 * x0 + 5 * x1) (fun _ _ => True) (fun _ => False)) 0 0 (fun _ => False) := by
  refine Met.ofW (cc := cX8_termAt) (maxL := 2) (ret := (some .int)) (by decide) rfl ?_
  intro p e s m args below meth c s₁ B hml hv
  obtain ⟨rfl, -⟩ := hv
  have hx := B.exec
  have hb := B.bytes
  have hr := B.returns
  have hts := atoms_spec (ws := wsX8_termAt) B.pre
  have hown : s.vm.findClass RX8 = some m.cls := findClass_of_methodNamed B.named
  have hlocks := B.notSynchronized
  have hl := lv_entry ([.int x0, .int x1]) (n := 2) (Nat.le_of_ble_eq_true rfl)
  rw [lg_entry_eq]
  generalize (lg_sl ([.int x0, .int x1]) ++ List.replicate (2 - (lg_sl ([.int x0, .int x1])).length) Slot.unset).toArray = ls at hl ⊢
  have hl : lv_has ls 2 [(0, .int x0), (1, .int x1)] := hl
  have hS : va_S (fun _ => False) s.heap s.heap [] := va_S.rf
  refine lv_sipush (v := 158) hx hb dX8_termAt_0 (by decide) ?_
  refine lv_bipush (v := 25) hx hb dX8_termAt_3 (by decide) ?_
  refine lv_iload_n hx hb dX8_termAt_5 rfl (lv_at hl 0 rfl) ?_
  refine lv_imul hx hb dX8_termAt_6 ?_
  refine lv_topi (fun x_1 ex_1 => ?_)
  refine lv_iadd hx hb dX8_termAt_7 ?_
  refine lv_topi (fun x_2 ex_2 => ?_)
  refine lv_iconst (v := 5) hx hb dX8_termAt_8 (by decide) ?_
  refine lv_iload_n hx hb dX8_termAt_9 rfl (lv_at hl 1 rfl) ?_
  refine lv_imul hx hb dX8_termAt_10 ?_
  refine lv_topi (fun x_3 ex_3 => ?_)
  refine lv_iadd hx hb dX8_termAt_11 ?_
  refine lv_topi (fun x_4 ex_4 => ?_)
  exact W.iret (v := x_4) hx hb hr (fun t ht hW => ⟨⟨x_4, (), rfl, by rw [ex_4, ex_3, ex_2, ex_1], trivial⟩, hS.F ht⟩) hS.2.2 dX8_termAt_12

set_option maxHeartbeats 4000000 in
set_option maxRecDepth 100000 in
theorem c_X8_isSide (l : Launch) (x0 : Int32) : Met l yX8_isSide wsX8_isSide ({ frames := 1, cells := 0, slots := 0, locals := 64 }) (va_Pc [.int x0] (fun _ => True)) (va_Qi (fun (r : Int32) (_ : Unit) => r = if 0 ≤ x0 ∧ x0 ≤ 1 then 1 else 0) (fun _ _ => True) (fun _ => False)) 0 0 (fun _ => False) := by
  refine Met.ofW (cc := cX8_isSide) (maxL := 1) (ret := (some .boolean)) (by decide) rfl ?_
  intro p e s m args below meth c s₁ B hml hv
  obtain ⟨rfl, -⟩ := hv
  have hx := B.exec
  have hb := B.bytes
  have hr := B.returns
  have hts := atoms_spec (ws := wsX8_isSide) B.pre
  have hown : s.vm.findClass RX8 = some m.cls := findClass_of_methodNamed B.named
  have hlocks := B.notSynchronized
  have hl := lv_entry ([.int x0]) (n := 1) (Nat.le_of_ble_eq_true rfl)
  rw [lg_entry_eq]
  generalize (lg_sl ([.int x0]) ++ List.replicate (1 - (lg_sl ([.int x0])).length) Slot.unset).toArray = ls at hl ⊢
  have hl : lv_has ls 1 [(0, .int x0)] := hl
  have hS : va_S (fun _ => False) s.heap s.heap [] := va_S.rf
  have hP : va_P ((fun _ => 0), (fun _ _ => 0)) vwCl [] s.heap := fun k q h => by simp at h
  refine lv_iload_n hx hb dX8_isSide_0 rfl (lv_at hl 0 rfl) ?_
  refine lv_iconst (v := 0) hx hb dX8_isSide_1 (by decide) ?_
  refine lv_iconst (v := 1) hx hb dX8_isSide_2 (by decide) ?_
  refine yc_p hP hS (va_runS (As := [.int x0, .int 0, .int 1]) (rest := []) ⟨hx, hb, hml, hown, hts⟩ (c_X8_in l x0 0 1) (cwS 3 hts gX8_isSide_X8_in rfl rfl rfl hd_S_X8_in_3 ⟨Nat.le_of_ble_eq_true rfl, Nat.le_of_ble_eq_true rfl⟩) ex_preP rfl rfl hl.1 rfl (lv_room (Nat.le_of_ble_eq_true rfl)) dX8_isSide_3 ⟨Nat.le_of_ble_eq_true rfl, Nat.le_of_ble_eq_true rfl⟩) (fun r_1 H locs hw_1 hP hS => ?_)
  rcases wi_ca hw_1 with ⟨rfl, hc⟩ | ⟨rfl, hc⟩
  · exact W.zret (ty := .boolean) (v := 1) hx hb hr rfl (fun t ht hW => ⟨⟨1, (), rfl, by rw [if_pos hc], trivial⟩, hS.F ht⟩) hS.2.2 dX8_isSide_6
  · exact W.zret (ty := .boolean) (v := 0) hx hb hr rfl (fun t ht hW => ⟨⟨0, (), rfl, by rw [if_neg hc], trivial⟩, hS.F ht⟩) hS.2.2 dX8_isSide_6
