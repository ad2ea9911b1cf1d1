theorem dX0_hasMet_0 : decode cX0_hasMet 0 = .ok (.aload_n 0, 1) := by decide +kernel
theorem dX0_hasMet_1 : decode cX0_hasMet 1 = .ok (.getfield 33, 3) := by decide +kernel
theorem dX0_hasMet_4 : decode cX0_hasMet 4 = .ok (.iconst 1, 1) := by decide +kernel
theorem dX0_hasMet_5 : decode cX0_hasMet 5 = .ok (.if_icmp .ne 17, 3) := by decide +kernel
theorem dX0_hasMet_22 : decode cX0_hasMet 22 = .ok (.iconst 0, 1) := by decide +kernel
theorem dX0_hasMet_23 : decode cX0_hasMet 23 = .ok (.ireturn, 1) := by decide +kernel
theorem dX0_hasMet_8 : decode cX0_hasMet 8 = .ok (.iload_n 1, 1) := by decide +kernel
theorem dX0_hasMet_9 : decode cX0_hasMet 9 = .ok (.aload_n 0, 1) := by decide +kernel
theorem dX0_hasMet_10 : decode cX0_hasMet 10 = .ok (.getfield 40, 3) := by decide +kernel
theorem dX0_hasMet_13 : decode cX0_hasMet 13 = .ok (.iconst 1, 1) := by decide +kernel
theorem dX0_hasMet_14 : decode cX0_hasMet 14 = .ok (.isub, 1) := by decide +kernel
theorem dX0_hasMet_15 : decode cX0_hasMet 15 = .ok (.if_icmp .ne 7, 3) := by decide +kernel
theorem dX0_hasMet_18 : decode cX0_hasMet 18 = .ok (.iconst 1, 1) := by decide +kernel
theorem dX0_hasMet_19 : decode cX0_hasMet 19 = .ok (.goto 4, 3) := by decide +kernel
set_option maxHeartbeats 4000000 in
set_option maxRecDepth 100000 in
theorem g_X0_hasMet (l : Launch) (dC : Nat → ClassId) (dI : Nat → Nat → Nat) (cy : Nat → ClassId) (sz : Nat) (ad : Nat → Nat) (kv : Value) (N : Nat) (hN : 119 ≤ N) (v : Nat → Nat → Int32) (hv : Iv v) (i : Nat) (hi : i < 6) (x0 : Int32) : Met l yX0_hasMet wsX0_hasMet ({ frames := 0, cells := 0, slots := 0, locals := 0 }) (va_Pc [.ref (ad (29 + 15 * i)), .int x0] (ex_Pre dC dI cy sz (wl ad kv cy N v))) (va_Qi (fun (r : Int32) (u : Nat → Nat → Int32) => Iv u ∧ Fr v u ∧ (r = 0 ∨ r = 1)) (fun u t => ex_Pst dC dI (va_A (wl ad kv cy N v) sz) (wl ad kv cy N u) t) (va_A (wl ad kv cy N v) sz)) 0 0 (va_A (wl ad kv cy N v) sz) := by
  refine Met.ofW (cc := cX0_hasMet) (maxL := 2) (ret := (some .boolean)) (by decide) rfl ?_
  intro p e s m args below meth c s₁ B hml hv
  obtain ⟨rfl, hsz, hE, hP, hK, hD0⟩ := hv
  have hx := B.exec
  have hb := B.bytes
  have hr := B.returns
  have hts := atoms_spec (ws := wsX0_hasMet) B.pre
  have hown : s.vm.findClass RX0 = some m.cls := findClass_of_methodNamed B.named
  have hlocks := B.notSynchronized
  subst hsz
  have hD := hD0.self (sz := s.heap.size)
  generalize hAe : va_A (wl ad kv cy N v) s.heap.size = A at hD ⊢
  have hA : ∀ q : Nat, s.heap.size ≤ q → A q := fun q h => by rw [← hAe]; exact Or.inr h
  have hS : va_S A s.heap s.heap [] := va_S.rf
  have hP : va_P (dC, dI) vwCl (wl ad kv cy N v) s.heap := hP
  have hl := lv_entry ([.ref (ad (29 + 15 * i)), .int x0]) (n := 2) (Nat.le_of_ble_eq_true rfl)
  rw [lg_entry_eq]
  generalize (lg_sl ([.ref (ad (29 + 15 * i)), .int x0]) ++ List.replicate (2 - (lg_sl ([.ref (ad (29 + 15 * i)), .int x0])).length) Slot.unset).toArray = ls at hl ⊢
  have hl : lv_has ls 2 [(0, .ref (ad (29 + 15 * i))), (1, .int x0)] := hl
  have hfr : Fr v v := Fr.rf
  refine lv_aload_n hx hb dX0_hasMet_0 rfl (lv_at hl 0 rfl) ?_
  refine va_get (D := (dC, dI)) (ci := 0) (v := .int (v (29 + 15 * i) 0)) (C := RX0) (T := TX0) (N := 11) hx hb hts (by decide +kernel) hown hK hP (29 + 15 * i) (wl_at (by omega) (ce_9 (kd_c i hi).1.1)) rfl 0 (by decide) (hts (.fieldLink RX0 33 "QuietStairs$Case" "state" "I") (by decide +kernel)) (fun _ h9 => h9) rfl dX0_hasMet_1 ?_
  refine lv_topi (fun x_1 ex_1 => ?_)
  refine lv_iconst (v := 1) hx hb dX0_hasMet_4 (by decide) ?_
  have k_1 : (1 : Int32).toInt = 1 := by decide
  refine lv_icmp_ne (tgt := 22) hx hb dX0_hasMet_5 (by decide) (fun c_2 => ?_) (fun c_2 => ?_)
  · have tc_2 : x_1.toInt ≠ (1 : Int32).toInt := fun q => absurd (Int32.toInt_inj.mp q) c_2
    refine lv_iconst (v := 0) hx hb dX0_hasMet_22 (by decide) ?_
    exact W.zret (ty := .boolean) (v := 0) hx hb hr rfl (fun t ht hW => ⟨⟨0, v, rfl, ⟨hv, hfr, by decide⟩, by rw [ht]; exact hP, hD⟩, hS.F ht⟩) hS.2.2 dX0_hasMet_23
  · have tc_2 : x_1.toInt = (1 : Int32).toInt := by rw [c_2]
    refine lv_iload_n hx hb dX0_hasMet_8 rfl (lv_at hl 1 rfl) ?_
    refine lv_aload_n hx hb dX0_hasMet_9 rfl (lv_at hl 0 rfl) ?_
    refine va_get (D := (dC, dI)) (ci := 0) (v := .int (v (29 + 15 * i) 2)) (C := RX0) (T := TX0) (N := 11) hx hb hts (by decide +kernel) hown hK hP (29 + 15 * i) (wl_at (by omega) (ce_9 (kd_c i hi).1.1)) rfl 2 (by decide) (hts (.fieldLink RX0 40 "QuietStairs$Case" "roundsOver" "I") (by decide +kernel)) (fun _ h9 => h9) rfl dX0_hasMet_10 ?_
    refine lv_topi (fun x_3 ex_3 => ?_)
    have bx_3 : 0 ≤ x_3.toInt ∧ x_3.toInt ≤ 5 := by rw [ex_3]; exact hv.at (K := 9) (kd_c i hi).1.1 rfl
    refine lv_iconst (v := 1) hx hb dX0_hasMet_13 (by decide) ?_
    refine lv_isub hx hb dX0_hasMet_14 ?_
    refine lv_topi (fun x_4 ex_4 => ?_)
    have tx_4 : x_4.toInt = x_3.toInt - (1 : Int32).toInt := by rw [ex_4]; exact t_sub ⟨by omega, by omega⟩
    refine lv_icmp_ne (tgt := 22) hx hb dX0_hasMet_15 (by decide) (fun c_5 => ?_) (fun c_5 => ?_)
    · have tc_5 : x0.toInt ≠ x_4.toInt := fun q => absurd (Int32.toInt_inj.mp q) c_5
      refine lv_iconst (v := 0) hx hb dX0_hasMet_22 (by decide) ?_
      exact W.zret (ty := .boolean) (v := 0) hx hb hr rfl (fun t ht hW => ⟨⟨0, v, rfl, ⟨hv, hfr, by decide⟩, by rw [ht]; exact hP, hD⟩, hS.F ht⟩) hS.2.2 dX0_hasMet_23
    · have tc_5 : x0.toInt = x_4.toInt := by rw [c_5]
      refine lv_iconst (v := 1) hx hb dX0_hasMet_18 (by decide) ?_
      refine lv_goto (tgt := 23) hx hb dX0_hasMet_19 (by decide) ?_
      exact W.zret (ty := .boolean) (v := 1) hx hb hr rfl (fun t ht hW => ⟨⟨1, v, rfl, ⟨hv, hfr, by decide⟩, by rw [ht]; exact hP, hD⟩, hS.F ht⟩) hS.2.2 dX0_hasMet_23
