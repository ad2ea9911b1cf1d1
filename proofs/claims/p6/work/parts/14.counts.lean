set_option maxRecDepth 20000 in
theorem db_X1_countState_0 : (decode cX1_countState 0 = .ok (.iconst 0, 1)) ∧ (decode cX1_countState 1 = .ok (.istore_n 2, 1)) ∧ (decode cX1_countState 2 = .ok (.iconst 0, 1)) ∧ (decode cX1_countState 3 = .ok (.istore_n 3, 1)) ∧ (decode cX1_countState 4 = .ok (.iload_n 3, 1)) ∧ (decode cX1_countState 5 = .ok (.aload_n 0, 1)) ∧ (decode cX1_countState 6 = .ok (.getfield 66, 3)) ∧ (decode cX1_countState 9 = .ok (.if_icmp .ge 25, 3)) := by decide +kernel
theorem dX1_countState_0 : decode cX1_countState 0 = .ok (.iconst 0, 1) := db_X1_countState_0.1
theorem dX1_countState_1 : decode cX1_countState 1 = .ok (.istore_n 2, 1) := db_X1_countState_0.2.1
theorem dX1_countState_2 : decode cX1_countState 2 = .ok (.iconst 0, 1) := db_X1_countState_0.2.2.1
theorem dX1_countState_3 : decode cX1_countState 3 = .ok (.istore_n 3, 1) := db_X1_countState_0.2.2.2.1
theorem dX1_countState_4 : decode cX1_countState 4 = .ok (.iload_n 3, 1) := db_X1_countState_0.2.2.2.2.1
theorem dX1_countState_5 : decode cX1_countState 5 = .ok (.aload_n 0, 1) := db_X1_countState_0.2.2.2.2.2.1
theorem dX1_countState_6 : decode cX1_countState 6 = .ok (.getfield 66, 3) := db_X1_countState_0.2.2.2.2.2.2.1
theorem dX1_countState_9 : decode cX1_countState 9 = .ok (.if_icmp .ge 25, 3) := db_X1_countState_0.2.2.2.2.2.2.2
set_option maxRecDepth 20000 in
theorem db_X1_countState_34 : (decode cX1_countState 34 = .ok (.iload_n 2, 1)) ∧ (decode cX1_countState 35 = .ok (.ireturn, 1)) ∧ (decode cX1_countState 12 = .ok (.aload_n 0, 1)) ∧ (decode cX1_countState 13 = .ok (.getfield 25, 3)) ∧ (decode cX1_countState 16 = .ok (.iload_n 3, 1)) ∧ (decode cX1_countState 17 = .ok (.aaload, 1)) ∧ (decode cX1_countState 18 = .ok (.getfield 79, 3)) ∧ (decode cX1_countState 21 = .ok (.iload_n 1, 1)) := by decide +kernel
theorem dX1_countState_34 : decode cX1_countState 34 = .ok (.iload_n 2, 1) := db_X1_countState_34.1
theorem dX1_countState_35 : decode cX1_countState 35 = .ok (.ireturn, 1) := db_X1_countState_34.2.1
theorem dX1_countState_12 : decode cX1_countState 12 = .ok (.aload_n 0, 1) := db_X1_countState_34.2.2.1
theorem dX1_countState_13 : decode cX1_countState 13 = .ok (.getfield 25, 3) := db_X1_countState_34.2.2.2.1
theorem dX1_countState_16 : decode cX1_countState 16 = .ok (.iload_n 3, 1) := db_X1_countState_34.2.2.2.2.1
theorem dX1_countState_17 : decode cX1_countState 17 = .ok (.aaload, 1) := db_X1_countState_34.2.2.2.2.2.1
theorem dX1_countState_18 : decode cX1_countState 18 = .ok (.getfield 79, 3) := db_X1_countState_34.2.2.2.2.2.2.1
theorem dX1_countState_21 : decode cX1_countState 21 = .ok (.iload_n 1, 1) := db_X1_countState_34.2.2.2.2.2.2.2
set_option maxRecDepth 20000 in
theorem db_X1_countState_22 : (decode cX1_countState 22 = .ok (.if_icmp .ne 6, 3)) ∧ (decode cX1_countState 28 = .ok (.iinc 3 1, 3)) ∧ (decode cX1_countState 31 = .ok (.goto (-27), 3)) ∧ (decode cX1_countState 25 = .ok (.iinc 2 1, 3)) := by decide +kernel
theorem dX1_countState_22 : decode cX1_countState 22 = .ok (.if_icmp .ne 6, 3) := db_X1_countState_22.1
theorem dX1_countState_28 : decode cX1_countState 28 = .ok (.iinc 3 1, 3) := db_X1_countState_22.2.1
theorem dX1_countState_31 : decode cX1_countState 31 = .ok (.goto (-27), 3) := db_X1_countState_22.2.2.1
theorem dX1_countState_25 : decode cX1_countState 25 = .ok (.iinc 2 1, 3) := db_X1_countState_22.2.2.2
set_option maxRecDepth 20000 in
theorem db_X1_countTerms_0 : (decode cX1_countTerms 0 = .ok (.iconst 0, 1)) ∧ (decode cX1_countTerms 1 = .ok (.istore_n 1, 1)) ∧ (decode cX1_countTerms 2 = .ok (.iconst 0, 1)) ∧ (decode cX1_countTerms 3 = .ok (.istore_n 2, 1)) ∧ (decode cX1_countTerms 4 = .ok (.iload_n 2, 1)) ∧ (decode cX1_countTerms 5 = .ok (.aload_n 0, 1)) ∧ (decode cX1_countTerms 6 = .ok (.getfield 66, 3)) ∧ (decode cX1_countTerms 9 = .ok (.if_icmp .ge 21, 3)) := by decide +kernel
theorem dX1_countTerms_0 : decode cX1_countTerms 0 = .ok (.iconst 0, 1) := db_X1_countTerms_0.1
theorem dX1_countTerms_1 : decode cX1_countTerms 1 = .ok (.istore_n 1, 1) := db_X1_countTerms_0.2.1
theorem dX1_countTerms_2 : decode cX1_countTerms 2 = .ok (.iconst 0, 1) := db_X1_countTerms_0.2.2.1
theorem dX1_countTerms_3 : decode cX1_countTerms 3 = .ok (.istore_n 2, 1) := db_X1_countTerms_0.2.2.2.1
theorem dX1_countTerms_4 : decode cX1_countTerms 4 = .ok (.iload_n 2, 1) := db_X1_countTerms_0.2.2.2.2.1
theorem dX1_countTerms_5 : decode cX1_countTerms 5 = .ok (.aload_n 0, 1) := db_X1_countTerms_0.2.2.2.2.2.1
theorem dX1_countTerms_6 : decode cX1_countTerms 6 = .ok (.getfield 66, 3) := db_X1_countTerms_0.2.2.2.2.2.2.1
theorem dX1_countTerms_9 : decode cX1_countTerms 9 = .ok (.if_icmp .ge 21, 3) := db_X1_countTerms_0.2.2.2.2.2.2.2
set_option maxRecDepth 20000 in
theorem db_X1_countTerms_30 : (decode cX1_countTerms 30 = .ok (.iload_n 1, 1)) ∧ (decode cX1_countTerms 31 = .ok (.ireturn, 1)) ∧ (decode cX1_countTerms 12 = .ok (.iload_n 1, 1)) ∧ (decode cX1_countTerms 13 = .ok (.aload_n 0, 1)) ∧ (decode cX1_countTerms 14 = .ok (.getfield 25, 3)) ∧ (decode cX1_countTerms 17 = .ok (.iload_n 2, 1)) ∧ (decode cX1_countTerms 18 = .ok (.aaload, 1)) ∧ (decode cX1_countTerms 19 = .ok (.getfield 82, 3)) := by decide +kernel
theorem dX1_countTerms_30 : decode cX1_countTerms 30 = .ok (.iload_n 1, 1) := db_X1_countTerms_30.1
theorem dX1_countTerms_31 : decode cX1_countTerms 31 = .ok (.ireturn, 1) := db_X1_countTerms_30.2.1
theorem dX1_countTerms_12 : decode cX1_countTerms 12 = .ok (.iload_n 1, 1) := db_X1_countTerms_30.2.2.1
theorem dX1_countTerms_13 : decode cX1_countTerms 13 = .ok (.aload_n 0, 1) := db_X1_countTerms_30.2.2.2.1
theorem dX1_countTerms_14 : decode cX1_countTerms 14 = .ok (.getfield 25, 3) := db_X1_countTerms_30.2.2.2.2.1
theorem dX1_countTerms_17 : decode cX1_countTerms 17 = .ok (.iload_n 2, 1) := db_X1_countTerms_30.2.2.2.2.2.1
theorem dX1_countTerms_18 : decode cX1_countTerms 18 = .ok (.aaload, 1) := db_X1_countTerms_30.2.2.2.2.2.2.1
theorem dX1_countTerms_19 : decode cX1_countTerms 19 = .ok (.getfield 82, 3) := db_X1_countTerms_30.2.2.2.2.2.2.2
set_option maxRecDepth 20000 in
theorem db_X1_countTerms_22 : (decode cX1_countTerms 22 = .ok (.iadd, 1)) ∧ (decode cX1_countTerms 23 = .ok (.istore_n 1, 1)) ∧ (decode cX1_countTerms 24 = .ok (.iinc 2 1, 3)) ∧ (decode cX1_countTerms 27 = .ok (.goto (-23), 3)) := by decide +kernel
theorem dX1_countTerms_22 : decode cX1_countTerms 22 = .ok (.iadd, 1) := db_X1_countTerms_22.1
theorem dX1_countTerms_23 : decode cX1_countTerms 23 = .ok (.istore_n 1, 1) := db_X1_countTerms_22.2.1
theorem dX1_countTerms_24 : decode cX1_countTerms 24 = .ok (.iinc 2 1, 3) := db_X1_countTerms_22.2.2.1
theorem dX1_countTerms_27 : decode cX1_countTerms 27 = .ok (.goto (-23), 3) := db_X1_countTerms_22.2.2.2
set_option maxHeartbeats 4000000 in
set_option maxRecDepth 100000 in
theorem g_X1_countState (l : Launch) (dC : Nat → ClassId) (dI : Nat → Nat → Nat) (cy : Nat → ClassId) (sz : Nat) (ad : Nat → Nat) (kv : Value) (N : Nat) (hN : 119 ≤ N) (v : Nat → Nat → Int32) (hv : Iv v)  (x0 : Int32) : Met l yX1_countState wsX1_countState ({ frames := 3, cells := 0, slots := 0, locals := 192 }) (va_Pc [.ref (ad 13), .int x0] (ex_Pre dC dI cy sz (wl ad kv cy N v))) (va_Qi (fun (r : Int32) (u : Nat → Nat → Int32) => Iv u ∧ Fz v u) (fun u t => ex_Pst dC dI (va_A (wl ad kv cy N v) sz) (wl ad kv cy N u) t) (va_A (wl ad kv cy N v) sz)) 0 0 (va_A (wl ad kv cy N v) sz) := by
  refine Met.ofW (cc := cX1_countState) (maxL := 4) (ret := (some .int)) (by decide) rfl ?_
  intro p e s m args below meth c s₁ B hml hv
  obtain ⟨rfl, hsz, hE, hP, hK, hD0⟩ := hv
  have hx := B.exec
  have hb := B.bytes
  have hr := B.returns
  have hts := atoms_spec (ws := wsX1_countState) B.pre
  have hown : s.vm.findClass RX1 = some m.cls := findClass_of_methodNamed B.named
  have hlocks := B.notSynchronized
  subst hsz
  have hD := hD0.self (sz := s.heap.size)
  generalize hAe : va_A (wl ad kv cy N v) s.heap.size = A at hD ⊢
  have hA : ∀ q : Nat, s.heap.size ≤ q → A q := fun q h => by rw [← hAe]; exact Or.inr h
  have hS : va_S A s.heap s.heap [] := va_S.rf
  have hP : va_P (dC, dI) vwCl (wl ad kv cy N v) s.heap := hP
  have hl := lv_entry ([.ref (ad 13), .int x0]) (n := 4) (Nat.le_of_ble_eq_true rfl)
  rw [lg_entry_eq]
  generalize (lg_sl ([.ref (ad 13), .int x0]) ++ List.replicate (4 - (lg_sl ([.ref (ad 13), .int x0])).length) Slot.unset).toArray = ls at hl ⊢
  have hl : lv_has ls 4 [(0, .ref (ad 13)), (1, .int x0)] := hl
  have hfr : Fz v v := Fz.rf
  refine lv_iconst (v := 0) hx hb dX1_countState_0 (by decide) ?_
  refine lv_istore_n (lv' := [(2, .int 0), (0, .ref (ad 13)), (1, .int x0)]) hx hb dX1_countState_1 rfl hl (by decide) rfl (fun ls hl => ?_)
  refine lv_iconst (v := 0) hx hb dX1_countState_2 (by decide) ?_
  refine lv_istore_n (lv' := [(3, .int 0), (2, .int 0), (0, .ref (ad 13)), (1, .int x0)]) hx hb dX1_countState_3 rfl hl (by decide) rfl (fun ls hl => ?_)
  have k_0 : (0 : Int32).toInt = 0 := by decide
  have hloop_1 : ∀ (n : Nat) (y1_3 y1_2 : Int32) (u1 : Nat → Nat → Int32) (H : Heap) (locs : List Loc), 0 ≤ y1_3.toInt → y1_3.toInt ≤ 6 → (6 - y1_3.toInt).toNat < n → Iv u1 → Fz v u1 → va_P (dC, dI) vwCl (wl ad kv cy N u1) H → va_D A (wl ad kv cy N u1) → va_S A s.heap H locs → ∀ ls : Array Slot, lv_has ls 4 [(3, .int y1_3), (2, .int y1_2), (0, .ref (ad 13)), (1, .int x0)] → W p l e (headSpec wsX1_countState ({ frames := 3, cells := 0, slots := 0, locals := 192 })).room s m [Value.ref (ad 13), Value.int x0].toArray below meth c H locs 0 0 (MQ below (va_Qi (fun (r : Int32) (u : Nat → Nat → Int32) => Iv u ∧ Fz v u) (fun u t => ex_Pst dC dI A (wl ad kv cy N u) t) A) [Value.ref (ad 13), Value.int x0].toArray s 0 0 A) (F0 m 4 ls []) := by
    intro n
    induction n with
    | zero =>
      intro y1_3 y1_2 u1 H locs ay1_3 by1_3 hm_1 hv hfr hP hD hS ls hl
      exact absurd hm_1 (by omega)
    | succ n ih_1 =>
      intro y1_3 y1_2 u1 H locs ay1_3 by1_3 hm_1 hv hfr hP hD hS ls hl
      refine lv_iload_n hx hb dX1_countState_4 rfl (lv_at hl 0 rfl) ?_
      refine lv_aload_n hx hb dX1_countState_5 rfl (lv_at hl 2 rfl) ?_
      refine va_get (D := (dC, dI)) (ci := 1) (v := .int (u1 (13) 2)) (C := RX1) (T := TX1) (N := 7) hx hb hts iwX1_countState_X1 hown hK hP (13) (wl_at (by omega) (ce_3 (by decide))) rfl 2 (by decide) (hts (.fieldLink RX1 66 "QuietStairs$House" "caseCount" "I") fwX1_countState_1) (fun _ h9 => h9) rfl dX1_countState_6 ?_
      refine lv_topi (fun x_2 ex_2 => ?_)
      have bx_2 : 0 ≤ x_2.toInt ∧ x_2.toInt ≤ 6 := by rw [ex_2]; exact hv.at (K := 3) (by decide) rfl
      refine lv_icmp_ge (tgt := 34) hx hb dX1_countState_9 (by decide) (fun c_3 => ?_) (fun c_3 => ?_)
      · have tc_3 : y1_3.toInt ≥ x_2.toInt := Int32.le_iff_toInt_le.mp c_3
        refine lv_iload_n hx hb dX1_countState_34 rfl (lv_at hl 1 rfl) ?_
        exact W.iret (v := y1_2) hx hb hr (fun t ht hW => ⟨⟨y1_2, u1, rfl, ⟨hv, hfr⟩, by rw [ht]; exact hP, hD⟩, hS.F ht⟩) hS.2.2 dX1_countState_35
      · have tc_3 : y1_3.toInt < x_2.toInt := Int32.lt_iff_toInt_lt.mp (Int32.not_le.mp c_3)
        refine lv_aload_n hx hb dX1_countState_12 rfl (lv_at hl 2 rfl) ?_
        refine va_get (D := (dC, dI)) (ci := 1) (v := .ref (ad 16)) (C := RX1) (T := TX1) (N := 7) hx hb hts iwX1_countState_X1 hown hK hP (13) (wl_at (by omega) (ce_3 (by decide))) rfl 6 (by decide) (hts (.fieldLink RX1 25 "QuietStairs$House" "cases" "[LQuietStairs$Case;") fwX1_countState_2) (fun _ h9 => h9) rfl dX1_countState_13 ?_
        refine lv_iload_n hx hb dX1_countState_16 rfl (lv_at hl 0 rfl) ?_
        obtain ⟨pi4, i4, hi4, ni4, mi4⟩ := t_in (x := y1_3) (n := 6) ⟨by omega, by omega⟩
        refine va_aldq hx hb hK hP (16) 3 (wl_at (by omega) (ce_6 (by decide))) rfl pi4 dX1_countState_17 ?_
        refine W.eq (g2 := F0 m 18 ls [.ref (ad (29 + 15 * i4))]) (by rw [ni4, if_pos hi4, show 16 + 13 + 15 * i4 = 29 + 15 * i4 from by omega]; rfl) ?_
        refine va_get (D := (dC, dI)) (ci := 0) (v := .int (u1 (29 + 15 * i4) 0)) (C := RX0) (T := TX0) (N := 11) hx hb hts iwX1_countState_X0 hown hK hP (29 + 15 * i4) (wl_at (by omega) (ce_9 (kd_c i4 hi4).1.1)) rfl 0 (by decide) (hts (.fieldLink RX1 79 "QuietStairs$Case" "state" "I") fwX1_countState_3) (fun _ h9 => h9) rfl dX1_countState_18 ?_
        refine lv_topi (fun x_5 ex_5 => ?_)
        refine lv_iload_n hx hb dX1_countState_21 rfl (lv_at hl 3 rfl) ?_
        refine lv_icmp_ne (tgt := 28) hx hb dX1_countState_22 (by decide) (fun c_6 => ?_) (fun c_6 => ?_)
        · have tc_6 : x_5.toInt ≠ x0.toInt := fun q => absurd (Int32.toInt_inj.mp q) c_6
          obtain ⟨x_7, ex_7⟩ : ∃ y : Int32, y = y1_3 + 1 := ⟨_, rfl⟩
          refine lv_iinc (v := x_7) (lv' := [(3, .int x_7), (2, .int y1_2), (0, .ref (ad 13)), (1, .int x0)]) hx hb dX1_countState_28 hl (k := 0) rfl (by rw [ex_7]; rfl) (by decide) rfl (fun ls hl => ?_)
          have k_1 : (1 : Int32).toInt = 1 := by decide
          have tx_7 : x_7.toInt = y1_3.toInt + (1 : Int32).toInt := by rw [ex_7]; exact t_add ⟨by omega, by omega⟩
          refine lv_goto (tgt := 4) hx hb dX1_countState_31 (by decide) ?_
          exact ih_1 x_7 y1_2 u1 H locs (by omega) (by omega) (by omega) hv hfr hP hD hS ls (lv_sub hl [0, 1, 2, 3] rfl)
        · have tc_6 : x_5.toInt = x0.toInt := by rw [c_6]
          obtain ⟨x_7, ex_7⟩ : ∃ y : Int32, y = y1_2 + 1 := ⟨_, rfl⟩
          refine lv_iinc (v := x_7) (lv' := [(2, .int x_7), (3, .int y1_3), (0, .ref (ad 13)), (1, .int x0)]) hx hb dX1_countState_25 hl (k := 1) rfl (by rw [ex_7]; rfl) (by decide) rfl (fun ls hl => ?_)
          obtain ⟨x_8, ex_8⟩ : ∃ y : Int32, y = y1_3 + 1 := ⟨_, rfl⟩
          refine lv_iinc (v := x_8) (lv' := [(3, .int x_8), (2, .int x_7), (0, .ref (ad 13)), (1, .int x0)]) hx hb dX1_countState_28 hl (k := 1) rfl (by rw [ex_8]; rfl) (by decide) rfl (fun ls hl => ?_)
          have k_1 : (1 : Int32).toInt = 1 := by decide
          have tx_8 : x_8.toInt = y1_3.toInt + (1 : Int32).toInt := by rw [ex_8]; exact t_add ⟨by omega, by omega⟩
          refine lv_goto (tgt := 4) hx hb dX1_countState_31 (by decide) ?_
          exact ih_1 x_8 x_7 u1 H locs (by omega) (by omega) (by omega) hv hfr hP hD hS ls (lv_sub hl [0, 1, 2, 3] rfl)
  exact hloop_1 ((6 - (0 : Int32).toInt).toNat + 1) 0 0 v _ _ (by omega) (by omega) (by omega) hv hfr hP hD hS ls hl

set_option maxHeartbeats 4000000 in
set_option maxRecDepth 100000 in
theorem g_X1_countTerms (l : Launch) (dC : Nat → ClassId) (dI : Nat → Nat → Nat) (cy : Nat → ClassId) (sz : Nat) (ad : Nat → Nat) (kv : Value) (N : Nat) (hN : 119 ≤ N) (v : Nat → Nat → Int32) (hv : Iv v)  : Met l yX1_countTerms wsX1_countTerms ({ frames := 3, cells := 0, slots := 0, locals := 192 }) (va_Pc [.ref (ad 13)] (ex_Pre dC dI cy sz (wl ad kv cy N v))) (va_Qi (fun (r : Int32) (u : Nat → Nat → Int32) => Iv u ∧ Fz v u) (fun u t => ex_Pst dC dI (va_A (wl ad kv cy N v) sz) (wl ad kv cy N u) t) (va_A (wl ad kv cy N v) sz)) 0 0 (va_A (wl ad kv cy N v) sz) := by
  refine Met.ofW (cc := cX1_countTerms) (maxL := 3) (ret := (some .int)) (by decide) rfl ?_
  intro p e s m args below meth c s₁ B hml hv
  obtain ⟨rfl, hsz, hE, hP, hK, hD0⟩ := hv
  have hx := B.exec
  have hb := B.bytes
  have hr := B.returns
  have hts := atoms_spec (ws := wsX1_countTerms) B.pre
  have hown : s.vm.findClass RX1 = some m.cls := findClass_of_methodNamed B.named
  have hlocks := B.notSynchronized
  subst hsz
  have hD := hD0.self (sz := s.heap.size)
  generalize hAe : va_A (wl ad kv cy N v) s.heap.size = A at hD ⊢
  have hA : ∀ q : Nat, s.heap.size ≤ q → A q := fun q h => by rw [← hAe]; exact Or.inr h
  have hS : va_S A s.heap s.heap [] := va_S.rf
  have hP : va_P (dC, dI) vwCl (wl ad kv cy N v) s.heap := hP
  have hl := lv_entry ([.ref (ad 13)]) (n := 3) (Nat.le_of_ble_eq_true rfl)
  rw [lg_entry_eq]
  generalize (lg_sl ([.ref (ad 13)]) ++ List.replicate (3 - (lg_sl ([.ref (ad 13)])).length) Slot.unset).toArray = ls at hl ⊢
  have hl : lv_has ls 3 [(0, .ref (ad 13))] := hl
  have hfr : Fz v v := Fz.rf
  refine lv_iconst (v := 0) hx hb dX1_countTerms_0 (by decide) ?_
  refine lv_istore_n (lv' := [(1, .int 0), (0, .ref (ad 13))]) hx hb dX1_countTerms_1 rfl hl (by decide) rfl (fun ls hl => ?_)
  refine lv_iconst (v := 0) hx hb dX1_countTerms_2 (by decide) ?_
  refine lv_istore_n (lv' := [(2, .int 0), (1, .int 0), (0, .ref (ad 13))]) hx hb dX1_countTerms_3 rfl hl (by decide) rfl (fun ls hl => ?_)
  have k_0 : (0 : Int32).toInt = 0 := by decide
  have hloop_1 : ∀ (n : Nat) (y1_2 y1_1 : Int32) (u1 : Nat → Nat → Int32) (H : Heap) (locs : List Loc), 0 ≤ y1_2.toInt → y1_2.toInt ≤ 6 → (6 - y1_2.toInt).toNat < n → Iv u1 → Fz v u1 → va_P (dC, dI) vwCl (wl ad kv cy N u1) H → va_D A (wl ad kv cy N u1) → va_S A s.heap H locs → ∀ ls : Array Slot, lv_has ls 3 [(2, .int y1_2), (1, .int y1_1), (0, .ref (ad 13))] → W p l e (headSpec wsX1_countTerms ({ frames := 3, cells := 0, slots := 0, locals := 192 })).room s m [Value.ref (ad 13)].toArray below meth c H locs 0 0 (MQ below (va_Qi (fun (r : Int32) (u : Nat → Nat → Int32) => Iv u ∧ Fz v u) (fun u t => ex_Pst dC dI A (wl ad kv cy N u) t) A) [Value.ref (ad 13)].toArray s 0 0 A) (F0 m 4 ls []) := by
    intro n
    induction n with
    | zero =>
      intro y1_2 y1_1 u1 H locs ay1_2 by1_2 hm_1 hv hfr hP hD hS ls hl
      exact absurd hm_1 (by omega)
    | succ n ih_1 =>
      intro y1_2 y1_1 u1 H locs ay1_2 by1_2 hm_1 hv hfr hP hD hS ls hl
      refine lv_iload_n hx hb dX1_countTerms_4 rfl (lv_at hl 0 rfl) ?_
      refine lv_aload_n hx hb dX1_countTerms_5 rfl (lv_at hl 2 rfl) ?_
      refine va_get (D := (dC, dI)) (ci := 1) (v := .int (u1 (13) 2)) (C := RX1) (T := TX1) (N := 7) hx hb hts iwX1_countTerms_X1 hown hK hP (13) (wl_at (by omega) (ce_3 (by decide))) rfl 2 (by decide) (hts (.fieldLink RX1 66 "QuietStairs$House" "caseCount" "I") fwX1_countTerms_1) (fun _ h9 => h9) rfl dX1_countTerms_6 ?_
      refine lv_topi (fun x_2 ex_2 => ?_)
      have bx_2 : 0 ≤ x_2.toInt ∧ x_2.toInt ≤ 6 := by rw [ex_2]; exact hv.at (K := 3) (by decide) rfl
      refine lv_icmp_ge (tgt := 30) hx hb dX1_countTerms_9 (by decide) (fun c_3 => ?_) (fun c_3 => ?_)
      · have tc_3 : y1_2.toInt ≥ x_2.toInt := Int32.le_iff_toInt_le.mp c_3
        refine lv_iload_n hx hb dX1_countTerms_30 rfl (lv_at hl 1 rfl) ?_
        exact W.iret (v := y1_1) hx hb hr (fun t ht hW => ⟨⟨y1_1, u1, rfl, ⟨hv, hfr⟩, by rw [ht]; exact hP, hD⟩, hS.F ht⟩) hS.2.2 dX1_countTerms_31
      · have tc_3 : y1_2.toInt < x_2.toInt := Int32.lt_iff_toInt_lt.mp (Int32.not_le.mp c_3)
        refine lv_iload_n hx hb dX1_countTerms_12 rfl (lv_at hl 1 rfl) ?_
        refine lv_aload_n hx hb dX1_countTerms_13 rfl (lv_at hl 2 rfl) ?_
        refine va_get (D := (dC, dI)) (ci := 1) (v := .ref (ad 16)) (C := RX1) (T := TX1) (N := 7) hx hb hts iwX1_countTerms_X1 hown hK hP (13) (wl_at (by omega) (ce_3 (by decide))) rfl 6 (by decide) (hts (.fieldLink RX1 25 "QuietStairs$House" "cases" "[LQuietStairs$Case;") fwX1_countTerms_2) (fun _ h9 => h9) rfl dX1_countTerms_14 ?_
        refine lv_iload_n hx hb dX1_countTerms_17 rfl (lv_at hl 0 rfl) ?_
        obtain ⟨pi4, i4, hi4, ni4, mi4⟩ := t_in (x := y1_2) (n := 6) ⟨by omega, by omega⟩
        refine va_aldq hx hb hK hP (16) 3 (wl_at (by omega) (ce_6 (by decide))) rfl pi4 dX1_countTerms_18 ?_
        refine W.eq (g2 := F0 m 19 ls [.ref (ad (29 + 15 * i4)), .int y1_1]) (by rw [ni4, if_pos hi4, show 16 + 13 + 15 * i4 = 29 + 15 * i4 from by omega]; rfl) ?_
        refine va_get (D := (dC, dI)) (ci := 0) (v := .int (u1 (29 + 15 * i4) 5)) (C := RX0) (T := TX0) (N := 11) hx hb hts iwX1_countTerms_X0 hown hK hP (29 + 15 * i4) (wl_at (by omega) (ce_9 (kd_c i4 hi4).1.1)) rfl 5 (by decide) (hts (.fieldLink RX1 82 "QuietStairs$Case" "termCount" "I") fwX1_countTerms_3) (fun _ h9 => h9) rfl dX1_countTerms_19 ?_
        refine lv_topi (fun x_5 ex_5 => ?_)
        have bx_5 : 0 ≤ x_5.toInt ∧ x_5.toInt ≤ 5 := by rw [ex_5]; exact hv.at (K := 9) (kd_c i4 hi4).1.1 rfl
        refine lv_iadd hx hb dX1_countTerms_22 ?_
        refine lv_topi (fun x_6 ex_6 => ?_)
        refine lv_istore_n (lv' := [(1, .int x_6), (2, .int y1_2), (0, .ref (ad 13))]) hx hb dX1_countTerms_23 rfl hl (by decide) rfl (fun ls hl => ?_)
        obtain ⟨x_7, ex_7⟩ : ∃ y : Int32, y = y1_2 + 1 := ⟨_, rfl⟩
        refine lv_iinc (v := x_7) (lv' := [(2, .int x_7), (1, .int x_6), (0, .ref (ad 13))]) hx hb dX1_countTerms_24 hl (k := 1) rfl (by rw [ex_7]; rfl) (by decide) rfl (fun ls hl => ?_)
        have k_1 : (1 : Int32).toInt = 1 := by decide
        have tx_7 : x_7.toInt = y1_2.toInt + (1 : Int32).toInt := by rw [ex_7]; exact t_add ⟨by omega, by omega⟩
        refine lv_goto (tgt := 4) hx hb dX1_countTerms_27 (by decide) ?_
        exact ih_1 x_7 x_6 u1 H locs (by omega) (by omega) (by omega) hv hfr hP hD hS ls (lv_sub hl [0, 1, 2] rfl)
  exact hloop_1 ((6 - (0 : Int32).toInt).toNat + 1) 0 0 v _ _ (by omega) (by omega) (by omega) hv hfr hP hD hS ls hl
