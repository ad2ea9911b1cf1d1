
set_option maxHeartbeats 4000000 in
set_option maxRecDepth 100000 in
theorem e_X4_seatOf (l : Launch) (dC : Nat → ClassId) (dI : Nat → Nat → Nat) (cy : Nat → ClassId) (sz : Nat) (ad : Nat → Nat) (kv : Value) (N : Nat) (hN : 119 ≤ N) (v : Nat → Nat → Int32) (hv : Iv v) (x0 : Int32) : Met l yX4_seatOf wsX4_seatOf ({ frames := 0, cells := 0, slots := 0, locals := 0 }) (va_Pc [.ref (ad 1), .int x0] (ex_Pre dC dI cy sz (wl ad kv cy N v))) (va_Qi (fun (r : Int32) (u : Nat → Nat → Int32) => Iv u ∧ u = v ∧ ((∃ k : Nat, ((k : Int) < (v 1 1).toInt ∧ (v 2 k).toInt = x0.toInt) ∧ r = v 7 k ∧ (v 7 k).toInt ≠ 18) ∨ (r = -5 ∧ ∀ k : Nat, (k : Int) < (v 1 1).toInt → (v 2 k).toInt = x0.toInt → (v 7 k).toInt = 18))) (fun u t => ex_Pst dC dI (va_A (wl ad kv cy N v) sz) (wl ad kv cy N u) t) (va_A (wl ad kv cy N v) sz)) 0 0 (va_A (wl ad kv cy N v) sz) := by
  refine Met.ofW (cc := cX4_seatOf) (maxL := 3) (ret := (some .int)) (by decide) rfl ?_
  intro p e s m args below meth c s₁ B hml hv
  obtain ⟨rfl, hsz, hE, hP, hK, hD0⟩ := hv
  have hx := B.exec
  have hb := B.bytes
  have hr := B.returns
  have hts := atoms_spec (ws := wsX4_seatOf) B.pre
  have hown : s.vm.findClass RX4 = some m.cls := findClass_of_methodNamed B.named
  have hlocks := B.notSynchronized
  subst hsz
  have hD := hD0.self (sz := s.heap.size)
  generalize hAe : va_A (wl ad kv cy N v) s.heap.size = A at hD ⊢
  have hA : ∀ q : Nat, s.heap.size ≤ q → A q := fun q h => by rw [← hAe]; exact Or.inr h
  have hS : va_S A s.heap s.heap [] := va_S.rf
  have hP : va_P (dC, dI) vwCl (wl ad kv cy N v) s.heap := hP
  have hl := lv_entry ([.ref (ad 1), .int x0]) (n := 3) (Nat.le_of_ble_eq_true rfl)
  rw [lg_entry_eq]
  generalize (lg_sl ([.ref (ad 1), .int x0]) ++ List.replicate (3 - (lg_sl ([.ref (ad 1), .int x0])).length) Slot.unset).toArray = ls at hl ⊢
  have hl : lv_has ls 3 [(0, .ref (ad 1)), (1, .int x0)] := hl
  have k_0 : (0 : Int32).toInt = 0 := by decide
  obtain ⟨cn, ecn⟩ : ∃ z : Int32, z = v 1 1 := ⟨_, rfl⟩
  have hbcn : 0 ≤ cn.toInt ∧ cn.toInt ≤ 4 := by rw [ecn]; exact hv.at (K := 1) (by decide) rfl
  have k_18 : (18 : Int32).toInt = 18 := by decide
  refine lv_iconst (v := 0) hx hb dX4_seatOf_0 (by decide) ?_
  refine lv_istore_n (lv' := [(2, .int 0), (0, .ref (ad 1)), (1, .int x0)]) hx hb dX4_seatOf_1 rfl hl (by decide) rfl (fun ls hl => ?_)
  have hc_1 : ∀ (n : Nat) (y1_2 : Int32) (H : Heap) (locs : List Loc), 0 ≤ y1_2.toInt → y1_2.toInt ≤ 4 → (∀ k : Nat, (k : Int) < y1_2.toInt → ¬ ((v 2 k).toInt = x0.toInt ∧ (v 7 k).toInt ≠ 18)) → (y1_2.toInt ≤ cn.toInt) → (4 - y1_2.toInt).toNat < n → va_P (dC, dI) vwCl (wl ad kv cy N v) H → va_D A (wl ad kv cy N v) → va_S A s.heap H locs → ∀ ls : Array Slot, lv_has ls 3 [(2, .int y1_2), (0, .ref (ad 1)), (1, .int x0)] → W p l e (headSpec wsX4_seatOf ({ frames := 0, cells := 0, slots := 0, locals := 0 })).room s m [Value.ref (ad 1), Value.int x0].toArray below meth c H locs 0 0 (MQ below (va_Qi (fun (r : Int32) (u : Nat → Nat → Int32) => Iv u ∧ u = v ∧ ((∃ k : Nat, ((k : Int) < (v 1 1).toInt ∧ (v 2 k).toInt = x0.toInt) ∧ r = v 7 k ∧ (v 7 k).toInt ≠ 18) ∨ (r = -5 ∧ ∀ k : Nat, (k : Int) < (v 1 1).toInt → (v 2 k).toInt = x0.toInt → (v 7 k).toInt = 18))) (fun u t => ex_Pst dC dI A (wl ad kv cy N u) t) A) [Value.ref (ad 1), Value.int x0].toArray s 0 0 A) (F0 m 2 ls []) := by
    intro n
    induction n with
    | zero =>
      intro y1_2 H locs ay1_2 by1_2 hi1_0 hi1_1 hm_1 hP hD hS ls hl
      exact absurd hm_1 (by omega)
    | succ n ih_1 =>
      intro y1_2 H locs ay1_2 by1_2 hi1_0 hi1_1 hm_1 hP hD hS ls hl
      refine lv_iload_n hx hb dX4_seatOf_2 rfl (lv_at hl 0 rfl) ?_
      refine lv_aload_n hx hb dX4_seatOf_3 rfl (lv_at hl 1 rfl) ?_
      refine va_get (D := (dC, dI)) (ci := 4) (v := .int (v (1) 1)) (C := RX4) (T := TX4) (N := 11) hx hb hts (by decide +kernel) hown hK hP (1) (wl_at (by omega) (ce_1 (by decide))) rfl 1 (by decide) (hts (.fieldLink RX4 61 "QuietStairs$Planner" "count" "I") (by decide +kernel)) (fun _ h9 => h9) rfl dX4_seatOf_4 ?_
      refine lv_topi (fun x_2 ex_2 => ?_)
      have bzx_2 : 0 ≤ x_2.toInt ∧ x_2.toInt ≤ 4 := by rw [ex_2]; exact hv.at (K := 1) (by decide) rfl
      obtain rfl : cn = x_2 := (ex_2.trans ecn.symm).symm
      refine lv_icmp_ge (tgt := 44) hx hb dX4_seatOf_7 (by decide) (fun c_3 => ?_) (fun c_3 => ?_)
      · have tc_3 : y1_2.toInt ≥ cn.toInt := Int32.le_iff_toInt_le.mp c_3
        refine lv_bipush (v := (-5)) hx hb dX4_seatOf_44 (by decide) ?_
        exact W.iret (v := (-5)) hx hb hr (fun t ht hW => ⟨⟨(-5), v, rfl, ⟨hv, rfl, Or.inr ⟨rfl, fun k hk q => by have h := hi1_0 k (by rw [← ecn] at hk; omega); omega⟩⟩, by rw [ht]; exact hP, hD⟩, hS.F ht⟩) hS.2.2 dX4_seatOf_46
      · have tc_3 : y1_2.toInt < cn.toInt := Int32.lt_iff_toInt_lt.mp (Int32.not_le.mp c_3)
        refine lv_aload_n hx hb dX4_seatOf_10 rfl (lv_at hl 1 rfl) ?_
        refine va_get (D := (dC, dI)) (ci := 4) (v := .ref (ad 2)) (C := RX4) (T := TX4) (N := 11) hx hb hts (by decide +kernel) hown hK hP (1) (wl_at (by omega) (ce_1 (by decide))) rfl 3 (by decide) (hts (.fieldLink RX4 9 "QuietStairs$Planner" "numbers" "[I") (by decide +kernel)) (fun _ h9 => h9) rfl dX4_seatOf_11 ?_
        refine lv_iload_n hx hb dX4_seatOf_14 rfl (lv_at hl 0 rfl) ?_
        have zn_y1_2 : (y1_2.toNatClampNeg : Int) = y1_2.toInt := t_nn (by omega)
        have hx_4 : y1_2.toNatClampNeg < 4 := by omega
        refine va_iald hx hb hK hP (2) 0 (wl_at (by omega) (ce_17 (by decide))) rfl (vp_in_iff.mpr ⟨by omega, by omega⟩) dX4_seatOf_15 ?_
        refine lv_topi (fun x_5 ex_5 => ?_)
        have qx_5 : x_5.toInt = (v (2) (y1_2.toNatClampNeg)).toInt := congrArg Int32.toInt ex_5
        refine lv_iload_n hx hb dX4_seatOf_16 rfl (lv_at hl 2 rfl) ?_
        refine lv_icmp_ne (tgt := 38) hx hb dX4_seatOf_17 (by decide) (fun c_6 => ?_) (fun c_6 => ?_)
        · have tc_6 : x_5.toInt ≠ x0.toInt := fun q => absurd (Int32.toInt_inj.mp q) c_6
          obtain ⟨x_7, ex_7⟩ : ∃ y : Int32, y = y1_2 + 1 := ⟨_, rfl⟩
          refine lv_iinc (v := x_7) (lv' := [(2, .int x_7), (0, .ref (ad 1)), (1, .int x0)]) hx hb dX4_seatOf_38 hl (k := 0) rfl (by rw [ex_7]; rfl) (by decide) rfl (fun ls hl => ?_)
          have k_1 : (1 : Int32).toInt = 1 := by decide
          have tx_7 : x_7.toInt = y1_2.toInt + (1 : Int32).toInt := by rw [ex_7]; exact t_add ⟨by omega, by omega⟩
          refine lv_goto (tgt := 2) hx hb dX4_seatOf_41 (by decide) ?_
          exact ih_1 x_7 _ _ (by omega) (by omega) (fun k hk => by by_cases e : (k : Int) < y1_2.toInt; exact hi1_0 k e; rw [show k = y1_2.toNatClampNeg from by omega]; omega) (by omega) (by omega) hP hD hS ls (lv_sub hl [0, 1, 2] rfl)
        · have tc_6 : x_5.toInt = x0.toInt := by rw [c_6]
          refine lv_aload_n hx hb dX4_seatOf_20 rfl (lv_at hl 1 rfl) ?_
          refine va_get (D := (dC, dI)) (ci := 4) (v := .ref (ad 7)) (C := RX4) (T := TX4) (N := 11) hx hb hts (by decide +kernel) hown hK hP (1) (wl_at (by omega) (ce_1 (by decide))) rfl 8 (by decide) (hts (.fieldLink RX4 27 "QuietStairs$Planner" "bestSeats" "[I") (by decide +kernel)) (fun _ h9 => h9) rfl dX4_seatOf_21 ?_
          refine lv_iload_n hx hb dX4_seatOf_24 rfl (lv_at hl 0 rfl) ?_
          refine va_iald hx hb hK hP (7) 0 (wl_at (by omega) (ce_17 (by decide))) rfl (vp_in_iff.mpr ⟨by omega, by omega⟩) dX4_seatOf_25 ?_
          refine lv_topi (fun x_7 ex_7 => ?_)
          have qx_7 : x_7.toInt = (v (7) (y1_2.toNatClampNeg)).toInt := congrArg Int32.toInt ex_7
          refine lv_bipush (v := 18) hx hb dX4_seatOf_26 (by decide) ?_
          have k_18 : (18 : Int32).toInt = 18 := by decide
          refine lv_icmp_eq (tgt := 38) hx hb dX4_seatOf_28 (by decide) (fun c_8 => ?_) (fun c_8 => ?_)
          · have tc_8 : x_7.toInt = (18 : Int32).toInt := by rw [c_8]
            obtain ⟨x_9, ex_9⟩ : ∃ y : Int32, y = y1_2 + 1 := ⟨_, rfl⟩
            refine lv_iinc (v := x_9) (lv' := [(2, .int x_9), (0, .ref (ad 1)), (1, .int x0)]) hx hb dX4_seatOf_38 hl (k := 0) rfl (by rw [ex_9]; rfl) (by decide) rfl (fun ls hl => ?_)
            have k_1 : (1 : Int32).toInt = 1 := by decide
            have tx_9 : x_9.toInt = y1_2.toInt + (1 : Int32).toInt := by rw [ex_9]; exact t_add ⟨by omega, by omega⟩
            refine lv_goto (tgt := 2) hx hb dX4_seatOf_41 (by decide) ?_
            exact ih_1 x_9 _ _ (by omega) (by omega) (fun k hk => by by_cases e : (k : Int) < y1_2.toInt; exact hi1_0 k e; rw [show k = y1_2.toNatClampNeg from by omega]; omega) (by omega) (by omega) hP hD hS ls (lv_sub hl [0, 1, 2] rfl)
          · have tc_8 : x_7.toInt ≠ (18 : Int32).toInt := fun q => absurd (Int32.toInt_inj.mp q) c_8
            refine lv_aload_n hx hb dX4_seatOf_31 rfl (lv_at hl 1 rfl) ?_
            refine va_get (D := (dC, dI)) (ci := 4) (v := .ref (ad 7)) (C := RX4) (T := TX4) (N := 11) hx hb hts (by decide +kernel) hown hK hP (1) (wl_at (by omega) (ce_1 (by decide))) rfl 8 (by decide) (hts (.fieldLink RX4 27 "QuietStairs$Planner" "bestSeats" "[I") (by decide +kernel)) (fun _ h9 => h9) rfl dX4_seatOf_32 ?_
            refine lv_iload_n hx hb dX4_seatOf_35 rfl (lv_at hl 0 rfl) ?_
            refine va_iald hx hb hK hP (7) 0 (wl_at (by omega) (ce_17 (by decide))) rfl (vp_in_iff.mpr ⟨by omega, by omega⟩) dX4_seatOf_36 ?_
            refine lv_topi (fun x_9 ex_9 => ?_)
            obtain rfl : x_7 = x_9 := (ex_9.trans ex_7.symm).symm
            exact W.iret (v := x_7) hx hb hr (fun t ht hW => ⟨⟨x_7, v, rfl, ⟨hv, rfl, Or.inl ⟨y1_2.toNatClampNeg, ⟨by rw [← ecn]; omega, by omega⟩, ex_7, by rw [← ex_7]; omega⟩⟩, by rw [ht]; exact hP, hD⟩, hS.F ht⟩) hS.2.2 dX4_seatOf_37
  exact hc_1 ((4 - (0 : Int32).toInt).toNat + 1) 0 _ _ (by omega) (by omega) (fun k hk => absurd hk (by omega)) (by omega) (by omega) hP hD hS ls (lv_sub hl [0, 1, 2] rfl)
