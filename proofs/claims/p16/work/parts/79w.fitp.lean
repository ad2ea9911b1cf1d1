
set_option maxHeartbeats 4000000 in
set_option maxRecDepth 100000 in
theorem e_X4_fittingPairs (l : Launch) (dC : Nat → ClassId) (dI : Nat → Nat → Nat) (cy : Nat → ClassId) (sz : Nat) (ad : Nat → Nat) (kv : Value) (N : Nat) (hN : 119 ≤ N) (v : Nat → Nat → Int32) (hv : Iv v) (i : Nat) (hi : i < 6) (t1 t2 : Nat) : Met l yX4_fittingPairs wsX4_fittingPairs ({ frames := 3, cells := 0, slots := 0, locals := 192 }) (va_Pc [.ref (ad 13), .ref (ad (29 + 15 * i))] (ex_PreT dC dI cy sz (wl ad kv cy N v) t1 t2)) (va_Qi (fun (r : Int32) (u : Nat → Nat → Int32) => Iv u ∧ u = v ∧ ok6 r ∧ ∀ p : Nat, p < 6 → (bt r p ↔ ((st_o p).toInt < (v 13 1).toInt ∧ fit (v (25 + (st_l p).toNatClampNeg) 1) (v (25 + (st_o p).toNatClampNeg) 1) (v (25 + (st_l p).toNatClampNeg) 2) (v (25 + (st_l p).toNatClampNeg) 0) (v (25 + (st_o p).toNatClampNeg) 2) (v (25 + (st_o p).toNatClampNeg) 0) (v (30 + 15 * i) 0) (v (17 + (v (30 + 15 * i) 0).toNatClampNeg) 1) (v (17 + (v (30 + 15 * i) 0).toNatClampNeg) 0) (v (30 + 15 * i) 1) (v (17 + (v (30 + 15 * i) 1).toNatClampNeg) 1) (v (17 + (v (30 + 15 * i) 1).toNatClampNeg) 0)))) (fun u t => ex_Pst dC dI (va_A (wl ad kv cy N v) sz) (wl ad kv cy N u) t) (va_A (wl ad kv cy N v) sz)) 0 0 (va_A (wl ad kv cy N v) sz) := by
  refine Met.ofW (cc := cX4_fittingPairs) (maxL := 4) (ret := (some .int)) (by decide) rfl ?_
  intro p e s m args below meth c s₁ B hml hv
  obtain ⟨rfl, ⟨hsz, hE, hP, hK, hD0⟩, hSt⟩ := hv
  have hx := B.exec
  have hb := B.bytes
  have hr := B.returns
  have hts := atoms_spec (ws := wsX4_fittingPairs) B.pre
  have hown : s.vm.findClass RX4 = some m.cls := findClass_of_methodNamed B.named
  have hlocks := B.notSynchronized
  subst hsz
  have hD := hD0.self (sz := s.heap.size)
  generalize hAe : va_A (wl ad kv cy N v) s.heap.size = A at hD hSt ⊢
  have hA : ∀ q : Nat, s.heap.size ≤ q → A q := fun q h => by rw [← hAe]; exact Or.inr h
  have hS : va_S A s.heap s.heap [] := va_S.rf
  have hP : va_P (dC, dI) vwCl (wl ad kv cy N v) s.heap := hP
  have hl := lv_entry ([.ref (ad 13), .ref (ad (29 + 15 * i))]) (n := 4) (Nat.le_of_ble_eq_true rfl)
  rw [lg_entry_eq]
  generalize (lg_sl ([.ref (ad 13), .ref (ad (29 + 15 * i))]) ++ List.replicate (4 - (lg_sl ([.ref (ad 13), .ref (ad (29 + 15 * i))])).length) Slot.unset).toArray = ls at hl ⊢
  have hl : lv_has ls 4 [(0, .ref (ad 13)), (1, .ref (ad (29 + 15 * i)))] := hl
  obtain ⟨FT, eFT⟩ : ∃ f : Nat → Prop, f = fun p => ((st_o p).toInt < (v 13 1).toInt ∧ fit (v (25 + (st_l p).toNatClampNeg) 1) (v (25 + (st_o p).toNatClampNeg) 1) (v (25 + (st_l p).toNatClampNeg) 2) (v (25 + (st_l p).toNatClampNeg) 0) (v (25 + (st_o p).toNatClampNeg) 2) (v (25 + (st_o p).toNatClampNeg) 0) (v (30 + 15 * i) 0) (v (17 + (v (30 + 15 * i) 0).toNatClampNeg) 1) (v (17 + (v (30 + 15 * i) 0).toNatClampNeg) 0) (v (30 + 15 * i) 1) (v (17 + (v (30 + 15 * i) 1).toNatClampNeg) 1) (v (17 + (v (30 + 15 * i) 1).toNatClampNeg) 0)) := ⟨_, rfl⟩
  refine lv_iconst (v := 0) hx hb dX4_fittingPairs_0 (by decide) ?_
  refine lv_istore_n (lv' := [(2, .int 0), (0, .ref (ad 13)), (1, .ref (ad (29 + 15 * i)))]) hx hb dX4_fittingPairs_1 rfl hl (by decide) rfl (fun ls hl => ?_)
  refine lv_iconst (v := 0) hx hb dX4_fittingPairs_2 (by decide) ?_
  refine lv_istore_n (lv' := [(3, .int 0), (2, .int 0), (0, .ref (ad 13)), (1, .ref (ad (29 + 15 * i)))]) hx hb dX4_fittingPairs_3 rfl hl (by decide) rfl (fun ls hl => ?_)
  have hc_1 : ∀ (n : Nat) (y1_3 y1_2 : Int32) (H : Heap) (locs : List Loc), 0 ≤ y1_3.toInt → y1_3.toInt ≤ 6 → (ok6 y1_2) → (∀ p : Nat, p < 6 → (bt y1_2 p ↔ ((p : Int) < y1_3.toInt ∧ FT p))) → (6 - y1_3.toInt).toNat < n → va_P (dC, dI) vwCl (wl ad kv cy N v) H → va_D A (wl ad kv cy N v) → va_S A s.heap H locs → ∀ ls : Array Slot, lv_has ls 4 [(3, .int y1_3), (2, .int y1_2), (0, .ref (ad 13)), (1, .ref (ad (29 + 15 * i)))] → W p l e (headSpec wsX4_fittingPairs ({ frames := 3, cells := 0, slots := 0, locals := 192 })).room s m [Value.ref (ad 13), Value.ref (ad (29 + 15 * i))].toArray below meth c H locs 0 0 (MQ below (va_Qi (fun (r : Int32) (u : Nat → Nat → Int32) => Iv u ∧ u = v ∧ ok6 r ∧ ∀ p : Nat, p < 6 → (bt r p ↔ ((st_o p).toInt < (v 13 1).toInt ∧ fit (v (25 + (st_l p).toNatClampNeg) 1) (v (25 + (st_o p).toNatClampNeg) 1) (v (25 + (st_l p).toNatClampNeg) 2) (v (25 + (st_l p).toNatClampNeg) 0) (v (25 + (st_o p).toNatClampNeg) 2) (v (25 + (st_o p).toNatClampNeg) 0) (v (30 + 15 * i) 0) (v (17 + (v (30 + 15 * i) 0).toNatClampNeg) 1) (v (17 + (v (30 + 15 * i) 0).toNatClampNeg) 0) (v (30 + 15 * i) 1) (v (17 + (v (30 + 15 * i) 1).toNatClampNeg) 1) (v (17 + (v (30 + 15 * i) 1).toNatClampNeg) 0)))) (fun u t => ex_Pst dC dI A (wl ad kv cy N u) t) A) [Value.ref (ad 13), Value.ref (ad (29 + 15 * i))].toArray s 0 0 A) (F0 m 4 ls []) := by
    intro n
    induction n with
    | zero =>
      intro y1_3 y1_2 H locs ay1_3 by1_3 hi1_0 hi1_1 hm_1 hP hD hS ls hl
      exact absurd hm_1 (by omega)
    | succ n ih_1 =>
      intro y1_3 y1_2 H locs ay1_3 by1_3 hi1_0 hi1_1 hm_1 hP hD hS ls hl
      refine lv_iload_n hx hb dX4_fittingPairs_4 rfl (lv_at hl 0 rfl) ?_
      refine lv_bipush (v := 6) hx hb dX4_fittingPairs_5 (by decide) ?_
      have k_6 : (6 : Int32).toInt = 6 := by decide
      refine lv_icmp_ge (tgt := 39) hx hb dX4_fittingPairs_7 (by decide) (fun c_2 => ?_) (fun c_2 => ?_)
      · have tc_2 : y1_3.toInt ≥ (6 : Int32).toInt := Int32.le_iff_toInt_le.mp c_2
        refine lv_iload_n hx hb dX4_fittingPairs_39 rfl (lv_at hl 1 rfl) ?_
        exact W.iret (v := y1_2) hx hb hr (fun t ht hW => ⟨⟨y1_2, v, rfl, ⟨hv, rfl, hi1_0, fun p hp => by have q := hi1_1 p hp; rw [eFT] at q; exact q.trans ⟨fun x => x.2, fun x => ⟨by omega, x⟩⟩⟩, by rw [ht]; exact hP, hD⟩, hS.F ht⟩) hS.2.2 dX4_fittingPairs_40
      · have tc_2 : y1_3.toInt < (6 : Int32).toInt := Int32.lt_iff_toInt_lt.mp (Int32.not_le.mp c_2)
        refine lv_aload_n hx hb dX4_fittingPairs_10 rfl (lv_at hl 2 rfl) ?_
        refine lv_iload_n hx hb dX4_fittingPairs_11 rfl (lv_at hl 0 rfl) ?_
        refine yw_i (w1 := fun (u : Nat → Nat → Int32) => wl ad kv cy N u) hD hS hA (va_runV (As := [.int y1_3]) (rest := []) ⟨hx, hb, hml, hown, hts⟩ (e_X1_hasPair l dC dI cy _ ad kv N hN v hv y1_3 ⟨by omega, by omega⟩ t1 t2) (cwV 1 hts gX4_fittingPairs_X1_hasPair rfl rfl rfl (by decide +kernel) ⟨Nat.le_of_ble_eq_true rfl, Nat.le_of_ble_eq_true rfl⟩) ⟨ex_blindT, va_recv hK hP (ci := 1) (q0 := 13) rfl (wl_at (by omega) (ce_3 (by decide))), fun U hU hW => ⟨rfl, ((yw_preS (As := []) hE hK hP hD).2 U hU hW).2, hSt.go hS (yw_F hD hS hA) hU hW⟩⟩ rfl rfl hl.1 rfl (lv_room (Nat.le_of_ble_eq_true rfl)) dX4_fittingPairs_12 ⟨Nat.le_of_ble_eq_true rfl, Nat.le_of_ble_eq_true rfl⟩) (fun r_3 v_3 H locs hw_3 hP hD hS => ?_)
        obtain ⟨-, hu_3, hw_3⟩ := hw_3
        replace hu_3 := hu_3.symm
        subst hu_3
        rcases hw_3 with ⟨rfl, hp_4⟩ | ⟨rfl, hp_4⟩
        · refine lv_if_eq (tgt := 33) hx hb dX4_fittingPairs_15 (by decide) (fun c9 => absurd c9 (by decide)) (fun _ => ?_)
          refine lv_aload_n hx hb dX4_fittingPairs_18 rfl (lv_at hl 2 rfl) ?_
          refine lv_iload_n hx hb dX4_fittingPairs_19 rfl (lv_at hl 0 rfl) ?_
          refine lv_aload_n hx hb dX4_fittingPairs_20 rfl (lv_at hl 3 rfl) ?_
          refine yw_i (w1 := fun (u : Nat → Nat → Int32) => wl ad kv cy N u) hD hS hA (va_runV (As := [.int y1_3, .ref (ad (29 + 15 * i))]) (rest := []) ⟨hx, hb, hml, hown, hts⟩ (e_X1_pairFits l dC dI cy _ ad kv N hN v hv y1_3 ⟨by omega, by omega⟩ i hi t1 t2) (cwV 2 hts gX4_fittingPairs_X1_pairFits rfl rfl rfl (by decide +kernel) ⟨Nat.le_of_ble_eq_true rfl, Nat.le_of_ble_eq_true rfl⟩) ⟨ex_blindT, va_recv hK hP (ci := 1) (q0 := 13) rfl (wl_at (by omega) (ce_3 (by decide))), fun U hU hW => ⟨rfl, ((yw_preS (As := []) hE hK hP hD).2 U hU hW).2, hSt.go hS (yw_F hD hS hA) hU hW⟩⟩ rfl rfl hl.1 rfl (lv_room (Nat.le_of_ble_eq_true rfl)) dX4_fittingPairs_21 ⟨Nat.le_of_ble_eq_true rfl, Nat.le_of_ble_eq_true rfl⟩) (fun r_5 v_5 H locs hw_5 hP hD hS => ?_)
          obtain ⟨-, hu_5, hw_5⟩ := hw_5
          replace hu_5 := hu_5.symm
          subst hu_5
          rcases hw_5 with ⟨rfl, hf_6⟩ | ⟨rfl, hf_6⟩
          · refine lv_if_eq (tgt := 33) hx hb dX4_fittingPairs_24 (by decide) (fun c9 => absurd c9 (by decide)) (fun _ => ?_)
            refine lv_iload_n hx hb dX4_fittingPairs_27 rfl (lv_at hl 1 rfl) ?_
            refine lv_iconst (v := 1) hx hb dX4_fittingPairs_28 (by decide) ?_
            refine lv_iload_n hx hb dX4_fittingPairs_29 rfl (lv_at hl 0 rfl) ?_
            refine lv_ishl hx hb dX4_fittingPairs_30 ?_
            refine lv_topi (fun x_7 ex_7 => ?_)
            refine lv_ior hx hb dX4_fittingPairs_31 ?_
            refine lv_topi (fun x_8 ex_8 => ?_)
            refine lv_istore_n (lv' := [(2, .int x_8), (3, .int y1_3), (0, .ref (ad 13)), (1, .ref (ad (29 + 15 * i)))]) hx hb dX4_fittingPairs_32 rfl hl (by decide) rfl (fun ls hl => ?_)
            obtain ⟨x_9, ex_9⟩ : ∃ y : Int32, y = y1_3 + 1 := ⟨_, rfl⟩
            refine lv_iinc (v := x_9) (lv' := [(3, .int x_9), (2, .int x_8), (0, .ref (ad 13)), (1, .ref (ad (29 + 15 * i)))]) hx hb dX4_fittingPairs_33 hl (k := 1) rfl (by rw [ex_9]; rfl) (by decide) rfl (fun ls hl => ?_)
            have k_1 : (1 : Int32).toInt = 1 := by decide
            have tx_9 : x_9.toInt = y1_3.toInt + (1 : Int32).toInt := by rw [ex_9]; exact t_add ⟨by omega, by omega⟩
            refine lv_goto (tgt := 4) hx hb dX4_fittingPairs_36 (by decide) ?_
            have zn_y1_3 : (y1_3.toNatClampNeg : Int) = y1_3.toInt := t_nn (by omega)
            have hmb := mk_bit hi1_0 (P := y1_3.toNatClampNeg) (by omega) zn_y1_3.symm
            have ho9 : x_8 = y1_2 ||| (1 <<< (y1_3 &&& 31)) := by rw [ex_8, ex_7]
            have hyF : FT y1_3.toNatClampNeg := by rw [eFT]; exact ⟨hp_4, hf_6⟩
            exact ih_1 x_9 x_8 _ _ (by omega) (by omega) (by rw [ho9]; exact hmb.1) (fun p hp => by rw [ho9]; refine ((hmb.2 p hp).trans (or_congr (hi1_1 p hp) Iff.rfl)).trans ⟨fun q => ?_, fun q => ?_⟩; rcases q with q | q; exact ⟨by omega, q.2⟩; exact ⟨by omega, by rw [q]; exact hyF⟩; by_cases e : p = y1_3.toNatClampNeg; exact Or.inr e; exact Or.inl ⟨by omega, q.2⟩) (by omega) hP hD hS ls (lv_sub hl [0, 1, 2, 3] rfl)
          · refine lv_if_eq (tgt := 33) hx hb dX4_fittingPairs_24 (by decide) (fun _ => ?_) (fun c9 => absurd c9 (by decide))
            obtain ⟨x_7, ex_7⟩ : ∃ y : Int32, y = y1_3 + 1 := ⟨_, rfl⟩
            refine lv_iinc (v := x_7) (lv' := [(3, .int x_7), (2, .int y1_2), (0, .ref (ad 13)), (1, .ref (ad (29 + 15 * i)))]) hx hb dX4_fittingPairs_33 hl (k := 0) rfl (by rw [ex_7]; rfl) (by decide) rfl (fun ls hl => ?_)
            have k_1 : (1 : Int32).toInt = 1 := by decide
            have tx_7 : x_7.toInt = y1_3.toInt + (1 : Int32).toInt := by rw [ex_7]; exact t_add ⟨by omega, by omega⟩
            refine lv_goto (tgt := 4) hx hb dX4_fittingPairs_36 (by decide) ?_
            have zn_y1_3 : (y1_3.toNatClampNeg : Int) = y1_3.toInt := t_nn (by omega)
            have hnF : ¬ FT y1_3.toNatClampNeg := by rw [eFT]; exact fun q => hf_6 q.2
            exact ih_1 x_7 y1_2 _ _ (by omega) (by omega) (hi1_0) (fun p hp => (hi1_1 p hp).trans ⟨fun q => ⟨by omega, q.2⟩, fun q => ⟨by by_cases e : (p : Int) < y1_3.toInt; exact e; exact absurd q.2 (by rw [show p = y1_3.toNatClampNeg from by omega]; exact hnF), q.2⟩⟩) (by omega) hP hD hS ls (lv_sub hl [0, 1, 2, 3] rfl)
        · refine lv_if_eq (tgt := 33) hx hb dX4_fittingPairs_15 (by decide) (fun _ => ?_) (fun c9 => absurd c9 (by decide))
          obtain ⟨x_5, ex_5⟩ : ∃ y : Int32, y = y1_3 + 1 := ⟨_, rfl⟩
          refine lv_iinc (v := x_5) (lv' := [(3, .int x_5), (2, .int y1_2), (0, .ref (ad 13)), (1, .ref (ad (29 + 15 * i)))]) hx hb dX4_fittingPairs_33 hl (k := 0) rfl (by rw [ex_5]; rfl) (by decide) rfl (fun ls hl => ?_)
          have k_1 : (1 : Int32).toInt = 1 := by decide
          have tx_5 : x_5.toInt = y1_3.toInt + (1 : Int32).toInt := by rw [ex_5]; exact t_add ⟨by omega, by omega⟩
          refine lv_goto (tgt := 4) hx hb dX4_fittingPairs_36 (by decide) ?_
          have zn_y1_3 : (y1_3.toNatClampNeg : Int) = y1_3.toInt := t_nn (by omega)
          have hnF : ¬ FT y1_3.toNatClampNeg := by rw [eFT]; exact fun q => hp_4 q.1
          exact ih_1 x_5 y1_2 _ _ (by omega) (by omega) (hi1_0) (fun p hp => (hi1_1 p hp).trans ⟨fun q => ⟨by omega, q.2⟩, fun q => ⟨by by_cases e : (p : Int) < y1_3.toInt; exact e; exact absurd q.2 (by rw [show p = y1_3.toNatClampNeg from by omega]; exact hnF), q.2⟩⟩) (by omega) hP hD hS ls (lv_sub hl [0, 1, 2, 3] rfl)
  have k_0 : (0 : Int32).toInt = 0 := by decide
  exact hc_1 ((6 - (0 : Int32).toInt).toNat + 1) 0 0 _ _ (by omega) (by omega) (by unfold ok6; decide) (fun p hp => ⟨fun q => absurd q (by unfold bt; rw [bt_0 ⟨p, hp⟩]; decide), fun q => absurd q.1 (by omega)⟩) (by omega) hP hD hS ls (lv_sub hl [0, 1, 2, 3] rfl)
