
theorem RD_HL {D : Nat → Nat → Int} {sd : Int} {n K : Nat} {m : Nat → Nat} {H : Nat → Int32} {k : Int32} (h : RD D sd n K m H) (hk : k.toInt = (K : Int)) (hK : K ≤ 5) : HL k H ↔ ∃ S : Nat → Nat, sdr n 24 (alw D sd n) (own D sd) S := (HL_sdr hk hK (fun i hi => (h.1.2 i hi).2.1)).trans (RD_iff h)
/-- there is a table for a side among the first n terms -/
def TB (D : Nat → Nat → Int) (sd : Int) (n : Nat) : Prop := ∃ S : Nat → Nat, sdr n 24 (alw D sd n) (own D sd) S

theorem fz_of {v u : Nat → Nat → Int32} (h : ∀ k : Nat, k ≠ 10 → k ≠ 11 → k ≠ 12 → u k = v k) : Fz v u := ⟨h 0 (by decide) (by decide) (by decide), fun k hk => h k (by omega) (by omega) (by omega)⟩

set_option maxHeartbeats 4000000 in
set_option maxRecDepth 100000 in
theorem e_X7_canHold (l : Launch) (dC : Nat → ClassId) (dI : Nat → Nat → Nat) (cy : Nat → ClassId) (sz : Nat) (ad : Nat → Nat) (kv : Value) (N : Nat) (hN : 119 ≤ N) (v : Nat → Nat → Int32) (hv : Iv v) (x0 x1 : Int32) (hT : ∀ c t : Nat, c < 6 → (c : Int) < (v 13 2).toInt → t < 5 → (t : Int) < (v (29 + 15 * c) 5).toInt → (v (39 + 15 * c + t) 3).toInt ≤ (v (39 + 15 * c + t) 4).toInt) : Met l yX7_canHold wsX7_canHold ({ frames := 3, cells := 0, slots := 0, locals := 192 }) (va_Pc [.ref (ad 0), .int x0, .int x1] (ex_Pre dC dI cy sz (wl ad kv cy N v))) (va_Qi (fun (r : Int32) (u : Nat → Nat → Int32) => Iv u ∧ (¬ ((0 ≤ x0.toInt ∧ x0.toInt < (v 13 2).toInt) ∧ 0 ≤ x1.toInt ∧ x1.toInt ≤ 1) → (r = -1) ∧ Fz v u) ∧ (((0 ≤ x0.toInt ∧ x0.toInt < (v 13 2).toInt) ∧ 0 ≤ x1.toInt ∧ x1.toInt ≤ 1) ∧ TB (fun t k => (v (39 + 15 * x0.toNatClampNeg + t) k).toInt) x1.toInt (v (29 + 15 * x0.toNatClampNeg) 5).toNatClampNeg → (r = 1) ∧ Fz v u) ∧ (((0 ≤ x0.toInt ∧ x0.toInt < (v 13 2).toInt) ∧ 0 ≤ x1.toInt ∧ x1.toInt ≤ 1) ∧ ¬ TB (fun t k => (v (39 + 15 * x0.toNatClampNeg + t) k).toInt) x1.toInt (v (29 + 15 * x0.toNatClampNeg) 5).toNatClampNeg → (r = 0) ∧ Fz v u)) (fun u t => ex_Pst dC dI (va_A (wl ad kv cy N v) sz) (wl ad kv cy N u) t) (va_A (wl ad kv cy N v) sz)) 0 0 (va_A (wl ad kv cy N v) sz) := by
  refine Met.ofW (cc := cX7_canHold) (maxL := 3) (ret := (some .int)) (by decide) rfl ?_
  intro p e s m args below meth c s₁ B hml hv
  obtain ⟨rfl, hsz, hE, hP, hK, hD0⟩ := hv
  have hx := B.exec
  have hb := B.bytes
  have hr := B.returns
  have hts := atoms_spec (ws := wsX7_canHold) B.pre
  have hown : s.vm.findClass RX7 = some m.cls := findClass_of_methodNamed B.named
  have hlocks := B.notSynchronized
  subst hsz
  have hD := hD0.self (sz := s.heap.size)
  generalize hAe : va_A (wl ad kv cy N v) s.heap.size = A at hD ⊢
  have hA : ∀ q : Nat, s.heap.size ≤ q → A q := fun q h => by rw [← hAe]; exact Or.inr h
  have hS : va_S A s.heap s.heap [] := va_S.rf
  have hP : va_P (dC, dI) vwCl (wl ad kv cy N v) s.heap := hP
  have hl := lv_entry ([.ref (ad 0), .int x0, .int x1]) (n := 3) (Nat.le_of_ble_eq_true rfl)
  rw [lg_entry_eq]
  generalize (lg_sl ([.ref (ad 0), .int x0, .int x1]) ++ List.replicate (3 - (lg_sl ([.ref (ad 0), .int x0, .int x1])).length) Slot.unset).toArray = ls at hl ⊢
  have hl : lv_has ls 3 [(0, .ref (ad 0)), (1, .int x0), (2, .int x1)] := hl
  refine lv_aload_n hx hb dX7_canHold_0 rfl (lv_at hl 0 rfl) ?_
  refine lv_iload_n hx hb dX7_canHold_1 rfl (lv_at hl 1 rfl) ?_
  refine yw_i (w1 := fun (u : Nat → Nat → Int32) => wl ad kv cy N u) hD hS hA (va_runV (As := [.int x0]) (rest := []) ⟨hx, hb, hml, hown, hts⟩ (g_X7_isCase l dC dI cy _ ad kv N hN v hv x0) (cwV 1 hts gX7_canHold_X7_isCase rfl rfl rfl (by decide +kernel) ⟨Nat.le_of_ble_eq_true rfl, Nat.le_of_ble_eq_true rfl⟩) (yw_preV hE hK hP hD (ci := 7) (q0 := 0) rfl (wl_at (by omega) (ce_0 (by decide)))) rfl rfl hl.1 rfl (lv_room (Nat.le_of_ble_eq_true rfl)) dX7_canHold_2 ⟨Nat.le_of_ble_eq_true rfl, Nat.le_of_ble_eq_true rfl⟩) (fun r_1 v_1 H locs hw_1 hP hD hS => ?_)
  obtain ⟨-, hu_1, hw_1⟩ := hw_1
  replace hu_1 := hu_1.symm
  subst hu_1
  rcases hw_1 with ⟨rfl, ha_2⟩ | ⟨rfl, ha_2⟩
  · have hb_2 := hv.at (k := 13) (j := 2) (K := 3) (by decide) rfl
    have hj_2 : 0 ≤ x0.toInt ∧ x0.toInt ≤ 5 := ⟨by omega, by omega⟩
    refine lv_if_eq (tgt := 15) hx hb dX7_canHold_5 (by decide) (fun c9 => absurd c9 (by decide)) (fun _ => ?_)
    refine lv_iload_n hx hb dX7_canHold_8 rfl (lv_at hl 2 rfl) ?_
    refine yc_p hP hS (va_runS (As := [.int x1]) (rest := []) ⟨hx, hb, hml, hown, hts⟩ (c_X7_isSide l x1) (cwS 1 hts gX7_canHold_X7_isSide rfl rfl rfl (by decide +kernel) ⟨Nat.le_of_ble_eq_true rfl, Nat.le_of_ble_eq_true rfl⟩) ex_preP rfl rfl hl.1 rfl (lv_room (Nat.le_of_ble_eq_true rfl)) dX7_canHold_9 ⟨Nat.le_of_ble_eq_true rfl, Nat.le_of_ble_eq_true rfl⟩) (fun r_3 H locs hw_3 hP hS => ?_)
    rcases wi_ca hw_3 with ⟨rfl, hc_4⟩ | ⟨rfl, hc_4⟩
    · have k_0 : (0 : Int32).toInt = 0 := by decide
      have k_1 : (1 : Int32).toInt = 1 := by decide
      have tc_4 := wi_tl hc_4
      refine lv_if_ne (tgt := 17) hx hb dX7_canHold_12 (by decide) (fun _ => ?_) (fun c9 => absurd c9 (by decide))
      refine lv_aload_n hx hb dX7_canHold_17 rfl (lv_at hl 0 rfl) ?_
      refine va_get (D := (dC, dI)) (ci := 7) (v := .ref (ad 10)) (C := RX7) (T := TX7) (N := 5) hx hb hts (by decide +kernel) hown hK hP (0) (wl_at (by omega) (ce_0 (by decide))) rfl 2 (by decide) (hts (.fieldLink RX7 26 "QuietStairs" "table" "LQuietStairs$Table;") (by decide +kernel)) (fun _ h9 => h9) rfl dX7_canHold_18 ?_
      refine lv_aload_n hx hb dX7_canHold_21 rfl (lv_at hl 0 rfl) ?_
      refine va_get (D := (dC, dI)) (ci := 7) (v := .ref (ad 13)) (C := RX7) (T := TX7) (N := 5) hx hb hts (by decide +kernel) hown hK hP (0) (wl_at (by omega) (ce_0 (by decide))) rfl 0 (by decide) (hts (.fieldLink RX7 12 "QuietStairs" "now" "LQuietStairs$House;") (by decide +kernel)) (fun _ h9 => h9) rfl dX7_canHold_22 ?_
      refine va_get (D := (dC, dI)) (ci := 1) (v := .ref (ad 16)) (C := RX1) (T := TX1) (N := 7) hx hb hts (by decide +kernel) hown hK hP (13) (wl_at (by omega) (ce_3 (by decide))) rfl 6 (by decide) (hts (.fieldLink RX7 86 "QuietStairs$House" "cases" "[LQuietStairs$Case;") (by decide +kernel)) (fun _ h9 => h9) rfl dX7_canHold_25 ?_
      refine lv_iload_n hx hb dX7_canHold_28 rfl (lv_at hl 1 rfl) ?_
      have zn_x0 : (x0.toNatClampNeg : Int) = x0.toInt := t_nn (by omega)
      have hx_5 : x0.toNatClampNeg < 6 := by omega
      refine va_aldq hx hb hK hP (16) 3 (wl_at (by omega) (ce_6 (by decide))) rfl (vp_in_iff.mpr ⟨by omega, by omega⟩) dX7_canHold_29 ?_
      refine W.eq (g2 := F0 m 30 ls [.ref (ad (29 + 15 * x0.toNatClampNeg)), .ref (ad 10)]) (by rw [if_pos hx_5, show 16 + 13 + 15 * x0.toNatClampNeg = 29 + 15 * x0.toNatClampNeg from by omega]; rfl) ?_
      refine lv_iload_n hx hb dX7_canHold_30 rfl (lv_at hl 2 rfl) ?_
      refine lv_aload_n hx hb dX7_canHold_31 rfl (lv_at hl 0 rfl) ?_
      refine va_get (D := (dC, dI)) (ci := 7) (v := .ref (ad 13)) (C := RX7) (T := TX7) (N := 5) hx hb hts (by decide +kernel) hown hK hP (0) (wl_at (by omega) (ce_0 (by decide))) rfl 0 (by decide) (hts (.fieldLink RX7 12 "QuietStairs" "now" "LQuietStairs$House;") (by decide +kernel)) (fun _ h9 => h9) rfl dX7_canHold_32 ?_
      refine va_get (D := (dC, dI)) (ci := 1) (v := .ref (ad 16)) (C := RX1) (T := TX1) (N := 7) hx hb hts (by decide +kernel) hown hK hP (13) (wl_at (by omega) (ce_3 (by decide))) rfl 6 (by decide) (hts (.fieldLink RX7 86 "QuietStairs$House" "cases" "[LQuietStairs$Case;") (by decide +kernel)) (fun _ h9 => h9) rfl dX7_canHold_35 ?_
      refine lv_iload_n hx hb dX7_canHold_38 rfl (lv_at hl 1 rfl) ?_
      refine va_aldq hx hb hK hP (16) 3 (wl_at (by omega) (ce_6 (by decide))) rfl (vp_in_iff.mpr ⟨by omega, by omega⟩) dX7_canHold_39 ?_
      refine W.eq (g2 := F0 m 40 ls [.ref (ad (29 + 15 * x0.toNatClampNeg)), .int x1, .ref (ad (29 + 15 * x0.toNatClampNeg)), .ref (ad 10)]) (by rw [if_pos hx_5, show 16 + 13 + 15 * x0.toNatClampNeg = 29 + 15 * x0.toNatClampNeg from by omega]; rfl) ?_
      refine va_get (D := (dC, dI)) (ci := 0) (v := .int (v (29 + 15 * x0.toNatClampNeg) 5)) (C := RX0) (T := TX0) (N := 11) hx hb hts (by decide +kernel) hown hK hP (29 + 15 * x0.toNatClampNeg) (wl_at (by omega) (ce_9 (kd_c _ hx_5).1.1)) rfl 5 (by decide) (hts (.fieldLink RX7 169 "QuietStairs$Case" "termCount" "I") (by decide +kernel)) (fun _ h9 => h9) rfl dX7_canHold_40 ?_
      refine lv_topi (fun x_6 ex_6 => ?_)
      have bzx_6 : 0 ≤ x_6.toInt ∧ x_6.toInt ≤ 5 := by rw [ex_6]; exact hv.at (K := 9) (kd_c _ hx_5).1.1 rfl
      have qx_6 : x_6.toInt = (v (29 + 15 * x0.toNatClampNeg) (5)).toInt := congrArg Int32.toInt ex_6
      have zn_x_6 : (x_6.toNatClampNeg : Int) = x_6.toInt := t_nn (by omega)
      refine yw_v (w1 := fun (u : Nat → Nat → Int32) => wl ad kv cy N u) hD hS hA (va_runV (As := [.ref (ad (29 + 15 * x0.toNatClampNeg)), .int x1, .int x_6]) (rest := []) ⟨hx, hb, hml, hown, hts⟩ (e_X5_read l dC dI cy _ ad kv N hN v hv x0.toNatClampNeg hx_5 x1 x_6 ⟨by omega, by omega⟩ (fun t ht h1 => hT _ t hx_5 (by omega) ht (by omega))) (cwV 3 hts gX7_canHold_X5_read rfl rfl rfl (by decide +kernel) ⟨Nat.le_of_ble_eq_true rfl, Nat.le_of_ble_eq_true rfl⟩) (yw_preV hE hK hP hD (ci := 5) (q0 := 10) rfl (wl_at (by omega) (ce_2 (by decide)))) rfl rfl hl.1 rfl (lv_room (Nat.le_of_ble_eq_true rfl)) dX7_canHold_43 ⟨Nat.le_of_ble_eq_true rfl, Nat.le_of_ble_eq_true rfl⟩) (fun v_7 H locs hw_7 hP hD hS => ?_)
      obtain ⟨hv, hw_7⟩ := hw_7
      obtain ⟨hg_8, hd_8, hn_8⟩ := hw_7
      have hk_8 := hv.at (k := 10) (j := 0) (K := 2) (by decide) rfl
      have hz_8 := t_nn hk_8.1
      refine lv_aload_n hx hb dX7_canHold_46 rfl (lv_at hl 0 rfl) ?_
      refine va_get (D := (dC, dI)) (ci := 7) (v := .ref (ad 10)) (C := RX7) (T := TX7) (N := 5) hx hb hts (by decide +kernel) hown hK hP (0) (wl_at (by omega) (ce_0 (by decide))) rfl 2 (by decide) (hts (.fieldLink RX7 26 "QuietStairs" "table" "LQuietStairs$Table;") (by decide +kernel)) (fun _ h9 => h9) rfl dX7_canHold_47 ?_
      refine yw_i (w1 := fun (u : Nat → Nat → Int32) => wl ad kv cy N u) hD hS hA (va_runV (As := []) (rest := []) ⟨hx, hb, hml, hown, hts⟩ (e_X5_stands l dC dI cy _ ad kv N hN v_7 hv ) (cwV 0 hts gX7_canHold_X5_stands rfl rfl rfl (by decide +kernel) ⟨Nat.le_of_ble_eq_true rfl, Nat.le_of_ble_eq_true rfl⟩) (yw_preV hE hK hP hD (ci := 5) (q0 := 10) rfl (wl_at (by omega) (ce_2 (by decide)))) rfl rfl hl.1 rfl (lv_room (Nat.le_of_ble_eq_true rfl)) dX7_canHold_50 ⟨Nat.le_of_ble_eq_true rfl, Nat.le_of_ble_eq_true rfl⟩) (fun r_9 v_9 H locs hw_9 hP hD hS => ?_)
      obtain ⟨-, hu_9, hw_9⟩ := hw_9
      replace hu_9 := hu_9.symm
      subst hu_9
      rcases hw_9 with ⟨rfl, hz_10⟩ | ⟨rfl, hz_10⟩
      · have hq_10 : HL (v_7 10 0) (v_7 12) ↔ TB (fun t k => (v (39 + 15 * x0.toNatClampNeg + t) k).toInt) x1.toInt x_6.toNatClampNeg := RD_HL (by rw [show ((x_6.toNatClampNeg : Nat) : Int) = x_6.toInt from t_nn (by omega)]; exact hd_8) (by omega) (by omega)
        have ht_10 : TB (fun t k => (v (39 + 15 * x0.toNatClampNeg + t) k).toInt) x1.toInt x_6.toNatClampNeg := hq_10.mp hz_10
        refine lv_if_eq (tgt := 60) hx hb dX7_canHold_53 (by decide) (fun c9 => absurd c9 (by decide)) (fun _ => ?_)
        refine lv_iconst (v := 1) hx hb dX7_canHold_56 (by decide) ?_
        refine lv_goto (tgt := 61) hx hb dX7_canHold_57 (by decide) ?_
        have htb : TB (fun t k => (v (39 + 15 * x0.toNatClampNeg + t) k).toInt) x1.toInt (v (29 + 15 * x0.toNatClampNeg) 5).toNatClampNeg := by rw [← ex_6]; exact ht_10
        have hpost : (¬ ((0 ≤ x0.toInt ∧ x0.toInt < (v 13 2).toInt) ∧ 0 ≤ x1.toInt ∧ x1.toInt ≤ 1) → ((1 : Int32) = -1) ∧ Fz v v_7) ∧ (((0 ≤ x0.toInt ∧ x0.toInt < (v 13 2).toInt) ∧ 0 ≤ x1.toInt ∧ x1.toInt ≤ 1) ∧ TB (fun t k => (v (39 + 15 * x0.toNatClampNeg + t) k).toInt) x1.toInt (v (29 + 15 * x0.toNatClampNeg) 5).toNatClampNeg → ((1 : Int32) = 1) ∧ Fz v v_7) ∧ (((0 ≤ x0.toInt ∧ x0.toInt < (v 13 2).toInt) ∧ 0 ≤ x1.toInt ∧ x1.toInt ≤ 1) ∧ ¬ TB (fun t k => (v (39 + 15 * x0.toNatClampNeg + t) k).toInt) x1.toInt (v (29 + 15 * x0.toNatClampNeg) 5).toNatClampNeg → ((1 : Int32) = 0) ∧ Fz v v_7) := by
          refine ⟨fun hq => ?_, fun hq => ?_, fun hq => ?_⟩
          · exfalso; omega
          · exact ⟨rfl, fz_of hg_8⟩
          · exact absurd htb hq.2
        exact W.iret (v := 1) hx hb hr (fun t ht hW => ⟨⟨1, v_7, rfl, ⟨hv, hpost⟩, by rw [ht]; exact hP, hD⟩, hS.F ht⟩) hS.2.2 dX7_canHold_61
      · have hq_10 : HL (v_7 10 0) (v_7 12) ↔ TB (fun t k => (v (39 + 15 * x0.toNatClampNeg + t) k).toInt) x1.toInt x_6.toNatClampNeg := RD_HL (by rw [show ((x_6.toNatClampNeg : Nat) : Int) = x_6.toInt from t_nn (by omega)]; exact hd_8) (by omega) (by omega)
        have ht_10 : ¬ TB (fun t k => (v (39 + 15 * x0.toNatClampNeg + t) k).toInt) x1.toInt x_6.toNatClampNeg := fun q => hz_10 (hq_10.mpr q)
        refine lv_if_eq (tgt := 60) hx hb dX7_canHold_53 (by decide) (fun _ => ?_) (fun c9 => absurd c9 (by decide))
        refine lv_iconst (v := 0) hx hb dX7_canHold_60 (by decide) ?_
        have htb : ¬ TB (fun t k => (v (39 + 15 * x0.toNatClampNeg + t) k).toInt) x1.toInt (v (29 + 15 * x0.toNatClampNeg) 5).toNatClampNeg := by rw [← ex_6]; exact ht_10
        have hpost : (¬ ((0 ≤ x0.toInt ∧ x0.toInt < (v 13 2).toInt) ∧ 0 ≤ x1.toInt ∧ x1.toInt ≤ 1) → ((0 : Int32) = -1) ∧ Fz v v_7) ∧ (((0 ≤ x0.toInt ∧ x0.toInt < (v 13 2).toInt) ∧ 0 ≤ x1.toInt ∧ x1.toInt ≤ 1) ∧ TB (fun t k => (v (39 + 15 * x0.toNatClampNeg + t) k).toInt) x1.toInt (v (29 + 15 * x0.toNatClampNeg) 5).toNatClampNeg → ((0 : Int32) = 1) ∧ Fz v v_7) ∧ (((0 ≤ x0.toInt ∧ x0.toInt < (v 13 2).toInt) ∧ 0 ≤ x1.toInt ∧ x1.toInt ≤ 1) ∧ ¬ TB (fun t k => (v (39 + 15 * x0.toNatClampNeg + t) k).toInt) x1.toInt (v (29 + 15 * x0.toNatClampNeg) 5).toNatClampNeg → ((0 : Int32) = 0) ∧ Fz v v_7) := by
          refine ⟨fun hq => ?_, fun hq => ?_, fun hq => ?_⟩
          · exfalso; omega
          · exact absurd hq.2 htb
          · exact ⟨rfl, fz_of hg_8⟩
        exact W.iret (v := 0) hx hb hr (fun t ht hW => ⟨⟨0, v_7, rfl, ⟨hv, hpost⟩, by rw [ht]; exact hP, hD⟩, hS.F ht⟩) hS.2.2 dX7_canHold_61
    · have k_0 : (0 : Int32).toInt = 0 := by decide
      have k_1 : (1 : Int32).toInt = 1 := by decide
      have tc_4 : ¬ ((0 : Int32).toInt ≤ x1.toInt ∧ x1.toInt ≤ (1 : Int32).toInt) := fun q => hc_4 ⟨Int32.le_iff_toInt_le.mpr q.1, Int32.le_iff_toInt_le.mpr q.2⟩
      refine lv_if_ne (tgt := 17) hx hb dX7_canHold_12 (by decide) (fun c9 => absurd c9 (by decide)) (fun _ => ?_)
      refine lv_iconst (v := (-1)) hx hb dX7_canHold_15 (by decide) ?_
      have hpost : (¬ ((0 ≤ x0.toInt ∧ x0.toInt < (v 13 2).toInt) ∧ 0 ≤ x1.toInt ∧ x1.toInt ≤ 1) → (((-1) : Int32) = -1) ∧ Fz v v) ∧ (((0 ≤ x0.toInt ∧ x0.toInt < (v 13 2).toInt) ∧ 0 ≤ x1.toInt ∧ x1.toInt ≤ 1) ∧ TB (fun t k => (v (39 + 15 * x0.toNatClampNeg + t) k).toInt) x1.toInt (v (29 + 15 * x0.toNatClampNeg) 5).toNatClampNeg → (((-1) : Int32) = 1) ∧ Fz v v) ∧ (((0 ≤ x0.toInt ∧ x0.toInt < (v 13 2).toInt) ∧ 0 ≤ x1.toInt ∧ x1.toInt ≤ 1) ∧ ¬ TB (fun t k => (v (39 + 15 * x0.toNatClampNeg + t) k).toInt) x1.toInt (v (29 + 15 * x0.toNatClampNeg) 5).toNatClampNeg → (((-1) : Int32) = 0) ∧ Fz v v) := by
        refine ⟨fun hq => ?_, fun hq => ?_, fun hq => ?_⟩
        · exact ⟨rfl, Fz.rf⟩
        · exact absurd hq.1 (by omega)
        · exact absurd hq.1 (by omega)
      exact W.iret (v := (-1)) hx hb hr (fun t ht hW => ⟨⟨(-1), v, rfl, ⟨hv, hpost⟩, by rw [ht]; exact hP, hD⟩, hS.F ht⟩) hS.2.2 dX7_canHold_16
  · refine lv_if_eq (tgt := 15) hx hb dX7_canHold_5 (by decide) (fun _ => ?_) (fun c9 => absurd c9 (by decide))
    refine lv_iconst (v := (-1)) hx hb dX7_canHold_15 (by decide) ?_
    have hpost : (¬ ((0 ≤ x0.toInt ∧ x0.toInt < (v 13 2).toInt) ∧ 0 ≤ x1.toInt ∧ x1.toInt ≤ 1) → (((-1) : Int32) = -1) ∧ Fz v v) ∧ (((0 ≤ x0.toInt ∧ x0.toInt < (v 13 2).toInt) ∧ 0 ≤ x1.toInt ∧ x1.toInt ≤ 1) ∧ TB (fun t k => (v (39 + 15 * x0.toNatClampNeg + t) k).toInt) x1.toInt (v (29 + 15 * x0.toNatClampNeg) 5).toNatClampNeg → (((-1) : Int32) = 1) ∧ Fz v v) ∧ (((0 ≤ x0.toInt ∧ x0.toInt < (v 13 2).toInt) ∧ 0 ≤ x1.toInt ∧ x1.toInt ≤ 1) ∧ ¬ TB (fun t k => (v (39 + 15 * x0.toNatClampNeg + t) k).toInt) x1.toInt (v (29 + 15 * x0.toNatClampNeg) 5).toNatClampNeg → (((-1) : Int32) = 0) ∧ Fz v v) := by
      refine ⟨fun hq => ?_, fun hq => ?_, fun hq => ?_⟩
      · exact ⟨rfl, Fz.rf⟩
      · exact absurd hq.1 (by omega)
      · exact absurd hq.1 (by omega)
    exact W.iret (v := (-1)) hx hb hr (fun t ht hW => ⟨⟨(-1), v, rfl, ⟨hv, hpost⟩, by rw [ht]; exact hP, hD⟩, hS.F ht⟩) hS.2.2 dX7_canHold_16

set_option maxHeartbeats 4000000 in
set_option maxRecDepth 100000 in
theorem e_X7_breaks (l : Launch) (dC : Nat → ClassId) (dI : Nat → Nat → Nat) (cy : Nat → ClassId) (sz : Nat) (ad : Nat → Nat) (kv : Value) (N : Nat) (hN : 119 ≤ N) (v : Nat → Nat → Int32) (hv : Iv v) (x0 x1 : Int32) (hT : ∀ c t : Nat, c < 6 → (c : Int) < (v 13 2).toInt → t < 5 → (t : Int) < (v (29 + 15 * c) 5).toInt → (v (39 + 15 * c + t) 3).toInt ≤ (v (39 + 15 * c + t) 4).toInt) : Met l yX7_breaks wsX7_breaks ({ frames := 3, cells := 0, slots := 0, locals := 192 }) (va_Pc [.ref (ad 0), .int x0, .int x1] (ex_Pre dC dI cy sz (wl ad kv cy N v))) (va_Qi (fun (r : Int32) (u : Nat → Nat → Int32) => Iv u ∧ (¬ ((0 ≤ x0.toInt ∧ x0.toInt < (v 13 2).toInt) ∧ 0 ≤ x1.toInt ∧ x1.toInt ≤ 1) → (r = -1) ∧ Fz v u) ∧ ((0 ≤ x0.toInt ∧ x0.toInt < (v 13 2).toInt) ∧ 0 ≤ x1.toInt ∧ x1.toInt ≤ 1 → (((r.toInt = -5 ∧ ∀ t : Nat, t < (v (29 + 15 * x0.toNatClampNeg) 5).toNatClampNeg → (fun t k => (v (39 + 15 * x0.toNatClampNeg + t) k).toInt) t 0 = x1.toInt → TB (fun t k => (v (39 + 15 * x0.toNatClampNeg + t) k).toInt) x1.toInt (t + 1)) ∨ ((0 ≤ r.toInt ∧ r.toNatClampNeg < (v (29 + 15 * x0.toNatClampNeg) 5).toNatClampNeg) ∧ ((fun t k => (v (39 + 15 * x0.toNatClampNeg + t) k).toInt) r.toNatClampNeg 0 = x1.toInt ∧ ¬ TB (fun t k => (v (39 + 15 * x0.toNatClampNeg + t) k).toInt) x1.toInt (r.toNatClampNeg + 1)) ∧ ∀ t : Nat, t < r.toNatClampNeg → (fun t k => (v (39 + 15 * x0.toNatClampNeg + t) k).toInt) t 0 = x1.toInt → TB (fun t k => (v (39 + 15 * x0.toNatClampNeg + t) k).toInt) x1.toInt (t + 1)))) ∧ Fz v u)) (fun u t => ex_Pst dC dI (va_A (wl ad kv cy N v) sz) (wl ad kv cy N u) t) (va_A (wl ad kv cy N v) sz)) 0 0 (va_A (wl ad kv cy N v) sz) := by
  refine Met.ofW (cc := cX7_breaks) (maxL := 5) (ret := (some .int)) (by decide) rfl ?_
  intro p e s m args below meth c s₁ B hml hv
  obtain ⟨rfl, hsz, hE, hP, hK, hD0⟩ := hv
  have hx := B.exec
  have hb := B.bytes
  have hr := B.returns
  have hts := atoms_spec (ws := wsX7_breaks) B.pre
  have hown : s.vm.findClass RX7 = some m.cls := findClass_of_methodNamed B.named
  have hlocks := B.notSynchronized
  subst hsz
  have hD := hD0.self (sz := s.heap.size)
  generalize hAe : va_A (wl ad kv cy N v) s.heap.size = A at hD ⊢
  have hA : ∀ q : Nat, s.heap.size ≤ q → A q := fun q h => by rw [← hAe]; exact Or.inr h
  have hS : va_S A s.heap s.heap [] := va_S.rf
  have hP : va_P (dC, dI) vwCl (wl ad kv cy N v) s.heap := hP
  have hl := lv_entry ([.ref (ad 0), .int x0, .int x1]) (n := 5) (Nat.le_of_ble_eq_true rfl)
  rw [lg_entry_eq]
  generalize (lg_sl ([.ref (ad 0), .int x0, .int x1]) ++ List.replicate (5 - (lg_sl ([.ref (ad 0), .int x0, .int x1])).length) Slot.unset).toArray = ls at hl ⊢
  have hl : lv_has ls 5 [(0, .ref (ad 0)), (1, .int x0), (2, .int x1)] := hl
  obtain ⟨DD, eDD⟩ : ∃ f : Nat → Nat → Int, f = fun t k => (v (39 + 15 * x0.toNatClampNeg + t) k).toInt := ⟨_, rfl⟩
  refine lv_aload_n hx hb dX7_breaks_0 rfl (lv_at hl 0 rfl) ?_
  refine lv_iload_n hx hb dX7_breaks_1 rfl (lv_at hl 1 rfl) ?_
  refine yw_i (w1 := fun (u : Nat → Nat → Int32) => wl ad kv cy N u) hD hS hA (va_runV (As := [.int x0]) (rest := []) ⟨hx, hb, hml, hown, hts⟩ (g_X7_isCase l dC dI cy _ ad kv N hN v hv x0) (cwV 1 hts gX7_breaks_X7_isCase rfl rfl rfl (by decide +kernel) ⟨Nat.le_of_ble_eq_true rfl, Nat.le_of_ble_eq_true rfl⟩) (yw_preV hE hK hP hD (ci := 7) (q0 := 0) rfl (wl_at (by omega) (ce_0 (by decide)))) rfl rfl hl.1 rfl (lv_room (Nat.le_of_ble_eq_true rfl)) dX7_breaks_2 ⟨Nat.le_of_ble_eq_true rfl, Nat.le_of_ble_eq_true rfl⟩) (fun r_1 v_1 H locs hw_1 hP hD hS => ?_)
  obtain ⟨-, hu_1, hw_1⟩ := hw_1
  replace hu_1 := hu_1.symm
  subst hu_1
  rcases hw_1 with ⟨rfl, ha_2⟩ | ⟨rfl, ha_2⟩
  · have hb_2 := hv.at (k := 13) (j := 2) (K := 3) (by decide) rfl
    have hj_2 : 0 ≤ x0.toInt ∧ x0.toInt ≤ 5 := ⟨by omega, by omega⟩
    refine lv_if_eq (tgt := 15) hx hb dX7_breaks_5 (by decide) (fun c9 => absurd c9 (by decide)) (fun _ => ?_)
    refine lv_iload_n hx hb dX7_breaks_8 rfl (lv_at hl 2 rfl) ?_
    refine yc_p hP hS (va_runS (As := [.int x1]) (rest := []) ⟨hx, hb, hml, hown, hts⟩ (c_X7_isSide l x1) (cwS 1 hts gX7_breaks_X7_isSide rfl rfl rfl (by decide +kernel) ⟨Nat.le_of_ble_eq_true rfl, Nat.le_of_ble_eq_true rfl⟩) ex_preP rfl rfl hl.1 rfl (lv_room (Nat.le_of_ble_eq_true rfl)) dX7_breaks_9 ⟨Nat.le_of_ble_eq_true rfl, Nat.le_of_ble_eq_true rfl⟩) (fun r_3 H locs hw_3 hP hS => ?_)
    rcases wi_ca hw_3 with ⟨rfl, hc_4⟩ | ⟨rfl, hc_4⟩
    · have k_0 : (0 : Int32).toInt = 0 := by decide
      have k_1 : (1 : Int32).toInt = 1 := by decide
      have tc_4 := wi_tl hc_4
      refine lv_if_ne (tgt := 17) hx hb dX7_breaks_12 (by decide) (fun _ => ?_) (fun c9 => absurd c9 (by decide))
      refine lv_aload_n hx hb dX7_breaks_17 rfl (lv_at hl 0 rfl) ?_
      refine va_get (D := (dC, dI)) (ci := 7) (v := .ref (ad 13)) (C := RX7) (T := TX7) (N := 5) hx hb hts (by decide +kernel) hown hK hP (0) (wl_at (by omega) (ce_0 (by decide))) rfl 0 (by decide) (hts (.fieldLink RX7 12 "QuietStairs" "now" "LQuietStairs$House;") (by decide +kernel)) (fun _ h9 => h9) rfl dX7_breaks_18 ?_
      refine va_get (D := (dC, dI)) (ci := 1) (v := .ref (ad 16)) (C := RX1) (T := TX1) (N := 7) hx hb hts (by decide +kernel) hown hK hP (13) (wl_at (by omega) (ce_3 (by decide))) rfl 6 (by decide) (hts (.fieldLink RX7 86 "QuietStairs$House" "cases" "[LQuietStairs$Case;") (by decide +kernel)) (fun _ h9 => h9) rfl dX7_breaks_21 ?_
      refine lv_iload_n hx hb dX7_breaks_24 rfl (lv_at hl 1 rfl) ?_
      have zn_x0 : (x0.toNatClampNeg : Int) = x0.toInt := t_nn (by omega)
      have hx_5 : x0.toNatClampNeg < 6 := by omega
      refine va_aldq hx hb hK hP (16) 3 (wl_at (by omega) (ce_6 (by decide))) rfl (vp_in_iff.mpr ⟨by omega, by omega⟩) dX7_breaks_25 ?_
      refine W.eq (g2 := F0 m 26 ls [.ref (ad (29 + 15 * x0.toNatClampNeg))]) (by rw [if_pos hx_5, show 16 + 13 + 15 * x0.toNatClampNeg = 29 + 15 * x0.toNatClampNeg from by omega]; rfl) ?_
      refine lv_astore_n (lv' := [(3, .ref (ad (29 + 15 * x0.toNatClampNeg))), (0, .ref (ad 0)), (1, .int x0), (2, .int x1)]) hx hb dX7_breaks_26 rfl hl (by decide) rfl (fun ls hl => ?_)
      refine lv_iconst (v := 0) hx hb dX7_breaks_27 (by decide) ?_
      refine lv_istore (lv' := [(4, .int 0), (3, .ref (ad (29 + 15 * x0.toNatClampNeg))), (0, .ref (ad 0)), (1, .int x0), (2, .int x1)]) hx hb dX7_breaks_28 hl (by decide) rfl (fun ls hl => ?_)
      have hc_6 : ∀ (n : Nat) (y6_4 : Int32) (u6 : Nat → Nat → Int32) (H : Heap) (locs : List Loc), 0 ≤ y6_4.toInt → y6_4.toInt ≤ 5 → (∀ k : Nat, k ≠ 10 → k ≠ 11 → k ≠ 12 → u6 k = v k) → (∀ t : Nat, (t : Int) < y6_4.toInt → DD t 0 = x1.toInt → TB DD x1.toInt (t + 1)) → (5 - y6_4.toInt).toNat < n → Iv u6 → va_P (dC, dI) vwCl (wl ad kv cy N u6) H → va_D A (wl ad kv cy N u6) → va_S A s.heap H locs → ∀ ls : Array Slot, lv_has ls 5 [(4, .int y6_4), (3, .ref (ad (29 + 15 * x0.toNatClampNeg))), (0, .ref (ad 0)), (1, .int x0), (2, .int x1)] → W p l e (headSpec wsX7_breaks ({ frames := 3, cells := 0, slots := 0, locals := 192 })).room s m [Value.ref (ad 0), Value.int x0, Value.int x1].toArray below meth c H locs 0 0 (MQ below (va_Qi (fun (r : Int32) (u : Nat → Nat → Int32) => Iv u ∧ (¬ ((0 ≤ x0.toInt ∧ x0.toInt < (v 13 2).toInt) ∧ 0 ≤ x1.toInt ∧ x1.toInt ≤ 1) → (r = -1) ∧ Fz v u) ∧ ((0 ≤ x0.toInt ∧ x0.toInt < (v 13 2).toInt) ∧ 0 ≤ x1.toInt ∧ x1.toInt ≤ 1 → (((r.toInt = -5 ∧ ∀ t : Nat, t < (v (29 + 15 * x0.toNatClampNeg) 5).toNatClampNeg → (fun t k => (v (39 + 15 * x0.toNatClampNeg + t) k).toInt) t 0 = x1.toInt → TB (fun t k => (v (39 + 15 * x0.toNatClampNeg + t) k).toInt) x1.toInt (t + 1)) ∨ ((0 ≤ r.toInt ∧ r.toNatClampNeg < (v (29 + 15 * x0.toNatClampNeg) 5).toNatClampNeg) ∧ ((fun t k => (v (39 + 15 * x0.toNatClampNeg + t) k).toInt) r.toNatClampNeg 0 = x1.toInt ∧ ¬ TB (fun t k => (v (39 + 15 * x0.toNatClampNeg + t) k).toInt) x1.toInt (r.toNatClampNeg + 1)) ∧ ∀ t : Nat, t < r.toNatClampNeg → (fun t k => (v (39 + 15 * x0.toNatClampNeg + t) k).toInt) t 0 = x1.toInt → TB (fun t k => (v (39 + 15 * x0.toNatClampNeg + t) k).toInt) x1.toInt (t + 1)))) ∧ Fz v u)) (fun u t => ex_Pst dC dI A (wl ad kv cy N u) t) A) [Value.ref (ad 0), Value.int x0, Value.int x1].toArray s 0 0 A) (F0 m 30 ls []) := by
        intro n
        induction n with
        | zero =>
          intro y6_4 u6 H locs ay6_4 by6_4 hi6_0 hi6_1 hm_6 hv hP hD hS ls hl
          exact absurd hm_6 (by omega)
        | succ n ih_6 =>
          intro y6_4 u6 H locs ay6_4 by6_4 hi6_0 hi6_1 hm_6 hv hP hD hS ls hl
          refine lv_iload hx hb dX7_breaks_30 (lv_at hl 0 rfl) ?_
          refine lv_aload_n hx hb dX7_breaks_32 rfl (lv_at hl 1 rfl) ?_
          refine va_get (D := (dC, dI)) (ci := 0) (v := .int (u6 (29 + 15 * x0.toNatClampNeg) 5)) (C := RX0) (T := TX0) (N := 11) hx hb hts (by decide +kernel) hown hK hP (29 + 15 * x0.toNatClampNeg) (wl_at (by omega) (ce_9 (kd_c _ hx_5).1.1)) rfl 5 (by decide) (hts (.fieldLink RX7 169 "QuietStairs$Case" "termCount" "I") (by decide +kernel)) (fun _ h9 => h9) rfl dX7_breaks_33 ?_
          refine lv_topi (fun x_7 ex_7 => ?_)
          have bzx_7 : 0 ≤ x_7.toInt ∧ x_7.toInt ≤ 5 := by rw [ex_7]; exact hv.at (K := 9) (kd_c _ hx_5).1.1 rfl
          have qx_7 : x_7.toInt = (u6 (29 + 15 * x0.toNatClampNeg) (5)).toInt := congrArg Int32.toInt ex_7
          have hn9 : x_7 = v (29 + 15 * x0.toNatClampNeg) 5 := by rw [ex_7, hi6_0 _ (by omega) (by omega) (by omega)]
          have hn8 : x_7.toInt = (v (29 + 15 * x0.toNatClampNeg) 5).toInt := by rw [hn9]
          refine lv_icmp_ge (tgt := 85) hx hb dX7_breaks_36 (by decide) (fun c_8 => ?_) (fun c_8 => ?_)
          · have tc_8 : y6_4.toInt ≥ x_7.toInt := Int32.le_iff_toInt_le.mp c_8
            refine lv_bipush (v := (-5)) hx hb dX7_breaks_85 (by decide) ?_
            have zn_y6_4 : (y6_4.toNatClampNeg : Int) = y6_4.toInt := t_nn (by omega)
            have zN9 := t_nn (x := v (29 + 15 * x0.toNatClampNeg) 5) (by omega)
            have hpost : (¬ ((0 ≤ x0.toInt ∧ x0.toInt < (v 13 2).toInt) ∧ 0 ≤ x1.toInt ∧ x1.toInt ≤ 1) → (((-5) : Int32) = -1) ∧ Fz v u6) ∧ ((0 ≤ x0.toInt ∧ x0.toInt < (v 13 2).toInt) ∧ 0 ≤ x1.toInt ∧ x1.toInt ≤ 1 → (((((-5) : Int32).toInt = -5 ∧ ∀ t : Nat, t < (v (29 + 15 * x0.toNatClampNeg) 5).toNatClampNeg → (fun t k => (v (39 + 15 * x0.toNatClampNeg + t) k).toInt) t 0 = x1.toInt → TB (fun t k => (v (39 + 15 * x0.toNatClampNeg + t) k).toInt) x1.toInt (t + 1)) ∨ ((0 ≤ ((-5) : Int32).toInt ∧ ((-5) : Int32).toNatClampNeg < (v (29 + 15 * x0.toNatClampNeg) 5).toNatClampNeg) ∧ ((fun t k => (v (39 + 15 * x0.toNatClampNeg + t) k).toInt) ((-5) : Int32).toNatClampNeg 0 = x1.toInt ∧ ¬ TB (fun t k => (v (39 + 15 * x0.toNatClampNeg + t) k).toInt) x1.toInt (((-5) : Int32).toNatClampNeg + 1)) ∧ ∀ t : Nat, t < ((-5) : Int32).toNatClampNeg → (fun t k => (v (39 + 15 * x0.toNatClampNeg + t) k).toInt) t 0 = x1.toInt → TB (fun t k => (v (39 + 15 * x0.toNatClampNeg + t) k).toInt) x1.toInt (t + 1)))) ∧ Fz v u6) := by
              refine ⟨fun hq => ?_, fun hq => ?_⟩
              · exfalso; omega
              · rw [← eDD]; exact ⟨Or.inl ⟨by decide, fun t ht h0 => hi6_1 t (by omega) h0⟩, fz_of hi6_0⟩
            exact W.iret (v := (-5)) hx hb hr (fun t ht hW => ⟨⟨(-5), u6, rfl, ⟨hv, hpost⟩, by rw [ht]; exact hP, hD⟩, hS.F ht⟩) hS.2.2 dX7_breaks_87
          · have tc_8 : y6_4.toInt < x_7.toInt := Int32.lt_iff_toInt_lt.mp (Int32.not_le.mp c_8)
            refine lv_aload_n hx hb dX7_breaks_39 rfl (lv_at hl 1 rfl) ?_
            refine va_get (D := (dC, dI)) (ci := 0) (v := .ref (ad (29 + 15 * x0.toNatClampNeg + 9))) (C := RX0) (T := TX0) (N := 11) hx hb hts (by decide +kernel) hown hK hP (29 + 15 * x0.toNatClampNeg) (wl_at (by omega) (ce_9 (kd_c _ hx_5).1.1)) rfl 10 (by decide) (hts (.fieldLink RX7 172 "QuietStairs$Case" "terms" "[LQuietStairs$Term;") (by decide +kernel)) (fun _ h9 => h9) rfl dX7_breaks_40 ?_
            refine W.eq (g2 := F0 m 43 ls [.ref (ad (38 + 15 * x0.toNatClampNeg))]) (by rw [show 29 + 15 * x0.toNatClampNeg + 9 = 38 + 15 * x0.toNatClampNeg from by omega]) ?_
            refine lv_iload hx hb dX7_breaks_43 (lv_at hl 0 rfl) ?_
            have zn_y6_4 : (y6_4.toNatClampNeg : Int) = y6_4.toInt := t_nn (by omega)
            have hx_9 : y6_4.toNatClampNeg < 5 := by omega
            refine va_aldq hx hb hK hP (38 + 15 * x0.toNatClampNeg) 4 (wl_at (by omega) (ce_15 (kd_c _ hx_5).1.2.2.2.2.2)) rfl (vp_in_iff.mpr ⟨by omega, by omega⟩) dX7_breaks_45 ?_
            refine W.eq (g2 := F0 m 46 ls [.ref (ad (39 + 15 * x0.toNatClampNeg + y6_4.toNatClampNeg))]) (by rw [if_pos hx_9, show 38 + 15 * x0.toNatClampNeg + 1 + y6_4.toNatClampNeg = 39 + 15 * x0.toNatClampNeg + y6_4.toNatClampNeg from by omega]; rfl) ?_
            refine va_get (D := (dC, dI)) (ci := 6) (v := .int (u6 (39 + 15 * x0.toNatClampNeg + y6_4.toNatClampNeg) 0)) (C := RX6) (T := TX6) (N := 5) hx hb hts (by decide +kernel) hown hK hP (39 + 15 * x0.toNatClampNeg + y6_4.toNatClampNeg) (wl_at (by omega) (ce_16 (kd_t _ hx_5 _ hx_9).1)) rfl 0 (by decide) (hts (.fieldLink RX7 176 "QuietStairs$Term" "side" "I") (by decide +kernel)) (fun _ h9 => h9) rfl dX7_breaks_46 ?_
            refine lv_topi (fun x_10 ex_10 => ?_)
            have bzx_10 : 0 ≤ x_10.toInt ∧ x_10.toInt ≤ 1 := by rw [ex_10]; exact hv.at (K := 16) (kd_t _ hx_5 _ hx_9).1 rfl
            have qx_10 : x_10.toInt = (u6 (39 + 15 * x0.toNatClampNeg + y6_4.toNatClampNeg) (0)).toInt := congrArg Int32.toInt ex_10
            refine lv_iload_n hx hb dX7_breaks_49 rfl (lv_at hl 4 rfl) ?_
            have hS9 : DD y6_4.toNatClampNeg 0 = x_10.toInt := by rw [eDD, ex_10, hi6_0 _ (by omega) (by omega) (by omega)]
            have hDe : (fun t k => (u6 (39 + 15 * x0.toNatClampNeg + t) k).toInt) = (fun t k => (v (39 + 15 * x0.toNatClampNeg + t) k).toInt) := by funext t k; rw [hi6_0 _ (by omega) (by omega) (by omega)]
            refine lv_icmp_ne (tgt := 79) hx hb dX7_breaks_50 (by decide) (fun c_11 => ?_) (fun c_11 => ?_)
            · have tc_11 : x_10.toInt ≠ x1.toInt := fun q => absurd (Int32.toInt_inj.mp q) c_11
              obtain ⟨x_12, ex_12⟩ : ∃ y : Int32, y = y6_4 + 1 := ⟨_, rfl⟩
              refine lv_iinc (v := x_12) (lv' := [(4, .int x_12), (3, .ref (ad (29 + 15 * x0.toNatClampNeg))), (0, .ref (ad 0)), (1, .int x0), (2, .int x1)]) hx hb dX7_breaks_79 hl (k := 0) rfl (by rw [ex_12]; rfl) (by decide) rfl (fun ls hl => ?_)
              have tx_12 : x_12.toInt = y6_4.toInt + (1 : Int32).toInt := by rw [ex_12]; exact t_add ⟨by omega, by omega⟩
              refine lv_goto (tgt := 30) hx hb dX7_breaks_82 (by decide) ?_
              exact ih_6 x_12 u6 _ _ (by omega) (by omega) (hi6_0) (fun t ht h0 => by by_cases e : (t : Int) < y6_4.toInt; exact hi6_1 t e h0; rw [show t = y6_4.toNatClampNeg from by omega, hS9] at h0; exact absurd h0 (by omega)) (by omega) hv hP hD hS ls (lv_sub hl [0, 1, 2, 3, 4] rfl)
            · have tc_11 : x_10.toInt = x1.toInt := by rw [c_11]
              refine lv_aload_n hx hb dX7_breaks_53 rfl (lv_at hl 2 rfl) ?_
              refine va_get (D := (dC, dI)) (ci := 7) (v := .ref (ad 10)) (C := RX7) (T := TX7) (N := 5) hx hb hts (by decide +kernel) hown hK hP (0) (wl_at (by omega) (ce_0 (by decide))) rfl 2 (by decide) (hts (.fieldLink RX7 26 "QuietStairs" "table" "LQuietStairs$Table;") (by decide +kernel)) (fun _ h9 => h9) rfl dX7_breaks_54 ?_
              refine lv_aload_n hx hb dX7_breaks_57 rfl (lv_at hl 1 rfl) ?_
              refine lv_iload_n hx hb dX7_breaks_58 rfl (lv_at hl 4 rfl) ?_
              refine lv_iload hx hb dX7_breaks_59 (lv_at hl 0 rfl) ?_
              refine lv_iconst (v := 1) hx hb dX7_breaks_61 (by decide) ?_
              refine lv_iadd hx hb dX7_breaks_62 ?_
              refine lv_topi (fun x_12 ex_12 => ?_)
              have tx_12 : x_12.toInt = y6_4.toInt + (1 : Int32).toInt := by rw [ex_12]; exact t_add ⟨by omega, by omega⟩
              have zn_x_12 : (x_12.toNatClampNeg : Int) = x_12.toInt := t_nn (by omega)
              refine yw_v (w1 := fun (u : Nat → Nat → Int32) => wl ad kv cy N u) hD hS hA (va_runV (As := [.ref (ad (29 + 15 * x0.toNatClampNeg)), .int x1, .int x_12]) (rest := []) ⟨hx, hb, hml, hown, hts⟩ (e_X5_read l dC dI cy _ ad kv N hN u6 hv x0.toNatClampNeg hx_5 x1 x_12 ⟨by omega, by omega⟩ (fun t ht h1 => by rw [hi6_0 _ (by omega) (by omega) (by omega)]; exact hT _ t hx_5 (by omega) ht (by omega))) (cwV 3 hts gX7_breaks_X5_read rfl rfl rfl (by decide +kernel) ⟨Nat.le_of_ble_eq_true rfl, Nat.le_of_ble_eq_true rfl⟩) (yw_preV hE hK hP hD (ci := 5) (q0 := 10) rfl (wl_at (by omega) (ce_2 (by decide)))) rfl rfl hl.1 rfl (lv_room (Nat.le_of_ble_eq_true rfl)) dX7_breaks_63 ⟨Nat.le_of_ble_eq_true rfl, Nat.le_of_ble_eq_true rfl⟩) (fun v_13 H locs hw_13 hP hD hS => ?_)
              obtain ⟨hv, hw_13⟩ := hw_13
              obtain ⟨hg_14, hd_14, hn_14⟩ := hw_13
              have hk_14 := hv.at (k := 10) (j := 0) (K := 2) (by decide) rfl
              have hz_14 := t_nn hk_14.1
              refine lv_aload_n hx hb dX7_breaks_66 rfl (lv_at hl 2 rfl) ?_
              refine va_get (D := (dC, dI)) (ci := 7) (v := .ref (ad 10)) (C := RX7) (T := TX7) (N := 5) hx hb hts (by decide +kernel) hown hK hP (0) (wl_at (by omega) (ce_0 (by decide))) rfl 2 (by decide) (hts (.fieldLink RX7 26 "QuietStairs" "table" "LQuietStairs$Table;") (by decide +kernel)) (fun _ h9 => h9) rfl dX7_breaks_67 ?_
              refine yw_i (w1 := fun (u : Nat → Nat → Int32) => wl ad kv cy N u) hD hS hA (va_runV (As := []) (rest := []) ⟨hx, hb, hml, hown, hts⟩ (e_X5_stands l dC dI cy _ ad kv N hN v_13 hv ) (cwV 0 hts gX7_breaks_X5_stands rfl rfl rfl (by decide +kernel) ⟨Nat.le_of_ble_eq_true rfl, Nat.le_of_ble_eq_true rfl⟩) (yw_preV hE hK hP hD (ci := 5) (q0 := 10) rfl (wl_at (by omega) (ce_2 (by decide)))) rfl rfl hl.1 rfl (lv_room (Nat.le_of_ble_eq_true rfl)) dX7_breaks_70 ⟨Nat.le_of_ble_eq_true rfl, Nat.le_of_ble_eq_true rfl⟩) (fun r_15 v_15 H locs hw_15 hP hD hS => ?_)
              obtain ⟨-, hu_15, hw_15⟩ := hw_15
              replace hu_15 := hu_15.symm
              subst hu_15
              rcases hw_15 with ⟨rfl, hz_16⟩ | ⟨rfl, hz_16⟩
              · have hq_16 : HL (v_13 10 0) (v_13 12) ↔ TB (fun t k => (u6 (39 + 15 * x0.toNatClampNeg + t) k).toInt) x1.toInt x_12.toNatClampNeg := RD_HL (by rw [show ((x_12.toNatClampNeg : Nat) : Int) = x_12.toInt from t_nn (by omega)]; exact hd_14) (by omega) (by omega)
                rw [hDe] at hq_16
                have ht_16 : TB (fun t k => (v (39 + 15 * x0.toNatClampNeg + t) k).toInt) x1.toInt x_12.toNatClampNeg := hq_16.mp hz_16
                refine lv_if_ne (tgt := 79) hx hb dX7_breaks_73 (by decide) (fun _ => ?_) (fun c9 => absurd c9 (by decide))
                obtain ⟨x_17, ex_17⟩ : ∃ y : Int32, y = y6_4 + 1 := ⟨_, rfl⟩
                refine lv_iinc (v := x_17) (lv' := [(4, .int x_17), (3, .ref (ad (29 + 15 * x0.toNatClampNeg))), (0, .ref (ad 0)), (1, .int x0), (2, .int x1)]) hx hb dX7_breaks_79 hl (k := 0) rfl (by rw [ex_17]; rfl) (by decide) rfl (fun ls hl => ?_)
                have tx_17 : x_17.toInt = y6_4.toInt + (1 : Int32).toInt := by rw [ex_17]; exact t_add ⟨by omega, by omega⟩
                refine lv_goto (tgt := 30) hx hb dX7_breaks_82 (by decide) ?_
                exact ih_6 x_17 v_13 _ _ (by omega) (by omega) (fun k h1 h2 h3 => (hg_14 k h1 h2 h3).trans (hi6_0 k h1 h2 h3)) (fun t ht h0 => by by_cases e : (t : Int) < y6_4.toInt; exact hi6_1 t e h0; rw [show t + 1 = x_12.toNatClampNeg from by omega, eDD]; exact ht_16) (by omega) hv hP hD hS ls (lv_sub hl [0, 1, 2, 3, 4] rfl)
              · have hq_16 : HL (v_13 10 0) (v_13 12) ↔ TB (fun t k => (u6 (39 + 15 * x0.toNatClampNeg + t) k).toInt) x1.toInt x_12.toNatClampNeg := RD_HL (by rw [show ((x_12.toNatClampNeg : Nat) : Int) = x_12.toInt from t_nn (by omega)]; exact hd_14) (by omega) (by omega)
                rw [hDe] at hq_16
                have ht_16 : ¬ TB (fun t k => (v (39 + 15 * x0.toNatClampNeg + t) k).toInt) x1.toInt x_12.toNatClampNeg := fun q => hz_16 (hq_16.mpr q)
                refine lv_if_ne (tgt := 79) hx hb dX7_breaks_73 (by decide) (fun c9 => absurd c9 (by decide)) (fun _ => ?_)
                refine lv_iload hx hb dX7_breaks_76 (lv_at hl 0 rfl) ?_
                have zN9 := t_nn (x := v (29 + 15 * x0.toNatClampNeg) 5) (by omega)
                have hpost : (¬ ((0 ≤ x0.toInt ∧ x0.toInt < (v 13 2).toInt) ∧ 0 ≤ x1.toInt ∧ x1.toInt ≤ 1) → (y6_4 = -1) ∧ Fz v v_13) ∧ ((0 ≤ x0.toInt ∧ x0.toInt < (v 13 2).toInt) ∧ 0 ≤ x1.toInt ∧ x1.toInt ≤ 1 → (((y6_4.toInt = -5 ∧ ∀ t : Nat, t < (v (29 + 15 * x0.toNatClampNeg) 5).toNatClampNeg → (fun t k => (v (39 + 15 * x0.toNatClampNeg + t) k).toInt) t 0 = x1.toInt → TB (fun t k => (v (39 + 15 * x0.toNatClampNeg + t) k).toInt) x1.toInt (t + 1)) ∨ ((0 ≤ y6_4.toInt ∧ y6_4.toNatClampNeg < (v (29 + 15 * x0.toNatClampNeg) 5).toNatClampNeg) ∧ ((fun t k => (v (39 + 15 * x0.toNatClampNeg + t) k).toInt) y6_4.toNatClampNeg 0 = x1.toInt ∧ ¬ TB (fun t k => (v (39 + 15 * x0.toNatClampNeg + t) k).toInt) x1.toInt (y6_4.toNatClampNeg + 1)) ∧ ∀ t : Nat, t < y6_4.toNatClampNeg → (fun t k => (v (39 + 15 * x0.toNatClampNeg + t) k).toInt) t 0 = x1.toInt → TB (fun t k => (v (39 + 15 * x0.toNatClampNeg + t) k).toInt) x1.toInt (t + 1)))) ∧ Fz v v_13) := by
                  refine ⟨fun hq => ?_, fun hq => ?_⟩
                  · exfalso; omega
                  · refine ⟨Or.inr ⟨⟨by omega, by omega⟩, ⟨?_, ?_⟩, fun t ht h0 => ?_⟩, fz_of (fun k h1 h2 h3 => (hg_14 k h1 h2 h3).trans (hi6_0 k h1 h2 h3))⟩
                    · rw [← eDD, hS9]; omega
                    · rw [show y6_4.toNatClampNeg + 1 = x_12.toNatClampNeg from by omega]; exact ht_16
                    · rw [← eDD] at h0 ⊢; exact hi6_1 t (by omega) h0
                exact W.iret (v := y6_4) hx hb hr (fun t ht hW => ⟨⟨y6_4, v_13, rfl, ⟨hv, hpost⟩, by rw [ht]; exact hP, hD⟩, hS.F ht⟩) hS.2.2 dX7_breaks_78
      exact hc_6 ((5 - (0 : Int32).toInt).toNat + 1) 0 v _ _ (by omega) (by omega) (fun _ _ _ _ => rfl) (fun t ht => absurd ht (by omega)) (by omega) hv hP hD hS ls (lv_sub hl [0, 1, 2, 3, 4] rfl)
    · have k_0 : (0 : Int32).toInt = 0 := by decide
      have k_1 : (1 : Int32).toInt = 1 := by decide
      have tc_4 : ¬ ((0 : Int32).toInt ≤ x1.toInt ∧ x1.toInt ≤ (1 : Int32).toInt) := fun q => hc_4 ⟨Int32.le_iff_toInt_le.mpr q.1, Int32.le_iff_toInt_le.mpr q.2⟩
      refine lv_if_ne (tgt := 17) hx hb dX7_breaks_12 (by decide) (fun c9 => absurd c9 (by decide)) (fun _ => ?_)
      refine lv_iconst (v := (-1)) hx hb dX7_breaks_15 (by decide) ?_
      have hpost : (¬ ((0 ≤ x0.toInt ∧ x0.toInt < (v 13 2).toInt) ∧ 0 ≤ x1.toInt ∧ x1.toInt ≤ 1) → (((-1) : Int32) = -1) ∧ Fz v v) ∧ ((0 ≤ x0.toInt ∧ x0.toInt < (v 13 2).toInt) ∧ 0 ≤ x1.toInt ∧ x1.toInt ≤ 1 → (((((-1) : Int32).toInt = -5 ∧ ∀ t : Nat, t < (v (29 + 15 * x0.toNatClampNeg) 5).toNatClampNeg → (fun t k => (v (39 + 15 * x0.toNatClampNeg + t) k).toInt) t 0 = x1.toInt → TB (fun t k => (v (39 + 15 * x0.toNatClampNeg + t) k).toInt) x1.toInt (t + 1)) ∨ ((0 ≤ ((-1) : Int32).toInt ∧ ((-1) : Int32).toNatClampNeg < (v (29 + 15 * x0.toNatClampNeg) 5).toNatClampNeg) ∧ ((fun t k => (v (39 + 15 * x0.toNatClampNeg + t) k).toInt) ((-1) : Int32).toNatClampNeg 0 = x1.toInt ∧ ¬ TB (fun t k => (v (39 + 15 * x0.toNatClampNeg + t) k).toInt) x1.toInt (((-1) : Int32).toNatClampNeg + 1)) ∧ ∀ t : Nat, t < ((-1) : Int32).toNatClampNeg → (fun t k => (v (39 + 15 * x0.toNatClampNeg + t) k).toInt) t 0 = x1.toInt → TB (fun t k => (v (39 + 15 * x0.toNatClampNeg + t) k).toInt) x1.toInt (t + 1)))) ∧ Fz v v) := by
        refine ⟨fun hq => ⟨rfl, Fz.rf⟩, fun hq => ?_⟩
        exfalso; omega
      exact W.iret (v := (-1)) hx hb hr (fun t ht hW => ⟨⟨(-1), v, rfl, ⟨hv, hpost⟩, by rw [ht]; exact hP, hD⟩, hS.F ht⟩) hS.2.2 dX7_breaks_16
  · refine lv_if_eq (tgt := 15) hx hb dX7_breaks_5 (by decide) (fun _ => ?_) (fun c9 => absurd c9 (by decide))
    refine lv_iconst (v := (-1)) hx hb dX7_breaks_15 (by decide) ?_
    have hpost : (¬ ((0 ≤ x0.toInt ∧ x0.toInt < (v 13 2).toInt) ∧ 0 ≤ x1.toInt ∧ x1.toInt ≤ 1) → (((-1) : Int32) = -1) ∧ Fz v v) ∧ ((0 ≤ x0.toInt ∧ x0.toInt < (v 13 2).toInt) ∧ 0 ≤ x1.toInt ∧ x1.toInt ≤ 1 → (((((-1) : Int32).toInt = -5 ∧ ∀ t : Nat, t < (v (29 + 15 * x0.toNatClampNeg) 5).toNatClampNeg → (fun t k => (v (39 + 15 * x0.toNatClampNeg + t) k).toInt) t 0 = x1.toInt → TB (fun t k => (v (39 + 15 * x0.toNatClampNeg + t) k).toInt) x1.toInt (t + 1)) ∨ ((0 ≤ ((-1) : Int32).toInt ∧ ((-1) : Int32).toNatClampNeg < (v (29 + 15 * x0.toNatClampNeg) 5).toNatClampNeg) ∧ ((fun t k => (v (39 + 15 * x0.toNatClampNeg + t) k).toInt) ((-1) : Int32).toNatClampNeg 0 = x1.toInt ∧ ¬ TB (fun t k => (v (39 + 15 * x0.toNatClampNeg + t) k).toInt) x1.toInt (((-1) : Int32).toNatClampNeg + 1)) ∧ ∀ t : Nat, t < ((-1) : Int32).toNatClampNeg → (fun t k => (v (39 + 15 * x0.toNatClampNeg + t) k).toInt) t 0 = x1.toInt → TB (fun t k => (v (39 + 15 * x0.toNatClampNeg + t) k).toInt) x1.toInt (t + 1)))) ∧ Fz v v) := by
      refine ⟨fun hq => ⟨rfl, Fz.rf⟩, fun hq => ?_⟩
      exfalso; omega
    exact W.iret (v := (-1)) hx hb hr (fun t ht hW => ⟨⟨(-1), v, rfl, ⟨hv, hpost⟩, by rw [ht]; exact hP, hD⟩, hS.F ht⟩) hS.2.2 dX7_breaks_16
