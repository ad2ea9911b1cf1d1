
theorem rem6_all : ∀ m : Fin 19, (Int32.ofNat m.val % 6).toInt = (m.val : Int) % 6 ∧ (Int32.ofNat m.val / 6).toInt = (m.val : Int) / 6 := by decide +kernel
theorem rem6 {x : Int32} (h : 0 ≤ x.toInt ∧ x.toInt ≤ 18) : (x % 6).toInt = x.toInt % 6 ∧ (x / 6).toInt = x.toInt / 6 := by
  have z := t_nn h.1
  have e := ofn h.1
  have k := rem6_all ⟨x.toNatClampNeg, by omega⟩
  have k : (Int32.ofNat x.toNatClampNeg % 6).toInt = (x.toNatClampNeg : Int) % 6 ∧ (Int32.ofNat x.toNatClampNeg / 6).toInt = (x.toNatClampNeg : Int) / 6 := k
  rw [← e, z] at k
  exact k
/-- the seats before one that are of its day: how many, and nobody sits twice -/
def FS (P : Nat → Nat) (D p i : Nat) (c : Int) : Prop := c = cN (fun i => ind (onD P D i)) i ∧ ∀ j : Nat, j < i → onD P D j → dj (P j % 6) p
section FSS
variable {P : Nat → Nat} {D p i k : Nat} {c rm : Int} {fit : Nat → Nat → Prop}
theorem FS_0 {a : Nat} {b : Int} (ha : a = 0) (hb : b = 0) : FS P D p a b := by
  rw [ha, hb]
  exact ⟨rfl, fun j hj => absurd hj (Nat.not_lt_zero _)⟩
theorem FS_no {a : Nat} (h : FS P D p i c) (ha : a = i + 1) (hn : ¬ onD P D i) : FS P D p a c := by
  rw [ha]
  refine ⟨?_, fun j hj ho => ?_⟩
  · show c = cN (fun i => ind (onD P D i)) i + ind (onD P D i)
    have h1 := h.1
    rw [ind_0 hn]
    omega
  · by_cases e : j = i
    · rw [e] at ho
      exact absurd ho hn
    · exact h.2 j (by omega) ho
theorem FS_y {a : Nat} {b : Int} (h : FS P D p i c) (ha : a = i + 1) (hb : b = c + 1) (hn : onD P D i) (hd : dj (P i % 6) p) : FS P D p a b := by
  rw [ha]
  refine ⟨?_, fun j hj ho => ?_⟩
  · show b = cN (fun i => ind (onD P D i)) i + ind (onD P D i)
    have h1 := h.1
    rw [ind_1 hn]
    omega
  · by_cases e : j = i
    · rw [e]
      exact hd
    · exact h.2 j (by omega) ho
theorem FEr_1 (h18 : P k < 18) (hf : fit k (P k % 6)) (h : FS P (P k / 6) (P k % 6) k c) (hc : c < rm) : FEr fit rm P k := Or.inr ⟨⟨h18, hf⟩, h.2, by rw [← h.1]; exact hc⟩
theorem FEr_0a (h18 : P k < 18) (hf : ¬ fit k (P k % 6)) : ¬ FEr fit rm P k := fun q => by
  rcases q with q | q
  · omega
  · exact hf q.1.2
theorem FEr_0b (h18 : P k < 18) (hi : i < k) (ho : onD P (P k / 6) i) (hd : ¬ dj (P i % 6) (P k % 6)) : ¬ FEr fit rm P k := fun q => by
  rcases q with q | q
  · omega
  · exact hd (q.2.1 i hi ho)
theorem FEr_0c (h18 : P k < 18) (h : FS P (P k / 6) (P k % 6) k c) (hc : ¬ c < rm) : ¬ FEr fit rm P k := fun q => by
  rcases q with q | q
  · omega
  · have z := q.2.2
    rw [← h.1] at z
    exact hc z
end FSS

theorem rem6r_all : ∀ m : Fin 19, (Int32.ofNat m.val - Int32.ofNat m.val / 6 * 6).toInt = (m.val : Int) % 6 := by decide +kernel
theorem rem6r {x : Int32} (h : 0 ≤ x.toInt ∧ x.toInt ≤ 18) : (x - x / 6 * 6).toInt = x.toInt % 6 := by
  have z := t_nn h.1
  have e := ofn h.1
  have k := rem6r_all ⟨x.toNatClampNeg, by omega⟩
  have k : (Int32.ofNat x.toNatClampNeg - Int32.ofNat x.toNatClampNeg / 6 * 6).toInt = (x.toNatClampNeg : Int) % 6 := k
  rw [← e, z] at k
  exact k

set_option maxHeartbeats 4000000 in
set_option maxRecDepth 100000 in
theorem e_X8_fits (l : Launch) (dC : Nat → ClassId) (dI : Nat → Nat → Nat) (cy : Nat → ClassId) (sz : Nat) (ad : Nat → Nat) (v : Nat → Nat → Int32) (hv : Ir v) (x0 : Int32) (h0 : 0 ≤ x0.toInt ∧ x0.toInt ≤ 3) (h5 : ∀ q : Nat, q ≤ x0.toNatClampNeg → 0 ≤ (v 5 q).toInt ∧ (v 5 q).toInt ≤ 18) : Met l yX8_fits wsX8_fits ({ frames := 3, cells := 0, slots := 0, locals := 192 }) (va_Pc [.ref (ad 0), .int x0] (ex_Pre dC dI cy sz (wm ad cy v))) (va_Qi (fun (r : Int32) (u : Nat → Nat → Int32) => Ir u ∧ u = v ∧ ((r = 1 ∧ FEr (fun k p => ((st_o p).toInt < (v 1 1).toInt ∧ fit (v 1 (21 + 2 * (st_l p).toNatClampNeg)) (v 1 (21 + 2 * (st_o p).toNatClampNeg)) (v 1 (28 + (st_l p).toNatClampNeg)) (v 1 (20 + 2 * (st_l p).toNatClampNeg)) (v 1 (28 + (st_o p).toNatClampNeg)) (v 1 (20 + 2 * (st_o p).toNatClampNeg)) (v 1 (32 + 7 * (v 4 k).toNatClampNeg)) (v 1 (5 + 2 * (v 1 (32 + 7 * (v 4 k).toNatClampNeg)).toNatClampNeg)) (v 1 (4 + 2 * (v 1 (32 + 7 * (v 4 k).toNatClampNeg)).toNatClampNeg)) (v 1 (33 + 7 * (v 4 k).toNatClampNeg)) (v 1 (5 + 2 * (v 1 (33 + 7 * (v 4 k).toNatClampNeg)).toNatClampNeg)) (v 1 (4 + 2 * (v 1 (33 + 7 * (v 4 k).toNatClampNeg)).toNatClampNeg)))) (v 0 3).toInt (fun q => (v 5 q).toNatClampNeg) x0.toNatClampNeg) ∨ (r = 0 ∧ ¬ FEr (fun k p => ((st_o p).toInt < (v 1 1).toInt ∧ fit (v 1 (21 + 2 * (st_l p).toNatClampNeg)) (v 1 (21 + 2 * (st_o p).toNatClampNeg)) (v 1 (28 + (st_l p).toNatClampNeg)) (v 1 (20 + 2 * (st_l p).toNatClampNeg)) (v 1 (28 + (st_o p).toNatClampNeg)) (v 1 (20 + 2 * (st_o p).toNatClampNeg)) (v 1 (32 + 7 * (v 4 k).toNatClampNeg)) (v 1 (5 + 2 * (v 1 (32 + 7 * (v 4 k).toNatClampNeg)).toNatClampNeg)) (v 1 (4 + 2 * (v 1 (32 + 7 * (v 4 k).toNatClampNeg)).toNatClampNeg)) (v 1 (33 + 7 * (v 4 k).toNatClampNeg)) (v 1 (5 + 2 * (v 1 (33 + 7 * (v 4 k).toNatClampNeg)).toNatClampNeg)) (v 1 (4 + 2 * (v 1 (33 + 7 * (v 4 k).toNatClampNeg)).toNatClampNeg)))) (v 0 3).toInt (fun q => (v 5 q).toNatClampNeg) x0.toNatClampNeg))) (fun u t => ex_Pst dC dI (va_A (wm ad cy v) sz) (wm ad cy u) t) (va_A (wm ad cy v) sz)) 0 0 (va_A (wm ad cy v) sz) := by
  refine Met.ofW (cc := cX8_fits) (maxL := 8) (ret := (some .boolean)) (by decide) rfl ?_
  intro p e s m args below meth c s₁ B hml hv
  obtain ⟨rfl, hsz, hE, hP, hK, hD0⟩ := hv
  have hx := B.exec
  have hb := B.bytes
  have hr := B.returns
  have hts := atoms_spec (ws := wsX8_fits) B.pre
  have hown : s.vm.findClass RX8 = some m.cls := findClass_of_methodNamed B.named
  have hlocks := B.notSynchronized
  subst hsz
  have hD := hD0.self (sz := s.heap.size)
  generalize hAe : va_A (wm ad cy v) s.heap.size = A at hD ⊢
  have hA : ∀ q : Nat, s.heap.size ≤ q → A q := fun q h => by rw [← hAe]; exact Or.inr h
  have hS : va_S A s.heap s.heap [] := va_S.rf
  have hP : va_P (dC, dI) vwCl (wm ad cy v) s.heap := hP
  have hl := lv_entry ([.ref (ad 0), .int x0]) (n := 8) (Nat.le_of_ble_eq_true rfl)
  rw [lg_entry_eq]
  generalize (lg_sl ([.ref (ad 0), .int x0]) ++ List.replicate (8 - (lg_sl ([.ref (ad 0), .int x0])).length) Slot.unset).toArray = ls at hl ⊢
  have hl : lv_has ls 8 [(0, .ref (ad 0)), (1, .int x0)] := hl
  have zn_x0 : (x0.toNatClampNeg : Int) = x0.toInt := t_nn (by omega)
  obtain ⟨FT, eFT⟩ : ∃ f : Nat → Nat → Prop, f = fun k p => ((st_o p).toInt < (v 1 1).toInt ∧ fit (v 1 (21 + 2 * (st_l p).toNatClampNeg)) (v 1 (21 + 2 * (st_o p).toNatClampNeg)) (v 1 (28 + (st_l p).toNatClampNeg)) (v 1 (20 + 2 * (st_l p).toNatClampNeg)) (v 1 (28 + (st_o p).toNatClampNeg)) (v 1 (20 + 2 * (st_o p).toNatClampNeg)) (v 1 (32 + 7 * (v 4 k).toNatClampNeg)) (v 1 (5 + 2 * (v 1 (32 + 7 * (v 4 k).toNatClampNeg)).toNatClampNeg)) (v 1 (4 + 2 * (v 1 (32 + 7 * (v 4 k).toNatClampNeg)).toNatClampNeg)) (v 1 (33 + 7 * (v 4 k).toNatClampNeg)) (v 1 (5 + 2 * (v 1 (33 + 7 * (v 4 k).toNatClampNeg)).toNatClampNeg)) (v 1 (4 + 2 * (v 1 (33 + 7 * (v 4 k).toNatClampNeg)).toNatClampNeg))) := ⟨_, rfl⟩
  obtain ⟨P, eP⟩ : ∃ f : Nat → Nat, f = fun q => (v 5 q).toNatClampNeg := ⟨_, rfl⟩
  have k_0 : (0 : Int32).toInt = 0 := by decide
  have k_18 : (18 : Int32).toInt = 18 := by decide
  refine lv_aload_n hx hb dX8_fits_0 rfl (lv_at hl 0 rfl) ?_
  refine va_get (D := (dC, dI)) (ci := 8) (v := .ref (ad 5)) (C := RX8) (T := TX8) (N := 11) hx hb hts (by decide +kernel) hown hK hP (0) (wm_at (by decide) rc_0) rfl 7 (by decide) (hts (.fieldLink RX8 26 "QuietStairsModel" "tried" "[I") (by decide +kernel)) (fun _ h9 => h9) rfl dX8_fits_1 ?_
  refine lv_iload_n hx hb dX8_fits_4 rfl (lv_at hl 1 rfl) ?_
  refine va_iald hx hb hK hP (5) 0 (wm_at (by decide) rc_5) rfl (vp_in_iff.mpr ⟨by omega, by omega⟩) dX8_fits_5 ?_
  refine lv_topi (fun x_1 ex_1 => ?_)
  have qx_1 : x_1.toInt = (v 5 (x0.toNatClampNeg)).toInt := congrArg Int32.toInt ex_1
  have ba9 : 0 ≤ x_1.toInt ∧ x_1.toInt ≤ 18 := by rw [ex_1]; exact h5 _ (by omega)
  have zn_x_1 : (x_1.toNatClampNeg : Int) = x_1.toInt := t_nn (by omega)
  have hPa : P x0.toNatClampNeg = x_1.toNatClampNeg := by rw [eP, ex_1]
  refine lv_istore_n (lv' := [(2, .int x_1), (0, .ref (ad 0)), (1, .int x0)]) hx hb dX8_fits_6 rfl hl (by decide) rfl (fun ls hl => ?_)
  refine lv_iload_n hx hb dX8_fits_7 rfl (lv_at hl 0 rfl) ?_
  refine lv_bipush (v := 18) hx hb dX8_fits_8 (by decide) ?_
  refine lv_icmp_ne (tgt := 15) hx hb dX8_fits_10 (by decide) (fun c_2 => ?_) (fun c_2 => ?_)
  · have tc_2 : x_1.toInt ≠ (18 : Int32).toInt := fun q => absurd (Int32.toInt_inj.mp q) c_2
    refine lv_iload_n hx hb dX8_fits_15 rfl (lv_at hl 0 rfl) ?_
    refine lv_bipush (v := 6) hx hb dX8_fits_16 (by decide) ?_
    refine lv_irem hx hb dX8_fits_18 (by decide) ?_
    refine lv_topi (fun x_3 ex_3 => ?_)
    have hp9 : x_3.toInt = x_1.toInt % 6 := by rw [ex_3]; exact rem6r ba9
    have zn_x_3 : (x_3.toNatClampNeg : Int) = x_3.toInt := t_nn (by omega)
    have hPp : P x0.toNatClampNeg % 6 = x_3.toNatClampNeg := by omega
    refine lv_istore_n (lv' := [(3, .int x_3), (2, .int x_1), (0, .ref (ad 0)), (1, .int x0)]) hx hb dX8_fits_19 rfl hl (by decide) rfl (fun ls hl => ?_)
    refine lv_aload_n hx hb dX8_fits_20 rfl (lv_at hl 2 rfl) ?_
    refine lv_iload_n hx hb dX8_fits_21 rfl (lv_at hl 0 rfl) ?_
    refine yw_i (w1 := fun (u : Nat → Nat → Int32) => wm ad cy u) hD hS hA (va_runV (As := [.int x_3]) (rest := []) ⟨hx, hb, hml, hown, hts⟩ (q_X8_isPair l dC dI cy _ ad v hv x_3) (cwV 1 hts gX8_fits_X8_isPair rfl rfl rfl (by decide +kernel) ⟨Nat.le_of_ble_eq_true rfl, Nat.le_of_ble_eq_true rfl⟩) (yw_preV hE hK hP hD (ci := 8) (q0 := 0) rfl (wm_at (by decide) rc_0)) rfl rfl hl.1 rfl (lv_room (Nat.le_of_ble_eq_true rfl)) dX8_fits_22 ⟨Nat.le_of_ble_eq_true rfl, Nat.le_of_ble_eq_true rfl⟩) (fun r_4 v_4 H locs hw_4 hP hD hS => ?_)
    obtain ⟨-, hu_4, hw_4⟩ := hw_4
    replace hu_4 := hu_4.symm
    subst hu_4
    rcases hw_4 with ⟨rfl, ha_5⟩ | ⟨rfl, ha_5⟩
    · have hs9 := st_pt (x := x_3) ⟨by omega, by omega⟩
      have hpr9 : (st_o x_3.toNatClampNeg).toInt < (v 1 1).toInt := by have q9 := ha_5.2; omega
      refine lv_if_eq (tgt := 42) hx hb dX8_fits_25 (by decide) (fun c9 => absurd c9 (by decide)) (fun _ => ?_)
      refine lv_aload_n hx hb dX8_fits_28 rfl (lv_at hl 2 rfl) ?_
      refine lv_iload_n hx hb dX8_fits_29 rfl (lv_at hl 0 rfl) ?_
      refine lv_aload_n hx hb dX8_fits_30 rfl (lv_at hl 2 rfl) ?_
      refine va_get (D := (dC, dI)) (ci := 8) (v := .ref (ad 4)) (C := RX8) (T := TX8) (N := 11) hx hb hts (by decide +kernel) hown hK hP (0) (wm_at (by decide) rc_0) rfl 6 (by decide) (hts (.fieldLink RX8 23 "QuietStairsModel" "planned" "[I") (by decide +kernel)) (fun _ h9 => h9) rfl dX8_fits_31 ?_
      refine lv_iload_n hx hb dX8_fits_34 rfl (lv_at hl 3 rfl) ?_
      refine va_iald hx hb hK hP (4) 0 (wm_at (by decide) rc_4) rfl (vp_in_iff.mpr ⟨by omega, by omega⟩) dX8_fits_35 ?_
      refine lv_topi (fun x_6 ex_6 => ?_)
      have bzx_6 : 0 ≤ x_6.toInt ∧ x_6.toInt ≤ 5 := by rw [ex_6]; exact hv 4 _ 5 rfl
      have qx_6 : x_6.toInt = (v 4 (x0.toNatClampNeg)).toInt := congrArg Int32.toInt ex_6
      refine yw_i (w1 := fun (u : Nat → Nat → Int32) => wm ad cy u) hD hS hA (va_runV (As := [.int x_3, .int x_6]) (rest := []) ⟨hx, hb, hml, hown, hts⟩ (e_X8_may l dC dI cy _ ad v hv x_3 x_6 (st_l x_3.toNatClampNeg) (st_o x_3.toNatClampNeg) ⟨by omega, by omega⟩ ⟨by omega, by omega⟩ (st_pt ⟨by omega, by omega⟩).2 (st_pt ⟨by omega, by omega⟩).1) (cwV 2 hts gX8_fits_X8_may rfl rfl rfl (by decide +kernel) ⟨Nat.le_of_ble_eq_true rfl, Nat.le_of_ble_eq_true rfl⟩) (yw_preV hE hK hP hD (ci := 8) (q0 := 0) rfl (wm_at (by decide) rc_0)) rfl rfl hl.1 rfl (lv_room (Nat.le_of_ble_eq_true rfl)) dX8_fits_36 ⟨Nat.le_of_ble_eq_true rfl, Nat.le_of_ble_eq_true rfl⟩) (fun r_7 v_7 H locs hw_7 hP hD hS => ?_)
      obtain ⟨-, hu_7, hw_7⟩ := hw_7
      replace hu_7 := hu_7.symm
      subst hu_7
      rcases hw_7 with ⟨rfl, hf_8⟩ | ⟨rfl, hf_8⟩
      · have hfit9 : ((st_o x_3.toNatClampNeg).toInt < (v 1 1).toInt ∧ fit (v 1 (21 + 2 * (st_l x_3.toNatClampNeg).toNatClampNeg)) (v 1 (21 + 2 * (st_o x_3.toNatClampNeg).toNatClampNeg)) (v 1 (28 + (st_l x_3.toNatClampNeg).toNatClampNeg)) (v 1 (20 + 2 * (st_l x_3.toNatClampNeg).toNatClampNeg)) (v 1 (28 + (st_o x_3.toNatClampNeg).toNatClampNeg)) (v 1 (20 + 2 * (st_o x_3.toNatClampNeg).toNatClampNeg)) (v 1 (32 + 7 * (v 4 x0.toNatClampNeg).toNatClampNeg)) (v 1 (5 + 2 * (v 1 (32 + 7 * (v 4 x0.toNatClampNeg).toNatClampNeg)).toNatClampNeg)) (v 1 (4 + 2 * (v 1 (32 + 7 * (v 4 x0.toNatClampNeg).toNatClampNeg)).toNatClampNeg)) (v 1 (33 + 7 * (v 4 x0.toNatClampNeg).toNatClampNeg)) (v 1 (5 + 2 * (v 1 (33 + 7 * (v 4 x0.toNatClampNeg).toNatClampNeg)).toNatClampNeg)) (v 1 (4 + 2 * (v 1 (33 + 7 * (v 4 x0.toNatClampNeg).toNatClampNeg)).toNatClampNeg))) := ⟨hpr9, by rw [← ex_6]; exact hf_8⟩
        refine lv_if_ne (tgt := 44) hx hb dX8_fits_39 (by decide) (fun _ => ?_) (fun c9 => absurd c9 (by decide))
        refine lv_iconst (v := 0) hx hb dX8_fits_44 (by decide) ?_
        refine lv_istore (lv' := [(4, .int 0), (3, .int x_3), (2, .int x_1), (0, .ref (ad 0)), (1, .int x0)]) hx hb dX8_fits_45 hl (by decide) rfl (fun ls hl => ?_)
        refine lv_iconst (v := 0) hx hb dX8_fits_47 (by decide) ?_
        refine lv_istore (lv' := [(5, .int 0), (4, .int 0), (3, .int x_3), (2, .int x_1), (0, .ref (ad 0)), (1, .int x0)]) hx hb dX8_fits_48 hl (by decide) rfl (fun ls hl => ?_)
        have hc_9 : ∀ (n : Nat) (y9_5 y9_4 : Int32) (H : Heap) (locs : List Loc), 0 ≤ y9_5.toInt → y9_5.toInt ≤ 3 → 0 ≤ y9_4.toInt → y9_4.toInt ≤ 3 → (FS P (P x0.toNatClampNeg / 6) (P x0.toNatClampNeg % 6) y9_5.toNatClampNeg y9_4.toInt) → (y9_5.toInt ≤ x0.toInt) → (y9_4.toInt ≤ y9_5.toInt) → (3 - y9_5.toInt).toNat < n → va_P (dC, dI) vwCl (wm ad cy v) H → va_D A (wm ad cy v) → va_S A s.heap H locs → ∀ ls : Array Slot, lv_has ls 8 [(5, .int y9_5), (4, .int y9_4), (3, .int x_3), (2, .int x_1), (0, .ref (ad 0)), (1, .int x0)] → W p l e (headSpec wsX8_fits ({ frames := 3, cells := 0, slots := 0, locals := 192 })).room s m [Value.ref (ad 0), Value.int x0].toArray below meth c H locs 0 0 (MQ below (va_Qi (fun (r : Int32) (u : Nat → Nat → Int32) => Ir u ∧ u = v ∧ ((r = 1 ∧ FEr (fun k p => ((st_o p).toInt < (v 1 1).toInt ∧ fit (v 1 (21 + 2 * (st_l p).toNatClampNeg)) (v 1 (21 + 2 * (st_o p).toNatClampNeg)) (v 1 (28 + (st_l p).toNatClampNeg)) (v 1 (20 + 2 * (st_l p).toNatClampNeg)) (v 1 (28 + (st_o p).toNatClampNeg)) (v 1 (20 + 2 * (st_o p).toNatClampNeg)) (v 1 (32 + 7 * (v 4 k).toNatClampNeg)) (v 1 (5 + 2 * (v 1 (32 + 7 * (v 4 k).toNatClampNeg)).toNatClampNeg)) (v 1 (4 + 2 * (v 1 (32 + 7 * (v 4 k).toNatClampNeg)).toNatClampNeg)) (v 1 (33 + 7 * (v 4 k).toNatClampNeg)) (v 1 (5 + 2 * (v 1 (33 + 7 * (v 4 k).toNatClampNeg)).toNatClampNeg)) (v 1 (4 + 2 * (v 1 (33 + 7 * (v 4 k).toNatClampNeg)).toNatClampNeg)))) (v 0 3).toInt (fun q => (v 5 q).toNatClampNeg) x0.toNatClampNeg) ∨ (r = 0 ∧ ¬ FEr (fun k p => ((st_o p).toInt < (v 1 1).toInt ∧ fit (v 1 (21 + 2 * (st_l p).toNatClampNeg)) (v 1 (21 + 2 * (st_o p).toNatClampNeg)) (v 1 (28 + (st_l p).toNatClampNeg)) (v 1 (20 + 2 * (st_l p).toNatClampNeg)) (v 1 (28 + (st_o p).toNatClampNeg)) (v 1 (20 + 2 * (st_o p).toNatClampNeg)) (v 1 (32 + 7 * (v 4 k).toNatClampNeg)) (v 1 (5 + 2 * (v 1 (32 + 7 * (v 4 k).toNatClampNeg)).toNatClampNeg)) (v 1 (4 + 2 * (v 1 (32 + 7 * (v 4 k).toNatClampNeg)).toNatClampNeg)) (v 1 (33 + 7 * (v 4 k).toNatClampNeg)) (v 1 (5 + 2 * (v 1 (33 + 7 * (v 4 k).toNatClampNeg)).toNatClampNeg)) (v 1 (4 + 2 * (v 1 (33 + 7 * (v 4 k).toNatClampNeg)).toNatClampNeg)))) (v 0 3).toInt (fun q => (v 5 q).toNatClampNeg) x0.toNatClampNeg))) (fun u t => ex_Pst dC dI A (wm ad cy u) t) A) [Value.ref (ad 0), Value.int x0].toArray s 0 0 A) (F0 m 50 ls []) := by
          intro n
          induction n with
          | zero =>
            intro y9_5 y9_4 H locs ay9_5 by9_5 ay9_4 by9_4 hi9_0 hi9_1 hi9_2 hm_9 hP hD hS ls hl
            exact absurd hm_9 (by omega)
          | succ n ih_9 =>
            intro y9_5 y9_4 H locs ay9_5 by9_5 ay9_4 by9_4 hi9_0 hi9_1 hi9_2 hm_9 hP hD hS ls hl
            refine lv_iload hx hb dX8_fits_50 (lv_at hl 0 rfl) ?_
            refine lv_iload_n hx hb dX8_fits_52 rfl (lv_at hl 5 rfl) ?_
            refine lv_icmp_ge (tgt := 171) hx hb dX8_fits_53 (by decide) (fun c_10 => ?_) (fun c_10 => ?_)
            · have tc_10 : y9_5.toInt ≥ x0.toInt := Int32.le_iff_toInt_le.mp c_10
              refine lv_iload hx hb dX8_fits_171 (lv_at hl 1 rfl) ?_
              refine lv_aload_n hx hb dX8_fits_173 rfl (lv_at hl 4 rfl) ?_
              refine va_get (D := (dC, dI)) (ci := 8) (v := .int (v 0 3)) (C := RX8) (T := TX8) (N := 11) hx hb hts (by decide +kernel) hown hK hP (0) (wm_at (by decide) rc_0) rfl 3 (by decide) (hts (.fieldLink RX8 16 "QuietStairsModel" "rooms" "I") (by decide +kernel)) (fun _ h9 => h9) rfl dX8_fits_174 ?_
              refine lv_topi (fun x_11 ex_11 => ?_)
              refine lv_icmp_ge (tgt := 184) hx hb dX8_fits_177 (by decide) (fun c_12 => ?_) (fun c_12 => ?_)
              · have tc_12 : y9_4.toInt ≥ x_11.toInt := Int32.le_iff_toInt_le.mp c_12
                refine lv_iconst (v := 0) hx hb dX8_fits_184 (by decide) ?_
                have zn_y9_5 : (y9_5.toNatClampNeg : Int) = y9_5.toInt := t_nn (by omega)
                have hFS : FS P (P x0.toNatClampNeg / 6) (P x0.toNatClampNeg % 6) x0.toNatClampNeg y9_4.toInt := by have q9 := hi9_0; rw [show y9_5.toNatClampNeg = x0.toNatClampNeg from by omega] at q9; exact q9
                exact W.zret (ty := .boolean) (v := 0) hx hb hr rfl (fun t ht hW => ⟨⟨0, v, rfl, ⟨hv, rfl, by rw [← eFT, ← eP]; exact Or.inr ⟨rfl, FEr_0c (by omega) hFS (by rw [← ex_11]; omega)⟩⟩, by rw [ht]; exact hP, hD⟩, hS.F ht⟩) hS.2.2 dX8_fits_185
              · have tc_12 : y9_4.toInt < x_11.toInt := Int32.lt_iff_toInt_lt.mp (Int32.not_le.mp c_12)
                refine lv_iconst (v := 1) hx hb dX8_fits_180 (by decide) ?_
                refine lv_goto (tgt := 185) hx hb dX8_fits_181 (by decide) ?_
                have zn_y9_5 : (y9_5.toNatClampNeg : Int) = y9_5.toInt := t_nn (by omega)
                have hFS : FS P (P x0.toNatClampNeg / 6) (P x0.toNatClampNeg % 6) x0.toNatClampNeg y9_4.toInt := by have q9 := hi9_0; rw [show y9_5.toNatClampNeg = x0.toNatClampNeg from by omega] at q9; exact q9
                exact W.zret (ty := .boolean) (v := 1) hx hb hr rfl (fun t ht hW => ⟨⟨1, v, rfl, ⟨hv, rfl, by rw [← eFT, ← eP]; exact Or.inl ⟨rfl, FEr_1 (by omega) (by rw [hPp, eFT]; exact hfit9) hFS (by rw [← ex_11]; omega)⟩⟩, by rw [ht]; exact hP, hD⟩, hS.F ht⟩) hS.2.2 dX8_fits_185
            · have tc_10 : y9_5.toInt < x0.toInt := Int32.lt_iff_toInt_lt.mp (Int32.not_le.mp c_10)
              refine lv_aload_n hx hb dX8_fits_56 rfl (lv_at hl 4 rfl) ?_
              refine va_get (D := (dC, dI)) (ci := 8) (v := .ref (ad 5)) (C := RX8) (T := TX8) (N := 11) hx hb hts (by decide +kernel) hown hK hP (0) (wm_at (by decide) rc_0) rfl 7 (by decide) (hts (.fieldLink RX8 26 "QuietStairsModel" "tried" "[I") (by decide +kernel)) (fun _ h9 => h9) rfl dX8_fits_57 ?_
              refine lv_iload hx hb dX8_fits_60 (lv_at hl 0 rfl) ?_
              have zn_y9_5 : (y9_5.toNatClampNeg : Int) = y9_5.toInt := t_nn (by omega)
              refine va_iald hx hb hK hP (5) 0 (wm_at (by decide) rc_5) rfl (vp_in_iff.mpr ⟨by omega, by omega⟩) dX8_fits_62 ?_
              refine lv_topi (fun x_11 ex_11 => ?_)
              have qx_11 : x_11.toInt = (v 5 (y9_5.toNatClampNeg)).toInt := congrArg Int32.toInt ex_11
              have bs9 : 0 ≤ x_11.toInt ∧ x_11.toInt ≤ 18 := by rw [ex_11]; exact h5 _ (by omega)
              have zn_x_11 : (x_11.toNatClampNeg : Int) = x_11.toInt := t_nn (by omega)
              have hPs : P y9_5.toNatClampNeg = x_11.toNatClampNeg := by rw [eP, ex_11]
              refine lv_bipush (v := 18) hx hb dX8_fits_63 (by decide) ?_
              refine lv_icmp_eq (tgt := 165) hx hb dX8_fits_65 (by decide) (fun c_12 => ?_) (fun c_12 => ?_)
              · have tc_12 : x_11.toInt = (18 : Int32).toInt := by rw [c_12]
                obtain ⟨x_13, ex_13⟩ : ∃ y : Int32, y = y9_5 + 1 := ⟨_, rfl⟩
                refine lv_iinc (v := x_13) (lv' := [(5, .int x_13), (4, .int y9_4), (3, .int x_3), (2, .int x_1), (0, .ref (ad 0)), (1, .int x0)]) hx hb dX8_fits_165 hl (k := 0) rfl (by rw [ex_13]; rfl) (by decide) rfl (fun ls hl => ?_)
                have k_1 : (1 : Int32).toInt = 1 := by decide
                have tx_13 : x_13.toInt = y9_5.toInt + (1 : Int32).toInt := by rw [ex_13]; exact t_add ⟨by omega, by omega⟩
                refine lv_goto (tgt := 50) hx hb dX8_fits_168 (by decide) ?_
                have zn_x_13 : (x_13.toNatClampNeg : Int) = x_13.toInt := t_nn (by omega)
                exact ih_9 x_13 y9_4 _ _ (by omega) (by omega) (by omega) (by omega) (FS_no hi9_0 (by omega) (fun q => by have q1 := q.1; omega)) (by omega) (by omega) (by omega) hP hD hS ls (lv_sub hl [0, 1, 2, 3, 4, 5] rfl)
              · have tc_12 : x_11.toInt ≠ (18 : Int32).toInt := fun q => absurd (Int32.toInt_inj.mp q) c_12
                refine lv_aload_n hx hb dX8_fits_68 rfl (lv_at hl 4 rfl) ?_
                refine va_get (D := (dC, dI)) (ci := 8) (v := .ref (ad 5)) (C := RX8) (T := TX8) (N := 11) hx hb hts (by decide +kernel) hown hK hP (0) (wm_at (by decide) rc_0) rfl 7 (by decide) (hts (.fieldLink RX8 26 "QuietStairsModel" "tried" "[I") (by decide +kernel)) (fun _ h9 => h9) rfl dX8_fits_69 ?_
                refine lv_iload hx hb dX8_fits_72 (lv_at hl 0 rfl) ?_
                refine va_iald hx hb hK hP (5) 0 (wm_at (by decide) rc_5) rfl (vp_in_iff.mpr ⟨by omega, by omega⟩) dX8_fits_74 ?_
                refine lv_topi (fun x_13 ex_13 => ?_)
                obtain rfl : x_11 = x_13 := (ex_13.trans ex_11.symm).symm
                refine lv_bipush (v := 6) hx hb dX8_fits_75 (by decide) ?_
                refine lv_idiv hx hb dX8_fits_77 (by decide) ?_
                refine lv_topi (fun x_14 ex_14 => ?_)
                have hd9 : x_14.toInt = x_11.toInt / 6 := by rw [ex_14]; exact (rem6 bs9).2
                refine lv_iload_n hx hb dX8_fits_78 rfl (lv_at hl 3 rfl) ?_
                refine lv_bipush (v := 6) hx hb dX8_fits_79 (by decide) ?_
                refine lv_idiv hx hb dX8_fits_81 (by decide) ?_
                refine lv_topi (fun x_15 ex_15 => ?_)
                have he9 : x_15.toInt = x_1.toInt / 6 := by rw [ex_15]; exact (rem6 ba9).2
                refine lv_icmp_eq (tgt := 88) hx hb dX8_fits_82 (by decide) (fun c_16 => ?_) (fun c_16 => ?_)
                · have tc_16 : x_14.toInt = x_15.toInt := by rw [c_16]
                  refine lv_aload_n hx hb dX8_fits_88 rfl (lv_at hl 4 rfl) ?_
                  refine va_get (D := (dC, dI)) (ci := 8) (v := .ref (ad 5)) (C := RX8) (T := TX8) (N := 11) hx hb hts (by decide +kernel) hown hK hP (0) (wm_at (by decide) rc_0) rfl 7 (by decide) (hts (.fieldLink RX8 26 "QuietStairsModel" "tried" "[I") (by decide +kernel)) (fun _ h9 => h9) rfl dX8_fits_89 ?_
                  refine lv_iload hx hb dX8_fits_92 (lv_at hl 0 rfl) ?_
                  refine va_iald hx hb hK hP (5) 0 (wm_at (by decide) rc_5) rfl (vp_in_iff.mpr ⟨by omega, by omega⟩) dX8_fits_94 ?_
                  refine lv_topi (fun x_17 ex_17 => ?_)
                  obtain rfl : x_11 = x_17 := (ex_17.trans ex_11.symm).symm
                  refine lv_bipush (v := 6) hx hb dX8_fits_95 (by decide) ?_
                  refine lv_irem hx hb dX8_fits_97 (by decide) ?_
                  refine lv_topi (fun x_18 ex_18 => ?_)
                  have hq9 : x_18.toInt = x_11.toInt % 6 := by rw [ex_18]; exact rem6r bs9
                  have zn_x_18 : (x_18.toNatClampNeg : Int) = x_18.toInt := t_nn (by omega)
                  have hPq : P y9_5.toNatClampNeg % 6 = x_18.toNatClampNeg := by omega
                  have sp9 := st_pt (x := x_3) ⟨by omega, by omega⟩
                  have sq9 := st_pt (x := x_18) ⟨by omega, by omega⟩
                  refine lv_istore (lv' := [(6, .int x_18), (5, .int y9_5), (4, .int y9_4), (3, .int x_3), (2, .int x_1), (0, .ref (ad 0)), (1, .int x0)]) hx hb dX8_fits_98 hl (by decide) rfl (fun ls hl => ?_)
                  refine lv_iload hx hb dX8_fits_100 (lv_at hl 0 rfl) ?_
                  refine yc_p hP hS (va_runS (As := [.int x_18]) (rest := []) ⟨hx, hb, hml, hown, hts⟩ (c_X8_oneOf l x_18) (cwS 1 hts gX8_fits_X8_oneOf rfl rfl rfl (by decide +kernel) ⟨Nat.le_of_ble_eq_true rfl, Nat.le_of_ble_eq_true rfl⟩) ex_preP rfl rfl hl.1 rfl (lv_room (Nat.le_of_ble_eq_true rfl)) dX8_fits_102 ⟨Nat.le_of_ble_eq_true rfl, Nat.le_of_ble_eq_true rfl⟩) (fun r_19 H locs hw_19 hP hS => ?_)
                  have pr_19 := pn_b x_18.toInt
                  have qr_19 : r_19.toInt = pn x_18.toInt := hw_19
                  refine lv_iload_n hx hb dX8_fits_105 rfl (lv_at hl 3 rfl) ?_
                  refine yc_p hP hS (va_runS (As := [.int x_3]) (rest := [.int r_19]) ⟨hx, hb, hml, hown, hts⟩ (c_X8_oneOf l x_3) (cwS 1 hts gX8_fits_X8_oneOf rfl rfl rfl (by decide +kernel) ⟨Nat.le_of_ble_eq_true rfl, Nat.le_of_ble_eq_true rfl⟩) ex_preP rfl rfl hl.1 rfl (lv_room (Nat.le_of_ble_eq_true rfl)) dX8_fits_106 ⟨Nat.le_of_ble_eq_true rfl, Nat.le_of_ble_eq_true rfl⟩) (fun r_20 H locs hw_20 hP hS => ?_)
                  have pr_20 := pn_b x_3.toInt
                  have qr_20 : r_20.toInt = pn x_3.toInt := hw_20
                  refine lv_icmp_eq (tgt := 148) hx hb dX8_fits_109 (by decide) (fun c_21 => ?_) (fun c_21 => ?_)
                  · have tc_21 : r_19.toInt = r_20.toInt := by rw [c_21]
                    refine lv_iconst (v := 1) hx hb dX8_fits_148 (by decide) ?_
                    refine lv_goto (tgt := 153) hx hb dX8_fits_149 (by decide) ?_
                    refine lv_istore (lv' := [(7, .int 1), (6, .int x_18), (5, .int y9_5), (4, .int y9_4), (3, .int x_3), (2, .int x_1), (0, .ref (ad 0)), (1, .int x0)]) hx hb dX8_fits_153 hl (by decide) rfl (fun ls hl => ?_)
                    refine lv_iload hx hb dX8_fits_155 (lv_at hl 0 rfl) ?_
                    refine lv_if_eq (tgt := 162) hx hb dX8_fits_157 (by decide) (fun c9 => absurd c9 (by decide)) (fun _ => ?_)
                    refine lv_iconst (v := 0) hx hb dX8_fits_160 (by decide) ?_
                    exact W.zret (ty := .boolean) (v := 0) hx hb hr rfl (fun t ht hW => ⟨⟨0, v, rfl, ⟨hv, rfl, by rw [← eFT, ← eP]; exact Or.inr ⟨rfl, FEr_0b (i := y9_5.toNatClampNeg) (by omega) (by omega) ⟨by omega, by omega⟩ (by rw [hPp, hPq]; exact fun q => by obtain ⟨⟨d1, d2⟩, d3, d4⟩ := q; omega)⟩⟩, by rw [ht]; exact hP, hD⟩, hS.F ht⟩) hS.2.2 dX8_fits_161
                  · have tc_21 : r_19.toInt ≠ r_20.toInt := fun q => absurd (Int32.toInt_inj.mp q) c_21
                    refine lv_iload hx hb dX8_fits_112 (lv_at hl 0 rfl) ?_
                    refine yc_p hP hS (va_runS (As := [.int x_18]) (rest := []) ⟨hx, hb, hml, hown, hts⟩ (c_X8_oneOf l x_18) (cwS 1 hts gX8_fits_X8_oneOf rfl rfl rfl (by decide +kernel) ⟨Nat.le_of_ble_eq_true rfl, Nat.le_of_ble_eq_true rfl⟩) ex_preP rfl rfl hl.1 rfl (lv_room (Nat.le_of_ble_eq_true rfl)) dX8_fits_114 ⟨Nat.le_of_ble_eq_true rfl, Nat.le_of_ble_eq_true rfl⟩) (fun r_22 H locs hw_22 hP hS => ?_)
                    have pr_22 := pn_b x_18.toInt
                    have qr_22 : r_22.toInt = pn x_18.toInt := hw_22
                    refine lv_iload_n hx hb dX8_fits_117 rfl (lv_at hl 3 rfl) ?_
                    refine yc_p hP hS (va_runS (As := [.int x_3]) (rest := [.int r_22]) ⟨hx, hb, hml, hown, hts⟩ (c_X8_otherOf l x_3) (cwS 1 hts gX8_fits_X8_otherOf rfl rfl rfl (by decide +kernel) ⟨Nat.le_of_ble_eq_true rfl, Nat.le_of_ble_eq_true rfl⟩) ex_preP rfl rfl hl.1 rfl (lv_room (Nat.le_of_ble_eq_true rfl)) dX8_fits_118 ⟨Nat.le_of_ble_eq_true rfl, Nat.le_of_ble_eq_true rfl⟩) (fun r_23 H locs hw_23 hP hS => ?_)
                    have pr_23 := pt_b x_3.toInt (by omega)
                    have qr_23 : r_23.toInt = pt x_3.toInt := hw_23
                    refine lv_icmp_eq (tgt := 148) hx hb dX8_fits_121 (by decide) (fun c_24 => ?_) (fun c_24 => ?_)
                    · have tc_24 : r_22.toInt = r_23.toInt := by rw [c_24]
                      refine lv_iconst (v := 1) hx hb dX8_fits_148 (by decide) ?_
                      refine lv_goto (tgt := 153) hx hb dX8_fits_149 (by decide) ?_
                      refine lv_istore (lv' := [(7, .int 1), (6, .int x_18), (5, .int y9_5), (4, .int y9_4), (3, .int x_3), (2, .int x_1), (0, .ref (ad 0)), (1, .int x0)]) hx hb dX8_fits_153 hl (by decide) rfl (fun ls hl => ?_)
                      refine lv_iload hx hb dX8_fits_155 (lv_at hl 0 rfl) ?_
                      refine lv_if_eq (tgt := 162) hx hb dX8_fits_157 (by decide) (fun c9 => absurd c9 (by decide)) (fun _ => ?_)
                      refine lv_iconst (v := 0) hx hb dX8_fits_160 (by decide) ?_
                      exact W.zret (ty := .boolean) (v := 0) hx hb hr rfl (fun t ht hW => ⟨⟨0, v, rfl, ⟨hv, rfl, by rw [← eFT, ← eP]; exact Or.inr ⟨rfl, FEr_0b (i := y9_5.toNatClampNeg) (by omega) (by omega) ⟨by omega, by omega⟩ (by rw [hPp, hPq]; exact fun q => by obtain ⟨⟨d1, d2⟩, d3, d4⟩ := q; omega)⟩⟩, by rw [ht]; exact hP, hD⟩, hS.F ht⟩) hS.2.2 dX8_fits_161
                    · have tc_24 : r_22.toInt ≠ r_23.toInt := fun q => absurd (Int32.toInt_inj.mp q) c_24
                      refine lv_iload hx hb dX8_fits_124 (lv_at hl 0 rfl) ?_
                      refine yc_p hP hS (va_runS (As := [.int x_18]) (rest := []) ⟨hx, hb, hml, hown, hts⟩ (c_X8_otherOf l x_18) (cwS 1 hts gX8_fits_X8_otherOf rfl rfl rfl (by decide +kernel) ⟨Nat.le_of_ble_eq_true rfl, Nat.le_of_ble_eq_true rfl⟩) ex_preP rfl rfl hl.1 rfl (lv_room (Nat.le_of_ble_eq_true rfl)) dX8_fits_126 ⟨Nat.le_of_ble_eq_true rfl, Nat.le_of_ble_eq_true rfl⟩) (fun r_25 H locs hw_25 hP hS => ?_)
                      have pr_25 := pt_b x_18.toInt (by omega)
                      have qr_25 : r_25.toInt = pt x_18.toInt := hw_25
                      refine lv_iload_n hx hb dX8_fits_129 rfl (lv_at hl 3 rfl) ?_
                      refine yc_p hP hS (va_runS (As := [.int x_3]) (rest := [.int r_25]) ⟨hx, hb, hml, hown, hts⟩ (c_X8_oneOf l x_3) (cwS 1 hts gX8_fits_X8_oneOf rfl rfl rfl (by decide +kernel) ⟨Nat.le_of_ble_eq_true rfl, Nat.le_of_ble_eq_true rfl⟩) ex_preP rfl rfl hl.1 rfl (lv_room (Nat.le_of_ble_eq_true rfl)) dX8_fits_130 ⟨Nat.le_of_ble_eq_true rfl, Nat.le_of_ble_eq_true rfl⟩) (fun r_26 H locs hw_26 hP hS => ?_)
                      have pr_26 := pn_b x_3.toInt
                      have qr_26 : r_26.toInt = pn x_3.toInt := hw_26
                      refine lv_icmp_eq (tgt := 148) hx hb dX8_fits_133 (by decide) (fun c_27 => ?_) (fun c_27 => ?_)
                      · have tc_27 : r_25.toInt = r_26.toInt := by rw [c_27]
                        refine lv_iconst (v := 1) hx hb dX8_fits_148 (by decide) ?_
                        refine lv_goto (tgt := 153) hx hb dX8_fits_149 (by decide) ?_
                        refine lv_istore (lv' := [(7, .int 1), (6, .int x_18), (5, .int y9_5), (4, .int y9_4), (3, .int x_3), (2, .int x_1), (0, .ref (ad 0)), (1, .int x0)]) hx hb dX8_fits_153 hl (by decide) rfl (fun ls hl => ?_)
                        refine lv_iload hx hb dX8_fits_155 (lv_at hl 0 rfl) ?_
                        refine lv_if_eq (tgt := 162) hx hb dX8_fits_157 (by decide) (fun c9 => absurd c9 (by decide)) (fun _ => ?_)
                        refine lv_iconst (v := 0) hx hb dX8_fits_160 (by decide) ?_
                        exact W.zret (ty := .boolean) (v := 0) hx hb hr rfl (fun t ht hW => ⟨⟨0, v, rfl, ⟨hv, rfl, by rw [← eFT, ← eP]; exact Or.inr ⟨rfl, FEr_0b (i := y9_5.toNatClampNeg) (by omega) (by omega) ⟨by omega, by omega⟩ (by rw [hPp, hPq]; exact fun q => by obtain ⟨⟨d1, d2⟩, d3, d4⟩ := q; omega)⟩⟩, by rw [ht]; exact hP, hD⟩, hS.F ht⟩) hS.2.2 dX8_fits_161
                      · have tc_27 : r_25.toInt ≠ r_26.toInt := fun q => absurd (Int32.toInt_inj.mp q) c_27
                        refine lv_iload hx hb dX8_fits_136 (lv_at hl 0 rfl) ?_
                        refine yc_p hP hS (va_runS (As := [.int x_18]) (rest := []) ⟨hx, hb, hml, hown, hts⟩ (c_X8_otherOf l x_18) (cwS 1 hts gX8_fits_X8_otherOf rfl rfl rfl (by decide +kernel) ⟨Nat.le_of_ble_eq_true rfl, Nat.le_of_ble_eq_true rfl⟩) ex_preP rfl rfl hl.1 rfl (lv_room (Nat.le_of_ble_eq_true rfl)) dX8_fits_138 ⟨Nat.le_of_ble_eq_true rfl, Nat.le_of_ble_eq_true rfl⟩) (fun r_28 H locs hw_28 hP hS => ?_)
                        have pr_28 := pt_b x_18.toInt (by omega)
                        have qr_28 : r_28.toInt = pt x_18.toInt := hw_28
                        refine lv_iload_n hx hb dX8_fits_141 rfl (lv_at hl 3 rfl) ?_
                        refine yc_p hP hS (va_runS (As := [.int x_3]) (rest := [.int r_28]) ⟨hx, hb, hml, hown, hts⟩ (c_X8_otherOf l x_3) (cwS 1 hts gX8_fits_X8_otherOf rfl rfl rfl (by decide +kernel) ⟨Nat.le_of_ble_eq_true rfl, Nat.le_of_ble_eq_true rfl⟩) ex_preP rfl rfl hl.1 rfl (lv_room (Nat.le_of_ble_eq_true rfl)) dX8_fits_142 ⟨Nat.le_of_ble_eq_true rfl, Nat.le_of_ble_eq_true rfl⟩) (fun r_29 H locs hw_29 hP hS => ?_)
                        have pr_29 := pt_b x_3.toInt (by omega)
                        have qr_29 : r_29.toInt = pt x_3.toInt := hw_29
                        refine lv_icmp_ne (tgt := 152) hx hb dX8_fits_145 (by decide) (fun c_30 => ?_) (fun c_30 => ?_)
                        · have tc_30 : r_28.toInt ≠ r_29.toInt := fun q => absurd (Int32.toInt_inj.mp q) c_30
                          refine lv_iconst (v := 0) hx hb dX8_fits_152 (by decide) ?_
                          refine lv_istore (lv' := [(7, .int 0), (6, .int x_18), (5, .int y9_5), (4, .int y9_4), (3, .int x_3), (2, .int x_1), (0, .ref (ad 0)), (1, .int x0)]) hx hb dX8_fits_153 hl (by decide) rfl (fun ls hl => ?_)
                          refine lv_iload hx hb dX8_fits_155 (lv_at hl 0 rfl) ?_
                          refine lv_if_eq (tgt := 162) hx hb dX8_fits_157 (by decide) (fun _ => ?_) (fun c9 => absurd c9 (by decide))
                          obtain ⟨x_31, ex_31⟩ : ∃ y : Int32, y = y9_4 + 1 := ⟨_, rfl⟩
                          refine lv_iinc (v := x_31) (lv' := [(4, .int x_31), (7, .int 0), (6, .int x_18), (5, .int y9_5), (3, .int x_3), (2, .int x_1), (0, .ref (ad 0)), (1, .int x0)]) hx hb dX8_fits_162 hl (k := 3) rfl (by rw [ex_31]; rfl) (by decide) rfl (fun ls hl => ?_)
                          have k_1 : (1 : Int32).toInt = 1 := by decide
                          have tx_31 : x_31.toInt = y9_4.toInt + (1 : Int32).toInt := by rw [ex_31]; exact t_add ⟨by omega, by omega⟩
                          obtain ⟨x_32, ex_32⟩ : ∃ y : Int32, y = y9_5 + 1 := ⟨_, rfl⟩
                          refine lv_iinc (v := x_32) (lv' := [(5, .int x_32), (4, .int x_31), (7, .int 0), (6, .int x_18), (3, .int x_3), (2, .int x_1), (0, .ref (ad 0)), (1, .int x0)]) hx hb dX8_fits_165 hl (k := 3) rfl (by rw [ex_32]; rfl) (by decide) rfl (fun ls hl => ?_)
                          have tx_32 : x_32.toInt = y9_5.toInt + (1 : Int32).toInt := by rw [ex_32]; exact t_add ⟨by omega, by omega⟩
                          refine lv_goto (tgt := 50) hx hb dX8_fits_168 (by decide) ?_
                          have zn_x_32 : (x_32.toNatClampNeg : Int) = x_32.toInt := t_nn (by omega)
                          exact ih_9 x_32 x_31 _ _ (by omega) (by omega) (by omega) (by omega) (FS_y hi9_0 (by omega) (by omega) ⟨by omega, by omega⟩ (by rw [hPp, hPq]; exact ⟨⟨by omega, by omega⟩, by omega, by omega⟩)) (by omega) (by omega) (by omega) hP hD hS ls (lv_sub hl [0, 1, 4, 5, 6, 7] rfl)
                        · have tc_30 : r_28.toInt = r_29.toInt := by rw [c_30]
                          refine lv_iconst (v := 1) hx hb dX8_fits_148 (by decide) ?_
                          refine lv_goto (tgt := 153) hx hb dX8_fits_149 (by decide) ?_
                          refine lv_istore (lv' := [(7, .int 1), (6, .int x_18), (5, .int y9_5), (4, .int y9_4), (3, .int x_3), (2, .int x_1), (0, .ref (ad 0)), (1, .int x0)]) hx hb dX8_fits_153 hl (by decide) rfl (fun ls hl => ?_)
                          refine lv_iload hx hb dX8_fits_155 (lv_at hl 0 rfl) ?_
                          refine lv_if_eq (tgt := 162) hx hb dX8_fits_157 (by decide) (fun c9 => absurd c9 (by decide)) (fun _ => ?_)
                          refine lv_iconst (v := 0) hx hb dX8_fits_160 (by decide) ?_
                          exact W.zret (ty := .boolean) (v := 0) hx hb hr rfl (fun t ht hW => ⟨⟨0, v, rfl, ⟨hv, rfl, by rw [← eFT, ← eP]; exact Or.inr ⟨rfl, FEr_0b (i := y9_5.toNatClampNeg) (by omega) (by omega) ⟨by omega, by omega⟩ (by rw [hPp, hPq]; exact fun q => by obtain ⟨⟨d1, d2⟩, d3, d4⟩ := q; omega)⟩⟩, by rw [ht]; exact hP, hD⟩, hS.F ht⟩) hS.2.2 dX8_fits_161
                · have tc_16 : x_14.toInt ≠ x_15.toInt := fun q => absurd (Int32.toInt_inj.mp q) c_16
                  refine lv_goto (tgt := 165) hx hb dX8_fits_85 (by decide) ?_
                  obtain ⟨x_17, ex_17⟩ : ∃ y : Int32, y = y9_5 + 1 := ⟨_, rfl⟩
                  refine lv_iinc (v := x_17) (lv' := [(5, .int x_17), (4, .int y9_4), (3, .int x_3), (2, .int x_1), (0, .ref (ad 0)), (1, .int x0)]) hx hb dX8_fits_165 hl (k := 0) rfl (by rw [ex_17]; rfl) (by decide) rfl (fun ls hl => ?_)
                  have k_1 : (1 : Int32).toInt = 1 := by decide
                  have tx_17 : x_17.toInt = y9_5.toInt + (1 : Int32).toInt := by rw [ex_17]; exact t_add ⟨by omega, by omega⟩
                  refine lv_goto (tgt := 50) hx hb dX8_fits_168 (by decide) ?_
                  have zn_x_17 : (x_17.toNatClampNeg : Int) = x_17.toInt := t_nn (by omega)
                  exact ih_9 x_17 y9_4 _ _ (by omega) (by omega) (by omega) (by omega) (FS_no hi9_0 (by omega) (fun q => by have q1 := q.1; have q2 := q.2; omega)) (by omega) (by omega) (by omega) hP hD hS ls (lv_sub hl [0, 1, 2, 3, 4, 5] rfl)
        exact hc_9 ((3 - (0 : Int32).toInt).toNat + 1) 0 0 _ _ (by omega) (by omega) (by omega) (by omega) (FS_0 (by decide) (by decide)) (by omega) (by omega) (by omega) hP hD hS ls (lv_sub hl [0, 1, 2, 3, 4, 5] rfl)
      · refine lv_if_ne (tgt := 44) hx hb dX8_fits_39 (by decide) (fun c9 => absurd c9 (by decide)) (fun _ => ?_)
        refine lv_iconst (v := 0) hx hb dX8_fits_42 (by decide) ?_
        exact W.zret (ty := .boolean) (v := 0) hx hb hr rfl (fun t ht hW => ⟨⟨0, v, rfl, ⟨hv, rfl, by rw [← eFT, ← eP]; exact Or.inr ⟨rfl, FEr_0a (by omega) (by rw [hPp, eFT]; exact fun q => hf_8 (by have q9 := q.2; rw [← ex_6] at q9; exact q9))⟩⟩, by rw [ht]; exact hP, hD⟩, hS.F ht⟩) hS.2.2 dX8_fits_43
    · have hs9 := st_pt (x := x_3) ⟨by omega, by omega⟩
      refine lv_if_eq (tgt := 42) hx hb dX8_fits_25 (by decide) (fun _ => ?_) (fun c9 => absurd c9 (by decide))
      refine lv_iconst (v := 0) hx hb dX8_fits_42 (by decide) ?_
      exact W.zret (ty := .boolean) (v := 0) hx hb hr rfl (fun t ht hW => ⟨⟨0, v, rfl, ⟨hv, rfl, by rw [← eFT, ← eP]; exact Or.inr ⟨rfl, FEr_0a (by omega) (by rw [hPp, eFT]; exact fun q => absurd q.1 (by have q9 := ha_5; omega))⟩⟩, by rw [ht]; exact hP, hD⟩, hS.F ht⟩) hS.2.2 dX8_fits_43
  · have tc_2 : x_1.toInt = (18 : Int32).toInt := by rw [c_2]
    refine lv_iconst (v := 1) hx hb dX8_fits_13 (by decide) ?_
    exact W.zret (ty := .boolean) (v := 1) hx hb hr rfl (fun t ht hW => ⟨⟨1, v, rfl, ⟨hv, rfl, by rw [← eFT, ← eP]; exact Or.inl ⟨rfl, Or.inl (by omega)⟩⟩, by rw [ht]; exact hP, hD⟩, hS.F ht⟩) hS.2.2 dX8_fits_14
