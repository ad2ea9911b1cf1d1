
theorem t_half {x : Int32} (h : 0 ≤ x.toInt) : (x / 2).toInt = x.toInt / 2 := by
  have k2 : (2 : Int32).toInt = 2 := by decide
  rw [Int32.toInt_div_of_ne_right _ _ (by decide), k2, Int.tdiv_eq_ediv_of_nonneg h]
/-- v may have been the other's number, as far as a side sees -/
def lke (sd own oth v : Int) : Prop := (sd = 0 ∧ ((oth < own ∧ v < own) ∨ (own ≤ oth ∧ own ≤ v ∧ (own + v) / 2 = (own + oth) / 2))) ∨ (sd = 1 ∧ ((own < oth ∧ own < v) ∨ (oth ≤ own ∧ v ≤ own ∧ (v + own) / 2 = (oth + own) / 2)))
def lkR (sd g own oth r : Int) : Prop := (0 ≤ r ∧ r ≤ 100 ∧ lke sd own oth r) ∧ ∀ w : Int, 0 ≤ w → w ≤ 100 → lke sd own oth w → (g = 0 → r ≤ w) ∧ (g = 1 → w ≤ r)
def lkI (sd g own oth y b : Int) : Prop := (b = -5 ∧ ∀ w : Int, 0 ≤ w → w < y → ¬ lke sd own oth w) ∨ (0 ≤ b ∧ b < y ∧ lke sd own oth b ∧ ∀ w : Int, 0 ≤ w → w < y → lke sd own oth w → (g = 0 → b ≤ w) ∧ (g = 1 → w ≤ b))
section LKI
variable {sd g own oth y z b : Int}
theorem lkI_0 (hb : b = -5) (hy : y ≤ 0) : lkI sd g own oth y b := Or.inl ⟨hb, fun w h1 h2 => by omega⟩
theorem lkI_no (hz : z = y + 1) (h : lkI sd g own oth y b) (hn : ¬ lke sd own oth y) : lkI sd g own oth z b := by
  have key : ∀ w : Int, w < z → lke sd own oth w → w < y := fun w h1 h2 => by
    by_cases e : w = y
    · rw [e] at h2
      exact absurd h2 hn
    · omega
  rcases h with ⟨h1, h2⟩ | ⟨h1, h2, h3, h4⟩
  · exact Or.inl ⟨h1, fun w a1 a2 a3 => h2 w a1 (key w a2 a3) a3⟩
  · exact Or.inr ⟨h1, by omega, h3, fun w a1 a2 a3 => h4 w a1 (key w a2 a3) a3⟩
theorem lkI_new (hy : 0 ≤ y) (hz : z = y + 1) (h : lkI sd g own oth y b) (hl : lke sd own oth y) (hg : b < 0 ∨ g = 1) : lkI sd g own oth z y := by
  refine Or.inr ⟨hy, by omega, hl, fun w a1 a2 a3 => ⟨fun g0 => ?_, fun _ => by omega⟩⟩
  rcases h with ⟨h1, h2⟩ | ⟨h1, h2, h3, h4⟩
  · by_cases e : w < y
    · exact absurd a3 (h2 w a1 e)
    · omega
  · omega
theorem lkI_old (hz : z = y + 1) (h : lkI sd g own oth y b) (hb : 0 ≤ b) (hg : g = 0) : lkI sd g own oth z b := by
  rcases h with ⟨h1, h2⟩ | ⟨h1, h2, h3, h4⟩
  · omega
  · refine Or.inr ⟨h1, by omega, h3, fun w a1 a2 a3 => ⟨fun _ => ?_, fun q => by omega⟩⟩
    by_cases e : w < y
    · exact (h4 w a1 e a3).1 hg
    · omega
theorem lkI_end (hy : y = 101) (h : lkI sd g own oth y b) (ho : 0 ≤ oth ∧ oth ≤ 100) (hs : sd = 0 ∨ sd = 1) : lkR sd g own oth b := by
  have hl : lke sd own oth oth := by
    unfold lke
    omega
  rcases h with ⟨h1, h2⟩ | ⟨h1, h2, h3, h4⟩
  · exact absurd hl (h2 oth ho.1 (by omega))
  · exact ⟨⟨h1, by omega, h3⟩, fun w a1 a2 a3 => h4 w a1 (by omega) a3⟩
end LKI

theorem lq_00 {own oth r : Int} (ho : 0 ≤ own ∧ own ≤ 100) (hq : 0 ≤ oth ∧ oth ≤ 100) (h : lkR 0 0 own oth r) : (oth < own → r = 0) ∧ (own ≤ oth → ∀ S : Int, S = (own + oth) / 2 → (own < 2 * S - own → r = 2 * S - own) ∧ (¬ own < 2 * S - own → r = own)) := by
  obtain ⟨⟨h1, h2, h3⟩, h4⟩ := h
  unfold lke at h3 h4
  refine ⟨fun c => ?_, fun c S hS => ⟨fun d => ?_, fun d => ?_⟩⟩
  · have h5 := (h4 (0) (by omega) (by omega) (by omega)).1 rfl
    omega
  · have h5 := (h4 (2 * S - own) (by omega) (by omega) (by omega)).1 rfl
    omega
  · have h5 := (h4 (own) (by omega) (by omega) (by omega)).1 rfl
    omega

theorem lq_01 {own oth r : Int} (ho : 0 ≤ own ∧ own ≤ 100) (hq : 0 ≤ oth ∧ oth ≤ 100) (h : lkR 0 1 own oth r) : (oth < own → r = own - 1) ∧ (own ≤ oth → ∀ S : Int, S = (own + oth) / 2 → (2 * S + 1 - own < 100 → r = 2 * S + 1 - own) ∧ (¬ 2 * S + 1 - own < 100 → r = 100)) := by
  obtain ⟨⟨h1, h2, h3⟩, h4⟩ := h
  unfold lke at h3 h4
  refine ⟨fun c => ?_, fun c S hS => ⟨fun d => ?_, fun d => ?_⟩⟩
  · have h5 := (h4 (own - 1) (by omega) (by omega) (by omega)).2 rfl
    omega
  · have h5 := (h4 (2 * S + 1 - own) (by omega) (by omega) (by omega)).2 rfl
    omega
  · have h5 := (h4 (100) (by omega) (by omega) (by omega)).2 rfl
    omega

theorem lq_10 {own oth r : Int} (ho : 0 ≤ own ∧ own ≤ 100) (hq : 0 ≤ oth ∧ oth ≤ 100) (h : lkR 1 0 own oth r) : (own < oth → r = own + 1) ∧ (oth ≤ own → ∀ S : Int, S = (own + oth) / 2 → (0 < 2 * S - own → r = 2 * S - own) ∧ (¬ 0 < 2 * S - own → r = 0)) := by
  obtain ⟨⟨h1, h2, h3⟩, h4⟩ := h
  unfold lke at h3 h4
  refine ⟨fun c => ?_, fun c S hS => ⟨fun d => ?_, fun d => ?_⟩⟩
  · have h5 := (h4 (own + 1) (by omega) (by omega) (by omega)).1 rfl
    omega
  · have h5 := (h4 (2 * S - own) (by omega) (by omega) (by omega)).1 rfl
    omega
  · have h5 := (h4 (0) (by omega) (by omega) (by omega)).1 rfl
    omega

theorem lq_11 {own oth r : Int} (ho : 0 ≤ own ∧ own ≤ 100) (hq : 0 ≤ oth ∧ oth ≤ 100) (h : lkR 1 1 own oth r) : (own < oth → r = 100) ∧ (oth ≤ own → ∀ S : Int, S = (own + oth) / 2 → (2 * S + 1 - own < own → r = 2 * S + 1 - own) ∧ (¬ 2 * S + 1 - own < own → r = own)) := by
  obtain ⟨⟨h1, h2, h3⟩, h4⟩ := h
  unfold lke at h3 h4
  refine ⟨fun c => ?_, fun c S hS => ⟨fun d => ?_, fun d => ?_⟩⟩
  · have h5 := (h4 (100) (by omega) (by omega) (by omega)).2 rfl
    omega
  · have h5 := (h4 (2 * S + 1 - own) (by omega) (by omega) (by omega)).2 rfl
    omega
  · have h5 := (h4 (own) (by omega) (by omega) (by omega)).2 rfl
    omega

set_option maxHeartbeats 4000000 in
set_option maxRecDepth 100000 in
theorem e_X0_hasMet (l : Launch) (dC : Nat → ClassId) (dI : Nat → Nat → Nat) (cy : Nat → ClassId) (sz : Nat) (ad : Nat → Nat) (kv : Value) (N : Nat) (hN : 119 ≤ N) (v : Nat → Nat → Int32) (hv : Iv v) (i : Nat) (hi : i < 6) (x0 : Int32) : Met l yX0_hasMet wsX0_hasMet ({ frames := 0, cells := 0, slots := 0, locals := 0 }) (va_Pc [.ref (ad (29 + 15 * i)), .int x0] (ex_Pre dC dI cy sz (wl ad kv cy N v))) (va_Qi (fun (r : Int32) (u : Nat → Nat → Int32) => Iv u ∧ u = v ∧ ((r = 1 ∧ ((v (29 + 15 * i) 0).toInt = 1 ∧ x0.toInt + 1 = (v (29 + 15 * i) 2).toInt)) ∨ (r = 0 ∧ ¬ ((v (29 + 15 * i) 0).toInt = 1 ∧ x0.toInt + 1 = (v (29 + 15 * i) 2).toInt)))) (fun u t => ex_Pst dC dI (va_A (wl ad kv cy N v) sz) (wl ad kv cy N u) t) (va_A (wl ad kv cy N v) sz)) 0 0 (va_A (wl ad kv cy N v) sz) := by
  refine Met.ofW (cc := cX0_hasMet) (maxL := 2) (ret := (some .boolean)) (by decide) rfl ?_
  intro p e s m args below meth c s₁ B hml hv
  obtain ⟨rfl, hsz, hE, hP, hK, hD0⟩ := hv
  have hx := B.exec
  have hb := B.bytes
  have hr := B.returns
  have hts := atoms_spec (ws := wsX0_hasMet) B.pre
  have hown : s.vm.findClass RX0 = some m.cls := findClass_of_methodNamed B.named
  have hlocks := B.notSynchronized
  subst hsz
  have hD := hD0.self (sz := s.heap.size)
  generalize hAe : va_A (wl ad kv cy N v) s.heap.size = A at hD ⊢
  have hA : ∀ q : Nat, s.heap.size ≤ q → A q := fun q h => by rw [← hAe]; exact Or.inr h
  have hS : va_S A s.heap s.heap [] := va_S.rf
  have hP : va_P (dC, dI) vwCl (wl ad kv cy N v) s.heap := hP
  have hl := lv_entry ([.ref (ad (29 + 15 * i)), .int x0]) (n := 2) (Nat.le_of_ble_eq_true rfl)
  rw [lg_entry_eq]
  generalize (lg_sl ([.ref (ad (29 + 15 * i)), .int x0]) ++ List.replicate (2 - (lg_sl ([.ref (ad (29 + 15 * i)), .int x0])).length) Slot.unset).toArray = ls at hl ⊢
  have hl : lv_has ls 2 [(0, .ref (ad (29 + 15 * i))), (1, .int x0)] := hl
  refine lv_aload_n hx hb dX0_hasMet_0 rfl (lv_at hl 0 rfl) ?_
  refine va_get (D := (dC, dI)) (ci := 0) (v := .int (v (29 + 15 * i) 0)) (C := RX0) (T := TX0) (N := 11) hx hb hts iwX0_hasMet_X0 hown hK hP (29 + 15 * i) (wl_at (by omega) (ce_9 (kd_c _ hi).1.1)) rfl 0 (by decide) (hts (.fieldLink RX0 33 "QuietStairs$Case" "state" "I") fwX0_hasMet_1) (fun _ h9 => h9) rfl dX0_hasMet_1 ?_
  refine lv_topi (fun x_1 ex_1 => ?_)
  have qx_1 : x_1.toInt = (v (29 + 15 * i) (0)).toInt := congrArg Int32.toInt ex_1
  refine lv_iconst (v := 1) hx hb dX0_hasMet_4 (by decide) ?_
  have k_1 : (1 : Int32).toInt = 1 := by decide
  refine lv_icmp_ne (tgt := 22) hx hb dX0_hasMet_5 (by decide) (fun c_2 => ?_) (fun c_2 => ?_)
  · have tc_2 : x_1.toInt ≠ (1 : Int32).toInt := fun q => absurd (Int32.toInt_inj.mp q) c_2
    refine lv_iconst (v := 0) hx hb dX0_hasMet_22 (by decide) ?_
    exact W.zret (ty := .boolean) (v := 0) hx hb hr rfl (fun t ht hW => ⟨⟨0, v, rfl, ⟨hv, rfl, Or.inr ⟨rfl, by omega⟩⟩, by rw [ht]; exact hP, hD⟩, hS.F ht⟩) hS.2.2 dX0_hasMet_23
  · have tc_2 : x_1.toInt = (1 : Int32).toInt := by rw [c_2]
    refine lv_iload_n hx hb dX0_hasMet_8 rfl (lv_at hl 1 rfl) ?_
    refine lv_aload_n hx hb dX0_hasMet_9 rfl (lv_at hl 0 rfl) ?_
    refine va_get (D := (dC, dI)) (ci := 0) (v := .int (v (29 + 15 * i) 2)) (C := RX0) (T := TX0) (N := 11) hx hb hts iwX0_hasMet_X0 hown hK hP (29 + 15 * i) (wl_at (by omega) (ce_9 (kd_c _ hi).1.1)) rfl 2 (by decide) (hts (.fieldLink RX0 40 "QuietStairs$Case" "roundsOver" "I") fwX0_hasMet_2) (fun _ h9 => h9) rfl dX0_hasMet_10 ?_
    refine lv_topi (fun x_3 ex_3 => ?_)
    have bzx_3 : 0 ≤ x_3.toInt ∧ x_3.toInt ≤ 5 := by rw [ex_3]; exact hv.at (K := 9) (kd_c _ hi).1.1 rfl
    have qx_3 : x_3.toInt = (v (29 + 15 * i) (2)).toInt := congrArg Int32.toInt ex_3
    refine lv_iconst (v := 1) hx hb dX0_hasMet_13 (by decide) ?_
    refine lv_isub hx hb dX0_hasMet_14 ?_
    refine lv_topi (fun x_4 ex_4 => ?_)
    have tx_4 : x_4.toInt = x_3.toInt - (1 : Int32).toInt := by rw [ex_4]; exact t_sub ⟨by omega, by omega⟩
    refine lv_icmp_ne (tgt := 22) hx hb dX0_hasMet_15 (by decide) (fun c_5 => ?_) (fun c_5 => ?_)
    · have tc_5 : x0.toInt ≠ x_4.toInt := fun q => absurd (Int32.toInt_inj.mp q) c_5
      refine lv_iconst (v := 0) hx hb dX0_hasMet_22 (by decide) ?_
      exact W.zret (ty := .boolean) (v := 0) hx hb hr rfl (fun t ht hW => ⟨⟨0, v, rfl, ⟨hv, rfl, Or.inr ⟨rfl, by omega⟩⟩, by rw [ht]; exact hP, hD⟩, hS.F ht⟩) hS.2.2 dX0_hasMet_23
    · have tc_5 : x0.toInt = x_4.toInt := by rw [c_5]
      refine lv_iconst (v := 1) hx hb dX0_hasMet_18 (by decide) ?_
      refine lv_goto (tgt := 23) hx hb dX0_hasMet_19 (by decide) ?_
      exact W.zret (ty := .boolean) (v := 1) hx hb hr rfl (fun t ht hW => ⟨⟨1, v, rfl, ⟨hv, rfl, Or.inl ⟨rfl, by omega, by omega⟩⟩, by rw [ht]; exact hP, hD⟩, hS.F ht⟩) hS.2.2 dX0_hasMet_23

set_option maxHeartbeats 4000000 in
set_option maxRecDepth 100000 in
theorem e_X0_leastOfOther_0 (l : Launch) (dC : Nat → ClassId) (dI : Nat → Nat → Nat) (cy : Nat → ClassId) (sz : Nat) (ad : Nat → Nat) (kv : Value) (N : Nat) (hN : 119 ≤ N) (v : Nat → Nat → Int32) (hv : Iv v) (i : Nat) (hi : i < 6) (x0 : Int32) (ht : 0 ≤ x0.toInt ∧ x0.toInt ≤ 4) : Met l yX0_leastOfOther wsX0_leastOfOther ({ frames := 1, cells := 0, slots := 0, locals := 64 }) (va_Pc [.ref (ad (29 + 15 * i)), .int 0, .int x0] (ex_Pre dC dI cy sz (wl ad kv cy N v))) (va_Qi (fun (r : Int32) (u : Nat → Nat → Int32) => Iv u ∧ u = v ∧ (((v (29 + 15 * i) 0).toInt = 1 ∧ x0.toInt + 1 = (v (29 + 15 * i) 2).toInt) → r = (if v (33 + 15 * i + 0) x0.toNatClampNeg < 2 * v (29 + 15 * i) 1 - v (33 + 15 * i + 0) x0.toNatClampNeg then 2 * v (29 + 15 * i) 1 - v (33 + 15 * i + 0) x0.toNatClampNeg else v (33 + 15 * i + 0) x0.toNatClampNeg)) ∧ (¬ ((v (29 + 15 * i) 0).toInt = 1 ∧ x0.toInt + 1 = (v (29 + 15 * i) 2).toInt) → r = 0)) (fun u t => ex_Pst dC dI (va_A (wl ad kv cy N v) sz) (wl ad kv cy N u) t) (va_A (wl ad kv cy N v) sz)) 0 0 (va_A (wl ad kv cy N v) sz) := by
  refine Met.ofW (cc := cX0_leastOfOther) (maxL := 5) (ret := (some .int)) (by decide) rfl ?_
  intro p e s m args below meth c s₁ B hml hv
  obtain ⟨rfl, hsz, hE, hP, hK, hD0⟩ := hv
  have hx := B.exec
  have hb := B.bytes
  have hr := B.returns
  have hts := atoms_spec (ws := wsX0_leastOfOther) B.pre
  have hown : s.vm.findClass RX0 = some m.cls := findClass_of_methodNamed B.named
  have hlocks := B.notSynchronized
  subst hsz
  have hD := hD0.self (sz := s.heap.size)
  generalize hAe : va_A (wl ad kv cy N v) s.heap.size = A at hD ⊢
  have hA : ∀ q : Nat, s.heap.size ≤ q → A q := fun q h => by rw [← hAe]; exact Or.inr h
  have hS : va_S A s.heap s.heap [] := va_S.rf
  have hP : va_P (dC, dI) vwCl (wl ad kv cy N v) s.heap := hP
  have hl := lv_entry ([.ref (ad (29 + 15 * i)), .int 0, .int x0]) (n := 5) (Nat.le_of_ble_eq_true rfl)
  rw [lg_entry_eq]
  generalize (lg_sl ([.ref (ad (29 + 15 * i)), .int 0, .int x0]) ++ List.replicate (5 - (lg_sl ([.ref (ad (29 + 15 * i)), .int 0, .int x0])).length) Slot.unset).toArray = ls at hl ⊢
  have hl : lv_has ls 5 [(0, .ref (ad (29 + 15 * i))), (1, .int 0), (2, .int x0)] := hl
  have zn_x0 : (x0.toNatClampNeg : Int) = x0.toInt := t_nn (by omega)
  have hx5 : x0.toNatClampNeg < 5 := by omega
  refine lv_aload_n hx hb dX0_leastOfOther_0 rfl (lv_at hl 0 rfl) ?_
  refine va_get (D := (dC, dI)) (ci := 0) (v := .ref (ad (29 + 15 * i + 3))) (C := RX0) (T := TX0) (N := 11) hx hb hts iwX0_leastOfOther_X0 hown hK hP (29 + 15 * i) (wl_at (by omega) (ce_9 (kd_c _ hi).1.1)) rfl 8 (by decide) (hts (.fieldLink RX0 20 "QuietStairs$Case" "offers" "[[I") fwX0_leastOfOther_1) (fun _ h9 => h9) rfl dX0_leastOfOther_1 ?_
  refine W.eq (g2 := F0 m 4 ls [.ref (ad (32 + 15 * i))]) (by rw [show 29 + 15 * i + 3 = 32 + 15 * i from by omega]) ?_
  refine lv_iload_n hx hb dX0_leastOfOther_4 rfl (lv_at hl 1 rfl) ?_
  have k_0 : (0 : Int32).toInt = 0 := by decide
  refine ya_ald hx hb hK hP (32 + 15 * i) (wl_at (by omega) (ce_11 (kd_c _ hi).1.2.2.2.1)) (by unfold vp_in; decide) dX0_leastOfOther_5 ?_
  refine W.eq (g2 := F0 m 6 ls [.ref (ad (33 + 15 * i + 0))]) (by show F0 m 6 ls (.ref (ad (32 + 15 * i + 1 + 0)) :: _) = _; rw [show 32 + 15 * i + 1 + 0 = 33 + 15 * i + 0 from by omega]) ?_
  refine lv_iload_n hx hb dX0_leastOfOther_6 rfl (lv_at hl 2 rfl) ?_
  refine va_iald hx hb hK hP (33 + 15 * i + 0) 0 (wl_at (by omega) (ce_12 (kd_o _ hi 0 (by decide)).1.1)) rfl (vp_in_iff.mpr ⟨by omega, by omega⟩) dX0_leastOfOther_7 ?_
  refine lv_topi (fun x_1 ex_1 => ?_)
  have qx_1 : x_1.toInt = (v (33 + 15 * i + 0) (x0.toNatClampNeg)).toInt := congrArg Int32.toInt ex_1
  refine lv_istore_n (lv' := [(3, .int x_1), (0, .ref (ad (29 + 15 * i))), (1, .int 0), (2, .int x0)]) hx hb dX0_leastOfOther_8 rfl hl (by decide) rfl (fun ls hl => ?_)
  refine lv_aload_n hx hb dX0_leastOfOther_9 rfl (lv_at hl 1 rfl) ?_
  refine lv_iload_n hx hb dX0_leastOfOther_10 rfl (lv_at hl 3 rfl) ?_
  refine yw_i (w1 := fun (u : Nat → Nat → Int32) => wl ad kv cy N u) hD hS hA (va_runV (As := [.int x0]) (rest := []) ⟨hx, hb, hml, hown, hts⟩ (e_X0_hasMet l dC dI cy _ ad kv N hN v hv i hi x0) (cwV 1 hts gX0_leastOfOther_X0_hasMet rfl rfl rfl hd_V_X0_hasMet_1 ⟨Nat.le_of_ble_eq_true rfl, Nat.le_of_ble_eq_true rfl⟩) (yw_preV hE hK hP hD (ci := 0) (q := (RX0, TX0, 11)) (q0 := (29 + 15 * i)) rfl (wl_at (by omega) (ce_9 (kd_c _ hi).1.1))) rfl rfl hl.1 rfl (lv_room (Nat.le_of_ble_eq_true rfl)) dX0_leastOfOther_11 ⟨Nat.le_of_ble_eq_true rfl, Nat.le_of_ble_eq_true rfl⟩) (fun r_2 v_2 H locs hw_2 hP hD hS => ?_)
  obtain ⟨-, hu_2, hw_2⟩ := hw_2
  replace hu_2 := hu_2.symm
  subst hu_2
  rcases hw_2 with ⟨rfl, hm_3⟩ | ⟨rfl, hm_3⟩
  · refine lv_if_ne (tgt := 29) hx hb dX0_leastOfOther_14 (by decide) (fun _ => ?_) (fun c9 => absurd c9 (by decide))
    refine lv_iload_n hx hb dX0_leastOfOther_29 rfl (lv_at hl 2 rfl) ?_
    refine lv_if_ne (tgt := 37) hx hb dX0_leastOfOther_30 (by decide) (fun c9 => absurd c9 (by decide)) (fun _ => ?_)
    refine lv_iload_n hx hb dX0_leastOfOther_33 rfl (lv_at hl 0 rfl) ?_
    refine lv_goto (tgt := 38) hx hb dX0_leastOfOther_34 (by decide) ?_
    refine lv_istore (lv' := [(4, .int x_1), (3, .int x_1), (0, .ref (ad (29 + 15 * i))), (1, .int 0), (2, .int x0)]) hx hb dX0_leastOfOther_38 hl (by decide) rfl (fun ls hl => ?_)
    refine lv_iload hx hb dX0_leastOfOther_40 (lv_at hl 0 rfl) ?_
    refine lv_iconst (v := 2) hx hb dX0_leastOfOther_42 (by decide) ?_
    refine lv_aload_n hx hb dX0_leastOfOther_43 rfl (lv_at hl 2 rfl) ?_
    refine va_get (D := (dC, dI)) (ci := 0) (v := .int (v (29 + 15 * i) 1)) (C := RX0) (T := TX0) (N := 11) hx hb hts iwX0_leastOfOther_X0 hown hK hP (29 + 15 * i) (wl_at (by omega) (ce_9 (kd_c _ hi).1.1)) rfl 1 (by decide) (hts (.fieldLink RX0 37 "QuietStairs$Case" "sum" "I") fwX0_leastOfOther_2) (fun _ h9 => h9) rfl dX0_leastOfOther_44 ?_
    refine lv_topi (fun x_4 ex_4 => ?_)
    have qx_4 : x_4.toInt = (v (29 + 15 * i) (1)).toInt := congrArg Int32.toInt ex_4
    refine lv_imul hx hb dX0_leastOfOther_47 ?_
    refine lv_topi (fun x_5 ex_5 => ?_)
    have k_2 : (2 : Int32).toInt = 2 := by decide
    refine lv_iload_n hx hb dX0_leastOfOther_48 rfl (lv_at hl 1 rfl) ?_
    refine lv_isub hx hb dX0_leastOfOther_49 ?_
    refine lv_topi (fun x_6 ex_6 => ?_)
    refine va_mmax hx hb (hml.trans hl.1.symm) hown (hts (.methodLink RX0 56 Lib.Math.max.name) fwX0_leastOfOther_3) (hts (.static Lib.Math.max.name) fwX0_leastOfOther_4) (hts (.initialized "java/lang/Math") fwX0_leastOfOther_5) (hts (.code Lib.Math.max.name Lib.Math.max.code 2 (some .int)) fwX0_leastOfOther_6) (Nat.le_of_ble_eq_true rfl) (Nat.le_of_ble_eq_true rfl) (Nat.le_of_ble_eq_true rfl) (Nat.le_of_ble_eq_true rfl) dX0_leastOfOther_50 ?_
    refine lv_topi (fun x_7 ex_7 => ?_)
    exact W.iret (v := x_7) hx hb hr (fun t ht hW => ⟨⟨x_7, v, rfl, ⟨hv, rfl, fun q => by rw [ex_7, ex_6, ex_5, ex_4, ex_1], fun q => absurd hm_3 q⟩, by rw [ht]; exact hP, hD⟩, hS.F ht⟩) hS.2.2 dX0_leastOfOther_53
  · refine lv_if_ne (tgt := 29) hx hb dX0_leastOfOther_14 (by decide) (fun c9 => absurd c9 (by decide)) (fun _ => ?_)
    refine lv_iload_n hx hb dX0_leastOfOther_17 rfl (lv_at hl 2 rfl) ?_
    refine lv_if_ne (tgt := 25) hx hb dX0_leastOfOther_18 (by decide) (fun c9 => absurd c9 (by decide)) (fun _ => ?_)
    refine lv_iconst (v := 0) hx hb dX0_leastOfOther_21 (by decide) ?_
    refine lv_goto (tgt := 28) hx hb dX0_leastOfOther_22 (by decide) ?_
    exact W.iret (v := 0) hx hb hr (fun t ht hW => ⟨⟨0, v, rfl, ⟨hv, rfl, fun q => absurd q hm_3, fun q => rfl⟩, by rw [ht]; exact hP, hD⟩, hS.F ht⟩) hS.2.2 dX0_leastOfOther_28

set_option maxHeartbeats 4000000 in
set_option maxRecDepth 100000 in
theorem e_X0_greatestOfOther_0 (l : Launch) (dC : Nat → ClassId) (dI : Nat → Nat → Nat) (cy : Nat → ClassId) (sz : Nat) (ad : Nat → Nat) (kv : Value) (N : Nat) (hN : 119 ≤ N) (v : Nat → Nat → Int32) (hv : Iv v) (i : Nat) (hi : i < 6) (x0 : Int32) (ht : 0 ≤ x0.toInt ∧ x0.toInt ≤ 4) : Met l yX0_greatestOfOther wsX0_greatestOfOther ({ frames := 1, cells := 0, slots := 0, locals := 64 }) (va_Pc [.ref (ad (29 + 15 * i)), .int 0, .int x0] (ex_Pre dC dI cy sz (wl ad kv cy N v))) (va_Qi (fun (r : Int32) (u : Nat → Nat → Int32) => Iv u ∧ u = v ∧ (((v (29 + 15 * i) 0).toInt = 1 ∧ x0.toInt + 1 = (v (29 + 15 * i) 2).toInt) → r = (if 2 * v (29 + 15 * i) 1 + 1 - v (33 + 15 * i + 0) x0.toNatClampNeg < 100 then 2 * v (29 + 15 * i) 1 + 1 - v (33 + 15 * i + 0) x0.toNatClampNeg else 100)) ∧ (¬ ((v (29 + 15 * i) 0).toInt = 1 ∧ x0.toInt + 1 = (v (29 + 15 * i) 2).toInt) → r = v (33 + 15 * i + 0) x0.toNatClampNeg - 1)) (fun u t => ex_Pst dC dI (va_A (wl ad kv cy N v) sz) (wl ad kv cy N u) t) (va_A (wl ad kv cy N v) sz)) 0 0 (va_A (wl ad kv cy N v) sz) := by
  refine Met.ofW (cc := cX0_greatestOfOther) (maxL := 5) (ret := (some .int)) (by decide) rfl ?_
  intro p e s m args below meth c s₁ B hml hv
  obtain ⟨rfl, hsz, hE, hP, hK, hD0⟩ := hv
  have hx := B.exec
  have hb := B.bytes
  have hr := B.returns
  have hts := atoms_spec (ws := wsX0_greatestOfOther) B.pre
  have hown : s.vm.findClass RX0 = some m.cls := findClass_of_methodNamed B.named
  have hlocks := B.notSynchronized
  subst hsz
  have hD := hD0.self (sz := s.heap.size)
  generalize hAe : va_A (wl ad kv cy N v) s.heap.size = A at hD ⊢
  have hA : ∀ q : Nat, s.heap.size ≤ q → A q := fun q h => by rw [← hAe]; exact Or.inr h
  have hS : va_S A s.heap s.heap [] := va_S.rf
  have hP : va_P (dC, dI) vwCl (wl ad kv cy N v) s.heap := hP
  have hl := lv_entry ([.ref (ad (29 + 15 * i)), .int 0, .int x0]) (n := 5) (Nat.le_of_ble_eq_true rfl)
  rw [lg_entry_eq]
  generalize (lg_sl ([.ref (ad (29 + 15 * i)), .int 0, .int x0]) ++ List.replicate (5 - (lg_sl ([.ref (ad (29 + 15 * i)), .int 0, .int x0])).length) Slot.unset).toArray = ls at hl ⊢
  have hl : lv_has ls 5 [(0, .ref (ad (29 + 15 * i))), (1, .int 0), (2, .int x0)] := hl
  have zn_x0 : (x0.toNatClampNeg : Int) = x0.toInt := t_nn (by omega)
  have hx5 : x0.toNatClampNeg < 5 := by omega
  refine lv_aload_n hx hb dX0_greatestOfOther_0 rfl (lv_at hl 0 rfl) ?_
  refine va_get (D := (dC, dI)) (ci := 0) (v := .ref (ad (29 + 15 * i + 3))) (C := RX0) (T := TX0) (N := 11) hx hb hts iwX0_greatestOfOther_X0 hown hK hP (29 + 15 * i) (wl_at (by omega) (ce_9 (kd_c _ hi).1.1)) rfl 8 (by decide) (hts (.fieldLink RX0 20 "QuietStairs$Case" "offers" "[[I") fwX0_greatestOfOther_1) (fun _ h9 => h9) rfl dX0_greatestOfOther_1 ?_
  refine W.eq (g2 := F0 m 4 ls [.ref (ad (32 + 15 * i))]) (by rw [show 29 + 15 * i + 3 = 32 + 15 * i from by omega]) ?_
  refine lv_iload_n hx hb dX0_greatestOfOther_4 rfl (lv_at hl 1 rfl) ?_
  have k_0 : (0 : Int32).toInt = 0 := by decide
  refine ya_ald hx hb hK hP (32 + 15 * i) (wl_at (by omega) (ce_11 (kd_c _ hi).1.2.2.2.1)) (by unfold vp_in; decide) dX0_greatestOfOther_5 ?_
  refine W.eq (g2 := F0 m 6 ls [.ref (ad (33 + 15 * i + 0))]) (by show F0 m 6 ls (.ref (ad (32 + 15 * i + 1 + 0)) :: _) = _; rw [show 32 + 15 * i + 1 + 0 = 33 + 15 * i + 0 from by omega]) ?_
  refine lv_iload_n hx hb dX0_greatestOfOther_6 rfl (lv_at hl 2 rfl) ?_
  refine va_iald hx hb hK hP (33 + 15 * i + 0) 0 (wl_at (by omega) (ce_12 (kd_o _ hi 0 (by decide)).1.1)) rfl (vp_in_iff.mpr ⟨by omega, by omega⟩) dX0_greatestOfOther_7 ?_
  refine lv_topi (fun x_1 ex_1 => ?_)
  have qx_1 : x_1.toInt = (v (33 + 15 * i + 0) (x0.toNatClampNeg)).toInt := congrArg Int32.toInt ex_1
  refine lv_istore_n (lv' := [(3, .int x_1), (0, .ref (ad (29 + 15 * i))), (1, .int 0), (2, .int x0)]) hx hb dX0_greatestOfOther_8 rfl hl (by decide) rfl (fun ls hl => ?_)
  refine lv_aload_n hx hb dX0_greatestOfOther_9 rfl (lv_at hl 1 rfl) ?_
  refine lv_iload_n hx hb dX0_greatestOfOther_10 rfl (lv_at hl 3 rfl) ?_
  refine yw_i (w1 := fun (u : Nat → Nat → Int32) => wl ad kv cy N u) hD hS hA (va_runV (As := [.int x0]) (rest := []) ⟨hx, hb, hml, hown, hts⟩ (e_X0_hasMet l dC dI cy _ ad kv N hN v hv i hi x0) (cwV 1 hts gX0_greatestOfOther_X0_hasMet rfl rfl rfl hd_V_X0_hasMet_1 ⟨Nat.le_of_ble_eq_true rfl, Nat.le_of_ble_eq_true rfl⟩) (yw_preV hE hK hP hD (ci := 0) (q := (RX0, TX0, 11)) (q0 := (29 + 15 * i)) rfl (wl_at (by omega) (ce_9 (kd_c _ hi).1.1))) rfl rfl hl.1 rfl (lv_room (Nat.le_of_ble_eq_true rfl)) dX0_greatestOfOther_11 ⟨Nat.le_of_ble_eq_true rfl, Nat.le_of_ble_eq_true rfl⟩) (fun r_2 v_2 H locs hw_2 hP hD hS => ?_)
  obtain ⟨-, hu_2, hw_2⟩ := hw_2
  replace hu_2 := hu_2.symm
  subst hu_2
  rcases hw_2 with ⟨rfl, hm_3⟩ | ⟨rfl, hm_3⟩
  · refine lv_if_ne (tgt := 30) hx hb dX0_greatestOfOther_14 (by decide) (fun _ => ?_) (fun c9 => absurd c9 (by decide))
    refine lv_iload_n hx hb dX0_greatestOfOther_30 rfl (lv_at hl 2 rfl) ?_
    refine lv_if_ne (tgt := 39) hx hb dX0_greatestOfOther_31 (by decide) (fun c9 => absurd c9 (by decide)) (fun _ => ?_)
    refine lv_bipush (v := 100) hx hb dX0_greatestOfOther_34 (by decide) ?_
    refine lv_goto (tgt := 40) hx hb dX0_greatestOfOther_36 (by decide) ?_
    refine lv_istore (lv' := [(4, .int 100), (3, .int x_1), (0, .ref (ad (29 + 15 * i))), (1, .int 0), (2, .int x0)]) hx hb dX0_greatestOfOther_40 hl (by decide) rfl (fun ls hl => ?_)
    refine lv_iload hx hb dX0_greatestOfOther_42 (lv_at hl 0 rfl) ?_
    refine lv_iconst (v := 2) hx hb dX0_greatestOfOther_44 (by decide) ?_
    refine lv_aload_n hx hb dX0_greatestOfOther_45 rfl (lv_at hl 2 rfl) ?_
    refine va_get (D := (dC, dI)) (ci := 0) (v := .int (v (29 + 15 * i) 1)) (C := RX0) (T := TX0) (N := 11) hx hb hts iwX0_greatestOfOther_X0 hown hK hP (29 + 15 * i) (wl_at (by omega) (ce_9 (kd_c _ hi).1.1)) rfl 1 (by decide) (hts (.fieldLink RX0 37 "QuietStairs$Case" "sum" "I") fwX0_greatestOfOther_2) (fun _ h9 => h9) rfl dX0_greatestOfOther_46 ?_
    refine lv_topi (fun x_4 ex_4 => ?_)
    have qx_4 : x_4.toInt = (v (29 + 15 * i) (1)).toInt := congrArg Int32.toInt ex_4
    refine lv_imul hx hb dX0_greatestOfOther_49 ?_
    refine lv_topi (fun x_5 ex_5 => ?_)
    have k_2 : (2 : Int32).toInt = 2 := by decide
    refine lv_iconst (v := 1) hx hb dX0_greatestOfOther_50 (by decide) ?_
    refine lv_iadd hx hb dX0_greatestOfOther_51 ?_
    refine lv_topi (fun x_6 ex_6 => ?_)
    have k_1 : (1 : Int32).toInt = 1 := by decide
    refine lv_iload_n hx hb dX0_greatestOfOther_52 rfl (lv_at hl 1 rfl) ?_
    refine lv_isub hx hb dX0_greatestOfOther_53 ?_
    refine lv_topi (fun x_7 ex_7 => ?_)
    refine va_mmin hx hb (hml.trans hl.1.symm) hown (hts (.methodLink RX0 62 Lib.Math.min.name) fwX0_greatestOfOther_3) (hts (.static Lib.Math.min.name) fwX0_greatestOfOther_4) (hts (.initialized "java/lang/Math") fwX0_greatestOfOther_5) (hts (.code Lib.Math.min.name Lib.Math.min.code 2 (some .int)) fwX0_greatestOfOther_6) (Nat.le_of_ble_eq_true rfl) (Nat.le_of_ble_eq_true rfl) (Nat.le_of_ble_eq_true rfl) (Nat.le_of_ble_eq_true rfl) dX0_greatestOfOther_54 ?_
    refine lv_topi (fun x_8 ex_8 => ?_)
    exact W.iret (v := x_8) hx hb hr (fun t ht hW => ⟨⟨x_8, v, rfl, ⟨hv, rfl, fun q => by rw [ex_8, ex_7, ex_6, ex_5, ex_4, ex_1], fun q => absurd hm_3 q⟩, by rw [ht]; exact hP, hD⟩, hS.F ht⟩) hS.2.2 dX0_greatestOfOther_57
  · refine lv_if_ne (tgt := 30) hx hb dX0_greatestOfOther_14 (by decide) (fun c9 => absurd c9 (by decide)) (fun _ => ?_)
    refine lv_iload_n hx hb dX0_greatestOfOther_17 rfl (lv_at hl 2 rfl) ?_
    refine lv_if_ne (tgt := 27) hx hb dX0_greatestOfOther_18 (by decide) (fun c9 => absurd c9 (by decide)) (fun _ => ?_)
    refine lv_iload_n hx hb dX0_greatestOfOther_21 rfl (lv_at hl 0 rfl) ?_
    refine lv_iconst (v := 1) hx hb dX0_greatestOfOther_22 (by decide) ?_
    refine lv_isub hx hb dX0_greatestOfOther_23 ?_
    refine lv_topi (fun x_4 ex_4 => ?_)
    have k_1 : (1 : Int32).toInt = 1 := by decide
    refine lv_goto (tgt := 29) hx hb dX0_greatestOfOther_24 (by decide) ?_
    exact W.iret (v := x_4) hx hb hr (fun t ht hW => ⟨⟨x_4, v, rfl, ⟨hv, rfl, fun q => absurd q hm_3, fun q => by rw [ex_4, ex_1]⟩, by rw [ht]; exact hP, hD⟩, hS.F ht⟩) hS.2.2 dX0_greatestOfOther_29

set_option maxHeartbeats 4000000 in
set_option maxRecDepth 100000 in
theorem e_X0_leastOfOther_1 (l : Launch) (dC : Nat → ClassId) (dI : Nat → Nat → Nat) (cy : Nat → ClassId) (sz : Nat) (ad : Nat → Nat) (kv : Value) (N : Nat) (hN : 119 ≤ N) (v : Nat → Nat → Int32) (hv : Iv v) (i : Nat) (hi : i < 6) (x0 : Int32) (ht : 0 ≤ x0.toInt ∧ x0.toInt ≤ 4) : Met l yX0_leastOfOther wsX0_leastOfOther ({ frames := 1, cells := 0, slots := 0, locals := 64 }) (va_Pc [.ref (ad (29 + 15 * i)), .int 1, .int x0] (ex_Pre dC dI cy sz (wl ad kv cy N v))) (va_Qi (fun (r : Int32) (u : Nat → Nat → Int32) => Iv u ∧ u = v ∧ (((v (29 + 15 * i) 0).toInt = 1 ∧ x0.toInt + 1 = (v (29 + 15 * i) 2).toInt) → r = (if 0 < 2 * v (29 + 15 * i) 1 - v (33 + 15 * i + 1) x0.toNatClampNeg then 2 * v (29 + 15 * i) 1 - v (33 + 15 * i + 1) x0.toNatClampNeg else 0)) ∧ (¬ ((v (29 + 15 * i) 0).toInt = 1 ∧ x0.toInt + 1 = (v (29 + 15 * i) 2).toInt) → r = v (33 + 15 * i + 1) x0.toNatClampNeg + 1)) (fun u t => ex_Pst dC dI (va_A (wl ad kv cy N v) sz) (wl ad kv cy N u) t) (va_A (wl ad kv cy N v) sz)) 0 0 (va_A (wl ad kv cy N v) sz) := by
  refine Met.ofW (cc := cX0_leastOfOther) (maxL := 5) (ret := (some .int)) (by decide) rfl ?_
  intro p e s m args below meth c s₁ B hml hv
  obtain ⟨rfl, hsz, hE, hP, hK, hD0⟩ := hv
  have hx := B.exec
  have hb := B.bytes
  have hr := B.returns
  have hts := atoms_spec (ws := wsX0_leastOfOther) B.pre
  have hown : s.vm.findClass RX0 = some m.cls := findClass_of_methodNamed B.named
  have hlocks := B.notSynchronized
  subst hsz
  have hD := hD0.self (sz := s.heap.size)
  generalize hAe : va_A (wl ad kv cy N v) s.heap.size = A at hD ⊢
  have hA : ∀ q : Nat, s.heap.size ≤ q → A q := fun q h => by rw [← hAe]; exact Or.inr h
  have hS : va_S A s.heap s.heap [] := va_S.rf
  have hP : va_P (dC, dI) vwCl (wl ad kv cy N v) s.heap := hP
  have hl := lv_entry ([.ref (ad (29 + 15 * i)), .int 1, .int x0]) (n := 5) (Nat.le_of_ble_eq_true rfl)
  rw [lg_entry_eq]
  generalize (lg_sl ([.ref (ad (29 + 15 * i)), .int 1, .int x0]) ++ List.replicate (5 - (lg_sl ([.ref (ad (29 + 15 * i)), .int 1, .int x0])).length) Slot.unset).toArray = ls at hl ⊢
  have hl : lv_has ls 5 [(0, .ref (ad (29 + 15 * i))), (1, .int 1), (2, .int x0)] := hl
  have zn_x0 : (x0.toNatClampNeg : Int) = x0.toInt := t_nn (by omega)
  have hx5 : x0.toNatClampNeg < 5 := by omega
  refine lv_aload_n hx hb dX0_leastOfOther_0 rfl (lv_at hl 0 rfl) ?_
  refine va_get (D := (dC, dI)) (ci := 0) (v := .ref (ad (29 + 15 * i + 3))) (C := RX0) (T := TX0) (N := 11) hx hb hts iwX0_leastOfOther_X0 hown hK hP (29 + 15 * i) (wl_at (by omega) (ce_9 (kd_c _ hi).1.1)) rfl 8 (by decide) (hts (.fieldLink RX0 20 "QuietStairs$Case" "offers" "[[I") fwX0_leastOfOther_1) (fun _ h9 => h9) rfl dX0_leastOfOther_1 ?_
  refine W.eq (g2 := F0 m 4 ls [.ref (ad (32 + 15 * i))]) (by rw [show 29 + 15 * i + 3 = 32 + 15 * i from by omega]) ?_
  refine lv_iload_n hx hb dX0_leastOfOther_4 rfl (lv_at hl 1 rfl) ?_
  have k_1 : (1 : Int32).toInt = 1 := by decide
  refine ya_ald hx hb hK hP (32 + 15 * i) (wl_at (by omega) (ce_11 (kd_c _ hi).1.2.2.2.1)) (by unfold vp_in; decide) dX0_leastOfOther_5 ?_
  refine W.eq (g2 := F0 m 6 ls [.ref (ad (33 + 15 * i + 1))]) (by show F0 m 6 ls (.ref (ad (32 + 15 * i + 1 + 1)) :: _) = _; rw [show 32 + 15 * i + 1 + 1 = 33 + 15 * i + 1 from by omega]) ?_
  refine lv_iload_n hx hb dX0_leastOfOther_6 rfl (lv_at hl 2 rfl) ?_
  refine va_iald hx hb hK hP (33 + 15 * i + 1) 0 (wl_at (by omega) (ce_12 (kd_o _ hi 1 (by decide)).1.1)) rfl (vp_in_iff.mpr ⟨by omega, by omega⟩) dX0_leastOfOther_7 ?_
  refine lv_topi (fun x_1 ex_1 => ?_)
  have qx_1 : x_1.toInt = (v (33 + 15 * i + 1) (x0.toNatClampNeg)).toInt := congrArg Int32.toInt ex_1
  refine lv_istore_n (lv' := [(3, .int x_1), (0, .ref (ad (29 + 15 * i))), (1, .int 1), (2, .int x0)]) hx hb dX0_leastOfOther_8 rfl hl (by decide) rfl (fun ls hl => ?_)
  refine lv_aload_n hx hb dX0_leastOfOther_9 rfl (lv_at hl 1 rfl) ?_
  refine lv_iload_n hx hb dX0_leastOfOther_10 rfl (lv_at hl 3 rfl) ?_
  refine yw_i (w1 := fun (u : Nat → Nat → Int32) => wl ad kv cy N u) hD hS hA (va_runV (As := [.int x0]) (rest := []) ⟨hx, hb, hml, hown, hts⟩ (e_X0_hasMet l dC dI cy _ ad kv N hN v hv i hi x0) (cwV 1 hts gX0_leastOfOther_X0_hasMet rfl rfl rfl hd_V_X0_hasMet_1 ⟨Nat.le_of_ble_eq_true rfl, Nat.le_of_ble_eq_true rfl⟩) (yw_preV hE hK hP hD (ci := 0) (q := (RX0, TX0, 11)) (q0 := (29 + 15 * i)) rfl (wl_at (by omega) (ce_9 (kd_c _ hi).1.1))) rfl rfl hl.1 rfl (lv_room (Nat.le_of_ble_eq_true rfl)) dX0_leastOfOther_11 ⟨Nat.le_of_ble_eq_true rfl, Nat.le_of_ble_eq_true rfl⟩) (fun r_2 v_2 H locs hw_2 hP hD hS => ?_)
  obtain ⟨-, hu_2, hw_2⟩ := hw_2
  replace hu_2 := hu_2.symm
  subst hu_2
  rcases hw_2 with ⟨rfl, hm_3⟩ | ⟨rfl, hm_3⟩
  · refine lv_if_ne (tgt := 29) hx hb dX0_leastOfOther_14 (by decide) (fun _ => ?_) (fun c9 => absurd c9 (by decide))
    refine lv_iload_n hx hb dX0_leastOfOther_29 rfl (lv_at hl 2 rfl) ?_
    refine lv_if_ne (tgt := 37) hx hb dX0_leastOfOther_30 (by decide) (fun _ => ?_) (fun c9 => absurd c9 (by decide))
    refine lv_iconst (v := 0) hx hb dX0_leastOfOther_37 (by decide) ?_
    refine lv_istore (lv' := [(4, .int 0), (3, .int x_1), (0, .ref (ad (29 + 15 * i))), (1, .int 1), (2, .int x0)]) hx hb dX0_leastOfOther_38 hl (by decide) rfl (fun ls hl => ?_)
    refine lv_iload hx hb dX0_leastOfOther_40 (lv_at hl 0 rfl) ?_
    refine lv_iconst (v := 2) hx hb dX0_leastOfOther_42 (by decide) ?_
    refine lv_aload_n hx hb dX0_leastOfOther_43 rfl (lv_at hl 2 rfl) ?_
    refine va_get (D := (dC, dI)) (ci := 0) (v := .int (v (29 + 15 * i) 1)) (C := RX0) (T := TX0) (N := 11) hx hb hts iwX0_leastOfOther_X0 hown hK hP (29 + 15 * i) (wl_at (by omega) (ce_9 (kd_c _ hi).1.1)) rfl 1 (by decide) (hts (.fieldLink RX0 37 "QuietStairs$Case" "sum" "I") fwX0_leastOfOther_2) (fun _ h9 => h9) rfl dX0_leastOfOther_44 ?_
    refine lv_topi (fun x_4 ex_4 => ?_)
    have qx_4 : x_4.toInt = (v (29 + 15 * i) (1)).toInt := congrArg Int32.toInt ex_4
    refine lv_imul hx hb dX0_leastOfOther_47 ?_
    refine lv_topi (fun x_5 ex_5 => ?_)
    have k_2 : (2 : Int32).toInt = 2 := by decide
    refine lv_iload_n hx hb dX0_leastOfOther_48 rfl (lv_at hl 1 rfl) ?_
    refine lv_isub hx hb dX0_leastOfOther_49 ?_
    refine lv_topi (fun x_6 ex_6 => ?_)
    refine va_mmax hx hb (hml.trans hl.1.symm) hown (hts (.methodLink RX0 56 Lib.Math.max.name) fwX0_leastOfOther_3) (hts (.static Lib.Math.max.name) fwX0_leastOfOther_4) (hts (.initialized "java/lang/Math") fwX0_leastOfOther_5) (hts (.code Lib.Math.max.name Lib.Math.max.code 2 (some .int)) fwX0_leastOfOther_6) (Nat.le_of_ble_eq_true rfl) (Nat.le_of_ble_eq_true rfl) (Nat.le_of_ble_eq_true rfl) (Nat.le_of_ble_eq_true rfl) dX0_leastOfOther_50 ?_
    refine lv_topi (fun x_7 ex_7 => ?_)
    exact W.iret (v := x_7) hx hb hr (fun t ht hW => ⟨⟨x_7, v, rfl, ⟨hv, rfl, fun q => by rw [ex_7, ex_6, ex_5, ex_4, ex_1], fun q => absurd hm_3 q⟩, by rw [ht]; exact hP, hD⟩, hS.F ht⟩) hS.2.2 dX0_leastOfOther_53
  · refine lv_if_ne (tgt := 29) hx hb dX0_leastOfOther_14 (by decide) (fun c9 => absurd c9 (by decide)) (fun _ => ?_)
    refine lv_iload_n hx hb dX0_leastOfOther_17 rfl (lv_at hl 2 rfl) ?_
    refine lv_if_ne (tgt := 25) hx hb dX0_leastOfOther_18 (by decide) (fun _ => ?_) (fun c9 => absurd c9 (by decide))
    refine lv_iload_n hx hb dX0_leastOfOther_25 rfl (lv_at hl 0 rfl) ?_
    refine lv_iconst (v := 1) hx hb dX0_leastOfOther_26 (by decide) ?_
    refine lv_iadd hx hb dX0_leastOfOther_27 ?_
    refine lv_topi (fun x_4 ex_4 => ?_)
    exact W.iret (v := x_4) hx hb hr (fun t ht hW => ⟨⟨x_4, v, rfl, ⟨hv, rfl, fun q => absurd q hm_3, fun q => by rw [ex_4, ex_1]⟩, by rw [ht]; exact hP, hD⟩, hS.F ht⟩) hS.2.2 dX0_leastOfOther_28

set_option maxHeartbeats 4000000 in
set_option maxRecDepth 100000 in
theorem e_X0_greatestOfOther_1 (l : Launch) (dC : Nat → ClassId) (dI : Nat → Nat → Nat) (cy : Nat → ClassId) (sz : Nat) (ad : Nat → Nat) (kv : Value) (N : Nat) (hN : 119 ≤ N) (v : Nat → Nat → Int32) (hv : Iv v) (i : Nat) (hi : i < 6) (x0 : Int32) (ht : 0 ≤ x0.toInt ∧ x0.toInt ≤ 4) : Met l yX0_greatestOfOther wsX0_greatestOfOther ({ frames := 1, cells := 0, slots := 0, locals := 64 }) (va_Pc [.ref (ad (29 + 15 * i)), .int 1, .int x0] (ex_Pre dC dI cy sz (wl ad kv cy N v))) (va_Qi (fun (r : Int32) (u : Nat → Nat → Int32) => Iv u ∧ u = v ∧ (((v (29 + 15 * i) 0).toInt = 1 ∧ x0.toInt + 1 = (v (29 + 15 * i) 2).toInt) → r = (if 2 * v (29 + 15 * i) 1 + 1 - v (33 + 15 * i + 1) x0.toNatClampNeg < v (33 + 15 * i + 1) x0.toNatClampNeg then 2 * v (29 + 15 * i) 1 + 1 - v (33 + 15 * i + 1) x0.toNatClampNeg else v (33 + 15 * i + 1) x0.toNatClampNeg)) ∧ (¬ ((v (29 + 15 * i) 0).toInt = 1 ∧ x0.toInt + 1 = (v (29 + 15 * i) 2).toInt) → r = 100)) (fun u t => ex_Pst dC dI (va_A (wl ad kv cy N v) sz) (wl ad kv cy N u) t) (va_A (wl ad kv cy N v) sz)) 0 0 (va_A (wl ad kv cy N v) sz) := by
  refine Met.ofW (cc := cX0_greatestOfOther) (maxL := 5) (ret := (some .int)) (by decide) rfl ?_
  intro p e s m args below meth c s₁ B hml hv
  obtain ⟨rfl, hsz, hE, hP, hK, hD0⟩ := hv
  have hx := B.exec
  have hb := B.bytes
  have hr := B.returns
  have hts := atoms_spec (ws := wsX0_greatestOfOther) B.pre
  have hown : s.vm.findClass RX0 = some m.cls := findClass_of_methodNamed B.named
  have hlocks := B.notSynchronized
  subst hsz
  have hD := hD0.self (sz := s.heap.size)
  generalize hAe : va_A (wl ad kv cy N v) s.heap.size = A at hD ⊢
  have hA : ∀ q : Nat, s.heap.size ≤ q → A q := fun q h => by rw [← hAe]; exact Or.inr h
  have hS : va_S A s.heap s.heap [] := va_S.rf
  have hP : va_P (dC, dI) vwCl (wl ad kv cy N v) s.heap := hP
  have hl := lv_entry ([.ref (ad (29 + 15 * i)), .int 1, .int x0]) (n := 5) (Nat.le_of_ble_eq_true rfl)
  rw [lg_entry_eq]
  generalize (lg_sl ([.ref (ad (29 + 15 * i)), .int 1, .int x0]) ++ List.replicate (5 - (lg_sl ([.ref (ad (29 + 15 * i)), .int 1, .int x0])).length) Slot.unset).toArray = ls at hl ⊢
  have hl : lv_has ls 5 [(0, .ref (ad (29 + 15 * i))), (1, .int 1), (2, .int x0)] := hl
  have zn_x0 : (x0.toNatClampNeg : Int) = x0.toInt := t_nn (by omega)
  have hx5 : x0.toNatClampNeg < 5 := by omega
  refine lv_aload_n hx hb dX0_greatestOfOther_0 rfl (lv_at hl 0 rfl) ?_
  refine va_get (D := (dC, dI)) (ci := 0) (v := .ref (ad (29 + 15 * i + 3))) (C := RX0) (T := TX0) (N := 11) hx hb hts iwX0_greatestOfOther_X0 hown hK hP (29 + 15 * i) (wl_at (by omega) (ce_9 (kd_c _ hi).1.1)) rfl 8 (by decide) (hts (.fieldLink RX0 20 "QuietStairs$Case" "offers" "[[I") fwX0_greatestOfOther_1) (fun _ h9 => h9) rfl dX0_greatestOfOther_1 ?_
  refine W.eq (g2 := F0 m 4 ls [.ref (ad (32 + 15 * i))]) (by rw [show 29 + 15 * i + 3 = 32 + 15 * i from by omega]) ?_
  refine lv_iload_n hx hb dX0_greatestOfOther_4 rfl (lv_at hl 1 rfl) ?_
  have k_1 : (1 : Int32).toInt = 1 := by decide
  refine ya_ald hx hb hK hP (32 + 15 * i) (wl_at (by omega) (ce_11 (kd_c _ hi).1.2.2.2.1)) (by unfold vp_in; decide) dX0_greatestOfOther_5 ?_
  refine W.eq (g2 := F0 m 6 ls [.ref (ad (33 + 15 * i + 1))]) (by show F0 m 6 ls (.ref (ad (32 + 15 * i + 1 + 1)) :: _) = _; rw [show 32 + 15 * i + 1 + 1 = 33 + 15 * i + 1 from by omega]) ?_
  refine lv_iload_n hx hb dX0_greatestOfOther_6 rfl (lv_at hl 2 rfl) ?_
  refine va_iald hx hb hK hP (33 + 15 * i + 1) 0 (wl_at (by omega) (ce_12 (kd_o _ hi 1 (by decide)).1.1)) rfl (vp_in_iff.mpr ⟨by omega, by omega⟩) dX0_greatestOfOther_7 ?_
  refine lv_topi (fun x_1 ex_1 => ?_)
  have qx_1 : x_1.toInt = (v (33 + 15 * i + 1) (x0.toNatClampNeg)).toInt := congrArg Int32.toInt ex_1
  refine lv_istore_n (lv' := [(3, .int x_1), (0, .ref (ad (29 + 15 * i))), (1, .int 1), (2, .int x0)]) hx hb dX0_greatestOfOther_8 rfl hl (by decide) rfl (fun ls hl => ?_)
  refine lv_aload_n hx hb dX0_greatestOfOther_9 rfl (lv_at hl 1 rfl) ?_
  refine lv_iload_n hx hb dX0_greatestOfOther_10 rfl (lv_at hl 3 rfl) ?_
  refine yw_i (w1 := fun (u : Nat → Nat → Int32) => wl ad kv cy N u) hD hS hA (va_runV (As := [.int x0]) (rest := []) ⟨hx, hb, hml, hown, hts⟩ (e_X0_hasMet l dC dI cy _ ad kv N hN v hv i hi x0) (cwV 1 hts gX0_greatestOfOther_X0_hasMet rfl rfl rfl hd_V_X0_hasMet_1 ⟨Nat.le_of_ble_eq_true rfl, Nat.le_of_ble_eq_true rfl⟩) (yw_preV hE hK hP hD (ci := 0) (q := (RX0, TX0, 11)) (q0 := (29 + 15 * i)) rfl (wl_at (by omega) (ce_9 (kd_c _ hi).1.1))) rfl rfl hl.1 rfl (lv_room (Nat.le_of_ble_eq_true rfl)) dX0_greatestOfOther_11 ⟨Nat.le_of_ble_eq_true rfl, Nat.le_of_ble_eq_true rfl⟩) (fun r_2 v_2 H locs hw_2 hP hD hS => ?_)
  obtain ⟨-, hu_2, hw_2⟩ := hw_2
  replace hu_2 := hu_2.symm
  subst hu_2
  rcases hw_2 with ⟨rfl, hm_3⟩ | ⟨rfl, hm_3⟩
  · refine lv_if_ne (tgt := 30) hx hb dX0_greatestOfOther_14 (by decide) (fun _ => ?_) (fun c9 => absurd c9 (by decide))
    refine lv_iload_n hx hb dX0_greatestOfOther_30 rfl (lv_at hl 2 rfl) ?_
    refine lv_if_ne (tgt := 39) hx hb dX0_greatestOfOther_31 (by decide) (fun _ => ?_) (fun c9 => absurd c9 (by decide))
    refine lv_iload_n hx hb dX0_greatestOfOther_39 rfl (lv_at hl 0 rfl) ?_
    refine lv_istore (lv' := [(4, .int x_1), (3, .int x_1), (0, .ref (ad (29 + 15 * i))), (1, .int 1), (2, .int x0)]) hx hb dX0_greatestOfOther_40 hl (by decide) rfl (fun ls hl => ?_)
    refine lv_iload hx hb dX0_greatestOfOther_42 (lv_at hl 0 rfl) ?_
    refine lv_iconst (v := 2) hx hb dX0_greatestOfOther_44 (by decide) ?_
    refine lv_aload_n hx hb dX0_greatestOfOther_45 rfl (lv_at hl 2 rfl) ?_
    refine va_get (D := (dC, dI)) (ci := 0) (v := .int (v (29 + 15 * i) 1)) (C := RX0) (T := TX0) (N := 11) hx hb hts iwX0_greatestOfOther_X0 hown hK hP (29 + 15 * i) (wl_at (by omega) (ce_9 (kd_c _ hi).1.1)) rfl 1 (by decide) (hts (.fieldLink RX0 37 "QuietStairs$Case" "sum" "I") fwX0_greatestOfOther_2) (fun _ h9 => h9) rfl dX0_greatestOfOther_46 ?_
    refine lv_topi (fun x_4 ex_4 => ?_)
    have qx_4 : x_4.toInt = (v (29 + 15 * i) (1)).toInt := congrArg Int32.toInt ex_4
    refine lv_imul hx hb dX0_greatestOfOther_49 ?_
    refine lv_topi (fun x_5 ex_5 => ?_)
    have k_2 : (2 : Int32).toInt = 2 := by decide
    refine lv_iconst (v := 1) hx hb dX0_greatestOfOther_50 (by decide) ?_
    refine lv_iadd hx hb dX0_greatestOfOther_51 ?_
    refine lv_topi (fun x_6 ex_6 => ?_)
    refine lv_iload_n hx hb dX0_greatestOfOther_52 rfl (lv_at hl 1 rfl) ?_
    refine lv_isub hx hb dX0_greatestOfOther_53 ?_
    refine lv_topi (fun x_7 ex_7 => ?_)
    refine va_mmin hx hb (hml.trans hl.1.symm) hown (hts (.methodLink RX0 62 Lib.Math.min.name) fwX0_greatestOfOther_3) (hts (.static Lib.Math.min.name) fwX0_greatestOfOther_4) (hts (.initialized "java/lang/Math") fwX0_greatestOfOther_5) (hts (.code Lib.Math.min.name Lib.Math.min.code 2 (some .int)) fwX0_greatestOfOther_6) (Nat.le_of_ble_eq_true rfl) (Nat.le_of_ble_eq_true rfl) (Nat.le_of_ble_eq_true rfl) (Nat.le_of_ble_eq_true rfl) dX0_greatestOfOther_54 ?_
    refine lv_topi (fun x_8 ex_8 => ?_)
    exact W.iret (v := x_8) hx hb hr (fun t ht hW => ⟨⟨x_8, v, rfl, ⟨hv, rfl, fun q => by rw [ex_8, ex_7, ex_6, ex_5, ex_4, ex_1], fun q => absurd hm_3 q⟩, by rw [ht]; exact hP, hD⟩, hS.F ht⟩) hS.2.2 dX0_greatestOfOther_57
  · refine lv_if_ne (tgt := 30) hx hb dX0_greatestOfOther_14 (by decide) (fun c9 => absurd c9 (by decide)) (fun _ => ?_)
    refine lv_iload_n hx hb dX0_greatestOfOther_17 rfl (lv_at hl 2 rfl) ?_
    refine lv_if_ne (tgt := 27) hx hb dX0_greatestOfOther_18 (by decide) (fun _ => ?_) (fun c9 => absurd c9 (by decide))
    refine lv_bipush (v := 100) hx hb dX0_greatestOfOther_27 (by decide) ?_
    exact W.iret (v := 100) hx hb hr (fun t ht hW => ⟨⟨100, v, rfl, ⟨hv, rfl, fun q => absurd q hm_3, fun q => rfl⟩, by rw [ht]; exact hP, hD⟩, hS.F ht⟩) hS.2.2 dX0_greatestOfOther_29

set_option maxHeartbeats 4000000 in
set_option maxRecDepth 100000 in
theorem e_X7_learns_00 (l : Launch) (dC : Nat → ClassId) (dI : Nat → Nat → Nat) (cy : Nat → ClassId) (sz : Nat) (ad : Nat → Nat) (kv : Value) (N : Nat) (hN : 119 ≤ N) (v : Nat → Nat → Int32) (hv : Iv v) (x0 x1 : Int32) : Met l yX7_learns wsX7_learns ({ frames := 3, cells := 0, slots := 0, locals := 192 }) (va_Pc [.ref (ad 0), .int x0, .int 0, .int x1, .int 0] (ex_Pre dC dI cy sz (wl ad kv cy N v))) (va_Qi (fun (r : Int32) (u : Nat → Nat → Int32) => Iv u ∧ (¬ (0 ≤ x0.toInt ∧ x0.toInt < (v 13 2).toInt) → r = -1 ∧ u = v) ∧ ((0 ≤ x0.toInt ∧ x0.toInt < (v 13 2).toInt) ∧ ¬ (0 ≤ x1.toInt ∧ x1.toInt < (v (29 + 15 * x0.toNatClampNeg) 2).toInt) → r = -5 ∧ u = v) ∧ (((0 ≤ x0.toInt ∧ x0.toInt < (v 13 2).toInt) ∧ (0 ≤ x1.toInt ∧ x1.toInt < (v (29 + 15 * x0.toNatClampNeg) 2).toInt)) ∧ ((v (29 + 15 * x0.toNatClampNeg) 0).toInt = 1 ∧ x1.toInt + 1 = (v (29 + 15 * x0.toNatClampNeg) 2).toInt) → r = (if v (33 + 15 * x0.toNatClampNeg + 0) x1.toNatClampNeg < 2 * v (29 + 15 * x0.toNatClampNeg) 1 - v (33 + 15 * x0.toNatClampNeg + 0) x1.toNatClampNeg then 2 * v (29 + 15 * x0.toNatClampNeg) 1 - v (33 + 15 * x0.toNatClampNeg + 0) x1.toNatClampNeg else v (33 + 15 * x0.toNatClampNeg + 0) x1.toNatClampNeg) ∧ u = v) ∧ (((0 ≤ x0.toInt ∧ x0.toInt < (v 13 2).toInt) ∧ (0 ≤ x1.toInt ∧ x1.toInt < (v (29 + 15 * x0.toNatClampNeg) 2).toInt)) ∧ ¬ ((v (29 + 15 * x0.toNatClampNeg) 0).toInt = 1 ∧ x1.toInt + 1 = (v (29 + 15 * x0.toNatClampNeg) 2).toInt) → r = 0 ∧ u = v)) (fun u t => ex_Pst dC dI (va_A (wl ad kv cy N v) sz) (wl ad kv cy N u) t) (va_A (wl ad kv cy N v) sz)) 0 0 (va_A (wl ad kv cy N v) sz) := by
  refine Met.ofW (cc := cX7_learns) (maxL := 6) (ret := (some .int)) (by decide) rfl ?_
  intro p e s m args below meth c s₁ B hml hv
  obtain ⟨rfl, hsz, hE, hP, hK, hD0⟩ := hv
  have hx := B.exec
  have hb := B.bytes
  have hr := B.returns
  have hts := atoms_spec (ws := wsX7_learns) B.pre
  have hown : s.vm.findClass RX7 = some m.cls := findClass_of_methodNamed B.named
  have hlocks := B.notSynchronized
  subst hsz
  have hD := hD0.self (sz := s.heap.size)
  generalize hAe : va_A (wl ad kv cy N v) s.heap.size = A at hD ⊢
  have hA : ∀ q : Nat, s.heap.size ≤ q → A q := fun q h => by rw [← hAe]; exact Or.inr h
  have hS : va_S A s.heap s.heap [] := va_S.rf
  have hP : va_P (dC, dI) vwCl (wl ad kv cy N v) s.heap := hP
  have hl := lv_entry ([.ref (ad 0), .int x0, .int 0, .int x1, .int 0]) (n := 6) (Nat.le_of_ble_eq_true rfl)
  rw [lg_entry_eq]
  generalize (lg_sl ([.ref (ad 0), .int x0, .int 0, .int x1, .int 0]) ++ List.replicate (6 - (lg_sl ([.ref (ad 0), .int x0, .int 0, .int x1, .int 0])).length) Slot.unset).toArray = ls at hl ⊢
  have hl : lv_has ls 6 [(0, .ref (ad 0)), (1, .int x0), (2, .int 0), (3, .int x1), (4, .int 0)] := hl
  refine lv_aload_n hx hb dX7_learns_0 rfl (lv_at hl 0 rfl) ?_
  refine lv_iload_n hx hb dX7_learns_1 rfl (lv_at hl 1 rfl) ?_
  refine yw_i (w1 := fun (u : Nat → Nat → Int32) => wl ad kv cy N u) hD hS hA (va_runV (As := [.int x0]) (rest := []) ⟨hx, hb, hml, hown, hts⟩ (g_X7_isCase l dC dI cy _ ad kv N hN v hv x0) (cwV 1 hts gX7_learns_X7_isCase rfl rfl rfl hd_V_X7_isCase_1 ⟨Nat.le_of_ble_eq_true rfl, Nat.le_of_ble_eq_true rfl⟩) (yw_preV hE hK hP hD (ci := 7) (q := (RX7, TX7, 5)) (q0 := 0) rfl (wl_at (by omega) (ce_0 (by decide)))) rfl rfl hl.1 rfl (lv_room (Nat.le_of_ble_eq_true rfl)) dX7_learns_2 ⟨Nat.le_of_ble_eq_true rfl, Nat.le_of_ble_eq_true rfl⟩) (fun r_1 v_1 H locs hw_1 hP hD hS => ?_)
  obtain ⟨-, hu_1, hw_1⟩ := hw_1
  replace hu_1 := hu_1.symm
  subst hu_1
  rcases hw_1 with ⟨rfl, ha_2⟩ | ⟨rfl, ha_2⟩
  · have hb_2 := hv.at (k := 13) (j := 2) (K := 3) (by decide) rfl
    have hj_2 : 0 ≤ x0.toInt ∧ x0.toInt ≤ 5 := ⟨by omega, by omega⟩
    refine lv_if_eq (tgt := 15) hx hb dX7_learns_5 (by decide) (fun c9 => absurd c9 (by decide)) (fun _ => ?_)
    refine lv_iload_n hx hb dX7_learns_8 rfl (lv_at hl 2 rfl) ?_
    refine yc_p hP hS (va_runS (As := [.int 0]) (rest := []) ⟨hx, hb, hml, hown, hts⟩ (c_X7_isSide l 0) (cwS 1 hts gX7_learns_X7_isSide rfl rfl rfl hd_S_X7_isSide_1 ⟨Nat.le_of_ble_eq_true rfl, Nat.le_of_ble_eq_true rfl⟩) ex_preP rfl rfl hl.1 rfl (lv_room (Nat.le_of_ble_eq_true rfl)) dX7_learns_9 ⟨Nat.le_of_ble_eq_true rfl, Nat.le_of_ble_eq_true rfl⟩) (fun r_3 H locs hw_3 hP hS => ?_)
    rcases wi_ca hw_3 with ⟨rfl, hc_4⟩ | ⟨rfl, hc_4⟩
    · have k_0 : (0 : Int32).toInt = 0 := by decide
      have k_1 : (1 : Int32).toInt = 1 := by decide
      have tc_4 := wi_tl hc_4
      refine lv_if_ne (tgt := 17) hx hb dX7_learns_12 (by decide) (fun _ => ?_) (fun c9 => absurd c9 (by decide))
      refine lv_aload_n hx hb dX7_learns_17 rfl (lv_at hl 0 rfl) ?_
      refine va_get (D := (dC, dI)) (ci := 7) (v := .ref (ad 13)) (C := RX7) (T := TX7) (N := 5) hx hb hts iwX7_learns_X7 hown hK hP (0) (wl_at (by omega) (ce_0 (by decide))) rfl 0 (by decide) (hts (.fieldLink RX7 12 "QuietStairs" "now" "LQuietStairs$House;") fwX7_learns_1) (fun _ h9 => h9) rfl dX7_learns_18 ?_
      refine va_get (D := (dC, dI)) (ci := 1) (v := .ref (ad 16)) (C := RX1) (T := TX1) (N := 7) hx hb hts iwX7_learns_X1 hown hK hP (13) (wl_at (by omega) (ce_3 (by decide))) rfl 6 (by decide) (hts (.fieldLink RX7 86 "QuietStairs$House" "cases" "[LQuietStairs$Case;") fwX7_learns_2) (fun _ h9 => h9) rfl dX7_learns_21 ?_
      refine lv_iload_n hx hb dX7_learns_24 rfl (lv_at hl 1 rfl) ?_
      have zn_x0 : (x0.toNatClampNeg : Int) = x0.toInt := t_nn (by omega)
      have hx_5 : x0.toNatClampNeg < 6 := by omega
      refine va_aldq hx hb hK hP (16) 3 (wl_at (by omega) (ce_6 (by decide))) rfl (vp_in_iff.mpr ⟨by omega, by omega⟩) dX7_learns_25 ?_
      refine W.eq (g2 := F0 m 26 ls [.ref (ad (29 + 15 * x0.toNatClampNeg))]) (by rw [if_pos hx_5, show 16 + 13 + 15 * x0.toNatClampNeg = 29 + 15 * x0.toNatClampNeg from by omega]; rfl) ?_
      refine lv_astore (lv' := [(5, .ref (ad (29 + 15 * x0.toNatClampNeg))), (0, .ref (ad 0)), (1, .int x0), (2, .int 0), (3, .int x1), (4, .int 0)]) hx hb dX7_learns_26 hl (by decide) rfl (fun ls hl => ?_)
      refine lv_iload_n hx hb dX7_learns_28 rfl (lv_at hl 4 rfl) ?_
      refine lv_iconst (v := 0) hx hb dX7_learns_29 (by decide) ?_
      refine lv_aload hx hb dX7_learns_30 (lv_at hl 0 rfl) ?_
      refine va_get (D := (dC, dI)) (ci := 0) (v := .int (v (29 + 15 * x0.toNatClampNeg) 2)) (C := RX0) (T := TX0) (N := 11) hx hb hts iwX7_learns_X0 hown hK hP (29 + 15 * x0.toNatClampNeg) (wl_at (by omega) (ce_9 (kd_c _ hx_5).1.1)) rfl 2 (by decide) (hts (.fieldLink RX7 117 "QuietStairs$Case" "roundsOver" "I") fwX7_learns_3) (fun _ h9 => h9) rfl dX7_learns_32 ?_
      refine lv_topi (fun x_6 ex_6 => ?_)
      have bzx_6 : 0 ≤ x_6.toInt ∧ x_6.toInt ≤ 5 := by rw [ex_6]; exact hv.at (K := 9) (kd_c _ hx_5).1.1 rfl
      have qx_6 : x_6.toInt = (v (29 + 15 * x0.toNatClampNeg) (2)).toInt := congrArg Int32.toInt ex_6
      refine lv_iconst (v := 1) hx hb dX7_learns_35 (by decide) ?_
      refine lv_isub hx hb dX7_learns_36 ?_
      refine lv_topi (fun x_7 ex_7 => ?_)
      have tx_7 : x_7.toInt = x_6.toInt - (1 : Int32).toInt := by rw [ex_7]; exact t_sub ⟨by omega, by omega⟩
      refine yc_p hP hS (va_runS (As := [.int x1, .int 0, .int x_7]) (rest := []) ⟨hx, hb, hml, hown, hts⟩ (c_X7_isWithin l x1 0 x_7) (cwS 3 hts gX7_learns_X7_isWithin rfl rfl rfl hd_S_X7_isWithin_3 ⟨Nat.le_of_ble_eq_true rfl, Nat.le_of_ble_eq_true rfl⟩) ex_preP rfl rfl hl.1 rfl (lv_room (Nat.le_of_ble_eq_true rfl)) dX7_learns_37 ⟨Nat.le_of_ble_eq_true rfl, Nat.le_of_ble_eq_true rfl⟩) (fun r_8 H locs hw_8 hP hS => ?_)
      rcases wi_ca hw_8 with ⟨rfl, hc_9⟩ | ⟨rfl, hc_9⟩
      · have tc_9 := wi_tl hc_9
        refine lv_if_ne (tgt := 46) hx hb dX7_learns_40 (by decide) (fun _ => ?_) (fun c9 => absurd c9 (by decide))
        refine lv_iload hx hb dX7_learns_46 (lv_at hl 5 rfl) ?_
        refine lv_if_eq (tgt := 61) hx hb dX7_learns_48 (by decide) (fun _ => ?_) (fun c9 => absurd c9 (by decide))
        refine lv_aload hx hb dX7_learns_61 (lv_at hl 0 rfl) ?_
        refine lv_iload_n hx hb dX7_learns_63 rfl (lv_at hl 3 rfl) ?_
        refine lv_iload_n hx hb dX7_learns_64 rfl (lv_at hl 4 rfl) ?_
        refine yw_i (w1 := fun (u : Nat → Nat → Int32) => wl ad kv cy N u) hD hS hA (va_runV (As := [.int 0, .int x1]) (rest := []) ⟨hx, hb, hml, hown, hts⟩ (e_X0_leastOfOther_0 l dC dI cy _ ad kv N hN v hv x0.toNatClampNeg hx_5 x1 ⟨by omega, by omega⟩) (cwV 2 hts gX7_learns_X0_leastOfOther rfl rfl rfl hd_V_X0_leastOfOther_2 ⟨Nat.le_of_ble_eq_true rfl, Nat.le_of_ble_eq_true rfl⟩) (yw_preV hE hK hP hD (ci := 0) (q := (RX0, TX0, 11)) (q0 := (29 + 15 * x0.toNatClampNeg)) rfl (wl_at (by omega) (ce_9 (kd_c _ hx_5).1.1))) rfl rfl hl.1 rfl (lv_room (Nat.le_of_ble_eq_true rfl)) dX7_learns_65 ⟨Nat.le_of_ble_eq_true rfl, Nat.le_of_ble_eq_true rfl⟩) (fun r_10 v_10 H locs hw_10 hP hD hS => ?_)
        obtain ⟨-, hu_10, hw_10⟩ := hw_10
        replace hu_10 := hu_10.symm
        subst hu_10
        have hpost : (¬ (0 ≤ x0.toInt ∧ x0.toInt < (v 13 2).toInt) → r_10 = -1 ∧ v = v) ∧ ((0 ≤ x0.toInt ∧ x0.toInt < (v 13 2).toInt) ∧ ¬ (0 ≤ x1.toInt ∧ x1.toInt < (v (29 + 15 * x0.toNatClampNeg) 2).toInt) → r_10 = -5 ∧ v = v) ∧ (((0 ≤ x0.toInt ∧ x0.toInt < (v 13 2).toInt) ∧ (0 ≤ x1.toInt ∧ x1.toInt < (v (29 + 15 * x0.toNatClampNeg) 2).toInt)) ∧ ((v (29 + 15 * x0.toNatClampNeg) 0).toInt = 1 ∧ x1.toInt + 1 = (v (29 + 15 * x0.toNatClampNeg) 2).toInt) → r_10 = (if v (33 + 15 * x0.toNatClampNeg + 0) x1.toNatClampNeg < 2 * v (29 + 15 * x0.toNatClampNeg) 1 - v (33 + 15 * x0.toNatClampNeg + 0) x1.toNatClampNeg then 2 * v (29 + 15 * x0.toNatClampNeg) 1 - v (33 + 15 * x0.toNatClampNeg + 0) x1.toNatClampNeg else v (33 + 15 * x0.toNatClampNeg + 0) x1.toNatClampNeg) ∧ v = v) ∧ (((0 ≤ x0.toInt ∧ x0.toInt < (v 13 2).toInt) ∧ (0 ≤ x1.toInt ∧ x1.toInt < (v (29 + 15 * x0.toNatClampNeg) 2).toInt)) ∧ ¬ ((v (29 + 15 * x0.toNatClampNeg) 0).toInt = 1 ∧ x1.toInt + 1 = (v (29 + 15 * x0.toNatClampNeg) 2).toInt) → r_10 = 0 ∧ v = v) := by
          refine ⟨fun hq => ?_, fun hq => ?_, fun hq => ?_, fun hq => ?_⟩
          · exfalso; omega
          · exfalso; omega
          · exact ⟨hw_10.1 hq.2, rfl⟩
          · exact ⟨hw_10.2 hq.2, rfl⟩
        exact W.iret (v := r_10) hx hb hr (fun t ht hW => ⟨⟨r_10, v, rfl, ⟨hv, hpost⟩, by rw [ht]; exact hP, hD⟩, hS.F ht⟩) hS.2.2 dX7_learns_68
      · have tc_9 : ¬ ((0 : Int32).toInt ≤ x1.toInt ∧ x1.toInt ≤ x_7.toInt) := fun q => hc_9 ⟨Int32.le_iff_toInt_le.mpr q.1, Int32.le_iff_toInt_le.mpr q.2⟩
        refine lv_if_ne (tgt := 46) hx hb dX7_learns_40 (by decide) (fun c9 => absurd c9 (by decide)) (fun _ => ?_)
        refine lv_bipush (v := (-5)) hx hb dX7_learns_43 (by decide) ?_
        have hpost : (¬ (0 ≤ x0.toInt ∧ x0.toInt < (v 13 2).toInt) → ((-5) : Int32) = -1 ∧ v = v) ∧ ((0 ≤ x0.toInt ∧ x0.toInt < (v 13 2).toInt) ∧ ¬ (0 ≤ x1.toInt ∧ x1.toInt < (v (29 + 15 * x0.toNatClampNeg) 2).toInt) → ((-5) : Int32) = -5 ∧ v = v) ∧ (((0 ≤ x0.toInt ∧ x0.toInt < (v 13 2).toInt) ∧ (0 ≤ x1.toInt ∧ x1.toInt < (v (29 + 15 * x0.toNatClampNeg) 2).toInt)) ∧ ((v (29 + 15 * x0.toNatClampNeg) 0).toInt = 1 ∧ x1.toInt + 1 = (v (29 + 15 * x0.toNatClampNeg) 2).toInt) → ((-5) : Int32) = (if v (33 + 15 * x0.toNatClampNeg + 0) x1.toNatClampNeg < 2 * v (29 + 15 * x0.toNatClampNeg) 1 - v (33 + 15 * x0.toNatClampNeg + 0) x1.toNatClampNeg then 2 * v (29 + 15 * x0.toNatClampNeg) 1 - v (33 + 15 * x0.toNatClampNeg + 0) x1.toNatClampNeg else v (33 + 15 * x0.toNatClampNeg + 0) x1.toNatClampNeg) ∧ v = v) ∧ (((0 ≤ x0.toInt ∧ x0.toInt < (v 13 2).toInt) ∧ (0 ≤ x1.toInt ∧ x1.toInt < (v (29 + 15 * x0.toNatClampNeg) 2).toInt)) ∧ ¬ ((v (29 + 15 * x0.toNatClampNeg) 0).toInt = 1 ∧ x1.toInt + 1 = (v (29 + 15 * x0.toNatClampNeg) 2).toInt) → ((-5) : Int32) = 0 ∧ v = v) := by
          refine ⟨fun hq => ?_, fun hq => ?_, fun hq => ?_, fun hq => ?_⟩
          · exfalso; omega
          · exact ⟨rfl, rfl⟩
          · exfalso; omega
          · exfalso; omega
        exact W.iret (v := (-5)) hx hb hr (fun t ht hW => ⟨⟨(-5), v, rfl, ⟨hv, hpost⟩, by rw [ht]; exact hP, hD⟩, hS.F ht⟩) hS.2.2 dX7_learns_45
    · have k_0 : (0 : Int32).toInt = 0 := by decide
      have k_1 : (1 : Int32).toInt = 1 := by decide
      have tc_4 : ¬ ((0 : Int32).toInt ≤ (0 : Int32).toInt ∧ (0 : Int32).toInt ≤ (1 : Int32).toInt) := fun q => hc_4 ⟨Int32.le_iff_toInt_le.mpr q.1, Int32.le_iff_toInt_le.mpr q.2⟩
      refine lv_if_ne (tgt := 17) hx hb dX7_learns_12 (by decide) (fun c9 => absurd c9 (by decide)) (fun _ => ?_)
      refine lv_iconst (v := (-1)) hx hb dX7_learns_15 (by decide) ?_
      have hpost : (¬ (0 ≤ x0.toInt ∧ x0.toInt < (v 13 2).toInt) → ((-1) : Int32) = -1 ∧ v = v) ∧ ((0 ≤ x0.toInt ∧ x0.toInt < (v 13 2).toInt) ∧ ¬ (0 ≤ x1.toInt ∧ x1.toInt < (v (29 + 15 * x0.toNatClampNeg) 2).toInt) → ((-1) : Int32) = -5 ∧ v = v) ∧ (((0 ≤ x0.toInt ∧ x0.toInt < (v 13 2).toInt) ∧ (0 ≤ x1.toInt ∧ x1.toInt < (v (29 + 15 * x0.toNatClampNeg) 2).toInt)) ∧ ((v (29 + 15 * x0.toNatClampNeg) 0).toInt = 1 ∧ x1.toInt + 1 = (v (29 + 15 * x0.toNatClampNeg) 2).toInt) → ((-1) : Int32) = (if v (33 + 15 * x0.toNatClampNeg + 0) x1.toNatClampNeg < 2 * v (29 + 15 * x0.toNatClampNeg) 1 - v (33 + 15 * x0.toNatClampNeg + 0) x1.toNatClampNeg then 2 * v (29 + 15 * x0.toNatClampNeg) 1 - v (33 + 15 * x0.toNatClampNeg + 0) x1.toNatClampNeg else v (33 + 15 * x0.toNatClampNeg + 0) x1.toNatClampNeg) ∧ v = v) ∧ (((0 ≤ x0.toInt ∧ x0.toInt < (v 13 2).toInt) ∧ (0 ≤ x1.toInt ∧ x1.toInt < (v (29 + 15 * x0.toNatClampNeg) 2).toInt)) ∧ ¬ ((v (29 + 15 * x0.toNatClampNeg) 0).toInt = 1 ∧ x1.toInt + 1 = (v (29 + 15 * x0.toNatClampNeg) 2).toInt) → ((-1) : Int32) = 0 ∧ v = v) := by
        refine ⟨fun hq => ?_, fun hq => ?_, fun hq => ?_, fun hq => ?_⟩
        · exact ⟨rfl, rfl⟩
        · exfalso; omega
        · exfalso; omega
        · exfalso; omega
      exact W.iret (v := (-1)) hx hb hr (fun t ht hW => ⟨⟨(-1), v, rfl, ⟨hv, hpost⟩, by rw [ht]; exact hP, hD⟩, hS.F ht⟩) hS.2.2 dX7_learns_16
  · refine lv_if_eq (tgt := 15) hx hb dX7_learns_5 (by decide) (fun _ => ?_) (fun c9 => absurd c9 (by decide))
    refine lv_iconst (v := (-1)) hx hb dX7_learns_15 (by decide) ?_
    have hpost : (¬ (0 ≤ x0.toInt ∧ x0.toInt < (v 13 2).toInt) → ((-1) : Int32) = -1 ∧ v = v) ∧ ((0 ≤ x0.toInt ∧ x0.toInt < (v 13 2).toInt) ∧ ¬ (0 ≤ x1.toInt ∧ x1.toInt < (v (29 + 15 * x0.toNatClampNeg) 2).toInt) → ((-1) : Int32) = -5 ∧ v = v) ∧ (((0 ≤ x0.toInt ∧ x0.toInt < (v 13 2).toInt) ∧ (0 ≤ x1.toInt ∧ x1.toInt < (v (29 + 15 * x0.toNatClampNeg) 2).toInt)) ∧ ((v (29 + 15 * x0.toNatClampNeg) 0).toInt = 1 ∧ x1.toInt + 1 = (v (29 + 15 * x0.toNatClampNeg) 2).toInt) → ((-1) : Int32) = (if v (33 + 15 * x0.toNatClampNeg + 0) x1.toNatClampNeg < 2 * v (29 + 15 * x0.toNatClampNeg) 1 - v (33 + 15 * x0.toNatClampNeg + 0) x1.toNatClampNeg then 2 * v (29 + 15 * x0.toNatClampNeg) 1 - v (33 + 15 * x0.toNatClampNeg + 0) x1.toNatClampNeg else v (33 + 15 * x0.toNatClampNeg + 0) x1.toNatClampNeg) ∧ v = v) ∧ (((0 ≤ x0.toInt ∧ x0.toInt < (v 13 2).toInt) ∧ (0 ≤ x1.toInt ∧ x1.toInt < (v (29 + 15 * x0.toNatClampNeg) 2).toInt)) ∧ ¬ ((v (29 + 15 * x0.toNatClampNeg) 0).toInt = 1 ∧ x1.toInt + 1 = (v (29 + 15 * x0.toNatClampNeg) 2).toInt) → ((-1) : Int32) = 0 ∧ v = v) := by
      refine ⟨fun hq => ?_, fun hq => ?_, fun hq => ?_, fun hq => ?_⟩
      · exact ⟨rfl, rfl⟩
      · exfalso; omega
      · exfalso; omega
      · exfalso; omega
    exact W.iret (v := (-1)) hx hb hr (fun t ht hW => ⟨⟨(-1), v, rfl, ⟨hv, hpost⟩, by rw [ht]; exact hP, hD⟩, hS.F ht⟩) hS.2.2 dX7_learns_16

set_option maxHeartbeats 4000000 in
set_option maxRecDepth 100000 in
theorem e_X7_learns_01 (l : Launch) (dC : Nat → ClassId) (dI : Nat → Nat → Nat) (cy : Nat → ClassId) (sz : Nat) (ad : Nat → Nat) (kv : Value) (N : Nat) (hN : 119 ≤ N) (v : Nat → Nat → Int32) (hv : Iv v) (x0 x1 : Int32) : Met l yX7_learns wsX7_learns ({ frames := 3, cells := 0, slots := 0, locals := 192 }) (va_Pc [.ref (ad 0), .int x0, .int 0, .int x1, .int 1] (ex_Pre dC dI cy sz (wl ad kv cy N v))) (va_Qi (fun (r : Int32) (u : Nat → Nat → Int32) => Iv u ∧ (¬ (0 ≤ x0.toInt ∧ x0.toInt < (v 13 2).toInt) → r = -1 ∧ u = v) ∧ ((0 ≤ x0.toInt ∧ x0.toInt < (v 13 2).toInt) ∧ ¬ (0 ≤ x1.toInt ∧ x1.toInt < (v (29 + 15 * x0.toNatClampNeg) 2).toInt) → r = -5 ∧ u = v) ∧ (((0 ≤ x0.toInt ∧ x0.toInt < (v 13 2).toInt) ∧ (0 ≤ x1.toInt ∧ x1.toInt < (v (29 + 15 * x0.toNatClampNeg) 2).toInt)) ∧ ((v (29 + 15 * x0.toNatClampNeg) 0).toInt = 1 ∧ x1.toInt + 1 = (v (29 + 15 * x0.toNatClampNeg) 2).toInt) → r = (if 2 * v (29 + 15 * x0.toNatClampNeg) 1 + 1 - v (33 + 15 * x0.toNatClampNeg + 0) x1.toNatClampNeg < 100 then 2 * v (29 + 15 * x0.toNatClampNeg) 1 + 1 - v (33 + 15 * x0.toNatClampNeg + 0) x1.toNatClampNeg else 100) ∧ u = v) ∧ (((0 ≤ x0.toInt ∧ x0.toInt < (v 13 2).toInt) ∧ (0 ≤ x1.toInt ∧ x1.toInt < (v (29 + 15 * x0.toNatClampNeg) 2).toInt)) ∧ ¬ ((v (29 + 15 * x0.toNatClampNeg) 0).toInt = 1 ∧ x1.toInt + 1 = (v (29 + 15 * x0.toNatClampNeg) 2).toInt) → r = v (33 + 15 * x0.toNatClampNeg + 0) x1.toNatClampNeg - 1 ∧ u = v)) (fun u t => ex_Pst dC dI (va_A (wl ad kv cy N v) sz) (wl ad kv cy N u) t) (va_A (wl ad kv cy N v) sz)) 0 0 (va_A (wl ad kv cy N v) sz) := by
  refine Met.ofW (cc := cX7_learns) (maxL := 6) (ret := (some .int)) (by decide) rfl ?_
  intro p e s m args below meth c s₁ B hml hv
  obtain ⟨rfl, hsz, hE, hP, hK, hD0⟩ := hv
  have hx := B.exec
  have hb := B.bytes
  have hr := B.returns
  have hts := atoms_spec (ws := wsX7_learns) B.pre
  have hown : s.vm.findClass RX7 = some m.cls := findClass_of_methodNamed B.named
  have hlocks := B.notSynchronized
  subst hsz
  have hD := hD0.self (sz := s.heap.size)
  generalize hAe : va_A (wl ad kv cy N v) s.heap.size = A at hD ⊢
  have hA : ∀ q : Nat, s.heap.size ≤ q → A q := fun q h => by rw [← hAe]; exact Or.inr h
  have hS : va_S A s.heap s.heap [] := va_S.rf
  have hP : va_P (dC, dI) vwCl (wl ad kv cy N v) s.heap := hP
  have hl := lv_entry ([.ref (ad 0), .int x0, .int 0, .int x1, .int 1]) (n := 6) (Nat.le_of_ble_eq_true rfl)
  rw [lg_entry_eq]
  generalize (lg_sl ([.ref (ad 0), .int x0, .int 0, .int x1, .int 1]) ++ List.replicate (6 - (lg_sl ([.ref (ad 0), .int x0, .int 0, .int x1, .int 1])).length) Slot.unset).toArray = ls at hl ⊢
  have hl : lv_has ls 6 [(0, .ref (ad 0)), (1, .int x0), (2, .int 0), (3, .int x1), (4, .int 1)] := hl
  refine lv_aload_n hx hb dX7_learns_0 rfl (lv_at hl 0 rfl) ?_
  refine lv_iload_n hx hb dX7_learns_1 rfl (lv_at hl 1 rfl) ?_
  refine yw_i (w1 := fun (u : Nat → Nat → Int32) => wl ad kv cy N u) hD hS hA (va_runV (As := [.int x0]) (rest := []) ⟨hx, hb, hml, hown, hts⟩ (g_X7_isCase l dC dI cy _ ad kv N hN v hv x0) (cwV 1 hts gX7_learns_X7_isCase rfl rfl rfl hd_V_X7_isCase_1 ⟨Nat.le_of_ble_eq_true rfl, Nat.le_of_ble_eq_true rfl⟩) (yw_preV hE hK hP hD (ci := 7) (q := (RX7, TX7, 5)) (q0 := 0) rfl (wl_at (by omega) (ce_0 (by decide)))) rfl rfl hl.1 rfl (lv_room (Nat.le_of_ble_eq_true rfl)) dX7_learns_2 ⟨Nat.le_of_ble_eq_true rfl, Nat.le_of_ble_eq_true rfl⟩) (fun r_1 v_1 H locs hw_1 hP hD hS => ?_)
  obtain ⟨-, hu_1, hw_1⟩ := hw_1
  replace hu_1 := hu_1.symm
  subst hu_1
  rcases hw_1 with ⟨rfl, ha_2⟩ | ⟨rfl, ha_2⟩
  · have hb_2 := hv.at (k := 13) (j := 2) (K := 3) (by decide) rfl
    have hj_2 : 0 ≤ x0.toInt ∧ x0.toInt ≤ 5 := ⟨by omega, by omega⟩
    refine lv_if_eq (tgt := 15) hx hb dX7_learns_5 (by decide) (fun c9 => absurd c9 (by decide)) (fun _ => ?_)
    refine lv_iload_n hx hb dX7_learns_8 rfl (lv_at hl 2 rfl) ?_
    refine yc_p hP hS (va_runS (As := [.int 0]) (rest := []) ⟨hx, hb, hml, hown, hts⟩ (c_X7_isSide l 0) (cwS 1 hts gX7_learns_X7_isSide rfl rfl rfl hd_S_X7_isSide_1 ⟨Nat.le_of_ble_eq_true rfl, Nat.le_of_ble_eq_true rfl⟩) ex_preP rfl rfl hl.1 rfl (lv_room (Nat.le_of_ble_eq_true rfl)) dX7_learns_9 ⟨Nat.le_of_ble_eq_true rfl, Nat.le_of_ble_eq_true rfl⟩) (fun r_3 H locs hw_3 hP hS => ?_)
    rcases wi_ca hw_3 with ⟨rfl, hc_4⟩ | ⟨rfl, hc_4⟩
    · have k_0 : (0 : Int32).toInt = 0 := by decide
      have k_1 : (1 : Int32).toInt = 1 := by decide
      have tc_4 := wi_tl hc_4
      refine lv_if_ne (tgt := 17) hx hb dX7_learns_12 (by decide) (fun _ => ?_) (fun c9 => absurd c9 (by decide))
      refine lv_aload_n hx hb dX7_learns_17 rfl (lv_at hl 0 rfl) ?_
      refine va_get (D := (dC, dI)) (ci := 7) (v := .ref (ad 13)) (C := RX7) (T := TX7) (N := 5) hx hb hts iwX7_learns_X7 hown hK hP (0) (wl_at (by omega) (ce_0 (by decide))) rfl 0 (by decide) (hts (.fieldLink RX7 12 "QuietStairs" "now" "LQuietStairs$House;") fwX7_learns_1) (fun _ h9 => h9) rfl dX7_learns_18 ?_
      refine va_get (D := (dC, dI)) (ci := 1) (v := .ref (ad 16)) (C := RX1) (T := TX1) (N := 7) hx hb hts iwX7_learns_X1 hown hK hP (13) (wl_at (by omega) (ce_3 (by decide))) rfl 6 (by decide) (hts (.fieldLink RX7 86 "QuietStairs$House" "cases" "[LQuietStairs$Case;") fwX7_learns_2) (fun _ h9 => h9) rfl dX7_learns_21 ?_
      refine lv_iload_n hx hb dX7_learns_24 rfl (lv_at hl 1 rfl) ?_
      have zn_x0 : (x0.toNatClampNeg : Int) = x0.toInt := t_nn (by omega)
      have hx_5 : x0.toNatClampNeg < 6 := by omega
      refine va_aldq hx hb hK hP (16) 3 (wl_at (by omega) (ce_6 (by decide))) rfl (vp_in_iff.mpr ⟨by omega, by omega⟩) dX7_learns_25 ?_
      refine W.eq (g2 := F0 m 26 ls [.ref (ad (29 + 15 * x0.toNatClampNeg))]) (by rw [if_pos hx_5, show 16 + 13 + 15 * x0.toNatClampNeg = 29 + 15 * x0.toNatClampNeg from by omega]; rfl) ?_
      refine lv_astore (lv' := [(5, .ref (ad (29 + 15 * x0.toNatClampNeg))), (0, .ref (ad 0)), (1, .int x0), (2, .int 0), (3, .int x1), (4, .int 1)]) hx hb dX7_learns_26 hl (by decide) rfl (fun ls hl => ?_)
      refine lv_iload_n hx hb dX7_learns_28 rfl (lv_at hl 4 rfl) ?_
      refine lv_iconst (v := 0) hx hb dX7_learns_29 (by decide) ?_
      refine lv_aload hx hb dX7_learns_30 (lv_at hl 0 rfl) ?_
      refine va_get (D := (dC, dI)) (ci := 0) (v := .int (v (29 + 15 * x0.toNatClampNeg) 2)) (C := RX0) (T := TX0) (N := 11) hx hb hts iwX7_learns_X0 hown hK hP (29 + 15 * x0.toNatClampNeg) (wl_at (by omega) (ce_9 (kd_c _ hx_5).1.1)) rfl 2 (by decide) (hts (.fieldLink RX7 117 "QuietStairs$Case" "roundsOver" "I") fwX7_learns_3) (fun _ h9 => h9) rfl dX7_learns_32 ?_
      refine lv_topi (fun x_6 ex_6 => ?_)
      have bzx_6 : 0 ≤ x_6.toInt ∧ x_6.toInt ≤ 5 := by rw [ex_6]; exact hv.at (K := 9) (kd_c _ hx_5).1.1 rfl
      have qx_6 : x_6.toInt = (v (29 + 15 * x0.toNatClampNeg) (2)).toInt := congrArg Int32.toInt ex_6
      refine lv_iconst (v := 1) hx hb dX7_learns_35 (by decide) ?_
      refine lv_isub hx hb dX7_learns_36 ?_
      refine lv_topi (fun x_7 ex_7 => ?_)
      have tx_7 : x_7.toInt = x_6.toInt - (1 : Int32).toInt := by rw [ex_7]; exact t_sub ⟨by omega, by omega⟩
      refine yc_p hP hS (va_runS (As := [.int x1, .int 0, .int x_7]) (rest := []) ⟨hx, hb, hml, hown, hts⟩ (c_X7_isWithin l x1 0 x_7) (cwS 3 hts gX7_learns_X7_isWithin rfl rfl rfl hd_S_X7_isWithin_3 ⟨Nat.le_of_ble_eq_true rfl, Nat.le_of_ble_eq_true rfl⟩) ex_preP rfl rfl hl.1 rfl (lv_room (Nat.le_of_ble_eq_true rfl)) dX7_learns_37 ⟨Nat.le_of_ble_eq_true rfl, Nat.le_of_ble_eq_true rfl⟩) (fun r_8 H locs hw_8 hP hS => ?_)
      rcases wi_ca hw_8 with ⟨rfl, hc_9⟩ | ⟨rfl, hc_9⟩
      · have tc_9 := wi_tl hc_9
        refine lv_if_ne (tgt := 46) hx hb dX7_learns_40 (by decide) (fun _ => ?_) (fun c9 => absurd c9 (by decide))
        refine lv_iload hx hb dX7_learns_46 (lv_at hl 5 rfl) ?_
        refine lv_if_eq (tgt := 61) hx hb dX7_learns_48 (by decide) (fun c9 => absurd c9 (by decide)) (fun _ => ?_)
        refine lv_aload hx hb dX7_learns_51 (lv_at hl 0 rfl) ?_
        refine lv_iload_n hx hb dX7_learns_53 rfl (lv_at hl 3 rfl) ?_
        refine lv_iload_n hx hb dX7_learns_54 rfl (lv_at hl 4 rfl) ?_
        refine yw_i (w1 := fun (u : Nat → Nat → Int32) => wl ad kv cy N u) hD hS hA (va_runV (As := [.int 0, .int x1]) (rest := []) ⟨hx, hb, hml, hown, hts⟩ (e_X0_greatestOfOther_0 l dC dI cy _ ad kv N hN v hv x0.toNatClampNeg hx_5 x1 ⟨by omega, by omega⟩) (cwV 2 hts gX7_learns_X0_greatestOfOther rfl rfl rfl hd_V_X0_greatestOfOther_2 ⟨Nat.le_of_ble_eq_true rfl, Nat.le_of_ble_eq_true rfl⟩) (yw_preV hE hK hP hD (ci := 0) (q := (RX0, TX0, 11)) (q0 := (29 + 15 * x0.toNatClampNeg)) rfl (wl_at (by omega) (ce_9 (kd_c _ hx_5).1.1))) rfl rfl hl.1 rfl (lv_room (Nat.le_of_ble_eq_true rfl)) dX7_learns_55 ⟨Nat.le_of_ble_eq_true rfl, Nat.le_of_ble_eq_true rfl⟩) (fun r_10 v_10 H locs hw_10 hP hD hS => ?_)
        obtain ⟨-, hu_10, hw_10⟩ := hw_10
        replace hu_10 := hu_10.symm
        subst hu_10
        refine lv_goto (tgt := 68) hx hb dX7_learns_58 (by decide) ?_
        have hpost : (¬ (0 ≤ x0.toInt ∧ x0.toInt < (v 13 2).toInt) → r_10 = -1 ∧ v = v) ∧ ((0 ≤ x0.toInt ∧ x0.toInt < (v 13 2).toInt) ∧ ¬ (0 ≤ x1.toInt ∧ x1.toInt < (v (29 + 15 * x0.toNatClampNeg) 2).toInt) → r_10 = -5 ∧ v = v) ∧ (((0 ≤ x0.toInt ∧ x0.toInt < (v 13 2).toInt) ∧ (0 ≤ x1.toInt ∧ x1.toInt < (v (29 + 15 * x0.toNatClampNeg) 2).toInt)) ∧ ((v (29 + 15 * x0.toNatClampNeg) 0).toInt = 1 ∧ x1.toInt + 1 = (v (29 + 15 * x0.toNatClampNeg) 2).toInt) → r_10 = (if 2 * v (29 + 15 * x0.toNatClampNeg) 1 + 1 - v (33 + 15 * x0.toNatClampNeg + 0) x1.toNatClampNeg < 100 then 2 * v (29 + 15 * x0.toNatClampNeg) 1 + 1 - v (33 + 15 * x0.toNatClampNeg + 0) x1.toNatClampNeg else 100) ∧ v = v) ∧ (((0 ≤ x0.toInt ∧ x0.toInt < (v 13 2).toInt) ∧ (0 ≤ x1.toInt ∧ x1.toInt < (v (29 + 15 * x0.toNatClampNeg) 2).toInt)) ∧ ¬ ((v (29 + 15 * x0.toNatClampNeg) 0).toInt = 1 ∧ x1.toInt + 1 = (v (29 + 15 * x0.toNatClampNeg) 2).toInt) → r_10 = v (33 + 15 * x0.toNatClampNeg + 0) x1.toNatClampNeg - 1 ∧ v = v) := by
          refine ⟨fun hq => ?_, fun hq => ?_, fun hq => ?_, fun hq => ?_⟩
          · exfalso; omega
          · exfalso; omega
          · exact ⟨hw_10.1 hq.2, rfl⟩
          · exact ⟨hw_10.2 hq.2, rfl⟩
        exact W.iret (v := r_10) hx hb hr (fun t ht hW => ⟨⟨r_10, v, rfl, ⟨hv, hpost⟩, by rw [ht]; exact hP, hD⟩, hS.F ht⟩) hS.2.2 dX7_learns_68
      · have tc_9 : ¬ ((0 : Int32).toInt ≤ x1.toInt ∧ x1.toInt ≤ x_7.toInt) := fun q => hc_9 ⟨Int32.le_iff_toInt_le.mpr q.1, Int32.le_iff_toInt_le.mpr q.2⟩
        refine lv_if_ne (tgt := 46) hx hb dX7_learns_40 (by decide) (fun c9 => absurd c9 (by decide)) (fun _ => ?_)
        refine lv_bipush (v := (-5)) hx hb dX7_learns_43 (by decide) ?_
        have hpost : (¬ (0 ≤ x0.toInt ∧ x0.toInt < (v 13 2).toInt) → ((-5) : Int32) = -1 ∧ v = v) ∧ ((0 ≤ x0.toInt ∧ x0.toInt < (v 13 2).toInt) ∧ ¬ (0 ≤ x1.toInt ∧ x1.toInt < (v (29 + 15 * x0.toNatClampNeg) 2).toInt) → ((-5) : Int32) = -5 ∧ v = v) ∧ (((0 ≤ x0.toInt ∧ x0.toInt < (v 13 2).toInt) ∧ (0 ≤ x1.toInt ∧ x1.toInt < (v (29 + 15 * x0.toNatClampNeg) 2).toInt)) ∧ ((v (29 + 15 * x0.toNatClampNeg) 0).toInt = 1 ∧ x1.toInt + 1 = (v (29 + 15 * x0.toNatClampNeg) 2).toInt) → ((-5) : Int32) = (if 2 * v (29 + 15 * x0.toNatClampNeg) 1 + 1 - v (33 + 15 * x0.toNatClampNeg + 0) x1.toNatClampNeg < 100 then 2 * v (29 + 15 * x0.toNatClampNeg) 1 + 1 - v (33 + 15 * x0.toNatClampNeg + 0) x1.toNatClampNeg else 100) ∧ v = v) ∧ (((0 ≤ x0.toInt ∧ x0.toInt < (v 13 2).toInt) ∧ (0 ≤ x1.toInt ∧ x1.toInt < (v (29 + 15 * x0.toNatClampNeg) 2).toInt)) ∧ ¬ ((v (29 + 15 * x0.toNatClampNeg) 0).toInt = 1 ∧ x1.toInt + 1 = (v (29 + 15 * x0.toNatClampNeg) 2).toInt) → ((-5) : Int32) = v (33 + 15 * x0.toNatClampNeg + 0) x1.toNatClampNeg - 1 ∧ v = v) := by
          refine ⟨fun hq => ?_, fun hq => ?_, fun hq => ?_, fun hq => ?_⟩
          · exfalso; omega
          · exact ⟨rfl, rfl⟩
          · exfalso; omega
          · exfalso; omega
        exact W.iret (v := (-5)) hx hb hr (fun t ht hW => ⟨⟨(-5), v, rfl, ⟨hv, hpost⟩, by rw [ht]; exact hP, hD⟩, hS.F ht⟩) hS.2.2 dX7_learns_45
    · have k_0 : (0 : Int32).toInt = 0 := by decide
      have k_1 : (1 : Int32).toInt = 1 := by decide
      have tc_4 : ¬ ((0 : Int32).toInt ≤ (0 : Int32).toInt ∧ (0 : Int32).toInt ≤ (1 : Int32).toInt) := fun q => hc_4 ⟨Int32.le_iff_toInt_le.mpr q.1, Int32.le_iff_toInt_le.mpr q.2⟩
      refine lv_if_ne (tgt := 17) hx hb dX7_learns_12 (by decide) (fun c9 => absurd c9 (by decide)) (fun _ => ?_)
      refine lv_iconst (v := (-1)) hx hb dX7_learns_15 (by decide) ?_
      have hpost : (¬ (0 ≤ x0.toInt ∧ x0.toInt < (v 13 2).toInt) → ((-1) : Int32) = -1 ∧ v = v) ∧ ((0 ≤ x0.toInt ∧ x0.toInt < (v 13 2).toInt) ∧ ¬ (0 ≤ x1.toInt ∧ x1.toInt < (v (29 + 15 * x0.toNatClampNeg) 2).toInt) → ((-1) : Int32) = -5 ∧ v = v) ∧ (((0 ≤ x0.toInt ∧ x0.toInt < (v 13 2).toInt) ∧ (0 ≤ x1.toInt ∧ x1.toInt < (v (29 + 15 * x0.toNatClampNeg) 2).toInt)) ∧ ((v (29 + 15 * x0.toNatClampNeg) 0).toInt = 1 ∧ x1.toInt + 1 = (v (29 + 15 * x0.toNatClampNeg) 2).toInt) → ((-1) : Int32) = (if 2 * v (29 + 15 * x0.toNatClampNeg) 1 + 1 - v (33 + 15 * x0.toNatClampNeg + 0) x1.toNatClampNeg < 100 then 2 * v (29 + 15 * x0.toNatClampNeg) 1 + 1 - v (33 + 15 * x0.toNatClampNeg + 0) x1.toNatClampNeg else 100) ∧ v = v) ∧ (((0 ≤ x0.toInt ∧ x0.toInt < (v 13 2).toInt) ∧ (0 ≤ x1.toInt ∧ x1.toInt < (v (29 + 15 * x0.toNatClampNeg) 2).toInt)) ∧ ¬ ((v (29 + 15 * x0.toNatClampNeg) 0).toInt = 1 ∧ x1.toInt + 1 = (v (29 + 15 * x0.toNatClampNeg) 2).toInt) → ((-1) : Int32) = v (33 + 15 * x0.toNatClampNeg + 0) x1.toNatClampNeg - 1 ∧ v = v) := by
        refine ⟨fun hq => ?_, fun hq => ?_, fun hq => ?_, fun hq => ?_⟩
        · exact ⟨rfl, rfl⟩
        · exfalso; omega
        · exfalso; omega
        · exfalso; omega
      exact W.iret (v := (-1)) hx hb hr (fun t ht hW => ⟨⟨(-1), v, rfl, ⟨hv, hpost⟩, by rw [ht]; exact hP, hD⟩, hS.F ht⟩) hS.2.2 dX7_learns_16
  · refine lv_if_eq (tgt := 15) hx hb dX7_learns_5 (by decide) (fun _ => ?_) (fun c9 => absurd c9 (by decide))
    refine lv_iconst (v := (-1)) hx hb dX7_learns_15 (by decide) ?_
    have hpost : (¬ (0 ≤ x0.toInt ∧ x0.toInt < (v 13 2).toInt) → ((-1) : Int32) = -1 ∧ v = v) ∧ ((0 ≤ x0.toInt ∧ x0.toInt < (v 13 2).toInt) ∧ ¬ (0 ≤ x1.toInt ∧ x1.toInt < (v (29 + 15 * x0.toNatClampNeg) 2).toInt) → ((-1) : Int32) = -5 ∧ v = v) ∧ (((0 ≤ x0.toInt ∧ x0.toInt < (v 13 2).toInt) ∧ (0 ≤ x1.toInt ∧ x1.toInt < (v (29 + 15 * x0.toNatClampNeg) 2).toInt)) ∧ ((v (29 + 15 * x0.toNatClampNeg) 0).toInt = 1 ∧ x1.toInt + 1 = (v (29 + 15 * x0.toNatClampNeg) 2).toInt) → ((-1) : Int32) = (if 2 * v (29 + 15 * x0.toNatClampNeg) 1 + 1 - v (33 + 15 * x0.toNatClampNeg + 0) x1.toNatClampNeg < 100 then 2 * v (29 + 15 * x0.toNatClampNeg) 1 + 1 - v (33 + 15 * x0.toNatClampNeg + 0) x1.toNatClampNeg else 100) ∧ v = v) ∧ (((0 ≤ x0.toInt ∧ x0.toInt < (v 13 2).toInt) ∧ (0 ≤ x1.toInt ∧ x1.toInt < (v (29 + 15 * x0.toNatClampNeg) 2).toInt)) ∧ ¬ ((v (29 + 15 * x0.toNatClampNeg) 0).toInt = 1 ∧ x1.toInt + 1 = (v (29 + 15 * x0.toNatClampNeg) 2).toInt) → ((-1) : Int32) = v (33 + 15 * x0.toNatClampNeg + 0) x1.toNatClampNeg - 1 ∧ v = v) := by
      refine ⟨fun hq => ?_, fun hq => ?_, fun hq => ?_, fun hq => ?_⟩
      · exact ⟨rfl, rfl⟩
      · exfalso; omega
      · exfalso; omega
      · exfalso; omega
    exact W.iret (v := (-1)) hx hb hr (fun t ht hW => ⟨⟨(-1), v, rfl, ⟨hv, hpost⟩, by rw [ht]; exact hP, hD⟩, hS.F ht⟩) hS.2.2 dX7_learns_16

set_option maxHeartbeats 4000000 in
set_option maxRecDepth 100000 in
theorem e_X7_learns_10 (l : Launch) (dC : Nat → ClassId) (dI : Nat → Nat → Nat) (cy : Nat → ClassId) (sz : Nat) (ad : Nat → Nat) (kv : Value) (N : Nat) (hN : 119 ≤ N) (v : Nat → Nat → Int32) (hv : Iv v) (x0 x1 : Int32) : Met l yX7_learns wsX7_learns ({ frames := 3, cells := 0, slots := 0, locals := 192 }) (va_Pc [.ref (ad 0), .int x0, .int 1, .int x1, .int 0] (ex_Pre dC dI cy sz (wl ad kv cy N v))) (va_Qi (fun (r : Int32) (u : Nat → Nat → Int32) => Iv u ∧ (¬ (0 ≤ x0.toInt ∧ x0.toInt < (v 13 2).toInt) → r = -1 ∧ u = v) ∧ ((0 ≤ x0.toInt ∧ x0.toInt < (v 13 2).toInt) ∧ ¬ (0 ≤ x1.toInt ∧ x1.toInt < (v (29 + 15 * x0.toNatClampNeg) 2).toInt) → r = -5 ∧ u = v) ∧ (((0 ≤ x0.toInt ∧ x0.toInt < (v 13 2).toInt) ∧ (0 ≤ x1.toInt ∧ x1.toInt < (v (29 + 15 * x0.toNatClampNeg) 2).toInt)) ∧ ((v (29 + 15 * x0.toNatClampNeg) 0).toInt = 1 ∧ x1.toInt + 1 = (v (29 + 15 * x0.toNatClampNeg) 2).toInt) → r = (if 0 < 2 * v (29 + 15 * x0.toNatClampNeg) 1 - v (33 + 15 * x0.toNatClampNeg + 1) x1.toNatClampNeg then 2 * v (29 + 15 * x0.toNatClampNeg) 1 - v (33 + 15 * x0.toNatClampNeg + 1) x1.toNatClampNeg else 0) ∧ u = v) ∧ (((0 ≤ x0.toInt ∧ x0.toInt < (v 13 2).toInt) ∧ (0 ≤ x1.toInt ∧ x1.toInt < (v (29 + 15 * x0.toNatClampNeg) 2).toInt)) ∧ ¬ ((v (29 + 15 * x0.toNatClampNeg) 0).toInt = 1 ∧ x1.toInt + 1 = (v (29 + 15 * x0.toNatClampNeg) 2).toInt) → r = v (33 + 15 * x0.toNatClampNeg + 1) x1.toNatClampNeg + 1 ∧ u = v)) (fun u t => ex_Pst dC dI (va_A (wl ad kv cy N v) sz) (wl ad kv cy N u) t) (va_A (wl ad kv cy N v) sz)) 0 0 (va_A (wl ad kv cy N v) sz) := by
  refine Met.ofW (cc := cX7_learns) (maxL := 6) (ret := (some .int)) (by decide) rfl ?_
  intro p e s m args below meth c s₁ B hml hv
  obtain ⟨rfl, hsz, hE, hP, hK, hD0⟩ := hv
  have hx := B.exec
  have hb := B.bytes
  have hr := B.returns
  have hts := atoms_spec (ws := wsX7_learns) B.pre
  have hown : s.vm.findClass RX7 = some m.cls := findClass_of_methodNamed B.named
  have hlocks := B.notSynchronized
  subst hsz
  have hD := hD0.self (sz := s.heap.size)
  generalize hAe : va_A (wl ad kv cy N v) s.heap.size = A at hD ⊢
  have hA : ∀ q : Nat, s.heap.size ≤ q → A q := fun q h => by rw [← hAe]; exact Or.inr h
  have hS : va_S A s.heap s.heap [] := va_S.rf
  have hP : va_P (dC, dI) vwCl (wl ad kv cy N v) s.heap := hP
  have hl := lv_entry ([.ref (ad 0), .int x0, .int 1, .int x1, .int 0]) (n := 6) (Nat.le_of_ble_eq_true rfl)
  rw [lg_entry_eq]
  generalize (lg_sl ([.ref (ad 0), .int x0, .int 1, .int x1, .int 0]) ++ List.replicate (6 - (lg_sl ([.ref (ad 0), .int x0, .int 1, .int x1, .int 0])).length) Slot.unset).toArray = ls at hl ⊢
  have hl : lv_has ls 6 [(0, .ref (ad 0)), (1, .int x0), (2, .int 1), (3, .int x1), (4, .int 0)] := hl
  refine lv_aload_n hx hb dX7_learns_0 rfl (lv_at hl 0 rfl) ?_
  refine lv_iload_n hx hb dX7_learns_1 rfl (lv_at hl 1 rfl) ?_
  refine yw_i (w1 := fun (u : Nat → Nat → Int32) => wl ad kv cy N u) hD hS hA (va_runV (As := [.int x0]) (rest := []) ⟨hx, hb, hml, hown, hts⟩ (g_X7_isCase l dC dI cy _ ad kv N hN v hv x0) (cwV 1 hts gX7_learns_X7_isCase rfl rfl rfl hd_V_X7_isCase_1 ⟨Nat.le_of_ble_eq_true rfl, Nat.le_of_ble_eq_true rfl⟩) (yw_preV hE hK hP hD (ci := 7) (q := (RX7, TX7, 5)) (q0 := 0) rfl (wl_at (by omega) (ce_0 (by decide)))) rfl rfl hl.1 rfl (lv_room (Nat.le_of_ble_eq_true rfl)) dX7_learns_2 ⟨Nat.le_of_ble_eq_true rfl, Nat.le_of_ble_eq_true rfl⟩) (fun r_1 v_1 H locs hw_1 hP hD hS => ?_)
  obtain ⟨-, hu_1, hw_1⟩ := hw_1
  replace hu_1 := hu_1.symm
  subst hu_1
  rcases hw_1 with ⟨rfl, ha_2⟩ | ⟨rfl, ha_2⟩
  · have hb_2 := hv.at (k := 13) (j := 2) (K := 3) (by decide) rfl
    have hj_2 : 0 ≤ x0.toInt ∧ x0.toInt ≤ 5 := ⟨by omega, by omega⟩
    refine lv_if_eq (tgt := 15) hx hb dX7_learns_5 (by decide) (fun c9 => absurd c9 (by decide)) (fun _ => ?_)
    refine lv_iload_n hx hb dX7_learns_8 rfl (lv_at hl 2 rfl) ?_
    refine yc_p hP hS (va_runS (As := [.int 1]) (rest := []) ⟨hx, hb, hml, hown, hts⟩ (c_X7_isSide l 1) (cwS 1 hts gX7_learns_X7_isSide rfl rfl rfl hd_S_X7_isSide_1 ⟨Nat.le_of_ble_eq_true rfl, Nat.le_of_ble_eq_true rfl⟩) ex_preP rfl rfl hl.1 rfl (lv_room (Nat.le_of_ble_eq_true rfl)) dX7_learns_9 ⟨Nat.le_of_ble_eq_true rfl, Nat.le_of_ble_eq_true rfl⟩) (fun r_3 H locs hw_3 hP hS => ?_)
    rcases wi_ca hw_3 with ⟨rfl, hc_4⟩ | ⟨rfl, hc_4⟩
    · have k_0 : (0 : Int32).toInt = 0 := by decide
      have k_1 : (1 : Int32).toInt = 1 := by decide
      have tc_4 := wi_tl hc_4
      refine lv_if_ne (tgt := 17) hx hb dX7_learns_12 (by decide) (fun _ => ?_) (fun c9 => absurd c9 (by decide))
      refine lv_aload_n hx hb dX7_learns_17 rfl (lv_at hl 0 rfl) ?_
      refine va_get (D := (dC, dI)) (ci := 7) (v := .ref (ad 13)) (C := RX7) (T := TX7) (N := 5) hx hb hts iwX7_learns_X7 hown hK hP (0) (wl_at (by omega) (ce_0 (by decide))) rfl 0 (by decide) (hts (.fieldLink RX7 12 "QuietStairs" "now" "LQuietStairs$House;") fwX7_learns_1) (fun _ h9 => h9) rfl dX7_learns_18 ?_
      refine va_get (D := (dC, dI)) (ci := 1) (v := .ref (ad 16)) (C := RX1) (T := TX1) (N := 7) hx hb hts iwX7_learns_X1 hown hK hP (13) (wl_at (by omega) (ce_3 (by decide))) rfl 6 (by decide) (hts (.fieldLink RX7 86 "QuietStairs$House" "cases" "[LQuietStairs$Case;") fwX7_learns_2) (fun _ h9 => h9) rfl dX7_learns_21 ?_
      refine lv_iload_n hx hb dX7_learns_24 rfl (lv_at hl 1 rfl) ?_
      have zn_x0 : (x0.toNatClampNeg : Int) = x0.toInt := t_nn (by omega)
      have hx_5 : x0.toNatClampNeg < 6 := by omega
      refine va_aldq hx hb hK hP (16) 3 (wl_at (by omega) (ce_6 (by decide))) rfl (vp_in_iff.mpr ⟨by omega, by omega⟩) dX7_learns_25 ?_
      refine W.eq (g2 := F0 m 26 ls [.ref (ad (29 + 15 * x0.toNatClampNeg))]) (by rw [if_pos hx_5, show 16 + 13 + 15 * x0.toNatClampNeg = 29 + 15 * x0.toNatClampNeg from by omega]; rfl) ?_
      refine lv_astore (lv' := [(5, .ref (ad (29 + 15 * x0.toNatClampNeg))), (0, .ref (ad 0)), (1, .int x0), (2, .int 1), (3, .int x1), (4, .int 0)]) hx hb dX7_learns_26 hl (by decide) rfl (fun ls hl => ?_)
      refine lv_iload_n hx hb dX7_learns_28 rfl (lv_at hl 4 rfl) ?_
      refine lv_iconst (v := 0) hx hb dX7_learns_29 (by decide) ?_
      refine lv_aload hx hb dX7_learns_30 (lv_at hl 0 rfl) ?_
      refine va_get (D := (dC, dI)) (ci := 0) (v := .int (v (29 + 15 * x0.toNatClampNeg) 2)) (C := RX0) (T := TX0) (N := 11) hx hb hts iwX7_learns_X0 hown hK hP (29 + 15 * x0.toNatClampNeg) (wl_at (by omega) (ce_9 (kd_c _ hx_5).1.1)) rfl 2 (by decide) (hts (.fieldLink RX7 117 "QuietStairs$Case" "roundsOver" "I") fwX7_learns_3) (fun _ h9 => h9) rfl dX7_learns_32 ?_
      refine lv_topi (fun x_6 ex_6 => ?_)
      have bzx_6 : 0 ≤ x_6.toInt ∧ x_6.toInt ≤ 5 := by rw [ex_6]; exact hv.at (K := 9) (kd_c _ hx_5).1.1 rfl
      have qx_6 : x_6.toInt = (v (29 + 15 * x0.toNatClampNeg) (2)).toInt := congrArg Int32.toInt ex_6
      refine lv_iconst (v := 1) hx hb dX7_learns_35 (by decide) ?_
      refine lv_isub hx hb dX7_learns_36 ?_
      refine lv_topi (fun x_7 ex_7 => ?_)
      have tx_7 : x_7.toInt = x_6.toInt - (1 : Int32).toInt := by rw [ex_7]; exact t_sub ⟨by omega, by omega⟩
      refine yc_p hP hS (va_runS (As := [.int x1, .int 0, .int x_7]) (rest := []) ⟨hx, hb, hml, hown, hts⟩ (c_X7_isWithin l x1 0 x_7) (cwS 3 hts gX7_learns_X7_isWithin rfl rfl rfl hd_S_X7_isWithin_3 ⟨Nat.le_of_ble_eq_true rfl, Nat.le_of_ble_eq_true rfl⟩) ex_preP rfl rfl hl.1 rfl (lv_room (Nat.le_of_ble_eq_true rfl)) dX7_learns_37 ⟨Nat.le_of_ble_eq_true rfl, Nat.le_of_ble_eq_true rfl⟩) (fun r_8 H locs hw_8 hP hS => ?_)
      rcases wi_ca hw_8 with ⟨rfl, hc_9⟩ | ⟨rfl, hc_9⟩
      · have tc_9 := wi_tl hc_9
        refine lv_if_ne (tgt := 46) hx hb dX7_learns_40 (by decide) (fun _ => ?_) (fun c9 => absurd c9 (by decide))
        refine lv_iload hx hb dX7_learns_46 (lv_at hl 5 rfl) ?_
        refine lv_if_eq (tgt := 61) hx hb dX7_learns_48 (by decide) (fun _ => ?_) (fun c9 => absurd c9 (by decide))
        refine lv_aload hx hb dX7_learns_61 (lv_at hl 0 rfl) ?_
        refine lv_iload_n hx hb dX7_learns_63 rfl (lv_at hl 3 rfl) ?_
        refine lv_iload_n hx hb dX7_learns_64 rfl (lv_at hl 4 rfl) ?_
        refine yw_i (w1 := fun (u : Nat → Nat → Int32) => wl ad kv cy N u) hD hS hA (va_runV (As := [.int 1, .int x1]) (rest := []) ⟨hx, hb, hml, hown, hts⟩ (e_X0_leastOfOther_1 l dC dI cy _ ad kv N hN v hv x0.toNatClampNeg hx_5 x1 ⟨by omega, by omega⟩) (cwV 2 hts gX7_learns_X0_leastOfOther rfl rfl rfl hd_V_X0_leastOfOther_2 ⟨Nat.le_of_ble_eq_true rfl, Nat.le_of_ble_eq_true rfl⟩) (yw_preV hE hK hP hD (ci := 0) (q := (RX0, TX0, 11)) (q0 := (29 + 15 * x0.toNatClampNeg)) rfl (wl_at (by omega) (ce_9 (kd_c _ hx_5).1.1))) rfl rfl hl.1 rfl (lv_room (Nat.le_of_ble_eq_true rfl)) dX7_learns_65 ⟨Nat.le_of_ble_eq_true rfl, Nat.le_of_ble_eq_true rfl⟩) (fun r_10 v_10 H locs hw_10 hP hD hS => ?_)
        obtain ⟨-, hu_10, hw_10⟩ := hw_10
        replace hu_10 := hu_10.symm
        subst hu_10
        have hpost : (¬ (0 ≤ x0.toInt ∧ x0.toInt < (v 13 2).toInt) → r_10 = -1 ∧ v = v) ∧ ((0 ≤ x0.toInt ∧ x0.toInt < (v 13 2).toInt) ∧ ¬ (0 ≤ x1.toInt ∧ x1.toInt < (v (29 + 15 * x0.toNatClampNeg) 2).toInt) → r_10 = -5 ∧ v = v) ∧ (((0 ≤ x0.toInt ∧ x0.toInt < (v 13 2).toInt) ∧ (0 ≤ x1.toInt ∧ x1.toInt < (v (29 + 15 * x0.toNatClampNeg) 2).toInt)) ∧ ((v (29 + 15 * x0.toNatClampNeg) 0).toInt = 1 ∧ x1.toInt + 1 = (v (29 + 15 * x0.toNatClampNeg) 2).toInt) → r_10 = (if 0 < 2 * v (29 + 15 * x0.toNatClampNeg) 1 - v (33 + 15 * x0.toNatClampNeg + 1) x1.toNatClampNeg then 2 * v (29 + 15 * x0.toNatClampNeg) 1 - v (33 + 15 * x0.toNatClampNeg + 1) x1.toNatClampNeg else 0) ∧ v = v) ∧ (((0 ≤ x0.toInt ∧ x0.toInt < (v 13 2).toInt) ∧ (0 ≤ x1.toInt ∧ x1.toInt < (v (29 + 15 * x0.toNatClampNeg) 2).toInt)) ∧ ¬ ((v (29 + 15 * x0.toNatClampNeg) 0).toInt = 1 ∧ x1.toInt + 1 = (v (29 + 15 * x0.toNatClampNeg) 2).toInt) → r_10 = v (33 + 15 * x0.toNatClampNeg + 1) x1.toNatClampNeg + 1 ∧ v = v) := by
          refine ⟨fun hq => ?_, fun hq => ?_, fun hq => ?_, fun hq => ?_⟩
          · exfalso; omega
          · exfalso; omega
          · exact ⟨hw_10.1 hq.2, rfl⟩
          · exact ⟨hw_10.2 hq.2, rfl⟩
        exact W.iret (v := r_10) hx hb hr (fun t ht hW => ⟨⟨r_10, v, rfl, ⟨hv, hpost⟩, by rw [ht]; exact hP, hD⟩, hS.F ht⟩) hS.2.2 dX7_learns_68
      · have tc_9 : ¬ ((0 : Int32).toInt ≤ x1.toInt ∧ x1.toInt ≤ x_7.toInt) := fun q => hc_9 ⟨Int32.le_iff_toInt_le.mpr q.1, Int32.le_iff_toInt_le.mpr q.2⟩
        refine lv_if_ne (tgt := 46) hx hb dX7_learns_40 (by decide) (fun c9 => absurd c9 (by decide)) (fun _ => ?_)
        refine lv_bipush (v := (-5)) hx hb dX7_learns_43 (by decide) ?_
        have hpost : (¬ (0 ≤ x0.toInt ∧ x0.toInt < (v 13 2).toInt) → ((-5) : Int32) = -1 ∧ v = v) ∧ ((0 ≤ x0.toInt ∧ x0.toInt < (v 13 2).toInt) ∧ ¬ (0 ≤ x1.toInt ∧ x1.toInt < (v (29 + 15 * x0.toNatClampNeg) 2).toInt) → ((-5) : Int32) = -5 ∧ v = v) ∧ (((0 ≤ x0.toInt ∧ x0.toInt < (v 13 2).toInt) ∧ (0 ≤ x1.toInt ∧ x1.toInt < (v (29 + 15 * x0.toNatClampNeg) 2).toInt)) ∧ ((v (29 + 15 * x0.toNatClampNeg) 0).toInt = 1 ∧ x1.toInt + 1 = (v (29 + 15 * x0.toNatClampNeg) 2).toInt) → ((-5) : Int32) = (if 0 < 2 * v (29 + 15 * x0.toNatClampNeg) 1 - v (33 + 15 * x0.toNatClampNeg + 1) x1.toNatClampNeg then 2 * v (29 + 15 * x0.toNatClampNeg) 1 - v (33 + 15 * x0.toNatClampNeg + 1) x1.toNatClampNeg else 0) ∧ v = v) ∧ (((0 ≤ x0.toInt ∧ x0.toInt < (v 13 2).toInt) ∧ (0 ≤ x1.toInt ∧ x1.toInt < (v (29 + 15 * x0.toNatClampNeg) 2).toInt)) ∧ ¬ ((v (29 + 15 * x0.toNatClampNeg) 0).toInt = 1 ∧ x1.toInt + 1 = (v (29 + 15 * x0.toNatClampNeg) 2).toInt) → ((-5) : Int32) = v (33 + 15 * x0.toNatClampNeg + 1) x1.toNatClampNeg + 1 ∧ v = v) := by
          refine ⟨fun hq => ?_, fun hq => ?_, fun hq => ?_, fun hq => ?_⟩
          · exfalso; omega
          · exact ⟨rfl, rfl⟩
          · exfalso; omega
          · exfalso; omega
        exact W.iret (v := (-5)) hx hb hr (fun t ht hW => ⟨⟨(-5), v, rfl, ⟨hv, hpost⟩, by rw [ht]; exact hP, hD⟩, hS.F ht⟩) hS.2.2 dX7_learns_45
    · have k_0 : (0 : Int32).toInt = 0 := by decide
      have k_1 : (1 : Int32).toInt = 1 := by decide
      have tc_4 : ¬ ((0 : Int32).toInt ≤ (1 : Int32).toInt ∧ (1 : Int32).toInt ≤ (1 : Int32).toInt) := fun q => hc_4 ⟨Int32.le_iff_toInt_le.mpr q.1, Int32.le_iff_toInt_le.mpr q.2⟩
      refine lv_if_ne (tgt := 17) hx hb dX7_learns_12 (by decide) (fun c9 => absurd c9 (by decide)) (fun _ => ?_)
      refine lv_iconst (v := (-1)) hx hb dX7_learns_15 (by decide) ?_
      have hpost : (¬ (0 ≤ x0.toInt ∧ x0.toInt < (v 13 2).toInt) → ((-1) : Int32) = -1 ∧ v = v) ∧ ((0 ≤ x0.toInt ∧ x0.toInt < (v 13 2).toInt) ∧ ¬ (0 ≤ x1.toInt ∧ x1.toInt < (v (29 + 15 * x0.toNatClampNeg) 2).toInt) → ((-1) : Int32) = -5 ∧ v = v) ∧ (((0 ≤ x0.toInt ∧ x0.toInt < (v 13 2).toInt) ∧ (0 ≤ x1.toInt ∧ x1.toInt < (v (29 + 15 * x0.toNatClampNeg) 2).toInt)) ∧ ((v (29 + 15 * x0.toNatClampNeg) 0).toInt = 1 ∧ x1.toInt + 1 = (v (29 + 15 * x0.toNatClampNeg) 2).toInt) → ((-1) : Int32) = (if 0 < 2 * v (29 + 15 * x0.toNatClampNeg) 1 - v (33 + 15 * x0.toNatClampNeg + 1) x1.toNatClampNeg then 2 * v (29 + 15 * x0.toNatClampNeg) 1 - v (33 + 15 * x0.toNatClampNeg + 1) x1.toNatClampNeg else 0) ∧ v = v) ∧ (((0 ≤ x0.toInt ∧ x0.toInt < (v 13 2).toInt) ∧ (0 ≤ x1.toInt ∧ x1.toInt < (v (29 + 15 * x0.toNatClampNeg) 2).toInt)) ∧ ¬ ((v (29 + 15 * x0.toNatClampNeg) 0).toInt = 1 ∧ x1.toInt + 1 = (v (29 + 15 * x0.toNatClampNeg) 2).toInt) → ((-1) : Int32) = v (33 + 15 * x0.toNatClampNeg + 1) x1.toNatClampNeg + 1 ∧ v = v) := by
        refine ⟨fun hq => ?_, fun hq => ?_, fun hq => ?_, fun hq => ?_⟩
        · exact ⟨rfl, rfl⟩
        · exfalso; omega
        · exfalso; omega
        · exfalso; omega
      exact W.iret (v := (-1)) hx hb hr (fun t ht hW => ⟨⟨(-1), v, rfl, ⟨hv, hpost⟩, by rw [ht]; exact hP, hD⟩, hS.F ht⟩) hS.2.2 dX7_learns_16
  · refine lv_if_eq (tgt := 15) hx hb dX7_learns_5 (by decide) (fun _ => ?_) (fun c9 => absurd c9 (by decide))
    refine lv_iconst (v := (-1)) hx hb dX7_learns_15 (by decide) ?_
    have hpost : (¬ (0 ≤ x0.toInt ∧ x0.toInt < (v 13 2).toInt) → ((-1) : Int32) = -1 ∧ v = v) ∧ ((0 ≤ x0.toInt ∧ x0.toInt < (v 13 2).toInt) ∧ ¬ (0 ≤ x1.toInt ∧ x1.toInt < (v (29 + 15 * x0.toNatClampNeg) 2).toInt) → ((-1) : Int32) = -5 ∧ v = v) ∧ (((0 ≤ x0.toInt ∧ x0.toInt < (v 13 2).toInt) ∧ (0 ≤ x1.toInt ∧ x1.toInt < (v (29 + 15 * x0.toNatClampNeg) 2).toInt)) ∧ ((v (29 + 15 * x0.toNatClampNeg) 0).toInt = 1 ∧ x1.toInt + 1 = (v (29 + 15 * x0.toNatClampNeg) 2).toInt) → ((-1) : Int32) = (if 0 < 2 * v (29 + 15 * x0.toNatClampNeg) 1 - v (33 + 15 * x0.toNatClampNeg + 1) x1.toNatClampNeg then 2 * v (29 + 15 * x0.toNatClampNeg) 1 - v (33 + 15 * x0.toNatClampNeg + 1) x1.toNatClampNeg else 0) ∧ v = v) ∧ (((0 ≤ x0.toInt ∧ x0.toInt < (v 13 2).toInt) ∧ (0 ≤ x1.toInt ∧ x1.toInt < (v (29 + 15 * x0.toNatClampNeg) 2).toInt)) ∧ ¬ ((v (29 + 15 * x0.toNatClampNeg) 0).toInt = 1 ∧ x1.toInt + 1 = (v (29 + 15 * x0.toNatClampNeg) 2).toInt) → ((-1) : Int32) = v (33 + 15 * x0.toNatClampNeg + 1) x1.toNatClampNeg + 1 ∧ v = v) := by
      refine ⟨fun hq => ?_, fun hq => ?_, fun hq => ?_, fun hq => ?_⟩
      · exact ⟨rfl, rfl⟩
      · exfalso; omega
      · exfalso; omega
      · exfalso; omega
    exact W.iret (v := (-1)) hx hb hr (fun t ht hW => ⟨⟨(-1), v, rfl, ⟨hv, hpost⟩, by rw [ht]; exact hP, hD⟩, hS.F ht⟩) hS.2.2 dX7_learns_16

set_option maxHeartbeats 4000000 in
set_option maxRecDepth 100000 in
theorem e_X7_learns_11 (l : Launch) (dC : Nat → ClassId) (dI : Nat → Nat → Nat) (cy : Nat → ClassId) (sz : Nat) (ad : Nat → Nat) (kv : Value) (N : Nat) (hN : 119 ≤ N) (v : Nat → Nat → Int32) (hv : Iv v) (x0 x1 : Int32) : Met l yX7_learns wsX7_learns ({ frames := 3, cells := 0, slots := 0, locals := 192 }) (va_Pc [.ref (ad 0), .int x0, .int 1, .int x1, .int 1] (ex_Pre dC dI cy sz (wl ad kv cy N v))) (va_Qi (fun (r : Int32) (u : Nat → Nat → Int32) => Iv u ∧ (¬ (0 ≤ x0.toInt ∧ x0.toInt < (v 13 2).toInt) → r = -1 ∧ u = v) ∧ ((0 ≤ x0.toInt ∧ x0.toInt < (v 13 2).toInt) ∧ ¬ (0 ≤ x1.toInt ∧ x1.toInt < (v (29 + 15 * x0.toNatClampNeg) 2).toInt) → r = -5 ∧ u = v) ∧ (((0 ≤ x0.toInt ∧ x0.toInt < (v 13 2).toInt) ∧ (0 ≤ x1.toInt ∧ x1.toInt < (v (29 + 15 * x0.toNatClampNeg) 2).toInt)) ∧ ((v (29 + 15 * x0.toNatClampNeg) 0).toInt = 1 ∧ x1.toInt + 1 = (v (29 + 15 * x0.toNatClampNeg) 2).toInt) → r = (if 2 * v (29 + 15 * x0.toNatClampNeg) 1 + 1 - v (33 + 15 * x0.toNatClampNeg + 1) x1.toNatClampNeg < v (33 + 15 * x0.toNatClampNeg + 1) x1.toNatClampNeg then 2 * v (29 + 15 * x0.toNatClampNeg) 1 + 1 - v (33 + 15 * x0.toNatClampNeg + 1) x1.toNatClampNeg else v (33 + 15 * x0.toNatClampNeg + 1) x1.toNatClampNeg) ∧ u = v) ∧ (((0 ≤ x0.toInt ∧ x0.toInt < (v 13 2).toInt) ∧ (0 ≤ x1.toInt ∧ x1.toInt < (v (29 + 15 * x0.toNatClampNeg) 2).toInt)) ∧ ¬ ((v (29 + 15 * x0.toNatClampNeg) 0).toInt = 1 ∧ x1.toInt + 1 = (v (29 + 15 * x0.toNatClampNeg) 2).toInt) → r = 100 ∧ u = v)) (fun u t => ex_Pst dC dI (va_A (wl ad kv cy N v) sz) (wl ad kv cy N u) t) (va_A (wl ad kv cy N v) sz)) 0 0 (va_A (wl ad kv cy N v) sz) := by
  refine Met.ofW (cc := cX7_learns) (maxL := 6) (ret := (some .int)) (by decide) rfl ?_
  intro p e s m args below meth c s₁ B hml hv
  obtain ⟨rfl, hsz, hE, hP, hK, hD0⟩ := hv
  have hx := B.exec
  have hb := B.bytes
  have hr := B.returns
  have hts := atoms_spec (ws := wsX7_learns) B.pre
  have hown : s.vm.findClass RX7 = some m.cls := findClass_of_methodNamed B.named
  have hlocks := B.notSynchronized
  subst hsz
  have hD := hD0.self (sz := s.heap.size)
  generalize hAe : va_A (wl ad kv cy N v) s.heap.size = A at hD ⊢
  have hA : ∀ q : Nat, s.heap.size ≤ q → A q := fun q h => by rw [← hAe]; exact Or.inr h
  have hS : va_S A s.heap s.heap [] := va_S.rf
  have hP : va_P (dC, dI) vwCl (wl ad kv cy N v) s.heap := hP
  have hl := lv_entry ([.ref (ad 0), .int x0, .int 1, .int x1, .int 1]) (n := 6) (Nat.le_of_ble_eq_true rfl)
  rw [lg_entry_eq]
  generalize (lg_sl ([.ref (ad 0), .int x0, .int 1, .int x1, .int 1]) ++ List.replicate (6 - (lg_sl ([.ref (ad 0), .int x0, .int 1, .int x1, .int 1])).length) Slot.unset).toArray = ls at hl ⊢
  have hl : lv_has ls 6 [(0, .ref (ad 0)), (1, .int x0), (2, .int 1), (3, .int x1), (4, .int 1)] := hl
  refine lv_aload_n hx hb dX7_learns_0 rfl (lv_at hl 0 rfl) ?_
  refine lv_iload_n hx hb dX7_learns_1 rfl (lv_at hl 1 rfl) ?_
  refine yw_i (w1 := fun (u : Nat → Nat → Int32) => wl ad kv cy N u) hD hS hA (va_runV (As := [.int x0]) (rest := []) ⟨hx, hb, hml, hown, hts⟩ (g_X7_isCase l dC dI cy _ ad kv N hN v hv x0) (cwV 1 hts gX7_learns_X7_isCase rfl rfl rfl hd_V_X7_isCase_1 ⟨Nat.le_of_ble_eq_true rfl, Nat.le_of_ble_eq_true rfl⟩) (yw_preV hE hK hP hD (ci := 7) (q := (RX7, TX7, 5)) (q0 := 0) rfl (wl_at (by omega) (ce_0 (by decide)))) rfl rfl hl.1 rfl (lv_room (Nat.le_of_ble_eq_true rfl)) dX7_learns_2 ⟨Nat.le_of_ble_eq_true rfl, Nat.le_of_ble_eq_true rfl⟩) (fun r_1 v_1 H locs hw_1 hP hD hS => ?_)
  obtain ⟨-, hu_1, hw_1⟩ := hw_1
  replace hu_1 := hu_1.symm
  subst hu_1
  rcases hw_1 with ⟨rfl, ha_2⟩ | ⟨rfl, ha_2⟩
  · have hb_2 := hv.at (k := 13) (j := 2) (K := 3) (by decide) rfl
    have hj_2 : 0 ≤ x0.toInt ∧ x0.toInt ≤ 5 := ⟨by omega, by omega⟩
    refine lv_if_eq (tgt := 15) hx hb dX7_learns_5 (by decide) (fun c9 => absurd c9 (by decide)) (fun _ => ?_)
    refine lv_iload_n hx hb dX7_learns_8 rfl (lv_at hl 2 rfl) ?_
    refine yc_p hP hS (va_runS (As := [.int 1]) (rest := []) ⟨hx, hb, hml, hown, hts⟩ (c_X7_isSide l 1) (cwS 1 hts gX7_learns_X7_isSide rfl rfl rfl hd_S_X7_isSide_1 ⟨Nat.le_of_ble_eq_true rfl, Nat.le_of_ble_eq_true rfl⟩) ex_preP rfl rfl hl.1 rfl (lv_room (Nat.le_of_ble_eq_true rfl)) dX7_learns_9 ⟨Nat.le_of_ble_eq_true rfl, Nat.le_of_ble_eq_true rfl⟩) (fun r_3 H locs hw_3 hP hS => ?_)
    rcases wi_ca hw_3 with ⟨rfl, hc_4⟩ | ⟨rfl, hc_4⟩
    · have k_0 : (0 : Int32).toInt = 0 := by decide
      have k_1 : (1 : Int32).toInt = 1 := by decide
      have tc_4 := wi_tl hc_4
      refine lv_if_ne (tgt := 17) hx hb dX7_learns_12 (by decide) (fun _ => ?_) (fun c9 => absurd c9 (by decide))
      refine lv_aload_n hx hb dX7_learns_17 rfl (lv_at hl 0 rfl) ?_
      refine va_get (D := (dC, dI)) (ci := 7) (v := .ref (ad 13)) (C := RX7) (T := TX7) (N := 5) hx hb hts iwX7_learns_X7 hown hK hP (0) (wl_at (by omega) (ce_0 (by decide))) rfl 0 (by decide) (hts (.fieldLink RX7 12 "QuietStairs" "now" "LQuietStairs$House;") fwX7_learns_1) (fun _ h9 => h9) rfl dX7_learns_18 ?_
      refine va_get (D := (dC, dI)) (ci := 1) (v := .ref (ad 16)) (C := RX1) (T := TX1) (N := 7) hx hb hts iwX7_learns_X1 hown hK hP (13) (wl_at (by omega) (ce_3 (by decide))) rfl 6 (by decide) (hts (.fieldLink RX7 86 "QuietStairs$House" "cases" "[LQuietStairs$Case;") fwX7_learns_2) (fun _ h9 => h9) rfl dX7_learns_21 ?_
      refine lv_iload_n hx hb dX7_learns_24 rfl (lv_at hl 1 rfl) ?_
      have zn_x0 : (x0.toNatClampNeg : Int) = x0.toInt := t_nn (by omega)
      have hx_5 : x0.toNatClampNeg < 6 := by omega
      refine va_aldq hx hb hK hP (16) 3 (wl_at (by omega) (ce_6 (by decide))) rfl (vp_in_iff.mpr ⟨by omega, by omega⟩) dX7_learns_25 ?_
      refine W.eq (g2 := F0 m 26 ls [.ref (ad (29 + 15 * x0.toNatClampNeg))]) (by rw [if_pos hx_5, show 16 + 13 + 15 * x0.toNatClampNeg = 29 + 15 * x0.toNatClampNeg from by omega]; rfl) ?_
      refine lv_astore (lv' := [(5, .ref (ad (29 + 15 * x0.toNatClampNeg))), (0, .ref (ad 0)), (1, .int x0), (2, .int 1), (3, .int x1), (4, .int 1)]) hx hb dX7_learns_26 hl (by decide) rfl (fun ls hl => ?_)
      refine lv_iload_n hx hb dX7_learns_28 rfl (lv_at hl 4 rfl) ?_
      refine lv_iconst (v := 0) hx hb dX7_learns_29 (by decide) ?_
      refine lv_aload hx hb dX7_learns_30 (lv_at hl 0 rfl) ?_
      refine va_get (D := (dC, dI)) (ci := 0) (v := .int (v (29 + 15 * x0.toNatClampNeg) 2)) (C := RX0) (T := TX0) (N := 11) hx hb hts iwX7_learns_X0 hown hK hP (29 + 15 * x0.toNatClampNeg) (wl_at (by omega) (ce_9 (kd_c _ hx_5).1.1)) rfl 2 (by decide) (hts (.fieldLink RX7 117 "QuietStairs$Case" "roundsOver" "I") fwX7_learns_3) (fun _ h9 => h9) rfl dX7_learns_32 ?_
      refine lv_topi (fun x_6 ex_6 => ?_)
      have bzx_6 : 0 ≤ x_6.toInt ∧ x_6.toInt ≤ 5 := by rw [ex_6]; exact hv.at (K := 9) (kd_c _ hx_5).1.1 rfl
      have qx_6 : x_6.toInt = (v (29 + 15 * x0.toNatClampNeg) (2)).toInt := congrArg Int32.toInt ex_6
      refine lv_iconst (v := 1) hx hb dX7_learns_35 (by decide) ?_
      refine lv_isub hx hb dX7_learns_36 ?_
      refine lv_topi (fun x_7 ex_7 => ?_)
      have tx_7 : x_7.toInt = x_6.toInt - (1 : Int32).toInt := by rw [ex_7]; exact t_sub ⟨by omega, by omega⟩
      refine yc_p hP hS (va_runS (As := [.int x1, .int 0, .int x_7]) (rest := []) ⟨hx, hb, hml, hown, hts⟩ (c_X7_isWithin l x1 0 x_7) (cwS 3 hts gX7_learns_X7_isWithin rfl rfl rfl hd_S_X7_isWithin_3 ⟨Nat.le_of_ble_eq_true rfl, Nat.le_of_ble_eq_true rfl⟩) ex_preP rfl rfl hl.1 rfl (lv_room (Nat.le_of_ble_eq_true rfl)) dX7_learns_37 ⟨Nat.le_of_ble_eq_true rfl, Nat.le_of_ble_eq_true rfl⟩) (fun r_8 H locs hw_8 hP hS => ?_)
      rcases wi_ca hw_8 with ⟨rfl, hc_9⟩ | ⟨rfl, hc_9⟩
      · have tc_9 := wi_tl hc_9
        refine lv_if_ne (tgt := 46) hx hb dX7_learns_40 (by decide) (fun _ => ?_) (fun c9 => absurd c9 (by decide))
        refine lv_iload hx hb dX7_learns_46 (lv_at hl 5 rfl) ?_
        refine lv_if_eq (tgt := 61) hx hb dX7_learns_48 (by decide) (fun c9 => absurd c9 (by decide)) (fun _ => ?_)
        refine lv_aload hx hb dX7_learns_51 (lv_at hl 0 rfl) ?_
        refine lv_iload_n hx hb dX7_learns_53 rfl (lv_at hl 3 rfl) ?_
        refine lv_iload_n hx hb dX7_learns_54 rfl (lv_at hl 4 rfl) ?_
        refine yw_i (w1 := fun (u : Nat → Nat → Int32) => wl ad kv cy N u) hD hS hA (va_runV (As := [.int 1, .int x1]) (rest := []) ⟨hx, hb, hml, hown, hts⟩ (e_X0_greatestOfOther_1 l dC dI cy _ ad kv N hN v hv x0.toNatClampNeg hx_5 x1 ⟨by omega, by omega⟩) (cwV 2 hts gX7_learns_X0_greatestOfOther rfl rfl rfl hd_V_X0_greatestOfOther_2 ⟨Nat.le_of_ble_eq_true rfl, Nat.le_of_ble_eq_true rfl⟩) (yw_preV hE hK hP hD (ci := 0) (q := (RX0, TX0, 11)) (q0 := (29 + 15 * x0.toNatClampNeg)) rfl (wl_at (by omega) (ce_9 (kd_c _ hx_5).1.1))) rfl rfl hl.1 rfl (lv_room (Nat.le_of_ble_eq_true rfl)) dX7_learns_55 ⟨Nat.le_of_ble_eq_true rfl, Nat.le_of_ble_eq_true rfl⟩) (fun r_10 v_10 H locs hw_10 hP hD hS => ?_)
        obtain ⟨-, hu_10, hw_10⟩ := hw_10
        replace hu_10 := hu_10.symm
        subst hu_10
        refine lv_goto (tgt := 68) hx hb dX7_learns_58 (by decide) ?_
        have hpost : (¬ (0 ≤ x0.toInt ∧ x0.toInt < (v 13 2).toInt) → r_10 = -1 ∧ v = v) ∧ ((0 ≤ x0.toInt ∧ x0.toInt < (v 13 2).toInt) ∧ ¬ (0 ≤ x1.toInt ∧ x1.toInt < (v (29 + 15 * x0.toNatClampNeg) 2).toInt) → r_10 = -5 ∧ v = v) ∧ (((0 ≤ x0.toInt ∧ x0.toInt < (v 13 2).toInt) ∧ (0 ≤ x1.toInt ∧ x1.toInt < (v (29 + 15 * x0.toNatClampNeg) 2).toInt)) ∧ ((v (29 + 15 * x0.toNatClampNeg) 0).toInt = 1 ∧ x1.toInt + 1 = (v (29 + 15 * x0.toNatClampNeg) 2).toInt) → r_10 = (if 2 * v (29 + 15 * x0.toNatClampNeg) 1 + 1 - v (33 + 15 * x0.toNatClampNeg + 1) x1.toNatClampNeg < v (33 + 15 * x0.toNatClampNeg + 1) x1.toNatClampNeg then 2 * v (29 + 15 * x0.toNatClampNeg) 1 + 1 - v (33 + 15 * x0.toNatClampNeg + 1) x1.toNatClampNeg else v (33 + 15 * x0.toNatClampNeg + 1) x1.toNatClampNeg) ∧ v = v) ∧ (((0 ≤ x0.toInt ∧ x0.toInt < (v 13 2).toInt) ∧ (0 ≤ x1.toInt ∧ x1.toInt < (v (29 + 15 * x0.toNatClampNeg) 2).toInt)) ∧ ¬ ((v (29 + 15 * x0.toNatClampNeg) 0).toInt = 1 ∧ x1.toInt + 1 = (v (29 + 15 * x0.toNatClampNeg) 2).toInt) → r_10 = 100 ∧ v = v) := by
          refine ⟨fun hq => ?_, fun hq => ?_, fun hq => ?_, fun hq => ?_⟩
          · exfalso; omega
          · exfalso; omega
          · exact ⟨hw_10.1 hq.2, rfl⟩
          · exact ⟨hw_10.2 hq.2, rfl⟩
        exact W.iret (v := r_10) hx hb hr (fun t ht hW => ⟨⟨r_10, v, rfl, ⟨hv, hpost⟩, by rw [ht]; exact hP, hD⟩, hS.F ht⟩) hS.2.2 dX7_learns_68
      · have tc_9 : ¬ ((0 : Int32).toInt ≤ x1.toInt ∧ x1.toInt ≤ x_7.toInt) := fun q => hc_9 ⟨Int32.le_iff_toInt_le.mpr q.1, Int32.le_iff_toInt_le.mpr q.2⟩
        refine lv_if_ne (tgt := 46) hx hb dX7_learns_40 (by decide) (fun c9 => absurd c9 (by decide)) (fun _ => ?_)
        refine lv_bipush (v := (-5)) hx hb dX7_learns_43 (by decide) ?_
        have hpost : (¬ (0 ≤ x0.toInt ∧ x0.toInt < (v 13 2).toInt) → ((-5) : Int32) = -1 ∧ v = v) ∧ ((0 ≤ x0.toInt ∧ x0.toInt < (v 13 2).toInt) ∧ ¬ (0 ≤ x1.toInt ∧ x1.toInt < (v (29 + 15 * x0.toNatClampNeg) 2).toInt) → ((-5) : Int32) = -5 ∧ v = v) ∧ (((0 ≤ x0.toInt ∧ x0.toInt < (v 13 2).toInt) ∧ (0 ≤ x1.toInt ∧ x1.toInt < (v (29 + 15 * x0.toNatClampNeg) 2).toInt)) ∧ ((v (29 + 15 * x0.toNatClampNeg) 0).toInt = 1 ∧ x1.toInt + 1 = (v (29 + 15 * x0.toNatClampNeg) 2).toInt) → ((-5) : Int32) = (if 2 * v (29 + 15 * x0.toNatClampNeg) 1 + 1 - v (33 + 15 * x0.toNatClampNeg + 1) x1.toNatClampNeg < v (33 + 15 * x0.toNatClampNeg + 1) x1.toNatClampNeg then 2 * v (29 + 15 * x0.toNatClampNeg) 1 + 1 - v (33 + 15 * x0.toNatClampNeg + 1) x1.toNatClampNeg else v (33 + 15 * x0.toNatClampNeg + 1) x1.toNatClampNeg) ∧ v = v) ∧ (((0 ≤ x0.toInt ∧ x0.toInt < (v 13 2).toInt) ∧ (0 ≤ x1.toInt ∧ x1.toInt < (v (29 + 15 * x0.toNatClampNeg) 2).toInt)) ∧ ¬ ((v (29 + 15 * x0.toNatClampNeg) 0).toInt = 1 ∧ x1.toInt + 1 = (v (29 + 15 * x0.toNatClampNeg) 2).toInt) → ((-5) : Int32) = 100 ∧ v = v) := by
          refine ⟨fun hq => ?_, fun hq => ?_, fun hq => ?_, fun hq => ?_⟩
          · exfalso; omega
          · exact ⟨rfl, rfl⟩
          · exfalso; omega
          · exfalso; omega
        exact W.iret (v := (-5)) hx hb hr (fun t ht hW => ⟨⟨(-5), v, rfl, ⟨hv, hpost⟩, by rw [ht]; exact hP, hD⟩, hS.F ht⟩) hS.2.2 dX7_learns_45
    · have k_0 : (0 : Int32).toInt = 0 := by decide
      have k_1 : (1 : Int32).toInt = 1 := by decide
      have tc_4 : ¬ ((0 : Int32).toInt ≤ (1 : Int32).toInt ∧ (1 : Int32).toInt ≤ (1 : Int32).toInt) := fun q => hc_4 ⟨Int32.le_iff_toInt_le.mpr q.1, Int32.le_iff_toInt_le.mpr q.2⟩
      refine lv_if_ne (tgt := 17) hx hb dX7_learns_12 (by decide) (fun c9 => absurd c9 (by decide)) (fun _ => ?_)
      refine lv_iconst (v := (-1)) hx hb dX7_learns_15 (by decide) ?_
      have hpost : (¬ (0 ≤ x0.toInt ∧ x0.toInt < (v 13 2).toInt) → ((-1) : Int32) = -1 ∧ v = v) ∧ ((0 ≤ x0.toInt ∧ x0.toInt < (v 13 2).toInt) ∧ ¬ (0 ≤ x1.toInt ∧ x1.toInt < (v (29 + 15 * x0.toNatClampNeg) 2).toInt) → ((-1) : Int32) = -5 ∧ v = v) ∧ (((0 ≤ x0.toInt ∧ x0.toInt < (v 13 2).toInt) ∧ (0 ≤ x1.toInt ∧ x1.toInt < (v (29 + 15 * x0.toNatClampNeg) 2).toInt)) ∧ ((v (29 + 15 * x0.toNatClampNeg) 0).toInt = 1 ∧ x1.toInt + 1 = (v (29 + 15 * x0.toNatClampNeg) 2).toInt) → ((-1) : Int32) = (if 2 * v (29 + 15 * x0.toNatClampNeg) 1 + 1 - v (33 + 15 * x0.toNatClampNeg + 1) x1.toNatClampNeg < v (33 + 15 * x0.toNatClampNeg + 1) x1.toNatClampNeg then 2 * v (29 + 15 * x0.toNatClampNeg) 1 + 1 - v (33 + 15 * x0.toNatClampNeg + 1) x1.toNatClampNeg else v (33 + 15 * x0.toNatClampNeg + 1) x1.toNatClampNeg) ∧ v = v) ∧ (((0 ≤ x0.toInt ∧ x0.toInt < (v 13 2).toInt) ∧ (0 ≤ x1.toInt ∧ x1.toInt < (v (29 + 15 * x0.toNatClampNeg) 2).toInt)) ∧ ¬ ((v (29 + 15 * x0.toNatClampNeg) 0).toInt = 1 ∧ x1.toInt + 1 = (v (29 + 15 * x0.toNatClampNeg) 2).toInt) → ((-1) : Int32) = 100 ∧ v = v) := by
        refine ⟨fun hq => ?_, fun hq => ?_, fun hq => ?_, fun hq => ?_⟩
        · exact ⟨rfl, rfl⟩
        · exfalso; omega
        · exfalso; omega
        · exfalso; omega
      exact W.iret (v := (-1)) hx hb hr (fun t ht hW => ⟨⟨(-1), v, rfl, ⟨hv, hpost⟩, by rw [ht]; exact hP, hD⟩, hS.F ht⟩) hS.2.2 dX7_learns_16
  · refine lv_if_eq (tgt := 15) hx hb dX7_learns_5 (by decide) (fun _ => ?_) (fun c9 => absurd c9 (by decide))
    refine lv_iconst (v := (-1)) hx hb dX7_learns_15 (by decide) ?_
    have hpost : (¬ (0 ≤ x0.toInt ∧ x0.toInt < (v 13 2).toInt) → ((-1) : Int32) = -1 ∧ v = v) ∧ ((0 ≤ x0.toInt ∧ x0.toInt < (v 13 2).toInt) ∧ ¬ (0 ≤ x1.toInt ∧ x1.toInt < (v (29 + 15 * x0.toNatClampNeg) 2).toInt) → ((-1) : Int32) = -5 ∧ v = v) ∧ (((0 ≤ x0.toInt ∧ x0.toInt < (v 13 2).toInt) ∧ (0 ≤ x1.toInt ∧ x1.toInt < (v (29 + 15 * x0.toNatClampNeg) 2).toInt)) ∧ ((v (29 + 15 * x0.toNatClampNeg) 0).toInt = 1 ∧ x1.toInt + 1 = (v (29 + 15 * x0.toNatClampNeg) 2).toInt) → ((-1) : Int32) = (if 2 * v (29 + 15 * x0.toNatClampNeg) 1 + 1 - v (33 + 15 * x0.toNatClampNeg + 1) x1.toNatClampNeg < v (33 + 15 * x0.toNatClampNeg + 1) x1.toNatClampNeg then 2 * v (29 + 15 * x0.toNatClampNeg) 1 + 1 - v (33 + 15 * x0.toNatClampNeg + 1) x1.toNatClampNeg else v (33 + 15 * x0.toNatClampNeg + 1) x1.toNatClampNeg) ∧ v = v) ∧ (((0 ≤ x0.toInt ∧ x0.toInt < (v 13 2).toInt) ∧ (0 ≤ x1.toInt ∧ x1.toInt < (v (29 + 15 * x0.toNatClampNeg) 2).toInt)) ∧ ¬ ((v (29 + 15 * x0.toNatClampNeg) 0).toInt = 1 ∧ x1.toInt + 1 = (v (29 + 15 * x0.toNatClampNeg) 2).toInt) → ((-1) : Int32) = 100 ∧ v = v) := by
      refine ⟨fun hq => ?_, fun hq => ?_, fun hq => ?_, fun hq => ?_⟩
      · exact ⟨rfl, rfl⟩
      · exfalso; omega
      · exfalso; omega
      · exfalso; omega
    exact W.iret (v := (-1)) hx hb hr (fun t ht hW => ⟨⟨(-1), v, rfl, ⟨hv, hpost⟩, by rw [ht]; exact hP, hD⟩, hS.F ht⟩) hS.2.2 dX7_learns_16

set_option maxHeartbeats 4000000 in
set_option maxRecDepth 100000 in
theorem e_X8_learns_00 (l : Launch) (dC : Nat → ClassId) (dI : Nat → Nat → Nat) (cy : Nat → ClassId) (sz : Nat) (ad : Nat → Nat) (v : Nat → Nat → Int32) (hv : Ir v) (hO : RO (v 1)) (x0 x1 : Int32) : Met l yX8_learns wsX8_learns ({ frames := 2, cells := 0, slots := 0, locals := 128 }) (va_Pc [.ref (ad 0), .int x0, .int 0, .int x1, .int 0] (ex_Pre dC dI cy sz (wm ad cy v))) (va_Qi (fun (r : Int32) (u : Nat → Nat → Int32) => Ir u ∧ (¬ (0 ≤ x0.toInt ∧ x0.toInt < (v 1 2).toInt) → r = -1 ∧ u = v) ∧ ((0 ≤ x0.toInt ∧ x0.toInt < (v 1 2).toInt) ∧ ¬ (0 ≤ x1.toInt ∧ x1.toInt < (v 1 (36 + 7 * x0.toNatClampNeg)).toInt) → r = -5 ∧ u = v) ∧ (((0 ≤ x0.toInt ∧ x0.toInt < (v 1 2).toInt) ∧ (0 ≤ x1.toInt ∧ x1.toInt < (v 1 (36 + 7 * x0.toNatClampNeg)).toInt)) → lkR 0 0 (v 1 (86 + 10 * x0.toNatClampNeg + 2 * x1.toNatClampNeg)).toInt (v 1 (87 + 10 * x0.toNatClampNeg + 2 * x1.toNatClampNeg)).toInt r.toInt ∧ u = v)) (fun u t => ex_Pst dC dI (va_A (wm ad cy v) sz) (wm ad cy u) t) (va_A (wm ad cy v) sz)) 0 0 (va_A (wm ad cy v) sz) := by
  refine Met.ofW (cc := cX8_learns) (maxL := 14) (ret := (some .int)) (by decide) rfl ?_
  intro p e s m args below meth c s₁ B hml hv
  obtain ⟨rfl, hsz, hE, hP, hK, hD0⟩ := hv
  have hx := B.exec
  have hb := B.bytes
  have hr := B.returns
  have hts := atoms_spec (ws := wsX8_learns) B.pre
  have hown : s.vm.findClass RX8 = some m.cls := findClass_of_methodNamed B.named
  have hlocks := B.notSynchronized
  subst hsz
  have hD := hD0.self (sz := s.heap.size)
  generalize hAe : va_A (wm ad cy v) s.heap.size = A at hD ⊢
  have hA : ∀ q : Nat, s.heap.size ≤ q → A q := fun q h => by rw [← hAe]; exact Or.inr h
  have hS : va_S A s.heap s.heap [] := va_S.rf
  have hP : va_P (dC, dI) vwCl (wm ad cy v) s.heap := hP
  have hl := lv_entry ([.ref (ad 0), .int x0, .int 0, .int x1, .int 0]) (n := 14) (Nat.le_of_ble_eq_true rfl)
  rw [lg_entry_eq]
  generalize (lg_sl ([.ref (ad 0), .int x0, .int 0, .int x1, .int 0]) ++ List.replicate (14 - (lg_sl ([.ref (ad 0), .int x0, .int 0, .int x1, .int 0])).length) Slot.unset).toArray = ls at hl ⊢
  have hl : lv_has ls 14 [(0, .ref (ad 0)), (1, .int x0), (2, .int 0), (3, .int x1), (4, .int 0)] := hl
  refine lv_aload_n hx hb dX8_learns_0 rfl (lv_at hl 0 rfl) ?_
  refine lv_iload_n hx hb dX8_learns_1 rfl (lv_at hl 1 rfl) ?_
  refine yw_i (w1 := fun (u : Nat → Nat → Int32) => wm ad cy u) hD hS hA (va_runV (As := [.int x0]) (rest := []) ⟨hx, hb, hml, hown, hts⟩ (q_X8_isCase l dC dI cy _ ad v hv x0) (cwV 1 hts gX8_learns_X8_isCase rfl rfl rfl hd_V_X8_isCase_1 ⟨Nat.le_of_ble_eq_true rfl, Nat.le_of_ble_eq_true rfl⟩) (yw_preV hE hK hP hD (ci := 8) (q := (RX8, TX8, 11)) (q0 := 0) rfl (wm_at (by decide) rc_0)) rfl rfl hl.1 rfl (lv_room (Nat.le_of_ble_eq_true rfl)) dX8_learns_2 ⟨Nat.le_of_ble_eq_true rfl, Nat.le_of_ble_eq_true rfl⟩) (fun r_1 v_1 H locs hw_1 hP hD hS => ?_)
  obtain ⟨-, hu_1, hw_1⟩ := hw_1
  replace hu_1 := hu_1.symm
  subst hu_1
  rcases hw_1 with ⟨rfl, ha_2⟩ | ⟨rfl, ha_2⟩
  · have hb_2 := hv 1 2 6 (by decide)
    have hj_2 : 0 ≤ x0.toInt ∧ x0.toInt ≤ 5 := ⟨by omega, by omega⟩
    refine lv_if_eq (tgt := 15) hx hb dX8_learns_5 (by decide) (fun c9 => absurd c9 (by decide)) (fun _ => ?_)
    refine lv_iload_n hx hb dX8_learns_8 rfl (lv_at hl 2 rfl) ?_
    refine yc_p hP hS (va_runS (As := [.int 0]) (rest := []) ⟨hx, hb, hml, hown, hts⟩ (c_X8_isSide l 0) (cwS 1 hts gX8_learns_X8_isSide rfl rfl rfl hd_S_X8_isSide_1 ⟨Nat.le_of_ble_eq_true rfl, Nat.le_of_ble_eq_true rfl⟩) ex_preP rfl rfl hl.1 rfl (lv_room (Nat.le_of_ble_eq_true rfl)) dX8_learns_9 ⟨Nat.le_of_ble_eq_true rfl, Nat.le_of_ble_eq_true rfl⟩) (fun r_3 H locs hw_3 hP hS => ?_)
    rcases wi_ca hw_3 with ⟨rfl, hc_4⟩ | ⟨rfl, hc_4⟩
    · have k_0 : (0 : Int32).toInt = 0 := by decide
      have k_1 : (1 : Int32).toInt = 1 := by decide
      have tc_4 := wi_tl hc_4
      refine lv_if_ne (tgt := 17) hx hb dX8_learns_12 (by decide) (fun _ => ?_) (fun c9 => absurd c9 (by decide))
      refine lv_iload_n hx hb dX8_learns_17 rfl (lv_at hl 3 rfl) ?_
      refine lv_iconst (v := 0) hx hb dX8_learns_18 (by decide) ?_
      refine lv_aload_n hx hb dX8_learns_19 rfl (lv_at hl 0 rfl) ?_
      refine va_get (D := (dC, dI)) (ci := 8) (v := .ref (ad 1)) (C := RX8) (T := TX8) (N := 11) hx hb hts iwX8_learns_X8 hown hK hP (0) (wm_at (by decide) rc_0) rfl 0 (by decide) (hts (.fieldLink RX8 7 "QuietStairsModel" "s" "[I") fwX8_learns_1) (fun _ h9 => h9) rfl dX8_learns_20 ?_
      refine lv_iload_n hx hb dX8_learns_23 rfl (lv_at hl 1 rfl) ?_
      refine lv_iconst (v := 4) hx hb dX8_learns_24 (by decide) ?_
      refine yc_p hP hS (va_runS (As := [.int x0, .int 4]) (rest := [.ref (ad 1), .int 0, .int x1]) ⟨hx, hb, hml, hown, hts⟩ (c_X8_at l x0 4) (cwS 2 hts gX8_learns_X8_at rfl rfl rfl hd_S_X8_at_2 ⟨Nat.le_of_ble_eq_true rfl, Nat.le_of_ble_eq_true rfl⟩) ex_preP rfl rfl hl.1 rfl (lv_room (Nat.le_of_ble_eq_true rfl)) dX8_learns_25 ⟨Nat.le_of_ble_eq_true rfl, Nat.le_of_ble_eq_true rfl⟩) (fun r_5 H locs hw_5 hP hS => ?_)
      have k_4 : (4 : Int32).toInt = 4 := by decide
      have tr_5 : r_5.toInt = 32 + 7 * x0.toInt + (4 : Int32).toInt := t_at hw_5 ⟨by omega, by omega⟩ ⟨by omega, by omega⟩
      have zn_x0 : (x0.toNatClampNeg : Int) = x0.toInt := t_nn (by omega)
      have nr_5 : r_5.toNatClampNeg = 36 + 7 * x0.toNatClampNeg := by have z1 := t_nn (x := r_5) (by omega); omega
      refine va_iald hx hb hK hP (1) 0 (wm_at (by decide) rc_1) rfl (vp_in_iff.mpr ⟨by omega, by omega⟩) dX8_learns_28 ?_
      refine lv_topi (fun x_6 ex_6 => ?_)
      have bzx_6 : 0 ≤ x_6.toInt ∧ x_6.toInt ≤ 5 := by rw [ex_6]; exact hv 1 _ 5 (bx_4 (i := x0.toInt) (s := 4) (by omega) ⟨by omega, by omega⟩ (by omega))
      rw [nr_5] at ex_6
      have qx_6 : x_6.toInt = (v 1 (36 + 7 * x0.toNatClampNeg)).toInt := congrArg Int32.toInt ex_6
      refine lv_iconst (v := 1) hx hb dX8_learns_29 (by decide) ?_
      refine lv_isub hx hb dX8_learns_30 ?_
      refine lv_topi (fun x_7 ex_7 => ?_)
      have tx_7 : x_7.toInt = x_6.toInt - (1 : Int32).toInt := by rw [ex_7]; exact t_sub ⟨by omega, by omega⟩
      refine yc_p hP hS (va_runS (As := [.int x1, .int 0, .int x_7]) (rest := []) ⟨hx, hb, hml, hown, hts⟩ (c_X8_in l x1 0 x_7) (cwS 3 hts gX8_learns_X8_in rfl rfl rfl hd_S_X8_in_3 ⟨Nat.le_of_ble_eq_true rfl, Nat.le_of_ble_eq_true rfl⟩) ex_preP rfl rfl hl.1 rfl (lv_room (Nat.le_of_ble_eq_true rfl)) dX8_learns_31 ⟨Nat.le_of_ble_eq_true rfl, Nat.le_of_ble_eq_true rfl⟩) (fun r_8 H locs hw_8 hP hS => ?_)
      rcases wi_ca hw_8 with ⟨rfl, hc_9⟩ | ⟨rfl, hc_9⟩
      · have tc_9 := wi_tl hc_9
        refine lv_if_ne (tgt := 40) hx hb dX8_learns_34 (by decide) (fun _ => ?_) (fun c9 => absurd c9 (by decide))
        have zn_x1 : (x1.toNatClampNeg : Int) = x1.toInt := t_nn (by omega)
        obtain ⟨d1, d2, -, -⟩ := (hO x0.toNatClampNeg (by omega) (by omega)).2.2.1.2 x1.toNatClampNeg (by omega) (by omega)
        obtain ⟨own, eown⟩ : ∃ z : Int32, z = v 1 (86 + 10 * x0.toNatClampNeg + 2 * x1.toNatClampNeg) := ⟨_, rfl⟩
        have hbown : 0 ≤ own.toInt ∧ own.toInt ≤ 100 := by rw [eown]; exact d1
        obtain ⟨oth, eoth⟩ : ∃ z : Int32, z = v 1 (87 + 10 * x0.toNatClampNeg + 2 * x1.toNatClampNeg) := ⟨_, rfl⟩
        have hboth : 0 ≤ oth.toInt ∧ oth.toInt ≤ 100 := by rw [eoth]; exact d2
        refine lv_aload_n hx hb dX8_learns_40 rfl (lv_at hl 0 rfl) ?_
        refine va_get (D := (dC, dI)) (ci := 8) (v := .ref (ad 1)) (C := RX8) (T := TX8) (N := 11) hx hb hts iwX8_learns_X8 hown hK hP (0) (wm_at (by decide) rc_0) rfl 0 (by decide) (hts (.fieldLink RX8 7 "QuietStairsModel" "s" "[I") fwX8_learns_1) (fun _ h9 => h9) rfl dX8_learns_41 ?_
        refine lv_bipush (v := 86) hx hb dX8_learns_44 (by decide) ?_
        refine lv_bipush (v := 10) hx hb dX8_learns_46 (by decide) ?_
        refine lv_iload_n hx hb dX8_learns_48 rfl (lv_at hl 1 rfl) ?_
        refine lv_imul hx hb dX8_learns_49 ?_
        refine lv_topi (fun x_10 ex_10 => ?_)
        have k_10 : (10 : Int32).toInt = 10 := by decide
        have tx_10 : x_10.toInt = 10 * x0.toInt := by rw [ex_10, t_mul (by rw [k_10]; omega), k_10]
        refine lv_iadd hx hb dX8_learns_50 ?_
        refine lv_topi (fun x_11 ex_11 => ?_)
        have k_86 : (86 : Int32).toInt = 86 := by decide
        have tx_11 : x_11.toInt = (86 : Int32).toInt + x_10.toInt := by rw [ex_11]; exact t_add ⟨by omega, by omega⟩
        refine lv_iconst (v := 2) hx hb dX8_learns_51 (by decide) ?_
        refine lv_iload_n hx hb dX8_learns_52 rfl (lv_at hl 3 rfl) ?_
        refine lv_imul hx hb dX8_learns_53 ?_
        refine lv_topi (fun x_12 ex_12 => ?_)
        have k_2 : (2 : Int32).toInt = 2 := by decide
        have tx_12 : x_12.toInt = 2 * x1.toInt := by rw [ex_12, t_mul (by rw [k_2]; omega), k_2]
        refine lv_iadd hx hb dX8_learns_54 ?_
        refine lv_topi (fun x_13 ex_13 => ?_)
        have tx_13 : x_13.toInt = x_11.toInt + x_12.toInt := by rw [ex_13]; exact t_add ⟨by omega, by omega⟩
        refine lv_iload_n hx hb dX8_learns_55 rfl (lv_at hl 2 rfl) ?_
        refine lv_iadd hx hb dX8_learns_56 ?_
        refine lv_topi (fun x_14 ex_14 => ?_)
        have tx_14 : x_14.toInt = x_13.toInt + (0 : Int32).toInt := by rw [ex_14]; exact t_add ⟨by omega, by omega⟩
        have nx_14 : x_14.toNatClampNeg = 86 + 10 * x0.toNatClampNeg + 2 * x1.toNatClampNeg := by have z1 := t_nn (x := x_14) (by omega); omega
        refine va_iald hx hb hK hP (1) 0 (wm_at (by decide) rc_1) rfl (vp_in_iff.mpr ⟨by omega, by omega⟩) dX8_learns_57 ?_
        refine lv_topi (fun x_15 ex_15 => ?_)
        rw [nx_14] at ex_15
        obtain rfl : own = x_15 := (ex_15.trans eown.symm).symm
        refine lv_istore (lv' := [(5, .int own), (0, .ref (ad 0)), (1, .int x0), (2, .int 0), (3, .int x1), (4, .int 0)]) hx hb dX8_learns_58 hl (by decide) rfl (fun ls hl => ?_)
        refine lv_aload_n hx hb dX8_learns_60 rfl (lv_at hl 1 rfl) ?_
        refine va_get (D := (dC, dI)) (ci := 8) (v := .ref (ad 1)) (C := RX8) (T := TX8) (N := 11) hx hb hts iwX8_learns_X8 hown hK hP (0) (wm_at (by decide) rc_0) rfl 0 (by decide) (hts (.fieldLink RX8 7 "QuietStairsModel" "s" "[I") fwX8_learns_1) (fun _ h9 => h9) rfl dX8_learns_61 ?_
        refine lv_bipush (v := 86) hx hb dX8_learns_64 (by decide) ?_
        refine lv_bipush (v := 10) hx hb dX8_learns_66 (by decide) ?_
        refine lv_iload_n hx hb dX8_learns_68 rfl (lv_at hl 2 rfl) ?_
        refine lv_imul hx hb dX8_learns_69 ?_
        refine lv_topi (fun x_16 ex_16 => ?_)
        obtain rfl : x_10 = x_16 := ex_10.trans ex_16.symm
        refine lv_iadd hx hb dX8_learns_70 ?_
        refine lv_topi (fun x_17 ex_17 => ?_)
        obtain rfl : x_11 = x_17 := ex_11.trans ex_17.symm
        refine lv_iconst (v := 2) hx hb dX8_learns_71 (by decide) ?_
        refine lv_iload_n hx hb dX8_learns_72 rfl (lv_at hl 4 rfl) ?_
        refine lv_imul hx hb dX8_learns_73 ?_
        refine lv_topi (fun x_18 ex_18 => ?_)
        obtain rfl : x_12 = x_18 := ex_12.trans ex_18.symm
        refine lv_iadd hx hb dX8_learns_74 ?_
        refine lv_topi (fun x_19 ex_19 => ?_)
        obtain rfl : x_13 = x_19 := ex_13.trans ex_19.symm
        refine lv_iconst (v := 1) hx hb dX8_learns_75 (by decide) ?_
        refine lv_iadd hx hb dX8_learns_76 ?_
        refine lv_topi (fun x_20 ex_20 => ?_)
        have tx_20 : x_20.toInt = x_13.toInt + (1 : Int32).toInt := by rw [ex_20]; exact t_add ⟨by omega, by omega⟩
        refine lv_iload_n hx hb dX8_learns_77 rfl (lv_at hl 3 rfl) ?_
        refine lv_isub hx hb dX8_learns_78 ?_
        refine lv_topi (fun x_21 ex_21 => ?_)
        have tx_21 : x_21.toInt = x_20.toInt - (0 : Int32).toInt := by rw [ex_21]; exact t_sub ⟨by omega, by omega⟩
        have nx_21 : x_21.toNatClampNeg = 87 + 10 * x0.toNatClampNeg + 2 * x1.toNatClampNeg := by have z1 := t_nn (x := x_21) (by omega); omega
        refine va_iald hx hb hK hP (1) 0 (wm_at (by decide) rc_1) rfl (vp_in_iff.mpr ⟨by omega, by omega⟩) dX8_learns_79 ?_
        refine lv_topi (fun x_22 ex_22 => ?_)
        rw [nx_21] at ex_22
        obtain rfl : oth = x_22 := (ex_22.trans eoth.symm).symm
        refine lv_istore (lv' := [(6, .int oth), (5, .int own), (0, .ref (ad 0)), (1, .int x0), (2, .int 0), (3, .int x1), (4, .int 0)]) hx hb dX8_learns_80 hl (by decide) rfl (fun ls hl => ?_)
        refine lv_iload_n hx hb dX8_learns_82 rfl (lv_at hl 4 rfl) ?_
        refine lv_if_ne (tgt := 91) hx hb dX8_learns_83 (by decide) (fun c9 => absurd c9 (by decide)) (fun _ => ?_)
        refine lv_iload hx hb dX8_learns_86 (lv_at hl 1 rfl) ?_
        refine lv_goto (tgt := 93) hx hb dX8_learns_88 (by decide) ?_
        refine lv_istore (lv' := [(7, .int own), (6, .int oth), (5, .int own), (0, .ref (ad 0)), (1, .int x0), (2, .int 0), (3, .int x1), (4, .int 0)]) hx hb dX8_learns_93 hl (by decide) rfl (fun ls hl => ?_)
        refine lv_iload_n hx hb dX8_learns_95 rfl (lv_at hl 5 rfl) ?_
        refine lv_if_ne (tgt := 104) hx hb dX8_learns_96 (by decide) (fun c9 => absurd c9 (by decide)) (fun _ => ?_)
        refine lv_iload hx hb dX8_learns_99 (lv_at hl 1 rfl) ?_
        refine lv_goto (tgt := 106) hx hb dX8_learns_101 (by decide) ?_
        refine lv_istore (lv' := [(8, .int oth), (7, .int own), (6, .int oth), (5, .int own), (0, .ref (ad 0)), (1, .int x0), (2, .int 0), (3, .int x1), (4, .int 0)]) hx hb dX8_learns_106 hl (by decide) rfl (fun ls hl => ?_)
        refine lv_bipush (v := (-5)) hx hb dX8_learns_108 (by decide) ?_
        refine lv_istore (lv' := [(9, .int (-5)), (8, .int oth), (7, .int own), (6, .int oth), (5, .int own), (0, .ref (ad 0)), (1, .int x0), (2, .int 0), (3, .int x1), (4, .int 0)]) hx hb dX8_learns_110 hl (by decide) rfl (fun ls hl => ?_)
        refine lv_iconst (v := 0) hx hb dX8_learns_112 (by decide) ?_
        refine lv_istore (lv' := [(10, .int 0), (9, .int (-5)), (8, .int oth), (7, .int own), (6, .int oth), (5, .int own), (0, .ref (ad 0)), (1, .int x0), (2, .int 0), (3, .int x1), (4, .int 0)]) hx hb dX8_learns_113 hl (by decide) rfl (fun ls hl => ?_)
        have hc_23 : ∀ (n : Nat) (y23_10 y23_9 : Int32) (H : Heap) (locs : List Loc), 0 ≤ y23_10.toInt → y23_10.toInt ≤ 101 → -5 ≤ y23_9.toInt → y23_9.toInt ≤ 100 → (lkI 0 0 own.toInt oth.toInt y23_10.toInt y23_9.toInt) → (101 - y23_10.toInt).toNat < n → va_P (dC, dI) vwCl (wm ad cy v) H → va_D A (wm ad cy v) → va_S A s.heap H locs → ∀ ls : Array Slot, lv_has ls 14 [(10, .int y23_10), (9, .int y23_9), (8, .int oth), (7, .int own), (6, .int oth), (5, .int own), (0, .ref (ad 0)), (1, .int x0), (2, .int 0), (3, .int x1), (4, .int 0)] → W p l e (headSpec wsX8_learns ({ frames := 2, cells := 0, slots := 0, locals := 128 })).room s m [Value.ref (ad 0), Value.int x0, Value.int 0, Value.int x1, Value.int 0].toArray below meth c H locs 0 0 (MQ below (va_Qi (fun (r : Int32) (u : Nat → Nat → Int32) => Ir u ∧ (¬ (0 ≤ x0.toInt ∧ x0.toInt < (v 1 2).toInt) → r = -1 ∧ u = v) ∧ ((0 ≤ x0.toInt ∧ x0.toInt < (v 1 2).toInt) ∧ ¬ (0 ≤ x1.toInt ∧ x1.toInt < (v 1 (36 + 7 * x0.toNatClampNeg)).toInt) → r = -5 ∧ u = v) ∧ (((0 ≤ x0.toInt ∧ x0.toInt < (v 1 2).toInt) ∧ (0 ≤ x1.toInt ∧ x1.toInt < (v 1 (36 + 7 * x0.toNatClampNeg)).toInt)) → lkR 0 0 (v 1 (86 + 10 * x0.toNatClampNeg + 2 * x1.toNatClampNeg)).toInt (v 1 (87 + 10 * x0.toNatClampNeg + 2 * x1.toNatClampNeg)).toInt r.toInt ∧ u = v)) (fun u t => ex_Pst dC dI A (wm ad cy u) t) A) [Value.ref (ad 0), Value.int x0, Value.int 0, Value.int x1, Value.int 0].toArray s 0 0 A) (F0 m 115 ls []) := by
          intro n
          induction n with
          | zero =>
            intro y23_10 y23_9 H locs ay23_10 by23_10 ay23_9 by23_9 hi23_0 hm_23 hP hD hS ls hl
            exact absurd hm_23 (by omega)
          | succ n ih_23 =>
            intro y23_10 y23_9 H locs ay23_10 by23_10 ay23_9 by23_9 hi23_0 hm_23 hP hD hS ls hl
            refine lv_iload hx hb dX8_learns_115 (lv_at hl 0 rfl) ?_
            refine lv_bipush (v := 100) hx hb dX8_learns_117 (by decide) ?_
            have k_100 : (100 : Int32).toInt = 100 := by decide
            refine lv_icmp_gt (tgt := 231) hx hb dX8_learns_119 (by decide) (fun c_24 => ?_) (fun c_24 => ?_)
            · have tc_24 : y23_10.toInt > (100 : Int32).toInt := Int32.lt_iff_toInt_lt.mp c_24
              refine lv_iload hx hb dX8_learns_231 (lv_at hl 1 rfl) ?_
              have hpost : (¬ (0 ≤ x0.toInt ∧ x0.toInt < (v 1 2).toInt) → y23_9 = -1 ∧ v = v) ∧ ((0 ≤ x0.toInt ∧ x0.toInt < (v 1 2).toInt) ∧ ¬ (0 ≤ x1.toInt ∧ x1.toInt < (v 1 (36 + 7 * x0.toNatClampNeg)).toInt) → y23_9 = -5 ∧ v = v) ∧ (((0 ≤ x0.toInt ∧ x0.toInt < (v 1 2).toInt) ∧ (0 ≤ x1.toInt ∧ x1.toInt < (v 1 (36 + 7 * x0.toNatClampNeg)).toInt)) → lkR 0 0 (v 1 (86 + 10 * x0.toNatClampNeg + 2 * x1.toNatClampNeg)).toInt (v 1 (87 + 10 * x0.toNatClampNeg + 2 * x1.toNatClampNeg)).toInt y23_9.toInt ∧ v = v) := by
                refine ⟨fun hq => ?_, fun hq => ?_, fun hq => ?_⟩
                · exfalso; omega
                · exfalso; omega
                · rw [← eown, ← eoth]; exact ⟨lkI_end (by omega) hi23_0 hboth (by omega), rfl⟩
              exact W.iret (v := y23_9) hx hb hr (fun t ht hW => ⟨⟨y23_9, v, rfl, ⟨hv, hpost⟩, by rw [ht]; exact hP, hD⟩, hS.F ht⟩) hS.2.2 dX8_learns_233
            · have tc_24 : y23_10.toInt ≤ (100 : Int32).toInt := Int32.le_iff_toInt_le.mp (Int32.not_lt.mp c_24)
              refine lv_iload_n hx hb dX8_learns_122 rfl (lv_at hl 8 rfl) ?_
              refine lv_if_ne (tgt := 131) hx hb dX8_learns_123 (by decide) (fun c9 => absurd c9 (by decide)) (fun _ => ?_)
              refine lv_iload hx hb dX8_learns_126 (lv_at hl 5 rfl) ?_
              refine lv_goto (tgt := 133) hx hb dX8_learns_128 (by decide) ?_
              refine lv_istore (lv' := [(11, .int own), (10, .int y23_10), (9, .int y23_9), (8, .int oth), (7, .int own), (6, .int oth), (5, .int own), (0, .ref (ad 0)), (1, .int x0), (2, .int 0), (3, .int x1), (4, .int 0)]) hx hb dX8_learns_133 hl (by decide) rfl (fun ls hl => ?_)
              refine lv_iload_n hx hb dX8_learns_135 rfl (lv_at hl 9 rfl) ?_
              refine lv_if_ne (tgt := 144) hx hb dX8_learns_136 (by decide) (fun c9 => absurd c9 (by decide)) (fun _ => ?_)
              refine lv_iload hx hb dX8_learns_139 (lv_at hl 1 rfl) ?_
              refine lv_goto (tgt := 146) hx hb dX8_learns_141 (by decide) ?_
              refine lv_istore (lv' := [(12, .int y23_10), (11, .int own), (10, .int y23_10), (9, .int y23_9), (8, .int oth), (7, .int own), (6, .int oth), (5, .int own), (0, .ref (ad 0)), (1, .int x0), (2, .int 0), (3, .int x1), (4, .int 0)]) hx hb dX8_learns_146 hl (by decide) rfl (fun ls hl => ?_)
              refine lv_iload hx hb dX8_learns_148 (lv_at hl 4 rfl) ?_
              refine lv_iload hx hb dX8_learns_150 (lv_at hl 5 rfl) ?_
              refine lv_icmp_ge (tgt := 170) hx hb dX8_learns_152 (by decide) (fun c_25 => ?_) (fun c_25 => ?_)
              · have tc_25 : oth.toInt ≥ own.toInt := Int32.le_iff_toInt_le.mp c_25
                refine lv_iload hx hb dX8_learns_170 (lv_at hl 0 rfl) ?_
                refine lv_iload hx hb dX8_learns_172 (lv_at hl 1 rfl) ?_
                refine lv_icmp_lt (tgt := 198) hx hb dX8_learns_174 (by decide) (fun c_26 => ?_) (fun c_26 => ?_)
                · have tc_26 : y23_10.toInt < own.toInt := Int32.lt_iff_toInt_lt.mp c_26
                  refine lv_iconst (v := 0) hx hb dX8_learns_198 (by decide) ?_
                  refine lv_istore (lv' := [(13, .int 0), (12, .int y23_10), (11, .int own), (10, .int y23_10), (9, .int y23_9), (8, .int oth), (7, .int own), (6, .int oth), (5, .int own), (0, .ref (ad 0)), (1, .int x0), (2, .int 0), (3, .int x1), (4, .int 0)]) hx hb dX8_learns_199 hl (by decide) rfl (fun ls hl => ?_)
                  refine lv_iload hx hb dX8_learns_201 (lv_at hl 0 rfl) ?_
                  refine lv_if_eq (tgt := 221) hx hb dX8_learns_203 (by decide) (fun _ => ?_) (fun c9 => absurd c9 (by decide))
                  refine lv_iload hx hb dX8_learns_221 (lv_at hl 4 rfl) ?_
                  refine lv_istore (lv' := [(9, .int y23_9), (13, .int 0), (12, .int y23_10), (11, .int own), (10, .int y23_10), (8, .int oth), (7, .int own), (6, .int oth), (5, .int own), (0, .ref (ad 0)), (1, .int x0), (2, .int 0), (3, .int x1), (4, .int 0)]) hx hb dX8_learns_223 hl (by decide) rfl (fun ls hl => ?_)
                  obtain ⟨x_27, ex_27⟩ : ∃ y : Int32, y = y23_10 + 1 := ⟨_, rfl⟩
                  refine lv_iinc (v := x_27) (lv' := [(10, .int x_27), (9, .int y23_9), (13, .int 0), (12, .int y23_10), (11, .int own), (8, .int oth), (7, .int own), (6, .int oth), (5, .int own), (0, .ref (ad 0)), (1, .int x0), (2, .int 0), (3, .int x1), (4, .int 0)]) hx hb dX8_learns_225 hl (k := 4) rfl (by rw [ex_27]; rfl) (by decide) rfl (fun ls hl => ?_)
                  have tx_27 : x_27.toInt = y23_10.toInt + (1 : Int32).toInt := by rw [ex_27]; exact t_add ⟨by omega, by omega⟩
                  refine lv_goto (tgt := 115) hx hb dX8_learns_228 (by decide) ?_
                  exact ih_23 x_27 y23_9 _ _ (by omega) (by omega) (by omega) (by omega) (lkI_no (by omega) hi23_0 (by unfold lke; omega)) (by omega) hP hD hS ls (lv_sub hl [0, 1, 5, 6, 7, 8, 9, 10, 11, 12, 13] rfl)
                · have tc_26 : y23_10.toInt ≥ own.toInt := Int32.le_iff_toInt_le.mp (Int32.not_lt.mp c_26)
                  refine lv_iload hx hb dX8_learns_177 (lv_at hl 1 rfl) ?_
                  refine lv_iload hx hb dX8_learns_179 (lv_at hl 0 rfl) ?_
                  refine lv_iadd hx hb dX8_learns_181 ?_
                  refine lv_topi (fun x_27 ex_27 => ?_)
                  have tx_27 : x_27.toInt = own.toInt + y23_10.toInt := by rw [ex_27]; exact t_add ⟨by omega, by omega⟩
                  refine lv_iconst (v := 2) hx hb dX8_learns_182 (by decide) ?_
                  refine lv_idiv hx hb dX8_learns_183 (by decide) ?_
                  refine lv_topi (fun x_28 ex_28 => ?_)
                  have tx_28 : x_28.toInt = x_27.toInt / 2 := by rw [ex_28]; exact t_half (by omega)
                  refine lv_iload hx hb dX8_learns_184 (lv_at hl 5 rfl) ?_
                  refine lv_iload hx hb dX8_learns_186 (lv_at hl 4 rfl) ?_
                  refine lv_iadd hx hb dX8_learns_188 ?_
                  refine lv_topi (fun x_29 ex_29 => ?_)
                  have tx_29 : x_29.toInt = own.toInt + oth.toInt := by rw [ex_29]; exact t_add ⟨by omega, by omega⟩
                  refine lv_iconst (v := 2) hx hb dX8_learns_189 (by decide) ?_
                  refine lv_idiv hx hb dX8_learns_190 (by decide) ?_
                  refine lv_topi (fun x_30 ex_30 => ?_)
                  have tx_30 : x_30.toInt = x_29.toInt / 2 := by rw [ex_30]; exact t_half (by omega)
                  refine lv_icmp_ne (tgt := 198) hx hb dX8_learns_191 (by decide) (fun c_31 => ?_) (fun c_31 => ?_)
                  · have tc_31 : x_28.toInt ≠ x_30.toInt := fun q => absurd (Int32.toInt_inj.mp q) c_31
                    refine lv_iconst (v := 0) hx hb dX8_learns_198 (by decide) ?_
                    refine lv_istore (lv' := [(13, .int 0), (12, .int y23_10), (11, .int own), (10, .int y23_10), (9, .int y23_9), (8, .int oth), (7, .int own), (6, .int oth), (5, .int own), (0, .ref (ad 0)), (1, .int x0), (2, .int 0), (3, .int x1), (4, .int 0)]) hx hb dX8_learns_199 hl (by decide) rfl (fun ls hl => ?_)
                    refine lv_iload hx hb dX8_learns_201 (lv_at hl 0 rfl) ?_
                    refine lv_if_eq (tgt := 221) hx hb dX8_learns_203 (by decide) (fun _ => ?_) (fun c9 => absurd c9 (by decide))
                    refine lv_iload hx hb dX8_learns_221 (lv_at hl 4 rfl) ?_
                    refine lv_istore (lv' := [(9, .int y23_9), (13, .int 0), (12, .int y23_10), (11, .int own), (10, .int y23_10), (8, .int oth), (7, .int own), (6, .int oth), (5, .int own), (0, .ref (ad 0)), (1, .int x0), (2, .int 0), (3, .int x1), (4, .int 0)]) hx hb dX8_learns_223 hl (by decide) rfl (fun ls hl => ?_)
                    obtain ⟨x_32, ex_32⟩ : ∃ y : Int32, y = y23_10 + 1 := ⟨_, rfl⟩
                    refine lv_iinc (v := x_32) (lv' := [(10, .int x_32), (9, .int y23_9), (13, .int 0), (12, .int y23_10), (11, .int own), (8, .int oth), (7, .int own), (6, .int oth), (5, .int own), (0, .ref (ad 0)), (1, .int x0), (2, .int 0), (3, .int x1), (4, .int 0)]) hx hb dX8_learns_225 hl (k := 4) rfl (by rw [ex_32]; rfl) (by decide) rfl (fun ls hl => ?_)
                    have tx_32 : x_32.toInt = y23_10.toInt + (1 : Int32).toInt := by rw [ex_32]; exact t_add ⟨by omega, by omega⟩
                    refine lv_goto (tgt := 115) hx hb dX8_learns_228 (by decide) ?_
                    exact ih_23 x_32 y23_9 _ _ (by omega) (by omega) (by omega) (by omega) (lkI_no (by omega) hi23_0 (by unfold lke; omega)) (by omega) hP hD hS ls (lv_sub hl [0, 1, 5, 6, 7, 8, 9, 10, 11, 12, 13] rfl)
                  · have tc_31 : x_28.toInt = x_30.toInt := by rw [c_31]
                    refine lv_iconst (v := 1) hx hb dX8_learns_194 (by decide) ?_
                    refine lv_goto (tgt := 199) hx hb dX8_learns_195 (by decide) ?_
                    refine lv_istore (lv' := [(13, .int 1), (12, .int y23_10), (11, .int own), (10, .int y23_10), (9, .int y23_9), (8, .int oth), (7, .int own), (6, .int oth), (5, .int own), (0, .ref (ad 0)), (1, .int x0), (2, .int 0), (3, .int x1), (4, .int 0)]) hx hb dX8_learns_199 hl (by decide) rfl (fun ls hl => ?_)
                    refine lv_iload hx hb dX8_learns_201 (lv_at hl 0 rfl) ?_
                    refine lv_if_eq (tgt := 221) hx hb dX8_learns_203 (by decide) (fun c9 => absurd c9 (by decide)) (fun _ => ?_)
                    refine lv_iload hx hb dX8_learns_206 (lv_at hl 4 rfl) ?_
                    refine lv_if_lt (tgt := 216) hx hb dX8_learns_208 (by decide) (fun c_32 => ?_) (fun c_32 => ?_)
                    · have tc_32 : y23_9.toInt < (0 : Int32).toInt := Int32.lt_iff_toInt_lt.mp c_32
                      refine lv_iload hx hb dX8_learns_216 (lv_at hl 3 rfl) ?_
                      refine lv_goto (tgt := 223) hx hb dX8_learns_218 (by decide) ?_
                      refine lv_istore (lv' := [(9, .int y23_10), (13, .int 1), (12, .int y23_10), (11, .int own), (10, .int y23_10), (8, .int oth), (7, .int own), (6, .int oth), (5, .int own), (0, .ref (ad 0)), (1, .int x0), (2, .int 0), (3, .int x1), (4, .int 0)]) hx hb dX8_learns_223 hl (by decide) rfl (fun ls hl => ?_)
                      obtain ⟨x_33, ex_33⟩ : ∃ y : Int32, y = y23_10 + 1 := ⟨_, rfl⟩
                      refine lv_iinc (v := x_33) (lv' := [(10, .int x_33), (9, .int y23_10), (13, .int 1), (12, .int y23_10), (11, .int own), (8, .int oth), (7, .int own), (6, .int oth), (5, .int own), (0, .ref (ad 0)), (1, .int x0), (2, .int 0), (3, .int x1), (4, .int 0)]) hx hb dX8_learns_225 hl (k := 4) rfl (by rw [ex_33]; rfl) (by decide) rfl (fun ls hl => ?_)
                      have tx_33 : x_33.toInt = y23_10.toInt + (1 : Int32).toInt := by rw [ex_33]; exact t_add ⟨by omega, by omega⟩
                      refine lv_goto (tgt := 115) hx hb dX8_learns_228 (by decide) ?_
                      exact ih_23 x_33 y23_10 _ _ (by omega) (by omega) (by omega) (by omega) (lkI_new (by omega) (by omega) hi23_0 (by unfold lke; omega) (by omega)) (by omega) hP hD hS ls (lv_sub hl [0, 1, 5, 6, 7, 8, 9, 10, 11, 12, 13] rfl)
                    · have tc_32 : y23_9.toInt ≥ (0 : Int32).toInt := Int32.le_iff_toInt_le.mp (Int32.not_lt.mp c_32)
                      refine lv_iload hx hb dX8_learns_211 (lv_at hl 13 rfl) ?_
                      refine lv_if_eq (tgt := 221) hx hb dX8_learns_213 (by decide) (fun _ => ?_) (fun c9 => absurd c9 (by decide))
                      refine lv_iload hx hb dX8_learns_221 (lv_at hl 4 rfl) ?_
                      refine lv_istore (lv' := [(9, .int y23_9), (13, .int 1), (12, .int y23_10), (11, .int own), (10, .int y23_10), (8, .int oth), (7, .int own), (6, .int oth), (5, .int own), (0, .ref (ad 0)), (1, .int x0), (2, .int 0), (3, .int x1), (4, .int 0)]) hx hb dX8_learns_223 hl (by decide) rfl (fun ls hl => ?_)
                      obtain ⟨x_33, ex_33⟩ : ∃ y : Int32, y = y23_10 + 1 := ⟨_, rfl⟩
                      refine lv_iinc (v := x_33) (lv' := [(10, .int x_33), (9, .int y23_9), (13, .int 1), (12, .int y23_10), (11, .int own), (8, .int oth), (7, .int own), (6, .int oth), (5, .int own), (0, .ref (ad 0)), (1, .int x0), (2, .int 0), (3, .int x1), (4, .int 0)]) hx hb dX8_learns_225 hl (k := 4) rfl (by rw [ex_33]; rfl) (by decide) rfl (fun ls hl => ?_)
                      have tx_33 : x_33.toInt = y23_10.toInt + (1 : Int32).toInt := by rw [ex_33]; exact t_add ⟨by omega, by omega⟩
                      refine lv_goto (tgt := 115) hx hb dX8_learns_228 (by decide) ?_
                      exact ih_23 x_33 y23_9 _ _ (by omega) (by omega) (by omega) (by omega) (lkI_old (by omega) hi23_0 (by omega) rfl) (by omega) hP hD hS ls (lv_sub hl [0, 1, 5, 6, 7, 8, 9, 10, 11, 12, 13] rfl)
              · have tc_25 : oth.toInt < own.toInt := Int32.lt_iff_toInt_lt.mp (Int32.not_le.mp c_25)
                refine lv_iload hx hb dX8_learns_155 (lv_at hl 0 rfl) ?_
                refine lv_iload hx hb dX8_learns_157 (lv_at hl 1 rfl) ?_
                refine lv_icmp_ge (tgt := 166) hx hb dX8_learns_159 (by decide) (fun c_26 => ?_) (fun c_26 => ?_)
                · have tc_26 : y23_10.toInt ≥ own.toInt := Int32.le_iff_toInt_le.mp c_26
                  refine lv_iconst (v := 0) hx hb dX8_learns_166 (by decide) ?_
                  refine lv_goto (tgt := 199) hx hb dX8_learns_167 (by decide) ?_
                  refine lv_istore (lv' := [(13, .int 0), (12, .int y23_10), (11, .int own), (10, .int y23_10), (9, .int y23_9), (8, .int oth), (7, .int own), (6, .int oth), (5, .int own), (0, .ref (ad 0)), (1, .int x0), (2, .int 0), (3, .int x1), (4, .int 0)]) hx hb dX8_learns_199 hl (by decide) rfl (fun ls hl => ?_)
                  refine lv_iload hx hb dX8_learns_201 (lv_at hl 0 rfl) ?_
                  refine lv_if_eq (tgt := 221) hx hb dX8_learns_203 (by decide) (fun _ => ?_) (fun c9 => absurd c9 (by decide))
                  refine lv_iload hx hb dX8_learns_221 (lv_at hl 4 rfl) ?_
                  refine lv_istore (lv' := [(9, .int y23_9), (13, .int 0), (12, .int y23_10), (11, .int own), (10, .int y23_10), (8, .int oth), (7, .int own), (6, .int oth), (5, .int own), (0, .ref (ad 0)), (1, .int x0), (2, .int 0), (3, .int x1), (4, .int 0)]) hx hb dX8_learns_223 hl (by decide) rfl (fun ls hl => ?_)
                  obtain ⟨x_27, ex_27⟩ : ∃ y : Int32, y = y23_10 + 1 := ⟨_, rfl⟩
                  refine lv_iinc (v := x_27) (lv' := [(10, .int x_27), (9, .int y23_9), (13, .int 0), (12, .int y23_10), (11, .int own), (8, .int oth), (7, .int own), (6, .int oth), (5, .int own), (0, .ref (ad 0)), (1, .int x0), (2, .int 0), (3, .int x1), (4, .int 0)]) hx hb dX8_learns_225 hl (k := 4) rfl (by rw [ex_27]; rfl) (by decide) rfl (fun ls hl => ?_)
                  have tx_27 : x_27.toInt = y23_10.toInt + (1 : Int32).toInt := by rw [ex_27]; exact t_add ⟨by omega, by omega⟩
                  refine lv_goto (tgt := 115) hx hb dX8_learns_228 (by decide) ?_
                  exact ih_23 x_27 y23_9 _ _ (by omega) (by omega) (by omega) (by omega) (lkI_no (by omega) hi23_0 (by unfold lke; omega)) (by omega) hP hD hS ls (lv_sub hl [0, 1, 5, 6, 7, 8, 9, 10, 11, 12, 13] rfl)
                · have tc_26 : y23_10.toInt < own.toInt := Int32.lt_iff_toInt_lt.mp (Int32.not_le.mp c_26)
                  refine lv_iconst (v := 1) hx hb dX8_learns_162 (by decide) ?_
                  refine lv_goto (tgt := 199) hx hb dX8_learns_163 (by decide) ?_
                  refine lv_istore (lv' := [(13, .int 1), (12, .int y23_10), (11, .int own), (10, .int y23_10), (9, .int y23_9), (8, .int oth), (7, .int own), (6, .int oth), (5, .int own), (0, .ref (ad 0)), (1, .int x0), (2, .int 0), (3, .int x1), (4, .int 0)]) hx hb dX8_learns_199 hl (by decide) rfl (fun ls hl => ?_)
                  refine lv_iload hx hb dX8_learns_201 (lv_at hl 0 rfl) ?_
                  refine lv_if_eq (tgt := 221) hx hb dX8_learns_203 (by decide) (fun c9 => absurd c9 (by decide)) (fun _ => ?_)
                  refine lv_iload hx hb dX8_learns_206 (lv_at hl 4 rfl) ?_
                  refine lv_if_lt (tgt := 216) hx hb dX8_learns_208 (by decide) (fun c_27 => ?_) (fun c_27 => ?_)
                  · have tc_27 : y23_9.toInt < (0 : Int32).toInt := Int32.lt_iff_toInt_lt.mp c_27
                    refine lv_iload hx hb dX8_learns_216 (lv_at hl 3 rfl) ?_
                    refine lv_goto (tgt := 223) hx hb dX8_learns_218 (by decide) ?_
                    refine lv_istore (lv' := [(9, .int y23_10), (13, .int 1), (12, .int y23_10), (11, .int own), (10, .int y23_10), (8, .int oth), (7, .int own), (6, .int oth), (5, .int own), (0, .ref (ad 0)), (1, .int x0), (2, .int 0), (3, .int x1), (4, .int 0)]) hx hb dX8_learns_223 hl (by decide) rfl (fun ls hl => ?_)
                    obtain ⟨x_28, ex_28⟩ : ∃ y : Int32, y = y23_10 + 1 := ⟨_, rfl⟩
                    refine lv_iinc (v := x_28) (lv' := [(10, .int x_28), (9, .int y23_10), (13, .int 1), (12, .int y23_10), (11, .int own), (8, .int oth), (7, .int own), (6, .int oth), (5, .int own), (0, .ref (ad 0)), (1, .int x0), (2, .int 0), (3, .int x1), (4, .int 0)]) hx hb dX8_learns_225 hl (k := 4) rfl (by rw [ex_28]; rfl) (by decide) rfl (fun ls hl => ?_)
                    have tx_28 : x_28.toInt = y23_10.toInt + (1 : Int32).toInt := by rw [ex_28]; exact t_add ⟨by omega, by omega⟩
                    refine lv_goto (tgt := 115) hx hb dX8_learns_228 (by decide) ?_
                    exact ih_23 x_28 y23_10 _ _ (by omega) (by omega) (by omega) (by omega) (lkI_new (by omega) (by omega) hi23_0 (by unfold lke; omega) (by omega)) (by omega) hP hD hS ls (lv_sub hl [0, 1, 5, 6, 7, 8, 9, 10, 11, 12, 13] rfl)
                  · have tc_27 : y23_9.toInt ≥ (0 : Int32).toInt := Int32.le_iff_toInt_le.mp (Int32.not_lt.mp c_27)
                    refine lv_iload hx hb dX8_learns_211 (lv_at hl 13 rfl) ?_
                    refine lv_if_eq (tgt := 221) hx hb dX8_learns_213 (by decide) (fun _ => ?_) (fun c9 => absurd c9 (by decide))
                    refine lv_iload hx hb dX8_learns_221 (lv_at hl 4 rfl) ?_
                    refine lv_istore (lv' := [(9, .int y23_9), (13, .int 1), (12, .int y23_10), (11, .int own), (10, .int y23_10), (8, .int oth), (7, .int own), (6, .int oth), (5, .int own), (0, .ref (ad 0)), (1, .int x0), (2, .int 0), (3, .int x1), (4, .int 0)]) hx hb dX8_learns_223 hl (by decide) rfl (fun ls hl => ?_)
                    obtain ⟨x_28, ex_28⟩ : ∃ y : Int32, y = y23_10 + 1 := ⟨_, rfl⟩
                    refine lv_iinc (v := x_28) (lv' := [(10, .int x_28), (9, .int y23_9), (13, .int 1), (12, .int y23_10), (11, .int own), (8, .int oth), (7, .int own), (6, .int oth), (5, .int own), (0, .ref (ad 0)), (1, .int x0), (2, .int 0), (3, .int x1), (4, .int 0)]) hx hb dX8_learns_225 hl (k := 4) rfl (by rw [ex_28]; rfl) (by decide) rfl (fun ls hl => ?_)
                    have tx_28 : x_28.toInt = y23_10.toInt + (1 : Int32).toInt := by rw [ex_28]; exact t_add ⟨by omega, by omega⟩
                    refine lv_goto (tgt := 115) hx hb dX8_learns_228 (by decide) ?_
                    exact ih_23 x_28 y23_9 _ _ (by omega) (by omega) (by omega) (by omega) (lkI_old (by omega) hi23_0 (by omega) rfl) (by omega) hP hD hS ls (lv_sub hl [0, 1, 5, 6, 7, 8, 9, 10, 11, 12, 13] rfl)
        have k_m5 : ((-5) : Int32).toInt = -5 := by decide
        exact hc_23 ((101 - (0 : Int32).toInt).toNat + 1) 0 (-5) _ _ (by omega) (by omega) (by omega) (by omega) (lkI_0 (by omega) (by omega)) (by omega) hP hD hS ls (lv_sub hl [0, 1, 2, 3, 4, 5, 6, 7, 8, 9, 10] rfl)
      · have tc_9 : ¬ ((0 : Int32).toInt ≤ x1.toInt ∧ x1.toInt ≤ x_7.toInt) := fun q => hc_9 ⟨Int32.le_iff_toInt_le.mpr q.1, Int32.le_iff_toInt_le.mpr q.2⟩
        refine lv_if_ne (tgt := 40) hx hb dX8_learns_34 (by decide) (fun c9 => absurd c9 (by decide)) (fun _ => ?_)
        refine lv_bipush (v := (-5)) hx hb dX8_learns_37 (by decide) ?_
        have hpost : (¬ (0 ≤ x0.toInt ∧ x0.toInt < (v 1 2).toInt) → ((-5) : Int32) = -1 ∧ v = v) ∧ ((0 ≤ x0.toInt ∧ x0.toInt < (v 1 2).toInt) ∧ ¬ (0 ≤ x1.toInt ∧ x1.toInt < (v 1 (36 + 7 * x0.toNatClampNeg)).toInt) → ((-5) : Int32) = -5 ∧ v = v) ∧ (((0 ≤ x0.toInt ∧ x0.toInt < (v 1 2).toInt) ∧ (0 ≤ x1.toInt ∧ x1.toInt < (v 1 (36 + 7 * x0.toNatClampNeg)).toInt)) → lkR 0 0 (v 1 (86 + 10 * x0.toNatClampNeg + 2 * x1.toNatClampNeg)).toInt (v 1 (87 + 10 * x0.toNatClampNeg + 2 * x1.toNatClampNeg)).toInt ((-5) : Int32).toInt ∧ v = v) := by
          refine ⟨fun hq => ?_, fun hq => ?_, fun hq => ?_⟩
          · exfalso; omega
          · exact ⟨rfl, rfl⟩
          · exfalso; omega
        exact W.iret (v := (-5)) hx hb hr (fun t ht hW => ⟨⟨(-5), v, rfl, ⟨hv, hpost⟩, by rw [ht]; exact hP, hD⟩, hS.F ht⟩) hS.2.2 dX8_learns_39
    · have k_0 : (0 : Int32).toInt = 0 := by decide
      have k_1 : (1 : Int32).toInt = 1 := by decide
      have tc_4 : ¬ ((0 : Int32).toInt ≤ (0 : Int32).toInt ∧ (0 : Int32).toInt ≤ (1 : Int32).toInt) := fun q => hc_4 ⟨Int32.le_iff_toInt_le.mpr q.1, Int32.le_iff_toInt_le.mpr q.2⟩
      refine lv_if_ne (tgt := 17) hx hb dX8_learns_12 (by decide) (fun c9 => absurd c9 (by decide)) (fun _ => ?_)
      refine lv_iconst (v := (-1)) hx hb dX8_learns_15 (by decide) ?_
      have hpost : (¬ (0 ≤ x0.toInt ∧ x0.toInt < (v 1 2).toInt) → ((-1) : Int32) = -1 ∧ v = v) ∧ ((0 ≤ x0.toInt ∧ x0.toInt < (v 1 2).toInt) ∧ ¬ (0 ≤ x1.toInt ∧ x1.toInt < (v 1 (36 + 7 * x0.toNatClampNeg)).toInt) → ((-1) : Int32) = -5 ∧ v = v) ∧ (((0 ≤ x0.toInt ∧ x0.toInt < (v 1 2).toInt) ∧ (0 ≤ x1.toInt ∧ x1.toInt < (v 1 (36 + 7 * x0.toNatClampNeg)).toInt)) → lkR 0 0 (v 1 (86 + 10 * x0.toNatClampNeg + 2 * x1.toNatClampNeg)).toInt (v 1 (87 + 10 * x0.toNatClampNeg + 2 * x1.toNatClampNeg)).toInt ((-1) : Int32).toInt ∧ v = v) := by
        refine ⟨fun hq => ?_, fun hq => ?_, fun hq => ?_⟩
        · exact ⟨rfl, rfl⟩
        · exfalso; omega
        · exfalso; omega
      exact W.iret (v := (-1)) hx hb hr (fun t ht hW => ⟨⟨(-1), v, rfl, ⟨hv, hpost⟩, by rw [ht]; exact hP, hD⟩, hS.F ht⟩) hS.2.2 dX8_learns_16
  · refine lv_if_eq (tgt := 15) hx hb dX8_learns_5 (by decide) (fun _ => ?_) (fun c9 => absurd c9 (by decide))
    refine lv_iconst (v := (-1)) hx hb dX8_learns_15 (by decide) ?_
    have hpost : (¬ (0 ≤ x0.toInt ∧ x0.toInt < (v 1 2).toInt) → ((-1) : Int32) = -1 ∧ v = v) ∧ ((0 ≤ x0.toInt ∧ x0.toInt < (v 1 2).toInt) ∧ ¬ (0 ≤ x1.toInt ∧ x1.toInt < (v 1 (36 + 7 * x0.toNatClampNeg)).toInt) → ((-1) : Int32) = -5 ∧ v = v) ∧ (((0 ≤ x0.toInt ∧ x0.toInt < (v 1 2).toInt) ∧ (0 ≤ x1.toInt ∧ x1.toInt < (v 1 (36 + 7 * x0.toNatClampNeg)).toInt)) → lkR 0 0 (v 1 (86 + 10 * x0.toNatClampNeg + 2 * x1.toNatClampNeg)).toInt (v 1 (87 + 10 * x0.toNatClampNeg + 2 * x1.toNatClampNeg)).toInt ((-1) : Int32).toInt ∧ v = v) := by
      refine ⟨fun hq => ?_, fun hq => ?_, fun hq => ?_⟩
      · exact ⟨rfl, rfl⟩
      · exfalso; omega
      · exfalso; omega
    exact W.iret (v := (-1)) hx hb hr (fun t ht hW => ⟨⟨(-1), v, rfl, ⟨hv, hpost⟩, by rw [ht]; exact hP, hD⟩, hS.F ht⟩) hS.2.2 dX8_learns_16

set_option maxHeartbeats 4000000 in
set_option maxRecDepth 100000 in
theorem e_X8_learns_01 (l : Launch) (dC : Nat → ClassId) (dI : Nat → Nat → Nat) (cy : Nat → ClassId) (sz : Nat) (ad : Nat → Nat) (v : Nat → Nat → Int32) (hv : Ir v) (hO : RO (v 1)) (x0 x1 : Int32) : Met l yX8_learns wsX8_learns ({ frames := 2, cells := 0, slots := 0, locals := 128 }) (va_Pc [.ref (ad 0), .int x0, .int 0, .int x1, .int 1] (ex_Pre dC dI cy sz (wm ad cy v))) (va_Qi (fun (r : Int32) (u : Nat → Nat → Int32) => Ir u ∧ (¬ (0 ≤ x0.toInt ∧ x0.toInt < (v 1 2).toInt) → r = -1 ∧ u = v) ∧ ((0 ≤ x0.toInt ∧ x0.toInt < (v 1 2).toInt) ∧ ¬ (0 ≤ x1.toInt ∧ x1.toInt < (v 1 (36 + 7 * x0.toNatClampNeg)).toInt) → r = -5 ∧ u = v) ∧ (((0 ≤ x0.toInt ∧ x0.toInt < (v 1 2).toInt) ∧ (0 ≤ x1.toInt ∧ x1.toInt < (v 1 (36 + 7 * x0.toNatClampNeg)).toInt)) → lkR 0 1 (v 1 (86 + 10 * x0.toNatClampNeg + 2 * x1.toNatClampNeg)).toInt (v 1 (87 + 10 * x0.toNatClampNeg + 2 * x1.toNatClampNeg)).toInt r.toInt ∧ u = v)) (fun u t => ex_Pst dC dI (va_A (wm ad cy v) sz) (wm ad cy u) t) (va_A (wm ad cy v) sz)) 0 0 (va_A (wm ad cy v) sz) := by
  refine Met.ofW (cc := cX8_learns) (maxL := 14) (ret := (some .int)) (by decide) rfl ?_
  intro p e s m args below meth c s₁ B hml hv
  obtain ⟨rfl, hsz, hE, hP, hK, hD0⟩ := hv
  have hx := B.exec
  have hb := B.bytes
  have hr := B.returns
  have hts := atoms_spec (ws := wsX8_learns) B.pre
  have hown : s.vm.findClass RX8 = some m.cls := findClass_of_methodNamed B.named
  have hlocks := B.notSynchronized
  subst hsz
  have hD := hD0.self (sz := s.heap.size)
  generalize hAe : va_A (wm ad cy v) s.heap.size = A at hD ⊢
  have hA : ∀ q : Nat, s.heap.size ≤ q → A q := fun q h => by rw [← hAe]; exact Or.inr h
  have hS : va_S A s.heap s.heap [] := va_S.rf
  have hP : va_P (dC, dI) vwCl (wm ad cy v) s.heap := hP
  have hl := lv_entry ([.ref (ad 0), .int x0, .int 0, .int x1, .int 1]) (n := 14) (Nat.le_of_ble_eq_true rfl)
  rw [lg_entry_eq]
  generalize (lg_sl ([.ref (ad 0), .int x0, .int 0, .int x1, .int 1]) ++ List.replicate (14 - (lg_sl ([.ref (ad 0), .int x0, .int 0, .int x1, .int 1])).length) Slot.unset).toArray = ls at hl ⊢
  have hl : lv_has ls 14 [(0, .ref (ad 0)), (1, .int x0), (2, .int 0), (3, .int x1), (4, .int 1)] := hl
  refine lv_aload_n hx hb dX8_learns_0 rfl (lv_at hl 0 rfl) ?_
  refine lv_iload_n hx hb dX8_learns_1 rfl (lv_at hl 1 rfl) ?_
  refine yw_i (w1 := fun (u : Nat → Nat → Int32) => wm ad cy u) hD hS hA (va_runV (As := [.int x0]) (rest := []) ⟨hx, hb, hml, hown, hts⟩ (q_X8_isCase l dC dI cy _ ad v hv x0) (cwV 1 hts gX8_learns_X8_isCase rfl rfl rfl hd_V_X8_isCase_1 ⟨Nat.le_of_ble_eq_true rfl, Nat.le_of_ble_eq_true rfl⟩) (yw_preV hE hK hP hD (ci := 8) (q := (RX8, TX8, 11)) (q0 := 0) rfl (wm_at (by decide) rc_0)) rfl rfl hl.1 rfl (lv_room (Nat.le_of_ble_eq_true rfl)) dX8_learns_2 ⟨Nat.le_of_ble_eq_true rfl, Nat.le_of_ble_eq_true rfl⟩) (fun r_1 v_1 H locs hw_1 hP hD hS => ?_)
  obtain ⟨-, hu_1, hw_1⟩ := hw_1
  replace hu_1 := hu_1.symm
  subst hu_1
  rcases hw_1 with ⟨rfl, ha_2⟩ | ⟨rfl, ha_2⟩
  · have hb_2 := hv 1 2 6 (by decide)
    have hj_2 : 0 ≤ x0.toInt ∧ x0.toInt ≤ 5 := ⟨by omega, by omega⟩
    refine lv_if_eq (tgt := 15) hx hb dX8_learns_5 (by decide) (fun c9 => absurd c9 (by decide)) (fun _ => ?_)
    refine lv_iload_n hx hb dX8_learns_8 rfl (lv_at hl 2 rfl) ?_
    refine yc_p hP hS (va_runS (As := [.int 0]) (rest := []) ⟨hx, hb, hml, hown, hts⟩ (c_X8_isSide l 0) (cwS 1 hts gX8_learns_X8_isSide rfl rfl rfl hd_S_X8_isSide_1 ⟨Nat.le_of_ble_eq_true rfl, Nat.le_of_ble_eq_true rfl⟩) ex_preP rfl rfl hl.1 rfl (lv_room (Nat.le_of_ble_eq_true rfl)) dX8_learns_9 ⟨Nat.le_of_ble_eq_true rfl, Nat.le_of_ble_eq_true rfl⟩) (fun r_3 H locs hw_3 hP hS => ?_)
    rcases wi_ca hw_3 with ⟨rfl, hc_4⟩ | ⟨rfl, hc_4⟩
    · have k_0 : (0 : Int32).toInt = 0 := by decide
      have k_1 : (1 : Int32).toInt = 1 := by decide
      have tc_4 := wi_tl hc_4
      refine lv_if_ne (tgt := 17) hx hb dX8_learns_12 (by decide) (fun _ => ?_) (fun c9 => absurd c9 (by decide))
      refine lv_iload_n hx hb dX8_learns_17 rfl (lv_at hl 3 rfl) ?_
      refine lv_iconst (v := 0) hx hb dX8_learns_18 (by decide) ?_
      refine lv_aload_n hx hb dX8_learns_19 rfl (lv_at hl 0 rfl) ?_
      refine va_get (D := (dC, dI)) (ci := 8) (v := .ref (ad 1)) (C := RX8) (T := TX8) (N := 11) hx hb hts iwX8_learns_X8 hown hK hP (0) (wm_at (by decide) rc_0) rfl 0 (by decide) (hts (.fieldLink RX8 7 "QuietStairsModel" "s" "[I") fwX8_learns_1) (fun _ h9 => h9) rfl dX8_learns_20 ?_
      refine lv_iload_n hx hb dX8_learns_23 rfl (lv_at hl 1 rfl) ?_
      refine lv_iconst (v := 4) hx hb dX8_learns_24 (by decide) ?_
      refine yc_p hP hS (va_runS (As := [.int x0, .int 4]) (rest := [.ref (ad 1), .int 0, .int x1]) ⟨hx, hb, hml, hown, hts⟩ (c_X8_at l x0 4) (cwS 2 hts gX8_learns_X8_at rfl rfl rfl hd_S_X8_at_2 ⟨Nat.le_of_ble_eq_true rfl, Nat.le_of_ble_eq_true rfl⟩) ex_preP rfl rfl hl.1 rfl (lv_room (Nat.le_of_ble_eq_true rfl)) dX8_learns_25 ⟨Nat.le_of_ble_eq_true rfl, Nat.le_of_ble_eq_true rfl⟩) (fun r_5 H locs hw_5 hP hS => ?_)
      have k_4 : (4 : Int32).toInt = 4 := by decide
      have tr_5 : r_5.toInt = 32 + 7 * x0.toInt + (4 : Int32).toInt := t_at hw_5 ⟨by omega, by omega⟩ ⟨by omega, by omega⟩
      have zn_x0 : (x0.toNatClampNeg : Int) = x0.toInt := t_nn (by omega)
      have nr_5 : r_5.toNatClampNeg = 36 + 7 * x0.toNatClampNeg := by have z1 := t_nn (x := r_5) (by omega); omega
      refine va_iald hx hb hK hP (1) 0 (wm_at (by decide) rc_1) rfl (vp_in_iff.mpr ⟨by omega, by omega⟩) dX8_learns_28 ?_
      refine lv_topi (fun x_6 ex_6 => ?_)
      have bzx_6 : 0 ≤ x_6.toInt ∧ x_6.toInt ≤ 5 := by rw [ex_6]; exact hv 1 _ 5 (bx_4 (i := x0.toInt) (s := 4) (by omega) ⟨by omega, by omega⟩ (by omega))
      rw [nr_5] at ex_6
      have qx_6 : x_6.toInt = (v 1 (36 + 7 * x0.toNatClampNeg)).toInt := congrArg Int32.toInt ex_6
      refine lv_iconst (v := 1) hx hb dX8_learns_29 (by decide) ?_
      refine lv_isub hx hb dX8_learns_30 ?_
      refine lv_topi (fun x_7 ex_7 => ?_)
      have tx_7 : x_7.toInt = x_6.toInt - (1 : Int32).toInt := by rw [ex_7]; exact t_sub ⟨by omega, by omega⟩
      refine yc_p hP hS (va_runS (As := [.int x1, .int 0, .int x_7]) (rest := []) ⟨hx, hb, hml, hown, hts⟩ (c_X8_in l x1 0 x_7) (cwS 3 hts gX8_learns_X8_in rfl rfl rfl hd_S_X8_in_3 ⟨Nat.le_of_ble_eq_true rfl, Nat.le_of_ble_eq_true rfl⟩) ex_preP rfl rfl hl.1 rfl (lv_room (Nat.le_of_ble_eq_true rfl)) dX8_learns_31 ⟨Nat.le_of_ble_eq_true rfl, Nat.le_of_ble_eq_true rfl⟩) (fun r_8 H locs hw_8 hP hS => ?_)
      rcases wi_ca hw_8 with ⟨rfl, hc_9⟩ | ⟨rfl, hc_9⟩
      · have tc_9 := wi_tl hc_9
        refine lv_if_ne (tgt := 40) hx hb dX8_learns_34 (by decide) (fun _ => ?_) (fun c9 => absurd c9 (by decide))
        have zn_x1 : (x1.toNatClampNeg : Int) = x1.toInt := t_nn (by omega)
        obtain ⟨d1, d2, -, -⟩ := (hO x0.toNatClampNeg (by omega) (by omega)).2.2.1.2 x1.toNatClampNeg (by omega) (by omega)
        obtain ⟨own, eown⟩ : ∃ z : Int32, z = v 1 (86 + 10 * x0.toNatClampNeg + 2 * x1.toNatClampNeg) := ⟨_, rfl⟩
        have hbown : 0 ≤ own.toInt ∧ own.toInt ≤ 100 := by rw [eown]; exact d1
        obtain ⟨oth, eoth⟩ : ∃ z : Int32, z = v 1 (87 + 10 * x0.toNatClampNeg + 2 * x1.toNatClampNeg) := ⟨_, rfl⟩
        have hboth : 0 ≤ oth.toInt ∧ oth.toInt ≤ 100 := by rw [eoth]; exact d2
        refine lv_aload_n hx hb dX8_learns_40 rfl (lv_at hl 0 rfl) ?_
        refine va_get (D := (dC, dI)) (ci := 8) (v := .ref (ad 1)) (C := RX8) (T := TX8) (N := 11) hx hb hts iwX8_learns_X8 hown hK hP (0) (wm_at (by decide) rc_0) rfl 0 (by decide) (hts (.fieldLink RX8 7 "QuietStairsModel" "s" "[I") fwX8_learns_1) (fun _ h9 => h9) rfl dX8_learns_41 ?_
        refine lv_bipush (v := 86) hx hb dX8_learns_44 (by decide) ?_
        refine lv_bipush (v := 10) hx hb dX8_learns_46 (by decide) ?_
        refine lv_iload_n hx hb dX8_learns_48 rfl (lv_at hl 1 rfl) ?_
        refine lv_imul hx hb dX8_learns_49 ?_
        refine lv_topi (fun x_10 ex_10 => ?_)
        have k_10 : (10 : Int32).toInt = 10 := by decide
        have tx_10 : x_10.toInt = 10 * x0.toInt := by rw [ex_10, t_mul (by rw [k_10]; omega), k_10]
        refine lv_iadd hx hb dX8_learns_50 ?_
        refine lv_topi (fun x_11 ex_11 => ?_)
        have k_86 : (86 : Int32).toInt = 86 := by decide
        have tx_11 : x_11.toInt = (86 : Int32).toInt + x_10.toInt := by rw [ex_11]; exact t_add ⟨by omega, by omega⟩
        refine lv_iconst (v := 2) hx hb dX8_learns_51 (by decide) ?_
        refine lv_iload_n hx hb dX8_learns_52 rfl (lv_at hl 3 rfl) ?_
        refine lv_imul hx hb dX8_learns_53 ?_
        refine lv_topi (fun x_12 ex_12 => ?_)
        have k_2 : (2 : Int32).toInt = 2 := by decide
        have tx_12 : x_12.toInt = 2 * x1.toInt := by rw [ex_12, t_mul (by rw [k_2]; omega), k_2]
        refine lv_iadd hx hb dX8_learns_54 ?_
        refine lv_topi (fun x_13 ex_13 => ?_)
        have tx_13 : x_13.toInt = x_11.toInt + x_12.toInt := by rw [ex_13]; exact t_add ⟨by omega, by omega⟩
        refine lv_iload_n hx hb dX8_learns_55 rfl (lv_at hl 2 rfl) ?_
        refine lv_iadd hx hb dX8_learns_56 ?_
        refine lv_topi (fun x_14 ex_14 => ?_)
        have tx_14 : x_14.toInt = x_13.toInt + (0 : Int32).toInt := by rw [ex_14]; exact t_add ⟨by omega, by omega⟩
        have nx_14 : x_14.toNatClampNeg = 86 + 10 * x0.toNatClampNeg + 2 * x1.toNatClampNeg := by have z1 := t_nn (x := x_14) (by omega); omega
        refine va_iald hx hb hK hP (1) 0 (wm_at (by decide) rc_1) rfl (vp_in_iff.mpr ⟨by omega, by omega⟩) dX8_learns_57 ?_
        refine lv_topi (fun x_15 ex_15 => ?_)
        rw [nx_14] at ex_15
        obtain rfl : own = x_15 := (ex_15.trans eown.symm).symm
        refine lv_istore (lv' := [(5, .int own), (0, .ref (ad 0)), (1, .int x0), (2, .int 0), (3, .int x1), (4, .int 1)]) hx hb dX8_learns_58 hl (by decide) rfl (fun ls hl => ?_)
        refine lv_aload_n hx hb dX8_learns_60 rfl (lv_at hl 1 rfl) ?_
        refine va_get (D := (dC, dI)) (ci := 8) (v := .ref (ad 1)) (C := RX8) (T := TX8) (N := 11) hx hb hts iwX8_learns_X8 hown hK hP (0) (wm_at (by decide) rc_0) rfl 0 (by decide) (hts (.fieldLink RX8 7 "QuietStairsModel" "s" "[I") fwX8_learns_1) (fun _ h9 => h9) rfl dX8_learns_61 ?_
        refine lv_bipush (v := 86) hx hb dX8_learns_64 (by decide) ?_
        refine lv_bipush (v := 10) hx hb dX8_learns_66 (by decide) ?_
        refine lv_iload_n hx hb dX8_learns_68 rfl (lv_at hl 2 rfl) ?_
        refine lv_imul hx hb dX8_learns_69 ?_
        refine lv_topi (fun x_16 ex_16 => ?_)
        obtain rfl : x_10 = x_16 := ex_10.trans ex_16.symm
        refine lv_iadd hx hb dX8_learns_70 ?_
        refine lv_topi (fun x_17 ex_17 => ?_)
        obtain rfl : x_11 = x_17 := ex_11.trans ex_17.symm
        refine lv_iconst (v := 2) hx hb dX8_learns_71 (by decide) ?_
        refine lv_iload_n hx hb dX8_learns_72 rfl (lv_at hl 4 rfl) ?_
        refine lv_imul hx hb dX8_learns_73 ?_
        refine lv_topi (fun x_18 ex_18 => ?_)
        obtain rfl : x_12 = x_18 := ex_12.trans ex_18.symm
        refine lv_iadd hx hb dX8_learns_74 ?_
        refine lv_topi (fun x_19 ex_19 => ?_)
        obtain rfl : x_13 = x_19 := ex_13.trans ex_19.symm
        refine lv_iconst (v := 1) hx hb dX8_learns_75 (by decide) ?_
        refine lv_iadd hx hb dX8_learns_76 ?_
        refine lv_topi (fun x_20 ex_20 => ?_)
        have tx_20 : x_20.toInt = x_13.toInt + (1 : Int32).toInt := by rw [ex_20]; exact t_add ⟨by omega, by omega⟩
        refine lv_iload_n hx hb dX8_learns_77 rfl (lv_at hl 3 rfl) ?_
        refine lv_isub hx hb dX8_learns_78 ?_
        refine lv_topi (fun x_21 ex_21 => ?_)
        have tx_21 : x_21.toInt = x_20.toInt - (0 : Int32).toInt := by rw [ex_21]; exact t_sub ⟨by omega, by omega⟩
        have nx_21 : x_21.toNatClampNeg = 87 + 10 * x0.toNatClampNeg + 2 * x1.toNatClampNeg := by have z1 := t_nn (x := x_21) (by omega); omega
        refine va_iald hx hb hK hP (1) 0 (wm_at (by decide) rc_1) rfl (vp_in_iff.mpr ⟨by omega, by omega⟩) dX8_learns_79 ?_
        refine lv_topi (fun x_22 ex_22 => ?_)
        rw [nx_21] at ex_22
        obtain rfl : oth = x_22 := (ex_22.trans eoth.symm).symm
        refine lv_istore (lv' := [(6, .int oth), (5, .int own), (0, .ref (ad 0)), (1, .int x0), (2, .int 0), (3, .int x1), (4, .int 1)]) hx hb dX8_learns_80 hl (by decide) rfl (fun ls hl => ?_)
        refine lv_iload_n hx hb dX8_learns_82 rfl (lv_at hl 4 rfl) ?_
        refine lv_if_ne (tgt := 91) hx hb dX8_learns_83 (by decide) (fun c9 => absurd c9 (by decide)) (fun _ => ?_)
        refine lv_iload hx hb dX8_learns_86 (lv_at hl 1 rfl) ?_
        refine lv_goto (tgt := 93) hx hb dX8_learns_88 (by decide) ?_
        refine lv_istore (lv' := [(7, .int own), (6, .int oth), (5, .int own), (0, .ref (ad 0)), (1, .int x0), (2, .int 0), (3, .int x1), (4, .int 1)]) hx hb dX8_learns_93 hl (by decide) rfl (fun ls hl => ?_)
        refine lv_iload_n hx hb dX8_learns_95 rfl (lv_at hl 5 rfl) ?_
        refine lv_if_ne (tgt := 104) hx hb dX8_learns_96 (by decide) (fun c9 => absurd c9 (by decide)) (fun _ => ?_)
        refine lv_iload hx hb dX8_learns_99 (lv_at hl 1 rfl) ?_
        refine lv_goto (tgt := 106) hx hb dX8_learns_101 (by decide) ?_
        refine lv_istore (lv' := [(8, .int oth), (7, .int own), (6, .int oth), (5, .int own), (0, .ref (ad 0)), (1, .int x0), (2, .int 0), (3, .int x1), (4, .int 1)]) hx hb dX8_learns_106 hl (by decide) rfl (fun ls hl => ?_)
        refine lv_bipush (v := (-5)) hx hb dX8_learns_108 (by decide) ?_
        refine lv_istore (lv' := [(9, .int (-5)), (8, .int oth), (7, .int own), (6, .int oth), (5, .int own), (0, .ref (ad 0)), (1, .int x0), (2, .int 0), (3, .int x1), (4, .int 1)]) hx hb dX8_learns_110 hl (by decide) rfl (fun ls hl => ?_)
        refine lv_iconst (v := 0) hx hb dX8_learns_112 (by decide) ?_
        refine lv_istore (lv' := [(10, .int 0), (9, .int (-5)), (8, .int oth), (7, .int own), (6, .int oth), (5, .int own), (0, .ref (ad 0)), (1, .int x0), (2, .int 0), (3, .int x1), (4, .int 1)]) hx hb dX8_learns_113 hl (by decide) rfl (fun ls hl => ?_)
        have hc_23 : ∀ (n : Nat) (y23_10 y23_9 : Int32) (H : Heap) (locs : List Loc), 0 ≤ y23_10.toInt → y23_10.toInt ≤ 101 → -5 ≤ y23_9.toInt → y23_9.toInt ≤ 100 → (lkI 0 1 own.toInt oth.toInt y23_10.toInt y23_9.toInt) → (101 - y23_10.toInt).toNat < n → va_P (dC, dI) vwCl (wm ad cy v) H → va_D A (wm ad cy v) → va_S A s.heap H locs → ∀ ls : Array Slot, lv_has ls 14 [(10, .int y23_10), (9, .int y23_9), (8, .int oth), (7, .int own), (6, .int oth), (5, .int own), (0, .ref (ad 0)), (1, .int x0), (2, .int 0), (3, .int x1), (4, .int 1)] → W p l e (headSpec wsX8_learns ({ frames := 2, cells := 0, slots := 0, locals := 128 })).room s m [Value.ref (ad 0), Value.int x0, Value.int 0, Value.int x1, Value.int 1].toArray below meth c H locs 0 0 (MQ below (va_Qi (fun (r : Int32) (u : Nat → Nat → Int32) => Ir u ∧ (¬ (0 ≤ x0.toInt ∧ x0.toInt < (v 1 2).toInt) → r = -1 ∧ u = v) ∧ ((0 ≤ x0.toInt ∧ x0.toInt < (v 1 2).toInt) ∧ ¬ (0 ≤ x1.toInt ∧ x1.toInt < (v 1 (36 + 7 * x0.toNatClampNeg)).toInt) → r = -5 ∧ u = v) ∧ (((0 ≤ x0.toInt ∧ x0.toInt < (v 1 2).toInt) ∧ (0 ≤ x1.toInt ∧ x1.toInt < (v 1 (36 + 7 * x0.toNatClampNeg)).toInt)) → lkR 0 1 (v 1 (86 + 10 * x0.toNatClampNeg + 2 * x1.toNatClampNeg)).toInt (v 1 (87 + 10 * x0.toNatClampNeg + 2 * x1.toNatClampNeg)).toInt r.toInt ∧ u = v)) (fun u t => ex_Pst dC dI A (wm ad cy u) t) A) [Value.ref (ad 0), Value.int x0, Value.int 0, Value.int x1, Value.int 1].toArray s 0 0 A) (F0 m 115 ls []) := by
          intro n
          induction n with
          | zero =>
            intro y23_10 y23_9 H locs ay23_10 by23_10 ay23_9 by23_9 hi23_0 hm_23 hP hD hS ls hl
            exact absurd hm_23 (by omega)
          | succ n ih_23 =>
            intro y23_10 y23_9 H locs ay23_10 by23_10 ay23_9 by23_9 hi23_0 hm_23 hP hD hS ls hl
            refine lv_iload hx hb dX8_learns_115 (lv_at hl 0 rfl) ?_
            refine lv_bipush (v := 100) hx hb dX8_learns_117 (by decide) ?_
            have k_100 : (100 : Int32).toInt = 100 := by decide
            refine lv_icmp_gt (tgt := 231) hx hb dX8_learns_119 (by decide) (fun c_24 => ?_) (fun c_24 => ?_)
            · have tc_24 : y23_10.toInt > (100 : Int32).toInt := Int32.lt_iff_toInt_lt.mp c_24
              refine lv_iload hx hb dX8_learns_231 (lv_at hl 1 rfl) ?_
              have hpost : (¬ (0 ≤ x0.toInt ∧ x0.toInt < (v 1 2).toInt) → y23_9 = -1 ∧ v = v) ∧ ((0 ≤ x0.toInt ∧ x0.toInt < (v 1 2).toInt) ∧ ¬ (0 ≤ x1.toInt ∧ x1.toInt < (v 1 (36 + 7 * x0.toNatClampNeg)).toInt) → y23_9 = -5 ∧ v = v) ∧ (((0 ≤ x0.toInt ∧ x0.toInt < (v 1 2).toInt) ∧ (0 ≤ x1.toInt ∧ x1.toInt < (v 1 (36 + 7 * x0.toNatClampNeg)).toInt)) → lkR 0 1 (v 1 (86 + 10 * x0.toNatClampNeg + 2 * x1.toNatClampNeg)).toInt (v 1 (87 + 10 * x0.toNatClampNeg + 2 * x1.toNatClampNeg)).toInt y23_9.toInt ∧ v = v) := by
                refine ⟨fun hq => ?_, fun hq => ?_, fun hq => ?_⟩
                · exfalso; omega
                · exfalso; omega
                · rw [← eown, ← eoth]; exact ⟨lkI_end (by omega) hi23_0 hboth (by omega), rfl⟩
              exact W.iret (v := y23_9) hx hb hr (fun t ht hW => ⟨⟨y23_9, v, rfl, ⟨hv, hpost⟩, by rw [ht]; exact hP, hD⟩, hS.F ht⟩) hS.2.2 dX8_learns_233
            · have tc_24 : y23_10.toInt ≤ (100 : Int32).toInt := Int32.le_iff_toInt_le.mp (Int32.not_lt.mp c_24)
              refine lv_iload_n hx hb dX8_learns_122 rfl (lv_at hl 8 rfl) ?_
              refine lv_if_ne (tgt := 131) hx hb dX8_learns_123 (by decide) (fun c9 => absurd c9 (by decide)) (fun _ => ?_)
              refine lv_iload hx hb dX8_learns_126 (lv_at hl 5 rfl) ?_
              refine lv_goto (tgt := 133) hx hb dX8_learns_128 (by decide) ?_
              refine lv_istore (lv' := [(11, .int own), (10, .int y23_10), (9, .int y23_9), (8, .int oth), (7, .int own), (6, .int oth), (5, .int own), (0, .ref (ad 0)), (1, .int x0), (2, .int 0), (3, .int x1), (4, .int 1)]) hx hb dX8_learns_133 hl (by decide) rfl (fun ls hl => ?_)
              refine lv_iload_n hx hb dX8_learns_135 rfl (lv_at hl 9 rfl) ?_
              refine lv_if_ne (tgt := 144) hx hb dX8_learns_136 (by decide) (fun c9 => absurd c9 (by decide)) (fun _ => ?_)
              refine lv_iload hx hb dX8_learns_139 (lv_at hl 1 rfl) ?_
              refine lv_goto (tgt := 146) hx hb dX8_learns_141 (by decide) ?_
              refine lv_istore (lv' := [(12, .int y23_10), (11, .int own), (10, .int y23_10), (9, .int y23_9), (8, .int oth), (7, .int own), (6, .int oth), (5, .int own), (0, .ref (ad 0)), (1, .int x0), (2, .int 0), (3, .int x1), (4, .int 1)]) hx hb dX8_learns_146 hl (by decide) rfl (fun ls hl => ?_)
              refine lv_iload hx hb dX8_learns_148 (lv_at hl 4 rfl) ?_
              refine lv_iload hx hb dX8_learns_150 (lv_at hl 5 rfl) ?_
              refine lv_icmp_ge (tgt := 170) hx hb dX8_learns_152 (by decide) (fun c_25 => ?_) (fun c_25 => ?_)
              · have tc_25 : oth.toInt ≥ own.toInt := Int32.le_iff_toInt_le.mp c_25
                refine lv_iload hx hb dX8_learns_170 (lv_at hl 0 rfl) ?_
                refine lv_iload hx hb dX8_learns_172 (lv_at hl 1 rfl) ?_
                refine lv_icmp_lt (tgt := 198) hx hb dX8_learns_174 (by decide) (fun c_26 => ?_) (fun c_26 => ?_)
                · have tc_26 : y23_10.toInt < own.toInt := Int32.lt_iff_toInt_lt.mp c_26
                  refine lv_iconst (v := 0) hx hb dX8_learns_198 (by decide) ?_
                  refine lv_istore (lv' := [(13, .int 0), (12, .int y23_10), (11, .int own), (10, .int y23_10), (9, .int y23_9), (8, .int oth), (7, .int own), (6, .int oth), (5, .int own), (0, .ref (ad 0)), (1, .int x0), (2, .int 0), (3, .int x1), (4, .int 1)]) hx hb dX8_learns_199 hl (by decide) rfl (fun ls hl => ?_)
                  refine lv_iload hx hb dX8_learns_201 (lv_at hl 0 rfl) ?_
                  refine lv_if_eq (tgt := 221) hx hb dX8_learns_203 (by decide) (fun _ => ?_) (fun c9 => absurd c9 (by decide))
                  refine lv_iload hx hb dX8_learns_221 (lv_at hl 4 rfl) ?_
                  refine lv_istore (lv' := [(9, .int y23_9), (13, .int 0), (12, .int y23_10), (11, .int own), (10, .int y23_10), (8, .int oth), (7, .int own), (6, .int oth), (5, .int own), (0, .ref (ad 0)), (1, .int x0), (2, .int 0), (3, .int x1), (4, .int 1)]) hx hb dX8_learns_223 hl (by decide) rfl (fun ls hl => ?_)
                  obtain ⟨x_27, ex_27⟩ : ∃ y : Int32, y = y23_10 + 1 := ⟨_, rfl⟩
                  refine lv_iinc (v := x_27) (lv' := [(10, .int x_27), (9, .int y23_9), (13, .int 0), (12, .int y23_10), (11, .int own), (8, .int oth), (7, .int own), (6, .int oth), (5, .int own), (0, .ref (ad 0)), (1, .int x0), (2, .int 0), (3, .int x1), (4, .int 1)]) hx hb dX8_learns_225 hl (k := 4) rfl (by rw [ex_27]; rfl) (by decide) rfl (fun ls hl => ?_)
                  have tx_27 : x_27.toInt = y23_10.toInt + (1 : Int32).toInt := by rw [ex_27]; exact t_add ⟨by omega, by omega⟩
                  refine lv_goto (tgt := 115) hx hb dX8_learns_228 (by decide) ?_
                  exact ih_23 x_27 y23_9 _ _ (by omega) (by omega) (by omega) (by omega) (lkI_no (by omega) hi23_0 (by unfold lke; omega)) (by omega) hP hD hS ls (lv_sub hl [0, 1, 5, 6, 7, 8, 9, 10, 11, 12, 13] rfl)
                · have tc_26 : y23_10.toInt ≥ own.toInt := Int32.le_iff_toInt_le.mp (Int32.not_lt.mp c_26)
                  refine lv_iload hx hb dX8_learns_177 (lv_at hl 1 rfl) ?_
                  refine lv_iload hx hb dX8_learns_179 (lv_at hl 0 rfl) ?_
                  refine lv_iadd hx hb dX8_learns_181 ?_
                  refine lv_topi (fun x_27 ex_27 => ?_)
                  have tx_27 : x_27.toInt = own.toInt + y23_10.toInt := by rw [ex_27]; exact t_add ⟨by omega, by omega⟩
                  refine lv_iconst (v := 2) hx hb dX8_learns_182 (by decide) ?_
                  refine lv_idiv hx hb dX8_learns_183 (by decide) ?_
                  refine lv_topi (fun x_28 ex_28 => ?_)
                  have tx_28 : x_28.toInt = x_27.toInt / 2 := by rw [ex_28]; exact t_half (by omega)
                  refine lv_iload hx hb dX8_learns_184 (lv_at hl 5 rfl) ?_
                  refine lv_iload hx hb dX8_learns_186 (lv_at hl 4 rfl) ?_
                  refine lv_iadd hx hb dX8_learns_188 ?_
                  refine lv_topi (fun x_29 ex_29 => ?_)
                  have tx_29 : x_29.toInt = own.toInt + oth.toInt := by rw [ex_29]; exact t_add ⟨by omega, by omega⟩
                  refine lv_iconst (v := 2) hx hb dX8_learns_189 (by decide) ?_
                  refine lv_idiv hx hb dX8_learns_190 (by decide) ?_
                  refine lv_topi (fun x_30 ex_30 => ?_)
                  have tx_30 : x_30.toInt = x_29.toInt / 2 := by rw [ex_30]; exact t_half (by omega)
                  refine lv_icmp_ne (tgt := 198) hx hb dX8_learns_191 (by decide) (fun c_31 => ?_) (fun c_31 => ?_)
                  · have tc_31 : x_28.toInt ≠ x_30.toInt := fun q => absurd (Int32.toInt_inj.mp q) c_31
                    refine lv_iconst (v := 0) hx hb dX8_learns_198 (by decide) ?_
                    refine lv_istore (lv' := [(13, .int 0), (12, .int y23_10), (11, .int own), (10, .int y23_10), (9, .int y23_9), (8, .int oth), (7, .int own), (6, .int oth), (5, .int own), (0, .ref (ad 0)), (1, .int x0), (2, .int 0), (3, .int x1), (4, .int 1)]) hx hb dX8_learns_199 hl (by decide) rfl (fun ls hl => ?_)
                    refine lv_iload hx hb dX8_learns_201 (lv_at hl 0 rfl) ?_
                    refine lv_if_eq (tgt := 221) hx hb dX8_learns_203 (by decide) (fun _ => ?_) (fun c9 => absurd c9 (by decide))
                    refine lv_iload hx hb dX8_learns_221 (lv_at hl 4 rfl) ?_
                    refine lv_istore (lv' := [(9, .int y23_9), (13, .int 0), (12, .int y23_10), (11, .int own), (10, .int y23_10), (8, .int oth), (7, .int own), (6, .int oth), (5, .int own), (0, .ref (ad 0)), (1, .int x0), (2, .int 0), (3, .int x1), (4, .int 1)]) hx hb dX8_learns_223 hl (by decide) rfl (fun ls hl => ?_)
                    obtain ⟨x_32, ex_32⟩ : ∃ y : Int32, y = y23_10 + 1 := ⟨_, rfl⟩
                    refine lv_iinc (v := x_32) (lv' := [(10, .int x_32), (9, .int y23_9), (13, .int 0), (12, .int y23_10), (11, .int own), (8, .int oth), (7, .int own), (6, .int oth), (5, .int own), (0, .ref (ad 0)), (1, .int x0), (2, .int 0), (3, .int x1), (4, .int 1)]) hx hb dX8_learns_225 hl (k := 4) rfl (by rw [ex_32]; rfl) (by decide) rfl (fun ls hl => ?_)
                    have tx_32 : x_32.toInt = y23_10.toInt + (1 : Int32).toInt := by rw [ex_32]; exact t_add ⟨by omega, by omega⟩
                    refine lv_goto (tgt := 115) hx hb dX8_learns_228 (by decide) ?_
                    exact ih_23 x_32 y23_9 _ _ (by omega) (by omega) (by omega) (by omega) (lkI_no (by omega) hi23_0 (by unfold lke; omega)) (by omega) hP hD hS ls (lv_sub hl [0, 1, 5, 6, 7, 8, 9, 10, 11, 12, 13] rfl)
                  · have tc_31 : x_28.toInt = x_30.toInt := by rw [c_31]
                    refine lv_iconst (v := 1) hx hb dX8_learns_194 (by decide) ?_
                    refine lv_goto (tgt := 199) hx hb dX8_learns_195 (by decide) ?_
                    refine lv_istore (lv' := [(13, .int 1), (12, .int y23_10), (11, .int own), (10, .int y23_10), (9, .int y23_9), (8, .int oth), (7, .int own), (6, .int oth), (5, .int own), (0, .ref (ad 0)), (1, .int x0), (2, .int 0), (3, .int x1), (4, .int 1)]) hx hb dX8_learns_199 hl (by decide) rfl (fun ls hl => ?_)
                    refine lv_iload hx hb dX8_learns_201 (lv_at hl 0 rfl) ?_
                    refine lv_if_eq (tgt := 221) hx hb dX8_learns_203 (by decide) (fun c9 => absurd c9 (by decide)) (fun _ => ?_)
                    refine lv_iload hx hb dX8_learns_206 (lv_at hl 4 rfl) ?_
                    refine lv_if_lt (tgt := 216) hx hb dX8_learns_208 (by decide) (fun c_32 => ?_) (fun c_32 => ?_)
                    · have tc_32 : y23_9.toInt < (0 : Int32).toInt := Int32.lt_iff_toInt_lt.mp c_32
                      refine lv_iload hx hb dX8_learns_216 (lv_at hl 3 rfl) ?_
                      refine lv_goto (tgt := 223) hx hb dX8_learns_218 (by decide) ?_
                      refine lv_istore (lv' := [(9, .int y23_10), (13, .int 1), (12, .int y23_10), (11, .int own), (10, .int y23_10), (8, .int oth), (7, .int own), (6, .int oth), (5, .int own), (0, .ref (ad 0)), (1, .int x0), (2, .int 0), (3, .int x1), (4, .int 1)]) hx hb dX8_learns_223 hl (by decide) rfl (fun ls hl => ?_)
                      obtain ⟨x_33, ex_33⟩ : ∃ y : Int32, y = y23_10 + 1 := ⟨_, rfl⟩
                      refine lv_iinc (v := x_33) (lv' := [(10, .int x_33), (9, .int y23_10), (13, .int 1), (12, .int y23_10), (11, .int own), (8, .int oth), (7, .int own), (6, .int oth), (5, .int own), (0, .ref (ad 0)), (1, .int x0), (2, .int 0), (3, .int x1), (4, .int 1)]) hx hb dX8_learns_225 hl (k := 4) rfl (by rw [ex_33]; rfl) (by decide) rfl (fun ls hl => ?_)
                      have tx_33 : x_33.toInt = y23_10.toInt + (1 : Int32).toInt := by rw [ex_33]; exact t_add ⟨by omega, by omega⟩
                      refine lv_goto (tgt := 115) hx hb dX8_learns_228 (by decide) ?_
                      exact ih_23 x_33 y23_10 _ _ (by omega) (by omega) (by omega) (by omega) (lkI_new (by omega) (by omega) hi23_0 (by unfold lke; omega) (by omega)) (by omega) hP hD hS ls (lv_sub hl [0, 1, 5, 6, 7, 8, 9, 10, 11, 12, 13] rfl)
                    · have tc_32 : y23_9.toInt ≥ (0 : Int32).toInt := Int32.le_iff_toInt_le.mp (Int32.not_lt.mp c_32)
                      refine lv_iload hx hb dX8_learns_211 (lv_at hl 13 rfl) ?_
                      refine lv_if_eq (tgt := 221) hx hb dX8_learns_213 (by decide) (fun c9 => absurd c9 (by decide)) (fun _ => ?_)
                      refine lv_iload hx hb dX8_learns_216 (lv_at hl 3 rfl) ?_
                      refine lv_goto (tgt := 223) hx hb dX8_learns_218 (by decide) ?_
                      refine lv_istore (lv' := [(9, .int y23_10), (13, .int 1), (12, .int y23_10), (11, .int own), (10, .int y23_10), (8, .int oth), (7, .int own), (6, .int oth), (5, .int own), (0, .ref (ad 0)), (1, .int x0), (2, .int 0), (3, .int x1), (4, .int 1)]) hx hb dX8_learns_223 hl (by decide) rfl (fun ls hl => ?_)
                      obtain ⟨x_33, ex_33⟩ : ∃ y : Int32, y = y23_10 + 1 := ⟨_, rfl⟩
                      refine lv_iinc (v := x_33) (lv' := [(10, .int x_33), (9, .int y23_10), (13, .int 1), (12, .int y23_10), (11, .int own), (8, .int oth), (7, .int own), (6, .int oth), (5, .int own), (0, .ref (ad 0)), (1, .int x0), (2, .int 0), (3, .int x1), (4, .int 1)]) hx hb dX8_learns_225 hl (k := 4) rfl (by rw [ex_33]; rfl) (by decide) rfl (fun ls hl => ?_)
                      have tx_33 : x_33.toInt = y23_10.toInt + (1 : Int32).toInt := by rw [ex_33]; exact t_add ⟨by omega, by omega⟩
                      refine lv_goto (tgt := 115) hx hb dX8_learns_228 (by decide) ?_
                      exact ih_23 x_33 y23_10 _ _ (by omega) (by omega) (by omega) (by omega) (lkI_new (by omega) (by omega) hi23_0 (by unfold lke; omega) (by omega)) (by omega) hP hD hS ls (lv_sub hl [0, 1, 5, 6, 7, 8, 9, 10, 11, 12, 13] rfl)
              · have tc_25 : oth.toInt < own.toInt := Int32.lt_iff_toInt_lt.mp (Int32.not_le.mp c_25)
                refine lv_iload hx hb dX8_learns_155 (lv_at hl 0 rfl) ?_
                refine lv_iload hx hb dX8_learns_157 (lv_at hl 1 rfl) ?_
                refine lv_icmp_ge (tgt := 166) hx hb dX8_learns_159 (by decide) (fun c_26 => ?_) (fun c_26 => ?_)
                · have tc_26 : y23_10.toInt ≥ own.toInt := Int32.le_iff_toInt_le.mp c_26
                  refine lv_iconst (v := 0) hx hb dX8_learns_166 (by decide) ?_
                  refine lv_goto (tgt := 199) hx hb dX8_learns_167 (by decide) ?_
                  refine lv_istore (lv' := [(13, .int 0), (12, .int y23_10), (11, .int own), (10, .int y23_10), (9, .int y23_9), (8, .int oth), (7, .int own), (6, .int oth), (5, .int own), (0, .ref (ad 0)), (1, .int x0), (2, .int 0), (3, .int x1), (4, .int 1)]) hx hb dX8_learns_199 hl (by decide) rfl (fun ls hl => ?_)
                  refine lv_iload hx hb dX8_learns_201 (lv_at hl 0 rfl) ?_
                  refine lv_if_eq (tgt := 221) hx hb dX8_learns_203 (by decide) (fun _ => ?_) (fun c9 => absurd c9 (by decide))
                  refine lv_iload hx hb dX8_learns_221 (lv_at hl 4 rfl) ?_
                  refine lv_istore (lv' := [(9, .int y23_9), (13, .int 0), (12, .int y23_10), (11, .int own), (10, .int y23_10), (8, .int oth), (7, .int own), (6, .int oth), (5, .int own), (0, .ref (ad 0)), (1, .int x0), (2, .int 0), (3, .int x1), (4, .int 1)]) hx hb dX8_learns_223 hl (by decide) rfl (fun ls hl => ?_)
                  obtain ⟨x_27, ex_27⟩ : ∃ y : Int32, y = y23_10 + 1 := ⟨_, rfl⟩
                  refine lv_iinc (v := x_27) (lv' := [(10, .int x_27), (9, .int y23_9), (13, .int 0), (12, .int y23_10), (11, .int own), (8, .int oth), (7, .int own), (6, .int oth), (5, .int own), (0, .ref (ad 0)), (1, .int x0), (2, .int 0), (3, .int x1), (4, .int 1)]) hx hb dX8_learns_225 hl (k := 4) rfl (by rw [ex_27]; rfl) (by decide) rfl (fun ls hl => ?_)
                  have tx_27 : x_27.toInt = y23_10.toInt + (1 : Int32).toInt := by rw [ex_27]; exact t_add ⟨by omega, by omega⟩
                  refine lv_goto (tgt := 115) hx hb dX8_learns_228 (by decide) ?_
                  exact ih_23 x_27 y23_9 _ _ (by omega) (by omega) (by omega) (by omega) (lkI_no (by omega) hi23_0 (by unfold lke; omega)) (by omega) hP hD hS ls (lv_sub hl [0, 1, 5, 6, 7, 8, 9, 10, 11, 12, 13] rfl)
                · have tc_26 : y23_10.toInt < own.toInt := Int32.lt_iff_toInt_lt.mp (Int32.not_le.mp c_26)
                  refine lv_iconst (v := 1) hx hb dX8_learns_162 (by decide) ?_
                  refine lv_goto (tgt := 199) hx hb dX8_learns_163 (by decide) ?_
                  refine lv_istore (lv' := [(13, .int 1), (12, .int y23_10), (11, .int own), (10, .int y23_10), (9, .int y23_9), (8, .int oth), (7, .int own), (6, .int oth), (5, .int own), (0, .ref (ad 0)), (1, .int x0), (2, .int 0), (3, .int x1), (4, .int 1)]) hx hb dX8_learns_199 hl (by decide) rfl (fun ls hl => ?_)
                  refine lv_iload hx hb dX8_learns_201 (lv_at hl 0 rfl) ?_
                  refine lv_if_eq (tgt := 221) hx hb dX8_learns_203 (by decide) (fun c9 => absurd c9 (by decide)) (fun _ => ?_)
                  refine lv_iload hx hb dX8_learns_206 (lv_at hl 4 rfl) ?_
                  refine lv_if_lt (tgt := 216) hx hb dX8_learns_208 (by decide) (fun c_27 => ?_) (fun c_27 => ?_)
                  · have tc_27 : y23_9.toInt < (0 : Int32).toInt := Int32.lt_iff_toInt_lt.mp c_27
                    refine lv_iload hx hb dX8_learns_216 (lv_at hl 3 rfl) ?_
                    refine lv_goto (tgt := 223) hx hb dX8_learns_218 (by decide) ?_
                    refine lv_istore (lv' := [(9, .int y23_10), (13, .int 1), (12, .int y23_10), (11, .int own), (10, .int y23_10), (8, .int oth), (7, .int own), (6, .int oth), (5, .int own), (0, .ref (ad 0)), (1, .int x0), (2, .int 0), (3, .int x1), (4, .int 1)]) hx hb dX8_learns_223 hl (by decide) rfl (fun ls hl => ?_)
                    obtain ⟨x_28, ex_28⟩ : ∃ y : Int32, y = y23_10 + 1 := ⟨_, rfl⟩
                    refine lv_iinc (v := x_28) (lv' := [(10, .int x_28), (9, .int y23_10), (13, .int 1), (12, .int y23_10), (11, .int own), (8, .int oth), (7, .int own), (6, .int oth), (5, .int own), (0, .ref (ad 0)), (1, .int x0), (2, .int 0), (3, .int x1), (4, .int 1)]) hx hb dX8_learns_225 hl (k := 4) rfl (by rw [ex_28]; rfl) (by decide) rfl (fun ls hl => ?_)
                    have tx_28 : x_28.toInt = y23_10.toInt + (1 : Int32).toInt := by rw [ex_28]; exact t_add ⟨by omega, by omega⟩
                    refine lv_goto (tgt := 115) hx hb dX8_learns_228 (by decide) ?_
                    exact ih_23 x_28 y23_10 _ _ (by omega) (by omega) (by omega) (by omega) (lkI_new (by omega) (by omega) hi23_0 (by unfold lke; omega) (by omega)) (by omega) hP hD hS ls (lv_sub hl [0, 1, 5, 6, 7, 8, 9, 10, 11, 12, 13] rfl)
                  · have tc_27 : y23_9.toInt ≥ (0 : Int32).toInt := Int32.le_iff_toInt_le.mp (Int32.not_lt.mp c_27)
                    refine lv_iload hx hb dX8_learns_211 (lv_at hl 13 rfl) ?_
                    refine lv_if_eq (tgt := 221) hx hb dX8_learns_213 (by decide) (fun c9 => absurd c9 (by decide)) (fun _ => ?_)
                    refine lv_iload hx hb dX8_learns_216 (lv_at hl 3 rfl) ?_
                    refine lv_goto (tgt := 223) hx hb dX8_learns_218 (by decide) ?_
                    refine lv_istore (lv' := [(9, .int y23_10), (13, .int 1), (12, .int y23_10), (11, .int own), (10, .int y23_10), (8, .int oth), (7, .int own), (6, .int oth), (5, .int own), (0, .ref (ad 0)), (1, .int x0), (2, .int 0), (3, .int x1), (4, .int 1)]) hx hb dX8_learns_223 hl (by decide) rfl (fun ls hl => ?_)
                    obtain ⟨x_28, ex_28⟩ : ∃ y : Int32, y = y23_10 + 1 := ⟨_, rfl⟩
                    refine lv_iinc (v := x_28) (lv' := [(10, .int x_28), (9, .int y23_10), (13, .int 1), (12, .int y23_10), (11, .int own), (8, .int oth), (7, .int own), (6, .int oth), (5, .int own), (0, .ref (ad 0)), (1, .int x0), (2, .int 0), (3, .int x1), (4, .int 1)]) hx hb dX8_learns_225 hl (k := 4) rfl (by rw [ex_28]; rfl) (by decide) rfl (fun ls hl => ?_)
                    have tx_28 : x_28.toInt = y23_10.toInt + (1 : Int32).toInt := by rw [ex_28]; exact t_add ⟨by omega, by omega⟩
                    refine lv_goto (tgt := 115) hx hb dX8_learns_228 (by decide) ?_
                    exact ih_23 x_28 y23_10 _ _ (by omega) (by omega) (by omega) (by omega) (lkI_new (by omega) (by omega) hi23_0 (by unfold lke; omega) (by omega)) (by omega) hP hD hS ls (lv_sub hl [0, 1, 5, 6, 7, 8, 9, 10, 11, 12, 13] rfl)
        have k_m5 : ((-5) : Int32).toInt = -5 := by decide
        exact hc_23 ((101 - (0 : Int32).toInt).toNat + 1) 0 (-5) _ _ (by omega) (by omega) (by omega) (by omega) (lkI_0 (by omega) (by omega)) (by omega) hP hD hS ls (lv_sub hl [0, 1, 2, 3, 4, 5, 6, 7, 8, 9, 10] rfl)
      · have tc_9 : ¬ ((0 : Int32).toInt ≤ x1.toInt ∧ x1.toInt ≤ x_7.toInt) := fun q => hc_9 ⟨Int32.le_iff_toInt_le.mpr q.1, Int32.le_iff_toInt_le.mpr q.2⟩
        refine lv_if_ne (tgt := 40) hx hb dX8_learns_34 (by decide) (fun c9 => absurd c9 (by decide)) (fun _ => ?_)
        refine lv_bipush (v := (-5)) hx hb dX8_learns_37 (by decide) ?_
        have hpost : (¬ (0 ≤ x0.toInt ∧ x0.toInt < (v 1 2).toInt) → ((-5) : Int32) = -1 ∧ v = v) ∧ ((0 ≤ x0.toInt ∧ x0.toInt < (v 1 2).toInt) ∧ ¬ (0 ≤ x1.toInt ∧ x1.toInt < (v 1 (36 + 7 * x0.toNatClampNeg)).toInt) → ((-5) : Int32) = -5 ∧ v = v) ∧ (((0 ≤ x0.toInt ∧ x0.toInt < (v 1 2).toInt) ∧ (0 ≤ x1.toInt ∧ x1.toInt < (v 1 (36 + 7 * x0.toNatClampNeg)).toInt)) → lkR 0 1 (v 1 (86 + 10 * x0.toNatClampNeg + 2 * x1.toNatClampNeg)).toInt (v 1 (87 + 10 * x0.toNatClampNeg + 2 * x1.toNatClampNeg)).toInt ((-5) : Int32).toInt ∧ v = v) := by
          refine ⟨fun hq => ?_, fun hq => ?_, fun hq => ?_⟩
          · exfalso; omega
          · exact ⟨rfl, rfl⟩
          · exfalso; omega
        exact W.iret (v := (-5)) hx hb hr (fun t ht hW => ⟨⟨(-5), v, rfl, ⟨hv, hpost⟩, by rw [ht]; exact hP, hD⟩, hS.F ht⟩) hS.2.2 dX8_learns_39
    · have k_0 : (0 : Int32).toInt = 0 := by decide
      have k_1 : (1 : Int32).toInt = 1 := by decide
      have tc_4 : ¬ ((0 : Int32).toInt ≤ (0 : Int32).toInt ∧ (0 : Int32).toInt ≤ (1 : Int32).toInt) := fun q => hc_4 ⟨Int32.le_iff_toInt_le.mpr q.1, Int32.le_iff_toInt_le.mpr q.2⟩
      refine lv_if_ne (tgt := 17) hx hb dX8_learns_12 (by decide) (fun c9 => absurd c9 (by decide)) (fun _ => ?_)
      refine lv_iconst (v := (-1)) hx hb dX8_learns_15 (by decide) ?_
      have hpost : (¬ (0 ≤ x0.toInt ∧ x0.toInt < (v 1 2).toInt) → ((-1) : Int32) = -1 ∧ v = v) ∧ ((0 ≤ x0.toInt ∧ x0.toInt < (v 1 2).toInt) ∧ ¬ (0 ≤ x1.toInt ∧ x1.toInt < (v 1 (36 + 7 * x0.toNatClampNeg)).toInt) → ((-1) : Int32) = -5 ∧ v = v) ∧ (((0 ≤ x0.toInt ∧ x0.toInt < (v 1 2).toInt) ∧ (0 ≤ x1.toInt ∧ x1.toInt < (v 1 (36 + 7 * x0.toNatClampNeg)).toInt)) → lkR 0 1 (v 1 (86 + 10 * x0.toNatClampNeg + 2 * x1.toNatClampNeg)).toInt (v 1 (87 + 10 * x0.toNatClampNeg + 2 * x1.toNatClampNeg)).toInt ((-1) : Int32).toInt ∧ v = v) := by
        refine ⟨fun hq => ?_, fun hq => ?_, fun hq => ?_⟩
        · exact ⟨rfl, rfl⟩
        · exfalso; omega
        · exfalso; omega
      exact W.iret (v := (-1)) hx hb hr (fun t ht hW => ⟨⟨(-1), v, rfl, ⟨hv, hpost⟩, by rw [ht]; exact hP, hD⟩, hS.F ht⟩) hS.2.2 dX8_learns_16
  · refine lv_if_eq (tgt := 15) hx hb dX8_learns_5 (by decide) (fun _ => ?_) (fun c9 => absurd c9 (by decide))
    refine lv_iconst (v := (-1)) hx hb dX8_learns_15 (by decide) ?_
    have hpost : (¬ (0 ≤ x0.toInt ∧ x0.toInt < (v 1 2).toInt) → ((-1) : Int32) = -1 ∧ v = v) ∧ ((0 ≤ x0.toInt ∧ x0.toInt < (v 1 2).toInt) ∧ ¬ (0 ≤ x1.toInt ∧ x1.toInt < (v 1 (36 + 7 * x0.toNatClampNeg)).toInt) → ((-1) : Int32) = -5 ∧ v = v) ∧ (((0 ≤ x0.toInt ∧ x0.toInt < (v 1 2).toInt) ∧ (0 ≤ x1.toInt ∧ x1.toInt < (v 1 (36 + 7 * x0.toNatClampNeg)).toInt)) → lkR 0 1 (v 1 (86 + 10 * x0.toNatClampNeg + 2 * x1.toNatClampNeg)).toInt (v 1 (87 + 10 * x0.toNatClampNeg + 2 * x1.toNatClampNeg)).toInt ((-1) : Int32).toInt ∧ v = v) := by
      refine ⟨fun hq => ?_, fun hq => ?_, fun hq => ?_⟩
      · exact ⟨rfl, rfl⟩
      · exfalso; omega
      · exfalso; omega
    exact W.iret (v := (-1)) hx hb hr (fun t ht hW => ⟨⟨(-1), v, rfl, ⟨hv, hpost⟩, by rw [ht]; exact hP, hD⟩, hS.F ht⟩) hS.2.2 dX8_learns_16

set_option maxHeartbeats 4000000 in
set_option maxRecDepth 100000 in
theorem e_X8_learns_10 (l : Launch) (dC : Nat → ClassId) (dI : Nat → Nat → Nat) (cy : Nat → ClassId) (sz : Nat) (ad : Nat → Nat) (v : Nat → Nat → Int32) (hv : Ir v) (hO : RO (v 1)) (x0 x1 : Int32) : Met l yX8_learns wsX8_learns ({ frames := 2, cells := 0, slots := 0, locals := 128 }) (va_Pc [.ref (ad 0), .int x0, .int 1, .int x1, .int 0] (ex_Pre dC dI cy sz (wm ad cy v))) (va_Qi (fun (r : Int32) (u : Nat → Nat → Int32) => Ir u ∧ (¬ (0 ≤ x0.toInt ∧ x0.toInt < (v 1 2).toInt) → r = -1 ∧ u = v) ∧ ((0 ≤ x0.toInt ∧ x0.toInt < (v 1 2).toInt) ∧ ¬ (0 ≤ x1.toInt ∧ x1.toInt < (v 1 (36 + 7 * x0.toNatClampNeg)).toInt) → r = -5 ∧ u = v) ∧ (((0 ≤ x0.toInt ∧ x0.toInt < (v 1 2).toInt) ∧ (0 ≤ x1.toInt ∧ x1.toInt < (v 1 (36 + 7 * x0.toNatClampNeg)).toInt)) → lkR 1 0 (v 1 (87 + 10 * x0.toNatClampNeg + 2 * x1.toNatClampNeg)).toInt (v 1 (86 + 10 * x0.toNatClampNeg + 2 * x1.toNatClampNeg)).toInt r.toInt ∧ u = v)) (fun u t => ex_Pst dC dI (va_A (wm ad cy v) sz) (wm ad cy u) t) (va_A (wm ad cy v) sz)) 0 0 (va_A (wm ad cy v) sz) := by
  refine Met.ofW (cc := cX8_learns) (maxL := 14) (ret := (some .int)) (by decide) rfl ?_
  intro p e s m args below meth c s₁ B hml hv
  obtain ⟨rfl, hsz, hE, hP, hK, hD0⟩ := hv
  have hx := B.exec
  have hb := B.bytes
  have hr := B.returns
  have hts := atoms_spec (ws := wsX8_learns) B.pre
  have hown : s.vm.findClass RX8 = some m.cls := findClass_of_methodNamed B.named
  have hlocks := B.notSynchronized
  subst hsz
  have hD := hD0.self (sz := s.heap.size)
  generalize hAe : va_A (wm ad cy v) s.heap.size = A at hD ⊢
  have hA : ∀ q : Nat, s.heap.size ≤ q → A q := fun q h => by rw [← hAe]; exact Or.inr h
  have hS : va_S A s.heap s.heap [] := va_S.rf
  have hP : va_P (dC, dI) vwCl (wm ad cy v) s.heap := hP
  have hl := lv_entry ([.ref (ad 0), .int x0, .int 1, .int x1, .int 0]) (n := 14) (Nat.le_of_ble_eq_true rfl)
  rw [lg_entry_eq]
  generalize (lg_sl ([.ref (ad 0), .int x0, .int 1, .int x1, .int 0]) ++ List.replicate (14 - (lg_sl ([.ref (ad 0), .int x0, .int 1, .int x1, .int 0])).length) Slot.unset).toArray = ls at hl ⊢
  have hl : lv_has ls 14 [(0, .ref (ad 0)), (1, .int x0), (2, .int 1), (3, .int x1), (4, .int 0)] := hl
  refine lv_aload_n hx hb dX8_learns_0 rfl (lv_at hl 0 rfl) ?_
  refine lv_iload_n hx hb dX8_learns_1 rfl (lv_at hl 1 rfl) ?_
  refine yw_i (w1 := fun (u : Nat → Nat → Int32) => wm ad cy u) hD hS hA (va_runV (As := [.int x0]) (rest := []) ⟨hx, hb, hml, hown, hts⟩ (q_X8_isCase l dC dI cy _ ad v hv x0) (cwV 1 hts gX8_learns_X8_isCase rfl rfl rfl hd_V_X8_isCase_1 ⟨Nat.le_of_ble_eq_true rfl, Nat.le_of_ble_eq_true rfl⟩) (yw_preV hE hK hP hD (ci := 8) (q := (RX8, TX8, 11)) (q0 := 0) rfl (wm_at (by decide) rc_0)) rfl rfl hl.1 rfl (lv_room (Nat.le_of_ble_eq_true rfl)) dX8_learns_2 ⟨Nat.le_of_ble_eq_true rfl, Nat.le_of_ble_eq_true rfl⟩) (fun r_1 v_1 H locs hw_1 hP hD hS => ?_)
  obtain ⟨-, hu_1, hw_1⟩ := hw_1
  replace hu_1 := hu_1.symm
  subst hu_1
  rcases hw_1 with ⟨rfl, ha_2⟩ | ⟨rfl, ha_2⟩
  · have hb_2 := hv 1 2 6 (by decide)
    have hj_2 : 0 ≤ x0.toInt ∧ x0.toInt ≤ 5 := ⟨by omega, by omega⟩
    refine lv_if_eq (tgt := 15) hx hb dX8_learns_5 (by decide) (fun c9 => absurd c9 (by decide)) (fun _ => ?_)
    refine lv_iload_n hx hb dX8_learns_8 rfl (lv_at hl 2 rfl) ?_
    refine yc_p hP hS (va_runS (As := [.int 1]) (rest := []) ⟨hx, hb, hml, hown, hts⟩ (c_X8_isSide l 1) (cwS 1 hts gX8_learns_X8_isSide rfl rfl rfl hd_S_X8_isSide_1 ⟨Nat.le_of_ble_eq_true rfl, Nat.le_of_ble_eq_true rfl⟩) ex_preP rfl rfl hl.1 rfl (lv_room (Nat.le_of_ble_eq_true rfl)) dX8_learns_9 ⟨Nat.le_of_ble_eq_true rfl, Nat.le_of_ble_eq_true rfl⟩) (fun r_3 H locs hw_3 hP hS => ?_)
    rcases wi_ca hw_3 with ⟨rfl, hc_4⟩ | ⟨rfl, hc_4⟩
    · have k_0 : (0 : Int32).toInt = 0 := by decide
      have k_1 : (1 : Int32).toInt = 1 := by decide
      have tc_4 := wi_tl hc_4
      refine lv_if_ne (tgt := 17) hx hb dX8_learns_12 (by decide) (fun _ => ?_) (fun c9 => absurd c9 (by decide))
      refine lv_iload_n hx hb dX8_learns_17 rfl (lv_at hl 3 rfl) ?_
      refine lv_iconst (v := 0) hx hb dX8_learns_18 (by decide) ?_
      refine lv_aload_n hx hb dX8_learns_19 rfl (lv_at hl 0 rfl) ?_
      refine va_get (D := (dC, dI)) (ci := 8) (v := .ref (ad 1)) (C := RX8) (T := TX8) (N := 11) hx hb hts iwX8_learns_X8 hown hK hP (0) (wm_at (by decide) rc_0) rfl 0 (by decide) (hts (.fieldLink RX8 7 "QuietStairsModel" "s" "[I") fwX8_learns_1) (fun _ h9 => h9) rfl dX8_learns_20 ?_
      refine lv_iload_n hx hb dX8_learns_23 rfl (lv_at hl 1 rfl) ?_
      refine lv_iconst (v := 4) hx hb dX8_learns_24 (by decide) ?_
      refine yc_p hP hS (va_runS (As := [.int x0, .int 4]) (rest := [.ref (ad 1), .int 0, .int x1]) ⟨hx, hb, hml, hown, hts⟩ (c_X8_at l x0 4) (cwS 2 hts gX8_learns_X8_at rfl rfl rfl hd_S_X8_at_2 ⟨Nat.le_of_ble_eq_true rfl, Nat.le_of_ble_eq_true rfl⟩) ex_preP rfl rfl hl.1 rfl (lv_room (Nat.le_of_ble_eq_true rfl)) dX8_learns_25 ⟨Nat.le_of_ble_eq_true rfl, Nat.le_of_ble_eq_true rfl⟩) (fun r_5 H locs hw_5 hP hS => ?_)
      have k_4 : (4 : Int32).toInt = 4 := by decide
      have tr_5 : r_5.toInt = 32 + 7 * x0.toInt + (4 : Int32).toInt := t_at hw_5 ⟨by omega, by omega⟩ ⟨by omega, by omega⟩
      have zn_x0 : (x0.toNatClampNeg : Int) = x0.toInt := t_nn (by omega)
      have nr_5 : r_5.toNatClampNeg = 36 + 7 * x0.toNatClampNeg := by have z1 := t_nn (x := r_5) (by omega); omega
      refine va_iald hx hb hK hP (1) 0 (wm_at (by decide) rc_1) rfl (vp_in_iff.mpr ⟨by omega, by omega⟩) dX8_learns_28 ?_
      refine lv_topi (fun x_6 ex_6 => ?_)
      have bzx_6 : 0 ≤ x_6.toInt ∧ x_6.toInt ≤ 5 := by rw [ex_6]; exact hv 1 _ 5 (bx_4 (i := x0.toInt) (s := 4) (by omega) ⟨by omega, by omega⟩ (by omega))
      rw [nr_5] at ex_6
      have qx_6 : x_6.toInt = (v 1 (36 + 7 * x0.toNatClampNeg)).toInt := congrArg Int32.toInt ex_6
      refine lv_iconst (v := 1) hx hb dX8_learns_29 (by decide) ?_
      refine lv_isub hx hb dX8_learns_30 ?_
      refine lv_topi (fun x_7 ex_7 => ?_)
      have tx_7 : x_7.toInt = x_6.toInt - (1 : Int32).toInt := by rw [ex_7]; exact t_sub ⟨by omega, by omega⟩
      refine yc_p hP hS (va_runS (As := [.int x1, .int 0, .int x_7]) (rest := []) ⟨hx, hb, hml, hown, hts⟩ (c_X8_in l x1 0 x_7) (cwS 3 hts gX8_learns_X8_in rfl rfl rfl hd_S_X8_in_3 ⟨Nat.le_of_ble_eq_true rfl, Nat.le_of_ble_eq_true rfl⟩) ex_preP rfl rfl hl.1 rfl (lv_room (Nat.le_of_ble_eq_true rfl)) dX8_learns_31 ⟨Nat.le_of_ble_eq_true rfl, Nat.le_of_ble_eq_true rfl⟩) (fun r_8 H locs hw_8 hP hS => ?_)
      rcases wi_ca hw_8 with ⟨rfl, hc_9⟩ | ⟨rfl, hc_9⟩
      · have tc_9 := wi_tl hc_9
        refine lv_if_ne (tgt := 40) hx hb dX8_learns_34 (by decide) (fun _ => ?_) (fun c9 => absurd c9 (by decide))
        have zn_x1 : (x1.toNatClampNeg : Int) = x1.toInt := t_nn (by omega)
        obtain ⟨d1, d2, -, -⟩ := (hO x0.toNatClampNeg (by omega) (by omega)).2.2.1.2 x1.toNatClampNeg (by omega) (by omega)
        obtain ⟨own, eown⟩ : ∃ z : Int32, z = v 1 (87 + 10 * x0.toNatClampNeg + 2 * x1.toNatClampNeg) := ⟨_, rfl⟩
        have hbown : 0 ≤ own.toInt ∧ own.toInt ≤ 100 := by rw [eown]; exact d2
        obtain ⟨oth, eoth⟩ : ∃ z : Int32, z = v 1 (86 + 10 * x0.toNatClampNeg + 2 * x1.toNatClampNeg) := ⟨_, rfl⟩
        have hboth : 0 ≤ oth.toInt ∧ oth.toInt ≤ 100 := by rw [eoth]; exact d1
        refine lv_aload_n hx hb dX8_learns_40 rfl (lv_at hl 0 rfl) ?_
        refine va_get (D := (dC, dI)) (ci := 8) (v := .ref (ad 1)) (C := RX8) (T := TX8) (N := 11) hx hb hts iwX8_learns_X8 hown hK hP (0) (wm_at (by decide) rc_0) rfl 0 (by decide) (hts (.fieldLink RX8 7 "QuietStairsModel" "s" "[I") fwX8_learns_1) (fun _ h9 => h9) rfl dX8_learns_41 ?_
        refine lv_bipush (v := 86) hx hb dX8_learns_44 (by decide) ?_
        refine lv_bipush (v := 10) hx hb dX8_learns_46 (by decide) ?_
        refine lv_iload_n hx hb dX8_learns_48 rfl (lv_at hl 1 rfl) ?_
        refine lv_imul hx hb dX8_learns_49 ?_
        refine lv_topi (fun x_10 ex_10 => ?_)
        have k_10 : (10 : Int32).toInt = 10 := by decide
        have tx_10 : x_10.toInt = 10 * x0.toInt := by rw [ex_10, t_mul (by rw [k_10]; omega), k_10]
        refine lv_iadd hx hb dX8_learns_50 ?_
        refine lv_topi (fun x_11 ex_11 => ?_)
        have k_86 : (86 : Int32).toInt = 86 := by decide
        have tx_11 : x_11.toInt = (86 : Int32).toInt + x_10.toInt := by rw [ex_11]; exact t_add ⟨by omega, by omega⟩
        refine lv_iconst (v := 2) hx hb dX8_learns_51 (by decide) ?_
        refine lv_iload_n hx hb dX8_learns_52 rfl (lv_at hl 3 rfl) ?_
        refine lv_imul hx hb dX8_learns_53 ?_
        refine lv_topi (fun x_12 ex_12 => ?_)
        have k_2 : (2 : Int32).toInt = 2 := by decide
        have tx_12 : x_12.toInt = 2 * x1.toInt := by rw [ex_12, t_mul (by rw [k_2]; omega), k_2]
        refine lv_iadd hx hb dX8_learns_54 ?_
        refine lv_topi (fun x_13 ex_13 => ?_)
        have tx_13 : x_13.toInt = x_11.toInt + x_12.toInt := by rw [ex_13]; exact t_add ⟨by omega, by omega⟩
        refine lv_iload_n hx hb dX8_learns_55 rfl (lv_at hl 2 rfl) ?_
        refine lv_iadd hx hb dX8_learns_56 ?_
        refine lv_topi (fun x_14 ex_14 => ?_)
        have tx_14 : x_14.toInt = x_13.toInt + (1 : Int32).toInt := by rw [ex_14]; exact t_add ⟨by omega, by omega⟩
        have nx_14 : x_14.toNatClampNeg = 87 + 10 * x0.toNatClampNeg + 2 * x1.toNatClampNeg := by have z1 := t_nn (x := x_14) (by omega); omega
        refine va_iald hx hb hK hP (1) 0 (wm_at (by decide) rc_1) rfl (vp_in_iff.mpr ⟨by omega, by omega⟩) dX8_learns_57 ?_
        refine lv_topi (fun x_15 ex_15 => ?_)
        rw [nx_14] at ex_15
        obtain rfl : own = x_15 := (ex_15.trans eown.symm).symm
        refine lv_istore (lv' := [(5, .int own), (0, .ref (ad 0)), (1, .int x0), (2, .int 1), (3, .int x1), (4, .int 0)]) hx hb dX8_learns_58 hl (by decide) rfl (fun ls hl => ?_)
        refine lv_aload_n hx hb dX8_learns_60 rfl (lv_at hl 1 rfl) ?_
        refine va_get (D := (dC, dI)) (ci := 8) (v := .ref (ad 1)) (C := RX8) (T := TX8) (N := 11) hx hb hts iwX8_learns_X8 hown hK hP (0) (wm_at (by decide) rc_0) rfl 0 (by decide) (hts (.fieldLink RX8 7 "QuietStairsModel" "s" "[I") fwX8_learns_1) (fun _ h9 => h9) rfl dX8_learns_61 ?_
        refine lv_bipush (v := 86) hx hb dX8_learns_64 (by decide) ?_
        refine lv_bipush (v := 10) hx hb dX8_learns_66 (by decide) ?_
        refine lv_iload_n hx hb dX8_learns_68 rfl (lv_at hl 2 rfl) ?_
        refine lv_imul hx hb dX8_learns_69 ?_
        refine lv_topi (fun x_16 ex_16 => ?_)
        obtain rfl : x_10 = x_16 := ex_10.trans ex_16.symm
        refine lv_iadd hx hb dX8_learns_70 ?_
        refine lv_topi (fun x_17 ex_17 => ?_)
        obtain rfl : x_11 = x_17 := ex_11.trans ex_17.symm
        refine lv_iconst (v := 2) hx hb dX8_learns_71 (by decide) ?_
        refine lv_iload_n hx hb dX8_learns_72 rfl (lv_at hl 4 rfl) ?_
        refine lv_imul hx hb dX8_learns_73 ?_
        refine lv_topi (fun x_18 ex_18 => ?_)
        obtain rfl : x_12 = x_18 := ex_12.trans ex_18.symm
        refine lv_iadd hx hb dX8_learns_74 ?_
        refine lv_topi (fun x_19 ex_19 => ?_)
        obtain rfl : x_13 = x_19 := ex_13.trans ex_19.symm
        refine lv_iconst (v := 1) hx hb dX8_learns_75 (by decide) ?_
        refine lv_iadd hx hb dX8_learns_76 ?_
        refine lv_topi (fun x_20 ex_20 => ?_)
        obtain rfl : x_14 = x_20 := ex_14.trans ex_20.symm
        refine lv_iload_n hx hb dX8_learns_77 rfl (lv_at hl 3 rfl) ?_
        refine lv_isub hx hb dX8_learns_78 ?_
        refine lv_topi (fun x_21 ex_21 => ?_)
        have tx_21 : x_21.toInt = x_14.toInt - (1 : Int32).toInt := by rw [ex_21]; exact t_sub ⟨by omega, by omega⟩
        have nx_21 : x_21.toNatClampNeg = 86 + 10 * x0.toNatClampNeg + 2 * x1.toNatClampNeg := by have z1 := t_nn (x := x_21) (by omega); omega
        refine va_iald hx hb hK hP (1) 0 (wm_at (by decide) rc_1) rfl (vp_in_iff.mpr ⟨by omega, by omega⟩) dX8_learns_79 ?_
        refine lv_topi (fun x_22 ex_22 => ?_)
        rw [nx_21] at ex_22
        obtain rfl : oth = x_22 := (ex_22.trans eoth.symm).symm
        refine lv_istore (lv' := [(6, .int oth), (5, .int own), (0, .ref (ad 0)), (1, .int x0), (2, .int 1), (3, .int x1), (4, .int 0)]) hx hb dX8_learns_80 hl (by decide) rfl (fun ls hl => ?_)
        refine lv_iload_n hx hb dX8_learns_82 rfl (lv_at hl 4 rfl) ?_
        refine lv_if_ne (tgt := 91) hx hb dX8_learns_83 (by decide) (fun _ => ?_) (fun c9 => absurd c9 (by decide))
        refine lv_iload hx hb dX8_learns_91 (lv_at hl 0 rfl) ?_
        refine lv_istore (lv' := [(7, .int oth), (6, .int oth), (5, .int own), (0, .ref (ad 0)), (1, .int x0), (2, .int 1), (3, .int x1), (4, .int 0)]) hx hb dX8_learns_93 hl (by decide) rfl (fun ls hl => ?_)
        refine lv_iload_n hx hb dX8_learns_95 rfl (lv_at hl 5 rfl) ?_
        refine lv_if_ne (tgt := 104) hx hb dX8_learns_96 (by decide) (fun _ => ?_) (fun c9 => absurd c9 (by decide))
        refine lv_iload hx hb dX8_learns_104 (lv_at hl 2 rfl) ?_
        refine lv_istore (lv' := [(8, .int own), (7, .int oth), (6, .int oth), (5, .int own), (0, .ref (ad 0)), (1, .int x0), (2, .int 1), (3, .int x1), (4, .int 0)]) hx hb dX8_learns_106 hl (by decide) rfl (fun ls hl => ?_)
        refine lv_bipush (v := (-5)) hx hb dX8_learns_108 (by decide) ?_
        refine lv_istore (lv' := [(9, .int (-5)), (8, .int own), (7, .int oth), (6, .int oth), (5, .int own), (0, .ref (ad 0)), (1, .int x0), (2, .int 1), (3, .int x1), (4, .int 0)]) hx hb dX8_learns_110 hl (by decide) rfl (fun ls hl => ?_)
        refine lv_iconst (v := 0) hx hb dX8_learns_112 (by decide) ?_
        refine lv_istore (lv' := [(10, .int 0), (9, .int (-5)), (8, .int own), (7, .int oth), (6, .int oth), (5, .int own), (0, .ref (ad 0)), (1, .int x0), (2, .int 1), (3, .int x1), (4, .int 0)]) hx hb dX8_learns_113 hl (by decide) rfl (fun ls hl => ?_)
        have hc_23 : ∀ (n : Nat) (y23_10 y23_9 : Int32) (H : Heap) (locs : List Loc), 0 ≤ y23_10.toInt → y23_10.toInt ≤ 101 → -5 ≤ y23_9.toInt → y23_9.toInt ≤ 100 → (lkI 1 0 own.toInt oth.toInt y23_10.toInt y23_9.toInt) → (101 - y23_10.toInt).toNat < n → va_P (dC, dI) vwCl (wm ad cy v) H → va_D A (wm ad cy v) → va_S A s.heap H locs → ∀ ls : Array Slot, lv_has ls 14 [(10, .int y23_10), (9, .int y23_9), (8, .int own), (7, .int oth), (6, .int oth), (5, .int own), (0, .ref (ad 0)), (1, .int x0), (2, .int 1), (3, .int x1), (4, .int 0)] → W p l e (headSpec wsX8_learns ({ frames := 2, cells := 0, slots := 0, locals := 128 })).room s m [Value.ref (ad 0), Value.int x0, Value.int 1, Value.int x1, Value.int 0].toArray below meth c H locs 0 0 (MQ below (va_Qi (fun (r : Int32) (u : Nat → Nat → Int32) => Ir u ∧ (¬ (0 ≤ x0.toInt ∧ x0.toInt < (v 1 2).toInt) → r = -1 ∧ u = v) ∧ ((0 ≤ x0.toInt ∧ x0.toInt < (v 1 2).toInt) ∧ ¬ (0 ≤ x1.toInt ∧ x1.toInt < (v 1 (36 + 7 * x0.toNatClampNeg)).toInt) → r = -5 ∧ u = v) ∧ (((0 ≤ x0.toInt ∧ x0.toInt < (v 1 2).toInt) ∧ (0 ≤ x1.toInt ∧ x1.toInt < (v 1 (36 + 7 * x0.toNatClampNeg)).toInt)) → lkR 1 0 (v 1 (87 + 10 * x0.toNatClampNeg + 2 * x1.toNatClampNeg)).toInt (v 1 (86 + 10 * x0.toNatClampNeg + 2 * x1.toNatClampNeg)).toInt r.toInt ∧ u = v)) (fun u t => ex_Pst dC dI A (wm ad cy u) t) A) [Value.ref (ad 0), Value.int x0, Value.int 1, Value.int x1, Value.int 0].toArray s 0 0 A) (F0 m 115 ls []) := by
          intro n
          induction n with
          | zero =>
            intro y23_10 y23_9 H locs ay23_10 by23_10 ay23_9 by23_9 hi23_0 hm_23 hP hD hS ls hl
            exact absurd hm_23 (by omega)
          | succ n ih_23 =>
            intro y23_10 y23_9 H locs ay23_10 by23_10 ay23_9 by23_9 hi23_0 hm_23 hP hD hS ls hl
            refine lv_iload hx hb dX8_learns_115 (lv_at hl 0 rfl) ?_
            refine lv_bipush (v := 100) hx hb dX8_learns_117 (by decide) ?_
            have k_100 : (100 : Int32).toInt = 100 := by decide
            refine lv_icmp_gt (tgt := 231) hx hb dX8_learns_119 (by decide) (fun c_24 => ?_) (fun c_24 => ?_)
            · have tc_24 : y23_10.toInt > (100 : Int32).toInt := Int32.lt_iff_toInt_lt.mp c_24
              refine lv_iload hx hb dX8_learns_231 (lv_at hl 1 rfl) ?_
              have hpost : (¬ (0 ≤ x0.toInt ∧ x0.toInt < (v 1 2).toInt) → y23_9 = -1 ∧ v = v) ∧ ((0 ≤ x0.toInt ∧ x0.toInt < (v 1 2).toInt) ∧ ¬ (0 ≤ x1.toInt ∧ x1.toInt < (v 1 (36 + 7 * x0.toNatClampNeg)).toInt) → y23_9 = -5 ∧ v = v) ∧ (((0 ≤ x0.toInt ∧ x0.toInt < (v 1 2).toInt) ∧ (0 ≤ x1.toInt ∧ x1.toInt < (v 1 (36 + 7 * x0.toNatClampNeg)).toInt)) → lkR 1 0 (v 1 (87 + 10 * x0.toNatClampNeg + 2 * x1.toNatClampNeg)).toInt (v 1 (86 + 10 * x0.toNatClampNeg + 2 * x1.toNatClampNeg)).toInt y23_9.toInt ∧ v = v) := by
                refine ⟨fun hq => ?_, fun hq => ?_, fun hq => ?_⟩
                · exfalso; omega
                · exfalso; omega
                · rw [← eown, ← eoth]; exact ⟨lkI_end (by omega) hi23_0 hboth (by omega), rfl⟩
              exact W.iret (v := y23_9) hx hb hr (fun t ht hW => ⟨⟨y23_9, v, rfl, ⟨hv, hpost⟩, by rw [ht]; exact hP, hD⟩, hS.F ht⟩) hS.2.2 dX8_learns_233
            · have tc_24 : y23_10.toInt ≤ (100 : Int32).toInt := Int32.le_iff_toInt_le.mp (Int32.not_lt.mp c_24)
              refine lv_iload_n hx hb dX8_learns_122 rfl (lv_at hl 8 rfl) ?_
              refine lv_if_ne (tgt := 131) hx hb dX8_learns_123 (by decide) (fun _ => ?_) (fun c9 => absurd c9 (by decide))
              refine lv_iload hx hb dX8_learns_131 (lv_at hl 0 rfl) ?_
              refine lv_istore (lv' := [(11, .int y23_10), (10, .int y23_10), (9, .int y23_9), (8, .int own), (7, .int oth), (6, .int oth), (5, .int own), (0, .ref (ad 0)), (1, .int x0), (2, .int 1), (3, .int x1), (4, .int 0)]) hx hb dX8_learns_133 hl (by decide) rfl (fun ls hl => ?_)
              refine lv_iload_n hx hb dX8_learns_135 rfl (lv_at hl 9 rfl) ?_
              refine lv_if_ne (tgt := 144) hx hb dX8_learns_136 (by decide) (fun _ => ?_) (fun c9 => absurd c9 (by decide))
              refine lv_iload hx hb dX8_learns_144 (lv_at hl 6 rfl) ?_
              refine lv_istore (lv' := [(12, .int own), (11, .int y23_10), (10, .int y23_10), (9, .int y23_9), (8, .int own), (7, .int oth), (6, .int oth), (5, .int own), (0, .ref (ad 0)), (1, .int x0), (2, .int 1), (3, .int x1), (4, .int 0)]) hx hb dX8_learns_146 hl (by decide) rfl (fun ls hl => ?_)
              refine lv_iload hx hb dX8_learns_148 (lv_at hl 4 rfl) ?_
              refine lv_iload hx hb dX8_learns_150 (lv_at hl 5 rfl) ?_
              refine lv_icmp_ge (tgt := 170) hx hb dX8_learns_152 (by decide) (fun c_25 => ?_) (fun c_25 => ?_)
              · have tc_25 : own.toInt ≥ oth.toInt := Int32.le_iff_toInt_le.mp c_25
                refine lv_iload hx hb dX8_learns_170 (lv_at hl 0 rfl) ?_
                refine lv_iload hx hb dX8_learns_172 (lv_at hl 1 rfl) ?_
                refine lv_icmp_lt (tgt := 198) hx hb dX8_learns_174 (by decide) (fun c_26 => ?_) (fun c_26 => ?_)
                · have tc_26 : own.toInt < y23_10.toInt := Int32.lt_iff_toInt_lt.mp c_26
                  refine lv_iconst (v := 0) hx hb dX8_learns_198 (by decide) ?_
                  refine lv_istore (lv' := [(13, .int 0), (12, .int own), (11, .int y23_10), (10, .int y23_10), (9, .int y23_9), (8, .int own), (7, .int oth), (6, .int oth), (5, .int own), (0, .ref (ad 0)), (1, .int x0), (2, .int 1), (3, .int x1), (4, .int 0)]) hx hb dX8_learns_199 hl (by decide) rfl (fun ls hl => ?_)
                  refine lv_iload hx hb dX8_learns_201 (lv_at hl 0 rfl) ?_
                  refine lv_if_eq (tgt := 221) hx hb dX8_learns_203 (by decide) (fun _ => ?_) (fun c9 => absurd c9 (by decide))
                  refine lv_iload hx hb dX8_learns_221 (lv_at hl 4 rfl) ?_
                  refine lv_istore (lv' := [(9, .int y23_9), (13, .int 0), (12, .int own), (11, .int y23_10), (10, .int y23_10), (8, .int own), (7, .int oth), (6, .int oth), (5, .int own), (0, .ref (ad 0)), (1, .int x0), (2, .int 1), (3, .int x1), (4, .int 0)]) hx hb dX8_learns_223 hl (by decide) rfl (fun ls hl => ?_)
                  obtain ⟨x_27, ex_27⟩ : ∃ y : Int32, y = y23_10 + 1 := ⟨_, rfl⟩
                  refine lv_iinc (v := x_27) (lv' := [(10, .int x_27), (9, .int y23_9), (13, .int 0), (12, .int own), (11, .int y23_10), (8, .int own), (7, .int oth), (6, .int oth), (5, .int own), (0, .ref (ad 0)), (1, .int x0), (2, .int 1), (3, .int x1), (4, .int 0)]) hx hb dX8_learns_225 hl (k := 4) rfl (by rw [ex_27]; rfl) (by decide) rfl (fun ls hl => ?_)
                  have tx_27 : x_27.toInt = y23_10.toInt + (1 : Int32).toInt := by rw [ex_27]; exact t_add ⟨by omega, by omega⟩
                  refine lv_goto (tgt := 115) hx hb dX8_learns_228 (by decide) ?_
                  exact ih_23 x_27 y23_9 _ _ (by omega) (by omega) (by omega) (by omega) (lkI_no (by omega) hi23_0 (by unfold lke; omega)) (by omega) hP hD hS ls (lv_sub hl [0, 1, 5, 6, 7, 8, 9, 10, 11, 12, 13] rfl)
                · have tc_26 : own.toInt ≥ y23_10.toInt := Int32.le_iff_toInt_le.mp (Int32.not_lt.mp c_26)
                  refine lv_iload hx hb dX8_learns_177 (lv_at hl 1 rfl) ?_
                  refine lv_iload hx hb dX8_learns_179 (lv_at hl 0 rfl) ?_
                  refine lv_iadd hx hb dX8_learns_181 ?_
                  refine lv_topi (fun x_27 ex_27 => ?_)
                  have tx_27 : x_27.toInt = y23_10.toInt + own.toInt := by rw [ex_27]; exact t_add ⟨by omega, by omega⟩
                  refine lv_iconst (v := 2) hx hb dX8_learns_182 (by decide) ?_
                  refine lv_idiv hx hb dX8_learns_183 (by decide) ?_
                  refine lv_topi (fun x_28 ex_28 => ?_)
                  have tx_28 : x_28.toInt = x_27.toInt / 2 := by rw [ex_28]; exact t_half (by omega)
                  refine lv_iload hx hb dX8_learns_184 (lv_at hl 5 rfl) ?_
                  refine lv_iload hx hb dX8_learns_186 (lv_at hl 4 rfl) ?_
                  refine lv_iadd hx hb dX8_learns_188 ?_
                  refine lv_topi (fun x_29 ex_29 => ?_)
                  have tx_29 : x_29.toInt = oth.toInt + own.toInt := by rw [ex_29]; exact t_add ⟨by omega, by omega⟩
                  refine lv_iconst (v := 2) hx hb dX8_learns_189 (by decide) ?_
                  refine lv_idiv hx hb dX8_learns_190 (by decide) ?_
                  refine lv_topi (fun x_30 ex_30 => ?_)
                  have tx_30 : x_30.toInt = x_29.toInt / 2 := by rw [ex_30]; exact t_half (by omega)
                  refine lv_icmp_ne (tgt := 198) hx hb dX8_learns_191 (by decide) (fun c_31 => ?_) (fun c_31 => ?_)
                  · have tc_31 : x_28.toInt ≠ x_30.toInt := fun q => absurd (Int32.toInt_inj.mp q) c_31
                    refine lv_iconst (v := 0) hx hb dX8_learns_198 (by decide) ?_
                    refine lv_istore (lv' := [(13, .int 0), (12, .int own), (11, .int y23_10), (10, .int y23_10), (9, .int y23_9), (8, .int own), (7, .int oth), (6, .int oth), (5, .int own), (0, .ref (ad 0)), (1, .int x0), (2, .int 1), (3, .int x1), (4, .int 0)]) hx hb dX8_learns_199 hl (by decide) rfl (fun ls hl => ?_)
                    refine lv_iload hx hb dX8_learns_201 (lv_at hl 0 rfl) ?_
                    refine lv_if_eq (tgt := 221) hx hb dX8_learns_203 (by decide) (fun _ => ?_) (fun c9 => absurd c9 (by decide))
                    refine lv_iload hx hb dX8_learns_221 (lv_at hl 4 rfl) ?_
                    refine lv_istore (lv' := [(9, .int y23_9), (13, .int 0), (12, .int own), (11, .int y23_10), (10, .int y23_10), (8, .int own), (7, .int oth), (6, .int oth), (5, .int own), (0, .ref (ad 0)), (1, .int x0), (2, .int 1), (3, .int x1), (4, .int 0)]) hx hb dX8_learns_223 hl (by decide) rfl (fun ls hl => ?_)
                    obtain ⟨x_32, ex_32⟩ : ∃ y : Int32, y = y23_10 + 1 := ⟨_, rfl⟩
                    refine lv_iinc (v := x_32) (lv' := [(10, .int x_32), (9, .int y23_9), (13, .int 0), (12, .int own), (11, .int y23_10), (8, .int own), (7, .int oth), (6, .int oth), (5, .int own), (0, .ref (ad 0)), (1, .int x0), (2, .int 1), (3, .int x1), (4, .int 0)]) hx hb dX8_learns_225 hl (k := 4) rfl (by rw [ex_32]; rfl) (by decide) rfl (fun ls hl => ?_)
                    have tx_32 : x_32.toInt = y23_10.toInt + (1 : Int32).toInt := by rw [ex_32]; exact t_add ⟨by omega, by omega⟩
                    refine lv_goto (tgt := 115) hx hb dX8_learns_228 (by decide) ?_
                    exact ih_23 x_32 y23_9 _ _ (by omega) (by omega) (by omega) (by omega) (lkI_no (by omega) hi23_0 (by unfold lke; omega)) (by omega) hP hD hS ls (lv_sub hl [0, 1, 5, 6, 7, 8, 9, 10, 11, 12, 13] rfl)
                  · have tc_31 : x_28.toInt = x_30.toInt := by rw [c_31]
                    refine lv_iconst (v := 1) hx hb dX8_learns_194 (by decide) ?_
                    refine lv_goto (tgt := 199) hx hb dX8_learns_195 (by decide) ?_
                    refine lv_istore (lv' := [(13, .int 1), (12, .int own), (11, .int y23_10), (10, .int y23_10), (9, .int y23_9), (8, .int own), (7, .int oth), (6, .int oth), (5, .int own), (0, .ref (ad 0)), (1, .int x0), (2, .int 1), (3, .int x1), (4, .int 0)]) hx hb dX8_learns_199 hl (by decide) rfl (fun ls hl => ?_)
                    refine lv_iload hx hb dX8_learns_201 (lv_at hl 0 rfl) ?_
                    refine lv_if_eq (tgt := 221) hx hb dX8_learns_203 (by decide) (fun c9 => absurd c9 (by decide)) (fun _ => ?_)
                    refine lv_iload hx hb dX8_learns_206 (lv_at hl 4 rfl) ?_
                    refine lv_if_lt (tgt := 216) hx hb dX8_learns_208 (by decide) (fun c_32 => ?_) (fun c_32 => ?_)
                    · have tc_32 : y23_9.toInt < (0 : Int32).toInt := Int32.lt_iff_toInt_lt.mp c_32
                      refine lv_iload hx hb dX8_learns_216 (lv_at hl 3 rfl) ?_
                      refine lv_goto (tgt := 223) hx hb dX8_learns_218 (by decide) ?_
                      refine lv_istore (lv' := [(9, .int y23_10), (13, .int 1), (12, .int own), (11, .int y23_10), (10, .int y23_10), (8, .int own), (7, .int oth), (6, .int oth), (5, .int own), (0, .ref (ad 0)), (1, .int x0), (2, .int 1), (3, .int x1), (4, .int 0)]) hx hb dX8_learns_223 hl (by decide) rfl (fun ls hl => ?_)
                      obtain ⟨x_33, ex_33⟩ : ∃ y : Int32, y = y23_10 + 1 := ⟨_, rfl⟩
                      refine lv_iinc (v := x_33) (lv' := [(10, .int x_33), (9, .int y23_10), (13, .int 1), (12, .int own), (11, .int y23_10), (8, .int own), (7, .int oth), (6, .int oth), (5, .int own), (0, .ref (ad 0)), (1, .int x0), (2, .int 1), (3, .int x1), (4, .int 0)]) hx hb dX8_learns_225 hl (k := 4) rfl (by rw [ex_33]; rfl) (by decide) rfl (fun ls hl => ?_)
                      have tx_33 : x_33.toInt = y23_10.toInt + (1 : Int32).toInt := by rw [ex_33]; exact t_add ⟨by omega, by omega⟩
                      refine lv_goto (tgt := 115) hx hb dX8_learns_228 (by decide) ?_
                      exact ih_23 x_33 y23_10 _ _ (by omega) (by omega) (by omega) (by omega) (lkI_new (by omega) (by omega) hi23_0 (by unfold lke; omega) (by omega)) (by omega) hP hD hS ls (lv_sub hl [0, 1, 5, 6, 7, 8, 9, 10, 11, 12, 13] rfl)
                    · have tc_32 : y23_9.toInt ≥ (0 : Int32).toInt := Int32.le_iff_toInt_le.mp (Int32.not_lt.mp c_32)
                      refine lv_iload hx hb dX8_learns_211 (lv_at hl 13 rfl) ?_
                      refine lv_if_eq (tgt := 221) hx hb dX8_learns_213 (by decide) (fun _ => ?_) (fun c9 => absurd c9 (by decide))
                      refine lv_iload hx hb dX8_learns_221 (lv_at hl 4 rfl) ?_
                      refine lv_istore (lv' := [(9, .int y23_9), (13, .int 1), (12, .int own), (11, .int y23_10), (10, .int y23_10), (8, .int own), (7, .int oth), (6, .int oth), (5, .int own), (0, .ref (ad 0)), (1, .int x0), (2, .int 1), (3, .int x1), (4, .int 0)]) hx hb dX8_learns_223 hl (by decide) rfl (fun ls hl => ?_)
                      obtain ⟨x_33, ex_33⟩ : ∃ y : Int32, y = y23_10 + 1 := ⟨_, rfl⟩
                      refine lv_iinc (v := x_33) (lv' := [(10, .int x_33), (9, .int y23_9), (13, .int 1), (12, .int own), (11, .int y23_10), (8, .int own), (7, .int oth), (6, .int oth), (5, .int own), (0, .ref (ad 0)), (1, .int x0), (2, .int 1), (3, .int x1), (4, .int 0)]) hx hb dX8_learns_225 hl (k := 4) rfl (by rw [ex_33]; rfl) (by decide) rfl (fun ls hl => ?_)
                      have tx_33 : x_33.toInt = y23_10.toInt + (1 : Int32).toInt := by rw [ex_33]; exact t_add ⟨by omega, by omega⟩
                      refine lv_goto (tgt := 115) hx hb dX8_learns_228 (by decide) ?_
                      exact ih_23 x_33 y23_9 _ _ (by omega) (by omega) (by omega) (by omega) (lkI_old (by omega) hi23_0 (by omega) rfl) (by omega) hP hD hS ls (lv_sub hl [0, 1, 5, 6, 7, 8, 9, 10, 11, 12, 13] rfl)
              · have tc_25 : own.toInt < oth.toInt := Int32.lt_iff_toInt_lt.mp (Int32.not_le.mp c_25)
                refine lv_iload hx hb dX8_learns_155 (lv_at hl 0 rfl) ?_
                refine lv_iload hx hb dX8_learns_157 (lv_at hl 1 rfl) ?_
                refine lv_icmp_ge (tgt := 166) hx hb dX8_learns_159 (by decide) (fun c_26 => ?_) (fun c_26 => ?_)
                · have tc_26 : own.toInt ≥ y23_10.toInt := Int32.le_iff_toInt_le.mp c_26
                  refine lv_iconst (v := 0) hx hb dX8_learns_166 (by decide) ?_
                  refine lv_goto (tgt := 199) hx hb dX8_learns_167 (by decide) ?_
                  refine lv_istore (lv' := [(13, .int 0), (12, .int own), (11, .int y23_10), (10, .int y23_10), (9, .int y23_9), (8, .int own), (7, .int oth), (6, .int oth), (5, .int own), (0, .ref (ad 0)), (1, .int x0), (2, .int 1), (3, .int x1), (4, .int 0)]) hx hb dX8_learns_199 hl (by decide) rfl (fun ls hl => ?_)
                  refine lv_iload hx hb dX8_learns_201 (lv_at hl 0 rfl) ?_
                  refine lv_if_eq (tgt := 221) hx hb dX8_learns_203 (by decide) (fun _ => ?_) (fun c9 => absurd c9 (by decide))
                  refine lv_iload hx hb dX8_learns_221 (lv_at hl 4 rfl) ?_
                  refine lv_istore (lv' := [(9, .int y23_9), (13, .int 0), (12, .int own), (11, .int y23_10), (10, .int y23_10), (8, .int own), (7, .int oth), (6, .int oth), (5, .int own), (0, .ref (ad 0)), (1, .int x0), (2, .int 1), (3, .int x1), (4, .int 0)]) hx hb dX8_learns_223 hl (by decide) rfl (fun ls hl => ?_)
                  obtain ⟨x_27, ex_27⟩ : ∃ y : Int32, y = y23_10 + 1 := ⟨_, rfl⟩
                  refine lv_iinc (v := x_27) (lv' := [(10, .int x_27), (9, .int y23_9), (13, .int 0), (12, .int own), (11, .int y23_10), (8, .int own), (7, .int oth), (6, .int oth), (5, .int own), (0, .ref (ad 0)), (1, .int x0), (2, .int 1), (3, .int x1), (4, .int 0)]) hx hb dX8_learns_225 hl (k := 4) rfl (by rw [ex_27]; rfl) (by decide) rfl (fun ls hl => ?_)
                  have tx_27 : x_27.toInt = y23_10.toInt + (1 : Int32).toInt := by rw [ex_27]; exact t_add ⟨by omega, by omega⟩
                  refine lv_goto (tgt := 115) hx hb dX8_learns_228 (by decide) ?_
                  exact ih_23 x_27 y23_9 _ _ (by omega) (by omega) (by omega) (by omega) (lkI_no (by omega) hi23_0 (by unfold lke; omega)) (by omega) hP hD hS ls (lv_sub hl [0, 1, 5, 6, 7, 8, 9, 10, 11, 12, 13] rfl)
                · have tc_26 : own.toInt < y23_10.toInt := Int32.lt_iff_toInt_lt.mp (Int32.not_le.mp c_26)
                  refine lv_iconst (v := 1) hx hb dX8_learns_162 (by decide) ?_
                  refine lv_goto (tgt := 199) hx hb dX8_learns_163 (by decide) ?_
                  refine lv_istore (lv' := [(13, .int 1), (12, .int own), (11, .int y23_10), (10, .int y23_10), (9, .int y23_9), (8, .int own), (7, .int oth), (6, .int oth), (5, .int own), (0, .ref (ad 0)), (1, .int x0), (2, .int 1), (3, .int x1), (4, .int 0)]) hx hb dX8_learns_199 hl (by decide) rfl (fun ls hl => ?_)
                  refine lv_iload hx hb dX8_learns_201 (lv_at hl 0 rfl) ?_
                  refine lv_if_eq (tgt := 221) hx hb dX8_learns_203 (by decide) (fun c9 => absurd c9 (by decide)) (fun _ => ?_)
                  refine lv_iload hx hb dX8_learns_206 (lv_at hl 4 rfl) ?_
                  refine lv_if_lt (tgt := 216) hx hb dX8_learns_208 (by decide) (fun c_27 => ?_) (fun c_27 => ?_)
                  · have tc_27 : y23_9.toInt < (0 : Int32).toInt := Int32.lt_iff_toInt_lt.mp c_27
                    refine lv_iload hx hb dX8_learns_216 (lv_at hl 3 rfl) ?_
                    refine lv_goto (tgt := 223) hx hb dX8_learns_218 (by decide) ?_
                    refine lv_istore (lv' := [(9, .int y23_10), (13, .int 1), (12, .int own), (11, .int y23_10), (10, .int y23_10), (8, .int own), (7, .int oth), (6, .int oth), (5, .int own), (0, .ref (ad 0)), (1, .int x0), (2, .int 1), (3, .int x1), (4, .int 0)]) hx hb dX8_learns_223 hl (by decide) rfl (fun ls hl => ?_)
                    obtain ⟨x_28, ex_28⟩ : ∃ y : Int32, y = y23_10 + 1 := ⟨_, rfl⟩
                    refine lv_iinc (v := x_28) (lv' := [(10, .int x_28), (9, .int y23_10), (13, .int 1), (12, .int own), (11, .int y23_10), (8, .int own), (7, .int oth), (6, .int oth), (5, .int own), (0, .ref (ad 0)), (1, .int x0), (2, .int 1), (3, .int x1), (4, .int 0)]) hx hb dX8_learns_225 hl (k := 4) rfl (by rw [ex_28]; rfl) (by decide) rfl (fun ls hl => ?_)
                    have tx_28 : x_28.toInt = y23_10.toInt + (1 : Int32).toInt := by rw [ex_28]; exact t_add ⟨by omega, by omega⟩
                    refine lv_goto (tgt := 115) hx hb dX8_learns_228 (by decide) ?_
                    exact ih_23 x_28 y23_10 _ _ (by omega) (by omega) (by omega) (by omega) (lkI_new (by omega) (by omega) hi23_0 (by unfold lke; omega) (by omega)) (by omega) hP hD hS ls (lv_sub hl [0, 1, 5, 6, 7, 8, 9, 10, 11, 12, 13] rfl)
                  · have tc_27 : y23_9.toInt ≥ (0 : Int32).toInt := Int32.le_iff_toInt_le.mp (Int32.not_lt.mp c_27)
                    refine lv_iload hx hb dX8_learns_211 (lv_at hl 13 rfl) ?_
                    refine lv_if_eq (tgt := 221) hx hb dX8_learns_213 (by decide) (fun _ => ?_) (fun c9 => absurd c9 (by decide))
                    refine lv_iload hx hb dX8_learns_221 (lv_at hl 4 rfl) ?_
                    refine lv_istore (lv' := [(9, .int y23_9), (13, .int 1), (12, .int own), (11, .int y23_10), (10, .int y23_10), (8, .int own), (7, .int oth), (6, .int oth), (5, .int own), (0, .ref (ad 0)), (1, .int x0), (2, .int 1), (3, .int x1), (4, .int 0)]) hx hb dX8_learns_223 hl (by decide) rfl (fun ls hl => ?_)
                    obtain ⟨x_28, ex_28⟩ : ∃ y : Int32, y = y23_10 + 1 := ⟨_, rfl⟩
                    refine lv_iinc (v := x_28) (lv' := [(10, .int x_28), (9, .int y23_9), (13, .int 1), (12, .int own), (11, .int y23_10), (8, .int own), (7, .int oth), (6, .int oth), (5, .int own), (0, .ref (ad 0)), (1, .int x0), (2, .int 1), (3, .int x1), (4, .int 0)]) hx hb dX8_learns_225 hl (k := 4) rfl (by rw [ex_28]; rfl) (by decide) rfl (fun ls hl => ?_)
                    have tx_28 : x_28.toInt = y23_10.toInt + (1 : Int32).toInt := by rw [ex_28]; exact t_add ⟨by omega, by omega⟩
                    refine lv_goto (tgt := 115) hx hb dX8_learns_228 (by decide) ?_
                    exact ih_23 x_28 y23_9 _ _ (by omega) (by omega) (by omega) (by omega) (lkI_old (by omega) hi23_0 (by omega) rfl) (by omega) hP hD hS ls (lv_sub hl [0, 1, 5, 6, 7, 8, 9, 10, 11, 12, 13] rfl)
        have k_m5 : ((-5) : Int32).toInt = -5 := by decide
        exact hc_23 ((101 - (0 : Int32).toInt).toNat + 1) 0 (-5) _ _ (by omega) (by omega) (by omega) (by omega) (lkI_0 (by omega) (by omega)) (by omega) hP hD hS ls (lv_sub hl [0, 1, 2, 3, 4, 5, 6, 7, 8, 9, 10] rfl)
      · have tc_9 : ¬ ((0 : Int32).toInt ≤ x1.toInt ∧ x1.toInt ≤ x_7.toInt) := fun q => hc_9 ⟨Int32.le_iff_toInt_le.mpr q.1, Int32.le_iff_toInt_le.mpr q.2⟩
        refine lv_if_ne (tgt := 40) hx hb dX8_learns_34 (by decide) (fun c9 => absurd c9 (by decide)) (fun _ => ?_)
        refine lv_bipush (v := (-5)) hx hb dX8_learns_37 (by decide) ?_
        have hpost : (¬ (0 ≤ x0.toInt ∧ x0.toInt < (v 1 2).toInt) → ((-5) : Int32) = -1 ∧ v = v) ∧ ((0 ≤ x0.toInt ∧ x0.toInt < (v 1 2).toInt) ∧ ¬ (0 ≤ x1.toInt ∧ x1.toInt < (v 1 (36 + 7 * x0.toNatClampNeg)).toInt) → ((-5) : Int32) = -5 ∧ v = v) ∧ (((0 ≤ x0.toInt ∧ x0.toInt < (v 1 2).toInt) ∧ (0 ≤ x1.toInt ∧ x1.toInt < (v 1 (36 + 7 * x0.toNatClampNeg)).toInt)) → lkR 1 0 (v 1 (87 + 10 * x0.toNatClampNeg + 2 * x1.toNatClampNeg)).toInt (v 1 (86 + 10 * x0.toNatClampNeg + 2 * x1.toNatClampNeg)).toInt ((-5) : Int32).toInt ∧ v = v) := by
          refine ⟨fun hq => ?_, fun hq => ?_, fun hq => ?_⟩
          · exfalso; omega
          · exact ⟨rfl, rfl⟩
          · exfalso; omega
        exact W.iret (v := (-5)) hx hb hr (fun t ht hW => ⟨⟨(-5), v, rfl, ⟨hv, hpost⟩, by rw [ht]; exact hP, hD⟩, hS.F ht⟩) hS.2.2 dX8_learns_39
    · have k_0 : (0 : Int32).toInt = 0 := by decide
      have k_1 : (1 : Int32).toInt = 1 := by decide
      have tc_4 : ¬ ((0 : Int32).toInt ≤ (1 : Int32).toInt ∧ (1 : Int32).toInt ≤ (1 : Int32).toInt) := fun q => hc_4 ⟨Int32.le_iff_toInt_le.mpr q.1, Int32.le_iff_toInt_le.mpr q.2⟩
      refine lv_if_ne (tgt := 17) hx hb dX8_learns_12 (by decide) (fun c9 => absurd c9 (by decide)) (fun _ => ?_)
      refine lv_iconst (v := (-1)) hx hb dX8_learns_15 (by decide) ?_
      have hpost : (¬ (0 ≤ x0.toInt ∧ x0.toInt < (v 1 2).toInt) → ((-1) : Int32) = -1 ∧ v = v) ∧ ((0 ≤ x0.toInt ∧ x0.toInt < (v 1 2).toInt) ∧ ¬ (0 ≤ x1.toInt ∧ x1.toInt < (v 1 (36 + 7 * x0.toNatClampNeg)).toInt) → ((-1) : Int32) = -5 ∧ v = v) ∧ (((0 ≤ x0.toInt ∧ x0.toInt < (v 1 2).toInt) ∧ (0 ≤ x1.toInt ∧ x1.toInt < (v 1 (36 + 7 * x0.toNatClampNeg)).toInt)) → lkR 1 0 (v 1 (87 + 10 * x0.toNatClampNeg + 2 * x1.toNatClampNeg)).toInt (v 1 (86 + 10 * x0.toNatClampNeg + 2 * x1.toNatClampNeg)).toInt ((-1) : Int32).toInt ∧ v = v) := by
        refine ⟨fun hq => ?_, fun hq => ?_, fun hq => ?_⟩
        · exact ⟨rfl, rfl⟩
        · exfalso; omega
        · exfalso; omega
      exact W.iret (v := (-1)) hx hb hr (fun t ht hW => ⟨⟨(-1), v, rfl, ⟨hv, hpost⟩, by rw [ht]; exact hP, hD⟩, hS.F ht⟩) hS.2.2 dX8_learns_16
  · refine lv_if_eq (tgt := 15) hx hb dX8_learns_5 (by decide) (fun _ => ?_) (fun c9 => absurd c9 (by decide))
    refine lv_iconst (v := (-1)) hx hb dX8_learns_15 (by decide) ?_
    have hpost : (¬ (0 ≤ x0.toInt ∧ x0.toInt < (v 1 2).toInt) → ((-1) : Int32) = -1 ∧ v = v) ∧ ((0 ≤ x0.toInt ∧ x0.toInt < (v 1 2).toInt) ∧ ¬ (0 ≤ x1.toInt ∧ x1.toInt < (v 1 (36 + 7 * x0.toNatClampNeg)).toInt) → ((-1) : Int32) = -5 ∧ v = v) ∧ (((0 ≤ x0.toInt ∧ x0.toInt < (v 1 2).toInt) ∧ (0 ≤ x1.toInt ∧ x1.toInt < (v 1 (36 + 7 * x0.toNatClampNeg)).toInt)) → lkR 1 0 (v 1 (87 + 10 * x0.toNatClampNeg + 2 * x1.toNatClampNeg)).toInt (v 1 (86 + 10 * x0.toNatClampNeg + 2 * x1.toNatClampNeg)).toInt ((-1) : Int32).toInt ∧ v = v) := by
      refine ⟨fun hq => ?_, fun hq => ?_, fun hq => ?_⟩
      · exact ⟨rfl, rfl⟩
      · exfalso; omega
      · exfalso; omega
    exact W.iret (v := (-1)) hx hb hr (fun t ht hW => ⟨⟨(-1), v, rfl, ⟨hv, hpost⟩, by rw [ht]; exact hP, hD⟩, hS.F ht⟩) hS.2.2 dX8_learns_16

set_option maxHeartbeats 4000000 in
set_option maxRecDepth 100000 in
theorem e_X8_learns_11 (l : Launch) (dC : Nat → ClassId) (dI : Nat → Nat → Nat) (cy : Nat → ClassId) (sz : Nat) (ad : Nat → Nat) (v : Nat → Nat → Int32) (hv : Ir v) (hO : RO (v 1)) (x0 x1 : Int32) : Met l yX8_learns wsX8_learns ({ frames := 2, cells := 0, slots := 0, locals := 128 }) (va_Pc [.ref (ad 0), .int x0, .int 1, .int x1, .int 1] (ex_Pre dC dI cy sz (wm ad cy v))) (va_Qi (fun (r : Int32) (u : Nat → Nat → Int32) => Ir u ∧ (¬ (0 ≤ x0.toInt ∧ x0.toInt < (v 1 2).toInt) → r = -1 ∧ u = v) ∧ ((0 ≤ x0.toInt ∧ x0.toInt < (v 1 2).toInt) ∧ ¬ (0 ≤ x1.toInt ∧ x1.toInt < (v 1 (36 + 7 * x0.toNatClampNeg)).toInt) → r = -5 ∧ u = v) ∧ (((0 ≤ x0.toInt ∧ x0.toInt < (v 1 2).toInt) ∧ (0 ≤ x1.toInt ∧ x1.toInt < (v 1 (36 + 7 * x0.toNatClampNeg)).toInt)) → lkR 1 1 (v 1 (87 + 10 * x0.toNatClampNeg + 2 * x1.toNatClampNeg)).toInt (v 1 (86 + 10 * x0.toNatClampNeg + 2 * x1.toNatClampNeg)).toInt r.toInt ∧ u = v)) (fun u t => ex_Pst dC dI (va_A (wm ad cy v) sz) (wm ad cy u) t) (va_A (wm ad cy v) sz)) 0 0 (va_A (wm ad cy v) sz) := by
  refine Met.ofW (cc := cX8_learns) (maxL := 14) (ret := (some .int)) (by decide) rfl ?_
  intro p e s m args below meth c s₁ B hml hv
  obtain ⟨rfl, hsz, hE, hP, hK, hD0⟩ := hv
  have hx := B.exec
  have hb := B.bytes
  have hr := B.returns
  have hts := atoms_spec (ws := wsX8_learns) B.pre
  have hown : s.vm.findClass RX8 = some m.cls := findClass_of_methodNamed B.named
  have hlocks := B.notSynchronized
  subst hsz
  have hD := hD0.self (sz := s.heap.size)
  generalize hAe : va_A (wm ad cy v) s.heap.size = A at hD ⊢
  have hA : ∀ q : Nat, s.heap.size ≤ q → A q := fun q h => by rw [← hAe]; exact Or.inr h
  have hS : va_S A s.heap s.heap [] := va_S.rf
  have hP : va_P (dC, dI) vwCl (wm ad cy v) s.heap := hP
  have hl := lv_entry ([.ref (ad 0), .int x0, .int 1, .int x1, .int 1]) (n := 14) (Nat.le_of_ble_eq_true rfl)
  rw [lg_entry_eq]
  generalize (lg_sl ([.ref (ad 0), .int x0, .int 1, .int x1, .int 1]) ++ List.replicate (14 - (lg_sl ([.ref (ad 0), .int x0, .int 1, .int x1, .int 1])).length) Slot.unset).toArray = ls at hl ⊢
  have hl : lv_has ls 14 [(0, .ref (ad 0)), (1, .int x0), (2, .int 1), (3, .int x1), (4, .int 1)] := hl
  refine lv_aload_n hx hb dX8_learns_0 rfl (lv_at hl 0 rfl) ?_
  refine lv_iload_n hx hb dX8_learns_1 rfl (lv_at hl 1 rfl) ?_
  refine yw_i (w1 := fun (u : Nat → Nat → Int32) => wm ad cy u) hD hS hA (va_runV (As := [.int x0]) (rest := []) ⟨hx, hb, hml, hown, hts⟩ (q_X8_isCase l dC dI cy _ ad v hv x0) (cwV 1 hts gX8_learns_X8_isCase rfl rfl rfl hd_V_X8_isCase_1 ⟨Nat.le_of_ble_eq_true rfl, Nat.le_of_ble_eq_true rfl⟩) (yw_preV hE hK hP hD (ci := 8) (q := (RX8, TX8, 11)) (q0 := 0) rfl (wm_at (by decide) rc_0)) rfl rfl hl.1 rfl (lv_room (Nat.le_of_ble_eq_true rfl)) dX8_learns_2 ⟨Nat.le_of_ble_eq_true rfl, Nat.le_of_ble_eq_true rfl⟩) (fun r_1 v_1 H locs hw_1 hP hD hS => ?_)
  obtain ⟨-, hu_1, hw_1⟩ := hw_1
  replace hu_1 := hu_1.symm
  subst hu_1
  rcases hw_1 with ⟨rfl, ha_2⟩ | ⟨rfl, ha_2⟩
  · have hb_2 := hv 1 2 6 (by decide)
    have hj_2 : 0 ≤ x0.toInt ∧ x0.toInt ≤ 5 := ⟨by omega, by omega⟩
    refine lv_if_eq (tgt := 15) hx hb dX8_learns_5 (by decide) (fun c9 => absurd c9 (by decide)) (fun _ => ?_)
    refine lv_iload_n hx hb dX8_learns_8 rfl (lv_at hl 2 rfl) ?_
    refine yc_p hP hS (va_runS (As := [.int 1]) (rest := []) ⟨hx, hb, hml, hown, hts⟩ (c_X8_isSide l 1) (cwS 1 hts gX8_learns_X8_isSide rfl rfl rfl hd_S_X8_isSide_1 ⟨Nat.le_of_ble_eq_true rfl, Nat.le_of_ble_eq_true rfl⟩) ex_preP rfl rfl hl.1 rfl (lv_room (Nat.le_of_ble_eq_true rfl)) dX8_learns_9 ⟨Nat.le_of_ble_eq_true rfl, Nat.le_of_ble_eq_true rfl⟩) (fun r_3 H locs hw_3 hP hS => ?_)
    rcases wi_ca hw_3 with ⟨rfl, hc_4⟩ | ⟨rfl, hc_4⟩
    · have k_0 : (0 : Int32).toInt = 0 := by decide
      have k_1 : (1 : Int32).toInt = 1 := by decide
      have tc_4 := wi_tl hc_4
      refine lv_if_ne (tgt := 17) hx hb dX8_learns_12 (by decide) (fun _ => ?_) (fun c9 => absurd c9 (by decide))
      refine lv_iload_n hx hb dX8_learns_17 rfl (lv_at hl 3 rfl) ?_
      refine lv_iconst (v := 0) hx hb dX8_learns_18 (by decide) ?_
      refine lv_aload_n hx hb dX8_learns_19 rfl (lv_at hl 0 rfl) ?_
      refine va_get (D := (dC, dI)) (ci := 8) (v := .ref (ad 1)) (C := RX8) (T := TX8) (N := 11) hx hb hts iwX8_learns_X8 hown hK hP (0) (wm_at (by decide) rc_0) rfl 0 (by decide) (hts (.fieldLink RX8 7 "QuietStairsModel" "s" "[I") fwX8_learns_1) (fun _ h9 => h9) rfl dX8_learns_20 ?_
      refine lv_iload_n hx hb dX8_learns_23 rfl (lv_at hl 1 rfl) ?_
      refine lv_iconst (v := 4) hx hb dX8_learns_24 (by decide) ?_
      refine yc_p hP hS (va_runS (As := [.int x0, .int 4]) (rest := [.ref (ad 1), .int 0, .int x1]) ⟨hx, hb, hml, hown, hts⟩ (c_X8_at l x0 4) (cwS 2 hts gX8_learns_X8_at rfl rfl rfl hd_S_X8_at_2 ⟨Nat.le_of_ble_eq_true rfl, Nat.le_of_ble_eq_true rfl⟩) ex_preP rfl rfl hl.1 rfl (lv_room (Nat.le_of_ble_eq_true rfl)) dX8_learns_25 ⟨Nat.le_of_ble_eq_true rfl, Nat.le_of_ble_eq_true rfl⟩) (fun r_5 H locs hw_5 hP hS => ?_)
      have k_4 : (4 : Int32).toInt = 4 := by decide
      have tr_5 : r_5.toInt = 32 + 7 * x0.toInt + (4 : Int32).toInt := t_at hw_5 ⟨by omega, by omega⟩ ⟨by omega, by omega⟩
      have zn_x0 : (x0.toNatClampNeg : Int) = x0.toInt := t_nn (by omega)
      have nr_5 : r_5.toNatClampNeg = 36 + 7 * x0.toNatClampNeg := by have z1 := t_nn (x := r_5) (by omega); omega
      refine va_iald hx hb hK hP (1) 0 (wm_at (by decide) rc_1) rfl (vp_in_iff.mpr ⟨by omega, by omega⟩) dX8_learns_28 ?_
      refine lv_topi (fun x_6 ex_6 => ?_)
      have bzx_6 : 0 ≤ x_6.toInt ∧ x_6.toInt ≤ 5 := by rw [ex_6]; exact hv 1 _ 5 (bx_4 (i := x0.toInt) (s := 4) (by omega) ⟨by omega, by omega⟩ (by omega))
      rw [nr_5] at ex_6
      have qx_6 : x_6.toInt = (v 1 (36 + 7 * x0.toNatClampNeg)).toInt := congrArg Int32.toInt ex_6
      refine lv_iconst (v := 1) hx hb dX8_learns_29 (by decide) ?_
      refine lv_isub hx hb dX8_learns_30 ?_
      refine lv_topi (fun x_7 ex_7 => ?_)
      have tx_7 : x_7.toInt = x_6.toInt - (1 : Int32).toInt := by rw [ex_7]; exact t_sub ⟨by omega, by omega⟩
      refine yc_p hP hS (va_runS (As := [.int x1, .int 0, .int x_7]) (rest := []) ⟨hx, hb, hml, hown, hts⟩ (c_X8_in l x1 0 x_7) (cwS 3 hts gX8_learns_X8_in rfl rfl rfl hd_S_X8_in_3 ⟨Nat.le_of_ble_eq_true rfl, Nat.le_of_ble_eq_true rfl⟩) ex_preP rfl rfl hl.1 rfl (lv_room (Nat.le_of_ble_eq_true rfl)) dX8_learns_31 ⟨Nat.le_of_ble_eq_true rfl, Nat.le_of_ble_eq_true rfl⟩) (fun r_8 H locs hw_8 hP hS => ?_)
      rcases wi_ca hw_8 with ⟨rfl, hc_9⟩ | ⟨rfl, hc_9⟩
      · have tc_9 := wi_tl hc_9
        refine lv_if_ne (tgt := 40) hx hb dX8_learns_34 (by decide) (fun _ => ?_) (fun c9 => absurd c9 (by decide))
        have zn_x1 : (x1.toNatClampNeg : Int) = x1.toInt := t_nn (by omega)
        obtain ⟨d1, d2, -, -⟩ := (hO x0.toNatClampNeg (by omega) (by omega)).2.2.1.2 x1.toNatClampNeg (by omega) (by omega)
        obtain ⟨own, eown⟩ : ∃ z : Int32, z = v 1 (87 + 10 * x0.toNatClampNeg + 2 * x1.toNatClampNeg) := ⟨_, rfl⟩
        have hbown : 0 ≤ own.toInt ∧ own.toInt ≤ 100 := by rw [eown]; exact d2
        obtain ⟨oth, eoth⟩ : ∃ z : Int32, z = v 1 (86 + 10 * x0.toNatClampNeg + 2 * x1.toNatClampNeg) := ⟨_, rfl⟩
        have hboth : 0 ≤ oth.toInt ∧ oth.toInt ≤ 100 := by rw [eoth]; exact d1
        refine lv_aload_n hx hb dX8_learns_40 rfl (lv_at hl 0 rfl) ?_
        refine va_get (D := (dC, dI)) (ci := 8) (v := .ref (ad 1)) (C := RX8) (T := TX8) (N := 11) hx hb hts iwX8_learns_X8 hown hK hP (0) (wm_at (by decide) rc_0) rfl 0 (by decide) (hts (.fieldLink RX8 7 "QuietStairsModel" "s" "[I") fwX8_learns_1) (fun _ h9 => h9) rfl dX8_learns_41 ?_
        refine lv_bipush (v := 86) hx hb dX8_learns_44 (by decide) ?_
        refine lv_bipush (v := 10) hx hb dX8_learns_46 (by decide) ?_
        refine lv_iload_n hx hb dX8_learns_48 rfl (lv_at hl 1 rfl) ?_
        refine lv_imul hx hb dX8_learns_49 ?_
        refine lv_topi (fun x_10 ex_10 => ?_)
        have k_10 : (10 : Int32).toInt = 10 := by decide
        have tx_10 : x_10.toInt = 10 * x0.toInt := by rw [ex_10, t_mul (by rw [k_10]; omega), k_10]
        refine lv_iadd hx hb dX8_learns_50 ?_
        refine lv_topi (fun x_11 ex_11 => ?_)
        have k_86 : (86 : Int32).toInt = 86 := by decide
        have tx_11 : x_11.toInt = (86 : Int32).toInt + x_10.toInt := by rw [ex_11]; exact t_add ⟨by omega, by omega⟩
        refine lv_iconst (v := 2) hx hb dX8_learns_51 (by decide) ?_
        refine lv_iload_n hx hb dX8_learns_52 rfl (lv_at hl 3 rfl) ?_
        refine lv_imul hx hb dX8_learns_53 ?_
        refine lv_topi (fun x_12 ex_12 => ?_)
        have k_2 : (2 : Int32).toInt = 2 := by decide
        have tx_12 : x_12.toInt = 2 * x1.toInt := by rw [ex_12, t_mul (by rw [k_2]; omega), k_2]
        refine lv_iadd hx hb dX8_learns_54 ?_
        refine lv_topi (fun x_13 ex_13 => ?_)
        have tx_13 : x_13.toInt = x_11.toInt + x_12.toInt := by rw [ex_13]; exact t_add ⟨by omega, by omega⟩
        refine lv_iload_n hx hb dX8_learns_55 rfl (lv_at hl 2 rfl) ?_
        refine lv_iadd hx hb dX8_learns_56 ?_
        refine lv_topi (fun x_14 ex_14 => ?_)
        have tx_14 : x_14.toInt = x_13.toInt + (1 : Int32).toInt := by rw [ex_14]; exact t_add ⟨by omega, by omega⟩
        have nx_14 : x_14.toNatClampNeg = 87 + 10 * x0.toNatClampNeg + 2 * x1.toNatClampNeg := by have z1 := t_nn (x := x_14) (by omega); omega
        refine va_iald hx hb hK hP (1) 0 (wm_at (by decide) rc_1) rfl (vp_in_iff.mpr ⟨by omega, by omega⟩) dX8_learns_57 ?_
        refine lv_topi (fun x_15 ex_15 => ?_)
        rw [nx_14] at ex_15
        obtain rfl : own = x_15 := (ex_15.trans eown.symm).symm
        refine lv_istore (lv' := [(5, .int own), (0, .ref (ad 0)), (1, .int x0), (2, .int 1), (3, .int x1), (4, .int 1)]) hx hb dX8_learns_58 hl (by decide) rfl (fun ls hl => ?_)
        refine lv_aload_n hx hb dX8_learns_60 rfl (lv_at hl 1 rfl) ?_
        refine va_get (D := (dC, dI)) (ci := 8) (v := .ref (ad 1)) (C := RX8) (T := TX8) (N := 11) hx hb hts iwX8_learns_X8 hown hK hP (0) (wm_at (by decide) rc_0) rfl 0 (by decide) (hts (.fieldLink RX8 7 "QuietStairsModel" "s" "[I") fwX8_learns_1) (fun _ h9 => h9) rfl dX8_learns_61 ?_
        refine lv_bipush (v := 86) hx hb dX8_learns_64 (by decide) ?_
        refine lv_bipush (v := 10) hx hb dX8_learns_66 (by decide) ?_
        refine lv_iload_n hx hb dX8_learns_68 rfl (lv_at hl 2 rfl) ?_
        refine lv_imul hx hb dX8_learns_69 ?_
        refine lv_topi (fun x_16 ex_16 => ?_)
        obtain rfl : x_10 = x_16 := ex_10.trans ex_16.symm
        refine lv_iadd hx hb dX8_learns_70 ?_
        refine lv_topi (fun x_17 ex_17 => ?_)
        obtain rfl : x_11 = x_17 := ex_11.trans ex_17.symm
        refine lv_iconst (v := 2) hx hb dX8_learns_71 (by decide) ?_
        refine lv_iload_n hx hb dX8_learns_72 rfl (lv_at hl 4 rfl) ?_
        refine lv_imul hx hb dX8_learns_73 ?_
        refine lv_topi (fun x_18 ex_18 => ?_)
        obtain rfl : x_12 = x_18 := ex_12.trans ex_18.symm
        refine lv_iadd hx hb dX8_learns_74 ?_
        refine lv_topi (fun x_19 ex_19 => ?_)
        obtain rfl : x_13 = x_19 := ex_13.trans ex_19.symm
        refine lv_iconst (v := 1) hx hb dX8_learns_75 (by decide) ?_
        refine lv_iadd hx hb dX8_learns_76 ?_
        refine lv_topi (fun x_20 ex_20 => ?_)
        obtain rfl : x_14 = x_20 := ex_14.trans ex_20.symm
        refine lv_iload_n hx hb dX8_learns_77 rfl (lv_at hl 3 rfl) ?_
        refine lv_isub hx hb dX8_learns_78 ?_
        refine lv_topi (fun x_21 ex_21 => ?_)
        have tx_21 : x_21.toInt = x_14.toInt - (1 : Int32).toInt := by rw [ex_21]; exact t_sub ⟨by omega, by omega⟩
        have nx_21 : x_21.toNatClampNeg = 86 + 10 * x0.toNatClampNeg + 2 * x1.toNatClampNeg := by have z1 := t_nn (x := x_21) (by omega); omega
        refine va_iald hx hb hK hP (1) 0 (wm_at (by decide) rc_1) rfl (vp_in_iff.mpr ⟨by omega, by omega⟩) dX8_learns_79 ?_
        refine lv_topi (fun x_22 ex_22 => ?_)
        rw [nx_21] at ex_22
        obtain rfl : oth = x_22 := (ex_22.trans eoth.symm).symm
        refine lv_istore (lv' := [(6, .int oth), (5, .int own), (0, .ref (ad 0)), (1, .int x0), (2, .int 1), (3, .int x1), (4, .int 1)]) hx hb dX8_learns_80 hl (by decide) rfl (fun ls hl => ?_)
        refine lv_iload_n hx hb dX8_learns_82 rfl (lv_at hl 4 rfl) ?_
        refine lv_if_ne (tgt := 91) hx hb dX8_learns_83 (by decide) (fun _ => ?_) (fun c9 => absurd c9 (by decide))
        refine lv_iload hx hb dX8_learns_91 (lv_at hl 0 rfl) ?_
        refine lv_istore (lv' := [(7, .int oth), (6, .int oth), (5, .int own), (0, .ref (ad 0)), (1, .int x0), (2, .int 1), (3, .int x1), (4, .int 1)]) hx hb dX8_learns_93 hl (by decide) rfl (fun ls hl => ?_)
        refine lv_iload_n hx hb dX8_learns_95 rfl (lv_at hl 5 rfl) ?_
        refine lv_if_ne (tgt := 104) hx hb dX8_learns_96 (by decide) (fun _ => ?_) (fun c9 => absurd c9 (by decide))
        refine lv_iload hx hb dX8_learns_104 (lv_at hl 2 rfl) ?_
        refine lv_istore (lv' := [(8, .int own), (7, .int oth), (6, .int oth), (5, .int own), (0, .ref (ad 0)), (1, .int x0), (2, .int 1), (3, .int x1), (4, .int 1)]) hx hb dX8_learns_106 hl (by decide) rfl (fun ls hl => ?_)
        refine lv_bipush (v := (-5)) hx hb dX8_learns_108 (by decide) ?_
        refine lv_istore (lv' := [(9, .int (-5)), (8, .int own), (7, .int oth), (6, .int oth), (5, .int own), (0, .ref (ad 0)), (1, .int x0), (2, .int 1), (3, .int x1), (4, .int 1)]) hx hb dX8_learns_110 hl (by decide) rfl (fun ls hl => ?_)
        refine lv_iconst (v := 0) hx hb dX8_learns_112 (by decide) ?_
        refine lv_istore (lv' := [(10, .int 0), (9, .int (-5)), (8, .int own), (7, .int oth), (6, .int oth), (5, .int own), (0, .ref (ad 0)), (1, .int x0), (2, .int 1), (3, .int x1), (4, .int 1)]) hx hb dX8_learns_113 hl (by decide) rfl (fun ls hl => ?_)
        have hc_23 : ∀ (n : Nat) (y23_10 y23_9 : Int32) (H : Heap) (locs : List Loc), 0 ≤ y23_10.toInt → y23_10.toInt ≤ 101 → -5 ≤ y23_9.toInt → y23_9.toInt ≤ 100 → (lkI 1 1 own.toInt oth.toInt y23_10.toInt y23_9.toInt) → (101 - y23_10.toInt).toNat < n → va_P (dC, dI) vwCl (wm ad cy v) H → va_D A (wm ad cy v) → va_S A s.heap H locs → ∀ ls : Array Slot, lv_has ls 14 [(10, .int y23_10), (9, .int y23_9), (8, .int own), (7, .int oth), (6, .int oth), (5, .int own), (0, .ref (ad 0)), (1, .int x0), (2, .int 1), (3, .int x1), (4, .int 1)] → W p l e (headSpec wsX8_learns ({ frames := 2, cells := 0, slots := 0, locals := 128 })).room s m [Value.ref (ad 0), Value.int x0, Value.int 1, Value.int x1, Value.int 1].toArray below meth c H locs 0 0 (MQ below (va_Qi (fun (r : Int32) (u : Nat → Nat → Int32) => Ir u ∧ (¬ (0 ≤ x0.toInt ∧ x0.toInt < (v 1 2).toInt) → r = -1 ∧ u = v) ∧ ((0 ≤ x0.toInt ∧ x0.toInt < (v 1 2).toInt) ∧ ¬ (0 ≤ x1.toInt ∧ x1.toInt < (v 1 (36 + 7 * x0.toNatClampNeg)).toInt) → r = -5 ∧ u = v) ∧ (((0 ≤ x0.toInt ∧ x0.toInt < (v 1 2).toInt) ∧ (0 ≤ x1.toInt ∧ x1.toInt < (v 1 (36 + 7 * x0.toNatClampNeg)).toInt)) → lkR 1 1 (v 1 (87 + 10 * x0.toNatClampNeg + 2 * x1.toNatClampNeg)).toInt (v 1 (86 + 10 * x0.toNatClampNeg + 2 * x1.toNatClampNeg)).toInt r.toInt ∧ u = v)) (fun u t => ex_Pst dC dI A (wm ad cy u) t) A) [Value.ref (ad 0), Value.int x0, Value.int 1, Value.int x1, Value.int 1].toArray s 0 0 A) (F0 m 115 ls []) := by
          intro n
          induction n with
          | zero =>
            intro y23_10 y23_9 H locs ay23_10 by23_10 ay23_9 by23_9 hi23_0 hm_23 hP hD hS ls hl
            exact absurd hm_23 (by omega)
          | succ n ih_23 =>
            intro y23_10 y23_9 H locs ay23_10 by23_10 ay23_9 by23_9 hi23_0 hm_23 hP hD hS ls hl
            refine lv_iload hx hb dX8_learns_115 (lv_at hl 0 rfl) ?_
            refine lv_bipush (v := 100) hx hb dX8_learns_117 (by decide) ?_
            have k_100 : (100 : Int32).toInt = 100 := by decide
            refine lv_icmp_gt (tgt := 231) hx hb dX8_learns_119 (by decide) (fun c_24 => ?_) (fun c_24 => ?_)
            · have tc_24 : y23_10.toInt > (100 : Int32).toInt := Int32.lt_iff_toInt_lt.mp c_24
              refine lv_iload hx hb dX8_learns_231 (lv_at hl 1 rfl) ?_
              have hpost : (¬ (0 ≤ x0.toInt ∧ x0.toInt < (v 1 2).toInt) → y23_9 = -1 ∧ v = v) ∧ ((0 ≤ x0.toInt ∧ x0.toInt < (v 1 2).toInt) ∧ ¬ (0 ≤ x1.toInt ∧ x1.toInt < (v 1 (36 + 7 * x0.toNatClampNeg)).toInt) → y23_9 = -5 ∧ v = v) ∧ (((0 ≤ x0.toInt ∧ x0.toInt < (v 1 2).toInt) ∧ (0 ≤ x1.toInt ∧ x1.toInt < (v 1 (36 + 7 * x0.toNatClampNeg)).toInt)) → lkR 1 1 (v 1 (87 + 10 * x0.toNatClampNeg + 2 * x1.toNatClampNeg)).toInt (v 1 (86 + 10 * x0.toNatClampNeg + 2 * x1.toNatClampNeg)).toInt y23_9.toInt ∧ v = v) := by
                refine ⟨fun hq => ?_, fun hq => ?_, fun hq => ?_⟩
                · exfalso; omega
                · exfalso; omega
                · rw [← eown, ← eoth]; exact ⟨lkI_end (by omega) hi23_0 hboth (by omega), rfl⟩
              exact W.iret (v := y23_9) hx hb hr (fun t ht hW => ⟨⟨y23_9, v, rfl, ⟨hv, hpost⟩, by rw [ht]; exact hP, hD⟩, hS.F ht⟩) hS.2.2 dX8_learns_233
            · have tc_24 : y23_10.toInt ≤ (100 : Int32).toInt := Int32.le_iff_toInt_le.mp (Int32.not_lt.mp c_24)
              refine lv_iload_n hx hb dX8_learns_122 rfl (lv_at hl 8 rfl) ?_
              refine lv_if_ne (tgt := 131) hx hb dX8_learns_123 (by decide) (fun _ => ?_) (fun c9 => absurd c9 (by decide))
              refine lv_iload hx hb dX8_learns_131 (lv_at hl 0 rfl) ?_
              refine lv_istore (lv' := [(11, .int y23_10), (10, .int y23_10), (9, .int y23_9), (8, .int own), (7, .int oth), (6, .int oth), (5, .int own), (0, .ref (ad 0)), (1, .int x0), (2, .int 1), (3, .int x1), (4, .int 1)]) hx hb dX8_learns_133 hl (by decide) rfl (fun ls hl => ?_)
              refine lv_iload_n hx hb dX8_learns_135 rfl (lv_at hl 9 rfl) ?_
              refine lv_if_ne (tgt := 144) hx hb dX8_learns_136 (by decide) (fun _ => ?_) (fun c9 => absurd c9 (by decide))
              refine lv_iload hx hb dX8_learns_144 (lv_at hl 6 rfl) ?_
              refine lv_istore (lv' := [(12, .int own), (11, .int y23_10), (10, .int y23_10), (9, .int y23_9), (8, .int own), (7, .int oth), (6, .int oth), (5, .int own), (0, .ref (ad 0)), (1, .int x0), (2, .int 1), (3, .int x1), (4, .int 1)]) hx hb dX8_learns_146 hl (by decide) rfl (fun ls hl => ?_)
              refine lv_iload hx hb dX8_learns_148 (lv_at hl 4 rfl) ?_
              refine lv_iload hx hb dX8_learns_150 (lv_at hl 5 rfl) ?_
              refine lv_icmp_ge (tgt := 170) hx hb dX8_learns_152 (by decide) (fun c_25 => ?_) (fun c_25 => ?_)
              · have tc_25 : own.toInt ≥ oth.toInt := Int32.le_iff_toInt_le.mp c_25
                refine lv_iload hx hb dX8_learns_170 (lv_at hl 0 rfl) ?_
                refine lv_iload hx hb dX8_learns_172 (lv_at hl 1 rfl) ?_
                refine lv_icmp_lt (tgt := 198) hx hb dX8_learns_174 (by decide) (fun c_26 => ?_) (fun c_26 => ?_)
                · have tc_26 : own.toInt < y23_10.toInt := Int32.lt_iff_toInt_lt.mp c_26
                  refine lv_iconst (v := 0) hx hb dX8_learns_198 (by decide) ?_
                  refine lv_istore (lv' := [(13, .int 0), (12, .int own), (11, .int y23_10), (10, .int y23_10), (9, .int y23_9), (8, .int own), (7, .int oth), (6, .int oth), (5, .int own), (0, .ref (ad 0)), (1, .int x0), (2, .int 1), (3, .int x1), (4, .int 1)]) hx hb dX8_learns_199 hl (by decide) rfl (fun ls hl => ?_)
                  refine lv_iload hx hb dX8_learns_201 (lv_at hl 0 rfl) ?_
                  refine lv_if_eq (tgt := 221) hx hb dX8_learns_203 (by decide) (fun _ => ?_) (fun c9 => absurd c9 (by decide))
                  refine lv_iload hx hb dX8_learns_221 (lv_at hl 4 rfl) ?_
                  refine lv_istore (lv' := [(9, .int y23_9), (13, .int 0), (12, .int own), (11, .int y23_10), (10, .int y23_10), (8, .int own), (7, .int oth), (6, .int oth), (5, .int own), (0, .ref (ad 0)), (1, .int x0), (2, .int 1), (3, .int x1), (4, .int 1)]) hx hb dX8_learns_223 hl (by decide) rfl (fun ls hl => ?_)
                  obtain ⟨x_27, ex_27⟩ : ∃ y : Int32, y = y23_10 + 1 := ⟨_, rfl⟩
                  refine lv_iinc (v := x_27) (lv' := [(10, .int x_27), (9, .int y23_9), (13, .int 0), (12, .int own), (11, .int y23_10), (8, .int own), (7, .int oth), (6, .int oth), (5, .int own), (0, .ref (ad 0)), (1, .int x0), (2, .int 1), (3, .int x1), (4, .int 1)]) hx hb dX8_learns_225 hl (k := 4) rfl (by rw [ex_27]; rfl) (by decide) rfl (fun ls hl => ?_)
                  have tx_27 : x_27.toInt = y23_10.toInt + (1 : Int32).toInt := by rw [ex_27]; exact t_add ⟨by omega, by omega⟩
                  refine lv_goto (tgt := 115) hx hb dX8_learns_228 (by decide) ?_
                  exact ih_23 x_27 y23_9 _ _ (by omega) (by omega) (by omega) (by omega) (lkI_no (by omega) hi23_0 (by unfold lke; omega)) (by omega) hP hD hS ls (lv_sub hl [0, 1, 5, 6, 7, 8, 9, 10, 11, 12, 13] rfl)
                · have tc_26 : own.toInt ≥ y23_10.toInt := Int32.le_iff_toInt_le.mp (Int32.not_lt.mp c_26)
                  refine lv_iload hx hb dX8_learns_177 (lv_at hl 1 rfl) ?_
                  refine lv_iload hx hb dX8_learns_179 (lv_at hl 0 rfl) ?_
                  refine lv_iadd hx hb dX8_learns_181 ?_
                  refine lv_topi (fun x_27 ex_27 => ?_)
                  have tx_27 : x_27.toInt = y23_10.toInt + own.toInt := by rw [ex_27]; exact t_add ⟨by omega, by omega⟩
                  refine lv_iconst (v := 2) hx hb dX8_learns_182 (by decide) ?_
                  refine lv_idiv hx hb dX8_learns_183 (by decide) ?_
                  refine lv_topi (fun x_28 ex_28 => ?_)
                  have tx_28 : x_28.toInt = x_27.toInt / 2 := by rw [ex_28]; exact t_half (by omega)
                  refine lv_iload hx hb dX8_learns_184 (lv_at hl 5 rfl) ?_
                  refine lv_iload hx hb dX8_learns_186 (lv_at hl 4 rfl) ?_
                  refine lv_iadd hx hb dX8_learns_188 ?_
                  refine lv_topi (fun x_29 ex_29 => ?_)
                  have tx_29 : x_29.toInt = oth.toInt + own.toInt := by rw [ex_29]; exact t_add ⟨by omega, by omega⟩
                  refine lv_iconst (v := 2) hx hb dX8_learns_189 (by decide) ?_
                  refine lv_idiv hx hb dX8_learns_190 (by decide) ?_
                  refine lv_topi (fun x_30 ex_30 => ?_)
                  have tx_30 : x_30.toInt = x_29.toInt / 2 := by rw [ex_30]; exact t_half (by omega)
                  refine lv_icmp_ne (tgt := 198) hx hb dX8_learns_191 (by decide) (fun c_31 => ?_) (fun c_31 => ?_)
                  · have tc_31 : x_28.toInt ≠ x_30.toInt := fun q => absurd (Int32.toInt_inj.mp q) c_31
                    refine lv_iconst (v := 0) hx hb dX8_learns_198 (by decide) ?_
                    refine lv_istore (lv' := [(13, .int 0), (12, .int own), (11, .int y23_10), (10, .int y23_10), (9, .int y23_9), (8, .int own), (7, .int oth), (6, .int oth), (5, .int own), (0, .ref (ad 0)), (1, .int x0), (2, .int 1), (3, .int x1), (4, .int 1)]) hx hb dX8_learns_199 hl (by decide) rfl (fun ls hl => ?_)
                    refine lv_iload hx hb dX8_learns_201 (lv_at hl 0 rfl) ?_
                    refine lv_if_eq (tgt := 221) hx hb dX8_learns_203 (by decide) (fun _ => ?_) (fun c9 => absurd c9 (by decide))
                    refine lv_iload hx hb dX8_learns_221 (lv_at hl 4 rfl) ?_
                    refine lv_istore (lv' := [(9, .int y23_9), (13, .int 0), (12, .int own), (11, .int y23_10), (10, .int y23_10), (8, .int own), (7, .int oth), (6, .int oth), (5, .int own), (0, .ref (ad 0)), (1, .int x0), (2, .int 1), (3, .int x1), (4, .int 1)]) hx hb dX8_learns_223 hl (by decide) rfl (fun ls hl => ?_)
                    obtain ⟨x_32, ex_32⟩ : ∃ y : Int32, y = y23_10 + 1 := ⟨_, rfl⟩
                    refine lv_iinc (v := x_32) (lv' := [(10, .int x_32), (9, .int y23_9), (13, .int 0), (12, .int own), (11, .int y23_10), (8, .int own), (7, .int oth), (6, .int oth), (5, .int own), (0, .ref (ad 0)), (1, .int x0), (2, .int 1), (3, .int x1), (4, .int 1)]) hx hb dX8_learns_225 hl (k := 4) rfl (by rw [ex_32]; rfl) (by decide) rfl (fun ls hl => ?_)
                    have tx_32 : x_32.toInt = y23_10.toInt + (1 : Int32).toInt := by rw [ex_32]; exact t_add ⟨by omega, by omega⟩
                    refine lv_goto (tgt := 115) hx hb dX8_learns_228 (by decide) ?_
                    exact ih_23 x_32 y23_9 _ _ (by omega) (by omega) (by omega) (by omega) (lkI_no (by omega) hi23_0 (by unfold lke; omega)) (by omega) hP hD hS ls (lv_sub hl [0, 1, 5, 6, 7, 8, 9, 10, 11, 12, 13] rfl)
                  · have tc_31 : x_28.toInt = x_30.toInt := by rw [c_31]
                    refine lv_iconst (v := 1) hx hb dX8_learns_194 (by decide) ?_
                    refine lv_goto (tgt := 199) hx hb dX8_learns_195 (by decide) ?_
                    refine lv_istore (lv' := [(13, .int 1), (12, .int own), (11, .int y23_10), (10, .int y23_10), (9, .int y23_9), (8, .int own), (7, .int oth), (6, .int oth), (5, .int own), (0, .ref (ad 0)), (1, .int x0), (2, .int 1), (3, .int x1), (4, .int 1)]) hx hb dX8_learns_199 hl (by decide) rfl (fun ls hl => ?_)
                    refine lv_iload hx hb dX8_learns_201 (lv_at hl 0 rfl) ?_
                    refine lv_if_eq (tgt := 221) hx hb dX8_learns_203 (by decide) (fun c9 => absurd c9 (by decide)) (fun _ => ?_)
                    refine lv_iload hx hb dX8_learns_206 (lv_at hl 4 rfl) ?_
                    refine lv_if_lt (tgt := 216) hx hb dX8_learns_208 (by decide) (fun c_32 => ?_) (fun c_32 => ?_)
                    · have tc_32 : y23_9.toInt < (0 : Int32).toInt := Int32.lt_iff_toInt_lt.mp c_32
                      refine lv_iload hx hb dX8_learns_216 (lv_at hl 3 rfl) ?_
                      refine lv_goto (tgt := 223) hx hb dX8_learns_218 (by decide) ?_
                      refine lv_istore (lv' := [(9, .int y23_10), (13, .int 1), (12, .int own), (11, .int y23_10), (10, .int y23_10), (8, .int own), (7, .int oth), (6, .int oth), (5, .int own), (0, .ref (ad 0)), (1, .int x0), (2, .int 1), (3, .int x1), (4, .int 1)]) hx hb dX8_learns_223 hl (by decide) rfl (fun ls hl => ?_)
                      obtain ⟨x_33, ex_33⟩ : ∃ y : Int32, y = y23_10 + 1 := ⟨_, rfl⟩
                      refine lv_iinc (v := x_33) (lv' := [(10, .int x_33), (9, .int y23_10), (13, .int 1), (12, .int own), (11, .int y23_10), (8, .int own), (7, .int oth), (6, .int oth), (5, .int own), (0, .ref (ad 0)), (1, .int x0), (2, .int 1), (3, .int x1), (4, .int 1)]) hx hb dX8_learns_225 hl (k := 4) rfl (by rw [ex_33]; rfl) (by decide) rfl (fun ls hl => ?_)
                      have tx_33 : x_33.toInt = y23_10.toInt + (1 : Int32).toInt := by rw [ex_33]; exact t_add ⟨by omega, by omega⟩
                      refine lv_goto (tgt := 115) hx hb dX8_learns_228 (by decide) ?_
                      exact ih_23 x_33 y23_10 _ _ (by omega) (by omega) (by omega) (by omega) (lkI_new (by omega) (by omega) hi23_0 (by unfold lke; omega) (by omega)) (by omega) hP hD hS ls (lv_sub hl [0, 1, 5, 6, 7, 8, 9, 10, 11, 12, 13] rfl)
                    · have tc_32 : y23_9.toInt ≥ (0 : Int32).toInt := Int32.le_iff_toInt_le.mp (Int32.not_lt.mp c_32)
                      refine lv_iload hx hb dX8_learns_211 (lv_at hl 13 rfl) ?_
                      refine lv_if_eq (tgt := 221) hx hb dX8_learns_213 (by decide) (fun c9 => absurd c9 (by decide)) (fun _ => ?_)
                      refine lv_iload hx hb dX8_learns_216 (lv_at hl 3 rfl) ?_
                      refine lv_goto (tgt := 223) hx hb dX8_learns_218 (by decide) ?_
                      refine lv_istore (lv' := [(9, .int y23_10), (13, .int 1), (12, .int own), (11, .int y23_10), (10, .int y23_10), (8, .int own), (7, .int oth), (6, .int oth), (5, .int own), (0, .ref (ad 0)), (1, .int x0), (2, .int 1), (3, .int x1), (4, .int 1)]) hx hb dX8_learns_223 hl (by decide) rfl (fun ls hl => ?_)
                      obtain ⟨x_33, ex_33⟩ : ∃ y : Int32, y = y23_10 + 1 := ⟨_, rfl⟩
                      refine lv_iinc (v := x_33) (lv' := [(10, .int x_33), (9, .int y23_10), (13, .int 1), (12, .int own), (11, .int y23_10), (8, .int own), (7, .int oth), (6, .int oth), (5, .int own), (0, .ref (ad 0)), (1, .int x0), (2, .int 1), (3, .int x1), (4, .int 1)]) hx hb dX8_learns_225 hl (k := 4) rfl (by rw [ex_33]; rfl) (by decide) rfl (fun ls hl => ?_)
                      have tx_33 : x_33.toInt = y23_10.toInt + (1 : Int32).toInt := by rw [ex_33]; exact t_add ⟨by omega, by omega⟩
                      refine lv_goto (tgt := 115) hx hb dX8_learns_228 (by decide) ?_
                      exact ih_23 x_33 y23_10 _ _ (by omega) (by omega) (by omega) (by omega) (lkI_new (by omega) (by omega) hi23_0 (by unfold lke; omega) (by omega)) (by omega) hP hD hS ls (lv_sub hl [0, 1, 5, 6, 7, 8, 9, 10, 11, 12, 13] rfl)
              · have tc_25 : own.toInt < oth.toInt := Int32.lt_iff_toInt_lt.mp (Int32.not_le.mp c_25)
                refine lv_iload hx hb dX8_learns_155 (lv_at hl 0 rfl) ?_
                refine lv_iload hx hb dX8_learns_157 (lv_at hl 1 rfl) ?_
                refine lv_icmp_ge (tgt := 166) hx hb dX8_learns_159 (by decide) (fun c_26 => ?_) (fun c_26 => ?_)
                · have tc_26 : own.toInt ≥ y23_10.toInt := Int32.le_iff_toInt_le.mp c_26
                  refine lv_iconst (v := 0) hx hb dX8_learns_166 (by decide) ?_
                  refine lv_goto (tgt := 199) hx hb dX8_learns_167 (by decide) ?_
                  refine lv_istore (lv' := [(13, .int 0), (12, .int own), (11, .int y23_10), (10, .int y23_10), (9, .int y23_9), (8, .int own), (7, .int oth), (6, .int oth), (5, .int own), (0, .ref (ad 0)), (1, .int x0), (2, .int 1), (3, .int x1), (4, .int 1)]) hx hb dX8_learns_199 hl (by decide) rfl (fun ls hl => ?_)
                  refine lv_iload hx hb dX8_learns_201 (lv_at hl 0 rfl) ?_
                  refine lv_if_eq (tgt := 221) hx hb dX8_learns_203 (by decide) (fun _ => ?_) (fun c9 => absurd c9 (by decide))
                  refine lv_iload hx hb dX8_learns_221 (lv_at hl 4 rfl) ?_
                  refine lv_istore (lv' := [(9, .int y23_9), (13, .int 0), (12, .int own), (11, .int y23_10), (10, .int y23_10), (8, .int own), (7, .int oth), (6, .int oth), (5, .int own), (0, .ref (ad 0)), (1, .int x0), (2, .int 1), (3, .int x1), (4, .int 1)]) hx hb dX8_learns_223 hl (by decide) rfl (fun ls hl => ?_)
                  obtain ⟨x_27, ex_27⟩ : ∃ y : Int32, y = y23_10 + 1 := ⟨_, rfl⟩
                  refine lv_iinc (v := x_27) (lv' := [(10, .int x_27), (9, .int y23_9), (13, .int 0), (12, .int own), (11, .int y23_10), (8, .int own), (7, .int oth), (6, .int oth), (5, .int own), (0, .ref (ad 0)), (1, .int x0), (2, .int 1), (3, .int x1), (4, .int 1)]) hx hb dX8_learns_225 hl (k := 4) rfl (by rw [ex_27]; rfl) (by decide) rfl (fun ls hl => ?_)
                  have tx_27 : x_27.toInt = y23_10.toInt + (1 : Int32).toInt := by rw [ex_27]; exact t_add ⟨by omega, by omega⟩
                  refine lv_goto (tgt := 115) hx hb dX8_learns_228 (by decide) ?_
                  exact ih_23 x_27 y23_9 _ _ (by omega) (by omega) (by omega) (by omega) (lkI_no (by omega) hi23_0 (by unfold lke; omega)) (by omega) hP hD hS ls (lv_sub hl [0, 1, 5, 6, 7, 8, 9, 10, 11, 12, 13] rfl)
                · have tc_26 : own.toInt < y23_10.toInt := Int32.lt_iff_toInt_lt.mp (Int32.not_le.mp c_26)
                  refine lv_iconst (v := 1) hx hb dX8_learns_162 (by decide) ?_
                  refine lv_goto (tgt := 199) hx hb dX8_learns_163 (by decide) ?_
                  refine lv_istore (lv' := [(13, .int 1), (12, .int own), (11, .int y23_10), (10, .int y23_10), (9, .int y23_9), (8, .int own), (7, .int oth), (6, .int oth), (5, .int own), (0, .ref (ad 0)), (1, .int x0), (2, .int 1), (3, .int x1), (4, .int 1)]) hx hb dX8_learns_199 hl (by decide) rfl (fun ls hl => ?_)
                  refine lv_iload hx hb dX8_learns_201 (lv_at hl 0 rfl) ?_
                  refine lv_if_eq (tgt := 221) hx hb dX8_learns_203 (by decide) (fun c9 => absurd c9 (by decide)) (fun _ => ?_)
                  refine lv_iload hx hb dX8_learns_206 (lv_at hl 4 rfl) ?_
                  refine lv_if_lt (tgt := 216) hx hb dX8_learns_208 (by decide) (fun c_27 => ?_) (fun c_27 => ?_)
                  · have tc_27 : y23_9.toInt < (0 : Int32).toInt := Int32.lt_iff_toInt_lt.mp c_27
                    refine lv_iload hx hb dX8_learns_216 (lv_at hl 3 rfl) ?_
                    refine lv_goto (tgt := 223) hx hb dX8_learns_218 (by decide) ?_
                    refine lv_istore (lv' := [(9, .int y23_10), (13, .int 1), (12, .int own), (11, .int y23_10), (10, .int y23_10), (8, .int own), (7, .int oth), (6, .int oth), (5, .int own), (0, .ref (ad 0)), (1, .int x0), (2, .int 1), (3, .int x1), (4, .int 1)]) hx hb dX8_learns_223 hl (by decide) rfl (fun ls hl => ?_)
                    obtain ⟨x_28, ex_28⟩ : ∃ y : Int32, y = y23_10 + 1 := ⟨_, rfl⟩
                    refine lv_iinc (v := x_28) (lv' := [(10, .int x_28), (9, .int y23_10), (13, .int 1), (12, .int own), (11, .int y23_10), (8, .int own), (7, .int oth), (6, .int oth), (5, .int own), (0, .ref (ad 0)), (1, .int x0), (2, .int 1), (3, .int x1), (4, .int 1)]) hx hb dX8_learns_225 hl (k := 4) rfl (by rw [ex_28]; rfl) (by decide) rfl (fun ls hl => ?_)
                    have tx_28 : x_28.toInt = y23_10.toInt + (1 : Int32).toInt := by rw [ex_28]; exact t_add ⟨by omega, by omega⟩
                    refine lv_goto (tgt := 115) hx hb dX8_learns_228 (by decide) ?_
                    exact ih_23 x_28 y23_10 _ _ (by omega) (by omega) (by omega) (by omega) (lkI_new (by omega) (by omega) hi23_0 (by unfold lke; omega) (by omega)) (by omega) hP hD hS ls (lv_sub hl [0, 1, 5, 6, 7, 8, 9, 10, 11, 12, 13] rfl)
                  · have tc_27 : y23_9.toInt ≥ (0 : Int32).toInt := Int32.le_iff_toInt_le.mp (Int32.not_lt.mp c_27)
                    refine lv_iload hx hb dX8_learns_211 (lv_at hl 13 rfl) ?_
                    refine lv_if_eq (tgt := 221) hx hb dX8_learns_213 (by decide) (fun c9 => absurd c9 (by decide)) (fun _ => ?_)
                    refine lv_iload hx hb dX8_learns_216 (lv_at hl 3 rfl) ?_
                    refine lv_goto (tgt := 223) hx hb dX8_learns_218 (by decide) ?_
                    refine lv_istore (lv' := [(9, .int y23_10), (13, .int 1), (12, .int own), (11, .int y23_10), (10, .int y23_10), (8, .int own), (7, .int oth), (6, .int oth), (5, .int own), (0, .ref (ad 0)), (1, .int x0), (2, .int 1), (3, .int x1), (4, .int 1)]) hx hb dX8_learns_223 hl (by decide) rfl (fun ls hl => ?_)
                    obtain ⟨x_28, ex_28⟩ : ∃ y : Int32, y = y23_10 + 1 := ⟨_, rfl⟩
                    refine lv_iinc (v := x_28) (lv' := [(10, .int x_28), (9, .int y23_10), (13, .int 1), (12, .int own), (11, .int y23_10), (8, .int own), (7, .int oth), (6, .int oth), (5, .int own), (0, .ref (ad 0)), (1, .int x0), (2, .int 1), (3, .int x1), (4, .int 1)]) hx hb dX8_learns_225 hl (k := 4) rfl (by rw [ex_28]; rfl) (by decide) rfl (fun ls hl => ?_)
                    have tx_28 : x_28.toInt = y23_10.toInt + (1 : Int32).toInt := by rw [ex_28]; exact t_add ⟨by omega, by omega⟩
                    refine lv_goto (tgt := 115) hx hb dX8_learns_228 (by decide) ?_
                    exact ih_23 x_28 y23_10 _ _ (by omega) (by omega) (by omega) (by omega) (lkI_new (by omega) (by omega) hi23_0 (by unfold lke; omega) (by omega)) (by omega) hP hD hS ls (lv_sub hl [0, 1, 5, 6, 7, 8, 9, 10, 11, 12, 13] rfl)
        have k_m5 : ((-5) : Int32).toInt = -5 := by decide
        exact hc_23 ((101 - (0 : Int32).toInt).toNat + 1) 0 (-5) _ _ (by omega) (by omega) (by omega) (by omega) (lkI_0 (by omega) (by omega)) (by omega) hP hD hS ls (lv_sub hl [0, 1, 2, 3, 4, 5, 6, 7, 8, 9, 10] rfl)
      · have tc_9 : ¬ ((0 : Int32).toInt ≤ x1.toInt ∧ x1.toInt ≤ x_7.toInt) := fun q => hc_9 ⟨Int32.le_iff_toInt_le.mpr q.1, Int32.le_iff_toInt_le.mpr q.2⟩
        refine lv_if_ne (tgt := 40) hx hb dX8_learns_34 (by decide) (fun c9 => absurd c9 (by decide)) (fun _ => ?_)
        refine lv_bipush (v := (-5)) hx hb dX8_learns_37 (by decide) ?_
        have hpost : (¬ (0 ≤ x0.toInt ∧ x0.toInt < (v 1 2).toInt) → ((-5) : Int32) = -1 ∧ v = v) ∧ ((0 ≤ x0.toInt ∧ x0.toInt < (v 1 2).toInt) ∧ ¬ (0 ≤ x1.toInt ∧ x1.toInt < (v 1 (36 + 7 * x0.toNatClampNeg)).toInt) → ((-5) : Int32) = -5 ∧ v = v) ∧ (((0 ≤ x0.toInt ∧ x0.toInt < (v 1 2).toInt) ∧ (0 ≤ x1.toInt ∧ x1.toInt < (v 1 (36 + 7 * x0.toNatClampNeg)).toInt)) → lkR 1 1 (v 1 (87 + 10 * x0.toNatClampNeg + 2 * x1.toNatClampNeg)).toInt (v 1 (86 + 10 * x0.toNatClampNeg + 2 * x1.toNatClampNeg)).toInt ((-5) : Int32).toInt ∧ v = v) := by
          refine ⟨fun hq => ?_, fun hq => ?_, fun hq => ?_⟩
          · exfalso; omega
          · exact ⟨rfl, rfl⟩
          · exfalso; omega
        exact W.iret (v := (-5)) hx hb hr (fun t ht hW => ⟨⟨(-5), v, rfl, ⟨hv, hpost⟩, by rw [ht]; exact hP, hD⟩, hS.F ht⟩) hS.2.2 dX8_learns_39
    · have k_0 : (0 : Int32).toInt = 0 := by decide
      have k_1 : (1 : Int32).toInt = 1 := by decide
      have tc_4 : ¬ ((0 : Int32).toInt ≤ (1 : Int32).toInt ∧ (1 : Int32).toInt ≤ (1 : Int32).toInt) := fun q => hc_4 ⟨Int32.le_iff_toInt_le.mpr q.1, Int32.le_iff_toInt_le.mpr q.2⟩
      refine lv_if_ne (tgt := 17) hx hb dX8_learns_12 (by decide) (fun c9 => absurd c9 (by decide)) (fun _ => ?_)
      refine lv_iconst (v := (-1)) hx hb dX8_learns_15 (by decide) ?_
      have hpost : (¬ (0 ≤ x0.toInt ∧ x0.toInt < (v 1 2).toInt) → ((-1) : Int32) = -1 ∧ v = v) ∧ ((0 ≤ x0.toInt ∧ x0.toInt < (v 1 2).toInt) ∧ ¬ (0 ≤ x1.toInt ∧ x1.toInt < (v 1 (36 + 7 * x0.toNatClampNeg)).toInt) → ((-1) : Int32) = -5 ∧ v = v) ∧ (((0 ≤ x0.toInt ∧ x0.toInt < (v 1 2).toInt) ∧ (0 ≤ x1.toInt ∧ x1.toInt < (v 1 (36 + 7 * x0.toNatClampNeg)).toInt)) → lkR 1 1 (v 1 (87 + 10 * x0.toNatClampNeg + 2 * x1.toNatClampNeg)).toInt (v 1 (86 + 10 * x0.toNatClampNeg + 2 * x1.toNatClampNeg)).toInt ((-1) : Int32).toInt ∧ v = v) := by
        refine ⟨fun hq => ?_, fun hq => ?_, fun hq => ?_⟩
        · exact ⟨rfl, rfl⟩
        · exfalso; omega
        · exfalso; omega
      exact W.iret (v := (-1)) hx hb hr (fun t ht hW => ⟨⟨(-1), v, rfl, ⟨hv, hpost⟩, by rw [ht]; exact hP, hD⟩, hS.F ht⟩) hS.2.2 dX8_learns_16
  · refine lv_if_eq (tgt := 15) hx hb dX8_learns_5 (by decide) (fun _ => ?_) (fun c9 => absurd c9 (by decide))
    refine lv_iconst (v := (-1)) hx hb dX8_learns_15 (by decide) ?_
    have hpost : (¬ (0 ≤ x0.toInt ∧ x0.toInt < (v 1 2).toInt) → ((-1) : Int32) = -1 ∧ v = v) ∧ ((0 ≤ x0.toInt ∧ x0.toInt < (v 1 2).toInt) ∧ ¬ (0 ≤ x1.toInt ∧ x1.toInt < (v 1 (36 + 7 * x0.toNatClampNeg)).toInt) → ((-1) : Int32) = -5 ∧ v = v) ∧ (((0 ≤ x0.toInt ∧ x0.toInt < (v 1 2).toInt) ∧ (0 ≤ x1.toInt ∧ x1.toInt < (v 1 (36 + 7 * x0.toNatClampNeg)).toInt)) → lkR 1 1 (v 1 (87 + 10 * x0.toNatClampNeg + 2 * x1.toNatClampNeg)).toInt (v 1 (86 + 10 * x0.toNatClampNeg + 2 * x1.toNatClampNeg)).toInt ((-1) : Int32).toInt ∧ v = v) := by
      refine ⟨fun hq => ?_, fun hq => ?_, fun hq => ?_⟩
      · exact ⟨rfl, rfl⟩
      · exfalso; omega
      · exfalso; omega
    exact W.iret (v := (-1)) hx hb hr (fun t ht hW => ⟨⟨(-1), v, rfl, ⟨hv, hpost⟩, by rw [ht]; exact hP, hD⟩, hS.F ht⟩) hS.2.2 dX8_learns_16

set_option maxHeartbeats 4000000 in
set_option maxRecDepth 100000 in
theorem e_X7_learns_o (l : Launch) (dC : Nat → ClassId) (dI : Nat → Nat → Nat) (cy : Nat → ClassId) (sz : Nat) (ad : Nat → Nat) (kv : Value) (N : Nat) (hN : 119 ≤ N) (v : Nat → Nat → Int32) (hv : Iv v) (x0 x1 x2 : Int32) (hs : ¬ (0 ≤ x1.toInt ∧ x1.toInt ≤ 1)) (x3 : Int32) : Met l yX7_learns wsX7_learns ({ frames := 3, cells := 0, slots := 0, locals := 192 }) (va_Pc [.ref (ad 0), .int x0, .int x1, .int x2, .int x3] (ex_Pre dC dI cy sz (wl ad kv cy N v))) (va_Qi (fun (r : Int32) (u : Nat → Nat → Int32) => Iv u ∧ r = -1 ∧ u = v) (fun u t => ex_Pst dC dI (va_A (wl ad kv cy N v) sz) (wl ad kv cy N u) t) (va_A (wl ad kv cy N v) sz)) 0 0 (va_A (wl ad kv cy N v) sz) := by
  refine Met.ofW (cc := cX7_learns) (maxL := 6) (ret := (some .int)) (by decide) rfl ?_
  intro p e s m args below meth c s₁ B hml hv
  obtain ⟨rfl, hsz, hE, hP, hK, hD0⟩ := hv
  have hx := B.exec
  have hb := B.bytes
  have hr := B.returns
  have hts := atoms_spec (ws := wsX7_learns) B.pre
  have hown : s.vm.findClass RX7 = some m.cls := findClass_of_methodNamed B.named
  have hlocks := B.notSynchronized
  subst hsz
  have hD := hD0.self (sz := s.heap.size)
  generalize hAe : va_A (wl ad kv cy N v) s.heap.size = A at hD ⊢
  have hA : ∀ q : Nat, s.heap.size ≤ q → A q := fun q h => by rw [← hAe]; exact Or.inr h
  have hS : va_S A s.heap s.heap [] := va_S.rf
  have hP : va_P (dC, dI) vwCl (wl ad kv cy N v) s.heap := hP
  have hl := lv_entry ([.ref (ad 0), .int x0, .int x1, .int x2, .int x3]) (n := 6) (Nat.le_of_ble_eq_true rfl)
  rw [lg_entry_eq]
  generalize (lg_sl ([.ref (ad 0), .int x0, .int x1, .int x2, .int x3]) ++ List.replicate (6 - (lg_sl ([.ref (ad 0), .int x0, .int x1, .int x2, .int x3])).length) Slot.unset).toArray = ls at hl ⊢
  have hl : lv_has ls 6 [(0, .ref (ad 0)), (1, .int x0), (2, .int x1), (3, .int x2), (4, .int x3)] := hl
  refine lv_aload_n hx hb dX7_learns_0 rfl (lv_at hl 0 rfl) ?_
  refine lv_iload_n hx hb dX7_learns_1 rfl (lv_at hl 1 rfl) ?_
  refine yw_i (w1 := fun (u : Nat → Nat → Int32) => wl ad kv cy N u) hD hS hA (va_runV (As := [.int x0]) (rest := []) ⟨hx, hb, hml, hown, hts⟩ (g_X7_isCase l dC dI cy _ ad kv N hN v hv x0) (cwV 1 hts gX7_learns_X7_isCase rfl rfl rfl hd_V_X7_isCase_1 ⟨Nat.le_of_ble_eq_true rfl, Nat.le_of_ble_eq_true rfl⟩) (yw_preV hE hK hP hD (ci := 7) (q := (RX7, TX7, 5)) (q0 := 0) rfl (wl_at (by omega) (ce_0 (by decide)))) rfl rfl hl.1 rfl (lv_room (Nat.le_of_ble_eq_true rfl)) dX7_learns_2 ⟨Nat.le_of_ble_eq_true rfl, Nat.le_of_ble_eq_true rfl⟩) (fun r_1 v_1 H locs hw_1 hP hD hS => ?_)
  obtain ⟨-, hu_1, hw_1⟩ := hw_1
  replace hu_1 := hu_1.symm
  subst hu_1
  rcases hw_1 with ⟨rfl, ha_2⟩ | ⟨rfl, ha_2⟩
  · have hb_2 := hv.at (k := 13) (j := 2) (K := 3) (by decide) rfl
    have hj_2 : 0 ≤ x0.toInt ∧ x0.toInt ≤ 5 := ⟨by omega, by omega⟩
    refine lv_if_eq (tgt := 15) hx hb dX7_learns_5 (by decide) (fun c9 => absurd c9 (by decide)) (fun _ => ?_)
    refine lv_iload_n hx hb dX7_learns_8 rfl (lv_at hl 2 rfl) ?_
    refine yc_p hP hS (va_runS (As := [.int x1]) (rest := []) ⟨hx, hb, hml, hown, hts⟩ (c_X7_isSide l x1) (cwS 1 hts gX7_learns_X7_isSide rfl rfl rfl hd_S_X7_isSide_1 ⟨Nat.le_of_ble_eq_true rfl, Nat.le_of_ble_eq_true rfl⟩) ex_preP rfl rfl hl.1 rfl (lv_room (Nat.le_of_ble_eq_true rfl)) dX7_learns_9 ⟨Nat.le_of_ble_eq_true rfl, Nat.le_of_ble_eq_true rfl⟩) (fun r_3 H locs hw_3 hP hS => ?_)
    rcases wi_ca hw_3 with ⟨rfl, hc_4⟩ | ⟨rfl, hc_4⟩
    · have k_0 : (0 : Int32).toInt = 0 := by decide
      have k_1 : (1 : Int32).toInt = 1 := by decide
      have tc_4 := wi_tl hc_4
      exact absurd ⟨by omega, by omega⟩ hs
    · refine lv_if_ne (tgt := 17) hx hb dX7_learns_12 (by decide) (fun c9 => absurd c9 (by decide)) (fun _ => ?_)
      refine lv_iconst (v := (-1)) hx hb dX7_learns_15 (by decide) ?_
      exact W.iret (v := (-1)) hx hb hr (fun t ht hW => ⟨⟨(-1), v, rfl, ⟨hv, rfl, rfl⟩, by rw [ht]; exact hP, hD⟩, hS.F ht⟩) hS.2.2 dX7_learns_16
  · refine lv_if_eq (tgt := 15) hx hb dX7_learns_5 (by decide) (fun _ => ?_) (fun c9 => absurd c9 (by decide))
    refine lv_iconst (v := (-1)) hx hb dX7_learns_15 (by decide) ?_
    exact W.iret (v := (-1)) hx hb hr (fun t ht hW => ⟨⟨(-1), v, rfl, ⟨hv, rfl, rfl⟩, by rw [ht]; exact hP, hD⟩, hS.F ht⟩) hS.2.2 dX7_learns_16

set_option maxHeartbeats 4000000 in
set_option maxRecDepth 100000 in
theorem e_X8_learns_o (l : Launch) (dC : Nat → ClassId) (dI : Nat → Nat → Nat) (cy : Nat → ClassId) (sz : Nat) (ad : Nat → Nat) (v : Nat → Nat → Int32) (hv : Ir v) (x0 x1 x2 : Int32) (hs : ¬ (0 ≤ x1.toInt ∧ x1.toInt ≤ 1)) (x3 : Int32) : Met l yX8_learns wsX8_learns ({ frames := 2, cells := 0, slots := 0, locals := 128 }) (va_Pc [.ref (ad 0), .int x0, .int x1, .int x2, .int x3] (ex_Pre dC dI cy sz (wm ad cy v))) (va_Qi (fun (r : Int32) (u : Nat → Nat → Int32) => Ir u ∧ r = -1 ∧ u = v) (fun u t => ex_Pst dC dI (va_A (wm ad cy v) sz) (wm ad cy u) t) (va_A (wm ad cy v) sz)) 0 0 (va_A (wm ad cy v) sz) := by
  refine Met.ofW (cc := cX8_learns) (maxL := 14) (ret := (some .int)) (by decide) rfl ?_
  intro p e s m args below meth c s₁ B hml hv
  obtain ⟨rfl, hsz, hE, hP, hK, hD0⟩ := hv
  have hx := B.exec
  have hb := B.bytes
  have hr := B.returns
  have hts := atoms_spec (ws := wsX8_learns) B.pre
  have hown : s.vm.findClass RX8 = some m.cls := findClass_of_methodNamed B.named
  have hlocks := B.notSynchronized
  subst hsz
  have hD := hD0.self (sz := s.heap.size)
  generalize hAe : va_A (wm ad cy v) s.heap.size = A at hD ⊢
  have hA : ∀ q : Nat, s.heap.size ≤ q → A q := fun q h => by rw [← hAe]; exact Or.inr h
  have hS : va_S A s.heap s.heap [] := va_S.rf
  have hP : va_P (dC, dI) vwCl (wm ad cy v) s.heap := hP
  have hl := lv_entry ([.ref (ad 0), .int x0, .int x1, .int x2, .int x3]) (n := 14) (Nat.le_of_ble_eq_true rfl)
  rw [lg_entry_eq]
  generalize (lg_sl ([.ref (ad 0), .int x0, .int x1, .int x2, .int x3]) ++ List.replicate (14 - (lg_sl ([.ref (ad 0), .int x0, .int x1, .int x2, .int x3])).length) Slot.unset).toArray = ls at hl ⊢
  have hl : lv_has ls 14 [(0, .ref (ad 0)), (1, .int x0), (2, .int x1), (3, .int x2), (4, .int x3)] := hl
  refine lv_aload_n hx hb dX8_learns_0 rfl (lv_at hl 0 rfl) ?_
  refine lv_iload_n hx hb dX8_learns_1 rfl (lv_at hl 1 rfl) ?_
  refine yw_i (w1 := fun (u : Nat → Nat → Int32) => wm ad cy u) hD hS hA (va_runV (As := [.int x0]) (rest := []) ⟨hx, hb, hml, hown, hts⟩ (q_X8_isCase l dC dI cy _ ad v hv x0) (cwV 1 hts gX8_learns_X8_isCase rfl rfl rfl hd_V_X8_isCase_1 ⟨Nat.le_of_ble_eq_true rfl, Nat.le_of_ble_eq_true rfl⟩) (yw_preV hE hK hP hD (ci := 8) (q := (RX8, TX8, 11)) (q0 := 0) rfl (wm_at (by decide) rc_0)) rfl rfl hl.1 rfl (lv_room (Nat.le_of_ble_eq_true rfl)) dX8_learns_2 ⟨Nat.le_of_ble_eq_true rfl, Nat.le_of_ble_eq_true rfl⟩) (fun r_1 v_1 H locs hw_1 hP hD hS => ?_)
  obtain ⟨-, hu_1, hw_1⟩ := hw_1
  replace hu_1 := hu_1.symm
  subst hu_1
  rcases hw_1 with ⟨rfl, ha_2⟩ | ⟨rfl, ha_2⟩
  · have hb_2 := hv 1 2 6 (by decide)
    have hj_2 : 0 ≤ x0.toInt ∧ x0.toInt ≤ 5 := ⟨by omega, by omega⟩
    refine lv_if_eq (tgt := 15) hx hb dX8_learns_5 (by decide) (fun c9 => absurd c9 (by decide)) (fun _ => ?_)
    refine lv_iload_n hx hb dX8_learns_8 rfl (lv_at hl 2 rfl) ?_
    refine yc_p hP hS (va_runS (As := [.int x1]) (rest := []) ⟨hx, hb, hml, hown, hts⟩ (c_X8_isSide l x1) (cwS 1 hts gX8_learns_X8_isSide rfl rfl rfl hd_S_X8_isSide_1 ⟨Nat.le_of_ble_eq_true rfl, Nat.le_of_ble_eq_true rfl⟩) ex_preP rfl rfl hl.1 rfl (lv_room (Nat.le_of_ble_eq_true rfl)) dX8_learns_9 ⟨Nat.le_of_ble_eq_true rfl, Nat.le_of_ble_eq_true rfl⟩) (fun r_3 H locs hw_3 hP hS => ?_)
    rcases wi_ca hw_3 with ⟨rfl, hc_4⟩ | ⟨rfl, hc_4⟩
    · have k_0 : (0 : Int32).toInt = 0 := by decide
      have k_1 : (1 : Int32).toInt = 1 := by decide
      have tc_4 := wi_tl hc_4
      exact absurd ⟨by omega, by omega⟩ hs
    · refine lv_if_ne (tgt := 17) hx hb dX8_learns_12 (by decide) (fun c9 => absurd c9 (by decide)) (fun _ => ?_)
      refine lv_iconst (v := (-1)) hx hb dX8_learns_15 (by decide) ?_
      exact W.iret (v := (-1)) hx hb hr (fun t ht hW => ⟨⟨(-1), v, rfl, ⟨hv, rfl, rfl⟩, by rw [ht]; exact hP, hD⟩, hS.F ht⟩) hS.2.2 dX8_learns_16
  · refine lv_if_eq (tgt := 15) hx hb dX8_learns_5 (by decide) (fun _ => ?_) (fun c9 => absurd c9 (by decide))
    refine lv_iconst (v := (-1)) hx hb dX8_learns_15 (by decide) ?_
    exact W.iret (v := (-1)) hx hb hr (fun t ht hW => ⟨⟨(-1), v, rfl, ⟨hv, rfl, rfl⟩, by rw [ht]; exact hP, hD⟩, hS.F ht⟩) hS.2.2 dX8_learns_16

set_option maxHeartbeats 4000000 in
theorem S_learns_00 {n r r2 x0 x1 : Int32} {v u v2 u2 : Nat → Nat → Int32} (hI : Iv v) (hQ : Ir v2) (h3 : RR3 n v v2) (p : (¬ (0 ≤ x0.toInt ∧ x0.toInt < (v 13 2).toInt) → r = -1 ∧ u = v) ∧ ((0 ≤ x0.toInt ∧ x0.toInt < (v 13 2).toInt) ∧ ¬ (0 ≤ x1.toInt ∧ x1.toInt < (v (29 + 15 * x0.toNatClampNeg) 2).toInt) → r = -5 ∧ u = v) ∧ (((0 ≤ x0.toInt ∧ x0.toInt < (v 13 2).toInt) ∧ (0 ≤ x1.toInt ∧ x1.toInt < (v (29 + 15 * x0.toNatClampNeg) 2).toInt)) ∧ ((v (29 + 15 * x0.toNatClampNeg) 0).toInt = 1 ∧ x1.toInt + 1 = (v (29 + 15 * x0.toNatClampNeg) 2).toInt) → r = (if v (33 + 15 * x0.toNatClampNeg + 0) x1.toNatClampNeg < 2 * v (29 + 15 * x0.toNatClampNeg) 1 - v (33 + 15 * x0.toNatClampNeg + 0) x1.toNatClampNeg then 2 * v (29 + 15 * x0.toNatClampNeg) 1 - v (33 + 15 * x0.toNatClampNeg + 0) x1.toNatClampNeg else v (33 + 15 * x0.toNatClampNeg + 0) x1.toNatClampNeg) ∧ u = v) ∧ (((0 ≤ x0.toInt ∧ x0.toInt < (v 13 2).toInt) ∧ (0 ≤ x1.toInt ∧ x1.toInt < (v (29 + 15 * x0.toNatClampNeg) 2).toInt)) ∧ ¬ ((v (29 + 15 * x0.toNatClampNeg) 0).toInt = 1 ∧ x1.toInt + 1 = (v (29 + 15 * x0.toNatClampNeg) 2).toInt) → r = 0 ∧ u = v)) (q : (¬ (0 ≤ x0.toInt ∧ x0.toInt < (v2 1 2).toInt) → r2 = -1 ∧ u2 = v2) ∧ ((0 ≤ x0.toInt ∧ x0.toInt < (v2 1 2).toInt) ∧ ¬ (0 ≤ x1.toInt ∧ x1.toInt < (v2 1 (36 + 7 * x0.toNatClampNeg)).toInt) → r2 = -5 ∧ u2 = v2) ∧ (((0 ≤ x0.toInt ∧ x0.toInt < (v2 1 2).toInt) ∧ (0 ≤ x1.toInt ∧ x1.toInt < (v2 1 (36 + 7 * x0.toNatClampNeg)).toInt)) → lkR 0 0 (v2 1 (86 + 10 * x0.toNatClampNeg + 2 * x1.toNatClampNeg)).toInt (v2 1 (87 + 10 * x0.toNatClampNeg + 2 * x1.toNatClampNeg)).toInt r2.toInt ∧ u2 = v2)) : r = r2 ∧ RR3 n u u2 := by
  have h := h3.1
  have e0 : v 13 0 = v2 1 0 := h.1.1 _ _ _ (lk_a (by decide))
  have e1 : v 13 1 = v2 1 1 := h.1.1 _ _ _ (lk_a (by decide))
  have e2 : v 13 2 = v2 1 2 := h.1.1 _ _ _ (lk_a (by decide))
  have e3 : v 13 3 = v2 1 3 := h.1.1 _ _ _ (lk_a (by decide))
  have hb0 := hQ 1 0 8 (by decide)
  have hb1 := hQ 1 1 4 (by decide)
  have hb2 := hQ 1 2 6 (by decide)
  have hb3 := hQ 1 3 6 (by decide)
  rw [e2] at p
  by_cases hC : (0 ≤ x0.toInt ∧ x0.toInt < (v2 1 2).toInt)
  · have zX := t_nn (x := x0) (by omega)
    have hX : x0.toNatClampNeg < 6 := by omega
    have hXa : (x0.toNatClampNeg : Int) < (v2 1 2).toInt := by omega
    have ev : v (29 + 15 * x0.toNatClampNeg) 0 = v2 1 (34 + 7 * x0.toNatClampNeg) := h.1.1 _ _ _ (lk_c0 hX hXa)
    have ew : v (29 + 15 * x0.toNatClampNeg) 2 = v2 1 (36 + 7 * x0.toNatClampNeg) := h.1.1 _ _ _ (lk_c2 hX hXa)
    rw [ev, ew] at p
    have hb := hQ 1 (36 + 7 * x0.toNatClampNeg) 5 (bS_c (by omega) (by omega))
    by_cases hR : 0 ≤ x1.toInt ∧ x1.toInt < (v2 1 (36 + 7 * x0.toNatClampNeg)).toInt
    · have zT := t_nn (x := x1) (by omega)
      obtain ⟨q1, q2⟩ := q.2.2 ⟨hC, hR⟩
      have eo : v (33 + 15 * x0.toNatClampNeg + 0) x1.toNatClampNeg = v2 1 (86 + 10 * x0.toNatClampNeg + 2 * x1.toNatClampNeg) := (h.1.1 _ _ _ (lk_o (i := 0) hX hXa (by decide) (by omega) (by omega))).trans (congrArg (v2 1) (by omega))
      rw [eo] at p
      obtain ⟨-, x2, -, -⟩ := h.1.2.1 _ hX hXa
      obtain ⟨d1, d2, d3, d4⟩ := (h3.2.1 _ hX hXa).2.2.1.2 x1.toNatClampNeg (by omega) (by omega)
      clear h
      obtain ⟨own, eown⟩ : ∃ z : Int32, z = v2 1 (86 + 10 * x0.toNatClampNeg + 2 * x1.toNatClampNeg) := ⟨_, rfl⟩
      obtain ⟨oth, eoth⟩ : ∃ z : Int32, z = v2 1 (87 + 10 * x0.toNatClampNeg + 2 * x1.toNatClampNeg) := ⟨_, rfl⟩
      obtain ⟨sm, esm⟩ : ∃ z : Int32, z = v (13 + 16 + 15 * x0.toNatClampNeg) 1 := ⟨_, rfl⟩
      rw [← eown, ← eoth] at q1 d3 d4
      rw [← eown] at d1
      rw [← eoth] at d2
      rw [← eown, show v (29 + 15 * x0.toNatClampNeg) 1 = sm from esm.symm] at p
      rw [← esm] at x2
      have k1 : (1 : Int32).toInt = 1 := by decide
      have k2 : (2 : Int32).toInt = 2 := by decide
      have k0 : (0 : Int32).toInt = 0 := by decide
      have k100 : (100 : Int32).toInt = 100 := by decide
      have lq := lq_00 (by omega) (by omega) q1
      by_cases hM : (v2 1 (34 + 7 * x0.toNatClampNeg)).toInt = 1 ∧ x1.toInt + 1 = (v2 1 (36 + 7 * x0.toNatClampNeg)).toInt
      · obtain ⟨p1, p2⟩ := p.2.2.1 ⟨⟨hC, hR⟩, hM⟩
        obtain ⟨m1, m2⟩ := d3 ⟨hM.1, by omega⟩
        have esum : sm.toInt = (own.toInt + oth.toInt) / 2 := by rw [x2 hM.1, m2, t_half (by rw [t_add (by omega)]; omega), t_add (by omega)]
        have em : (2 * sm).toInt = 2 * sm.toInt := by rw [t_mul (by rw [k2]; omega), k2]
        have ey : (2 * sm - own).toInt = 2 * sm.toInt - own.toInt := by rw [t_sub (by rw [em]; omega), em]
        obtain ⟨l1, l2⟩ := lq.2 (by omega) sm.toInt esum
        refine ⟨?_, by rw [p2, q2]; exact h3⟩
        rw [p1]
        refine Int32.toInt_inj.mp ?_
        by_cases hL : own < (2 * sm - own)
        · have hl := Int32.lt_iff_toInt_lt.mp hL
          rw [if_pos hL]
          omega
        · have hl := Int32.le_iff_toInt_le.mp (Int32.not_lt.mp hL)
          rw [if_neg hL]
          omega
      · obtain ⟨p1, p2⟩ := p.2.2.2 ⟨⟨hC, hR⟩, hM⟩
        have m1 := d4 (fun w => hM ⟨w.1, by omega⟩)
        refine ⟨?_, by rw [p2, q2]; exact h3⟩
        rw [p1]
        refine Int32.toInt_inj.mp ?_
        have l1 := lq.1 (by omega)
        omega
    · obtain ⟨p1, p2⟩ := p.2.1 ⟨hC, hR⟩
      obtain ⟨q1, q2⟩ := q.2.1 ⟨hC, hR⟩
      rw [p1, q1, p2, q2]
      exact ⟨rfl, h3⟩
  · obtain ⟨p1, p2⟩ := p.1 hC
    obtain ⟨q1, q2⟩ := q.1 hC
    rw [p1, q1, p2, q2]
    exact ⟨rfl, h3⟩

set_option maxHeartbeats 4000000 in
theorem S_learns_01 {n r r2 x0 x1 : Int32} {v u v2 u2 : Nat → Nat → Int32} (hI : Iv v) (hQ : Ir v2) (h3 : RR3 n v v2) (p : (¬ (0 ≤ x0.toInt ∧ x0.toInt < (v 13 2).toInt) → r = -1 ∧ u = v) ∧ ((0 ≤ x0.toInt ∧ x0.toInt < (v 13 2).toInt) ∧ ¬ (0 ≤ x1.toInt ∧ x1.toInt < (v (29 + 15 * x0.toNatClampNeg) 2).toInt) → r = -5 ∧ u = v) ∧ (((0 ≤ x0.toInt ∧ x0.toInt < (v 13 2).toInt) ∧ (0 ≤ x1.toInt ∧ x1.toInt < (v (29 + 15 * x0.toNatClampNeg) 2).toInt)) ∧ ((v (29 + 15 * x0.toNatClampNeg) 0).toInt = 1 ∧ x1.toInt + 1 = (v (29 + 15 * x0.toNatClampNeg) 2).toInt) → r = (if 2 * v (29 + 15 * x0.toNatClampNeg) 1 + 1 - v (33 + 15 * x0.toNatClampNeg + 0) x1.toNatClampNeg < 100 then 2 * v (29 + 15 * x0.toNatClampNeg) 1 + 1 - v (33 + 15 * x0.toNatClampNeg + 0) x1.toNatClampNeg else 100) ∧ u = v) ∧ (((0 ≤ x0.toInt ∧ x0.toInt < (v 13 2).toInt) ∧ (0 ≤ x1.toInt ∧ x1.toInt < (v (29 + 15 * x0.toNatClampNeg) 2).toInt)) ∧ ¬ ((v (29 + 15 * x0.toNatClampNeg) 0).toInt = 1 ∧ x1.toInt + 1 = (v (29 + 15 * x0.toNatClampNeg) 2).toInt) → r = v (33 + 15 * x0.toNatClampNeg + 0) x1.toNatClampNeg - 1 ∧ u = v)) (q : (¬ (0 ≤ x0.toInt ∧ x0.toInt < (v2 1 2).toInt) → r2 = -1 ∧ u2 = v2) ∧ ((0 ≤ x0.toInt ∧ x0.toInt < (v2 1 2).toInt) ∧ ¬ (0 ≤ x1.toInt ∧ x1.toInt < (v2 1 (36 + 7 * x0.toNatClampNeg)).toInt) → r2 = -5 ∧ u2 = v2) ∧ (((0 ≤ x0.toInt ∧ x0.toInt < (v2 1 2).toInt) ∧ (0 ≤ x1.toInt ∧ x1.toInt < (v2 1 (36 + 7 * x0.toNatClampNeg)).toInt)) → lkR 0 1 (v2 1 (86 + 10 * x0.toNatClampNeg + 2 * x1.toNatClampNeg)).toInt (v2 1 (87 + 10 * x0.toNatClampNeg + 2 * x1.toNatClampNeg)).toInt r2.toInt ∧ u2 = v2)) : r = r2 ∧ RR3 n u u2 := by
  have h := h3.1
  have e0 : v 13 0 = v2 1 0 := h.1.1 _ _ _ (lk_a (by decide))
  have e1 : v 13 1 = v2 1 1 := h.1.1 _ _ _ (lk_a (by decide))
  have e2 : v 13 2 = v2 1 2 := h.1.1 _ _ _ (lk_a (by decide))
  have e3 : v 13 3 = v2 1 3 := h.1.1 _ _ _ (lk_a (by decide))
  have hb0 := hQ 1 0 8 (by decide)
  have hb1 := hQ 1 1 4 (by decide)
  have hb2 := hQ 1 2 6 (by decide)
  have hb3 := hQ 1 3 6 (by decide)
  rw [e2] at p
  by_cases hC : (0 ≤ x0.toInt ∧ x0.toInt < (v2 1 2).toInt)
  · have zX := t_nn (x := x0) (by omega)
    have hX : x0.toNatClampNeg < 6 := by omega
    have hXa : (x0.toNatClampNeg : Int) < (v2 1 2).toInt := by omega
    have ev : v (29 + 15 * x0.toNatClampNeg) 0 = v2 1 (34 + 7 * x0.toNatClampNeg) := h.1.1 _ _ _ (lk_c0 hX hXa)
    have ew : v (29 + 15 * x0.toNatClampNeg) 2 = v2 1 (36 + 7 * x0.toNatClampNeg) := h.1.1 _ _ _ (lk_c2 hX hXa)
    rw [ev, ew] at p
    have hb := hQ 1 (36 + 7 * x0.toNatClampNeg) 5 (bS_c (by omega) (by omega))
    by_cases hR : 0 ≤ x1.toInt ∧ x1.toInt < (v2 1 (36 + 7 * x0.toNatClampNeg)).toInt
    · have zT := t_nn (x := x1) (by omega)
      obtain ⟨q1, q2⟩ := q.2.2 ⟨hC, hR⟩
      have eo : v (33 + 15 * x0.toNatClampNeg + 0) x1.toNatClampNeg = v2 1 (86 + 10 * x0.toNatClampNeg + 2 * x1.toNatClampNeg) := (h.1.1 _ _ _ (lk_o (i := 0) hX hXa (by decide) (by omega) (by omega))).trans (congrArg (v2 1) (by omega))
      rw [eo] at p
      obtain ⟨-, x2, -, -⟩ := h.1.2.1 _ hX hXa
      obtain ⟨d1, d2, d3, d4⟩ := (h3.2.1 _ hX hXa).2.2.1.2 x1.toNatClampNeg (by omega) (by omega)
      clear h
      obtain ⟨own, eown⟩ : ∃ z : Int32, z = v2 1 (86 + 10 * x0.toNatClampNeg + 2 * x1.toNatClampNeg) := ⟨_, rfl⟩
      obtain ⟨oth, eoth⟩ : ∃ z : Int32, z = v2 1 (87 + 10 * x0.toNatClampNeg + 2 * x1.toNatClampNeg) := ⟨_, rfl⟩
      obtain ⟨sm, esm⟩ : ∃ z : Int32, z = v (13 + 16 + 15 * x0.toNatClampNeg) 1 := ⟨_, rfl⟩
      rw [← eown, ← eoth] at q1 d3 d4
      rw [← eown] at d1
      rw [← eoth] at d2
      rw [← eown, show v (29 + 15 * x0.toNatClampNeg) 1 = sm from esm.symm] at p
      rw [← esm] at x2
      have k1 : (1 : Int32).toInt = 1 := by decide
      have k2 : (2 : Int32).toInt = 2 := by decide
      have k0 : (0 : Int32).toInt = 0 := by decide
      have k100 : (100 : Int32).toInt = 100 := by decide
      have lq := lq_01 (by omega) (by omega) q1
      by_cases hM : (v2 1 (34 + 7 * x0.toNatClampNeg)).toInt = 1 ∧ x1.toInt + 1 = (v2 1 (36 + 7 * x0.toNatClampNeg)).toInt
      · obtain ⟨p1, p2⟩ := p.2.2.1 ⟨⟨hC, hR⟩, hM⟩
        obtain ⟨m1, m2⟩ := d3 ⟨hM.1, by omega⟩
        have esum : sm.toInt = (own.toInt + oth.toInt) / 2 := by rw [x2 hM.1, m2, t_half (by rw [t_add (by omega)]; omega), t_add (by omega)]
        have em : (2 * sm).toInt = 2 * sm.toInt := by rw [t_mul (by rw [k2]; omega), k2]
        have ey0 : (2 * sm + 1).toInt = 2 * sm.toInt + 1 := by rw [t_add (by rw [em, k1]; omega), em, k1]
        have ey : (2 * sm + 1 - own).toInt = 2 * sm.toInt + 1 - own.toInt := by rw [t_sub (by rw [ey0]; omega), ey0]
        obtain ⟨l1, l2⟩ := lq.2 (by omega) sm.toInt esum
        refine ⟨?_, by rw [p2, q2]; exact h3⟩
        rw [p1]
        refine Int32.toInt_inj.mp ?_
        by_cases hL : (2 * sm + 1 - own) < (100 : Int32)
        · have hl := Int32.lt_iff_toInt_lt.mp hL
          rw [if_pos hL]
          omega
        · have hl := Int32.le_iff_toInt_le.mp (Int32.not_lt.mp hL)
          rw [if_neg hL]
          omega
      · obtain ⟨p1, p2⟩ := p.2.2.2 ⟨⟨hC, hR⟩, hM⟩
        have m1 := d4 (fun w => hM ⟨w.1, by omega⟩)
        refine ⟨?_, by rw [p2, q2]; exact h3⟩
        rw [p1]
        refine Int32.toInt_inj.mp ?_
        have l1 := lq.1 (by omega)
        rw [t_sub (by rw [k1]; omega), k1]
        omega
    · obtain ⟨p1, p2⟩ := p.2.1 ⟨hC, hR⟩
      obtain ⟨q1, q2⟩ := q.2.1 ⟨hC, hR⟩
      rw [p1, q1, p2, q2]
      exact ⟨rfl, h3⟩
  · obtain ⟨p1, p2⟩ := p.1 hC
    obtain ⟨q1, q2⟩ := q.1 hC
    rw [p1, q1, p2, q2]
    exact ⟨rfl, h3⟩

set_option maxHeartbeats 4000000 in
theorem S_learns_10 {n r r2 x0 x1 : Int32} {v u v2 u2 : Nat → Nat → Int32} (hI : Iv v) (hQ : Ir v2) (h3 : RR3 n v v2) (p : (¬ (0 ≤ x0.toInt ∧ x0.toInt < (v 13 2).toInt) → r = -1 ∧ u = v) ∧ ((0 ≤ x0.toInt ∧ x0.toInt < (v 13 2).toInt) ∧ ¬ (0 ≤ x1.toInt ∧ x1.toInt < (v (29 + 15 * x0.toNatClampNeg) 2).toInt) → r = -5 ∧ u = v) ∧ (((0 ≤ x0.toInt ∧ x0.toInt < (v 13 2).toInt) ∧ (0 ≤ x1.toInt ∧ x1.toInt < (v (29 + 15 * x0.toNatClampNeg) 2).toInt)) ∧ ((v (29 + 15 * x0.toNatClampNeg) 0).toInt = 1 ∧ x1.toInt + 1 = (v (29 + 15 * x0.toNatClampNeg) 2).toInt) → r = (if 0 < 2 * v (29 + 15 * x0.toNatClampNeg) 1 - v (33 + 15 * x0.toNatClampNeg + 1) x1.toNatClampNeg then 2 * v (29 + 15 * x0.toNatClampNeg) 1 - v (33 + 15 * x0.toNatClampNeg + 1) x1.toNatClampNeg else 0) ∧ u = v) ∧ (((0 ≤ x0.toInt ∧ x0.toInt < (v 13 2).toInt) ∧ (0 ≤ x1.toInt ∧ x1.toInt < (v (29 + 15 * x0.toNatClampNeg) 2).toInt)) ∧ ¬ ((v (29 + 15 * x0.toNatClampNeg) 0).toInt = 1 ∧ x1.toInt + 1 = (v (29 + 15 * x0.toNatClampNeg) 2).toInt) → r = v (33 + 15 * x0.toNatClampNeg + 1) x1.toNatClampNeg + 1 ∧ u = v)) (q : (¬ (0 ≤ x0.toInt ∧ x0.toInt < (v2 1 2).toInt) → r2 = -1 ∧ u2 = v2) ∧ ((0 ≤ x0.toInt ∧ x0.toInt < (v2 1 2).toInt) ∧ ¬ (0 ≤ x1.toInt ∧ x1.toInt < (v2 1 (36 + 7 * x0.toNatClampNeg)).toInt) → r2 = -5 ∧ u2 = v2) ∧ (((0 ≤ x0.toInt ∧ x0.toInt < (v2 1 2).toInt) ∧ (0 ≤ x1.toInt ∧ x1.toInt < (v2 1 (36 + 7 * x0.toNatClampNeg)).toInt)) → lkR 1 0 (v2 1 (87 + 10 * x0.toNatClampNeg + 2 * x1.toNatClampNeg)).toInt (v2 1 (86 + 10 * x0.toNatClampNeg + 2 * x1.toNatClampNeg)).toInt r2.toInt ∧ u2 = v2)) : r = r2 ∧ RR3 n u u2 := by
  have h := h3.1
  have e0 : v 13 0 = v2 1 0 := h.1.1 _ _ _ (lk_a (by decide))
  have e1 : v 13 1 = v2 1 1 := h.1.1 _ _ _ (lk_a (by decide))
  have e2 : v 13 2 = v2 1 2 := h.1.1 _ _ _ (lk_a (by decide))
  have e3 : v 13 3 = v2 1 3 := h.1.1 _ _ _ (lk_a (by decide))
  have hb0 := hQ 1 0 8 (by decide)
  have hb1 := hQ 1 1 4 (by decide)
  have hb2 := hQ 1 2 6 (by decide)
  have hb3 := hQ 1 3 6 (by decide)
  rw [e2] at p
  by_cases hC : (0 ≤ x0.toInt ∧ x0.toInt < (v2 1 2).toInt)
  · have zX := t_nn (x := x0) (by omega)
    have hX : x0.toNatClampNeg < 6 := by omega
    have hXa : (x0.toNatClampNeg : Int) < (v2 1 2).toInt := by omega
    have ev : v (29 + 15 * x0.toNatClampNeg) 0 = v2 1 (34 + 7 * x0.toNatClampNeg) := h.1.1 _ _ _ (lk_c0 hX hXa)
    have ew : v (29 + 15 * x0.toNatClampNeg) 2 = v2 1 (36 + 7 * x0.toNatClampNeg) := h.1.1 _ _ _ (lk_c2 hX hXa)
    rw [ev, ew] at p
    have hb := hQ 1 (36 + 7 * x0.toNatClampNeg) 5 (bS_c (by omega) (by omega))
    by_cases hR : 0 ≤ x1.toInt ∧ x1.toInt < (v2 1 (36 + 7 * x0.toNatClampNeg)).toInt
    · have zT := t_nn (x := x1) (by omega)
      obtain ⟨q1, q2⟩ := q.2.2 ⟨hC, hR⟩
      have eo : v (33 + 15 * x0.toNatClampNeg + 1) x1.toNatClampNeg = v2 1 (87 + 10 * x0.toNatClampNeg + 2 * x1.toNatClampNeg) := (h.1.1 _ _ _ (lk_o (i := 1) hX hXa (by decide) (by omega) (by omega))).trans (congrArg (v2 1) (by omega))
      rw [eo] at p
      obtain ⟨-, x2, -, -⟩ := h.1.2.1 _ hX hXa
      obtain ⟨d1, d2, d3, d4⟩ := (h3.2.1 _ hX hXa).2.2.1.2 x1.toNatClampNeg (by omega) (by omega)
      clear h
      obtain ⟨own, eown⟩ : ∃ z : Int32, z = v2 1 (87 + 10 * x0.toNatClampNeg + 2 * x1.toNatClampNeg) := ⟨_, rfl⟩
      obtain ⟨oth, eoth⟩ : ∃ z : Int32, z = v2 1 (86 + 10 * x0.toNatClampNeg + 2 * x1.toNatClampNeg) := ⟨_, rfl⟩
      obtain ⟨sm, esm⟩ : ∃ z : Int32, z = v (13 + 16 + 15 * x0.toNatClampNeg) 1 := ⟨_, rfl⟩
      rw [← eown, ← eoth] at q1 d3 d4
      rw [← eown] at d2
      rw [← eoth] at d1
      rw [← eown, show v (29 + 15 * x0.toNatClampNeg) 1 = sm from esm.symm] at p
      rw [← esm] at x2
      have k1 : (1 : Int32).toInt = 1 := by decide
      have k2 : (2 : Int32).toInt = 2 := by decide
      have k0 : (0 : Int32).toInt = 0 := by decide
      have k100 : (100 : Int32).toInt = 100 := by decide
      have lq := lq_10 (by omega) (by omega) q1
      by_cases hM : (v2 1 (34 + 7 * x0.toNatClampNeg)).toInt = 1 ∧ x1.toInt + 1 = (v2 1 (36 + 7 * x0.toNatClampNeg)).toInt
      · obtain ⟨p1, p2⟩ := p.2.2.1 ⟨⟨hC, hR⟩, hM⟩
        obtain ⟨m1, m2⟩ := d3 ⟨hM.1, by omega⟩
        have esum : sm.toInt = (own.toInt + oth.toInt) / 2 := by rw [x2 hM.1, m2, t_half (by rw [t_add (by omega)]; omega), t_add (by omega)]; omega
        have em : (2 * sm).toInt = 2 * sm.toInt := by rw [t_mul (by rw [k2]; omega), k2]
        have ey : (2 * sm - own).toInt = 2 * sm.toInt - own.toInt := by rw [t_sub (by rw [em]; omega), em]
        obtain ⟨l1, l2⟩ := lq.2 (by omega) sm.toInt esum
        refine ⟨?_, by rw [p2, q2]; exact h3⟩
        rw [p1]
        refine Int32.toInt_inj.mp ?_
        by_cases hL : (0 : Int32) < (2 * sm - own)
        · have hl := Int32.lt_iff_toInt_lt.mp hL
          rw [if_pos hL]
          omega
        · have hl := Int32.le_iff_toInt_le.mp (Int32.not_lt.mp hL)
          rw [if_neg hL]
          omega
      · obtain ⟨p1, p2⟩ := p.2.2.2 ⟨⟨hC, hR⟩, hM⟩
        have m1 := d4 (fun w => hM ⟨w.1, by omega⟩)
        refine ⟨?_, by rw [p2, q2]; exact h3⟩
        rw [p1]
        refine Int32.toInt_inj.mp ?_
        have l1 := lq.1 (by omega)
        rw [t_add (by rw [k1]; omega), k1]
        omega
    · obtain ⟨p1, p2⟩ := p.2.1 ⟨hC, hR⟩
      obtain ⟨q1, q2⟩ := q.2.1 ⟨hC, hR⟩
      rw [p1, q1, p2, q2]
      exact ⟨rfl, h3⟩
  · obtain ⟨p1, p2⟩ := p.1 hC
    obtain ⟨q1, q2⟩ := q.1 hC
    rw [p1, q1, p2, q2]
    exact ⟨rfl, h3⟩

set_option maxHeartbeats 4000000 in
theorem S_learns_11 {n r r2 x0 x1 : Int32} {v u v2 u2 : Nat → Nat → Int32} (hI : Iv v) (hQ : Ir v2) (h3 : RR3 n v v2) (p : (¬ (0 ≤ x0.toInt ∧ x0.toInt < (v 13 2).toInt) → r = -1 ∧ u = v) ∧ ((0 ≤ x0.toInt ∧ x0.toInt < (v 13 2).toInt) ∧ ¬ (0 ≤ x1.toInt ∧ x1.toInt < (v (29 + 15 * x0.toNatClampNeg) 2).toInt) → r = -5 ∧ u = v) ∧ (((0 ≤ x0.toInt ∧ x0.toInt < (v 13 2).toInt) ∧ (0 ≤ x1.toInt ∧ x1.toInt < (v (29 + 15 * x0.toNatClampNeg) 2).toInt)) ∧ ((v (29 + 15 * x0.toNatClampNeg) 0).toInt = 1 ∧ x1.toInt + 1 = (v (29 + 15 * x0.toNatClampNeg) 2).toInt) → r = (if 2 * v (29 + 15 * x0.toNatClampNeg) 1 + 1 - v (33 + 15 * x0.toNatClampNeg + 1) x1.toNatClampNeg < v (33 + 15 * x0.toNatClampNeg + 1) x1.toNatClampNeg then 2 * v (29 + 15 * x0.toNatClampNeg) 1 + 1 - v (33 + 15 * x0.toNatClampNeg + 1) x1.toNatClampNeg else v (33 + 15 * x0.toNatClampNeg + 1) x1.toNatClampNeg) ∧ u = v) ∧ (((0 ≤ x0.toInt ∧ x0.toInt < (v 13 2).toInt) ∧ (0 ≤ x1.toInt ∧ x1.toInt < (v (29 + 15 * x0.toNatClampNeg) 2).toInt)) ∧ ¬ ((v (29 + 15 * x0.toNatClampNeg) 0).toInt = 1 ∧ x1.toInt + 1 = (v (29 + 15 * x0.toNatClampNeg) 2).toInt) → r = 100 ∧ u = v)) (q : (¬ (0 ≤ x0.toInt ∧ x0.toInt < (v2 1 2).toInt) → r2 = -1 ∧ u2 = v2) ∧ ((0 ≤ x0.toInt ∧ x0.toInt < (v2 1 2).toInt) ∧ ¬ (0 ≤ x1.toInt ∧ x1.toInt < (v2 1 (36 + 7 * x0.toNatClampNeg)).toInt) → r2 = -5 ∧ u2 = v2) ∧ (((0 ≤ x0.toInt ∧ x0.toInt < (v2 1 2).toInt) ∧ (0 ≤ x1.toInt ∧ x1.toInt < (v2 1 (36 + 7 * x0.toNatClampNeg)).toInt)) → lkR 1 1 (v2 1 (87 + 10 * x0.toNatClampNeg + 2 * x1.toNatClampNeg)).toInt (v2 1 (86 + 10 * x0.toNatClampNeg + 2 * x1.toNatClampNeg)).toInt r2.toInt ∧ u2 = v2)) : r = r2 ∧ RR3 n u u2 := by
  have h := h3.1
  have e0 : v 13 0 = v2 1 0 := h.1.1 _ _ _ (lk_a (by decide))
  have e1 : v 13 1 = v2 1 1 := h.1.1 _ _ _ (lk_a (by decide))
  have e2 : v 13 2 = v2 1 2 := h.1.1 _ _ _ (lk_a (by decide))
  have e3 : v 13 3 = v2 1 3 := h.1.1 _ _ _ (lk_a (by decide))
  have hb0 := hQ 1 0 8 (by decide)
  have hb1 := hQ 1 1 4 (by decide)
  have hb2 := hQ 1 2 6 (by decide)
  have hb3 := hQ 1 3 6 (by decide)
  rw [e2] at p
  by_cases hC : (0 ≤ x0.toInt ∧ x0.toInt < (v2 1 2).toInt)
  · have zX := t_nn (x := x0) (by omega)
    have hX : x0.toNatClampNeg < 6 := by omega
    have hXa : (x0.toNatClampNeg : Int) < (v2 1 2).toInt := by omega
    have ev : v (29 + 15 * x0.toNatClampNeg) 0 = v2 1 (34 + 7 * x0.toNatClampNeg) := h.1.1 _ _ _ (lk_c0 hX hXa)
    have ew : v (29 + 15 * x0.toNatClampNeg) 2 = v2 1 (36 + 7 * x0.toNatClampNeg) := h.1.1 _ _ _ (lk_c2 hX hXa)
    rw [ev, ew] at p
    have hb := hQ 1 (36 + 7 * x0.toNatClampNeg) 5 (bS_c (by omega) (by omega))
    by_cases hR : 0 ≤ x1.toInt ∧ x1.toInt < (v2 1 (36 + 7 * x0.toNatClampNeg)).toInt
    · have zT := t_nn (x := x1) (by omega)
      obtain ⟨q1, q2⟩ := q.2.2 ⟨hC, hR⟩
      have eo : v (33 + 15 * x0.toNatClampNeg + 1) x1.toNatClampNeg = v2 1 (87 + 10 * x0.toNatClampNeg + 2 * x1.toNatClampNeg) := (h.1.1 _ _ _ (lk_o (i := 1) hX hXa (by decide) (by omega) (by omega))).trans (congrArg (v2 1) (by omega))
      rw [eo] at p
      obtain ⟨-, x2, -, -⟩ := h.1.2.1 _ hX hXa
      obtain ⟨d1, d2, d3, d4⟩ := (h3.2.1 _ hX hXa).2.2.1.2 x1.toNatClampNeg (by omega) (by omega)
      clear h
      obtain ⟨own, eown⟩ : ∃ z : Int32, z = v2 1 (87 + 10 * x0.toNatClampNeg + 2 * x1.toNatClampNeg) := ⟨_, rfl⟩
      obtain ⟨oth, eoth⟩ : ∃ z : Int32, z = v2 1 (86 + 10 * x0.toNatClampNeg + 2 * x1.toNatClampNeg) := ⟨_, rfl⟩
      obtain ⟨sm, esm⟩ : ∃ z : Int32, z = v (13 + 16 + 15 * x0.toNatClampNeg) 1 := ⟨_, rfl⟩
      rw [← eown, ← eoth] at q1 d3 d4
      rw [← eown] at d2
      rw [← eoth] at d1
      rw [← eown, show v (29 + 15 * x0.toNatClampNeg) 1 = sm from esm.symm] at p
      rw [← esm] at x2
      have k1 : (1 : Int32).toInt = 1 := by decide
      have k2 : (2 : Int32).toInt = 2 := by decide
      have k0 : (0 : Int32).toInt = 0 := by decide
      have k100 : (100 : Int32).toInt = 100 := by decide
      have lq := lq_11 (by omega) (by omega) q1
      by_cases hM : (v2 1 (34 + 7 * x0.toNatClampNeg)).toInt = 1 ∧ x1.toInt + 1 = (v2 1 (36 + 7 * x0.toNatClampNeg)).toInt
      · obtain ⟨p1, p2⟩ := p.2.2.1 ⟨⟨hC, hR⟩, hM⟩
        obtain ⟨m1, m2⟩ := d3 ⟨hM.1, by omega⟩
        have esum : sm.toInt = (own.toInt + oth.toInt) / 2 := by rw [x2 hM.1, m2, t_half (by rw [t_add (by omega)]; omega), t_add (by omega)]; omega
        have em : (2 * sm).toInt = 2 * sm.toInt := by rw [t_mul (by rw [k2]; omega), k2]
        have ey0 : (2 * sm + 1).toInt = 2 * sm.toInt + 1 := by rw [t_add (by rw [em, k1]; omega), em, k1]
        have ey : (2 * sm + 1 - own).toInt = 2 * sm.toInt + 1 - own.toInt := by rw [t_sub (by rw [ey0]; omega), ey0]
        obtain ⟨l1, l2⟩ := lq.2 (by omega) sm.toInt esum
        refine ⟨?_, by rw [p2, q2]; exact h3⟩
        rw [p1]
        refine Int32.toInt_inj.mp ?_
        by_cases hL : (2 * sm + 1 - own) < own
        · have hl := Int32.lt_iff_toInt_lt.mp hL
          rw [if_pos hL]
          omega
        · have hl := Int32.le_iff_toInt_le.mp (Int32.not_lt.mp hL)
          rw [if_neg hL]
          omega
      · obtain ⟨p1, p2⟩ := p.2.2.2 ⟨⟨hC, hR⟩, hM⟩
        have m1 := d4 (fun w => hM ⟨w.1, by omega⟩)
        refine ⟨?_, by rw [p2, q2]; exact h3⟩
        rw [p1]
        refine Int32.toInt_inj.mp ?_
        have l1 := lq.1 (by omega)
        omega
    · obtain ⟨p1, p2⟩ := p.2.1 ⟨hC, hR⟩
      obtain ⟨q1, q2⟩ := q.2.1 ⟨hC, hR⟩
      rw [p1, q1, p2, q2]
      exact ⟨rfl, h3⟩
  · obtain ⟨p1, p2⟩ := p.1 hC
    obtain ⟨q1, q2⟩ := q.1 hC
    rw [p1, q1, p2, q2]
    exact ⟨rfl, h3⟩
noncomputable def wsL_law_r1 : List Cond := [Cond.classLink RL 7 RX7, Cond.instantiable RX7 5, Cond.initialized RX7, Cond.classLink RL 10 RX8, Cond.instantiable RX8 11, Cond.initialized RX8, Cond.methodLink RL 9 yX7_init, Cond.instanceMethod yX7_init, Cond.code yX7_init cX7_init 1 none, Cond.methodLink RX7 3 objectInit, Cond.instanceMethod objectInit, Cond.code objectInit ⟨#[0xb1]⟩ 1 none, Cond.classLink RX7 9 RX1, Cond.instantiable RX1 7, Cond.initialized RX1, Cond.fieldLink RX7 12 "QuietStairs" "now" "LQuietStairs$House;", Cond.classLink RX7 16 RX4, Cond.instantiable RX4 11, Cond.initialized RX4, Cond.fieldLink RX7 19 "QuietStairs" "planner" "LQuietStairs$Planner;", Cond.classLink RX7 23 RX5, Cond.instantiable RX5 3, Cond.initialized RX5, Cond.fieldLink RX7 26 "QuietStairs" "table" "LQuietStairs$Table;"]
noncomputable def wsL_law_r2 : List Cond := [Cond.fieldLink RX7 30 "QuietStairs" "kept" "LQuietStairs$House;", Cond.fieldLink RX7 33 "QuietStairs" "roomCount" "I", Cond.methodLink RX7 11 yX1_init, Cond.instanceMethod yX1_init, Cond.code yX1_init cX1_init 2 none, Cond.methodLink RX1 3 objectInit, Cond.classLink RX1 9 RX3, Cond.fieldLink RX1 11 "QuietStairs$House" "parties" "[LQuietStairs$Party;", Cond.classLink RX1 17 RX2, Cond.fieldLink RX1 19 "QuietStairs$House" "mediators" "[LQuietStairs$Mediator;", Cond.classLink RX1 23 RX0, Cond.fieldLink RX1 25 "QuietStairs$House" "cases" "[LQuietStairs$Case;", Cond.instantiable RX3 2, Cond.initialized RX3, Cond.instantiable RX2 3, Cond.initialized RX2, Cond.instantiable RX0 11, Cond.initialized RX0, Cond.instanceMethod yX3_init, Cond.code yX3_init cX3_init 1 none, Cond.methodLink RX3 1 objectInit, Cond.instanceMethod yX2_init, Cond.code yX2_init cX2_init 1 none, Cond.methodLink RX2 1 objectInit]
noncomputable def wsL_law_r3 : List Cond := [Cond.methodLink RX1 31 yX0_init, Cond.instanceMethod yX0_init, Cond.code yX0_init cX0_init 2 none, Cond.methodLink RX0 3 objectInit, Cond.arrayClass .int, Cond.fieldLink RX0 9 "QuietStairs$Case" "parties" "[I", Cond.fieldLink RX0 15 "QuietStairs$Case" "box" "[I", Cond.classLink RX0 18 "[[I", Cond.fieldLink RX0 20 "QuietStairs$Case" "offers" "[[I", Cond.fieldLink RX0 23 "QuietStairs$Case" "logs" "[[I", Cond.classLink RX0 26 RX6, Cond.fieldLink RX0 28 "QuietStairs$Case" "terms" "[LQuietStairs$Term;", Cond.instantiable RX6 5, Cond.initialized RX6, Cond.instanceMethod yX6_init, Cond.code yX6_init cX6_init 1 none, Cond.methodLink RX6 1 objectInit, Cond.instanceMethod yX4_init, Cond.code yX4_init cX4_init 1 none, Cond.methodLink RX4 3 objectInit, Cond.fieldLink RX4 9 "QuietStairs$Planner" "numbers" "[I", Cond.fieldLink RX4 15 "QuietStairs$Planner" "weights" "[I", Cond.fieldLink RX4 18 "QuietStairs$Planner" "pairBits" "[I", Cond.fieldLink RX4 21 "QuietStairs$Planner" "heaviestFirst" "[I"]
noncomputable def wsL_law_r4 : List Cond := [Cond.fieldLink RX4 24 "QuietStairs$Planner" "seats" "[I", Cond.fieldLink RX4 27 "QuietStairs$Planner" "bestSeats" "[I", Cond.fieldLink RX4 30 "QuietStairs$Planner" "busyBits" "[I", Cond.fieldLink RX4 33 "QuietStairs$Planner" "sittings" "[I", Cond.instanceMethod yX5_init, Cond.code yX5_init cX5_init 1 none, Cond.methodLink RX5 3 objectInit, Cond.fieldLink RX5 9 "QuietStairs$Table" "musts" "[I", Cond.fieldLink RX5 15 "QuietStairs$Table" "hourBits" "[I", Cond.methodLink RL 12 yX8_init, Cond.instanceMethod yX8_init, Cond.code yX8_init cX8_init 1 none, Cond.methodLink RX8 1 objectInit, Cond.fieldLink RX8 7 "QuietStairsModel" "s" "[I", Cond.fieldLink RX8 13 "QuietStairsModel" "kept" "[I", Cond.fieldLink RX8 16 "QuietStairsModel" "rooms" "I", Cond.fieldLink RX8 20 "QuietStairsModel" "headOf" "[I", Cond.fieldLink RX8 23 "QuietStairsModel" "planned" "[I", Cond.fieldLink RX8 26 "QuietStairsModel" "tried" "[I", Cond.fieldLink RX8 29 "QuietStairsModel" "best" "[I", Cond.fieldLink RX8 32 "QuietStairsModel" "hours" "[I", Cond.methodLink RL 13 yX7_party, Cond.instanceMethod yX7_party, Cond.selects RX7 yX7_party yX7_party]
noncomputable def wsL_law_r5 : List Cond := [Cond.code yX7_party cX7_party 4 (some .int), Cond.fieldLink RX7 41 "QuietStairs$House" "partyCount" "I", Cond.fieldLink RX7 44 "QuietStairs$House" "parties" "[LQuietStairs$Party;", Cond.fieldLink RX7 48 "QuietStairs$Party" "floor" "I", Cond.fieldLink RX7 53 "QuietStairs$Party" "tongue" "I", Cond.methodLink RX7 37 yX7_isWithin, Cond.static yX7_isWithin, Cond.code yX7_isWithin cX7_isWithin 3 (some .boolean), Cond.methodLink RL 17 yX8_party, Cond.instanceMethod yX8_party, Cond.selects RX8 yX8_party yX8_party, Cond.code yX8_party cX8_party 5 (some .int), Cond.methodLink RX8 35 yX8_in, Cond.static yX8_in, Cond.code yX8_in cX8_in 3 (some .boolean), Cond.methodLink RL 18 yX7_mediator, Cond.instanceMethod yX7_mediator, Cond.selects RX7 yX7_mediator yX7_mediator, Cond.code yX7_mediator cX7_mediator 4 (some .int), Cond.fieldLink RX7 56 "QuietStairs$House" "mediatorCount" "I", Cond.fieldLink RX7 59 "QuietStairs$House" "mediators" "[LQuietStairs$Mediator;", Cond.fieldLink RX7 63 "QuietStairs$Mediator" "floor" "I", Cond.fieldLink RX7 66 "QuietStairs$Mediator" "tongues" "I", Cond.fieldLink RX7 69 "QuietStairs$Mediator" "kinBits" "I"]
noncomputable def wsL_law_r6 : List Cond := [Cond.methodLink RL 21 yX8_mediator, Cond.instanceMethod yX8_mediator, Cond.selects RX8 yX8_mediator yX8_mediator, Cond.code yX8_mediator cX8_mediator 4 (some .int), Cond.methodLink RL 22 yX7_kin, Cond.instanceMethod yX7_kin, Cond.selects RX7 yX7_kin yX7_kin, Cond.code yX7_kin cX7_kin 5 (some .int), Cond.methodLink RX7 72 yX7_isMediator, Cond.instanceMethod yX7_isMediator, Cond.selects RX7 yX7_isMediator yX7_isMediator, Cond.code yX7_isMediator cX7_isMediator 2 (some .boolean), Cond.methodLink RX7 76 yX7_isParty, Cond.instanceMethod yX7_isParty, Cond.selects RX7 yX7_isParty yX7_isParty, Cond.code yX7_isParty cX7_isParty 2 (some .boolean), Cond.methodLink RX7 79 yX7_hasBit, Cond.static yX7_hasBit, Cond.code yX7_hasBit cX7_hasBit 2 (some .boolean), Cond.methodLink RL 26 yX8_kin, Cond.instanceMethod yX8_kin, Cond.selects RX8 yX8_kin yX8_kin, Cond.code yX8_kin cX8_kin 5 (some .int), Cond.methodLink RX8 39 yX8_isMediator]
noncomputable def wsL_law_r7 : List Cond := [Cond.instanceMethod yX8_isMediator, Cond.selects RX8 yX8_isMediator yX8_isMediator, Cond.code yX8_isMediator cX8_isMediator 2 (some .boolean), Cond.methodLink RX8 43 yX8_isParty, Cond.instanceMethod yX8_isParty, Cond.selects RX8 yX8_isParty yX8_isParty, Cond.code yX8_isParty cX8_isParty 2 (some .boolean), Cond.methodLink RL 27 yX7_open, Cond.instanceMethod yX7_open, Cond.selects RX7 yX7_open yX7_open, Cond.code yX7_open cX7_open 3 (some .int), Cond.fieldLink RX7 83 "QuietStairs$House" "caseCount" "I", Cond.fieldLink RX7 86 "QuietStairs$House" "cases" "[LQuietStairs$Case;", Cond.methodLink RX7 90 yX0_begin, Cond.instanceMethod yX0_begin, Cond.selects RX0 yX0_begin yX0_begin, Cond.code yX0_begin cX0_begin 5 none, Cond.fieldLink RX0 33 "QuietStairs$Case" "state" "I", Cond.fieldLink RX0 37 "QuietStairs$Case" "sum" "I", Cond.fieldLink RX0 40 "QuietStairs$Case" "roundsOver" "I", Cond.fieldLink RX0 43 "QuietStairs$Case" "weight" "I", Cond.fieldLink RX0 46 "QuietStairs$Case" "markedBits" "I", Cond.fieldLink RX0 49 "QuietStairs$Case" "termCount" "I", Cond.methodLink RL 30 yX8_open]
noncomputable def wsL_law_r8 : List Cond := [Cond.instanceMethod yX8_open, Cond.selects RX8 yX8_open yX8_open, Cond.code yX8_open cX8_open 5 (some .int), Cond.methodLink RX8 46 yX8_at, Cond.static yX8_at, Cond.code yX8_at cX8_at 2 (some .int), Cond.methodLink RL 31 yX7_close, Cond.instanceMethod yX7_close, Cond.selects RX7 yX7_close yX7_close, Cond.code yX7_close cX7_close 2 (some .int), Cond.fieldLink RX7 99 "QuietStairs$Case" "state" "I", Cond.methodLink RX7 96 yX7_isCase, Cond.instanceMethod yX7_isCase, Cond.selects RX7 yX7_isCase yX7_isCase, Cond.code yX7_isCase cX7_isCase 2 (some .boolean), Cond.methodLink RL 35 yX8_close, Cond.instanceMethod yX8_close, Cond.selects RX8 yX8_close yX8_close, Cond.code yX8_close cX8_close 2 (some .int), Cond.methodLink RX8 50 yX8_isCase, Cond.instanceMethod yX8_isCase, Cond.selects RX8 yX8_isCase yX8_isCase, Cond.code yX8_isCase cX8_isCase 2 (some .boolean), Cond.methodLink RL 36 yX7_weight]
noncomputable def wsL_law_r9 : List Cond := [Cond.instanceMethod yX7_weight, Cond.selects RX7 yX7_weight yX7_weight, Cond.code yX7_weight cX7_weight 4 (some .int), Cond.fieldLink RX7 102 "QuietStairs$Case" "weight" "I", Cond.methodLink RL 39 yX8_weight, Cond.instanceMethod yX8_weight, Cond.selects RX8 yX8_weight yX8_weight, Cond.code yX8_weight cX8_weight 4 (some .int), Cond.methodLink RL 40 yX7_mark, Cond.instanceMethod yX7_mark, Cond.selects RX7 yX7_mark yX7_mark, Cond.code yX7_mark cX7_mark 3 (some .int), Cond.fieldLink RX7 105 "QuietStairs$Case" "markedBits" "I", Cond.fieldLink RX7 108 "QuietStairs$House" "markCount" "I", Cond.methodLink RL 43 yX8_mark, Cond.instanceMethod yX8_mark, Cond.selects RX8 yX8_mark yX8_mark, Cond.code yX8_mark cX8_mark 6 (some .int), Cond.methodLink RL 44 yX7_of, Cond.instanceMethod yX7_of, Cond.selects RX7 yX7_of yX7_of, Cond.code yX7_of cX7_of 4 (some .int), Cond.fieldLink RX7 111 "QuietStairs$Case" "parties" "[I", Cond.fieldLink RX7 114 "QuietStairs$Case" "sum" "I"]
noncomputable def wsL_law_r10 : List Cond := [Cond.fieldLink RX7 117 "QuietStairs$Case" "roundsOver" "I", Cond.methodLink RX7 120 yX1_headOfQuarrel, Cond.instanceMethod yX1_headOfQuarrel, Cond.selects RX1 yX1_headOfQuarrel yX1_headOfQuarrel, Cond.code yX1_headOfQuarrel cX1_headOfQuarrel 4 (some .int), Cond.methodLink RX1 72 yX1_quarrelBits, Cond.instanceMethod yX1_quarrelBits, Cond.selects RX1 yX1_quarrelBits yX1_quarrelBits, Cond.code yX1_quarrelBits cX1_quarrelBits 5 (some .int), Cond.fieldLink RX1 66 "QuietStairs$House" "caseCount" "I", Cond.fieldLink RX1 69 "QuietStairs$Case" "markedBits" "I", Cond.methodLink RX7 124 yX1_quarrelBits, Cond.methodLink RX7 127 yJ6_bitCount_0f7a4, Cond.static yJ6_bitCount_0f7a4, Cond.initialized RJ6, Cond.code yJ6_bitCount_0f7a4 cJ6_bitCount_0f7a4 1 (some .int), Cond.constant RJ6 265 (1431655765), Cond.constant RJ6 266 (858993459), Cond.constant RJ6 267 (252645135), Cond.methodLink RL 47 yX8_of, Cond.instanceMethod yX8_of, Cond.selects RX8 yX8_of yX8_of, Cond.code yX8_of cX8_of 3 (some .int), Cond.methodLink RX8 53 yX8_findHeads]
noncomputable def wsL_law_r11 : List Cond := [Cond.instanceMethod yX8_findHeads, Cond.selects RX8 yX8_findHeads yX8_findHeads, Cond.code yX8_findHeads cX8_findHeads 6 none, Cond.methodLink RX8 56 yX8_joined, Cond.instanceMethod yX8_joined, Cond.selects RX8 yX8_joined yX8_joined, Cond.code yX8_joined cX8_joined 4 (some .int), Cond.methodLink RL 48 yX7_offer, Cond.instanceMethod yX7_offer, Cond.selects RX7 yX7_offer yX7_offer, Cond.code yX7_offer cX7_offer 5 (some .int), Cond.fieldLink RX7 135 "QuietStairs$Case" "box" "[I", Cond.methodLink RX7 132 yX7_isSide, Cond.static yX7_isSide, Cond.code yX7_isSide cX7_isSide 1 (some .boolean), Cond.methodLink RX7 138 yX0_endRound, Cond.instanceMethod yX0_endRound, Cond.selects RX0 yX0_endRound yX0_endRound, Cond.code yX0_endRound cX0_endRound 3 (some .boolean), Cond.methodLink RL 52 yX8_offer, Cond.instanceMethod yX8_offer, Cond.selects RX8 yX8_offer yX8_offer, Cond.code yX8_offer cX8_offer 7 (some .int), Cond.methodLink RX8 60 yX8_isSide]
noncomputable def wsL_law_r12 : List Cond := [Cond.static yX8_isSide, Cond.code yX8_isSide cX8_isSide 1 (some .boolean), Cond.methodLink RL 53 yX7_put, Cond.instanceMethod yX7_put, Cond.selects RX7 yX7_put yX7_put, Cond.code yX7_put cX7_put 3 (some .int), Cond.methodLink RL 56 yX8_put, Cond.instanceMethod yX8_put, Cond.selects RX8 yX8_put yX8_put, Cond.code yX8_put cX8_put 3 (some .int), Cond.methodLink RL 57 yX7_learns, Cond.instanceMethod yX7_learns, Cond.selects RX7 yX7_learns yX7_learns, Cond.code yX7_learns cX7_learns 6 (some .int), Cond.methodLink RX7 142 yX0_greatestOfOther, Cond.instanceMethod yX0_greatestOfOther, Cond.selects RX0 yX0_greatestOfOther yX0_greatestOfOther, Cond.code yX0_greatestOfOther cX0_greatestOfOther 5 (some .int), Cond.methodLink RX0 62 Lib.Math.min.name, Cond.static Lib.Math.min.name, Cond.initialized "java/lang/Math", Cond.code Lib.Math.min.name Lib.Math.min.code 2 (some .int), Cond.methodLink RX0 52 yX0_hasMet, Cond.instanceMethod yX0_hasMet]
noncomputable def wsL_law_r13 : List Cond := [Cond.selects RX0 yX0_hasMet yX0_hasMet, Cond.code yX0_hasMet cX0_hasMet 2 (some .boolean), Cond.methodLink RX7 146 yX0_leastOfOther, Cond.instanceMethod yX0_leastOfOther, Cond.selects RX0 yX0_leastOfOther yX0_leastOfOther, Cond.code yX0_leastOfOther cX0_leastOfOther 5 (some .int), Cond.methodLink RX0 56 Lib.Math.max.name, Cond.static Lib.Math.max.name, Cond.code Lib.Math.max.name Lib.Math.max.code 2 (some .int), Cond.methodLink RL 61 yX8_learns, Cond.instanceMethod yX8_learns, Cond.selects RX8 yX8_learns yX8_learns, Cond.code yX8_learns cX8_learns 14 (some .int), Cond.methodLink RL 62 yX7_maySit, Cond.instanceMethod yX7_maySit, Cond.selects RX7 yX7_maySit yX7_maySit, Cond.code yX7_maySit cX7_maySit 3 (some .int), Cond.methodLink RX7 149 yX1_hasPair, Cond.instanceMethod yX1_hasPair, Cond.selects RX1 yX1_hasPair yX1_hasPair, Cond.code yX1_hasPair cX1_hasPair 2 (some .boolean), Cond.fieldLink RX1 36 "QuietStairs$House" "mediatorCount" "I", Cond.methodLink RX7 152 yX1_pairFits, Cond.instanceMethod yX1_pairFits]
noncomputable def wsL_law_r14 : List Cond := [Cond.selects RX1 yX1_pairFits yX1_pairFits, Cond.code yX1_pairFits cX1_pairFits 8 (some .boolean), Cond.fieldLink RX1 43 "QuietStairs$Mediator" "tongues" "I", Cond.fieldLink RX1 46 "QuietStairs$Case" "parties" "[I", Cond.fieldLink RX1 48 "QuietStairs$Party" "tongue" "I", Cond.methodLink RX1 55 yX1_isNear, Cond.instanceMethod yX1_isNear, Cond.selects RX1 yX1_isNear yX1_isNear, Cond.code yX1_isNear cX1_isNear 3 (some .boolean), Cond.fieldLink RX1 59 "QuietStairs$Mediator" "kinBits" "I", Cond.fieldLink RX1 62 "QuietStairs$Mediator" "floor" "I", Cond.fieldLink RX1 65 "QuietStairs$Party" "floor" "I", Cond.methodLink RL 65 yX8_maySit, Cond.instanceMethod yX8_maySit, Cond.selects RX8 yX8_maySit yX8_maySit, Cond.code yX8_maySit cX8_maySit 3 (some .int), Cond.methodLink RX8 73 yX8_isPair, Cond.instanceMethod yX8_isPair, Cond.selects RX8 yX8_isPair yX8_isPair, Cond.code yX8_isPair cX8_isPair 2 (some .boolean), Cond.methodLink RX8 63 yX8_otherOf, Cond.static yX8_otherOf, Cond.code yX8_otherOf cX8_otherOf 1 (some .int), Cond.methodLink RX8 76 yX8_may]
noncomputable def wsL_law_r15 : List Cond := [Cond.instanceMethod yX8_may, Cond.selects RX8 yX8_may yX8_may, Cond.code yX8_may cX8_may 9 (some .boolean), Cond.methodLink RX8 66 yX8_oneOf, Cond.static yX8_oneOf, Cond.code yX8_oneOf cX8_oneOf 1 (some .int), Cond.methodLink RX8 69 yX8_mayMeet, Cond.instanceMethod yX8_mayMeet, Cond.selects RX8 yX8_mayMeet yX8_mayMeet, Cond.code yX8_mayMeet cX8_mayMeet 3 (some .boolean), Cond.methodLink RL 66 yX7_rooms, Cond.instanceMethod yX7_rooms, Cond.selects RX7 yX7_rooms yX7_rooms, Cond.code yX7_rooms cX7_rooms 3 (some .int), Cond.methodLink RL 69 yX8_rooms, Cond.instanceMethod yX8_rooms, Cond.selects RX8 yX8_rooms yX8_rooms, Cond.code yX8_rooms cX8_rooms 3 (some .int), Cond.methodLink RL 70 yX7_plan, Cond.instanceMethod yX7_plan, Cond.selects RX7 yX7_plan yX7_plan, Cond.code yX7_plan cX7_plan 2 (some .int), Cond.methodLink RX7 156 yX4_findPlan, Cond.instanceMethod yX4_findPlan]
noncomputable def wsL_law_r16 : List Cond := [Cond.selects RX4 yX4_findPlan yX4_findPlan, Cond.code yX4_findPlan cX4_findPlan 4 none, Cond.fieldLink RX4 36 "QuietStairs$House" "mediatorCount" "I", Cond.methodLink RX4 42 Lib.Math.min.name, Cond.fieldLink RX4 48 "QuietStairs$Planner" "seatsADay" "I", Cond.fieldLink RX4 58 "QuietStairs$Planner" "leastWait" "I", Cond.fieldLink RX4 61 "QuietStairs$Planner" "count" "I", Cond.methodLink RX4 51 yX4_gather, Cond.instanceMethod yX4_gather, Cond.selects RX4 yX4_gather yX4_gather, Cond.code yX4_gather cX4_gather 4 none, Cond.fieldLink RX4 68 "QuietStairs$House" "caseCount" "I", Cond.fieldLink RX4 71 "QuietStairs$House" "cases" "[LQuietStairs$Case;", Cond.fieldLink RX4 75 "QuietStairs$Case" "state" "I", Cond.fieldLink RX4 80 "QuietStairs$Case" "weight" "I", Cond.methodLink RX4 83 yX4_fittingPairs, Cond.static yX4_fittingPairs, Cond.code yX4_fittingPairs cX4_fittingPairs 4 (some .int), Cond.methodLink RX4 87 yX1_hasPair, Cond.methodLink RX4 91 yX1_pairFits, Cond.methodLink RX4 55 yX4_sortByWeight, Cond.instanceMethod yX4_sortByWeight, Cond.selects RX4 yX4_sortByWeight yX4_sortByWeight, Cond.code yX4_sortByWeight cX4_sortByWeight 3 none]
noncomputable def wsL_law_r17 : List Cond := [Cond.methodLink RX4 64 yX4_search, Cond.instanceMethod yX4_search, Cond.selects RX4 yX4_search yX4_search, Cond.code yX4_search cX4_search 4 none, Cond.methodLink RX4 99 arraycopyName, Cond.native arraycopyName, Cond.static arraycopyName, Cond.initialized "java/lang/System", Cond.methodLink RX4 95 yX4_leastBehind, Cond.instanceMethod yX4_leastBehind, Cond.selects RX4 yX4_leastBehind yX4_leastBehind, Cond.code yX4_leastBehind cX4_leastBehind 8 (some .int), Cond.methodLink RX4 105 yX4_searchDay, Cond.instanceMethod yX4_searchDay, Cond.selects RX4 yX4_searchDay yX4_searchDay, Cond.code yX4_searchDay cX4_searchDay 6 none, Cond.methodLink RX7 160 yX4_seatOf, Cond.instanceMethod yX4_seatOf, Cond.selects RX4 yX4_seatOf yX4_seatOf, Cond.code yX4_seatOf cX4_seatOf 3 (some .int), Cond.methodLink RL 73 yX8_plan, Cond.instanceMethod yX8_plan, Cond.selects RX8 yX8_plan yX8_plan, Cond.code yX8_plan cX8_plan 3 (some .int)]
noncomputable def wsL_law_r18 : List Cond := [Cond.fieldLink RX8 79 "QuietStairsModel" "many" "I", Cond.methodLink RX8 95 yX8_makePlan, Cond.instanceMethod yX8_makePlan, Cond.selects RX8 yX8_makePlan yX8_makePlan, Cond.code yX8_makePlan cX8_makePlan 2 none, Cond.constant RX8 88 (1000000), Cond.fieldLink RX8 85 "QuietStairsModel" "least" "I", Cond.methodLink RX8 89 yX8_note, Cond.instanceMethod yX8_note, Cond.selects RX8 yX8_note yX8_note, Cond.code yX8_note cX8_note 3 none, Cond.methodLink RX8 82 yX8_waitsOf, Cond.instanceMethod yX8_waitsOf, Cond.selects RX8 yX8_waitsOf yX8_waitsOf, Cond.code yX8_waitsOf cX8_waitsOf 4 (some .int), Cond.methodLink RX8 92 yX8_fits, Cond.instanceMethod yX8_fits, Cond.selects RX8 yX8_fits yX8_fits, Cond.code yX8_fits cX8_fits 8 (some .boolean), Cond.methodLink RL 74 yX7_waits, Cond.instanceMethod yX7_waits, Cond.selects RX7 yX7_waits yX7_waits, Cond.code yX7_waits cX7_waits 1 (some .int), Cond.fieldLink RX7 163 "QuietStairs$Planner" "leastWait" "I"]
noncomputable def wsL_law_r19 : List Cond := [Cond.methodLink RL 78 yX8_waits, Cond.instanceMethod yX8_waits, Cond.selects RX8 yX8_waits yX8_waits, Cond.code yX8_waits cX8_waits 1 (some .int), Cond.methodLink RL 79 yX7_term, Cond.instanceMethod yX7_term, Cond.selects RX7 yX7_term yX7_term, Cond.code yX7_term cX7_term 9 (some .int), Cond.fieldLink RX7 169 "QuietStairs$Case" "termCount" "I", Cond.fieldLink RX7 172 "QuietStairs$Case" "terms" "[LQuietStairs$Term;", Cond.fieldLink RX7 176 "QuietStairs$Term" "side" "I", Cond.fieldLink RX7 181 "QuietStairs$Term" "must" "Z", Cond.fieldLink RX7 185 "QuietStairs$Term" "act" "I", Cond.fieldLink RX7 188 "QuietStairs$Term" "first" "I", Cond.fieldLink RX7 191 "QuietStairs$Term" "last" "I", Cond.methodLink RX7 166 yX7_isHour, Cond.static yX7_isHour, Cond.code yX7_isHour cX7_isHour 1 (some .boolean), Cond.methodLink RL 83 yX8_term, Cond.instanceMethod yX8_term, Cond.selects RX8 yX8_term yX8_term, Cond.code yX8_term cX8_term 8 (some .int), Cond.methodLink RX8 98 yX8_termAt, Cond.static yX8_termAt]
noncomputable def wsL_law_r20 : List Cond := [Cond.code yX8_termAt cX8_termAt 2 (some .int), Cond.methodLink RL 84 yX7_strike, Cond.instanceMethod yX7_strike, Cond.selects RX7 yX7_strike yX7_strike, Cond.code yX7_strike cX7_strike 2 (some .int), Cond.methodLink RL 87 yX8_strike, Cond.instanceMethod yX8_strike, Cond.selects RX8 yX8_strike yX8_strike, Cond.code yX8_strike cX8_strike 2 (some .int), Cond.methodLink RL 88 yX7_termOf, Cond.instanceMethod yX7_termOf, Cond.selects RX7 yX7_termOf yX7_termOf, Cond.code yX7_termOf cX7_termOf 5 (some .int), Cond.methodLink RX7 194 yX7_isTerm, Cond.instanceMethod yX7_isTerm, Cond.selects RX7 yX7_isTerm yX7_isTerm, Cond.code yX7_isTerm cX7_isTerm 3 (some .boolean), Cond.methodLink RL 91 yX8_termOf, Cond.instanceMethod yX8_termOf, Cond.selects RX8 yX8_termOf yX8_termOf, Cond.code yX8_termOf cX8_termOf 4 (some .int), Cond.methodLink RX8 101 yX8_isTerm, Cond.instanceMethod yX8_isTerm, Cond.selects RX8 yX8_isTerm yX8_isTerm]
noncomputable def wsL_law_r21 : List Cond := [Cond.code yX8_isTerm cX8_isTerm 3 (some .boolean), Cond.methodLink RL 92 yX7_hour, Cond.instanceMethod yX7_hour, Cond.selects RX7 yX7_hour yX7_hour, Cond.code yX7_hour cX7_hour 4 (some .int), Cond.methodLink RX7 197 yX5_read, Cond.instanceMethod yX5_read, Cond.selects RX5 yX5_read yX5_read, Cond.code yX5_read cX5_read 6 none, Cond.fieldLink RX5 18 "QuietStairs$Table" "count" "I", Cond.fieldLink RX5 22 "QuietStairs$Case" "terms" "[LQuietStairs$Term;", Cond.fieldLink RX5 28 "QuietStairs$Term" "side" "I", Cond.fieldLink RX5 33 "QuietStairs$Term" "must" "Z", Cond.methodLink RX5 37 yX5_allowedHours, Cond.static yX5_allowedHours, Cond.code yX5_allowedHours cX5_allowedHours 6 (some .int), Cond.fieldLink RX5 44 "QuietStairs$Term" "act" "I", Cond.methodLink RX5 41 yX6_hourBits, Cond.instanceMethod yX6_hourBits, Cond.selects RX6 yX6_hourBits yX6_hourBits, Cond.code yX6_hourBits cX6_hourBits 1 (some .int), Cond.fieldLink RX6 7 "QuietStairs$Term" "last" "I", Cond.fieldLink RX6 13 "QuietStairs$Term" "first" "I", Cond.methodLink RX7 201 yX5_stands]
noncomputable def wsL_law_r22 : List Cond := [Cond.instanceMethod yX5_stands, Cond.selects RX5 yX5_stands yX5_stands, Cond.code yX5_stands cX5_stands 4 (some .boolean), Cond.methodLink RX5 51 yJ6_bitCount_0f7a4, Cond.methodLink RX7 204 yX5_hourOf, Cond.instanceMethod yX5_hourOf, Cond.selects RX5 yX5_hourOf yX5_hourOf, Cond.code yX5_hourOf cX5_hourOf 4 (some .int), Cond.methodLink RX5 57 yX5_pinLeastHour, Cond.instanceMethod yX5_pinLeastHour, Cond.selects RX5 yX5_pinLeastHour yX5_pinLeastHour, Cond.code yX5_pinLeastHour cX5_pinLeastHour 4 (some .int), Cond.methodLink RX5 60 yX5_stands, Cond.methodLink RL 95 yX8_hour, Cond.instanceMethod yX8_hour, Cond.selects RX8 yX8_hour yX8_hour, Cond.code yX8_hour cX8_hour 4 (some .int), Cond.methodLink RX8 118 yX8_makeTable, Cond.instanceMethod yX8_makeTable, Cond.selects RX8 yX8_makeTable yX8_makeTable, Cond.code yX8_makeTable cX8_makeTable 7 (some .boolean), Cond.methodLink RX8 111 yX8_next, Cond.instanceMethod yX8_next, Cond.selects RX8 yX8_next yX8_next]
noncomputable def wsL_law_r23 : List Cond := [Cond.code yX8_next cX8_next 7 (some .int), Cond.methodLink RX8 108 yX8_isOwn, Cond.instanceMethod yX8_isOwn, Cond.selects RX8 yX8_isOwn yX8_isOwn, Cond.code yX8_isOwn cX8_isOwn 4 (some .boolean), Cond.methodLink RX8 115 yX8_hourFrom, Cond.instanceMethod yX8_hourFrom, Cond.selects RX8 yX8_hourFrom yX8_hourFrom, Cond.code yX8_hourFrom cX8_hourFrom 6 (some .int), Cond.methodLink RX8 104 yX8_mayBe, Cond.instanceMethod yX8_mayBe, Cond.selects RX8 yX8_mayBe yX8_mayBe, Cond.code yX8_mayBe cX8_mayBe 9 (some .boolean), Cond.methodLink RL 96 yX7_canHold, Cond.instanceMethod yX7_canHold, Cond.selects RX7 yX7_canHold yX7_canHold, Cond.code yX7_canHold cX7_canHold 3 (some .int), Cond.methodLink RL 99 yX8_canHold, Cond.instanceMethod yX8_canHold, Cond.selects RX8 yX8_canHold yX8_canHold, Cond.code yX8_canHold cX8_canHold 3 (some .int), Cond.methodLink RL 100 yX7_breaks, Cond.instanceMethod yX7_breaks, Cond.selects RX7 yX7_breaks yX7_breaks]
noncomputable def wsL_law_r24 : List Cond := [Cond.code yX7_breaks cX7_breaks 5 (some .int), Cond.methodLink RL 103 yX8_breaks, Cond.instanceMethod yX8_breaks, Cond.selects RX8 yX8_breaks yX8_breaks, Cond.code yX8_breaks cX8_breaks 4 (some .int), Cond.methodLink RL 104 yX7_log, Cond.instanceMethod yX7_log, Cond.selects RX7 yX7_log yX7_log, Cond.code yX7_log cX7_log 7 (some .int), Cond.fieldLink RX7 207 "QuietStairs$Case" "logs" "[[I", Cond.methodLink RL 108 yX8_log, Cond.instanceMethod yX8_log, Cond.selects RX8 yX8_log yX8_log, Cond.code yX8_log cX8_log 7 (some .int), Cond.methodLink RL 109 yX7_judged, Cond.instanceMethod yX7_judged, Cond.selects RX7 yX7_judged yX7_judged, Cond.code yX7_judged cX7_judged 3 (some .int), Cond.methodLink RX7 211 yX0_judge, Cond.instanceMethod yX0_judge, Cond.selects RX0 yX0_judge yX0_judge, Cond.code yX0_judge cX0_judge 6 (some .int), Cond.fieldLink RX0 65 "QuietStairs$Term" "first" "I", Cond.fieldLink RX0 68 "QuietStairs$Term" "last" "I"]
noncomputable def wsL_law_r25 : List Cond := [Cond.fieldLink RX0 71 "QuietStairs$Term" "side" "I", Cond.fieldLink RX0 74 "QuietStairs$Term" "act" "I", Cond.fieldLink RX0 77 "QuietStairs$Term" "must" "Z", Cond.methodLink RL 112 yX8_judged, Cond.instanceMethod yX8_judged, Cond.selects RX8 yX8_judged yX8_judged, Cond.code yX8_judged cX8_judged 3 (some .int), Cond.methodLink RX8 121 yX8_judge, Cond.instanceMethod yX8_judge, Cond.selects RX8 yX8_judge yX8_judge, Cond.code yX8_judge cX8_judge 8 (some .int), Cond.methodLink RL 113 yX7_many, Cond.instanceMethod yX7_many, Cond.selects RX7 yX7_many yX7_many, Cond.code yX7_many cX7_many 2 (some .int), Cond.methodLink RX7 214 yX1_countState, Cond.instanceMethod yX1_countState, Cond.selects RX1 yX1_countState yX1_countState, Cond.code yX1_countState cX1_countState 4 (some .int), Cond.fieldLink RX1 79 "QuietStairs$Case" "state" "I", Cond.methodLink RX7 217 yX1_countQuarrels, Cond.instanceMethod yX1_countQuarrels, Cond.selects RX1 yX1_countQuarrels yX1_countQuarrels, Cond.code yX1_countQuarrels cX1_countQuarrels 3 (some .int)]
noncomputable def wsL_law_r26 : List Cond := [Cond.methodLink RX1 76 yX1_headOfQuarrel, Cond.methodLink RX7 221 yX1_countTerms, Cond.instanceMethod yX1_countTerms, Cond.selects RX1 yX1_countTerms yX1_countTerms, Cond.code yX1_countTerms cX1_countTerms 3 (some .int), Cond.fieldLink RX1 82 "QuietStairs$Case" "termCount" "I", Cond.methodLink RX7 224 yX1_countJudged, Cond.instanceMethod yX1_countJudged, Cond.selects RX1 yX1_countJudged yX1_countJudged, Cond.code yX1_countJudged cX1_countJudged 5 (some .int), Cond.methodLink RX1 85 yX0_judge, Cond.methodLink RL 116 yX8_many, Cond.instanceMethod yX8_many, Cond.selects RX8 yX8_many yX8_many, Cond.code yX8_many cX8_many 2 (some .int), Cond.methodLink RX8 124 yX8_casesThat, Cond.instanceMethod yX8_casesThat, Cond.selects RX8 yX8_casesThat yX8_casesThat, Cond.code yX8_casesThat cX8_casesThat 4 (some .int), Cond.methodLink RX8 127 yX8_quarrels, Cond.instanceMethod yX8_quarrels, Cond.selects RX8 yX8_quarrels yX8_quarrels, Cond.code yX8_quarrels cX8_quarrels 3 (some .int), Cond.methodLink RX8 131 yX8_termsThat]
noncomputable def wsL_law_r27 : List Cond := [Cond.instanceMethod yX8_termsThat, Cond.selects RX8 yX8_termsThat yX8_termsThat, Cond.code yX8_termsThat cX8_termsThat 5 (some .int), Cond.methodLink RL 117 yX7_keep, Cond.instanceMethod yX7_keep, Cond.selects RX7 yX7_keep yX7_keep, Cond.code yX7_keep cX7_keep 1 (some .int), Cond.methodLink RX7 227 yX1_copyFrom, Cond.instanceMethod yX1_copyFrom, Cond.selects RX1 yX1_copyFrom yX1_copyFrom, Cond.code yX1_copyFrom cX1_copyFrom 3 none, Cond.fieldLink RX1 88 "QuietStairs$House" "partyCount" "I", Cond.fieldLink RX1 91 "QuietStairs$House" "markCount" "I", Cond.methodLink RX1 94 yX3_copyFrom, Cond.instanceMethod yX3_copyFrom, Cond.selects RX3 yX3_copyFrom yX3_copyFrom, Cond.code yX3_copyFrom cX3_copyFrom 2 none, Cond.fieldLink RX3 7 "QuietStairs$Party" "floor" "I", Cond.fieldLink RX3 13 "QuietStairs$Party" "tongue" "I", Cond.methodLink RX1 98 yX2_copyFrom, Cond.instanceMethod yX2_copyFrom, Cond.selects RX2 yX2_copyFrom yX2_copyFrom, Cond.code yX2_copyFrom cX2_copyFrom 2 none, Cond.fieldLink RX2 7 "QuietStairs$Mediator" "floor" "I"]
noncomputable def wsL_law_r28 : List Cond := [Cond.fieldLink RX2 13 "QuietStairs$Mediator" "tongues" "I", Cond.fieldLink RX2 16 "QuietStairs$Mediator" "kinBits" "I", Cond.methodLink RX1 101 yX0_copyFrom, Cond.instanceMethod yX0_copyFrom, Cond.selects RX0 yX0_copyFrom yX0_copyFrom, Cond.code yX0_copyFrom cX0_copyFrom 3 none, Cond.methodLink RX0 81 arraycopyName, Cond.methodLink RX0 87 yX6_copyFrom, Cond.instanceMethod yX6_copyFrom, Cond.selects RX6 yX6_copyFrom yX6_copyFrom, Cond.code yX6_copyFrom cX6_copyFrom 2 none, Cond.fieldLink RX6 16 "QuietStairs$Term" "side" "I", Cond.fieldLink RX6 19 "QuietStairs$Term" "must" "Z", Cond.fieldLink RX6 23 "QuietStairs$Term" "act" "I", Cond.methodLink RL 120 yX8_keep, Cond.instanceMethod yX8_keep, Cond.selects RX8 yX8_keep yX8_keep, Cond.code yX8_keep cX8_keep 2 (some .int), Cond.fieldLink RX8 134 "QuietStairsModel" "isKept" "Z", Cond.methodLink RL 121 yX7_back, Cond.instanceMethod yX7_back, Cond.selects RX7 yX7_back yX7_back, Cond.code yX7_back cX7_back 1 (some .int), Cond.methodLink RL 124 yX8_back]
noncomputable def wsL_law_r29 : List Cond := [Cond.instanceMethod yX8_back, Cond.selects RX8 yX8_back yX8_back, Cond.code yX8_back cX8_back 2 (some .int)]
noncomputable def wsL_law : List Cond := (wsL_law_r1 ++ (wsL_law_r2 ++ (wsL_law_r3 ++ (wsL_law_r4 ++ (wsL_law_r5 ++ (wsL_law_r6 ++ (wsL_law_r7 ++ (wsL_law_r8 ++ (wsL_law_r9 ++ (wsL_law_r10 ++ (wsL_law_r11 ++ (wsL_law_r12 ++ (wsL_law_r13 ++ (wsL_law_r14 ++ (wsL_law_r15 ++ (wsL_law_r16 ++ (wsL_law_r17 ++ (wsL_law_r18 ++ (wsL_law_r19 ++ (wsL_law_r20 ++ (wsL_law_r21 ++ (wsL_law_r22 ++ (wsL_law_r23 ++ (wsL_law_r24 ++ (wsL_law_r25 ++ (wsL_law_r26 ++ (wsL_law_r27 ++ (wsL_law_r28 ++ wsL_law_r29)))))))))))))))))))))))))))) ++ wsX70 ++ wsX80 ++ wsX10 ++ wsX40 ++ wsX50 ++ wsX30 ++ wsX20 ++ wsX00 ++ wsX60 ++ ([] : List Cond)
theorem mem_r {big : List Cond} (ws : List Cond) (ps : List Nat) (hp : ws = ps.filterMap (fun i => big[i]?)) : ∀ w ∈ ws, w ∈ big := by
  intro w hw
  rw [hp] at hw
  obtain ⟨i, -, hi⟩ := List.mem_filterMap.mp hw
  exact List.mem_of_getElem? hi
set_option maxRecDepth 20000 in
theorem wl_r1 : GoodIn lw_tbl wsL_law_r1 := goodIn_r _ [45, 46, 33, 601, 602, 41, 47, 48, 49, 50, 51, 52, 53, 54, 34, 286, 229, 230, 39, 287, 270, 271, 40, 288] rfl (by decide +kernel)
set_option maxRecDepth 20000 in
theorem wl_r2 : GoodIn lw_tbl wsL_law_r2 := goodIn_r _ [289, 290, 55, 56, 57, 58, 59, 207, 61, 209, 63, 211, 65, 35, 81, 36, 102, 37, 67, 68, 69, 83, 84, 85] rfl (by decide +kernel)
set_option maxRecDepth 20000 in
theorem wl_r3 : GoodIn lw_tbl wsL_law_r3 := goodIn_r _ [103, 104, 105, 106, 145, 163, 166, 107, 168, 169, 109, 171, 111, 38, 113, 114, 115, 232, 233, 234, 239, 240, 241, 242] rfl (by decide +kernel)
set_option maxRecDepth 20000 in
theorem wl_r4 : GoodIn lw_tbl wsL_law_r4 := goodIn_r _ [243, 244, 245, 246, 273, 274, 275, 277, 278, 603, 604, 605, 606, 607, 608, 610, 611, 613, 614, 615, 617, 302, 303, 304] rfl (by decide +kernel)
set_option maxRecDepth 20000 in
theorem wl_r5 : GoodIn lw_tbl wsL_law_r5 := goodIn_r _ [305, 197, 208, 71, 74, 306, 307, 308, 641, 642, 643, 644, 645, 646, 647, 309, 310, 311, 312, 201, 210, 87, 91, 93] rfl (by decide +kernel)
set_option maxRecDepth 20000 in
theorem wl_r6 : GoodIn lw_tbl wsL_law_r6 := goodIn_r _ [648, 649, 650, 651, 313, 314, 315, 316, 317, 319, 0, 320, 321, 323, 1, 324, 325, 326, 327, 652, 653, 654, 655, 656] rfl (by decide +kernel)
set_option maxRecDepth 20000 in
theorem wl_r7 : GoodIn lw_tbl wsL_law_r7 := goodIn_r _ [658, 10, 659, 660, 662, 11, 663, 328, 329, 330, 331, 204, 213, 332, 333, 334, 335, 146, 150, 152, 154, 157, 160, 664] rfl (by decide +kernel)
set_option maxRecDepth 20000 in
theorem wl_r8 : GoodIn lw_tbl wsL_law_r8 := goodIn_r _ [665, 666, 667, 668, 669, 670, 336, 337, 338, 339, 148, 340, 342, 2, 343, 671, 672, 673, 674, 675, 677, 12, 678, 344] rfl (by decide +kernel)
set_option maxRecDepth 20000 in
theorem wl_r9 : GoodIn lw_tbl wsL_law_r9 := goodIn_r _ [345, 346, 347, 156, 679, 680, 681, 682, 348, 349, 350, 351, 159, 205, 683, 684, 685, 686, 352, 353, 354, 355, 165, 151] rfl (by decide +kernel)
set_option maxRecDepth 20000 in
theorem wl_r10 : GoodIn lw_tbl wsL_law_r10 := goodIn_r _ [153, 356, 357, 358, 359, 360, 361, 362, 363, 203, 158, 365, 366, 367, 42, 368, 369, 370, 371, 687, 688, 689, 690, 691] rfl (by decide +kernel)
set_option maxRecDepth 20000 in
theorem wl_r11 : GoodIn lw_tbl wsL_law_r11 := goodIn_r _ [693, 13, 694, 695, 697, 14, 698, 372, 373, 374, 375, 167, 376, 377, 378, 379, 380, 381, 382, 699, 700, 701, 702, 703] rfl (by decide +kernel)
set_option maxRecDepth 20000 in
theorem wl_r12 : GoodIn lw_tbl wsL_law_r12 := goodIn_r _ [704, 705, 383, 384, 385, 386, 706, 707, 708, 709, 387, 388, 389, 390, 391, 392, 393, 394, 399, 400, 43, 401, 395, 396] rfl (by decide +kernel)
set_option maxRecDepth 20000 in
theorem wl_r13 : GoodIn lw_tbl wsL_law_r13 := goodIn_r _ [397, 398, 402, 403, 404, 405, 406, 407, 408, 710, 711, 712, 713, 409, 410, 411, 412, 413, 414, 415, 416, 200, 419, 420] rfl (by decide +kernel)
set_option maxRecDepth 20000 in
theorem wl_r14 : GoodIn lw_tbl wsL_law_r14 := goodIn_r _ [421, 422, 90, 164, 75, 425, 426, 427, 428, 94, 88, 72, 714, 715, 716, 717, 718, 720, 15, 721, 722, 723, 724, 725] rfl (by decide +kernel)
set_option maxRecDepth 20000 in
theorem wl_r15 : GoodIn lw_tbl wsL_law_r15 := goodIn_r _ [727, 16, 728, 729, 730, 731, 732, 734, 17, 735, 429, 430, 431, 432, 736, 737, 738, 739, 433, 434, 435, 436, 437, 438] rfl (by decide +kernel)
set_option maxRecDepth 20000 in
theorem wl_r16 : GoodIn lw_tbl wsL_law_r16 := goodIn_r _ [439, 440, 199, 441, 238, 235, 237, 442, 444, 3, 445, 202, 212, 147, 155, 446, 447, 448, 449, 450, 451, 453, 4, 454] rfl (by decide +kernel)
set_option maxRecDepth 20000 in
theorem wl_r17 : GoodIn lw_tbl wsL_law_r17 := goodIn_r _ [455, 457, 5, 458, 463, 465, 464, 44, 459, 461, 6, 462, 466, 468, 7, 469, 473, 474, 475, 476, 740, 741, 742, 743] rfl (by decide +kernel)
set_option maxRecDepth 20000 in
theorem wl_r18 : GoodIn lw_tbl wsL_law_r18 := goodIn_r _ [612, 744, 746, 18, 747, 748, 616, 749, 751, 19, 752, 753, 755, 20, 756, 757, 759, 21, 760, 477, 478, 479, 480, 236] rfl (by decide +kernel)
set_option maxRecDepth 20000 in
theorem wl_r19 : GoodIn lw_tbl wsL_law_r19 := goodIn_r _ [761, 762, 763, 764, 481, 482, 483, 484, 162, 173, 119, 123, 127, 130, 133, 485, 486, 487, 765, 766, 767, 768, 769, 770] rfl (by decide +kernel)
set_option maxRecDepth 20000 in
theorem wl_r20 : GoodIn lw_tbl wsL_law_r20 := goodIn_r _ [771, 488, 489, 490, 491, 772, 773, 774, 775, 492, 493, 494, 495, 496, 498, 8, 499, 776, 777, 778, 779, 780, 782, 22] rfl (by decide +kernel)
set_option maxRecDepth 20000 in
theorem wl_r21 : GoodIn lw_tbl wsL_law_r21 := goodIn_r _ [783, 500, 501, 502, 503, 504, 505, 506, 507, 276, 172, 116, 120, 508, 509, 510, 125, 511, 512, 513, 514, 131, 128, 515] rfl (by decide +kernel)
set_option maxRecDepth 20000 in
theorem wl_r22 : GoodIn lw_tbl wsL_law_r22 := goodIn_r _ [516, 517, 518, 520, 521, 522, 523, 524, 525, 527, 9, 528, 529, 784, 785, 786, 787, 788, 790, 23, 791, 792, 794, 24] rfl (by decide +kernel)
set_option maxRecDepth 20000 in
theorem wl_r23 : GoodIn lw_tbl wsL_law_r23 := goodIn_r _ [795, 796, 798, 25, 799, 800, 802, 26, 803, 804, 806, 27, 807, 530, 531, 532, 533, 808, 809, 810, 811, 534, 535, 536] rfl (by decide +kernel)
set_option maxRecDepth 20000 in
theorem wl_r24 : GoodIn lw_tbl wsL_law_r24 := goodIn_r _ [537, 812, 813, 814, 815, 538, 539, 540, 541, 170, 816, 817, 818, 819, 542, 543, 544, 545, 546, 547, 548, 549, 129, 132] rfl (by decide +kernel)
set_option maxRecDepth 20000 in
theorem wl_r25 : GoodIn lw_tbl wsL_law_r25 := goodIn_r _ [118, 126, 122, 820, 821, 822, 823, 824, 826, 28, 827, 550, 551, 552, 553, 554, 555, 556, 557, 149, 558, 559, 560, 561] rfl (by decide +kernel)
set_option maxRecDepth 20000 in
theorem wl_r26 : GoodIn lw_tbl wsL_law_r26 := goodIn_r _ [562, 563, 564, 565, 566, 161, 567, 568, 569, 570, 571, 828, 829, 830, 831, 832, 834, 29, 835, 836, 838, 30, 839, 840] rfl (by decide +kernel)
set_option maxRecDepth 20000 in
theorem wl_r27 : GoodIn lw_tbl wsL_law_r27 := goodIn_r _ [842, 31, 843, 572, 573, 574, 575, 576, 577, 578, 579, 198, 206, 580, 581, 582, 583, 70, 73, 584, 585, 586, 587, 86] rfl (by decide +kernel)
set_option maxRecDepth 20000 in
theorem wl_r28 : GoodIn lw_tbl wsL_law_r28 := goodIn_r _ [89, 92, 588, 589, 590, 591, 592, 593, 594, 595, 596, 117, 121, 124, 844, 845, 846, 847, 609, 597, 598, 599, 600, 848] rfl (by decide +kernel)
set_option maxRecDepth 20000 in
theorem wl_r29 : GoodIn lw_tbl wsL_law_r29 := goodIn_r _ [849, 850, 851] rfl (by decide +kernel)
set_option maxRecDepth 20000 in
theorem wl_wsX70 : ∀ w ∈ wsX70, w ∈ lw_tbl := mem_r _ [291, 293, 295, 297, 299] rfl
set_option maxRecDepth 20000 in
theorem wl_wsX80 : ∀ w ∈ wsX80, w ∈ lw_tbl := mem_r _ [618, 620, 622, 624, 626, 628, 630, 632, 634, 636, 638] rfl
set_option maxRecDepth 20000 in
theorem wl_wsX10 : ∀ w ∈ wsX10, w ∈ lw_tbl := mem_r _ [214, 216, 218, 220, 222, 224, 226] rfl
set_option maxRecDepth 20000 in
theorem wl_wsX40 : ∀ w ∈ wsX40, w ∈ lw_tbl := mem_r _ [247, 249, 251, 253, 255, 257, 259, 261, 263, 265, 267] rfl
set_option maxRecDepth 20000 in
theorem wl_wsX50 : ∀ w ∈ wsX50, w ∈ lw_tbl := mem_r _ [279, 281, 283] rfl
set_option maxRecDepth 20000 in
theorem wl_wsX30 : ∀ w ∈ wsX30, w ∈ lw_tbl := mem_r _ [76, 78] rfl
set_option maxRecDepth 20000 in
theorem wl_wsX20 : ∀ w ∈ wsX20, w ∈ lw_tbl := mem_r _ [95, 97, 99] rfl
set_option maxRecDepth 20000 in
theorem wl_wsX00 : ∀ w ∈ wsX00, w ∈ lw_tbl := mem_r _ [174, 176, 178, 180, 182, 184, 186, 188, 190, 192, 194] rfl
set_option maxRecDepth 20000 in
theorem wl_wsX60 : ∀ w ∈ wsX60, w ∈ lw_tbl := mem_r _ [134, 136, 138, 140, 142] rfl
theorem wsL_law_in : ∀ w ∈ wsL_law, w ∈ lw_tbl := (fun w h => (List.mem_append.mp h).elim ((fun w h => (List.mem_append.mp h).elim ((fun w h => (List.mem_append.mp h).elim ((fun w h => (List.mem_append.mp h).elim ((fun w h => (List.mem_append.mp h).elim ((fun w h => (List.mem_append.mp h).elim ((fun w h => (List.mem_append.mp h).elim ((fun w h => (List.mem_append.mp h).elim ((fun w h => (List.mem_append.mp h).elim ((fun w h => (List.mem_append.mp h).elim ((fun w h => (List.mem_append.mp h).elim (fun h => (wl_r1 w h).1) ((fun w h => (List.mem_append.mp h).elim (fun h => (wl_r2 w h).1) ((fun w h => (List.mem_append.mp h).elim (fun h => (wl_r3 w h).1) ((fun w h => (List.mem_append.mp h).elim (fun h => (wl_r4 w h).1) ((fun w h => (List.mem_append.mp h).elim (fun h => (wl_r5 w h).1) ((fun w h => (List.mem_append.mp h).elim (fun h => (wl_r6 w h).1) ((fun w h => (List.mem_append.mp h).elim (fun h => (wl_r7 w h).1) ((fun w h => (List.mem_append.mp h).elim (fun h => (wl_r8 w h).1) ((fun w h => (List.mem_append.mp h).elim (fun h => (wl_r9 w h).1) ((fun w h => (List.mem_append.mp h).elim (fun h => (wl_r10 w h).1) ((fun w h => (List.mem_append.mp h).elim (fun h => (wl_r11 w h).1) ((fun w h => (List.mem_append.mp h).elim (fun h => (wl_r12 w h).1) ((fun w h => (List.mem_append.mp h).elim (fun h => (wl_r13 w h).1) ((fun w h => (List.mem_append.mp h).elim (fun h => (wl_r14 w h).1) ((fun w h => (List.mem_append.mp h).elim (fun h => (wl_r15 w h).1) ((fun w h => (List.mem_append.mp h).elim (fun h => (wl_r16 w h).1) ((fun w h => (List.mem_append.mp h).elim (fun h => (wl_r17 w h).1) ((fun w h => (List.mem_append.mp h).elim (fun h => (wl_r18 w h).1) ((fun w h => (List.mem_append.mp h).elim (fun h => (wl_r19 w h).1) ((fun w h => (List.mem_append.mp h).elim (fun h => (wl_r20 w h).1) ((fun w h => (List.mem_append.mp h).elim (fun h => (wl_r21 w h).1) ((fun w h => (List.mem_append.mp h).elim (fun h => (wl_r22 w h).1) ((fun w h => (List.mem_append.mp h).elim (fun h => (wl_r23 w h).1) ((fun w h => (List.mem_append.mp h).elim (fun h => (wl_r24 w h).1) ((fun w h => (List.mem_append.mp h).elim (fun h => (wl_r25 w h).1) ((fun w h => (List.mem_append.mp h).elim (fun h => (wl_r26 w h).1) ((fun w h => (List.mem_append.mp h).elim (fun h => (wl_r27 w h).1) ((fun w h => (List.mem_append.mp h).elim (fun h => (wl_r28 w h).1) ((fun w h => (wl_r29 w h).1) w)) w)) w)) w)) w)) w)) w)) w)) w)) w)) w)) w)) w)) w)) w)) w)) w)) w)) w)) w)) w)) w)) w)) w)) w)) w)) w)) w)) w) (wl_wsX70 w)) w) (wl_wsX80 w)) w) (wl_wsX10 w)) w) (wl_wsX40 w)) w) (wl_wsX50 w)) w) (wl_wsX30 w)) w) (wl_wsX20 w)) w) (wl_wsX00 w)) w) (wl_wsX60 w)) w) (fun h => absurd h List.not_mem_nil))
theorem inlX0 : ∀ w ∈ wsX00, w ∈ wsL_law := fun _ h => List.mem_append_left _ (List.mem_append_left _ (List.mem_append_right _ h))
theorem inX0 : ∀ w ∈ wsX00, w ∈ lw_tbl := fun w h => wsL_law_in w (inlX0 w h)
theorem inlX1 : ∀ w ∈ wsX10, w ∈ wsL_law := fun _ h => List.mem_append_left _ (List.mem_append_left _ (List.mem_append_left _ (List.mem_append_left _ (List.mem_append_left _ (List.mem_append_left _ (List.mem_append_left _ (List.mem_append_right _ h)))))))
theorem inX1 : ∀ w ∈ wsX10, w ∈ lw_tbl := fun w h => wsL_law_in w (inlX1 w h)
theorem inlX2 : ∀ w ∈ wsX20, w ∈ wsL_law := fun _ h => List.mem_append_left _ (List.mem_append_left _ (List.mem_append_left _ (List.mem_append_right _ h)))
theorem inX2 : ∀ w ∈ wsX20, w ∈ lw_tbl := fun w h => wsL_law_in w (inlX2 w h)
theorem inlX3 : ∀ w ∈ wsX30, w ∈ wsL_law := fun _ h => List.mem_append_left _ (List.mem_append_left _ (List.mem_append_left _ (List.mem_append_left _ (List.mem_append_right _ h))))
theorem inX3 : ∀ w ∈ wsX30, w ∈ lw_tbl := fun w h => wsL_law_in w (inlX3 w h)
theorem inlX4 : ∀ w ∈ wsX40, w ∈ wsL_law := fun _ h => List.mem_append_left _ (List.mem_append_left _ (List.mem_append_left _ (List.mem_append_left _ (List.mem_append_left _ (List.mem_append_left _ (List.mem_append_right _ h))))))
theorem inX4 : ∀ w ∈ wsX40, w ∈ lw_tbl := fun w h => wsL_law_in w (inlX4 w h)
theorem inlX5 : ∀ w ∈ wsX50, w ∈ wsL_law := fun _ h => List.mem_append_left _ (List.mem_append_left _ (List.mem_append_left _ (List.mem_append_left _ (List.mem_append_left _ (List.mem_append_right _ h)))))
theorem inX5 : ∀ w ∈ wsX50, w ∈ lw_tbl := fun w h => wsL_law_in w (inlX5 w h)
theorem inlX6 : ∀ w ∈ wsX60, w ∈ wsL_law := fun _ h => List.mem_append_left _ (List.mem_append_right _ h)
theorem inX6 : ∀ w ∈ wsX60, w ∈ lw_tbl := fun w h => wsL_law_in w (inlX6 w h)
theorem inlX7 : ∀ w ∈ wsX70, w ∈ wsL_law := fun _ h => List.mem_append_left _ (List.mem_append_left _ (List.mem_append_left _ (List.mem_append_left _ (List.mem_append_left _ (List.mem_append_left _ (List.mem_append_left _ (List.mem_append_left _ (List.mem_append_left _ (List.mem_append_right _ h)))))))))
theorem inX7 : ∀ w ∈ wsX70, w ∈ lw_tbl := fun w h => wsL_law_in w (inlX7 w h)
theorem inlX8 : ∀ w ∈ wsX80, w ∈ wsL_law := fun _ h => List.mem_append_left _ (List.mem_append_left _ (List.mem_append_left _ (List.mem_append_left _ (List.mem_append_left _ (List.mem_append_left _ (List.mem_append_left _ (List.mem_append_left _ (List.mem_append_right _ h))))))))
theorem inX8 : ∀ w ∈ wsX80, w ∈ lw_tbl := fun w h => wsL_law_in w (inlX8 w h)
theorem inJ6 : ∀ w ∈ wsJ60, w ∈ lw_tbl := by decide +kernel
theorem inJ9 : ∀ w ∈ wsJ90, w ∈ lw_tbl := by decide +kernel
theorem inJ10 : ∀ w ∈ wsJ100, w ∈ lw_tbl := by decide +kernel
noncomputable def lw_ch (k j : Nat) : Option Cond := match k with
  | 0 => wsL_law_r1[j]?
  | 1 => wsL_law_r2[j]?
  | 2 => wsL_law_r3[j]?
  | 3 => wsL_law_r4[j]?
  | 4 => wsL_law_r5[j]?
  | 5 => wsL_law_r6[j]?
  | 6 => wsL_law_r7[j]?
  | 7 => wsL_law_r8[j]?
  | 8 => wsL_law_r9[j]?
  | 9 => wsL_law_r10[j]?
  | 10 => wsL_law_r11[j]?
  | 11 => wsL_law_r12[j]?
  | 12 => wsL_law_r13[j]?
  | 13 => wsL_law_r14[j]?
  | 14 => wsL_law_r15[j]?
  | 15 => wsL_law_r16[j]?
  | 16 => wsL_law_r17[j]?
  | 17 => wsL_law_r18[j]?
  | 18 => wsL_law_r19[j]?
  | 19 => wsL_law_r20[j]?
  | 20 => wsL_law_r21[j]?
  | 21 => wsL_law_r22[j]?
  | 22 => wsL_law_r23[j]?
  | 23 => wsL_law_r24[j]?
  | 24 => wsL_law_r25[j]?
  | 25 => wsL_law_r26[j]?
  | 26 => wsL_law_r27[j]?
  | 27 => wsL_law_r28[j]?
  | 28 => wsL_law_r29[j]?
  | 29 => wsX70[j]?
  | 30 => wsX80[j]?
  | 31 => wsX10[j]?
  | 32 => wsX40[j]?
  | 33 => wsX50[j]?
  | 34 => wsX30[j]?
  | 35 => wsX20[j]?
  | 36 => wsX00[j]?
  | _ => wsX60[j]?
theorem lw_chin : ∀ (k j : Nat) (c : Cond), lw_ch k j = some c → c ∈ wsL_law
  | 0, _, _, h => List.mem_append_left _ (List.mem_append_left _ (List.mem_append_left _ (List.mem_append_left _ (List.mem_append_left _ (List.mem_append_left _ (List.mem_append_left _ (List.mem_append_left _ (List.mem_append_left _ (List.mem_append_left _ (List.mem_append_left _ (List.mem_of_getElem? h)))))))))))
  | 1, _, _, h => List.mem_append_left _ (List.mem_append_left _ (List.mem_append_left _ (List.mem_append_left _ (List.mem_append_left _ (List.mem_append_left _ (List.mem_append_left _ (List.mem_append_left _ (List.mem_append_left _ (List.mem_append_left _ (List.mem_append_right _ (List.mem_append_left _ (List.mem_of_getElem? h))))))))))))
  | 2, _, _, h => List.mem_append_left _ (List.mem_append_left _ (List.mem_append_left _ (List.mem_append_left _ (List.mem_append_left _ (List.mem_append_left _ (List.mem_append_left _ (List.mem_append_left _ (List.mem_append_left _ (List.mem_append_left _ (List.mem_append_right _ (List.mem_append_right _ (List.mem_append_left _ (List.mem_of_getElem? h)))))))))))))
  | 3, _, _, h => List.mem_append_left _ (List.mem_append_left _ (List.mem_append_left _ (List.mem_append_left _ (List.mem_append_left _ (List.mem_append_left _ (List.mem_append_left _ (List.mem_append_left _ (List.mem_append_left _ (List.mem_append_left _ (List.mem_append_right _ (List.mem_append_right _ (List.mem_append_right _ (List.mem_append_left _ (List.mem_of_getElem? h))))))))))))))
  | 4, _, _, h => List.mem_append_left _ (List.mem_append_left _ (List.mem_append_left _ (List.mem_append_left _ (List.mem_append_left _ (List.mem_append_left _ (List.mem_append_left _ (List.mem_append_left _ (List.mem_append_left _ (List.mem_append_left _ (List.mem_append_right _ (List.mem_append_right _ (List.mem_append_right _ (List.mem_append_right _ (List.mem_append_left _ (List.mem_of_getElem? h)))))))))))))))
  | 5, _, _, h => List.mem_append_left _ (List.mem_append_left _ (List.mem_append_left _ (List.mem_append_left _ (List.mem_append_left _ (List.mem_append_left _ (List.mem_append_left _ (List.mem_append_left _ (List.mem_append_left _ (List.mem_append_left _ (List.mem_append_right _ (List.mem_append_right _ (List.mem_append_right _ (List.mem_append_right _ (List.mem_append_right _ (List.mem_append_left _ (List.mem_of_getElem? h))))))))))))))))
  | 6, _, _, h => List.mem_append_left _ (List.mem_append_left _ (List.mem_append_left _ (List.mem_append_left _ (List.mem_append_left _ (List.mem_append_left _ (List.mem_append_left _ (List.mem_append_left _ (List.mem_append_left _ (List.mem_append_left _ (List.mem_append_right _ (List.mem_append_right _ (List.mem_append_right _ (List.mem_append_right _ (List.mem_append_right _ (List.mem_append_right _ (List.mem_append_left _ (List.mem_of_getElem? h)))))))))))))))))
  | 7, _, _, h => List.mem_append_left _ (List.mem_append_left _ (List.mem_append_left _ (List.mem_append_left _ (List.mem_append_left _ (List.mem_append_left _ (List.mem_append_left _ (List.mem_append_left _ (List.mem_append_left _ (List.mem_append_left _ (List.mem_append_right _ (List.mem_append_right _ (List.mem_append_right _ (List.mem_append_right _ (List.mem_append_right _ (List.mem_append_right _ (List.mem_append_right _ (List.mem_append_left _ (List.mem_of_getElem? h))))))))))))))))))
  | 8, _, _, h => List.mem_append_left _ (List.mem_append_left _ (List.mem_append_left _ (List.mem_append_left _ (List.mem_append_left _ (List.mem_append_left _ (List.mem_append_left _ (List.mem_append_left _ (List.mem_append_left _ (List.mem_append_left _ (List.mem_append_right _ (List.mem_append_right _ (List.mem_append_right _ (List.mem_append_right _ (List.mem_append_right _ (List.mem_append_right _ (List.mem_append_right _ (List.mem_append_right _ (List.mem_append_left _ (List.mem_of_getElem? h)))))))))))))))))))
  | 9, _, _, h => List.mem_append_left _ (List.mem_append_left _ (List.mem_append_left _ (List.mem_append_left _ (List.mem_append_left _ (List.mem_append_left _ (List.mem_append_left _ (List.mem_append_left _ (List.mem_append_left _ (List.mem_append_left _ (List.mem_append_right _ (List.mem_append_right _ (List.mem_append_right _ (List.mem_append_right _ (List.mem_append_right _ (List.mem_append_right _ (List.mem_append_right _ (List.mem_append_right _ (List.mem_append_right _ (List.mem_append_left _ (List.mem_of_getElem? h))))))))))))))))))))
  | 10, _, _, h => List.mem_append_left _ (List.mem_append_left _ (List.mem_append_left _ (List.mem_append_left _ (List.mem_append_left _ (List.mem_append_left _ (List.mem_append_left _ (List.mem_append_left _ (List.mem_append_left _ (List.mem_append_left _ (List.mem_append_right _ (List.mem_append_right _ (List.mem_append_right _ (List.mem_append_right _ (List.mem_append_right _ (List.mem_append_right _ (List.mem_append_right _ (List.mem_append_right _ (List.mem_append_right _ (List.mem_append_right _ (List.mem_append_left _ (List.mem_of_getElem? h)))))))))))))))))))))
  | 11, _, _, h => List.mem_append_left _ (List.mem_append_left _ (List.mem_append_left _ (List.mem_append_left _ (List.mem_append_left _ (List.mem_append_left _ (List.mem_append_left _ (List.mem_append_left _ (List.mem_append_left _ (List.mem_append_left _ (List.mem_append_right _ (List.mem_append_right _ (List.mem_append_right _ (List.mem_append_right _ (List.mem_append_right _ (List.mem_append_right _ (List.mem_append_right _ (List.mem_append_right _ (List.mem_append_right _ (List.mem_append_right _ (List.mem_append_right _ (List.mem_append_left _ (List.mem_of_getElem? h))))))))))))))))))))))
  | 12, _, _, h => List.mem_append_left _ (List.mem_append_left _ (List.mem_append_left _ (List.mem_append_left _ (List.mem_append_left _ (List.mem_append_left _ (List.mem_append_left _ (List.mem_append_left _ (List.mem_append_left _ (List.mem_append_left _ (List.mem_append_right _ (List.mem_append_right _ (List.mem_append_right _ (List.mem_append_right _ (List.mem_append_right _ (List.mem_append_right _ (List.mem_append_right _ (List.mem_append_right _ (List.mem_append_right _ (List.mem_append_right _ (List.mem_append_right _ (List.mem_append_right _ (List.mem_append_left _ (List.mem_of_getElem? h)))))))))))))))))))))))
  | 13, _, _, h => List.mem_append_left _ (List.mem_append_left _ (List.mem_append_left _ (List.mem_append_left _ (List.mem_append_left _ (List.mem_append_left _ (List.mem_append_left _ (List.mem_append_left _ (List.mem_append_left _ (List.mem_append_left _ (List.mem_append_right _ (List.mem_append_right _ (List.mem_append_right _ (List.mem_append_right _ (List.mem_append_right _ (List.mem_append_right _ (List.mem_append_right _ (List.mem_append_right _ (List.mem_append_right _ (List.mem_append_right _ (List.mem_append_right _ (List.mem_append_right _ (List.mem_append_right _ (List.mem_append_left _ (List.mem_of_getElem? h))))))))))))))))))))))))
  | 14, _, _, h => List.mem_append_left _ (List.mem_append_left _ (List.mem_append_left _ (List.mem_append_left _ (List.mem_append_left _ (List.mem_append_left _ (List.mem_append_left _ (List.mem_append_left _ (List.mem_append_left _ (List.mem_append_left _ (List.mem_append_right _ (List.mem_append_right _ (List.mem_append_right _ (List.mem_append_right _ (List.mem_append_right _ (List.mem_append_right _ (List.mem_append_right _ (List.mem_append_right _ (List.mem_append_right _ (List.mem_append_right _ (List.mem_append_right _ (List.mem_append_right _ (List.mem_append_right _ (List.mem_append_right _ (List.mem_append_left _ (List.mem_of_getElem? h)))))))))))))))))))))))))
  | 15, _, _, h => List.mem_append_left _ (List.mem_append_left _ (List.mem_append_left _ (List.mem_append_left _ (List.mem_append_left _ (List.mem_append_left _ (List.mem_append_left _ (List.mem_append_left _ (List.mem_append_left _ (List.mem_append_left _ (List.mem_append_right _ (List.mem_append_right _ (List.mem_append_right _ (List.mem_append_right _ (List.mem_append_right _ (List.mem_append_right _ (List.mem_append_right _ (List.mem_append_right _ (List.mem_append_right _ (List.mem_append_right _ (List.mem_append_right _ (List.mem_append_right _ (List.mem_append_right _ (List.mem_append_right _ (List.mem_append_right _ (List.mem_append_left _ (List.mem_of_getElem? h))))))))))))))))))))))))))
  | 16, _, _, h => List.mem_append_left _ (List.mem_append_left _ (List.mem_append_left _ (List.mem_append_left _ (List.mem_append_left _ (List.mem_append_left _ (List.mem_append_left _ (List.mem_append_left _ (List.mem_append_left _ (List.mem_append_left _ (List.mem_append_right _ (List.mem_append_right _ (List.mem_append_right _ (List.mem_append_right _ (List.mem_append_right _ (List.mem_append_right _ (List.mem_append_right _ (List.mem_append_right _ (List.mem_append_right _ (List.mem_append_right _ (List.mem_append_right _ (List.mem_append_right _ (List.mem_append_right _ (List.mem_append_right _ (List.mem_append_right _ (List.mem_append_right _ (List.mem_append_left _ (List.mem_of_getElem? h)))))))))))))))))))))))))))
  | 17, _, _, h => List.mem_append_left _ (List.mem_append_left _ (List.mem_append_left _ (List.mem_append_left _ (List.mem_append_left _ (List.mem_append_left _ (List.mem_append_left _ (List.mem_append_left _ (List.mem_append_left _ (List.mem_append_left _ (List.mem_append_right _ (List.mem_append_right _ (List.mem_append_right _ (List.mem_append_right _ (List.mem_append_right _ (List.mem_append_right _ (List.mem_append_right _ (List.mem_append_right _ (List.mem_append_right _ (List.mem_append_right _ (List.mem_append_right _ (List.mem_append_right _ (List.mem_append_right _ (List.mem_append_right _ (List.mem_append_right _ (List.mem_append_right _ (List.mem_append_right _ (List.mem_append_left _ (List.mem_of_getElem? h))))))))))))))))))))))))))))
  | 18, _, _, h => List.mem_append_left _ (List.mem_append_left _ (List.mem_append_left _ (List.mem_append_left _ (List.mem_append_left _ (List.mem_append_left _ (List.mem_append_left _ (List.mem_append_left _ (List.mem_append_left _ (List.mem_append_left _ (List.mem_append_right _ (List.mem_append_right _ (List.mem_append_right _ (List.mem_append_right _ (List.mem_append_right _ (List.mem_append_right _ (List.mem_append_right _ (List.mem_append_right _ (List.mem_append_right _ (List.mem_append_right _ (List.mem_append_right _ (List.mem_append_right _ (List.mem_append_right _ (List.mem_append_right _ (List.mem_append_right _ (List.mem_append_right _ (List.mem_append_right _ (List.mem_append_right _ (List.mem_append_left _ (List.mem_of_getElem? h)))))))))))))))))))))))))))))
  | 19, _, _, h => List.mem_append_left _ (List.mem_append_left _ (List.mem_append_left _ (List.mem_append_left _ (List.mem_append_left _ (List.mem_append_left _ (List.mem_append_left _ (List.mem_append_left _ (List.mem_append_left _ (List.mem_append_left _ (List.mem_append_right _ (List.mem_append_right _ (List.mem_append_right _ (List.mem_append_right _ (List.mem_append_right _ (List.mem_append_right _ (List.mem_append_right _ (List.mem_append_right _ (List.mem_append_right _ (List.mem_append_right _ (List.mem_append_right _ (List.mem_append_right _ (List.mem_append_right _ (List.mem_append_right _ (List.mem_append_right _ (List.mem_append_right _ (List.mem_append_right _ (List.mem_append_right _ (List.mem_append_right _ (List.mem_append_left _ (List.mem_of_getElem? h))))))))))))))))))))))))))))))
  | 20, _, _, h => List.mem_append_left _ (List.mem_append_left _ (List.mem_append_left _ (List.mem_append_left _ (List.mem_append_left _ (List.mem_append_left _ (List.mem_append_left _ (List.mem_append_left _ (List.mem_append_left _ (List.mem_append_left _ (List.mem_append_right _ (List.mem_append_right _ (List.mem_append_right _ (List.mem_append_right _ (List.mem_append_right _ (List.mem_append_right _ (List.mem_append_right _ (List.mem_append_right _ (List.mem_append_right _ (List.mem_append_right _ (List.mem_append_right _ (List.mem_append_right _ (List.mem_append_right _ (List.mem_append_right _ (List.mem_append_right _ (List.mem_append_right _ (List.mem_append_right _ (List.mem_append_right _ (List.mem_append_right _ (List.mem_append_right _ (List.mem_append_left _ (List.mem_of_getElem? h)))))))))))))))))))))))))))))))
  | 21, _, _, h => List.mem_append_left _ (List.mem_append_left _ (List.mem_append_left _ (List.mem_append_left _ (List.mem_append_left _ (List.mem_append_left _ (List.mem_append_left _ (List.mem_append_left _ (List.mem_append_left _ (List.mem_append_left _ (List.mem_append_right _ (List.mem_append_right _ (List.mem_append_right _ (List.mem_append_right _ (List.mem_append_right _ (List.mem_append_right _ (List.mem_append_right _ (List.mem_append_right _ (List.mem_append_right _ (List.mem_append_right _ (List.mem_append_right _ (List.mem_append_right _ (List.mem_append_right _ (List.mem_append_right _ (List.mem_append_right _ (List.mem_append_right _ (List.mem_append_right _ (List.mem_append_right _ (List.mem_append_right _ (List.mem_append_right _ (List.mem_append_right _ (List.mem_append_left _ (List.mem_of_getElem? h))))))))))))))))))))))))))))))))
  | 22, _, _, h => List.mem_append_left _ (List.mem_append_left _ (List.mem_append_left _ (List.mem_append_left _ (List.mem_append_left _ (List.mem_append_left _ (List.mem_append_left _ (List.mem_append_left _ (List.mem_append_left _ (List.mem_append_left _ (List.mem_append_right _ (List.mem_append_right _ (List.mem_append_right _ (List.mem_append_right _ (List.mem_append_right _ (List.mem_append_right _ (List.mem_append_right _ (List.mem_append_right _ (List.mem_append_right _ (List.mem_append_right _ (List.mem_append_right _ (List.mem_append_right _ (List.mem_append_right _ (List.mem_append_right _ (List.mem_append_right _ (List.mem_append_right _ (List.mem_append_right _ (List.mem_append_right _ (List.mem_append_right _ (List.mem_append_right _ (List.mem_append_right _ (List.mem_append_right _ (List.mem_append_left _ (List.mem_of_getElem? h)))))))))))))))))))))))))))))))))
  | 23, _, _, h => List.mem_append_left _ (List.mem_append_left _ (List.mem_append_left _ (List.mem_append_left _ (List.mem_append_left _ (List.mem_append_left _ (List.mem_append_left _ (List.mem_append_left _ (List.mem_append_left _ (List.mem_append_left _ (List.mem_append_right _ (List.mem_append_right _ (List.mem_append_right _ (List.mem_append_right _ (List.mem_append_right _ (List.mem_append_right _ (List.mem_append_right _ (List.mem_append_right _ (List.mem_append_right _ (List.mem_append_right _ (List.mem_append_right _ (List.mem_append_right _ (List.mem_append_right _ (List.mem_append_right _ (List.mem_append_right _ (List.mem_append_right _ (List.mem_append_right _ (List.mem_append_right _ (List.mem_append_right _ (List.mem_append_right _ (List.mem_append_right _ (List.mem_append_right _ (List.mem_append_right _ (List.mem_append_left _ (List.mem_of_getElem? h))))))))))))))))))))))))))))))))))
  | 24, _, _, h => List.mem_append_left _ (List.mem_append_left _ (List.mem_append_left _ (List.mem_append_left _ (List.mem_append_left _ (List.mem_append_left _ (List.mem_append_left _ (List.mem_append_left _ (List.mem_append_left _ (List.mem_append_left _ (List.mem_append_right _ (List.mem_append_right _ (List.mem_append_right _ (List.mem_append_right _ (List.mem_append_right _ (List.mem_append_right _ (List.mem_append_right _ (List.mem_append_right _ (List.mem_append_right _ (List.mem_append_right _ (List.mem_append_right _ (List.mem_append_right _ (List.mem_append_right _ (List.mem_append_right _ (List.mem_append_right _ (List.mem_append_right _ (List.mem_append_right _ (List.mem_append_right _ (List.mem_append_right _ (List.mem_append_right _ (List.mem_append_right _ (List.mem_append_right _ (List.mem_append_right _ (List.mem_append_right _ (List.mem_append_left _ (List.mem_of_getElem? h)))))))))))))))))))))))))))))))))))
  | 25, _, _, h => List.mem_append_left _ (List.mem_append_left _ (List.mem_append_left _ (List.mem_append_left _ (List.mem_append_left _ (List.mem_append_left _ (List.mem_append_left _ (List.mem_append_left _ (List.mem_append_left _ (List.mem_append_left _ (List.mem_append_right _ (List.mem_append_right _ (List.mem_append_right _ (List.mem_append_right _ (List.mem_append_right _ (List.mem_append_right _ (List.mem_append_right _ (List.mem_append_right _ (List.mem_append_right _ (List.mem_append_right _ (List.mem_append_right _ (List.mem_append_right _ (List.mem_append_right _ (List.mem_append_right _ (List.mem_append_right _ (List.mem_append_right _ (List.mem_append_right _ (List.mem_append_right _ (List.mem_append_right _ (List.mem_append_right _ (List.mem_append_right _ (List.mem_append_right _ (List.mem_append_right _ (List.mem_append_right _ (List.mem_append_right _ (List.mem_append_left _ (List.mem_of_getElem? h))))))))))))))))))))))))))))))))))))
  | 26, _, _, h => List.mem_append_left _ (List.mem_append_left _ (List.mem_append_left _ (List.mem_append_left _ (List.mem_append_left _ (List.mem_append_left _ (List.mem_append_left _ (List.mem_append_left _ (List.mem_append_left _ (List.mem_append_left _ (List.mem_append_right _ (List.mem_append_right _ (List.mem_append_right _ (List.mem_append_right _ (List.mem_append_right _ (List.mem_append_right _ (List.mem_append_right _ (List.mem_append_right _ (List.mem_append_right _ (List.mem_append_right _ (List.mem_append_right _ (List.mem_append_right _ (List.mem_append_right _ (List.mem_append_right _ (List.mem_append_right _ (List.mem_append_right _ (List.mem_append_right _ (List.mem_append_right _ (List.mem_append_right _ (List.mem_append_right _ (List.mem_append_right _ (List.mem_append_right _ (List.mem_append_right _ (List.mem_append_right _ (List.mem_append_right _ (List.mem_append_right _ (List.mem_append_left _ (List.mem_of_getElem? h)))))))))))))))))))))))))))))))))))))
  | 27, _, _, h => List.mem_append_left _ (List.mem_append_left _ (List.mem_append_left _ (List.mem_append_left _ (List.mem_append_left _ (List.mem_append_left _ (List.mem_append_left _ (List.mem_append_left _ (List.mem_append_left _ (List.mem_append_left _ (List.mem_append_right _ (List.mem_append_right _ (List.mem_append_right _ (List.mem_append_right _ (List.mem_append_right _ (List.mem_append_right _ (List.mem_append_right _ (List.mem_append_right _ (List.mem_append_right _ (List.mem_append_right _ (List.mem_append_right _ (List.mem_append_right _ (List.mem_append_right _ (List.mem_append_right _ (List.mem_append_right _ (List.mem_append_right _ (List.mem_append_right _ (List.mem_append_right _ (List.mem_append_right _ (List.mem_append_right _ (List.mem_append_right _ (List.mem_append_right _ (List.mem_append_right _ (List.mem_append_right _ (List.mem_append_right _ (List.mem_append_right _ (List.mem_append_right _ (List.mem_append_left _ (List.mem_of_getElem? h))))))))))))))))))))))))))))))))))))))
  | 28, _, _, h => List.mem_append_left _ (List.mem_append_left _ (List.mem_append_left _ (List.mem_append_left _ (List.mem_append_left _ (List.mem_append_left _ (List.mem_append_left _ (List.mem_append_left _ (List.mem_append_left _ (List.mem_append_left _ (List.mem_append_right _ (List.mem_append_right _ (List.mem_append_right _ (List.mem_append_right _ (List.mem_append_right _ (List.mem_append_right _ (List.mem_append_right _ (List.mem_append_right _ (List.mem_append_right _ (List.mem_append_right _ (List.mem_append_right _ (List.mem_append_right _ (List.mem_append_right _ (List.mem_append_right _ (List.mem_append_right _ (List.mem_append_right _ (List.mem_append_right _ (List.mem_append_right _ (List.mem_append_right _ (List.mem_append_right _ (List.mem_append_right _ (List.mem_append_right _ (List.mem_append_right _ (List.mem_append_right _ (List.mem_append_right _ (List.mem_append_right _ (List.mem_append_right _ (List.mem_append_right _ (List.mem_of_getElem? h))))))))))))))))))))))))))))))))))))))
  | 29, _, _, h => List.mem_append_left _ (List.mem_append_left _ (List.mem_append_left _ (List.mem_append_left _ (List.mem_append_left _ (List.mem_append_left _ (List.mem_append_left _ (List.mem_append_left _ (List.mem_append_left _ (List.mem_append_right _ (List.mem_of_getElem? h))))))))))
  | 30, _, _, h => List.mem_append_left _ (List.mem_append_left _ (List.mem_append_left _ (List.mem_append_left _ (List.mem_append_left _ (List.mem_append_left _ (List.mem_append_left _ (List.mem_append_left _ (List.mem_append_right _ (List.mem_of_getElem? h)))))))))
  | 31, _, _, h => List.mem_append_left _ (List.mem_append_left _ (List.mem_append_left _ (List.mem_append_left _ (List.mem_append_left _ (List.mem_append_left _ (List.mem_append_left _ (List.mem_append_right _ (List.mem_of_getElem? h))))))))
  | 32, _, _, h => List.mem_append_left _ (List.mem_append_left _ (List.mem_append_left _ (List.mem_append_left _ (List.mem_append_left _ (List.mem_append_left _ (List.mem_append_right _ (List.mem_of_getElem? h)))))))
  | 33, _, _, h => List.mem_append_left _ (List.mem_append_left _ (List.mem_append_left _ (List.mem_append_left _ (List.mem_append_left _ (List.mem_append_right _ (List.mem_of_getElem? h))))))
  | 34, _, _, h => List.mem_append_left _ (List.mem_append_left _ (List.mem_append_left _ (List.mem_append_left _ (List.mem_append_right _ (List.mem_of_getElem? h)))))
  | 35, _, _, h => List.mem_append_left _ (List.mem_append_left _ (List.mem_append_left _ (List.mem_append_right _ (List.mem_of_getElem? h))))
  | 36, _, _, h => List.mem_append_left _ (List.mem_append_left _ (List.mem_append_right _ (List.mem_of_getElem? h)))
  | _ + 37, _, _, h => List.mem_append_left _ (List.mem_append_right _ (List.mem_of_getElem? h))
theorem goodIn_ch (ws : List Cond) (ps : List (Nat × Nat)) (hp : ws = ps.filterMap (fun p => lw_ch p.1 p.2)) (h : ws.all goodWord = true) : GoodIn wsL_law ws := by
  intro w hw
  have h1 := List.all_eq_true.mp h w hw
  rw [hp] at hw
  obtain ⟨p, -, hi⟩ := List.mem_filterMap.mp hw
  exact ⟨lw_chin _ _ _ hi, good_of_word h1⟩
/-! THE CLAIM OUT OF ONE WALK OF THE LAW'S BODY. Your part is whole_start (and what it stands on); all else here is the same for every law, but numbers. -/
def R_law : String := "QuietStairsLaw"
def lw_P (b : Addr) (xs : List Int32) (args : Array Value) (s : State) : Prop := args = #[.ref b] ∧ s.IntsAt b xs ∧ xs.length ≤ 3584 ∧ (Jvm.Cond.and given_1 narrow_1).before args s = true
def lw_Q (_ : Array Value) (s : State) (o : Outcome) (t : State) : Prop := o = .returned (some (.int 1)) ∧ Framed s o t [] 656374 7133126
def lw_Z (below : List Frame) (a : Array Value) (s : State) : State → Prop := fun t => ∃ o, t.status = .running ∧ Ended t below o ∧ lw_Q a s o t
/-- the law's own end, with 1 on the stack, nothing written that was there before, its room as the claim has it -/
theorem lw_ret {p : Program} {l : Launch} {e : Env} {s : State} {m : MethodId} {below : List Frame} {meth : Method} {c : Code} {b : Nat} (hx : p.tables.exec = Jvm.exec) (hb : c.code = code) (hr : meth.sig.returnType = ret) (hlocks : meth.locks = false) {pc : Nat} {H : Heap} {ls : Array Slot} (hdg : decode code pc = .ok (.ireturn, 1)) : W p l e room_1 s m #[Value.ref b] below meth c H [] 656374 7133126 (lw_Z below #[Value.ref b] s) (F0 m pc ls [.int 1]) := by
  intro T hT X
  obtain ⟨fs, hret, hrun, hended, hW, hframe⟩ := X.leave (v := some (.int 1)) (hlocks := hlocks) (fun h => by rw [hr] at h; cases h)
  have hmeth' : T.vm.method? m = some meth := X.method'
  refine ⟨T.setFrames fs, ?_, .returned (some (.int 1)), hrun, hended, rfl, ⟨_, rfl⟩, hW, hframe⟩
  jvm_step X.here [X.here.top, hx, hb, hdg, hmeth', hr, ret, narrow_b1]
  (try refine ⟨rfl, ?_⟩); (try refine ⟨rfl, ?_⟩)
  first | (intro acts; rw [hret _ acts rfl rfl rfl]) | rw [hret _ _ rfl rfl rfl]
  exact Steps.refl _
/-- what holds at the law's entry: the machine, the code, the tables' words (any of lw_tbl by 'hts w (by decide +kernel)'), the script of L ints xs at the cell b, what the Statement gives of the start (any of its parts by flat_of_before) -/
def lw_At (p : Program) (s : State) (m : MethodId) (meth : Method) (c : Code) (b L : Nat) (xs : Nat → Int32) : Prop :=
  p.tables.exec = Jvm.exec ∧ c.code = code ∧ meth.sig.returnType = ret ∧ c.maxLocals = 4 ∧ s.vm.findClass R_law = some m.cls ∧ (∀ w ∈ lw_tbl, w.before #[Value.ref b] s = true) ∧ va_X b L xs s s.heap ∧ b < s.heap.size ∧ meth.locks = false ∧ (Jvm.Cond.and given_1 narrow_1).before #[Value.ref b] s = true
theorem tb_ex {b : Nat} {s : State} (hts : ∀ w ∈ lw_tbl, w.before #[Value.ref b] s = true) : ex_K s :=
  ⟨va_Nw.of rfl (hts (.methodLinkNest RX1 29 yX3_init RX7) (by decide +kernel)), va_Nw.of rfl (hts (.methodLinkNest RX1 30 yX2_init RX7) (by decide +kernel)), va_Nw.of rfl (hts (.methodLinkNest RX0 32 yX6_init RX7) (by decide +kernel)), va_Nw.of rfl (hts (.methodLinkNest RX7 18 yX4_init RX7) (by decide +kernel)), va_Nw.of rfl (hts (.methodLinkNest RX7 25 yX5_init RX7) (by decide +kernel)),
   va_AO.of (hts (.arrayOver (.object RX3)) (by decide +kernel)), va_AO.of (hts (.arrayOver (.object RX2)) (by decide +kernel)), va_AO.of (hts (.arrayOver (.object RX0)) (by decide +kernel)), va_AO.of (hts (.arrayOver (.object RX6)) (by decide +kernel)), hts (.arrayOver (.array .int)) (by decide +kernel), ⟨va_Nw.of rfl (hts (.methodLinkNest RX1 51 yX7_hasBit RX7) (by decide +kernel)), va_Nw.of rfl (hts (.methodLinkNest RX4 115 yX7_hasBit RX7) (by decide +kernel)), va_Nw.of rfl (hts (.methodLinkNest RX5 47 yX7_hasBit RX7) (by decide +kernel)), va_Nw.of rfl (hts (.fieldLinkNest RX1 32 RX7 "OTHER_OF_PAIR" "[I" RX7) (by decide +kernel)), va_Nw.of rfl (hts (.fieldLinkNest RX1 40 RX7 "LESSER_OF_PAIR" "[I" RX7) (by decide +kernel)), va_Nw.of rfl (hts (.fieldLinkNest RX4 109 RX7 "LESSER_OF_PAIR" "[I" RX7) (by decide +kernel)), va_Nw.of rfl (hts (.fieldLinkNest RX4 112 RX7 "OTHER_OF_PAIR" "[I" RX7) (by decide +kernel))⟩⟩

set_option maxHeartbeats 4000000 in
set_option maxRecDepth 100000 in
theorem tb_K {b : Nat} {s : State} (hts : ∀ w ∈ lw_tbl, w.before #[Value.ref b] s = true) : ∃ (dC : Nat → ClassId) (dI : Nat → Nat → Nat) (cy : Nat → ClassId), va_K (dC, dI) vwCl (ty_L cy) s := by
  obtain ⟨c0, j0, hk0⟩ := u_known (C := RX0) (T := TX0) (N := 11) (n := 11) hts inX0 (hts (.instantiable RX0 11) (by decide +kernel))
  obtain ⟨c1, j1, hk1⟩ := u_known (C := RX1) (T := TX1) (N := 7) (n := 7) hts inX1 (hts (.instantiable RX1 7) (by decide +kernel))
  obtain ⟨c2, j2, hk2⟩ := u_known (C := RX2) (T := TX2) (N := 3) (n := 3) hts inX2 (hts (.instantiable RX2 3) (by decide +kernel))
  obtain ⟨c3, j3, hk3⟩ := u_known (C := RX3) (T := TX3) (N := 2) (n := 2) hts inX3 (hts (.instantiable RX3 2) (by decide +kernel))
  obtain ⟨c4, j4, hk4⟩ := u_known (C := RX4) (T := TX4) (N := 11) (n := 11) hts inX4 (hts (.instantiable RX4 11) (by decide +kernel))
  obtain ⟨c5, j5, hk5⟩ := u_known (C := RX5) (T := TX5) (N := 3) (n := 3) hts inX5 (hts (.instantiable RX5 3) (by decide +kernel))
  obtain ⟨c6, j6, hk6⟩ := u_known (C := RX6) (T := TX6) (N := 5) (n := 5) hts inX6 (hts (.instantiable RX6 5) (by decide +kernel))
  obtain ⟨c7, j7, hk7⟩ := u_known (C := RX7) (T := TX7) (N := 5) (n := 5) hts inX7 (hts (.instantiable RX7 5) (by decide +kernel))
  obtain ⟨c8, j8, hk8⟩ := u_known (C := RX8) (T := TX8) (N := 11) (n := 11) hts inX8 (hts (.instantiable RX8 11) (by decide +kernel))
  obtain ⟨y0, z0, w0, a1, a2, a3⟩ := Cond.arrayClass_spec (hts (.arrayClass .int) (by decide +kernel))
  obtain ⟨w1, y1, z1, b11, b12, b13, b14, b15⟩ := Cond.arrayOver_spec (hts (.arrayOver (.object RX3)) (by decide +kernel))
  obtain ⟨w2, y2, z2, b21, b22, b23, b24, b25⟩ := Cond.arrayOver_spec (hts (.arrayOver (.object RX2)) (by decide +kernel))
  obtain ⟨w3, y3, z3, b31, b32, b33, b34, b35⟩ := Cond.arrayOver_spec (hts (.arrayOver (.object RX0)) (by decide +kernel))
  obtain ⟨w4, y4, z4, b41, b42, b43, b44, b45⟩ := Cond.arrayOver_spec (hts (.arrayOver (.object RX6)) (by decide +kernel))
  obtain ⟨w5, y5, z5, b51, b52, b53, b54, b55⟩ := (show ao_A s from hts (.arrayOver (.array .int)) (by decide +kernel)).spec
  refine ⟨fun k => if k = 0 then c0 else if k = 1 then c1 else if k = 2 then c2 else if k = 3 then c3 else if k = 4 then c4 else if k = 5 then c5 else if k = 6 then c6 else if k = 7 then c7 else c8, fun k => if k = 0 then j0 else if k = 1 then j1 else if k = 2 then j2 else if k = 3 then j3 else if k = 4 then j4 else if k = 5 then j5 else if k = 6 then j6 else if k = 7 then j7 else j8, fun k => if k = 0 then y0 else if k = 1 then y1 else if k = 2 then y2 else if k = 3 then y3 else if k = 4 then y4 else y5, ?_, ?_⟩
  · intro k q hq
    match k, hq with
    | 0, hq => cases hq; exact hk0
    | 1, hq => cases hq; exact hk1
    | 2, hq => cases hq; exact hk2
    | 3, hq => cases hq; exact hk3
    | 4, hq => cases hq; exact hk4
    | 5, hq => cases hq; exact hk5
    | 6, hq => cases hq; exact hk6
    | 7, hq => cases hq; exact hk7
    | 8, hq => cases hq; exact hk8
    | k + 9, hq => simp [vwCl] at hq
  · intro k q hq
    match k, hq with
    | 0, hq => cases hq; exact ⟨fun N z => ⟨(fun q hq => by cases hq), z0, a2, w0, a3⟩, a1⟩
    | 1, hq => cases hq; exact ⟨fun N z => ⟨(fun q hq => by cases hq), z1, b13, w1, b14⟩, z1, w1, b13, b14, b11, b15⟩
    | 2, hq => cases hq; exact ⟨fun N z => ⟨(fun q hq => by cases hq), z2, b23, w2, b24⟩, z2, w2, b23, b24, b21, b25⟩
    | 3, hq => cases hq; exact ⟨fun N z => ⟨(fun q hq => by cases hq), z3, b33, w3, b34⟩, z3, w3, b33, b34, b31, b35⟩
    | 4, hq => cases hq; exact ⟨fun N z => ⟨(fun q hq => by cases hq), z4, b43, w4, b44⟩, z4, w4, b43, b44, b41, b45⟩
    | 5, hq => cases hq; exact ⟨fun N z => ⟨(fun q hq => by cases hq), z5, b53, w5, b54⟩, b55⟩
    | k + 6, hq => simp [ty_L] at hq

set_option maxHeartbeats 4000000 in
set_option maxRecDepth 100000 in
theorem tb_st_o {b : Nat} {s : State} (hts : ∀ w ∈ lw_tbl, w.before #[Value.ref b] s = true) (hgv : (Jvm.Cond.and given_1 narrow_1).before #[Value.ref b] s = true) : ∃ t, va_Z RX7 "OTHER_OF_PAIR" "[I" (.ref t) (fun q : Nat => s.heap.size ≤ q) s s.heap ∧ va_T .int t 6 (fun j => .int (st_o j)) (fun q : Nat => s.heap.size ≤ q) s s.heap := by
  have hs := flat_of_before _ hgv
  have hA : ∀ a : Nat, a < s.heap.size → ¬ (fun q : Nat => s.heap.size ≤ q) a := fun a h => Nat.not_le.mpr h
  have harr : (Cond.arrayOf (.static "QuietStairs" "OTHER_OF_PAIR" "[I") .int).before #[Value.ref b] s = true := hs _ (by decide +kernel)
  have hl6 : (Cond.eq (.length (.static "QuietStairs" "OTHER_OF_PAIR" "[I")) (.int 6)).before #[Value.ref b] s = true := hs _ (by decide +kernel)
  have e0 : (Cond.eq (.elem (.static "QuietStairs" "OTHER_OF_PAIR" "[I") (.int 0)) (.int 1)).before #[Value.ref b] s = true := hs _ (by decide +kernel)
  have e1 : (Cond.eq (.elem (.static "QuietStairs" "OTHER_OF_PAIR" "[I") (.int 1)) (.int 2)).before #[Value.ref b] s = true := hs _ (by decide +kernel)
  have e2 : (Cond.eq (.elem (.static "QuietStairs" "OTHER_OF_PAIR" "[I") (.int 2)) (.int 3)).before #[Value.ref b] s = true := hs _ (by decide +kernel)
  have e3 : (Cond.eq (.elem (.static "QuietStairs" "OTHER_OF_PAIR" "[I") (.int 3)) (.int 2)).before #[Value.ref b] s = true := hs _ (by decide +kernel)
  have e4 : (Cond.eq (.elem (.static "QuietStairs" "OTHER_OF_PAIR" "[I") (.int 4)) (.int 3)).before #[Value.ref b] s = true := hs _ (by decide +kernel)
  have e5 : (Cond.eq (.elem (.static "QuietStairs" "OTHER_OF_PAIR" "[I") (.int 5)) (.int 3)).before #[Value.ref b] s = true := hs _ (by decide +kernel)
  obtain ⟨t, ht, hT⟩ := va_Tof (N := 6) (f := fun j => .int (st_o j)) (A := fun q : Nat => s.heap.size ≤ q) (by decide) harr (va_eqt hl6) (fun j hj => by
    rcases (show j = 0 ∨ j = 1 ∨ j = 2 ∨ j = 3 ∨ j = 4 ∨ j = 5 by omega) with rfl | rfl | rfl | rfl | rfl | rfl
    · exact va_eqt e0
    · exact va_eqt e1
    · exact va_eqt e2
    · exact va_eqt e3
    · exact va_eqt e4
    · exact va_eqt e5) hA
  exact ⟨t, va_Zof (hts (.laysStatic RX7 "OTHER_OF_PAIR" "[I") (by decide +kernel)) (hts (.initialized RX7) (by decide +kernel)) ht hA, hT⟩

set_option maxHeartbeats 4000000 in
set_option maxRecDepth 100000 in
theorem tb_st_l {b : Nat} {s : State} (hts : ∀ w ∈ lw_tbl, w.before #[Value.ref b] s = true) (hgv : (Jvm.Cond.and given_1 narrow_1).before #[Value.ref b] s = true) : ∃ t, va_Z RX7 "LESSER_OF_PAIR" "[I" (.ref t) (fun q : Nat => s.heap.size ≤ q) s s.heap ∧ va_T .int t 6 (fun j => .int (st_l j)) (fun q : Nat => s.heap.size ≤ q) s s.heap := by
  have hs := flat_of_before _ hgv
  have hA : ∀ a : Nat, a < s.heap.size → ¬ (fun q : Nat => s.heap.size ≤ q) a := fun a h => Nat.not_le.mpr h
  have harr : (Cond.arrayOf (.static "QuietStairs" "LESSER_OF_PAIR" "[I") .int).before #[Value.ref b] s = true := hs _ (by decide +kernel)
  have hl6 : (Cond.eq (.length (.static "QuietStairs" "LESSER_OF_PAIR" "[I")) (.int 6)).before #[Value.ref b] s = true := hs _ (by decide +kernel)
  have e0 : (Cond.eq (.elem (.static "QuietStairs" "LESSER_OF_PAIR" "[I") (.int 0)) (.int 0)).before #[Value.ref b] s = true := hs _ (by decide +kernel)
  have e1 : (Cond.eq (.elem (.static "QuietStairs" "LESSER_OF_PAIR" "[I") (.int 1)) (.int 0)).before #[Value.ref b] s = true := hs _ (by decide +kernel)
  have e2 : (Cond.eq (.elem (.static "QuietStairs" "LESSER_OF_PAIR" "[I") (.int 2)) (.int 0)).before #[Value.ref b] s = true := hs _ (by decide +kernel)
  have e3 : (Cond.eq (.elem (.static "QuietStairs" "LESSER_OF_PAIR" "[I") (.int 3)) (.int 1)).before #[Value.ref b] s = true := hs _ (by decide +kernel)
  have e4 : (Cond.eq (.elem (.static "QuietStairs" "LESSER_OF_PAIR" "[I") (.int 4)) (.int 1)).before #[Value.ref b] s = true := hs _ (by decide +kernel)
  have e5 : (Cond.eq (.elem (.static "QuietStairs" "LESSER_OF_PAIR" "[I") (.int 5)) (.int 2)).before #[Value.ref b] s = true := hs _ (by decide +kernel)
  obtain ⟨t, ht, hT⟩ := va_Tof (N := 6) (f := fun j => .int (st_l j)) (A := fun q : Nat => s.heap.size ≤ q) (by decide) harr (va_eqt hl6) (fun j hj => by
    rcases (show j = 0 ∨ j = 1 ∨ j = 2 ∨ j = 3 ∨ j = 4 ∨ j = 5 by omega) with rfl | rfl | rfl | rfl | rfl | rfl
    · exact va_eqt e0
    · exact va_eqt e1
    · exact va_eqt e2
    · exact va_eqt e3
    · exact va_eqt e4
    · exact va_eqt e5) hA
  exact ⟨t, va_Zof (hts (.laysStatic RX7 "LESSER_OF_PAIR" "[I") (by decide +kernel)) (hts (.initialized RX7) (by decide +kernel)) ht hA, hT⟩
