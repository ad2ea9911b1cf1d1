
theorem btx_b (x y : Int32) : 0 ≤ (btx x y).toInt ∧ (btx x y).toInt ≤ 1 := by
  have h : (btx x y).toBitVec = BitVec.setWidth 32 (BitVec.ofBool ((x >>> (y &&& 31)).toBitVec.getLsbD 0)) := by
    show (x >>> (y &&& 31)).toBitVec &&& 1#32 = _
    rw [BitVec.and_one_eq_setWidth_ofBool_getLsbD]
  have e : (btx x y).toInt = (btx x y).toBitVec.toInt := rfl
  rw [e, h]
  cases (x >>> (y &&& 31)).toBitVec.getLsbD 0 <;> decide
/-- a mediator with kin K and floor F is near to a party p that lives at l -/
def ner (K F p l : Int32) : Prop := (btx K p).toInt = 1 ∨ F.toInt = l.toInt
def oks (T k1 f1 k2 f2 p g l : Int32) : Prop := (btx T g).toInt = 1 ∧ ¬ ner k1 f1 p l ∧ ¬ ner k2 f2 p l
/-- two mediators may sit over two parties -/
def fit (t1 t2 k1 f1 k2 f2 p0 g0 l0 p1 g1 l1 : Int32) : Prop := oks (t1 ||| t2) k1 f1 k2 f2 p0 g0 l0 ∧ oks (t1 ||| t2) k1 f1 k2 f2 p1 g1 l1
theorem st_pt {x : Int32} (h : 0 ≤ x.toInt ∧ x.toInt ≤ 5) : (st_o x.toNatClampNeg).toInt = pt x.toInt ∧ (st_l x.toNatClampNeg).toInt = pn x.toInt := by
  have z := t_nn h.1
  rw [← z]
  rcases (show x.toNatClampNeg = 0 ∨ x.toNatClampNeg = 1 ∨ x.toNatClampNeg = 2 ∨ x.toNatClampNeg = 3 ∨ x.toNatClampNeg = 4 ∨ x.toNatClampNeg = 5 by omega) with q | q | q | q | q | q <;> rw [q] <;> decide
theorem st_lo : ∀ j : Fin 6, (st_l j.val).toInt < (st_o j.val).toInt := by decide

set_option maxHeartbeats 4000000 in
set_option maxRecDepth 100000 in
theorem e_X1_hasPair (l : Launch) (dC : Nat → ClassId) (dI : Nat → Nat → Nat) (cy : Nat → ClassId) (sz : Nat) (ad : Nat → Nat) (kv : Value) (N : Nat) (hN : 119 ≤ N) (v : Nat → Nat → Int32) (hv : Iv v) (x0 : Int32) (hs : 0 ≤ x0.toInt ∧ x0.toInt ≤ 5) (t1 t2 : Nat) : Met l yX1_hasPair wsX1_hasPair ({ frames := 0, cells := 0, slots := 0, locals := 0 }) (va_Pc [.ref (ad 13), .int x0] (ex_PreT dC dI cy sz (wl ad kv cy N v) t1 t2)) (va_Qi (fun (r : Int32) (u : Nat → Nat → Int32) => Iv u ∧ u = v ∧ ((r = 1 ∧ (st_o x0.toNatClampNeg).toInt < (v 13 1).toInt) ∨ (r = 0 ∧ ¬ (st_o x0.toNatClampNeg).toInt < (v 13 1).toInt))) (fun u t => ex_Pst dC dI (va_A (wl ad kv cy N v) sz) (wl ad kv cy N u) t) (va_A (wl ad kv cy N v) sz)) 0 0 (va_A (wl ad kv cy N v) sz) := by
  refine Met.ofW (cc := cX1_hasPair) (maxL := 2) (ret := (some .boolean)) (by decide) rfl ?_
  intro p e s m args below meth c s₁ B hml hv
  obtain ⟨rfl, ⟨hsz, hE, hP, hK, hD0⟩, hSt⟩ := hv
  have hx := B.exec
  have hb := B.bytes
  have hr := B.returns
  have hts := atoms_spec (ws := wsX1_hasPair) B.pre
  have hown : s.vm.findClass RX1 = some m.cls := findClass_of_methodNamed B.named
  have hlocks := B.notSynchronized
  subst hsz
  have hD := hD0.self (sz := s.heap.size)
  generalize hAe : va_A (wl ad kv cy N v) s.heap.size = A at hD hSt ⊢
  have hA : ∀ q : Nat, s.heap.size ≤ q → A q := fun q h => by rw [← hAe]; exact Or.inr h
  have hS : va_S A s.heap s.heap [] := va_S.rf
  have hP : va_P (dC, dI) vwCl (wl ad kv cy N v) s.heap := hP
  have hl := lv_entry ([.ref (ad 13), .int x0]) (n := 2) (Nat.le_of_ble_eq_true rfl)
  rw [lg_entry_eq]
  generalize (lg_sl ([.ref (ad 13), .int x0]) ++ List.replicate (2 - (lg_sl ([.ref (ad 13), .int x0])).length) Slot.unset).toArray = ls at hl ⊢
  have hl : lv_has ls 2 [(0, .ref (ad 13)), (1, .int x0)] := hl
  refine va_getsN hx hb hSt.1.1 hS hown (va_Nw.use rfl hE.2.2.2.2.2.2.2.2.2.2.2.2.2.1) (fun _ h => h) dX1_hasPair_0 ?_
  refine lv_iload_n hx hb dX1_hasPair_3 rfl (lv_at hl 1 rfl) ?_
  have zn_x0 : (x0.toNatClampNeg : Int) = x0.toInt := t_nn (by omega)
  have hx_1 : x0.toNatClampNeg < 6 := by omega
  refine va_ti (v := .int (st_o x0.toNatClampNeg)) hx hb hSt.1.2 hS (vp_in_iff.mpr ⟨by omega, by omega⟩) rfl dX1_hasPair_4 ?_
  refine lv_topi (fun x_2 ex_2 => ?_)
  have bzx_2 : 0 ≤ x_2.toInt ∧ x_2.toInt ≤ 3 := by rw [ex_2]; exact (st_b _).1
  refine lv_aload_n hx hb dX1_hasPair_5 rfl (lv_at hl 0 rfl) ?_
  refine va_get (D := (dC, dI)) (ci := 1) (v := .int (v (13) 1)) (C := RX1) (T := TX1) (N := 7) hx hb hts (by decide +kernel) hown hK hP (13) (wl_at (by omega) (ce_3 (by decide))) rfl 1 (by decide) (hts (.fieldLink RX1 36 "QuietStairs$House" "mediatorCount" "I") (by decide +kernel)) (fun _ h9 => h9) rfl dX1_hasPair_6 ?_
  refine lv_topi (fun x_3 ex_3 => ?_)
  have bzx_3 : 0 ≤ x_3.toInt ∧ x_3.toInt ≤ 4 := by rw [ex_3]; exact hv.at (K := 3) (by decide) rfl
  have qx_3 : x_3.toInt = (v (13) (1)).toInt := congrArg Int32.toInt ex_3
  refine lv_icmp_ge (tgt := 16) hx hb dX1_hasPair_9 (by decide) (fun c_4 => ?_) (fun c_4 => ?_)
  · have tc_4 : x_2.toInt ≥ x_3.toInt := Int32.le_iff_toInt_le.mp c_4
    refine lv_iconst (v := 0) hx hb dX1_hasPair_16 (by decide) ?_
    have hs1 : x_2.toInt = (st_o x0.toNatClampNeg).toInt := by rw [ex_2]
    exact W.zret (ty := .boolean) (v := 0) hx hb hr rfl (fun t ht hW => ⟨⟨0, v, rfl, ⟨hv, rfl, Or.inr ⟨rfl, by omega⟩⟩, by rw [ht]; exact hP, hD⟩, hS.F ht⟩) hS.2.2 dX1_hasPair_17
  · have tc_4 : x_2.toInt < x_3.toInt := Int32.lt_iff_toInt_lt.mp (Int32.not_le.mp c_4)
    refine lv_iconst (v := 1) hx hb dX1_hasPair_12 (by decide) ?_
    refine lv_goto (tgt := 17) hx hb dX1_hasPair_13 (by decide) ?_
    have hs1 : x_2.toInt = (st_o x0.toNatClampNeg).toInt := by rw [ex_2]
    exact W.zret (ty := .boolean) (v := 1) hx hb hr rfl (fun t ht hW => ⟨⟨1, v, rfl, ⟨hv, rfl, Or.inl ⟨rfl, by omega⟩⟩, by rw [ht]; exact hP, hD⟩, hS.F ht⟩) hS.2.2 dX1_hasPair_17

set_option maxHeartbeats 4000000 in
set_option maxRecDepth 100000 in
theorem e_X1_isNear (l : Launch) (dC : Nat → ClassId) (dI : Nat → Nat → Nat) (cy : Nat → ClassId) (sz : Nat) (ad : Nat → Nat) (kv : Value) (N : Nat) (hN : 119 ≤ N) (v : Nat → Nat → Int32) (hv : Iv v) (i : Nat) (hi : i < 4) (x0 : Int32) (hs : 0 ≤ x0.toInt ∧ x0.toInt ≤ 7) : Met l yX1_isNear wsX1_isNear ({ frames := 1, cells := 0, slots := 0, locals := 64 }) (va_Pc [.ref (ad 13), .ref (ad (25 + i)), .int x0] (ex_Pre dC dI cy sz (wl ad kv cy N v))) (va_Qi (fun (r : Int32) (u : Nat → Nat → Int32) => Iv u ∧ u = v ∧ ((r = 1 ∧ ner (v (25 + i) 2) (v (25 + i) 0) x0 (v (17 + x0.toNatClampNeg) 0)) ∨ (r = 0 ∧ ¬ ner (v (25 + i) 2) (v (25 + i) 0) x0 (v (17 + x0.toNatClampNeg) 0)))) (fun u t => ex_Pst dC dI (va_A (wl ad kv cy N v) sz) (wl ad kv cy N u) t) (va_A (wl ad kv cy N v) sz)) 0 0 (va_A (wl ad kv cy N v) sz) := by
  refine Met.ofW (cc := cX1_isNear) (maxL := 3) (ret := (some .boolean)) (by decide) rfl ?_
  intro p e s m args below meth c s₁ B hml hv
  obtain ⟨rfl, hsz, hE, hP, hK, hD0⟩ := hv
  have hx := B.exec
  have hb := B.bytes
  have hr := B.returns
  have hts := atoms_spec (ws := wsX1_isNear) B.pre
  have hown : s.vm.findClass RX1 = some m.cls := findClass_of_methodNamed B.named
  have hlocks := B.notSynchronized
  subst hsz
  have hD := hD0.self (sz := s.heap.size)
  generalize hAe : va_A (wl ad kv cy N v) s.heap.size = A at hD ⊢
  have hA : ∀ q : Nat, s.heap.size ≤ q → A q := fun q h => by rw [← hAe]; exact Or.inr h
  have hS : va_S A s.heap s.heap [] := va_S.rf
  have hP : va_P (dC, dI) vwCl (wl ad kv cy N v) s.heap := hP
  have hl := lv_entry ([.ref (ad 13), .ref (ad (25 + i)), .int x0]) (n := 3) (Nat.le_of_ble_eq_true rfl)
  rw [lg_entry_eq]
  generalize (lg_sl ([.ref (ad 13), .ref (ad (25 + i)), .int x0]) ++ List.replicate (3 - (lg_sl ([.ref (ad 13), .ref (ad (25 + i)), .int x0])).length) Slot.unset).toArray = ls at hl ⊢
  have hl : lv_has ls 3 [(0, .ref (ad 13)), (1, .ref (ad (25 + i))), (2, .int x0)] := hl
  have zn_x0 : (x0.toNatClampNeg : Int) = x0.toInt := t_nn (by omega)
  have hx8 : x0.toNatClampNeg < 8 := by omega
  obtain ⟨kb, ekb⟩ : ∃ z : Int32, z = v (25 + i) 2 := ⟨_, rfl⟩
  obtain ⟨fl, efl⟩ : ∃ z : Int32, z = v (25 + i) 0 := ⟨_, rfl⟩
  obtain ⟨pf, epf⟩ : ∃ z : Int32, z = v (17 + x0.toNatClampNeg) 0 := ⟨_, rfl⟩
  refine lv_aload_n hx hb dX1_isNear_0 rfl (lv_at hl 1 rfl) ?_
  refine va_get (D := (dC, dI)) (ci := 2) (v := .int (v (25 + i) 2)) (C := RX2) (T := TX2) (N := 3) hx hb hts (by decide +kernel) hown hK hP (25 + i) (wl_at (by omega) (ce_8 (kd_m _ hi).1)) rfl 2 (by decide) (hts (.fieldLink RX1 59 "QuietStairs$Mediator" "kinBits" "I") (by decide +kernel)) (fun _ h9 => h9) rfl dX1_isNear_1 ?_
  refine lv_topi (fun x_1 ex_1 => ?_)
  obtain rfl : kb = x_1 := (ex_1.trans ekb.symm).symm
  refine lv_iload_n hx hb dX1_isNear_4 rfl (lv_at hl 2 rfl) ?_
  refine yc_p hP hS (va_runSN (As := [.int kb, .int x0]) (rest := []) ⟨hx, hb, hml, hown, hts⟩ (e_X7_hasBit l kb x0) ⟨va_cnB 2 hts gX1_isNear_X7_hasBit_n51 rfl rfl rfl hE.2.2.2.2.2.2.2.2.2.2.1 (hts (.initialized RX7) (by decide +kernel)) (by decide +kernel) ⟨Nat.le_of_ble_eq_true rfl, Nat.le_of_ble_eq_true rfl⟩, (hts (.static yX7_hasBit) (by decide +kernel)), trivial⟩ ex_preP rfl rfl hl.1 rfl (lv_room (Nat.le_of_ble_eq_true rfl)) dX1_isNear_5 ⟨Nat.le_of_ble_eq_true rfl, Nat.le_of_ble_eq_true rfl⟩) (fun r_2 H locs hw_2 hP hS => ?_)
  rcases hw_2 with ⟨rfl, hh_3⟩ | ⟨rfl, hh_3⟩
  · refine lv_if_ne (tgt := 27) hx hb dX1_isNear_8 (by decide) (fun _ => ?_) (fun c9 => absurd c9 (by decide))
    refine lv_iconst (v := 1) hx hb dX1_isNear_27 (by decide) ?_
    refine lv_goto (tgt := 32) hx hb dX1_isNear_28 (by decide) ?_
    exact W.zret (ty := .boolean) (v := 1) hx hb hr rfl (fun t ht hW => ⟨⟨1, v, rfl, ⟨hv, rfl, by rw [← ekb, ← efl, ← epf]; unfold ner; exact Or.inl ⟨rfl, by omega⟩⟩, by rw [ht]; exact hP, hD⟩, hS.F ht⟩) hS.2.2 dX1_isNear_32
  · refine lv_if_ne (tgt := 27) hx hb dX1_isNear_8 (by decide) (fun c9 => absurd c9 (by decide)) (fun _ => ?_)
    refine lv_aload_n hx hb dX1_isNear_11 rfl (lv_at hl 1 rfl) ?_
    refine va_get (D := (dC, dI)) (ci := 2) (v := .int (v (25 + i) 0)) (C := RX2) (T := TX2) (N := 3) hx hb hts (by decide +kernel) hown hK hP (25 + i) (wl_at (by omega) (ce_8 (kd_m _ hi).1)) rfl 0 (by decide) (hts (.fieldLink RX1 62 "QuietStairs$Mediator" "floor" "I") (by decide +kernel)) (fun _ h9 => h9) rfl dX1_isNear_12 ?_
    refine lv_topi (fun x_4 ex_4 => ?_)
    obtain rfl : fl = x_4 := (ex_4.trans efl.symm).symm
    refine lv_aload_n hx hb dX1_isNear_15 rfl (lv_at hl 0 rfl) ?_
    refine va_get (D := (dC, dI)) (ci := 1) (v := .ref (ad 14)) (C := RX1) (T := TX1) (N := 7) hx hb hts (by decide +kernel) hown hK hP (13) (wl_at (by omega) (ce_3 (by decide))) rfl 4 (by decide) (hts (.fieldLink RX1 11 "QuietStairs$House" "parties" "[LQuietStairs$Party;") (by decide +kernel)) (fun _ h9 => h9) rfl dX1_isNear_16 ?_
    refine lv_iload_n hx hb dX1_isNear_19 rfl (lv_at hl 2 rfl) ?_
    refine va_aldq hx hb hK hP (14) 1 (wl_at (by omega) (ce_4 (by decide))) rfl (vp_in_iff.mpr ⟨by omega, by omega⟩) dX1_isNear_20 ?_
    refine W.eq (g2 := F0 m 21 ls [.ref (ad (17 + x0.toNatClampNeg)), .int fl]) (by rw [if_pos hx8, show 14 + 3 + x0.toNatClampNeg = 17 + x0.toNatClampNeg from by omega]; rfl) ?_
    refine va_get (D := (dC, dI)) (ci := 3) (v := .int (v (17 + x0.toNatClampNeg) 0)) (C := RX3) (T := TX3) (N := 2) hx hb hts (by decide +kernel) hown hK hP (17 + x0.toNatClampNeg) (wl_at (by omega) (ce_7 (kd_p _ hx8).1)) rfl 0 (by decide) (hts (.fieldLink RX1 65 "QuietStairs$Party" "floor" "I") (by decide +kernel)) (fun _ h9 => h9) rfl dX1_isNear_21 ?_
    refine lv_topi (fun x_5 ex_5 => ?_)
    obtain rfl : pf = x_5 := (ex_5.trans epf.symm).symm
    refine lv_icmp_ne (tgt := 31) hx hb dX1_isNear_24 (by decide) (fun c_6 => ?_) (fun c_6 => ?_)
    · have tc_6 : fl.toInt ≠ pf.toInt := fun q => absurd (Int32.toInt_inj.mp q) c_6
      refine lv_iconst (v := 0) hx hb dX1_isNear_31 (by decide) ?_
      exact W.zret (ty := .boolean) (v := 0) hx hb hr rfl (fun t ht hW => ⟨⟨0, v, rfl, ⟨hv, rfl, by rw [← ekb, ← efl, ← epf]; unfold ner; exact Or.inr ⟨rfl, by omega⟩⟩, by rw [ht]; exact hP, hD⟩, hS.F ht⟩) hS.2.2 dX1_isNear_32
    · have tc_6 : fl.toInt = pf.toInt := by rw [c_6]
      refine lv_iconst (v := 1) hx hb dX1_isNear_27 (by decide) ?_
      refine lv_goto (tgt := 32) hx hb dX1_isNear_28 (by decide) ?_
      exact W.zret (ty := .boolean) (v := 1) hx hb hr rfl (fun t ht hW => ⟨⟨1, v, rfl, ⟨hv, rfl, by rw [← ekb, ← efl, ← epf]; unfold ner; exact Or.inl ⟨rfl, by omega⟩⟩, by rw [ht]; exact hP, hD⟩, hS.F ht⟩) hS.2.2 dX1_isNear_32

set_option maxHeartbeats 4000000 in
set_option maxRecDepth 100000 in
theorem e_X1_pairFits (l : Launch) (dC : Nat → ClassId) (dI : Nat → Nat → Nat) (cy : Nat → ClassId) (sz : Nat) (ad : Nat → Nat) (kv : Value) (N : Nat) (hN : 119 ≤ N) (v : Nat → Nat → Int32) (hv : Iv v) (x0 : Int32) (hs : 0 ≤ x0.toInt ∧ x0.toInt ≤ 5) (i : Nat) (hi : i < 6) (t1 t2 : Nat) : Met l yX1_pairFits wsX1_pairFits ({ frames := 2, cells := 0, slots := 0, locals := 128 }) (va_Pc [.ref (ad 13), .int x0, .ref (ad (29 + 15 * i))] (ex_PreT dC dI cy sz (wl ad kv cy N v) t1 t2)) (va_Qi (fun (r : Int32) (u : Nat → Nat → Int32) => Iv u ∧ u = v ∧ ((r = 1 ∧ fit (v (25 + (st_l x0.toNatClampNeg).toNatClampNeg) 1) (v (25 + (st_o x0.toNatClampNeg).toNatClampNeg) 1) (v (25 + (st_l x0.toNatClampNeg).toNatClampNeg) 2) (v (25 + (st_l x0.toNatClampNeg).toNatClampNeg) 0) (v (25 + (st_o x0.toNatClampNeg).toNatClampNeg) 2) (v (25 + (st_o x0.toNatClampNeg).toNatClampNeg) 0) (v (30 + 15 * i) 0) (v (17 + (v (30 + 15 * i) 0).toNatClampNeg) 1) (v (17 + (v (30 + 15 * i) 0).toNatClampNeg) 0) (v (30 + 15 * i) 1) (v (17 + (v (30 + 15 * i) 1).toNatClampNeg) 1) (v (17 + (v (30 + 15 * i) 1).toNatClampNeg) 0)) ∨ (r = 0 ∧ ¬ fit (v (25 + (st_l x0.toNatClampNeg).toNatClampNeg) 1) (v (25 + (st_o x0.toNatClampNeg).toNatClampNeg) 1) (v (25 + (st_l x0.toNatClampNeg).toNatClampNeg) 2) (v (25 + (st_l x0.toNatClampNeg).toNatClampNeg) 0) (v (25 + (st_o x0.toNatClampNeg).toNatClampNeg) 2) (v (25 + (st_o x0.toNatClampNeg).toNatClampNeg) 0) (v (30 + 15 * i) 0) (v (17 + (v (30 + 15 * i) 0).toNatClampNeg) 1) (v (17 + (v (30 + 15 * i) 0).toNatClampNeg) 0) (v (30 + 15 * i) 1) (v (17 + (v (30 + 15 * i) 1).toNatClampNeg) 1) (v (17 + (v (30 + 15 * i) 1).toNatClampNeg) 0)))) (fun u t => ex_Pst dC dI (va_A (wl ad kv cy N v) sz) (wl ad kv cy N u) t) (va_A (wl ad kv cy N v) sz)) 0 0 (va_A (wl ad kv cy N v) sz) := by
  refine Met.ofW (cc := cX1_pairFits) (maxL := 8) (ret := (some .boolean)) (by decide) rfl ?_
  intro p e s m args below meth c s₁ B hml hv
  obtain ⟨rfl, ⟨hsz, hE, hP, hK, hD0⟩, hSt⟩ := hv
  have hx := B.exec
  have hb := B.bytes
  have hr := B.returns
  have hts := atoms_spec (ws := wsX1_pairFits) B.pre
  have hown : s.vm.findClass RX1 = some m.cls := findClass_of_methodNamed B.named
  have hlocks := B.notSynchronized
  subst hsz
  have hD := hD0.self (sz := s.heap.size)
  generalize hAe : va_A (wl ad kv cy N v) s.heap.size = A at hD hSt ⊢
  have hA : ∀ q : Nat, s.heap.size ≤ q → A q := fun q h => by rw [← hAe]; exact Or.inr h
  have hS : va_S A s.heap s.heap [] := va_S.rf
  have hP : va_P (dC, dI) vwCl (wl ad kv cy N v) s.heap := hP
  have hl := lv_entry ([.ref (ad 13), .int x0, .ref (ad (29 + 15 * i))]) (n := 8) (Nat.le_of_ble_eq_true rfl)
  rw [lg_entry_eq]
  generalize (lg_sl ([.ref (ad 13), .int x0, .ref (ad (29 + 15 * i))]) ++ List.replicate (8 - (lg_sl ([.ref (ad 13), .int x0, .ref (ad (29 + 15 * i))])).length) Slot.unset).toArray = ls at hl ⊢
  have hl : lv_has ls 8 [(0, .ref (ad 13)), (1, .int x0), (2, .ref (ad (29 + 15 * i)))] := hl
  have zn_x0 : (x0.toNatClampNeg : Int) = x0.toInt := t_nn (by omega)
  obtain ⟨la, ela⟩ : ∃ z : Int32, z = st_l x0.toNatClampNeg := ⟨_, rfl⟩
  have hbla : 0 ≤ la.toInt ∧ la.toInt ≤ 3 := by rw [ela]; exact (st_b _).2
  have zn_la : (la.toNatClampNeg : Int) = la.toInt := t_nn (by omega)
  have hxla : la.toNatClampNeg < 4 := by omega
  obtain ⟨oa, eoa⟩ : ∃ z : Int32, z = st_o x0.toNatClampNeg := ⟨_, rfl⟩
  have hboa : 0 ≤ oa.toInt ∧ oa.toInt ≤ 3 := by rw [eoa]; exact (st_b _).1
  have zn_oa : (oa.toNatClampNeg : Int) = oa.toInt := t_nn (by omega)
  have hxoa : oa.toNatClampNeg < 4 := by omega
  obtain ⟨pa, epa⟩ : ∃ z : Int32, z = v (30 + 15 * i) 0 := ⟨_, rfl⟩
  have hbpa : 0 ≤ pa.toInt ∧ pa.toInt ≤ 7 := by rw [epa]; exact hv.at (K := 10) (kd_c _ hi).1.2.1 rfl
  have zn_pa : (pa.toNatClampNeg : Int) = pa.toInt := t_nn (by omega)
  have hxpa : pa.toNatClampNeg < 8 := by omega
  obtain ⟨pb, epb⟩ : ∃ z : Int32, z = v (30 + 15 * i) 1 := ⟨_, rfl⟩
  have hbpb : 0 ≤ pb.toInt ∧ pb.toInt ≤ 7 := by rw [epb]; exact hv.at (K := 10) (kd_c _ hi).1.2.1 rfl
  have zn_pb : (pb.toNatClampNeg : Int) = pb.toInt := t_nn (by omega)
  have hxpb : pb.toNatClampNeg < 8 := by omega
  obtain ⟨tl, etl⟩ : ∃ z : Int32, z = v (25 + la.toNatClampNeg) 1 := ⟨_, rfl⟩
  obtain ⟨tb, etb⟩ : ∃ z : Int32, z = v (25 + oa.toNatClampNeg) 1 := ⟨_, rfl⟩
  obtain ⟨ga, ega⟩ : ∃ z : Int32, z = v (17 + pa.toNatClampNeg) 1 := ⟨_, rfl⟩
  obtain ⟨gb, egb⟩ : ∃ z : Int32, z = v (17 + pb.toNatClampNeg) 1 := ⟨_, rfl⟩
  refine lv_aload_n hx hb dX1_pairFits_0 rfl (lv_at hl 0 rfl) ?_
  refine va_get (D := (dC, dI)) (ci := 1) (v := .ref (ad 15)) (C := RX1) (T := TX1) (N := 7) hx hb hts (by decide +kernel) hown hK hP (13) (wl_at (by omega) (ce_3 (by decide))) rfl 5 (by decide) (hts (.fieldLink RX1 19 "QuietStairs$House" "mediators" "[LQuietStairs$Mediator;") (by decide +kernel)) (fun _ h9 => h9) rfl dX1_pairFits_1 ?_
  refine va_getsN hx hb hSt.2.1 hS hown (va_Nw.use rfl hE.2.2.2.2.2.2.2.2.2.2.2.2.2.2.1) (fun _ h => h) dX1_pairFits_4 ?_
  refine lv_iload_n hx hb dX1_pairFits_7 rfl (lv_at hl 1 rfl) ?_
  have hx_1 : x0.toNatClampNeg < 6 := by omega
  refine va_ti (v := .int (st_l x0.toNatClampNeg)) hx hb hSt.2.2 hS (vp_in_iff.mpr ⟨by omega, by omega⟩) rfl dX1_pairFits_8 ?_
  refine lv_topi (fun x_2 ex_2 => ?_)
  have bzx_2 : 0 ≤ x_2.toInt ∧ x_2.toInt ≤ 3 := by rw [ex_2]; exact (st_b _).2
  obtain rfl : la = x_2 := (ex_2.trans ela.symm).symm
  refine va_aldq hx hb hK hP (15) 2 (wl_at (by omega) (ce_5 (by decide))) rfl (vp_in_iff.mpr ⟨by omega, by omega⟩) dX1_pairFits_9 ?_
  refine W.eq (g2 := F0 m 10 ls [.ref (ad (25 + la.toNatClampNeg))]) (by rw [if_pos hxla, show 15 + 10 + la.toNatClampNeg = 25 + la.toNatClampNeg from by omega]; rfl) ?_
  refine lv_astore_n (lv' := [(3, .ref (ad (25 + la.toNatClampNeg))), (0, .ref (ad 13)), (1, .int x0), (2, .ref (ad (29 + 15 * i)))]) hx hb dX1_pairFits_10 rfl hl (by decide) rfl (fun ls hl => ?_)
  refine lv_aload_n hx hb dX1_pairFits_11 rfl (lv_at hl 1 rfl) ?_
  refine va_get (D := (dC, dI)) (ci := 1) (v := .ref (ad 15)) (C := RX1) (T := TX1) (N := 7) hx hb hts (by decide +kernel) hown hK hP (13) (wl_at (by omega) (ce_3 (by decide))) rfl 5 (by decide) (hts (.fieldLink RX1 19 "QuietStairs$House" "mediators" "[LQuietStairs$Mediator;") (by decide +kernel)) (fun _ h9 => h9) rfl dX1_pairFits_12 ?_
  refine va_getsN hx hb hSt.1.1 hS hown (va_Nw.use rfl hE.2.2.2.2.2.2.2.2.2.2.2.2.2.1) (fun _ h => h) dX1_pairFits_15 ?_
  refine lv_iload_n hx hb dX1_pairFits_18 rfl (lv_at hl 2 rfl) ?_
  refine va_ti (v := .int (st_o x0.toNatClampNeg)) hx hb hSt.1.2 hS (vp_in_iff.mpr ⟨by omega, by omega⟩) rfl dX1_pairFits_19 ?_
  refine lv_topi (fun x_3 ex_3 => ?_)
  have bzx_3 : 0 ≤ x_3.toInt ∧ x_3.toInt ≤ 3 := by rw [ex_3]; exact (st_b _).1
  obtain rfl : oa = x_3 := (ex_3.trans eoa.symm).symm
  refine va_aldq hx hb hK hP (15) 2 (wl_at (by omega) (ce_5 (by decide))) rfl (vp_in_iff.mpr ⟨by omega, by omega⟩) dX1_pairFits_20 ?_
  refine W.eq (g2 := F0 m 21 ls [.ref (ad (25 + oa.toNatClampNeg))]) (by rw [if_pos hxoa, show 15 + 10 + oa.toNatClampNeg = 25 + oa.toNatClampNeg from by omega]; rfl) ?_
  refine lv_astore (lv' := [(4, .ref (ad (25 + oa.toNatClampNeg))), (3, .ref (ad (25 + la.toNatClampNeg))), (0, .ref (ad 13)), (1, .int x0), (2, .ref (ad (29 + 15 * i)))]) hx hb dX1_pairFits_21 hl (by decide) rfl (fun ls hl => ?_)
  refine lv_aload_n hx hb dX1_pairFits_23 rfl (lv_at hl 1 rfl) ?_
  refine va_get (D := (dC, dI)) (ci := 2) (v := .int (v (25 + la.toNatClampNeg) 1)) (C := RX2) (T := TX2) (N := 3) hx hb hts (by decide +kernel) hown hK hP (25 + la.toNatClampNeg) (wl_at (by omega) (ce_8 (kd_m _ hxla).1)) rfl 1 (by decide) (hts (.fieldLink RX1 43 "QuietStairs$Mediator" "tongues" "I") (by decide +kernel)) (fun _ h9 => h9) rfl dX1_pairFits_24 ?_
  refine lv_topi (fun x_4 ex_4 => ?_)
  obtain rfl : tl = x_4 := (ex_4.trans etl.symm).symm
  refine lv_aload hx hb dX1_pairFits_27 (lv_at hl 0 rfl) ?_
  refine va_get (D := (dC, dI)) (ci := 2) (v := .int (v (25 + oa.toNatClampNeg) 1)) (C := RX2) (T := TX2) (N := 3) hx hb hts (by decide +kernel) hown hK hP (25 + oa.toNatClampNeg) (wl_at (by omega) (ce_8 (kd_m _ hxoa).1)) rfl 1 (by decide) (hts (.fieldLink RX1 43 "QuietStairs$Mediator" "tongues" "I") (by decide +kernel)) (fun _ h9 => h9) rfl dX1_pairFits_29 ?_
  refine lv_topi (fun x_5 ex_5 => ?_)
  obtain rfl : tb = x_5 := (ex_5.trans etb.symm).symm
  refine lv_ior hx hb dX1_pairFits_32 ?_
  refine lv_topi (fun x_6 ex_6 => ?_)
  refine lv_istore (lv' := [(5, .int x_6), (4, .ref (ad (25 + oa.toNatClampNeg))), (3, .ref (ad (25 + la.toNatClampNeg))), (0, .ref (ad 13)), (1, .int x0), (2, .ref (ad (29 + 15 * i)))]) hx hb dX1_pairFits_33 hl (by decide) rfl (fun ls hl => ?_)
  refine lv_iconst (v := 0) hx hb dX1_pairFits_35 (by decide) ?_
  refine lv_istore (lv' := [(6, .int 0), (5, .int x_6), (4, .ref (ad (25 + oa.toNatClampNeg))), (3, .ref (ad (25 + la.toNatClampNeg))), (0, .ref (ad 13)), (1, .int x0), (2, .ref (ad (29 + 15 * i)))]) hx hb dX1_pairFits_36 hl (by decide) rfl (fun ls hl => ?_)
  refine lv_iload hx hb dX1_pairFits_38 (lv_at hl 0 rfl) ?_
  refine lv_iconst (v := 2) hx hb dX1_pairFits_40 (by decide) ?_
  refine lv_icmp_ge (tgt := 100) hx hb dX1_pairFits_41 (by decide) (fun c9 => absurd c9 (by decide)) (fun _ => ?_)
  refine lv_aload_n hx hb dX1_pairFits_44 rfl (lv_at hl 6 rfl) ?_
  refine va_get (D := (dC, dI)) (ci := 0) (v := .ref (ad (29 + 15 * i + 1))) (C := RX0) (T := TX0) (N := 11) hx hb hts (by decide +kernel) hown hK hP (29 + 15 * i) (wl_at (by omega) (ce_9 (kd_c _ hi).1.1)) rfl 6 (by decide) (hts (.fieldLink RX1 46 "QuietStairs$Case" "parties" "[I") (by decide +kernel)) (fun _ h9 => h9) rfl dX1_pairFits_45 ?_
  refine W.eq (g2 := F0 m 48 ls [.ref (ad (30 + 15 * i))]) (by rw [show 29 + 15 * i + 1 = 30 + 15 * i from by omega]) ?_
  refine lv_iload hx hb dX1_pairFits_48 (lv_at hl 0 rfl) ?_
  have k_0 : (0 : Int32).toInt = 0 := by decide
  refine va_iald hx hb hK hP (30 + 15 * i) 0 (wl_at (by omega) (ce_10 (kd_c _ hi).1.2.1)) rfl (by unfold vp_in; decide) dX1_pairFits_50 ?_
  refine lv_topi (fun x_7 ex_7 => ?_)
  have ex_7 : x_7 = v (30 + 15 * i) 0 := ex_7
  have bzx_7 : 0 ≤ x_7.toInt ∧ x_7.toInt ≤ 7 := by rw [ex_7]; exact hv.at (K := 10) (kd_c _ hi).1.2.1 rfl
  obtain rfl : pa = x_7 := (ex_7.trans epa.symm).symm
  refine lv_istore (lv' := [(7, .int pa), (6, .int 0), (5, .int x_6), (4, .ref (ad (25 + oa.toNatClampNeg))), (3, .ref (ad (25 + la.toNatClampNeg))), (0, .ref (ad 13)), (1, .int x0), (2, .ref (ad (29 + 15 * i)))]) hx hb dX1_pairFits_51 hl (by decide) rfl (fun ls hl => ?_)
  refine lv_iload hx hb dX1_pairFits_53 (lv_at hl 2 rfl) ?_
  refine lv_aload_n hx hb dX1_pairFits_55 rfl (lv_at hl 5 rfl) ?_
  refine va_get (D := (dC, dI)) (ci := 1) (v := .ref (ad 14)) (C := RX1) (T := TX1) (N := 7) hx hb hts (by decide +kernel) hown hK hP (13) (wl_at (by omega) (ce_3 (by decide))) rfl 4 (by decide) (hts (.fieldLink RX1 11 "QuietStairs$House" "parties" "[LQuietStairs$Party;") (by decide +kernel)) (fun _ h9 => h9) rfl dX1_pairFits_56 ?_
  refine lv_iload hx hb dX1_pairFits_59 (lv_at hl 0 rfl) ?_
  refine va_aldq hx hb hK hP (14) 1 (wl_at (by omega) (ce_4 (by decide))) rfl (vp_in_iff.mpr ⟨by omega, by omega⟩) dX1_pairFits_61 ?_
  refine W.eq (g2 := F0 m 62 ls [.ref (ad (17 + pa.toNatClampNeg)), .int x_6]) (by rw [if_pos hxpa, show 14 + 3 + pa.toNatClampNeg = 17 + pa.toNatClampNeg from by omega]; rfl) ?_
  refine va_get (D := (dC, dI)) (ci := 3) (v := .int (v (17 + pa.toNatClampNeg) 1)) (C := RX3) (T := TX3) (N := 2) hx hb hts (by decide +kernel) hown hK hP (17 + pa.toNatClampNeg) (wl_at (by omega) (ce_7 (kd_p _ hxpa).1)) rfl 1 (by decide) (hts (.fieldLink RX1 48 "QuietStairs$Party" "tongue" "I") (by decide +kernel)) (fun _ h9 => h9) rfl dX1_pairFits_62 ?_
  refine lv_topi (fun x_8 ex_8 => ?_)
  obtain rfl : ga = x_8 := (ex_8.trans ega.symm).symm
  refine yc_p hP hS (va_runSN (As := [.int x_6, .int ga]) (rest := []) ⟨hx, hb, hml, hown, hts⟩ (e_X7_hasBit l x_6 ga) ⟨va_cnB 2 hts gX1_pairFits_X7_hasBit_n51 rfl rfl rfl hE.2.2.2.2.2.2.2.2.2.2.1 (hts (.initialized RX7) (by decide +kernel)) (by decide +kernel) ⟨Nat.le_of_ble_eq_true rfl, Nat.le_of_ble_eq_true rfl⟩, (hts (.static yX7_hasBit) (by decide +kernel)), trivial⟩ ex_preP rfl rfl hl.1 rfl (lv_room (Nat.le_of_ble_eq_true rfl)) dX1_pairFits_65 ⟨Nat.le_of_ble_eq_true rfl, Nat.le_of_ble_eq_true rfl⟩) (fun r_9 H locs hw_9 hP hS => ?_)
  rcases hw_9 with ⟨rfl, hh_10⟩ | ⟨rfl, hh_10⟩
  · refine lv_if_eq (tgt := 92) hx hb dX1_pairFits_68 (by decide) (fun c9 => absurd c9 (by decide)) (fun _ => ?_)
    refine lv_aload_n hx hb dX1_pairFits_71 rfl (lv_at hl 5 rfl) ?_
    refine lv_aload_n hx hb dX1_pairFits_72 rfl (lv_at hl 4 rfl) ?_
    refine lv_iload hx hb dX1_pairFits_73 (lv_at hl 0 rfl) ?_
    refine yw_i (w1 := fun (u : Nat → Nat → Int32) => wl ad kv cy N u) hD hS hA (va_runV (As := [.ref (ad (25 + la.toNatClampNeg)), .int pa]) (rest := []) ⟨hx, hb, hml, hown, hts⟩ (e_X1_isNear l dC dI cy _ ad kv N hN v hv la.toNatClampNeg hxla pa ⟨by omega, by omega⟩) (cwV 2 hts gX1_pairFits_X1_isNear rfl rfl rfl (by decide +kernel) ⟨Nat.le_of_ble_eq_true rfl, Nat.le_of_ble_eq_true rfl⟩) (yw_preV hE hK hP hD (ci := 1) (q0 := 13) rfl (wl_at (by omega) (ce_3 (by decide)))) rfl rfl hl.1 rfl (lv_room (Nat.le_of_ble_eq_true rfl)) dX1_pairFits_75 ⟨Nat.le_of_ble_eq_true rfl, Nat.le_of_ble_eq_true rfl⟩) (fun r_11 v_11 H locs hw_11 hP hD hS => ?_)
    obtain ⟨-, hu_11, hw_11⟩ := hw_11
    replace hu_11 := hu_11.symm
    subst hu_11
    rcases hw_11 with ⟨rfl, hn_12⟩ | ⟨rfl, hn_12⟩
    · refine lv_if_ne (tgt := 92) hx hb dX1_pairFits_78 (by decide) (fun _ => ?_) (fun c9 => absurd c9 (by decide))
      refine lv_iconst (v := 0) hx hb dX1_pairFits_92 (by decide) ?_
      exact W.zret (ty := .boolean) (v := 0) hx hb hr rfl (fun t ht hW => ⟨⟨0, v, rfl, ⟨hv, rfl, by rw [← ela, ← eoa, ← epa, ← epb, ← etl, ← etb, ← ega, ← egb]; unfold fit oks; rw [← ex_6]; exact Or.inr ⟨rfl, fun ⟨⟨a1, a2, a3⟩, b1, b2, b3⟩ => by first | omega | exact a2 hn_12 | exact a3 hn_12 | exact b2 hn_12 | exact b3 hn_12⟩⟩, by rw [ht]; exact hP, hD⟩, hS.F ht⟩) hS.2.2 dX1_pairFits_93
    · refine lv_if_ne (tgt := 92) hx hb dX1_pairFits_78 (by decide) (fun c9 => absurd c9 (by decide)) (fun _ => ?_)
      refine lv_aload_n hx hb dX1_pairFits_81 rfl (lv_at hl 5 rfl) ?_
      refine lv_aload hx hb dX1_pairFits_82 (lv_at hl 3 rfl) ?_
      refine lv_iload hx hb dX1_pairFits_84 (lv_at hl 0 rfl) ?_
      refine yw_i (w1 := fun (u : Nat → Nat → Int32) => wl ad kv cy N u) hD hS hA (va_runV (As := [.ref (ad (25 + oa.toNatClampNeg)), .int pa]) (rest := []) ⟨hx, hb, hml, hown, hts⟩ (e_X1_isNear l dC dI cy _ ad kv N hN v hv oa.toNatClampNeg hxoa pa ⟨by omega, by omega⟩) (cwV 2 hts gX1_pairFits_X1_isNear rfl rfl rfl (by decide +kernel) ⟨Nat.le_of_ble_eq_true rfl, Nat.le_of_ble_eq_true rfl⟩) (yw_preV hE hK hP hD (ci := 1) (q0 := 13) rfl (wl_at (by omega) (ce_3 (by decide)))) rfl rfl hl.1 rfl (lv_room (Nat.le_of_ble_eq_true rfl)) dX1_pairFits_86 ⟨Nat.le_of_ble_eq_true rfl, Nat.le_of_ble_eq_true rfl⟩) (fun r_13 v_13 H locs hw_13 hP hD hS => ?_)
      obtain ⟨-, hu_13, hw_13⟩ := hw_13
      replace hu_13 := hu_13.symm
      subst hu_13
      rcases hw_13 with ⟨rfl, hn_14⟩ | ⟨rfl, hn_14⟩
      · refine lv_if_eq (tgt := 94) hx hb dX1_pairFits_89 (by decide) (fun c9 => absurd c9 (by decide)) (fun _ => ?_)
        refine lv_iconst (v := 0) hx hb dX1_pairFits_92 (by decide) ?_
        exact W.zret (ty := .boolean) (v := 0) hx hb hr rfl (fun t ht hW => ⟨⟨0, v, rfl, ⟨hv, rfl, by rw [← ela, ← eoa, ← epa, ← epb, ← etl, ← etb, ← ega, ← egb]; unfold fit oks; rw [← ex_6]; exact Or.inr ⟨rfl, fun ⟨⟨a1, a2, a3⟩, b1, b2, b3⟩ => by first | omega | exact a2 hn_12 | exact a3 hn_12 | exact b2 hn_12 | exact b3 hn_12 | exact a2 hn_14 | exact a3 hn_14 | exact b2 hn_14 | exact b3 hn_14⟩⟩, by rw [ht]; exact hP, hD⟩, hS.F ht⟩) hS.2.2 dX1_pairFits_93
      · refine lv_if_eq (tgt := 94) hx hb dX1_pairFits_89 (by decide) (fun _ => ?_) (fun c9 => absurd c9 (by decide))
        refine lv_iinc (v := 1) (lv' := [(6, .int 1), (7, .int pa), (5, .int x_6), (4, .ref (ad (25 + oa.toNatClampNeg))), (3, .ref (ad (25 + la.toNatClampNeg))), (0, .ref (ad 13)), (1, .int x0), (2, .ref (ad (29 + 15 * i)))]) hx hb dX1_pairFits_94 hl (k := 1) rfl (by decide) (by decide) rfl (fun ls hl => ?_)
        refine lv_goto (tgt := 38) hx hb dX1_pairFits_97 (by decide) ?_
        refine lv_iload hx hb dX1_pairFits_38 (lv_at hl 0 rfl) ?_
        refine lv_iconst (v := 2) hx hb dX1_pairFits_40 (by decide) ?_
        refine lv_icmp_ge (tgt := 100) hx hb dX1_pairFits_41 (by decide) (fun c9 => absurd c9 (by decide)) (fun _ => ?_)
        refine lv_aload_n hx hb dX1_pairFits_44 rfl (lv_at hl 7 rfl) ?_
        refine va_get (D := (dC, dI)) (ci := 0) (v := .ref (ad (29 + 15 * i + 1))) (C := RX0) (T := TX0) (N := 11) hx hb hts (by decide +kernel) hown hK hP (29 + 15 * i) (wl_at (by omega) (ce_9 (kd_c _ hi).1.1)) rfl 6 (by decide) (hts (.fieldLink RX1 46 "QuietStairs$Case" "parties" "[I") (by decide +kernel)) (fun _ h9 => h9) rfl dX1_pairFits_45 ?_
        refine W.eq (g2 := F0 m 48 ls [.ref (ad (30 + 15 * i))]) (by rw [show 29 + 15 * i + 1 = 30 + 15 * i from by omega]) ?_
        refine lv_iload hx hb dX1_pairFits_48 (lv_at hl 0 rfl) ?_
        have k_1 : (1 : Int32).toInt = 1 := by decide
        refine va_iald hx hb hK hP (30 + 15 * i) 0 (wl_at (by omega) (ce_10 (kd_c _ hi).1.2.1)) rfl (by unfold vp_in; decide) dX1_pairFits_50 ?_
        refine lv_topi (fun x_15 ex_15 => ?_)
        have ex_15 : x_15 = v (30 + 15 * i) 1 := ex_15
        have bzx_15 : 0 ≤ x_15.toInt ∧ x_15.toInt ≤ 7 := by rw [ex_15]; exact hv.at (K := 10) (kd_c _ hi).1.2.1 rfl
        obtain rfl : pb = x_15 := (ex_15.trans epb.symm).symm
        refine lv_istore (lv' := [(7, .int pb), (6, .int 1), (5, .int x_6), (4, .ref (ad (25 + oa.toNatClampNeg))), (3, .ref (ad (25 + la.toNatClampNeg))), (0, .ref (ad 13)), (1, .int x0), (2, .ref (ad (29 + 15 * i)))]) hx hb dX1_pairFits_51 hl (by decide) rfl (fun ls hl => ?_)
        refine lv_iload hx hb dX1_pairFits_53 (lv_at hl 2 rfl) ?_
        refine lv_aload_n hx hb dX1_pairFits_55 rfl (lv_at hl 5 rfl) ?_
        refine va_get (D := (dC, dI)) (ci := 1) (v := .ref (ad 14)) (C := RX1) (T := TX1) (N := 7) hx hb hts (by decide +kernel) hown hK hP (13) (wl_at (by omega) (ce_3 (by decide))) rfl 4 (by decide) (hts (.fieldLink RX1 11 "QuietStairs$House" "parties" "[LQuietStairs$Party;") (by decide +kernel)) (fun _ h9 => h9) rfl dX1_pairFits_56 ?_
        refine lv_iload hx hb dX1_pairFits_59 (lv_at hl 0 rfl) ?_
        refine va_aldq hx hb hK hP (14) 1 (wl_at (by omega) (ce_4 (by decide))) rfl (vp_in_iff.mpr ⟨by omega, by omega⟩) dX1_pairFits_61 ?_
        refine W.eq (g2 := F0 m 62 ls [.ref (ad (17 + pb.toNatClampNeg)), .int x_6]) (by rw [if_pos hxpb, show 14 + 3 + pb.toNatClampNeg = 17 + pb.toNatClampNeg from by omega]; rfl) ?_
        refine va_get (D := (dC, dI)) (ci := 3) (v := .int (v (17 + pb.toNatClampNeg) 1)) (C := RX3) (T := TX3) (N := 2) hx hb hts (by decide +kernel) hown hK hP (17 + pb.toNatClampNeg) (wl_at (by omega) (ce_7 (kd_p _ hxpb).1)) rfl 1 (by decide) (hts (.fieldLink RX1 48 "QuietStairs$Party" "tongue" "I") (by decide +kernel)) (fun _ h9 => h9) rfl dX1_pairFits_62 ?_
        refine lv_topi (fun x_16 ex_16 => ?_)
        obtain rfl : gb = x_16 := (ex_16.trans egb.symm).symm
        refine yc_p hP hS (va_runSN (As := [.int x_6, .int gb]) (rest := []) ⟨hx, hb, hml, hown, hts⟩ (e_X7_hasBit l x_6 gb) ⟨va_cnB 2 hts gX1_pairFits_X7_hasBit_n51 rfl rfl rfl hE.2.2.2.2.2.2.2.2.2.2.1 (hts (.initialized RX7) (by decide +kernel)) (by decide +kernel) ⟨Nat.le_of_ble_eq_true rfl, Nat.le_of_ble_eq_true rfl⟩, (hts (.static yX7_hasBit) (by decide +kernel)), trivial⟩ ex_preP rfl rfl hl.1 rfl (lv_room (Nat.le_of_ble_eq_true rfl)) dX1_pairFits_65 ⟨Nat.le_of_ble_eq_true rfl, Nat.le_of_ble_eq_true rfl⟩) (fun r_17 H locs hw_17 hP hS => ?_)
        rcases hw_17 with ⟨rfl, hh_18⟩ | ⟨rfl, hh_18⟩
        · refine lv_if_eq (tgt := 92) hx hb dX1_pairFits_68 (by decide) (fun c9 => absurd c9 (by decide)) (fun _ => ?_)
          refine lv_aload_n hx hb dX1_pairFits_71 rfl (lv_at hl 5 rfl) ?_
          refine lv_aload_n hx hb dX1_pairFits_72 rfl (lv_at hl 4 rfl) ?_
          refine lv_iload hx hb dX1_pairFits_73 (lv_at hl 0 rfl) ?_
          refine yw_i (w1 := fun (u : Nat → Nat → Int32) => wl ad kv cy N u) hD hS hA (va_runV (As := [.ref (ad (25 + la.toNatClampNeg)), .int pb]) (rest := []) ⟨hx, hb, hml, hown, hts⟩ (e_X1_isNear l dC dI cy _ ad kv N hN v hv la.toNatClampNeg hxla pb ⟨by omega, by omega⟩) (cwV 2 hts gX1_pairFits_X1_isNear rfl rfl rfl (by decide +kernel) ⟨Nat.le_of_ble_eq_true rfl, Nat.le_of_ble_eq_true rfl⟩) (yw_preV hE hK hP hD (ci := 1) (q0 := 13) rfl (wl_at (by omega) (ce_3 (by decide)))) rfl rfl hl.1 rfl (lv_room (Nat.le_of_ble_eq_true rfl)) dX1_pairFits_75 ⟨Nat.le_of_ble_eq_true rfl, Nat.le_of_ble_eq_true rfl⟩) (fun r_19 v_19 H locs hw_19 hP hD hS => ?_)
          obtain ⟨-, hu_19, hw_19⟩ := hw_19
          replace hu_19 := hu_19.symm
          subst hu_19
          rcases hw_19 with ⟨rfl, hn_20⟩ | ⟨rfl, hn_20⟩
          · refine lv_if_ne (tgt := 92) hx hb dX1_pairFits_78 (by decide) (fun _ => ?_) (fun c9 => absurd c9 (by decide))
            refine lv_iconst (v := 0) hx hb dX1_pairFits_92 (by decide) ?_
            exact W.zret (ty := .boolean) (v := 0) hx hb hr rfl (fun t ht hW => ⟨⟨0, v, rfl, ⟨hv, rfl, by rw [← ela, ← eoa, ← epa, ← epb, ← etl, ← etb, ← ega, ← egb]; unfold fit oks; rw [← ex_6]; exact Or.inr ⟨rfl, fun ⟨⟨a1, a2, a3⟩, b1, b2, b3⟩ => by first | omega | exact a2 hn_12 | exact a3 hn_12 | exact b2 hn_12 | exact b3 hn_12 | exact a2 hn_14 | exact a3 hn_14 | exact b2 hn_14 | exact b3 hn_14 | exact a2 hn_20 | exact a3 hn_20 | exact b2 hn_20 | exact b3 hn_20⟩⟩, by rw [ht]; exact hP, hD⟩, hS.F ht⟩) hS.2.2 dX1_pairFits_93
          · refine lv_if_ne (tgt := 92) hx hb dX1_pairFits_78 (by decide) (fun c9 => absurd c9 (by decide)) (fun _ => ?_)
            refine lv_aload_n hx hb dX1_pairFits_81 rfl (lv_at hl 5 rfl) ?_
            refine lv_aload hx hb dX1_pairFits_82 (lv_at hl 3 rfl) ?_
            refine lv_iload hx hb dX1_pairFits_84 (lv_at hl 0 rfl) ?_
            refine yw_i (w1 := fun (u : Nat → Nat → Int32) => wl ad kv cy N u) hD hS hA (va_runV (As := [.ref (ad (25 + oa.toNatClampNeg)), .int pb]) (rest := []) ⟨hx, hb, hml, hown, hts⟩ (e_X1_isNear l dC dI cy _ ad kv N hN v hv oa.toNatClampNeg hxoa pb ⟨by omega, by omega⟩) (cwV 2 hts gX1_pairFits_X1_isNear rfl rfl rfl (by decide +kernel) ⟨Nat.le_of_ble_eq_true rfl, Nat.le_of_ble_eq_true rfl⟩) (yw_preV hE hK hP hD (ci := 1) (q0 := 13) rfl (wl_at (by omega) (ce_3 (by decide)))) rfl rfl hl.1 rfl (lv_room (Nat.le_of_ble_eq_true rfl)) dX1_pairFits_86 ⟨Nat.le_of_ble_eq_true rfl, Nat.le_of_ble_eq_true rfl⟩) (fun r_21 v_21 H locs hw_21 hP hD hS => ?_)
            obtain ⟨-, hu_21, hw_21⟩ := hw_21
            replace hu_21 := hu_21.symm
            subst hu_21
            rcases hw_21 with ⟨rfl, hn_22⟩ | ⟨rfl, hn_22⟩
            · refine lv_if_eq (tgt := 94) hx hb dX1_pairFits_89 (by decide) (fun c9 => absurd c9 (by decide)) (fun _ => ?_)
              refine lv_iconst (v := 0) hx hb dX1_pairFits_92 (by decide) ?_
              exact W.zret (ty := .boolean) (v := 0) hx hb hr rfl (fun t ht hW => ⟨⟨0, v, rfl, ⟨hv, rfl, by rw [← ela, ← eoa, ← epa, ← epb, ← etl, ← etb, ← ega, ← egb]; unfold fit oks; rw [← ex_6]; exact Or.inr ⟨rfl, fun ⟨⟨a1, a2, a3⟩, b1, b2, b3⟩ => by first | omega | exact a2 hn_12 | exact a3 hn_12 | exact b2 hn_12 | exact b3 hn_12 | exact a2 hn_14 | exact a3 hn_14 | exact b2 hn_14 | exact b3 hn_14 | exact a2 hn_20 | exact a3 hn_20 | exact b2 hn_20 | exact b3 hn_20 | exact a2 hn_22 | exact a3 hn_22 | exact b2 hn_22 | exact b3 hn_22⟩⟩, by rw [ht]; exact hP, hD⟩, hS.F ht⟩) hS.2.2 dX1_pairFits_93
            · refine lv_if_eq (tgt := 94) hx hb dX1_pairFits_89 (by decide) (fun _ => ?_) (fun c9 => absurd c9 (by decide))
              refine lv_iinc (v := 2) (lv' := [(6, .int 2), (7, .int pb), (5, .int x_6), (4, .ref (ad (25 + oa.toNatClampNeg))), (3, .ref (ad (25 + la.toNatClampNeg))), (0, .ref (ad 13)), (1, .int x0), (2, .ref (ad (29 + 15 * i)))]) hx hb dX1_pairFits_94 hl (k := 1) rfl (by decide) (by decide) rfl (fun ls hl => ?_)
              refine lv_goto (tgt := 38) hx hb dX1_pairFits_97 (by decide) ?_
              refine lv_iload hx hb dX1_pairFits_38 (lv_at hl 0 rfl) ?_
              refine lv_iconst (v := 2) hx hb dX1_pairFits_40 (by decide) ?_
              refine lv_icmp_ge (tgt := 100) hx hb dX1_pairFits_41 (by decide) (fun _ => ?_) (fun c9 => absurd c9 (by decide))
              refine lv_iconst (v := 1) hx hb dX1_pairFits_100 (by decide) ?_
              exact W.zret (ty := .boolean) (v := 1) hx hb hr rfl (fun t ht hW => ⟨⟨1, v, rfl, ⟨hv, rfl, by rw [← ela, ← eoa, ← epa, ← epb, ← etl, ← etb, ← ega, ← egb]; unfold fit oks; rw [← ex_6]; exact Or.inl ⟨rfl, ⟨by omega, hn_12, hn_14⟩, by omega, hn_20, hn_22⟩⟩, by rw [ht]; exact hP, hD⟩, hS.F ht⟩) hS.2.2 dX1_pairFits_101
        · refine lv_if_eq (tgt := 92) hx hb dX1_pairFits_68 (by decide) (fun _ => ?_) (fun c9 => absurd c9 (by decide))
          refine lv_iconst (v := 0) hx hb dX1_pairFits_92 (by decide) ?_
          exact W.zret (ty := .boolean) (v := 0) hx hb hr rfl (fun t ht hW => ⟨⟨0, v, rfl, ⟨hv, rfl, by rw [← ela, ← eoa, ← epa, ← epb, ← etl, ← etb, ← ega, ← egb]; unfold fit oks; rw [← ex_6]; exact Or.inr ⟨rfl, fun ⟨⟨a1, a2, a3⟩, b1, b2, b3⟩ => by first | omega | exact a2 hn_12 | exact a3 hn_12 | exact b2 hn_12 | exact b3 hn_12 | exact a2 hn_14 | exact a3 hn_14 | exact b2 hn_14 | exact b3 hn_14⟩⟩, by rw [ht]; exact hP, hD⟩, hS.F ht⟩) hS.2.2 dX1_pairFits_93
  · refine lv_if_eq (tgt := 92) hx hb dX1_pairFits_68 (by decide) (fun _ => ?_) (fun c9 => absurd c9 (by decide))
    refine lv_iconst (v := 0) hx hb dX1_pairFits_92 (by decide) ?_
    exact W.zret (ty := .boolean) (v := 0) hx hb hr rfl (fun t ht hW => ⟨⟨0, v, rfl, ⟨hv, rfl, by rw [← ela, ← eoa, ← epa, ← epb, ← etl, ← etb, ← ega, ← egb]; unfold fit oks; rw [← ex_6]; exact Or.inr ⟨rfl, fun ⟨⟨a1, a2, a3⟩, b1, b2, b3⟩ => by first | omega⟩⟩, by rw [ht]; exact hP, hD⟩, hS.F ht⟩) hS.2.2 dX1_pairFits_93

set_option maxHeartbeats 4000000 in
set_option maxRecDepth 100000 in
theorem e_X7_maySit (l : Launch) (dC : Nat → ClassId) (dI : Nat → Nat → Nat) (cy : Nat → ClassId) (sz : Nat) (ad : Nat → Nat) (kv : Value) (N : Nat) (hN : 119 ≤ N) (v : Nat → Nat → Int32) (hv : Iv v) (x0 x1 : Int32) (t1 t2 : Nat) : Met l yX7_maySit wsX7_maySit ({ frames := 3, cells := 0, slots := 0, locals := 192 }) (va_Pc [.ref (ad 0), .int x0, .int x1] (ex_PreT dC dI cy sz (wl ad kv cy N v) t1 t2)) (va_Qi (fun (r : Int32) (u : Nat → Nat → Int32) => Iv u ∧ (¬ (((0 ≤ x0.toInt ∧ x0.toInt ≤ 5) ∧ (st_o x0.toNatClampNeg).toInt < (v 13 1).toInt) ∧ 0 ≤ x1.toInt ∧ x1.toInt < (v 13 2).toInt) → r = -1 ∧ u = v) ∧ ((((0 ≤ x0.toInt ∧ x0.toInt ≤ 5) ∧ (st_o x0.toNatClampNeg).toInt < (v 13 1).toInt) ∧ 0 ≤ x1.toInt ∧ x1.toInt < (v 13 2).toInt) ∧ fit (v (25 + (st_l x0.toNatClampNeg).toNatClampNeg) 1) (v (25 + (st_o x0.toNatClampNeg).toNatClampNeg) 1) (v (25 + (st_l x0.toNatClampNeg).toNatClampNeg) 2) (v (25 + (st_l x0.toNatClampNeg).toNatClampNeg) 0) (v (25 + (st_o x0.toNatClampNeg).toNatClampNeg) 2) (v (25 + (st_o x0.toNatClampNeg).toNatClampNeg) 0) (v (30 + 15 * x1.toNatClampNeg) 0) (v (17 + (v (30 + 15 * x1.toNatClampNeg) 0).toNatClampNeg) 1) (v (17 + (v (30 + 15 * x1.toNatClampNeg) 0).toNatClampNeg) 0) (v (30 + 15 * x1.toNatClampNeg) 1) (v (17 + (v (30 + 15 * x1.toNatClampNeg) 1).toNatClampNeg) 1) (v (17 + (v (30 + 15 * x1.toNatClampNeg) 1).toNatClampNeg) 0) → r = 1 ∧ u = v) ∧ ((((0 ≤ x0.toInt ∧ x0.toInt ≤ 5) ∧ (st_o x0.toNatClampNeg).toInt < (v 13 1).toInt) ∧ 0 ≤ x1.toInt ∧ x1.toInt < (v 13 2).toInt) ∧ ¬ fit (v (25 + (st_l x0.toNatClampNeg).toNatClampNeg) 1) (v (25 + (st_o x0.toNatClampNeg).toNatClampNeg) 1) (v (25 + (st_l x0.toNatClampNeg).toNatClampNeg) 2) (v (25 + (st_l x0.toNatClampNeg).toNatClampNeg) 0) (v (25 + (st_o x0.toNatClampNeg).toNatClampNeg) 2) (v (25 + (st_o x0.toNatClampNeg).toNatClampNeg) 0) (v (30 + 15 * x1.toNatClampNeg) 0) (v (17 + (v (30 + 15 * x1.toNatClampNeg) 0).toNatClampNeg) 1) (v (17 + (v (30 + 15 * x1.toNatClampNeg) 0).toNatClampNeg) 0) (v (30 + 15 * x1.toNatClampNeg) 1) (v (17 + (v (30 + 15 * x1.toNatClampNeg) 1).toNatClampNeg) 1) (v (17 + (v (30 + 15 * x1.toNatClampNeg) 1).toNatClampNeg) 0) → r = 0 ∧ u = v)) (fun u t => ex_Pst dC dI (va_A (wl ad kv cy N v) sz) (wl ad kv cy N u) t) (va_A (wl ad kv cy N v) sz)) 0 0 (va_A (wl ad kv cy N v) sz) := by
  refine Met.ofW (cc := cX7_maySit) (maxL := 3) (ret := (some .int)) (by decide) rfl ?_
  intro p e s m args below meth c s₁ B hml hv
  obtain ⟨rfl, ⟨hsz, hE, hP, hK, hD0⟩, hSt⟩ := hv
  have hx := B.exec
  have hb := B.bytes
  have hr := B.returns
  have hts := atoms_spec (ws := wsX7_maySit) B.pre
  have hown : s.vm.findClass RX7 = some m.cls := findClass_of_methodNamed B.named
  have hlocks := B.notSynchronized
  subst hsz
  have hD := hD0.self (sz := s.heap.size)
  generalize hAe : va_A (wl ad kv cy N v) s.heap.size = A at hD hSt ⊢
  have hA : ∀ q : Nat, s.heap.size ≤ q → A q := fun q h => by rw [← hAe]; exact Or.inr h
  have hS : va_S A s.heap s.heap [] := va_S.rf
  have hP : va_P (dC, dI) vwCl (wl ad kv cy N v) s.heap := hP
  have hl := lv_entry ([.ref (ad 0), .int x0, .int x1]) (n := 3) (Nat.le_of_ble_eq_true rfl)
  rw [lg_entry_eq]
  generalize (lg_sl ([.ref (ad 0), .int x0, .int x1]) ++ List.replicate (3 - (lg_sl ([.ref (ad 0), .int x0, .int x1])).length) Slot.unset).toArray = ls at hl ⊢
  have hl : lv_has ls 3 [(0, .ref (ad 0)), (1, .int x0), (2, .int x1)] := hl
  refine lv_iload_n hx hb dX7_maySit_0 rfl (lv_at hl 1 rfl) ?_
  refine lv_iconst (v := 0) hx hb dX7_maySit_1 (by decide) ?_
  refine lv_iconst (v := 5) hx hb dX7_maySit_2 (by decide) ?_
  refine yc_p hP hS (va_runS (As := [.int x0, .int 0, .int 5]) (rest := []) ⟨hx, hb, hml, hown, hts⟩ (c_X7_isWithin l x0 0 5) (cwS 3 hts gX7_maySit_X7_isWithin rfl rfl rfl (by decide +kernel) ⟨Nat.le_of_ble_eq_true rfl, Nat.le_of_ble_eq_true rfl⟩) ex_preP rfl rfl hl.1 rfl (lv_room (Nat.le_of_ble_eq_true rfl)) dX7_maySit_3 ⟨Nat.le_of_ble_eq_true rfl, Nat.le_of_ble_eq_true rfl⟩) (fun r_1 H locs hw_1 hP hS => ?_)
  rcases wi_ca hw_1 with ⟨rfl, hc_2⟩ | ⟨rfl, hc_2⟩
  · have k_0 : (0 : Int32).toInt = 0 := by decide
    have k_5 : (5 : Int32).toInt = 5 := by decide
    have tc_2 := wi_tl hc_2
    refine lv_if_eq (tgt := 28) hx hb dX7_maySit_6 (by decide) (fun c9 => absurd c9 (by decide)) (fun _ => ?_)
    refine lv_aload_n hx hb dX7_maySit_9 rfl (lv_at hl 0 rfl) ?_
    refine va_get (D := (dC, dI)) (ci := 7) (v := .ref (ad 13)) (C := RX7) (T := TX7) (N := 5) hx hb hts (by decide +kernel) hown hK hP (0) (wl_at (by omega) (ce_0 (by decide))) rfl 0 (by decide) (hts (.fieldLink RX7 12 "QuietStairs" "now" "LQuietStairs$House;") (by decide +kernel)) (fun _ h9 => h9) rfl dX7_maySit_10 ?_
    refine lv_iload_n hx hb dX7_maySit_13 rfl (lv_at hl 1 rfl) ?_
    refine yw_i (w1 := fun (u : Nat → Nat → Int32) => wl ad kv cy N u) hD hS hA (va_runV (As := [.int x0]) (rest := []) ⟨hx, hb, hml, hown, hts⟩ (e_X1_hasPair l dC dI cy _ ad kv N hN v hv x0 ⟨by omega, by omega⟩ t1 t2) (cwV 1 hts gX7_maySit_X1_hasPair rfl rfl rfl (by decide +kernel) ⟨Nat.le_of_ble_eq_true rfl, Nat.le_of_ble_eq_true rfl⟩) ⟨ex_blindT, va_recv hK hP (ci := 1) (q0 := 13) rfl (wl_at (by omega) (ce_3 (by decide))), fun U hU hW => ⟨rfl, ((yw_preS (As := []) hE hK hP hD).2 U hU hW).2, hSt.go hS (yw_F hD hS hA) hU hW⟩⟩ rfl rfl hl.1 rfl (lv_room (Nat.le_of_ble_eq_true rfl)) dX7_maySit_14 ⟨Nat.le_of_ble_eq_true rfl, Nat.le_of_ble_eq_true rfl⟩) (fun r_3 v_3 H locs hw_3 hP hD hS => ?_)
    obtain ⟨-, hu_3, hw_3⟩ := hw_3
    replace hu_3 := hu_3.symm
    subst hu_3
    rcases hw_3 with ⟨rfl, hp_4⟩ | ⟨rfl, hp_4⟩
    · refine lv_if_eq (tgt := 28) hx hb dX7_maySit_17 (by decide) (fun c9 => absurd c9 (by decide)) (fun _ => ?_)
      refine lv_aload_n hx hb dX7_maySit_20 rfl (lv_at hl 0 rfl) ?_
      refine lv_iload_n hx hb dX7_maySit_21 rfl (lv_at hl 2 rfl) ?_
      refine yw_i (w1 := fun (u : Nat → Nat → Int32) => wl ad kv cy N u) hD hS hA (va_runV (As := [.int x1]) (rest := []) ⟨hx, hb, hml, hown, hts⟩ (g_X7_isCase l dC dI cy _ ad kv N hN v hv x1) (cwV 1 hts gX7_maySit_X7_isCase rfl rfl rfl (by decide +kernel) ⟨Nat.le_of_ble_eq_true rfl, Nat.le_of_ble_eq_true rfl⟩) (yw_preV hE hK hP hD (ci := 7) (q0 := 0) rfl (wl_at (by omega) (ce_0 (by decide)))) rfl rfl hl.1 rfl (lv_room (Nat.le_of_ble_eq_true rfl)) dX7_maySit_22 ⟨Nat.le_of_ble_eq_true rfl, Nat.le_of_ble_eq_true rfl⟩) (fun r_5 v_5 H locs hw_5 hP hD hS => ?_)
      obtain ⟨-, hu_5, hw_5⟩ := hw_5
      replace hu_5 := hu_5.symm
      subst hu_5
      rcases hw_5 with ⟨rfl, ha_6⟩ | ⟨rfl, ha_6⟩
      · have hb_6 := hv.at (k := 13) (j := 2) (K := 3) (by decide) rfl
        have hj_6 : 0 ≤ x1.toInt ∧ x1.toInt ≤ 5 := ⟨by omega, by omega⟩
        refine lv_if_ne (tgt := 30) hx hb dX7_maySit_25 (by decide) (fun _ => ?_) (fun c9 => absurd c9 (by decide))
        refine lv_aload_n hx hb dX7_maySit_30 rfl (lv_at hl 0 rfl) ?_
        refine va_get (D := (dC, dI)) (ci := 7) (v := .ref (ad 13)) (C := RX7) (T := TX7) (N := 5) hx hb hts (by decide +kernel) hown hK hP (0) (wl_at (by omega) (ce_0 (by decide))) rfl 0 (by decide) (hts (.fieldLink RX7 12 "QuietStairs" "now" "LQuietStairs$House;") (by decide +kernel)) (fun _ h9 => h9) rfl dX7_maySit_31 ?_
        refine lv_iload_n hx hb dX7_maySit_34 rfl (lv_at hl 1 rfl) ?_
        refine lv_aload_n hx hb dX7_maySit_35 rfl (lv_at hl 0 rfl) ?_
        refine va_get (D := (dC, dI)) (ci := 7) (v := .ref (ad 13)) (C := RX7) (T := TX7) (N := 5) hx hb hts (by decide +kernel) hown hK hP (0) (wl_at (by omega) (ce_0 (by decide))) rfl 0 (by decide) (hts (.fieldLink RX7 12 "QuietStairs" "now" "LQuietStairs$House;") (by decide +kernel)) (fun _ h9 => h9) rfl dX7_maySit_36 ?_
        refine va_get (D := (dC, dI)) (ci := 1) (v := .ref (ad 16)) (C := RX1) (T := TX1) (N := 7) hx hb hts (by decide +kernel) hown hK hP (13) (wl_at (by omega) (ce_3 (by decide))) rfl 6 (by decide) (hts (.fieldLink RX7 86 "QuietStairs$House" "cases" "[LQuietStairs$Case;") (by decide +kernel)) (fun _ h9 => h9) rfl dX7_maySit_39 ?_
        refine lv_iload_n hx hb dX7_maySit_42 rfl (lv_at hl 2 rfl) ?_
        have zn_x1 : (x1.toNatClampNeg : Int) = x1.toInt := t_nn (by omega)
        have hx_7 : x1.toNatClampNeg < 6 := by omega
        refine va_aldq hx hb hK hP (16) 3 (wl_at (by omega) (ce_6 (by decide))) rfl (vp_in_iff.mpr ⟨by omega, by omega⟩) dX7_maySit_43 ?_
        refine W.eq (g2 := F0 m 44 ls [.ref (ad (29 + 15 * x1.toNatClampNeg)), .int x0, .ref (ad 13)]) (by rw [if_pos hx_7, show 16 + 13 + 15 * x1.toNatClampNeg = 29 + 15 * x1.toNatClampNeg from by omega]; rfl) ?_
        refine yw_i (w1 := fun (u : Nat → Nat → Int32) => wl ad kv cy N u) hD hS hA (va_runV (As := [.int x0, .ref (ad (29 + 15 * x1.toNatClampNeg))]) (rest := []) ⟨hx, hb, hml, hown, hts⟩ (e_X1_pairFits l dC dI cy _ ad kv N hN v hv x0 ⟨by omega, by omega⟩ x1.toNatClampNeg hx_7 t1 t2) (cwV 2 hts gX7_maySit_X1_pairFits rfl rfl rfl (by decide +kernel) ⟨Nat.le_of_ble_eq_true rfl, Nat.le_of_ble_eq_true rfl⟩) ⟨ex_blindT, va_recv hK hP (ci := 1) (q0 := 13) rfl (wl_at (by omega) (ce_3 (by decide))), fun U hU hW => ⟨rfl, ((yw_preS (As := []) hE hK hP hD).2 U hU hW).2, hSt.go hS (yw_F hD hS hA) hU hW⟩⟩ rfl rfl hl.1 rfl (lv_room (Nat.le_of_ble_eq_true rfl)) dX7_maySit_44 ⟨Nat.le_of_ble_eq_true rfl, Nat.le_of_ble_eq_true rfl⟩) (fun r_8 v_8 H locs hw_8 hP hD hS => ?_)
        obtain ⟨-, hu_8, hw_8⟩ := hw_8
        replace hu_8 := hu_8.symm
        subst hu_8
        rcases hw_8 with ⟨rfl, hf_9⟩ | ⟨rfl, hf_9⟩
        · refine lv_if_eq (tgt := 54) hx hb dX7_maySit_47 (by decide) (fun c9 => absurd c9 (by decide)) (fun _ => ?_)
          refine lv_iconst (v := 1) hx hb dX7_maySit_50 (by decide) ?_
          refine lv_goto (tgt := 55) hx hb dX7_maySit_51 (by decide) ?_
          have hpost : (¬ (((0 ≤ x0.toInt ∧ x0.toInt ≤ 5) ∧ (st_o x0.toNatClampNeg).toInt < (v 13 1).toInt) ∧ 0 ≤ x1.toInt ∧ x1.toInt < (v 13 2).toInt) → (1 : Int32) = -1 ∧ v = v) ∧ ((((0 ≤ x0.toInt ∧ x0.toInt ≤ 5) ∧ (st_o x0.toNatClampNeg).toInt < (v 13 1).toInt) ∧ 0 ≤ x1.toInt ∧ x1.toInt < (v 13 2).toInt) ∧ fit (v (25 + (st_l x0.toNatClampNeg).toNatClampNeg) 1) (v (25 + (st_o x0.toNatClampNeg).toNatClampNeg) 1) (v (25 + (st_l x0.toNatClampNeg).toNatClampNeg) 2) (v (25 + (st_l x0.toNatClampNeg).toNatClampNeg) 0) (v (25 + (st_o x0.toNatClampNeg).toNatClampNeg) 2) (v (25 + (st_o x0.toNatClampNeg).toNatClampNeg) 0) (v (30 + 15 * x1.toNatClampNeg) 0) (v (17 + (v (30 + 15 * x1.toNatClampNeg) 0).toNatClampNeg) 1) (v (17 + (v (30 + 15 * x1.toNatClampNeg) 0).toNatClampNeg) 0) (v (30 + 15 * x1.toNatClampNeg) 1) (v (17 + (v (30 + 15 * x1.toNatClampNeg) 1).toNatClampNeg) 1) (v (17 + (v (30 + 15 * x1.toNatClampNeg) 1).toNatClampNeg) 0) → (1 : Int32) = 1 ∧ v = v) ∧ ((((0 ≤ x0.toInt ∧ x0.toInt ≤ 5) ∧ (st_o x0.toNatClampNeg).toInt < (v 13 1).toInt) ∧ 0 ≤ x1.toInt ∧ x1.toInt < (v 13 2).toInt) ∧ ¬ fit (v (25 + (st_l x0.toNatClampNeg).toNatClampNeg) 1) (v (25 + (st_o x0.toNatClampNeg).toNatClampNeg) 1) (v (25 + (st_l x0.toNatClampNeg).toNatClampNeg) 2) (v (25 + (st_l x0.toNatClampNeg).toNatClampNeg) 0) (v (25 + (st_o x0.toNatClampNeg).toNatClampNeg) 2) (v (25 + (st_o x0.toNatClampNeg).toNatClampNeg) 0) (v (30 + 15 * x1.toNatClampNeg) 0) (v (17 + (v (30 + 15 * x1.toNatClampNeg) 0).toNatClampNeg) 1) (v (17 + (v (30 + 15 * x1.toNatClampNeg) 0).toNatClampNeg) 0) (v (30 + 15 * x1.toNatClampNeg) 1) (v (17 + (v (30 + 15 * x1.toNatClampNeg) 1).toNatClampNeg) 1) (v (17 + (v (30 + 15 * x1.toNatClampNeg) 1).toNatClampNeg) 0) → (1 : Int32) = 0 ∧ v = v) := by
            refine ⟨fun hq => ?_, fun hq => ?_, fun hq => ?_⟩
            · exfalso; omega
            · exact ⟨rfl, rfl⟩
            · exact absurd hf_9 hq.2
          exact W.iret (v := 1) hx hb hr (fun t ht hW => ⟨⟨1, v, rfl, ⟨hv, hpost⟩, by rw [ht]; exact hP, hD⟩, hS.F ht⟩) hS.2.2 dX7_maySit_55
        · refine lv_if_eq (tgt := 54) hx hb dX7_maySit_47 (by decide) (fun _ => ?_) (fun c9 => absurd c9 (by decide))
          refine lv_iconst (v := 0) hx hb dX7_maySit_54 (by decide) ?_
          have hpost : (¬ (((0 ≤ x0.toInt ∧ x0.toInt ≤ 5) ∧ (st_o x0.toNatClampNeg).toInt < (v 13 1).toInt) ∧ 0 ≤ x1.toInt ∧ x1.toInt < (v 13 2).toInt) → (0 : Int32) = -1 ∧ v = v) ∧ ((((0 ≤ x0.toInt ∧ x0.toInt ≤ 5) ∧ (st_o x0.toNatClampNeg).toInt < (v 13 1).toInt) ∧ 0 ≤ x1.toInt ∧ x1.toInt < (v 13 2).toInt) ∧ fit (v (25 + (st_l x0.toNatClampNeg).toNatClampNeg) 1) (v (25 + (st_o x0.toNatClampNeg).toNatClampNeg) 1) (v (25 + (st_l x0.toNatClampNeg).toNatClampNeg) 2) (v (25 + (st_l x0.toNatClampNeg).toNatClampNeg) 0) (v (25 + (st_o x0.toNatClampNeg).toNatClampNeg) 2) (v (25 + (st_o x0.toNatClampNeg).toNatClampNeg) 0) (v (30 + 15 * x1.toNatClampNeg) 0) (v (17 + (v (30 + 15 * x1.toNatClampNeg) 0).toNatClampNeg) 1) (v (17 + (v (30 + 15 * x1.toNatClampNeg) 0).toNatClampNeg) 0) (v (30 + 15 * x1.toNatClampNeg) 1) (v (17 + (v (30 + 15 * x1.toNatClampNeg) 1).toNatClampNeg) 1) (v (17 + (v (30 + 15 * x1.toNatClampNeg) 1).toNatClampNeg) 0) → (0 : Int32) = 1 ∧ v = v) ∧ ((((0 ≤ x0.toInt ∧ x0.toInt ≤ 5) ∧ (st_o x0.toNatClampNeg).toInt < (v 13 1).toInt) ∧ 0 ≤ x1.toInt ∧ x1.toInt < (v 13 2).toInt) ∧ ¬ fit (v (25 + (st_l x0.toNatClampNeg).toNatClampNeg) 1) (v (25 + (st_o x0.toNatClampNeg).toNatClampNeg) 1) (v (25 + (st_l x0.toNatClampNeg).toNatClampNeg) 2) (v (25 + (st_l x0.toNatClampNeg).toNatClampNeg) 0) (v (25 + (st_o x0.toNatClampNeg).toNatClampNeg) 2) (v (25 + (st_o x0.toNatClampNeg).toNatClampNeg) 0) (v (30 + 15 * x1.toNatClampNeg) 0) (v (17 + (v (30 + 15 * x1.toNatClampNeg) 0).toNatClampNeg) 1) (v (17 + (v (30 + 15 * x1.toNatClampNeg) 0).toNatClampNeg) 0) (v (30 + 15 * x1.toNatClampNeg) 1) (v (17 + (v (30 + 15 * x1.toNatClampNeg) 1).toNatClampNeg) 1) (v (17 + (v (30 + 15 * x1.toNatClampNeg) 1).toNatClampNeg) 0) → (0 : Int32) = 0 ∧ v = v) := by
            refine ⟨fun hq => ?_, fun hq => ?_, fun hq => ?_⟩
            · exfalso; omega
            · exact absurd hq.2 hf_9
            · exact ⟨rfl, rfl⟩
          exact W.iret (v := 0) hx hb hr (fun t ht hW => ⟨⟨0, v, rfl, ⟨hv, hpost⟩, by rw [ht]; exact hP, hD⟩, hS.F ht⟩) hS.2.2 dX7_maySit_55
      · refine lv_if_ne (tgt := 30) hx hb dX7_maySit_25 (by decide) (fun c9 => absurd c9 (by decide)) (fun _ => ?_)
        refine lv_iconst (v := (-1)) hx hb dX7_maySit_28 (by decide) ?_
        have hpost : (¬ (((0 ≤ x0.toInt ∧ x0.toInt ≤ 5) ∧ (st_o x0.toNatClampNeg).toInt < (v 13 1).toInt) ∧ 0 ≤ x1.toInt ∧ x1.toInt < (v 13 2).toInt) → ((-1) : Int32) = -1 ∧ v = v) ∧ ((((0 ≤ x0.toInt ∧ x0.toInt ≤ 5) ∧ (st_o x0.toNatClampNeg).toInt < (v 13 1).toInt) ∧ 0 ≤ x1.toInt ∧ x1.toInt < (v 13 2).toInt) ∧ fit (v (25 + (st_l x0.toNatClampNeg).toNatClampNeg) 1) (v (25 + (st_o x0.toNatClampNeg).toNatClampNeg) 1) (v (25 + (st_l x0.toNatClampNeg).toNatClampNeg) 2) (v (25 + (st_l x0.toNatClampNeg).toNatClampNeg) 0) (v (25 + (st_o x0.toNatClampNeg).toNatClampNeg) 2) (v (25 + (st_o x0.toNatClampNeg).toNatClampNeg) 0) (v (30 + 15 * x1.toNatClampNeg) 0) (v (17 + (v (30 + 15 * x1.toNatClampNeg) 0).toNatClampNeg) 1) (v (17 + (v (30 + 15 * x1.toNatClampNeg) 0).toNatClampNeg) 0) (v (30 + 15 * x1.toNatClampNeg) 1) (v (17 + (v (30 + 15 * x1.toNatClampNeg) 1).toNatClampNeg) 1) (v (17 + (v (30 + 15 * x1.toNatClampNeg) 1).toNatClampNeg) 0) → ((-1) : Int32) = 1 ∧ v = v) ∧ ((((0 ≤ x0.toInt ∧ x0.toInt ≤ 5) ∧ (st_o x0.toNatClampNeg).toInt < (v 13 1).toInt) ∧ 0 ≤ x1.toInt ∧ x1.toInt < (v 13 2).toInt) ∧ ¬ fit (v (25 + (st_l x0.toNatClampNeg).toNatClampNeg) 1) (v (25 + (st_o x0.toNatClampNeg).toNatClampNeg) 1) (v (25 + (st_l x0.toNatClampNeg).toNatClampNeg) 2) (v (25 + (st_l x0.toNatClampNeg).toNatClampNeg) 0) (v (25 + (st_o x0.toNatClampNeg).toNatClampNeg) 2) (v (25 + (st_o x0.toNatClampNeg).toNatClampNeg) 0) (v (30 + 15 * x1.toNatClampNeg) 0) (v (17 + (v (30 + 15 * x1.toNatClampNeg) 0).toNatClampNeg) 1) (v (17 + (v (30 + 15 * x1.toNatClampNeg) 0).toNatClampNeg) 0) (v (30 + 15 * x1.toNatClampNeg) 1) (v (17 + (v (30 + 15 * x1.toNatClampNeg) 1).toNatClampNeg) 1) (v (17 + (v (30 + 15 * x1.toNatClampNeg) 1).toNatClampNeg) 0) → ((-1) : Int32) = 0 ∧ v = v) := by
          refine ⟨fun hq => ?_, fun hq => ?_, fun hq => ?_⟩
          · exact ⟨rfl, rfl⟩
          · exact absurd hq.1 (by omega)
          · exact absurd hq.1 (by omega)
        exact W.iret (v := (-1)) hx hb hr (fun t ht hW => ⟨⟨(-1), v, rfl, ⟨hv, hpost⟩, by rw [ht]; exact hP, hD⟩, hS.F ht⟩) hS.2.2 dX7_maySit_29
    · refine lv_if_eq (tgt := 28) hx hb dX7_maySit_17 (by decide) (fun _ => ?_) (fun c9 => absurd c9 (by decide))
      refine lv_iconst (v := (-1)) hx hb dX7_maySit_28 (by decide) ?_
      have hpost : (¬ (((0 ≤ x0.toInt ∧ x0.toInt ≤ 5) ∧ (st_o x0.toNatClampNeg).toInt < (v 13 1).toInt) ∧ 0 ≤ x1.toInt ∧ x1.toInt < (v 13 2).toInt) → ((-1) : Int32) = -1 ∧ v = v) ∧ ((((0 ≤ x0.toInt ∧ x0.toInt ≤ 5) ∧ (st_o x0.toNatClampNeg).toInt < (v 13 1).toInt) ∧ 0 ≤ x1.toInt ∧ x1.toInt < (v 13 2).toInt) ∧ fit (v (25 + (st_l x0.toNatClampNeg).toNatClampNeg) 1) (v (25 + (st_o x0.toNatClampNeg).toNatClampNeg) 1) (v (25 + (st_l x0.toNatClampNeg).toNatClampNeg) 2) (v (25 + (st_l x0.toNatClampNeg).toNatClampNeg) 0) (v (25 + (st_o x0.toNatClampNeg).toNatClampNeg) 2) (v (25 + (st_o x0.toNatClampNeg).toNatClampNeg) 0) (v (30 + 15 * x1.toNatClampNeg) 0) (v (17 + (v (30 + 15 * x1.toNatClampNeg) 0).toNatClampNeg) 1) (v (17 + (v (30 + 15 * x1.toNatClampNeg) 0).toNatClampNeg) 0) (v (30 + 15 * x1.toNatClampNeg) 1) (v (17 + (v (30 + 15 * x1.toNatClampNeg) 1).toNatClampNeg) 1) (v (17 + (v (30 + 15 * x1.toNatClampNeg) 1).toNatClampNeg) 0) → ((-1) : Int32) = 1 ∧ v = v) ∧ ((((0 ≤ x0.toInt ∧ x0.toInt ≤ 5) ∧ (st_o x0.toNatClampNeg).toInt < (v 13 1).toInt) ∧ 0 ≤ x1.toInt ∧ x1.toInt < (v 13 2).toInt) ∧ ¬ fit (v (25 + (st_l x0.toNatClampNeg).toNatClampNeg) 1) (v (25 + (st_o x0.toNatClampNeg).toNatClampNeg) 1) (v (25 + (st_l x0.toNatClampNeg).toNatClampNeg) 2) (v (25 + (st_l x0.toNatClampNeg).toNatClampNeg) 0) (v (25 + (st_o x0.toNatClampNeg).toNatClampNeg) 2) (v (25 + (st_o x0.toNatClampNeg).toNatClampNeg) 0) (v (30 + 15 * x1.toNatClampNeg) 0) (v (17 + (v (30 + 15 * x1.toNatClampNeg) 0).toNatClampNeg) 1) (v (17 + (v (30 + 15 * x1.toNatClampNeg) 0).toNatClampNeg) 0) (v (30 + 15 * x1.toNatClampNeg) 1) (v (17 + (v (30 + 15 * x1.toNatClampNeg) 1).toNatClampNeg) 1) (v (17 + (v (30 + 15 * x1.toNatClampNeg) 1).toNatClampNeg) 0) → ((-1) : Int32) = 0 ∧ v = v) := by
        refine ⟨fun hq => ?_, fun hq => ?_, fun hq => ?_⟩
        · exact ⟨rfl, rfl⟩
        · exact absurd hq.1 (by omega)
        · exact absurd hq.1 (by omega)
      exact W.iret (v := (-1)) hx hb hr (fun t ht hW => ⟨⟨(-1), v, rfl, ⟨hv, hpost⟩, by rw [ht]; exact hP, hD⟩, hS.F ht⟩) hS.2.2 dX7_maySit_29
  · have k_0 : (0 : Int32).toInt = 0 := by decide
    have k_5 : (5 : Int32).toInt = 5 := by decide
    have tc_2 : ¬ ((0 : Int32).toInt ≤ x0.toInt ∧ x0.toInt ≤ (5 : Int32).toInt) := fun q => hc_2 ⟨Int32.le_iff_toInt_le.mpr q.1, Int32.le_iff_toInt_le.mpr q.2⟩
    refine lv_if_eq (tgt := 28) hx hb dX7_maySit_6 (by decide) (fun _ => ?_) (fun c9 => absurd c9 (by decide))
    refine lv_iconst (v := (-1)) hx hb dX7_maySit_28 (by decide) ?_
    have hpost : (¬ (((0 ≤ x0.toInt ∧ x0.toInt ≤ 5) ∧ (st_o x0.toNatClampNeg).toInt < (v 13 1).toInt) ∧ 0 ≤ x1.toInt ∧ x1.toInt < (v 13 2).toInt) → ((-1) : Int32) = -1 ∧ v = v) ∧ ((((0 ≤ x0.toInt ∧ x0.toInt ≤ 5) ∧ (st_o x0.toNatClampNeg).toInt < (v 13 1).toInt) ∧ 0 ≤ x1.toInt ∧ x1.toInt < (v 13 2).toInt) ∧ fit (v (25 + (st_l x0.toNatClampNeg).toNatClampNeg) 1) (v (25 + (st_o x0.toNatClampNeg).toNatClampNeg) 1) (v (25 + (st_l x0.toNatClampNeg).toNatClampNeg) 2) (v (25 + (st_l x0.toNatClampNeg).toNatClampNeg) 0) (v (25 + (st_o x0.toNatClampNeg).toNatClampNeg) 2) (v (25 + (st_o x0.toNatClampNeg).toNatClampNeg) 0) (v (30 + 15 * x1.toNatClampNeg) 0) (v (17 + (v (30 + 15 * x1.toNatClampNeg) 0).toNatClampNeg) 1) (v (17 + (v (30 + 15 * x1.toNatClampNeg) 0).toNatClampNeg) 0) (v (30 + 15 * x1.toNatClampNeg) 1) (v (17 + (v (30 + 15 * x1.toNatClampNeg) 1).toNatClampNeg) 1) (v (17 + (v (30 + 15 * x1.toNatClampNeg) 1).toNatClampNeg) 0) → ((-1) : Int32) = 1 ∧ v = v) ∧ ((((0 ≤ x0.toInt ∧ x0.toInt ≤ 5) ∧ (st_o x0.toNatClampNeg).toInt < (v 13 1).toInt) ∧ 0 ≤ x1.toInt ∧ x1.toInt < (v 13 2).toInt) ∧ ¬ fit (v (25 + (st_l x0.toNatClampNeg).toNatClampNeg) 1) (v (25 + (st_o x0.toNatClampNeg).toNatClampNeg) 1) (v (25 + (st_l x0.toNatClampNeg).toNatClampNeg) 2) (v (25 + (st_l x0.toNatClampNeg).toNatClampNeg) 0) (v (25 + (st_o x0.toNatClampNeg).toNatClampNeg) 2) (v (25 + (st_o x0.toNatClampNeg).toNatClampNeg) 0) (v (30 + 15 * x1.toNatClampNeg) 0) (v (17 + (v (30 + 15 * x1.toNatClampNeg) 0).toNatClampNeg) 1) (v (17 + (v (30 + 15 * x1.toNatClampNeg) 0).toNatClampNeg) 0) (v (30 + 15 * x1.toNatClampNeg) 1) (v (17 + (v (30 + 15 * x1.toNatClampNeg) 1).toNatClampNeg) 1) (v (17 + (v (30 + 15 * x1.toNatClampNeg) 1).toNatClampNeg) 0) → ((-1) : Int32) = 0 ∧ v = v) := by
      refine ⟨fun hq => ?_, fun hq => ?_, fun hq => ?_⟩
      · exact ⟨rfl, rfl⟩
      · exact absurd hq.1 (by omega)
      · exact absurd hq.1 (by omega)
    exact W.iret (v := (-1)) hx hb hr (fun t ht hW => ⟨⟨(-1), v, rfl, ⟨hv, hpost⟩, by rw [ht]; exact hP, hD⟩, hS.F ht⟩) hS.2.2 dX7_maySit_29

set_option maxHeartbeats 4000000 in
set_option maxRecDepth 100000 in
theorem e_X8_mayMeet (l : Launch) (dC : Nat → ClassId) (dI : Nat → Nat → Nat) (cy : Nat → ClassId) (sz : Nat) (ad : Nat → Nat) (v : Nat → Nat → Int32) (hv : Ir v) (x0 x1 : Int32) (h0 : 0 ≤ x0.toInt ∧ x0.toInt ≤ 3) (h1 : 0 ≤ x1.toInt ∧ x1.toInt ≤ 7) : Met l yX8_mayMeet wsX8_mayMeet ({ frames := 0, cells := 0, slots := 0, locals := 0 }) (va_Pc [.ref (ad 0), .int x0, .int x1] (ex_Pre dC dI cy sz (wm ad cy v))) (va_Qi (fun (r : Int32) (u : Nat → Nat → Int32) => Ir u ∧ u = v ∧ ((r = 1 ∧ ¬ ner (v 1 (28 + x0.toNatClampNeg)) (v 1 (20 + 2 * x0.toNatClampNeg)) x1 (v 1 (4 + 2 * x1.toNatClampNeg))) ∨ (r = 0 ∧ ner (v 1 (28 + x0.toNatClampNeg)) (v 1 (20 + 2 * x0.toNatClampNeg)) x1 (v 1 (4 + 2 * x1.toNatClampNeg))))) (fun u t => ex_Pst dC dI (va_A (wm ad cy v) sz) (wm ad cy u) t) (va_A (wm ad cy v) sz)) 0 0 (va_A (wm ad cy v) sz) := by
  refine Met.ofW (cc := cX8_mayMeet) (maxL := 3) (ret := (some .boolean)) (by decide) rfl ?_
  intro p e s m args below meth c s₁ B hml hv
  obtain ⟨rfl, hsz, hE, hP, hK, hD0⟩ := hv
  have hx := B.exec
  have hb := B.bytes
  have hr := B.returns
  have hts := atoms_spec (ws := wsX8_mayMeet) B.pre
  have hown : s.vm.findClass RX8 = some m.cls := findClass_of_methodNamed B.named
  have hlocks := B.notSynchronized
  subst hsz
  have hD := hD0.self (sz := s.heap.size)
  generalize hAe : va_A (wm ad cy v) s.heap.size = A at hD ⊢
  have hA : ∀ q : Nat, s.heap.size ≤ q → A q := fun q h => by rw [← hAe]; exact Or.inr h
  have hS : va_S A s.heap s.heap [] := va_S.rf
  have hP : va_P (dC, dI) vwCl (wm ad cy v) s.heap := hP
  have hl := lv_entry ([.ref (ad 0), .int x0, .int x1]) (n := 3) (Nat.le_of_ble_eq_true rfl)
  rw [lg_entry_eq]
  generalize (lg_sl ([.ref (ad 0), .int x0, .int x1]) ++ List.replicate (3 - (lg_sl ([.ref (ad 0), .int x0, .int x1])).length) Slot.unset).toArray = ls at hl ⊢
  have hl : lv_has ls 3 [(0, .ref (ad 0)), (1, .int x0), (2, .int x1)] := hl
  have zn_x0 : (x0.toNatClampNeg : Int) = x0.toInt := t_nn (by omega)
  have zn_x1 : (x1.toNatClampNeg : Int) = x1.toInt := t_nn (by omega)
  obtain ⟨kb, ekb⟩ : ∃ z : Int32, z = v 1 (28 + x0.toNatClampNeg) := ⟨_, rfl⟩
  obtain ⟨fl, efl⟩ : ∃ z : Int32, z = v 1 (20 + 2 * x0.toNatClampNeg) := ⟨_, rfl⟩
  obtain ⟨pf, epf⟩ : ∃ z : Int32, z = v 1 (4 + 2 * x1.toNatClampNeg) := ⟨_, rfl⟩
  have hbt := btx_b kb x1
  refine lv_aload_n hx hb dX8_mayMeet_0 rfl (lv_at hl 0 rfl) ?_
  refine va_get (D := (dC, dI)) (ci := 8) (v := .ref (ad 1)) (C := RX8) (T := TX8) (N := 11) hx hb hts (by decide +kernel) hown hK hP (0) (wm_at (by decide) rc_0) rfl 0 (by decide) (hts (.fieldLink RX8 7 "QuietStairsModel" "s" "[I") (by decide +kernel)) (fun _ h9 => h9) rfl dX8_mayMeet_1 ?_
  refine lv_bipush (v := 20) hx hb dX8_mayMeet_4 (by decide) ?_
  refine lv_iconst (v := 2) hx hb dX8_mayMeet_6 (by decide) ?_
  refine lv_iload_n hx hb dX8_mayMeet_7 rfl (lv_at hl 1 rfl) ?_
  refine lv_imul hx hb dX8_mayMeet_8 ?_
  refine lv_topi (fun x_1 ex_1 => ?_)
  have k_2 : (2 : Int32).toInt = 2 := by decide
  have tx_1 : x_1.toInt = 2 * x0.toInt := by rw [ex_1, t_mul (by rw [k_2]; omega), k_2]
  refine lv_iadd hx hb dX8_mayMeet_9 ?_
  refine lv_topi (fun x_2 ex_2 => ?_)
  have k_20 : (20 : Int32).toInt = 20 := by decide
  have tx_2 : x_2.toInt = (20 : Int32).toInt + x_1.toInt := by rw [ex_2]; exact t_add ⟨by omega, by omega⟩
  have nx_2 : x_2.toNatClampNeg = 20 + 2 * x0.toNatClampNeg := by have z1 := t_nn (x := x_2) (by omega); omega
  refine va_iald hx hb hK hP (1) 0 (wm_at (by decide) rc_1) rfl (vp_in_iff.mpr ⟨by omega, by omega⟩) dX8_mayMeet_10 ?_
  refine lv_topi (fun x_3 ex_3 => ?_)
  rw [nx_2] at ex_3
  obtain rfl : fl = x_3 := (ex_3.trans efl.symm).symm
  refine lv_aload_n hx hb dX8_mayMeet_11 rfl (lv_at hl 0 rfl) ?_
  refine va_get (D := (dC, dI)) (ci := 8) (v := .ref (ad 1)) (C := RX8) (T := TX8) (N := 11) hx hb hts (by decide +kernel) hown hK hP (0) (wm_at (by decide) rc_0) rfl 0 (by decide) (hts (.fieldLink RX8 7 "QuietStairsModel" "s" "[I") (by decide +kernel)) (fun _ h9 => h9) rfl dX8_mayMeet_12 ?_
  refine lv_iconst (v := 4) hx hb dX8_mayMeet_15 (by decide) ?_
  refine lv_iconst (v := 2) hx hb dX8_mayMeet_16 (by decide) ?_
  refine lv_iload_n hx hb dX8_mayMeet_17 rfl (lv_at hl 2 rfl) ?_
  refine lv_imul hx hb dX8_mayMeet_18 ?_
  refine lv_topi (fun x_4 ex_4 => ?_)
  have tx_4 : x_4.toInt = 2 * x1.toInt := by rw [ex_4, t_mul (by rw [k_2]; omega), k_2]
  refine lv_iadd hx hb dX8_mayMeet_19 ?_
  refine lv_topi (fun x_5 ex_5 => ?_)
  have k_4 : (4 : Int32).toInt = 4 := by decide
  have tx_5 : x_5.toInt = (4 : Int32).toInt + x_4.toInt := by rw [ex_5]; exact t_add ⟨by omega, by omega⟩
  have nx_5 : x_5.toNatClampNeg = 4 + 2 * x1.toNatClampNeg := by have z1 := t_nn (x := x_5) (by omega); omega
  refine va_iald hx hb hK hP (1) 0 (wm_at (by decide) rc_1) rfl (vp_in_iff.mpr ⟨by omega, by omega⟩) dX8_mayMeet_20 ?_
  refine lv_topi (fun x_6 ex_6 => ?_)
  rw [nx_5] at ex_6
  obtain rfl : pf = x_6 := (ex_6.trans epf.symm).symm
  refine lv_icmp_eq (tgt := 44) hx hb dX8_mayMeet_21 (by decide) (fun c_7 => ?_) (fun c_7 => ?_)
  · have tc_7 : fl.toInt = pf.toInt := by rw [c_7]
    refine lv_iconst (v := 0) hx hb dX8_mayMeet_44 (by decide) ?_
    exact W.zret (ty := .boolean) (v := 0) hx hb hr rfl (fun t ht hW => ⟨⟨0, v, rfl, ⟨hv, rfl, by rw [← ekb, ← efl, ← epf]; unfold ner; exact Or.inr ⟨rfl, by omega⟩⟩, by rw [ht]; exact hP, hD⟩, hS.F ht⟩) hS.2.2 dX8_mayMeet_45
  · have tc_7 : fl.toInt ≠ pf.toInt := fun q => absurd (Int32.toInt_inj.mp q) c_7
    refine lv_aload_n hx hb dX8_mayMeet_24 rfl (lv_at hl 0 rfl) ?_
    refine va_get (D := (dC, dI)) (ci := 8) (v := .ref (ad 1)) (C := RX8) (T := TX8) (N := 11) hx hb hts (by decide +kernel) hown hK hP (0) (wm_at (by decide) rc_0) rfl 0 (by decide) (hts (.fieldLink RX8 7 "QuietStairsModel" "s" "[I") (by decide +kernel)) (fun _ h9 => h9) rfl dX8_mayMeet_25 ?_
    refine lv_bipush (v := 28) hx hb dX8_mayMeet_28 (by decide) ?_
    refine lv_iload_n hx hb dX8_mayMeet_30 rfl (lv_at hl 1 rfl) ?_
    refine lv_iadd hx hb dX8_mayMeet_31 ?_
    refine lv_topi (fun x_8 ex_8 => ?_)
    have k_28 : (28 : Int32).toInt = 28 := by decide
    have tx_8 : x_8.toInt = (28 : Int32).toInt + x0.toInt := by rw [ex_8]; exact t_add ⟨by omega, by omega⟩
    have nx_8 : x_8.toNatClampNeg = 28 + x0.toNatClampNeg := by have z1 := t_nn (x := x_8) (by omega); omega
    refine va_iald hx hb hK hP (1) 0 (wm_at (by decide) rc_1) rfl (vp_in_iff.mpr ⟨by omega, by omega⟩) dX8_mayMeet_32 ?_
    refine lv_topi (fun x_9 ex_9 => ?_)
    rw [nx_8] at ex_9
    obtain rfl : kb = x_9 := (ex_9.trans ekb.symm).symm
    refine lv_iload_n hx hb dX8_mayMeet_33 rfl (lv_at hl 2 rfl) ?_
    refine lv_ishr hx hb dX8_mayMeet_34 ?_
    refine lv_topi (fun x_10 ex_10 => ?_)
    refine lv_iconst (v := 1) hx hb dX8_mayMeet_35 (by decide) ?_
    refine lv_iand hx hb dX8_mayMeet_36 ?_
    refine lv_topi (fun x_11 ex_11 => ?_)
    have qx_11 : x_11.toInt = (btx kb x1).toInt := by unfold btx; rw [ex_11, ex_10]
    have k_0 : (0 : Int32).toInt = 0 := by decide
    refine lv_if_ne (tgt := 44) hx hb dX8_mayMeet_37 (by decide) (fun c_12 => ?_) (fun c_12 => ?_)
    · have tc_12 : x_11.toInt ≠ (0 : Int32).toInt := fun q => absurd (Int32.toInt_inj.mp q) c_12
      refine lv_iconst (v := 0) hx hb dX8_mayMeet_44 (by decide) ?_
      exact W.zret (ty := .boolean) (v := 0) hx hb hr rfl (fun t ht hW => ⟨⟨0, v, rfl, ⟨hv, rfl, by rw [← ekb, ← efl, ← epf]; unfold ner; exact Or.inr ⟨rfl, by omega⟩⟩, by rw [ht]; exact hP, hD⟩, hS.F ht⟩) hS.2.2 dX8_mayMeet_45
    · have tc_12 : x_11.toInt = (0 : Int32).toInt := by rw [c_12]
      refine lv_iconst (v := 1) hx hb dX8_mayMeet_40 (by decide) ?_
      refine lv_goto (tgt := 45) hx hb dX8_mayMeet_41 (by decide) ?_
      exact W.zret (ty := .boolean) (v := 1) hx hb hr rfl (fun t ht hW => ⟨⟨1, v, rfl, ⟨hv, rfl, by rw [← ekb, ← efl, ← epf]; unfold ner; exact Or.inl ⟨rfl, by omega⟩⟩, by rw [ht]; exact hP, hD⟩, hS.F ht⟩) hS.2.2 dX8_mayMeet_45

theorem bS_q {c w : Nat} (hc : c < 6) (hw : w = 32 ∨ w = 33) : bS (w + 7 * c) = some 7 := by
  unfold bS
  repeat' split
  all_goals first | rfl | (exfalso; omega)

set_option maxHeartbeats 4000000 in
set_option maxRecDepth 100000 in
theorem e_X8_may (l : Launch) (dC : Nat → ClassId) (dI : Nat → Nat → Nat) (cy : Nat → ClassId) (sz : Nat) (ad : Nat → Nat) (v : Nat → Nat → Int32) (hv : Ir v) (x0 x1 mA mB : Int32) (h0 : 0 ≤ x0.toInt ∧ x0.toInt ≤ 5) (h1 : 0 ≤ x1.toInt ∧ x1.toInt ≤ 5) (hmA : mA.toInt = pn x0.toInt) (hmB : mB.toInt = pt x0.toInt) : Met l yX8_may wsX8_may ({ frames := 1, cells := 0, slots := 0, locals := 64 }) (va_Pc [.ref (ad 0), .int x0, .int x1] (ex_Pre dC dI cy sz (wm ad cy v))) (va_Qi (fun (r : Int32) (u : Nat → Nat → Int32) => Ir u ∧ u = v ∧ ((r = 1 ∧ fit (v 1 (21 + 2 * mA.toNatClampNeg)) (v 1 (21 + 2 * mB.toNatClampNeg)) (v 1 (28 + mA.toNatClampNeg)) (v 1 (20 + 2 * mA.toNatClampNeg)) (v 1 (28 + mB.toNatClampNeg)) (v 1 (20 + 2 * mB.toNatClampNeg)) (v 1 (32 + 7 * x1.toNatClampNeg)) (v 1 (5 + 2 * (v 1 (32 + 7 * x1.toNatClampNeg)).toNatClampNeg)) (v 1 (4 + 2 * (v 1 (32 + 7 * x1.toNatClampNeg)).toNatClampNeg)) (v 1 (33 + 7 * x1.toNatClampNeg)) (v 1 (5 + 2 * (v 1 (33 + 7 * x1.toNatClampNeg)).toNatClampNeg)) (v 1 (4 + 2 * (v 1 (33 + 7 * x1.toNatClampNeg)).toNatClampNeg))) ∨ (r = 0 ∧ ¬ fit (v 1 (21 + 2 * mA.toNatClampNeg)) (v 1 (21 + 2 * mB.toNatClampNeg)) (v 1 (28 + mA.toNatClampNeg)) (v 1 (20 + 2 * mA.toNatClampNeg)) (v 1 (28 + mB.toNatClampNeg)) (v 1 (20 + 2 * mB.toNatClampNeg)) (v 1 (32 + 7 * x1.toNatClampNeg)) (v 1 (5 + 2 * (v 1 (32 + 7 * x1.toNatClampNeg)).toNatClampNeg)) (v 1 (4 + 2 * (v 1 (32 + 7 * x1.toNatClampNeg)).toNatClampNeg)) (v 1 (33 + 7 * x1.toNatClampNeg)) (v 1 (5 + 2 * (v 1 (33 + 7 * x1.toNatClampNeg)).toNatClampNeg)) (v 1 (4 + 2 * (v 1 (33 + 7 * x1.toNatClampNeg)).toNatClampNeg))))) (fun u t => ex_Pst dC dI (va_A (wm ad cy v) sz) (wm ad cy u) t) (va_A (wm ad cy v) sz)) 0 0 (va_A (wm ad cy v) sz) := by
  refine Met.ofW (cc := cX8_may) (maxL := 9) (ret := (some .boolean)) (by decide) rfl ?_
  intro p e s m args below meth c s₁ B hml hv
  obtain ⟨rfl, hsz, hE, hP, hK, hD0⟩ := hv
  have hx := B.exec
  have hb := B.bytes
  have hr := B.returns
  have hts := atoms_spec (ws := wsX8_may) B.pre
  have hown : s.vm.findClass RX8 = some m.cls := findClass_of_methodNamed B.named
  have hlocks := B.notSynchronized
  subst hsz
  have hD := hD0.self (sz := s.heap.size)
  generalize hAe : va_A (wm ad cy v) s.heap.size = A at hD ⊢
  have hA : ∀ q : Nat, s.heap.size ≤ q → A q := fun q h => by rw [← hAe]; exact Or.inr h
  have hS : va_S A s.heap s.heap [] := va_S.rf
  have hP : va_P (dC, dI) vwCl (wm ad cy v) s.heap := hP
  have hl := lv_entry ([.ref (ad 0), .int x0, .int x1]) (n := 9) (Nat.le_of_ble_eq_true rfl)
  rw [lg_entry_eq]
  generalize (lg_sl ([.ref (ad 0), .int x0, .int x1]) ++ List.replicate (9 - (lg_sl ([.ref (ad 0), .int x0, .int x1])).length) Slot.unset).toArray = ls at hl ⊢
  have hl : lv_has ls 9 [(0, .ref (ad 0)), (1, .int x0), (2, .int x1)] := hl
  have hbA := pn_b x0.toInt
  have hbB := pt_b x0.toInt (by omega)
  have hrA : 0 ≤ mA.toInt ∧ mA.toInt ≤ 2 := by omega
  have hrB : 0 ≤ mB.toInt ∧ mB.toInt ≤ 3 := by omega
  have zn_x1 : (x1.toNatClampNeg : Int) = x1.toInt := t_nn (by omega)
  have zn_mA : (mA.toNatClampNeg : Int) = mA.toInt := t_nn (by omega)
  have zn_mB : (mB.toNatClampNeg : Int) = mB.toInt := t_nn (by omega)
  obtain ⟨pa, epa⟩ : ∃ z : Int32, z = v 1 (32 + 7 * x1.toNatClampNeg) := ⟨_, rfl⟩
  have hbpa : 0 ≤ pa.toInt ∧ pa.toInt ≤ 7 := by rw [epa]; exact hv 1 _ 7 (bS_q (by omega) (by omega))
  have zn_pa : (pa.toNatClampNeg : Int) = pa.toInt := t_nn (by omega)
  obtain ⟨pb, epb⟩ : ∃ z : Int32, z = v 1 (33 + 7 * x1.toNatClampNeg) := ⟨_, rfl⟩
  have hbpb : 0 ≤ pb.toInt ∧ pb.toInt ≤ 7 := by rw [epb]; exact hv 1 _ 7 (bS_q (by omega) (by omega))
  have zn_pb : (pb.toNatClampNeg : Int) = pb.toInt := t_nn (by omega)
  obtain ⟨tl, etl⟩ : ∃ z : Int32, z = v 1 (21 + 2 * mA.toNatClampNeg) := ⟨_, rfl⟩
  obtain ⟨tb, etb⟩ : ∃ z : Int32, z = v 1 (21 + 2 * mB.toNatClampNeg) := ⟨_, rfl⟩
  obtain ⟨ga, ega⟩ : ∃ z : Int32, z = v 1 (5 + 2 * pa.toNatClampNeg) := ⟨_, rfl⟩
  obtain ⟨gb, egb⟩ : ∃ z : Int32, z = v 1 (5 + 2 * pb.toNatClampNeg) := ⟨_, rfl⟩
  refine lv_iload_n hx hb dX8_may_0 rfl (lv_at hl 1 rfl) ?_
  refine yc_p hP hS (va_runS (As := [.int x0]) (rest := []) ⟨hx, hb, hml, hown, hts⟩ (c_X8_oneOf l x0) (cwS 1 hts gX8_may_X8_oneOf rfl rfl rfl (by decide +kernel) ⟨Nat.le_of_ble_eq_true rfl, Nat.le_of_ble_eq_true rfl⟩) ex_preP rfl rfl hl.1 rfl (lv_room (Nat.le_of_ble_eq_true rfl)) dX8_may_1 ⟨Nat.le_of_ble_eq_true rfl, Nat.le_of_ble_eq_true rfl⟩) (fun r_1 H locs hw_1 hP hS => ?_)
  have pr_1 := pn_b x0.toInt
  have qr_1 : r_1.toInt = pn x0.toInt := hw_1
  obtain rfl : mA = r_1 := Int32.toInt_inj.mp (hmA.trans qr_1.symm)
  refine lv_istore_n (lv' := [(3, .int mA), (0, .ref (ad 0)), (1, .int x0), (2, .int x1)]) hx hb dX8_may_4 rfl hl (by decide) rfl (fun ls hl => ?_)
  refine lv_iload_n hx hb dX8_may_5 rfl (lv_at hl 2 rfl) ?_
  refine yc_p hP hS (va_runS (As := [.int x0]) (rest := []) ⟨hx, hb, hml, hown, hts⟩ (c_X8_otherOf l x0) (cwS 1 hts gX8_may_X8_otherOf rfl rfl rfl (by decide +kernel) ⟨Nat.le_of_ble_eq_true rfl, Nat.le_of_ble_eq_true rfl⟩) ex_preP rfl rfl hl.1 rfl (lv_room (Nat.le_of_ble_eq_true rfl)) dX8_may_6 ⟨Nat.le_of_ble_eq_true rfl, Nat.le_of_ble_eq_true rfl⟩) (fun r_2 H locs hw_2 hP hS => ?_)
  have pr_2 := pt_b x0.toInt (by omega)
  have qr_2 : r_2.toInt = pt x0.toInt := hw_2
  obtain rfl : mB = r_2 := Int32.toInt_inj.mp (hmB.trans qr_2.symm)
  refine lv_istore (lv' := [(4, .int mB), (3, .int mA), (0, .ref (ad 0)), (1, .int x0), (2, .int x1)]) hx hb dX8_may_9 hl (by decide) rfl (fun ls hl => ?_)
  refine lv_aload_n hx hb dX8_may_11 rfl (lv_at hl 2 rfl) ?_
  refine va_get (D := (dC, dI)) (ci := 8) (v := .ref (ad 1)) (C := RX8) (T := TX8) (N := 11) hx hb hts (by decide +kernel) hown hK hP (0) (wm_at (by decide) rc_0) rfl 0 (by decide) (hts (.fieldLink RX8 7 "QuietStairsModel" "s" "[I") (by decide +kernel)) (fun _ h9 => h9) rfl dX8_may_12 ?_
  refine lv_bipush (v := 20) hx hb dX8_may_15 (by decide) ?_
  refine lv_iconst (v := 2) hx hb dX8_may_17 (by decide) ?_
  refine lv_iload_n hx hb dX8_may_18 rfl (lv_at hl 1 rfl) ?_
  refine lv_imul hx hb dX8_may_19 ?_
  refine lv_topi (fun x_3 ex_3 => ?_)
  have k_2 : (2 : Int32).toInt = 2 := by decide
  have tx_3 : x_3.toInt = 2 * mA.toInt := by rw [ex_3, t_mul (by rw [k_2]; omega), k_2]
  refine lv_iadd hx hb dX8_may_20 ?_
  refine lv_topi (fun x_4 ex_4 => ?_)
  have k_20 : (20 : Int32).toInt = 20 := by decide
  have tx_4 : x_4.toInt = (20 : Int32).toInt + x_3.toInt := by rw [ex_4]; exact t_add ⟨by omega, by omega⟩
  refine lv_iconst (v := 1) hx hb dX8_may_21 (by decide) ?_
  refine lv_iadd hx hb dX8_may_22 ?_
  refine lv_topi (fun x_5 ex_5 => ?_)
  have k_1 : (1 : Int32).toInt = 1 := by decide
  have tx_5 : x_5.toInt = x_4.toInt + (1 : Int32).toInt := by rw [ex_5]; exact t_add ⟨by omega, by omega⟩
  have nx_5 : x_5.toNatClampNeg = 21 + 2 * mA.toNatClampNeg := by have z1 := t_nn (x := x_5) (by omega); omega
  refine va_iald hx hb hK hP (1) 0 (wm_at (by decide) rc_1) rfl (vp_in_iff.mpr ⟨by omega, by omega⟩) dX8_may_23 ?_
  refine lv_topi (fun x_6 ex_6 => ?_)
  rw [nx_5] at ex_6
  obtain rfl : tl = x_6 := (ex_6.trans etl.symm).symm
  refine lv_aload_n hx hb dX8_may_24 rfl (lv_at hl 2 rfl) ?_
  refine va_get (D := (dC, dI)) (ci := 8) (v := .ref (ad 1)) (C := RX8) (T := TX8) (N := 11) hx hb hts (by decide +kernel) hown hK hP (0) (wm_at (by decide) rc_0) rfl 0 (by decide) (hts (.fieldLink RX8 7 "QuietStairsModel" "s" "[I") (by decide +kernel)) (fun _ h9 => h9) rfl dX8_may_25 ?_
  refine lv_bipush (v := 20) hx hb dX8_may_28 (by decide) ?_
  refine lv_iconst (v := 2) hx hb dX8_may_30 (by decide) ?_
  refine lv_iload hx hb dX8_may_31 (lv_at hl 0 rfl) ?_
  refine lv_imul hx hb dX8_may_33 ?_
  refine lv_topi (fun x_7 ex_7 => ?_)
  have tx_7 : x_7.toInt = 2 * mB.toInt := by rw [ex_7, t_mul (by rw [k_2]; omega), k_2]
  refine lv_iadd hx hb dX8_may_34 ?_
  refine lv_topi (fun x_8 ex_8 => ?_)
  have tx_8 : x_8.toInt = (20 : Int32).toInt + x_7.toInt := by rw [ex_8]; exact t_add ⟨by omega, by omega⟩
  refine lv_iconst (v := 1) hx hb dX8_may_35 (by decide) ?_
  refine lv_iadd hx hb dX8_may_36 ?_
  refine lv_topi (fun x_9 ex_9 => ?_)
  have tx_9 : x_9.toInt = x_8.toInt + (1 : Int32).toInt := by rw [ex_9]; exact t_add ⟨by omega, by omega⟩
  have nx_9 : x_9.toNatClampNeg = 21 + 2 * mB.toNatClampNeg := by have z1 := t_nn (x := x_9) (by omega); omega
  refine va_iald hx hb hK hP (1) 0 (wm_at (by decide) rc_1) rfl (vp_in_iff.mpr ⟨by omega, by omega⟩) dX8_may_37 ?_
  refine lv_topi (fun x_10 ex_10 => ?_)
  rw [nx_9] at ex_10
  obtain rfl : tb = x_10 := (ex_10.trans etb.symm).symm
  refine lv_ior hx hb dX8_may_38 ?_
  refine lv_topi (fun x_11 ex_11 => ?_)
  refine lv_istore (lv' := [(5, .int x_11), (4, .int mB), (3, .int mA), (0, .ref (ad 0)), (1, .int x0), (2, .int x1)]) hx hb dX8_may_39 hl (by decide) rfl (fun ls hl => ?_)
  refine lv_iconst (v := 1) hx hb dX8_may_41 (by decide) ?_
  refine lv_istore (lv' := [(6, .int 1), (5, .int x_11), (4, .int mB), (3, .int mA), (0, .ref (ad 0)), (1, .int x0), (2, .int x1)]) hx hb dX8_may_42 hl (by decide) rfl (fun ls hl => ?_)
  refine lv_iconst (v := 0) hx hb dX8_may_44 (by decide) ?_
  refine lv_istore (lv' := [(7, .int 0), (6, .int 1), (5, .int x_11), (4, .int mB), (3, .int mA), (0, .ref (ad 0)), (1, .int x0), (2, .int x1)]) hx hb dX8_may_45 hl (by decide) rfl (fun ls hl => ?_)
  refine lv_iload hx hb dX8_may_47 (lv_at hl 0 rfl) ?_
  refine lv_iconst (v := 2) hx hb dX8_may_49 (by decide) ?_
  refine lv_icmp_ge (tgt := 127) hx hb dX8_may_50 (by decide) (fun c9 => absurd c9 (by decide)) (fun _ => ?_)
  refine lv_aload_n hx hb dX8_may_53 rfl (lv_at hl 5 rfl) ?_
  refine va_get (D := (dC, dI)) (ci := 8) (v := .ref (ad 1)) (C := RX8) (T := TX8) (N := 11) hx hb hts (by decide +kernel) hown hK hP (0) (wm_at (by decide) rc_0) rfl 0 (by decide) (hts (.fieldLink RX8 7 "QuietStairsModel" "s" "[I") (by decide +kernel)) (fun _ h9 => h9) rfl dX8_may_54 ?_
  refine lv_iload_n hx hb dX8_may_57 rfl (lv_at hl 7 rfl) ?_
  refine lv_iload hx hb dX8_may_58 (lv_at hl 0 rfl) ?_
  refine yc_p hP hS (va_runS (As := [.int x1, .int 0]) (rest := [.ref (ad 1)]) ⟨hx, hb, hml, hown, hts⟩ (c_X8_at l x1 0) (cwS 2 hts gX8_may_X8_at rfl rfl rfl (by decide +kernel) ⟨Nat.le_of_ble_eq_true rfl, Nat.le_of_ble_eq_true rfl⟩) ex_preP rfl rfl hl.1 rfl (lv_room (Nat.le_of_ble_eq_true rfl)) dX8_may_60 ⟨Nat.le_of_ble_eq_true rfl, Nat.le_of_ble_eq_true rfl⟩) (fun r_12 H locs hw_12 hP hS => ?_)
  have k_0 : (0 : Int32).toInt = 0 := by decide
  have tr_12 : r_12.toInt = 32 + 7 * x1.toInt + (0 : Int32).toInt := t_at hw_12 ⟨by omega, by omega⟩ ⟨by omega, by omega⟩
  have nr_12 : r_12.toNatClampNeg = 32 + 7 * x1.toNatClampNeg := by have z1 := t_nn (x := r_12) (by omega); omega
  refine va_iald hx hb hK hP (1) 0 (wm_at (by decide) rc_1) rfl (vp_in_iff.mpr ⟨by omega, by omega⟩) dX8_may_63 ?_
  refine lv_topi (fun x_13 ex_13 => ?_)
  have bzx_13 : 0 ≤ x_13.toInt ∧ x_13.toInt ≤ 7 := by rw [ex_13]; exact hv 1 _ 7 (bx_0 (i := x1.toInt) (s := 0) (by omega) ⟨by omega, by omega⟩ ⟨by omega, by omega⟩)
  rw [nr_12] at ex_13
  obtain rfl : pa = x_13 := (ex_13.trans epa.symm).symm
  refine lv_istore (lv' := [(8, .int pa), (7, .int 0), (6, .int 1), (5, .int x_11), (4, .int mB), (3, .int mA), (0, .ref (ad 0)), (1, .int x0), (2, .int x1)]) hx hb dX8_may_64 hl (by decide) rfl (fun ls hl => ?_)
  refine lv_iload hx hb dX8_may_66 (lv_at hl 2 rfl) ?_
  refine lv_if_eq (tgt := 118) hx hb dX8_may_68 (by decide) (fun c9 => absurd c9 (by decide)) (fun _ => ?_)
  refine lv_iload hx hb dX8_may_71 (lv_at hl 3 rfl) ?_
  refine lv_aload_n hx hb dX8_may_73 rfl (lv_at hl 6 rfl) ?_
  refine va_get (D := (dC, dI)) (ci := 8) (v := .ref (ad 1)) (C := RX8) (T := TX8) (N := 11) hx hb hts (by decide +kernel) hown hK hP (0) (wm_at (by decide) rc_0) rfl 0 (by decide) (hts (.fieldLink RX8 7 "QuietStairsModel" "s" "[I") (by decide +kernel)) (fun _ h9 => h9) rfl dX8_may_74 ?_
  refine lv_iconst (v := 4) hx hb dX8_may_77 (by decide) ?_
  refine lv_iconst (v := 2) hx hb dX8_may_78 (by decide) ?_
  refine lv_iload hx hb dX8_may_79 (lv_at hl 0 rfl) ?_
  refine lv_imul hx hb dX8_may_81 ?_
  refine lv_topi (fun x_14 ex_14 => ?_)
  have tx_14 : x_14.toInt = 2 * pa.toInt := by rw [ex_14, t_mul (by rw [k_2]; omega), k_2]
  refine lv_iadd hx hb dX8_may_82 ?_
  refine lv_topi (fun x_15 ex_15 => ?_)
  have k_4 : (4 : Int32).toInt = 4 := by decide
  have tx_15 : x_15.toInt = (4 : Int32).toInt + x_14.toInt := by rw [ex_15]; exact t_add ⟨by omega, by omega⟩
  refine lv_iconst (v := 1) hx hb dX8_may_83 (by decide) ?_
  refine lv_iadd hx hb dX8_may_84 ?_
  refine lv_topi (fun x_16 ex_16 => ?_)
  have tx_16 : x_16.toInt = x_15.toInt + (1 : Int32).toInt := by rw [ex_16]; exact t_add ⟨by omega, by omega⟩
  have nx_16 : x_16.toNatClampNeg = 5 + 2 * pa.toNatClampNeg := by have z1 := t_nn (x := x_16) (by omega); omega
  refine va_iald hx hb hK hP (1) 0 (wm_at (by decide) rc_1) rfl (vp_in_iff.mpr ⟨by omega, by omega⟩) dX8_may_85 ?_
  refine lv_topi (fun x_17 ex_17 => ?_)
  rw [nx_16] at ex_17
  obtain rfl : ga = x_17 := (ex_17.trans ega.symm).symm
  refine lv_ishr hx hb dX8_may_86 ?_
  refine lv_topi (fun x_18 ex_18 => ?_)
  refine lv_iconst (v := 1) hx hb dX8_may_87 (by decide) ?_
  refine lv_iand hx hb dX8_may_88 ?_
  refine lv_topi (fun x_19 ex_19 => ?_)
  have qx_19 : x_19.toInt = (btx x_11 ga).toInt := by unfold btx; rw [ex_19, ex_18, ex_11]
  refine lv_iconst (v := 1) hx hb dX8_may_89 (by decide) ?_
  refine lv_icmp_ne (tgt := 118) hx hb dX8_may_90 (by decide) (fun c_20 => ?_) (fun c_20 => ?_)
  · have tc_20 : x_19.toInt ≠ (1 : Int32).toInt := fun q => absurd (Int32.toInt_inj.mp q) c_20
    refine lv_iconst (v := 0) hx hb dX8_may_118 (by decide) ?_
    refine lv_istore (lv' := [(6, .int 0), (8, .int pa), (7, .int 0), (5, .int x_11), (4, .int mB), (3, .int mA), (0, .ref (ad 0)), (1, .int x0), (2, .int x1)]) hx hb dX8_may_119 hl (by decide) rfl (fun ls hl => ?_)
    refine lv_iinc (v := 1) (lv' := [(7, .int 1), (6, .int 0), (8, .int pa), (5, .int x_11), (4, .int mB), (3, .int mA), (0, .ref (ad 0)), (1, .int x0), (2, .int x1)]) hx hb dX8_may_121 hl (k := 2) rfl (by decide) (by decide) rfl (fun ls hl => ?_)
    refine lv_goto (tgt := 47) hx hb dX8_may_124 (by decide) ?_
    refine lv_iload hx hb dX8_may_47 (lv_at hl 0 rfl) ?_
    refine lv_iconst (v := 2) hx hb dX8_may_49 (by decide) ?_
    refine lv_icmp_ge (tgt := 127) hx hb dX8_may_50 (by decide) (fun c9 => absurd c9 (by decide)) (fun _ => ?_)
    refine lv_aload_n hx hb dX8_may_53 rfl (lv_at hl 6 rfl) ?_
    refine va_get (D := (dC, dI)) (ci := 8) (v := .ref (ad 1)) (C := RX8) (T := TX8) (N := 11) hx hb hts (by decide +kernel) hown hK hP (0) (wm_at (by decide) rc_0) rfl 0 (by decide) (hts (.fieldLink RX8 7 "QuietStairsModel" "s" "[I") (by decide +kernel)) (fun _ h9 => h9) rfl dX8_may_54 ?_
    refine lv_iload_n hx hb dX8_may_57 rfl (lv_at hl 8 rfl) ?_
    refine lv_iload hx hb dX8_may_58 (lv_at hl 0 rfl) ?_
    refine yc_p hP hS (va_runS (As := [.int x1, .int 1]) (rest := [.ref (ad 1)]) ⟨hx, hb, hml, hown, hts⟩ (c_X8_at l x1 1) (cwS 2 hts gX8_may_X8_at rfl rfl rfl (by decide +kernel) ⟨Nat.le_of_ble_eq_true rfl, Nat.le_of_ble_eq_true rfl⟩) ex_preP rfl rfl hl.1 rfl (lv_room (Nat.le_of_ble_eq_true rfl)) dX8_may_60 ⟨Nat.le_of_ble_eq_true rfl, Nat.le_of_ble_eq_true rfl⟩) (fun r_21 H locs hw_21 hP hS => ?_)
    have tr_21 : r_21.toInt = 32 + 7 * x1.toInt + (1 : Int32).toInt := t_at hw_21 ⟨by omega, by omega⟩ ⟨by omega, by omega⟩
    have nr_21 : r_21.toNatClampNeg = 33 + 7 * x1.toNatClampNeg := by have z1 := t_nn (x := r_21) (by omega); omega
    refine va_iald hx hb hK hP (1) 0 (wm_at (by decide) rc_1) rfl (vp_in_iff.mpr ⟨by omega, by omega⟩) dX8_may_63 ?_
    refine lv_topi (fun x_22 ex_22 => ?_)
    have bzx_22 : 0 ≤ x_22.toInt ∧ x_22.toInt ≤ 7 := by rw [ex_22]; exact hv 1 _ 7 (bx_0 (i := x1.toInt) (s := 1) (by omega) ⟨by omega, by omega⟩ ⟨by omega, by omega⟩)
    rw [nr_21] at ex_22
    obtain rfl : pb = x_22 := (ex_22.trans epb.symm).symm
    refine lv_istore (lv' := [(8, .int pb), (7, .int 1), (6, .int 0), (5, .int x_11), (4, .int mB), (3, .int mA), (0, .ref (ad 0)), (1, .int x0), (2, .int x1)]) hx hb dX8_may_64 hl (by decide) rfl (fun ls hl => ?_)
    refine lv_iload hx hb dX8_may_66 (lv_at hl 2 rfl) ?_
    refine lv_if_eq (tgt := 118) hx hb dX8_may_68 (by decide) (fun _ => ?_) (fun c9 => absurd c9 (by decide))
    refine lv_iconst (v := 0) hx hb dX8_may_118 (by decide) ?_
    refine lv_istore (lv' := [(6, .int 0), (8, .int pb), (7, .int 1), (5, .int x_11), (4, .int mB), (3, .int mA), (0, .ref (ad 0)), (1, .int x0), (2, .int x1)]) hx hb dX8_may_119 hl (by decide) rfl (fun ls hl => ?_)
    refine lv_iinc (v := 2) (lv' := [(7, .int 2), (6, .int 0), (8, .int pb), (5, .int x_11), (4, .int mB), (3, .int mA), (0, .ref (ad 0)), (1, .int x0), (2, .int x1)]) hx hb dX8_may_121 hl (k := 2) rfl (by decide) (by decide) rfl (fun ls hl => ?_)
    refine lv_goto (tgt := 47) hx hb dX8_may_124 (by decide) ?_
    refine lv_iload hx hb dX8_may_47 (lv_at hl 0 rfl) ?_
    refine lv_iconst (v := 2) hx hb dX8_may_49 (by decide) ?_
    refine lv_icmp_ge (tgt := 127) hx hb dX8_may_50 (by decide) (fun _ => ?_) (fun c9 => absurd c9 (by decide))
    refine lv_iload hx hb dX8_may_127 (lv_at hl 1 rfl) ?_
    exact W.zret (ty := .boolean) (v := 0) hx hb hr rfl (fun t ht hW => ⟨⟨0, v, rfl, ⟨hv, rfl, by rw [← epa, ← epb, ← etl, ← etb, ← ega, ← egb]; unfold fit oks; rw [← ex_11]; exact Or.inr ⟨rfl, fun ⟨⟨a1, a2, a3⟩, b1, b2, b3⟩ => by first | omega⟩⟩, by rw [ht]; exact hP, hD⟩, hS.F ht⟩) hS.2.2 dX8_may_129
  · have tc_20 : x_19.toInt = (1 : Int32).toInt := by rw [c_20]
    refine lv_aload_n hx hb dX8_may_93 rfl (lv_at hl 6 rfl) ?_
    refine lv_iload_n hx hb dX8_may_94 rfl (lv_at hl 5 rfl) ?_
    refine lv_iload hx hb dX8_may_95 (lv_at hl 0 rfl) ?_
    refine yw_i (w1 := fun (u : Nat → Nat → Int32) => wm ad cy u) hD hS hA (va_runV (As := [.int mA, .int pa]) (rest := []) ⟨hx, hb, hml, hown, hts⟩ (e_X8_mayMeet l dC dI cy _ ad v hv mA pa ⟨by omega, by omega⟩ ⟨by omega, by omega⟩) (cwV 2 hts gX8_may_X8_mayMeet rfl rfl rfl (by decide +kernel) ⟨Nat.le_of_ble_eq_true rfl, Nat.le_of_ble_eq_true rfl⟩) (yw_preV hE hK hP hD (ci := 8) (q0 := 0) rfl (wm_at (by decide) rc_0)) rfl rfl hl.1 rfl (lv_room (Nat.le_of_ble_eq_true rfl)) dX8_may_97 ⟨Nat.le_of_ble_eq_true rfl, Nat.le_of_ble_eq_true rfl⟩) (fun r_21 v_21 H locs hw_21 hP hD hS => ?_)
    obtain ⟨-, hu_21, hw_21⟩ := hw_21
    replace hu_21 := hu_21.symm
    subst hu_21
    rcases hw_21 with ⟨rfl, hn_22⟩ | ⟨rfl, hn_22⟩
    · refine lv_if_eq (tgt := 118) hx hb dX8_may_100 (by decide) (fun c9 => absurd c9 (by decide)) (fun _ => ?_)
      refine lv_aload_n hx hb dX8_may_103 rfl (lv_at hl 6 rfl) ?_
      refine lv_iload hx hb dX8_may_104 (lv_at hl 4 rfl) ?_
      refine lv_iload hx hb dX8_may_106 (lv_at hl 0 rfl) ?_
      refine yw_i (w1 := fun (u : Nat → Nat → Int32) => wm ad cy u) hD hS hA (va_runV (As := [.int mB, .int pa]) (rest := []) ⟨hx, hb, hml, hown, hts⟩ (e_X8_mayMeet l dC dI cy _ ad v hv mB pa ⟨by omega, by omega⟩ ⟨by omega, by omega⟩) (cwV 2 hts gX8_may_X8_mayMeet rfl rfl rfl (by decide +kernel) ⟨Nat.le_of_ble_eq_true rfl, Nat.le_of_ble_eq_true rfl⟩) (yw_preV hE hK hP hD (ci := 8) (q0 := 0) rfl (wm_at (by decide) rc_0)) rfl rfl hl.1 rfl (lv_room (Nat.le_of_ble_eq_true rfl)) dX8_may_108 ⟨Nat.le_of_ble_eq_true rfl, Nat.le_of_ble_eq_true rfl⟩) (fun r_23 v_23 H locs hw_23 hP hD hS => ?_)
      obtain ⟨-, hu_23, hw_23⟩ := hw_23
      replace hu_23 := hu_23.symm
      subst hu_23
      rcases hw_23 with ⟨rfl, hn_24⟩ | ⟨rfl, hn_24⟩
      · refine lv_if_eq (tgt := 118) hx hb dX8_may_111 (by decide) (fun c9 => absurd c9 (by decide)) (fun _ => ?_)
        refine lv_iconst (v := 1) hx hb dX8_may_114 (by decide) ?_
        refine lv_goto (tgt := 119) hx hb dX8_may_115 (by decide) ?_
        refine lv_istore (lv' := [(6, .int 1), (8, .int pa), (7, .int 0), (5, .int x_11), (4, .int mB), (3, .int mA), (0, .ref (ad 0)), (1, .int x0), (2, .int x1)]) hx hb dX8_may_119 hl (by decide) rfl (fun ls hl => ?_)
        refine lv_iinc (v := 1) (lv' := [(7, .int 1), (6, .int 1), (8, .int pa), (5, .int x_11), (4, .int mB), (3, .int mA), (0, .ref (ad 0)), (1, .int x0), (2, .int x1)]) hx hb dX8_may_121 hl (k := 2) rfl (by decide) (by decide) rfl (fun ls hl => ?_)
        refine lv_goto (tgt := 47) hx hb dX8_may_124 (by decide) ?_
        refine lv_iload hx hb dX8_may_47 (lv_at hl 0 rfl) ?_
        refine lv_iconst (v := 2) hx hb dX8_may_49 (by decide) ?_
        refine lv_icmp_ge (tgt := 127) hx hb dX8_may_50 (by decide) (fun c9 => absurd c9 (by decide)) (fun _ => ?_)
        refine lv_aload_n hx hb dX8_may_53 rfl (lv_at hl 6 rfl) ?_
        refine va_get (D := (dC, dI)) (ci := 8) (v := .ref (ad 1)) (C := RX8) (T := TX8) (N := 11) hx hb hts (by decide +kernel) hown hK hP (0) (wm_at (by decide) rc_0) rfl 0 (by decide) (hts (.fieldLink RX8 7 "QuietStairsModel" "s" "[I") (by decide +kernel)) (fun _ h9 => h9) rfl dX8_may_54 ?_
        refine lv_iload_n hx hb dX8_may_57 rfl (lv_at hl 8 rfl) ?_
        refine lv_iload hx hb dX8_may_58 (lv_at hl 0 rfl) ?_
        refine yc_p hP hS (va_runS (As := [.int x1, .int 1]) (rest := [.ref (ad 1)]) ⟨hx, hb, hml, hown, hts⟩ (c_X8_at l x1 1) (cwS 2 hts gX8_may_X8_at rfl rfl rfl (by decide +kernel) ⟨Nat.le_of_ble_eq_true rfl, Nat.le_of_ble_eq_true rfl⟩) ex_preP rfl rfl hl.1 rfl (lv_room (Nat.le_of_ble_eq_true rfl)) dX8_may_60 ⟨Nat.le_of_ble_eq_true rfl, Nat.le_of_ble_eq_true rfl⟩) (fun r_25 H locs hw_25 hP hS => ?_)
        have tr_25 : r_25.toInt = 32 + 7 * x1.toInt + (1 : Int32).toInt := t_at hw_25 ⟨by omega, by omega⟩ ⟨by omega, by omega⟩
        have nr_25 : r_25.toNatClampNeg = 33 + 7 * x1.toNatClampNeg := by have z1 := t_nn (x := r_25) (by omega); omega
        refine va_iald hx hb hK hP (1) 0 (wm_at (by decide) rc_1) rfl (vp_in_iff.mpr ⟨by omega, by omega⟩) dX8_may_63 ?_
        refine lv_topi (fun x_26 ex_26 => ?_)
        have bzx_26 : 0 ≤ x_26.toInt ∧ x_26.toInt ≤ 7 := by rw [ex_26]; exact hv 1 _ 7 (bx_0 (i := x1.toInt) (s := 1) (by omega) ⟨by omega, by omega⟩ ⟨by omega, by omega⟩)
        rw [nr_25] at ex_26
        obtain rfl : pb = x_26 := (ex_26.trans epb.symm).symm
        refine lv_istore (lv' := [(8, .int pb), (7, .int 1), (6, .int 1), (5, .int x_11), (4, .int mB), (3, .int mA), (0, .ref (ad 0)), (1, .int x0), (2, .int x1)]) hx hb dX8_may_64 hl (by decide) rfl (fun ls hl => ?_)
        refine lv_iload hx hb dX8_may_66 (lv_at hl 2 rfl) ?_
        refine lv_if_eq (tgt := 118) hx hb dX8_may_68 (by decide) (fun c9 => absurd c9 (by decide)) (fun _ => ?_)
        refine lv_iload hx hb dX8_may_71 (lv_at hl 3 rfl) ?_
        refine lv_aload_n hx hb dX8_may_73 rfl (lv_at hl 6 rfl) ?_
        refine va_get (D := (dC, dI)) (ci := 8) (v := .ref (ad 1)) (C := RX8) (T := TX8) (N := 11) hx hb hts (by decide +kernel) hown hK hP (0) (wm_at (by decide) rc_0) rfl 0 (by decide) (hts (.fieldLink RX8 7 "QuietStairsModel" "s" "[I") (by decide +kernel)) (fun _ h9 => h9) rfl dX8_may_74 ?_
        refine lv_iconst (v := 4) hx hb dX8_may_77 (by decide) ?_
        refine lv_iconst (v := 2) hx hb dX8_may_78 (by decide) ?_
        refine lv_iload hx hb dX8_may_79 (lv_at hl 0 rfl) ?_
        refine lv_imul hx hb dX8_may_81 ?_
        refine lv_topi (fun x_27 ex_27 => ?_)
        have tx_27 : x_27.toInt = 2 * pb.toInt := by rw [ex_27, t_mul (by rw [k_2]; omega), k_2]
        refine lv_iadd hx hb dX8_may_82 ?_
        refine lv_topi (fun x_28 ex_28 => ?_)
        have tx_28 : x_28.toInt = (4 : Int32).toInt + x_27.toInt := by rw [ex_28]; exact t_add ⟨by omega, by omega⟩
        refine lv_iconst (v := 1) hx hb dX8_may_83 (by decide) ?_
        refine lv_iadd hx hb dX8_may_84 ?_
        refine lv_topi (fun x_29 ex_29 => ?_)
        have tx_29 : x_29.toInt = x_28.toInt + (1 : Int32).toInt := by rw [ex_29]; exact t_add ⟨by omega, by omega⟩
        have nx_29 : x_29.toNatClampNeg = 5 + 2 * pb.toNatClampNeg := by have z1 := t_nn (x := x_29) (by omega); omega
        refine va_iald hx hb hK hP (1) 0 (wm_at (by decide) rc_1) rfl (vp_in_iff.mpr ⟨by omega, by omega⟩) dX8_may_85 ?_
        refine lv_topi (fun x_30 ex_30 => ?_)
        rw [nx_29] at ex_30
        obtain rfl : gb = x_30 := (ex_30.trans egb.symm).symm
        refine lv_ishr hx hb dX8_may_86 ?_
        refine lv_topi (fun x_31 ex_31 => ?_)
        refine lv_iconst (v := 1) hx hb dX8_may_87 (by decide) ?_
        refine lv_iand hx hb dX8_may_88 ?_
        refine lv_topi (fun x_32 ex_32 => ?_)
        have qx_32 : x_32.toInt = (btx x_11 gb).toInt := by unfold btx; rw [ex_32, ex_31, ex_11]
        refine lv_iconst (v := 1) hx hb dX8_may_89 (by decide) ?_
        refine lv_icmp_ne (tgt := 118) hx hb dX8_may_90 (by decide) (fun c_33 => ?_) (fun c_33 => ?_)
        · have tc_33 : x_32.toInt ≠ (1 : Int32).toInt := fun q => absurd (Int32.toInt_inj.mp q) c_33
          refine lv_iconst (v := 0) hx hb dX8_may_118 (by decide) ?_
          refine lv_istore (lv' := [(6, .int 0), (8, .int pb), (7, .int 1), (5, .int x_11), (4, .int mB), (3, .int mA), (0, .ref (ad 0)), (1, .int x0), (2, .int x1)]) hx hb dX8_may_119 hl (by decide) rfl (fun ls hl => ?_)
          refine lv_iinc (v := 2) (lv' := [(7, .int 2), (6, .int 0), (8, .int pb), (5, .int x_11), (4, .int mB), (3, .int mA), (0, .ref (ad 0)), (1, .int x0), (2, .int x1)]) hx hb dX8_may_121 hl (k := 2) rfl (by decide) (by decide) rfl (fun ls hl => ?_)
          refine lv_goto (tgt := 47) hx hb dX8_may_124 (by decide) ?_
          refine lv_iload hx hb dX8_may_47 (lv_at hl 0 rfl) ?_
          refine lv_iconst (v := 2) hx hb dX8_may_49 (by decide) ?_
          refine lv_icmp_ge (tgt := 127) hx hb dX8_may_50 (by decide) (fun _ => ?_) (fun c9 => absurd c9 (by decide))
          refine lv_iload hx hb dX8_may_127 (lv_at hl 1 rfl) ?_
          exact W.zret (ty := .boolean) (v := 0) hx hb hr rfl (fun t ht hW => ⟨⟨0, v, rfl, ⟨hv, rfl, by rw [← epa, ← epb, ← etl, ← etb, ← ega, ← egb]; unfold fit oks; rw [← ex_11]; exact Or.inr ⟨rfl, fun ⟨⟨a1, a2, a3⟩, b1, b2, b3⟩ => by first | omega | exact a2 hn_22 | exact a3 hn_22 | exact b2 hn_22 | exact b3 hn_22 | exact a2 hn_24 | exact a3 hn_24 | exact b2 hn_24 | exact b3 hn_24⟩⟩, by rw [ht]; exact hP, hD⟩, hS.F ht⟩) hS.2.2 dX8_may_129
        · have tc_33 : x_32.toInt = (1 : Int32).toInt := by rw [c_33]
          refine lv_aload_n hx hb dX8_may_93 rfl (lv_at hl 6 rfl) ?_
          refine lv_iload_n hx hb dX8_may_94 rfl (lv_at hl 5 rfl) ?_
          refine lv_iload hx hb dX8_may_95 (lv_at hl 0 rfl) ?_
          refine yw_i (w1 := fun (u : Nat → Nat → Int32) => wm ad cy u) hD hS hA (va_runV (As := [.int mA, .int pb]) (rest := []) ⟨hx, hb, hml, hown, hts⟩ (e_X8_mayMeet l dC dI cy _ ad v hv mA pb ⟨by omega, by omega⟩ ⟨by omega, by omega⟩) (cwV 2 hts gX8_may_X8_mayMeet rfl rfl rfl (by decide +kernel) ⟨Nat.le_of_ble_eq_true rfl, Nat.le_of_ble_eq_true rfl⟩) (yw_preV hE hK hP hD (ci := 8) (q0 := 0) rfl (wm_at (by decide) rc_0)) rfl rfl hl.1 rfl (lv_room (Nat.le_of_ble_eq_true rfl)) dX8_may_97 ⟨Nat.le_of_ble_eq_true rfl, Nat.le_of_ble_eq_true rfl⟩) (fun r_34 v_34 H locs hw_34 hP hD hS => ?_)
          obtain ⟨-, hu_34, hw_34⟩ := hw_34
          replace hu_34 := hu_34.symm
          subst hu_34
          rcases hw_34 with ⟨rfl, hn_35⟩ | ⟨rfl, hn_35⟩
          · refine lv_if_eq (tgt := 118) hx hb dX8_may_100 (by decide) (fun c9 => absurd c9 (by decide)) (fun _ => ?_)
            refine lv_aload_n hx hb dX8_may_103 rfl (lv_at hl 6 rfl) ?_
            refine lv_iload hx hb dX8_may_104 (lv_at hl 4 rfl) ?_
            refine lv_iload hx hb dX8_may_106 (lv_at hl 0 rfl) ?_
            refine yw_i (w1 := fun (u : Nat → Nat → Int32) => wm ad cy u) hD hS hA (va_runV (As := [.int mB, .int pb]) (rest := []) ⟨hx, hb, hml, hown, hts⟩ (e_X8_mayMeet l dC dI cy _ ad v hv mB pb ⟨by omega, by omega⟩ ⟨by omega, by omega⟩) (cwV 2 hts gX8_may_X8_mayMeet rfl rfl rfl (by decide +kernel) ⟨Nat.le_of_ble_eq_true rfl, Nat.le_of_ble_eq_true rfl⟩) (yw_preV hE hK hP hD (ci := 8) (q0 := 0) rfl (wm_at (by decide) rc_0)) rfl rfl hl.1 rfl (lv_room (Nat.le_of_ble_eq_true rfl)) dX8_may_108 ⟨Nat.le_of_ble_eq_true rfl, Nat.le_of_ble_eq_true rfl⟩) (fun r_36 v_36 H locs hw_36 hP hD hS => ?_)
            obtain ⟨-, hu_36, hw_36⟩ := hw_36
            replace hu_36 := hu_36.symm
            subst hu_36
            rcases hw_36 with ⟨rfl, hn_37⟩ | ⟨rfl, hn_37⟩
            · refine lv_if_eq (tgt := 118) hx hb dX8_may_111 (by decide) (fun c9 => absurd c9 (by decide)) (fun _ => ?_)
              refine lv_iconst (v := 1) hx hb dX8_may_114 (by decide) ?_
              refine lv_goto (tgt := 119) hx hb dX8_may_115 (by decide) ?_
              refine lv_istore (lv' := [(6, .int 1), (8, .int pb), (7, .int 1), (5, .int x_11), (4, .int mB), (3, .int mA), (0, .ref (ad 0)), (1, .int x0), (2, .int x1)]) hx hb dX8_may_119 hl (by decide) rfl (fun ls hl => ?_)
              refine lv_iinc (v := 2) (lv' := [(7, .int 2), (6, .int 1), (8, .int pb), (5, .int x_11), (4, .int mB), (3, .int mA), (0, .ref (ad 0)), (1, .int x0), (2, .int x1)]) hx hb dX8_may_121 hl (k := 2) rfl (by decide) (by decide) rfl (fun ls hl => ?_)
              refine lv_goto (tgt := 47) hx hb dX8_may_124 (by decide) ?_
              refine lv_iload hx hb dX8_may_47 (lv_at hl 0 rfl) ?_
              refine lv_iconst (v := 2) hx hb dX8_may_49 (by decide) ?_
              refine lv_icmp_ge (tgt := 127) hx hb dX8_may_50 (by decide) (fun _ => ?_) (fun c9 => absurd c9 (by decide))
              refine lv_iload hx hb dX8_may_127 (lv_at hl 1 rfl) ?_
              exact W.zret (ty := .boolean) (v := 1) hx hb hr rfl (fun t ht hW => ⟨⟨1, v, rfl, ⟨hv, rfl, by rw [← epa, ← epb, ← etl, ← etb, ← ega, ← egb]; unfold fit oks; rw [← ex_11]; exact Or.inl ⟨rfl, ⟨by omega, hn_22, hn_24⟩, by omega, hn_35, hn_37⟩⟩, by rw [ht]; exact hP, hD⟩, hS.F ht⟩) hS.2.2 dX8_may_129
            · refine lv_if_eq (tgt := 118) hx hb dX8_may_111 (by decide) (fun _ => ?_) (fun c9 => absurd c9 (by decide))
              refine lv_iconst (v := 0) hx hb dX8_may_118 (by decide) ?_
              refine lv_istore (lv' := [(6, .int 0), (8, .int pb), (7, .int 1), (5, .int x_11), (4, .int mB), (3, .int mA), (0, .ref (ad 0)), (1, .int x0), (2, .int x1)]) hx hb dX8_may_119 hl (by decide) rfl (fun ls hl => ?_)
              refine lv_iinc (v := 2) (lv' := [(7, .int 2), (6, .int 0), (8, .int pb), (5, .int x_11), (4, .int mB), (3, .int mA), (0, .ref (ad 0)), (1, .int x0), (2, .int x1)]) hx hb dX8_may_121 hl (k := 2) rfl (by decide) (by decide) rfl (fun ls hl => ?_)
              refine lv_goto (tgt := 47) hx hb dX8_may_124 (by decide) ?_
              refine lv_iload hx hb dX8_may_47 (lv_at hl 0 rfl) ?_
              refine lv_iconst (v := 2) hx hb dX8_may_49 (by decide) ?_
              refine lv_icmp_ge (tgt := 127) hx hb dX8_may_50 (by decide) (fun _ => ?_) (fun c9 => absurd c9 (by decide))
              refine lv_iload hx hb dX8_may_127 (lv_at hl 1 rfl) ?_
              exact W.zret (ty := .boolean) (v := 0) hx hb hr rfl (fun t ht hW => ⟨⟨0, v, rfl, ⟨hv, rfl, by rw [← epa, ← epb, ← etl, ← etb, ← ega, ← egb]; unfold fit oks; rw [← ex_11]; exact Or.inr ⟨rfl, fun ⟨⟨a1, a2, a3⟩, b1, b2, b3⟩ => by first | omega | exact a2 hn_22 | exact a3 hn_22 | exact b2 hn_22 | exact b3 hn_22 | exact a2 hn_24 | exact a3 hn_24 | exact b2 hn_24 | exact b3 hn_24 | exact a2 hn_35 | exact a3 hn_35 | exact b2 hn_35 | exact b3 hn_35 | exact a2 hn_37 | exact a3 hn_37 | exact b2 hn_37 | exact b3 hn_37⟩⟩, by rw [ht]; exact hP, hD⟩, hS.F ht⟩) hS.2.2 dX8_may_129
          · refine lv_if_eq (tgt := 118) hx hb dX8_may_100 (by decide) (fun _ => ?_) (fun c9 => absurd c9 (by decide))
            refine lv_iconst (v := 0) hx hb dX8_may_118 (by decide) ?_
            refine lv_istore (lv' := [(6, .int 0), (8, .int pb), (7, .int 1), (5, .int x_11), (4, .int mB), (3, .int mA), (0, .ref (ad 0)), (1, .int x0), (2, .int x1)]) hx hb dX8_may_119 hl (by decide) rfl (fun ls hl => ?_)
            refine lv_iinc (v := 2) (lv' := [(7, .int 2), (6, .int 0), (8, .int pb), (5, .int x_11), (4, .int mB), (3, .int mA), (0, .ref (ad 0)), (1, .int x0), (2, .int x1)]) hx hb dX8_may_121 hl (k := 2) rfl (by decide) (by decide) rfl (fun ls hl => ?_)
            refine lv_goto (tgt := 47) hx hb dX8_may_124 (by decide) ?_
            refine lv_iload hx hb dX8_may_47 (lv_at hl 0 rfl) ?_
            refine lv_iconst (v := 2) hx hb dX8_may_49 (by decide) ?_
            refine lv_icmp_ge (tgt := 127) hx hb dX8_may_50 (by decide) (fun _ => ?_) (fun c9 => absurd c9 (by decide))
            refine lv_iload hx hb dX8_may_127 (lv_at hl 1 rfl) ?_
            exact W.zret (ty := .boolean) (v := 0) hx hb hr rfl (fun t ht hW => ⟨⟨0, v, rfl, ⟨hv, rfl, by rw [← epa, ← epb, ← etl, ← etb, ← ega, ← egb]; unfold fit oks; rw [← ex_11]; exact Or.inr ⟨rfl, fun ⟨⟨a1, a2, a3⟩, b1, b2, b3⟩ => by first | omega | exact a2 hn_22 | exact a3 hn_22 | exact b2 hn_22 | exact b3 hn_22 | exact a2 hn_24 | exact a3 hn_24 | exact b2 hn_24 | exact b3 hn_24 | exact a2 hn_35 | exact a3 hn_35 | exact b2 hn_35 | exact b3 hn_35⟩⟩, by rw [ht]; exact hP, hD⟩, hS.F ht⟩) hS.2.2 dX8_may_129
      · refine lv_if_eq (tgt := 118) hx hb dX8_may_111 (by decide) (fun _ => ?_) (fun c9 => absurd c9 (by decide))
        refine lv_iconst (v := 0) hx hb dX8_may_118 (by decide) ?_
        refine lv_istore (lv' := [(6, .int 0), (8, .int pa), (7, .int 0), (5, .int x_11), (4, .int mB), (3, .int mA), (0, .ref (ad 0)), (1, .int x0), (2, .int x1)]) hx hb dX8_may_119 hl (by decide) rfl (fun ls hl => ?_)
        refine lv_iinc (v := 1) (lv' := [(7, .int 1), (6, .int 0), (8, .int pa), (5, .int x_11), (4, .int mB), (3, .int mA), (0, .ref (ad 0)), (1, .int x0), (2, .int x1)]) hx hb dX8_may_121 hl (k := 2) rfl (by decide) (by decide) rfl (fun ls hl => ?_)
        refine lv_goto (tgt := 47) hx hb dX8_may_124 (by decide) ?_
        refine lv_iload hx hb dX8_may_47 (lv_at hl 0 rfl) ?_
        refine lv_iconst (v := 2) hx hb dX8_may_49 (by decide) ?_
        refine lv_icmp_ge (tgt := 127) hx hb dX8_may_50 (by decide) (fun c9 => absurd c9 (by decide)) (fun _ => ?_)
        refine lv_aload_n hx hb dX8_may_53 rfl (lv_at hl 6 rfl) ?_
        refine va_get (D := (dC, dI)) (ci := 8) (v := .ref (ad 1)) (C := RX8) (T := TX8) (N := 11) hx hb hts (by decide +kernel) hown hK hP (0) (wm_at (by decide) rc_0) rfl 0 (by decide) (hts (.fieldLink RX8 7 "QuietStairsModel" "s" "[I") (by decide +kernel)) (fun _ h9 => h9) rfl dX8_may_54 ?_
        refine lv_iload_n hx hb dX8_may_57 rfl (lv_at hl 8 rfl) ?_
        refine lv_iload hx hb dX8_may_58 (lv_at hl 0 rfl) ?_
        refine yc_p hP hS (va_runS (As := [.int x1, .int 1]) (rest := [.ref (ad 1)]) ⟨hx, hb, hml, hown, hts⟩ (c_X8_at l x1 1) (cwS 2 hts gX8_may_X8_at rfl rfl rfl (by decide +kernel) ⟨Nat.le_of_ble_eq_true rfl, Nat.le_of_ble_eq_true rfl⟩) ex_preP rfl rfl hl.1 rfl (lv_room (Nat.le_of_ble_eq_true rfl)) dX8_may_60 ⟨Nat.le_of_ble_eq_true rfl, Nat.le_of_ble_eq_true rfl⟩) (fun r_25 H locs hw_25 hP hS => ?_)
        have tr_25 : r_25.toInt = 32 + 7 * x1.toInt + (1 : Int32).toInt := t_at hw_25 ⟨by omega, by omega⟩ ⟨by omega, by omega⟩
        have nr_25 : r_25.toNatClampNeg = 33 + 7 * x1.toNatClampNeg := by have z1 := t_nn (x := r_25) (by omega); omega
        refine va_iald hx hb hK hP (1) 0 (wm_at (by decide) rc_1) rfl (vp_in_iff.mpr ⟨by omega, by omega⟩) dX8_may_63 ?_
        refine lv_topi (fun x_26 ex_26 => ?_)
        have bzx_26 : 0 ≤ x_26.toInt ∧ x_26.toInt ≤ 7 := by rw [ex_26]; exact hv 1 _ 7 (bx_0 (i := x1.toInt) (s := 1) (by omega) ⟨by omega, by omega⟩ ⟨by omega, by omega⟩)
        rw [nr_25] at ex_26
        obtain rfl : pb = x_26 := (ex_26.trans epb.symm).symm
        refine lv_istore (lv' := [(8, .int pb), (7, .int 1), (6, .int 0), (5, .int x_11), (4, .int mB), (3, .int mA), (0, .ref (ad 0)), (1, .int x0), (2, .int x1)]) hx hb dX8_may_64 hl (by decide) rfl (fun ls hl => ?_)
        refine lv_iload hx hb dX8_may_66 (lv_at hl 2 rfl) ?_
        refine lv_if_eq (tgt := 118) hx hb dX8_may_68 (by decide) (fun _ => ?_) (fun c9 => absurd c9 (by decide))
        refine lv_iconst (v := 0) hx hb dX8_may_118 (by decide) ?_
        refine lv_istore (lv' := [(6, .int 0), (8, .int pb), (7, .int 1), (5, .int x_11), (4, .int mB), (3, .int mA), (0, .ref (ad 0)), (1, .int x0), (2, .int x1)]) hx hb dX8_may_119 hl (by decide) rfl (fun ls hl => ?_)
        refine lv_iinc (v := 2) (lv' := [(7, .int 2), (6, .int 0), (8, .int pb), (5, .int x_11), (4, .int mB), (3, .int mA), (0, .ref (ad 0)), (1, .int x0), (2, .int x1)]) hx hb dX8_may_121 hl (k := 2) rfl (by decide) (by decide) rfl (fun ls hl => ?_)
        refine lv_goto (tgt := 47) hx hb dX8_may_124 (by decide) ?_
        refine lv_iload hx hb dX8_may_47 (lv_at hl 0 rfl) ?_
        refine lv_iconst (v := 2) hx hb dX8_may_49 (by decide) ?_
        refine lv_icmp_ge (tgt := 127) hx hb dX8_may_50 (by decide) (fun _ => ?_) (fun c9 => absurd c9 (by decide))
        refine lv_iload hx hb dX8_may_127 (lv_at hl 1 rfl) ?_
        exact W.zret (ty := .boolean) (v := 0) hx hb hr rfl (fun t ht hW => ⟨⟨0, v, rfl, ⟨hv, rfl, by rw [← epa, ← epb, ← etl, ← etb, ← ega, ← egb]; unfold fit oks; rw [← ex_11]; exact Or.inr ⟨rfl, fun ⟨⟨a1, a2, a3⟩, b1, b2, b3⟩ => by first | omega | exact a2 hn_22 | exact a3 hn_22 | exact b2 hn_22 | exact b3 hn_22 | exact a2 hn_24 | exact a3 hn_24 | exact b2 hn_24 | exact b3 hn_24⟩⟩, by rw [ht]; exact hP, hD⟩, hS.F ht⟩) hS.2.2 dX8_may_129
    · refine lv_if_eq (tgt := 118) hx hb dX8_may_100 (by decide) (fun _ => ?_) (fun c9 => absurd c9 (by decide))
      refine lv_iconst (v := 0) hx hb dX8_may_118 (by decide) ?_
      refine lv_istore (lv' := [(6, .int 0), (8, .int pa), (7, .int 0), (5, .int x_11), (4, .int mB), (3, .int mA), (0, .ref (ad 0)), (1, .int x0), (2, .int x1)]) hx hb dX8_may_119 hl (by decide) rfl (fun ls hl => ?_)
      refine lv_iinc (v := 1) (lv' := [(7, .int 1), (6, .int 0), (8, .int pa), (5, .int x_11), (4, .int mB), (3, .int mA), (0, .ref (ad 0)), (1, .int x0), (2, .int x1)]) hx hb dX8_may_121 hl (k := 2) rfl (by decide) (by decide) rfl (fun ls hl => ?_)
      refine lv_goto (tgt := 47) hx hb dX8_may_124 (by decide) ?_
      refine lv_iload hx hb dX8_may_47 (lv_at hl 0 rfl) ?_
      refine lv_iconst (v := 2) hx hb dX8_may_49 (by decide) ?_
      refine lv_icmp_ge (tgt := 127) hx hb dX8_may_50 (by decide) (fun c9 => absurd c9 (by decide)) (fun _ => ?_)
      refine lv_aload_n hx hb dX8_may_53 rfl (lv_at hl 6 rfl) ?_
      refine va_get (D := (dC, dI)) (ci := 8) (v := .ref (ad 1)) (C := RX8) (T := TX8) (N := 11) hx hb hts (by decide +kernel) hown hK hP (0) (wm_at (by decide) rc_0) rfl 0 (by decide) (hts (.fieldLink RX8 7 "QuietStairsModel" "s" "[I") (by decide +kernel)) (fun _ h9 => h9) rfl dX8_may_54 ?_
      refine lv_iload_n hx hb dX8_may_57 rfl (lv_at hl 8 rfl) ?_
      refine lv_iload hx hb dX8_may_58 (lv_at hl 0 rfl) ?_
      refine yc_p hP hS (va_runS (As := [.int x1, .int 1]) (rest := [.ref (ad 1)]) ⟨hx, hb, hml, hown, hts⟩ (c_X8_at l x1 1) (cwS 2 hts gX8_may_X8_at rfl rfl rfl (by decide +kernel) ⟨Nat.le_of_ble_eq_true rfl, Nat.le_of_ble_eq_true rfl⟩) ex_preP rfl rfl hl.1 rfl (lv_room (Nat.le_of_ble_eq_true rfl)) dX8_may_60 ⟨Nat.le_of_ble_eq_true rfl, Nat.le_of_ble_eq_true rfl⟩) (fun r_23 H locs hw_23 hP hS => ?_)
      have tr_23 : r_23.toInt = 32 + 7 * x1.toInt + (1 : Int32).toInt := t_at hw_23 ⟨by omega, by omega⟩ ⟨by omega, by omega⟩
      have nr_23 : r_23.toNatClampNeg = 33 + 7 * x1.toNatClampNeg := by have z1 := t_nn (x := r_23) (by omega); omega
      refine va_iald hx hb hK hP (1) 0 (wm_at (by decide) rc_1) rfl (vp_in_iff.mpr ⟨by omega, by omega⟩) dX8_may_63 ?_
      refine lv_topi (fun x_24 ex_24 => ?_)
      have bzx_24 : 0 ≤ x_24.toInt ∧ x_24.toInt ≤ 7 := by rw [ex_24]; exact hv 1 _ 7 (bx_0 (i := x1.toInt) (s := 1) (by omega) ⟨by omega, by omega⟩ ⟨by omega, by omega⟩)
      rw [nr_23] at ex_24
      obtain rfl : pb = x_24 := (ex_24.trans epb.symm).symm
      refine lv_istore (lv' := [(8, .int pb), (7, .int 1), (6, .int 0), (5, .int x_11), (4, .int mB), (3, .int mA), (0, .ref (ad 0)), (1, .int x0), (2, .int x1)]) hx hb dX8_may_64 hl (by decide) rfl (fun ls hl => ?_)
      refine lv_iload hx hb dX8_may_66 (lv_at hl 2 rfl) ?_
      refine lv_if_eq (tgt := 118) hx hb dX8_may_68 (by decide) (fun _ => ?_) (fun c9 => absurd c9 (by decide))
      refine lv_iconst (v := 0) hx hb dX8_may_118 (by decide) ?_
      refine lv_istore (lv' := [(6, .int 0), (8, .int pb), (7, .int 1), (5, .int x_11), (4, .int mB), (3, .int mA), (0, .ref (ad 0)), (1, .int x0), (2, .int x1)]) hx hb dX8_may_119 hl (by decide) rfl (fun ls hl => ?_)
      refine lv_iinc (v := 2) (lv' := [(7, .int 2), (6, .int 0), (8, .int pb), (5, .int x_11), (4, .int mB), (3, .int mA), (0, .ref (ad 0)), (1, .int x0), (2, .int x1)]) hx hb dX8_may_121 hl (k := 2) rfl (by decide) (by decide) rfl (fun ls hl => ?_)
      refine lv_goto (tgt := 47) hx hb dX8_may_124 (by decide) ?_
      refine lv_iload hx hb dX8_may_47 (lv_at hl 0 rfl) ?_
      refine lv_iconst (v := 2) hx hb dX8_may_49 (by decide) ?_
      refine lv_icmp_ge (tgt := 127) hx hb dX8_may_50 (by decide) (fun _ => ?_) (fun c9 => absurd c9 (by decide))
      refine lv_iload hx hb dX8_may_127 (lv_at hl 1 rfl) ?_
      exact W.zret (ty := .boolean) (v := 0) hx hb hr rfl (fun t ht hW => ⟨⟨0, v, rfl, ⟨hv, rfl, by rw [← epa, ← epb, ← etl, ← etb, ← ega, ← egb]; unfold fit oks; rw [← ex_11]; exact Or.inr ⟨rfl, fun ⟨⟨a1, a2, a3⟩, b1, b2, b3⟩ => by first | omega | exact a2 hn_22 | exact a3 hn_22 | exact b2 hn_22 | exact b3 hn_22⟩⟩, by rw [ht]; exact hP, hD⟩, hS.F ht⟩) hS.2.2 dX8_may_129

set_option maxHeartbeats 4000000 in
set_option maxRecDepth 100000 in
theorem e_X8_maySit (l : Launch) (dC : Nat → ClassId) (dI : Nat → Nat → Nat) (cy : Nat → ClassId) (sz : Nat) (ad : Nat → Nat) (v : Nat → Nat → Int32) (hv : Ir v) (x0 x1 : Int32) : Met l yX8_maySit wsX8_maySit ({ frames := 3, cells := 0, slots := 0, locals := 192 }) (va_Pc [.ref (ad 0), .int x0, .int x1] (ex_Pre dC dI cy sz (wm ad cy v))) (va_Qi (fun (r : Int32) (u : Nat → Nat → Int32) => Ir u ∧ (¬ (((0 ≤ x0.toInt ∧ x0.toInt ≤ 5) ∧ (st_o x0.toNatClampNeg).toInt < (v 1 1).toInt) ∧ 0 ≤ x1.toInt ∧ x1.toInt < (v 1 2).toInt) → r = -1 ∧ u = v) ∧ ((((0 ≤ x0.toInt ∧ x0.toInt ≤ 5) ∧ (st_o x0.toNatClampNeg).toInt < (v 1 1).toInt) ∧ 0 ≤ x1.toInt ∧ x1.toInt < (v 1 2).toInt) ∧ fit (v 1 (21 + 2 * (st_l x0.toNatClampNeg).toNatClampNeg)) (v 1 (21 + 2 * (st_o x0.toNatClampNeg).toNatClampNeg)) (v 1 (28 + (st_l x0.toNatClampNeg).toNatClampNeg)) (v 1 (20 + 2 * (st_l x0.toNatClampNeg).toNatClampNeg)) (v 1 (28 + (st_o x0.toNatClampNeg).toNatClampNeg)) (v 1 (20 + 2 * (st_o x0.toNatClampNeg).toNatClampNeg)) (v 1 (32 + 7 * x1.toNatClampNeg)) (v 1 (5 + 2 * (v 1 (32 + 7 * x1.toNatClampNeg)).toNatClampNeg)) (v 1 (4 + 2 * (v 1 (32 + 7 * x1.toNatClampNeg)).toNatClampNeg)) (v 1 (33 + 7 * x1.toNatClampNeg)) (v 1 (5 + 2 * (v 1 (33 + 7 * x1.toNatClampNeg)).toNatClampNeg)) (v 1 (4 + 2 * (v 1 (33 + 7 * x1.toNatClampNeg)).toNatClampNeg)) → r = 1 ∧ u = v) ∧ ((((0 ≤ x0.toInt ∧ x0.toInt ≤ 5) ∧ (st_o x0.toNatClampNeg).toInt < (v 1 1).toInt) ∧ 0 ≤ x1.toInt ∧ x1.toInt < (v 1 2).toInt) ∧ ¬ fit (v 1 (21 + 2 * (st_l x0.toNatClampNeg).toNatClampNeg)) (v 1 (21 + 2 * (st_o x0.toNatClampNeg).toNatClampNeg)) (v 1 (28 + (st_l x0.toNatClampNeg).toNatClampNeg)) (v 1 (20 + 2 * (st_l x0.toNatClampNeg).toNatClampNeg)) (v 1 (28 + (st_o x0.toNatClampNeg).toNatClampNeg)) (v 1 (20 + 2 * (st_o x0.toNatClampNeg).toNatClampNeg)) (v 1 (32 + 7 * x1.toNatClampNeg)) (v 1 (5 + 2 * (v 1 (32 + 7 * x1.toNatClampNeg)).toNatClampNeg)) (v 1 (4 + 2 * (v 1 (32 + 7 * x1.toNatClampNeg)).toNatClampNeg)) (v 1 (33 + 7 * x1.toNatClampNeg)) (v 1 (5 + 2 * (v 1 (33 + 7 * x1.toNatClampNeg)).toNatClampNeg)) (v 1 (4 + 2 * (v 1 (33 + 7 * x1.toNatClampNeg)).toNatClampNeg)) → r = 0 ∧ u = v)) (fun u t => ex_Pst dC dI (va_A (wm ad cy v) sz) (wm ad cy u) t) (va_A (wm ad cy v) sz)) 0 0 (va_A (wm ad cy v) sz) := by
  refine Met.ofW (cc := cX8_maySit) (maxL := 3) (ret := (some .int)) (by decide) rfl ?_
  intro p e s m args below meth c s₁ B hml hv
  obtain ⟨rfl, hsz, hE, hP, hK, hD0⟩ := hv
  have hx := B.exec
  have hb := B.bytes
  have hr := B.returns
  have hts := atoms_spec (ws := wsX8_maySit) B.pre
  have hown : s.vm.findClass RX8 = some m.cls := findClass_of_methodNamed B.named
  have hlocks := B.notSynchronized
  subst hsz
  have hD := hD0.self (sz := s.heap.size)
  generalize hAe : va_A (wm ad cy v) s.heap.size = A at hD ⊢
  have hA : ∀ q : Nat, s.heap.size ≤ q → A q := fun q h => by rw [← hAe]; exact Or.inr h
  have hS : va_S A s.heap s.heap [] := va_S.rf
  have hP : va_P (dC, dI) vwCl (wm ad cy v) s.heap := hP
  have hl := lv_entry ([.ref (ad 0), .int x0, .int x1]) (n := 3) (Nat.le_of_ble_eq_true rfl)
  rw [lg_entry_eq]
  generalize (lg_sl ([.ref (ad 0), .int x0, .int x1]) ++ List.replicate (3 - (lg_sl ([.ref (ad 0), .int x0, .int x1])).length) Slot.unset).toArray = ls at hl ⊢
  have hl : lv_has ls 3 [(0, .ref (ad 0)), (1, .int x0), (2, .int x1)] := hl
  refine lv_aload_n hx hb dX8_maySit_0 rfl (lv_at hl 0 rfl) ?_
  refine lv_iload_n hx hb dX8_maySit_1 rfl (lv_at hl 1 rfl) ?_
  refine yw_i (w1 := fun (u : Nat → Nat → Int32) => wm ad cy u) hD hS hA (va_runV (As := [.int x0]) (rest := []) ⟨hx, hb, hml, hown, hts⟩ (q_X8_isPair l dC dI cy _ ad v hv x0) (cwV 1 hts gX8_maySit_X8_isPair rfl rfl rfl (by decide +kernel) ⟨Nat.le_of_ble_eq_true rfl, Nat.le_of_ble_eq_true rfl⟩) (yw_preV hE hK hP hD (ci := 8) (q0 := 0) rfl (wm_at (by decide) rc_0)) rfl rfl hl.1 rfl (lv_room (Nat.le_of_ble_eq_true rfl)) dX8_maySit_2 ⟨Nat.le_of_ble_eq_true rfl, Nat.le_of_ble_eq_true rfl⟩) (fun r_1 v_1 H locs hw_1 hP hD hS => ?_)
  obtain ⟨-, hu_1, hw_1⟩ := hw_1
  replace hu_1 := hu_1.symm
  subst hu_1
  rcases hw_1 with ⟨rfl, ha_2⟩ | ⟨rfl, ha_2⟩
  · have hs_2 : 0 ≤ x0.toInt ∧ x0.toInt ≤ 5 → (st_o x0.toNatClampNeg).toInt = pt x0.toInt := fun q => (st_pt q).1
    have hb_2 := ha_2.1
    replace hs_2 := hs_2 ha_2.1
    refine lv_if_eq (tgt := 16) hx hb dX8_maySit_5 (by decide) (fun c9 => absurd c9 (by decide)) (fun _ => ?_)
    refine lv_aload_n hx hb dX8_maySit_8 rfl (lv_at hl 0 rfl) ?_
    refine lv_iload_n hx hb dX8_maySit_9 rfl (lv_at hl 2 rfl) ?_
    refine yw_i (w1 := fun (u : Nat → Nat → Int32) => wm ad cy u) hD hS hA (va_runV (As := [.int x1]) (rest := []) ⟨hx, hb, hml, hown, hts⟩ (q_X8_isCase l dC dI cy _ ad v hv x1) (cwV 1 hts gX8_maySit_X8_isCase rfl rfl rfl (by decide +kernel) ⟨Nat.le_of_ble_eq_true rfl, Nat.le_of_ble_eq_true rfl⟩) (yw_preV hE hK hP hD (ci := 8) (q0 := 0) rfl (wm_at (by decide) rc_0)) rfl rfl hl.1 rfl (lv_room (Nat.le_of_ble_eq_true rfl)) dX8_maySit_10 ⟨Nat.le_of_ble_eq_true rfl, Nat.le_of_ble_eq_true rfl⟩) (fun r_3 v_3 H locs hw_3 hP hD hS => ?_)
    obtain ⟨-, hu_3, hw_3⟩ := hw_3
    replace hu_3 := hu_3.symm
    subst hu_3
    rcases hw_3 with ⟨rfl, ha_4⟩ | ⟨rfl, ha_4⟩
    · have hb_4 := hv 1 2 6 (by decide)
      have hj_4 : 0 ≤ x1.toInt ∧ x1.toInt ≤ 5 := ⟨by omega, by omega⟩
      refine lv_if_ne (tgt := 18) hx hb dX8_maySit_13 (by decide) (fun _ => ?_) (fun c9 => absurd c9 (by decide))
      refine lv_aload_n hx hb dX8_maySit_18 rfl (lv_at hl 0 rfl) ?_
      refine lv_iload_n hx hb dX8_maySit_19 rfl (lv_at hl 1 rfl) ?_
      refine lv_iload_n hx hb dX8_maySit_20 rfl (lv_at hl 2 rfl) ?_
      refine yw_i (w1 := fun (u : Nat → Nat → Int32) => wm ad cy u) hD hS hA (va_runV (As := [.int x0, .int x1]) (rest := []) ⟨hx, hb, hml, hown, hts⟩ (e_X8_may l dC dI cy _ ad v hv x0 x1 (st_l x0.toNatClampNeg) (st_o x0.toNatClampNeg) ⟨by omega, by omega⟩ ⟨by omega, by omega⟩ (st_pt ⟨by omega, by omega⟩).2 (st_pt ⟨by omega, by omega⟩).1) (cwV 2 hts gX8_maySit_X8_may rfl rfl rfl (by decide +kernel) ⟨Nat.le_of_ble_eq_true rfl, Nat.le_of_ble_eq_true rfl⟩) (yw_preV hE hK hP hD (ci := 8) (q0 := 0) rfl (wm_at (by decide) rc_0)) rfl rfl hl.1 rfl (lv_room (Nat.le_of_ble_eq_true rfl)) dX8_maySit_21 ⟨Nat.le_of_ble_eq_true rfl, Nat.le_of_ble_eq_true rfl⟩) (fun r_5 v_5 H locs hw_5 hP hD hS => ?_)
      obtain ⟨-, hu_5, hw_5⟩ := hw_5
      replace hu_5 := hu_5.symm
      subst hu_5
      rcases hw_5 with ⟨rfl, hf_6⟩ | ⟨rfl, hf_6⟩
      · refine lv_if_eq (tgt := 31) hx hb dX8_maySit_24 (by decide) (fun c9 => absurd c9 (by decide)) (fun _ => ?_)
        refine lv_iconst (v := 1) hx hb dX8_maySit_27 (by decide) ?_
        refine lv_goto (tgt := 32) hx hb dX8_maySit_28 (by decide) ?_
        have hpost : (¬ (((0 ≤ x0.toInt ∧ x0.toInt ≤ 5) ∧ (st_o x0.toNatClampNeg).toInt < (v 1 1).toInt) ∧ 0 ≤ x1.toInt ∧ x1.toInt < (v 1 2).toInt) → (1 : Int32) = -1 ∧ v = v) ∧ ((((0 ≤ x0.toInt ∧ x0.toInt ≤ 5) ∧ (st_o x0.toNatClampNeg).toInt < (v 1 1).toInt) ∧ 0 ≤ x1.toInt ∧ x1.toInt < (v 1 2).toInt) ∧ fit (v 1 (21 + 2 * (st_l x0.toNatClampNeg).toNatClampNeg)) (v 1 (21 + 2 * (st_o x0.toNatClampNeg).toNatClampNeg)) (v 1 (28 + (st_l x0.toNatClampNeg).toNatClampNeg)) (v 1 (20 + 2 * (st_l x0.toNatClampNeg).toNatClampNeg)) (v 1 (28 + (st_o x0.toNatClampNeg).toNatClampNeg)) (v 1 (20 + 2 * (st_o x0.toNatClampNeg).toNatClampNeg)) (v 1 (32 + 7 * x1.toNatClampNeg)) (v 1 (5 + 2 * (v 1 (32 + 7 * x1.toNatClampNeg)).toNatClampNeg)) (v 1 (4 + 2 * (v 1 (32 + 7 * x1.toNatClampNeg)).toNatClampNeg)) (v 1 (33 + 7 * x1.toNatClampNeg)) (v 1 (5 + 2 * (v 1 (33 + 7 * x1.toNatClampNeg)).toNatClampNeg)) (v 1 (4 + 2 * (v 1 (33 + 7 * x1.toNatClampNeg)).toNatClampNeg)) → (1 : Int32) = 1 ∧ v = v) ∧ ((((0 ≤ x0.toInt ∧ x0.toInt ≤ 5) ∧ (st_o x0.toNatClampNeg).toInt < (v 1 1).toInt) ∧ 0 ≤ x1.toInt ∧ x1.toInt < (v 1 2).toInt) ∧ ¬ fit (v 1 (21 + 2 * (st_l x0.toNatClampNeg).toNatClampNeg)) (v 1 (21 + 2 * (st_o x0.toNatClampNeg).toNatClampNeg)) (v 1 (28 + (st_l x0.toNatClampNeg).toNatClampNeg)) (v 1 (20 + 2 * (st_l x0.toNatClampNeg).toNatClampNeg)) (v 1 (28 + (st_o x0.toNatClampNeg).toNatClampNeg)) (v 1 (20 + 2 * (st_o x0.toNatClampNeg).toNatClampNeg)) (v 1 (32 + 7 * x1.toNatClampNeg)) (v 1 (5 + 2 * (v 1 (32 + 7 * x1.toNatClampNeg)).toNatClampNeg)) (v 1 (4 + 2 * (v 1 (32 + 7 * x1.toNatClampNeg)).toNatClampNeg)) (v 1 (33 + 7 * x1.toNatClampNeg)) (v 1 (5 + 2 * (v 1 (33 + 7 * x1.toNatClampNeg)).toNatClampNeg)) (v 1 (4 + 2 * (v 1 (33 + 7 * x1.toNatClampNeg)).toNatClampNeg)) → (1 : Int32) = 0 ∧ v = v) := by
          refine ⟨fun hq => ?_, fun hq => ?_, fun hq => ?_⟩
          · exfalso; omega
          · exact ⟨rfl, rfl⟩
          · exact absurd hf_6 hq.2
        exact W.iret (v := 1) hx hb hr (fun t ht hW => ⟨⟨1, v, rfl, ⟨hv, hpost⟩, by rw [ht]; exact hP, hD⟩, hS.F ht⟩) hS.2.2 dX8_maySit_32
      · refine lv_if_eq (tgt := 31) hx hb dX8_maySit_24 (by decide) (fun _ => ?_) (fun c9 => absurd c9 (by decide))
        refine lv_iconst (v := 0) hx hb dX8_maySit_31 (by decide) ?_
        have hpost : (¬ (((0 ≤ x0.toInt ∧ x0.toInt ≤ 5) ∧ (st_o x0.toNatClampNeg).toInt < (v 1 1).toInt) ∧ 0 ≤ x1.toInt ∧ x1.toInt < (v 1 2).toInt) → (0 : Int32) = -1 ∧ v = v) ∧ ((((0 ≤ x0.toInt ∧ x0.toInt ≤ 5) ∧ (st_o x0.toNatClampNeg).toInt < (v 1 1).toInt) ∧ 0 ≤ x1.toInt ∧ x1.toInt < (v 1 2).toInt) ∧ fit (v 1 (21 + 2 * (st_l x0.toNatClampNeg).toNatClampNeg)) (v 1 (21 + 2 * (st_o x0.toNatClampNeg).toNatClampNeg)) (v 1 (28 + (st_l x0.toNatClampNeg).toNatClampNeg)) (v 1 (20 + 2 * (st_l x0.toNatClampNeg).toNatClampNeg)) (v 1 (28 + (st_o x0.toNatClampNeg).toNatClampNeg)) (v 1 (20 + 2 * (st_o x0.toNatClampNeg).toNatClampNeg)) (v 1 (32 + 7 * x1.toNatClampNeg)) (v 1 (5 + 2 * (v 1 (32 + 7 * x1.toNatClampNeg)).toNatClampNeg)) (v 1 (4 + 2 * (v 1 (32 + 7 * x1.toNatClampNeg)).toNatClampNeg)) (v 1 (33 + 7 * x1.toNatClampNeg)) (v 1 (5 + 2 * (v 1 (33 + 7 * x1.toNatClampNeg)).toNatClampNeg)) (v 1 (4 + 2 * (v 1 (33 + 7 * x1.toNatClampNeg)).toNatClampNeg)) → (0 : Int32) = 1 ∧ v = v) ∧ ((((0 ≤ x0.toInt ∧ x0.toInt ≤ 5) ∧ (st_o x0.toNatClampNeg).toInt < (v 1 1).toInt) ∧ 0 ≤ x1.toInt ∧ x1.toInt < (v 1 2).toInt) ∧ ¬ fit (v 1 (21 + 2 * (st_l x0.toNatClampNeg).toNatClampNeg)) (v 1 (21 + 2 * (st_o x0.toNatClampNeg).toNatClampNeg)) (v 1 (28 + (st_l x0.toNatClampNeg).toNatClampNeg)) (v 1 (20 + 2 * (st_l x0.toNatClampNeg).toNatClampNeg)) (v 1 (28 + (st_o x0.toNatClampNeg).toNatClampNeg)) (v 1 (20 + 2 * (st_o x0.toNatClampNeg).toNatClampNeg)) (v 1 (32 + 7 * x1.toNatClampNeg)) (v 1 (5 + 2 * (v 1 (32 + 7 * x1.toNatClampNeg)).toNatClampNeg)) (v 1 (4 + 2 * (v 1 (32 + 7 * x1.toNatClampNeg)).toNatClampNeg)) (v 1 (33 + 7 * x1.toNatClampNeg)) (v 1 (5 + 2 * (v 1 (33 + 7 * x1.toNatClampNeg)).toNatClampNeg)) (v 1 (4 + 2 * (v 1 (33 + 7 * x1.toNatClampNeg)).toNatClampNeg)) → (0 : Int32) = 0 ∧ v = v) := by
          refine ⟨fun hq => ?_, fun hq => ?_, fun hq => ?_⟩
          · exfalso; omega
          · exact absurd hq.2 hf_6
          · exact ⟨rfl, rfl⟩
        exact W.iret (v := 0) hx hb hr (fun t ht hW => ⟨⟨0, v, rfl, ⟨hv, hpost⟩, by rw [ht]; exact hP, hD⟩, hS.F ht⟩) hS.2.2 dX8_maySit_32
    · refine lv_if_ne (tgt := 18) hx hb dX8_maySit_13 (by decide) (fun c9 => absurd c9 (by decide)) (fun _ => ?_)
      refine lv_iconst (v := (-1)) hx hb dX8_maySit_16 (by decide) ?_
      have hpost : (¬ (((0 ≤ x0.toInt ∧ x0.toInt ≤ 5) ∧ (st_o x0.toNatClampNeg).toInt < (v 1 1).toInt) ∧ 0 ≤ x1.toInt ∧ x1.toInt < (v 1 2).toInt) → ((-1) : Int32) = -1 ∧ v = v) ∧ ((((0 ≤ x0.toInt ∧ x0.toInt ≤ 5) ∧ (st_o x0.toNatClampNeg).toInt < (v 1 1).toInt) ∧ 0 ≤ x1.toInt ∧ x1.toInt < (v 1 2).toInt) ∧ fit (v 1 (21 + 2 * (st_l x0.toNatClampNeg).toNatClampNeg)) (v 1 (21 + 2 * (st_o x0.toNatClampNeg).toNatClampNeg)) (v 1 (28 + (st_l x0.toNatClampNeg).toNatClampNeg)) (v 1 (20 + 2 * (st_l x0.toNatClampNeg).toNatClampNeg)) (v 1 (28 + (st_o x0.toNatClampNeg).toNatClampNeg)) (v 1 (20 + 2 * (st_o x0.toNatClampNeg).toNatClampNeg)) (v 1 (32 + 7 * x1.toNatClampNeg)) (v 1 (5 + 2 * (v 1 (32 + 7 * x1.toNatClampNeg)).toNatClampNeg)) (v 1 (4 + 2 * (v 1 (32 + 7 * x1.toNatClampNeg)).toNatClampNeg)) (v 1 (33 + 7 * x1.toNatClampNeg)) (v 1 (5 + 2 * (v 1 (33 + 7 * x1.toNatClampNeg)).toNatClampNeg)) (v 1 (4 + 2 * (v 1 (33 + 7 * x1.toNatClampNeg)).toNatClampNeg)) → ((-1) : Int32) = 1 ∧ v = v) ∧ ((((0 ≤ x0.toInt ∧ x0.toInt ≤ 5) ∧ (st_o x0.toNatClampNeg).toInt < (v 1 1).toInt) ∧ 0 ≤ x1.toInt ∧ x1.toInt < (v 1 2).toInt) ∧ ¬ fit (v 1 (21 + 2 * (st_l x0.toNatClampNeg).toNatClampNeg)) (v 1 (21 + 2 * (st_o x0.toNatClampNeg).toNatClampNeg)) (v 1 (28 + (st_l x0.toNatClampNeg).toNatClampNeg)) (v 1 (20 + 2 * (st_l x0.toNatClampNeg).toNatClampNeg)) (v 1 (28 + (st_o x0.toNatClampNeg).toNatClampNeg)) (v 1 (20 + 2 * (st_o x0.toNatClampNeg).toNatClampNeg)) (v 1 (32 + 7 * x1.toNatClampNeg)) (v 1 (5 + 2 * (v 1 (32 + 7 * x1.toNatClampNeg)).toNatClampNeg)) (v 1 (4 + 2 * (v 1 (32 + 7 * x1.toNatClampNeg)).toNatClampNeg)) (v 1 (33 + 7 * x1.toNatClampNeg)) (v 1 (5 + 2 * (v 1 (33 + 7 * x1.toNatClampNeg)).toNatClampNeg)) (v 1 (4 + 2 * (v 1 (33 + 7 * x1.toNatClampNeg)).toNatClampNeg)) → ((-1) : Int32) = 0 ∧ v = v) := by
        refine ⟨fun hq => ?_, fun hq => ?_, fun hq => ?_⟩
        · exact ⟨rfl, rfl⟩
        · exact absurd hq.1 (by omega)
        · exact absurd hq.1 (by omega)
      exact W.iret (v := (-1)) hx hb hr (fun t ht hW => ⟨⟨(-1), v, rfl, ⟨hv, hpost⟩, by rw [ht]; exact hP, hD⟩, hS.F ht⟩) hS.2.2 dX8_maySit_17
  · have hs_2 : 0 ≤ x0.toInt ∧ x0.toInt ≤ 5 → (st_o x0.toNatClampNeg).toInt = pt x0.toInt := fun q => (st_pt q).1
    replace ha_2 : ¬ ((0 ≤ x0.toInt ∧ x0.toInt ≤ 5) ∧ (st_o x0.toNatClampNeg).toInt < (v 1 1).toInt) := fun q => ha_2 ⟨q.1, by rw [← hs_2 q.1]; exact q.2⟩
    clear hs_2
    refine lv_if_eq (tgt := 16) hx hb dX8_maySit_5 (by decide) (fun _ => ?_) (fun c9 => absurd c9 (by decide))
    refine lv_iconst (v := (-1)) hx hb dX8_maySit_16 (by decide) ?_
    have hpost : (¬ (((0 ≤ x0.toInt ∧ x0.toInt ≤ 5) ∧ (st_o x0.toNatClampNeg).toInt < (v 1 1).toInt) ∧ 0 ≤ x1.toInt ∧ x1.toInt < (v 1 2).toInt) → ((-1) : Int32) = -1 ∧ v = v) ∧ ((((0 ≤ x0.toInt ∧ x0.toInt ≤ 5) ∧ (st_o x0.toNatClampNeg).toInt < (v 1 1).toInt) ∧ 0 ≤ x1.toInt ∧ x1.toInt < (v 1 2).toInt) ∧ fit (v 1 (21 + 2 * (st_l x0.toNatClampNeg).toNatClampNeg)) (v 1 (21 + 2 * (st_o x0.toNatClampNeg).toNatClampNeg)) (v 1 (28 + (st_l x0.toNatClampNeg).toNatClampNeg)) (v 1 (20 + 2 * (st_l x0.toNatClampNeg).toNatClampNeg)) (v 1 (28 + (st_o x0.toNatClampNeg).toNatClampNeg)) (v 1 (20 + 2 * (st_o x0.toNatClampNeg).toNatClampNeg)) (v 1 (32 + 7 * x1.toNatClampNeg)) (v 1 (5 + 2 * (v 1 (32 + 7 * x1.toNatClampNeg)).toNatClampNeg)) (v 1 (4 + 2 * (v 1 (32 + 7 * x1.toNatClampNeg)).toNatClampNeg)) (v 1 (33 + 7 * x1.toNatClampNeg)) (v 1 (5 + 2 * (v 1 (33 + 7 * x1.toNatClampNeg)).toNatClampNeg)) (v 1 (4 + 2 * (v 1 (33 + 7 * x1.toNatClampNeg)).toNatClampNeg)) → ((-1) : Int32) = 1 ∧ v = v) ∧ ((((0 ≤ x0.toInt ∧ x0.toInt ≤ 5) ∧ (st_o x0.toNatClampNeg).toInt < (v 1 1).toInt) ∧ 0 ≤ x1.toInt ∧ x1.toInt < (v 1 2).toInt) ∧ ¬ fit (v 1 (21 + 2 * (st_l x0.toNatClampNeg).toNatClampNeg)) (v 1 (21 + 2 * (st_o x0.toNatClampNeg).toNatClampNeg)) (v 1 (28 + (st_l x0.toNatClampNeg).toNatClampNeg)) (v 1 (20 + 2 * (st_l x0.toNatClampNeg).toNatClampNeg)) (v 1 (28 + (st_o x0.toNatClampNeg).toNatClampNeg)) (v 1 (20 + 2 * (st_o x0.toNatClampNeg).toNatClampNeg)) (v 1 (32 + 7 * x1.toNatClampNeg)) (v 1 (5 + 2 * (v 1 (32 + 7 * x1.toNatClampNeg)).toNatClampNeg)) (v 1 (4 + 2 * (v 1 (32 + 7 * x1.toNatClampNeg)).toNatClampNeg)) (v 1 (33 + 7 * x1.toNatClampNeg)) (v 1 (5 + 2 * (v 1 (33 + 7 * x1.toNatClampNeg)).toNatClampNeg)) (v 1 (4 + 2 * (v 1 (33 + 7 * x1.toNatClampNeg)).toNatClampNeg)) → ((-1) : Int32) = 0 ∧ v = v) := by
      refine ⟨fun hq => ?_, fun hq => ?_, fun hq => ?_⟩
      · exact ⟨rfl, rfl⟩
      · exact absurd hq.1 (by omega)
      · exact absurd hq.1 (by omega)
    exact W.iret (v := (-1)) hx hb hr (fun t ht hW => ⟨⟨(-1), v, rfl, ⟨hv, hpost⟩, by rw [ht]; exact hP, hD⟩, hS.F ht⟩) hS.2.2 dX8_maySit_17

/-- the same seats may be on both sides -/
theorem fit_rel {v : Nat → Nat → Int32} {s : Nat → Int32} (h : RLk 13 v s) (hb1 : (s 1).toInt ≤ 4) (hb0 : (s 0).toInt ≤ 8) {c A B : Nat} (hc : c < 6) (ha : (c : Int) < (s 2).toInt) (hO : OP s c) (hA : (A : Int) < (s 1).toInt) (hB : (B : Int) < (s 1).toInt) : fit (v (25 + A) 1) (v (25 + B) 1) (v (25 + A) 2) (v (25 + A) 0) (v (25 + B) 2) (v (25 + B) 0) (v (30 + 15 * c) 0) (v (17 + (v (30 + 15 * c) 0).toNatClampNeg) 1) (v (17 + (v (30 + 15 * c) 0).toNatClampNeg) 0) (v (30 + 15 * c) 1) (v (17 + (v (30 + 15 * c) 1).toNatClampNeg) 1) (v (17 + (v (30 + 15 * c) 1).toNatClampNeg) 0) ↔ fit (s (21 + 2 * A)) (s (21 + 2 * B)) (s (28 + A)) (s (20 + 2 * A)) (s (28 + B)) (s (20 + 2 * B)) (s (32 + 7 * c)) (s (5 + 2 * (s (32 + 7 * c)).toNatClampNeg)) (s (4 + 2 * (s (32 + 7 * c)).toNatClampNeg)) (s (33 + 7 * c)) (s (5 + 2 * (s (33 + 7 * c)).toNatClampNeg)) (s (4 + 2 * (s (33 + 7 * c)).toNatClampNeg)) := by
  have m : ∀ M : Nat, (M : Int) < (s 1).toInt → v (25 + M) 0 = s (20 + 2 * M) ∧ v (25 + M) 1 = s (21 + 2 * M) ∧ v (25 + M) 2 = s (28 + M) := fun M hM => ⟨h _ _ _ (lk_m (j := 0) (by omega) hM (by decide)), (h _ _ _ (lk_m (j := 1) (by omega) hM (by decide))).trans (congrArg s (by omega)), h _ _ _ (lk_k_ (by omega) hM)⟩
  have p : ∀ P : Int32, 0 ≤ P.toInt → P.toInt < (s 0).toInt → v (17 + P.toNatClampNeg) 0 = s (4 + 2 * P.toNatClampNeg) ∧ v (17 + P.toNatClampNeg) 1 = s (5 + 2 * P.toNatClampNeg) := fun P h1 h2 => by
    have z := t_nn h1
    exact ⟨h _ _ _ (lk_p (j := 0) (by omega) (by omega) (by decide)), (h _ _ _ (lk_p (j := 1) (by omega) (by omega) (by decide))).trans (congrArg s (by omega))⟩
  have q0 : v (30 + 15 * c) 0 = s (32 + 7 * c) := h _ _ _ (lk_q (j := 0) hc ha (by decide))
  have q1 : v (30 + 15 * c) 1 = s (33 + 7 * c) := (h _ _ _ (lk_q (j := 1) hc ha (by decide))).trans (congrArg s (by omega))
  obtain ⟨o1, o2⟩ := hO
  obtain ⟨a0, a1, a2⟩ := m A hA
  obtain ⟨b0, b1, b2⟩ := m B hB
  obtain ⟨c0, c1⟩ := p _ o1.1 o1.2
  obtain ⟨d0, d1⟩ := p _ o2.1 o2.2
  rw [q0, q1, a0, a1, a2, b0, b1, b2, c0, c1, d0, d1]

set_option maxHeartbeats 4000000 in
theorem S_maySit {n r r2 x0 x1 : Int32} {v u v2 u2 : Nat → Nat → Int32} (hI : Iv v) (hQ : Ir v2) (h3 : RR3 n v v2) (p : (¬ (((0 ≤ x0.toInt ∧ x0.toInt ≤ 5) ∧ (st_o x0.toNatClampNeg).toInt < (v 13 1).toInt) ∧ 0 ≤ x1.toInt ∧ x1.toInt < (v 13 2).toInt) → r = -1 ∧ u = v) ∧ ((((0 ≤ x0.toInt ∧ x0.toInt ≤ 5) ∧ (st_o x0.toNatClampNeg).toInt < (v 13 1).toInt) ∧ 0 ≤ x1.toInt ∧ x1.toInt < (v 13 2).toInt) ∧ fit (v (25 + (st_l x0.toNatClampNeg).toNatClampNeg) 1) (v (25 + (st_o x0.toNatClampNeg).toNatClampNeg) 1) (v (25 + (st_l x0.toNatClampNeg).toNatClampNeg) 2) (v (25 + (st_l x0.toNatClampNeg).toNatClampNeg) 0) (v (25 + (st_o x0.toNatClampNeg).toNatClampNeg) 2) (v (25 + (st_o x0.toNatClampNeg).toNatClampNeg) 0) (v (30 + 15 * x1.toNatClampNeg) 0) (v (17 + (v (30 + 15 * x1.toNatClampNeg) 0).toNatClampNeg) 1) (v (17 + (v (30 + 15 * x1.toNatClampNeg) 0).toNatClampNeg) 0) (v (30 + 15 * x1.toNatClampNeg) 1) (v (17 + (v (30 + 15 * x1.toNatClampNeg) 1).toNatClampNeg) 1) (v (17 + (v (30 + 15 * x1.toNatClampNeg) 1).toNatClampNeg) 0) → r = 1 ∧ u = v) ∧ ((((0 ≤ x0.toInt ∧ x0.toInt ≤ 5) ∧ (st_o x0.toNatClampNeg).toInt < (v 13 1).toInt) ∧ 0 ≤ x1.toInt ∧ x1.toInt < (v 13 2).toInt) ∧ ¬ fit (v (25 + (st_l x0.toNatClampNeg).toNatClampNeg) 1) (v (25 + (st_o x0.toNatClampNeg).toNatClampNeg) 1) (v (25 + (st_l x0.toNatClampNeg).toNatClampNeg) 2) (v (25 + (st_l x0.toNatClampNeg).toNatClampNeg) 0) (v (25 + (st_o x0.toNatClampNeg).toNatClampNeg) 2) (v (25 + (st_o x0.toNatClampNeg).toNatClampNeg) 0) (v (30 + 15 * x1.toNatClampNeg) 0) (v (17 + (v (30 + 15 * x1.toNatClampNeg) 0).toNatClampNeg) 1) (v (17 + (v (30 + 15 * x1.toNatClampNeg) 0).toNatClampNeg) 0) (v (30 + 15 * x1.toNatClampNeg) 1) (v (17 + (v (30 + 15 * x1.toNatClampNeg) 1).toNatClampNeg) 1) (v (17 + (v (30 + 15 * x1.toNatClampNeg) 1).toNatClampNeg) 0) → r = 0 ∧ u = v)) (q : (¬ (((0 ≤ x0.toInt ∧ x0.toInt ≤ 5) ∧ (st_o x0.toNatClampNeg).toInt < (v2 1 1).toInt) ∧ 0 ≤ x1.toInt ∧ x1.toInt < (v2 1 2).toInt) → r2 = -1 ∧ u2 = v2) ∧ ((((0 ≤ x0.toInt ∧ x0.toInt ≤ 5) ∧ (st_o x0.toNatClampNeg).toInt < (v2 1 1).toInt) ∧ 0 ≤ x1.toInt ∧ x1.toInt < (v2 1 2).toInt) ∧ fit (v2 1 (21 + 2 * (st_l x0.toNatClampNeg).toNatClampNeg)) (v2 1 (21 + 2 * (st_o x0.toNatClampNeg).toNatClampNeg)) (v2 1 (28 + (st_l x0.toNatClampNeg).toNatClampNeg)) (v2 1 (20 + 2 * (st_l x0.toNatClampNeg).toNatClampNeg)) (v2 1 (28 + (st_o x0.toNatClampNeg).toNatClampNeg)) (v2 1 (20 + 2 * (st_o x0.toNatClampNeg).toNatClampNeg)) (v2 1 (32 + 7 * x1.toNatClampNeg)) (v2 1 (5 + 2 * (v2 1 (32 + 7 * x1.toNatClampNeg)).toNatClampNeg)) (v2 1 (4 + 2 * (v2 1 (32 + 7 * x1.toNatClampNeg)).toNatClampNeg)) (v2 1 (33 + 7 * x1.toNatClampNeg)) (v2 1 (5 + 2 * (v2 1 (33 + 7 * x1.toNatClampNeg)).toNatClampNeg)) (v2 1 (4 + 2 * (v2 1 (33 + 7 * x1.toNatClampNeg)).toNatClampNeg)) → r2 = 1 ∧ u2 = v2) ∧ ((((0 ≤ x0.toInt ∧ x0.toInt ≤ 5) ∧ (st_o x0.toNatClampNeg).toInt < (v2 1 1).toInt) ∧ 0 ≤ x1.toInt ∧ x1.toInt < (v2 1 2).toInt) ∧ ¬ fit (v2 1 (21 + 2 * (st_l x0.toNatClampNeg).toNatClampNeg)) (v2 1 (21 + 2 * (st_o x0.toNatClampNeg).toNatClampNeg)) (v2 1 (28 + (st_l x0.toNatClampNeg).toNatClampNeg)) (v2 1 (20 + 2 * (st_l x0.toNatClampNeg).toNatClampNeg)) (v2 1 (28 + (st_o x0.toNatClampNeg).toNatClampNeg)) (v2 1 (20 + 2 * (st_o x0.toNatClampNeg).toNatClampNeg)) (v2 1 (32 + 7 * x1.toNatClampNeg)) (v2 1 (5 + 2 * (v2 1 (32 + 7 * x1.toNatClampNeg)).toNatClampNeg)) (v2 1 (4 + 2 * (v2 1 (32 + 7 * x1.toNatClampNeg)).toNatClampNeg)) (v2 1 (33 + 7 * x1.toNatClampNeg)) (v2 1 (5 + 2 * (v2 1 (33 + 7 * x1.toNatClampNeg)).toNatClampNeg)) (v2 1 (4 + 2 * (v2 1 (33 + 7 * x1.toNatClampNeg)).toNatClampNeg)) → r2 = 0 ∧ u2 = v2)) : r = r2 ∧ RR3 n u u2 := by
  have h := h3.1
  have e0 : v 13 0 = v2 1 0 := h.1.1 _ _ _ (lk_a (by decide))
  have e1 : v 13 1 = v2 1 1 := h.1.1 _ _ _ (lk_a (by decide))
  have e2 : v 13 2 = v2 1 2 := h.1.1 _ _ _ (lk_a (by decide))
  have e3 : v 13 3 = v2 1 3 := h.1.1 _ _ _ (lk_a (by decide))
  have hb0 := hQ 1 0 8 (by decide)
  have hb1 := hQ 1 1 4 (by decide)
  have hb2 := hQ 1 2 6 (by decide)
  have hb3 := hQ 1 3 6 (by decide)
  rw [e1, e2] at p
  by_cases hC : ((0 ≤ x0.toInt ∧ x0.toInt ≤ 5) ∧ (st_o x0.toNatClampNeg).toInt < (v2 1 1).toInt) ∧ 0 ≤ x1.toInt ∧ x1.toInt < (v2 1 2).toInt
  · have z0 := t_nn (x := x0) (by omega)
    have z1 := t_nn (x := x1) (by omega)
    have hX : x1.toNatClampNeg < 6 := by omega
    have ha : (x1.toNatClampNeg : Int) < (v2 1 2).toInt := by omega
    have lo : (st_l x0.toNatClampNeg).toInt < (st_o x0.toNatClampNeg).toInt := st_lo ⟨x0.toNatClampNeg, by omega⟩
    have sb := st_b x0.toNatClampNeg
    have zl := t_nn (x := st_l x0.toNatClampNeg) (by omega)
    have zo := t_nn (x := st_o x0.toNatClampNeg) (by omega)
    have key := fit_rel (s := v2 1) h.1.1 hb1.2 hb0.2 hX ha (h3.2.1 _ hX ha).1 (A := (st_l x0.toNatClampNeg).toNatClampNeg) (B := (st_o x0.toNatClampNeg).toNatClampNeg) (by omega) (by omega)
    by_cases hF : fit (v2 1 (21 + 2 * (st_l x0.toNatClampNeg).toNatClampNeg)) (v2 1 (21 + 2 * (st_o x0.toNatClampNeg).toNatClampNeg)) (v2 1 (28 + (st_l x0.toNatClampNeg).toNatClampNeg)) (v2 1 (20 + 2 * (st_l x0.toNatClampNeg).toNatClampNeg)) (v2 1 (28 + (st_o x0.toNatClampNeg).toNatClampNeg)) (v2 1 (20 + 2 * (st_o x0.toNatClampNeg).toNatClampNeg)) (v2 1 (32 + 7 * x1.toNatClampNeg)) (v2 1 (5 + 2 * (v2 1 (32 + 7 * x1.toNatClampNeg)).toNatClampNeg)) (v2 1 (4 + 2 * (v2 1 (32 + 7 * x1.toNatClampNeg)).toNatClampNeg)) (v2 1 (33 + 7 * x1.toNatClampNeg)) (v2 1 (5 + 2 * (v2 1 (33 + 7 * x1.toNatClampNeg)).toNatClampNeg)) (v2 1 (4 + 2 * (v2 1 (33 + 7 * x1.toNatClampNeg)).toNatClampNeg))
    · obtain ⟨p1, p2⟩ := p.2.1 ⟨hC, key.mpr hF⟩
      obtain ⟨q1, q2⟩ := q.2.1 ⟨hC, hF⟩
      rw [p1, q1, p2, q2]
      exact ⟨rfl, h3⟩
    · obtain ⟨p1, p2⟩ := p.2.2 ⟨hC, fun w => hF (key.mp w)⟩
      obtain ⟨q1, q2⟩ := q.2.2 ⟨hC, hF⟩
      rw [p1, q1, p2, q2]
      exact ⟨rfl, h3⟩
  · obtain ⟨p1, p2⟩ := p.1 hC
    obtain ⟨q1, q2⟩ := q.1 hC
    rw [p1, q1, p2, q2]
    exact ⟨rfl, h3⟩
