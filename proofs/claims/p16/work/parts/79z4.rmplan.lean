
theorem Wt_36 {w : Nat → Int} {S : Nat → Nat} {m : Nat} (hw : ∀ k : Nat, k < m → 0 ≤ w k ∧ w k ≤ 9) (hS : ∀ k : Nat, k < m → S k ≤ 18) : ∀ k : Nat, k ≤ m → Wt w S k ≤ 36 * (k : Int)
  | 0, _ => Int.le_refl 0
  | k + 1, hk => by
    have i := Wt_36 hw hS k (by omega)
    have w9 := hw k (by omega)
    have c4 := cst_b (hS k (by omega))
    have p1 := Int.mul_le_mul w9.2 c4.2 c4.1 (by decide)
    rw [Wt_s]
    omega
theorem ofn_c : ∀ q : Fin 5, (Int32.ofNat q.val).toNatClampNeg = q.val ∧ (Int32.ofNat q.val).toInt = (q.val : Int) := by decide
theorem pl_q {r : Nat → Int32} {k : Int32} (h : pl k.toInt r) (hk : k.toInt ≤ 4) {q : Nat} (hq : (q : Int) < k.toInt) : 0 ≤ (r q).toInt ∧ (r q).toInt ≤ 18 := by
  have e := ofn_c ⟨q, by omega⟩
  have e1 : (Int32.ofNat q).toNatClampNeg = q := e.1
  have e2 : (Int32.ofNat q).toInt = (q : Int) := e.2
  have b := pl_b (k' := Int32.ofNat q) h hk ⟨by omega, by omega⟩
  rw [e1] at b
  exact b

def RP9 (v u : Nat → Nat → Int32) : Prop := gth (fun c => (v 1 (34 + 7 * c)).toInt = 0) (v 1 2).toNatClampNeg (u 0 5).toInt (fun k => (u 4 k).toInt) ∧ BST (FEr (fun k p => ((st_o p).toInt < (u 1 1).toInt ∧ fit (u 1 (21 + 2 * (st_l p).toNatClampNeg)) (u 1 (21 + 2 * (st_o p).toNatClampNeg)) (u 1 (28 + (st_l p).toNatClampNeg)) (u 1 (20 + 2 * (st_l p).toNatClampNeg)) (u 1 (28 + (st_o p).toNatClampNeg)) (u 1 (20 + 2 * (st_o p).toNatClampNeg)) (u 1 (32 + 7 * (u 4 k).toNatClampNeg)) (u 1 (5 + 2 * (u 1 (32 + 7 * (u 4 k).toNatClampNeg)).toNatClampNeg)) (u 1 (4 + 2 * (u 1 (32 + 7 * (u 4 k).toNatClampNeg)).toNatClampNeg)) (u 1 (33 + 7 * (u 4 k).toNatClampNeg)) (u 1 (5 + 2 * (u 1 (33 + 7 * (u 4 k).toNatClampNeg)).toNatClampNeg)) (u 1 (4 + 2 * (u 1 (33 + 7 * (u 4 k).toNatClampNeg)).toNatClampNeg)))) (u 0 3).toInt) (u 0 5).toNatClampNeg (fun k => (u 1 (37 + 7 * (u 4 k).toNatClampNeg)).toInt) (fun q => (u 6 q).toNatClampNeg) (u 0 9).toInt ∧ ∀ q : Nat, q < (u 0 5).toNatClampNeg → 0 ≤ (u 6 q).toInt
set_option maxHeartbeats 12000000 in
set_option maxRecDepth 100000 in
theorem e_X8_makePlan (l : Launch) (dC : Nat → ClassId) (dI : Nat → Nat → Nat) (cy : Nat → ClassId) (sz : Nat) (ad : Nat → Nat) (v : Nat → Nat → Int32) (hv : Ir v) (hW : ∀ c : Nat, c < (v 1 2).toNatClampNeg → 1 ≤ (v 1 (37 + 7 * c)).toInt ∧ (v 1 (37 + 7 * c)).toInt ≤ 9) : Met l yX8_makePlan wsX8_makePlan ({ frames := 4, cells := 0, slots := 0, locals := 256 }) (va_Pc [.ref (ad 0)] (ex_Pre dC dI cy sz (wm ad cy v))) (va_Qv (fun (u : Nat → Nat → Int32) => Ir u ∧ Fq v u ∧ RP9 v u) (fun u t => ex_Pst dC dI (va_A (wm ad cy v) sz) (wm ad cy u) t) (va_A (wm ad cy v) sz)) 0 0 (va_A (wm ad cy v) sz) := by
  refine Met.ofW (cc := cX8_makePlan) (maxL := 2) (ret := none) (by decide) rfl ?_
  intro p e s m args below meth c s₁ B hml hv
  obtain ⟨rfl, hsz, hE, hP, hK, hD0⟩ := hv
  have hx := B.exec
  have hb := B.bytes
  have hr := B.returns
  have hts := atoms_spec (ws := wsX8_makePlan) B.pre
  have hown : s.vm.findClass RX8 = some m.cls := findClass_of_methodNamed B.named
  have hlocks := B.notSynchronized
  subst hsz
  have hD := hD0.self (sz := s.heap.size)
  generalize hAe : va_A (wm ad cy v) s.heap.size = A at hD ⊢
  have hA : ∀ q : Nat, s.heap.size ≤ q → A q := fun q h => by rw [← hAe]; exact Or.inr h
  have hS : va_S A s.heap s.heap [] := va_S.rf
  have hP : va_P (dC, dI) vwCl (wm ad cy v) s.heap := hP
  have hl := lv_entry ([.ref (ad 0)]) (n := 2) (Nat.le_of_ble_eq_true rfl)
  rw [lg_entry_eq]
  generalize (lg_sl ([.ref (ad 0)]) ++ List.replicate (2 - (lg_sl ([.ref (ad 0)])).length) Slot.unset).toArray = ls at hl ⊢
  have hl : lv_has ls 2 [(0, .ref (ad 0))] := hl
  have hfr : Fq v v := Fq.rf
  have k_0 : (0 : Int32).toInt = 0 := by decide
  have k_1 : (1 : Int32).toInt = 1 := by decide
  have k_18 : (18 : Int32).toInt = 18 := by decide
  obtain ⟨OPN, eOP⟩ : ∃ f : Nat → Prop, f = fun c => (v 1 (34 + 7 * c)).toInt = 0 := ⟨_, rfl⟩
  have hbN := hv 1 2 6 (by decide)
  have zN := t_nn (x := v 1 2) hbN.1
  refine lv_aload_n hx hb dX8_makePlan_0 rfl (lv_at hl 0 rfl) ?_
  refine lv_iconst (v := 0) hx hb dX8_makePlan_1 (by decide) ?_
  refine va_put (D := (dC, dI)) (ci := 8) (v := .int 0) (ty := .int) (C := RX8) (T := TX8) (N := 11) hx hb hts (by decide +kernel) tyX8 tyX8_ok nmX8 hown hK hP hD hS (0) (wm_at (by decide) rc_0) rfl 5 (by decide) (hts (.fieldLink RX8 79 "QuietStairsModel" "many" "I") (by decide +kernel)) (fun _ h9 => h9) rfl (by decide +kernel) rfl rfl (Nat.le_of_ble_eq_true rfl) dX8_makePlan_2 (fun H locs hP hD hS => ?_)
  obtain ⟨v_1, ev_1⟩ : ∃ u : Nat → Nat → Int32, u = upr v 0 (upd (v 0) 5 0) := ⟨_, rfl⟩
  have hP : va_P (dC, dI) vwCl (wm ad cy v_1) H := by rw [ev_1, ← wm_put (e := _) rc_0]; exact hP
  have hD : va_D A (wm ad cy v_1) := by rw [ev_1, ← wm_put (e := _) rc_0]; exact hD
  have hv : Ir v_1 := by rw [ev_1]; exact hv.put (k := 0) (fun h q => by rw [show br 0 5 = some 4 from by decide] at q; cases q; exact ⟨by omega, by omega⟩)
  have hfr : Fq v v_1 := by rw [ev_1]; exact hfr.fld (by decide)
  refine lv_iconst (v := 0) hx hb dX8_makePlan_5 (by decide) ?_
  refine lv_istore_n (lv' := [(1, .int 0), (0, .ref (ad 0))]) hx hb dX8_makePlan_6 rfl hl (by decide) rfl (fun ls hl => ?_)
  have hc_2 : ∀ (n : Nat) (y2_1 : Int32) (u2 : Nat → Nat → Int32) (H : Heap) (locs : List Loc), 0 ≤ y2_1.toInt → y2_1.toInt ≤ 6 → (gth OPN y2_1.toNatClampNeg (u2 0 5).toInt (fun k => (u2 4 k).toInt)) → (y2_1.toInt ≤ (v 1 2).toInt) → (6 - y2_1.toInt).toNat < n → Ir u2 → Fq v u2 → va_P (dC, dI) vwCl (wm ad cy u2) H → va_D A (wm ad cy u2) → va_S A s.heap H locs → ∀ ls : Array Slot, lv_has ls 2 [(1, .int y2_1), (0, .ref (ad 0))] → W p l e (headSpec wsX8_makePlan ({ frames := 4, cells := 0, slots := 0, locals := 256 })).room s m [Value.ref (ad 0)].toArray below meth c H locs 0 0 (MQ below (va_Qv (fun (u : Nat → Nat → Int32) => Ir u ∧ Fq v u ∧ RP9 v u) (fun u t => ex_Pst dC dI A (wm ad cy u) t) A) [Value.ref (ad 0)].toArray s 0 0 A) (F0 m 7 ls []) := by
    intro n
    induction n with
    | zero =>
      intro y2_1 u2 H locs ay2_1 by2_1 hi2_0 hi2_1 hm_2 hv hfr hP hD hS ls hl
      exact absurd hm_2 (by omega)
    | succ n ih_2 =>
      intro y2_1 u2 H locs ay2_1 by2_1 hi2_0 hi2_1 hm_2 hv hfr hP hD hS ls hl
      refine lv_iload_n hx hb dX8_makePlan_7 rfl (lv_at hl 0 rfl) ?_
      refine lv_aload_n hx hb dX8_makePlan_8 rfl (lv_at hl 1 rfl) ?_
      refine va_get (D := (dC, dI)) (ci := 8) (v := .ref (ad 1)) (C := RX8) (T := TX8) (N := 11) hx hb hts (by decide +kernel) hown hK hP (0) (wm_at (by decide) rc_0) rfl 0 (by decide) (hts (.fieldLink RX8 7 "QuietStairsModel" "s" "[I") (by decide +kernel)) (fun _ h9 => h9) rfl dX8_makePlan_9 ?_
      refine lv_iconst (v := 2) hx hb dX8_makePlan_12 (by decide) ?_
      have k_2 : (2 : Int32).toInt = 2 := by decide
      refine va_iald hx hb hK hP (1) 0 (wm_at (by decide) rc_1) rfl (by unfold vp_in; decide) dX8_makePlan_13 ?_
      refine lv_topi (fun x_3 ex_3 => ?_)
      have ex_3 : x_3 = u2 1 2 := ex_3
      have bzx_3 : 0 ≤ x_3.toInt ∧ x_3.toInt ≤ 6 := by rw [ex_3]; exact hv 1 _ 6 (show bS 2 = some 6 from by decide)
      have qx_3 : x_3.toInt = (u2 1 (2)).toInt := congrArg Int32.toInt ex_3
      have hN9 : x_3.toInt = (v 1 2).toInt := by rw [ex_3, hfr.1]
      refine lv_icmp_ge (tgt := 64) hx hb dX8_makePlan_14 (by decide) (fun c_4 => ?_) (fun c_4 => ?_)
      · have tc_4 : y2_1.toInt ≥ x_3.toInt := Int32.le_iff_toInt_le.mp c_4
        have zn_y2_1 : (y2_1.toNatClampNeg : Int) = y2_1.toInt := t_nn (by omega)
        have hg9 : gth OPN (v 1 2).toNatClampNeg (u2 0 5).toInt (fun k => (u2 4 k).toInt) := by have q9 := hi2_0; rw [show y2_1.toNatClampNeg = (v 1 2).toNatClampNeg from by omega] at q9; exact q9
        refine lv_aload_n hx hb dX8_makePlan_64 rfl (lv_at hl 1 rfl) ?_
        refine lv_ldc hx hb hown (hts (.constant RX8 88 (1000000)) (by decide +kernel)) dX8_makePlan_65 ?_
        refine va_put (D := (dC, dI)) (ci := 8) (v := .int (1000000)) (ty := .int) (C := RX8) (T := TX8) (N := 11) hx hb hts (by decide +kernel) tyX8 tyX8_ok nmX8 hown hK hP hD hS (0) (wm_at (by decide) rc_0) rfl 9 (by decide) (hts (.fieldLink RX8 85 "QuietStairsModel" "least" "I") (by decide +kernel)) (fun _ h9 => h9) rfl (by decide +kernel) rfl rfl (Nat.le_of_ble_eq_true rfl) dX8_makePlan_67 (fun H locs hP hD hS => ?_)
        have k_1000000 : ((1000000) : Int32).toInt = 1000000 := by decide
        obtain ⟨v_5, ev_5⟩ : ∃ u : Nat → Nat → Int32, u = upr u2 0 (upd (u2 0) 9 (1000000)) := ⟨_, rfl⟩
        have hP : va_P (dC, dI) vwCl (wm ad cy v_5) H := by rw [ev_5, ← wm_put (e := _) rc_0]; exact hP
        have hD : va_D A (wm ad cy v_5) := by rw [ev_5, ← wm_put (e := _) rc_0]; exact hD
        have hv : Ir v_5 := by rw [ev_5]; exact hv.put (k := 0) (fun h q => by rw [show br 0 9 = none from by decide] at q; cases q)
        have hfr : Fq v v_5 := by rw [ev_5]; exact hfr.fld (by decide)
        refine lv_iconst (v := 0) hx hb dX8_makePlan_70 (by decide) ?_
        refine lv_istore_n (lv' := [(1, .int 0), (0, .ref (ad 0))]) hx hb dX8_makePlan_71 rfl hl (by decide) rfl (fun ls hl => ?_)
        refine lv_aload_n hx hb dX8_makePlan_72 rfl (lv_at hl 1 rfl) ?_
        refine va_get (D := (dC, dI)) (ci := 8) (v := .ref (ad 5)) (C := RX8) (T := TX8) (N := 11) hx hb hts (by decide +kernel) hown hK hP (0) (wm_at (by decide) rc_0) rfl 7 (by decide) (hts (.fieldLink RX8 26 "QuietStairsModel" "tried" "[I") (by decide +kernel)) (fun _ h9 => h9) rfl dX8_makePlan_73 ?_
        refine lv_iconst (v := 0) hx hb dX8_makePlan_76 (by decide) ?_
        refine lv_iconst (v := 0) hx hb dX8_makePlan_77 (by decide) ?_
        refine va_iast hx hb hK hP hD hS (5) 0 (wm_at (by decide) rc_5) rfl (by unfold vp_in; decide) dX8_makePlan_78 (fun H locs hP hD hS => ?_)
        obtain ⟨v_6, ev_6⟩ : ∃ u : Nat → Nat → Int32, u = upr v_5 5 (upd (v_5 5) 0 0) := ⟨_, rfl⟩
        have hP : va_P (dC, dI) vwCl (wm ad cy v_6) H := by rw [ev_6, ← wm_put (e := _) rc_5]; exact hP
        have hD : va_D A (wm ad cy v_6) := by rw [ev_6, ← wm_put (e := _) rc_5]; exact hD
        have hv : Ir v_6 := by rw [ev_6]; exact hv.put (k := 5) (fun h q => by rw [(show br 5 _ = none from rfl)] at q; cases q)
        have hfr : Fq v v_6 := by rw [ev_6]; exact hfr.row (by decide)
        have hfg := hfr
        have hz0 : v_6 5 0 = 0 := by rw [ev_6, upr_s, pk_us]
        have hl0 : (v_6 0 9).toInt = 1000000 := by rw [ev_6, upr_n (by decide), ev_5, upr_s, pk_us]; decide
        have hg4 : v_6 4 = u2 4 := by rw [ev_6, upr_n (by decide), ev_5, upr_n (by decide)]
        have hg5 : v_6 0 5 = u2 0 5 := by rw [ev_6, upr_n (by decide), ev_5, upr_s, pk_un (by decide)]
        obtain ⟨FE, eFE⟩ : ∃ f : (Nat → Nat) → Nat → Prop, f = FEr (fun k p => ((st_o p).toInt < (v_6 1 1).toInt ∧ fit (v_6 1 (21 + 2 * (st_l p).toNatClampNeg)) (v_6 1 (21 + 2 * (st_o p).toNatClampNeg)) (v_6 1 (28 + (st_l p).toNatClampNeg)) (v_6 1 (20 + 2 * (st_l p).toNatClampNeg)) (v_6 1 (28 + (st_o p).toNatClampNeg)) (v_6 1 (20 + 2 * (st_o p).toNatClampNeg)) (v_6 1 (32 + 7 * (v_6 4 k).toNatClampNeg)) (v_6 1 (5 + 2 * (v_6 1 (32 + 7 * (v_6 4 k).toNatClampNeg)).toNatClampNeg)) (v_6 1 (4 + 2 * (v_6 1 (32 + 7 * (v_6 4 k).toNatClampNeg)).toNatClampNeg)) (v_6 1 (33 + 7 * (v_6 4 k).toNatClampNeg)) (v_6 1 (5 + 2 * (v_6 1 (33 + 7 * (v_6 4 k).toNatClampNeg)).toNatClampNeg)) (v_6 1 (4 + 2 * (v_6 1 (33 + 7 * (v_6 4 k).toNatClampNeg)).toNatClampNeg)))) (v_6 0 3).toInt := ⟨_, rfl⟩
        obtain ⟨WW, eWW⟩ : ∃ f : Nat → Int, f = (fun k => (v_6 1 (37 + 7 * (v_6 4 k).toNatClampNeg)).toInt) := ⟨_, rfl⟩
        obtain ⟨mm, emm⟩ : ∃ z : Int32, z = v_6 0 5 := ⟨_, rfl⟩
        have hbm : 0 ≤ mm.toInt ∧ mm.toInt ≤ 4 := by rw [emm]; exact hv 0 5 4 (by decide)
        have zmm := t_nn (x := mm) hbm.1
        have hok : okF FE := by rw [eFE]; exact FEr_ok _ _
        have hgg : gth OPN (v 1 2).toNatClampNeg mm.toInt (fun k => (v_6 4 k).toInt) := by rw [emm, hg4, hg5]; exact hg9
        have hw9 : ∀ k : Nat, k < mm.toNatClampNeg → 1 ≤ WW k ∧ WW k ≤ 9 := fun k hk => by
          obtain ⟨c, ⟨a1, a2⟩, -⟩ := hgg.2 k (by omega)
          have a1 : (v_6 4 k).toInt = (c : Int) := a1
          have a3 := t_nn (x := v_6 4 k) (by omega)
          rw [eWW]
          show 1 ≤ (v_6 1 (37 + 7 * (v_6 4 k).toNatClampNeg)).toInt ∧ (v_6 1 (37 + 7 * (v_6 4 k).toNatClampNeg)).toInt ≤ 9
          rw [show (v_6 4 k).toNatClampNeg = c from by omega, hfg.1]
          exact hW c a2
        have hw0 : ∀ k : Nat, k < mm.toNatClampNeg → 0 ≤ WW k := fun k hk => by have := hw9 k hk; omega
        have hWb : ∀ S : Nat → Nat, pln FE mm.toNatClampNeg S → Wt WW S mm.toNatClampNeg < 1000000 := fun S hS => by have q := Wt_36 (w := WW) (S := S) (m := mm.toNatClampNeg) (fun k hk => by have := hw9 k hk; omega) (pln_b hok hS) mm.toNatClampNeg (Nat.le_refl _); omega
        have hc_7 : ∀ (n : Nat) (y7_1 : Int32) (u7 : Nat → Nat → Int32) (H : Heap) (locs : List Loc), -1 ≤ y7_1.toInt → y7_1.toInt ≤ 4 → (pl y7_1.toInt (u7 5)) → (y7_1.toInt ≤ (u7 0 5).toInt) → (u7 4 = v_6 4 ∧ u7 0 5 = v_6 0 5) → (ODO FE mm.toNatClampNeg WW y7_1.toInt (fun q => (u7 5 q).toNatClampNeg) (u7 0 9).toInt (fun q => (u7 6 q).toNatClampNeg)) → ((u7 0 9).toInt < 1000000 → ∀ q : Nat, q < mm.toNatClampNeg → 0 ≤ (u7 6 q).toInt) → (mp y7_1.toInt (u7 5)).toNat < n → Ir u7 → Fq v u7 → va_P (dC, dI) vwCl (wm ad cy u7) H → va_D A (wm ad cy u7) → va_S A s.heap H locs → ∀ ls : Array Slot, lv_has ls 2 [(1, .int y7_1), (0, .ref (ad 0))] → W p l e (headSpec wsX8_makePlan ({ frames := 4, cells := 0, slots := 0, locals := 256 })).room s m [Value.ref (ad 0)].toArray below meth c H locs 0 0 (MQ below (va_Qv (fun (u : Nat → Nat → Int32) => Ir u ∧ Fq v u ∧ RP9 v u) (fun u t => ex_Pst dC dI A (wm ad cy u) t) A) [Value.ref (ad 0)].toArray s 0 0 A) (F0 m 79 ls []) := by
          intro n
          induction n with
          | zero =>
            intro y7_1 u7 H locs ay7_1 by7_1 hi7_0 hi7_1 hi7_2 hi7_3 hi7_4 hm_7 hv hfr hP hD hS ls hl
            exact absurd hm_7 (by omega)
          | succ n ih_7 =>
            intro y7_1 u7 H locs ay7_1 by7_1 hi7_0 hi7_1 hi7_2 hi7_3 hi7_4 hm_7 hv hfr hP hD hS ls hl
            refine lv_iload_n hx hb dX8_makePlan_79 rfl (lv_at hl 0 rfl) ?_
            refine lv_if_lt (tgt := 211) hx hb dX8_makePlan_80 (by decide) (fun c_8 => ?_) (fun c_8 => ?_)
            · have tc_8 : y7_1.toInt < (0 : Int32).toInt := Int32.lt_iff_toInt_lt.mp c_8
              have hu1 : u7 1 = v_6 1 := by rw [hfr.1, hfg.1]
              have hu3 : u7 0 3 = v_6 0 3 := by rw [hfr.2.2.2, hfg.2.2.2]
              have hFe : FEr (fun k p => ((st_o p).toInt < (u7 1 1).toInt ∧ fit (u7 1 (21 + 2 * (st_l p).toNatClampNeg)) (u7 1 (21 + 2 * (st_o p).toNatClampNeg)) (u7 1 (28 + (st_l p).toNatClampNeg)) (u7 1 (20 + 2 * (st_l p).toNatClampNeg)) (u7 1 (28 + (st_o p).toNatClampNeg)) (u7 1 (20 + 2 * (st_o p).toNatClampNeg)) (u7 1 (32 + 7 * (u7 4 k).toNatClampNeg)) (u7 1 (5 + 2 * (u7 1 (32 + 7 * (u7 4 k).toNatClampNeg)).toNatClampNeg)) (u7 1 (4 + 2 * (u7 1 (32 + 7 * (u7 4 k).toNatClampNeg)).toNatClampNeg)) (u7 1 (33 + 7 * (u7 4 k).toNatClampNeg)) (u7 1 (5 + 2 * (u7 1 (33 + 7 * (u7 4 k).toNatClampNeg)).toNatClampNeg)) (u7 1 (4 + 2 * (u7 1 (33 + 7 * (u7 4 k).toNatClampNeg)).toNatClampNeg)))) (u7 0 3).toInt = FE := by rw [eFE, hu1, hi7_2.1, hu3]
              have hWe : (fun k => (u7 1 (37 + 7 * (u7 4 k).toNatClampNeg)).toInt) = WW := by rw [eWW, hu1, hi7_2.1]
              have hmi : u7 0 5 = mm := by rw [hi7_2.2, emm]
              have hB9 := ODO_end hok hWb hi7_3 (by omega)
              have hB8 : (u7 0 9).toInt < 1000000 := by have q9 := hWb _ hB9.1.1; have q8 := hB9.1.2; omega
              have hrp : RP9 v u7 := by
                unfold RP9
                exact ⟨by rw [← eOP, hmi, hi7_2.1]; exact hgg, by rw [hFe, hWe, hmi]; exact hB9, by rw [hmi]; exact hi7_4 hB8⟩
              exact W.vret hx hb hr (fun t ht hW => ⟨⟨u7, rfl, ⟨hv, hfr, hrp⟩, by rw [ht]; exact hP, hD⟩, hS.F ht⟩) hS.2.2 dX8_makePlan_211
            · have tc_8 : y7_1.toInt ≥ (0 : Int32).toInt := Int32.le_iff_toInt_le.mp (Int32.not_lt.mp c_8)
              refine lv_iload_n hx hb dX8_makePlan_83 rfl (lv_at hl 0 rfl) ?_
              refine lv_aload_n hx hb dX8_makePlan_84 rfl (lv_at hl 1 rfl) ?_
              refine va_get (D := (dC, dI)) (ci := 8) (v := .int (u7 0 5)) (C := RX8) (T := TX8) (N := 11) hx hb hts (by decide +kernel) hown hK hP (0) (wm_at (by decide) rc_0) rfl 5 (by decide) (hts (.fieldLink RX8 79 "QuietStairsModel" "many" "I") (by decide +kernel)) (fun _ h9 => h9) rfl dX8_makePlan_85 ?_
              refine lv_topi (fun x_9 ex_9 => ?_)
              have bzx_9 : 0 ≤ x_9.toInt ∧ x_9.toInt ≤ 4 := by rw [ex_9]; exact hv 0 5 4 (by decide)
              have kx_x_9 : y7_1.toInt ≤ x_9.toInt ∧ x_9.toInt = (u7 0 5).toInt := ⟨by rw [ex_9]; exact hi7_1, by rw [ex_9]⟩
              have hmi9 : (u7 0 5).toInt = mm.toInt := by rw [hi7_2.2, emm]
              refine lv_icmp_ne (tgt := 119) hx hb dX8_makePlan_88 (by decide) (fun c_10 => ?_) (fun c_10 => ?_)
              · have tc_10 : y7_1.toInt ≠ x_9.toInt := fun q => absurd (Int32.toInt_inj.mp q) c_10
                have hc_11 : ∀ (n : Nat) (u11 : Nat → Nat → Int32) (H : Heap) (locs : List Loc), (pl y7_1.toInt (u11 5)) → (mp y7_1.toInt (u11 5) ≤ mp y7_1.toInt (u7 5)) → (u11 4 = v_6 4 ∧ u11 0 5 = v_6 0 5) → (ODO FE mm.toNatClampNeg WW y7_1.toInt (fun q => (u11 5 q).toNatClampNeg) (u11 0 9).toInt (fun q => (u11 6 q).toNatClampNeg)) → ((u11 0 9).toInt < 1000000 → ∀ q : Nat, q < mm.toNatClampNeg → 0 ≤ (u11 6 q).toInt) → (u11 0 5 = u7 0 5) → (mp y7_1.toInt (u11 5)).toNat < n → Ir u11 → Fq v u11 → va_P (dC, dI) vwCl (wm ad cy u11) H → va_D A (wm ad cy u11) → va_S A s.heap H locs → ∀ ls : Array Slot, lv_has ls 2 [(1, .int y7_1), (0, .ref (ad 0))] → W p l e (headSpec wsX8_makePlan ({ frames := 4, cells := 0, slots := 0, locals := 256 })).room s m [Value.ref (ad 0)].toArray below meth c H locs 0 0 (MQ below (va_Qv (fun (u : Nat → Nat → Int32) => Ir u ∧ Fq v u ∧ RP9 v u) (fun u t => ex_Pst dC dI A (wm ad cy u) t) A) [Value.ref (ad 0)].toArray s 0 0 A) (F0 m 119 ls []) := by
                  intro n
                  induction n with
                  | zero =>
                    intro u11 H locs hi11_0 hi11_1 hi11_2 hi11_3 hi11_4 hi11_5 hm_11 hv hfr hP hD hS ls hl
                    exact absurd hm_11 (by omega)
                  | succ n ih_11 =>
                    intro u11 H locs hi11_0 hi11_1 hi11_2 hi11_3 hi11_4 hi11_5 hm_11 hv hfr hP hD hS ls hl
                    refine lv_aload_n hx hb dX8_makePlan_119 rfl (lv_at hl 1 rfl) ?_
                    refine va_get (D := (dC, dI)) (ci := 8) (v := .ref (ad 5)) (C := RX8) (T := TX8) (N := 11) hx hb hts (by decide +kernel) hown hK hP (0) (wm_at (by decide) rc_0) rfl 7 (by decide) (hts (.fieldLink RX8 26 "QuietStairsModel" "tried" "[I") (by decide +kernel)) (fun _ h9 => h9) rfl dX8_makePlan_120 ?_
                    refine lv_iload_n hx hb dX8_makePlan_123 rfl (lv_at hl 0 rfl) ?_
                    have zn_y7_1 : (y7_1.toNatClampNeg : Int) = y7_1.toInt := t_nn (by omega)
                    refine va_iald hx hb hK hP (5) 0 (wm_at (by decide) rc_5) rfl (vp_in_iff.mpr ⟨by omega, by omega⟩) dX8_makePlan_124 ?_
                    refine lv_topi (fun x_12 ex_12 => ?_)
                    have qx_12 : x_12.toInt = (u11 5 (y7_1.toNatClampNeg)).toInt := congrArg Int32.toInt ex_12
                    have bzx_12 : 0 ≤ x_12.toInt ∧ x_12.toInt ≤ 19 := by rw [ex_12]; exact pl_c hi11_0 ⟨by omega, by omega⟩
                    refine lv_bipush (v := 18) hx hb dX8_makePlan_125 (by decide) ?_
                    refine lv_icmp_gt (tgt := 163) hx hb dX8_makePlan_127 (by decide) (fun c_13 => ?_) (fun c_13 => ?_)
                    · have tc_13 : x_12.toInt > (18 : Int32).toInt := Int32.lt_iff_toInt_lt.mp c_13
                      refine lv_aload_n hx hb dX8_makePlan_163 rfl (lv_at hl 1 rfl) ?_
                      refine va_get (D := (dC, dI)) (ci := 8) (v := .ref (ad 5)) (C := RX8) (T := TX8) (N := 11) hx hb hts (by decide +kernel) hown hK hP (0) (wm_at (by decide) rc_0) rfl 7 (by decide) (hts (.fieldLink RX8 26 "QuietStairsModel" "tried" "[I") (by decide +kernel)) (fun _ h9 => h9) rfl dX8_makePlan_164 ?_
                      refine lv_iload_n hx hb dX8_makePlan_167 rfl (lv_at hl 0 rfl) ?_
                      refine va_iald hx hb hK hP (5) 0 (wm_at (by decide) rc_5) rfl (vp_in_iff.mpr ⟨by omega, by omega⟩) dX8_makePlan_168 ?_
                      refine lv_topi (fun x_14 ex_14 => ?_)
                      obtain rfl : x_12 = x_14 := (ex_14.trans ex_12.symm).symm
                      refine lv_bipush (v := 18) hx hb dX8_makePlan_169 (by decide) ?_
                      refine lv_icmp_gt (tgt := 187) hx hb dX8_makePlan_171 (by decide) (fun c_15 => ?_) (fun c_15 => ?_)
                      · have tc_15 : x_12.toInt > (18 : Int32).toInt := Int32.lt_iff_toInt_lt.mp c_15
                        obtain ⟨x_16, ex_16⟩ : ∃ y : Int32, y = y7_1 + (-1) := ⟨_, rfl⟩
                        refine lv_iinc (v := x_16) (lv' := [(1, .int x_16), (0, .ref (ad 0))]) hx hb dX8_makePlan_187 hl (k := 0) rfl (by rw [ex_16]; rfl) (by decide) rfl (fun ls hl => ?_)
                        have k_m1 : ((-1) : Int32).toInt = -1 := by decide
                        have tx_16 : x_16.toInt = y7_1.toInt + ((-1) : Int32).toInt := by rw [ex_16]; exact t_add ⟨by omega, by omega⟩
                        refine lv_aload_n hx hb dX8_makePlan_190 rfl (lv_at hl 1 rfl) ?_
                        refine va_get (D := (dC, dI)) (ci := 8) (v := .ref (ad 5)) (C := RX8) (T := TX8) (N := 11) hx hb hts (by decide +kernel) hown hK hP (0) (wm_at (by decide) rc_0) rfl 7 (by decide) (hts (.fieldLink RX8 26 "QuietStairsModel" "tried" "[I") (by decide +kernel)) (fun _ h9 => h9) rfl dX8_makePlan_191 ?_
                        refine lv_iload_n hx hb dX8_makePlan_194 rfl (lv_at hl 0 rfl) ?_
                        refine lv_if_ge (tgt := 202) hx hb dX8_makePlan_195 (by decide) (fun c_17 => ?_) (fun c_17 => ?_)
                        · have tc_17 : x_16.toInt ≥ (0 : Int32).toInt := Int32.le_iff_toInt_le.mp c_17
                          refine lv_iload_n hx hb dX8_makePlan_202 rfl (lv_at hl 0 rfl) ?_
                          refine lv_dup2_11 hx hb dX8_makePlan_203 rfl rfl ?_
                          refine va_iald hx hb hK hP (5) 0 (wm_at (by decide) rc_5) rfl (vp_in_iff.mpr ⟨by omega, by omega⟩) dX8_makePlan_204 ?_
                          refine lv_topi (fun x_18 ex_18 => ?_)
                          have qx_18 : x_18.toInt = (u11 5 (x_16.toNatClampNeg)).toInt := congrArg Int32.toInt ex_18
                          have bzx_18 : 0 ≤ x_18.toInt ∧ x_18.toInt ≤ 18 := by rw [ex_18]; exact pl_b hi11_0 (by omega) ⟨by omega, by omega⟩
                          refine lv_iconst (v := 1) hx hb dX8_makePlan_205 (by decide) ?_
                          refine lv_iadd hx hb dX8_makePlan_206 ?_
                          refine lv_topi (fun x_19 ex_19 => ?_)
                          have tx_19 : x_19.toInt = x_18.toInt + (1 : Int32).toInt := by rw [ex_19]; exact t_add ⟨by omega, by omega⟩
                          refine va_iast hx hb hK hP hD hS (5) 0 (wm_at (by decide) rc_5) rfl (vp_in_iff.mpr ⟨by omega, by omega⟩) dX8_makePlan_207 (fun H locs hP hD hS => ?_)
                          obtain ⟨v_20, ev_20⟩ : ∃ u : Nat → Nat → Int32, u = upr u11 5 (upd (u11 5) (x_16.toNatClampNeg) x_19) := ⟨_, rfl⟩
                          have hP : va_P (dC, dI) vwCl (wm ad cy v_20) H := by rw [ev_20, ← wm_put (e := _) rc_5]; exact hP
                          have hD : va_D A (wm ad cy v_20) := by rw [ev_20, ← wm_put (e := _) rc_5]; exact hD
                          have hv : Ir v_20 := by rw [ev_20]; exact hv.put (k := 5) (fun h q => by rw [(show br 5 _ = none from rfl)] at q; cases q)
                          have hfr : Fq v v_20 := by rw [ev_20]; exact hfr.row (by decide)
                          have hg_21 : pl x_16.toInt (v_20 5) ∧ 0 < mp y7_1.toInt (u11 5) ∧ mp x_16.toInt (v_20 5) < mp y7_1.toInt (u11 5) := by rw [ev_20, upr_s]; exact pl_dn (k := y7_1) (k' := x_16) hi11_0 ⟨by omega, by omega⟩ (by omega) ex_18 (by omega)
                          have hc_21 : v_20 0 5 = u7 0 5 := by rw [ev_20, upr_n (by decide), hi11_5]
                          refine lv_goto (tgt := 79) hx hb dX8_makePlan_208 (by decide) ?_
                          have t9 : v_20 0 9 = u11 0 9 := by rw [ev_20, upr_n (by decide)]
                          have t6 : v_20 6 = u11 6 := by rw [ev_20, upr_n (by decide)]
                          have t5 : v_20 5 = upd (u11 5) (x_16.toNatClampNeg) x_19 := by rw [ev_20, upr_s]
                          have zn_x_16 : (x_16.toNatClampNeg : Int) = x_16.toInt := t_nn (by omega)
                          have zn_x_19 : (x_19.toNatClampNeg : Int) = x_19.toInt := t_nn (by omega)
                          have zn_x_18 : (x_18.toNatClampNeg : Int) = x_18.toInt := t_nn (by omega)
                          have hld9 : x_18 = u11 5 (x_16.toNatClampNeg) := by rw [ex_18]
                          exact ih_7 x_16 v_20 _ _ (by omega) (by omega) (hg_21.1) (by rw [hc_21]; omega) (⟨by rw [ev_20, upr_n (by decide)]; exact hi11_2.1, by rw [ev_20, upr_n (by decide)]; exact hi11_2.2⟩) (by rw [t9, t6, show x_16.toInt = ((y7_1.toNatClampNeg : Nat) : Int) - 1 from by omega]; exact ODO_dn hok (k := y7_1.toNatClampNeg) (by omega) (by rw [show ((y7_1.toNatClampNeg : Nat) : Int) = y7_1.toInt from by omega]; exact hi11_3) (fun _ => by show 18 < (u11 5 y7_1.toNatClampNeg).toNatClampNeg; rw [← ex_12]; have z9 := t_nn (x := x_12) (by omega); omega) (fun e => absurd e (by omega)) (fun e => absurd e (by omega)) (fun i hi => by show (v_20 5 i).toNatClampNeg = (u11 5 i).toNatClampNeg; rw [t5, pk_un (by omega)]) (fun hm => by show (v_20 5 (y7_1.toNatClampNeg - 1)).toNatClampNeg = (u11 5 (y7_1.toNatClampNeg - 1)).toNatClampNeg + 1; rw [show y7_1.toNatClampNeg - 1 = x_16.toNatClampNeg from by omega, t5, pk_us, ← hld9]; omega)) (fun h q hq => by rw [ev_20, upr_n (by decide)] at h ⊢; exact hi11_4 h q hq) (by have z2 := hi11_1; omega) hv hfr hP hD hS ls (lv_sub hl [0, 1] rfl)
                        · have tc_17 : x_16.toInt < (0 : Int32).toInt := Int32.lt_iff_toInt_lt.mp (Int32.not_le.mp c_17)
                          refine lv_iconst (v := 0) hx hb dX8_makePlan_198 (by decide) ?_
                          refine lv_goto (tgt := 203) hx hb dX8_makePlan_199 (by decide) ?_
                          refine lv_dup2_11 hx hb dX8_makePlan_203 rfl rfl ?_
                          refine va_iald hx hb hK hP (5) 0 (wm_at (by decide) rc_5) rfl (by unfold vp_in; decide) dX8_makePlan_204 ?_
                          refine lv_topi (fun x_18 ex_18 => ?_)
                          have ex_18 : x_18 = u11 5 0 := ex_18
                          have qx_18 : x_18.toInt = (u11 5 (0)).toInt := congrArg Int32.toInt ex_18
                          refine lv_iconst (v := 1) hx hb dX8_makePlan_205 (by decide) ?_
                          refine lv_iadd hx hb dX8_makePlan_206 ?_
                          refine lv_topi (fun x_19 ex_19 => ?_)
                          refine va_iast hx hb hK hP hD hS (5) 0 (wm_at (by decide) rc_5) rfl (by unfold vp_in; decide) dX8_makePlan_207 (fun H locs hP hD hS => ?_)
                          obtain ⟨v_20, ev_20⟩ : ∃ u : Nat → Nat → Int32, u = upr u11 5 (upd (u11 5) 0 x_19) := ⟨_, rfl⟩
                          have hP : va_P (dC, dI) vwCl (wm ad cy v_20) H := by rw [ev_20, ← wm_put (e := _) rc_5]; exact hP
                          have hD : va_D A (wm ad cy v_20) := by rw [ev_20, ← wm_put (e := _) rc_5]; exact hD
                          have hv : Ir v_20 := by rw [ev_20]; exact hv.put (k := 5) (fun h q => by rw [(show br 5 _ = none from rfl)] at q; cases q)
                          have hfr : Fq v v_20 := by rw [ev_20]; exact hfr.row (by decide)
                          have hg_21 : pl x_16.toInt (v_20 5) ∧ 0 < mp y7_1.toInt (u11 5) ∧ mp x_16.toInt (v_20 5) < mp y7_1.toInt (u11 5) := by rw [ev_20, upr_s]; exact pl_ex (k := y7_1) (k' := x_16) _ hi11_0 (by omega) (by omega)
                          have hc_21 : v_20 0 5 = u7 0 5 := by rw [ev_20, upr_n (by decide), hi11_5]
                          refine lv_goto (tgt := 79) hx hb dX8_makePlan_208 (by decide) ?_
                          have t9 : v_20 0 9 = u11 0 9 := by rw [ev_20, upr_n (by decide)]
                          have t6 : v_20 6 = u11 6 := by rw [ev_20, upr_n (by decide)]
                          have t5 : v_20 5 = upd (u11 5) 0 x_19 := by rw [ev_20, upr_s]
                          exact ih_7 x_16 v_20 _ _ (by omega) (by omega) (hg_21.1) (by rw [hc_21]; omega) (⟨by rw [ev_20, upr_n (by decide)]; exact hi11_2.1, by rw [ev_20, upr_n (by decide)]; exact hi11_2.2⟩) (by rw [t9, t6, show x_16.toInt = ((y7_1.toNatClampNeg : Nat) : Int) - 1 from by omega]; exact ODO_dn hok (k := y7_1.toNatClampNeg) (by omega) (by rw [show ((y7_1.toNatClampNeg : Nat) : Int) = y7_1.toInt from by omega]; exact hi11_3) (fun _ => by show 18 < (u11 5 y7_1.toNatClampNeg).toNatClampNeg; rw [← ex_12]; have z9 := t_nn (x := x_12) (by omega); omega) (fun e => absurd e (by omega)) (fun e => absurd e (by omega)) (fun i hi => absurd hi (by omega)) (fun hm => absurd hm (by omega))) (fun h q hq => by rw [ev_20, upr_n (by decide)] at h ⊢; exact hi11_4 h q hq) (by have z2 := hi11_1; omega) hv hfr hP hD hS ls (lv_sub hl [0, 1] rfl)
                      · have tc_15 : x_12.toInt ≤ (18 : Int32).toInt := Int32.le_iff_toInt_le.mp (Int32.not_lt.mp c_15)
                        exfalso
                        omega
                    · have tc_13 : x_12.toInt ≤ (18 : Int32).toInt := Int32.le_iff_toInt_le.mp (Int32.not_lt.mp c_13)
                      refine lv_aload_n hx hb dX8_makePlan_130 rfl (lv_at hl 1 rfl) ?_
                      refine lv_iload_n hx hb dX8_makePlan_131 rfl (lv_at hl 0 rfl) ?_
                      have hu1 : u11 1 = v_6 1 := by rw [hfr.1, hfg.1]
                      have hu3 : u11 0 3 = v_6 0 3 := by rw [hfr.2.2.2, hfg.2.2.2]
                      have hFe : FEr (fun k p => ((st_o p).toInt < (u11 1 1).toInt ∧ fit (u11 1 (21 + 2 * (st_l p).toNatClampNeg)) (u11 1 (21 + 2 * (st_o p).toNatClampNeg)) (u11 1 (28 + (st_l p).toNatClampNeg)) (u11 1 (20 + 2 * (st_l p).toNatClampNeg)) (u11 1 (28 + (st_o p).toNatClampNeg)) (u11 1 (20 + 2 * (st_o p).toNatClampNeg)) (u11 1 (32 + 7 * (u11 4 k).toNatClampNeg)) (u11 1 (5 + 2 * (u11 1 (32 + 7 * (u11 4 k).toNatClampNeg)).toNatClampNeg)) (u11 1 (4 + 2 * (u11 1 (32 + 7 * (u11 4 k).toNatClampNeg)).toNatClampNeg)) (u11 1 (33 + 7 * (u11 4 k).toNatClampNeg)) (u11 1 (5 + 2 * (u11 1 (33 + 7 * (u11 4 k).toNatClampNeg)).toNatClampNeg)) (u11 1 (4 + 2 * (u11 1 (33 + 7 * (u11 4 k).toNatClampNeg)).toNatClampNeg)))) (u11 0 3).toInt = FE := by rw [eFE, hu1, hi11_2.1, hu3]
                      have hb5 : ∀ q : Nat, (q : Int) ≤ y7_1.toInt → 0 ≤ (u11 5 q).toInt ∧ (u11 5 q).toInt ≤ 18 := fun q hq => by by_cases e : (q : Int) < y7_1.toInt; exact pl_q hi11_0 (by omega) e; rw [show q = y7_1.toNatClampNeg from by omega, ← ex_12]; omega
                      refine yw_i (w1 := fun (u : Nat → Nat → Int32) => wm ad cy u) hD hS hA (va_runV (As := [.int y7_1]) (rest := []) ⟨hx, hb, hml, hown, hts⟩ (e_X8_fits l dC dI cy _ ad u11 hv y7_1 ⟨by omega, by omega⟩ (fun q hq => hb5 q (by omega))) (cwV 1 hts gX8_makePlan_X8_fits rfl rfl rfl (by decide +kernel) ⟨Nat.le_of_ble_eq_true rfl, Nat.le_of_ble_eq_true rfl⟩) (yw_preV hE hK hP hD (ci := 8) (q0 := 0) rfl (wm_at (by decide) rc_0)) rfl rfl hl.1 rfl (lv_room (Nat.le_of_ble_eq_true rfl)) dX8_makePlan_132 ⟨Nat.le_of_ble_eq_true rfl, Nat.le_of_ble_eq_true rfl⟩) (fun r_14 v_14 H locs hw_14 hP hD hS => ?_)
                      obtain ⟨-, hu_14, hw_14⟩ := hw_14
                      replace hu_14 := hu_14.symm
                      subst hu_14
                      rcases hw_14 with ⟨rfl, hf_15⟩ | ⟨rfl, hf_15⟩
                      · rw [hFe] at hf_15
                        refine lv_if_eq (tgt := 150) hx hb dX8_makePlan_135 (by decide) (fun c9 => absurd c9 (by decide)) (fun _ => ?_)
                        refine lv_aload_n hx hb dX8_makePlan_138 rfl (lv_at hl 1 rfl) ?_
                        refine lv_iload_n hx hb dX8_makePlan_139 rfl (lv_at hl 0 rfl) ?_
                        have hWe : (fun k => (u11 1 (37 + 7 * (u11 4 k).toNatClampNeg)).toInt) = WW := by rw [eWW, hu1, hi11_2.1]
                        refine yw_i (w1 := fun (u : Nat → Nat → Int32) => wm ad cy u) hD hS hA (va_runV (As := [.int y7_1]) (rest := []) ⟨hx, hb, hml, hown, hts⟩ (e_X8_waitsOf l dC dI cy _ ad u11 hv y7_1 ⟨by omega, by omega⟩ hb5 (fun q hq => by have z9 := hw9 q (by omega); rw [← hWe] at z9; exact z9)) (cwV 1 hts gX8_makePlan_X8_waitsOf rfl rfl rfl (by decide +kernel) ⟨Nat.le_of_ble_eq_true rfl, Nat.le_of_ble_eq_true rfl⟩) (yw_preV hE hK hP hD (ci := 8) (q0 := 0) rfl (wm_at (by decide) rc_0)) rfl rfl hl.1 rfl (lv_room (Nat.le_of_ble_eq_true rfl)) dX8_makePlan_140 ⟨Nat.le_of_ble_eq_true rfl, Nat.le_of_ble_eq_true rfl⟩) (fun r_16 v_16 H locs hw_16 hP hD hS => ?_)
                        obtain ⟨-, hu_16, hw_16⟩ := hw_16
                        replace hu_16 := hu_16.symm
                        subst hu_16
                        obtain ⟨hb9, hr9⟩ := hw_16
                        rw [hWe, show (y7_1.toInt + 1).toNat = y7_1.toNatClampNeg + 1 from by omega] at hr9
                        refine lv_aload_n hx hb dX8_makePlan_143 rfl (lv_at hl 1 rfl) ?_
                        refine va_get (D := (dC, dI)) (ci := 8) (v := .int (u11 0 9)) (C := RX8) (T := TX8) (N := 11) hx hb hts (by decide +kernel) hown hK hP (0) (wm_at (by decide) rc_0) rfl 9 (by decide) (hts (.fieldLink RX8 85 "QuietStairsModel" "least" "I") (by decide +kernel)) (fun _ h9 => h9) rfl dX8_makePlan_144 ?_
                        refine lv_topi (fun x_17 ex_17 => ?_)
                        have hL9 : x_17.toInt = (u11 0 9).toInt := by rw [ex_17]
                        refine lv_icmp_lt (tgt := 163) hx hb dX8_makePlan_147 (by decide) (fun c_18 => ?_) (fun c_18 => ?_)
                        · have tc_18 : r_16.toInt < x_17.toInt := Int32.lt_iff_toInt_lt.mp c_18
                          refine lv_aload_n hx hb dX8_makePlan_163 rfl (lv_at hl 1 rfl) ?_
                          refine va_get (D := (dC, dI)) (ci := 8) (v := .ref (ad 5)) (C := RX8) (T := TX8) (N := 11) hx hb hts (by decide +kernel) hown hK hP (0) (wm_at (by decide) rc_0) rfl 7 (by decide) (hts (.fieldLink RX8 26 "QuietStairsModel" "tried" "[I") (by decide +kernel)) (fun _ h9 => h9) rfl dX8_makePlan_164 ?_
                          refine lv_iload_n hx hb dX8_makePlan_167 rfl (lv_at hl 0 rfl) ?_
                          refine va_iald hx hb hK hP (5) 0 (wm_at (by decide) rc_5) rfl (vp_in_iff.mpr ⟨by omega, by omega⟩) dX8_makePlan_168 ?_
                          refine lv_topi (fun x_19 ex_19 => ?_)
                          obtain rfl : x_12 = x_19 := (ex_19.trans ex_12.symm).symm
                          refine lv_bipush (v := 18) hx hb dX8_makePlan_169 (by decide) ?_
                          refine lv_icmp_gt (tgt := 187) hx hb dX8_makePlan_171 (by decide) (fun c_20 => ?_) (fun c_20 => ?_)
                          · have tc_20 : x_12.toInt > (18 : Int32).toInt := Int32.lt_iff_toInt_lt.mp c_20
                            exfalso
                            omega
                          · have tc_20 : x_12.toInt ≤ (18 : Int32).toInt := Int32.le_iff_toInt_le.mp (Int32.not_lt.mp c_20)
                            obtain ⟨x_21, ex_21⟩ : ∃ y : Int32, y = y7_1 + 1 := ⟨_, rfl⟩
                            refine lv_iinc (v := x_21) (lv' := [(1, .int x_21), (0, .ref (ad 0))]) hx hb dX8_makePlan_174 hl (k := 0) rfl (by rw [ex_21]; rfl) (by decide) rfl (fun ls hl => ?_)
                            have tx_21 : x_21.toInt = y7_1.toInt + (1 : Int32).toInt := by rw [ex_21]; exact t_add ⟨by omega, by omega⟩
                            refine lv_aload_n hx hb dX8_makePlan_177 rfl (lv_at hl 1 rfl) ?_
                            refine va_get (D := (dC, dI)) (ci := 8) (v := .ref (ad 5)) (C := RX8) (T := TX8) (N := 11) hx hb hts (by decide +kernel) hown hK hP (0) (wm_at (by decide) rc_0) rfl 7 (by decide) (hts (.fieldLink RX8 26 "QuietStairsModel" "tried" "[I") (by decide +kernel)) (fun _ h9 => h9) rfl dX8_makePlan_178 ?_
                            refine lv_iload_n hx hb dX8_makePlan_181 rfl (lv_at hl 0 rfl) ?_
                            refine lv_iconst (v := 0) hx hb dX8_makePlan_182 (by decide) ?_
                            refine va_iast hx hb hK hP hD hS (5) 0 (wm_at (by decide) rc_5) rfl (vp_in_iff.mpr ⟨by omega, by omega⟩) dX8_makePlan_183 (fun H locs hP hD hS => ?_)
                            have nx_21 : x_21.toNatClampNeg = 1 + y7_1.toNatClampNeg := by have z1 := t_nn (x := x_21) (by omega); omega
                            obtain ⟨v_22, ev_22⟩ : ∃ u : Nat → Nat → Int32, u = upr u11 5 (upd (u11 5) (x_21.toNatClampNeg) 0) := ⟨_, rfl⟩
                            have hP : va_P (dC, dI) vwCl (wm ad cy v_22) H := by rw [ev_22, ← wm_put (e := _) rc_5]; exact hP
                            have hD : va_D A (wm ad cy v_22) := by rw [ev_22, ← wm_put (e := _) rc_5]; exact hD
                            have hv : Ir v_22 := by rw [ev_22]; exact hv.put (k := 5) (fun h q => by rw [(show br 5 _ = none from rfl)] at q; cases q)
                            have hfr : Fq v v_22 := by rw [ev_22]; exact hfr.row (by decide)
                            rw [nx_21] at ev_22
                            have hg_23 : pl x_21.toInt (v_22 5) ∧ 0 < mp y7_1.toInt (u11 5) ∧ mp x_21.toInt (v_22 5) < mp y7_1.toInt (u11 5) := by rw [ev_22, upr_s, ← nx_21]; exact pl_up (k := y7_1) (k' := x_21) hi11_0 ⟨by omega, by omega⟩ (by rw [← ex_12]; omega) (by omega) (by decide)
                            have hc_23 : v_22 0 5 = u7 0 5 := by rw [ev_22, upr_n (by decide), hi11_5]
                            refine lv_goto (tgt := 79) hx hb dX8_makePlan_184 (by decide) ?_
                            have t9 : v_22 0 9 = u11 0 9 := by rw [ev_22, upr_n (by decide)]
                            have t6 : v_22 6 = u11 6 := by rw [ev_22, upr_n (by decide)]
                            have t5 : v_22 5 = upd (u11 5) (1 + y7_1.toNatClampNeg) 0 := by rw [ev_22, upr_s]
                            have zn_x_21 : (x_21.toNatClampNeg : Int) = x_21.toInt := t_nn (by omega)
                            exact ih_7 x_21 v_22 _ _ (by omega) (by omega) (hg_23.1) (by rw [hc_23]; omega) (⟨by rw [ev_22, upr_n (by decide)]; exact hi11_2.1, by rw [ev_22, upr_n (by decide)]; exact hi11_2.2⟩) (by rw [t9, t6, show x_21.toInt = ((y7_1.toNatClampNeg + 1 : Nat) : Int) from by omega]; exact ODO_up hok (k := y7_1.toNatClampNeg) (by omega) (by rw [show ((y7_1.toNatClampNeg : Nat) : Int) = y7_1.toInt from by omega]; exact hi11_3) hf_15 (fun i hi => by show (v_22 5 i).toNatClampNeg = (u11 5 i).toNatClampNeg; rw [t5, pk_un (by omega)]) (fun hm => by show (v_22 5 (y7_1.toNatClampNeg + 1)).toNatClampNeg = 0; rw [show y7_1.toNatClampNeg + 1 = 1 + y7_1.toNatClampNeg from by omega, t5, pk_us]; decide)) (fun h q hq => by rw [ev_22, upr_n (by decide)] at h ⊢; exact hi11_4 h q hq) (by have z2 := hi11_1; omega) hv hfr hP hD hS ls (lv_sub hl [0, 1] rfl)
                        · have tc_18 : r_16.toInt ≥ x_17.toInt := Int32.le_iff_toInt_le.mp (Int32.not_lt.mp c_18)
                          refine lv_aload_n hx hb dX8_makePlan_150 rfl (lv_at hl 1 rfl) ?_
                          refine va_get (D := (dC, dI)) (ci := 8) (v := .ref (ad 5)) (C := RX8) (T := TX8) (N := 11) hx hb hts (by decide +kernel) hown hK hP (0) (wm_at (by decide) rc_0) rfl 7 (by decide) (hts (.fieldLink RX8 26 "QuietStairsModel" "tried" "[I") (by decide +kernel)) (fun _ h9 => h9) rfl dX8_makePlan_151 ?_
                          refine lv_iload_n hx hb dX8_makePlan_154 rfl (lv_at hl 0 rfl) ?_
                          refine lv_dup2_11 hx hb dX8_makePlan_155 rfl rfl ?_
                          refine va_iald hx hb hK hP (5) 0 (wm_at (by decide) rc_5) rfl (vp_in_iff.mpr ⟨by omega, by omega⟩) dX8_makePlan_156 ?_
                          refine lv_topi (fun x_19 ex_19 => ?_)
                          obtain rfl : x_12 = x_19 := (ex_19.trans ex_12.symm).symm
                          refine lv_iconst (v := 1) hx hb dX8_makePlan_157 (by decide) ?_
                          refine lv_iadd hx hb dX8_makePlan_158 ?_
                          refine lv_topi (fun x_20 ex_20 => ?_)
                          have tx_20 : x_20.toInt = x_12.toInt + (1 : Int32).toInt := by rw [ex_20]; exact t_add ⟨by omega, by omega⟩
                          refine va_iast hx hb hK hP hD hS (5) 0 (wm_at (by decide) rc_5) rfl (vp_in_iff.mpr ⟨by omega, by omega⟩) dX8_makePlan_159 (fun H locs hP hD hS => ?_)
                          obtain ⟨v_21, ev_21⟩ : ∃ u : Nat → Nat → Int32, u = upr u11 5 (upd (u11 5) (y7_1.toNatClampNeg) x_20) := ⟨_, rfl⟩
                          have hP : va_P (dC, dI) vwCl (wm ad cy v_21) H := by rw [ev_21, ← wm_put (e := _) rc_5]; exact hP
                          have hD : va_D A (wm ad cy v_21) := by rw [ev_21, ← wm_put (e := _) rc_5]; exact hD
                          have hv : Ir v_21 := by rw [ev_21]; exact hv.put (k := 5) (fun h q => by rw [(show br 5 _ = none from rfl)] at q; cases q)
                          have hfr : Fq v v_21 := by rw [ev_21]; exact hfr.row (by decide)
                          have hg_22 : pl y7_1.toInt (v_21 5) ∧ 0 < mp y7_1.toInt (u11 5) ∧ mp y7_1.toInt (v_21 5) < mp y7_1.toInt (u11 5) := by rw [ev_21, upr_s]; exact pl_in (k := y7_1) (k' := y7_1) hi11_0 ⟨by omega, by omega⟩ rfl ex_12 (by omega) (by omega)
                          refine lv_goto (tgt := 119) hx hb dX8_makePlan_160 (by decide) ?_
                          have t9 : v_21 0 9 = u11 0 9 := by rw [ev_21, upr_n (by decide)]
                          have t6 : v_21 6 = u11 6 := by rw [ev_21, upr_n (by decide)]
                          have t5 : v_21 5 = upd (u11 5) (y7_1.toNatClampNeg) x_20 := by rw [ev_21, upr_s]
                          have zn_x_20 : (x_20.toNatClampNeg : Int) = x_20.toInt := t_nn (by omega)
                          exact ih_11 v_21 _ _  (hg_22.1) (by have z1 := hi11_1; omega) (⟨by rw [ev_21, upr_n (by decide)]; exact hi11_2.1, by rw [ev_21, upr_n (by decide)]; exact hi11_2.2⟩) (by rw [t9, t6, ← show ((y7_1.toNatClampNeg : Nat) : Int) = y7_1.toInt from by omega]; exact ODO_in hok hw0 hWb (k := y7_1.toNatClampNeg) (by omega) (by rw [show ((y7_1.toNatClampNeg : Nat) : Int) = y7_1.toInt from by omega]; exact hi11_3) (Or.inr (by rw [← hr9]; omega)) (fun i hi => by show (v_21 5 i).toNatClampNeg = (u11 5 i).toNatClampNeg; rw [t5, pk_un (by omega)]) (by show (v_21 5 y7_1.toNatClampNeg).toNatClampNeg = (u11 5 y7_1.toNatClampNeg).toNatClampNeg + 1; rw [t5, pk_us, ← ex_12]; have z9 := t_nn (x := x_12) (by omega); omega)) (fun h q hq => by rw [ev_21, upr_n (by decide)] at h ⊢; exact hi11_4 h q hq) (by rw [ev_21, upr_n (by decide)]; exact hi11_5) (by omega) hv hfr hP hD hS ls (lv_sub hl [0, 1] rfl)
                      · rw [hFe] at hf_15
                        refine lv_if_eq (tgt := 150) hx hb dX8_makePlan_135 (by decide) (fun _ => ?_) (fun c9 => absurd c9 (by decide))
                        refine lv_aload_n hx hb dX8_makePlan_150 rfl (lv_at hl 1 rfl) ?_
                        refine va_get (D := (dC, dI)) (ci := 8) (v := .ref (ad 5)) (C := RX8) (T := TX8) (N := 11) hx hb hts (by decide +kernel) hown hK hP (0) (wm_at (by decide) rc_0) rfl 7 (by decide) (hts (.fieldLink RX8 26 "QuietStairsModel" "tried" "[I") (by decide +kernel)) (fun _ h9 => h9) rfl dX8_makePlan_151 ?_
                        refine lv_iload_n hx hb dX8_makePlan_154 rfl (lv_at hl 0 rfl) ?_
                        refine lv_dup2_11 hx hb dX8_makePlan_155 rfl rfl ?_
                        refine va_iald hx hb hK hP (5) 0 (wm_at (by decide) rc_5) rfl (vp_in_iff.mpr ⟨by omega, by omega⟩) dX8_makePlan_156 ?_
                        refine lv_topi (fun x_16 ex_16 => ?_)
                        obtain rfl : x_12 = x_16 := (ex_16.trans ex_12.symm).symm
                        refine lv_iconst (v := 1) hx hb dX8_makePlan_157 (by decide) ?_
                        refine lv_iadd hx hb dX8_makePlan_158 ?_
                        refine lv_topi (fun x_17 ex_17 => ?_)
                        have tx_17 : x_17.toInt = x_12.toInt + (1 : Int32).toInt := by rw [ex_17]; exact t_add ⟨by omega, by omega⟩
                        refine va_iast hx hb hK hP hD hS (5) 0 (wm_at (by decide) rc_5) rfl (vp_in_iff.mpr ⟨by omega, by omega⟩) dX8_makePlan_159 (fun H locs hP hD hS => ?_)
                        obtain ⟨v_18, ev_18⟩ : ∃ u : Nat → Nat → Int32, u = upr u11 5 (upd (u11 5) (y7_1.toNatClampNeg) x_17) := ⟨_, rfl⟩
                        have hP : va_P (dC, dI) vwCl (wm ad cy v_18) H := by rw [ev_18, ← wm_put (e := _) rc_5]; exact hP
                        have hD : va_D A (wm ad cy v_18) := by rw [ev_18, ← wm_put (e := _) rc_5]; exact hD
                        have hv : Ir v_18 := by rw [ev_18]; exact hv.put (k := 5) (fun h q => by rw [(show br 5 _ = none from rfl)] at q; cases q)
                        have hfr : Fq v v_18 := by rw [ev_18]; exact hfr.row (by decide)
                        have hg_19 : pl y7_1.toInt (v_18 5) ∧ 0 < mp y7_1.toInt (u11 5) ∧ mp y7_1.toInt (v_18 5) < mp y7_1.toInt (u11 5) := by rw [ev_18, upr_s]; exact pl_in (k := y7_1) (k' := y7_1) hi11_0 ⟨by omega, by omega⟩ rfl ex_12 (by omega) (by omega)
                        refine lv_goto (tgt := 119) hx hb dX8_makePlan_160 (by decide) ?_
                        have t9 : v_18 0 9 = u11 0 9 := by rw [ev_18, upr_n (by decide)]
                        have t6 : v_18 6 = u11 6 := by rw [ev_18, upr_n (by decide)]
                        have t5 : v_18 5 = upd (u11 5) (y7_1.toNatClampNeg) x_17 := by rw [ev_18, upr_s]
                        have zn_x_17 : (x_17.toNatClampNeg : Int) = x_17.toInt := t_nn (by omega)
                        exact ih_11 v_18 _ _  (hg_19.1) (by have z1 := hi11_1; omega) (⟨by rw [ev_18, upr_n (by decide)]; exact hi11_2.1, by rw [ev_18, upr_n (by decide)]; exact hi11_2.2⟩) (by rw [t9, t6, ← show ((y7_1.toNatClampNeg : Nat) : Int) = y7_1.toInt from by omega]; exact ODO_in hok hw0 hWb (k := y7_1.toNatClampNeg) (by omega) (by rw [show ((y7_1.toNatClampNeg : Nat) : Int) = y7_1.toInt from by omega]; exact hi11_3) (Or.inl hf_15) (fun i hi => by show (v_18 5 i).toNatClampNeg = (u11 5 i).toNatClampNeg; rw [t5, pk_un (by omega)]) (by show (v_18 5 y7_1.toNatClampNeg).toNatClampNeg = (u11 5 y7_1.toNatClampNeg).toNatClampNeg + 1; rw [t5, pk_us, ← ex_12]; have z9 := t_nn (x := x_12) (by omega); omega)) (fun h q hq => by rw [ev_18, upr_n (by decide)] at h ⊢; exact hi11_4 h q hq) (by rw [ev_18, upr_n (by decide)]; exact hi11_5) (by omega) hv hfr hP hD hS ls (lv_sub hl [0, 1] rfl)
                exact hc_11 ((mp y7_1.toInt (u7 5)).toNat + 1) u7 _ _  (hi7_0) (Int.le_refl _) (hi7_2) (hi7_3) (hi7_4) (rfl) (by omega) hv hfr hP hD hS ls (lv_sub hl [0, 1] rfl)
              · have tc_10 : y7_1.toInt = x_9.toInt := by rw [c_10]
                refine lv_aload_n hx hb dX8_makePlan_91 rfl (lv_at hl 1 rfl) ?_
                have hu1 : u7 1 = v_6 1 := by rw [hfr.1, hfg.1]
                have hWe : (fun k => (u7 1 (37 + 7 * (u7 4 k).toNatClampNeg)).toInt) = WW := by rw [eWW, hu1, hi7_2.1]
                have hme : (u7 0 5).toNatClampNeg = mm.toNatClampNeg := by rw [hi7_2.2, emm]
                have hmi : (u7 0 5).toInt = mm.toInt := by rw [hi7_2.2, emm]
                refine yw_v (w1 := fun (u : Nat → Nat → Int32) => wm ad cy u) hD hS hA (va_runV (As := []) (rest := []) ⟨hx, hb, hml, hown, hts⟩ (e_X8_note l dC dI cy _ ad u7 hv (fun q hq => pl_q hi7_0 (by omega) (by omega)) (fun q hq => by have z9 := hw9 q (by omega); rw [← hWe] at z9; exact z9)) (cwV 0 hts gX8_makePlan_X8_note rfl rfl rfl (by decide +kernel) ⟨Nat.le_of_ble_eq_true rfl, Nat.le_of_ble_eq_true rfl⟩) (yw_preV hE hK hP hD (ci := 8) (q0 := 0) rfl (wm_at (by decide) rc_0)) rfl rfl hl.1 rfl (lv_room (Nat.le_of_ble_eq_true rfl)) dX8_makePlan_92 ⟨Nat.le_of_ble_eq_true rfl, Nat.le_of_ble_eq_true rfl⟩) (fun v_11 H locs hw_11 hP hD hS => ?_)
                obtain ⟨hv, hf_11, hw_11⟩ := hw_11
                have hfr : Fq v v_11 := hfr.trans hf_11
                have hp_12 : pl y7_1.toInt (v_11 5) := by rw [hw_11.1.1]; exact hi7_0
                have hl_12 : mp y7_1.toInt (v_11 5) = mp y7_1.toInt (u7 5) := by rw [hw_11.1.1]
                have hnt := hw_11.2
                rw [hWe, hme] at hnt
                obtain ⟨x_13, ex_13⟩ : ∃ y : Int32, y = y7_1 + (-1) := ⟨_, rfl⟩
                refine lv_iinc (v := x_13) (lv' := [(1, .int x_13), (0, .ref (ad 0))]) hx hb dX8_makePlan_95 hl (k := 0) rfl (by rw [ex_13]; rfl) (by decide) rfl (fun ls hl => ?_)
                have k_m1 : ((-1) : Int32).toInt = -1 := by decide
                have tx_13 : x_13.toInt = y7_1.toInt + ((-1) : Int32).toInt := by rw [ex_13]; exact t_add ⟨by omega, by omega⟩
                refine lv_aload_n hx hb dX8_makePlan_98 rfl (lv_at hl 1 rfl) ?_
                refine va_get (D := (dC, dI)) (ci := 8) (v := .ref (ad 5)) (C := RX8) (T := TX8) (N := 11) hx hb hts (by decide +kernel) hown hK hP (0) (wm_at (by decide) rc_0) rfl 7 (by decide) (hts (.fieldLink RX8 26 "QuietStairsModel" "tried" "[I") (by decide +kernel)) (fun _ h9 => h9) rfl dX8_makePlan_99 ?_
                refine lv_iload_n hx hb dX8_makePlan_102 rfl (lv_at hl 0 rfl) ?_
                refine lv_if_ge (tgt := 110) hx hb dX8_makePlan_103 (by decide) (fun c_14 => ?_) (fun c_14 => ?_)
                · have tc_14 : x_13.toInt ≥ (0 : Int32).toInt := Int32.le_iff_toInt_le.mp c_14
                  refine lv_iload_n hx hb dX8_makePlan_110 rfl (lv_at hl 0 rfl) ?_
                  refine lv_dup2_11 hx hb dX8_makePlan_111 rfl rfl ?_
                  refine va_iald hx hb hK hP (5) 0 (wm_at (by decide) rc_5) rfl (vp_in_iff.mpr ⟨by omega, by omega⟩) dX8_makePlan_112 ?_
                  refine lv_topi (fun x_15 ex_15 => ?_)
                  have qx_15 : x_15.toInt = (v_11 5 (x_13.toNatClampNeg)).toInt := congrArg Int32.toInt ex_15
                  have bzx_15 : 0 ≤ x_15.toInt ∧ x_15.toInt ≤ 18 := by rw [ex_15]; exact pl_b hp_12 (by omega) ⟨by omega, by omega⟩
                  refine lv_iconst (v := 1) hx hb dX8_makePlan_113 (by decide) ?_
                  refine lv_iadd hx hb dX8_makePlan_114 ?_
                  refine lv_topi (fun x_16 ex_16 => ?_)
                  have tx_16 : x_16.toInt = x_15.toInt + (1 : Int32).toInt := by rw [ex_16]; exact t_add ⟨by omega, by omega⟩
                  refine va_iast hx hb hK hP hD hS (5) 0 (wm_at (by decide) rc_5) rfl (vp_in_iff.mpr ⟨by omega, by omega⟩) dX8_makePlan_115 (fun H locs hP hD hS => ?_)
                  obtain ⟨v_17, ev_17⟩ : ∃ u : Nat → Nat → Int32, u = upr v_11 5 (upd (v_11 5) (x_13.toNatClampNeg) x_16) := ⟨_, rfl⟩
                  have hP : va_P (dC, dI) vwCl (wm ad cy v_17) H := by rw [ev_17, ← wm_put (e := _) rc_5]; exact hP
                  have hD : va_D A (wm ad cy v_17) := by rw [ev_17, ← wm_put (e := _) rc_5]; exact hD
                  have hv : Ir v_17 := by rw [ev_17]; exact hv.put (k := 5) (fun h q => by rw [(show br 5 _ = none from rfl)] at q; cases q)
                  have hfr : Fq v v_17 := by rw [ev_17]; exact hfr.row (by decide)
                  have hg_18 : pl x_13.toInt (v_17 5) ∧ 0 < mp y7_1.toInt (v_11 5) ∧ mp x_13.toInt (v_17 5) < mp y7_1.toInt (v_11 5) := by rw [ev_17, upr_s]; exact pl_dn (k := y7_1) (k' := x_13) hp_12 ⟨by omega, by omega⟩ (by omega) ex_15 (by omega)
                  have hc_18 : v_17 0 5 = u7 0 5 := by rw [ev_17, upr_n (by decide), hw_11.1.2.2]
                  refine lv_goto (tgt := 79) hx hb dX8_makePlan_116 (by decide) ?_
                  have t9 : v_17 0 9 = v_11 0 9 := by rw [ev_17, upr_n (by decide)]
                  have t6 : v_17 6 = v_11 6 := by rw [ev_17, upr_n (by decide)]
                  have t5 : v_17 5 = upd (u7 5) (x_13.toNatClampNeg) x_16 := by rw [ev_17, upr_s, hw_11.1.1]
                  have zn_x_13 : (x_13.toNatClampNeg : Int) = x_13.toInt := t_nn (by omega)
                  have zn_x_16 : (x_16.toNatClampNeg : Int) = x_16.toInt := t_nn (by omega)
                  have zn_x_15 : (x_15.toNatClampNeg : Int) = x_15.toInt := t_nn (by omega)
                  have hld9 : x_15 = u7 5 (x_13.toNatClampNeg) := by rw [ex_15, hw_11.1.1]
                  exact ih_7 x_13 v_17 _ _ (by omega) (by omega) (hg_18.1) (by rw [hc_18]; omega) (⟨by rw [ev_17, upr_n (by decide), hw_11.1.2.1]; exact hi7_2.1, by rw [ev_17, upr_n (by decide), hw_11.1.2.2]; exact hi7_2.2⟩) (by rw [show x_13.toInt = ((mm.toNatClampNeg : Nat) : Int) - 1 from by omega]; exact ODO_note hok hWb (by rw [show ((mm.toNatClampNeg : Nat) : Int) = y7_1.toInt from by omega]; exact hi7_3) (fun h => ⟨by rw [t9]; exact (hnt.1 h).1, fun q hq => by show (v_17 6 q).toNatClampNeg = (u7 5 q).toNatClampNeg; rw [t6, (hnt.1 h).2 q hq]⟩) (fun h => ⟨by rw [t9, (hnt.2 h).1], by rw [t6, (hnt.2 h).2]⟩) (fun i hi => by show (v_17 5 i).toNatClampNeg = (u7 5 i).toNatClampNeg; rw [t5, pk_un (by omega)]) (fun hm => by show (v_17 5 (mm.toNatClampNeg - 1)).toNatClampNeg = (u7 5 (mm.toNatClampNeg - 1)).toNatClampNeg + 1; rw [show mm.toNatClampNeg - 1 = x_13.toNatClampNeg from by omega, t5, pk_us, ← hld9]; omega)) (fun h q hq => by by_cases e : Wt WW (fun q => (u7 5 q).toNatClampNeg) mm.toNatClampNeg < (u7 0 9).toInt; rw [t6, (hnt.1 e).2 q hq]; exact (pl_q hi7_0 (by omega) (by omega)).1; rw [t6, (hnt.2 e).2]; exact hi7_4 (by rw [t9, (hnt.2 e).1] at h; exact h) q hq) (by omega) hv hfr hP hD hS ls (lv_sub hl [0, 1] rfl)
                · have tc_14 : x_13.toInt < (0 : Int32).toInt := Int32.lt_iff_toInt_lt.mp (Int32.not_le.mp c_14)
                  refine lv_iconst (v := 0) hx hb dX8_makePlan_106 (by decide) ?_
                  refine lv_goto (tgt := 111) hx hb dX8_makePlan_107 (by decide) ?_
                  refine lv_dup2_11 hx hb dX8_makePlan_111 rfl rfl ?_
                  refine va_iald hx hb hK hP (5) 0 (wm_at (by decide) rc_5) rfl (by unfold vp_in; decide) dX8_makePlan_112 ?_
                  refine lv_topi (fun x_15 ex_15 => ?_)
                  have ex_15 : x_15 = v_11 5 0 := ex_15
                  have qx_15 : x_15.toInt = (v_11 5 (0)).toInt := congrArg Int32.toInt ex_15
                  refine lv_iconst (v := 1) hx hb dX8_makePlan_113 (by decide) ?_
                  refine lv_iadd hx hb dX8_makePlan_114 ?_
                  refine lv_topi (fun x_16 ex_16 => ?_)
                  refine va_iast hx hb hK hP hD hS (5) 0 (wm_at (by decide) rc_5) rfl (by unfold vp_in; decide) dX8_makePlan_115 (fun H locs hP hD hS => ?_)
                  obtain ⟨v_17, ev_17⟩ : ∃ u : Nat → Nat → Int32, u = upr v_11 5 (upd (v_11 5) 0 x_16) := ⟨_, rfl⟩
                  have hP : va_P (dC, dI) vwCl (wm ad cy v_17) H := by rw [ev_17, ← wm_put (e := _) rc_5]; exact hP
                  have hD : va_D A (wm ad cy v_17) := by rw [ev_17, ← wm_put (e := _) rc_5]; exact hD
                  have hv : Ir v_17 := by rw [ev_17]; exact hv.put (k := 5) (fun h q => by rw [(show br 5 _ = none from rfl)] at q; cases q)
                  have hfr : Fq v v_17 := by rw [ev_17]; exact hfr.row (by decide)
                  have hg_18 : pl x_13.toInt (v_17 5) ∧ 0 < mp y7_1.toInt (v_11 5) ∧ mp x_13.toInt (v_17 5) < mp y7_1.toInt (v_11 5) := by rw [ev_17, upr_s]; exact pl_ex (k := y7_1) (k' := x_13) _ hp_12 (by omega) (by omega)
                  have hc_18 : v_17 0 5 = u7 0 5 := by rw [ev_17, upr_n (by decide), hw_11.1.2.2]
                  refine lv_goto (tgt := 79) hx hb dX8_makePlan_116 (by decide) ?_
                  have t9 : v_17 0 9 = v_11 0 9 := by rw [ev_17, upr_n (by decide)]
                  have t6 : v_17 6 = v_11 6 := by rw [ev_17, upr_n (by decide)]
                  have t5 : v_17 5 = upd (u7 5) 0 x_16 := by rw [ev_17, upr_s, hw_11.1.1]
                  exact ih_7 x_13 v_17 _ _ (by omega) (by omega) (hg_18.1) (by rw [hc_18]; omega) (⟨by rw [ev_17, upr_n (by decide), hw_11.1.2.1]; exact hi7_2.1, by rw [ev_17, upr_n (by decide), hw_11.1.2.2]; exact hi7_2.2⟩) (by rw [show x_13.toInt = ((mm.toNatClampNeg : Nat) : Int) - 1 from by omega]; exact ODO_note hok hWb (by rw [show ((mm.toNatClampNeg : Nat) : Int) = y7_1.toInt from by omega]; exact hi7_3) (fun h => ⟨by rw [t9]; exact (hnt.1 h).1, fun q hq => by show (v_17 6 q).toNatClampNeg = (u7 5 q).toNatClampNeg; rw [t6, (hnt.1 h).2 q hq]⟩) (fun h => ⟨by rw [t9, (hnt.2 h).1], by rw [t6, (hnt.2 h).2]⟩) (fun i hi => absurd hi (by omega)) (fun hm => absurd hm (by omega))) (fun h q hq => by by_cases e : Wt WW (fun q => (u7 5 q).toNatClampNeg) mm.toNatClampNeg < (u7 0 9).toInt; rw [t6, (hnt.1 e).2 q hq]; exact (pl_q hi7_0 (by omega) (by omega)).1; rw [t6, (hnt.2 e).2]; exact hi7_4 (by rw [t9, (hnt.2 e).1] at h; exact h) q hq) (by omega) hv hfr hP hD hS ls (lv_sub hl [0, 1] rfl)
        exact hc_7 ((mp (0 : Int32).toInt (v_6 5)).toNat + 1) 0 v_6 _ _ (by omega) (by omega) (by rw [ev_6, upr_s]; exact pl_z (by decide)) (by have z1 := hv 0 5 4 (by decide); omega) (⟨rfl, rfl⟩) (by rw [k_0, hl0]; exact ODO_0 (by show (v_6 5 0).toNatClampNeg = 0; rw [hz0]; decide)) (fun q => absurd q (by rw [hl0]; omega)) (by omega) hv hfr hP hD hS ls (lv_sub hl [0, 1] rfl)
      · have tc_4 : y2_1.toInt < x_3.toInt := Int32.lt_iff_toInt_lt.mp (Int32.not_le.mp c_4)
        refine lv_aload_n hx hb dX8_makePlan_17 rfl (lv_at hl 1 rfl) ?_
        refine va_get (D := (dC, dI)) (ci := 8) (v := .ref (ad 1)) (C := RX8) (T := TX8) (N := 11) hx hb hts (by decide +kernel) hown hK hP (0) (wm_at (by decide) rc_0) rfl 0 (by decide) (hts (.fieldLink RX8 7 "QuietStairsModel" "s" "[I") (by decide +kernel)) (fun _ h9 => h9) rfl dX8_makePlan_18 ?_
        refine lv_iload_n hx hb dX8_makePlan_21 rfl (lv_at hl 0 rfl) ?_
        refine lv_iconst (v := 2) hx hb dX8_makePlan_22 (by decide) ?_
        refine yc_p hP hS (va_runS (As := [.int y2_1, .int 2]) (rest := [.ref (ad 1)]) ⟨hx, hb, hml, hown, hts⟩ (c_X8_at l y2_1 2) (cwS 2 hts gX8_makePlan_X8_at rfl rfl rfl (by decide +kernel) ⟨Nat.le_of_ble_eq_true rfl, Nat.le_of_ble_eq_true rfl⟩) ex_preP rfl rfl hl.1 rfl (lv_room (Nat.le_of_ble_eq_true rfl)) dX8_makePlan_23 ⟨Nat.le_of_ble_eq_true rfl, Nat.le_of_ble_eq_true rfl⟩) (fun r_5 H locs hw_5 hP hS => ?_)
        have tr_5 : r_5.toInt = 32 + 7 * y2_1.toInt + (2 : Int32).toInt := t_at hw_5 ⟨by omega, by omega⟩ ⟨by omega, by omega⟩
        have zn_y2_1 : (y2_1.toNatClampNeg : Int) = y2_1.toInt := t_nn (by omega)
        have nr_5 : r_5.toNatClampNeg = 34 + 7 * y2_1.toNatClampNeg := by have z1 := t_nn (x := r_5) (by omega); omega
        refine va_iald hx hb hK hP (1) 0 (wm_at (by decide) rc_1) rfl (vp_in_iff.mpr ⟨by omega, by omega⟩) dX8_makePlan_26 ?_
        refine lv_topi (fun x_6 ex_6 => ?_)
        rw [nr_5] at ex_6
        have qx_6 : x_6.toInt = (u2 1 (34 + 7 * y2_1.toNatClampNeg)).toInt := congrArg Int32.toInt ex_6
        have hst9 : OPN y2_1.toNatClampNeg ↔ x_6.toInt = 0 := by rw [eOP, ex_6, hfr.1]
        refine lv_if_ne (tgt := 58) hx hb dX8_makePlan_27 (by decide) (fun c_7 => ?_) (fun c_7 => ?_)
        · have tc_7 : x_6.toInt ≠ (0 : Int32).toInt := fun q => absurd (Int32.toInt_inj.mp q) c_7
          obtain ⟨x_8, ex_8⟩ : ∃ y : Int32, y = y2_1 + 1 := ⟨_, rfl⟩
          refine lv_iinc (v := x_8) (lv' := [(1, .int x_8), (0, .ref (ad 0))]) hx hb dX8_makePlan_58 hl (k := 0) rfl (by rw [ex_8]; rfl) (by decide) rfl (fun ls hl => ?_)
          have tx_8 : x_8.toInt = y2_1.toInt + (1 : Int32).toInt := by rw [ex_8]; exact t_add ⟨by omega, by omega⟩
          refine lv_goto (tgt := 7) hx hb dX8_makePlan_61 (by decide) ?_
          have zn_x_8 : (x_8.toNatClampNeg : Int) = x_8.toInt := t_nn (by omega)
          exact ih_2 x_8 u2 _ _ (by omega) (by omega) (by rw [show x_8.toNatClampNeg = y2_1.toNatClampNeg + 1 from by omega]; exact gth_no hi2_0 (fun q => absurd (hst9.mp q) (by omega))) (by omega) (by omega) hv hfr hP hD hS ls (lv_sub hl [0, 1] rfl)
        · have tc_7 : x_6.toInt = (0 : Int32).toInt := by rw [c_7]
          refine lv_aload_n hx hb dX8_makePlan_30 rfl (lv_at hl 1 rfl) ?_
          refine va_get (D := (dC, dI)) (ci := 8) (v := .int (u2 0 5)) (C := RX8) (T := TX8) (N := 11) hx hb hts (by decide +kernel) hown hK hP (0) (wm_at (by decide) rc_0) rfl 5 (by decide) (hts (.fieldLink RX8 79 "QuietStairsModel" "many" "I") (by decide +kernel)) (fun _ h9 => h9) rfl dX8_makePlan_31 ?_
          refine lv_topi (fun x_8 ex_8 => ?_)
          have bzx_8 : 0 ≤ x_8.toInt ∧ x_8.toInt ≤ 4 := by rw [ex_8]; exact hv 0 5 4 (by decide)
          have hK9 : x_8.toInt = (u2 0 5).toInt := by rw [ex_8]
          refine lv_iconst (v := 4) hx hb dX8_makePlan_34 (by decide) ?_
          have k_4 : (4 : Int32).toInt = 4 := by decide
          refine lv_icmp_ge (tgt := 58) hx hb dX8_makePlan_35 (by decide) (fun c_9 => ?_) (fun c_9 => ?_)
          · have tc_9 : x_8.toInt ≥ (4 : Int32).toInt := Int32.le_iff_toInt_le.mp c_9
            obtain ⟨x_10, ex_10⟩ : ∃ y : Int32, y = y2_1 + 1 := ⟨_, rfl⟩
            refine lv_iinc (v := x_10) (lv' := [(1, .int x_10), (0, .ref (ad 0))]) hx hb dX8_makePlan_58 hl (k := 0) rfl (by rw [ex_10]; rfl) (by decide) rfl (fun ls hl => ?_)
            have tx_10 : x_10.toInt = y2_1.toInt + (1 : Int32).toInt := by rw [ex_10]; exact t_add ⟨by omega, by omega⟩
            refine lv_goto (tgt := 7) hx hb dX8_makePlan_61 (by decide) ?_
            have zn_x_10 : (x_10.toNatClampNeg : Int) = x_10.toInt := t_nn (by omega)
            exact ih_2 x_10 u2 _ _ (by omega) (by omega) (by rw [show x_10.toNatClampNeg = y2_1.toNatClampNeg + 1 from by omega]; exact gth_4 hi2_0 (by omega) (Or.inr (by omega))) (by omega) (by omega) hv hfr hP hD hS ls (lv_sub hl [0, 1] rfl)
          · have tc_9 : x_8.toInt < (4 : Int32).toInt := Int32.lt_iff_toInt_lt.mp (Int32.not_le.mp c_9)
            refine lv_aload_n hx hb dX8_makePlan_38 rfl (lv_at hl 1 rfl) ?_
            refine va_get (D := (dC, dI)) (ci := 8) (v := .ref (ad 4)) (C := RX8) (T := TX8) (N := 11) hx hb hts (by decide +kernel) hown hK hP (0) (wm_at (by decide) rc_0) rfl 6 (by decide) (hts (.fieldLink RX8 23 "QuietStairsModel" "planned" "[I") (by decide +kernel)) (fun _ h9 => h9) rfl dX8_makePlan_39 ?_
            refine lv_aload_n hx hb dX8_makePlan_42 rfl (lv_at hl 1 rfl) ?_
            refine va_get (D := (dC, dI)) (ci := 8) (v := .int (u2 0 5)) (C := RX8) (T := TX8) (N := 11) hx hb hts (by decide +kernel) hown hK hP (0) (wm_at (by decide) rc_0) rfl 5 (by decide) (hts (.fieldLink RX8 79 "QuietStairsModel" "many" "I") (by decide +kernel)) (fun _ h9 => h9) rfl dX8_makePlan_43 ?_
            refine lv_topi (fun x_10 ex_10 => ?_)
            obtain rfl : x_8 = x_10 := (ex_10.trans ex_8.symm).symm
            refine lv_iload_n hx hb dX8_makePlan_46 rfl (lv_at hl 0 rfl) ?_
            refine va_iast hx hb hK hP hD hS (4) 0 (wm_at (by decide) rc_4) rfl (vp_in_iff.mpr ⟨by omega, by omega⟩) dX8_makePlan_47 (fun H locs hP hD hS => ?_)
            have zn_x_8 : (x_8.toNatClampNeg : Int) = x_8.toInt := t_nn (by omega)
            obtain ⟨v_11, ev_11⟩ : ∃ u : Nat → Nat → Int32, u = upr u2 4 (upd (u2 4) (x_8.toNatClampNeg) y2_1) := ⟨_, rfl⟩
            have hP : va_P (dC, dI) vwCl (wm ad cy v_11) H := by rw [ev_11, ← wm_put (e := _) rc_4]; exact hP
            have hD : va_D A (wm ad cy v_11) := by rw [ev_11, ← wm_put (e := _) rc_4]; exact hD
            have hv : Ir v_11 := by rw [ev_11]; exact hv.put (k := 4) (fun h q => by rw [(show br 4 _ = some 5 from rfl)] at q; cases q; exact ⟨by omega, by omega⟩)
            have hfr : Fq v v_11 := by rw [ev_11]; exact hfr.row (by decide)
            refine lv_aload_n hx hb dX8_makePlan_48 rfl (lv_at hl 1 rfl) ?_
            refine lv_dup hx hb dX8_makePlan_49 rfl ?_
            refine va_get (D := (dC, dI)) (ci := 8) (v := .int (v_11 0 5)) (C := RX8) (T := TX8) (N := 11) hx hb hts (by decide +kernel) hown hK hP (0) (wm_at (by decide) rc_0) rfl 5 (by decide) (hts (.fieldLink RX8 79 "QuietStairsModel" "many" "I") (by decide +kernel)) (fun _ h9 => h9) rfl dX8_makePlan_50 ?_
            refine lv_topi (fun x_12 ex_12 => ?_)
            rw [ev_11, upr_n (by decide)] at ex_12
            obtain rfl : x_8 = x_12 := (ex_12.trans ex_8.symm).symm
            refine lv_iconst (v := 1) hx hb dX8_makePlan_53 (by decide) ?_
            refine lv_iadd hx hb dX8_makePlan_54 ?_
            refine lv_topi (fun x_13 ex_13 => ?_)
            have tx_13 : x_13.toInt = x_8.toInt + (1 : Int32).toInt := by rw [ex_13]; exact t_add ⟨by omega, by omega⟩
            refine va_put (D := (dC, dI)) (ci := 8) (v := .int x_13) (ty := .int) (C := RX8) (T := TX8) (N := 11) hx hb hts (by decide +kernel) tyX8 tyX8_ok nmX8 hown hK hP hD hS (0) (wm_at (by decide) rc_0) rfl 5 (by decide) (hts (.fieldLink RX8 79 "QuietStairsModel" "many" "I") (by decide +kernel)) (fun _ h9 => h9) rfl (by decide +kernel) rfl rfl (Nat.le_of_ble_eq_true rfl) dX8_makePlan_55 (fun H locs hP hD hS => ?_)
            obtain ⟨v_14, ev_14⟩ : ∃ u : Nat → Nat → Int32, u = upr v_11 0 (upd (v_11 0) 5 x_13) := ⟨_, rfl⟩
            have hP : va_P (dC, dI) vwCl (wm ad cy v_14) H := by rw [ev_14, ← wm_put (e := _) rc_0]; exact hP
            have hD : va_D A (wm ad cy v_14) := by rw [ev_14, ← wm_put (e := _) rc_0]; exact hD
            have hv : Ir v_14 := by rw [ev_14]; exact hv.put (k := 0) (fun h q => by rw [show br 0 5 = some 4 from by decide] at q; cases q; exact ⟨by omega, by omega⟩)
            have hfr : Fq v v_14 := by rw [ev_14]; exact hfr.fld (by decide)
            obtain ⟨x_15, ex_15⟩ : ∃ y : Int32, y = y2_1 + 1 := ⟨_, rfl⟩
            refine lv_iinc (v := x_15) (lv' := [(1, .int x_15), (0, .ref (ad 0))]) hx hb dX8_makePlan_58 hl (k := 0) rfl (by rw [ex_15]; rfl) (by decide) rfl (fun ls hl => ?_)
            have tx_15 : x_15.toInt = y2_1.toInt + (1 : Int32).toInt := by rw [ex_15]; exact t_add ⟨by omega, by omega⟩
            refine lv_goto (tgt := 7) hx hb dX8_makePlan_61 (by decide) ?_
            have zn_x_15 : (x_15.toNatClampNeg : Int) = x_15.toInt := t_nn (by omega)
            have g5 : v_14 0 5 = x_13 := by rw [ev_14, upr_s, pk_us]
            have g4 : v_14 4 = upd (u2 4) (x_8.toNatClampNeg) y2_1 := by rw [ev_14, upr_n (by decide), ev_11, upr_s]
            exact ih_2 x_15 v_14 _ _ (by omega) (by omega) (by rw [show x_15.toNatClampNeg = y2_1.toNatClampNeg + 1 from by omega]; exact gth_s hi2_0 (hst9.mpr (by omega)) (by omega) (by rw [g5]; omega) (fun k hk => by show (v_14 4 k).toInt = (u2 4 k).toInt; rw [g4, pk_un (by omega)]) (fun k hk => by show (v_14 4 k).toInt = _; rw [show k = x_8.toNatClampNeg from by omega, g4, pk_us]; omega)) (by omega) (by omega) hv hfr hP hD hS ls (lv_sub hl [0, 1] rfl)
  exact hc_2 ((6 - (0 : Int32).toInt).toNat + 1) 0 v_1 _ _ (by omega) (by omega) (by rw [show (0 : Int32).toNatClampNeg = 0 from by decide]; exact gth_0 (by rw [ev_1, upr_s, pk_us]; decide)) (by omega) (by omega) hv hfr hP hD hS ls (lv_sub hl [0, 1] rfl)
