
/-- a whole plan noted: the first of those that wait least stays -/
theorem ODO_note {FE : (Nat → Nat) → Nat → Prop} {m : Nat} {w : Nat → Int} {f g B C : Nat → Nat} {L M : Int} (hF : okF FE) (hW : ∀ S : Nat → Nat, pln FE m S → Wt w S m < 1000000) (h : ODO FE m w (m : Int) f L B) (hy : Wt w f m < L → M = Wt w f m ∧ ∀ q : Nat, q < m → C q = f q) (hn : ¬ Wt w f m < L → M = L ∧ C = B) (hg : ∀ i : Nat, i + 1 < m → g i = f i) (hgk : 0 < m → g (m - 1) = f (m - 1) + 1) : ODO FE m w ((m : Int) - 1) g M C := by
  have hpf : pln FE m f := fun k hk => h.2.1 k (by omega)
  have hwf := hW f hpf
  by_cases q : Wt w f m < L
  · obtain ⟨e1, e2⟩ := hy q
    have hC : pln FE m C := fun k hk => hF.1 f C k (fun i hi => (e2 i (by omega)).symm) (hpf k hk)
    have wC : Wt w C m = M := (Wt_cg e2).trans e1.symm
    obtain ⟨h1, h2, ⟨h3, h4⟩, h5⟩ := h
    have pC : 0 < m → psd m ((m : Int) - 1) g C := fun hm => ⟨m - 1, ⟨by omega, by omega⟩, fun x hx => by rw [hg x (by omega)]; exact e2 x (by omega), by rw [hgk hm, e2 (m - 1) (by omega)]; omega⟩
    refine ⟨⟨by omega, by omega⟩, fun i hi => hF.1 f g i (fun x hx => (hg x (by omega)).symm) (h2 i (by omega)), ⟨by omega, fun _ => ⟨⟨hC, wC⟩, fun z => pC (by omega)⟩⟩, fun S hS hp => ?_⟩
    by_cases all : ∀ x : Nat, x < m → S x = f x
    · have eW : Wt w S m = Wt w f m := Wt_cg all
      refine ⟨by omega, fun _ t ht _ => ?_⟩
      rw [e2 t ht, all t ht]
      exact Nat.le_refl _
    · have hp2 : psd m (m : Int) f S := by
        rcases hp with hp | ⟨i, ⟨a0, a1⟩, a2, a3⟩
        · exact absurd (fun x hx => absurd hx (by omega)) all
        · by_cases e3 : i + 1 = m
          · have ei : i = m - 1 := by omega
            by_cases e4 : S i < f i
            · exact ⟨i, ⟨by omega, a1⟩, fun x hx => by rw [a2 x hx, hg x (by omega)], e4⟩
            · rw [ei, hgk (by omega), ← ei] at a3
              refine absurd (fun x hx => ?_) all
              by_cases e5 : x = i
              · rw [e5]
                omega
              · rw [a2 x (by omega), hg x (by omega)]
          · exact ⟨i, ⟨by omega, a1⟩, fun x hx => by rw [a2 x hx, hg x (by omega)], by rw [← hg i (by omega)]; exact a3⟩
      have a := (h5 S hS (Or.inr hp2)).1
      exact ⟨by omega, fun e => by omega⟩
  · obtain ⟨e1, e2⟩ := hn q
    rw [e1, e2]
    refine ODO_dn (k := m) hF (Nat.le_refl m) h (fun hk => absurd hk (Nat.lt_irrefl _)) (fun _ S hS hSf => ?_) (fun _ hl hm => ?_) hg hgk
    · have eW : Wt w S m = Wt w f m := Wt_cg hSf
      refine ⟨by omega, fun el => ?_⟩
      obtain ⟨j, ⟨j1, j2⟩, j3, j4⟩ := (h.2.2.1.2 (by omega)).2 (by omega)
      intro t ht hpre
      rcases Nat.lt_trichotomy t j with x | x | x
      · have := j3 t x
        have := hSf t ht
        omega
      · rw [x]
        have := hSf j j2
        omega
      · have a := hpre j x
        have b := hSf j j2
        omega
    · obtain ⟨j, ⟨j1, j2⟩, j3, j4⟩ := (h.2.2.1.2 hl).2 (by omega)
      by_cases e : j + 1 = m
      · refine ⟨m - 1, ⟨by omega, by omega⟩, fun x hx => by rw [hg x (by omega)]; exact j3 x (by omega), ?_⟩
        rw [hgk hm, ← show j = m - 1 from by omega]
        omega
      · exact ⟨j, ⟨by omega, j2⟩, fun x hx => by rw [hg x (by omega)]; exact j3 x hx, by rw [hg j (by omega)]; exact j4⟩

set_option maxHeartbeats 4000000 in
set_option maxRecDepth 100000 in
theorem e_X8_note (l : Launch) (dC : Nat → ClassId) (dI : Nat → Nat → Nat) (cy : Nat → ClassId) (sz : Nat) (ad : Nat → Nat) (v : Nat → Nat → Int32) (hv : Ir v) (h5 : ∀ q : Nat, (q : Int) < (v 0 5).toInt → 0 ≤ (v 5 q).toInt ∧ (v 5 q).toInt ≤ 18) (hW : ∀ q : Nat, (q : Int) < (v 0 5).toInt → 1 ≤ (v 1 (37 + 7 * (v 4 q).toNatClampNeg)).toInt ∧ (v 1 (37 + 7 * (v 4 q).toNatClampNeg)).toInt ≤ 9) : Met l yX8_note wsX8_note ({ frames := 2, cells := 0, slots := 0, locals := 128 }) (va_Pc [.ref (ad 0)] (ex_Pre dC dI cy sz (wm ad cy v))) (va_Qv (fun (u : Nat → Nat → Int32) => Ir u ∧ Fq v u ∧ (u 5 = v 5 ∧ u 4 = v 4 ∧ u 0 5 = v 0 5) ∧ (Wt (fun k => (v 1 (37 + 7 * (v 4 k).toNatClampNeg)).toInt) (fun q => (v 5 q).toNatClampNeg) (v 0 5).toNatClampNeg < (v 0 9).toInt → (u 0 9).toInt = Wt (fun k => (v 1 (37 + 7 * (v 4 k).toNatClampNeg)).toInt) (fun q => (v 5 q).toNatClampNeg) (v 0 5).toNatClampNeg ∧ ∀ q : Nat, q < (v 0 5).toNatClampNeg → u 6 q = v 5 q) ∧ (¬ Wt (fun k => (v 1 (37 + 7 * (v 4 k).toNatClampNeg)).toInt) (fun q => (v 5 q).toNatClampNeg) (v 0 5).toNatClampNeg < (v 0 9).toInt → u 0 9 = v 0 9 ∧ u 6 = v 6)) (fun u t => ex_Pst dC dI (va_A (wm ad cy v) sz) (wm ad cy u) t) (va_A (wm ad cy v) sz)) 0 0 (va_A (wm ad cy v) sz) := by
  refine Met.ofW (cc := cX8_note) (maxL := 3) (ret := none) (by decide) rfl ?_
  intro p e s m args below meth c s₁ B hml hv
  obtain ⟨rfl, hsz, hE, hP, hK, hD0⟩ := hv
  have hx := B.exec
  have hb := B.bytes
  have hr := B.returns
  have hts := atoms_spec (ws := wsX8_note) B.pre
  have hown : s.vm.findClass RX8 = some m.cls := findClass_of_methodNamed B.named
  have hlocks := B.notSynchronized
  subst hsz
  have hD := hD0.self (sz := s.heap.size)
  generalize hAe : va_A (wm ad cy v) s.heap.size = A at hD ⊢
  have hA : ∀ q : Nat, s.heap.size ≤ q → A q := fun q h => by rw [← hAe]; exact Or.inr h
  have hS : va_S A s.heap s.heap [] := va_S.rf
  have hP : va_P (dC, dI) vwCl (wm ad cy v) s.heap := hP
  have hl := lv_entry ([.ref (ad 0)]) (n := 3) (Nat.le_of_ble_eq_true rfl)
  rw [lg_entry_eq]
  generalize (lg_sl ([.ref (ad 0)]) ++ List.replicate (3 - (lg_sl ([.ref (ad 0)])).length) Slot.unset).toArray = ls at hl ⊢
  have hl : lv_has ls 3 [(0, .ref (ad 0))] := hl
  have hfr : Fq v v := Fq.rf
  have k_0 : (0 : Int32).toInt = 0 := by decide
  have hbn := hv 0 5 4 (by decide)
  refine lv_aload_n hx hb dX8_note_0 rfl (lv_at hl 0 rfl) ?_
  refine lv_aload_n hx hb dX8_note_1 rfl (lv_at hl 0 rfl) ?_
  refine va_get (D := (dC, dI)) (ci := 8) (v := .int (v 0 5)) (C := RX8) (T := TX8) (N := 11) hx hb hts (by decide +kernel) hown hK hP (0) (wm_at (by decide) rc_0) rfl 5 (by decide) (hts (.fieldLink RX8 79 "QuietStairsModel" "many" "I") (by decide +kernel)) (fun _ h9 => h9) rfl dX8_note_2 ?_
  refine lv_topi (fun x_1 ex_1 => ?_)
  have bzx_1 : 0 ≤ x_1.toInt ∧ x_1.toInt ≤ 4 := by rw [ex_1]; exact hv 0 5 4 (by decide)
  have hC9 : x_1.toInt = (v 0 5).toInt := by rw [ex_1]
  refine lv_iconst (v := 1) hx hb dX8_note_5 (by decide) ?_
  refine lv_isub hx hb dX8_note_6 ?_
  refine lv_topi (fun x_2 ex_2 => ?_)
  have k_1 : (1 : Int32).toInt = 1 := by decide
  have tx_2 : x_2.toInt = x_1.toInt - (1 : Int32).toInt := by rw [ex_2]; exact t_sub ⟨by omega, by omega⟩
  refine yw_i (w1 := fun (u : Nat → Nat → Int32) => wm ad cy u) hD hS hA (va_runV (As := [.int x_2]) (rest := []) ⟨hx, hb, hml, hown, hts⟩ (e_X8_waitsOf l dC dI cy _ ad v hv x_2 ⟨by omega, by omega⟩ (fun q hq => h5 q (by omega)) (fun q hq => hW q (by omega))) (cwV 1 hts gX8_note_X8_waitsOf rfl rfl rfl (by decide +kernel) ⟨Nat.le_of_ble_eq_true rfl, Nat.le_of_ble_eq_true rfl⟩) (yw_preV hE hK hP hD (ci := 8) (q0 := 0) rfl (wm_at (by decide) rc_0)) rfl rfl hl.1 rfl (lv_room (Nat.le_of_ble_eq_true rfl)) dX8_note_7 ⟨Nat.le_of_ble_eq_true rfl, Nat.le_of_ble_eq_true rfl⟩) (fun r_3 v_3 H locs hw_3 hP hD hS => ?_)
  obtain ⟨-, hu_3, hw_3⟩ := hw_3
  replace hu_3 := hu_3.symm
  subst hu_3
  obtain ⟨hb9, hr9⟩ := hw_3
  rw [show (x_2.toInt + 1).toNat = (v 0 5).toNatClampNeg from by have z9 := t_nn (x := v 0 5) (by omega); omega] at hr9
  refine lv_istore_n (lv' := [(1, .int r_3), (0, .ref (ad 0))]) hx hb dX8_note_10 rfl hl (by decide) rfl (fun ls hl => ?_)
  refine lv_iload_n hx hb dX8_note_11 rfl (lv_at hl 0 rfl) ?_
  refine lv_aload_n hx hb dX8_note_12 rfl (lv_at hl 1 rfl) ?_
  refine va_get (D := (dC, dI)) (ci := 8) (v := .int (v 0 9)) (C := RX8) (T := TX8) (N := 11) hx hb hts (by decide +kernel) hown hK hP (0) (wm_at (by decide) rc_0) rfl 9 (by decide) (hts (.fieldLink RX8 85 "QuietStairsModel" "least" "I") (by decide +kernel)) (fun _ h9 => h9) rfl dX8_note_13 ?_
  refine lv_topi (fun x_4 ex_4 => ?_)
  have hL9 : x_4.toInt = (v 0 9).toInt := by rw [ex_4]
  refine lv_icmp_ge (tgt := 52) hx hb dX8_note_16 (by decide) (fun c_5 => ?_) (fun c_5 => ?_)
  · have tc_5 : r_3.toInt ≥ x_4.toInt := Int32.le_iff_toInt_le.mp c_5
    exact W.vret hx hb hr (fun t ht hW => ⟨⟨v, rfl, ⟨hv, hfr, ⟨rfl, rfl, rfl⟩, fun q => absurd q (by rw [← hr9]; omega), fun _ => ⟨rfl, rfl⟩⟩, by rw [ht]; exact hP, hD⟩, hS.F ht⟩) hS.2.2 dX8_note_52
  · have tc_5 : r_3.toInt < x_4.toInt := Int32.lt_iff_toInt_lt.mp (Int32.not_le.mp c_5)
    refine lv_aload_n hx hb dX8_note_19 rfl (lv_at hl 1 rfl) ?_
    refine lv_iload_n hx hb dX8_note_20 rfl (lv_at hl 0 rfl) ?_
    refine va_put (D := (dC, dI)) (ci := 8) (v := .int r_3) (ty := .int) (C := RX8) (T := TX8) (N := 11) hx hb hts (by decide +kernel) tyX8 tyX8_ok nmX8 hown hK hP hD hS (0) (wm_at (by decide) rc_0) rfl 9 (by decide) (hts (.fieldLink RX8 85 "QuietStairsModel" "least" "I") (by decide +kernel)) (fun _ h9 => h9) rfl (by decide +kernel) rfl rfl (Nat.le_of_ble_eq_true rfl) dX8_note_21 (fun H locs hP hD hS => ?_)
    obtain ⟨v_6, ev_6⟩ : ∃ u : Nat → Nat → Int32, u = upr v 0 (upd (v 0) 9 r_3) := ⟨_, rfl⟩
    have hP : va_P (dC, dI) vwCl (wm ad cy v_6) H := by rw [ev_6, ← wm_put (e := _) rc_0]; exact hP
    have hD : va_D A (wm ad cy v_6) := by rw [ev_6, ← wm_put (e := _) rc_0]; exact hD
    have hv : Ir v_6 := by rw [ev_6]; exact hv.put (k := 0) (fun h q => by rw [show br 0 9 = none from by decide] at q; cases q)
    have hfr : Fq v v_6 := by rw [ev_6]; exact hfr.fld (by decide)
    refine lv_iconst (v := 0) hx hb dX8_note_24 (by decide) ?_
    refine lv_istore_n (lv' := [(2, .int 0), (1, .int r_3), (0, .ref (ad 0))]) hx hb dX8_note_25 rfl hl (by decide) rfl (fun ls hl => ?_)
    have hc_7 : ∀ (n : Nat) (y7_2 : Int32) (u7 : Nat → Nat → Int32) (H : Heap) (locs : List Loc), 0 ≤ y7_2.toInt → y7_2.toInt ≤ 4 → (∀ k : Nat, k ≠ 6 → u7 k = v_6 k) → (∀ q : Nat, (q : Int) < y7_2.toInt → u7 6 q = v 5 q) → (4 - y7_2.toInt).toNat < n → Ir u7 → Fq v u7 → va_P (dC, dI) vwCl (wm ad cy u7) H → va_D A (wm ad cy u7) → va_S A s.heap H locs → ∀ ls : Array Slot, lv_has ls 3 [(2, .int y7_2), (1, .int r_3), (0, .ref (ad 0))] → W p l e (headSpec wsX8_note ({ frames := 2, cells := 0, slots := 0, locals := 128 })).room s m [Value.ref (ad 0)].toArray below meth c H locs 0 0 (MQ below (va_Qv (fun (u : Nat → Nat → Int32) => Ir u ∧ Fq v u ∧ (u 5 = v 5 ∧ u 4 = v 4 ∧ u 0 5 = v 0 5) ∧ (Wt (fun k => (v 1 (37 + 7 * (v 4 k).toNatClampNeg)).toInt) (fun q => (v 5 q).toNatClampNeg) (v 0 5).toNatClampNeg < (v 0 9).toInt → (u 0 9).toInt = Wt (fun k => (v 1 (37 + 7 * (v 4 k).toNatClampNeg)).toInt) (fun q => (v 5 q).toNatClampNeg) (v 0 5).toNatClampNeg ∧ ∀ q : Nat, q < (v 0 5).toNatClampNeg → u 6 q = v 5 q) ∧ (¬ Wt (fun k => (v 1 (37 + 7 * (v 4 k).toNatClampNeg)).toInt) (fun q => (v 5 q).toNatClampNeg) (v 0 5).toNatClampNeg < (v 0 9).toInt → u 0 9 = v 0 9 ∧ u 6 = v 6)) (fun u t => ex_Pst dC dI A (wm ad cy u) t) A) [Value.ref (ad 0)].toArray s 0 0 A) (F0 m 26 ls []) := by
      intro n
      induction n with
      | zero =>
        intro y7_2 u7 H locs ay7_2 by7_2 hi7_0 hi7_1 hm_7 hv hfr hP hD hS ls hl
        exact absurd hm_7 (by omega)
      | succ n ih_7 =>
        intro y7_2 u7 H locs ay7_2 by7_2 hi7_0 hi7_1 hm_7 hv hfr hP hD hS ls hl
        refine lv_iload_n hx hb dX8_note_26 rfl (lv_at hl 0 rfl) ?_
        refine lv_aload_n hx hb dX8_note_27 rfl (lv_at hl 2 rfl) ?_
        refine va_get (D := (dC, dI)) (ci := 8) (v := .int (u7 0 5)) (C := RX8) (T := TX8) (N := 11) hx hb hts (by decide +kernel) hown hK hP (0) (wm_at (by decide) rc_0) rfl 5 (by decide) (hts (.fieldLink RX8 79 "QuietStairsModel" "many" "I") (by decide +kernel)) (fun _ h9 => h9) rfl dX8_note_28 ?_
        refine lv_topi (fun x_8 ex_8 => ?_)
        have bzx_8 : 0 ≤ x_8.toInt ∧ x_8.toInt ≤ 4 := by rw [ex_8]; exact hv 0 5 4 (by decide)
        have hc9 : x_8.toInt = (v 0 5).toInt := by rw [ex_8, hi7_0 0 (by decide), ev_6, upr_s, pk_un (by decide)]
        refine lv_icmp_ge (tgt := 52) hx hb dX8_note_31 (by decide) (fun c_9 => ?_) (fun c_9 => ?_)
        · have tc_9 : y7_2.toInt ≥ x_8.toInt := Int32.le_iff_toInt_le.mp c_9
          exact W.vret hx hb hr (fun t ht hW => ⟨⟨u7, rfl, ⟨hv, hfr, ⟨by rw [hi7_0 5 (by decide), ev_6, upr_n (by decide)], by rw [hi7_0 4 (by decide), ev_6, upr_n (by decide)], by rw [hi7_0 0 (by decide), ev_6, upr_s, pk_un (by decide)]⟩, fun _ => ⟨by rw [hi7_0 0 (by decide), ev_6, upr_s, pk_us]; exact hr9, fun q hq => hi7_1 q (by have z9 := t_nn (x := v 0 5) (by omega); omega)⟩, fun q => absurd (show Wt (fun k => (v 1 (37 + 7 * (v 4 k).toNatClampNeg)).toInt) (fun q => (v 5 q).toNatClampNeg) (v 0 5).toNatClampNeg < (v 0 9).toInt by rw [← hr9]; omega) q⟩, by rw [ht]; exact hP, hD⟩, hS.F ht⟩) hS.2.2 dX8_note_52
        · have tc_9 : y7_2.toInt < x_8.toInt := Int32.lt_iff_toInt_lt.mp (Int32.not_le.mp c_9)
          refine lv_aload_n hx hb dX8_note_34 rfl (lv_at hl 2 rfl) ?_
          refine va_get (D := (dC, dI)) (ci := 8) (v := .ref (ad 6)) (C := RX8) (T := TX8) (N := 11) hx hb hts (by decide +kernel) hown hK hP (0) (wm_at (by decide) rc_0) rfl 8 (by decide) (hts (.fieldLink RX8 29 "QuietStairsModel" "best" "[I") (by decide +kernel)) (fun _ h9 => h9) rfl dX8_note_35 ?_
          refine lv_iload_n hx hb dX8_note_38 rfl (lv_at hl 0 rfl) ?_
          refine lv_aload_n hx hb dX8_note_39 rfl (lv_at hl 2 rfl) ?_
          refine va_get (D := (dC, dI)) (ci := 8) (v := .ref (ad 5)) (C := RX8) (T := TX8) (N := 11) hx hb hts (by decide +kernel) hown hK hP (0) (wm_at (by decide) rc_0) rfl 7 (by decide) (hts (.fieldLink RX8 26 "QuietStairsModel" "tried" "[I") (by decide +kernel)) (fun _ h9 => h9) rfl dX8_note_40 ?_
          refine lv_iload_n hx hb dX8_note_43 rfl (lv_at hl 0 rfl) ?_
          have zn_y7_2 : (y7_2.toNatClampNeg : Int) = y7_2.toInt := t_nn (by omega)
          refine va_iald hx hb hK hP (5) 0 (wm_at (by decide) rc_5) rfl (vp_in_iff.mpr ⟨by omega, by omega⟩) dX8_note_44 ?_
          refine lv_topi (fun x_10 ex_10 => ?_)
          have qx_10 : x_10.toInt = (u7 5 (y7_2.toNatClampNeg)).toInt := congrArg Int32.toInt ex_10
          have ht9 : x_10 = v 5 y7_2.toNatClampNeg := by rw [ex_10, hi7_0 5 (by decide), ev_6, upr_n (by decide)]
          refine va_iast hx hb hK hP hD hS (6) 0 (wm_at (by decide) rc_6) rfl (vp_in_iff.mpr ⟨by omega, by omega⟩) dX8_note_45 (fun H locs hP hD hS => ?_)
          obtain ⟨v_11, ev_11⟩ : ∃ u : Nat → Nat → Int32, u = upr u7 6 (upd (u7 6) (y7_2.toNatClampNeg) x_10) := ⟨_, rfl⟩
          have hP : va_P (dC, dI) vwCl (wm ad cy v_11) H := by rw [ev_11, ← wm_put (e := _) rc_6]; exact hP
          have hD : va_D A (wm ad cy v_11) := by rw [ev_11, ← wm_put (e := _) rc_6]; exact hD
          have hv : Ir v_11 := by rw [ev_11]; exact hv.put (k := 6) (fun h q => by rw [(show br 6 _ = none from rfl)] at q; cases q)
          have hfr : Fq v v_11 := by rw [ev_11]; exact hfr.row (by decide)
          obtain ⟨x_12, ex_12⟩ : ∃ y : Int32, y = y7_2 + 1 := ⟨_, rfl⟩
          refine lv_iinc (v := x_12) (lv' := [(2, .int x_12), (1, .int r_3), (0, .ref (ad 0))]) hx hb dX8_note_46 hl (k := 0) rfl (by rw [ex_12]; rfl) (by decide) rfl (fun ls hl => ?_)
          have tx_12 : x_12.toInt = y7_2.toInt + (1 : Int32).toInt := by rw [ex_12]; exact t_add ⟨by omega, by omega⟩
          refine lv_goto (tgt := 26) hx hb dX8_note_49 (by decide) ?_
          exact ih_7 x_12 v_11 _ _ (by omega) (by omega) (fun k h => by rw [ev_11, upr_n h]; exact hi7_0 k h) (fun q hq => by rw [ev_11, upr_s]; by_cases e : q = y7_2.toNatClampNeg; rw [e, pk_us]; exact ht9; rw [pk_un e]; exact hi7_1 q (by omega)) (by omega) hv hfr hP hD hS ls (lv_sub hl [0, 1, 2] rfl)
    exact hc_7 ((4 - (0 : Int32).toInt).toNat + 1) 0 v_6 _ _ (by omega) (by omega) (fun _ _ => rfl) (fun q hq => absurd hq (by omega)) (by omega) hv hfr hP hD hS ls (lv_sub hl [0, 1, 2] rfl)
