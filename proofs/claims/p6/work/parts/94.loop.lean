set_option maxRecDepth 20000 in
theorem db_L_law_18 : (decode cL_law 18 = .ok (.iload_n 3, 1)) ∧ (decode cL_law 19 = .ok (.aload_n 0, 1)) ∧ (decode cL_law 20 = .ok (.arraylength, 1)) ∧ (decode cL_law 21 = .ok (.bipush 7, 2)) ∧ (decode cL_law 23 = .ok (.isub, 1)) ∧ (decode cL_law 24 = .ok (.if_icmp .gt 1042, 3)) ∧ (decode cL_law 1066 = .ok (.iconst 1, 1)) ∧ (decode cL_law 1067 = .ok (.ireturn, 1)) := by decide +kernel
theorem dL_law_18 : decode cL_law 18 = .ok (.iload_n 3, 1) := db_L_law_18.1
theorem dL_law_19 : decode cL_law 19 = .ok (.aload_n 0, 1) := db_L_law_18.2.1
theorem dL_law_20 : decode cL_law 20 = .ok (.arraylength, 1) := db_L_law_18.2.2.1
theorem dL_law_21 : decode cL_law 21 = .ok (.bipush 7, 2) := db_L_law_18.2.2.2.1
theorem dL_law_23 : decode cL_law 23 = .ok (.isub, 1) := db_L_law_18.2.2.2.2.1
theorem dL_law_24 : decode cL_law 24 = .ok (.if_icmp .gt 1042, 3) := db_L_law_18.2.2.2.2.2.1
theorem dL_law_1066 : decode cL_law 1066 = .ok (.iconst 1, 1) := db_L_law_18.2.2.2.2.2.2.1
theorem dL_law_1067 : decode cL_law 1067 = .ok (.ireturn, 1) := db_L_law_18.2.2.2.2.2.2.2
set_option maxRecDepth 20000 in
theorem db_L_law_27 : (decode cL_law 27 = .ok (.aload_n 0, 1)) ∧ (decode cL_law 28 = .ok (.iload_n 3, 1)) ∧ (decode cL_law 29 = .ok (.iaload, 1)) ∧ (decode cL_law 30 = .ok (.bipush 31, 2)) ∧ (decode cL_law 32 = .ok (.iand, 1)) ∧ (decode cL_law 1060 = .ok (.iinc 3 7, 3)) ∧ (decode cL_law 1063 = .ok (.goto (-1045), 3)) ∧ (decode cL_law 33 = .ok (.tableswitch 1027 0 25 #[119, 152, 185, 244, 277, 300, 333, 366, 399, 442, 475, 544, 577, 600, 623, 636, 727, 750, 793, 826, 859, 892, 945, 978, 1001, 1014], 119)) := by decide +kernel
theorem dL_law_27 : decode cL_law 27 = .ok (.aload_n 0, 1) := db_L_law_27.1
theorem dL_law_28 : decode cL_law 28 = .ok (.iload_n 3, 1) := db_L_law_27.2.1
theorem dL_law_29 : decode cL_law 29 = .ok (.iaload, 1) := db_L_law_27.2.2.1
theorem dL_law_30 : decode cL_law 30 = .ok (.bipush 31, 2) := db_L_law_27.2.2.2.1
theorem dL_law_32 : decode cL_law 32 = .ok (.iand, 1) := db_L_law_27.2.2.2.2.1
theorem dL_law_1060 : decode cL_law 1060 = .ok (.iinc 3 7, 3) := db_L_law_27.2.2.2.2.2.1
theorem dL_law_1063 : decode cL_law 1063 = .ok (.goto (-1045), 3) := db_L_law_27.2.2.2.2.2.2.1
theorem dL_law_33 : decode cL_law 33 = .ok (.tableswitch 1027 0 25 #[119, 152, 185, 244, 277, 300, 333, 366, 399, 442, 475, 544, 577, 600, 623, 636, 727, 750, 793, 826, 859, 892, 945, 978, 1001, 1014], 119) := db_L_law_27.2.2.2.2.2.2.2
set_option maxHeartbeats 4000000 in
set_option maxRecDepth 100000 in
theorem law_k {p : Program} {l : Launch} {e : Env} {s : State} {m : MethodId} {below : List Frame} {meth : Method} {c : Code} {dC : Nat → ClassId} {dI : Nat → Nat → Nat} {cy : Nat → ClassId} {b L : Nat} {xs : Nat → Int32} (C0 : lw_At p s m meth c b L xs) {t1 t2 : Nat} (hSt : ex_St t1 t2 (fun q : Nat => s.heap.size ≤ q) s) (hE : ex_K s) (hK : va_K (dC, dI) vwCl (ty_L cy) s) (hL : L ≤ 3584) {ad ad2 : Nat → Nat} : ∀ (n : Nat) (v v2 : Nat → Nat → Int32) (i : Int32) (H : Heap) (locs : List Loc) (ls : Array Slot), Iv v → Ir v2 → RR 1 v v2 → 0 ≤ i.toInt → i.toInt ≤ 3584 → (3584 - i.toInt).toNat < n → va_P (dC, dI) vwCl (wl ad (.ref (ad 119)) cy 225 v ++ wm ad2 cy v2) H → va_D (fun q : Nat => s.heap.size ≤ q) (wl ad (.ref (ad 119)) cy 225 v ++ wm ad2 cy v2) → va_S (fun q : Nat => s.heap.size ≤ q) s.heap H locs → lv_has ls 4 [(3, .int i), (2, .ref (ad2 0)), (1, .ref (ad 0)), (0, .ref b)] → W p l e room_1 s m #[Value.ref b] below meth c H locs 233 2677 (lw_Z below #[Value.ref b] s) (F0 m 18 ls []) := by
  intro n
  induction n with
  | zero =>
    intro v v2 i H locs ls hv hq hJ hi1 hi2 hm hP hD hS hl
    exact absurd hm (by omega)
  | succ n ih =>
    intro v v2 i H locs ls hv hq hJ hi1 hi2 hm hP hD hS hl
    obtain ⟨hx, hb, hr, hml, hown, hts0, hX, hbl, hlocks, hgv⟩ := id C0
    have hts : ∀ w ∈ wsL_law, w.before #[Value.ref b] s = true := fun w h => hts0 w (wsL_law_in w h)
    have hown : s.vm.findClass RL = some m.cls := hown
    have hA : ∀ q : Nat, s.heap.size ≤ q → (fun q : Nat => s.heap.size ≤ q) q := fun _ h => h
    have hbA : ¬ (fun q : Nat => s.heap.size ≤ q) b := Nat.not_le.mpr hbl
    refine lv_iload_n hx hb dL_law_18 rfl (lv_at hl 0 rfl) ?_
    refine lv_aload_n hx hb dL_law_19 rfl (lv_at hl 3 rfl) ?_
    refine va_slen hx hb hX hbl hbA hS dL_law_20 ?_
    refine lv_bipush (v := 7) hx hb dL_law_21 (by decide) ?_
    refine lv_isub hx hb dL_law_23 ?_
    refine lv_topi (fun x9 ex9 => ?_)
    have k7 : (7 : Int32).toInt = 7 := by decide
    have eL : (Int32.ofNat L).toInt = (L : Int) := Int32.toInt_ofNat_of_lt (by omega)
    have t9 : x9.toInt = (L : Int) - 7 := by rw [ex9, t_sub (by rw [eL, k7]; omega), eL, k7]
    refine lv_icmp_gt (tgt := 1066) hx hb dL_law_24 (by decide) (fun _ => ?_) (fun c9 => ?_)
    · refine lv_iconst (v := 1) hx hb dL_law_1066 (by decide) ?_
      refine va_forget (fun q hq => hS.2.2 q hq) ?_
      refine W.widen (k := 656374) (n := 7133126) (Nat.le_of_ble_eq_true rfl) (Nat.le_of_ble_eq_true rfl) ?_
      exact lw_ret hx hb hr hlocks dL_law_1067
    · have tc := Int32.le_iff_toInt_le.mp (Int32.not_lt.mp c9)
      have hi : 0 ≤ i.toInt ∧ i.toInt + 7 ≤ (L : Int) := ⟨hi1, by omega⟩
      refine lv_aload_n hx hb dL_law_27 rfl (lv_at hl 3 rfl) ?_
      refine lv_iload_n hx hb dL_law_28 rfl (lv_at hl 0 rfl) ?_
      refine va_sld hx hb hX hbl hbA hS (vp_in_iff.mpr ⟨by omega, by omega⟩) dL_law_29 ?_
      refine lv_topi (fun x3 ex3 => ?_)
      refine lv_bipush (v := 31) hx hb dL_law_30 (by decide) ?_
      refine lv_iand hx hb dL_law_32 ?_
      refine lv_topi (fun x4 ex4 => ?_)
      obtain ⟨y, ey⟩ : ∃ y : Int32, y = i + 7 := ⟨_, rfl⟩
      have ty : y.toInt = i.toInt + 7 := by rw [ey, t_add (by rw [k7]; omega), k7]
      have kk : ∀ (v1 v3 : Nat → Nat → Int32) (H1 : Heap) (locs1 : List Loc) (ls1 : Array Slot), Iv v1 → Ir v3 → RR 1 v1 v3 → va_P (dC, dI) vwCl (wl ad (.ref (ad 119)) cy 225 v1 ++ wm ad2 cy v3) H1 → va_D (fun q : Nat => s.heap.size ≤ q) (wl ad (.ref (ad 119)) cy 225 v1 ++ wm ad2 cy v3) → va_S (fun q : Nat => s.heap.size ≤ q) s.heap H1 locs1 → lv_has ls1 4 [(3, .int i), (2, .ref (ad2 0)), (1, .ref (ad 0)), (0, .ref b)] → W p l e room_1 s m #[Value.ref b] below meth c H1 locs1 233 2677 (lw_Z below #[Value.ref b] s) (F0 m 1060 ls1 []) := by
        intro v1 v3 H1 locs1 ls1 hv1 hq1 hJ1 hP1 hD1 hS1 hl1
        refine lv_iinc (v := y) (lv' := [(3, .int y), (2, .ref (ad2 0)), (1, .ref (ad 0)), (0, .ref b)]) hx hb dL_law_1060 hl1 (k := 0) rfl (by rw [ey]; rfl) (by decide) rfl (fun ls hl => ?_)
        refine lv_goto (tgt := 18) hx hb dL_law_1063 (by decide) ?_
        exact ih v1 v3 y _ _ ls hv1 hq1 hJ1 (by omega) (by omega) (by omega) hP1 hD1 hS1 hl
      have hcs : 233 ≤ room_1.cells ∧ 2677 ≤ room_1.slots := by decide
      rcases sw_26 x4 with hsw | rfl | rfl | rfl | rfl | rfl | rfl | rfl | rfl | rfl | rfl | rfl | rfl | rfl | rfl | rfl | rfl | rfl | rfl | rfl | rfl | rfl | rfl | rfl | rfl | rfl | rfl
      · refine lv_tableOut (tgt := 1060) hx hb dL_law_33 hsw (by decide) ?_
        exact kk v v2 H locs ls hv hq hJ hP hD hS hl
      · refine lv_tableIn (off := 119) (tgt := 152) hx hb dL_law_33 (by decide) (by decide) (by decide) (by decide) ?_
        exact lc_0 C0 hSt hE hK hL (by decide) hv hq hJ hi hcs hP hD hS ls hl kk
      · refine lv_tableIn (off := 152) (tgt := 185) hx hb dL_law_33 (by decide) (by decide) (by decide) (by decide) ?_
        exact lc_1 C0 hSt hE hK hL (by decide) hv hq hJ hi hcs hP hD hS ls hl kk
      · refine lv_tableIn (off := 185) (tgt := 218) hx hb dL_law_33 (by decide) (by decide) (by decide) (by decide) ?_
        exact lc_2 C0 hSt hE hK hL (by decide) hv hq hJ hi hcs hP hD hS ls hl kk
      · refine lv_tableIn (off := 244) (tgt := 277) hx hb dL_law_33 (by decide) (by decide) (by decide) (by decide) ?_
        exact lc_3 C0 hSt hE hK hL (by decide) hv hq hJ hi hcs hP hD hS ls hl kk
      · refine lv_tableIn (off := 277) (tgt := 310) hx hb dL_law_33 (by decide) (by decide) (by decide) (by decide) ?_
        exact lc_4 C0 hSt hE hK hL (by decide) hv hq hJ hi hcs hP hD hS ls hl kk
      · refine lv_tableIn (off := 300) (tgt := 333) hx hb dL_law_33 (by decide) (by decide) (by decide) (by decide) ?_
        exact lc_5 C0 hSt hE hK hL (by decide) hv hq hJ hi hcs hP hD hS ls hl kk
      · refine lv_tableIn (off := 333) (tgt := 366) hx hb dL_law_33 (by decide) (by decide) (by decide) (by decide) ?_
        exact lc_6 C0 hSt hE hK hL (by decide) hv hq hJ hi hcs hP hD hS ls hl kk
      · refine lv_tableIn (off := 366) (tgt := 399) hx hb dL_law_33 (by decide) (by decide) (by decide) (by decide) ?_
        exact lc_7 C0 hSt hE hK hL (by decide) hv hq hJ hi hcs hP hD hS ls hl kk
      · refine lv_tableIn (off := 399) (tgt := 432) hx hb dL_law_33 (by decide) (by decide) (by decide) (by decide) ?_
        exact lc_8 C0 hSt hE hK hL (by decide) hv hq hJ hi hcs hP hD hS ls hl kk
      · refine lv_tableIn (off := 442) (tgt := 475) hx hb dL_law_33 (by decide) (by decide) (by decide) (by decide) ?_
        exact lc_9 C0 hSt hE hK hL (by decide) hv hq hJ hi hcs hP hD hS ls hl kk
      · refine lv_tableIn (off := 475) (tgt := 508) hx hb dL_law_33 (by decide) (by decide) (by decide) (by decide) ?_
        exact lc_10 C0 hSt hE hK hL (by decide) hv hq hJ hi hcs hP hD hS ls hl kk
      · refine lv_tableIn (off := 544) (tgt := 577) hx hb dL_law_33 (by decide) (by decide) (by decide) (by decide) ?_
        exact lc_11 C0 hSt hE hK hL (by decide) hv hq hJ hi hcs hP hD hS ls hl kk
      · refine lv_tableIn (off := 577) (tgt := 610) hx hb dL_law_33 (by decide) (by decide) (by decide) (by decide) ?_
        exact lc_12 C0 hSt hE hK hL (by decide) hv hq hJ hi hcs hP hD hS ls hl kk
      · refine lv_tableIn (off := 600) (tgt := 633) hx hb dL_law_33 (by decide) (by decide) (by decide) (by decide) ?_
        exact lc_13 C0 hSt hE hK hL (by decide) hv hq hJ hi hcs hP hD hS ls hl kk
      · refine lv_tableIn (off := 623) (tgt := 656) hx hb dL_law_33 (by decide) (by decide) (by decide) (by decide) ?_
        exact lc_14 C0 hSt hE hK hL (by decide) hv hq hJ hi hcs hP hD hS ls hl kk
      · refine lv_tableIn (off := 636) (tgt := 669) hx hb dL_law_33 (by decide) (by decide) (by decide) (by decide) ?_
        exact lc_15 C0 hSt hE hK hL (by decide) hv hq hJ hi hcs hP hD hS ls hl kk
      · refine lv_tableIn (off := 727) (tgt := 760) hx hb dL_law_33 (by decide) (by decide) (by decide) (by decide) ?_
        exact lc_16 C0 hSt hE hK hL (by decide) hv hq hJ hi hcs hP hD hS ls hl kk
      · refine lv_tableIn (off := 750) (tgt := 783) hx hb dL_law_33 (by decide) (by decide) (by decide) (by decide) ?_
        exact lc_17 C0 hSt hE hK hL (by decide) hv hq hJ hi hcs hP hD hS ls hl kk
      · refine lv_tableIn (off := 793) (tgt := 826) hx hb dL_law_33 (by decide) (by decide) (by decide) (by decide) ?_
        exact lc_18 C0 hSt hE hK hL (by decide) hv hq hJ hi hcs hP hD hS ls hl kk
      · refine lv_tableIn (off := 826) (tgt := 859) hx hb dL_law_33 (by decide) (by decide) (by decide) (by decide) ?_
        exact lc_19 C0 hSt hE hK hL (by decide) hv hq hJ hi hcs hP hD hS ls hl kk
      · refine lv_tableIn (off := 859) (tgt := 892) hx hb dL_law_33 (by decide) (by decide) (by decide) (by decide) ?_
        exact lc_20 C0 hSt hE hK hL (by decide) hv hq hJ hi hcs hP hD hS ls hl kk
      · refine lv_tableIn (off := 892) (tgt := 925) hx hb dL_law_33 (by decide) (by decide) (by decide) (by decide) ?_
        exact lc_21 C0 hSt hE hK hL (by decide) hv hq hJ hi hcs hP hD hS ls hl kk
      · refine lv_tableIn (off := 945) (tgt := 978) hx hb dL_law_33 (by decide) (by decide) (by decide) (by decide) ?_
        exact lc_22 C0 hSt hE hK hL (by decide) hv hq hJ hi hcs hP hD hS ls hl kk
      · refine lv_tableIn (off := 978) (tgt := 1011) hx hb dL_law_33 (by decide) (by decide) (by decide) (by decide) ?_
        exact lc_23 C0 hSt hE hK hL (by decide) hv hq hJ hi hcs hP hD hS ls hl kk
      · refine lv_tableIn (off := 1001) (tgt := 1034) hx hb dL_law_33 (by decide) (by decide) (by decide) (by decide) ?_
        exact lc_24k C0 hSt hE hK hL (by decide) (by decide) hv hq hJ hi hcs hP hD hS ls hl kk
      · refine lv_tableIn (off := 1014) (tgt := 1047) hx hb dL_law_33 (by decide) (by decide) (by decide) (by decide) ?_
        exact lc_25k C0 hSt hE hK hL (by decide) (by decide) hv hq hJ hi hcs hP hD hS ls hl kk

set_option maxHeartbeats 4000000 in
set_option maxRecDepth 100000 in
theorem law_n {p : Program} {l : Launch} {e : Env} {s : State} {m : MethodId} {below : List Frame} {meth : Method} {c : Code} {dC : Nat → ClassId} {dI : Nat → Nat → Nat} {cy : Nat → ClassId} {b L : Nat} {xs : Nat → Int32} (C0 : lw_At p s m meth c b L xs) {t1 t2 : Nat} (hSt : ex_St t1 t2 (fun q : Nat => s.heap.size ≤ q) s) (hE : ex_K s) (hK : va_K (dC, dI) vwCl (ty_L cy) s) (hL : L ≤ 3584) {ad ad2 : Nat → Nat} : ∀ (n : Nat) (v v2 : Nat → Nat → Int32) (i : Int32) (H : Heap) (locs : List Loc) (ls : Array Slot), Iv v → Ir v2 → RR 0 v v2 → 0 ≤ i.toInt → i.toInt ≤ 3584 → (3584 - i.toInt).toNat < n → va_P (dC, dI) vwCl (wl ad .null cy 119 v ++ wm ad2 cy v2) H → va_D (fun q : Nat => s.heap.size ≤ q) (wl ad .null cy 119 v ++ wm ad2 cy v2) → va_S (fun q : Nat => s.heap.size ≤ q) s.heap H locs → lv_has ls 4 [(3, .int i), (2, .ref (ad2 0)), (1, .ref (ad 0)), (0, .ref b)] → W p l e room_1 s m #[Value.ref b] below meth c H locs 127 1982 (lw_Z below #[Value.ref b] s) (F0 m 18 ls []) := by
  intro n
  induction n with
  | zero =>
    intro v v2 i H locs ls hv hq hJ hi1 hi2 hm hP hD hS hl
    exact absurd hm (by omega)
  | succ n ih =>
    intro v v2 i H locs ls hv hq hJ hi1 hi2 hm hP hD hS hl
    obtain ⟨hx, hb, hr, hml, hown, hts0, hX, hbl, hlocks, hgv⟩ := id C0
    have hts : ∀ w ∈ wsL_law, w.before #[Value.ref b] s = true := fun w h => hts0 w (wsL_law_in w h)
    have hown : s.vm.findClass RL = some m.cls := hown
    have hA : ∀ q : Nat, s.heap.size ≤ q → (fun q : Nat => s.heap.size ≤ q) q := fun _ h => h
    have hbA : ¬ (fun q : Nat => s.heap.size ≤ q) b := Nat.not_le.mpr hbl
    refine lv_iload_n hx hb dL_law_18 rfl (lv_at hl 0 rfl) ?_
    refine lv_aload_n hx hb dL_law_19 rfl (lv_at hl 3 rfl) ?_
    refine va_slen hx hb hX hbl hbA hS dL_law_20 ?_
    refine lv_bipush (v := 7) hx hb dL_law_21 (by decide) ?_
    refine lv_isub hx hb dL_law_23 ?_
    refine lv_topi (fun x9 ex9 => ?_)
    have k7 : (7 : Int32).toInt = 7 := by decide
    have eL : (Int32.ofNat L).toInt = (L : Int) := Int32.toInt_ofNat_of_lt (by omega)
    have t9 : x9.toInt = (L : Int) - 7 := by rw [ex9, t_sub (by rw [eL, k7]; omega), eL, k7]
    refine lv_icmp_gt (tgt := 1066) hx hb dL_law_24 (by decide) (fun _ => ?_) (fun c9 => ?_)
    · refine lv_iconst (v := 1) hx hb dL_law_1066 (by decide) ?_
      refine va_forget (fun q hq => hS.2.2 q hq) ?_
      refine W.widen (k := 656374) (n := 7133126) (Nat.le_of_ble_eq_true rfl) (Nat.le_of_ble_eq_true rfl) ?_
      exact lw_ret hx hb hr hlocks dL_law_1067
    · have tc := Int32.le_iff_toInt_le.mp (Int32.not_lt.mp c9)
      have hi : 0 ≤ i.toInt ∧ i.toInt + 7 ≤ (L : Int) := ⟨hi1, by omega⟩
      refine lv_aload_n hx hb dL_law_27 rfl (lv_at hl 3 rfl) ?_
      refine lv_iload_n hx hb dL_law_28 rfl (lv_at hl 0 rfl) ?_
      refine va_sld hx hb hX hbl hbA hS (vp_in_iff.mpr ⟨by omega, by omega⟩) dL_law_29 ?_
      refine lv_topi (fun x3 ex3 => ?_)
      refine lv_bipush (v := 31) hx hb dL_law_30 (by decide) ?_
      refine lv_iand hx hb dL_law_32 ?_
      refine lv_topi (fun x4 ex4 => ?_)
      obtain ⟨y, ey⟩ : ∃ y : Int32, y = i + 7 := ⟨_, rfl⟩
      have ty : y.toInt = i.toInt + 7 := by rw [ey, t_add (by rw [k7]; omega), k7]
      have kk : ∀ (v1 v3 : Nat → Nat → Int32) (H1 : Heap) (locs1 : List Loc) (ls1 : Array Slot), Iv v1 → Ir v3 → RR 0 v1 v3 → va_P (dC, dI) vwCl (wl ad .null cy 119 v1 ++ wm ad2 cy v3) H1 → va_D (fun q : Nat => s.heap.size ≤ q) (wl ad .null cy 119 v1 ++ wm ad2 cy v3) → va_S (fun q : Nat => s.heap.size ≤ q) s.heap H1 locs1 → lv_has ls1 4 [(3, .int i), (2, .ref (ad2 0)), (1, .ref (ad 0)), (0, .ref b)] → W p l e room_1 s m #[Value.ref b] below meth c H1 locs1 127 1982 (lw_Z below #[Value.ref b] s) (F0 m 1060 ls1 []) := by
        intro v1 v3 H1 locs1 ls1 hv1 hq1 hJ1 hP1 hD1 hS1 hl1
        refine lv_iinc (v := y) (lv' := [(3, .int y), (2, .ref (ad2 0)), (1, .ref (ad 0)), (0, .ref b)]) hx hb dL_law_1060 hl1 (k := 0) rfl (by rw [ey]; rfl) (by decide) rfl (fun ls hl => ?_)
        refine lv_goto (tgt := 18) hx hb dL_law_1063 (by decide) ?_
        exact ih v1 v3 y _ _ ls hv1 hq1 hJ1 (by omega) (by omega) (by omega) hP1 hD1 hS1 hl
      have kk3 : ∀ (ad3 : Nat → Nat) (v1 v3 : Nat → Nat → Int32) (H1 : Heap) (locs1 : List Loc) (ls1 : Array Slot), Iv v1 → Ir v3 → RR 1 v1 v3 → va_P (dC, dI) vwCl (wl ad3 (.ref (ad3 119)) cy 225 v1 ++ wm ad2 cy v3) H1 → va_D (fun q : Nat => s.heap.size ≤ q) (wl ad3 (.ref (ad3 119)) cy 225 v1 ++ wm ad2 cy v3) → va_S (fun q : Nat => s.heap.size ≤ q) s.heap H1 locs1 → lv_has ls1 4 [(3, .int i), (2, .ref (ad2 0)), (1, .ref (ad3 0)), (0, .ref b)] → W p l e room_1 s m #[Value.ref b] below meth c H1 locs1 233 2677 (lw_Z below #[Value.ref b] s) (F0 m 1060 ls1 []) := by
        intro ad3 v1 v3 H1 locs1 ls1 hv1 hq1 hJ1 hP1 hD1 hS1 hl1
        refine lv_iinc (v := y) (lv' := [(3, .int y), (2, .ref (ad2 0)), (1, .ref (ad3 0)), (0, .ref b)]) hx hb dL_law_1060 hl1 (k := 0) rfl (by rw [ey]; rfl) (by decide) rfl (fun ls hl => ?_)
        refine lv_goto (tgt := 18) hx hb dL_law_1063 (by decide) ?_
        exact law_k C0 hSt hE hK hL (ad := ad3) (3584 + 1) v1 v3 y _ _ ls hv1 hq1 hJ1 (by omega) (by omega) (by omega) hP1 hD1 hS1 hl
      have hcs : 127 ≤ room_1.cells ∧ 1982 ≤ room_1.slots := by decide
      rcases sw_26 x4 with hsw | rfl | rfl | rfl | rfl | rfl | rfl | rfl | rfl | rfl | rfl | rfl | rfl | rfl | rfl | rfl | rfl | rfl | rfl | rfl | rfl | rfl | rfl | rfl | rfl | rfl | rfl
      · refine lv_tableOut (tgt := 1060) hx hb dL_law_33 hsw (by decide) ?_
        exact kk v v2 H locs ls hv hq hJ hP hD hS hl
      · refine lv_tableIn (off := 119) (tgt := 152) hx hb dL_law_33 (by decide) (by decide) (by decide) (by decide) ?_
        exact lc_0 C0 hSt hE hK hL (by decide) hv hq hJ hi hcs hP hD hS ls hl kk
      · refine lv_tableIn (off := 152) (tgt := 185) hx hb dL_law_33 (by decide) (by decide) (by decide) (by decide) ?_
        exact lc_1 C0 hSt hE hK hL (by decide) hv hq hJ hi hcs hP hD hS ls hl kk
      · refine lv_tableIn (off := 185) (tgt := 218) hx hb dL_law_33 (by decide) (by decide) (by decide) (by decide) ?_
        exact lc_2 C0 hSt hE hK hL (by decide) hv hq hJ hi hcs hP hD hS ls hl kk
      · refine lv_tableIn (off := 244) (tgt := 277) hx hb dL_law_33 (by decide) (by decide) (by decide) (by decide) ?_
        exact lc_3 C0 hSt hE hK hL (by decide) hv hq hJ hi hcs hP hD hS ls hl kk
      · refine lv_tableIn (off := 277) (tgt := 310) hx hb dL_law_33 (by decide) (by decide) (by decide) (by decide) ?_
        exact lc_4 C0 hSt hE hK hL (by decide) hv hq hJ hi hcs hP hD hS ls hl kk
      · refine lv_tableIn (off := 300) (tgt := 333) hx hb dL_law_33 (by decide) (by decide) (by decide) (by decide) ?_
        exact lc_5 C0 hSt hE hK hL (by decide) hv hq hJ hi hcs hP hD hS ls hl kk
      · refine lv_tableIn (off := 333) (tgt := 366) hx hb dL_law_33 (by decide) (by decide) (by decide) (by decide) ?_
        exact lc_6 C0 hSt hE hK hL (by decide) hv hq hJ hi hcs hP hD hS ls hl kk
      · refine lv_tableIn (off := 366) (tgt := 399) hx hb dL_law_33 (by decide) (by decide) (by decide) (by decide) ?_
        exact lc_7 C0 hSt hE hK hL (by decide) hv hq hJ hi hcs hP hD hS ls hl kk
      · refine lv_tableIn (off := 399) (tgt := 432) hx hb dL_law_33 (by decide) (by decide) (by decide) (by decide) ?_
        exact lc_8 C0 hSt hE hK hL (by decide) hv hq hJ hi hcs hP hD hS ls hl kk
      · refine lv_tableIn (off := 442) (tgt := 475) hx hb dL_law_33 (by decide) (by decide) (by decide) (by decide) ?_
        exact lc_9 C0 hSt hE hK hL (by decide) hv hq hJ hi hcs hP hD hS ls hl kk
      · refine lv_tableIn (off := 475) (tgt := 508) hx hb dL_law_33 (by decide) (by decide) (by decide) (by decide) ?_
        exact lc_10 C0 hSt hE hK hL (by decide) hv hq hJ hi hcs hP hD hS ls hl kk
      · refine lv_tableIn (off := 544) (tgt := 577) hx hb dL_law_33 (by decide) (by decide) (by decide) (by decide) ?_
        exact lc_11 C0 hSt hE hK hL (by decide) hv hq hJ hi hcs hP hD hS ls hl kk
      · refine lv_tableIn (off := 577) (tgt := 610) hx hb dL_law_33 (by decide) (by decide) (by decide) (by decide) ?_
        exact lc_12 C0 hSt hE hK hL (by decide) hv hq hJ hi hcs hP hD hS ls hl kk
      · refine lv_tableIn (off := 600) (tgt := 633) hx hb dL_law_33 (by decide) (by decide) (by decide) (by decide) ?_
        exact lc_13 C0 hSt hE hK hL (by decide) hv hq hJ hi hcs hP hD hS ls hl kk
      · refine lv_tableIn (off := 623) (tgt := 656) hx hb dL_law_33 (by decide) (by decide) (by decide) (by decide) ?_
        exact lc_14 C0 hSt hE hK hL (by decide) hv hq hJ hi hcs hP hD hS ls hl kk
      · refine lv_tableIn (off := 636) (tgt := 669) hx hb dL_law_33 (by decide) (by decide) (by decide) (by decide) ?_
        exact lc_15 C0 hSt hE hK hL (by decide) hv hq hJ hi hcs hP hD hS ls hl kk
      · refine lv_tableIn (off := 727) (tgt := 760) hx hb dL_law_33 (by decide) (by decide) (by decide) (by decide) ?_
        exact lc_16 C0 hSt hE hK hL (by decide) hv hq hJ hi hcs hP hD hS ls hl kk
      · refine lv_tableIn (off := 750) (tgt := 783) hx hb dL_law_33 (by decide) (by decide) (by decide) (by decide) ?_
        exact lc_17 C0 hSt hE hK hL (by decide) hv hq hJ hi hcs hP hD hS ls hl kk
      · refine lv_tableIn (off := 793) (tgt := 826) hx hb dL_law_33 (by decide) (by decide) (by decide) (by decide) ?_
        exact lc_18 C0 hSt hE hK hL (by decide) hv hq hJ hi hcs hP hD hS ls hl kk
      · refine lv_tableIn (off := 826) (tgt := 859) hx hb dL_law_33 (by decide) (by decide) (by decide) (by decide) ?_
        exact lc_19 C0 hSt hE hK hL (by decide) hv hq hJ hi hcs hP hD hS ls hl kk
      · refine lv_tableIn (off := 859) (tgt := 892) hx hb dL_law_33 (by decide) (by decide) (by decide) (by decide) ?_
        exact lc_20 C0 hSt hE hK hL (by decide) hv hq hJ hi hcs hP hD hS ls hl kk
      · refine lv_tableIn (off := 892) (tgt := 925) hx hb dL_law_33 (by decide) (by decide) (by decide) (by decide) ?_
        exact lc_21 C0 hSt hE hK hL (by decide) hv hq hJ hi hcs hP hD hS ls hl kk
      · refine lv_tableIn (off := 945) (tgt := 978) hx hb dL_law_33 (by decide) (by decide) (by decide) (by decide) ?_
        exact lc_22 C0 hSt hE hK hL (by decide) hv hq hJ hi hcs hP hD hS ls hl kk
      · refine lv_tableIn (off := 978) (tgt := 1011) hx hb dL_law_33 (by decide) (by decide) (by decide) (by decide) ?_
        exact lc_23 C0 hSt hE hK hL (by decide) hv hq hJ hi hcs hP hD hS ls hl kk
      · refine lv_tableIn (off := 1001) (tgt := 1034) hx hb dL_law_33 (by decide) (by decide) (by decide) (by decide) ?_
        exact lc_24n C0 hSt hE hK hL (by decide) hv hq hJ hi hcs (by decide) hP hD hS ls hl kk3
      · refine lv_tableIn (off := 1014) (tgt := 1047) hx hb dL_law_33 (by decide) (by decide) (by decide) (by decide) ?_
        exact lc_25n C0 hSt hE hK hL (by decide) hv hq hJ hi hcs hP hD hS ls hl kk
