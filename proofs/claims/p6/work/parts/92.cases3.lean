set_option maxRecDepth 20000 in
theorem db_L_law_1034 : (decode cL_law 1034 = .ok (.aload_n 1, 1)) ∧ (decode cL_law 1035 = .ok (.invokevirtual 117, 3)) ∧ (decode cL_law 1038 = .ok (.pop, 1)) ∧ (decode cL_law 1039 = .ok (.aload_n 2, 1)) ∧ (decode cL_law 1040 = .ok (.invokevirtual 120, 3)) ∧ (decode cL_law 1043 = .ok (.pop, 1)) ∧ (decode cL_law 1044 = .ok (.goto 16, 3)) ∧ (decode cL_law 1047 = .ok (.aload_n 1, 1)) := by decide +kernel
theorem dL_law_1034 : decode cL_law 1034 = .ok (.aload_n 1, 1) := db_L_law_1034.1
set_option maxRecDepth 20000 in
theorem ggL_law_X7_keep : GoodIn wsL_law wsX7_keep := goodIn_ch _ [(26, 6), (1, 0), (0, 12), (0, 13), (0, 14), (0, 15), (1, 2), (1, 3), (1, 4), (1, 5), (0, 10), (0, 11), (1, 6), (1, 7), (1, 8), (1, 9), (1, 10), (1, 11), (1, 12), (1, 13), (1, 14), (1, 15), (1, 16), (1, 17), (1, 18), (1, 19), (1, 20), (1, 21), (1, 22), (1, 23), (2, 0), (2, 1), (2, 2), (2, 3), (2, 4), (2, 5), (2, 6), (2, 7), (2, 8), (2, 9), (2, 10), (2, 11), (2, 12), (2, 13), (2, 14), (2, 15), (2, 16), (26, 7), (26, 8), (26, 9), (26, 10), (26, 11), (12, 21), (9, 9), (26, 12), (26, 13), (26, 14), (26, 15), (26, 16), (26, 17), (26, 18), (26, 19), (26, 20), (26, 21), (26, 22), (26, 23), (27, 0), (27, 1), (27, 2), (27, 3), (27, 4), (27, 5), (6, 17), (6, 18), (6, 19), (6, 20), (6, 21), (6, 22), (27, 6), (16, 5), (16, 6), (16, 7), (27, 7), (27, 8), (27, 9), (27, 10), (27, 11), (27, 12), (27, 13), (20, 22), (20, 21), (29, 0), (29, 1), (29, 2), (29, 3), (29, 4), (31, 0), (31, 1), (31, 2), (31, 3), (31, 4), (31, 5), (31, 6), (34, 0), (34, 1), (35, 0), (35, 1), (35, 2), (36, 0), (36, 1), (36, 2), (36, 3), (36, 4), (36, 5), (36, 6), (36, 7), (36, 8), (36, 9), (36, 10), (37, 0), (37, 1), (37, 2), (37, 3), (37, 4)] rfl (by decide +kernel)
set_option maxRecDepth 20000 in
theorem gL_law_X7_keep : GoodIn wsL_law (wsV RL 117 RX7 yX7_keep wsX7_keep) := goodIn_app (goodIn_ch _ [(26, 3), (26, 4), (26, 5), (0, 2)] rfl (by decide +kernel)) ggL_law_X7_keep
theorem dL_law_1035 : decode cL_law 1035 = .ok (.invokevirtual 117, 3) := db_L_law_1034.2.1
theorem dL_law_1038 : decode cL_law 1038 = .ok (.pop, 1) := db_L_law_1034.2.2.1
theorem dL_law_1039 : decode cL_law 1039 = .ok (.aload_n 2, 1) := db_L_law_1034.2.2.2.1
set_option maxRecDepth 20000 in
theorem ggL_law_X8_keep : GoodIn wsL_law wsX8_keep := goodIn_ch _ [(27, 17), (3, 14), (3, 13), (27, 18), (30, 0), (30, 1), (30, 2), (30, 3), (30, 4), (30, 5), (30, 6), (30, 7), (30, 8), (30, 9), (30, 10)] rfl (by decide +kernel)
set_option maxRecDepth 20000 in
theorem gL_law_X8_keep : GoodIn wsL_law (wsV RL 120 RX8 yX8_keep wsX8_keep) := goodIn_app (goodIn_ch _ [(27, 14), (27, 15), (27, 16), (0, 5)] rfl (by decide +kernel)) ggL_law_X8_keep
theorem dL_law_1040 : decode cL_law 1040 = .ok (.invokevirtual 120, 3) := db_L_law_1034.2.2.2.2.1
theorem dL_law_1043 : decode cL_law 1043 = .ok (.pop, 1) := db_L_law_1034.2.2.2.2.2.1
theorem dL_law_1044 : decode cL_law 1044 = .ok (.goto 16, 3) := db_L_law_1034.2.2.2.2.2.2.1
theorem dL_law_1047 : decode cL_law 1047 = .ok (.aload_n 1, 1) := db_L_law_1034.2.2.2.2.2.2.2
set_option maxRecDepth 20000 in
theorem ggL_law_X7_back : GoodIn wsL_law wsX7_back := goodIn_ch _ [(27, 22), (1, 0), (0, 15), (26, 7), (26, 8), (26, 9), (0, 14), (26, 10), (26, 11), (12, 21), (9, 9), (26, 12), (1, 7), (1, 9), (1, 11), (26, 13), (26, 14), (26, 15), (1, 13), (26, 16), (26, 17), (26, 18), (26, 19), (26, 20), (26, 21), (1, 15), (26, 22), (26, 23), (27, 0), (27, 1), (27, 2), (27, 3), (27, 4), (1, 17), (27, 5), (6, 17), (6, 18), (6, 19), (6, 20), (6, 21), (6, 22), (2, 5), (2, 6), (2, 8), (27, 6), (16, 5), (16, 6), (16, 7), (2, 9), (2, 11), (27, 7), (27, 8), (27, 9), (2, 13), (27, 10), (27, 11), (27, 12), (27, 13), (20, 22), (20, 21), (29, 0), (29, 1), (29, 2), (29, 3), (29, 4), (31, 0), (31, 1), (31, 2), (31, 3), (31, 4), (31, 5), (31, 6), (34, 0), (34, 1), (35, 0), (35, 1), (35, 2), (36, 0), (36, 1), (36, 2), (36, 3), (36, 4), (36, 5), (36, 6), (36, 7), (36, 8), (36, 9), (36, 10), (37, 0), (37, 1), (37, 2), (37, 3), (37, 4)] rfl (by decide +kernel)
set_option maxRecDepth 20000 in
theorem gL_law_X7_back : GoodIn wsL_law (wsV RL 121 RX7 yX7_back wsX7_back) := goodIn_app (goodIn_ch _ [(27, 19), (27, 20), (27, 21), (0, 2)] rfl (by decide +kernel)) ggL_law_X7_back
set_option maxRecDepth 20000 in
theorem db_L_law_1048 : (decode cL_law 1048 = .ok (.invokevirtual 121, 3)) ∧ (decode cL_law 1051 = .ok (.pop, 1)) ∧ (decode cL_law 1052 = .ok (.aload_n 2, 1)) ∧ (decode cL_law 1053 = .ok (.invokevirtual 124, 3)) ∧ (decode cL_law 1056 = .ok (.pop, 1)) ∧ (decode cL_law 1057 = .ok (.goto 3, 3)) := by decide +kernel
theorem dL_law_1048 : decode cL_law 1048 = .ok (.invokevirtual 121, 3) := db_L_law_1048.1
theorem dL_law_1051 : decode cL_law 1051 = .ok (.pop, 1) := db_L_law_1048.2.1
theorem dL_law_1052 : decode cL_law 1052 = .ok (.aload_n 2, 1) := db_L_law_1048.2.2.1
set_option maxRecDepth 20000 in
theorem ggL_law_X8_back : GoodIn wsL_law wsX8_back := goodIn_ch _ [(28, 2), (27, 18), (3, 13), (3, 14), (30, 0), (30, 1), (30, 2), (30, 3), (30, 4), (30, 5), (30, 6), (30, 7), (30, 8), (30, 9), (30, 10)] rfl (by decide +kernel)
set_option maxRecDepth 20000 in
theorem gL_law_X8_back : GoodIn wsL_law (wsV RL 124 RX8 yX8_back wsX8_back) := goodIn_app (goodIn_ch _ [(27, 23), (28, 0), (28, 1), (0, 5)] rfl (by decide +kernel)) ggL_law_X8_back
theorem dL_law_1053 : decode cL_law 1053 = .ok (.invokevirtual 124, 3) := db_L_law_1048.2.2.2.1
theorem dL_law_1056 : decode cL_law 1056 = .ok (.pop, 1) := db_L_law_1048.2.2.2.2.1
theorem dL_law_1057 : decode cL_law 1057 = .ok (.goto 3, 3) := db_L_law_1048.2.2.2.2.2
set_option maxHeartbeats 4000000 in
set_option maxRecDepth 100000 in
/-- the case of keep -/
theorem lc_24n {p : Program} {l : Launch} {e : Env} {s : State} {m : MethodId} {below : List Frame} {meth : Method} {c : Code} {dC : Nat → ClassId} {dI : Nat → Nat → Nat} {cy : Nat → ClassId} {b L : Nat} {xs : Nat → Int32} (C0 : lw_At p s m meth c b L xs) {t1 t2 : Nat} (hSt : ex_St t1 t2 (fun q : Nat => s.heap.size ≤ q) s) (hE : ex_K s) (hK : va_K (dC, dI) vwCl (ty_L cy) s) (hL : L ≤ 3584) {ad ad2 : Nat → Nat} (hN : 119 ≤ 119) {v v2 : Nat → Nat → Int32} (hv : Iv v) (hq : Ir v2) (hJ : RR 0 v v2) {i : Int32} (hi : 0 ≤ i.toInt ∧ i.toInt + 7 ≤ (L : Int)) {cells slots : Nat} (hcs : cells ≤ room_1.cells ∧ slots ≤ room_1.slots) (hcs2 : cells + 106 ≤ room_1.cells ∧ slots + 695 ≤ room_1.slots) {H : Heap} {locs : List Loc} (hP : va_P (dC, dI) vwCl (wl ad .null cy 119 v ++ wm ad2 cy v2) H) (hD : va_D (fun q : Nat => s.heap.size ≤ q) (wl ad .null cy 119 v ++ wm ad2 cy v2)) (hS : va_S (fun q : Nat => s.heap.size ≤ q) s.heap H locs) (ls : Array Slot) (hl : lv_has ls 4 [(3, .int i), (2, .ref (ad2 0)), (1, .ref (ad 0)), (0, .ref b)]) (kk : ∀ (ad3 : Nat → Nat) (v1 v3 : Nat → Nat → Int32) (H1 : Heap) (locs1 : List Loc) (ls1 : Array Slot), Iv v1 → Ir v3 → RR 1 v1 v3 → va_P (dC, dI) vwCl (wl ad3 (.ref (ad3 119)) cy 225 v1 ++ wm ad2 cy v3) H1 → va_D (fun q : Nat => s.heap.size ≤ q) (wl ad3 (.ref (ad3 119)) cy 225 v1 ++ wm ad2 cy v3) → va_S (fun q : Nat => s.heap.size ≤ q) s.heap H1 locs1 → lv_has ls1 4 [(3, .int i), (2, .ref (ad2 0)), (1, .ref (ad3 0)), (0, .ref b)] → W p l e room_1 s m #[Value.ref b] below meth c H1 locs1 (cells + 106) (slots + 695) (lw_Z below #[Value.ref b] s) (F0 m 1060 ls1 [])) : W p l e room_1 s m #[Value.ref b] below meth c H locs cells slots (lw_Z below #[Value.ref b] s) (F0 m 1034 ls []) := by
  obtain ⟨hx, hb, hr, hml, hown, hts0, hX, hbl, hlocks, hgv⟩ := id C0
  have hts : ∀ w ∈ wsL_law, w.before #[Value.ref b] s = true := fun w h => hts0 w (wsL_law_in w h)
  have hown : s.vm.findClass RL = some m.cls := hown
  have hA : ∀ q : Nat, s.heap.size ≤ q → (fun q : Nat => s.heap.size ≤ q) q := fun _ h => h
  have hbA : ¬ (fun q : Nat => s.heap.size ≤ q) b := Nat.not_le.mpr hbl
  refine lv_aload_n hx hb dL_law_1034 rfl (lv_at hl 2 rfl) ?_
  replace hcs := hcs2
  refine yl_i (X := wl ad .null cy 119 v) (Y := wm ad2 cy v2) (w1 := fun (u : (Nat → Nat) × (Nat → Nat → Int32)) => wl u.1 (.ref (u.1 119)) cy 225 u.2) hP hD hS hA (va_runV (As := []) (rest := []) ⟨hx, hb, hml, hown, hts⟩ (e_X7_keep_n l dC dI cy _ ad v hv) (cwV 0 hts gL_law_X7_keep rfl rfl rfl hd_V_X7_keep_0 ⟨Nat.le_of_ble_eq_true rfl, Nat.le_of_ble_eq_true rfl⟩) (yl_preV hE hK hP hD (ci := 7) (q0 := 0) rfl (wl_at (by omega) (ce_0 (by decide)))) rfl rfl hl.1 rfl (lv_room (Nat.le_of_ble_eq_true rfl)) dL_law_1035 hcs) (fun r_1 c_1 H locs hw_1 hP hD hS => ?_)
  obtain ⟨ad3, c_1b⟩ := c_1
  obtain ⟨hv, a0, hk1, hk2, rfl⟩ := hw_1
  replace a0 : ad3 0 = ad 0 := a0
  replace hv : Iv c_1b := hv
  replace hk1 : ∀ o j : Nat, lvH v 13 o j → c_1b (119 + o) j = v (13 + o) j := hk1
  replace hk2 : ∀ k : Nat, k < 119 → c_1b k = v k := hk2
  have hP : va_P (dC, dI) vwCl (wm ad2 cy v2 ++ wl ad3 (.ref (ad3 119)) cy 225 c_1b) H := hP
  have hD : va_D (fun q : Nat => s.heap.size ≤ q) (wm ad2 cy v2 ++ wl ad3 (.ref (ad3 119)) cy 225 c_1b) := hD
  rw [← a0] at hl
  refine lv_pop hx hb dL_law_1038 rfl ?_
  refine lv_aload_n hx hb dL_law_1039 rfl (lv_at hl 1 rfl) ?_
  have hq0 := hq
  refine yl_i (X := wm ad2 cy v2) (Y := wl ad3 (.ref (ad3 119)) cy 225 c_1b) (w1 := fun (u : Nat → Nat → Int32) => wm ad2 cy u) hP hD hS hA (va_runV (As := []) (rest := []) ⟨hx, hb, hml, hown, hts⟩ (q_X8_keep l dC dI cy _ ad2 v2 hq) (cwV 0 hts gL_law_X8_keep rfl rfl rfl hd_V_X8_keep_0 ⟨Nat.le_of_ble_eq_true rfl, Nat.le_of_ble_eq_true rfl⟩) (yl_preV hE hK hP hD (ci := 8) (q0 := 0) rfl (wm_at (by decide) rc_0)) rfl rfl hl.1 rfl (lv_room (Nat.le_of_ble_eq_true rfl)) dL_law_1040 hcs) (fun r_2 m_2 H locs hw_2 hP hD hS => ?_)
  have hP : va_P (dC, dI) vwCl (wl ad3 (.ref (ad3 119)) cy 225 c_1b ++ wm ad2 cy m_2) H := hP
  have hD : va_D (fun q : Nat => s.heap.size ≤ q) (wl ad3 (.ref (ad3 119)) cy 225 c_1b ++ wm ad2 cy m_2) := hD
  obtain ⟨hq, hz1, hz2, hz3, hz4, rfl⟩ := hw_2
  have hJ := T_keep hq0 hJ hk1 hk2 hz1 hz2 hz3 hz4
  refine lv_pop hx hb dL_law_1043 rfl ?_
  refine lv_goto (tgt := 1060) hx hb dL_law_1044 (by decide) ?_
  exact kk ad3 c_1b m_2 _ _ ls hv hq hJ hP hD hS hl

set_option maxHeartbeats 4000000 in
set_option maxRecDepth 100000 in
/-- the case of keep -/
theorem lc_24k {p : Program} {l : Launch} {e : Env} {s : State} {m : MethodId} {below : List Frame} {meth : Method} {c : Code} {dC : Nat → ClassId} {dI : Nat → Nat → Nat} {cy : Nat → ClassId} {b L : Nat} {xs : Nat → Int32} (C0 : lw_At p s m meth c b L xs) {t1 t2 : Nat} (hSt : ex_St t1 t2 (fun q : Nat => s.heap.size ≤ q) s) (hE : ex_K s) (hK : va_K (dC, dI) vwCl (ty_L cy) s) (hL : L ≤ 3584) {ad ad2 : Nat → Nat} {N : Nat} (hN : 119 ≤ N) (hN2 : 225 ≤ N) {v v2 : Nat → Nat → Int32} (hv : Iv v) (hq : Ir v2) (hJ : RR 1 v v2) {i : Int32} (hi : 0 ≤ i.toInt ∧ i.toInt + 7 ≤ (L : Int)) {cells slots : Nat} (hcs : cells ≤ room_1.cells ∧ slots ≤ room_1.slots) {H : Heap} {locs : List Loc} (hP : va_P (dC, dI) vwCl (wl ad (.ref (ad 119)) cy N v ++ wm ad2 cy v2) H) (hD : va_D (fun q : Nat => s.heap.size ≤ q) (wl ad (.ref (ad 119)) cy N v ++ wm ad2 cy v2)) (hS : va_S (fun q : Nat => s.heap.size ≤ q) s.heap H locs) (ls : Array Slot) (hl : lv_has ls 4 [(3, .int i), (2, .ref (ad2 0)), (1, .ref (ad 0)), (0, .ref b)]) (kk : ∀ (v1 v3 : Nat → Nat → Int32) (H1 : Heap) (locs1 : List Loc) (ls1 : Array Slot), Iv v1 → Ir v3 → RR 1 v1 v3 → va_P (dC, dI) vwCl (wl ad (.ref (ad 119)) cy N v1 ++ wm ad2 cy v3) H1 → va_D (fun q : Nat => s.heap.size ≤ q) (wl ad (.ref (ad 119)) cy N v1 ++ wm ad2 cy v3) → va_S (fun q : Nat => s.heap.size ≤ q) s.heap H1 locs1 → lv_has ls1 4 [(3, .int i), (2, .ref (ad2 0)), (1, .ref (ad 0)), (0, .ref b)] → W p l e room_1 s m #[Value.ref b] below meth c H1 locs1 cells slots (lw_Z below #[Value.ref b] s) (F0 m 1060 ls1 [])) : W p l e room_1 s m #[Value.ref b] below meth c H locs cells slots (lw_Z below #[Value.ref b] s) (F0 m 1034 ls []) := by
  obtain ⟨hx, hb, hr, hml, hown, hts0, hX, hbl, hlocks, hgv⟩ := id C0
  have hts : ∀ w ∈ wsL_law, w.before #[Value.ref b] s = true := fun w h => hts0 w (wsL_law_in w h)
  have hown : s.vm.findClass RL = some m.cls := hown
  have hA : ∀ q : Nat, s.heap.size ≤ q → (fun q : Nat => s.heap.size ≤ q) q := fun _ h => h
  have hbA : ¬ (fun q : Nat => s.heap.size ≤ q) b := Nat.not_le.mpr hbl
  refine lv_aload_n hx hb dL_law_1034 rfl (lv_at hl 2 rfl) ?_
  refine yl_i (X := wl ad (.ref (ad 119)) cy N v) (Y := wm ad2 cy v2) (w1 := fun (u : Nat → Nat → Int32) => wl ad (.ref (ad 119)) cy N u) hP hD hS hA (va_runV (As := []) (rest := []) ⟨hx, hb, hml, hown, hts⟩ (e_X7_keep_k l dC dI cy _ ad N hN v hv hN2) (cwV 0 hts gL_law_X7_keep rfl rfl rfl hd_V_X7_keep_0 ⟨Nat.le_of_ble_eq_true rfl, Nat.le_of_ble_eq_true rfl⟩) (yl_preV hE hK hP hD (ci := 7) (q0 := 0) rfl (wl_at (by omega) (ce_0 (by decide)))) rfl rfl hl.1 rfl (lv_room (Nat.le_of_ble_eq_true rfl)) dL_law_1035 hcs) (fun r_1 c_1 H locs hw_1 hP hD hS => ?_)
  have hP : va_P (dC, dI) vwCl (wm ad2 cy v2 ++ wl ad (.ref (ad 119)) cy N c_1) H := hP
  have hD : va_D (fun q : Nat => s.heap.size ≤ q) (wm ad2 cy v2 ++ wl ad (.ref (ad 119)) cy N c_1) := hD
  obtain ⟨hv, ⟨hk1, hk2⟩, rfl⟩ := hw_1
  replace hk2 := fun k (h9 : k < 119) => hk2 k (Or.inl h9)
  refine lv_pop hx hb dL_law_1038 rfl ?_
  refine lv_aload_n hx hb dL_law_1039 rfl (lv_at hl 1 rfl) ?_
  have hq0 := hq
  refine yl_i (X := wm ad2 cy v2) (Y := wl ad (.ref (ad 119)) cy N c_1) (w1 := fun (u : Nat → Nat → Int32) => wm ad2 cy u) hP hD hS hA (va_runV (As := []) (rest := []) ⟨hx, hb, hml, hown, hts⟩ (q_X8_keep l dC dI cy _ ad2 v2 hq) (cwV 0 hts gL_law_X8_keep rfl rfl rfl hd_V_X8_keep_0 ⟨Nat.le_of_ble_eq_true rfl, Nat.le_of_ble_eq_true rfl⟩) (yl_preV hE hK hP hD (ci := 8) (q0 := 0) rfl (wm_at (by decide) rc_0)) rfl rfl hl.1 rfl (lv_room (Nat.le_of_ble_eq_true rfl)) dL_law_1040 hcs) (fun r_2 m_2 H locs hw_2 hP hD hS => ?_)
  have hP : va_P (dC, dI) vwCl (wl ad (.ref (ad 119)) cy N c_1 ++ wm ad2 cy m_2) H := hP
  have hD : va_D (fun q : Nat => s.heap.size ≤ q) (wl ad (.ref (ad 119)) cy N c_1 ++ wm ad2 cy m_2) := hD
  obtain ⟨hq, hz1, hz2, hz3, hz4, rfl⟩ := hw_2
  have hJ := T_keep hq0 hJ hk1 hk2 hz1 hz2 hz3 hz4
  refine lv_pop hx hb dL_law_1043 rfl ?_
  refine lv_goto (tgt := 1060) hx hb dL_law_1044 (by decide) ?_
  exact kk c_1 m_2 _ _ ls hv hq hJ hP hD hS hl

set_option maxHeartbeats 4000000 in
set_option maxRecDepth 100000 in
/-- the case of back -/
theorem lc_25n {p : Program} {l : Launch} {e : Env} {s : State} {m : MethodId} {below : List Frame} {meth : Method} {c : Code} {dC : Nat → ClassId} {dI : Nat → Nat → Nat} {cy : Nat → ClassId} {b L : Nat} {xs : Nat → Int32} (C0 : lw_At p s m meth c b L xs) {t1 t2 : Nat} (hSt : ex_St t1 t2 (fun q : Nat => s.heap.size ≤ q) s) (hE : ex_K s) (hK : va_K (dC, dI) vwCl (ty_L cy) s) (hL : L ≤ 3584) {ad ad2 : Nat → Nat} (hN : 119 ≤ 119) {v v2 : Nat → Nat → Int32} (hv : Iv v) (hq : Ir v2) (hJ : RR 0 v v2) {i : Int32} (hi : 0 ≤ i.toInt ∧ i.toInt + 7 ≤ (L : Int)) {cells slots : Nat} (hcs : cells ≤ room_1.cells ∧ slots ≤ room_1.slots) {H : Heap} {locs : List Loc} (hP : va_P (dC, dI) vwCl (wl ad .null cy 119 v ++ wm ad2 cy v2) H) (hD : va_D (fun q : Nat => s.heap.size ≤ q) (wl ad .null cy 119 v ++ wm ad2 cy v2)) (hS : va_S (fun q : Nat => s.heap.size ≤ q) s.heap H locs) (ls : Array Slot) (hl : lv_has ls 4 [(3, .int i), (2, .ref (ad2 0)), (1, .ref (ad 0)), (0, .ref b)]) (kk : ∀ (v1 v3 : Nat → Nat → Int32) (H1 : Heap) (locs1 : List Loc) (ls1 : Array Slot), Iv v1 → Ir v3 → RR 0 v1 v3 → va_P (dC, dI) vwCl (wl ad .null cy 119 v1 ++ wm ad2 cy v3) H1 → va_D (fun q : Nat => s.heap.size ≤ q) (wl ad .null cy 119 v1 ++ wm ad2 cy v3) → va_S (fun q : Nat => s.heap.size ≤ q) s.heap H1 locs1 → lv_has ls1 4 [(3, .int i), (2, .ref (ad2 0)), (1, .ref (ad 0)), (0, .ref b)] → W p l e room_1 s m #[Value.ref b] below meth c H1 locs1 cells slots (lw_Z below #[Value.ref b] s) (F0 m 1060 ls1 [])) : W p l e room_1 s m #[Value.ref b] below meth c H locs cells slots (lw_Z below #[Value.ref b] s) (F0 m 1047 ls []) := by
  obtain ⟨hx, hb, hr, hml, hown, hts0, hX, hbl, hlocks, hgv⟩ := id C0
  have hts : ∀ w ∈ wsL_law, w.before #[Value.ref b] s = true := fun w h => hts0 w (wsL_law_in w h)
  have hown : s.vm.findClass RL = some m.cls := hown
  have hA : ∀ q : Nat, s.heap.size ≤ q → (fun q : Nat => s.heap.size ≤ q) q := fun _ h => h
  have hbA : ¬ (fun q : Nat => s.heap.size ≤ q) b := Nat.not_le.mpr hbl
  refine lv_aload_n hx hb dL_law_1047 rfl (lv_at hl 2 rfl) ?_
  refine yl_i (X := wl ad .null cy 119 v) (Y := wm ad2 cy v2) (w1 := fun (u : Nat → Nat → Int32) => wl ad .null cy 119 u) hP hD hS hA (va_runV (As := []) (rest := []) ⟨hx, hb, hml, hown, hts⟩ (e_X7_back_n l dC dI cy _ ad 119 hN v hv) (cwV 0 hts gL_law_X7_back rfl rfl rfl hd_V_X7_back_0 ⟨Nat.le_of_ble_eq_true rfl, Nat.le_of_ble_eq_true rfl⟩) (yl_preV hE hK hP hD (ci := 7) (q0 := 0) rfl (wl_at (by omega) (ce_0 (by decide)))) rfl rfl hl.1 rfl (lv_room (Nat.le_of_ble_eq_true rfl)) dL_law_1048 hcs) (fun r_1 c_1 H locs hw_1 hP hD hS => ?_)
  obtain ⟨hv, hpc⟩ := hw_1
  have hP : va_P (dC, dI) vwCl (wm ad2 cy v2 ++ wl ad .null cy 119 c_1) H := hP
  have hD : va_D (fun q : Nat => s.heap.size ≤ q) (wm ad2 cy v2 ++ wl ad .null cy 119 c_1) := hD
  refine lv_pop hx hb dL_law_1051 rfl ?_
  refine lv_aload_n hx hb dL_law_1052 rfl (lv_at hl 1 rfl) ?_
  have hq0 := hq
  refine yl_i (X := wm ad2 cy v2) (Y := wl ad .null cy 119 c_1) (w1 := fun (u : Nat → Nat → Int32) => wm ad2 cy u) hP hD hS hA (va_runV (As := []) (rest := []) ⟨hx, hb, hml, hown, hts⟩ (q_X8_back l dC dI cy _ ad2 v2 hq) (cwV 0 hts gL_law_X8_back rfl rfl rfl hd_V_X8_back_0 ⟨Nat.le_of_ble_eq_true rfl, Nat.le_of_ble_eq_true rfl⟩) (yl_preV hE hK hP hD (ci := 8) (q0 := 0) rfl (wm_at (by decide) rc_0)) rfl rfl hl.1 rfl (lv_room (Nat.le_of_ble_eq_true rfl)) dL_law_1053 hcs) (fun r_2 m_2 H locs hw_2 hP hD hS => ?_)
  have hP : va_P (dC, dI) vwCl (wl ad .null cy 119 c_1 ++ wm ad2 cy m_2) H := hP
  have hD : va_D (fun q : Nat => s.heap.size ≤ q) (wl ad .null cy 119 c_1 ++ wm ad2 cy m_2) := hD
  obtain ⟨hq, hpm⟩ := hw_2
  obtain ⟨hr1, hr2, hJ⟩ := T_back0 hJ hpc hpm
  subst hr1
  subst hr2
  refine lv_pop hx hb dL_law_1056 rfl ?_
  refine lv_goto (tgt := 1060) hx hb dL_law_1057 (by decide) ?_
  exact kk c_1 m_2 _ _ ls hv hq hJ hP hD hS hl

set_option maxHeartbeats 4000000 in
set_option maxRecDepth 100000 in
/-- the case of back -/
theorem lc_25k {p : Program} {l : Launch} {e : Env} {s : State} {m : MethodId} {below : List Frame} {meth : Method} {c : Code} {dC : Nat → ClassId} {dI : Nat → Nat → Nat} {cy : Nat → ClassId} {b L : Nat} {xs : Nat → Int32} (C0 : lw_At p s m meth c b L xs) {t1 t2 : Nat} (hSt : ex_St t1 t2 (fun q : Nat => s.heap.size ≤ q) s) (hE : ex_K s) (hK : va_K (dC, dI) vwCl (ty_L cy) s) (hL : L ≤ 3584) {ad ad2 : Nat → Nat} {N : Nat} (hN : 119 ≤ N) (hN2 : 225 ≤ N) {v v2 : Nat → Nat → Int32} (hv : Iv v) (hq : Ir v2) (hJ : RR 1 v v2) {i : Int32} (hi : 0 ≤ i.toInt ∧ i.toInt + 7 ≤ (L : Int)) {cells slots : Nat} (hcs : cells ≤ room_1.cells ∧ slots ≤ room_1.slots) {H : Heap} {locs : List Loc} (hP : va_P (dC, dI) vwCl (wl ad (.ref (ad 119)) cy N v ++ wm ad2 cy v2) H) (hD : va_D (fun q : Nat => s.heap.size ≤ q) (wl ad (.ref (ad 119)) cy N v ++ wm ad2 cy v2)) (hS : va_S (fun q : Nat => s.heap.size ≤ q) s.heap H locs) (ls : Array Slot) (hl : lv_has ls 4 [(3, .int i), (2, .ref (ad2 0)), (1, .ref (ad 0)), (0, .ref b)]) (kk : ∀ (v1 v3 : Nat → Nat → Int32) (H1 : Heap) (locs1 : List Loc) (ls1 : Array Slot), Iv v1 → Ir v3 → RR 1 v1 v3 → va_P (dC, dI) vwCl (wl ad (.ref (ad 119)) cy N v1 ++ wm ad2 cy v3) H1 → va_D (fun q : Nat => s.heap.size ≤ q) (wl ad (.ref (ad 119)) cy N v1 ++ wm ad2 cy v3) → va_S (fun q : Nat => s.heap.size ≤ q) s.heap H1 locs1 → lv_has ls1 4 [(3, .int i), (2, .ref (ad2 0)), (1, .ref (ad 0)), (0, .ref b)] → W p l e room_1 s m #[Value.ref b] below meth c H1 locs1 cells slots (lw_Z below #[Value.ref b] s) (F0 m 1060 ls1 [])) : W p l e room_1 s m #[Value.ref b] below meth c H locs cells slots (lw_Z below #[Value.ref b] s) (F0 m 1047 ls []) := by
  obtain ⟨hx, hb, hr, hml, hown, hts0, hX, hbl, hlocks, hgv⟩ := id C0
  have hts : ∀ w ∈ wsL_law, w.before #[Value.ref b] s = true := fun w h => hts0 w (wsL_law_in w h)
  have hown : s.vm.findClass RL = some m.cls := hown
  have hA : ∀ q : Nat, s.heap.size ≤ q → (fun q : Nat => s.heap.size ≤ q) q := fun _ h => h
  have hbA : ¬ (fun q : Nat => s.heap.size ≤ q) b := Nat.not_le.mpr hbl
  refine lv_aload_n hx hb dL_law_1047 rfl (lv_at hl 2 rfl) ?_
  refine yl_i (X := wl ad (.ref (ad 119)) cy N v) (Y := wm ad2 cy v2) (w1 := fun (u : Nat → Nat → Int32) => wl ad (.ref (ad 119)) cy N u) hP hD hS hA (va_runV (As := []) (rest := []) ⟨hx, hb, hml, hown, hts⟩ (e_X7_back_k l dC dI cy _ ad N hN v hv hN2) (cwV 0 hts gL_law_X7_back rfl rfl rfl hd_V_X7_back_0 ⟨Nat.le_of_ble_eq_true rfl, Nat.le_of_ble_eq_true rfl⟩) (yl_preV hE hK hP hD (ci := 7) (q0 := 0) rfl (wl_at (by omega) (ce_0 (by decide)))) rfl rfl hl.1 rfl (lv_room (Nat.le_of_ble_eq_true rfl)) dL_law_1048 hcs) (fun r_1 c_1 H locs hw_1 hP hD hS => ?_)
  obtain ⟨hv, hpc⟩ := hw_1
  have hP : va_P (dC, dI) vwCl (wm ad2 cy v2 ++ wl ad (.ref (ad 119)) cy N c_1) H := hP
  have hD : va_D (fun q : Nat => s.heap.size ≤ q) (wm ad2 cy v2 ++ wl ad (.ref (ad 119)) cy N c_1) := hD
  refine lv_pop hx hb dL_law_1051 rfl ?_
  refine lv_aload_n hx hb dL_law_1052 rfl (lv_at hl 1 rfl) ?_
  have hq0 := hq
  refine yl_i (X := wm ad2 cy v2) (Y := wl ad (.ref (ad 119)) cy N c_1) (w1 := fun (u : Nat → Nat → Int32) => wm ad2 cy u) hP hD hS hA (va_runV (As := []) (rest := []) ⟨hx, hb, hml, hown, hts⟩ (q_X8_back l dC dI cy _ ad2 v2 hq) (cwV 0 hts gL_law_X8_back rfl rfl rfl hd_V_X8_back_0 ⟨Nat.le_of_ble_eq_true rfl, Nat.le_of_ble_eq_true rfl⟩) (yl_preV hE hK hP hD (ci := 8) (q0 := 0) rfl (wm_at (by decide) rc_0)) rfl rfl hl.1 rfl (lv_room (Nat.le_of_ble_eq_true rfl)) dL_law_1053 hcs) (fun r_2 m_2 H locs hw_2 hP hD hS => ?_)
  have hP : va_P (dC, dI) vwCl (wl ad (.ref (ad 119)) cy N c_1 ++ wm ad2 cy m_2) H := hP
  have hD : va_D (fun q : Nat => s.heap.size ≤ q) (wl ad (.ref (ad 119)) cy N c_1 ++ wm ad2 cy m_2) := hD
  obtain ⟨hq, hpm⟩ := hw_2
  obtain ⟨hr1, hr2, hJ⟩ := T_back1 hq0 hJ hpc hpm
  subst hr1
  subst hr2
  refine lv_pop hx hb dL_law_1056 rfl ?_
  refine lv_goto (tgt := 1060) hx hb dL_law_1057 (by decide) ?_
  exact kk c_1 m_2 _ _ ls hv hq hJ hP hD hS hl
