set_option maxRecDepth 20000 in
theorem db_L_law_0 : (decode cL_law 0 = .ok (.new 7, 3)) ∧ (decode cL_law 3 = .ok (.dup, 1)) ∧ (decode cL_law 4 = .ok (.invokespecial 9, 3)) ∧ (decode cL_law 7 = .ok (.astore_n 1, 1)) ∧ (decode cL_law 8 = .ok (.new 10, 3)) ∧ (decode cL_law 11 = .ok (.dup, 1)) ∧ (decode cL_law 12 = .ok (.invokespecial 12, 3)) ∧ (decode cL_law 15 = .ok (.astore_n 2, 1)) := by decide +kernel
theorem dL_law_0 : decode cL_law 0 = .ok (.new 7, 3) := db_L_law_0.1
theorem dL_law_3 : decode cL_law 3 = .ok (.dup, 1) := db_L_law_0.2.1
set_option maxRecDepth 20000 in
theorem ggL_law_X7_init : GoodIn wsL_law wsX7_init := goodIn_ch _ [(0, 8), (0, 9), (0, 10), (0, 11), (0, 12), (0, 13), (0, 14), (0, 15), (0, 16), (0, 17), (0, 18), (0, 19), (0, 20), (0, 21), (0, 22), (0, 23), (1, 0), (1, 1), (1, 2), (1, 3), (1, 4), (1, 5), (1, 6), (1, 7), (1, 8), (1, 9), (1, 10), (1, 11), (1, 12), (1, 13), (1, 14), (1, 15), (1, 16), (1, 17), (1, 18), (1, 19), (1, 20), (1, 21), (1, 22), (1, 23), (2, 0), (2, 1), (2, 2), (2, 3), (2, 4), (2, 5), (2, 6), (2, 7), (2, 8), (2, 9), (2, 10), (2, 11), (2, 12), (2, 13), (2, 14), (2, 15), (2, 16), (2, 17), (2, 18), (2, 19), (2, 20), (2, 21), (2, 22), (2, 23), (3, 0), (3, 1), (3, 2), (3, 3), (3, 4), (3, 5), (3, 6), (3, 7), (3, 8), (31, 0), (31, 1), (31, 2), (31, 3), (31, 4), (31, 5), (31, 6), (29, 0), (29, 1), (29, 2), (29, 3), (29, 4), (32, 0), (32, 1), (32, 2), (32, 3), (32, 4), (32, 5), (32, 6), (32, 7), (32, 8), (32, 9), (32, 10), (33, 0), (33, 1), (33, 2), (34, 0), (34, 1), (35, 0), (35, 1), (35, 2), (36, 0), (36, 1), (36, 2), (36, 3), (36, 4), (36, 5), (36, 6), (36, 7), (36, 8), (36, 9), (36, 10), (37, 0), (37, 1), (37, 2), (37, 3), (37, 4)] rfl (by decide +kernel)
set_option maxRecDepth 20000 in
theorem gL_law_X7_init : GoodIn wsL_law (wsX7_init) := ggL_law_X7_init
theorem dL_law_4 : decode cL_law 4 = .ok (.invokespecial 9, 3) := db_L_law_0.2.2.1
theorem dL_law_7 : decode cL_law 7 = .ok (.astore_n 1, 1) := db_L_law_0.2.2.2.1
theorem dL_law_8 : decode cL_law 8 = .ok (.new 10, 3) := db_L_law_0.2.2.2.2.1
theorem dL_law_11 : decode cL_law 11 = .ok (.dup, 1) := db_L_law_0.2.2.2.2.2.1
set_option maxRecDepth 20000 in
theorem ggL_law_X8_init : GoodIn wsL_law wsX8_init := goodIn_ch _ [(3, 11), (3, 12), (0, 10), (0, 11), (2, 4), (3, 13), (3, 14), (3, 15), (3, 16), (3, 17), (3, 18), (3, 19), (3, 20), (30, 0), (30, 1), (30, 2), (30, 3), (30, 4), (30, 5), (30, 6), (30, 7), (30, 8), (30, 9), (30, 10)] rfl (by decide +kernel)
set_option maxRecDepth 20000 in
theorem gL_law_X8_init : GoodIn wsL_law (wsX8_init) := ggL_law_X8_init
theorem dL_law_12 : decode cL_law 12 = .ok (.invokespecial 12, 3) := db_L_law_0.2.2.2.2.2.2.1
theorem dL_law_15 : decode cL_law 15 = .ok (.astore_n 2, 1) := db_L_law_0.2.2.2.2.2.2.2
set_option maxRecDepth 20000 in
theorem db_L_law_16 : (decode cL_law 16 = .ok (.iconst 0, 1)) ∧ (decode cL_law 17 = .ok (.istore_n 3, 1)) := by decide +kernel
theorem dL_law_16 : decode cL_law 16 = .ok (.iconst 0, 1) := db_L_law_16.1
theorem dL_law_17 : decode cL_law 17 = .ok (.istore_n 3, 1) := db_L_law_16.2
set_option maxHeartbeats 4000000 in
set_option maxRecDepth 100000 in
theorem whole_start {p : Program} {e : Env} {s : State} {m : MethodId} {below : List Frame} {meth : Method} {c : Code} (l : Launch) {b L : Nat} {xs : Nat → Int32} (hL : L ≤ 3584) (C0 : lw_At p s m meth c b L xs) : W p l e room_1 s m #[Value.ref b] below meth c s.heap [] 0 0 (lw_Z below #[Value.ref b] s) (entryFrame m ([Value.ref b] : List Value).toArray 4) := by
  obtain ⟨hx, hb, hr, hml, hown, hts0, hX, hbl, hlocks, hgv⟩ := id C0
  have hts : ∀ w ∈ wsL_law, w.before #[Value.ref b] s = true := fun w h => hts0 w (wsL_law_in w h)
  have hown : s.vm.findClass RL = some m.cls := hown
  have hA : ∀ q : Nat, s.heap.size ≤ q → (fun q : Nat => s.heap.size ≤ q) q := fun _ h => h
  have hbA : ¬ (fun q : Nat => s.heap.size ≤ q) b := Nat.not_le.mpr hbl
  have hE : ex_K s := tb_ex hts0
  obtain ⟨dC, dI, cy, hK⟩ := tb_K hts0
  obtain ⟨t1, hS1, hS2⟩ := tb_st_o hts0 hgv
  obtain ⟨t2, hS3, hS4⟩ := tb_st_l hts0 hgv
  have hSt : ex_St t1 t2 (fun q : Nat => s.heap.size ≤ q) s := ⟨⟨hS1, hS2⟩, hS3, hS4⟩
  have hS : va_S (fun q : Nat => s.heap.size ≤ q) s.heap s.heap [] := va_S.rf
  have hP : va_P (dC, dI) vwCl [] s.heap := fun k q h => by simp at h
  have hD : va_D (fun q : Nat => s.heap.size ≤ q) [] := ⟨fun i j p q h => by simp at h, fun k q h => by simp at h⟩
  have hl := lv_entry ([.ref b]) (n := 4) (Nat.le_of_ble_eq_true rfl)
  rw [lg_entry_eq]
  generalize (lg_sl ([.ref b]) ++ List.replicate (4 - (lg_sl ([.ref b])).length) Slot.unset).toArray = ls at hl ⊢
  have hl : lv_has ls 4 [(0, .ref b)] := hl
  refine va_new (ci := 7) (fs := [.null, .null, .null, .null, .int 0]) (C := RX7) (T := TX7) (N := 5) hx hb hts inlX7 tyX7 tyX7_ok hown (hts (.classLink RL 7 RX7) (by decide +kernel)) (hts (.instantiable RX7 5) (by decide +kernel)) (hts (.initialized RX7) (by decide +kernel)) hK hP hD hS hA rfl (fun j hj => by rcases (show j = 0 ∨ j = 1 ∨ j = 2 ∨ j = 3 ∨ j = 4 by omega) with rfl | rfl | rfl | rfl | rfl <;> rfl) (Nat.le_of_ble_eq_true rfl) (Nat.le_of_ble_eq_true rfl) dL_law_0 (fun h0 H hP hD hS => ?_)
  have hP : va_P (dC, dI) vwCl [(h0, .inr (7, [.null, .null, .null, .null, .int 0]))] H := hP
  have hD : va_D (fun q : Nat => s.heap.size ≤ q) [(h0, .inr (7, [.null, .null, .null, .null, .int 0]))] := hD
  refine W.widen (k := 1) (n := 5) (by omega) (by omega) ?_
  refine lv_dup hx hb dL_law_3 rfl ?_
  refine yt_v (X := []) (x := (h0, .inr (7, [.null, .null, .null, .null, .int 0]))) (w1 := fun (u : (Nat → Nat) × Nat × Nat × Nat × (Nat × Nat × Nat × Nat × Nat × Nat × Nat × Nat) × (Nat × Nat)) => [(h0, .inr (7, [.ref u.2.1, .ref u.2.2.1, .ref u.2.2.2.1, .null, .int 1]))] ++ wH cy u.1 ++ [(u.2.2.1, .inr (4, [.int 0, .int 0, .int 0, .ref u.2.2.2.2.1.1, .ref u.2.2.2.2.1.2.1, .ref u.2.2.2.2.1.2.2.1, .ref u.2.2.2.2.1.2.2.2.1, .ref u.2.2.2.2.1.2.2.2.2.1, .ref u.2.2.2.2.1.2.2.2.2.2.1, .ref u.2.2.2.2.1.2.2.2.2.2.2.1, .ref u.2.2.2.2.1.2.2.2.2.2.2.2])), (u.2.2.2.2.1.1, .inl (cy 0, 4, .inl (fun _ => 0))), (u.2.2.2.2.1.2.1, .inl (cy 0, 4, .inl (fun _ => 0))), (u.2.2.2.2.1.2.2.1, .inl (cy 0, 4, .inl (fun _ => 0))), (u.2.2.2.2.1.2.2.2.1, .inl (cy 0, 4, .inl (fun _ => 0))), (u.2.2.2.2.1.2.2.2.2.1, .inl (cy 0, 4, .inl (fun _ => 0))), (u.2.2.2.2.1.2.2.2.2.2.1, .inl (cy 0, 4, .inl (fun _ => 0))), (u.2.2.2.2.1.2.2.2.2.2.2.1, .inl (cy 0, 3, .inl (fun _ => 0))), (u.2.2.2.2.1.2.2.2.2.2.2.2, .inl (cy 0, 3, .inl (fun _ => 0)))] ++ [(u.2.2.2.1, .inr (5, [.int 0, .ref u.2.2.2.2.2.1, .ref u.2.2.2.2.2.2])), (u.2.2.2.2.2.1, .inl (cy 0, 5, .inl (fun _ => 0))), (u.2.2.2.2.2.2, .inl (cy 0, 5, .inl (fun _ => 0)))]) hP hD hS hA (va_runI (As := []) (rest := [.ref h0]) ⟨hx, hb, hml, hown, hts⟩ (c_X7_init l dC dI cy _ h0) (cwI 0 hts gL_law_X7_init rfl rfl rfl (hts (.initialized RX7) (by decide +kernel)) (hts (.methodLink RL 9 yX7_init) (by decide +kernel)) (hts (.instanceMethod yX7_init) (by decide +kernel)) rfl (by decide +kernel) ⟨Nat.le_of_ble_eq_true rfl, Nat.le_of_ble_eq_true rfl⟩) (yt_pre (X := []) hE hK hP hD) rfl rfl hl.1 rfl (lv_room (Nat.le_of_ble_eq_true rfl)) dL_law_4 ⟨Nat.le_of_ble_eq_true rfl, Nat.le_of_ble_eq_true rfl⟩) (fun u H locs hw hP hD hS => ?_)
  have hP : va_P (dC, dI) vwCl ([(h0, .inr (7, [.ref u.2.1, .ref u.2.2.1, .ref u.2.2.2.1, .null, .int 1]))] ++ wH cy u.1 ++ [(u.2.2.1, .inr (4, [.int 0, .int 0, .int 0, .ref u.2.2.2.2.1.1, .ref u.2.2.2.2.1.2.1, .ref u.2.2.2.2.1.2.2.1, .ref u.2.2.2.2.1.2.2.2.1, .ref u.2.2.2.2.1.2.2.2.2.1, .ref u.2.2.2.2.1.2.2.2.2.2.1, .ref u.2.2.2.2.1.2.2.2.2.2.2.1, .ref u.2.2.2.2.1.2.2.2.2.2.2.2])), (u.2.2.2.2.1.1, .inl (cy 0, 4, .inl (fun _ => 0))), (u.2.2.2.2.1.2.1, .inl (cy 0, 4, .inl (fun _ => 0))), (u.2.2.2.2.1.2.2.1, .inl (cy 0, 4, .inl (fun _ => 0))), (u.2.2.2.2.1.2.2.2.1, .inl (cy 0, 4, .inl (fun _ => 0))), (u.2.2.2.2.1.2.2.2.2.1, .inl (cy 0, 4, .inl (fun _ => 0))), (u.2.2.2.2.1.2.2.2.2.2.1, .inl (cy 0, 4, .inl (fun _ => 0))), (u.2.2.2.2.1.2.2.2.2.2.2.1, .inl (cy 0, 3, .inl (fun _ => 0))), (u.2.2.2.2.1.2.2.2.2.2.2.2, .inl (cy 0, 3, .inl (fun _ => 0)))] ++ [(u.2.2.2.1, .inr (5, [.int 0, .ref u.2.2.2.2.2.1, .ref u.2.2.2.2.2.2])), (u.2.2.2.2.2.1, .inl (cy 0, 5, .inl (fun _ => 0))), (u.2.2.2.2.2.2, .inl (cy 0, 5, .inl (fun _ => 0)))]) H := hP
  have hD : va_D (fun q : Nat => s.heap.size ≤ q) ([(h0, .inr (7, [.ref u.2.1, .ref u.2.2.1, .ref u.2.2.2.1, .null, .int 1]))] ++ wH cy u.1 ++ [(u.2.2.1, .inr (4, [.int 0, .int 0, .int 0, .ref u.2.2.2.2.1.1, .ref u.2.2.2.2.1.2.1, .ref u.2.2.2.2.1.2.2.1, .ref u.2.2.2.2.1.2.2.2.1, .ref u.2.2.2.2.1.2.2.2.2.1, .ref u.2.2.2.2.1.2.2.2.2.2.1, .ref u.2.2.2.2.1.2.2.2.2.2.2.1, .ref u.2.2.2.2.1.2.2.2.2.2.2.2])), (u.2.2.2.2.1.1, .inl (cy 0, 4, .inl (fun _ => 0))), (u.2.2.2.2.1.2.1, .inl (cy 0, 4, .inl (fun _ => 0))), (u.2.2.2.2.1.2.2.1, .inl (cy 0, 4, .inl (fun _ => 0))), (u.2.2.2.2.1.2.2.2.1, .inl (cy 0, 4, .inl (fun _ => 0))), (u.2.2.2.2.1.2.2.2.2.1, .inl (cy 0, 4, .inl (fun _ => 0))), (u.2.2.2.2.1.2.2.2.2.2.1, .inl (cy 0, 4, .inl (fun _ => 0))), (u.2.2.2.2.1.2.2.2.2.2.2.1, .inl (cy 0, 3, .inl (fun _ => 0))), (u.2.2.2.2.1.2.2.2.2.2.2.2, .inl (cy 0, 3, .inl (fun _ => 0)))] ++ [(u.2.2.2.1, .inr (5, [.int 0, .ref u.2.2.2.2.2.1, .ref u.2.2.2.2.2.2])), (u.2.2.2.2.2.1, .inl (cy 0, 5, .inl (fun _ => 0))), (u.2.2.2.2.2.2, .inl (cy 0, 5, .inl (fun _ => 0)))]) := hD
  obtain ⟨ad, a0, hP, hD⟩ := fresh_wl (h0 := h0) hw hP hD
  refine W.widen (k := 119) (n := 754) (Nat.le_of_ble_eq_true rfl) (Nat.le_of_ble_eq_true rfl) ?_
  refine lv_astore_n (lv' := [(1, .ref h0), (0, .ref b)]) hx hb dL_law_7 rfl hl (by decide) rfl (fun ls hl => ?_)
  refine va_new (ci := 8) (fs := [.null, .null, .int 0, .int 0, .null, .int 0, .null, .null, .null, .int 0, .null]) (C := RX8) (T := TX8) (N := 11) hx hb hts inlX8 tyX8 tyX8_ok hown (hts (.classLink RL 10 RX8) (by decide +kernel)) (hts (.instantiable RX8 11) (by decide +kernel)) (hts (.initialized RX8) (by decide +kernel)) hK hP hD hS hA rfl (fun j hj => by rcases (show j = 0 ∨ j = 1 ∨ j = 2 ∨ j = 3 ∨ j = 4 ∨ j = 5 ∨ j = 6 ∨ j = 7 ∨ j = 8 ∨ j = 9 ∨ j = 10 by omega) with rfl | rfl | rfl | rfl | rfl | rfl | rfl | rfl | rfl | rfl | rfl <;> rfl) (Nat.le_of_ble_eq_true rfl) (Nat.le_of_ble_eq_true rfl) dL_law_8 (fun g0 H hP hD hS => ?_)
  have hP : va_P (dC, dI) vwCl (wl ad .null cy 119 v_0 ++ [(g0, .inr (8, [.null, .null, .int 0, .int 0, .null, .int 0, .null, .null, .null, .int 0, .null]))]) H := hP
  have hD : va_D (fun q : Nat => s.heap.size ≤ q) (wl ad .null cy 119 v_0 ++ [(g0, .inr (8, [.null, .null, .int 0, .int 0, .null, .int 0, .null, .null, .null, .int 0, .null]))]) := hD
  refine W.widen (k := 120) (n := 765) (by omega) (by omega) ?_
  refine lv_dup hx hb dL_law_11 rfl ?_
  refine yt_v (X := wl ad .null cy 119 v_0) (x := (g0, .inr (8, [.null, .null, .int 0, .int 0, .null, .int 0, .null, .null, .null, .int 0, .null]))) (w1 := fun (u : Nat → Nat) => wm u cy m_0) hP hD hS hA (va_runI (As := []) (rest := [.ref g0]) ⟨hx, hb, hml, hown, hts⟩ (c_X8_init l dC dI cy _ g0) (cwI 0 hts gL_law_X8_init rfl rfl rfl (hts (.initialized RX8) (by decide +kernel)) (hts (.methodLink RL 12 yX8_init) (by decide +kernel)) (hts (.instanceMethod yX8_init) (by decide +kernel)) rfl (by decide +kernel) ⟨Nat.le_of_ble_eq_true rfl, Nat.le_of_ble_eq_true rfl⟩) (yt_pre hE hK hP hD) rfl rfl hl.1 rfl (lv_room (Nat.le_of_ble_eq_true rfl)) dL_law_12 ⟨Nat.le_of_ble_eq_true rfl, Nat.le_of_ble_eq_true rfl⟩) (fun ad2 H locs b0 hP hD hS => ?_)
  have hP : va_P (dC, dI) vwCl (wl ad .null cy 119 v_0 ++ wm ad2 cy m_0) H := hP
  have hD : va_D (fun q : Nat => s.heap.size ≤ q) (wl ad .null cy 119 v_0 ++ wm ad2 cy m_0) := hD
  refine W.widen (k := 127) (n := 1982) (Nat.le_of_ble_eq_true rfl) (Nat.le_of_ble_eq_true rfl) ?_
  refine lv_astore_n (lv' := [(2, .ref g0), (1, .ref h0), (0, .ref b)]) hx hb dL_law_15 rfl hl (by decide) rfl (fun ls hl => ?_)
  refine lv_iconst (v := 0) hx hb dL_law_16 (by decide) ?_
  refine lv_istore_n (lv' := [(3, .int 0), (2, .ref g0), (1, .ref h0), (0, .ref b)]) hx hb dL_law_17 rfl hl (by decide) rfl (fun ls hl => ?_)
  rw [← a0] at hl
  rw [← show ad2 0 = g0 from b0] at hl
  have k0 : (0 : Int32).toInt = 0 := by decide
  exact law_n C0 hSt hE hK hL (ad := ad) (ad2 := ad2) (3584 + 1) v_0 m_0 0 _ _ ls Iv_0 Ir_0 RR_0 (by omega) (by omega) (by omega) hP hD hS (lv_sub hl [0, 1, 2, 3] rfl)
