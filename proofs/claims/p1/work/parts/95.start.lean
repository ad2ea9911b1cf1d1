theorem dL_law_0 : decode cL_law 0 = .ok (.new 7, 3) := by decide +kernel
theorem dL_law_3 : decode cL_law 3 = .ok (.dup, 1) := by decide +kernel
set_option maxRecDepth 20000 in
theorem ggL_law_X7_init : GoodIn wsL_law wsX7_init := goodIn_r _ [8, 9, 10, 11, 12, 13, 14, 15, 16, 17, 18, 19, 20, 21, 22, 23, 24, 25, 26, 27, 28, 29, 30, 31, 32, 33, 34, 35, 36, 37, 38, 39, 40, 41, 42, 43, 44, 45, 46, 47, 48, 49, 50, 51, 52, 53, 54, 55, 56, 57, 58, 59, 60, 61, 62, 63, 64, 65, 66, 67, 68, 69, 70, 71, 72, 73, 74, 75, 76, 77, 78, 79, 80, 691, 692, 693, 694, 695, 696, 697, 675, 676, 677, 678, 679, 698, 699, 700, 701, 702, 703, 704, 705, 706, 707, 708, 709, 710, 711, 712, 713, 714, 715, 716, 717, 718, 719, 720, 721, 722, 723, 724, 725, 726, 727, 728, 729, 730, 731, 732] (by decide +kernel) (by decide +kernel)
set_option maxRecDepth 20000 in
theorem gL_law_X7_init : GoodIn wsL_law (wsX7_init) := ggL_law_X7_init
theorem dL_law_4 : decode cL_law 4 = .ok (.invokespecial 9, 3) := by decide +kernel
theorem dL_law_7 : decode cL_law 7 = .ok (.astore_n 1, 1) := by decide +kernel
theorem dL_law_8 : decode cL_law 8 = .ok (.new 10, 3) := by decide +kernel
theorem dL_law_11 : decode cL_law 11 = .ok (.dup, 1) := by decide +kernel
set_option maxRecDepth 20000 in
theorem ggL_law_X8_init : GoodIn wsL_law wsX8_init := goodIn_r _ [83, 84, 10, 11, 52, 85, 86, 87, 88, 89, 90, 91, 92, 680, 681, 682, 683, 684, 685, 686, 687, 688, 689, 690] (by decide +kernel) (by decide +kernel)
set_option maxRecDepth 20000 in
theorem gL_law_X8_init : GoodIn wsL_law (wsX8_init) := ggL_law_X8_init
theorem dL_law_12 : decode cL_law 12 = .ok (.invokespecial 12, 3) := by decide +kernel
theorem dL_law_15 : decode cL_law 15 = .ok (.astore_n 2, 1) := by decide +kernel
theorem dL_law_16 : decode cL_law 16 = .ok (.iconst 0, 1) := by decide +kernel
theorem dL_law_17 : decode cL_law 17 = .ok (.istore_n 3, 1) := by decide +kernel
theorem dL_law_27 : decode cL_law 27 = .ok (.aload_n 0, 1) := by decide +kernel
theorem dL_law_28 : decode cL_law 28 = .ok (.iload_n 3, 1) := by decide +kernel
theorem dL_law_29 : decode cL_law 29 = .ok (.iaload, 1) := by decide +kernel
theorem dL_law_30 : decode cL_law 30 = .ok (.bipush 31, 2) := by decide +kernel
theorem dL_law_32 : decode cL_law 32 = .ok (.iand, 1) := by decide +kernel
theorem dL_law_33 : decode cL_law 33 = .ok (.tableswitch 1027 0 25 #[119, 152, 185, 244, 277, 300, 333, 366, 399, 442, 475, 544, 577, 600, 623, 636, 727, 750, 793, 826, 859, 892, 945, 978, 1001, 1014], 119) := by decide +kernel
set_option maxHeartbeats 4000000 in
set_option maxRecDepth 100000 in
theorem whole_start {p : Program} {e : Env} {s : State} {m : MethodId} {below : List Frame} {meth : Method} {c : Code} (l : Launch) {b L : Nat} {xs : Nat → Int32} (hL : L ≤ 7) (C0 : lw_At p s m meth c b L xs) : W p l e room_1 s m #[Value.ref b] below meth c s.heap [] 0 0 (lw_Z below #[Value.ref b] s) (entryFrame m ([Value.ref b] : List Value).toArray 4) := by
  obtain ⟨hx, hb, hr, hml, hown, hts0, hX, hbl, hlocks, hgv⟩ := id C0
  have hts : ∀ w ∈ wsL_law, w.before #[Value.ref b] s = true := fun w h => hts0 w (wsL_law_in w h)
  have hown : s.vm.findClass RL = some m.cls := hown
  have hA : ∀ q : Nat, s.heap.size ≤ q → (fun q : Nat => s.heap.size ≤ q) q := fun _ h => h
  have hbA : ¬ (fun q : Nat => s.heap.size ≤ q) b := Nat.not_le.mpr hbl
  have hE : ex_K s := tb_ex hts0
  obtain ⟨dC, dI, cy, hK⟩ := tb_K hts0
  obtain ⟨t0, hSt⟩ := tb_st hts0 hgv
  have hS : va_S (fun q : Nat => s.heap.size ≤ q) s.heap s.heap [] := va_S.rf
  have hP : va_P (dC, dI) vwCl [] s.heap := fun k q h => by simp at h
  have hD : va_D (fun q : Nat => s.heap.size ≤ q) [] := ⟨fun i j p q h => by simp at h, fun k q h => by simp at h⟩
  have hl := lv_entry ([.ref b]) (n := 4) (Nat.le_of_ble_eq_true rfl)
  rw [lg_entry_eq]
  generalize (lg_sl ([.ref b]) ++ List.replicate (4 - (lg_sl ([.ref b])).length) Slot.unset).toArray = ls at hl ⊢
  have hl : lv_has ls 4 [(0, .ref b)] := hl
  refine va_new (ci := 7) (fs := [.null, .null, .null, .null, .int 0]) (C := RX7) (T := TX7) (N := 5) hx hb hts inlX7 tyX7 tyX7_ok hown (hts (.classLink RL 7 RX7) (by decide +kernel)) (hts (.instantiable RX7 5) (by decide +kernel)) (hts (.initialized RX7) (by decide +kernel)) hK hP hD hS hA rfl (fun j hj => by rcases (show j = 0 ∨ j = 1 ∨ j = 2 ∨ j = 3 ∨ j = 4 by omega) with rfl | rfl | rfl | rfl | rfl <;> rfl) (Nat.le_of_ble_eq_true rfl) (Nat.le_of_ble_eq_true rfl) dL_law_0 (fun h0 H hP hD hS => ?_)
  have hP : va_P (dC, dI) vwCl [(h0, .inr (7, [.null, .null, .null, .null, .int 0]))] H := hP
  have hD : va_D (fun q : Nat => s.heap.size ≤ q) [(h0, .inr (7, [.null, .null, .null, .null, .int 0]))] := hD
  refine W.widen (k := 1) (n := 5) (by omega) (by omega) ?_
  refine lv_dup hx hb dL_law_3 rfl ?_
  refine yc_v (wc := [(h0, .inr (7, [.null, .null, .null, .null, .int 0]))]) (wr := []) (w1 := fun (u : Nat × Nat × Nat × (Nat × Nat × Nat × Nat × Nat × (Nat → Option Nat) × (Nat → Option Nat)) × (Nat × Nat × Nat × Nat × Nat × Nat × Nat × Nat)) => [(h0, .inr (7, [.ref u.1, .ref u.2.1, .ref u.2.2.1, .null, .int 1])), (u.1, .inr (1, [.int 0, .int 0, .int 0, .int 0, .ref u.2.2.2.1.1, .ref u.2.2.2.1.2.1, .ref u.2.2.2.1.2.2.1])), (u.2.2.2.1.1, .inl (cy 1, 8, .inr (.inr (.inr (.inr u.2.2.2.1.2.2.2.2.2.1))))), (u.2.2.2.1.2.2.2.1, .inr (3, [.int 0, .int 0])), (u.2.2.2.1.2.1, .inl (cy 2, 4, .inr (.inr (.inr (.inr u.2.2.2.1.2.2.2.2.2.2))))), (u.2.2.2.1.2.2.2.2.1, .inr (2, [.int 0, .int 0, .int 0])), (u.2.1, .inr (4, [.int 0, .int 0, .int 0, .ref u.2.2.2.2.1, .ref u.2.2.2.2.2.1, .ref u.2.2.2.2.2.2.1, .ref u.2.2.2.2.2.2.2.1, .ref u.2.2.2.2.2.2.2.2.1, .ref u.2.2.2.2.2.2.2.2.2.1, .ref u.2.2.2.2.2.2.2.2.2.2.1, .ref u.2.2.2.2.2.2.2.2.2.2.2])), (u.2.2.2.2.1, .inl (cy 0, 4, .inl (fun _ => 0))), (u.2.2.2.2.2.1, .inl (cy 0, 4, .inl (fun _ => 0))), (u.2.2.2.2.2.2.1, .inl (cy 0, 4, .inl (fun _ => 0))), (u.2.2.2.2.2.2.2.1, .inl (cy 0, 4, .inl (fun _ => 0))), (u.2.2.2.2.2.2.2.2.1, .inl (cy 0, 4, .inl (fun _ => 0))), (u.2.2.2.2.2.2.2.2.2.1, .inl (cy 0, 4, .inl (fun _ => 0))), (u.2.2.2.2.2.2.2.2.2.2.1, .inl (cy 0, 3, .inl (fun _ => 0))), (u.2.2.2.2.2.2.2.2.2.2.2, .inl (cy 0, 3, .inl (fun _ => 0)))]) hP hD hS hA [0] [] rfl rfl (by decide) (by decide) (va_runI (As := []) (rest := [.ref h0]) ⟨hx, hb, hml, hown, hts⟩ (c_X7_init l dC dI cy _ h0) (cwI 0 hts gL_law_X7_init rfl rfl rfl (hts (.initialized RX7) (by decide +kernel)) (hts (.methodLink RL 9 yX7_init) (by decide +kernel)) (hts (.instanceMethod yX7_init) (by decide +kernel)) rfl (by decide +kernel) ⟨Nat.le_of_ble_eq_true rfl, Nat.le_of_ble_eq_true rfl⟩) (ex_preS hE hK hP hD [0] (by decide) rfl) rfl rfl hl.1 rfl (lv_room (Nat.le_of_ble_eq_true rfl)) dL_law_4 ⟨Nat.le_of_ble_eq_true rfl, Nat.le_of_ble_eq_true rfl⟩) (fun u_1 H locs hw_1 hP hD hS => ?_)
  obtain ⟨h1, h2, h3, ⟨h4, h5, h6, p9, m9, f, g⟩, ⟨q1, q2, q3, q4, q5, q6, q7, q8⟩⟩ := u_1
  have hP : va_P (dC, dI) vwCl [(h0, .inr (7, [.ref h1, .ref h2, .ref h3, .null, .int 1])), (h1, .inr (1, [.int 0, .int 0, .int 0, .int 0, .ref h4, .ref h5, .ref h6])), (h4, .inl (cy 1, 8, .inr (.inr (.inr (.inr f))))), (p9, .inr (3, [.int 0, .int 0])), (h5, .inl (cy 2, 4, .inr (.inr (.inr (.inr g))))), (m9, .inr (2, [.int 0, .int 0, .int 0])), (h2, .inr (4, [.int 0, .int 0, .int 0, .ref q1, .ref q2, .ref q3, .ref q4, .ref q5, .ref q6, .ref q7, .ref q8])), (q1, .inl (cy 0, 4, .inl (fun _ => 0))), (q2, .inl (cy 0, 4, .inl (fun _ => 0))), (q3, .inl (cy 0, 4, .inl (fun _ => 0))), (q4, .inl (cy 0, 4, .inl (fun _ => 0))), (q5, .inl (cy 0, 4, .inl (fun _ => 0))), (q6, .inl (cy 0, 4, .inl (fun _ => 0))), (q7, .inl (cy 0, 3, .inl (fun _ => 0))), (q8, .inl (cy 0, 3, .inl (fun _ => 0)))] H := hP
  have hD : va_D (fun q : Nat => s.heap.size ≤ q) [(h0, .inr (7, [.ref h1, .ref h2, .ref h3, .null, .int 1])), (h1, .inr (1, [.int 0, .int 0, .int 0, .int 0, .ref h4, .ref h5, .ref h6])), (h4, .inl (cy 1, 8, .inr (.inr (.inr (.inr f))))), (p9, .inr (3, [.int 0, .int 0])), (h5, .inl (cy 2, 4, .inr (.inr (.inr (.inr g))))), (m9, .inr (2, [.int 0, .int 0, .int 0])), (h2, .inr (4, [.int 0, .int 0, .int 0, .ref q1, .ref q2, .ref q3, .ref q4, .ref q5, .ref q6, .ref q7, .ref q8])), (q1, .inl (cy 0, 4, .inl (fun _ => 0))), (q2, .inl (cy 0, 4, .inl (fun _ => 0))), (q3, .inl (cy 0, 4, .inl (fun _ => 0))), (q4, .inl (cy 0, 4, .inl (fun _ => 0))), (q5, .inl (cy 0, 4, .inl (fun _ => 0))), (q6, .inl (cy 0, 4, .inl (fun _ => 0))), (q7, .inl (cy 0, 3, .inl (fun _ => 0))), (q8, .inl (cy 0, 3, .inl (fun _ => 0)))] := hD
  refine W.widen (k := 119) (n := 754) (by omega) (by omega) ?_
  have hfg : f 0 = some p9 ∧ g 0 = some m9 := hw_1
  refine lv_astore_n (lv' := [(1, .ref h0), (0, .ref b)]) hx hb dL_law_7 rfl hl (by decide) rfl (fun ls hl => ?_)
  refine va_new (ci := 8) (fs := [.null, .null, .int 0, .int 0, .null, .int 0, .null, .null, .null, .int 0, .null]) (C := RX8) (T := TX8) (N := 11) hx hb hts inlX8 tyX8 tyX8_ok hown (hts (.classLink RL 10 RX8) (by decide +kernel)) (hts (.instantiable RX8 11) (by decide +kernel)) (hts (.initialized RX8) (by decide +kernel)) hK hP hD hS hA rfl (fun j hj => by rcases (show j = 0 ∨ j = 1 ∨ j = 2 ∨ j = 3 ∨ j = 4 ∨ j = 5 ∨ j = 6 ∨ j = 7 ∨ j = 8 ∨ j = 9 ∨ j = 10 by omega) with rfl | rfl | rfl | rfl | rfl | rfl | rfl | rfl | rfl | rfl | rfl <;> rfl) (Nat.le_of_ble_eq_true rfl) (Nat.le_of_ble_eq_true rfl) dL_law_8 (fun g0 H hP hD hS => ?_)
  have hP : va_P (dC, dI) vwCl [(h0, .inr (7, [.ref h1, .ref h2, .ref h3, .null, .int 1])), (h1, .inr (1, [.int 0, .int 0, .int 0, .int 0, .ref h4, .ref h5, .ref h6])), (h4, .inl (cy 1, 8, .inr (.inr (.inr (.inr f))))), (p9, .inr (3, [.int 0, .int 0])), (h5, .inl (cy 2, 4, .inr (.inr (.inr (.inr g))))), (m9, .inr (2, [.int 0, .int 0, .int 0])), (h2, .inr (4, [.int 0, .int 0, .int 0, .ref q1, .ref q2, .ref q3, .ref q4, .ref q5, .ref q6, .ref q7, .ref q8])), (q1, .inl (cy 0, 4, .inl (fun _ => 0))), (q2, .inl (cy 0, 4, .inl (fun _ => 0))), (q3, .inl (cy 0, 4, .inl (fun _ => 0))), (q4, .inl (cy 0, 4, .inl (fun _ => 0))), (q5, .inl (cy 0, 4, .inl (fun _ => 0))), (q6, .inl (cy 0, 4, .inl (fun _ => 0))), (q7, .inl (cy 0, 3, .inl (fun _ => 0))), (q8, .inl (cy 0, 3, .inl (fun _ => 0))), (g0, .inr (8, [.null, .null, .int 0, .int 0, .null, .int 0, .null, .null, .null, .int 0, .null]))] H := hP
  have hD : va_D (fun q : Nat => s.heap.size ≤ q) [(h0, .inr (7, [.ref h1, .ref h2, .ref h3, .null, .int 1])), (h1, .inr (1, [.int 0, .int 0, .int 0, .int 0, .ref h4, .ref h5, .ref h6])), (h4, .inl (cy 1, 8, .inr (.inr (.inr (.inr f))))), (p9, .inr (3, [.int 0, .int 0])), (h5, .inl (cy 2, 4, .inr (.inr (.inr (.inr g))))), (m9, .inr (2, [.int 0, .int 0, .int 0])), (h2, .inr (4, [.int 0, .int 0, .int 0, .ref q1, .ref q2, .ref q3, .ref q4, .ref q5, .ref q6, .ref q7, .ref q8])), (q1, .inl (cy 0, 4, .inl (fun _ => 0))), (q2, .inl (cy 0, 4, .inl (fun _ => 0))), (q3, .inl (cy 0, 4, .inl (fun _ => 0))), (q4, .inl (cy 0, 4, .inl (fun _ => 0))), (q5, .inl (cy 0, 4, .inl (fun _ => 0))), (q6, .inl (cy 0, 4, .inl (fun _ => 0))), (q7, .inl (cy 0, 3, .inl (fun _ => 0))), (q8, .inl (cy 0, 3, .inl (fun _ => 0))), (g0, .inr (8, [.null, .null, .int 0, .int 0, .null, .int 0, .null, .null, .null, .int 0, .null]))] := hD
  refine W.widen (k := 120) (n := 765) (by omega) (by omega) ?_
  refine lv_dup hx hb dL_law_11 rfl ?_
  refine yc_v (wc := [(g0, .inr (8, [.null, .null, .int 0, .int 0, .null, .int 0, .null, .null, .null, .int 0, .null]))]) (wr := [(h0, .inr (7, [.ref h1, .ref h2, .ref h3, .null, .int 1])), (h1, .inr (1, [.int 0, .int 0, .int 0, .int 0, .ref h4, .ref h5, .ref h6])), (h4, .inl (cy 1, 8, .inr (.inr (.inr (.inr f))))), (p9, .inr (3, [.int 0, .int 0])), (h5, .inl (cy 2, 4, .inr (.inr (.inr (.inr g))))), (m9, .inr (2, [.int 0, .int 0, .int 0])), (h2, .inr (4, [.int 0, .int 0, .int 0, .ref q1, .ref q2, .ref q3, .ref q4, .ref q5, .ref q6, .ref q7, .ref q8])), (q1, .inl (cy 0, 4, .inl (fun _ => 0))), (q2, .inl (cy 0, 4, .inl (fun _ => 0))), (q3, .inl (cy 0, 4, .inl (fun _ => 0))), (q4, .inl (cy 0, 4, .inl (fun _ => 0))), (q5, .inl (cy 0, 4, .inl (fun _ => 0))), (q6, .inl (cy 0, 4, .inl (fun _ => 0))), (q7, .inl (cy 0, 3, .inl (fun _ => 0))), (q8, .inl (cy 0, 3, .inl (fun _ => 0)))]) (w1 := fun (u : Nat × Nat × Nat × Nat × Nat × Nat × Nat) => [(g0, .inr (8, [.ref u.1, .ref u.2.1, .int 0, .int 1, .ref u.2.2.1, .int 0, .ref u.2.2.2.1, .ref u.2.2.2.2.1, .ref u.2.2.2.2.2.1, .int 0, .ref u.2.2.2.2.2.2])), (u.1, .inl (cy 0, 596, .inl (fun _ => 0))), (u.2.1, .inl (cy 0, 596, .inl (fun _ => 0))), (u.2.2.1, .inl (cy 0, 6, .inl (fun _ => 0))), (u.2.2.2.1, .inl (cy 0, 4, .inl (fun _ => 0))), (u.2.2.2.2.1, .inl (cy 0, 5, .inl (fun _ => 0))), (u.2.2.2.2.2.1, .inl (cy 0, 4, .inl (fun _ => 0))), (u.2.2.2.2.2.2, .inl (cy 0, 6, .inl (fun _ => 0)))]) hP hD hS hA [15] [0, 1, 2, 3, 4, 5, 6, 7, 8, 9, 10, 11, 12, 13, 14] rfl rfl (by decide) (by decide) (va_runI (As := []) (rest := [.ref g0]) ⟨hx, hb, hml, hown, hts⟩ (c_X8_init l dC dI cy _ g0) (cwI 0 hts gL_law_X8_init rfl rfl rfl (hts (.initialized RX8) (by decide +kernel)) (hts (.methodLink RL 12 yX8_init) (by decide +kernel)) (hts (.instanceMethod yX8_init) (by decide +kernel)) rfl (by decide +kernel) ⟨Nat.le_of_ble_eq_true rfl, Nat.le_of_ble_eq_true rfl⟩) (ex_preS hE hK hP hD [15] (by decide) rfl) rfl rfl hl.1 rfl (lv_room (Nat.le_of_ble_eq_true rfl)) dL_law_12 ⟨Nat.le_of_ble_eq_true rfl, Nat.le_of_ble_eq_true rfl⟩) (fun u_2 H locs hw_2 hP hD hS => ?_)
  obtain ⟨g1, g2, g3, g4, g5, g6, g7⟩ := u_2
  have hP : va_P (dC, dI) vwCl [(h0, .inr (7, [.ref h1, .ref h2, .ref h3, .null, .int 1])), (h1, .inr (1, [.int 0, .int 0, .int 0, .int 0, .ref h4, .ref h5, .ref h6])), (h4, .inl (cy 1, 8, .inr (.inr (.inr (.inr f))))), (p9, .inr (3, [.int 0, .int 0])), (h5, .inl (cy 2, 4, .inr (.inr (.inr (.inr g))))), (m9, .inr (2, [.int 0, .int 0, .int 0])), (h2, .inr (4, [.int 0, .int 0, .int 0, .ref q1, .ref q2, .ref q3, .ref q4, .ref q5, .ref q6, .ref q7, .ref q8])), (q1, .inl (cy 0, 4, .inl (fun _ => 0))), (q2, .inl (cy 0, 4, .inl (fun _ => 0))), (q3, .inl (cy 0, 4, .inl (fun _ => 0))), (q4, .inl (cy 0, 4, .inl (fun _ => 0))), (q5, .inl (cy 0, 4, .inl (fun _ => 0))), (q6, .inl (cy 0, 4, .inl (fun _ => 0))), (q7, .inl (cy 0, 3, .inl (fun _ => 0))), (q8, .inl (cy 0, 3, .inl (fun _ => 0))), (g0, .inr (8, [.ref g1, .ref g2, .int 0, .int 1, .ref g3, .int 0, .ref g4, .ref g5, .ref g6, .int 0, .ref g7])), (g1, .inl (cy 0, 596, .inl (fun _ => 0))), (g2, .inl (cy 0, 596, .inl (fun _ => 0))), (g3, .inl (cy 0, 6, .inl (fun _ => 0))), (g4, .inl (cy 0, 4, .inl (fun _ => 0))), (g5, .inl (cy 0, 5, .inl (fun _ => 0))), (g6, .inl (cy 0, 4, .inl (fun _ => 0))), (g7, .inl (cy 0, 6, .inl (fun _ => 0)))] H := hP
  have hD : va_D (fun q : Nat => s.heap.size ≤ q) [(h0, .inr (7, [.ref h1, .ref h2, .ref h3, .null, .int 1])), (h1, .inr (1, [.int 0, .int 0, .int 0, .int 0, .ref h4, .ref h5, .ref h6])), (h4, .inl (cy 1, 8, .inr (.inr (.inr (.inr f))))), (p9, .inr (3, [.int 0, .int 0])), (h5, .inl (cy 2, 4, .inr (.inr (.inr (.inr g))))), (m9, .inr (2, [.int 0, .int 0, .int 0])), (h2, .inr (4, [.int 0, .int 0, .int 0, .ref q1, .ref q2, .ref q3, .ref q4, .ref q5, .ref q6, .ref q7, .ref q8])), (q1, .inl (cy 0, 4, .inl (fun _ => 0))), (q2, .inl (cy 0, 4, .inl (fun _ => 0))), (q3, .inl (cy 0, 4, .inl (fun _ => 0))), (q4, .inl (cy 0, 4, .inl (fun _ => 0))), (q5, .inl (cy 0, 4, .inl (fun _ => 0))), (q6, .inl (cy 0, 4, .inl (fun _ => 0))), (q7, .inl (cy 0, 3, .inl (fun _ => 0))), (q8, .inl (cy 0, 3, .inl (fun _ => 0))), (g0, .inr (8, [.ref g1, .ref g2, .int 0, .int 1, .ref g3, .int 0, .ref g4, .ref g5, .ref g6, .int 0, .ref g7])), (g1, .inl (cy 0, 596, .inl (fun _ => 0))), (g2, .inl (cy 0, 596, .inl (fun _ => 0))), (g3, .inl (cy 0, 6, .inl (fun _ => 0))), (g4, .inl (cy 0, 4, .inl (fun _ => 0))), (g5, .inl (cy 0, 5, .inl (fun _ => 0))), (g6, .inl (cy 0, 4, .inl (fun _ => 0))), (g7, .inl (cy 0, 6, .inl (fun _ => 0)))] := hD
  refine W.widen (k := 127) (n := 1982) (by omega) (by omega) ?_
  refine lv_astore_n (lv' := [(2, .ref g0), (1, .ref h0), (0, .ref b)]) hx hb dL_law_15 rfl hl (by decide) rfl (fun ls hl => ?_)
  refine lv_iconst (v := 0) hx hb dL_law_16 (by decide) ?_
  refine lv_istore_n (lv' := [(3, .int 0), (2, .ref g0), (1, .ref h0), (0, .ref b)]) hx hb dL_law_17 rfl hl (by decide) rfl (fun ls hl => ?_)
  refine lv_iload_n hx hb dL_law_18 rfl (lv_at hl 0 rfl) ?_
  refine lv_aload_n hx hb dL_law_19 rfl (lv_at hl 3 rfl) ?_
  refine va_slen hx hb hX hbl hbA hS dL_law_20 ?_
  refine lv_bipush (v := 7) hx hb dL_law_21 (by decide) ?_
  refine lv_isub hx hb dL_law_23 ?_
  refine lv_topi (fun x9 ex9 => ?_)
  rcases Nat.lt_or_ge L 7 with hL7 | hL7
  · have hx9 : x9 < 0 := by
      rw [ex9]
      rcases (show L = 0 ∨ L = 1 ∨ L = 2 ∨ L = 3 ∨ L = 4 ∨ L = 5 ∨ L = 6 by omega) with rfl | rfl | rfl | rfl | rfl | rfl | rfl <;> decide
    refine lv_icmp_gt (tgt := 1066) hx hb dL_law_24 (by decide) (fun _ => ?_) (fun c9 => absurd hx9 c9)
    refine lv_iconst (v := 1) hx hb dL_law_1066 (by decide) ?_
    refine va_forget (fun q hq => hS.2.2 q hq) ?_
    refine W.widen (k := 600000) (n := 7302250) (Nat.le_of_ble_eq_true rfl) (Nat.le_of_ble_eq_true rfl) ?_
    exact lw_ret hx hb hr hlocks dL_law_1067
  · obtain rfl : L = 7 := by omega
    obtain rfl : x9 = 0 := ex9.trans (by decide)
    refine lv_icmp_gt (tgt := 1066) hx hb dL_law_24 (by decide) (fun c9 => absurd c9 (by decide)) (fun _ => ?_)
    refine lv_aload_n hx hb dL_law_27 rfl (lv_at hl 3 rfl) ?_
    refine lv_iload_n hx hb dL_law_28 rfl (lv_at hl 0 rfl) ?_
    refine va_sld hx hb hX hbl hbA hS (by unfold vp_in; decide) dL_law_29 ?_
    refine lv_topi (fun x_3 ex_3 => ?_)
    refine lv_bipush (v := 31) hx hb dL_law_30 (by decide) ?_
    refine lv_iand hx hb dL_law_32 ?_
    refine lv_topi (fun x_4 ex_4 => ?_)
    rcases sw_26 x_4 with hsw | rfl | rfl | rfl | rfl | rfl | rfl | rfl | rfl | rfl | rfl | rfl | rfl | rfl | rfl | rfl | rfl | rfl | rfl | rfl | rfl | rfl | rfl | rfl | rfl | rfl | rfl
    · refine lv_tableOut (tgt := 1060) hx hb dL_law_33 hsw (by decide) ?_
      exact law_end C0 (Nat.le_of_ble_eq_true rfl) (Nat.le_of_ble_eq_true rfl) hS ls (lv_sub hl [0, 3] rfl)
    · refine lv_tableIn (off := 119) (tgt := 152) hx hb dL_law_33 (by decide) (by decide) (by decide) (by decide) ?_
      exact lc_0 C0 h0 h1 h2 h3 h4 h5 h6 p9 m9 q1 q2 q3 q4 q5 q6 q7 q8 g0 g1 g2 g3 g4 g5 g6 g7 t0 f g hfg.1 hfg.2 hSt hE hK hP hD hS ls hl
    · refine lv_tableIn (off := 152) (tgt := 185) hx hb dL_law_33 (by decide) (by decide) (by decide) (by decide) ?_
      exact lc_1 C0 h0 h1 h2 h3 h4 h5 h6 p9 m9 q1 q2 q3 q4 q5 q6 q7 q8 g0 g1 g2 g3 g4 g5 g6 g7 t0 f g hfg.1 hfg.2 hSt hE hK hP hD hS ls hl
    · refine lv_tableIn (off := 185) (tgt := 218) hx hb dL_law_33 (by decide) (by decide) (by decide) (by decide) ?_
      exact lc_2 C0 h0 h1 h2 h3 h4 h5 h6 p9 m9 q1 q2 q3 q4 q5 q6 q7 q8 g0 g1 g2 g3 g4 g5 g6 g7 t0 f g hfg.1 hfg.2 hSt hE hK hP hD hS ls hl
    · refine lv_tableIn (off := 244) (tgt := 277) hx hb dL_law_33 (by decide) (by decide) (by decide) (by decide) ?_
      exact lc_3 C0 h0 h1 h2 h3 h4 h5 h6 p9 m9 q1 q2 q3 q4 q5 q6 q7 q8 g0 g1 g2 g3 g4 g5 g6 g7 t0 f g hfg.1 hfg.2 hSt hE hK hP hD hS ls hl
    · refine lv_tableIn (off := 277) (tgt := 310) hx hb dL_law_33 (by decide) (by decide) (by decide) (by decide) ?_
      exact lc_4 C0 h0 h1 h2 h3 h4 h5 h6 p9 m9 q1 q2 q3 q4 q5 q6 q7 q8 g0 g1 g2 g3 g4 g5 g6 g7 t0 f g hfg.1 hfg.2 hSt hE hK hP hD hS ls hl
    · refine lv_tableIn (off := 300) (tgt := 333) hx hb dL_law_33 (by decide) (by decide) (by decide) (by decide) ?_
      exact lc_5 C0 h0 h1 h2 h3 h4 h5 h6 p9 m9 q1 q2 q3 q4 q5 q6 q7 q8 g0 g1 g2 g3 g4 g5 g6 g7 t0 f g hfg.1 hfg.2 hSt hE hK hP hD hS ls hl
    · refine lv_tableIn (off := 333) (tgt := 366) hx hb dL_law_33 (by decide) (by decide) (by decide) (by decide) ?_
      exact lc_6 C0 h0 h1 h2 h3 h4 h5 h6 p9 m9 q1 q2 q3 q4 q5 q6 q7 q8 g0 g1 g2 g3 g4 g5 g6 g7 t0 f g hfg.1 hfg.2 hSt hE hK hP hD hS ls hl
    · refine lv_tableIn (off := 366) (tgt := 399) hx hb dL_law_33 (by decide) (by decide) (by decide) (by decide) ?_
      exact lc_7 C0 h0 h1 h2 h3 h4 h5 h6 p9 m9 q1 q2 q3 q4 q5 q6 q7 q8 g0 g1 g2 g3 g4 g5 g6 g7 t0 f g hfg.1 hfg.2 hSt hE hK hP hD hS ls hl
    · refine lv_tableIn (off := 399) (tgt := 432) hx hb dL_law_33 (by decide) (by decide) (by decide) (by decide) ?_
      exact lc_8 C0 h0 h1 h2 h3 h4 h5 h6 p9 m9 q1 q2 q3 q4 q5 q6 q7 q8 g0 g1 g2 g3 g4 g5 g6 g7 t0 f g hfg.1 hfg.2 hSt hE hK hP hD hS ls hl
    · refine lv_tableIn (off := 442) (tgt := 475) hx hb dL_law_33 (by decide) (by decide) (by decide) (by decide) ?_
      exact lc_9 C0 h0 h1 h2 h3 h4 h5 h6 p9 m9 q1 q2 q3 q4 q5 q6 q7 q8 g0 g1 g2 g3 g4 g5 g6 g7 t0 f g hfg.1 hfg.2 hSt hE hK hP hD hS ls hl
    · refine lv_tableIn (off := 475) (tgt := 508) hx hb dL_law_33 (by decide) (by decide) (by decide) (by decide) ?_
      exact lc_10 C0 h0 h1 h2 h3 h4 h5 h6 p9 m9 q1 q2 q3 q4 q5 q6 q7 q8 g0 g1 g2 g3 g4 g5 g6 g7 t0 f g hfg.1 hfg.2 hSt hE hK hP hD hS ls hl
    · refine lv_tableIn (off := 544) (tgt := 577) hx hb dL_law_33 (by decide) (by decide) (by decide) (by decide) ?_
      exact lc_11 C0 h0 h1 h2 h3 h4 h5 h6 p9 m9 q1 q2 q3 q4 q5 q6 q7 q8 g0 g1 g2 g3 g4 g5 g6 g7 t0 f g hfg.1 hfg.2 hSt hE hK hP hD hS ls hl
    · refine lv_tableIn (off := 577) (tgt := 610) hx hb dL_law_33 (by decide) (by decide) (by decide) (by decide) ?_
      exact lc_12 C0 h0 h1 h2 h3 h4 h5 h6 p9 m9 q1 q2 q3 q4 q5 q6 q7 q8 g0 g1 g2 g3 g4 g5 g6 g7 t0 f g hfg.1 hfg.2 hSt hE hK hP hD hS ls hl
    · refine lv_tableIn (off := 600) (tgt := 633) hx hb dL_law_33 (by decide) (by decide) (by decide) (by decide) ?_
      exact lc_13 C0 h0 h1 h2 h3 h4 h5 h6 p9 m9 q1 q2 q3 q4 q5 q6 q7 q8 g0 g1 g2 g3 g4 g5 g6 g7 t0 f g hfg.1 hfg.2 hSt hE hK hP hD hS ls hl
    · refine lv_tableIn (off := 623) (tgt := 656) hx hb dL_law_33 (by decide) (by decide) (by decide) (by decide) ?_
      exact lc_14 C0 h0 h1 h2 h3 h4 h5 h6 p9 m9 q1 q2 q3 q4 q5 q6 q7 q8 g0 g1 g2 g3 g4 g5 g6 g7 t0 f g hfg.1 hfg.2 hSt hE hK hP hD hS ls hl
    · refine lv_tableIn (off := 636) (tgt := 669) hx hb dL_law_33 (by decide) (by decide) (by decide) (by decide) ?_
      exact lc_15 C0 h0 h1 h2 h3 h4 h5 h6 p9 m9 q1 q2 q3 q4 q5 q6 q7 q8 g0 g1 g2 g3 g4 g5 g6 g7 t0 f g hfg.1 hfg.2 hSt hE hK hP hD hS ls hl
    · refine lv_tableIn (off := 727) (tgt := 760) hx hb dL_law_33 (by decide) (by decide) (by decide) (by decide) ?_
      exact lc_16 C0 h0 h1 h2 h3 h4 h5 h6 p9 m9 q1 q2 q3 q4 q5 q6 q7 q8 g0 g1 g2 g3 g4 g5 g6 g7 t0 f g hfg.1 hfg.2 hSt hE hK hP hD hS ls hl
    · refine lv_tableIn (off := 750) (tgt := 783) hx hb dL_law_33 (by decide) (by decide) (by decide) (by decide) ?_
      exact lc_17 C0 h0 h1 h2 h3 h4 h5 h6 p9 m9 q1 q2 q3 q4 q5 q6 q7 q8 g0 g1 g2 g3 g4 g5 g6 g7 t0 f g hfg.1 hfg.2 hSt hE hK hP hD hS ls hl
    · refine lv_tableIn (off := 793) (tgt := 826) hx hb dL_law_33 (by decide) (by decide) (by decide) (by decide) ?_
      exact lc_18 C0 h0 h1 h2 h3 h4 h5 h6 p9 m9 q1 q2 q3 q4 q5 q6 q7 q8 g0 g1 g2 g3 g4 g5 g6 g7 t0 f g hfg.1 hfg.2 hSt hE hK hP hD hS ls hl
    · refine lv_tableIn (off := 826) (tgt := 859) hx hb dL_law_33 (by decide) (by decide) (by decide) (by decide) ?_
      exact lc_19 C0 h0 h1 h2 h3 h4 h5 h6 p9 m9 q1 q2 q3 q4 q5 q6 q7 q8 g0 g1 g2 g3 g4 g5 g6 g7 t0 f g hfg.1 hfg.2 hSt hE hK hP hD hS ls hl
    · refine lv_tableIn (off := 859) (tgt := 892) hx hb dL_law_33 (by decide) (by decide) (by decide) (by decide) ?_
      exact lc_20 C0 h0 h1 h2 h3 h4 h5 h6 p9 m9 q1 q2 q3 q4 q5 q6 q7 q8 g0 g1 g2 g3 g4 g5 g6 g7 t0 f g hfg.1 hfg.2 hSt hE hK hP hD hS ls hl
    · refine lv_tableIn (off := 892) (tgt := 925) hx hb dL_law_33 (by decide) (by decide) (by decide) (by decide) ?_
      exact lc_21 C0 h0 h1 h2 h3 h4 h5 h6 p9 m9 q1 q2 q3 q4 q5 q6 q7 q8 g0 g1 g2 g3 g4 g5 g6 g7 t0 f g hfg.1 hfg.2 hSt hE hK hP hD hS ls hl
    · refine lv_tableIn (off := 945) (tgt := 978) hx hb dL_law_33 (by decide) (by decide) (by decide) (by decide) ?_
      exact lc_22 C0 h0 h1 h2 h3 h4 h5 h6 p9 m9 q1 q2 q3 q4 q5 q6 q7 q8 g0 g1 g2 g3 g4 g5 g6 g7 t0 f g hfg.1 hfg.2 hSt hE hK hP hD hS ls hl
    · refine lv_tableIn (off := 978) (tgt := 1011) hx hb dL_law_33 (by decide) (by decide) (by decide) (by decide) ?_
      exact lc_23 C0 h0 h1 h2 h3 h4 h5 h6 p9 m9 q1 q2 q3 q4 q5 q6 q7 q8 g0 g1 g2 g3 g4 g5 g6 g7 t0 f g hfg.1 hfg.2 hSt hE hK hP hD hS ls hl
    · refine lv_tableIn (off := 1001) (tgt := 1034) hx hb dL_law_33 (by decide) (by decide) (by decide) (by decide) ?_
      exact lc_24 C0 h0 h1 h2 h3 h4 h5 h6 p9 m9 q1 q2 q3 q4 q5 q6 q7 q8 g0 g1 g2 g3 g4 g5 g6 g7 t0 f g hfg.1 hfg.2 hSt hE hK hP hD hS ls hl
    · refine lv_tableIn (off := 1014) (tgt := 1047) hx hb dL_law_33 (by decide) (by decide) (by decide) (by decide) ?_
      exact lc_25 C0 h0 h1 h2 h3 h4 h5 h6 p9 m9 q1 q2 q3 q4 q5 q6 q7 q8 g0 g1 g2 g3 g4 g5 g6 g7 t0 f g hfg.1 hfg.2 hSt hE hK hP hD hS ls hl
