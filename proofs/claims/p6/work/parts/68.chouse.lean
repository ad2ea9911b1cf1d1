set_option maxRecDepth 20000 in
theorem db_X1_copyFrom_0 : (decode cX1_copyFrom 0 = .ok (.aload_n 0, 1)) ∧ (decode cX1_copyFrom 1 = .ok (.aload_n 1, 1)) ∧ (decode cX1_copyFrom 2 = .ok (.getfield 88, 3)) ∧ (decode cX1_copyFrom 5 = .ok (.putfield 88, 3)) ∧ (decode cX1_copyFrom 8 = .ok (.aload_n 0, 1)) ∧ (decode cX1_copyFrom 9 = .ok (.aload_n 1, 1)) ∧ (decode cX1_copyFrom 10 = .ok (.getfield 36, 3)) ∧ (decode cX1_copyFrom 13 = .ok (.putfield 36, 3)) := by decide +kernel
theorem dX1_copyFrom_0 : decode cX1_copyFrom 0 = .ok (.aload_n 0, 1) := db_X1_copyFrom_0.1
theorem dX1_copyFrom_1 : decode cX1_copyFrom 1 = .ok (.aload_n 1, 1) := db_X1_copyFrom_0.2.1
theorem dX1_copyFrom_2 : decode cX1_copyFrom 2 = .ok (.getfield 88, 3) := db_X1_copyFrom_0.2.2.1
theorem dX1_copyFrom_5 : decode cX1_copyFrom 5 = .ok (.putfield 88, 3) := db_X1_copyFrom_0.2.2.2.1
theorem dX1_copyFrom_8 : decode cX1_copyFrom 8 = .ok (.aload_n 0, 1) := db_X1_copyFrom_0.2.2.2.2.1
theorem dX1_copyFrom_9 : decode cX1_copyFrom 9 = .ok (.aload_n 1, 1) := db_X1_copyFrom_0.2.2.2.2.2.1
theorem dX1_copyFrom_10 : decode cX1_copyFrom 10 = .ok (.getfield 36, 3) := db_X1_copyFrom_0.2.2.2.2.2.2.1
theorem dX1_copyFrom_13 : decode cX1_copyFrom 13 = .ok (.putfield 36, 3) := db_X1_copyFrom_0.2.2.2.2.2.2.2
set_option maxRecDepth 20000 in
theorem db_X1_copyFrom_16 : (decode cX1_copyFrom 16 = .ok (.aload_n 0, 1)) ∧ (decode cX1_copyFrom 17 = .ok (.aload_n 1, 1)) ∧ (decode cX1_copyFrom 18 = .ok (.getfield 66, 3)) ∧ (decode cX1_copyFrom 21 = .ok (.putfield 66, 3)) ∧ (decode cX1_copyFrom 24 = .ok (.aload_n 0, 1)) ∧ (decode cX1_copyFrom 25 = .ok (.aload_n 1, 1)) ∧ (decode cX1_copyFrom 26 = .ok (.getfield 91, 3)) ∧ (decode cX1_copyFrom 29 = .ok (.putfield 91, 3)) := by decide +kernel
theorem dX1_copyFrom_16 : decode cX1_copyFrom 16 = .ok (.aload_n 0, 1) := db_X1_copyFrom_16.1
theorem dX1_copyFrom_17 : decode cX1_copyFrom 17 = .ok (.aload_n 1, 1) := db_X1_copyFrom_16.2.1
theorem dX1_copyFrom_18 : decode cX1_copyFrom 18 = .ok (.getfield 66, 3) := db_X1_copyFrom_16.2.2.1
theorem dX1_copyFrom_21 : decode cX1_copyFrom 21 = .ok (.putfield 66, 3) := db_X1_copyFrom_16.2.2.2.1
theorem dX1_copyFrom_24 : decode cX1_copyFrom 24 = .ok (.aload_n 0, 1) := db_X1_copyFrom_16.2.2.2.2.1
theorem dX1_copyFrom_25 : decode cX1_copyFrom 25 = .ok (.aload_n 1, 1) := db_X1_copyFrom_16.2.2.2.2.2.1
theorem dX1_copyFrom_26 : decode cX1_copyFrom 26 = .ok (.getfield 91, 3) := db_X1_copyFrom_16.2.2.2.2.2.2.1
theorem dX1_copyFrom_29 : decode cX1_copyFrom 29 = .ok (.putfield 91, 3) := db_X1_copyFrom_16.2.2.2.2.2.2.2
set_option maxRecDepth 20000 in
theorem db_X1_copyFrom_32 : (decode cX1_copyFrom 32 = .ok (.iconst 0, 1)) ∧ (decode cX1_copyFrom 33 = .ok (.istore_n 2, 1)) ∧ (decode cX1_copyFrom 34 = .ok (.iload_n 2, 1)) ∧ (decode cX1_copyFrom 35 = .ok (.aload_n 0, 1)) ∧ (decode cX1_copyFrom 36 = .ok (.getfield 88, 3)) ∧ (decode cX1_copyFrom 39 = .ok (.if_icmp .ge 24, 3)) ∧ (decode cX1_copyFrom 63 = .ok (.iconst 0, 1)) ∧ (decode cX1_copyFrom 64 = .ok (.istore_n 2, 1)) := by decide +kernel
theorem dX1_copyFrom_32 : decode cX1_copyFrom 32 = .ok (.iconst 0, 1) := db_X1_copyFrom_32.1
theorem dX1_copyFrom_33 : decode cX1_copyFrom 33 = .ok (.istore_n 2, 1) := db_X1_copyFrom_32.2.1
theorem dX1_copyFrom_34 : decode cX1_copyFrom 34 = .ok (.iload_n 2, 1) := db_X1_copyFrom_32.2.2.1
theorem dX1_copyFrom_35 : decode cX1_copyFrom 35 = .ok (.aload_n 0, 1) := db_X1_copyFrom_32.2.2.2.1
theorem dX1_copyFrom_36 : decode cX1_copyFrom 36 = .ok (.getfield 88, 3) := db_X1_copyFrom_32.2.2.2.2.1
theorem dX1_copyFrom_39 : decode cX1_copyFrom 39 = .ok (.if_icmp .ge 24, 3) := db_X1_copyFrom_32.2.2.2.2.2.1
theorem dX1_copyFrom_63 : decode cX1_copyFrom 63 = .ok (.iconst 0, 1) := db_X1_copyFrom_32.2.2.2.2.2.2.1
theorem dX1_copyFrom_64 : decode cX1_copyFrom 64 = .ok (.istore_n 2, 1) := db_X1_copyFrom_32.2.2.2.2.2.2.2
set_option maxRecDepth 20000 in
theorem db_X1_copyFrom_65 : (decode cX1_copyFrom 65 = .ok (.iload_n 2, 1)) ∧ (decode cX1_copyFrom 66 = .ok (.aload_n 0, 1)) ∧ (decode cX1_copyFrom 67 = .ok (.getfield 36, 3)) ∧ (decode cX1_copyFrom 70 = .ok (.if_icmp .ge 24, 3)) ∧ (decode cX1_copyFrom 94 = .ok (.iconst 0, 1)) ∧ (decode cX1_copyFrom 95 = .ok (.istore_n 2, 1)) ∧ (decode cX1_copyFrom 96 = .ok (.iload_n 2, 1)) ∧ (decode cX1_copyFrom 97 = .ok (.aload_n 0, 1)) := by decide +kernel
theorem dX1_copyFrom_65 : decode cX1_copyFrom 65 = .ok (.iload_n 2, 1) := db_X1_copyFrom_65.1
theorem dX1_copyFrom_66 : decode cX1_copyFrom 66 = .ok (.aload_n 0, 1) := db_X1_copyFrom_65.2.1
theorem dX1_copyFrom_67 : decode cX1_copyFrom 67 = .ok (.getfield 36, 3) := db_X1_copyFrom_65.2.2.1
theorem dX1_copyFrom_70 : decode cX1_copyFrom 70 = .ok (.if_icmp .ge 24, 3) := db_X1_copyFrom_65.2.2.2.1
theorem dX1_copyFrom_94 : decode cX1_copyFrom 94 = .ok (.iconst 0, 1) := db_X1_copyFrom_65.2.2.2.2.1
theorem dX1_copyFrom_95 : decode cX1_copyFrom 95 = .ok (.istore_n 2, 1) := db_X1_copyFrom_65.2.2.2.2.2.1
theorem dX1_copyFrom_96 : decode cX1_copyFrom 96 = .ok (.iload_n 2, 1) := db_X1_copyFrom_65.2.2.2.2.2.2.1
theorem dX1_copyFrom_97 : decode cX1_copyFrom 97 = .ok (.aload_n 0, 1) := db_X1_copyFrom_65.2.2.2.2.2.2.2
set_option maxRecDepth 20000 in
theorem db_X1_copyFrom_98 : (decode cX1_copyFrom 98 = .ok (.getfield 66, 3)) ∧ (decode cX1_copyFrom 101 = .ok (.if_icmp .ge 24, 3)) ∧ (decode cX1_copyFrom 125 = .ok (.return_, 1)) ∧ (decode cX1_copyFrom 104 = .ok (.aload_n 0, 1)) ∧ (decode cX1_copyFrom 105 = .ok (.getfield 25, 3)) ∧ (decode cX1_copyFrom 108 = .ok (.iload_n 2, 1)) ∧ (decode cX1_copyFrom 109 = .ok (.aaload, 1)) ∧ (decode cX1_copyFrom 110 = .ok (.aload_n 1, 1)) := by decide +kernel
theorem dX1_copyFrom_98 : decode cX1_copyFrom 98 = .ok (.getfield 66, 3) := db_X1_copyFrom_98.1
theorem dX1_copyFrom_101 : decode cX1_copyFrom 101 = .ok (.if_icmp .ge 24, 3) := db_X1_copyFrom_98.2.1
theorem dX1_copyFrom_125 : decode cX1_copyFrom 125 = .ok (.return_, 1) := db_X1_copyFrom_98.2.2.1
theorem dX1_copyFrom_104 : decode cX1_copyFrom 104 = .ok (.aload_n 0, 1) := db_X1_copyFrom_98.2.2.2.1
theorem dX1_copyFrom_105 : decode cX1_copyFrom 105 = .ok (.getfield 25, 3) := db_X1_copyFrom_98.2.2.2.2.1
theorem dX1_copyFrom_108 : decode cX1_copyFrom 108 = .ok (.iload_n 2, 1) := db_X1_copyFrom_98.2.2.2.2.2.1
theorem dX1_copyFrom_109 : decode cX1_copyFrom 109 = .ok (.aaload, 1) := db_X1_copyFrom_98.2.2.2.2.2.2.1
theorem dX1_copyFrom_110 : decode cX1_copyFrom 110 = .ok (.aload_n 1, 1) := db_X1_copyFrom_98.2.2.2.2.2.2.2
set_option maxRecDepth 20000 in
theorem db_X1_copyFrom_111 : (decode cX1_copyFrom 111 = .ok (.getfield 25, 3)) ∧ (decode cX1_copyFrom 114 = .ok (.iload_n 2, 1)) ∧ (decode cX1_copyFrom 115 = .ok (.aaload, 1)) ∧ (decode cX1_copyFrom 116 = .ok (.invokevirtual 101, 3)) ∧ (decode cX1_copyFrom 119 = .ok (.iinc 2 1, 3)) ∧ (decode cX1_copyFrom 122 = .ok (.goto (-26), 3)) ∧ (decode cX1_copyFrom 73 = .ok (.aload_n 0, 1)) ∧ (decode cX1_copyFrom 74 = .ok (.getfield 19, 3)) := by decide +kernel
theorem dX1_copyFrom_111 : decode cX1_copyFrom 111 = .ok (.getfield 25, 3) := db_X1_copyFrom_111.1
theorem dX1_copyFrom_114 : decode cX1_copyFrom 114 = .ok (.iload_n 2, 1) := db_X1_copyFrom_111.2.1
theorem dX1_copyFrom_115 : decode cX1_copyFrom 115 = .ok (.aaload, 1) := db_X1_copyFrom_111.2.2.1
set_option maxRecDepth 20000 in
theorem ggX1_copyFrom_X0_copyFrom : GoodIn wsX1_copyFrom wsX0_copyFrom := goodIn_r _ [27, 28, 29, 30, 31, 32, 33, 34, 35, 36, 37, 38, 39, 40, 41, 42, 43, 44, 45, 46, 47, 48, 49, 50, 51, 52, 65, 66, 67, 68, 69, 70, 71, 72, 73, 74, 75, 76, 77, 78, 79, 80] rfl (by decide +kernel)
set_option maxRecDepth 20000 in
theorem gX1_copyFrom_X0_copyFrom : GoodIn wsX1_copyFrom (wsV RX1 101 RX0 yX0_copyFrom wsX0_copyFrom) := goodIn_app (goodIn_r _ [23, 24, 25, 26] rfl (by decide +kernel)) ggX1_copyFrom_X0_copyFrom
theorem dX1_copyFrom_116 : decode cX1_copyFrom 116 = .ok (.invokevirtual 101, 3) := db_X1_copyFrom_111.2.2.2.1
theorem dX1_copyFrom_119 : decode cX1_copyFrom 119 = .ok (.iinc 2 1, 3) := db_X1_copyFrom_111.2.2.2.2.1
theorem dX1_copyFrom_122 : decode cX1_copyFrom 122 = .ok (.goto (-26), 3) := db_X1_copyFrom_111.2.2.2.2.2.1
theorem dX1_copyFrom_73 : decode cX1_copyFrom 73 = .ok (.aload_n 0, 1) := db_X1_copyFrom_111.2.2.2.2.2.2.1
theorem dX1_copyFrom_74 : decode cX1_copyFrom 74 = .ok (.getfield 19, 3) := db_X1_copyFrom_111.2.2.2.2.2.2.2
set_option maxRecDepth 20000 in
theorem db_X1_copyFrom_77 : (decode cX1_copyFrom 77 = .ok (.iload_n 2, 1)) ∧ (decode cX1_copyFrom 78 = .ok (.aaload, 1)) ∧ (decode cX1_copyFrom 79 = .ok (.aload_n 1, 1)) ∧ (decode cX1_copyFrom 80 = .ok (.getfield 19, 3)) ∧ (decode cX1_copyFrom 83 = .ok (.iload_n 2, 1)) ∧ (decode cX1_copyFrom 84 = .ok (.aaload, 1)) ∧ (decode cX1_copyFrom 85 = .ok (.invokevirtual 98, 3)) ∧ (decode cX1_copyFrom 88 = .ok (.iinc 2 1, 3)) := by decide +kernel
theorem dX1_copyFrom_77 : decode cX1_copyFrom 77 = .ok (.iload_n 2, 1) := db_X1_copyFrom_77.1
theorem dX1_copyFrom_78 : decode cX1_copyFrom 78 = .ok (.aaload, 1) := db_X1_copyFrom_77.2.1
theorem dX1_copyFrom_79 : decode cX1_copyFrom 79 = .ok (.aload_n 1, 1) := db_X1_copyFrom_77.2.2.1
theorem dX1_copyFrom_80 : decode cX1_copyFrom 80 = .ok (.getfield 19, 3) := db_X1_copyFrom_77.2.2.2.1
theorem dX1_copyFrom_83 : decode cX1_copyFrom 83 = .ok (.iload_n 2, 1) := db_X1_copyFrom_77.2.2.2.2.1
theorem dX1_copyFrom_84 : decode cX1_copyFrom 84 = .ok (.aaload, 1) := db_X1_copyFrom_77.2.2.2.2.2.1
set_option maxRecDepth 20000 in
theorem ggX1_copyFrom_X2_copyFrom : GoodIn wsX1_copyFrom wsX2_copyFrom := goodIn_r _ [19, 20, 21, 22, 62, 63, 64] rfl (by decide +kernel)
set_option maxRecDepth 20000 in
theorem gX1_copyFrom_X2_copyFrom : GoodIn wsX1_copyFrom (wsV RX1 98 RX2 yX2_copyFrom wsX2_copyFrom) := goodIn_app (goodIn_r _ [15, 16, 17, 18] rfl (by decide +kernel)) ggX1_copyFrom_X2_copyFrom
theorem dX1_copyFrom_85 : decode cX1_copyFrom 85 = .ok (.invokevirtual 98, 3) := db_X1_copyFrom_77.2.2.2.2.2.2.1
theorem dX1_copyFrom_88 : decode cX1_copyFrom 88 = .ok (.iinc 2 1, 3) := db_X1_copyFrom_77.2.2.2.2.2.2.2
set_option maxRecDepth 20000 in
theorem db_X1_copyFrom_91 : (decode cX1_copyFrom 91 = .ok (.goto (-26), 3)) ∧ (decode cX1_copyFrom 42 = .ok (.aload_n 0, 1)) ∧ (decode cX1_copyFrom 43 = .ok (.getfield 11, 3)) ∧ (decode cX1_copyFrom 46 = .ok (.iload_n 2, 1)) ∧ (decode cX1_copyFrom 47 = .ok (.aaload, 1)) ∧ (decode cX1_copyFrom 48 = .ok (.aload_n 1, 1)) ∧ (decode cX1_copyFrom 49 = .ok (.getfield 11, 3)) ∧ (decode cX1_copyFrom 52 = .ok (.iload_n 2, 1)) := by decide +kernel
theorem dX1_copyFrom_91 : decode cX1_copyFrom 91 = .ok (.goto (-26), 3) := db_X1_copyFrom_91.1
theorem dX1_copyFrom_42 : decode cX1_copyFrom 42 = .ok (.aload_n 0, 1) := db_X1_copyFrom_91.2.1
theorem dX1_copyFrom_43 : decode cX1_copyFrom 43 = .ok (.getfield 11, 3) := db_X1_copyFrom_91.2.2.1
theorem dX1_copyFrom_46 : decode cX1_copyFrom 46 = .ok (.iload_n 2, 1) := db_X1_copyFrom_91.2.2.2.1
theorem dX1_copyFrom_47 : decode cX1_copyFrom 47 = .ok (.aaload, 1) := db_X1_copyFrom_91.2.2.2.2.1
theorem dX1_copyFrom_48 : decode cX1_copyFrom 48 = .ok (.aload_n 1, 1) := db_X1_copyFrom_91.2.2.2.2.2.1
theorem dX1_copyFrom_49 : decode cX1_copyFrom 49 = .ok (.getfield 11, 3) := db_X1_copyFrom_91.2.2.2.2.2.2.1
theorem dX1_copyFrom_52 : decode cX1_copyFrom 52 = .ok (.iload_n 2, 1) := db_X1_copyFrom_91.2.2.2.2.2.2.2
set_option maxRecDepth 20000 in
theorem db_X1_copyFrom_53 : (decode cX1_copyFrom 53 = .ok (.aaload, 1)) ∧ (decode cX1_copyFrom 54 = .ok (.invokevirtual 94, 3)) ∧ (decode cX1_copyFrom 57 = .ok (.iinc 2 1, 3)) ∧ (decode cX1_copyFrom 60 = .ok (.goto (-26), 3)) := by decide +kernel
theorem dX1_copyFrom_53 : decode cX1_copyFrom 53 = .ok (.aaload, 1) := db_X1_copyFrom_53.1
set_option maxRecDepth 20000 in
theorem ggX1_copyFrom_X3_copyFrom : GoodIn wsX1_copyFrom wsX3_copyFrom := goodIn_r _ [12, 13, 14, 60, 61] rfl (by decide +kernel)
set_option maxRecDepth 20000 in
theorem gX1_copyFrom_X3_copyFrom : GoodIn wsX1_copyFrom (wsV RX1 94 RX3 yX3_copyFrom wsX3_copyFrom) := goodIn_app (goodIn_r _ [8, 9, 10, 11] rfl (by decide +kernel)) ggX1_copyFrom_X3_copyFrom
theorem dX1_copyFrom_54 : decode cX1_copyFrom 54 = .ok (.invokevirtual 94, 3) := db_X1_copyFrom_53.2.1
theorem dX1_copyFrom_57 : decode cX1_copyFrom 57 = .ok (.iinc 2 1, 3) := db_X1_copyFrom_53.2.2.1
theorem dX1_copyFrom_60 : decode cX1_copyFrom 60 = .ok (.goto (-26), 3) := db_X1_copyFrom_53.2.2.2
theorem lvC_o {r : Nat → Int32} {o j : Nat} (h : lvC r o j) : o < 15 := by
  unfold lvC at h
  omega
theorem lvH_o {v : Nat → Nat → Int32} {B o j : Nat} (h : lvH v B o j) : 13 + o < 119 := by
  unfold lvH at h
  rcases h with h | h | h | ⟨c, q, h1, h2, h3, h4⟩
  · omega
  · omega
  · omega
  · have := lvC_o h4
    omega
theorem lvH_cg {v w : Nat → Nat → Int32} {B o j : Nat} (e : ∀ k : Nat, B ≤ k → k < B + 106 → w k = v k) (h : lvH v B o j) : lvH w B o j := by
  unfold lvH at h ⊢
  rw [e B (Nat.le_refl _) (by omega)]
  rcases h with h | h | h | ⟨c, q, h1, h2, h3, h4⟩
  · exact Or.inl h
  · exact Or.inr (Or.inl h)
  · exact Or.inr (Or.inr (Or.inl h))
  · refine Or.inr (Or.inr (Or.inr ⟨c, q, h1, h2, h3, ?_⟩))
    rw [e _ (by omega) (by omega)]
    exact h4

set_option maxHeartbeats 4000000 in
set_option maxRecDepth 100000 in
theorem e_X1_copyFrom_a (l : Launch) (dC : Nat → ClassId) (dI : Nat → Nat → Nat) (cy : Nat → ClassId) (sz : Nat) (ad : Nat → Nat) (kv : Value) (N : Nat) (hN : 119 ≤ N) (v : Nat → Nat → Int32) (hv : Iv v) (hN2 : 225 ≤ N)  : Met l yX1_copyFrom wsX1_copyFrom ({ frames := 2, cells := 0, slots := 0, locals := 128 }) (va_Pc [.ref (ad 13), .ref (ad 119)] (ex_Pre dC dI cy sz (wl ad kv cy N v))) (va_Qv (fun (u : Nat → Nat → Int32) => Iv u ∧ (∀ o j : Nat, lvH v 119 o j → u (13 + o) j = v (119 + o) j) ∧ (∀ k : Nat, (k < 13 ∨ 119 ≤ k) → u k = v k)) (fun u t => ex_Pst dC dI (va_A (wl ad kv cy N v) sz) (wl ad kv cy N u) t) (va_A (wl ad kv cy N v) sz)) 0 0 (va_A (wl ad kv cy N v) sz) := by
  refine Met.ofW (cc := cX1_copyFrom) (maxL := 3) (ret := none) (by decide) rfl ?_
  intro p e s m args below meth c s₁ B hml hv
  obtain ⟨rfl, hsz, hE, hP, hK, hD0⟩ := hv
  have hx := B.exec
  have hb := B.bytes
  have hr := B.returns
  have hts := atoms_spec (ws := wsX1_copyFrom) B.pre
  have hown : s.vm.findClass RX1 = some m.cls := findClass_of_methodNamed B.named
  have hlocks := B.notSynchronized
  subst hsz
  have hD := hD0.self (sz := s.heap.size)
  generalize hAe : va_A (wl ad kv cy N v) s.heap.size = A at hD ⊢
  have hA : ∀ q : Nat, s.heap.size ≤ q → A q := fun q h => by rw [← hAe]; exact Or.inr h
  have hS : va_S A s.heap s.heap [] := va_S.rf
  have hP : va_P (dC, dI) vwCl (wl ad kv cy N v) s.heap := hP
  have hl := lv_entry ([.ref (ad 13), .ref (ad 119)]) (n := 3) (Nat.le_of_ble_eq_true rfl)
  rw [lg_entry_eq]
  generalize (lg_sl ([.ref (ad 13), .ref (ad 119)]) ++ List.replicate (3 - (lg_sl ([.ref (ad 13), .ref (ad 119)])).length) Slot.unset).toArray = ls at hl ⊢
  have hl : lv_has ls 3 [(0, .ref (ad 13)), (1, .ref (ad 119))] := hl
  have hc0 := hv.at (k := 119) (j := 0) (K := 3) (by decide) rfl
  have hc1 := hv.at (k := 119) (j := 1) (K := 3) (by decide) rfl
  have hc2 := hv.at (k := 119) (j := 2) (K := 3) (by decide) rfl
  refine lv_aload_n hx hb dX1_copyFrom_0 rfl (lv_at hl 0 rfl) ?_
  refine lv_aload_n hx hb dX1_copyFrom_1 rfl (lv_at hl 1 rfl) ?_
  refine va_get (D := (dC, dI)) (ci := 1) (v := .int (v (119) 0)) (C := RX1) (T := TX1) (N := 7) hx hb hts iwX1_copyFrom_X1 hown hK hP (119) (wl_at (by omega) (ce_3 (by decide))) rfl 0 (by decide) (hts (.fieldLink RX1 88 "QuietStairs$House" "partyCount" "I") fwX1_copyFrom_1) (fun _ h9 => h9) rfl dX1_copyFrom_2 ?_
  refine lv_topi (fun x_1 ex_1 => ?_)
  have bzx_1 : 0 ≤ x_1.toInt ∧ x_1.toInt ≤ 8 := by rw [ex_1]; exact hv.at (K := 3) (by decide) rfl
  have qx_1 : x_1.toInt = (v (119) (0)).toInt := congrArg Int32.toInt ex_1
  refine va_put (D := (dC, dI)) (ci := 1) (v := .int x_1) (ty := .int) (C := RX1) (T := TX1) (N := 7) hx hb hts iwX1_copyFrom_X1 tyX1 tyX1_ok nmX1 hown hK hP hD hS (13) (wl_at (by omega) (ce_3 (by decide))) rfl 0 (by decide) (hts (.fieldLink RX1 88 "QuietStairs$House" "partyCount" "I") fwX1_copyFrom_1) (fun _ h9 => h9) rfl (by decide +kernel) rfl rfl (Nat.le_of_ble_eq_true rfl) dX1_copyFrom_5 (fun H locs hP hD hS => ?_)
  obtain ⟨v_2, ev_2⟩ : ∃ u : Nat → Nat → Int32, u = upr v (13) (upd (v (13)) 0 x_1) := ⟨_, rfl⟩
  have hP : va_P (dC, dI) vwCl (wl ad kv cy N v_2) H := by rw [ev_2, ← wl_put (e := _) (ce_3 (by decide))]; exact hP
  have hD : va_D A (wl ad kv cy N v_2) := by rw [ev_2, ← wl_put (e := _) (ce_3 (by decide))]; exact hD
  have hv : Iv v_2 := by rw [ev_2]; exact hv.put (K := 3) (by decide) (fun h q => by cases q; exact ⟨by omega, by omega⟩)
  refine lv_aload_n hx hb dX1_copyFrom_8 rfl (lv_at hl 0 rfl) ?_
  refine lv_aload_n hx hb dX1_copyFrom_9 rfl (lv_at hl 1 rfl) ?_
  refine va_get (D := (dC, dI)) (ci := 1) (v := .int (v_2 (119) 1)) (C := RX1) (T := TX1) (N := 7) hx hb hts iwX1_copyFrom_X1 hown hK hP (119) (wl_at (by omega) (ce_3 (by decide))) rfl 1 (by decide) (hts (.fieldLink RX1 36 "QuietStairs$House" "mediatorCount" "I") fwX1_copyFrom_2) (fun _ h9 => h9) rfl dX1_copyFrom_10 ?_
  refine lv_topi (fun x_3 ex_3 => ?_)
  have bzx_3 : 0 ≤ x_3.toInt ∧ x_3.toInt ≤ 4 := by rw [ex_3]; exact hv.at (K := 3) (by decide) rfl
  rw [ev_2, upr_n (by omega)] at ex_3
  have qx_3 : x_3.toInt = (v (119) (1)).toInt := congrArg Int32.toInt ex_3
  refine va_put (D := (dC, dI)) (ci := 1) (v := .int x_3) (ty := .int) (C := RX1) (T := TX1) (N := 7) hx hb hts iwX1_copyFrom_X1 tyX1 tyX1_ok nmX1 hown hK hP hD hS (13) (wl_at (by omega) (ce_3 (by decide))) rfl 1 (by decide) (hts (.fieldLink RX1 36 "QuietStairs$House" "mediatorCount" "I") fwX1_copyFrom_2) (fun _ h9 => h9) rfl (by decide +kernel) rfl rfl (Nat.le_of_ble_eq_true rfl) dX1_copyFrom_13 (fun H locs hP hD hS => ?_)
  obtain ⟨v_4, ev_4⟩ : ∃ u : Nat → Nat → Int32, u = upr v_2 (13) (upd (v_2 (13)) 1 x_3) := ⟨_, rfl⟩
  have hP : va_P (dC, dI) vwCl (wl ad kv cy N v_4) H := by rw [ev_4, ← wl_put (e := _) (ce_3 (by decide))]; exact hP
  have hD : va_D A (wl ad kv cy N v_4) := by rw [ev_4, ← wl_put (e := _) (ce_3 (by decide))]; exact hD
  have hv : Iv v_4 := by rw [ev_4]; exact hv.put (K := 3) (by decide) (fun h q => by cases q; exact ⟨by omega, by omega⟩)
  refine lv_aload_n hx hb dX1_copyFrom_16 rfl (lv_at hl 0 rfl) ?_
  refine lv_aload_n hx hb dX1_copyFrom_17 rfl (lv_at hl 1 rfl) ?_
  refine va_get (D := (dC, dI)) (ci := 1) (v := .int (v_4 (119) 2)) (C := RX1) (T := TX1) (N := 7) hx hb hts iwX1_copyFrom_X1 hown hK hP (119) (wl_at (by omega) (ce_3 (by decide))) rfl 2 (by decide) (hts (.fieldLink RX1 66 "QuietStairs$House" "caseCount" "I") fwX1_copyFrom_3) (fun _ h9 => h9) rfl dX1_copyFrom_18 ?_
  refine lv_topi (fun x_5 ex_5 => ?_)
  have bzx_5 : 0 ≤ x_5.toInt ∧ x_5.toInt ≤ 6 := by rw [ex_5]; exact hv.at (K := 3) (by decide) rfl
  rw [ev_4, upr_n (by omega), ev_2, upr_n (by omega)] at ex_5
  have qx_5 : x_5.toInt = (v (119) (2)).toInt := congrArg Int32.toInt ex_5
  refine va_put (D := (dC, dI)) (ci := 1) (v := .int x_5) (ty := .int) (C := RX1) (T := TX1) (N := 7) hx hb hts iwX1_copyFrom_X1 tyX1 tyX1_ok nmX1 hown hK hP hD hS (13) (wl_at (by omega) (ce_3 (by decide))) rfl 2 (by decide) (hts (.fieldLink RX1 66 "QuietStairs$House" "caseCount" "I") fwX1_copyFrom_3) (fun _ h9 => h9) rfl (by decide +kernel) rfl rfl (Nat.le_of_ble_eq_true rfl) dX1_copyFrom_21 (fun H locs hP hD hS => ?_)
  obtain ⟨v_6, ev_6⟩ : ∃ u : Nat → Nat → Int32, u = upr v_4 (13) (upd (v_4 (13)) 2 x_5) := ⟨_, rfl⟩
  have hP : va_P (dC, dI) vwCl (wl ad kv cy N v_6) H := by rw [ev_6, ← wl_put (e := _) (ce_3 (by decide))]; exact hP
  have hD : va_D A (wl ad kv cy N v_6) := by rw [ev_6, ← wl_put (e := _) (ce_3 (by decide))]; exact hD
  have hv : Iv v_6 := by rw [ev_6]; exact hv.put (K := 3) (by decide) (fun h q => by cases q; exact ⟨by omega, by omega⟩)
  refine lv_aload_n hx hb dX1_copyFrom_24 rfl (lv_at hl 0 rfl) ?_
  refine lv_aload_n hx hb dX1_copyFrom_25 rfl (lv_at hl 1 rfl) ?_
  refine va_get (D := (dC, dI)) (ci := 1) (v := .int (v_6 (119) 3)) (C := RX1) (T := TX1) (N := 7) hx hb hts iwX1_copyFrom_X1 hown hK hP (119) (wl_at (by omega) (ce_3 (by decide))) rfl 3 (by decide) (hts (.fieldLink RX1 91 "QuietStairs$House" "markCount" "I") fwX1_copyFrom_4) (fun _ h9 => h9) rfl dX1_copyFrom_26 ?_
  refine lv_topi (fun x_7 ex_7 => ?_)
  have bzx_7 : 0 ≤ x_7.toInt ∧ x_7.toInt ≤ 6 := by rw [ex_7]; exact hv.at (K := 3) (by decide) rfl
  rw [ev_6, upr_n (by omega), ev_4, upr_n (by omega), ev_2, upr_n (by omega)] at ex_7
  have qx_7 : x_7.toInt = (v (119) (3)).toInt := congrArg Int32.toInt ex_7
  refine va_put (D := (dC, dI)) (ci := 1) (v := .int x_7) (ty := .int) (C := RX1) (T := TX1) (N := 7) hx hb hts iwX1_copyFrom_X1 tyX1 tyX1_ok nmX1 hown hK hP hD hS (13) (wl_at (by omega) (ce_3 (by decide))) rfl 3 (by decide) (hts (.fieldLink RX1 91 "QuietStairs$House" "markCount" "I") fwX1_copyFrom_4) (fun _ h9 => h9) rfl (by decide +kernel) rfl rfl (Nat.le_of_ble_eq_true rfl) dX1_copyFrom_29 (fun H locs hP hD hS => ?_)
  obtain ⟨v_8, ev_8⟩ : ∃ u : Nat → Nat → Int32, u = upr v_6 (13) (upd (v_6 (13)) 3 x_7) := ⟨_, rfl⟩
  have hP : va_P (dC, dI) vwCl (wl ad kv cy N v_8) H := by rw [ev_8, ← wl_put (e := _) (ce_3 (by decide))]; exact hP
  have hD : va_D A (wl ad kv cy N v_8) := by rw [ev_8, ← wl_put (e := _) (ce_3 (by decide))]; exact hD
  have hv : Iv v_8 := by rw [ev_8]; exact hv.put (K := 3) (by decide) (fun h q => by cases q; exact ⟨by omega, by omega⟩)
  refine lv_iconst (v := 0) hx hb dX1_copyFrom_32 (by decide) ?_
  refine lv_istore_n (lv' := [(2, .int 0), (0, .ref (ad 13)), (1, .ref (ad 119))]) hx hb dX1_copyFrom_33 rfl hl (by decide) rfl (fun ls hl => ?_)
  have hc_9 : ∀ (n : Nat) (y9_2 : Int32) (u9 : Nat → Nat → Int32) (H : Heap) (locs : List Loc), 0 ≤ y9_2.toInt → y9_2.toInt ≤ 8 → (∀ k j : Nat, u9 k j = if 17 ≤ k ∧ (k : Int) < 17 + y9_2.toInt ∧ j < 2 then v_8 (k + 106) j else v_8 k j) → (y9_2.toInt ≤ (v 119 0).toInt) → (8 - y9_2.toInt).toNat < n → Iv u9 → va_P (dC, dI) vwCl (wl ad kv cy N u9) H → va_D A (wl ad kv cy N u9) → va_S A s.heap H locs → ∀ ls : Array Slot, lv_has ls 3 [(2, .int y9_2), (0, .ref (ad 13)), (1, .ref (ad 119))] → W p l e (headSpec wsX1_copyFrom ({ frames := 2, cells := 0, slots := 0, locals := 128 })).room s m [Value.ref (ad 13), Value.ref (ad 119)].toArray below meth c H locs 0 0 (MQ below (va_Qv (fun (u : Nat → Nat → Int32) => Iv u ∧ (∀ o j : Nat, lvH v 119 o j → u (13 + o) j = v (119 + o) j) ∧ (∀ k : Nat, (k < 13 ∨ 119 ≤ k) → u k = v k)) (fun u t => ex_Pst dC dI A (wl ad kv cy N u) t) A) [Value.ref (ad 13), Value.ref (ad 119)].toArray s 0 0 A) (F0 m 34 ls []) := by
    intro n
    induction n with
    | zero =>
      intro y9_2 u9 H locs ay9_2 by9_2 hi9_0 hi9_1 hm_9 hv hP hD hS ls hl
      exact absurd hm_9 (by omega)
    | succ n ih_9 =>
      intro y9_2 u9 H locs ay9_2 by9_2 hi9_0 hi9_1 hm_9 hv hP hD hS ls hl
      refine lv_iload_n hx hb dX1_copyFrom_34 rfl (lv_at hl 0 rfl) ?_
      refine lv_aload_n hx hb dX1_copyFrom_35 rfl (lv_at hl 1 rfl) ?_
      refine va_get (D := (dC, dI)) (ci := 1) (v := .int (u9 (13) 0)) (C := RX1) (T := TX1) (N := 7) hx hb hts iwX1_copyFrom_X1 hown hK hP (13) (wl_at (by omega) (ce_3 (by decide))) rfl 0 (by decide) (hts (.fieldLink RX1 88 "QuietStairs$House" "partyCount" "I") fwX1_copyFrom_1) (fun _ h9 => h9) rfl dX1_copyFrom_36 ?_
      refine lv_topi (fun x_10 ex_10 => ?_)
      have bzx_10 : 0 ≤ x_10.toInt ∧ x_10.toInt ≤ 8 := by rw [ex_10]; exact hv.at (K := 3) (by decide) rfl
      have qx_10 : x_10.toInt = (u9 (13) (0)).toInt := congrArg Int32.toInt ex_10
      have hmx_10 : x_10.toInt = (v 119 0).toInt := by rw [ex_10, hi9_0 13 0, if_neg (by omega), ev_8, up2, if_neg (by decide), ev_6, up2, if_neg (by decide), ev_4, up2, if_neg (by decide), ev_2, up2, if_pos ⟨rfl, rfl⟩, ex_1]
      refine lv_icmp_ge (tgt := 63) hx hb dX1_copyFrom_39 (by decide) (fun c_11 => ?_) (fun c_11 => ?_)
      · have tc_11 : y9_2.toInt ≥ x_10.toInt := Int32.le_iff_toInt_le.mp c_11
        refine lv_iconst (v := 0) hx hb dX1_copyFrom_63 (by decide) ?_
        refine lv_istore_n (lv' := [(2, .int 0), (0, .ref (ad 13)), (1, .ref (ad 119))]) hx hb dX1_copyFrom_64 rfl hl (by decide) rfl (fun ls hl => ?_)
        have hc_12 : ∀ (n : Nat) (y12_2 : Int32) (u12 : Nat → Nat → Int32) (H : Heap) (locs : List Loc), 0 ≤ y12_2.toInt → y12_2.toInt ≤ 4 → (∀ k j : Nat, u12 k j = if 25 ≤ k ∧ (k : Int) < 25 + y12_2.toInt ∧ j < 3 then u9 (k + 106) j else u9 k j) → (y12_2.toInt ≤ (v 119 1).toInt) → (4 - y12_2.toInt).toNat < n → Iv u12 → va_P (dC, dI) vwCl (wl ad kv cy N u12) H → va_D A (wl ad kv cy N u12) → va_S A s.heap H locs → ∀ ls : Array Slot, lv_has ls 3 [(2, .int y12_2), (0, .ref (ad 13)), (1, .ref (ad 119))] → W p l e (headSpec wsX1_copyFrom ({ frames := 2, cells := 0, slots := 0, locals := 128 })).room s m [Value.ref (ad 13), Value.ref (ad 119)].toArray below meth c H locs 0 0 (MQ below (va_Qv (fun (u : Nat → Nat → Int32) => Iv u ∧ (∀ o j : Nat, lvH v 119 o j → u (13 + o) j = v (119 + o) j) ∧ (∀ k : Nat, (k < 13 ∨ 119 ≤ k) → u k = v k)) (fun u t => ex_Pst dC dI A (wl ad kv cy N u) t) A) [Value.ref (ad 13), Value.ref (ad 119)].toArray s 0 0 A) (F0 m 65 ls []) := by
          intro n
          induction n with
          | zero =>
            intro y12_2 u12 H locs ay12_2 by12_2 hi12_0 hi12_1 hm_12 hv hP hD hS ls hl
            exact absurd hm_12 (by omega)
          | succ n ih_12 =>
            intro y12_2 u12 H locs ay12_2 by12_2 hi12_0 hi12_1 hm_12 hv hP hD hS ls hl
            refine lv_iload_n hx hb dX1_copyFrom_65 rfl (lv_at hl 0 rfl) ?_
            refine lv_aload_n hx hb dX1_copyFrom_66 rfl (lv_at hl 1 rfl) ?_
            refine va_get (D := (dC, dI)) (ci := 1) (v := .int (u12 (13) 1)) (C := RX1) (T := TX1) (N := 7) hx hb hts iwX1_copyFrom_X1 hown hK hP (13) (wl_at (by omega) (ce_3 (by decide))) rfl 1 (by decide) (hts (.fieldLink RX1 36 "QuietStairs$House" "mediatorCount" "I") fwX1_copyFrom_2) (fun _ h9 => h9) rfl dX1_copyFrom_67 ?_
            refine lv_topi (fun x_13 ex_13 => ?_)
            have bzx_13 : 0 ≤ x_13.toInt ∧ x_13.toInt ≤ 4 := by rw [ex_13]; exact hv.at (K := 3) (by decide) rfl
            have qx_13 : x_13.toInt = (u12 (13) (1)).toInt := congrArg Int32.toInt ex_13
            have hmx_13 : x_13.toInt = (v 119 1).toInt := by rw [ex_13, hi12_0 13 1, if_neg (by omega), hi9_0 13 1, if_neg (by omega), ev_8, up2, if_neg (by decide), ev_6, up2, if_neg (by decide), ev_4, up2, if_pos ⟨rfl, rfl⟩, ex_3]
            refine lv_icmp_ge (tgt := 94) hx hb dX1_copyFrom_70 (by decide) (fun c_14 => ?_) (fun c_14 => ?_)
            · have tc_14 : y12_2.toInt ≥ x_13.toInt := Int32.le_iff_toInt_le.mp c_14
              refine lv_iconst (v := 0) hx hb dX1_copyFrom_94 (by decide) ?_
              refine lv_istore_n (lv' := [(2, .int 0), (0, .ref (ad 13)), (1, .ref (ad 119))]) hx hb dX1_copyFrom_95 rfl hl (by decide) rfl (fun ls hl => ?_)
              have hc_15 : ∀ (n : Nat) (y15_2 : Int32) (u15 : Nat → Nat → Int32) (H : Heap) (locs : List Loc), 0 ≤ y15_2.toInt → y15_2.toInt ≤ 6 → (∀ q o j : Nat, q < 6 → (q : Int) < y15_2.toInt → lvC (u12 (135 + 15 * q)) o j → u15 (29 + 15 * q + o) j = u12 (135 + 15 * q + o) j) → (∀ k : Nat, (k < 29 ∨ 119 ≤ k) → u15 k = u12 k) → (y15_2.toInt ≤ (v 119 2).toInt) → (6 - y15_2.toInt).toNat < n → Iv u15 → va_P (dC, dI) vwCl (wl ad kv cy N u15) H → va_D A (wl ad kv cy N u15) → va_S A s.heap H locs → ∀ ls : Array Slot, lv_has ls 3 [(2, .int y15_2), (0, .ref (ad 13)), (1, .ref (ad 119))] → W p l e (headSpec wsX1_copyFrom ({ frames := 2, cells := 0, slots := 0, locals := 128 })).room s m [Value.ref (ad 13), Value.ref (ad 119)].toArray below meth c H locs 0 0 (MQ below (va_Qv (fun (u : Nat → Nat → Int32) => Iv u ∧ (∀ o j : Nat, lvH v 119 o j → u (13 + o) j = v (119 + o) j) ∧ (∀ k : Nat, (k < 13 ∨ 119 ≤ k) → u k = v k)) (fun u t => ex_Pst dC dI A (wl ad kv cy N u) t) A) [Value.ref (ad 13), Value.ref (ad 119)].toArray s 0 0 A) (F0 m 96 ls []) := by
                intro n
                induction n with
                | zero =>
                  intro y15_2 u15 H locs ay15_2 by15_2 hi15_0 hi15_1 hi15_2 hm_15 hv hP hD hS ls hl
                  exact absurd hm_15 (by omega)
                | succ n ih_15 =>
                  intro y15_2 u15 H locs ay15_2 by15_2 hi15_0 hi15_1 hi15_2 hm_15 hv hP hD hS ls hl
                  refine lv_iload_n hx hb dX1_copyFrom_96 rfl (lv_at hl 0 rfl) ?_
                  refine lv_aload_n hx hb dX1_copyFrom_97 rfl (lv_at hl 1 rfl) ?_
                  refine va_get (D := (dC, dI)) (ci := 1) (v := .int (u15 (13) 2)) (C := RX1) (T := TX1) (N := 7) hx hb hts iwX1_copyFrom_X1 hown hK hP (13) (wl_at (by omega) (ce_3 (by decide))) rfl 2 (by decide) (hts (.fieldLink RX1 66 "QuietStairs$House" "caseCount" "I") fwX1_copyFrom_3) (fun _ h9 => h9) rfl dX1_copyFrom_98 ?_
                  refine lv_topi (fun x_16 ex_16 => ?_)
                  have bzx_16 : 0 ≤ x_16.toInt ∧ x_16.toInt ≤ 6 := by rw [ex_16]; exact hv.at (K := 3) (by decide) rfl
                  have qx_16 : x_16.toInt = (u15 (13) (2)).toInt := congrArg Int32.toInt ex_16
                  have hmx_16 : x_16.toInt = (v 119 2).toInt := by rw [ex_16, hi15_1 13 (by omega), hi12_0 13 2, if_neg (by omega), hi9_0 13 2, if_neg (by omega), ev_8, up2, if_neg (by decide), ev_6, up2, if_pos ⟨rfl, rfl⟩, ex_5]
                  refine lv_icmp_ge (tgt := 125) hx hb dX1_copyFrom_101 (by decide) (fun c_17 => ?_) (fun c_17 => ?_)
                  · have tc_17 : y15_2.toInt ≥ x_16.toInt := Int32.le_iff_toInt_le.mp c_17
                    have y1 : y9_2.toInt = (v 119 0).toInt := by omega
                    have y2 : y12_2.toInt = (v 119 1).toInt := by omega
                    have y3 : y15_2.toInt = (v 119 2).toInt := by omega
                    have hz : ∀ k j : Nat, v_8 k j = if k = 13 ∧ j = 3 then v (119) 3 else if k = 13 ∧ j = 2 then v (119) 2 else if k = 13 ∧ j = 1 then v (119) 1 else if k = 13 ∧ j = 0 then v (119) 0 else v k j := fun k j => by rw [ev_8, up2, ev_6, up2, ev_4, up2, ev_2, up2, ex_7, ex_5, ex_3, ex_1]
                    have hs : ∀ k : Nat, (k < 13 ∨ 119 ≤ k) → u12 k = v k := fun k hk => funext fun j => by rw [hi12_0 k j, if_neg (by omega), hi9_0 k j, if_neg (by omega), hz, if_neg (by omega), if_neg (by omega), if_neg (by omega), if_neg (by omega)]
                    have hpost : (∀ o j : Nat, lvH v 119 o j → u15 (13 + o) j = v (119 + o) j) ∧ (∀ k : Nat, (k < 13 ∨ 119 ≤ k) → u15 k = v k) := by
                      refine ⟨fun o j hq => ?_, fun k hk => by rw [hi15_1 k (by omega)]; exact hs k hk⟩
                      unfold lvH at hq
                      rcases hq with ⟨rfl, hj⟩ | ⟨h1, h2, h3, hj⟩ | ⟨h1, h2, h3, hj⟩ | ⟨q, o2, h1, h2, rfl, hl⟩
                      · rw [hi15_1 _ (by omega), hi12_0 _ j, if_neg (by omega), hi9_0 _ j, if_neg (by omega), hz]
                        rcases (show j = 0 ∨ j = 1 ∨ j = 2 ∨ j = 3 by omega) with rfl | rfl | rfl | rfl
                        · rw [if_neg (by omega), if_neg (by omega), if_neg (by omega), if_pos ⟨rfl, rfl⟩]
                        · rw [if_neg (by omega), if_neg (by omega), if_pos ⟨rfl, rfl⟩]
                        · rw [if_neg (by omega), if_pos ⟨rfl, rfl⟩]
                        · rw [if_pos ⟨rfl, rfl⟩]
                      · rw [hi15_1 _ (by omega), hi12_0 _ j, if_neg (by omega), hi9_0 _ j, if_pos (by omega), show 13 + o + 106 = 119 + o from by omega, hz, if_neg (by omega), if_neg (by omega), if_neg (by omega), if_neg (by omega)]
                      · rw [hi15_1 _ (by omega), hi12_0 _ j, if_pos (by omega), show 13 + o + 106 = 119 + o from by omega, hi9_0 _ j, if_neg (by omega), hz, if_neg (by omega), if_neg (by omega), if_neg (by omega), if_neg (by omega)]
                      · have ho := lvC_o hl
                        have e1 := hi15_0 q o2 j h1 (by omega) (by rw [hs _ (by omega)]; exact hl)
                        rw [hs _ (by omega)] at e1
                        rw [show 13 + (16 + 15 * q + o2) = 29 + 15 * q + o2 from by omega, show 119 + (16 + 15 * q + o2) = 135 + 15 * q + o2 from by omega]
                        exact e1
                    exact W.vret hx hb hr (fun t ht hW => ⟨⟨u15, rfl, ⟨hv, hpost⟩, by rw [ht]; exact hP, hD⟩, hS.F ht⟩) hS.2.2 dX1_copyFrom_125
                  · have tc_17 : y15_2.toInt < x_16.toInt := Int32.lt_iff_toInt_lt.mp (Int32.not_le.mp c_17)
                    refine lv_aload_n hx hb dX1_copyFrom_104 rfl (lv_at hl 1 rfl) ?_
                    refine va_get (D := (dC, dI)) (ci := 1) (v := .ref (ad 16)) (C := RX1) (T := TX1) (N := 7) hx hb hts iwX1_copyFrom_X1 hown hK hP (13) (wl_at (by omega) (ce_3 (by decide))) rfl 6 (by decide) (hts (.fieldLink RX1 25 "QuietStairs$House" "cases" "[LQuietStairs$Case;") fwX1_copyFrom_7) (fun _ h9 => h9) rfl dX1_copyFrom_105 ?_
                    refine lv_iload_n hx hb dX1_copyFrom_108 rfl (lv_at hl 0 rfl) ?_
                    have zn_y15_2 : (y15_2.toNatClampNeg : Int) = y15_2.toInt := t_nn (by omega)
                    have hx_18 : y15_2.toNatClampNeg < 6 := by omega
                    refine va_aldq hx hb hK hP (16) 3 (wl_at (by omega) (ce_6 (by decide))) rfl (vp_in_iff.mpr ⟨by omega, by omega⟩) dX1_copyFrom_109 ?_
                    refine W.eq (g2 := F0 m 110 ls [.ref (ad (29 + 15 * y15_2.toNatClampNeg))]) (by rw [if_pos hx_18, show 16 + 13 + 15 * y15_2.toNatClampNeg = 29 + 15 * y15_2.toNatClampNeg from by omega]; rfl) ?_
                    refine lv_aload_n hx hb dX1_copyFrom_110 rfl (lv_at hl 2 rfl) ?_
                    refine va_get (D := (dC, dI)) (ci := 1) (v := .ref (ad 122)) (C := RX1) (T := TX1) (N := 7) hx hb hts iwX1_copyFrom_X1 hown hK hP (119) (wl_at (by omega) (ce_3 (by decide))) rfl 6 (by decide) (hts (.fieldLink RX1 25 "QuietStairs$House" "cases" "[LQuietStairs$Case;") fwX1_copyFrom_7) (fun _ h9 => h9) rfl dX1_copyFrom_111 ?_
                    refine lv_iload_n hx hb dX1_copyFrom_114 rfl (lv_at hl 0 rfl) ?_
                    refine va_aldq hx hb hK hP (122) 3 (wl_at (by omega) (ce_6 (by decide))) rfl (vp_in_iff.mpr ⟨by omega, by omega⟩) dX1_copyFrom_115 ?_
                    refine W.eq (g2 := F0 m 116 ls [.ref (ad (135 + 15 * y15_2.toNatClampNeg)), .ref (ad (29 + 15 * y15_2.toNatClampNeg))]) (by rw [if_pos hx_18, show 122 + 13 + 15 * y15_2.toNatClampNeg = 135 + 15 * y15_2.toNatClampNeg from by omega]; rfl) ?_
                    refine yw_v (w1 := fun (u : Nat → Nat → Int32) => wl ad kv cy N u) hD hS hA (va_runV (As := [.ref (ad (135 + 15 * y15_2.toNatClampNeg))]) (rest := []) ⟨hx, hb, hml, hown, hts⟩ (e_X0_copyFrom_a l dC dI cy _ ad kv N hN u15 hv y15_2.toNatClampNeg hx_18 hN2) (cwV 1 hts gX1_copyFrom_X0_copyFrom rfl rfl rfl hd_V_X0_copyFrom_1 ⟨Nat.le_of_ble_eq_true rfl, Nat.le_of_ble_eq_true rfl⟩) (yw_preV hE hK hP hD (ci := 0) (q0 := (29 + 15 * y15_2.toNatClampNeg)) rfl (wl_at (by omega) (ce_9 (kd_c _ hx_18).1.1))) rfl rfl hl.1 rfl (lv_room (Nat.le_of_ble_eq_true rfl)) dX1_copyFrom_116 ⟨Nat.le_of_ble_eq_true rfl, Nat.le_of_ble_eq_true rfl⟩) (fun v_19 H locs hw_19 hP hD hS => ?_)
                    obtain ⟨hv, hw_19⟩ := hw_19
                    obtain ⟨x_20, ex_20⟩ : ∃ y : Int32, y = y15_2 + 1 := ⟨_, rfl⟩
                    refine lv_iinc (v := x_20) (lv' := [(2, .int x_20), (0, .ref (ad 13)), (1, .ref (ad 119))]) hx hb dX1_copyFrom_119 hl (k := 0) rfl (by rw [ex_20]; rfl) (by decide) rfl (fun ls hl => ?_)
                    have k_1 : (1 : Int32).toInt = 1 := by decide
                    have tx_20 : x_20.toInt = y15_2.toInt + (1 : Int32).toInt := by rw [ex_20]; exact t_add ⟨by omega, by omega⟩
                    refine lv_goto (tgt := 96) hx hb dX1_copyFrom_122 (by decide) ?_
                    exact ih_15 x_20 v_19 _ _ (by omega) (by omega) (fun q o j h6 hq hl => by have ho := lvC_o hl; by_cases h : q = y15_2.toNatClampNeg; subst h; rw [hw_19.1 o j (by rw [hi15_1 _ (by omega)]; exact hl), hi15_1 _ (by omega)]; rw [hw_19.2 _ (by omega)]; exact hi15_0 q o j h6 (by omega) hl) (fun k hk => by rw [hw_19.2 k (by omega)]; exact hi15_1 k hk) (by omega) (by omega) hv hP hD hS ls (lv_sub hl [0, 1, 2] rfl)
              have k_0 : (0 : Int32).toInt = 0 := by decide
              exact hc_15 ((6 - (0 : Int32).toInt).toNat + 1) 0 u12 _ _ (by omega) (by omega) (fun q o j _ hq _ => absurd hq (by omega)) (fun _ _ => rfl) (by omega) (by omega) hv hP hD hS ls (lv_sub hl [0, 1, 2] rfl)
            · have tc_14 : y12_2.toInt < x_13.toInt := Int32.lt_iff_toInt_lt.mp (Int32.not_le.mp c_14)
              refine lv_aload_n hx hb dX1_copyFrom_73 rfl (lv_at hl 1 rfl) ?_
              refine va_get (D := (dC, dI)) (ci := 1) (v := .ref (ad 15)) (C := RX1) (T := TX1) (N := 7) hx hb hts iwX1_copyFrom_X1 hown hK hP (13) (wl_at (by omega) (ce_3 (by decide))) rfl 5 (by decide) (hts (.fieldLink RX1 19 "QuietStairs$House" "mediators" "[LQuietStairs$Mediator;") fwX1_copyFrom_6) (fun _ h9 => h9) rfl dX1_copyFrom_74 ?_
              refine lv_iload_n hx hb dX1_copyFrom_77 rfl (lv_at hl 0 rfl) ?_
              have zn_y12_2 : (y12_2.toNatClampNeg : Int) = y12_2.toInt := t_nn (by omega)
              have hx_15 : y12_2.toNatClampNeg < 4 := by omega
              refine va_aldq hx hb hK hP (15) 2 (wl_at (by omega) (ce_5 (by decide))) rfl (vp_in_iff.mpr ⟨by omega, by omega⟩) dX1_copyFrom_78 ?_
              refine W.eq (g2 := F0 m 79 ls [.ref (ad (25 + y12_2.toNatClampNeg))]) (by rw [if_pos hx_15, show 15 + 10 + y12_2.toNatClampNeg = 25 + y12_2.toNatClampNeg from by omega]; rfl) ?_
              refine lv_aload_n hx hb dX1_copyFrom_79 rfl (lv_at hl 2 rfl) ?_
              refine va_get (D := (dC, dI)) (ci := 1) (v := .ref (ad 121)) (C := RX1) (T := TX1) (N := 7) hx hb hts iwX1_copyFrom_X1 hown hK hP (119) (wl_at (by omega) (ce_3 (by decide))) rfl 5 (by decide) (hts (.fieldLink RX1 19 "QuietStairs$House" "mediators" "[LQuietStairs$Mediator;") fwX1_copyFrom_6) (fun _ h9 => h9) rfl dX1_copyFrom_80 ?_
              refine lv_iload_n hx hb dX1_copyFrom_83 rfl (lv_at hl 0 rfl) ?_
              refine va_aldq hx hb hK hP (121) 2 (wl_at (by omega) (ce_5 (by decide))) rfl (vp_in_iff.mpr ⟨by omega, by omega⟩) dX1_copyFrom_84 ?_
              refine W.eq (g2 := F0 m 85 ls [.ref (ad (131 + y12_2.toNatClampNeg)), .ref (ad (25 + y12_2.toNatClampNeg))]) (by rw [if_pos hx_15, show 121 + 10 + y12_2.toNatClampNeg = 131 + y12_2.toNatClampNeg from by omega]; rfl) ?_
              refine yw_v (w1 := fun (u : Nat → Nat → Int32) => wl ad kv cy N u) hD hS hA (va_runV (As := [.ref (ad (131 + y12_2.toNatClampNeg))]) (rest := []) ⟨hx, hb, hml, hown, hts⟩ (e_X2_copyFrom_a l dC dI cy _ ad kv N hN u12 hv y12_2.toNatClampNeg hx_15 hN2) (cwV 1 hts gX1_copyFrom_X2_copyFrom rfl rfl rfl hd_V_X2_copyFrom_1 ⟨Nat.le_of_ble_eq_true rfl, Nat.le_of_ble_eq_true rfl⟩) (yw_preV hE hK hP hD (ci := 2) (q0 := (25 + y12_2.toNatClampNeg)) rfl (wl_at (by omega) (ce_8 (kd_m _ hx_15).1))) rfl rfl hl.1 rfl (lv_room (Nat.le_of_ble_eq_true rfl)) dX1_copyFrom_85 ⟨Nat.le_of_ble_eq_true rfl, Nat.le_of_ble_eq_true rfl⟩) (fun v_16 H locs hw_16 hP hD hS => ?_)
              obtain ⟨hv, hw_16⟩ := hw_16
              obtain ⟨x_17, ex_17⟩ : ∃ y : Int32, y = y12_2 + 1 := ⟨_, rfl⟩
              refine lv_iinc (v := x_17) (lv' := [(2, .int x_17), (0, .ref (ad 13)), (1, .ref (ad 119))]) hx hb dX1_copyFrom_88 hl (k := 0) rfl (by rw [ex_17]; rfl) (by decide) rfl (fun ls hl => ?_)
              have k_1 : (1 : Int32).toInt = 1 := by decide
              have tx_17 : x_17.toInt = y12_2.toInt + (1 : Int32).toInt := by rw [ex_17]; exact t_add ⟨by omega, by omega⟩
              refine lv_goto (tgt := 65) hx hb dX1_copyFrom_91 (by decide) ?_
              exact ih_12 x_17 v_16 _ _ (by omega) (by omega) (fun k j => by rw [hw_16 k j]; by_cases h : k = 25 + y12_2.toNatClampNeg ∧ j < 3; rw [if_pos h, if_pos (by omega), hi12_0, if_neg (by omega), h.1, show 25 + y12_2.toNatClampNeg + 106 = 131 + y12_2.toNatClampNeg from by omega]; rw [if_neg h, hi12_0 k j]; (repeat' split); all_goals first | rfl | (exfalso; omega)) (by omega) (by omega) hv hP hD hS ls (lv_sub hl [0, 1, 2] rfl)
        have k_0 : (0 : Int32).toInt = 0 := by decide
        exact hc_12 ((4 - (0 : Int32).toInt).toNat + 1) 0 u9 _ _ (by omega) (by omega) (fun k j => by rw [if_neg (by omega)]) (by omega) (by omega) hv hP hD hS ls (lv_sub hl [0, 1, 2] rfl)
      · have tc_11 : y9_2.toInt < x_10.toInt := Int32.lt_iff_toInt_lt.mp (Int32.not_le.mp c_11)
        refine lv_aload_n hx hb dX1_copyFrom_42 rfl (lv_at hl 1 rfl) ?_
        refine va_get (D := (dC, dI)) (ci := 1) (v := .ref (ad 14)) (C := RX1) (T := TX1) (N := 7) hx hb hts iwX1_copyFrom_X1 hown hK hP (13) (wl_at (by omega) (ce_3 (by decide))) rfl 4 (by decide) (hts (.fieldLink RX1 11 "QuietStairs$House" "parties" "[LQuietStairs$Party;") fwX1_copyFrom_5) (fun _ h9 => h9) rfl dX1_copyFrom_43 ?_
        refine lv_iload_n hx hb dX1_copyFrom_46 rfl (lv_at hl 0 rfl) ?_
        have zn_y9_2 : (y9_2.toNatClampNeg : Int) = y9_2.toInt := t_nn (by omega)
        have hx_12 : y9_2.toNatClampNeg < 8 := by omega
        refine va_aldq hx hb hK hP (14) 1 (wl_at (by omega) (ce_4 (by decide))) rfl (vp_in_iff.mpr ⟨by omega, by omega⟩) dX1_copyFrom_47 ?_
        refine W.eq (g2 := F0 m 48 ls [.ref (ad (17 + y9_2.toNatClampNeg))]) (by rw [if_pos hx_12, show 14 + 3 + y9_2.toNatClampNeg = 17 + y9_2.toNatClampNeg from by omega]; rfl) ?_
        refine lv_aload_n hx hb dX1_copyFrom_48 rfl (lv_at hl 2 rfl) ?_
        refine va_get (D := (dC, dI)) (ci := 1) (v := .ref (ad 120)) (C := RX1) (T := TX1) (N := 7) hx hb hts iwX1_copyFrom_X1 hown hK hP (119) (wl_at (by omega) (ce_3 (by decide))) rfl 4 (by decide) (hts (.fieldLink RX1 11 "QuietStairs$House" "parties" "[LQuietStairs$Party;") fwX1_copyFrom_5) (fun _ h9 => h9) rfl dX1_copyFrom_49 ?_
        refine lv_iload_n hx hb dX1_copyFrom_52 rfl (lv_at hl 0 rfl) ?_
        refine va_aldq hx hb hK hP (120) 1 (wl_at (by omega) (ce_4 (by decide))) rfl (vp_in_iff.mpr ⟨by omega, by omega⟩) dX1_copyFrom_53 ?_
        refine W.eq (g2 := F0 m 54 ls [.ref (ad (123 + y9_2.toNatClampNeg)), .ref (ad (17 + y9_2.toNatClampNeg))]) (by rw [if_pos hx_12, show 120 + 3 + y9_2.toNatClampNeg = 123 + y9_2.toNatClampNeg from by omega]; rfl) ?_
        refine yw_v (w1 := fun (u : Nat → Nat → Int32) => wl ad kv cy N u) hD hS hA (va_runV (As := [.ref (ad (123 + y9_2.toNatClampNeg))]) (rest := []) ⟨hx, hb, hml, hown, hts⟩ (e_X3_copyFrom_a l dC dI cy _ ad kv N hN u9 hv y9_2.toNatClampNeg hx_12 hN2) (cwV 1 hts gX1_copyFrom_X3_copyFrom rfl rfl rfl hd_V_X3_copyFrom_1 ⟨Nat.le_of_ble_eq_true rfl, Nat.le_of_ble_eq_true rfl⟩) (yw_preV hE hK hP hD (ci := 3) (q0 := (17 + y9_2.toNatClampNeg)) rfl (wl_at (by omega) (ce_7 (kd_p _ hx_12).1))) rfl rfl hl.1 rfl (lv_room (Nat.le_of_ble_eq_true rfl)) dX1_copyFrom_54 ⟨Nat.le_of_ble_eq_true rfl, Nat.le_of_ble_eq_true rfl⟩) (fun v_13 H locs hw_13 hP hD hS => ?_)
        obtain ⟨hv, hw_13⟩ := hw_13
        obtain ⟨x_14, ex_14⟩ : ∃ y : Int32, y = y9_2 + 1 := ⟨_, rfl⟩
        refine lv_iinc (v := x_14) (lv' := [(2, .int x_14), (0, .ref (ad 13)), (1, .ref (ad 119))]) hx hb dX1_copyFrom_57 hl (k := 0) rfl (by rw [ex_14]; rfl) (by decide) rfl (fun ls hl => ?_)
        have k_1 : (1 : Int32).toInt = 1 := by decide
        have tx_14 : x_14.toInt = y9_2.toInt + (1 : Int32).toInt := by rw [ex_14]; exact t_add ⟨by omega, by omega⟩
        refine lv_goto (tgt := 34) hx hb dX1_copyFrom_60 (by decide) ?_
        exact ih_9 x_14 v_13 _ _ (by omega) (by omega) (fun k j => by rw [hw_13 k j]; by_cases h : k = 17 + y9_2.toNatClampNeg ∧ j < 2; rw [if_pos h, if_pos (by omega), hi9_0, if_neg (by omega), h.1, show 17 + y9_2.toNatClampNeg + 106 = 123 + y9_2.toNatClampNeg from by omega]; rw [if_neg h, hi9_0 k j]; (repeat' split); all_goals first | rfl | (exfalso; omega)) (by omega) (by omega) hv hP hD hS ls (lv_sub hl [0, 1, 2] rfl)
  have k_0 : (0 : Int32).toInt = 0 := by decide
  exact hc_9 ((8 - (0 : Int32).toInt).toNat + 1) 0 v_8 _ _ (by omega) (by omega) (fun k j => by rw [if_neg (by omega)]) (by omega) (by omega) hv hP hD hS ls (lv_sub hl [0, 1, 2] rfl)

set_option maxHeartbeats 4000000 in
set_option maxRecDepth 100000 in
theorem e_X1_copyFrom_b (l : Launch) (dC : Nat → ClassId) (dI : Nat → Nat → Nat) (cy : Nat → ClassId) (sz : Nat) (ad : Nat → Nat) (kv : Value) (N : Nat) (hN : 119 ≤ N) (v : Nat → Nat → Int32) (hv : Iv v) (hN2 : 225 ≤ N)  : Met l yX1_copyFrom wsX1_copyFrom ({ frames := 2, cells := 0, slots := 0, locals := 128 }) (va_Pc [.ref (ad 119), .ref (ad 13)] (ex_Pre dC dI cy sz (wl ad kv cy N v))) (va_Qv (fun (u : Nat → Nat → Int32) => Iv u ∧ (∀ o j : Nat, lvH v 13 o j → u (119 + o) j = v (13 + o) j) ∧ (∀ k : Nat, (k < 119 ∨ 225 ≤ k) → u k = v k)) (fun u t => ex_Pst dC dI (va_A (wl ad kv cy N v) sz) (wl ad kv cy N u) t) (va_A (wl ad kv cy N v) sz)) 0 0 (va_A (wl ad kv cy N v) sz) := by
  refine Met.ofW (cc := cX1_copyFrom) (maxL := 3) (ret := none) (by decide) rfl ?_
  intro p e s m args below meth c s₁ B hml hv
  obtain ⟨rfl, hsz, hE, hP, hK, hD0⟩ := hv
  have hx := B.exec
  have hb := B.bytes
  have hr := B.returns
  have hts := atoms_spec (ws := wsX1_copyFrom) B.pre
  have hown : s.vm.findClass RX1 = some m.cls := findClass_of_methodNamed B.named
  have hlocks := B.notSynchronized
  subst hsz
  have hD := hD0.self (sz := s.heap.size)
  generalize hAe : va_A (wl ad kv cy N v) s.heap.size = A at hD ⊢
  have hA : ∀ q : Nat, s.heap.size ≤ q → A q := fun q h => by rw [← hAe]; exact Or.inr h
  have hS : va_S A s.heap s.heap [] := va_S.rf
  have hP : va_P (dC, dI) vwCl (wl ad kv cy N v) s.heap := hP
  have hl := lv_entry ([.ref (ad 119), .ref (ad 13)]) (n := 3) (Nat.le_of_ble_eq_true rfl)
  rw [lg_entry_eq]
  generalize (lg_sl ([.ref (ad 119), .ref (ad 13)]) ++ List.replicate (3 - (lg_sl ([.ref (ad 119), .ref (ad 13)])).length) Slot.unset).toArray = ls at hl ⊢
  have hl : lv_has ls 3 [(0, .ref (ad 119)), (1, .ref (ad 13))] := hl
  have hc0 := hv.at (k := 13) (j := 0) (K := 3) (by decide) rfl
  have hc1 := hv.at (k := 13) (j := 1) (K := 3) (by decide) rfl
  have hc2 := hv.at (k := 13) (j := 2) (K := 3) (by decide) rfl
  refine lv_aload_n hx hb dX1_copyFrom_0 rfl (lv_at hl 0 rfl) ?_
  refine lv_aload_n hx hb dX1_copyFrom_1 rfl (lv_at hl 1 rfl) ?_
  refine va_get (D := (dC, dI)) (ci := 1) (v := .int (v (13) 0)) (C := RX1) (T := TX1) (N := 7) hx hb hts iwX1_copyFrom_X1 hown hK hP (13) (wl_at (by omega) (ce_3 (by decide))) rfl 0 (by decide) (hts (.fieldLink RX1 88 "QuietStairs$House" "partyCount" "I") fwX1_copyFrom_1) (fun _ h9 => h9) rfl dX1_copyFrom_2 ?_
  refine lv_topi (fun x_1 ex_1 => ?_)
  have bzx_1 : 0 ≤ x_1.toInt ∧ x_1.toInt ≤ 8 := by rw [ex_1]; exact hv.at (K := 3) (by decide) rfl
  have qx_1 : x_1.toInt = (v (13) (0)).toInt := congrArg Int32.toInt ex_1
  refine va_put (D := (dC, dI)) (ci := 1) (v := .int x_1) (ty := .int) (C := RX1) (T := TX1) (N := 7) hx hb hts iwX1_copyFrom_X1 tyX1 tyX1_ok nmX1 hown hK hP hD hS (119) (wl_at (by omega) (ce_3 (by decide))) rfl 0 (by decide) (hts (.fieldLink RX1 88 "QuietStairs$House" "partyCount" "I") fwX1_copyFrom_1) (fun _ h9 => h9) rfl (by decide +kernel) rfl rfl (Nat.le_of_ble_eq_true rfl) dX1_copyFrom_5 (fun H locs hP hD hS => ?_)
  obtain ⟨v_2, ev_2⟩ : ∃ u : Nat → Nat → Int32, u = upr v (119) (upd (v (119)) 0 x_1) := ⟨_, rfl⟩
  have hP : va_P (dC, dI) vwCl (wl ad kv cy N v_2) H := by rw [ev_2, ← wl_put (e := _) (ce_3 (by decide))]; exact hP
  have hD : va_D A (wl ad kv cy N v_2) := by rw [ev_2, ← wl_put (e := _) (ce_3 (by decide))]; exact hD
  have hv : Iv v_2 := by rw [ev_2]; exact hv.put (K := 3) (by decide) (fun h q => by cases q; exact ⟨by omega, by omega⟩)
  refine lv_aload_n hx hb dX1_copyFrom_8 rfl (lv_at hl 0 rfl) ?_
  refine lv_aload_n hx hb dX1_copyFrom_9 rfl (lv_at hl 1 rfl) ?_
  refine va_get (D := (dC, dI)) (ci := 1) (v := .int (v_2 (13) 1)) (C := RX1) (T := TX1) (N := 7) hx hb hts iwX1_copyFrom_X1 hown hK hP (13) (wl_at (by omega) (ce_3 (by decide))) rfl 1 (by decide) (hts (.fieldLink RX1 36 "QuietStairs$House" "mediatorCount" "I") fwX1_copyFrom_2) (fun _ h9 => h9) rfl dX1_copyFrom_10 ?_
  refine lv_topi (fun x_3 ex_3 => ?_)
  have bzx_3 : 0 ≤ x_3.toInt ∧ x_3.toInt ≤ 4 := by rw [ex_3]; exact hv.at (K := 3) (by decide) rfl
  rw [ev_2, upr_n (by omega)] at ex_3
  have qx_3 : x_3.toInt = (v (13) (1)).toInt := congrArg Int32.toInt ex_3
  refine va_put (D := (dC, dI)) (ci := 1) (v := .int x_3) (ty := .int) (C := RX1) (T := TX1) (N := 7) hx hb hts iwX1_copyFrom_X1 tyX1 tyX1_ok nmX1 hown hK hP hD hS (119) (wl_at (by omega) (ce_3 (by decide))) rfl 1 (by decide) (hts (.fieldLink RX1 36 "QuietStairs$House" "mediatorCount" "I") fwX1_copyFrom_2) (fun _ h9 => h9) rfl (by decide +kernel) rfl rfl (Nat.le_of_ble_eq_true rfl) dX1_copyFrom_13 (fun H locs hP hD hS => ?_)
  obtain ⟨v_4, ev_4⟩ : ∃ u : Nat → Nat → Int32, u = upr v_2 (119) (upd (v_2 (119)) 1 x_3) := ⟨_, rfl⟩
  have hP : va_P (dC, dI) vwCl (wl ad kv cy N v_4) H := by rw [ev_4, ← wl_put (e := _) (ce_3 (by decide))]; exact hP
  have hD : va_D A (wl ad kv cy N v_4) := by rw [ev_4, ← wl_put (e := _) (ce_3 (by decide))]; exact hD
  have hv : Iv v_4 := by rw [ev_4]; exact hv.put (K := 3) (by decide) (fun h q => by cases q; exact ⟨by omega, by omega⟩)
  refine lv_aload_n hx hb dX1_copyFrom_16 rfl (lv_at hl 0 rfl) ?_
  refine lv_aload_n hx hb dX1_copyFrom_17 rfl (lv_at hl 1 rfl) ?_
  refine va_get (D := (dC, dI)) (ci := 1) (v := .int (v_4 (13) 2)) (C := RX1) (T := TX1) (N := 7) hx hb hts iwX1_copyFrom_X1 hown hK hP (13) (wl_at (by omega) (ce_3 (by decide))) rfl 2 (by decide) (hts (.fieldLink RX1 66 "QuietStairs$House" "caseCount" "I") fwX1_copyFrom_3) (fun _ h9 => h9) rfl dX1_copyFrom_18 ?_
  refine lv_topi (fun x_5 ex_5 => ?_)
  have bzx_5 : 0 ≤ x_5.toInt ∧ x_5.toInt ≤ 6 := by rw [ex_5]; exact hv.at (K := 3) (by decide) rfl
  rw [ev_4, upr_n (by omega), ev_2, upr_n (by omega)] at ex_5
  have qx_5 : x_5.toInt = (v (13) (2)).toInt := congrArg Int32.toInt ex_5
  refine va_put (D := (dC, dI)) (ci := 1) (v := .int x_5) (ty := .int) (C := RX1) (T := TX1) (N := 7) hx hb hts iwX1_copyFrom_X1 tyX1 tyX1_ok nmX1 hown hK hP hD hS (119) (wl_at (by omega) (ce_3 (by decide))) rfl 2 (by decide) (hts (.fieldLink RX1 66 "QuietStairs$House" "caseCount" "I") fwX1_copyFrom_3) (fun _ h9 => h9) rfl (by decide +kernel) rfl rfl (Nat.le_of_ble_eq_true rfl) dX1_copyFrom_21 (fun H locs hP hD hS => ?_)
  obtain ⟨v_6, ev_6⟩ : ∃ u : Nat → Nat → Int32, u = upr v_4 (119) (upd (v_4 (119)) 2 x_5) := ⟨_, rfl⟩
  have hP : va_P (dC, dI) vwCl (wl ad kv cy N v_6) H := by rw [ev_6, ← wl_put (e := _) (ce_3 (by decide))]; exact hP
  have hD : va_D A (wl ad kv cy N v_6) := by rw [ev_6, ← wl_put (e := _) (ce_3 (by decide))]; exact hD
  have hv : Iv v_6 := by rw [ev_6]; exact hv.put (K := 3) (by decide) (fun h q => by cases q; exact ⟨by omega, by omega⟩)
  refine lv_aload_n hx hb dX1_copyFrom_24 rfl (lv_at hl 0 rfl) ?_
  refine lv_aload_n hx hb dX1_copyFrom_25 rfl (lv_at hl 1 rfl) ?_
  refine va_get (D := (dC, dI)) (ci := 1) (v := .int (v_6 (13) 3)) (C := RX1) (T := TX1) (N := 7) hx hb hts iwX1_copyFrom_X1 hown hK hP (13) (wl_at (by omega) (ce_3 (by decide))) rfl 3 (by decide) (hts (.fieldLink RX1 91 "QuietStairs$House" "markCount" "I") fwX1_copyFrom_4) (fun _ h9 => h9) rfl dX1_copyFrom_26 ?_
  refine lv_topi (fun x_7 ex_7 => ?_)
  have bzx_7 : 0 ≤ x_7.toInt ∧ x_7.toInt ≤ 6 := by rw [ex_7]; exact hv.at (K := 3) (by decide) rfl
  rw [ev_6, upr_n (by omega), ev_4, upr_n (by omega), ev_2, upr_n (by omega)] at ex_7
  have qx_7 : x_7.toInt = (v (13) (3)).toInt := congrArg Int32.toInt ex_7
  refine va_put (D := (dC, dI)) (ci := 1) (v := .int x_7) (ty := .int) (C := RX1) (T := TX1) (N := 7) hx hb hts iwX1_copyFrom_X1 tyX1 tyX1_ok nmX1 hown hK hP hD hS (119) (wl_at (by omega) (ce_3 (by decide))) rfl 3 (by decide) (hts (.fieldLink RX1 91 "QuietStairs$House" "markCount" "I") fwX1_copyFrom_4) (fun _ h9 => h9) rfl (by decide +kernel) rfl rfl (Nat.le_of_ble_eq_true rfl) dX1_copyFrom_29 (fun H locs hP hD hS => ?_)
  obtain ⟨v_8, ev_8⟩ : ∃ u : Nat → Nat → Int32, u = upr v_6 (119) (upd (v_6 (119)) 3 x_7) := ⟨_, rfl⟩
  have hP : va_P (dC, dI) vwCl (wl ad kv cy N v_8) H := by rw [ev_8, ← wl_put (e := _) (ce_3 (by decide))]; exact hP
  have hD : va_D A (wl ad kv cy N v_8) := by rw [ev_8, ← wl_put (e := _) (ce_3 (by decide))]; exact hD
  have hv : Iv v_8 := by rw [ev_8]; exact hv.put (K := 3) (by decide) (fun h q => by cases q; exact ⟨by omega, by omega⟩)
  refine lv_iconst (v := 0) hx hb dX1_copyFrom_32 (by decide) ?_
  refine lv_istore_n (lv' := [(2, .int 0), (0, .ref (ad 119)), (1, .ref (ad 13))]) hx hb dX1_copyFrom_33 rfl hl (by decide) rfl (fun ls hl => ?_)
  have hc_9 : ∀ (n : Nat) (y9_2 : Int32) (u9 : Nat → Nat → Int32) (H : Heap) (locs : List Loc), 0 ≤ y9_2.toInt → y9_2.toInt ≤ 8 → (∀ k j : Nat, u9 k j = if 123 ≤ k ∧ (k : Int) < 123 + y9_2.toInt ∧ j < 2 then v_8 (k - 106) j else v_8 k j) → (y9_2.toInt ≤ (v 13 0).toInt) → (8 - y9_2.toInt).toNat < n → Iv u9 → va_P (dC, dI) vwCl (wl ad kv cy N u9) H → va_D A (wl ad kv cy N u9) → va_S A s.heap H locs → ∀ ls : Array Slot, lv_has ls 3 [(2, .int y9_2), (0, .ref (ad 119)), (1, .ref (ad 13))] → W p l e (headSpec wsX1_copyFrom ({ frames := 2, cells := 0, slots := 0, locals := 128 })).room s m [Value.ref (ad 119), Value.ref (ad 13)].toArray below meth c H locs 0 0 (MQ below (va_Qv (fun (u : Nat → Nat → Int32) => Iv u ∧ (∀ o j : Nat, lvH v 13 o j → u (119 + o) j = v (13 + o) j) ∧ (∀ k : Nat, (k < 119 ∨ 225 ≤ k) → u k = v k)) (fun u t => ex_Pst dC dI A (wl ad kv cy N u) t) A) [Value.ref (ad 119), Value.ref (ad 13)].toArray s 0 0 A) (F0 m 34 ls []) := by
    intro n
    induction n with
    | zero =>
      intro y9_2 u9 H locs ay9_2 by9_2 hi9_0 hi9_1 hm_9 hv hP hD hS ls hl
      exact absurd hm_9 (by omega)
    | succ n ih_9 =>
      intro y9_2 u9 H locs ay9_2 by9_2 hi9_0 hi9_1 hm_9 hv hP hD hS ls hl
      refine lv_iload_n hx hb dX1_copyFrom_34 rfl (lv_at hl 0 rfl) ?_
      refine lv_aload_n hx hb dX1_copyFrom_35 rfl (lv_at hl 1 rfl) ?_
      refine va_get (D := (dC, dI)) (ci := 1) (v := .int (u9 (119) 0)) (C := RX1) (T := TX1) (N := 7) hx hb hts iwX1_copyFrom_X1 hown hK hP (119) (wl_at (by omega) (ce_3 (by decide))) rfl 0 (by decide) (hts (.fieldLink RX1 88 "QuietStairs$House" "partyCount" "I") fwX1_copyFrom_1) (fun _ h9 => h9) rfl dX1_copyFrom_36 ?_
      refine lv_topi (fun x_10 ex_10 => ?_)
      have bzx_10 : 0 ≤ x_10.toInt ∧ x_10.toInt ≤ 8 := by rw [ex_10]; exact hv.at (K := 3) (by decide) rfl
      have qx_10 : x_10.toInt = (u9 (119) (0)).toInt := congrArg Int32.toInt ex_10
      have hmx_10 : x_10.toInt = (v 13 0).toInt := by rw [ex_10, hi9_0 119 0, if_neg (by omega), ev_8, up2, if_neg (by decide), ev_6, up2, if_neg (by decide), ev_4, up2, if_neg (by decide), ev_2, up2, if_pos ⟨rfl, rfl⟩, ex_1]
      refine lv_icmp_ge (tgt := 63) hx hb dX1_copyFrom_39 (by decide) (fun c_11 => ?_) (fun c_11 => ?_)
      · have tc_11 : y9_2.toInt ≥ x_10.toInt := Int32.le_iff_toInt_le.mp c_11
        refine lv_iconst (v := 0) hx hb dX1_copyFrom_63 (by decide) ?_
        refine lv_istore_n (lv' := [(2, .int 0), (0, .ref (ad 119)), (1, .ref (ad 13))]) hx hb dX1_copyFrom_64 rfl hl (by decide) rfl (fun ls hl => ?_)
        have hc_12 : ∀ (n : Nat) (y12_2 : Int32) (u12 : Nat → Nat → Int32) (H : Heap) (locs : List Loc), 0 ≤ y12_2.toInt → y12_2.toInt ≤ 4 → (∀ k j : Nat, u12 k j = if 131 ≤ k ∧ (k : Int) < 131 + y12_2.toInt ∧ j < 3 then u9 (k - 106) j else u9 k j) → (y12_2.toInt ≤ (v 13 1).toInt) → (4 - y12_2.toInt).toNat < n → Iv u12 → va_P (dC, dI) vwCl (wl ad kv cy N u12) H → va_D A (wl ad kv cy N u12) → va_S A s.heap H locs → ∀ ls : Array Slot, lv_has ls 3 [(2, .int y12_2), (0, .ref (ad 119)), (1, .ref (ad 13))] → W p l e (headSpec wsX1_copyFrom ({ frames := 2, cells := 0, slots := 0, locals := 128 })).room s m [Value.ref (ad 119), Value.ref (ad 13)].toArray below meth c H locs 0 0 (MQ below (va_Qv (fun (u : Nat → Nat → Int32) => Iv u ∧ (∀ o j : Nat, lvH v 13 o j → u (119 + o) j = v (13 + o) j) ∧ (∀ k : Nat, (k < 119 ∨ 225 ≤ k) → u k = v k)) (fun u t => ex_Pst dC dI A (wl ad kv cy N u) t) A) [Value.ref (ad 119), Value.ref (ad 13)].toArray s 0 0 A) (F0 m 65 ls []) := by
          intro n
          induction n with
          | zero =>
            intro y12_2 u12 H locs ay12_2 by12_2 hi12_0 hi12_1 hm_12 hv hP hD hS ls hl
            exact absurd hm_12 (by omega)
          | succ n ih_12 =>
            intro y12_2 u12 H locs ay12_2 by12_2 hi12_0 hi12_1 hm_12 hv hP hD hS ls hl
            refine lv_iload_n hx hb dX1_copyFrom_65 rfl (lv_at hl 0 rfl) ?_
            refine lv_aload_n hx hb dX1_copyFrom_66 rfl (lv_at hl 1 rfl) ?_
            refine va_get (D := (dC, dI)) (ci := 1) (v := .int (u12 (119) 1)) (C := RX1) (T := TX1) (N := 7) hx hb hts iwX1_copyFrom_X1 hown hK hP (119) (wl_at (by omega) (ce_3 (by decide))) rfl 1 (by decide) (hts (.fieldLink RX1 36 "QuietStairs$House" "mediatorCount" "I") fwX1_copyFrom_2) (fun _ h9 => h9) rfl dX1_copyFrom_67 ?_
            refine lv_topi (fun x_13 ex_13 => ?_)
            have bzx_13 : 0 ≤ x_13.toInt ∧ x_13.toInt ≤ 4 := by rw [ex_13]; exact hv.at (K := 3) (by decide) rfl
            have qx_13 : x_13.toInt = (u12 (119) (1)).toInt := congrArg Int32.toInt ex_13
            have hmx_13 : x_13.toInt = (v 13 1).toInt := by rw [ex_13, hi12_0 119 1, if_neg (by omega), hi9_0 119 1, if_neg (by omega), ev_8, up2, if_neg (by decide), ev_6, up2, if_neg (by decide), ev_4, up2, if_pos ⟨rfl, rfl⟩, ex_3]
            refine lv_icmp_ge (tgt := 94) hx hb dX1_copyFrom_70 (by decide) (fun c_14 => ?_) (fun c_14 => ?_)
            · have tc_14 : y12_2.toInt ≥ x_13.toInt := Int32.le_iff_toInt_le.mp c_14
              refine lv_iconst (v := 0) hx hb dX1_copyFrom_94 (by decide) ?_
              refine lv_istore_n (lv' := [(2, .int 0), (0, .ref (ad 119)), (1, .ref (ad 13))]) hx hb dX1_copyFrom_95 rfl hl (by decide) rfl (fun ls hl => ?_)
              have hc_15 : ∀ (n : Nat) (y15_2 : Int32) (u15 : Nat → Nat → Int32) (H : Heap) (locs : List Loc), 0 ≤ y15_2.toInt → y15_2.toInt ≤ 6 → (∀ q o j : Nat, q < 6 → (q : Int) < y15_2.toInt → lvC (u12 (29 + 15 * q)) o j → u15 (135 + 15 * q + o) j = u12 (29 + 15 * q + o) j) → (∀ k : Nat, (k < 135 ∨ 225 ≤ k) → u15 k = u12 k) → (y15_2.toInt ≤ (v 13 2).toInt) → (6 - y15_2.toInt).toNat < n → Iv u15 → va_P (dC, dI) vwCl (wl ad kv cy N u15) H → va_D A (wl ad kv cy N u15) → va_S A s.heap H locs → ∀ ls : Array Slot, lv_has ls 3 [(2, .int y15_2), (0, .ref (ad 119)), (1, .ref (ad 13))] → W p l e (headSpec wsX1_copyFrom ({ frames := 2, cells := 0, slots := 0, locals := 128 })).room s m [Value.ref (ad 119), Value.ref (ad 13)].toArray below meth c H locs 0 0 (MQ below (va_Qv (fun (u : Nat → Nat → Int32) => Iv u ∧ (∀ o j : Nat, lvH v 13 o j → u (119 + o) j = v (13 + o) j) ∧ (∀ k : Nat, (k < 119 ∨ 225 ≤ k) → u k = v k)) (fun u t => ex_Pst dC dI A (wl ad kv cy N u) t) A) [Value.ref (ad 119), Value.ref (ad 13)].toArray s 0 0 A) (F0 m 96 ls []) := by
                intro n
                induction n with
                | zero =>
                  intro y15_2 u15 H locs ay15_2 by15_2 hi15_0 hi15_1 hi15_2 hm_15 hv hP hD hS ls hl
                  exact absurd hm_15 (by omega)
                | succ n ih_15 =>
                  intro y15_2 u15 H locs ay15_2 by15_2 hi15_0 hi15_1 hi15_2 hm_15 hv hP hD hS ls hl
                  refine lv_iload_n hx hb dX1_copyFrom_96 rfl (lv_at hl 0 rfl) ?_
                  refine lv_aload_n hx hb dX1_copyFrom_97 rfl (lv_at hl 1 rfl) ?_
                  refine va_get (D := (dC, dI)) (ci := 1) (v := .int (u15 (119) 2)) (C := RX1) (T := TX1) (N := 7) hx hb hts iwX1_copyFrom_X1 hown hK hP (119) (wl_at (by omega) (ce_3 (by decide))) rfl 2 (by decide) (hts (.fieldLink RX1 66 "QuietStairs$House" "caseCount" "I") fwX1_copyFrom_3) (fun _ h9 => h9) rfl dX1_copyFrom_98 ?_
                  refine lv_topi (fun x_16 ex_16 => ?_)
                  have bzx_16 : 0 ≤ x_16.toInt ∧ x_16.toInt ≤ 6 := by rw [ex_16]; exact hv.at (K := 3) (by decide) rfl
                  have qx_16 : x_16.toInt = (u15 (119) (2)).toInt := congrArg Int32.toInt ex_16
                  have hmx_16 : x_16.toInt = (v 13 2).toInt := by rw [ex_16, hi15_1 119 (by omega), hi12_0 119 2, if_neg (by omega), hi9_0 119 2, if_neg (by omega), ev_8, up2, if_neg (by decide), ev_6, up2, if_pos ⟨rfl, rfl⟩, ex_5]
                  refine lv_icmp_ge (tgt := 125) hx hb dX1_copyFrom_101 (by decide) (fun c_17 => ?_) (fun c_17 => ?_)
                  · have tc_17 : y15_2.toInt ≥ x_16.toInt := Int32.le_iff_toInt_le.mp c_17
                    have y1 : y9_2.toInt = (v 13 0).toInt := by omega
                    have y2 : y12_2.toInt = (v 13 1).toInt := by omega
                    have y3 : y15_2.toInt = (v 13 2).toInt := by omega
                    have hz : ∀ k j : Nat, v_8 k j = if k = 119 ∧ j = 3 then v (13) 3 else if k = 119 ∧ j = 2 then v (13) 2 else if k = 119 ∧ j = 1 then v (13) 1 else if k = 119 ∧ j = 0 then v (13) 0 else v k j := fun k j => by rw [ev_8, up2, ev_6, up2, ev_4, up2, ev_2, up2, ex_7, ex_5, ex_3, ex_1]
                    have hs : ∀ k : Nat, (k < 119 ∨ 225 ≤ k) → u12 k = v k := fun k hk => funext fun j => by rw [hi12_0 k j, if_neg (by omega), hi9_0 k j, if_neg (by omega), hz, if_neg (by omega), if_neg (by omega), if_neg (by omega), if_neg (by omega)]
                    have hpost : (∀ o j : Nat, lvH v 13 o j → u15 (119 + o) j = v (13 + o) j) ∧ (∀ k : Nat, (k < 119 ∨ 225 ≤ k) → u15 k = v k) := by
                      refine ⟨fun o j hq => ?_, fun k hk => by rw [hi15_1 k (by omega)]; exact hs k hk⟩
                      unfold lvH at hq
                      rcases hq with ⟨rfl, hj⟩ | ⟨h1, h2, h3, hj⟩ | ⟨h1, h2, h3, hj⟩ | ⟨q, o2, h1, h2, rfl, hl⟩
                      · rw [hi15_1 _ (by omega), hi12_0 _ j, if_neg (by omega), hi9_0 _ j, if_neg (by omega), hz]
                        rcases (show j = 0 ∨ j = 1 ∨ j = 2 ∨ j = 3 by omega) with rfl | rfl | rfl | rfl
                        · rw [if_neg (by omega), if_neg (by omega), if_neg (by omega), if_pos ⟨rfl, rfl⟩]
                        · rw [if_neg (by omega), if_neg (by omega), if_pos ⟨rfl, rfl⟩]
                        · rw [if_neg (by omega), if_pos ⟨rfl, rfl⟩]
                        · rw [if_pos ⟨rfl, rfl⟩]
                      · rw [hi15_1 _ (by omega), hi12_0 _ j, if_neg (by omega), hi9_0 _ j, if_pos (by omega), show 119 + o - 106 = 13 + o from by omega, hz, if_neg (by omega), if_neg (by omega), if_neg (by omega), if_neg (by omega)]
                      · rw [hi15_1 _ (by omega), hi12_0 _ j, if_pos (by omega), show 119 + o - 106 = 13 + o from by omega, hi9_0 _ j, if_neg (by omega), hz, if_neg (by omega), if_neg (by omega), if_neg (by omega), if_neg (by omega)]
                      · have ho := lvC_o hl
                        have e1 := hi15_0 q o2 j h1 (by omega) (by rw [hs _ (by omega)]; exact hl)
                        rw [hs _ (by omega)] at e1
                        rw [show 119 + (16 + 15 * q + o2) = 135 + 15 * q + o2 from by omega, show 13 + (16 + 15 * q + o2) = 29 + 15 * q + o2 from by omega]
                        exact e1
                    exact W.vret hx hb hr (fun t ht hW => ⟨⟨u15, rfl, ⟨hv, hpost⟩, by rw [ht]; exact hP, hD⟩, hS.F ht⟩) hS.2.2 dX1_copyFrom_125
                  · have tc_17 : y15_2.toInt < x_16.toInt := Int32.lt_iff_toInt_lt.mp (Int32.not_le.mp c_17)
                    refine lv_aload_n hx hb dX1_copyFrom_104 rfl (lv_at hl 1 rfl) ?_
                    refine va_get (D := (dC, dI)) (ci := 1) (v := .ref (ad 122)) (C := RX1) (T := TX1) (N := 7) hx hb hts iwX1_copyFrom_X1 hown hK hP (119) (wl_at (by omega) (ce_3 (by decide))) rfl 6 (by decide) (hts (.fieldLink RX1 25 "QuietStairs$House" "cases" "[LQuietStairs$Case;") fwX1_copyFrom_7) (fun _ h9 => h9) rfl dX1_copyFrom_105 ?_
                    refine lv_iload_n hx hb dX1_copyFrom_108 rfl (lv_at hl 0 rfl) ?_
                    have zn_y15_2 : (y15_2.toNatClampNeg : Int) = y15_2.toInt := t_nn (by omega)
                    have hx_18 : y15_2.toNatClampNeg < 6 := by omega
                    refine va_aldq hx hb hK hP (122) 3 (wl_at (by omega) (ce_6 (by decide))) rfl (vp_in_iff.mpr ⟨by omega, by omega⟩) dX1_copyFrom_109 ?_
                    refine W.eq (g2 := F0 m 110 ls [.ref (ad (135 + 15 * y15_2.toNatClampNeg))]) (by rw [if_pos hx_18, show 122 + 13 + 15 * y15_2.toNatClampNeg = 135 + 15 * y15_2.toNatClampNeg from by omega]; rfl) ?_
                    refine lv_aload_n hx hb dX1_copyFrom_110 rfl (lv_at hl 2 rfl) ?_
                    refine va_get (D := (dC, dI)) (ci := 1) (v := .ref (ad 16)) (C := RX1) (T := TX1) (N := 7) hx hb hts iwX1_copyFrom_X1 hown hK hP (13) (wl_at (by omega) (ce_3 (by decide))) rfl 6 (by decide) (hts (.fieldLink RX1 25 "QuietStairs$House" "cases" "[LQuietStairs$Case;") fwX1_copyFrom_7) (fun _ h9 => h9) rfl dX1_copyFrom_111 ?_
                    refine lv_iload_n hx hb dX1_copyFrom_114 rfl (lv_at hl 0 rfl) ?_
                    refine va_aldq hx hb hK hP (16) 3 (wl_at (by omega) (ce_6 (by decide))) rfl (vp_in_iff.mpr ⟨by omega, by omega⟩) dX1_copyFrom_115 ?_
                    refine W.eq (g2 := F0 m 116 ls [.ref (ad (29 + 15 * y15_2.toNatClampNeg)), .ref (ad (135 + 15 * y15_2.toNatClampNeg))]) (by rw [if_pos hx_18, show 16 + 13 + 15 * y15_2.toNatClampNeg = 29 + 15 * y15_2.toNatClampNeg from by omega]; rfl) ?_
                    refine yw_v (w1 := fun (u : Nat → Nat → Int32) => wl ad kv cy N u) hD hS hA (va_runV (As := [.ref (ad (29 + 15 * y15_2.toNatClampNeg))]) (rest := []) ⟨hx, hb, hml, hown, hts⟩ (e_X0_copyFrom_b l dC dI cy _ ad kv N hN u15 hv y15_2.toNatClampNeg hx_18 hN2) (cwV 1 hts gX1_copyFrom_X0_copyFrom rfl rfl rfl hd_V_X0_copyFrom_1 ⟨Nat.le_of_ble_eq_true rfl, Nat.le_of_ble_eq_true rfl⟩) (yw_preV hE hK hP hD (ci := 0) (q0 := (135 + 15 * y15_2.toNatClampNeg)) rfl (wl_at (by omega) (ce_9 (kd_c _ hx_18).2.1))) rfl rfl hl.1 rfl (lv_room (Nat.le_of_ble_eq_true rfl)) dX1_copyFrom_116 ⟨Nat.le_of_ble_eq_true rfl, Nat.le_of_ble_eq_true rfl⟩) (fun v_19 H locs hw_19 hP hD hS => ?_)
                    obtain ⟨hv, hw_19⟩ := hw_19
                    obtain ⟨x_20, ex_20⟩ : ∃ y : Int32, y = y15_2 + 1 := ⟨_, rfl⟩
                    refine lv_iinc (v := x_20) (lv' := [(2, .int x_20), (0, .ref (ad 119)), (1, .ref (ad 13))]) hx hb dX1_copyFrom_119 hl (k := 0) rfl (by rw [ex_20]; rfl) (by decide) rfl (fun ls hl => ?_)
                    have k_1 : (1 : Int32).toInt = 1 := by decide
                    have tx_20 : x_20.toInt = y15_2.toInt + (1 : Int32).toInt := by rw [ex_20]; exact t_add ⟨by omega, by omega⟩
                    refine lv_goto (tgt := 96) hx hb dX1_copyFrom_122 (by decide) ?_
                    exact ih_15 x_20 v_19 _ _ (by omega) (by omega) (fun q o j h6 hq hl => by have ho := lvC_o hl; by_cases h : q = y15_2.toNatClampNeg; subst h; rw [hw_19.1 o j (by rw [hi15_1 _ (by omega)]; exact hl), hi15_1 _ (by omega)]; rw [hw_19.2 _ (by omega)]; exact hi15_0 q o j h6 (by omega) hl) (fun k hk => by rw [hw_19.2 k (by omega)]; exact hi15_1 k hk) (by omega) (by omega) hv hP hD hS ls (lv_sub hl [0, 1, 2] rfl)
              have k_0 : (0 : Int32).toInt = 0 := by decide
              exact hc_15 ((6 - (0 : Int32).toInt).toNat + 1) 0 u12 _ _ (by omega) (by omega) (fun q o j _ hq _ => absurd hq (by omega)) (fun _ _ => rfl) (by omega) (by omega) hv hP hD hS ls (lv_sub hl [0, 1, 2] rfl)
            · have tc_14 : y12_2.toInt < x_13.toInt := Int32.lt_iff_toInt_lt.mp (Int32.not_le.mp c_14)
              refine lv_aload_n hx hb dX1_copyFrom_73 rfl (lv_at hl 1 rfl) ?_
              refine va_get (D := (dC, dI)) (ci := 1) (v := .ref (ad 121)) (C := RX1) (T := TX1) (N := 7) hx hb hts iwX1_copyFrom_X1 hown hK hP (119) (wl_at (by omega) (ce_3 (by decide))) rfl 5 (by decide) (hts (.fieldLink RX1 19 "QuietStairs$House" "mediators" "[LQuietStairs$Mediator;") fwX1_copyFrom_6) (fun _ h9 => h9) rfl dX1_copyFrom_74 ?_
              refine lv_iload_n hx hb dX1_copyFrom_77 rfl (lv_at hl 0 rfl) ?_
              have zn_y12_2 : (y12_2.toNatClampNeg : Int) = y12_2.toInt := t_nn (by omega)
              have hx_15 : y12_2.toNatClampNeg < 4 := by omega
              refine va_aldq hx hb hK hP (121) 2 (wl_at (by omega) (ce_5 (by decide))) rfl (vp_in_iff.mpr ⟨by omega, by omega⟩) dX1_copyFrom_78 ?_
              refine W.eq (g2 := F0 m 79 ls [.ref (ad (131 + y12_2.toNatClampNeg))]) (by rw [if_pos hx_15, show 121 + 10 + y12_2.toNatClampNeg = 131 + y12_2.toNatClampNeg from by omega]; rfl) ?_
              refine lv_aload_n hx hb dX1_copyFrom_79 rfl (lv_at hl 2 rfl) ?_
              refine va_get (D := (dC, dI)) (ci := 1) (v := .ref (ad 15)) (C := RX1) (T := TX1) (N := 7) hx hb hts iwX1_copyFrom_X1 hown hK hP (13) (wl_at (by omega) (ce_3 (by decide))) rfl 5 (by decide) (hts (.fieldLink RX1 19 "QuietStairs$House" "mediators" "[LQuietStairs$Mediator;") fwX1_copyFrom_6) (fun _ h9 => h9) rfl dX1_copyFrom_80 ?_
              refine lv_iload_n hx hb dX1_copyFrom_83 rfl (lv_at hl 0 rfl) ?_
              refine va_aldq hx hb hK hP (15) 2 (wl_at (by omega) (ce_5 (by decide))) rfl (vp_in_iff.mpr ⟨by omega, by omega⟩) dX1_copyFrom_84 ?_
              refine W.eq (g2 := F0 m 85 ls [.ref (ad (25 + y12_2.toNatClampNeg)), .ref (ad (131 + y12_2.toNatClampNeg))]) (by rw [if_pos hx_15, show 15 + 10 + y12_2.toNatClampNeg = 25 + y12_2.toNatClampNeg from by omega]; rfl) ?_
              refine yw_v (w1 := fun (u : Nat → Nat → Int32) => wl ad kv cy N u) hD hS hA (va_runV (As := [.ref (ad (25 + y12_2.toNatClampNeg))]) (rest := []) ⟨hx, hb, hml, hown, hts⟩ (e_X2_copyFrom_b l dC dI cy _ ad kv N hN u12 hv y12_2.toNatClampNeg hx_15 hN2) (cwV 1 hts gX1_copyFrom_X2_copyFrom rfl rfl rfl hd_V_X2_copyFrom_1 ⟨Nat.le_of_ble_eq_true rfl, Nat.le_of_ble_eq_true rfl⟩) (yw_preV hE hK hP hD (ci := 2) (q0 := (131 + y12_2.toNatClampNeg)) rfl (wl_at (by omega) (ce_8 (kd_m _ hx_15).2))) rfl rfl hl.1 rfl (lv_room (Nat.le_of_ble_eq_true rfl)) dX1_copyFrom_85 ⟨Nat.le_of_ble_eq_true rfl, Nat.le_of_ble_eq_true rfl⟩) (fun v_16 H locs hw_16 hP hD hS => ?_)
              obtain ⟨hv, hw_16⟩ := hw_16
              obtain ⟨x_17, ex_17⟩ : ∃ y : Int32, y = y12_2 + 1 := ⟨_, rfl⟩
              refine lv_iinc (v := x_17) (lv' := [(2, .int x_17), (0, .ref (ad 119)), (1, .ref (ad 13))]) hx hb dX1_copyFrom_88 hl (k := 0) rfl (by rw [ex_17]; rfl) (by decide) rfl (fun ls hl => ?_)
              have k_1 : (1 : Int32).toInt = 1 := by decide
              have tx_17 : x_17.toInt = y12_2.toInt + (1 : Int32).toInt := by rw [ex_17]; exact t_add ⟨by omega, by omega⟩
              refine lv_goto (tgt := 65) hx hb dX1_copyFrom_91 (by decide) ?_
              exact ih_12 x_17 v_16 _ _ (by omega) (by omega) (fun k j => by rw [hw_16 k j]; by_cases h : k = 131 + y12_2.toNatClampNeg ∧ j < 3; rw [if_pos h, if_pos (by omega), hi12_0, if_neg (by omega), h.1, show 131 + y12_2.toNatClampNeg - 106 = 25 + y12_2.toNatClampNeg from by omega]; rw [if_neg h, hi12_0 k j]; (repeat' split); all_goals first | rfl | (exfalso; omega)) (by omega) (by omega) hv hP hD hS ls (lv_sub hl [0, 1, 2] rfl)
        have k_0 : (0 : Int32).toInt = 0 := by decide
        exact hc_12 ((4 - (0 : Int32).toInt).toNat + 1) 0 u9 _ _ (by omega) (by omega) (fun k j => by rw [if_neg (by omega)]) (by omega) (by omega) hv hP hD hS ls (lv_sub hl [0, 1, 2] rfl)
      · have tc_11 : y9_2.toInt < x_10.toInt := Int32.lt_iff_toInt_lt.mp (Int32.not_le.mp c_11)
        refine lv_aload_n hx hb dX1_copyFrom_42 rfl (lv_at hl 1 rfl) ?_
        refine va_get (D := (dC, dI)) (ci := 1) (v := .ref (ad 120)) (C := RX1) (T := TX1) (N := 7) hx hb hts iwX1_copyFrom_X1 hown hK hP (119) (wl_at (by omega) (ce_3 (by decide))) rfl 4 (by decide) (hts (.fieldLink RX1 11 "QuietStairs$House" "parties" "[LQuietStairs$Party;") fwX1_copyFrom_5) (fun _ h9 => h9) rfl dX1_copyFrom_43 ?_
        refine lv_iload_n hx hb dX1_copyFrom_46 rfl (lv_at hl 0 rfl) ?_
        have zn_y9_2 : (y9_2.toNatClampNeg : Int) = y9_2.toInt := t_nn (by omega)
        have hx_12 : y9_2.toNatClampNeg < 8 := by omega
        refine va_aldq hx hb hK hP (120) 1 (wl_at (by omega) (ce_4 (by decide))) rfl (vp_in_iff.mpr ⟨by omega, by omega⟩) dX1_copyFrom_47 ?_
        refine W.eq (g2 := F0 m 48 ls [.ref (ad (123 + y9_2.toNatClampNeg))]) (by rw [if_pos hx_12, show 120 + 3 + y9_2.toNatClampNeg = 123 + y9_2.toNatClampNeg from by omega]; rfl) ?_
        refine lv_aload_n hx hb dX1_copyFrom_48 rfl (lv_at hl 2 rfl) ?_
        refine va_get (D := (dC, dI)) (ci := 1) (v := .ref (ad 14)) (C := RX1) (T := TX1) (N := 7) hx hb hts iwX1_copyFrom_X1 hown hK hP (13) (wl_at (by omega) (ce_3 (by decide))) rfl 4 (by decide) (hts (.fieldLink RX1 11 "QuietStairs$House" "parties" "[LQuietStairs$Party;") fwX1_copyFrom_5) (fun _ h9 => h9) rfl dX1_copyFrom_49 ?_
        refine lv_iload_n hx hb dX1_copyFrom_52 rfl (lv_at hl 0 rfl) ?_
        refine va_aldq hx hb hK hP (14) 1 (wl_at (by omega) (ce_4 (by decide))) rfl (vp_in_iff.mpr ⟨by omega, by omega⟩) dX1_copyFrom_53 ?_
        refine W.eq (g2 := F0 m 54 ls [.ref (ad (17 + y9_2.toNatClampNeg)), .ref (ad (123 + y9_2.toNatClampNeg))]) (by rw [if_pos hx_12, show 14 + 3 + y9_2.toNatClampNeg = 17 + y9_2.toNatClampNeg from by omega]; rfl) ?_
        refine yw_v (w1 := fun (u : Nat → Nat → Int32) => wl ad kv cy N u) hD hS hA (va_runV (As := [.ref (ad (17 + y9_2.toNatClampNeg))]) (rest := []) ⟨hx, hb, hml, hown, hts⟩ (e_X3_copyFrom_b l dC dI cy _ ad kv N hN u9 hv y9_2.toNatClampNeg hx_12 hN2) (cwV 1 hts gX1_copyFrom_X3_copyFrom rfl rfl rfl hd_V_X3_copyFrom_1 ⟨Nat.le_of_ble_eq_true rfl, Nat.le_of_ble_eq_true rfl⟩) (yw_preV hE hK hP hD (ci := 3) (q0 := (123 + y9_2.toNatClampNeg)) rfl (wl_at (by omega) (ce_7 (kd_p _ hx_12).2))) rfl rfl hl.1 rfl (lv_room (Nat.le_of_ble_eq_true rfl)) dX1_copyFrom_54 ⟨Nat.le_of_ble_eq_true rfl, Nat.le_of_ble_eq_true rfl⟩) (fun v_13 H locs hw_13 hP hD hS => ?_)
        obtain ⟨hv, hw_13⟩ := hw_13
        obtain ⟨x_14, ex_14⟩ : ∃ y : Int32, y = y9_2 + 1 := ⟨_, rfl⟩
        refine lv_iinc (v := x_14) (lv' := [(2, .int x_14), (0, .ref (ad 119)), (1, .ref (ad 13))]) hx hb dX1_copyFrom_57 hl (k := 0) rfl (by rw [ex_14]; rfl) (by decide) rfl (fun ls hl => ?_)
        have k_1 : (1 : Int32).toInt = 1 := by decide
        have tx_14 : x_14.toInt = y9_2.toInt + (1 : Int32).toInt := by rw [ex_14]; exact t_add ⟨by omega, by omega⟩
        refine lv_goto (tgt := 34) hx hb dX1_copyFrom_60 (by decide) ?_
        exact ih_9 x_14 v_13 _ _ (by omega) (by omega) (fun k j => by rw [hw_13 k j]; by_cases h : k = 123 + y9_2.toNatClampNeg ∧ j < 2; rw [if_pos h, if_pos (by omega), hi9_0, if_neg (by omega), h.1, show 123 + y9_2.toNatClampNeg - 106 = 17 + y9_2.toNatClampNeg from by omega]; rw [if_neg h, hi9_0 k j]; (repeat' split); all_goals first | rfl | (exfalso; omega)) (by omega) (by omega) hv hP hD hS ls (lv_sub hl [0, 1, 2] rfl)
  have k_0 : (0 : Int32).toInt = 0 := by decide
  exact hc_9 ((8 - (0 : Int32).toInt).toNat + 1) 0 v_8 _ _ (by omega) (by omega) (fun k j => by rw [if_neg (by omega)]) (by omega) (by omega) hv hP hD hS ls (lv_sub hl [0, 1, 2] rfl)
