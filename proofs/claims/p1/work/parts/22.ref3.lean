theorem dX8_waitsOf_0 : decode cX8_waitsOf 0 = .ok (.iconst 0, 1) := by decide +kernel
theorem dX8_waitsOf_1 : decode cX8_waitsOf 1 = .ok (.istore_n 2, 1) := by decide +kernel
theorem dX8_waitsOf_2 : decode cX8_waitsOf 2 = .ok (.iconst 0, 1) := by decide +kernel
theorem dX8_waitsOf_3 : decode cX8_waitsOf 3 = .ok (.istore_n 3, 1) := by decide +kernel
theorem dX8_waitsOf_4 : decode cX8_waitsOf 4 = .ok (.iload_n 3, 1) := by decide +kernel
theorem dX8_waitsOf_5 : decode cX8_waitsOf 5 = .ok (.iload_n 1, 1) := by decide +kernel
theorem dX8_waitsOf_6 : decode cX8_waitsOf 6 = .ok (.if_icmp .gt 52, 3) := by decide +kernel
theorem dX8_waitsOf_58 : decode cX8_waitsOf 58 = .ok (.iload_n 2, 1) := by decide +kernel
theorem dX8_waitsOf_59 : decode cX8_waitsOf 59 = .ok (.ireturn, 1) := by decide +kernel
theorem dX8_note_0 : decode cX8_note 0 = .ok (.aload_n 0, 1) := by decide +kernel
theorem dX8_note_1 : decode cX8_note 1 = .ok (.aload_n 0, 1) := by decide +kernel
theorem dX8_note_2 : decode cX8_note 2 = .ok (.getfield 79, 3) := by decide +kernel
theorem dX8_note_5 : decode cX8_note 5 = .ok (.iconst 1, 1) := by decide +kernel
theorem dX8_note_6 : decode cX8_note 6 = .ok (.isub, 1) := by decide +kernel
set_option maxRecDepth 20000 in
theorem ggX8_note_X8_waitsOf : GoodIn wsX8_note wsX8_waitsOf := goodIn_r _ [9, 10, 11, 4, 12, 13, 8, 14, 15, 16, 17, 18, 19, 20, 21, 22, 23, 24, 25] (by decide +kernel) (by decide +kernel)
set_option maxRecDepth 20000 in
theorem gX8_note_X8_waitsOf : GoodIn wsX8_note (wsV RX8 82 RX8 yX8_waitsOf wsX8_waitsOf) := goodIn_app (goodIn_of _ (by decide +kernel)) ggX8_note_X8_waitsOf
theorem dX8_note_7 : decode cX8_note 7 = .ok (.invokevirtual 82, 3) := by decide +kernel
theorem dX8_note_10 : decode cX8_note 10 = .ok (.istore_n 1, 1) := by decide +kernel
theorem dX8_note_11 : decode cX8_note 11 = .ok (.iload_n 1, 1) := by decide +kernel
theorem dX8_note_12 : decode cX8_note 12 = .ok (.aload_n 0, 1) := by decide +kernel
theorem dX8_note_13 : decode cX8_note 13 = .ok (.getfield 85, 3) := by decide +kernel
theorem dX8_note_16 : decode cX8_note 16 = .ok (.if_icmp .ge 36, 3) := by decide +kernel
theorem dX8_note_19 : decode cX8_note 19 = .ok (.aload_n 0, 1) := by decide +kernel
theorem dX8_note_20 : decode cX8_note 20 = .ok (.iload_n 1, 1) := by decide +kernel
theorem dX8_note_21 : decode cX8_note 21 = .ok (.putfield 85, 3) := by decide +kernel
theorem dX8_note_24 : decode cX8_note 24 = .ok (.iconst 0, 1) := by decide +kernel
theorem dX8_note_25 : decode cX8_note 25 = .ok (.istore_n 2, 1) := by decide +kernel
theorem dX8_note_26 : decode cX8_note 26 = .ok (.iload_n 2, 1) := by decide +kernel
theorem dX8_note_27 : decode cX8_note 27 = .ok (.aload_n 0, 1) := by decide +kernel
theorem dX8_note_28 : decode cX8_note 28 = .ok (.getfield 79, 3) := by decide +kernel
theorem dX8_note_31 : decode cX8_note 31 = .ok (.if_icmp .ge 21, 3) := by decide +kernel
theorem dX8_note_52 : decode cX8_note 52 = .ok (.return_, 1) := by decide +kernel
theorem dX8_makePlan_0 : decode cX8_makePlan 0 = .ok (.aload_n 0, 1) := by decide +kernel
theorem dX8_makePlan_1 : decode cX8_makePlan 1 = .ok (.iconst 0, 1) := by decide +kernel
theorem dX8_makePlan_2 : decode cX8_makePlan 2 = .ok (.putfield 79, 3) := by decide +kernel
theorem dX8_makePlan_5 : decode cX8_makePlan 5 = .ok (.iconst 0, 1) := by decide +kernel
theorem dX8_makePlan_6 : decode cX8_makePlan 6 = .ok (.istore_n 1, 1) := by decide +kernel
theorem dX8_makePlan_7 : decode cX8_makePlan 7 = .ok (.iload_n 1, 1) := by decide +kernel
theorem dX8_makePlan_8 : decode cX8_makePlan 8 = .ok (.aload_n 0, 1) := by decide +kernel
theorem dX8_makePlan_9 : decode cX8_makePlan 9 = .ok (.getfield 7, 3) := by decide +kernel
theorem dX8_makePlan_12 : decode cX8_makePlan 12 = .ok (.iconst 2, 1) := by decide +kernel
theorem dX8_makePlan_13 : decode cX8_makePlan 13 = .ok (.iaload, 1) := by decide +kernel
theorem dX8_makePlan_14 : decode cX8_makePlan 14 = .ok (.if_icmp .ge 50, 3) := by decide +kernel
theorem dX8_makePlan_64 : decode cX8_makePlan 64 = .ok (.aload_n 0, 1) := by decide +kernel
theorem dX8_makePlan_65 : decode cX8_makePlan 65 = .ok (.ldc 88, 2) := by decide +kernel
theorem dX8_makePlan_67 : decode cX8_makePlan 67 = .ok (.putfield 85, 3) := by decide +kernel
theorem dX8_makePlan_70 : decode cX8_makePlan 70 = .ok (.iconst 0, 1) := by decide +kernel
theorem dX8_makePlan_71 : decode cX8_makePlan 71 = .ok (.istore_n 1, 1) := by decide +kernel
theorem dX8_makePlan_72 : decode cX8_makePlan 72 = .ok (.aload_n 0, 1) := by decide +kernel
theorem dX8_makePlan_73 : decode cX8_makePlan 73 = .ok (.getfield 26, 3) := by decide +kernel
theorem dX8_makePlan_76 : decode cX8_makePlan 76 = .ok (.iconst 0, 1) := by decide +kernel
theorem dX8_makePlan_77 : decode cX8_makePlan 77 = .ok (.iconst 0, 1) := by decide +kernel
theorem dX8_makePlan_78 : decode cX8_makePlan 78 = .ok (.iastore, 1) := by decide +kernel
theorem dX8_makePlan_79 : decode cX8_makePlan 79 = .ok (.iload_n 1, 1) := by decide +kernel
theorem dX8_makePlan_80 : decode cX8_makePlan 80 = .ok (.ifCond .lt 131, 3) := by decide +kernel
theorem dX8_makePlan_83 : decode cX8_makePlan 83 = .ok (.iload_n 1, 1) := by decide +kernel
theorem dX8_makePlan_84 : decode cX8_makePlan 84 = .ok (.aload_n 0, 1) := by decide +kernel
theorem dX8_makePlan_85 : decode cX8_makePlan 85 = .ok (.getfield 79, 3) := by decide +kernel
theorem dX8_makePlan_88 : decode cX8_makePlan 88 = .ok (.if_icmp .ne 31, 3) := by decide +kernel
theorem dX8_makePlan_91 : decode cX8_makePlan 91 = .ok (.aload_n 0, 1) := by decide +kernel
set_option maxRecDepth 20000 in
theorem ggX8_makePlan_X8_note : GoodIn wsX8_makePlan wsX8_note := goodIn_r _ [14, 1, 5, 15, 6, 16, 17, 18, 9, 19, 2, 3, 7, 8, 10, 50, 51, 52, 53, 54, 55, 56, 57, 58, 59, 60] (by decide +kernel) (by decide +kernel)
set_option maxRecDepth 20000 in
theorem gX8_makePlan_X8_note : GoodIn wsX8_makePlan (wsV RX8 89 RX8 yX8_note wsX8_note) := goodIn_app (goodIn_of _ (by decide +kernel)) ggX8_makePlan_X8_note
theorem dX8_makePlan_92 : decode cX8_makePlan 92 = .ok (.invokevirtual 89, 3) := by decide +kernel
theorem dX8_makePlan_95 : decode cX8_makePlan 95 = .ok (.iinc 1 (-1), 3) := by decide +kernel
theorem dX8_makePlan_98 : decode cX8_makePlan 98 = .ok (.aload_n 0, 1) := by decide +kernel
theorem dX8_makePlan_99 : decode cX8_makePlan 99 = .ok (.getfield 26, 3) := by decide +kernel
theorem dX8_makePlan_102 : decode cX8_makePlan 102 = .ok (.iload_n 1, 1) := by decide +kernel
theorem dX8_makePlan_103 : decode cX8_makePlan 103 = .ok (.ifCond .ge 7, 3) := by decide +kernel
theorem dX8_makePlan_106 : decode cX8_makePlan 106 = .ok (.iconst 0, 1) := by decide +kernel
theorem dX8_makePlan_107 : decode cX8_makePlan 107 = .ok (.goto 4, 3) := by decide +kernel
theorem dX8_makePlan_111 : decode cX8_makePlan 111 = .ok (.dup2, 1) := by decide +kernel
theorem dX8_makePlan_112 : decode cX8_makePlan 112 = .ok (.iaload, 1) := by decide +kernel
theorem dX8_makePlan_113 : decode cX8_makePlan 113 = .ok (.iconst 1, 1) := by decide +kernel
theorem dX8_makePlan_114 : decode cX8_makePlan 114 = .ok (.iadd, 1) := by decide +kernel
theorem dX8_makePlan_115 : decode cX8_makePlan 115 = .ok (.iastore, 1) := by decide +kernel
theorem dX8_makePlan_116 : decode cX8_makePlan 116 = .ok (.goto (-37), 3) := by decide +kernel
theorem dX8_makePlan_211 : decode cX8_makePlan 211 = .ok (.return_, 1) := by decide +kernel
theorem dX8_waits_0 : decode cX8_waits 0 = .ok (.aload_n 0, 1) := by decide +kernel
set_option maxRecDepth 20000 in
theorem ggX8_waits_X8_makePlan : GoodIn wsX8_waits wsX8_makePlan := goodIn_r _ [6, 7, 8, 9, 10, 1, 11, 12, 13, 5, 14, 15, 16, 17, 18, 19, 20, 21, 22, 23, 24, 25, 26, 27, 28, 29, 30, 31, 32, 33, 34, 35, 36, 37, 38, 39, 40, 41, 42, 43, 44, 45, 46, 47, 48, 49, 50, 51, 52, 53, 54, 55, 56, 57, 58, 59, 60, 61, 62, 63, 64] (by decide +kernel) (by decide +kernel)
set_option maxRecDepth 20000 in
theorem gX8_waits_X8_makePlan : GoodIn wsX8_waits (wsV RX8 95 RX8 yX8_makePlan wsX8_makePlan) := goodIn_app (goodIn_of _ (by decide +kernel)) ggX8_waits_X8_makePlan
theorem dX8_waits_1 : decode cX8_waits 1 = .ok (.invokevirtual 95, 3) := by decide +kernel
theorem dX8_waits_4 : decode cX8_waits 4 = .ok (.aload_n 0, 1) := by decide +kernel
theorem dX8_waits_5 : decode cX8_waits 5 = .ok (.getfield 85, 3) := by decide +kernel
theorem dX8_waits_8 : decode cX8_waits 8 = .ok (.ireturn, 1) := by decide +kernel
theorem dX8_keep_0 : decode cX8_keep 0 = .ok (.iconst 0, 1) := by decide +kernel
theorem dX8_keep_1 : decode cX8_keep 1 = .ok (.istore_n 1, 1) := by decide +kernel
theorem dX8_keep_2 : decode cX8_keep 2 = .ok (.iload_n 1, 1) := by decide +kernel
theorem dX8_keep_3 : decode cX8_keep 3 = .ok (.sipush 596, 3) := by decide +kernel
theorem dX8_keep_6 : decode cX8_keep 6 = .ok (.if_icmp .ge 21, 3) := by decide +kernel
theorem dX8_keep_27 : decode cX8_keep 27 = .ok (.aload_n 0, 1) := by decide +kernel
theorem dX8_keep_28 : decode cX8_keep 28 = .ok (.iconst 1, 1) := by decide +kernel
theorem dX8_keep_29 : decode cX8_keep 29 = .ok (.putfield 134, 3) := by decide +kernel
theorem dX8_keep_32 : decode cX8_keep 32 = .ok (.iconst 1, 1) := by decide +kernel
theorem dX8_keep_33 : decode cX8_keep 33 = .ok (.ireturn, 1) := by decide +kernel
theorem dX8_keep_9 : decode cX8_keep 9 = .ok (.aload_n 0, 1) := by decide +kernel
theorem dX8_keep_10 : decode cX8_keep 10 = .ok (.getfield 13, 3) := by decide +kernel
theorem dX8_keep_13 : decode cX8_keep 13 = .ok (.iload_n 1, 1) := by decide +kernel
theorem dX8_keep_14 : decode cX8_keep 14 = .ok (.aload_n 0, 1) := by decide +kernel
theorem dX8_keep_15 : decode cX8_keep 15 = .ok (.getfield 7, 3) := by decide +kernel
theorem dX8_keep_18 : decode cX8_keep 18 = .ok (.iload_n 1, 1) := by decide +kernel
theorem dX8_keep_19 : decode cX8_keep 19 = .ok (.iaload, 1) := by decide +kernel
theorem dX8_keep_20 : decode cX8_keep 20 = .ok (.iastore, 1) := by decide +kernel
theorem dX8_keep_21 : decode cX8_keep 21 = .ok (.iinc 1 1, 3) := by decide +kernel
theorem dX8_keep_24 : decode cX8_keep 24 = .ok (.goto (-22), 3) := by decide +kernel
set_option maxHeartbeats 4000000 in
set_option maxRecDepth 100000 in
theorem c0_X8_waitsOf (l : Launch) (dC : Nat → ClassId) (dI : Nat → Nat → Nat) (cy : Nat → ClassId) (sz : Nat) (g0 g1 g2 g3 g4 g5 g6 g7 : Nat) : Met l yX8_waitsOf wsX8_waitsOf ({ frames := 1, cells := 0, slots := 0, locals := 64 }) (va_Pc [.ref g0, .int (-1)] (ex_Pre dC dI cy sz [(g0, .inr (8, [.ref g1, .ref g2, .int 0, .int 1, .ref g3, .int 0, .ref g4, .ref g5, .ref g6, .int 1000000, .ref g7]))])) (va_Qi (fun (r : Int32) (u : Unit) => r = 0) (fun u t => ex_Pst dC dI (va_A [(g0, .inr (8, [.ref g1, .ref g2, .int 0, .int 1, .ref g3, .int 0, .ref g4, .ref g5, .ref g6, .int 1000000, .ref g7]))] sz) ([(g0, .inr (8, [.ref g1, .ref g2, .int 0, .int 1, .ref g3, .int 0, .ref g4, .ref g5, .ref g6, .int 1000000, .ref g7]))]) t) (va_A [(g0, .inr (8, [.ref g1, .ref g2, .int 0, .int 1, .ref g3, .int 0, .ref g4, .ref g5, .ref g6, .int 1000000, .ref g7]))] sz)) 0 0 (va_A [(g0, .inr (8, [.ref g1, .ref g2, .int 0, .int 1, .ref g3, .int 0, .ref g4, .ref g5, .ref g6, .int 1000000, .ref g7]))] sz) := by
  refine Met.ofW (cc := cX8_waitsOf) (maxL := 4) (ret := (some .int)) (by decide) rfl ?_
  intro p e s m args below meth c s₁ B hml hv
  obtain ⟨rfl, hsz, hE, hP, hK, hD0⟩ := hv
  have hx := B.exec
  have hb := B.bytes
  have hr := B.returns
  have hts := atoms_spec (ws := wsX8_waitsOf) B.pre
  have hown : s.vm.findClass RX8 = some m.cls := findClass_of_methodNamed B.named
  have hlocks := B.notSynchronized
  subst hsz
  have hD := hD0.self (sz := s.heap.size)
  generalize hAe : va_A [(g0, .inr (8, [.ref g1, .ref g2, .int 0, .int 1, .ref g3, .int 0, .ref g4, .ref g5, .ref g6, .int 1000000, .ref g7]))] s.heap.size = A at hD ⊢
  have hA : ∀ q : Nat, s.heap.size ≤ q → A q := fun q h => by rw [← hAe]; exact Or.inr h
  have hS : va_S A s.heap s.heap [] := va_S.rf
  have hP : va_P (dC, dI) vwCl [(g0, .inr (8, [.ref g1, .ref g2, .int 0, .int 1, .ref g3, .int 0, .ref g4, .ref g5, .ref g6, .int 1000000, .ref g7]))] s.heap := hP
  have hl := lv_entry ([.ref g0, .int (-1)]) (n := 4) (Nat.le_of_ble_eq_true rfl)
  rw [lg_entry_eq]
  generalize (lg_sl ([.ref g0, .int (-1)]) ++ List.replicate (4 - (lg_sl ([.ref g0, .int (-1)])).length) Slot.unset).toArray = ls at hl ⊢
  have hl : lv_has ls 4 [(0, .ref g0), (1, .int (-1))] := hl
  refine lv_iconst (v := 0) hx hb dX8_waitsOf_0 (by decide) ?_
  refine lv_istore_n (lv' := [(2, .int 0), (0, .ref g0), (1, .int (-1))]) hx hb dX8_waitsOf_1 rfl hl (by decide) rfl (fun ls hl => ?_)
  refine lv_iconst (v := 0) hx hb dX8_waitsOf_2 (by decide) ?_
  refine lv_istore_n (lv' := [(3, .int 0), (2, .int 0), (0, .ref g0), (1, .int (-1))]) hx hb dX8_waitsOf_3 rfl hl (by decide) rfl (fun ls hl => ?_)
  refine lv_iload_n hx hb dX8_waitsOf_4 rfl (lv_at hl 0 rfl) ?_
  refine lv_iload_n hx hb dX8_waitsOf_5 rfl (lv_at hl 3 rfl) ?_
  refine lv_icmp_gt (tgt := 58) hx hb dX8_waitsOf_6 (by decide) (fun _ => ?_) (fun c9 => absurd c9 (by decide))
  refine lv_iload_n hx hb dX8_waitsOf_58 rfl (lv_at hl 1 rfl) ?_
  have hP9 := hP.sub (ws' := [(g0, .inr (8, [.ref g1, .ref g2, .int 0, .int 1, .ref g3, .int 0, .ref g4, .ref g5, .ref g6, .int 1000000, .ref g7]))]) [0] rfl
  have hD9 := hD.sub (ws' := [(g0, .inr (8, [.ref g1, .ref g2, .int 0, .int 1, .ref g3, .int 0, .ref g4, .ref g5, .ref g6, .int 1000000, .ref g7]))]) [0] (by decide) rfl
  exact W.iret (v := 0) hx hb hr (fun t ht hW => ⟨⟨0, (), rfl, rfl, by rw [ht]; exact hP9, hD9⟩, hS.F ht⟩) hS.2.2 dX8_waitsOf_59

set_option maxHeartbeats 4000000 in
set_option maxRecDepth 100000 in
theorem c0_X8_note (l : Launch) (dC : Nat → ClassId) (dI : Nat → Nat → Nat) (cy : Nat → ClassId) (sz : Nat) (g0 g1 g2 g3 g4 g5 g6 g7 : Nat) : Met l yX8_note wsX8_note ({ frames := 2, cells := 0, slots := 0, locals := 128 }) (va_Pc [.ref g0] (ex_Pre dC dI cy sz [(g0, .inr (8, [.ref g1, .ref g2, .int 0, .int 1, .ref g3, .int 0, .ref g4, .ref g5, .ref g6, .int 1000000, .ref g7]))])) (va_Qv (fun (u : Unit) => True) (fun u t => ex_Pst dC dI (va_A [(g0, .inr (8, [.ref g1, .ref g2, .int 0, .int 1, .ref g3, .int 0, .ref g4, .ref g5, .ref g6, .int 1000000, .ref g7]))] sz) ([(g0, .inr (8, [.ref g1, .ref g2, .int 0, .int 1, .ref g3, .int 0, .ref g4, .ref g5, .ref g6, .int 0, .ref g7]))]) t) (va_A [(g0, .inr (8, [.ref g1, .ref g2, .int 0, .int 1, .ref g3, .int 0, .ref g4, .ref g5, .ref g6, .int 1000000, .ref g7]))] sz)) 0 0 (va_A [(g0, .inr (8, [.ref g1, .ref g2, .int 0, .int 1, .ref g3, .int 0, .ref g4, .ref g5, .ref g6, .int 1000000, .ref g7]))] sz) := by
  refine Met.ofW (cc := cX8_note) (maxL := 3) (ret := none) (by decide) rfl ?_
  intro p e s m args below meth c s₁ B hml hv
  obtain ⟨rfl, hsz, hE, hP, hK, hD0⟩ := hv
  have hx := B.exec
  have hb := B.bytes
  have hr := B.returns
  have hts := atoms_spec (ws := wsX8_note) B.pre
  have hown : s.vm.findClass RX8 = some m.cls := findClass_of_methodNamed B.named
  have hlocks := B.notSynchronized
  subst hsz
  have hD := hD0.self (sz := s.heap.size)
  generalize hAe : va_A [(g0, .inr (8, [.ref g1, .ref g2, .int 0, .int 1, .ref g3, .int 0, .ref g4, .ref g5, .ref g6, .int 1000000, .ref g7]))] s.heap.size = A at hD ⊢
  have hA : ∀ q : Nat, s.heap.size ≤ q → A q := fun q h => by rw [← hAe]; exact Or.inr h
  have hS : va_S A s.heap s.heap [] := va_S.rf
  have hP : va_P (dC, dI) vwCl [(g0, .inr (8, [.ref g1, .ref g2, .int 0, .int 1, .ref g3, .int 0, .ref g4, .ref g5, .ref g6, .int 1000000, .ref g7]))] s.heap := hP
  have hl := lv_entry ([.ref g0]) (n := 3) (Nat.le_of_ble_eq_true rfl)
  rw [lg_entry_eq]
  generalize (lg_sl ([.ref g0]) ++ List.replicate (3 - (lg_sl ([.ref g0])).length) Slot.unset).toArray = ls at hl ⊢
  have hl : lv_has ls 3 [(0, .ref g0)] := hl
  refine lv_aload_n hx hb dX8_note_0 rfl (lv_at hl 0 rfl) ?_
  refine lv_aload_n hx hb dX8_note_1 rfl (lv_at hl 0 rfl) ?_
  refine va_get (D := (dC, dI)) (ci := 8) (v := .int 0) (C := RX8) (T := TX8) (N := 11) hx hb hts (by decide +kernel) hown hK hP 0 rfl rfl 5 (by decide) (hts (.fieldLink RX8 79 "QuietStairsModel" "many" "I") (by decide +kernel)) (fun _ h9 => h9) rfl dX8_note_2 ?_
  refine lv_iconst (v := 1) hx hb dX8_note_5 (by decide) ?_
  refine lv_isub hx hb dX8_note_6 ?_
  refine lv_topi (fun x_1 ex_1 => ?_)
  obtain rfl : x_1 = (-1) := ex_1.trans (by decide)
  refine yc_i (wc := [(g0, .inr (8, [.ref g1, .ref g2, .int 0, .int 1, .ref g3, .int 0, .ref g4, .ref g5, .ref g6, .int 1000000, .ref g7]))]) (wr := []) (w1 := fun _ => [(g0, .inr (8, [.ref g1, .ref g2, .int 0, .int 1, .ref g3, .int 0, .ref g4, .ref g5, .ref g6, .int 1000000, .ref g7]))]) hP hD hS hA [0] [] rfl rfl (by decide) (by decide) (va_runV (As := [.int (-1)]) (rest := []) ⟨hx, hb, hml, hown, hts⟩ (c0_X8_waitsOf l dC dI cy _ g0 g1 g2 g3 g4 g5 g6 g7) (cwV 1 hts gX8_note_X8_waitsOf rfl rfl rfl (by decide +kernel) ⟨Nat.le_of_ble_eq_true rfl, Nat.le_of_ble_eq_true rfl⟩) (ex_preV hE hK hP hD [0] (by decide) rfl (ci := 8) (q0 := 0) rfl rfl) rfl rfl hl.1 rfl (lv_room (Nat.le_of_ble_eq_true rfl)) dX8_note_7 ⟨Nat.le_of_ble_eq_true rfl, Nat.le_of_ble_eq_true rfl⟩) (fun r_2 u_2 H locs hw_2 hP hD hS => ?_)
  have hP : va_P (dC, dI) vwCl [(g0, .inr (8, [.ref g1, .ref g2, .int 0, .int 1, .ref g3, .int 0, .ref g4, .ref g5, .ref g6, .int 1000000, .ref g7]))] H := hP
  have hD : va_D A [(g0, .inr (8, [.ref g1, .ref g2, .int 0, .int 1, .ref g3, .int 0, .ref g4, .ref g5, .ref g6, .int 1000000, .ref g7]))] := hD
  subst hw_2
  refine lv_istore_n (lv' := [(1, .int 0), (0, .ref g0)]) hx hb dX8_note_10 rfl hl (by decide) rfl (fun ls hl => ?_)
  refine lv_iload_n hx hb dX8_note_11 rfl (lv_at hl 0 rfl) ?_
  refine lv_aload_n hx hb dX8_note_12 rfl (lv_at hl 1 rfl) ?_
  refine va_get (D := (dC, dI)) (ci := 8) (v := .int 1000000) (C := RX8) (T := TX8) (N := 11) hx hb hts (by decide +kernel) hown hK hP 0 rfl rfl 9 (by decide) (hts (.fieldLink RX8 85 "QuietStairsModel" "least" "I") (by decide +kernel)) (fun _ h9 => h9) rfl dX8_note_13 ?_
  refine lv_icmp_ge (tgt := 52) hx hb dX8_note_16 (by decide) (fun c9 => absurd c9 (by decide)) (fun _ => ?_)
  refine lv_aload_n hx hb dX8_note_19 rfl (lv_at hl 1 rfl) ?_
  refine lv_iload_n hx hb dX8_note_20 rfl (lv_at hl 0 rfl) ?_
  refine va_put (D := (dC, dI)) (ci := 8) (v := .int 0) (ty := .int) (C := RX8) (T := TX8) (N := 11) hx hb hts (by decide +kernel) tyX8 tyX8_ok nmX8 hown hK hP hD hS 0 rfl rfl 9 (by decide) (hts (.fieldLink RX8 85 "QuietStairsModel" "least" "I") (by decide +kernel)) (fun _ h9 => h9) rfl (by decide +kernel) rfl rfl (Nat.le_of_ble_eq_true rfl) dX8_note_21 (fun H locs hP hD hS => ?_)
  have hP : va_P (dC, dI) vwCl [(g0, .inr (8, [.ref g1, .ref g2, .int 0, .int 1, .ref g3, .int 0, .ref g4, .ref g5, .ref g6, .int 0, .ref g7]))] H := hP
  have hD : va_D A [(g0, .inr (8, [.ref g1, .ref g2, .int 0, .int 1, .ref g3, .int 0, .ref g4, .ref g5, .ref g6, .int 0, .ref g7]))] := hD
  refine lv_iconst (v := 0) hx hb dX8_note_24 (by decide) ?_
  refine lv_istore_n (lv' := [(2, .int 0), (1, .int 0), (0, .ref g0)]) hx hb dX8_note_25 rfl hl (by decide) rfl (fun ls hl => ?_)
  refine lv_iload_n hx hb dX8_note_26 rfl (lv_at hl 0 rfl) ?_
  refine lv_aload_n hx hb dX8_note_27 rfl (lv_at hl 2 rfl) ?_
  refine va_get (D := (dC, dI)) (ci := 8) (v := .int 0) (C := RX8) (T := TX8) (N := 11) hx hb hts (by decide +kernel) hown hK hP 0 rfl rfl 5 (by decide) (hts (.fieldLink RX8 79 "QuietStairsModel" "many" "I") (by decide +kernel)) (fun _ h9 => h9) rfl dX8_note_28 ?_
  refine lv_icmp_ge (tgt := 52) hx hb dX8_note_31 (by decide) (fun _ => ?_) (fun c9 => absurd c9 (by decide))
  have hP9 := hP.sub (ws' := [(g0, .inr (8, [.ref g1, .ref g2, .int 0, .int 1, .ref g3, .int 0, .ref g4, .ref g5, .ref g6, .int 0, .ref g7]))]) [0] rfl
  have hD9 := hD.sub (ws' := [(g0, .inr (8, [.ref g1, .ref g2, .int 0, .int 1, .ref g3, .int 0, .ref g4, .ref g5, .ref g6, .int 0, .ref g7]))]) [0] (by decide) rfl
  exact W.vret hx hb hr (fun t ht hW => ⟨⟨(), rfl, trivial, by rw [ht]; exact hP9, hD9⟩, hS.F ht⟩) hS.2.2 dX8_note_52

set_option maxHeartbeats 4000000 in
set_option maxRecDepth 100000 in
theorem c0_X8_makePlan (l : Launch) (dC : Nat → ClassId) (dI : Nat → Nat → Nat) (cy : Nat → ClassId) (sz : Nat) (g0 g1 g2 g3 g4 g5 g6 g7 : Nat) : Met l yX8_makePlan wsX8_makePlan ({ frames := 3, cells := 0, slots := 0, locals := 192 }) (va_Pc [.ref g0] (ex_Pre dC dI cy sz [(g0, .inr (8, [.ref g1, .ref g2, .int 0, .int 1, .ref g3, .int 0, .ref g4, .ref g5, .ref g6, .int 0, .ref g7])), (g1, .inl (cy 0, 596, .inl (fun _ => 0))), (g5, .inl (cy 0, 5, .inl (fun _ => 0)))])) (va_Qv (fun (u : Unit) => True) (fun u t => ex_Pst dC dI (va_A [(g0, .inr (8, [.ref g1, .ref g2, .int 0, .int 1, .ref g3, .int 0, .ref g4, .ref g5, .ref g6, .int 0, .ref g7])), (g1, .inl (cy 0, 596, .inl (fun _ => 0))), (g5, .inl (cy 0, 5, .inl (fun _ => 0)))] sz) ([(g0, .inr (8, [.ref g1, .ref g2, .int 0, .int 1, .ref g3, .int 0, .ref g4, .ref g5, .ref g6, .int 0, .ref g7]))]) t) (va_A [(g0, .inr (8, [.ref g1, .ref g2, .int 0, .int 1, .ref g3, .int 0, .ref g4, .ref g5, .ref g6, .int 0, .ref g7])), (g1, .inl (cy 0, 596, .inl (fun _ => 0))), (g5, .inl (cy 0, 5, .inl (fun _ => 0)))] sz)) 0 0 (va_A [(g0, .inr (8, [.ref g1, .ref g2, .int 0, .int 1, .ref g3, .int 0, .ref g4, .ref g5, .ref g6, .int 0, .ref g7])), (g1, .inl (cy 0, 596, .inl (fun _ => 0))), (g5, .inl (cy 0, 5, .inl (fun _ => 0)))] sz) := by
  refine Met.ofW (cc := cX8_makePlan) (maxL := 2) (ret := none) (by decide) rfl ?_
  intro p e s m args below meth c s₁ B hml hv
  obtain ⟨rfl, hsz, hE, hP, hK, hD0⟩ := hv
  have hx := B.exec
  have hb := B.bytes
  have hr := B.returns
  have hts := atoms_spec (ws := wsX8_makePlan) B.pre
  have hown : s.vm.findClass RX8 = some m.cls := findClass_of_methodNamed B.named
  have hlocks := B.notSynchronized
  subst hsz
  have hD := hD0.self (sz := s.heap.size)
  generalize hAe : va_A [(g0, .inr (8, [.ref g1, .ref g2, .int 0, .int 1, .ref g3, .int 0, .ref g4, .ref g5, .ref g6, .int 0, .ref g7])), (g1, .inl (cy 0, 596, .inl (fun _ => 0))), (g5, .inl (cy 0, 5, .inl (fun _ => 0)))] s.heap.size = A at hD ⊢
  have hA : ∀ q : Nat, s.heap.size ≤ q → A q := fun q h => by rw [← hAe]; exact Or.inr h
  have hS : va_S A s.heap s.heap [] := va_S.rf
  have hP : va_P (dC, dI) vwCl [(g0, .inr (8, [.ref g1, .ref g2, .int 0, .int 1, .ref g3, .int 0, .ref g4, .ref g5, .ref g6, .int 0, .ref g7])), (g1, .inl (cy 0, 596, .inl (fun _ => 0))), (g5, .inl (cy 0, 5, .inl (fun _ => 0)))] s.heap := hP
  have hl := lv_entry ([.ref g0]) (n := 2) (Nat.le_of_ble_eq_true rfl)
  rw [lg_entry_eq]
  generalize (lg_sl ([.ref g0]) ++ List.replicate (2 - (lg_sl ([.ref g0])).length) Slot.unset).toArray = ls at hl ⊢
  have hl : lv_has ls 2 [(0, .ref g0)] := hl
  refine lv_aload_n hx hb dX8_makePlan_0 rfl (lv_at hl 0 rfl) ?_
  refine lv_iconst (v := 0) hx hb dX8_makePlan_1 (by decide) ?_
  refine va_put (D := (dC, dI)) (ci := 8) (v := .int 0) (ty := .int) (C := RX8) (T := TX8) (N := 11) hx hb hts (by decide +kernel) tyX8 tyX8_ok nmX8 hown hK hP hD hS 0 rfl rfl 5 (by decide) (hts (.fieldLink RX8 79 "QuietStairsModel" "many" "I") (by decide +kernel)) (fun _ h9 => h9) rfl (by decide +kernel) rfl rfl (Nat.le_of_ble_eq_true rfl) dX8_makePlan_2 (fun H locs hP hD hS => ?_)
  have hP : va_P (dC, dI) vwCl [(g0, .inr (8, [.ref g1, .ref g2, .int 0, .int 1, .ref g3, .int 0, .ref g4, .ref g5, .ref g6, .int 0, .ref g7])), (g1, .inl (cy 0, 596, .inl (fun _ => 0))), (g5, .inl (cy 0, 5, .inl (fun _ => 0)))] H := hP
  have hD : va_D A [(g0, .inr (8, [.ref g1, .ref g2, .int 0, .int 1, .ref g3, .int 0, .ref g4, .ref g5, .ref g6, .int 0, .ref g7])), (g1, .inl (cy 0, 596, .inl (fun _ => 0))), (g5, .inl (cy 0, 5, .inl (fun _ => 0)))] := hD
  refine lv_iconst (v := 0) hx hb dX8_makePlan_5 (by decide) ?_
  refine lv_istore_n (lv' := [(1, .int 0), (0, .ref g0)]) hx hb dX8_makePlan_6 rfl hl (by decide) rfl (fun ls hl => ?_)
  refine lv_iload_n hx hb dX8_makePlan_7 rfl (lv_at hl 0 rfl) ?_
  refine lv_aload_n hx hb dX8_makePlan_8 rfl (lv_at hl 1 rfl) ?_
  refine va_get (D := (dC, dI)) (ci := 8) (v := .ref g1) (C := RX8) (T := TX8) (N := 11) hx hb hts (by decide +kernel) hown hK hP 0 rfl rfl 0 (by decide) (hts (.fieldLink RX8 7 "QuietStairsModel" "s" "[I") (by decide +kernel)) (fun _ h9 => h9) rfl dX8_makePlan_9 ?_
  refine lv_iconst (v := 2) hx hb dX8_makePlan_12 (by decide) ?_
  refine va_iald hx hb hK hP 1 0 rfl rfl (by unfold vp_in; decide) dX8_makePlan_13 ?_
  refine lv_topi (fun x_1 ex_1 => ?_)
  obtain rfl : x_1 = 0 := ex_1.trans (rfl)
  refine lv_icmp_ge (tgt := 64) hx hb dX8_makePlan_14 (by decide) (fun _ => ?_) (fun c9 => absurd c9 (by decide))
  refine lv_aload_n hx hb dX8_makePlan_64 rfl (lv_at hl 1 rfl) ?_
  refine lv_ldc hx hb hown (hts (.constant RX8 88 (1000000)) (by decide +kernel)) dX8_makePlan_65 ?_
  refine va_put (D := (dC, dI)) (ci := 8) (v := .int (1000000)) (ty := .int) (C := RX8) (T := TX8) (N := 11) hx hb hts (by decide +kernel) tyX8 tyX8_ok nmX8 hown hK hP hD hS 0 rfl rfl 9 (by decide) (hts (.fieldLink RX8 85 "QuietStairsModel" "least" "I") (by decide +kernel)) (fun _ h9 => h9) rfl (by decide +kernel) rfl rfl (Nat.le_of_ble_eq_true rfl) dX8_makePlan_67 (fun H locs hP hD hS => ?_)
  have hP : va_P (dC, dI) vwCl [(g0, .inr (8, [.ref g1, .ref g2, .int 0, .int 1, .ref g3, .int 0, .ref g4, .ref g5, .ref g6, .int (1000000), .ref g7])), (g1, .inl (cy 0, 596, .inl (fun _ => 0))), (g5, .inl (cy 0, 5, .inl (fun _ => 0)))] H := hP
  have hD : va_D A [(g0, .inr (8, [.ref g1, .ref g2, .int 0, .int 1, .ref g3, .int 0, .ref g4, .ref g5, .ref g6, .int (1000000), .ref g7])), (g1, .inl (cy 0, 596, .inl (fun _ => 0))), (g5, .inl (cy 0, 5, .inl (fun _ => 0)))] := hD
  refine lv_iconst (v := 0) hx hb dX8_makePlan_70 (by decide) ?_
  refine lv_istore_n (lv' := [(1, .int 0), (0, .ref g0)]) hx hb dX8_makePlan_71 rfl hl (by decide) rfl (fun ls hl => ?_)
  refine lv_aload_n hx hb dX8_makePlan_72 rfl (lv_at hl 1 rfl) ?_
  refine va_get (D := (dC, dI)) (ci := 8) (v := .ref g5) (C := RX8) (T := TX8) (N := 11) hx hb hts (by decide +kernel) hown hK hP 0 rfl rfl 7 (by decide) (hts (.fieldLink RX8 26 "QuietStairsModel" "tried" "[I") (by decide +kernel)) (fun _ h9 => h9) rfl dX8_makePlan_73 ?_
  refine lv_iconst (v := 0) hx hb dX8_makePlan_76 (by decide) ?_
  refine lv_iconst (v := 0) hx hb dX8_makePlan_77 (by decide) ?_
  refine va_iast hx hb hK hP hD hS 2 0 rfl rfl (by unfold vp_in; decide) dX8_makePlan_78 (fun H locs hP hD hS => ?_)
  have hP : va_P (dC, dI) vwCl [(g0, .inr (8, [.ref g1, .ref g2, .int 0, .int 1, .ref g3, .int 0, .ref g4, .ref g5, .ref g6, .int (1000000), .ref g7])), (g1, .inl (cy 0, 596, .inl (fun _ => 0))), (g5, .inl (cy 0, 5, .inl (upd (fun _ => 0) (0 : Int32).toNatClampNeg 0)))] H := hP
  have hD : va_D A [(g0, .inr (8, [.ref g1, .ref g2, .int 0, .int 1, .ref g3, .int 0, .ref g4, .ref g5, .ref g6, .int (1000000), .ref g7])), (g1, .inl (cy 0, 596, .inl (fun _ => 0))), (g5, .inl (cy 0, 5, .inl (upd (fun _ => 0) (0 : Int32).toNatClampNeg 0)))] := hD
  refine lv_iload_n hx hb dX8_makePlan_79 rfl (lv_at hl 0 rfl) ?_
  refine lv_if_lt (tgt := 211) hx hb dX8_makePlan_80 (by decide) (fun c9 => absurd c9 (by decide)) (fun _ => ?_)
  refine lv_iload_n hx hb dX8_makePlan_83 rfl (lv_at hl 0 rfl) ?_
  refine lv_aload_n hx hb dX8_makePlan_84 rfl (lv_at hl 1 rfl) ?_
  refine va_get (D := (dC, dI)) (ci := 8) (v := .int 0) (C := RX8) (T := TX8) (N := 11) hx hb hts (by decide +kernel) hown hK hP 0 rfl rfl 5 (by decide) (hts (.fieldLink RX8 79 "QuietStairsModel" "many" "I") (by decide +kernel)) (fun _ h9 => h9) rfl dX8_makePlan_85 ?_
  refine lv_icmp_ne (tgt := 119) hx hb dX8_makePlan_88 (by decide) (fun c9 => absurd c9 (by decide)) (fun _ => ?_)
  refine lv_aload_n hx hb dX8_makePlan_91 rfl (lv_at hl 1 rfl) ?_
  refine yc_v (wc := [(g0, .inr (8, [.ref g1, .ref g2, .int 0, .int 1, .ref g3, .int 0, .ref g4, .ref g5, .ref g6, .int (1000000), .ref g7]))]) (wr := [(g1, .inl (cy 0, 596, .inl (fun _ => 0))), (g5, .inl (cy 0, 5, .inl (upd (fun _ => 0) (0 : Int32).toNatClampNeg 0)))]) (w1 := fun _ => [(g0, .inr (8, [.ref g1, .ref g2, .int 0, .int 1, .ref g3, .int 0, .ref g4, .ref g5, .ref g6, .int 0, .ref g7]))]) hP hD hS hA [0] [1, 2] rfl rfl (by decide) (by decide) (va_runV (As := []) (rest := []) ⟨hx, hb, hml, hown, hts⟩ (c0_X8_note l dC dI cy _ g0 g1 g2 g3 g4 g5 g6 g7) (cwV 0 hts gX8_makePlan_X8_note rfl rfl rfl (by decide +kernel) ⟨Nat.le_of_ble_eq_true rfl, Nat.le_of_ble_eq_true rfl⟩) (ex_preV hE hK hP hD [0] (by decide) rfl (ci := 8) (q0 := 0) rfl rfl) rfl rfl hl.1 rfl (lv_room (Nat.le_of_ble_eq_true rfl)) dX8_makePlan_92 ⟨Nat.le_of_ble_eq_true rfl, Nat.le_of_ble_eq_true rfl⟩) (fun u_2 H locs hw_2 hP hD hS => ?_)
  have hP : va_P (dC, dI) vwCl [(g1, .inl (cy 0, 596, .inl (fun _ => 0))), (g5, .inl (cy 0, 5, .inl (upd (fun _ => 0) (0 : Int32).toNatClampNeg 0))), (g0, .inr (8, [.ref g1, .ref g2, .int 0, .int 1, .ref g3, .int 0, .ref g4, .ref g5, .ref g6, .int 0, .ref g7]))] H := hP
  have hD : va_D A [(g1, .inl (cy 0, 596, .inl (fun _ => 0))), (g5, .inl (cy 0, 5, .inl (upd (fun _ => 0) (0 : Int32).toNatClampNeg 0))), (g0, .inr (8, [.ref g1, .ref g2, .int 0, .int 1, .ref g3, .int 0, .ref g4, .ref g5, .ref g6, .int 0, .ref g7]))] := hD
  refine lv_iinc (v := (-1)) (lv' := [(1, .int (-1)), (0, .ref g0)]) hx hb dX8_makePlan_95 hl (k := 0) rfl (by decide) (by decide) rfl (fun ls hl => ?_)
  refine lv_aload_n hx hb dX8_makePlan_98 rfl (lv_at hl 1 rfl) ?_
  refine va_get (D := (dC, dI)) (ci := 8) (v := .ref g5) (C := RX8) (T := TX8) (N := 11) hx hb hts (by decide +kernel) hown hK hP 2 rfl rfl 7 (by decide) (hts (.fieldLink RX8 26 "QuietStairsModel" "tried" "[I") (by decide +kernel)) (fun _ h9 => h9) rfl dX8_makePlan_99 ?_
  refine lv_iload_n hx hb dX8_makePlan_102 rfl (lv_at hl 0 rfl) ?_
  refine lv_if_ge (tgt := 110) hx hb dX8_makePlan_103 (by decide) (fun c9 => absurd c9 (by decide)) (fun _ => ?_)
  refine lv_iconst (v := 0) hx hb dX8_makePlan_106 (by decide) ?_
  refine lv_goto (tgt := 111) hx hb dX8_makePlan_107 (by decide) ?_
  refine lv_dup2_11 hx hb dX8_makePlan_111 rfl rfl ?_
  refine va_iald hx hb hK hP 1 0 rfl rfl (by unfold vp_in; decide) dX8_makePlan_112 ?_
  refine lv_topi (fun x_3 ex_3 => ?_)
  obtain rfl : x_3 = 0 := ex_3.trans (rfl)
  refine lv_iconst (v := 1) hx hb dX8_makePlan_113 (by decide) ?_
  refine lv_iadd hx hb dX8_makePlan_114 ?_
  refine lv_topi (fun x_4 ex_4 => ?_)
  obtain rfl : x_4 = 1 := ex_4.trans (by decide)
  refine va_iast hx hb hK hP hD hS 1 0 rfl rfl (by unfold vp_in; decide) dX8_makePlan_115 (fun H locs hP hD hS => ?_)
  have hP : va_P (dC, dI) vwCl [(g1, .inl (cy 0, 596, .inl (fun _ => 0))), (g5, .inl (cy 0, 5, .inl (upd (upd (fun _ => 0) (0 : Int32).toNatClampNeg 0) (0 : Int32).toNatClampNeg 1))), (g0, .inr (8, [.ref g1, .ref g2, .int 0, .int 1, .ref g3, .int 0, .ref g4, .ref g5, .ref g6, .int 0, .ref g7]))] H := hP
  have hD : va_D A [(g1, .inl (cy 0, 596, .inl (fun _ => 0))), (g5, .inl (cy 0, 5, .inl (upd (upd (fun _ => 0) (0 : Int32).toNatClampNeg 0) (0 : Int32).toNatClampNeg 1))), (g0, .inr (8, [.ref g1, .ref g2, .int 0, .int 1, .ref g3, .int 0, .ref g4, .ref g5, .ref g6, .int 0, .ref g7]))] := hD
  refine lv_goto (tgt := 79) hx hb dX8_makePlan_116 (by decide) ?_
  refine lv_iload_n hx hb dX8_makePlan_79 rfl (lv_at hl 0 rfl) ?_
  refine lv_if_lt (tgt := 211) hx hb dX8_makePlan_80 (by decide) (fun _ => ?_) (fun c9 => absurd c9 (by decide))
  have hP9 := hP.sub (ws' := [(g0, .inr (8, [.ref g1, .ref g2, .int 0, .int 1, .ref g3, .int 0, .ref g4, .ref g5, .ref g6, .int 0, .ref g7]))]) [2] rfl
  have hD9 := hD.sub (ws' := [(g0, .inr (8, [.ref g1, .ref g2, .int 0, .int 1, .ref g3, .int 0, .ref g4, .ref g5, .ref g6, .int 0, .ref g7]))]) [2] (by decide) rfl
  exact W.vret hx hb hr (fun t ht hW => ⟨⟨(), rfl, trivial, by rw [ht]; exact hP9, hD9⟩, hS.F ht⟩) hS.2.2 dX8_makePlan_211

set_option maxHeartbeats 4000000 in
set_option maxRecDepth 100000 in
theorem c0_X8_waits (l : Launch) (dC : Nat → ClassId) (dI : Nat → Nat → Nat) (cy : Nat → ClassId) (sz : Nat) (g0 g1 g2 g3 g4 g5 g6 g7 : Nat) : Met l yX8_waits wsX8_waits ({ frames := 4, cells := 0, slots := 0, locals := 256 }) (va_Pc [.ref g0] (ex_Pre dC dI cy sz [(g0, .inr (8, [.ref g1, .ref g2, .int 0, .int 1, .ref g3, .int 0, .ref g4, .ref g5, .ref g6, .int 0, .ref g7])), (g1, .inl (cy 0, 596, .inl (fun _ => 0))), (g5, .inl (cy 0, 5, .inl (fun _ => 0)))])) (va_Qi (fun (r : Int32) (u : Unit) => r = 0) (fun u t => ex_Pst dC dI (va_A [(g0, .inr (8, [.ref g1, .ref g2, .int 0, .int 1, .ref g3, .int 0, .ref g4, .ref g5, .ref g6, .int 0, .ref g7])), (g1, .inl (cy 0, 596, .inl (fun _ => 0))), (g5, .inl (cy 0, 5, .inl (fun _ => 0)))] sz) ([]) t) (va_A [(g0, .inr (8, [.ref g1, .ref g2, .int 0, .int 1, .ref g3, .int 0, .ref g4, .ref g5, .ref g6, .int 0, .ref g7])), (g1, .inl (cy 0, 596, .inl (fun _ => 0))), (g5, .inl (cy 0, 5, .inl (fun _ => 0)))] sz)) 0 0 (va_A [(g0, .inr (8, [.ref g1, .ref g2, .int 0, .int 1, .ref g3, .int 0, .ref g4, .ref g5, .ref g6, .int 0, .ref g7])), (g1, .inl (cy 0, 596, .inl (fun _ => 0))), (g5, .inl (cy 0, 5, .inl (fun _ => 0)))] sz) := by
  refine Met.ofW (cc := cX8_waits) (maxL := 1) (ret := (some .int)) (by decide) rfl ?_
  intro p e s m args below meth c s₁ B hml hv
  obtain ⟨rfl, hsz, hE, hP, hK, hD0⟩ := hv
  have hx := B.exec
  have hb := B.bytes
  have hr := B.returns
  have hts := atoms_spec (ws := wsX8_waits) B.pre
  have hown : s.vm.findClass RX8 = some m.cls := findClass_of_methodNamed B.named
  have hlocks := B.notSynchronized
  subst hsz
  have hD := hD0.self (sz := s.heap.size)
  generalize hAe : va_A [(g0, .inr (8, [.ref g1, .ref g2, .int 0, .int 1, .ref g3, .int 0, .ref g4, .ref g5, .ref g6, .int 0, .ref g7])), (g1, .inl (cy 0, 596, .inl (fun _ => 0))), (g5, .inl (cy 0, 5, .inl (fun _ => 0)))] s.heap.size = A at hD ⊢
  have hA : ∀ q : Nat, s.heap.size ≤ q → A q := fun q h => by rw [← hAe]; exact Or.inr h
  have hS : va_S A s.heap s.heap [] := va_S.rf
  have hP : va_P (dC, dI) vwCl [(g0, .inr (8, [.ref g1, .ref g2, .int 0, .int 1, .ref g3, .int 0, .ref g4, .ref g5, .ref g6, .int 0, .ref g7])), (g1, .inl (cy 0, 596, .inl (fun _ => 0))), (g5, .inl (cy 0, 5, .inl (fun _ => 0)))] s.heap := hP
  have hl := lv_entry ([.ref g0]) (n := 1) (Nat.le_of_ble_eq_true rfl)
  rw [lg_entry_eq]
  generalize (lg_sl ([.ref g0]) ++ List.replicate (1 - (lg_sl ([.ref g0])).length) Slot.unset).toArray = ls at hl ⊢
  have hl : lv_has ls 1 [(0, .ref g0)] := hl
  refine lv_aload_n hx hb dX8_waits_0 rfl (lv_at hl 0 rfl) ?_
  refine yc_v (wc := [(g0, .inr (8, [.ref g1, .ref g2, .int 0, .int 1, .ref g3, .int 0, .ref g4, .ref g5, .ref g6, .int 0, .ref g7])), (g1, .inl (cy 0, 596, .inl (fun _ => 0))), (g5, .inl (cy 0, 5, .inl (fun _ => 0)))]) (wr := []) (w1 := fun _ => [(g0, .inr (8, [.ref g1, .ref g2, .int 0, .int 1, .ref g3, .int 0, .ref g4, .ref g5, .ref g6, .int 0, .ref g7]))]) hP hD hS hA [0, 1, 2] [] rfl rfl (by decide) (by decide) (va_runV (As := []) (rest := []) ⟨hx, hb, hml, hown, hts⟩ (c0_X8_makePlan l dC dI cy _ g0 g1 g2 g3 g4 g5 g6 g7) (cwV 0 hts gX8_waits_X8_makePlan rfl rfl rfl (by decide +kernel) ⟨Nat.le_of_ble_eq_true rfl, Nat.le_of_ble_eq_true rfl⟩) (ex_preV hE hK hP hD [0, 1, 2] (by decide) rfl (ci := 8) (q0 := 0) rfl rfl) rfl rfl hl.1 rfl (lv_room (Nat.le_of_ble_eq_true rfl)) dX8_waits_1 ⟨Nat.le_of_ble_eq_true rfl, Nat.le_of_ble_eq_true rfl⟩) (fun u_1 H locs hw_1 hP hD hS => ?_)
  have hP : va_P (dC, dI) vwCl [(g0, .inr (8, [.ref g1, .ref g2, .int 0, .int 1, .ref g3, .int 0, .ref g4, .ref g5, .ref g6, .int 0, .ref g7]))] H := hP
  have hD : va_D A [(g0, .inr (8, [.ref g1, .ref g2, .int 0, .int 1, .ref g3, .int 0, .ref g4, .ref g5, .ref g6, .int 0, .ref g7]))] := hD
  refine lv_aload_n hx hb dX8_waits_4 rfl (lv_at hl 0 rfl) ?_
  refine va_get (D := (dC, dI)) (ci := 8) (v := .int 0) (C := RX8) (T := TX8) (N := 11) hx hb hts (by decide +kernel) hown hK hP 0 rfl rfl 9 (by decide) (hts (.fieldLink RX8 85 "QuietStairsModel" "least" "I") (by decide +kernel)) (fun _ h9 => h9) rfl dX8_waits_5 ?_
  have hP9 := hP.sub (ws' := []) [] rfl
  have hD9 := hD.sub (ws' := []) [] (by decide) rfl
  exact W.iret (v := 0) hx hb hr (fun t ht hW => ⟨⟨0, (), rfl, rfl, by rw [ht]; exact hP9, hD9⟩, hS.F ht⟩) hS.2.2 dX8_waits_8

set_option maxHeartbeats 4000000 in
set_option maxRecDepth 100000 in
theorem c0_X8_keep (l : Launch) (dC : Nat → ClassId) (dI : Nat → Nat → Nat) (cy : Nat → ClassId) (sz : Nat) (g0 g1 g2 g3 g4 g5 g6 g7 : Nat) : Met l yX8_keep wsX8_keep ({ frames := 1, cells := 0, slots := 0, locals := 64 }) (va_Pc [.ref g0] (ex_Pre dC dI cy sz [(g0, .inr (8, [.ref g1, .ref g2, .int 0, .int 1, .ref g3, .int 0, .ref g4, .ref g5, .ref g6, .int 0, .ref g7])), (g1, .inl (cy 0, 596, .inl (fun _ => 0))), (g2, .inl (cy 0, 596, .inl (fun _ => 0)))])) (va_Qi (fun (r : Int32) (u : Unit) => r = 1) (fun u t => ex_Pst dC dI (va_A [(g0, .inr (8, [.ref g1, .ref g2, .int 0, .int 1, .ref g3, .int 0, .ref g4, .ref g5, .ref g6, .int 0, .ref g7])), (g1, .inl (cy 0, 596, .inl (fun _ => 0))), (g2, .inl (cy 0, 596, .inl (fun _ => 0)))] sz) ([]) t) (va_A [(g0, .inr (8, [.ref g1, .ref g2, .int 0, .int 1, .ref g3, .int 0, .ref g4, .ref g5, .ref g6, .int 0, .ref g7])), (g1, .inl (cy 0, 596, .inl (fun _ => 0))), (g2, .inl (cy 0, 596, .inl (fun _ => 0)))] sz)) 0 0 (va_A [(g0, .inr (8, [.ref g1, .ref g2, .int 0, .int 1, .ref g3, .int 0, .ref g4, .ref g5, .ref g6, .int 0, .ref g7])), (g1, .inl (cy 0, 596, .inl (fun _ => 0))), (g2, .inl (cy 0, 596, .inl (fun _ => 0)))] sz) := by
  refine Met.ofW (cc := cX8_keep) (maxL := 2) (ret := (some .int)) (by decide) rfl ?_
  intro p e s m args below meth c s₁ B hml hv
  obtain ⟨rfl, hsz, hE, hP, hK, hD0⟩ := hv
  have hx := B.exec
  have hb := B.bytes
  have hr := B.returns
  have hts := atoms_spec (ws := wsX8_keep) B.pre
  have hown : s.vm.findClass RX8 = some m.cls := findClass_of_methodNamed B.named
  have hlocks := B.notSynchronized
  subst hsz
  have hD := hD0.self (sz := s.heap.size)
  generalize hAe : va_A [(g0, .inr (8, [.ref g1, .ref g2, .int 0, .int 1, .ref g3, .int 0, .ref g4, .ref g5, .ref g6, .int 0, .ref g7])), (g1, .inl (cy 0, 596, .inl (fun _ => 0))), (g2, .inl (cy 0, 596, .inl (fun _ => 0)))] s.heap.size = A at hD ⊢
  have hA : ∀ q : Nat, s.heap.size ≤ q → A q := fun q h => by rw [← hAe]; exact Or.inr h
  have hS : va_S A s.heap s.heap [] := va_S.rf
  have hP : va_P (dC, dI) vwCl [(g0, .inr (8, [.ref g1, .ref g2, .int 0, .int 1, .ref g3, .int 0, .ref g4, .ref g5, .ref g6, .int 0, .ref g7])), (g1, .inl (cy 0, 596, .inl (fun _ => 0))), (g2, .inl (cy 0, 596, .inl (fun _ => 0)))] s.heap := hP
  have hl := lv_entry ([.ref g0]) (n := 2) (Nat.le_of_ble_eq_true rfl)
  rw [lg_entry_eq]
  generalize (lg_sl ([.ref g0]) ++ List.replicate (2 - (lg_sl ([.ref g0])).length) Slot.unset).toArray = ls at hl ⊢
  have hl : lv_has ls 2 [(0, .ref g0)] := hl
  refine lv_iconst (v := 0) hx hb dX8_keep_0 (by decide) ?_
  refine lv_istore_n (lv' := [(1, .int 0), (0, .ref g0)]) hx hb dX8_keep_1 rfl hl (by decide) rfl (fun ls hl => ?_)
  have hloop : ∀ (n k : Nat) (x : Int32), k ≤ 596 → 597 ≤ k + n → x = nI k → ∀ (g : Nat → Int32) (H : Heap) (locs : List Loc), va_P (dC, dI) vwCl [(g0, .inr (8, [.ref g1, .ref g2, .int 0, .int 1, .ref g3, .int 0, .ref g4, .ref g5, .ref g6, .int 0, .ref g7])), (g1, .inl (cy 0, 596, .inl (fun _ => 0))), (g2, .inl (cy 0, 596, .inl g))] H → va_D A [(g0, .inr (8, [.ref g1, .ref g2, .int 0, .int 1, .ref g3, .int 0, .ref g4, .ref g5, .ref g6, .int 0, .ref g7])), (g1, .inl (cy 0, 596, .inl (fun _ => 0))), (g2, .inl (cy 0, 596, .inl g))] → va_S A s.heap H locs → ∀ ls : Array Slot, lv_has ls 2 [(1, .int x), (0, .ref g0)] → W p l e (headSpec wsX8_keep ({ frames := 1, cells := 0, slots := 0, locals := 64 })).room s m [Value.ref g0].toArray below meth c H locs 0 0 (MQ below (va_Qi (fun (r : Int32) (u : Unit) => r = 1) (fun u t => ex_Pst dC dI A [] t) A) [Value.ref g0].toArray s 0 0 A) (F0 m 2 ls []) := by
    intro n
    induction n with
    | zero =>
      intro k x h1 h2
      exact absurd h2 (by omega)
    | succ n ih =>
      intro k x hk hn ex g H locs hP hD hS ls hl
      refine lv_iload_n hx hb dX8_keep_2 rfl (lv_at hl 0 rfl) ?_
      refine lv_sipush (v := 596) hx hb dX8_keep_3 (by decide) ?_
      refine lv_icmp_ge (tgt := 27) hx hb dX8_keep_6 (by decide) (fun c_1 => ?_) (fun c_1 => ?_)
      · refine lv_aload_n hx hb dX8_keep_27 rfl (lv_at hl 1 rfl) ?_
        refine lv_iconst (v := 1) hx hb dX8_keep_28 (by decide) ?_
        refine va_put (D := (dC, dI)) (ci := 8) (v := .int 1) (ty := .boolean) (C := RX8) (T := TX8) (N := 11) hx hb hts (by decide +kernel) tyX8 tyX8_ok nmX8 hown hK hP hD hS 0 rfl rfl 2 (by decide) (hts (.fieldLink RX8 134 "QuietStairsModel" "isKept" "Z") (by decide +kernel)) (fun _ h9 => h9) rfl (by decide +kernel) rfl rfl (Nat.le_of_ble_eq_true rfl) dX8_keep_29 (fun H locs hP hD hS => ?_)
        have hP : va_P (dC, dI) vwCl [(g0, .inr (8, [.ref g1, .ref g2, .int 1, .int 1, .ref g3, .int 0, .ref g4, .ref g5, .ref g6, .int 0, .ref g7])), (g1, .inl (cy 0, 596, .inl (fun _ => 0))), (g2, .inl (cy 0, 596, .inl g))] H := hP
        have hD : va_D A [(g0, .inr (8, [.ref g1, .ref g2, .int 1, .int 1, .ref g3, .int 0, .ref g4, .ref g5, .ref g6, .int 0, .ref g7])), (g1, .inl (cy 0, 596, .inl (fun _ => 0))), (g2, .inl (cy 0, 596, .inl g))] := hD
        refine lv_iconst (v := 1) hx hb dX8_keep_32 (by decide) ?_
        have hP9 := hP.sub (ws' := []) [] rfl
        have hD9 := hD.sub (ws' := []) [] (by decide) rfl
        exact W.iret (v := 1) hx hb hr (fun t ht hW => ⟨⟨1, (), rfl, rfl, by rw [ht]; exact hP9, hD9⟩, hS.F ht⟩) hS.2.2 dX8_keep_33
      · have hlt : k < 596 := by
          rcases Nat.lt_or_ge k 596 with q | q
          · exact q
          · exact absurd (by rw [ex]; exact nI_le q (by omega)) c_1
        have h9 : vp_in x 596 := by rw [ex]; exact vp_in_nI hlt (by omega)
        refine lv_aload_n hx hb dX8_keep_9 rfl (lv_at hl 1 rfl) ?_
        refine va_get (D := (dC, dI)) (ci := 8) (v := .ref g2) (C := RX8) (T := TX8) (N := 11) hx hb hts (by decide +kernel) hown hK hP 0 rfl rfl 1 (by decide) (hts (.fieldLink RX8 13 "QuietStairsModel" "kept" "[I") (by decide +kernel)) (fun _ h9 => h9) rfl dX8_keep_10 ?_
        refine lv_iload_n hx hb dX8_keep_13 rfl (lv_at hl 0 rfl) ?_
        refine lv_aload_n hx hb dX8_keep_14 rfl (lv_at hl 1 rfl) ?_
        refine va_get (D := (dC, dI)) (ci := 8) (v := .ref g1) (C := RX8) (T := TX8) (N := 11) hx hb hts (by decide +kernel) hown hK hP 0 rfl rfl 0 (by decide) (hts (.fieldLink RX8 7 "QuietStairsModel" "s" "[I") (by decide +kernel)) (fun _ h9 => h9) rfl dX8_keep_15 ?_
        refine lv_iload_n hx hb dX8_keep_18 rfl (lv_at hl 0 rfl) ?_
        refine va_iald hx hb hK hP 1 0 rfl rfl (h9) dX8_keep_19 ?_
        refine lv_topi (fun x_2 ex_2 => ?_)
        refine va_iast hx hb hK hP hD hS 2 0 rfl rfl (h9) dX8_keep_20 (fun H locs hP hD hS => ?_)
        have hP : va_P (dC, dI) vwCl [(g0, .inr (8, [.ref g1, .ref g2, .int 0, .int 1, .ref g3, .int 0, .ref g4, .ref g5, .ref g6, .int 0, .ref g7])), (g1, .inl (cy 0, 596, .inl (fun _ => 0))), (g2, .inl (cy 0, 596, .inl (upd g x.toNatClampNeg x_2)))] H := hP
        have hD : va_D A [(g0, .inr (8, [.ref g1, .ref g2, .int 0, .int 1, .ref g3, .int 0, .ref g4, .ref g5, .ref g6, .int 0, .ref g7])), (g1, .inl (cy 0, 596, .inl (fun _ => 0))), (g2, .inl (cy 0, 596, .inl (upd g x.toNatClampNeg x_2)))] := hD
        obtain ⟨x_3, ex_3⟩ : ∃ y : Int32, y = x + 1 := ⟨_, rfl⟩
        refine lv_iinc (v := x_3) (lv' := [(1, .int x_3), (0, .ref g0)]) hx hb dX8_keep_21 hl (k := 0) rfl (by rw [ex_3]; rfl) (by decide) rfl (fun ls hl => ?_)
        refine lv_goto (tgt := 2) hx hb dX8_keep_24 (by decide) ?_
        exact ih (k + 1) x_3 hlt (by omega) (by rw [ex_3, ex]; exact nI_1 k) _ _ _ hP hD hS ls (lv_sub hl [0, 1] rfl)
  exact hloop 597 0 0 (by omega) (by omega) rfl _ _ _ hP hD hS ls hl
