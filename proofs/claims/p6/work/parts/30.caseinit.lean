theorem dX6_init_0 : decode cX6_init 0 = .ok (.aload_n 0, 1) := by decide +kernel
theorem dX6_init_1 : decode cX6_init 1 = .ok (.invokespecial 1, 3) := by decide +kernel
theorem dX6_init_4 : decode cX6_init 4 = .ok (.return_, 1) := by decide +kernel
theorem dX3_init_0 : decode cX3_init 0 = .ok (.aload_n 0, 1) := by decide +kernel
theorem dX3_init_1 : decode cX3_init 1 = .ok (.invokespecial 1, 3) := by decide +kernel
theorem dX3_init_4 : decode cX3_init 4 = .ok (.return_, 1) := by decide +kernel
theorem dX2_init_0 : decode cX2_init 0 = .ok (.aload_n 0, 1) := by decide +kernel
theorem dX2_init_1 : decode cX2_init 1 = .ok (.invokespecial 1, 3) := by decide +kernel
theorem dX2_init_4 : decode cX2_init 4 = .ok (.return_, 1) := by decide +kernel
set_option maxRecDepth 20000 in
theorem db_X0_init_0 : (decode cX0_init 0 = .ok (.aload_n 0, 1)) ∧ (decode cX0_init 1 = .ok (.invokespecial 3, 3)) ∧ (decode cX0_init 4 = .ok (.aload_n 0, 1)) ∧ (decode cX0_init 5 = .ok (.iconst 2, 1)) ∧ (decode cX0_init 6 = .ok (.newarray .int, 2)) ∧ (decode cX0_init 8 = .ok (.putfield 9, 3)) ∧ (decode cX0_init 11 = .ok (.aload_n 0, 1)) ∧ (decode cX0_init 12 = .ok (.iconst 2, 1)) := by decide +kernel
theorem dX0_init_0 : decode cX0_init 0 = .ok (.aload_n 0, 1) := db_X0_init_0.1
theorem dX0_init_1 : decode cX0_init 1 = .ok (.invokespecial 3, 3) := db_X0_init_0.2.1
theorem dX0_init_4 : decode cX0_init 4 = .ok (.aload_n 0, 1) := db_X0_init_0.2.2.1
theorem dX0_init_5 : decode cX0_init 5 = .ok (.iconst 2, 1) := db_X0_init_0.2.2.2.1
theorem dX0_init_6 : decode cX0_init 6 = .ok (.newarray .int, 2) := db_X0_init_0.2.2.2.2.1
theorem dX0_init_8 : decode cX0_init 8 = .ok (.putfield 9, 3) := db_X0_init_0.2.2.2.2.2.1
theorem dX0_init_11 : decode cX0_init 11 = .ok (.aload_n 0, 1) := db_X0_init_0.2.2.2.2.2.2.1
theorem dX0_init_12 : decode cX0_init 12 = .ok (.iconst 2, 1) := db_X0_init_0.2.2.2.2.2.2.2
set_option maxRecDepth 20000 in
theorem db_X0_init_13 : (decode cX0_init 13 = .ok (.newarray .int, 2)) ∧ (decode cX0_init 15 = .ok (.putfield 15, 3)) ∧ (decode cX0_init 18 = .ok (.aload_n 0, 1)) ∧ (decode cX0_init 19 = .ok (.iconst 2, 1)) ∧ (decode cX0_init 20 = .ok (.iconst 5, 1)) ∧ (decode cX0_init 21 = .ok (.multianewarray 18 2, 4)) ∧ (decode cX0_init 25 = .ok (.putfield 20, 3)) ∧ (decode cX0_init 28 = .ok (.aload_n 0, 1)) := by decide +kernel
theorem dX0_init_13 : decode cX0_init 13 = .ok (.newarray .int, 2) := db_X0_init_13.1
theorem dX0_init_15 : decode cX0_init 15 = .ok (.putfield 15, 3) := db_X0_init_13.2.1
theorem dX0_init_18 : decode cX0_init 18 = .ok (.aload_n 0, 1) := db_X0_init_13.2.2.1
theorem dX0_init_19 : decode cX0_init 19 = .ok (.iconst 2, 1) := db_X0_init_13.2.2.2.1
theorem dX0_init_20 : decode cX0_init 20 = .ok (.iconst 5, 1) := db_X0_init_13.2.2.2.2.1
theorem dX0_init_21 : decode cX0_init 21 = .ok (.multianewarray 18 2, 4) := db_X0_init_13.2.2.2.2.2.1
theorem dX0_init_25 : decode cX0_init 25 = .ok (.putfield 20, 3) := db_X0_init_13.2.2.2.2.2.2.1
theorem dX0_init_28 : decode cX0_init 28 = .ok (.aload_n 0, 1) := db_X0_init_13.2.2.2.2.2.2.2
set_option maxRecDepth 20000 in
theorem db_X0_init_29 : (decode cX0_init 29 = .ok (.iconst 2, 1)) ∧ (decode cX0_init 30 = .ok (.bipush 24, 2)) ∧ (decode cX0_init 32 = .ok (.multianewarray 18 2, 4)) ∧ (decode cX0_init 36 = .ok (.putfield 23, 3)) ∧ (decode cX0_init 39 = .ok (.aload_n 0, 1)) ∧ (decode cX0_init 40 = .ok (.iconst 5, 1)) ∧ (decode cX0_init 41 = .ok (.anewarray 26, 3)) ∧ (decode cX0_init 44 = .ok (.putfield 28, 3)) := by decide +kernel
theorem dX0_init_29 : decode cX0_init 29 = .ok (.iconst 2, 1) := db_X0_init_29.1
theorem dX0_init_30 : decode cX0_init 30 = .ok (.bipush 24, 2) := db_X0_init_29.2.1
theorem dX0_init_32 : decode cX0_init 32 = .ok (.multianewarray 18 2, 4) := db_X0_init_29.2.2.1
theorem dX0_init_36 : decode cX0_init 36 = .ok (.putfield 23, 3) := db_X0_init_29.2.2.2.1
theorem dX0_init_39 : decode cX0_init 39 = .ok (.aload_n 0, 1) := db_X0_init_29.2.2.2.2.1
theorem dX0_init_40 : decode cX0_init 40 = .ok (.iconst 5, 1) := db_X0_init_29.2.2.2.2.2.1
theorem dX0_init_41 : decode cX0_init 41 = .ok (.anewarray 26, 3) := db_X0_init_29.2.2.2.2.2.2.1
theorem dX0_init_44 : decode cX0_init 44 = .ok (.putfield 28, 3) := db_X0_init_29.2.2.2.2.2.2.2
set_option maxRecDepth 20000 in
theorem db_X0_init_47 : (decode cX0_init 47 = .ok (.iconst 0, 1)) ∧ (decode cX0_init 48 = .ok (.istore_n 1, 1)) ∧ (decode cX0_init 49 = .ok (.iload_n 1, 1)) ∧ (decode cX0_init 50 = .ok (.iconst 5, 1)) ∧ (decode cX0_init 51 = .ok (.if_icmp .ge 22, 3)) ∧ (decode cX0_init 54 = .ok (.aload_n 0, 1)) ∧ (decode cX0_init 55 = .ok (.getfield 28, 3)) ∧ (decode cX0_init 58 = .ok (.iload_n 1, 1)) := by decide +kernel
theorem dX0_init_47 : decode cX0_init 47 = .ok (.iconst 0, 1) := db_X0_init_47.1
theorem dX0_init_48 : decode cX0_init 48 = .ok (.istore_n 1, 1) := db_X0_init_47.2.1
theorem dX0_init_49 : decode cX0_init 49 = .ok (.iload_n 1, 1) := db_X0_init_47.2.2.1
theorem dX0_init_50 : decode cX0_init 50 = .ok (.iconst 5, 1) := db_X0_init_47.2.2.2.1
theorem dX0_init_51 : decode cX0_init 51 = .ok (.if_icmp .ge 22, 3) := db_X0_init_47.2.2.2.2.1
theorem dX0_init_54 : decode cX0_init 54 = .ok (.aload_n 0, 1) := db_X0_init_47.2.2.2.2.2.1
theorem dX0_init_55 : decode cX0_init 55 = .ok (.getfield 28, 3) := db_X0_init_47.2.2.2.2.2.2.1
theorem dX0_init_58 : decode cX0_init 58 = .ok (.iload_n 1, 1) := db_X0_init_47.2.2.2.2.2.2.2
set_option maxRecDepth 20000 in
theorem db_X0_init_59 : (decode cX0_init 59 = .ok (.new 26, 3)) ∧ (decode cX0_init 62 = .ok (.dup, 1)) ∧ (decode cX0_init 63 = .ok (.invokespecial 32, 3)) ∧ (decode cX0_init 66 = .ok (.aastore, 1)) ∧ (decode cX0_init 67 = .ok (.iinc 1 1, 3)) ∧ (decode cX0_init 70 = .ok (.goto (-21), 3)) ∧ (decode cX0_init 73 = .ok (.return_, 1)) := by decide +kernel
theorem dX0_init_59 : decode cX0_init 59 = .ok (.new 26, 3) := db_X0_init_59.1
theorem dX0_init_62 : decode cX0_init 62 = .ok (.dup, 1) := db_X0_init_59.2.1
set_option maxRecDepth 20000 in
theorem ggX0_init_X6_init : GoodIn wsX0_init wsX6_init := goodIn_r _ [15, 16, 2, 3] rfl (by decide +kernel)
set_option maxRecDepth 20000 in
theorem gX0_init_X6_init_n32 : GoodIn wsX0_init (wsX6_init) := ggX0_init_X6_init
theorem dX0_init_63 : decode cX0_init 63 = .ok (.invokespecial 32, 3) := db_X0_init_59.2.2.1
theorem dX0_init_66 : decode cX0_init 66 = .ok (.aastore, 1) := db_X0_init_59.2.2.2.1
theorem dX0_init_67 : decode cX0_init 67 = .ok (.iinc 1 1, 3) := db_X0_init_59.2.2.2.2.1
theorem dX0_init_70 : decode cX0_init 70 = .ok (.goto (-21), 3) := db_X0_init_59.2.2.2.2.2.1
theorem dX0_init_73 : decode cX0_init 73 = .ok (.return_, 1) := db_X0_init_59.2.2.2.2.2.2
theorem up_s {f g : Nat → Option Nat} {ix i q : Nat} {U : Nat → Nat} (e : g = va_up f ix (some q)) (hi : ix = i) (h : ∀ j, j < i → f j = some (U j)) (hq : U i = q) : ∀ j, j < i + 1 → g j = some (U j) := by
  intro j hj
  rw [e, hi]
  by_cases e1 : j = i
  · subst e1
    rw [hq]
    exact if_pos rfl
  · exact (if_neg e1).trans (h j (by omega))
theorem up_n {f g : Nat → Option Nat} {ix n q : Nat} (e : g = va_up f ix (some q)) (hi : ix < n) (h : ∀ j, n ≤ j → f j = none) : ∀ j, n ≤ j → g j = none := by
  intro j hj
  rw [e]
  exact (if_neg (by omega)).trans (h j hj)
theorem up_e {f : Nat → Option Nat} {n : Nat} {U : Nat → Nat} (h1 : ∀ j, j < n → f j = some (U j)) (h2 : ∀ j, n ≤ j → f j = none) : f = fun i => if i < n then some (U i) else none := by
  funext i
  by_cases h : i < n
  · rw [if_pos h]
    exact h1 i h
  · rw [if_neg h]
    exact h2 i (by omega)

set_option maxHeartbeats 4000000 in
set_option maxRecDepth 100000 in
theorem c_X6_init (l : Launch) (dC : Nat → ClassId) (dI : Nat → Nat → Nat) (cy : Nat → ClassId) (sz : Nat) (h0 : Nat) : Met l yX6_init wsX6_init ({ frames := 1, cells := 0, slots := 0, locals := 64 }) (va_Pc [.ref h0] (ex_Pre dC dI cy sz [(h0, .inr (6, [.int 0, .int 0, .int 0, .int 0, .int 0]))])) (va_Qv (fun (u : Unit) => True) (fun u t => ex_Pst dC dI (va_A [(h0, .inr (6, [.int 0, .int 0, .int 0, .int 0, .int 0]))] sz) ([(h0, .inr (6, [.int 0, .int 0, .int 0, .int 0, .int 0]))]) t) (va_A [(h0, .inr (6, [.int 0, .int 0, .int 0, .int 0, .int 0]))] sz)) 0 0 (va_A [(h0, .inr (6, [.int 0, .int 0, .int 0, .int 0, .int 0]))] sz) := by
  refine Met.ofW (cc := cX6_init) (maxL := 1) (ret := none) (by decide) rfl ?_
  intro p e s m args below meth c s₁ B hml hv
  obtain ⟨rfl, hsz, hE, hP, hK, hD0⟩ := hv
  have hx := B.exec
  have hb := B.bytes
  have hr := B.returns
  have hts := atoms_spec (ws := wsX6_init) B.pre
  have hown : s.vm.findClass RX6 = some m.cls := findClass_of_methodNamed B.named
  have hlocks := B.notSynchronized
  have hin : meth.name = "<init>" := (name_of_methodNamed B.named B.method).1
  subst hsz
  have hD := hD0.self (sz := s.heap.size)
  generalize hAe : va_A [(h0, .inr (6, [.int 0, .int 0, .int 0, .int 0, .int 0]))] s.heap.size = A at hD ⊢
  have hA : ∀ q : Nat, s.heap.size ≤ q → A q := fun q h => by rw [← hAe]; exact Or.inr h
  have hS : va_S A s.heap s.heap [] := va_S.rf
  have hP : va_P (dC, dI) vwCl [(h0, .inr (6, [.int 0, .int 0, .int 0, .int 0, .int 0]))] s.heap := hP
  have hl := lv_entry ([.ref h0]) (n := 1) (Nat.le_of_ble_eq_true rfl)
  rw [lg_entry_eq]
  generalize (lg_sl ([.ref h0]) ++ List.replicate (1 - (lg_sl ([.ref h0])).length) Slot.unset).toArray = ls at hl ⊢
  have hl : lv_has ls 1 [(0, .ref h0)] := hl
  refine lv_aload_n hx hb dX6_init_0 rfl (lv_at hl 0 rfl) ?_
  refine W.objInit hx hb hown (hts (.methodLink RX6 1 objectInit) fwX6_init_1) (hts (.instanceMethod objectInit) fwX6_init_2) (hts (.code objectInit ⟨#[0xb1]⟩ 1 none) fwX6_init_3) rfl (by rw [hml]; exact hl.1) rfl dX6_init_1 (Nat.le_of_ble_eq_true rfl) (Nat.le_of_ble_eq_true rfl) ?_
  refine W.eq (g2 := F0 m 4 ls []) rfl ?_
  have hP9 := hP.sub (ws' := [(h0, .inr (6, [.int 0, .int 0, .int 0, .int 0, .int 0]))]) [0] rfl
  have hD9 := hD.sub (ws' := [(h0, .inr (6, [.int 0, .int 0, .int 0, .int 0, .int 0]))]) [0] (by decide) rfl
  exact W.vret hx hb hr (fun t ht hW => ⟨⟨(), rfl, trivial, by rw [ht]; exact hP9, hD9⟩, hS.F ht⟩) hS.2.2 dX6_init_4

set_option maxHeartbeats 4000000 in
set_option maxRecDepth 100000 in
theorem c_X3_init (l : Launch) (dC : Nat → ClassId) (dI : Nat → Nat → Nat) (cy : Nat → ClassId) (sz : Nat) (h0 : Nat) : Met l yX3_init wsX3_init ({ frames := 1, cells := 0, slots := 0, locals := 64 }) (va_Pc [.ref h0] (ex_Pre dC dI cy sz [(h0, .inr (3, [.int 0, .int 0]))])) (va_Qv (fun (u : Unit) => True) (fun u t => ex_Pst dC dI (va_A [(h0, .inr (3, [.int 0, .int 0]))] sz) ([(h0, .inr (3, [.int 0, .int 0]))]) t) (va_A [(h0, .inr (3, [.int 0, .int 0]))] sz)) 0 0 (va_A [(h0, .inr (3, [.int 0, .int 0]))] sz) := by
  refine Met.ofW (cc := cX3_init) (maxL := 1) (ret := none) (by decide) rfl ?_
  intro p e s m args below meth c s₁ B hml hv
  obtain ⟨rfl, hsz, hE, hP, hK, hD0⟩ := hv
  have hx := B.exec
  have hb := B.bytes
  have hr := B.returns
  have hts := atoms_spec (ws := wsX3_init) B.pre
  have hown : s.vm.findClass RX3 = some m.cls := findClass_of_methodNamed B.named
  have hlocks := B.notSynchronized
  have hin : meth.name = "<init>" := (name_of_methodNamed B.named B.method).1
  subst hsz
  have hD := hD0.self (sz := s.heap.size)
  generalize hAe : va_A [(h0, .inr (3, [.int 0, .int 0]))] s.heap.size = A at hD ⊢
  have hA : ∀ q : Nat, s.heap.size ≤ q → A q := fun q h => by rw [← hAe]; exact Or.inr h
  have hS : va_S A s.heap s.heap [] := va_S.rf
  have hP : va_P (dC, dI) vwCl [(h0, .inr (3, [.int 0, .int 0]))] s.heap := hP
  have hl := lv_entry ([.ref h0]) (n := 1) (Nat.le_of_ble_eq_true rfl)
  rw [lg_entry_eq]
  generalize (lg_sl ([.ref h0]) ++ List.replicate (1 - (lg_sl ([.ref h0])).length) Slot.unset).toArray = ls at hl ⊢
  have hl : lv_has ls 1 [(0, .ref h0)] := hl
  refine lv_aload_n hx hb dX3_init_0 rfl (lv_at hl 0 rfl) ?_
  refine W.objInit hx hb hown (hts (.methodLink RX3 1 objectInit) fwX3_init_1) (hts (.instanceMethod objectInit) fwX3_init_2) (hts (.code objectInit ⟨#[0xb1]⟩ 1 none) fwX3_init_3) rfl (by rw [hml]; exact hl.1) rfl dX3_init_1 (Nat.le_of_ble_eq_true rfl) (Nat.le_of_ble_eq_true rfl) ?_
  refine W.eq (g2 := F0 m 4 ls []) rfl ?_
  have hP9 := hP.sub (ws' := [(h0, .inr (3, [.int 0, .int 0]))]) [0] rfl
  have hD9 := hD.sub (ws' := [(h0, .inr (3, [.int 0, .int 0]))]) [0] (by decide) rfl
  exact W.vret hx hb hr (fun t ht hW => ⟨⟨(), rfl, trivial, by rw [ht]; exact hP9, hD9⟩, hS.F ht⟩) hS.2.2 dX3_init_4

set_option maxHeartbeats 4000000 in
set_option maxRecDepth 100000 in
theorem c_X2_init (l : Launch) (dC : Nat → ClassId) (dI : Nat → Nat → Nat) (cy : Nat → ClassId) (sz : Nat) (h0 : Nat) : Met l yX2_init wsX2_init ({ frames := 1, cells := 0, slots := 0, locals := 64 }) (va_Pc [.ref h0] (ex_Pre dC dI cy sz [(h0, .inr (2, [.int 0, .int 0, .int 0]))])) (va_Qv (fun (u : Unit) => True) (fun u t => ex_Pst dC dI (va_A [(h0, .inr (2, [.int 0, .int 0, .int 0]))] sz) ([(h0, .inr (2, [.int 0, .int 0, .int 0]))]) t) (va_A [(h0, .inr (2, [.int 0, .int 0, .int 0]))] sz)) 0 0 (va_A [(h0, .inr (2, [.int 0, .int 0, .int 0]))] sz) := by
  refine Met.ofW (cc := cX2_init) (maxL := 1) (ret := none) (by decide) rfl ?_
  intro p e s m args below meth c s₁ B hml hv
  obtain ⟨rfl, hsz, hE, hP, hK, hD0⟩ := hv
  have hx := B.exec
  have hb := B.bytes
  have hr := B.returns
  have hts := atoms_spec (ws := wsX2_init) B.pre
  have hown : s.vm.findClass RX2 = some m.cls := findClass_of_methodNamed B.named
  have hlocks := B.notSynchronized
  have hin : meth.name = "<init>" := (name_of_methodNamed B.named B.method).1
  subst hsz
  have hD := hD0.self (sz := s.heap.size)
  generalize hAe : va_A [(h0, .inr (2, [.int 0, .int 0, .int 0]))] s.heap.size = A at hD ⊢
  have hA : ∀ q : Nat, s.heap.size ≤ q → A q := fun q h => by rw [← hAe]; exact Or.inr h
  have hS : va_S A s.heap s.heap [] := va_S.rf
  have hP : va_P (dC, dI) vwCl [(h0, .inr (2, [.int 0, .int 0, .int 0]))] s.heap := hP
  have hl := lv_entry ([.ref h0]) (n := 1) (Nat.le_of_ble_eq_true rfl)
  rw [lg_entry_eq]
  generalize (lg_sl ([.ref h0]) ++ List.replicate (1 - (lg_sl ([.ref h0])).length) Slot.unset).toArray = ls at hl ⊢
  have hl : lv_has ls 1 [(0, .ref h0)] := hl
  refine lv_aload_n hx hb dX2_init_0 rfl (lv_at hl 0 rfl) ?_
  refine W.objInit hx hb hown (hts (.methodLink RX2 1 objectInit) fwX2_init_1) (hts (.instanceMethod objectInit) fwX2_init_2) (hts (.code objectInit ⟨#[0xb1]⟩ 1 none) fwX2_init_3) rfl (by rw [hml]; exact hl.1) rfl dX2_init_1 (Nat.le_of_ble_eq_true rfl) (Nat.le_of_ble_eq_true rfl) ?_
  refine W.eq (g2 := F0 m 4 ls []) rfl ?_
  have hP9 := hP.sub (ws' := [(h0, .inr (2, [.int 0, .int 0, .int 0]))]) [0] rfl
  have hD9 := hD.sub (ws' := [(h0, .inr (2, [.int 0, .int 0, .int 0]))]) [0] (by decide) rfl
  exact W.vret hx hb hr (fun t ht hW => ⟨⟨(), rfl, trivial, by rw [ht]; exact hP9, hD9⟩, hS.F ht⟩) hS.2.2 dX2_init_4

set_option maxHeartbeats 4000000 in
set_option maxRecDepth 100000 in
theorem c_X0_init (l : Launch) (dC : Nat → ClassId) (dI : Nat → Nat → Nat) (cy : Nat → ClassId) (sz : Nat) (h0 : Nat) : Met l yX0_init wsX0_init ({ frames := 2, cells := 14, slots := 96, locals := 128 }) (va_Pc [.ref h0] (ex_Pre dC dI cy sz [(h0, .inr (0, [.int 0, .int 0, .int 0, .int 0, .int 0, .int 0, .null, .null, .null, .null, .null]))])) (va_Qv (fun (u : Nat → Nat) => u 0 = h0) (fun u t => ex_Pst dC dI (va_A [(h0, .inr (0, [.int 0, .int 0, .int 0, .int 0, .int 0, .int 0, .null, .null, .null, .null, .null]))] sz) ([(u 0, .inr (0, [.int 0, .int 0, .int 0, .int 0, .int 0, .int 0, .ref (u 1), .ref (u 2), .ref (u 3), .ref (u 6), .ref (u 9)])), (u 1, .inl (cy 0, 2, .inl (fun _ => 0))), (u 2, .inl (cy 0, 2, .inl (fun _ => 0))), (u 3, .inl (cy 5, 2, .inr (.inr (.inr (.inr (fun i => if i < 2 then some (u (4 + i)) else none)))))), (u 4, .inl (cy 0, 5, .inl (fun _ => 0))), (u 5, .inl (cy 0, 5, .inl (fun _ => 0))), (u 6, .inl (cy 5, 2, .inr (.inr (.inr (.inr (fun i => if i < 2 then some (u (7 + i)) else none)))))), (u 7, .inl (cy 0, 24, .inl (fun _ => 0))), (u 8, .inl (cy 0, 24, .inl (fun _ => 0))), (u 9, .inl (cy 4, 5, .inr (.inr (.inr (.inr (fun i => if i < 5 then some (u (10 + i)) else none)))))), (u 10, .inr (6, [.int 0, .int 0, .int 0, .int 0, .int 0])), (u 11, .inr (6, [.int 0, .int 0, .int 0, .int 0, .int 0])), (u 12, .inr (6, [.int 0, .int 0, .int 0, .int 0, .int 0])), (u 13, .inr (6, [.int 0, .int 0, .int 0, .int 0, .int 0])), (u 14, .inr (6, [.int 0, .int 0, .int 0, .int 0, .int 0]))]) t) (va_A [(h0, .inr (0, [.int 0, .int 0, .int 0, .int 0, .int 0, .int 0, .null, .null, .null, .null, .null]))] sz)) 14 96 (va_A [(h0, .inr (0, [.int 0, .int 0, .int 0, .int 0, .int 0, .int 0, .null, .null, .null, .null, .null]))] sz) := by
  refine Met.ofW (cc := cX0_init) (maxL := 2) (ret := none) (by decide) rfl ?_
  intro p e s m args below meth c s₁ B hml hv
  obtain ⟨rfl, hsz, hE, hP, hK, hD0⟩ := hv
  have hx := B.exec
  have hb := B.bytes
  have hr := B.returns
  have hts := atoms_spec (ws := wsX0_init) B.pre
  have hown : s.vm.findClass RX0 = some m.cls := findClass_of_methodNamed B.named
  have hlocks := B.notSynchronized
  have hin : meth.name = "<init>" := (name_of_methodNamed B.named B.method).1
  subst hsz
  have hD := hD0.self (sz := s.heap.size)
  generalize hAe : va_A [(h0, .inr (0, [.int 0, .int 0, .int 0, .int 0, .int 0, .int 0, .null, .null, .null, .null, .null]))] s.heap.size = A at hD ⊢
  have hA : ∀ q : Nat, s.heap.size ≤ q → A q := fun q h => by rw [← hAe]; exact Or.inr h
  have hS : va_S A s.heap s.heap [] := va_S.rf
  have hP : va_P (dC, dI) vwCl [(h0, .inr (0, [.int 0, .int 0, .int 0, .int 0, .int 0, .int 0, .null, .null, .null, .null, .null]))] s.heap := hP
  have hl := lv_entry ([.ref h0]) (n := 2) (Nat.le_of_ble_eq_true rfl)
  rw [lg_entry_eq]
  generalize (lg_sl ([.ref h0]) ++ List.replicate (2 - (lg_sl ([.ref h0])).length) Slot.unset).toArray = ls at hl ⊢
  have hl : lv_has ls 2 [(0, .ref h0)] := hl
  refine lv_aload_n hx hb dX0_init_0 rfl (lv_at hl 0 rfl) ?_
  refine W.objInit hx hb hown (hts (.methodLink RX0 3 objectInit) fwX0_init_1) (hts (.instanceMethod objectInit) fwX0_init_2) (hts (.code objectInit ⟨#[0xb1]⟩ 1 none) fwX0_init_3) rfl (by rw [hml]; exact hl.1) rfl dX0_init_1 (Nat.le_of_ble_eq_true rfl) (Nat.le_of_ble_eq_true rfl) ?_
  refine W.eq (g2 := F0 m 4 ls []) rfl ?_
  refine lv_aload_n hx hb dX0_init_4 rfl (lv_at hl 0 rfl) ?_
  refine lv_iconst (v := 2) hx hb dX0_init_5 (by decide) ?_
  refine yn_i hx hb (hts (.arrayClass .int) fwX0_init_4) hK hP hD hS hA 2 (by decide) (by decide) (by decide) (Nat.le_of_ble_eq_true rfl) (Nat.le_of_ble_eq_true rfl) dX0_init_6 (fun q1 H hP hD hS => ?_)
  obtain ⟨hP, hD⟩ : (fun w : va_W => va_P (dC, dI) vwCl w H ∧ va_D A w) [(h0, .inr (0, [.int 0, .int 0, .int 0, .int 0, .int 0, .int 0, .null, .null, .null, .null, .null])), (q1, .inl (cy 0, 2, .inl (fun _ => 0)))] := ⟨hP, hD⟩
  refine W.widen (k := 1) (n := 2) (by omega) (by omega) ?_
  refine va_putF (D := (dC, dI)) (ci := 0) (v := .ref q1) (ty := .array .int) (C := RX0) (T := TX0) (N := 11) hx hb hts iwX0_init_X0 tyX0 tyX0_ok nmX0 hown hK hP hD hS 0 rfl rfl 6 (by decide) (hts (.fieldLink RX0 9 "QuietStairs$Case" "parties" "[I") fwX0_init_5) (fun _ h9 => h9) rfl hin rfl (by decide +kernel) rfl rfl (Nat.le_of_ble_eq_true rfl) dX0_init_8 (fun H locs hP hD hS => ?_)
  obtain ⟨hP, hD⟩ : (fun w : va_W => va_P (dC, dI) vwCl w H ∧ va_D A w) [(h0, .inr (0, [.int 0, .int 0, .int 0, .int 0, .int 0, .int 0, .ref q1, .null, .null, .null, .null])), (q1, .inl (cy 0, 2, .inl (fun _ => 0)))] := ⟨hP, hD⟩
  refine lv_aload_n hx hb dX0_init_11 rfl (lv_at hl 0 rfl) ?_
  refine lv_iconst (v := 2) hx hb dX0_init_12 (by decide) ?_
  refine yn_i hx hb (hts (.arrayClass .int) fwX0_init_4) hK hP hD hS hA 2 (by decide) (by decide) (by decide) (Nat.le_of_ble_eq_true rfl) (Nat.le_of_ble_eq_true rfl) dX0_init_13 (fun q2 H hP hD hS => ?_)
  obtain ⟨hP, hD⟩ : (fun w : va_W => va_P (dC, dI) vwCl w H ∧ va_D A w) [(h0, .inr (0, [.int 0, .int 0, .int 0, .int 0, .int 0, .int 0, .ref q1, .null, .null, .null, .null])), (q1, .inl (cy 0, 2, .inl (fun _ => 0))), (q2, .inl (cy 0, 2, .inl (fun _ => 0)))] := ⟨hP, hD⟩
  refine W.widen (k := 2) (n := 4) (by omega) (by omega) ?_
  refine va_putF (D := (dC, dI)) (ci := 0) (v := .ref q2) (ty := .array .int) (C := RX0) (T := TX0) (N := 11) hx hb hts iwX0_init_X0 tyX0 tyX0_ok nmX0 hown hK hP hD hS 0 rfl rfl 7 (by decide) (hts (.fieldLink RX0 15 "QuietStairs$Case" "box" "[I") fwX0_init_6) (fun _ h9 => h9) rfl hin rfl (by decide +kernel) rfl rfl (Nat.le_of_ble_eq_true rfl) dX0_init_15 (fun H locs hP hD hS => ?_)
  obtain ⟨hP, hD⟩ : (fun w : va_W => va_P (dC, dI) vwCl w H ∧ va_D A w) [(h0, .inr (0, [.int 0, .int 0, .int 0, .int 0, .int 0, .int 0, .ref q1, .ref q2, .null, .null, .null])), (q1, .inl (cy 0, 2, .inl (fun _ => 0))), (q2, .inl (cy 0, 2, .inl (fun _ => 0)))] := ⟨hP, hD⟩
  refine lv_aload_n hx hb dX0_init_18 rfl (lv_at hl 0 rfl) ?_
  refine lv_iconst (v := 2) hx hb dX0_init_19 (by decide) ?_
  refine lv_iconst (v := 5) hx hb dX0_init_20 (by decide) ?_
  refine yn_m hx hb hown (hts (.classLink RX0 18 "[[I") fwX0_init_7) hE.2.2.2.2.2.2.2.2.2.1 (hts (.arrayClass .int) fwX0_init_4) hK hP hD hS hA 5 (by decide) (by decide) (by decide) (Nat.le_of_ble_eq_true rfl) (Nat.le_of_ble_eq_true rfl) dX0_init_21 (fun q3 H locs hP hD hS => ?_)
  obtain ⟨hP, hD⟩ : (fun w : va_W => va_P (dC, dI) vwCl w H ∧ va_D A w) [(h0, .inr (0, [.int 0, .int 0, .int 0, .int 0, .int 0, .int 0, .ref q1, .ref q2, .null, .null, .null])), (q1, .inl (cy 0, 2, .inl (fun _ => 0))), (q2, .inl (cy 0, 2, .inl (fun _ => 0))), (q3, .inl (cy 5, 2, .inr (.inr (.inr (.inr (fun i => if i < 2 then some (q3 + 1 + i) else none)))))), (q3 + 1, .inl (cy 0, 5, .inl (fun _ => 0))), (q3 + 2, .inl (cy 0, 5, .inl (fun _ => 0)))] := ⟨hP, hD⟩
  refine W.widen (k := 5) (n := 16) (by omega) (by omega) ?_
  refine va_putF (D := (dC, dI)) (ci := 0) (v := .ref q3) (ty := .array (.array .int)) (C := RX0) (T := TX0) (N := 11) hx hb hts iwX0_init_X0 tyX0 tyX0_ok nmX0 hown hK hP hD hS 0 rfl rfl 8 (by decide) (hts (.fieldLink RX0 20 "QuietStairs$Case" "offers" "[[I") fwX0_init_8) (fun _ h9 => h9) rfl hin rfl (by decide +kernel) rfl rfl (Nat.le_of_ble_eq_true rfl) dX0_init_25 (fun H locs hP hD hS => ?_)
  obtain ⟨hP, hD⟩ : (fun w : va_W => va_P (dC, dI) vwCl w H ∧ va_D A w) [(h0, .inr (0, [.int 0, .int 0, .int 0, .int 0, .int 0, .int 0, .ref q1, .ref q2, .ref q3, .null, .null])), (q1, .inl (cy 0, 2, .inl (fun _ => 0))), (q2, .inl (cy 0, 2, .inl (fun _ => 0))), (q3, .inl (cy 5, 2, .inr (.inr (.inr (.inr (fun i => if i < 2 then some (q3 + 1 + i) else none)))))), (q3 + 1, .inl (cy 0, 5, .inl (fun _ => 0))), (q3 + 2, .inl (cy 0, 5, .inl (fun _ => 0)))] := ⟨hP, hD⟩
  refine lv_aload_n hx hb dX0_init_28 rfl (lv_at hl 0 rfl) ?_
  refine lv_iconst (v := 2) hx hb dX0_init_29 (by decide) ?_
  refine lv_bipush (v := 24) hx hb dX0_init_30 (by decide) ?_
  refine yn_m hx hb hown (hts (.classLink RX0 18 "[[I") fwX0_init_7) hE.2.2.2.2.2.2.2.2.2.1 (hts (.arrayClass .int) fwX0_init_4) hK hP hD hS hA 24 (by decide) (by decide) (by decide) (Nat.le_of_ble_eq_true rfl) (Nat.le_of_ble_eq_true rfl) dX0_init_32 (fun q4 H locs hP hD hS => ?_)
  obtain ⟨hP, hD⟩ : (fun w : va_W => va_P (dC, dI) vwCl w H ∧ va_D A w) [(h0, .inr (0, [.int 0, .int 0, .int 0, .int 0, .int 0, .int 0, .ref q1, .ref q2, .ref q3, .null, .null])), (q1, .inl (cy 0, 2, .inl (fun _ => 0))), (q2, .inl (cy 0, 2, .inl (fun _ => 0))), (q3, .inl (cy 5, 2, .inr (.inr (.inr (.inr (fun i => if i < 2 then some (q3 + 1 + i) else none)))))), (q3 + 1, .inl (cy 0, 5, .inl (fun _ => 0))), (q3 + 2, .inl (cy 0, 5, .inl (fun _ => 0))), (q4, .inl (cy 5, 2, .inr (.inr (.inr (.inr (fun i => if i < 2 then some (q4 + 1 + i) else none)))))), (q4 + 1, .inl (cy 0, 24, .inl (fun _ => 0))), (q4 + 2, .inl (cy 0, 24, .inl (fun _ => 0)))] := ⟨hP, hD⟩
  refine W.widen (k := 8) (n := 66) (by omega) (by omega) ?_
  refine va_putF (D := (dC, dI)) (ci := 0) (v := .ref q4) (ty := .array (.array .int)) (C := RX0) (T := TX0) (N := 11) hx hb hts iwX0_init_X0 tyX0 tyX0_ok nmX0 hown hK hP hD hS 0 rfl rfl 9 (by decide) (hts (.fieldLink RX0 23 "QuietStairs$Case" "logs" "[[I") fwX0_init_9) (fun _ h9 => h9) rfl hin rfl (by decide +kernel) rfl rfl (Nat.le_of_ble_eq_true rfl) dX0_init_36 (fun H locs hP hD hS => ?_)
  obtain ⟨hP, hD⟩ : (fun w : va_W => va_P (dC, dI) vwCl w H ∧ va_D A w) [(h0, .inr (0, [.int 0, .int 0, .int 0, .int 0, .int 0, .int 0, .ref q1, .ref q2, .ref q3, .ref q4, .null])), (q1, .inl (cy 0, 2, .inl (fun _ => 0))), (q2, .inl (cy 0, 2, .inl (fun _ => 0))), (q3, .inl (cy 5, 2, .inr (.inr (.inr (.inr (fun i => if i < 2 then some (q3 + 1 + i) else none)))))), (q3 + 1, .inl (cy 0, 5, .inl (fun _ => 0))), (q3 + 2, .inl (cy 0, 5, .inl (fun _ => 0))), (q4, .inl (cy 5, 2, .inr (.inr (.inr (.inr (fun i => if i < 2 then some (q4 + 1 + i) else none)))))), (q4 + 1, .inl (cy 0, 24, .inl (fun _ => 0))), (q4 + 2, .inl (cy 0, 24, .inl (fun _ => 0)))] := ⟨hP, hD⟩
  refine lv_aload_n hx hb dX0_init_39 rfl (lv_at hl 0 rfl) ?_
  refine lv_iconst (v := 5) hx hb dX0_init_40 (by decide) ?_
  refine yn_q hx hb hown (hts (.classLink RX0 26 RX6) fwX0_init_10) hE.2.2.2.2.2.2.2.2.1 hK hP hD hS hA 5 4 rfl (by decide) (by decide) (by decide) (Nat.le_of_ble_eq_true rfl) (Nat.le_of_ble_eq_true rfl) dX0_init_41 (fun q5 H hP hD hS => ?_)
  obtain ⟨hP, hD⟩ : (fun w : va_W => va_P (dC, dI) vwCl w H ∧ va_D A w) [(h0, .inr (0, [.int 0, .int 0, .int 0, .int 0, .int 0, .int 0, .ref q1, .ref q2, .ref q3, .ref q4, .null])), (q1, .inl (cy 0, 2, .inl (fun _ => 0))), (q2, .inl (cy 0, 2, .inl (fun _ => 0))), (q3, .inl (cy 5, 2, .inr (.inr (.inr (.inr (fun i => if i < 2 then some (q3 + 1 + i) else none)))))), (q3 + 1, .inl (cy 0, 5, .inl (fun _ => 0))), (q3 + 2, .inl (cy 0, 5, .inl (fun _ => 0))), (q4, .inl (cy 5, 2, .inr (.inr (.inr (.inr (fun i => if i < 2 then some (q4 + 1 + i) else none)))))), (q4 + 1, .inl (cy 0, 24, .inl (fun _ => 0))), (q4 + 2, .inl (cy 0, 24, .inl (fun _ => 0))), (q5, .inl (cy 4, 5, .inr (.inr (.inr (.inr (fun _ => none))))))] := ⟨hP, hD⟩
  refine W.widen (k := 9) (n := 71) (by omega) (by omega) ?_
  refine va_putF (D := (dC, dI)) (ci := 0) (v := .ref q5) (ty := .array (.object "QuietStairs$Term")) (C := RX0) (T := TX0) (N := 11) hx hb hts iwX0_init_X0 tyX0 tyX0_ok nmX0 hown hK hP hD hS 0 rfl rfl 10 (by decide) (hts (.fieldLink RX0 28 "QuietStairs$Case" "terms" "[LQuietStairs$Term;") fwX0_init_11) (fun _ h9 => h9) rfl hin rfl (by decide +kernel) rfl rfl (Nat.le_of_ble_eq_true rfl) dX0_init_44 (fun H locs hP hD hS => ?_)
  obtain ⟨hP, hD⟩ : (fun w : va_W => va_P (dC, dI) vwCl w H ∧ va_D A w) [(h0, .inr (0, [.int 0, .int 0, .int 0, .int 0, .int 0, .int 0, .ref q1, .ref q2, .ref q3, .ref q4, .ref q5])), (q1, .inl (cy 0, 2, .inl (fun _ => 0))), (q2, .inl (cy 0, 2, .inl (fun _ => 0))), (q3, .inl (cy 5, 2, .inr (.inr (.inr (.inr (fun i => if i < 2 then some (q3 + 1 + i) else none)))))), (q3 + 1, .inl (cy 0, 5, .inl (fun _ => 0))), (q3 + 2, .inl (cy 0, 5, .inl (fun _ => 0))), (q4, .inl (cy 5, 2, .inr (.inr (.inr (.inr (fun i => if i < 2 then some (q4 + 1 + i) else none)))))), (q4 + 1, .inl (cy 0, 24, .inl (fun _ => 0))), (q4 + 2, .inl (cy 0, 24, .inl (fun _ => 0))), (q5, .inl (cy 4, 5, .inr (.inr (.inr (.inr (fun _ => none))))))] := ⟨hP, hD⟩
  refine lv_iconst (v := 0) hx hb dX0_init_47 (by decide) ?_
  refine lv_istore_n (lv' := [(1, .int 0), (0, .ref h0)]) hx hb dX0_init_48 rfl hl (by decide) rfl (fun ls hl => ?_)
  refine lv_iload_n hx hb dX0_init_49 rfl (lv_at hl 0 rfl) ?_
  refine lv_iconst (v := 5) hx hb dX0_init_50 (by decide) ?_
  refine lv_icmp_ge (tgt := 73) hx hb dX0_init_51 (by decide) (fun c9 => absurd c9 (by decide)) (fun _ => ?_)
  refine lv_aload_n hx hb dX0_init_54 rfl (lv_at hl 1 rfl) ?_
  refine va_get (D := (dC, dI)) (ci := 0) (v := .ref q5) (C := RX0) (T := TX0) (N := 11) hx hb hts iwX0_init_X0 hown hK hP 0 rfl rfl 10 (by decide) (hts (.fieldLink RX0 28 "QuietStairs$Case" "terms" "[LQuietStairs$Term;") fwX0_init_11) (fun _ h9 => h9) rfl dX0_init_55 ?_
  refine lv_iload_n hx hb dX0_init_58 rfl (lv_at hl 0 rfl) ?_
  refine va_new (ci := 6) (fs := [.int 0, .int 0, .int 0, .int 0, .int 0]) (C := RX6) (T := TX6) (N := 5) hx hb hts iwX0_init_X6 tyX6 tyX6_ok hown (hts (.classLink RX0 26 RX6) fwX0_init_10) (hts (.instantiable RX6 5) fwX0_init_12) (hts (.initialized RX6) fwX0_init_13) hK hP hD hS hA rfl (fun j hj => by rcases (show j = 0 ∨ j = 1 ∨ j = 2 ∨ j = 3 ∨ j = 4 by omega) with rfl | rfl | rfl | rfl | rfl <;> rfl) (Nat.le_of_ble_eq_true rfl) (Nat.le_of_ble_eq_true rfl) dX0_init_59 (fun q6 H hP hD hS => ?_)
  obtain ⟨hP, hD⟩ : (fun w : va_W => va_P (dC, dI) vwCl w H ∧ va_D A w) [(h0, .inr (0, [.int 0, .int 0, .int 0, .int 0, .int 0, .int 0, .ref q1, .ref q2, .ref q3, .ref q4, .ref q5])), (q1, .inl (cy 0, 2, .inl (fun _ => 0))), (q2, .inl (cy 0, 2, .inl (fun _ => 0))), (q3, .inl (cy 5, 2, .inr (.inr (.inr (.inr (fun i => if i < 2 then some (q3 + 1 + i) else none)))))), (q3 + 1, .inl (cy 0, 5, .inl (fun _ => 0))), (q3 + 2, .inl (cy 0, 5, .inl (fun _ => 0))), (q4, .inl (cy 5, 2, .inr (.inr (.inr (.inr (fun i => if i < 2 then some (q4 + 1 + i) else none)))))), (q4 + 1, .inl (cy 0, 24, .inl (fun _ => 0))), (q4 + 2, .inl (cy 0, 24, .inl (fun _ => 0))), (q5, .inl (cy 4, 5, .inr (.inr (.inr (.inr (fun _ => none)))))), (q6, .inr (6, [.int 0, .int 0, .int 0, .int 0, .int 0]))] := ⟨hP, hD⟩
  refine W.widen (k := 10) (n := 76) (by omega) (by omega) ?_
  refine lv_dup hx hb dX0_init_62 rfl ?_
  refine yc_v (wc := [(q6, .inr (6, [.int 0, .int 0, .int 0, .int 0, .int 0]))]) (wr := [(h0, .inr (0, [.int 0, .int 0, .int 0, .int 0, .int 0, .int 0, .ref q1, .ref q2, .ref q3, .ref q4, .ref q5])), (q1, .inl (cy 0, 2, .inl (fun _ => 0))), (q2, .inl (cy 0, 2, .inl (fun _ => 0))), (q3, .inl (cy 5, 2, .inr (.inr (.inr (.inr (fun i => if i < 2 then some (q3 + 1 + i) else none)))))), (q3 + 1, .inl (cy 0, 5, .inl (fun _ => 0))), (q3 + 2, .inl (cy 0, 5, .inl (fun _ => 0))), (q4, .inl (cy 5, 2, .inr (.inr (.inr (.inr (fun i => if i < 2 then some (q4 + 1 + i) else none)))))), (q4 + 1, .inl (cy 0, 24, .inl (fun _ => 0))), (q4 + 2, .inl (cy 0, 24, .inl (fun _ => 0))), (q5, .inl (cy 4, 5, .inr (.inr (.inr (.inr (fun _ => none))))))]) (w1 := fun _ => [(q6, .inr (6, [.int 0, .int 0, .int 0, .int 0, .int 0]))]) hP hD hS hA [10] [0, 1, 2, 3, 4, 5, 6, 7, 8, 9] rfl rfl (by decide) (by decide) (va_runIN (As := []) (rest := [.ref q6, .int 0, .ref q5]) ⟨hx, hb, hml, hown, hts⟩ (c_X6_init l dC dI cy _ q6) ⟨va_cnB 0 hts gX0_init_X6_init_n32 rfl rfl rfl hE.2.2.1 (hts (.initialized RX6) fwX0_init_13) (by decide +kernel) ⟨Nat.le_of_ble_eq_true rfl, Nat.le_of_ble_eq_true rfl⟩, rfl, (hts (.instanceMethod yX6_init) fwX0_init_14)⟩ (ex_preS hE hK hP hD [10] (by decide) rfl) rfl rfl hl.1 rfl (lv_room (Nat.le_of_ble_eq_true rfl)) dX0_init_63 ⟨Nat.le_of_ble_eq_true rfl, Nat.le_of_ble_eq_true rfl⟩) (fun u_1 H locs hw_1 hP hD hS => ?_)
  obtain ⟨hP, hD⟩ : (fun w : va_W => va_P (dC, dI) vwCl w H ∧ va_D A w) [(h0, .inr (0, [.int 0, .int 0, .int 0, .int 0, .int 0, .int 0, .ref q1, .ref q2, .ref q3, .ref q4, .ref q5])), (q1, .inl (cy 0, 2, .inl (fun _ => 0))), (q2, .inl (cy 0, 2, .inl (fun _ => 0))), (q3, .inl (cy 5, 2, .inr (.inr (.inr (.inr (fun i => if i < 2 then some (q3 + 1 + i) else none)))))), (q3 + 1, .inl (cy 0, 5, .inl (fun _ => 0))), (q3 + 2, .inl (cy 0, 5, .inl (fun _ => 0))), (q4, .inl (cy 5, 2, .inr (.inr (.inr (.inr (fun i => if i < 2 then some (q4 + 1 + i) else none)))))), (q4 + 1, .inl (cy 0, 24, .inl (fun _ => 0))), (q4 + 2, .inl (cy 0, 24, .inl (fun _ => 0))), (q5, .inl (cy 4, 5, .inr (.inr (.inr (.inr (fun _ => none)))))), (q6, .inr (6, [.int 0, .int 0, .int 0, .int 0, .int 0]))] := ⟨hP, hD⟩
  refine va_astq hx hb hK hP hD hS 9 4 10 6 rfl rfl rfl rfl (by unfold vp_in; decide) dX0_init_66 (fun H locs hP hD hS => ?_)
  obtain ⟨f_2, ef_2⟩ : ∃ f9 : Nat → Option Nat, f9 = va_up (fun _ => none) (0 : Int32).toNatClampNeg (some q6) := ⟨_, rfl⟩
  rw [← ef_2] at hP hD
  obtain ⟨hP, hD⟩ : (fun w : va_W => va_P (dC, dI) vwCl w H ∧ va_D A w) [(h0, .inr (0, [.int 0, .int 0, .int 0, .int 0, .int 0, .int 0, .ref q1, .ref q2, .ref q3, .ref q4, .ref q5])), (q1, .inl (cy 0, 2, .inl (fun _ => 0))), (q2, .inl (cy 0, 2, .inl (fun _ => 0))), (q3, .inl (cy 5, 2, .inr (.inr (.inr (.inr (fun i => if i < 2 then some (q3 + 1 + i) else none)))))), (q3 + 1, .inl (cy 0, 5, .inl (fun _ => 0))), (q3 + 2, .inl (cy 0, 5, .inl (fun _ => 0))), (q4, .inl (cy 5, 2, .inr (.inr (.inr (.inr (fun i => if i < 2 then some (q4 + 1 + i) else none)))))), (q4 + 1, .inl (cy 0, 24, .inl (fun _ => 0))), (q4 + 2, .inl (cy 0, 24, .inl (fun _ => 0))), (q5, .inl (cy 4, 5, .inr (.inr (.inr (.inr f_2))))), (q6, .inr (6, [.int 0, .int 0, .int 0, .int 0, .int 0]))] := ⟨hP, hD⟩
  refine lv_iinc (v := 1) (lv' := [(1, .int 1), (0, .ref h0)]) hx hb dX0_init_67 hl (k := 0) rfl (by decide) (by decide) rfl (fun ls hl => ?_)
  refine lv_goto (tgt := 49) hx hb dX0_init_70 (by decide) ?_
  refine lv_iload_n hx hb dX0_init_49 rfl (lv_at hl 0 rfl) ?_
  refine lv_iconst (v := 5) hx hb dX0_init_50 (by decide) ?_
  refine lv_icmp_ge (tgt := 73) hx hb dX0_init_51 (by decide) (fun c9 => absurd c9 (by decide)) (fun _ => ?_)
  refine lv_aload_n hx hb dX0_init_54 rfl (lv_at hl 1 rfl) ?_
  refine va_get (D := (dC, dI)) (ci := 0) (v := .ref q5) (C := RX0) (T := TX0) (N := 11) hx hb hts iwX0_init_X0 hown hK hP 0 rfl rfl 10 (by decide) (hts (.fieldLink RX0 28 "QuietStairs$Case" "terms" "[LQuietStairs$Term;") fwX0_init_11) (fun _ h9 => h9) rfl dX0_init_55 ?_
  refine lv_iload_n hx hb dX0_init_58 rfl (lv_at hl 0 rfl) ?_
  refine va_new (ci := 6) (fs := [.int 0, .int 0, .int 0, .int 0, .int 0]) (C := RX6) (T := TX6) (N := 5) hx hb hts iwX0_init_X6 tyX6 tyX6_ok hown (hts (.classLink RX0 26 RX6) fwX0_init_10) (hts (.instantiable RX6 5) fwX0_init_12) (hts (.initialized RX6) fwX0_init_13) hK hP hD hS hA rfl (fun j hj => by rcases (show j = 0 ∨ j = 1 ∨ j = 2 ∨ j = 3 ∨ j = 4 by omega) with rfl | rfl | rfl | rfl | rfl <;> rfl) (Nat.le_of_ble_eq_true rfl) (Nat.le_of_ble_eq_true rfl) dX0_init_59 (fun q8 H hP hD hS => ?_)
  obtain ⟨hP, hD⟩ : (fun w : va_W => va_P (dC, dI) vwCl w H ∧ va_D A w) [(h0, .inr (0, [.int 0, .int 0, .int 0, .int 0, .int 0, .int 0, .ref q1, .ref q2, .ref q3, .ref q4, .ref q5])), (q1, .inl (cy 0, 2, .inl (fun _ => 0))), (q2, .inl (cy 0, 2, .inl (fun _ => 0))), (q3, .inl (cy 5, 2, .inr (.inr (.inr (.inr (fun i => if i < 2 then some (q3 + 1 + i) else none)))))), (q3 + 1, .inl (cy 0, 5, .inl (fun _ => 0))), (q3 + 2, .inl (cy 0, 5, .inl (fun _ => 0))), (q4, .inl (cy 5, 2, .inr (.inr (.inr (.inr (fun i => if i < 2 then some (q4 + 1 + i) else none)))))), (q4 + 1, .inl (cy 0, 24, .inl (fun _ => 0))), (q4 + 2, .inl (cy 0, 24, .inl (fun _ => 0))), (q5, .inl (cy 4, 5, .inr (.inr (.inr (.inr f_2))))), (q6, .inr (6, [.int 0, .int 0, .int 0, .int 0, .int 0])), (q8, .inr (6, [.int 0, .int 0, .int 0, .int 0, .int 0]))] := ⟨hP, hD⟩
  refine W.widen (k := 11) (n := 81) (by omega) (by omega) ?_
  refine lv_dup hx hb dX0_init_62 rfl ?_
  refine yc_v (wc := [(q8, .inr (6, [.int 0, .int 0, .int 0, .int 0, .int 0]))]) (wr := [(h0, .inr (0, [.int 0, .int 0, .int 0, .int 0, .int 0, .int 0, .ref q1, .ref q2, .ref q3, .ref q4, .ref q5])), (q1, .inl (cy 0, 2, .inl (fun _ => 0))), (q2, .inl (cy 0, 2, .inl (fun _ => 0))), (q3, .inl (cy 5, 2, .inr (.inr (.inr (.inr (fun i => if i < 2 then some (q3 + 1 + i) else none)))))), (q3 + 1, .inl (cy 0, 5, .inl (fun _ => 0))), (q3 + 2, .inl (cy 0, 5, .inl (fun _ => 0))), (q4, .inl (cy 5, 2, .inr (.inr (.inr (.inr (fun i => if i < 2 then some (q4 + 1 + i) else none)))))), (q4 + 1, .inl (cy 0, 24, .inl (fun _ => 0))), (q4 + 2, .inl (cy 0, 24, .inl (fun _ => 0))), (q5, .inl (cy 4, 5, .inr (.inr (.inr (.inr f_2))))), (q6, .inr (6, [.int 0, .int 0, .int 0, .int 0, .int 0]))]) (w1 := fun _ => [(q8, .inr (6, [.int 0, .int 0, .int 0, .int 0, .int 0]))]) hP hD hS hA [11] [0, 1, 2, 3, 4, 5, 6, 7, 8, 9, 10] rfl rfl (by decide) (by decide) (va_runIN (As := []) (rest := [.ref q8, .int 1, .ref q5]) ⟨hx, hb, hml, hown, hts⟩ (c_X6_init l dC dI cy _ q8) ⟨va_cnB 0 hts gX0_init_X6_init_n32 rfl rfl rfl hE.2.2.1 (hts (.initialized RX6) fwX0_init_13) (by decide +kernel) ⟨Nat.le_of_ble_eq_true rfl, Nat.le_of_ble_eq_true rfl⟩, rfl, (hts (.instanceMethod yX6_init) fwX0_init_14)⟩ (ex_preS hE hK hP hD [11] (by decide) rfl) rfl rfl hl.1 rfl (lv_room (Nat.le_of_ble_eq_true rfl)) dX0_init_63 ⟨Nat.le_of_ble_eq_true rfl, Nat.le_of_ble_eq_true rfl⟩) (fun u_3 H locs hw_3 hP hD hS => ?_)
  obtain ⟨hP, hD⟩ : (fun w : va_W => va_P (dC, dI) vwCl w H ∧ va_D A w) [(h0, .inr (0, [.int 0, .int 0, .int 0, .int 0, .int 0, .int 0, .ref q1, .ref q2, .ref q3, .ref q4, .ref q5])), (q1, .inl (cy 0, 2, .inl (fun _ => 0))), (q2, .inl (cy 0, 2, .inl (fun _ => 0))), (q3, .inl (cy 5, 2, .inr (.inr (.inr (.inr (fun i => if i < 2 then some (q3 + 1 + i) else none)))))), (q3 + 1, .inl (cy 0, 5, .inl (fun _ => 0))), (q3 + 2, .inl (cy 0, 5, .inl (fun _ => 0))), (q4, .inl (cy 5, 2, .inr (.inr (.inr (.inr (fun i => if i < 2 then some (q4 + 1 + i) else none)))))), (q4 + 1, .inl (cy 0, 24, .inl (fun _ => 0))), (q4 + 2, .inl (cy 0, 24, .inl (fun _ => 0))), (q5, .inl (cy 4, 5, .inr (.inr (.inr (.inr f_2))))), (q6, .inr (6, [.int 0, .int 0, .int 0, .int 0, .int 0])), (q8, .inr (6, [.int 0, .int 0, .int 0, .int 0, .int 0]))] := ⟨hP, hD⟩
  refine va_astq hx hb hK hP hD hS 9 4 11 6 rfl rfl rfl rfl (by unfold vp_in; decide) dX0_init_66 (fun H locs hP hD hS => ?_)
  obtain ⟨f_4, ef_4⟩ : ∃ f9 : Nat → Option Nat, f9 = va_up f_2 (1 : Int32).toNatClampNeg (some q8) := ⟨_, rfl⟩
  rw [← ef_4] at hP hD
  obtain ⟨hP, hD⟩ : (fun w : va_W => va_P (dC, dI) vwCl w H ∧ va_D A w) [(h0, .inr (0, [.int 0, .int 0, .int 0, .int 0, .int 0, .int 0, .ref q1, .ref q2, .ref q3, .ref q4, .ref q5])), (q1, .inl (cy 0, 2, .inl (fun _ => 0))), (q2, .inl (cy 0, 2, .inl (fun _ => 0))), (q3, .inl (cy 5, 2, .inr (.inr (.inr (.inr (fun i => if i < 2 then some (q3 + 1 + i) else none)))))), (q3 + 1, .inl (cy 0, 5, .inl (fun _ => 0))), (q3 + 2, .inl (cy 0, 5, .inl (fun _ => 0))), (q4, .inl (cy 5, 2, .inr (.inr (.inr (.inr (fun i => if i < 2 then some (q4 + 1 + i) else none)))))), (q4 + 1, .inl (cy 0, 24, .inl (fun _ => 0))), (q4 + 2, .inl (cy 0, 24, .inl (fun _ => 0))), (q5, .inl (cy 4, 5, .inr (.inr (.inr (.inr f_4))))), (q6, .inr (6, [.int 0, .int 0, .int 0, .int 0, .int 0])), (q8, .inr (6, [.int 0, .int 0, .int 0, .int 0, .int 0]))] := ⟨hP, hD⟩
  refine lv_iinc (v := 2) (lv' := [(1, .int 2), (0, .ref h0)]) hx hb dX0_init_67 hl (k := 0) rfl (by decide) (by decide) rfl (fun ls hl => ?_)
  refine lv_goto (tgt := 49) hx hb dX0_init_70 (by decide) ?_
  refine lv_iload_n hx hb dX0_init_49 rfl (lv_at hl 0 rfl) ?_
  refine lv_iconst (v := 5) hx hb dX0_init_50 (by decide) ?_
  refine lv_icmp_ge (tgt := 73) hx hb dX0_init_51 (by decide) (fun c9 => absurd c9 (by decide)) (fun _ => ?_)
  refine lv_aload_n hx hb dX0_init_54 rfl (lv_at hl 1 rfl) ?_
  refine va_get (D := (dC, dI)) (ci := 0) (v := .ref q5) (C := RX0) (T := TX0) (N := 11) hx hb hts iwX0_init_X0 hown hK hP 0 rfl rfl 10 (by decide) (hts (.fieldLink RX0 28 "QuietStairs$Case" "terms" "[LQuietStairs$Term;") fwX0_init_11) (fun _ h9 => h9) rfl dX0_init_55 ?_
  refine lv_iload_n hx hb dX0_init_58 rfl (lv_at hl 0 rfl) ?_
  refine va_new (ci := 6) (fs := [.int 0, .int 0, .int 0, .int 0, .int 0]) (C := RX6) (T := TX6) (N := 5) hx hb hts iwX0_init_X6 tyX6 tyX6_ok hown (hts (.classLink RX0 26 RX6) fwX0_init_10) (hts (.instantiable RX6 5) fwX0_init_12) (hts (.initialized RX6) fwX0_init_13) hK hP hD hS hA rfl (fun j hj => by rcases (show j = 0 ∨ j = 1 ∨ j = 2 ∨ j = 3 ∨ j = 4 by omega) with rfl | rfl | rfl | rfl | rfl <;> rfl) (Nat.le_of_ble_eq_true rfl) (Nat.le_of_ble_eq_true rfl) dX0_init_59 (fun q10 H hP hD hS => ?_)
  obtain ⟨hP, hD⟩ : (fun w : va_W => va_P (dC, dI) vwCl w H ∧ va_D A w) [(h0, .inr (0, [.int 0, .int 0, .int 0, .int 0, .int 0, .int 0, .ref q1, .ref q2, .ref q3, .ref q4, .ref q5])), (q1, .inl (cy 0, 2, .inl (fun _ => 0))), (q2, .inl (cy 0, 2, .inl (fun _ => 0))), (q3, .inl (cy 5, 2, .inr (.inr (.inr (.inr (fun i => if i < 2 then some (q3 + 1 + i) else none)))))), (q3 + 1, .inl (cy 0, 5, .inl (fun _ => 0))), (q3 + 2, .inl (cy 0, 5, .inl (fun _ => 0))), (q4, .inl (cy 5, 2, .inr (.inr (.inr (.inr (fun i => if i < 2 then some (q4 + 1 + i) else none)))))), (q4 + 1, .inl (cy 0, 24, .inl (fun _ => 0))), (q4 + 2, .inl (cy 0, 24, .inl (fun _ => 0))), (q5, .inl (cy 4, 5, .inr (.inr (.inr (.inr f_4))))), (q6, .inr (6, [.int 0, .int 0, .int 0, .int 0, .int 0])), (q8, .inr (6, [.int 0, .int 0, .int 0, .int 0, .int 0])), (q10, .inr (6, [.int 0, .int 0, .int 0, .int 0, .int 0]))] := ⟨hP, hD⟩
  refine W.widen (k := 12) (n := 86) (by omega) (by omega) ?_
  refine lv_dup hx hb dX0_init_62 rfl ?_
  refine yc_v (wc := [(q10, .inr (6, [.int 0, .int 0, .int 0, .int 0, .int 0]))]) (wr := [(h0, .inr (0, [.int 0, .int 0, .int 0, .int 0, .int 0, .int 0, .ref q1, .ref q2, .ref q3, .ref q4, .ref q5])), (q1, .inl (cy 0, 2, .inl (fun _ => 0))), (q2, .inl (cy 0, 2, .inl (fun _ => 0))), (q3, .inl (cy 5, 2, .inr (.inr (.inr (.inr (fun i => if i < 2 then some (q3 + 1 + i) else none)))))), (q3 + 1, .inl (cy 0, 5, .inl (fun _ => 0))), (q3 + 2, .inl (cy 0, 5, .inl (fun _ => 0))), (q4, .inl (cy 5, 2, .inr (.inr (.inr (.inr (fun i => if i < 2 then some (q4 + 1 + i) else none)))))), (q4 + 1, .inl (cy 0, 24, .inl (fun _ => 0))), (q4 + 2, .inl (cy 0, 24, .inl (fun _ => 0))), (q5, .inl (cy 4, 5, .inr (.inr (.inr (.inr f_4))))), (q6, .inr (6, [.int 0, .int 0, .int 0, .int 0, .int 0])), (q8, .inr (6, [.int 0, .int 0, .int 0, .int 0, .int 0]))]) (w1 := fun _ => [(q10, .inr (6, [.int 0, .int 0, .int 0, .int 0, .int 0]))]) hP hD hS hA [12] [0, 1, 2, 3, 4, 5, 6, 7, 8, 9, 10, 11] rfl rfl (by decide) (by decide) (va_runIN (As := []) (rest := [.ref q10, .int 2, .ref q5]) ⟨hx, hb, hml, hown, hts⟩ (c_X6_init l dC dI cy _ q10) ⟨va_cnB 0 hts gX0_init_X6_init_n32 rfl rfl rfl hE.2.2.1 (hts (.initialized RX6) fwX0_init_13) (by decide +kernel) ⟨Nat.le_of_ble_eq_true rfl, Nat.le_of_ble_eq_true rfl⟩, rfl, (hts (.instanceMethod yX6_init) fwX0_init_14)⟩ (ex_preS hE hK hP hD [12] (by decide) rfl) rfl rfl hl.1 rfl (lv_room (Nat.le_of_ble_eq_true rfl)) dX0_init_63 ⟨Nat.le_of_ble_eq_true rfl, Nat.le_of_ble_eq_true rfl⟩) (fun u_5 H locs hw_5 hP hD hS => ?_)
  obtain ⟨hP, hD⟩ : (fun w : va_W => va_P (dC, dI) vwCl w H ∧ va_D A w) [(h0, .inr (0, [.int 0, .int 0, .int 0, .int 0, .int 0, .int 0, .ref q1, .ref q2, .ref q3, .ref q4, .ref q5])), (q1, .inl (cy 0, 2, .inl (fun _ => 0))), (q2, .inl (cy 0, 2, .inl (fun _ => 0))), (q3, .inl (cy 5, 2, .inr (.inr (.inr (.inr (fun i => if i < 2 then some (q3 + 1 + i) else none)))))), (q3 + 1, .inl (cy 0, 5, .inl (fun _ => 0))), (q3 + 2, .inl (cy 0, 5, .inl (fun _ => 0))), (q4, .inl (cy 5, 2, .inr (.inr (.inr (.inr (fun i => if i < 2 then some (q4 + 1 + i) else none)))))), (q4 + 1, .inl (cy 0, 24, .inl (fun _ => 0))), (q4 + 2, .inl (cy 0, 24, .inl (fun _ => 0))), (q5, .inl (cy 4, 5, .inr (.inr (.inr (.inr f_4))))), (q6, .inr (6, [.int 0, .int 0, .int 0, .int 0, .int 0])), (q8, .inr (6, [.int 0, .int 0, .int 0, .int 0, .int 0])), (q10, .inr (6, [.int 0, .int 0, .int 0, .int 0, .int 0]))] := ⟨hP, hD⟩
  refine va_astq hx hb hK hP hD hS 9 4 12 6 rfl rfl rfl rfl (by unfold vp_in; decide) dX0_init_66 (fun H locs hP hD hS => ?_)
  obtain ⟨f_6, ef_6⟩ : ∃ f9 : Nat → Option Nat, f9 = va_up f_4 (2 : Int32).toNatClampNeg (some q10) := ⟨_, rfl⟩
  rw [← ef_6] at hP hD
  obtain ⟨hP, hD⟩ : (fun w : va_W => va_P (dC, dI) vwCl w H ∧ va_D A w) [(h0, .inr (0, [.int 0, .int 0, .int 0, .int 0, .int 0, .int 0, .ref q1, .ref q2, .ref q3, .ref q4, .ref q5])), (q1, .inl (cy 0, 2, .inl (fun _ => 0))), (q2, .inl (cy 0, 2, .inl (fun _ => 0))), (q3, .inl (cy 5, 2, .inr (.inr (.inr (.inr (fun i => if i < 2 then some (q3 + 1 + i) else none)))))), (q3 + 1, .inl (cy 0, 5, .inl (fun _ => 0))), (q3 + 2, .inl (cy 0, 5, .inl (fun _ => 0))), (q4, .inl (cy 5, 2, .inr (.inr (.inr (.inr (fun i => if i < 2 then some (q4 + 1 + i) else none)))))), (q4 + 1, .inl (cy 0, 24, .inl (fun _ => 0))), (q4 + 2, .inl (cy 0, 24, .inl (fun _ => 0))), (q5, .inl (cy 4, 5, .inr (.inr (.inr (.inr f_6))))), (q6, .inr (6, [.int 0, .int 0, .int 0, .int 0, .int 0])), (q8, .inr (6, [.int 0, .int 0, .int 0, .int 0, .int 0])), (q10, .inr (6, [.int 0, .int 0, .int 0, .int 0, .int 0]))] := ⟨hP, hD⟩
  refine lv_iinc (v := 3) (lv' := [(1, .int 3), (0, .ref h0)]) hx hb dX0_init_67 hl (k := 0) rfl (by decide) (by decide) rfl (fun ls hl => ?_)
  refine lv_goto (tgt := 49) hx hb dX0_init_70 (by decide) ?_
  refine lv_iload_n hx hb dX0_init_49 rfl (lv_at hl 0 rfl) ?_
  refine lv_iconst (v := 5) hx hb dX0_init_50 (by decide) ?_
  refine lv_icmp_ge (tgt := 73) hx hb dX0_init_51 (by decide) (fun c9 => absurd c9 (by decide)) (fun _ => ?_)
  refine lv_aload_n hx hb dX0_init_54 rfl (lv_at hl 1 rfl) ?_
  refine va_get (D := (dC, dI)) (ci := 0) (v := .ref q5) (C := RX0) (T := TX0) (N := 11) hx hb hts iwX0_init_X0 hown hK hP 0 rfl rfl 10 (by decide) (hts (.fieldLink RX0 28 "QuietStairs$Case" "terms" "[LQuietStairs$Term;") fwX0_init_11) (fun _ h9 => h9) rfl dX0_init_55 ?_
  refine lv_iload_n hx hb dX0_init_58 rfl (lv_at hl 0 rfl) ?_
  refine va_new (ci := 6) (fs := [.int 0, .int 0, .int 0, .int 0, .int 0]) (C := RX6) (T := TX6) (N := 5) hx hb hts iwX0_init_X6 tyX6 tyX6_ok hown (hts (.classLink RX0 26 RX6) fwX0_init_10) (hts (.instantiable RX6 5) fwX0_init_12) (hts (.initialized RX6) fwX0_init_13) hK hP hD hS hA rfl (fun j hj => by rcases (show j = 0 ∨ j = 1 ∨ j = 2 ∨ j = 3 ∨ j = 4 by omega) with rfl | rfl | rfl | rfl | rfl <;> rfl) (Nat.le_of_ble_eq_true rfl) (Nat.le_of_ble_eq_true rfl) dX0_init_59 (fun q12 H hP hD hS => ?_)
  obtain ⟨hP, hD⟩ : (fun w : va_W => va_P (dC, dI) vwCl w H ∧ va_D A w) [(h0, .inr (0, [.int 0, .int 0, .int 0, .int 0, .int 0, .int 0, .ref q1, .ref q2, .ref q3, .ref q4, .ref q5])), (q1, .inl (cy 0, 2, .inl (fun _ => 0))), (q2, .inl (cy 0, 2, .inl (fun _ => 0))), (q3, .inl (cy 5, 2, .inr (.inr (.inr (.inr (fun i => if i < 2 then some (q3 + 1 + i) else none)))))), (q3 + 1, .inl (cy 0, 5, .inl (fun _ => 0))), (q3 + 2, .inl (cy 0, 5, .inl (fun _ => 0))), (q4, .inl (cy 5, 2, .inr (.inr (.inr (.inr (fun i => if i < 2 then some (q4 + 1 + i) else none)))))), (q4 + 1, .inl (cy 0, 24, .inl (fun _ => 0))), (q4 + 2, .inl (cy 0, 24, .inl (fun _ => 0))), (q5, .inl (cy 4, 5, .inr (.inr (.inr (.inr f_6))))), (q6, .inr (6, [.int 0, .int 0, .int 0, .int 0, .int 0])), (q8, .inr (6, [.int 0, .int 0, .int 0, .int 0, .int 0])), (q10, .inr (6, [.int 0, .int 0, .int 0, .int 0, .int 0])), (q12, .inr (6, [.int 0, .int 0, .int 0, .int 0, .int 0]))] := ⟨hP, hD⟩
  refine W.widen (k := 13) (n := 91) (by omega) (by omega) ?_
  refine lv_dup hx hb dX0_init_62 rfl ?_
  refine yc_v (wc := [(q12, .inr (6, [.int 0, .int 0, .int 0, .int 0, .int 0]))]) (wr := [(h0, .inr (0, [.int 0, .int 0, .int 0, .int 0, .int 0, .int 0, .ref q1, .ref q2, .ref q3, .ref q4, .ref q5])), (q1, .inl (cy 0, 2, .inl (fun _ => 0))), (q2, .inl (cy 0, 2, .inl (fun _ => 0))), (q3, .inl (cy 5, 2, .inr (.inr (.inr (.inr (fun i => if i < 2 then some (q3 + 1 + i) else none)))))), (q3 + 1, .inl (cy 0, 5, .inl (fun _ => 0))), (q3 + 2, .inl (cy 0, 5, .inl (fun _ => 0))), (q4, .inl (cy 5, 2, .inr (.inr (.inr (.inr (fun i => if i < 2 then some (q4 + 1 + i) else none)))))), (q4 + 1, .inl (cy 0, 24, .inl (fun _ => 0))), (q4 + 2, .inl (cy 0, 24, .inl (fun _ => 0))), (q5, .inl (cy 4, 5, .inr (.inr (.inr (.inr f_6))))), (q6, .inr (6, [.int 0, .int 0, .int 0, .int 0, .int 0])), (q8, .inr (6, [.int 0, .int 0, .int 0, .int 0, .int 0])), (q10, .inr (6, [.int 0, .int 0, .int 0, .int 0, .int 0]))]) (w1 := fun _ => [(q12, .inr (6, [.int 0, .int 0, .int 0, .int 0, .int 0]))]) hP hD hS hA [13] [0, 1, 2, 3, 4, 5, 6, 7, 8, 9, 10, 11, 12] rfl rfl (by decide) (by decide) (va_runIN (As := []) (rest := [.ref q12, .int 3, .ref q5]) ⟨hx, hb, hml, hown, hts⟩ (c_X6_init l dC dI cy _ q12) ⟨va_cnB 0 hts gX0_init_X6_init_n32 rfl rfl rfl hE.2.2.1 (hts (.initialized RX6) fwX0_init_13) (by decide +kernel) ⟨Nat.le_of_ble_eq_true rfl, Nat.le_of_ble_eq_true rfl⟩, rfl, (hts (.instanceMethod yX6_init) fwX0_init_14)⟩ (ex_preS hE hK hP hD [13] (by decide) rfl) rfl rfl hl.1 rfl (lv_room (Nat.le_of_ble_eq_true rfl)) dX0_init_63 ⟨Nat.le_of_ble_eq_true rfl, Nat.le_of_ble_eq_true rfl⟩) (fun u_7 H locs hw_7 hP hD hS => ?_)
  obtain ⟨hP, hD⟩ : (fun w : va_W => va_P (dC, dI) vwCl w H ∧ va_D A w) [(h0, .inr (0, [.int 0, .int 0, .int 0, .int 0, .int 0, .int 0, .ref q1, .ref q2, .ref q3, .ref q4, .ref q5])), (q1, .inl (cy 0, 2, .inl (fun _ => 0))), (q2, .inl (cy 0, 2, .inl (fun _ => 0))), (q3, .inl (cy 5, 2, .inr (.inr (.inr (.inr (fun i => if i < 2 then some (q3 + 1 + i) else none)))))), (q3 + 1, .inl (cy 0, 5, .inl (fun _ => 0))), (q3 + 2, .inl (cy 0, 5, .inl (fun _ => 0))), (q4, .inl (cy 5, 2, .inr (.inr (.inr (.inr (fun i => if i < 2 then some (q4 + 1 + i) else none)))))), (q4 + 1, .inl (cy 0, 24, .inl (fun _ => 0))), (q4 + 2, .inl (cy 0, 24, .inl (fun _ => 0))), (q5, .inl (cy 4, 5, .inr (.inr (.inr (.inr f_6))))), (q6, .inr (6, [.int 0, .int 0, .int 0, .int 0, .int 0])), (q8, .inr (6, [.int 0, .int 0, .int 0, .int 0, .int 0])), (q10, .inr (6, [.int 0, .int 0, .int 0, .int 0, .int 0])), (q12, .inr (6, [.int 0, .int 0, .int 0, .int 0, .int 0]))] := ⟨hP, hD⟩
  refine va_astq hx hb hK hP hD hS 9 4 13 6 rfl rfl rfl rfl (by unfold vp_in; decide) dX0_init_66 (fun H locs hP hD hS => ?_)
  obtain ⟨f_8, ef_8⟩ : ∃ f9 : Nat → Option Nat, f9 = va_up f_6 (3 : Int32).toNatClampNeg (some q12) := ⟨_, rfl⟩
  rw [← ef_8] at hP hD
  obtain ⟨hP, hD⟩ : (fun w : va_W => va_P (dC, dI) vwCl w H ∧ va_D A w) [(h0, .inr (0, [.int 0, .int 0, .int 0, .int 0, .int 0, .int 0, .ref q1, .ref q2, .ref q3, .ref q4, .ref q5])), (q1, .inl (cy 0, 2, .inl (fun _ => 0))), (q2, .inl (cy 0, 2, .inl (fun _ => 0))), (q3, .inl (cy 5, 2, .inr (.inr (.inr (.inr (fun i => if i < 2 then some (q3 + 1 + i) else none)))))), (q3 + 1, .inl (cy 0, 5, .inl (fun _ => 0))), (q3 + 2, .inl (cy 0, 5, .inl (fun _ => 0))), (q4, .inl (cy 5, 2, .inr (.inr (.inr (.inr (fun i => if i < 2 then some (q4 + 1 + i) else none)))))), (q4 + 1, .inl (cy 0, 24, .inl (fun _ => 0))), (q4 + 2, .inl (cy 0, 24, .inl (fun _ => 0))), (q5, .inl (cy 4, 5, .inr (.inr (.inr (.inr f_8))))), (q6, .inr (6, [.int 0, .int 0, .int 0, .int 0, .int 0])), (q8, .inr (6, [.int 0, .int 0, .int 0, .int 0, .int 0])), (q10, .inr (6, [.int 0, .int 0, .int 0, .int 0, .int 0])), (q12, .inr (6, [.int 0, .int 0, .int 0, .int 0, .int 0]))] := ⟨hP, hD⟩
  refine lv_iinc (v := 4) (lv' := [(1, .int 4), (0, .ref h0)]) hx hb dX0_init_67 hl (k := 0) rfl (by decide) (by decide) rfl (fun ls hl => ?_)
  refine lv_goto (tgt := 49) hx hb dX0_init_70 (by decide) ?_
  refine lv_iload_n hx hb dX0_init_49 rfl (lv_at hl 0 rfl) ?_
  refine lv_iconst (v := 5) hx hb dX0_init_50 (by decide) ?_
  refine lv_icmp_ge (tgt := 73) hx hb dX0_init_51 (by decide) (fun c9 => absurd c9 (by decide)) (fun _ => ?_)
  refine lv_aload_n hx hb dX0_init_54 rfl (lv_at hl 1 rfl) ?_
  refine va_get (D := (dC, dI)) (ci := 0) (v := .ref q5) (C := RX0) (T := TX0) (N := 11) hx hb hts iwX0_init_X0 hown hK hP 0 rfl rfl 10 (by decide) (hts (.fieldLink RX0 28 "QuietStairs$Case" "terms" "[LQuietStairs$Term;") fwX0_init_11) (fun _ h9 => h9) rfl dX0_init_55 ?_
  refine lv_iload_n hx hb dX0_init_58 rfl (lv_at hl 0 rfl) ?_
  refine va_new (ci := 6) (fs := [.int 0, .int 0, .int 0, .int 0, .int 0]) (C := RX6) (T := TX6) (N := 5) hx hb hts iwX0_init_X6 tyX6 tyX6_ok hown (hts (.classLink RX0 26 RX6) fwX0_init_10) (hts (.instantiable RX6 5) fwX0_init_12) (hts (.initialized RX6) fwX0_init_13) hK hP hD hS hA rfl (fun j hj => by rcases (show j = 0 ∨ j = 1 ∨ j = 2 ∨ j = 3 ∨ j = 4 by omega) with rfl | rfl | rfl | rfl | rfl <;> rfl) (Nat.le_of_ble_eq_true rfl) (Nat.le_of_ble_eq_true rfl) dX0_init_59 (fun q14 H hP hD hS => ?_)
  obtain ⟨hP, hD⟩ : (fun w : va_W => va_P (dC, dI) vwCl w H ∧ va_D A w) [(h0, .inr (0, [.int 0, .int 0, .int 0, .int 0, .int 0, .int 0, .ref q1, .ref q2, .ref q3, .ref q4, .ref q5])), (q1, .inl (cy 0, 2, .inl (fun _ => 0))), (q2, .inl (cy 0, 2, .inl (fun _ => 0))), (q3, .inl (cy 5, 2, .inr (.inr (.inr (.inr (fun i => if i < 2 then some (q3 + 1 + i) else none)))))), (q3 + 1, .inl (cy 0, 5, .inl (fun _ => 0))), (q3 + 2, .inl (cy 0, 5, .inl (fun _ => 0))), (q4, .inl (cy 5, 2, .inr (.inr (.inr (.inr (fun i => if i < 2 then some (q4 + 1 + i) else none)))))), (q4 + 1, .inl (cy 0, 24, .inl (fun _ => 0))), (q4 + 2, .inl (cy 0, 24, .inl (fun _ => 0))), (q5, .inl (cy 4, 5, .inr (.inr (.inr (.inr f_8))))), (q6, .inr (6, [.int 0, .int 0, .int 0, .int 0, .int 0])), (q8, .inr (6, [.int 0, .int 0, .int 0, .int 0, .int 0])), (q10, .inr (6, [.int 0, .int 0, .int 0, .int 0, .int 0])), (q12, .inr (6, [.int 0, .int 0, .int 0, .int 0, .int 0])), (q14, .inr (6, [.int 0, .int 0, .int 0, .int 0, .int 0]))] := ⟨hP, hD⟩
  refine W.widen (k := 14) (n := 96) (by omega) (by omega) ?_
  refine lv_dup hx hb dX0_init_62 rfl ?_
  refine yc_v (wc := [(q14, .inr (6, [.int 0, .int 0, .int 0, .int 0, .int 0]))]) (wr := [(h0, .inr (0, [.int 0, .int 0, .int 0, .int 0, .int 0, .int 0, .ref q1, .ref q2, .ref q3, .ref q4, .ref q5])), (q1, .inl (cy 0, 2, .inl (fun _ => 0))), (q2, .inl (cy 0, 2, .inl (fun _ => 0))), (q3, .inl (cy 5, 2, .inr (.inr (.inr (.inr (fun i => if i < 2 then some (q3 + 1 + i) else none)))))), (q3 + 1, .inl (cy 0, 5, .inl (fun _ => 0))), (q3 + 2, .inl (cy 0, 5, .inl (fun _ => 0))), (q4, .inl (cy 5, 2, .inr (.inr (.inr (.inr (fun i => if i < 2 then some (q4 + 1 + i) else none)))))), (q4 + 1, .inl (cy 0, 24, .inl (fun _ => 0))), (q4 + 2, .inl (cy 0, 24, .inl (fun _ => 0))), (q5, .inl (cy 4, 5, .inr (.inr (.inr (.inr f_8))))), (q6, .inr (6, [.int 0, .int 0, .int 0, .int 0, .int 0])), (q8, .inr (6, [.int 0, .int 0, .int 0, .int 0, .int 0])), (q10, .inr (6, [.int 0, .int 0, .int 0, .int 0, .int 0])), (q12, .inr (6, [.int 0, .int 0, .int 0, .int 0, .int 0]))]) (w1 := fun _ => [(q14, .inr (6, [.int 0, .int 0, .int 0, .int 0, .int 0]))]) hP hD hS hA [14] [0, 1, 2, 3, 4, 5, 6, 7, 8, 9, 10, 11, 12, 13] rfl rfl (by decide) (by decide) (va_runIN (As := []) (rest := [.ref q14, .int 4, .ref q5]) ⟨hx, hb, hml, hown, hts⟩ (c_X6_init l dC dI cy _ q14) ⟨va_cnB 0 hts gX0_init_X6_init_n32 rfl rfl rfl hE.2.2.1 (hts (.initialized RX6) fwX0_init_13) (by decide +kernel) ⟨Nat.le_of_ble_eq_true rfl, Nat.le_of_ble_eq_true rfl⟩, rfl, (hts (.instanceMethod yX6_init) fwX0_init_14)⟩ (ex_preS hE hK hP hD [14] (by decide) rfl) rfl rfl hl.1 rfl (lv_room (Nat.le_of_ble_eq_true rfl)) dX0_init_63 ⟨Nat.le_of_ble_eq_true rfl, Nat.le_of_ble_eq_true rfl⟩) (fun u_9 H locs hw_9 hP hD hS => ?_)
  obtain ⟨hP, hD⟩ : (fun w : va_W => va_P (dC, dI) vwCl w H ∧ va_D A w) [(h0, .inr (0, [.int 0, .int 0, .int 0, .int 0, .int 0, .int 0, .ref q1, .ref q2, .ref q3, .ref q4, .ref q5])), (q1, .inl (cy 0, 2, .inl (fun _ => 0))), (q2, .inl (cy 0, 2, .inl (fun _ => 0))), (q3, .inl (cy 5, 2, .inr (.inr (.inr (.inr (fun i => if i < 2 then some (q3 + 1 + i) else none)))))), (q3 + 1, .inl (cy 0, 5, .inl (fun _ => 0))), (q3 + 2, .inl (cy 0, 5, .inl (fun _ => 0))), (q4, .inl (cy 5, 2, .inr (.inr (.inr (.inr (fun i => if i < 2 then some (q4 + 1 + i) else none)))))), (q4 + 1, .inl (cy 0, 24, .inl (fun _ => 0))), (q4 + 2, .inl (cy 0, 24, .inl (fun _ => 0))), (q5, .inl (cy 4, 5, .inr (.inr (.inr (.inr f_8))))), (q6, .inr (6, [.int 0, .int 0, .int 0, .int 0, .int 0])), (q8, .inr (6, [.int 0, .int 0, .int 0, .int 0, .int 0])), (q10, .inr (6, [.int 0, .int 0, .int 0, .int 0, .int 0])), (q12, .inr (6, [.int 0, .int 0, .int 0, .int 0, .int 0])), (q14, .inr (6, [.int 0, .int 0, .int 0, .int 0, .int 0]))] := ⟨hP, hD⟩
  refine va_astq hx hb hK hP hD hS 9 4 14 6 rfl rfl rfl rfl (by unfold vp_in; decide) dX0_init_66 (fun H locs hP hD hS => ?_)
  obtain ⟨f_10, ef_10⟩ : ∃ f9 : Nat → Option Nat, f9 = va_up f_8 (4 : Int32).toNatClampNeg (some q14) := ⟨_, rfl⟩
  rw [← ef_10] at hP hD
  obtain ⟨hP, hD⟩ : (fun w : va_W => va_P (dC, dI) vwCl w H ∧ va_D A w) [(h0, .inr (0, [.int 0, .int 0, .int 0, .int 0, .int 0, .int 0, .ref q1, .ref q2, .ref q3, .ref q4, .ref q5])), (q1, .inl (cy 0, 2, .inl (fun _ => 0))), (q2, .inl (cy 0, 2, .inl (fun _ => 0))), (q3, .inl (cy 5, 2, .inr (.inr (.inr (.inr (fun i => if i < 2 then some (q3 + 1 + i) else none)))))), (q3 + 1, .inl (cy 0, 5, .inl (fun _ => 0))), (q3 + 2, .inl (cy 0, 5, .inl (fun _ => 0))), (q4, .inl (cy 5, 2, .inr (.inr (.inr (.inr (fun i => if i < 2 then some (q4 + 1 + i) else none)))))), (q4 + 1, .inl (cy 0, 24, .inl (fun _ => 0))), (q4 + 2, .inl (cy 0, 24, .inl (fun _ => 0))), (q5, .inl (cy 4, 5, .inr (.inr (.inr (.inr f_10))))), (q6, .inr (6, [.int 0, .int 0, .int 0, .int 0, .int 0])), (q8, .inr (6, [.int 0, .int 0, .int 0, .int 0, .int 0])), (q10, .inr (6, [.int 0, .int 0, .int 0, .int 0, .int 0])), (q12, .inr (6, [.int 0, .int 0, .int 0, .int 0, .int 0])), (q14, .inr (6, [.int 0, .int 0, .int 0, .int 0, .int 0]))] := ⟨hP, hD⟩
  refine lv_iinc (v := 5) (lv' := [(1, .int 5), (0, .ref h0)]) hx hb dX0_init_67 hl (k := 0) rfl (by decide) (by decide) rfl (fun ls hl => ?_)
  refine lv_goto (tgt := 49) hx hb dX0_init_70 (by decide) ?_
  refine lv_iload_n hx hb dX0_init_49 rfl (lv_at hl 0 rfl) ?_
  refine lv_iconst (v := 5) hx hb dX0_init_50 (by decide) ?_
  refine lv_icmp_ge (tgt := 73) hx hb dX0_init_51 (by decide) (fun _ => ?_) (fun c9 => absurd c9 (by decide))
  have z0 : ∀ j, j < 0 → (fun _ => none : Nat → Option Nat) j = some ((fun j => (fun k => ([h0, q1, q2, q3, q3 + 1, q3 + 2, q4, q4 + 1, q4 + 2, q5, q6, q8, q10, q12, q14] : List Nat).getD k 0) (10 + j)) j) := fun j h => absurd h (Nat.not_lt_zero j)
  have y0 : ∀ j, 5 ≤ j → (fun _ => none : Nat → Option Nat) j = none := fun _ _ => rfl
  have z1 := up_s (i := 0) (U := fun j => (fun k => ([h0, q1, q2, q3, q3 + 1, q3 + 2, q4, q4 + 1, q4 + 2, q5, q6, q8, q10, q12, q14] : List Nat).getD k 0) (10 + j)) ef_2 (by decide) z0 rfl
  have y1 := up_n (n := 5) ef_2 (by decide) y0
  have z2 := up_s (i := 1) (U := fun j => (fun k => ([h0, q1, q2, q3, q3 + 1, q3 + 2, q4, q4 + 1, q4 + 2, q5, q6, q8, q10, q12, q14] : List Nat).getD k 0) (10 + j)) ef_4 (by decide) z1 rfl
  have y2 := up_n (n := 5) ef_4 (by decide) y1
  have z3 := up_s (i := 2) (U := fun j => (fun k => ([h0, q1, q2, q3, q3 + 1, q3 + 2, q4, q4 + 1, q4 + 2, q5, q6, q8, q10, q12, q14] : List Nat).getD k 0) (10 + j)) ef_6 (by decide) z2 rfl
  have y3 := up_n (n := 5) ef_6 (by decide) y2
  have z4 := up_s (i := 3) (U := fun j => (fun k => ([h0, q1, q2, q3, q3 + 1, q3 + 2, q4, q4 + 1, q4 + 2, q5, q6, q8, q10, q12, q14] : List Nat).getD k 0) (10 + j)) ef_8 (by decide) z3 rfl
  have y4 := up_n (n := 5) ef_8 (by decide) y3
  have z5 := up_s (i := 4) (U := fun j => (fun k => ([h0, q1, q2, q3, q3 + 1, q3 + 2, q4, q4 + 1, q4 + 2, q5, q6, q8, q10, q12, q14] : List Nat).getD k 0) (10 + j)) ef_10 (by decide) z4 rfl
  have y5 := up_n (n := 5) ef_10 (by decide) y4
  have wf_10 := up_e z5 y5
  rw [wf_10] at hP hD
  have gq3 : (fun i => if i < 2 then some (q3 + 1 + i) else none : Nat → Option Nat) = fun i => if i < 2 then some ((fun k => ([h0, q1, q2, q3, q3 + 1, q3 + 2, q4, q4 + 1, q4 + 2, q5, q6, q8, q10, q12, q14] : List Nat).getD k 0) (4 + i)) else none := by
    funext i
    by_cases h : i < 2
    · rcases (show i = 0 ∨ i = 1 by omega) with rfl | rfl <;> rfl
    · rw [if_neg h, if_neg h]
  rw [gq3] at hP hD
  have gq4 : (fun i => if i < 2 then some (q4 + 1 + i) else none : Nat → Option Nat) = fun i => if i < 2 then some ((fun k => ([h0, q1, q2, q3, q3 + 1, q3 + 2, q4, q4 + 1, q4 + 2, q5, q6, q8, q10, q12, q14] : List Nat).getD k 0) (7 + i)) else none := by
    funext i
    by_cases h : i < 2
    · rcases (show i = 0 ∨ i = 1 by omega) with rfl | rfl <;> rfl
    · rw [if_neg h, if_neg h]
  rw [gq4] at hP hD
  have hP9 := hP.sub (ws' := (fun u : Nat → Nat => ([(u 0, .inr (0, [.int 0, .int 0, .int 0, .int 0, .int 0, .int 0, .ref (u 1), .ref (u 2), .ref (u 3), .ref (u 6), .ref (u 9)])), (u 1, .inl (cy 0, 2, .inl (fun _ => 0))), (u 2, .inl (cy 0, 2, .inl (fun _ => 0))), (u 3, .inl (cy 5, 2, .inr (.inr (.inr (.inr (fun i => if i < 2 then some (u (4 + i)) else none)))))), (u 4, .inl (cy 0, 5, .inl (fun _ => 0))), (u 5, .inl (cy 0, 5, .inl (fun _ => 0))), (u 6, .inl (cy 5, 2, .inr (.inr (.inr (.inr (fun i => if i < 2 then some (u (7 + i)) else none)))))), (u 7, .inl (cy 0, 24, .inl (fun _ => 0))), (u 8, .inl (cy 0, 24, .inl (fun _ => 0))), (u 9, .inl (cy 4, 5, .inr (.inr (.inr (.inr (fun i => if i < 5 then some (u (10 + i)) else none)))))), (u 10, .inr (6, [.int 0, .int 0, .int 0, .int 0, .int 0])), (u 11, .inr (6, [.int 0, .int 0, .int 0, .int 0, .int 0])), (u 12, .inr (6, [.int 0, .int 0, .int 0, .int 0, .int 0])), (u 13, .inr (6, [.int 0, .int 0, .int 0, .int 0, .int 0])), (u 14, .inr (6, [.int 0, .int 0, .int 0, .int 0, .int 0]))] : va_W)) (fun k => ([h0, q1, q2, q3, q3 + 1, q3 + 2, q4, q4 + 1, q4 + 2, q5, q6, q8, q10, q12, q14] : List Nat).getD k 0)) [0, 1, 2, 3, 4, 5, 6, 7, 8, 9, 10, 11, 12, 13, 14] rfl
  have hD9 := hD.sub (ws' := (fun u : Nat → Nat => ([(u 0, .inr (0, [.int 0, .int 0, .int 0, .int 0, .int 0, .int 0, .ref (u 1), .ref (u 2), .ref (u 3), .ref (u 6), .ref (u 9)])), (u 1, .inl (cy 0, 2, .inl (fun _ => 0))), (u 2, .inl (cy 0, 2, .inl (fun _ => 0))), (u 3, .inl (cy 5, 2, .inr (.inr (.inr (.inr (fun i => if i < 2 then some (u (4 + i)) else none)))))), (u 4, .inl (cy 0, 5, .inl (fun _ => 0))), (u 5, .inl (cy 0, 5, .inl (fun _ => 0))), (u 6, .inl (cy 5, 2, .inr (.inr (.inr (.inr (fun i => if i < 2 then some (u (7 + i)) else none)))))), (u 7, .inl (cy 0, 24, .inl (fun _ => 0))), (u 8, .inl (cy 0, 24, .inl (fun _ => 0))), (u 9, .inl (cy 4, 5, .inr (.inr (.inr (.inr (fun i => if i < 5 then some (u (10 + i)) else none)))))), (u 10, .inr (6, [.int 0, .int 0, .int 0, .int 0, .int 0])), (u 11, .inr (6, [.int 0, .int 0, .int 0, .int 0, .int 0])), (u 12, .inr (6, [.int 0, .int 0, .int 0, .int 0, .int 0])), (u 13, .inr (6, [.int 0, .int 0, .int 0, .int 0, .int 0])), (u 14, .inr (6, [.int 0, .int 0, .int 0, .int 0, .int 0]))] : va_W)) (fun k => ([h0, q1, q2, q3, q3 + 1, q3 + 2, q4, q4 + 1, q4 + 2, q5, q6, q8, q10, q12, q14] : List Nat).getD k 0)) [0, 1, 2, 3, 4, 5, 6, 7, 8, 9, 10, 11, 12, 13, 14] (by decide) rfl
  exact W.vret hx hb hr (fun t ht hW => ⟨⟨(fun k => ([h0, q1, q2, q3, q3 + 1, q3 + 2, q4, q4 + 1, q4 + 2, q5, q6, q8, q10, q12, q14] : List Nat).getD k 0), rfl, rfl, by rw [ht]; exact hP9, hD9⟩, hS.F ht⟩) hS.2.2 dX0_init_73
