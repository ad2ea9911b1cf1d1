theorem dX1_hasPair_0 : decode cX1_hasPair 0 = .ok (.getstatic 32, 3) := by decide +kernel
theorem dX1_hasPair_3 : decode cX1_hasPair 3 = .ok (.iload_n 1, 1) := by decide +kernel
theorem dX1_hasPair_4 : decode cX1_hasPair 4 = .ok (.iaload, 1) := by decide +kernel
theorem dX1_hasPair_5 : decode cX1_hasPair 5 = .ok (.aload_n 0, 1) := by decide +kernel
theorem dX1_hasPair_6 : decode cX1_hasPair 6 = .ok (.getfield 36, 3) := by decide +kernel
theorem dX1_hasPair_9 : decode cX1_hasPair 9 = .ok (.if_icmp .ge 7, 3) := by decide +kernel
theorem dX1_hasPair_16 : decode cX1_hasPair 16 = .ok (.iconst 0, 1) := by decide +kernel
theorem dX1_hasPair_17 : decode cX1_hasPair 17 = .ok (.ireturn, 1) := by decide +kernel
theorem dX7_maySit_0 : decode cX7_maySit 0 = .ok (.iload_n 1, 1) := by decide +kernel
theorem dX7_maySit_1 : decode cX7_maySit 1 = .ok (.iconst 0, 1) := by decide +kernel
theorem dX7_maySit_2 : decode cX7_maySit 2 = .ok (.iconst 5, 1) := by decide +kernel
set_option maxRecDepth 20000 in
theorem ggX7_maySit_X7_isWithin : GoodIn wsX7_maySit wsX7_isWithin := goodIn_r _ [6] (by decide +kernel) (by decide +kernel)
set_option maxRecDepth 20000 in
theorem gX7_maySit_X7_isWithin : GoodIn wsX7_maySit (va_wsS RX7 37 yX7_isWithin wsX7_isWithin) := goodIn_app (goodIn_of _ (by decide +kernel)) ggX7_maySit_X7_isWithin
theorem dX7_maySit_3 : decode cX7_maySit 3 = .ok (.invokestatic 37, 3) := by decide +kernel
theorem dX7_maySit_6 : decode cX7_maySit 6 = .ok (.ifCond .eq 22, 3) := by decide +kernel
theorem dX7_maySit_9 : decode cX7_maySit 9 = .ok (.aload_n 0, 1) := by decide +kernel
theorem dX7_maySit_10 : decode cX7_maySit 10 = .ok (.getfield 12, 3) := by decide +kernel
theorem dX7_maySit_13 : decode cX7_maySit 13 = .ok (.iload_n 1, 1) := by decide +kernel
set_option maxRecDepth 20000 in
theorem ggX7_maySit_X1_hasPair : GoodIn wsX7_maySit wsX1_hasPair := goodIn_r _ [11, 12, 41, 42, 43, 44, 45, 46, 47] (by decide +kernel) (by decide +kernel)
set_option maxRecDepth 20000 in
theorem gX7_maySit_X1_hasPair : GoodIn wsX7_maySit (wsV RX7 149 RX1 yX1_hasPair wsX1_hasPair) := goodIn_app (goodIn_of _ (by decide +kernel)) ggX7_maySit_X1_hasPair
theorem dX7_maySit_14 : decode cX7_maySit 14 = .ok (.invokevirtual 149, 3) := by decide +kernel
theorem dX7_maySit_17 : decode cX7_maySit 17 = .ok (.ifCond .eq 11, 3) := by decide +kernel
theorem dX7_maySit_28 : decode cX7_maySit 28 = .ok (.iconst (-1), 1) := by decide +kernel
theorem dX7_maySit_29 : decode cX7_maySit 29 = .ok (.ireturn, 1) := by decide +kernel
def st_v (j : Nat) : Int32 := match j with
  | 0 => 1
  | 1 => 2
  | 2 => 3
  | 3 => 2
  | 4 => 3
  | 5 => 3
  | _ => 0
theorem st_pos (j : Nat) : (0 : Int32) ≤ st_v j := by
  match j with
  | 0 => decide
  | 1 => decide
  | 2 => decide
  | 3 => decide
  | 4 => decide
  | 5 => decide
  | n + 6 => exact (by decide : (0 : Int32) ≤ 0)
/-- OTHER_OF_PAIR: the static array that nobody writes -/
def ex_St (t : Nat) (A : Nat → Prop) (U : State) : Prop := va_Nw (.fieldLinkNest RX1 32 RX7 "OTHER_OF_PAIR" "[I" RX7) U ∧ va_Z RX7 "OTHER_OF_PAIR" "[I" (.ref t) A U U.heap ∧ va_T .int t 6 (fun j => .int (st_v j)) A U U.heap
theorem ex_St.go {t : Nat} {A A' : Nat → Prop} {s U : State} {H : Heap} {locs : List Loc} (h : ex_St t A s) (hS : va_S A s.heap H locs) (hF : ∀ q, A' q → A q) (hU : U.heap = H) (hW : s.WarmedH U.vm) : ex_St t A' U := by
  obtain ⟨h1, h2, h3⟩ := h
  refine ⟨h1.warmF hW, ?_, ?_⟩
  · rw [hU]
    exact ((h2.kept (fun a q1 q2 => hS.2.1 a q1 q2)).narrow hF).moved hW.alike
  · rw [hU]
    exact ((h3.kept (fun a q1 q2 => hS.2.1 a q1 q2)).narrow hF).moved hW.alike
abbrev ex_PreT (dC : Nat → ClassId) (dI : Nat → Nat → Nat) (cy : Nat → ClassId) (sz : Nat) (ws : va_W) (t : Nat) (U : State) : Prop := ex_Pre dC dI cy sz ws U ∧ ex_St t (va_A ws sz) U
theorem ex_blindT {dC : Nat → ClassId} {dI : Nat → Nat → Nat} {cy : Nat → ClassId} {sz t : Nat} {ws : va_W} {av : List Value} : FrameBlind (va_Pc av (ex_PreT dC dI cy sz ws t)) := fun a U g mk q => by
  obtain ⟨q0, q1, h1, h2, h3⟩ := q
  exact ⟨q0, (ex_blind (av := av) a U g mk ⟨q0, q1⟩).2, h1.same rfl rfl, va_Z.moved (u := U) (U := U.calling g mk a) (Vm.Alike.refl U.vm) h2, va_T.moved (u := U) (U := U.calling g mk a) (Vm.Alike.refl U.vm) h3⟩
theorem wi_in {x b : Int32} {n : Nat} (hb : b.toInt + 1 = n) (h : 0 ≤ x ∧ x ≤ b) : vp_in x n := by
  obtain ⟨h1, h2⟩ := h
  rw [Int32.le_iff_toInt_le] at h1 h2
  have a1 : (0 : Int32).toInt = 0 := by decide
  exact vp_in_iff.mpr ⟨by omega, by omega⟩

set_option maxHeartbeats 4000000 in
set_option maxRecDepth 100000 in
theorem c0_X1_hasPair (l : Launch) (dC : Nat → ClassId) (dI : Nat → Nat → Nat) (cy : Nat → ClassId) (sz : Nat) (h1 h4 h5 h6 : Nat) (t0 : Nat) (x : Int32) (h6x : vp_in x 6) : Met l yX1_hasPair wsX1_hasPair ({ frames := 0, cells := 0, slots := 0, locals := 0 }) (va_Pc [.ref h1, .int x] (ex_PreT dC dI cy sz [(h1, .inr (1, [.int 0, .int 0, .int 0, .int 0, .ref h4, .ref h5, .ref h6]))] t0)) (va_Qi (fun (r : Int32) (u : Unit) => r = 0) (fun u t => ex_Pst dC dI (va_A [(h1, .inr (1, [.int 0, .int 0, .int 0, .int 0, .ref h4, .ref h5, .ref h6]))] sz) ([]) t) (va_A [(h1, .inr (1, [.int 0, .int 0, .int 0, .int 0, .ref h4, .ref h5, .ref h6]))] sz)) 0 0 (va_A [(h1, .inr (1, [.int 0, .int 0, .int 0, .int 0, .ref h4, .ref h5, .ref h6]))] sz) := by
  refine Met.ofW (cc := cX1_hasPair) (maxL := 2) (ret := (some .boolean)) (by decide) rfl ?_
  intro p e s m args below meth c s₁ B hml hv
  obtain ⟨rfl, ⟨hsz, hE, hP, hK, hD0⟩, hSt⟩ := hv
  have hx := B.exec
  have hb := B.bytes
  have hr := B.returns
  have hts := atoms_spec (ws := wsX1_hasPair) B.pre
  have hown : s.vm.findClass RX1 = some m.cls := findClass_of_methodNamed B.named
  have hlocks := B.notSynchronized
  subst hsz
  have hD := hD0.self (sz := s.heap.size)
  generalize hAe : va_A [(h1, .inr (1, [.int 0, .int 0, .int 0, .int 0, .ref h4, .ref h5, .ref h6]))] s.heap.size = A at hD hSt ⊢
  have hA : ∀ q : Nat, s.heap.size ≤ q → A q := fun q h => by rw [← hAe]; exact Or.inr h
  have hS : va_S A s.heap s.heap [] := va_S.rf
  have hP : va_P (dC, dI) vwCl [(h1, .inr (1, [.int 0, .int 0, .int 0, .int 0, .ref h4, .ref h5, .ref h6]))] s.heap := hP
  have hl := lv_entry ([.ref h1, .int x]) (n := 2) (Nat.le_of_ble_eq_true rfl)
  rw [lg_entry_eq]
  generalize (lg_sl ([.ref h1, .int x]) ++ List.replicate (2 - (lg_sl ([.ref h1, .int x])).length) Slot.unset).toArray = ls at hl ⊢
  have hl : lv_has ls 2 [(0, .ref h1), (1, .int x)] := hl
  refine va_getsN hx hb hSt.2.1 hS hown (va_Nw.use rfl hSt.1) (fun _ h => h) dX1_hasPair_0 ?_
  refine lv_iload_n hx hb dX1_hasPair_3 rfl (lv_at hl 1 rfl) ?_
  refine va_ti (v := .int (st_v x.toNatClampNeg)) hx hb hSt.2.2 hS h6x rfl dX1_hasPair_4 ?_
  refine lv_topi (fun x_1 ex_1 => ?_)
  refine lv_aload_n hx hb dX1_hasPair_5 rfl (lv_at hl 0 rfl) ?_
  refine va_get (D := (dC, dI)) (ci := 1) (v := .int 0) (C := RX1) (T := TX1) (N := 7) hx hb hts (by decide +kernel) hown hK hP 0 rfl rfl 1 (by decide) (hts (.fieldLink RX1 36 "QuietStairs$House" "mediatorCount" "I") (by decide +kernel)) (fun _ h9 => h9) rfl dX1_hasPair_6 ?_
  refine lv_icmp_ge (tgt := 16) hx hb dX1_hasPair_9 (by decide) (fun c_2 => ?_) (fun c_2 => ?_)
  · refine lv_iconst (v := 0) hx hb dX1_hasPair_16 (by decide) ?_
    have hP9 := hP.sub (ws' := []) [] rfl
    have hD9 := hD.sub (ws' := []) [] (by decide) rfl
    exact W.zret (ty := .boolean) (v := 0) hx hb hr rfl (fun t ht hW => ⟨⟨0, (), rfl, rfl, by rw [ht]; exact hP9, hD9⟩, hS.F ht⟩) hS.2.2 dX1_hasPair_17
  · exact absurd (by rw [ex_1]; exact st_pos _) c_2

set_option maxHeartbeats 4000000 in
set_option maxRecDepth 100000 in
theorem c0_X7_maySit (l : Launch) (dC : Nat → ClassId) (dI : Nat → Nat → Nat) (cy : Nat → ClassId) (sz : Nat) (h0 h1 h2 h3 h4 h5 h6 : Nat) (t0 : Nat) (x y : Int32) : Met l yX7_maySit wsX7_maySit ({ frames := 1, cells := 0, slots := 0, locals := 64 }) (va_Pc [.ref h0, .int x, .int y] (ex_PreT dC dI cy sz [(h0, .inr (7, [.ref h1, .ref h2, .ref h3, .null, .int 1])), (h1, .inr (1, [.int 0, .int 0, .int 0, .int 0, .ref h4, .ref h5, .ref h6]))] t0)) (va_Qi (fun (r : Int32) (u : Unit) => r = -1) (fun u t => ex_Pst dC dI (va_A [(h0, .inr (7, [.ref h1, .ref h2, .ref h3, .null, .int 1])), (h1, .inr (1, [.int 0, .int 0, .int 0, .int 0, .ref h4, .ref h5, .ref h6]))] sz) ([]) t) (va_A [(h0, .inr (7, [.ref h1, .ref h2, .ref h3, .null, .int 1])), (h1, .inr (1, [.int 0, .int 0, .int 0, .int 0, .ref h4, .ref h5, .ref h6]))] sz)) 0 0 (va_A [(h0, .inr (7, [.ref h1, .ref h2, .ref h3, .null, .int 1])), (h1, .inr (1, [.int 0, .int 0, .int 0, .int 0, .ref h4, .ref h5, .ref h6]))] sz) := by
  refine Met.ofW (cc := cX7_maySit) (maxL := 3) (ret := (some .int)) (by decide) rfl ?_
  intro p e s m args below meth c s₁ B hml hv
  obtain ⟨rfl, ⟨hsz, hE, hP, hK, hD0⟩, hSt⟩ := hv
  have hx := B.exec
  have hb := B.bytes
  have hr := B.returns
  have hts := atoms_spec (ws := wsX7_maySit) B.pre
  have hown : s.vm.findClass RX7 = some m.cls := findClass_of_methodNamed B.named
  have hlocks := B.notSynchronized
  subst hsz
  have hD := hD0.self (sz := s.heap.size)
  generalize hAe : va_A [(h0, .inr (7, [.ref h1, .ref h2, .ref h3, .null, .int 1])), (h1, .inr (1, [.int 0, .int 0, .int 0, .int 0, .ref h4, .ref h5, .ref h6]))] s.heap.size = A at hD hSt ⊢
  have hA : ∀ q : Nat, s.heap.size ≤ q → A q := fun q h => by rw [← hAe]; exact Or.inr h
  have hS : va_S A s.heap s.heap [] := va_S.rf
  have hP : va_P (dC, dI) vwCl [(h0, .inr (7, [.ref h1, .ref h2, .ref h3, .null, .int 1])), (h1, .inr (1, [.int 0, .int 0, .int 0, .int 0, .ref h4, .ref h5, .ref h6]))] s.heap := hP
  have hl := lv_entry ([.ref h0, .int x, .int y]) (n := 3) (Nat.le_of_ble_eq_true rfl)
  rw [lg_entry_eq]
  generalize (lg_sl ([.ref h0, .int x, .int y]) ++ List.replicate (3 - (lg_sl ([.ref h0, .int x, .int y])).length) Slot.unset).toArray = ls at hl ⊢
  have hl : lv_has ls 3 [(0, .ref h0), (1, .int x), (2, .int y)] := hl
  refine lv_iload_n hx hb dX7_maySit_0 rfl (lv_at hl 1 rfl) ?_
  refine lv_iconst (v := 0) hx hb dX7_maySit_1 (by decide) ?_
  refine lv_iconst (v := 5) hx hb dX7_maySit_2 (by decide) ?_
  refine yc_p hP hS (va_runS (As := [.int x, .int 0, .int 5]) (rest := []) ⟨hx, hb, hml, hown, hts⟩ (c_X7_isWithin l x 0 5) (cwS 3 hts gX7_maySit_X7_isWithin rfl rfl rfl (by decide +kernel) ⟨Nat.le_of_ble_eq_true rfl, Nat.le_of_ble_eq_true rfl⟩) ex_preP rfl rfl hl.1 rfl (lv_room (Nat.le_of_ble_eq_true rfl)) dX7_maySit_3 ⟨Nat.le_of_ble_eq_true rfl, Nat.le_of_ble_eq_true rfl⟩) (fun r_1 H locs hw_1 hP hS => ?_)
  rcases wi_ca hw_1 with ⟨rfl, hc⟩ | ⟨rfl, hc⟩
  · refine lv_if_eq (tgt := 28) hx hb dX7_maySit_6 (by decide) (fun c9 => absurd c9 (by decide)) (fun _ => ?_)
    refine lv_aload_n hx hb dX7_maySit_9 rfl (lv_at hl 0 rfl) ?_
    refine va_get (D := (dC, dI)) (ci := 7) (v := .ref h1) (C := RX7) (T := TX7) (N := 5) hx hb hts (by decide +kernel) hown hK hP 0 rfl rfl 0 (by decide) (hts (.fieldLink RX7 12 "QuietStairs" "now" "LQuietStairs$House;") (by decide +kernel)) (fun _ h9 => h9) rfl dX7_maySit_10 ?_
    refine lv_iload_n hx hb dX7_maySit_13 rfl (lv_at hl 1 rfl) ?_
    refine yc_i (wc := [(h1, .inr (1, [.int 0, .int 0, .int 0, .int 0, .ref h4, .ref h5, .ref h6]))]) (wr := [(h0, .inr (7, [.ref h1, .ref h2, .ref h3, .null, .int 1]))]) (w1 := fun _ => []) hP hD hS hA [1] [0] rfl rfl (by decide) (by decide) (va_runV (As := [.int x]) (rest := []) ⟨hx, hb, hml, hown, hts⟩ (c0_X1_hasPair l dC dI cy _ h1 h4 h5 h6 t0 x (wi_in (by decide) hc)) (cwV 1 hts gX7_maySit_X1_hasPair rfl rfl rfl (by decide +kernel) ⟨Nat.le_of_ble_eq_true rfl, Nat.le_of_ble_eq_true rfl⟩) ⟨ex_blindT, va_recv hK hP (ci := 1) (q0 := 1) rfl rfl, fun U hU hW => ⟨rfl, ((ex_preS (As := [.ref h1, .int x]) hE hK hP hD [1] (by decide) rfl).2 U hU hW).2, hSt.go hS (va_free hD hS hA [1] rfl) hU hW⟩⟩ rfl rfl hl.1 rfl (lv_room (Nat.le_of_ble_eq_true rfl)) dX7_maySit_14 ⟨Nat.le_of_ble_eq_true rfl, Nat.le_of_ble_eq_true rfl⟩) (fun r_2 u_2 H locs hw_2 hP hD hS => ?_)
    have hP : va_P (dC, dI) vwCl [(h0, .inr (7, [.ref h1, .ref h2, .ref h3, .null, .int 1]))] H := hP
    have hD : va_D A [(h0, .inr (7, [.ref h1, .ref h2, .ref h3, .null, .int 1]))] := hD
    subst hw_2
    refine lv_if_eq (tgt := 28) hx hb dX7_maySit_17 (by decide) (fun _ => ?_) (fun c9 => absurd c9 (by decide))
    refine lv_iconst (v := (-1)) hx hb dX7_maySit_28 (by decide) ?_
    have hP9 := hP.sub (ws' := []) [] rfl
    have hD9 := hD.sub (ws' := []) [] (by decide) rfl
    exact W.iret (v := (-1)) hx hb hr (fun t ht hW => ⟨⟨(-1), (), rfl, rfl, by rw [ht]; exact hP9, hD9⟩, hS.F ht⟩) hS.2.2 dX7_maySit_29
  · refine lv_if_eq (tgt := 28) hx hb dX7_maySit_6 (by decide) (fun _ => ?_) (fun c9 => absurd c9 (by decide))
    refine lv_iconst (v := (-1)) hx hb dX7_maySit_28 (by decide) ?_
    have hP9 := hP.sub (ws' := []) [] rfl
    have hD9 := hD.sub (ws' := []) [] (by decide) rfl
    exact W.iret (v := (-1)) hx hb hr (fun t ht hW => ⟨⟨(-1), (), rfl, rfl, by rw [ht]; exact hP9, hD9⟩, hS.F ht⟩) hS.2.2 dX7_maySit_29
